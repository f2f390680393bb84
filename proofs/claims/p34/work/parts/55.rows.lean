/-! a state as one row of 134 numbers: raw values, baselines, settings, tracks, counts -/
def cb (S : mS) (b j : Nat) : Int32 := if j < 48 then S.1 (b + 2) j else if j < 96 then S.1 (b + 3) (j - 48) else if j < 101 then S.1 (b + 4) (j - 96) else if j < 131 then S.1 (b + 6 + (j - 101) / 5) ((j - 101) % 5) else S.1 b (j - 128)
theorem cb_raw {S : mS} {b j : Nat} (h : j < 48) : cb S b j = S.1 (b + 2) j := if_pos h
theorem cb_bas {S : mS} {b j : Nat} (h : j < 48) : cb S b (48 + j) = S.1 (b + 3) j := by
  unfold cb
  rw [if_neg (by omega), if_pos (by omega), Nat.add_sub_cancel_left]
theorem cb_set {S : mS} {b q : Nat} (h : q < 5) : cb S b (96 + q) = S.1 (b + 4) q := by
  unfold cb
  rw [if_neg (by omega), if_neg (by omega), if_pos (by omega), Nat.add_sub_cancel_left]
theorem cb_trk {S : mS} {b t w : Nat} (ht : t < 6) (hw : w < 5) : cb S b (101 + 5 * t + w) = S.1 (b + 6 + t) w := by
  unfold cb
  rw [if_neg (by omega), if_neg (by omega), if_neg (by omega), if_pos (by omega), show (101 + 5 * t + w - 101) / 5 = t by omega, show (101 + 5 * t + w - 101) % 5 = w by omega]
theorem cb_cnt {S : mS} {b w : Nat} (h3 : 3 ≤ w) (h6 : w < 6) : cb S b (128 + w) = S.1 b w := by
  unfold cb
  rw [if_neg (by omega), if_neg (by omega), if_neg (by omega), if_neg (by omega), Nat.add_sub_cancel_left]
theorem cb_ext {S S' : mS} {b b' : Nat} (h1 : ∀ k, k < 48 → S.1 (b + 2) k = S'.1 (b' + 2) k) (h2 : ∀ k, k < 48 → S.1 (b + 3) k = S'.1 (b' + 3) k) (h3 : ∀ k, k < 5 → S.1 (b + 4) k = S'.1 (b' + 4) k) (h4 : ∀ j, j < 6 → ∀ k, k < 5 → S.1 (b + 6 + j) k = S'.1 (b' + 6 + j) k) (h5 : ∀ k, 3 ≤ k → k < 6 → S.1 b k = S'.1 b' k) : ∀ j, j < 134 → cb S b j = cb S' b' j := by
  intro j hj
  unfold cb
  by_cases a1 : j < 48
  · rw [if_pos a1, if_pos a1]; exact h1 j a1
  rw [if_neg a1, if_neg a1]
  by_cases a2 : j < 96
  · rw [if_pos a2, if_pos a2]; exact h2 _ (by omega)
  rw [if_neg a2, if_neg a2]
  by_cases a3 : j < 101
  · rw [if_pos a3, if_pos a3]; exact h3 _ (by omega)
  rw [if_neg a3, if_neg a3]
  by_cases a4 : j < 131
  · rw [if_pos a4, if_pos a4]; exact h4 _ (by omega) _ (by omega)
  rw [if_neg a4, if_neg a4]
  exact h5 _ (by omega) (by omega)
theorem stEq_cb {S S' : mS} {b b2 : Nat} (h : stEq S' b S b2) : ∀ j, j < 134 → cb S' b j = cb S b2 j := cb_ext h.1 h.2.1 h.2.2.1 h.2.2.2.1 h.2.2.2.2
theorem cb_rows {S S' : mS} {b : Nat} (h : ∀ q, b ≤ q → q < b + 12 → S'.1 q = S.1 q) : ∀ j, j < 134 → cb S' b j = cb S b j := by
  have e : ∀ i, i < 12 → S'.1 (b + i) = S.1 (b + i) := fun i hi => h _ (by omega) (by omega)
  refine cb_ext (fun k _ => ?_) (fun k _ => ?_) (fun k _ => ?_) (fun j hj k _ => ?_) (fun k _ _ => ?_)
  · rw [e 2 (by omega)]
  · rw [e 3 (by omega)]
  · rw [e 4 (by omega)]
  · rw [show b + 6 + j = b + (6 + j) by omega, e _ (by omega)]
  · exact congrFun (e 0 (by omega)) k
def vw (S : mS) (b : Nat) : Nat → Int32 := fun j => if j < 134 then cb S b j else 0
theorem vw_raw {S : mS} {b j : Nat} (h : j < 48) : vw S b j = S.1 (b + 2) j := (if_pos (by omega)).trans (cb_raw h)
theorem vw_bas {S : mS} {b j : Nat} (h : j < 48) : vw S b (48 + j) = S.1 (b + 3) j := (if_pos (by omega)).trans (cb_bas h)
theorem vw_set {S : mS} {b q : Nat} (h : q < 5) : vw S b (96 + q) = S.1 (b + 4) q := (if_pos (by omega)).trans (cb_set h)
theorem vw_trk {S : mS} {b t w : Nat} (ht : t < 6) (hw : w < 5) : vw S b (101 + 5 * t + w) = S.1 (b + 6 + t) w := (if_pos (by omega)).trans (cb_trk ht hw)
theorem vw_cnt {S : mS} {b w : Nat} (h3 : 3 ≤ w) (h6 : w < 6) : vw S b (128 + w) = S.1 b w := (if_pos (by omega)).trans (cb_cnt h3 h6)
theorem vw_hi {S : mS} {b j : Nat} (h : 134 ≤ j) : vw S b j = 0 := if_neg (by omega)
theorem vw_of {S S' : mS} {b b' : Nat} (h : ∀ j, j < 134 → cb S b j = cb S' b' j) : vw S b = vw S' b' := by
  funext j
  unfold vw
  by_cases hj : j < 134
  · rw [if_pos hj, if_pos hj, h j hj]
  · rw [if_neg hj, if_neg hj]
theorem vw_stEq {S S' : mS} {b b2 : Nat} (h : stEq S' b S b2) : vw S' b = vw S b2 := vw_of (stEq_cb h)
theorem vw_rows {S S' : mS} {b : Nat} (h : ∀ q, b ≤ q → q < b + 12 → S'.1 q = S.1 q) : vw S' b = vw S b := vw_of (cb_rows h)
/-- two rows of numbers are the same where both are a state's -/
theorem vw_ext {S : mS} {b : Nat} {v : Nat → Int32} (h1 : ∀ k, k < 48 → S.1 (b + 2) k = v k) (h2 : ∀ k, k < 48 → S.1 (b + 3) k = v (48 + k)) (h3 : ∀ k, k < 5 → S.1 (b + 4) k = v (96 + k)) (h4 : ∀ t, t < 6 → ∀ w, w < 5 → S.1 (b + 6 + t) w = v (101 + 5 * t + w)) (h5 : ∀ w, 3 ≤ w → w < 6 → S.1 b w = v (128 + w)) (h6 : ∀ j, 134 ≤ j → v j = 0) : vw S b = v := by
  funext j
  by_cases a0 : 134 ≤ j
  · rw [vw_hi a0, h6 j a0]
  by_cases a1 : j < 48
  · rw [vw_raw a1, h1 j a1]
  by_cases a2 : j < 96
  · rw [show j = 48 + (j - 48) by omega, vw_bas (by omega), h2 _ (by omega)]
  by_cases a3 : j < 101
  · rw [show j = 96 + (j - 96) by omega, vw_set (by omega), h3 _ (by omega)]
  by_cases a4 : j < 131
  · rw [show j = 101 + 5 * ((j - 101) / 5) + (j - 101) % 5 by omega, vw_trk (by omega) (by omega), h4 _ (by omega) _ (by omega)]
  · rw [show j = 128 + (j - 128) by omega, vw_cnt (by omega) (by omega), h5 _ (by omega) (by omega)]
/-! regions -/
def sgV (v : Nat → Int32) (j : Nat) : Int32 := if 0 < v j - v (48 + j) then v j - v (48 + j) else 0
theorem sg_v {S : mS} {b j : Nat} (hj : j < 48) : sgS S b j = sgV (vw S b) j := by
  unfold sgS sgV
  rw [vw_raw hj, vw_bas hj]
def ttV (v : Nat → Int32) (c : Nat) : Bool := decide (v 96 ≤ sgV v c)
theorem tt_v {S : mS} {b c : Nat} (hc : c < 48) : ttS S b c = ttV (vw S b) c := by
  unfold ttS ttV
  rw [sg_v hc, vw_set (q := 0) (by decide)]
theorem rch_cg {tt tt' : Nat → Bool} (e : ∀ c, c < 48 → tt c = tt' c) {c : Nat} : ∀ {k d : Nat}, rch tt k c d → rch tt' k c d
  | 0, d, h => h
  | k + 1, d, h => by
    obtain ⟨x, h1, h2, h3, h4⟩ := h
    exact ⟨x, rch_cg e h1, h2, (e x h2.1).symm.trans h3, (e d h2.2.1).symm.trans h4⟩
theorem con_cg {tt tt' : Nat → Bool} (e : ∀ c, c < 48 → tt c = tt' c) {c d : Nat} : con tt c d ↔ con tt' c d :=
  ⟨fun ⟨k, h⟩ => ⟨k, rch_cg e h⟩, fun ⟨k, h⟩ => ⟨k, rch_cg (fun c hc => (e c hc).symm) h⟩⟩
theorem gL_cg {tt tt' : Nat → Bool} (e : ∀ c, c < 48 → tt c = tt' c) : gL tt = gL tt' := by
  funext c
  have h : (fun f => con tt f c) = fun f => con tt' f c := funext fun f => propext (con_cg e)
  exact congrArg (fun P : Nat → Prop => ((List.range 48).find? (fun f => @decide (P f) (Classical.propDecidable (P f)))).getD c) h
/-- the region of a cell; 48 if the cell is not touched -/
noncomputable def lbV (v : Nat → Int32) (c : Nat) : Nat := if ttV v c then gL (ttV v) c else 48
theorem lbV_le {v : Nat → Int32} {c : Nat} (hc : c < 48) : lbV v c ≤ 48 := by
  unfold lbV
  cases h : ttV v c with
  | true => exact Nat.le_of_lt (gL_GG (ttV v) c hc h).1
  | false => exact Nat.le_refl _
theorem lb_v {S : mS} {b c : Nat} (hc : c < 48) : jPass (labI S b 48) 48 c = nI (lbV (vw S b) c) ∧ flS S b 48 c = lbV (vw S b) c := by
  have h1 : jPass (labI S b 48) 48 c = nI (lbV (vw S b) c) := by
    rw [jP_gL (Or.inr rfl) hc, tt_v hc, gL_cg (fun c hc => tt_v hc)]
    unfold lbV
    cases ttV (vw S b) c with
    | true => rfl
    | false => rfl
  refine ⟨h1, ?_⟩
  unfold flS
  rw [h1]
  exact nI_clamp (Nat.lt_of_le_of_lt (lbV_le hc) (by decide))
/-- sizes and greatest signals of regions, by their labels -/
noncomputable def mzV (v : Nat → Int32) : (Nat → Int32) × (Nat → Int32) := mzF (fun _ => 0, fun _ => 0) (fun i => nI (lbV v i)) (sgV v) 48
theorem mz_cg {z z' : (Nat → Int32) × (Nat → Int32)} {r r' sig sig' : Nat → Int32} (hz : ∀ f, f < 48 → z.1 f = z'.1 f ∧ z.2 f = z'.2 f) (hr : ∀ i, i < 48 → r i = r' i) (hs : ∀ i, i < 48 → sig i = sig' i) : ∀ i, i ≤ 48 → ∀ f, f < 48 → (mzF z r sig i).1 f = (mzF z' r' sig' i).1 f ∧ (mzF z r sig i).2 f = (mzF z' r' sig' i).2 f
  | 0, _, f, hf => hz f hf
  | i + 1, hi, f, hf => by
    have ih := mz_cg hz hr hs i (by omega)
    unfold mzF
    rw [← hr i (by omega)]
    by_cases hc : r i < 0 ∨ 48 ≤ r i
    · rw [if_pos hc, if_pos hc]; exact ih f hf
    · rw [if_neg hc, if_neg hc]
      obtain ⟨q, hq, e⟩ : ∃ q, q < 48 ∧ r i = nI q := by
        rcases pk_ix (r i) (n := 48) (by decide) with h | h | h
        · exact absurd (Or.inl h) hc
        · exact absurd (Or.inr h) hc
        · exact h
      rw [e, nI_clamp (by omega), ← hs i (by omega)]
      by_cases hfq : f = q
      · rw [hfq]
        dsimp only
        rw [pk_us, pk_us, pk_us, pk_us, (ih q hq).1, (ih q hq).2]
        exact ⟨rfl, rfl⟩
      · dsimp only
        rw [pk_un hfq, pk_un hfq, pk_un hfq, pk_un hfq]
        exact ih f hf
noncomputable def szI (v : Nat → Int32) (f : Nat) : Int32 := (mzV v).1 f
noncomputable def gtI (v : Nat → Int32) (f : Nat) : Int32 := (mzV v).2 f
/-- the kind of a region -/
noncomputable def kdV (v : Nat → Int32) (f : Nat) : Int32 := if v 97 < szI v f then 1 else if gtI v f < v 98 then 2 else 0
theorem reg_v {S : mS} {b f : Nat} (hf : f < 48) : (regS S b 48).1 101 f = szI (vw S b) f ∧ (regS S b 48).1 102 f = gtI (vw S b) f := by
  have e1 : (regS S b 48).1 101 = (mzF (zt (S.1 101) 48, zt (S.1 102) 48) (jPass (labI S b 48) 48) (sgS S b) 48).1 := by
    unfold regS
    rw [mset_n (by decide), mset_s]
  have e2 : (regS S b 48).1 102 = (mzF (zt (S.1 101) 48, zt (S.1 102) 48) (jPass (labI S b 48) 48) (sgS S b) 48).2 := by
    unfold regS
    rw [mset_s]
  rw [e1, e2]
  unfold szI gtI mzV
  have h9 := mz_cg (z := (zt (S.1 101) 48, zt (S.1 102) 48)) (z' := (fun _ => 0, fun _ => 0)) (r := jPass (labI S b 48) 48) (r' := fun i => nI (lbV (vw S b) i)) (sig := sgS S b) (sig' := sgV (vw S b)) (fun f hf => ⟨if_pos hf, if_pos hf⟩) (fun i hi => (lb_v hi).1) (fun i hi => sg_v hi) 48 (Nat.le_refl 48) f hf
  exact h9
theorem knd_v {S : mS} {b f : Nat} (hf : f < 48) : kndR (regS S b 48) f = kdV (vw S b) f := by
  have e3 : (regS S b 48).1 99 3 = vw S b 97 := by
    unfold regS
    rw [mset_n (by decide), mset_n (by decide), mset_n (by decide), mupd_sn (by decide), mupd_ss]
    exact (vw_set (q := 1) (by decide)).symm
  have e4 : (regS S b 48).1 99 4 = vw S b 98 := by
    unfold regS
    rw [mset_n (by decide), mset_n (by decide), mset_n (by decide), mupd_ss]
    exact (vw_set (q := 2) (by decide)).symm
  unfold kndR kdV
  rw [e3, e4, (reg_v hf).1, (reg_v hf).2]
/-- the answers about a cell -/
noncomputable def rsV (v : Nat → Int32) (c : Nat) : Int32 := if lbV v c = 48 then 0 else szI v (lbV v c)
noncomputable def rkV (v : Nat → Int32) (c : Nat) : Int32 := if lbV v c = 48 then -1 else kdV v (lbV v c)
noncomputable def rgV (v : Nat → Int32) (q : Int32) : Int32 := cntI (fun j => decide (lbV v j = j ∧ kdV v j = q)) 48
theorem rs_v {S : mS} {b c : Nat} (hc : c < 48) : (if flS S b 48 c = 48 then 0 else (regS S b 48).1 101 (flS S b 48 c)) = rsV (vw S b) c := by
  rw [(lb_v hc).2]
  unfold rsV
  by_cases h : lbV (vw S b) c = 48
  · rw [if_pos h, if_pos h]
  · rw [if_neg h, if_neg h]
    have := lbV_le (v := vw S b) hc
    exact (reg_v (by omega)).1
theorem rk_v {S : mS} {b c : Nat} (hc : c < 48) : (if flS S b 48 c = 48 then -1 else kndR (regS S b 48) (flS S b 48 c)) = rkV (vw S b) c := by
  rw [(lb_v hc).2]
  unfold rkV
  by_cases h : lbV (vw S b) c = 48
  · rw [if_pos h, if_pos h]
  · rw [if_neg h, if_neg h]
    have := lbV_le (v := vw S b) hc
    exact knd_v (by omega)
theorem cnt_cg {q q' : Nat → Bool} : ∀ i, (∀ j, j < i → q j = q' j) → cntI q i = cntI q' i
  | 0, _ => rfl
  | i + 1, h => by
    have ih := cnt_cg (q := q) (q' := q') i fun j hj => h j (by omega)
    unfold cntI
    rw [h i (by omega), ih]
theorem rg_v {S : mS} {b : Nat} {q : Int32} : cntI (fun j => decide (flS S b 48 j = j ∧ kndR (regS S b 48) j = q)) 48 = rgV (vw S b) q := by
  refine cnt_cg 48 fun j hj => ?_
  rw [(lb_v hj).2, knd_v hj]

