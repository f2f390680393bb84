/-! what holds between the law's calls -/
def INV (S : mS) (h : Nat) : Prop := pmOk S ∧ (S.1 25 1 = nI h ∧ h ≤ 6) ∧ GV (vw S 1) ∧ (∀ i, i < h → GV (vw S (S.2.1 i))) ∧ ∀ s, s < 64 → S.1 125 s = 0
/-- a query changes nothing that lasts -/
def QS (S S' : mS) : Prop := S'.2 = S.2 ∧ ∀ q, (q < 99 ∨ q = 125 ∨ 126 < q) → ¬ (13 ≤ q ∧ q < 25) → S'.1 q = S.1 q
theorem QS.refl {S : mS} : QS S S := ⟨rfl, fun _ _ _ => rfl⟩
theorem QS.trans {S S1 S2 : mS} (h : QS S S1) (h' : QS S1 S2) : QS S S2 := ⟨h'.1.trans h.1, fun q a b => (h'.2 q a b).trans (h.2 q a b)⟩
theorem QS.vw1 {S S' : mS} (h : QS S S') : vw S' 1 = vw S 1 := vw_rows fun q a b => h.2 q (Or.inl (by omega)) (by omega)
theorem QS.vwb {S S' : mS} (h : QS S S') {b : Nat} (h1 : 27 ≤ b) (h2 : b ≤ 87) : vw S' b = vw S b := vw_rows fun q a c => h.2 q (Or.inl (by omega)) (by omega)
theorem pm_blk {S : mS} (h : pmOk S) {i : Nat} (hi : i < 6) : 27 ≤ S.2.1 i ∧ S.2.1 i ≤ 87 := ⟨(h.1 i hi).2, (mst_le (h.1 i hi).1).2⟩
theorem QS.inv {S S' : mS} (h : QS S S') {k : Nat} (hI : INV S k) : INV S' k := by
  obtain ⟨h1, h2, h3, h4, h5⟩ := hI
  refine ⟨?_, ⟨by rw [h.2 25 (by omega) (by omega)]; exact h2.1, h2.2⟩, by rw [h.vw1]; exact h3, fun i hi => ?_, fun s hs => by rw [h.2 125 (by omega) (by omega)]; exact h5 s hs⟩
  · unfold pmOk at h1 ⊢
    rw [h.1]
    exact h1
  · rw [h.1]
    have := pm_blk h1 (i := i) (by have := h2.2; omega)
    rw [h.vwb this.1 this.2]
    exact h4 i hi
theorem trOk_G {S : mS} {b : Nat} (h : GV (vw S b)) : trOk S b := fun j hj => by
  have h1 := (h.2.2.2.2.2.2.1 j hj).1
  rw [vw_trk hj (by decide)] at h1
  exact h1
theorem QS_reg {S : mS} {b k : Nat} : QS S (regS S b k) := ⟨rfl, fun q h _ => regSn (by omega)⟩
theorem QS_ct {S : mS} {b k : Nat} : QS S (ctP S b k).1 := ⟨ctP_2 (k := k), fun q h _ => ctP_n (by omega)⟩
theorem QS_mt {S : mS} {k : Nat} : QS S (mtP S 1 k) := by
  refine ⟨?_, fun q h h2 => ?_⟩
  · have : (mtP S 1 k).2 = (ctP S 1 k).1.2 := rfl
    rw [this]
    exact ctP_2 (k := k)
  · unfold mtP
    rw [mfS_out (by omega), ctP_n (by omega)]
theorem INV.svi {h : Nat} (h6 : h ≤ 6) : svI h < 6 ∧ svI h ≤ h ∧ svI h + 1 = (if h < 6 then h + 1 else 6) := by
  unfold svI
  by_cases hh : h = 6
  · rw [if_pos hh, if_neg (by omega)]; omega
  · rw [if_neg hh, if_pos (by omega)]; omega
/-- what a save leaves -/
theorem sv_INV {S S1 : mS} {h : Nat} (hI : INV S h) (hs : svR S h S1) : INV S1 (svI h + 1) ∧ vw S1 1 = vw S 1 ∧ vw S1 (S1.2.1 (svI h)) = vw S 1 := by
  obtain ⟨h1, ⟨h2, h3⟩, h4, h5, hz⟩ := hI
  obtain ⟨s1, s2, s3, s4⟩ := hs
  have hpm : pmOk (S.1, (svP S h, S.2.2)) := svP_ok h1
  have hpm' : pmOk S1 := by
    unfold pmOk at hpm ⊢
    rw [s1]
    exact hpm
  obtain ⟨hvi, hvl, -⟩ := INV.svi h3
  have hpv := hpm.1 (svI h) hvi
  have hcv := mst_cases hpv.1
  dsimp only at hcv hpv
  have hpI : S1.2.1 = svP S h := by rw [s1]
  have blk : ∀ b, mst b = true → b ≠ svP S h (svI h) → vw S1 b = vw S b := fun b hb hne => vw_rows fun q g1 g2 => by
    have := mst_cases hb
    exact s2 q (by omega) (by omega)
  have e1 : vw S1 1 = vw S 1 := blk 1 rfl (by omega)
  have e2 : vw S1 (S1.2.1 (svI h)) = vw S 1 := by rw [hpI]; exact vw_stEq s4
  refine ⟨⟨hpm', ⟨s3, by omega⟩, by rw [e1]; exact h4, fun i hi => ?_, fun s hs => by rw [s2 125 (by omega) (by omega)]; exact hz s hs⟩, e1, e2⟩
  by_cases e : i = svI h
  · rw [e, e2]; exact h4
  · have hi6 : i < 6 := by omega
    have hm := hpm.1 i hi6
    dsimp only at hm
    have hne : svP S h i ≠ svP S h (svI h) := fun hh => e (hpm.2 i (svI h) hi6 hvi hh)
    rw [hpI, blk _ hm.1 hne]
    unfold svP
    by_cases hh : h = 6
    · rw [if_pos hh]
      unfold rot
      rw [if_pos (show i < 5 by unfold svI at e hi; rw [if_pos hh] at e hi; omega)]
      exact h5 (i + 1) (by unfold svI at e hi; rw [if_pos hh] at e hi; omega)
    · rw [if_neg hh]
      exact h5 i (by unfold svI at e hi; rw [if_neg hh] at e hi; omega)
/-- a change of the state behind its save -/
theorem op_INV {S S1 S' : mS} {h : Nat} (hI : INV S h) (hs : svR S h S1) (h2 : S'.2 = S1.2) (hr : ∀ q, 13 ≤ q → (q < 99 ∨ q = 125) → S'.1 q = S1.1 q) (hG : GV (vw S' 1)) : INV S' (svI h + 1) ∧ vw S' (S'.2.1 (svI h)) = vw S 1 := by
  obtain ⟨⟨i1, i2, i3, i4, i5⟩, e1, e2⟩ := sv_INV hI hs
  have hvi := (INV.svi hI.2.1.2).1
  have blk : ∀ i, i < 6 → vw S' (S1.2.1 i) = vw S1 (S1.2.1 i) := fun i hi => vw_rows fun q g1 g2 => by
    have := pm_blk i1 hi
    exact hr q (by omega) (by omega)
  refine ⟨⟨?_, ⟨by rw [hr 25 (by omega) (by omega)]; exact i2.1, i2.2⟩, hG, fun i hi => ?_, fun s hs => by rw [hr 125 (by omega) (by omega)]; exact i5 s hs⟩, ?_⟩
  · unfold pmOk at i1 ⊢
    rw [h2]
    exact i1
  · rw [h2, blk i (by omega)]
    exact i4 i hi
  · rw [h2, blk _ hvi]
    exact e2
/-- an undo -/
theorem un_INV {S S' : mS} {h : Nat} (hI : INV S (h + 1)) (hs : rsR S (h + 1) S') : INV S' h ∧ vw S' 1 = vw S (S.2.1 h) := by
  obtain ⟨h1, ⟨h2, h3⟩, h4, h5, hz⟩ := hI
  obtain ⟨s1, s2, s3, s4⟩ := hs
  rw [show h + 1 - 1 = h by omega] at s3 s4
  have e1 : vw S' 1 = vw S (S.2.1 h) := vw_stEq s4
  refine ⟨⟨?_, ⟨s3, by omega⟩, by rw [e1]; exact h5 h (by omega), fun i hi => ?_, fun s hs => by rw [s2 125 (by omega) (by omega)]; exact hz s hs⟩, e1⟩
  · unfold pmOk at h1 ⊢
    rw [s1]
    exact h1
  · have := pm_blk h1 (i := i) (by omega)
    rw [s1, vw_rows (S := S) (S' := S') (b := S.2.1 i) fun q g1 g2 => s2 q (by omega) (by omega)]
    exact h5 i (by omega)
/-! the changes as functions of the row -/
def rawV (v : Nat → Int32) (c : Nat) (x : Int32) : Nat → Int32 := fun j => if j = c then x else v j
def relV (v : Nat → Int32) : Nat → Int32 := fun j => if j < 48 then 0 else v j
def calV (v : Nat → Int32) : Nat → Int32 := fun j => if 48 ≤ j ∧ j < 96 then v (j - 48) else v j
def setV (v : Nat → Int32) (q : Nat) (x : Int32) : Nat → Int32 := fun j => if j = 96 + q then x else v j
theorem vw_raws {S : mS} {f : Nat → Int32} : vw (mset S 3 f) 1 = fun j => if j < 48 then f j else vw S 1 j := by
  refine vw_ext (fun k hk => ?_) (fun k hk => ?_) (fun k hk => ?_) (fun t ht w hw => ?_) (fun w h3 h6 => ?_) (fun j hj => ?_)
  · rw [show 1 + 2 = 3 from rfl, mset_s, if_pos hk]
  · rw [mset_n (by omega), if_neg (by omega), vw_bas hk]
  · rw [mset_n (by omega), if_neg (by omega), vw_set hk]
  · rw [mset_n (by omega), if_neg (by omega), vw_trk ht hw]
  · rw [mset_n (by omega), if_neg (by omega), vw_cnt h3 h6]
  · rw [if_neg (by omega), vw_hi hj]
theorem vw_raw1 {S : mS} {c : Nat} {x : Int32} (hc : c < 48) : vw (mset S 3 (upd (S.1 3) c x)) 1 = rawV (vw S 1) c x := by
  rw [vw_raws]
  funext j
  unfold rawV upd
  by_cases h : j = c
  · rw [if_pos h, if_pos (by omega), if_pos h]
  · rw [if_neg h, if_neg h]
    by_cases h2 : j < 48
    · rw [if_pos h2, vw_raw h2]
    · rw [if_neg h2]
theorem vw_rel {S : mS} : vw (mset S 3 (fun k => if k < 48 then 0 else S.1 3 k)) 1 = relV (vw S 1) := by
  rw [vw_raws]
  funext j
  unfold relV
  by_cases h : j < 48
  · rw [if_pos h, if_pos h, if_pos h]
  · rw [if_neg h, if_neg h]
theorem vw_cal {S : mS} : vw (mset S 4 (fun k => if k < 48 then S.1 3 k else S.1 4 k)) 1 = calV (vw S 1) := by
  unfold calV
  refine vw_ext (fun k hk => ?_) (fun k hk => ?_) (fun k hk => ?_) (fun t ht w hw => ?_) (fun w h3 h6 => ?_) (fun j hj => ?_)
  · rw [mset_n (by omega), if_neg (by omega), vw_raw hk]
  · rw [show 1 + 3 = 4 from rfl, mset_s, if_pos hk, if_pos (by omega), show 48 + k - 48 = k by omega, vw_raw hk]
  · rw [mset_n (by omega), if_neg (by omega), vw_set hk]
  · rw [mset_n (by omega), if_neg (by omega), vw_trk ht hw]
  · rw [mset_n (by omega), if_neg (by omega), vw_cnt h3 h6]
  · rw [if_neg (by omega), vw_hi hj]
theorem vw_set1 {S : mS} {q : Nat} {x : Int32} (hq : q < 5) : vw (mupd S 5 q x) 1 = setV (vw S 1) q x := by
  unfold setV
  refine vw_ext (fun k hk => ?_) (fun k hk => ?_) (fun k hk => ?_) (fun t ht w hw => ?_) (fun w h3 h6 => ?_) (fun j hj => ?_)
  · rw [mupd_n (by omega), if_neg (by omega), vw_raw hk]
  · rw [mupd_n (by omega), if_neg (by omega), vw_bas hk]
  · by_cases h : k = q
    · rw [h, if_pos rfl]; exact mupd_ss
    · rw [if_neg (by omega), vw_set hk]; exact mupd_sn h
  · rw [mupd_n (by omega), if_neg (by omega), vw_trk ht hw]
  · rw [mupd_n (by omega), if_neg (by omega), vw_cnt h3 h6]
  · rw [if_neg (by omega), vw_hi hj]
theorem GVt_cg {v v' : Nat → Int32} (e : ∀ j, 101 ≤ j → j < 131 → v' j = v j) {t : Nat} (ht : t < 6) (h : GVt v t) : GVt v' t := by
  unfold GVt at h ⊢
  rw [e _ (by omega) (by omega), e _ (by omega) (by omega), e _ (by omega) (by omega)]
  exact h
theorem dcV_cg {v v' : Nat → Int32} (e : ∀ j, 101 ≤ j → j < 131 → v' j = v j) : ∀ n, n ≤ 6 → dcV v' n = dcV v n
  | 0, _ => rfl
  | n + 1, hn => by
    have ih := dcV_cg e n (by omega)
    unfold dcV
    rw [e _ (by omega) (by omega), ih]
/-- where settings, tracks and counts stay -/
theorem GV_lo {v v' : Nat → Int32} (h : GV v) (h1 : ∀ j, j < 96 → ∃ a, a < 256 ∧ v' j = nI a) (h2 : ∀ j, 96 ≤ j → v' j = v j) : GV v' := by
  obtain ⟨-, a1, a2, a3, a4, a5, a6, a7⟩ := h
  refine ⟨h1, ?_, ?_, ?_, ?_, ?_, fun t ht => GVt_cg (fun j g1 g2 => h2 j (by omega)) ht (a6 t ht), ?_⟩
  · rw [h2 96 (by omega)]; exact a1
  · rw [h2 97 (by omega)]; exact a2
  · rw [h2 98 (by omega)]; exact a3
  · rw [h2 99 (by omega)]; exact a4
  · rw [h2 100 (by omega)]; exact a5
  · rw [h2 132 (by omega), h2 133 (by omega), dcV_cg (fun j g1 g2 => h2 j (by omega)) 6 (Nat.le_refl 6)]; exact a7
theorem GV_raw {v : Nat → Int32} (h : GV v) {c x : Nat} (hc : c < 48) (hx : x < 256) : GV (rawV v c (nI x)) := by
  refine GV_lo h (fun j hj => ?_) (fun j hj => if_neg (by omega))
  unfold rawV
  by_cases e : j = c
  · rw [if_pos e]; exact ⟨x, hx, rfl⟩
  · rw [if_neg e]; exact h.1 j hj
theorem GV_rel {v : Nat → Int32} (h : GV v) : GV (relV v) := by
  refine GV_lo h (fun j hj => ?_) (fun j hj => if_neg (by omega))
  unfold relV
  by_cases e : j < 48
  · rw [if_pos e]; exact ⟨0, by omega, rfl⟩
  · rw [if_neg e]; exact h.1 j hj
theorem GV_cal {v : Nat → Int32} (h : GV v) : GV (calV v) := by
  refine GV_lo h (fun j hj => ?_) (fun j hj => if_neg (by omega))
  unfold calV
  by_cases e : 48 ≤ j ∧ j < 96
  · rw [if_pos e]; exact h.1 _ (by omega)
  · rw [if_neg e]; exact h.1 j hj
def loN (q : Nat) : Nat := if q = 4 then 0 else 1
def hiN (q : Nat) : Nat := if q = 0 then 100 else if q = 1 then 48 else if q = 2 then 255 else if q = 3 then 1000 else 5
theorem lo_hi : ∀ q, q < 5 → leastN q = nI (loN q) ∧ mostN q = nI (hiN q) ∧ hiN q ≤ 1000 := by decide
theorem GV_set {v : Nat → Int32} (h : GV v) {q x : Nat} (hq : q < 5) (h1 : loN q ≤ x) (h2 : x ≤ hiN q) : GV (setV v q (nI x)) := by
  obtain ⟨a0, a1, a2, a3, a4, a5, a6, a7⟩ := h
  have hn : ∀ j, j ≠ 96 + q → setV v q (nI x) j = v j := fun j hj => if_neg hj
  have hy : setV v q (nI x) (96 + q) = nI x := if_pos rfl
  unfold loN at h1
  unfold hiN at h2
  refine ⟨fun j hj => by rw [hn j (by omega)]; exact a0 j hj, ?_, ?_, ?_, ?_, ?_, fun t ht => GVt_cg (fun j g1 g2 => hn j (by omega)) ht (a6 t ht), ?_⟩
  · by_cases e : q = 0
    · subst e; rw [hy]; exact ⟨x, by rw [if_neg (by omega)] at h1; omega, by rw [if_pos rfl] at h2; omega, rfl⟩
    · rw [hn 96 (by omega)]; exact a1
  · by_cases e : q = 1
    · subst e; rw [hy]; exact ⟨x, by rw [if_neg (by omega)] at h1; omega, by rw [if_neg (by omega), if_pos rfl] at h2; omega, rfl⟩
    · rw [hn 97 (by omega)]; exact a2
  · by_cases e : q = 2
    · subst e; rw [hy]; exact ⟨x, by rw [if_neg (by omega)] at h1; omega, by rw [if_neg (by omega), if_neg (by omega), if_pos rfl] at h2; omega, rfl⟩
    · rw [hn 98 (by omega)]; exact a3
  · by_cases e : q = 3
    · subst e; rw [hy]; exact ⟨x, by rw [if_neg (by omega)] at h1; omega, by rw [if_neg (by omega), if_neg (by omega), if_neg (by omega), if_pos rfl] at h2; omega, rfl⟩
    · rw [hn 99 (by omega)]; exact a4
  · by_cases e : q = 4
    · subst e; rw [hy]; exact ⟨x, by rw [if_neg (by omega), if_neg (by omega), if_neg (by omega), if_neg (by omega)] at h2; omega, rfl⟩
    · rw [hn 100 (by omega)]; exact a5
  · rw [hn 132 (by omega), hn 133 (by omega), dcV_cg (fun j g1 g2 => hn j (by omega)) 6 (Nat.le_refl 6)]; exact a7

