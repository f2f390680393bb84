/-! ranges -/
def GVt (v : Nat → Int32) (t : Nat) : Prop := (v (101 + 5 * t + 0) = 0 ∨ v (101 + 5 * t + 0) = 1) ∧ (∃ a, a < 701 ∧ v (101 + 5 * t + 1) = nI a) ∧ ∃ a, a < 701 ∧ v (101 + 5 * t + 2) = nI a
/-- how many tracks are down -/
def dcV (v : Nat → Int32) : Nat → Nat
  | 0 => 0
  | t + 1 => if v (101 + 5 * t + 0) = 0 then dcV v t else dcV v t + 1
def GV (v : Nat → Int32) : Prop := (∀ j, j < 96 → ∃ a, a < 256 ∧ v j = nI a) ∧ (∃ a, 0 < a ∧ a < 101 ∧ v 96 = nI a) ∧ (∃ a, 0 < a ∧ a < 49 ∧ v 97 = nI a) ∧ (∃ a, 0 < a ∧ a < 256 ∧ v 98 = nI a) ∧ (∃ a, 0 < a ∧ a < 1001 ∧ v 99 = nI a) ∧ (∃ a, a < 6 ∧ v 100 = nI a) ∧ (∀ t, t < 6 → GVt v t) ∧ v 132 = v 133 + nI (dcV v 6)
def sgN (v : Nat → Int32) (j : Nat) : Nat := (sgV v j).toNatClampNeg
theorem sg_n {v : Nat → Int32} (hG : GV v) {j : Nat} (hj : j < 48) : sgV v j = nI (sgN v j) ∧ sgN v j < 256 := by
  obtain ⟨a, ha, ea⟩ := hG.1 j (by omega)
  obtain ⟨b, hb, eb⟩ := hG.1 (48 + j) (by omega)
  have key : ∃ n, n < 256 ∧ sgV v j = nI n := by
    unfold sgV
    rw [ea, eb]
    by_cases h : b < a
    · have e : nI a - nI b = nI (a - b) := nI_subg (by omega)
      rw [e, if_pos (show 0 < nI (a - b) from nI_lt (a := 0) (by omega) (by omega))]
      exact ⟨a - b, by omega, rfl⟩
    · have h2 : ¬ 0 < nI a - nI b := by
        intro h3
        have h4 : (nI a - nI b).toInt = (a : Int) - b := pk_sub_toInt (by omega) (by omega)
        have h5 := Int32.lt_iff_toInt_lt.mp h3
        rw [h4] at h5
        have h6 : (0 : Int32).toInt = 0 := rfl
        rw [h6] at h5
        omega
      rw [if_neg h2]
      exact ⟨0, by omega, rfl⟩
  obtain ⟨n, hn, e⟩ := key
  unfold sgN
  rw [e, nI_clamp (by omega)]
  exact ⟨rfl, hn⟩
/-! sums of numbers -/
def smN (h : Nat → Nat) (L : List Nat) : Nat := (L.map h).sum
theorem smN_c {h : Nat → Nat} {k : Nat} {L : List Nat} : smN h (k :: L) = h k + smN h L := by
  unfold smN
  rw [List.map_cons, List.sum_cons]
theorem sumL_n {g : Nat → Int32} {h : Nat → Nat} {L : List Nat} (e : ∀ k, k ∈ L → g k = nI (h k)) : sumL g L = nI (smN h L) := by
  have key : ∀ (L : List Nat), (∀ k, k ∈ L → g k = nI (h k)) → ∀ a : Nat, L.foldl (fun a k => a + g k) (nI a) = nI (a + smN h L) := by
    intro L
    induction L with
    | nil => intro _ a; rfl
    | cons k L ih =>
      intro e a
      rw [List.foldl_cons, e k List.mem_cons_self, nI_add, ih (fun k hk => e k (List.mem_cons_of_mem _ hk)), smN_c, Nat.add_assoc]
  have := key L e 0
  rw [Nat.zero_add] at this
  exact this
theorem smN_le {h h' : Nat → Nat} : ∀ {L : List Nat}, (∀ k, k ∈ L → h k ≤ h' k) → smN h L ≤ smN h' L
  | [], _ => Nat.le_refl _
  | k :: L, e => by
    rw [smN_c, smN_c]
    exact Nat.add_le_add (e k List.mem_cons_self) (smN_le fun k hk => e k (List.mem_cons_of_mem _ hk))
theorem smN_mul {h : Nat → Nat} {m : Nat} : ∀ {L : List Nat}, smN (fun k => h k * m) L = smN h L * m
  | [] => (Nat.zero_mul m).symm
  | k :: L => by rw [smN_c, smN_c, smN_mul (L := L), Nat.add_mul]
theorem smN_add {h h' : Nat → Nat} : ∀ {L : List Nat}, smN (fun k => h k + h' k) L = smN h L + smN h' L
  | [] => rfl
  | k :: L => by rw [smN_c, smN_c, smN_c, smN_add (L := L)]; omega
theorem smN_mem {h : Nat → Nat} {k : Nat} : ∀ {L : List Nat}, k ∈ L → h k ≤ smN h L
  | [], hk => by cases hk
  | j :: L, hk => by
    rw [smN_c]
    rcases List.mem_cons.mp hk with e | hk
    · rw [e]; exact Nat.le_add_right _ _
    · exact Nat.le_trans (smN_mem hk) (Nat.le_add_left _ _)
theorem smN_len {h : Nat → Nat} {m : Nat} : ∀ {L : List Nat}, (∀ k, k ∈ L → h k ≤ m) → smN h L ≤ L.length * m
  | [], _ => Nat.zero_le _
  | k :: L, e => by
    rw [smN_c, List.length_cons, Nat.add_mul, Nat.one_mul]
    have := e k List.mem_cons_self
    have := smN_len (h := h) (m := m) (L := L) fun k hk => e k (List.mem_cons_of_mem _ hk)
    omega
theorem nbL_geo : ∀ c, c < 48 → (c ∈ nbL c ∧ (nbL c).length ≤ 9) ∧ ∀ k, k ∈ nbL c → c / 6 ≤ k / 6 + 1 ∧ k / 6 ≤ c / 6 + 1 ∧ k / 6 ≤ 7 ∧ c % 6 ≤ k % 6 + 1 ∧ k % 6 ≤ c % 6 + 1 ∧ k % 6 ≤ 5 := by decide +kernel
/-- a weighted position -/
theorem pos_n {h : Nat → Nat} {r : Nat → Nat} {L : List Nat} {r0 m : Nat} (hM : 0 < smN h L) (hr : ∀ k, k ∈ L → r0 ≤ r k + 1 ∧ r k ≤ r0 + 1 ∧ r k ≤ m) : 100 * smN (fun k => h k * r k) L / smN h L ≤ 100 * m ∧ 100 * r0 ≤ 100 * smN (fun k => h k * r k) L / smN h L + 100 ∧ 100 * smN (fun k => h k * r k) L / smN h L ≤ 100 * r0 + 100 ∧ smN (fun k => h k * r k) L ≤ smN h L * m := by
  have a1 : smN (fun k => h k * r k) L ≤ smN h L * m := by
    rw [← smN_mul]
    exact smN_le fun k hk => Nat.mul_le_mul_left _ (hr k hk).2.2
  have a2 : smN (fun k => h k * r k) L ≤ smN h L * (r0 + 1) := by
    rw [← smN_mul]
    exact smN_le fun k hk => Nat.mul_le_mul_left _ (hr k hk).2.1
  have a3 : smN h L * r0 ≤ smN (fun k => h k * r k) L + smN h L := by
    rw [← smN_mul, ← smN_add]
    refine smN_le fun k hk => ?_
    have := Nat.mul_le_mul_left (h k) (hr k hk).1
    rw [Nat.mul_add, Nat.mul_one] at this
    exact this
  generalize smN (fun k => h k * r k) L = W at a1 a2 a3 ⊢
  generalize smN h L = M at hM a1 a2 a3 ⊢
  refine ⟨?_, ?_, ?_, a1⟩
  · refine Nat.div_le_of_le_mul ?_
    rw [Nat.mul_left_comm]
    exact Nat.mul_le_mul_left 100 a1
  · have h2 : (100 * r0 - 100) ≤ 100 * W / M := by
      rw [Nat.le_div_iff_mul_le hM, Nat.sub_mul]
      have h3 := Nat.mul_le_mul_left 100 a3
      rw [Nat.mul_add, Nat.mul_comm M r0, ← Nat.mul_assoc] at h3
      omega
    omega
  · refine Nat.div_le_of_le_mul ?_
    have h3 := Nat.mul_le_mul_left 100 a2
    rw [Nat.mul_left_comm, Nat.mul_add, Nat.mul_one] at h3
    exact h3
theorem cd_pos {v : Nat → Int32} {c : Nat} (h : 0 < cdV v c) : rkV v c = 0 ∧ cdV v c = mas9 (sgV v) (nI (c / 6)) (nI (c % 6)) := by
  unfold cdV at h ⊢
  by_cases hc : rkV v c = 0 ∧ pk9 (sgV v) (sgV v c) (nI (c / 6)) (nI (c % 6)) = true
  · rw [if_pos hc]
    exact ⟨hc.1, rfl⟩
  · rw [if_neg hc] at h
    exact absurd h (by decide)
/-- a contact's numbers -/
theorem pos_v {v : Nat → Int32} (hG : GV v) {c : Nat} (hc : c < 48) (h0 : 0 < cdV v c) : rkV v c = 0 ∧ ∃ M a b, (cdV v c = nI M ∧ 0 < M ∧ sgN v c ≤ M ∧ M < 3000) ∧ (rwV v c = nI a ∧ a ≤ 700 ∧ 100 * (c / 6) ≤ a + 100 ∧ a ≤ 100 * (c / 6) + 100) ∧ clV v c = nI b ∧ b ≤ 500 ∧ 100 * (c % 6) ≤ b + 100 ∧ b ≤ 100 * (c % 6) + 100 := by
  obtain ⟨h1, h2⟩ := cd_pos h0
  obtain ⟨⟨g1, g2⟩, g3⟩ := nbL_geo c hc
  have hs : ∀ k, k ∈ nbL c → sgV v k = nI (sgN v k) ∧ sgN v k < 256 := fun k hk => sg_n hG (nbL_lt hc hk)
  have hm : cdV v c = nI (smN (sgN v) (nbL c)) := by
    rw [h2, mas9_L hc]
    exact sumL_n fun k hk => (hs k hk).1
  have hlen : smN (sgN v) (nbL c) ≤ (nbL c).length * 255 := smN_len fun k hk => by have := (hs k hk).2; omega
  have hM3 : smN (sgN v) (nbL c) < 3000 := by
    have : (nbL c).length * 255 ≤ 9 * 255 := Nat.mul_le_mul_right 255 g2
    omega
  have hM : 0 < smN (sgN v) (nbL c) := by
    rw [hm] at h0
    exact (nI_ltI (a := 0) (by decide) (by omega)).mp h0
  have hr := pos_n (h := sgN v) (r := fun k => k / 6) (L := nbL c) (r0 := c / 6) (m := 7) hM (fun k hk => ⟨(g3 k hk).1, (g3 k hk).2.1, (g3 k hk).2.2.1⟩)
  have hl := pos_n (h := sgN v) (r := fun k => k % 6) (L := nbL c) (r0 := c % 6) (m := 5) hM (fun k hk => ⟨(g3 k hk).2.2.2.1, (g3 k hk).2.2.2.2.1, (g3 k hk).2.2.2.2.2⟩)
  have er : rwV v c = nI (100 * smN (fun k => sgN v k * (k / 6)) (nbL c) / smN (sgN v) (nbL c)) := by
    unfold rwV
    rw [hm, wr9_L hc, sumL_n (h := fun k => sgN v k * (k / 6)) (fun k hk => by rw [(hs k hk).1, pk_mul]), show (100 : Int32) = nI 100 from rfl, pk_mul]
    exact pk_div (by have := hr.2.2.2; omega) hM (by omega)
  have el : clV v c = nI (100 * smN (fun k => sgN v k * (k % 6)) (nbL c) / smN (sgN v) (nbL c)) := by
    unfold clV
    rw [hm, wc9_L hc, sumL_n (h := fun k => sgN v k * (k % 6)) (fun k hk => by rw [(hs k hk).1, pk_mul]), show (100 : Int32) = nI 100 from rfl, pk_mul]
    exact pk_div (by have := hl.2.2.2; omega) hM (by omega)
  exact ⟨h1, _, _, _, ⟨hm, hM, smN_mem g1, hM3⟩, ⟨er, hr.1, hr.2.1, hr.2.2.1⟩, el, hl.1, hl.2.1, hl.2.2.1⟩
/-- the j-th contact -/
theorem ct_at {v : Nat → Int32} {j : Nat} (hj : j < kV v) : (ctV v)[j]? = some ((ctV v).getD j 0) ∧ (ctV v).getD j 0 < 48 ∧ 0 < cdV v ((ctV v).getD j 0) := by
  unfold kV at hj
  have e : (ctV v)[j]? = some ((ctV v).getD j 0) := by
    rw [List.getD_eq_getElem?_getD, List.getElem?_eq_getElem hj]
    rfl
  have hm := List.mem_of_getElem? e
  have h := (ctL_srt (v := v) 48).2 _ (by rw [← ctV_eq]; exact hm)
  exact ⟨e, h.1, h.2⟩
theorem ct_lt {v : Nat → Int32} {i j : Nat} (hij : i < j) (hj : j < kV v) : (ctV v).getD i 0 < (ctV v).getD j 0 := by
  have hs := (ctL_srt (v := v) 48).1
  rw [← ctV_eq] at hs
  have h1 := (ct_at (v := v) (j := i) (by omega)).1
  have h2 := (ct_at (v := v) (j := j) hj).1
  unfold kV at hj
  rw [List.getElem?_eq_getElem (by omega)] at h1 h2
  rw [← Option.some.inj h1, ← Option.some.inj h2]
  exact List.pairwise_iff_getElem.mp hs i j (by omega) hj hij
theorem kV_6 {v : Nat → Int32} : kV v ≤ 6 := ctV_len
/-! regions -/
def szC (v : Nat → Int32) (lb : Nat → Nat) (f : Nat) : Nat → Nat
  | 0 => 0
  | i + 1 => if lb i = f then szC v lb f i + 1 else szC v lb f i
theorem szC_le {v : Nat → Int32} {lb : Nat → Nat} {f : Nat} : ∀ i, szC v lb f i ≤ i
  | 0 => Nat.le_refl _
  | i + 1 => by
    have := szC_le (v := v) (lb := lb) (f := f) i
    unfold szC
    split <;> omega
theorem szC_pos {v : Nat → Int32} {lb : Nat → Nat} {f : Nat} : ∀ {i j : Nat}, j < i → lb j = f → 0 < szC v lb f i
  | 0, _, h, _ => absurd h (Nat.not_lt_zero _)
  | i + 1, j, h, hj => by
    unfold szC
    by_cases e : j = i
    · rw [if_pos (by rw [← e]; exact hj)]; omega
    · have := szC_pos (v := v) (lb := lb) (f := f) (i := i) (j := j) (by omega) hj
      split <;> omega
theorem mz_n {v : Nat → Int32} {lb : Nat → Nat} {sig : Nat → Int32} (hl : ∀ i, i < 48 → lb i ≤ 48) : ∀ i, i ≤ 48 → ∀ f, f < 48 → (mzF (fun _ => 0, fun _ => 0) (fun i => nI (lb i)) sig i).1 f = nI (szC v lb f i)
  | 0, _, _, _ => rfl
  | i + 1, hi, f, hf => by
    have ih := mz_n (v := v) (sig := sig) hl i (by omega)
    have hli := hl i (by omega)
    unfold mzF szC
    by_cases h48 : lb i = 48
    · rw [if_pos (Or.inr (show (48 : Int32) ≤ nI (lb i) from nI_le (a := 48) (by omega) (by omega))), if_neg (by omega)]
      exact ih f hf
    · rw [if_neg (fun h => by
        rcases h with h | h
        · exact nI_pos (by omega) h
        · exact nI_ge (b := 48) (by omega) (by decide) h), nI_clamp (by omega)]
      by_cases e : lb i = f
      · rw [if_pos e, e]
        show upd _ f _ f = _
        rw [pk_us, ih f hf, nI_1]
      · rw [if_neg e]
        show upd _ (lb i) _ f = _
        rw [pk_un (fun h => e h.symm)]
        exact ih f hf
noncomputable def szN (v : Nat → Int32) (f : Nat) : Nat := szC v (lbV v) f 48
theorem sz_n {v : Nat → Int32} {f : Nat} (hf : f < 48) : szI v f = nI (szN v f) ∧ szN v f ≤ 48 := by
  unfold szI mzV szN
  exact ⟨mz_n (fun i hi => lbV_le hi) 48 (Nat.le_refl 48) f hf, szC_le 48⟩
theorem kd_3 {v : Nat → Int32} {f : Nat} : kdV v f = 0 ∨ kdV v f = 1 ∨ kdV v f = 2 := by
  unfold kdV
  split
  · exact Or.inr (Or.inl rfl)
  · split
    · exact Or.inr (Or.inr rfl)
    · exact Or.inl rfl
theorem lb_t {v : Nat → Int32} {c : Nat} (hc : c < 48) (ht : ttV v c = true) : lbV v c < 48 ∧ lbV v (lbV v c) = lbV v c ∧ ttV v (lbV v c) = true := by
  have e : lbV v c = gL (ttV v) c := by unfold lbV; rw [ht]; rfl
  obtain ⟨h1, ⟨k, hk⟩, h3⟩ := gL_GG (ttV v) c hc ht
  obtain ⟨s1, s2⟩ := rch_start hk hc ht
  have h4 := GC_con (gL_GC (ttV v)) hk
  have e2 : lbV v (gL (ttV v) c) = gL (ttV v) (gL (ttV v) c) := by unfold lbV; rw [s2]; rfl
  rw [e]
  exact ⟨h1, by rw [e2, h4], s2⟩
theorem lb_f {v : Nat → Int32} {c : Nat} (ht : ttV v c = false) : lbV v c = 48 := by
  unfold lbV
  rw [ht]; rfl
theorem lb_adj {v : Nat → Int32} {c d : Nat} (ha : adj c d) (hc : ttV v c = true) (hd : ttV v d = true) : lbV v c = lbV v d := by
  have e1 : lbV v c = gL (ttV v) c := by unfold lbV; rw [hc]; rfl
  have e2 : lbV v d = gL (ttV v) d := by unfold lbV; rw [hd]; rfl
  rw [e1, e2]
  exact gL_GC (ttV v) c d ha hc hd
/-- what is answered of a touched cell, and of another -/
theorem reg_t {v : Nat → Int32} {c : Nat} (hc : c < 48) (ht : ttV v c = true) : ∃ n, rsV v c = nI n ∧ 0 < n ∧ n ≤ 48 ∧ (rkV v c = 0 ∨ rkV v c = 1 ∨ rkV v c = 2) ∧ (rkV v c = 1 ↔ v 97 < nI n) := by
  obtain ⟨h1, h2, h3⟩ := lb_t hc ht
  obtain ⟨s1, s2⟩ := sz_n (v := v) h1
  have e1 : rsV v c = szI v (lbV v c) := by unfold rsV; exact if_neg (by omega)
  have e2 : rkV v c = kdV v (lbV v c) := by unfold rkV; exact if_neg (by omega)
  refine ⟨szN v (lbV v c), by rw [e1, s1], szC_pos hc rfl, s2, by rw [e2]; exact kd_3, ?_⟩
  rw [e2]
  unfold kdV
  rw [s1]
  by_cases h : v 97 < nI (szN v (lbV v c))
  · rw [if_pos h]; exact ⟨fun _ => h, fun _ => rfl⟩
  · rw [if_neg h]
    refine ⟨fun h5 => ?_, fun h5 => absurd h5 h⟩
    split at h5
    · exact absurd h5 (by decide)
    · exact absurd h5 (by decide)
theorem reg_f {v : Nat → Int32} {c : Nat} (ht : ttV v c = false) : rsV v c = 0 ∧ rkV v c = -1 := by
  unfold rsV rkV
  rw [lb_f ht, if_pos rfl, if_pos rfl]
  exact ⟨rfl, rfl⟩
theorem reg_a {v : Nat → Int32} {c d : Nat} (ha : adj c d) (hc : ttV v c = true) (hd : ttV v d = true) : rsV v d = rsV v c ∧ rkV v d = rkV v c := by
  unfold rsV rkV
  rw [lb_adj ha hc hd]
  exact ⟨rfl, rfl⟩
/-- how many are so -/
def cnN (q : Nat → Bool) : Nat → Nat
  | 0 => 0
  | i + 1 => if q i then cnN q i + 1 else cnN q i
theorem cnt_n {q : Nat → Bool} : ∀ i, cntI q i = nI (cnN q i)
  | 0 => rfl
  | i + 1 => by
    have ih := cnt_n (q := q) i
    unfold cntI cnN
    rw [ih, nI_1]
    split <;> rfl
theorem cnN_le {q q' : Nat → Bool} : ∀ i, (∀ j, j < i → q j = true → q' j = true) → cnN q i ≤ cnN q' i
  | 0, _ => Nat.le_refl _
  | i + 1, h => by
    have ih := cnN_le (q := q) (q' := q') i fun j hj => h j (by omega)
    have hi := h i (by omega)
    unfold cnN
    cases h1 : q i with
    | false =>
      rw [if_neg (by decide)]
      split <;> omega
    | true =>
      rw [hi h1, if_pos rfl, if_pos rfl]
      omega
theorem cnN_i {q : Nat → Bool} : ∀ i, cnN q i ≤ i
  | 0 => Nat.le_refl _
  | i + 1 => by
    have := cnN_i (q := q) i
    unfold cnN
    split <;> omega
theorem cnN_0 {q : Nat → Bool} : ∀ i, cnN q i = 0 ↔ ∀ j, j < i → q j = false
  | 0 => ⟨fun _ j hj => absurd hj (Nat.not_lt_zero j), fun _ => rfl⟩
  | i + 1 => by
    have ih := cnN_0 (q := q) i
    unfold cnN
    cases h1 : q i with
    | true =>
      rw [if_pos rfl]
      refine ⟨fun h => absurd h (by omega), fun h => ?_⟩
      rw [h i (by omega)] at h1
      cases h1
    | false =>
      rw [if_neg (by decide), ih]
      refine ⟨fun h j hj => ?_, fun h j hj => h j (by omega)⟩
      by_cases e : j = i
      · rw [e]; exact h1
      · exact h j (by omega)
theorem cnN_3 {p : Nat → Bool} {kd : Nat → Int32} (h3 : ∀ j, kd j = 0 ∨ kd j = 1 ∨ kd j = 2) : ∀ i, cnN (fun j => p j && decide (kd j = 0)) i + cnN (fun j => p j && decide (kd j = 1)) i + cnN (fun j => p j && decide (kd j = 2)) i = cnN p i
  | 0 => rfl
  | i + 1 => by
    have ih := cnN_3 (p := p) h3 i
    unfold cnN
    cases hp : p i with
    | false =>
      simp only [Bool.false_and, Bool.false_eq_true, if_false]
      exact ih
    | true =>
      simp only [Bool.true_and, if_true]
      rcases h3 i with e | e | e
      · rw [e]
        simp only [decide_true, if_true]
        rw [if_neg (by decide), if_neg (by decide)]
        omega
      · rw [e]
        simp only [decide_true, if_true]
        rw [if_neg (by decide), if_neg (by decide)]
        omega
      · rw [e]
        simp only [decide_true, if_true]
        rw [if_neg (by decide), if_neg (by decide)]
        omega
/-- regions and touched cells -/
theorem rg_n {v : Nat → Int32} : ∃ n, n ≤ cnN (ttV v) 48 ∧ (cnN (ttV v) 48 = 0 ↔ n = 0) ∧ rgV v 0 + rgV v 1 + rgV v 2 = nI n := by
  have e : ∀ q, rgV v q = nI (cnN (fun j => decide (lbV v j = j) && decide (kdV v j = q)) 48) := fun q => by
    unfold rgV
    rw [cnt_n]
    refine congrArg (fun p => nI (cnN p 48)) (funext fun j => ?_)
    exact Bool.decide_and _ _
  refine ⟨cnN (fun j => decide (lbV v j = j)) 48, ?_, ?_, ?_⟩
  · refine cnN_le 48 fun j hj h => ?_
    cases ht : ttV v j with
    | true => rfl
    | false =>
      have := of_decide_eq_true h
      rw [lb_f ht] at this
      omega
  · rw [cnN_0, cnN_0]
    constructor
    · intro h j hj
      refine decide_eq_false fun hl => ?_
      rw [lb_f (h j hj)] at hl
      omega
    · intro h j hj
      cases ht : ttV v j with
      | false => rfl
      | true =>
        obtain ⟨h1, h2, -⟩ := lb_t hj ht
        exact absurd h2 (of_decide_eq_false (h _ h1))
  · rw [e, e, e, nI_add, nI_add]
    exact congrArg nI (cnN_3 (p := fun j => decide (lbV v j = j)) (fun j => kd_3) 48)

