/-- the labels are numbers of cells, or 48 -/
def lblOk (r : Nat → Int32) : Prop := ∀ j, j < 48 → ∃ f, f ≤ 48 ∧ r j = nI f
theorem lblOk.jn {r : Nat → Int32} (h : lblOk r) {c d : Nat} (hc : c < 48) (hd : d < 48) : lblOk (jnR r c d) := by
  unfold jnR
  split
  · have hm : ∃ f, f ≤ 48 ∧ (if r c < r d then r c else r d) = nI f := by
      split
      · exact h c hc
      · exact h d hd
    intro j hj
    show ∃ f, f ≤ 48 ∧ (if j = d then _ else if j = c then _ else r j) = nI f
    by_cases h1 : j = d
    · rw [if_pos h1]; exact hm
    · rw [if_neg h1]
      by_cases h2 : j = c
      · rw [if_pos h2]; exact hm
      · rw [if_neg h2]; exact h j hj
  · exact h
theorem lblOk.upto {r : Nat → Int32} (h : lblOk r) : ∀ {i : Nat}, i ≤ 48 → lblOk (jUpto r i).1
  | 0, _ => h
  | i + 1, hi => by
    have ih := lblOk.upto h (i := i) (by omega)
    show lblOk (jStep2 (jStep1 (jUpto r i) i) i).1
    have h1 : lblOk (jStep1 (jUpto r i) i).1 := by
      unfold jStep1
      split
      · exact ih.jn (by omega) (by omega)
      · exact ih
    unfold jStep2
    split
    · exact h1.jn (by omega) (by omega)
    · exact h1
theorem lblOk.pass {r : Nat → Int32} (h : lblOk r) : ∀ k, lblOk (jPass r k)
  | 0 => h
  | k + 1 => (lblOk.pass h k).upto (Nat.le_refl 48)
theorem labI_ok {S : mS} {b : Nat} : lblOk (labI S b 48) := fun j hj => by
  show ∃ f, f ≤ 48 ∧ (if j < 48 then (if S.1 (b + 4) 0 ≤ sgS S b j then nI j else 48) else _) = nI f
  rw [if_pos hj]
  split
  · exact ⟨j, by omega, rfl⟩
  · exact ⟨48, Nat.le_refl _, rfl⟩
/-- the label of a cell behind k passes -/
def flS (S : mS) (b k j : Nat) : Nat := (jPass (labI S b 48) k j).toNatClampNeg
theorem flS_ok {S : mS} {b k j : Nat} (hj : j < 48) : jPass (labI S b 48) k j = nI (flS S b k j) ∧ flS S b k j ≤ 48 := by
  obtain ⟨f, hf, he⟩ := (labI_ok (S := S) (b := b)).pass k j hj
  unfold flS
  rw [he, nI_clamp (by omega)]
  exact ⟨rfl, hf⟩
/-- the contacts' picture -/
noncomputable def ctP (S : mS) (b k : Nat) : mS × Nat := cosU (mset (regS S b k) 104 (canI (regS S b k) b (flS S b k) 48)) b 48
theorem regS_100 {S : mS} {b k : Nat} : (regS S b k).1 100 = jPass (labI S b 48) k := by
  unfold regS
  rw [mset_n (by decide), mset_n (by decide), mset_s]
theorem regS_n {S : mS} {b k q : Nat} (h : q ≠ 99 ∧ q ≠ 100 ∧ q ≠ 101 ∧ q ≠ 102) : (regS S b k).1 q = S.1 q := by
  unfold regS
  rw [mset_n h.2.2.2, mset_n h.2.2.1, mset_n h.2.1, mupd_n h.1, mupd_n h.1]
theorem ctP_n {S : mS} {b k q : Nat} (h : q < 99 ∨ 108 < q) : (ctP S b k).1.1 q = S.1 q := by
  unfold ctP
  rw [cosU_n (by omega), mset_n (by omega), regS_n (by omega)]
theorem ctP_2 {S : mS} {b k : Nat} : ∀ {i : Nat}, (cosU S b i).1.2 = S.2
  | 0 => rfl
  | i + 1 => by
    unfold cosU
    split
    · exact ctP_2 (k := k) (i := i)
    · exact ctP_2 (k := k) (i := i)
theorem ctP_k {S : mS} {b k : Nat} : (ctP S b k).1.1 103 5 = nI (ctP S b k).2 ∧ (ctP S b k).2 ≤ 6 := cosU_k
section C26
variable {l : Launch} {D : va_G} {n0 : Nat} {ft : tv_ft} {n : Nat} {S : mS} {b : Nat}
theorem ct_find (hb : mst b = true) {k : Nat} : mMv l yX1_find wsX1_find rmX1_find D n0 ft [.ref (n0 + 103), .ref (n0 + (b + 1)), .ref (n0 + 99)] n (regS S b k) (fun S' => S' = (ctP S b k).1) :=
  cX1_find_ok hb (fun j hj => by rw [regS_100]; exact flS_ok hj)
theorem iX9_findContacts_X6 : ∀ w ∈ wsX60, w ∈ wsX9_findContacts := by decide +kernel
theorem iX9_findContacts_X9 : ∀ w ∈ wsX90, w ∈ wsX9_findContacts := by decide +kernel
theorem kX9_findContacts_12 : Cond.fieldLink RX9 12 (TX9 0).1 (TX9 0).2.1 (TX9 0).2.2.1 ∈ wsX9_findContacts := by decide +kernel
theorem kX9_findContacts_29 : Cond.fieldLink RX9 29 (TX9 3).1 (TX9 3).2.1 (TX9 3).2.2.1 ∈ wsX9_findContacts := by decide +kernel
theorem kX9_findContacts_36 : Cond.fieldLink RX9 36 (TX9 4).1 (TX9 4).2.1 (TX9 4).2.2.1 ∈ wsX9_findContacts := by decide +kernel
theorem cX9_findContacts_ok : mMv l yX9_findContacts wsX9_findContacts rmX9_findContacts D n0 ft [.ref (n0 + 0)] n S (fun S' => ∃ k, k ≤ 48 ∧ (jFlag (labI S 1 48) k = 0 ∨ k = 48) ∧ S' = (ctP S 1 k).1) := by
  have hb : mst 1 = true := rfl
  refine tv_enter (cc := cX9_findContacts) (maxL := 1) (ret := none) (by decide) rfl (Nat.le_of_ble_eq_true rfl) ?_
  intro p e s m args below meth c X hrt hnm hargs
  refine tv_aload_n X dX9_findContacts_0 rfl ?_
  refine mm_getf X dX9_findContacts_1 gX9 iX9_findContacts_X9 rfl 3 (by decide) kX9_findContacts_29 rfl ?_
  refine tv_aload_n X dX9_findContacts_4 rfl ?_
  refine mm_getf X dX9_findContacts_5 gX9 iX9_findContacts_X9 rfl 0 (by decide) kX9_findContacts_12 rfl ?_
  refine mm_callVv (q := (RX5, TX5, 5)) X dX9_findContacts_8 (cX5_find_ok hb) (cwV 1 X.2.2.2.2.1 gX9_findContacts_X5_find rfl rfl rfl (by decide +kernel) ⟨Nat.le_of_ble_eq_true rfl, Nat.le_of_ble_eq_true rfl⟩) rfl rfl gX5 rfl (Nat.le_of_ble_eq_true rfl) ⟨Nat.zero_le _, Nat.zero_le _⟩ (fun S1 hq => ?_)
  obtain ⟨k, hk, hfl, hS1⟩ := hq
  rw [hS1]
  refine tv_aload_n X dX9_findContacts_11 rfl ?_
  refine mm_getf X dX9_findContacts_12 gX9 iX9_findContacts_X9 rfl 4 (by decide) kX9_findContacts_36 rfl ?_
  refine tv_aload_n X dX9_findContacts_15 rfl ?_
  refine mm_getf X dX9_findContacts_16 gX9 iX9_findContacts_X9 rfl 0 (by decide) kX9_findContacts_12 rfl ?_
  refine mm_getfN X dX9_findContacts_19 (gX6 hb) iX9_findContacts_X6 rfl 0 (by decide) nF5 rfl ?_
  refine tv_aload_n X dX9_findContacts_22 rfl ?_
  refine mm_getf X dX9_findContacts_23 gX9 iX9_findContacts_X9 rfl 3 (by decide) kX9_findContacts_29 rfl ?_
  refine mm_callVv (q := (RX1, TX1, 6)) X dX9_findContacts_26 (ct_find hb) (cwV 2 X.2.2.2.2.1 gX9_findContacts_X1_find rfl rfl rfl (by decide +kernel) ⟨Nat.le_of_ble_eq_true rfl, Nat.le_of_ble_eq_true rfl⟩) rfl rfl gX1 rfl (Nat.le_of_ble_eq_true rfl) ⟨Nat.zero_le _, Nat.zero_le _⟩ (fun S2 hq => ?_)
  exact tv_vret X hrt dX9_findContacts_29 ⟨_, rfl, k, hk, hfl, hq⟩
theorem iX9_findMatching_X9 : ∀ w ∈ wsX90, w ∈ wsX9_findMatching := by decide +kernel
theorem kX9_findMatching_12 : Cond.fieldLink RX9 12 (TX9 0).1 (TX9 0).2.1 (TX9 0).2.2.1 ∈ wsX9_findMatching := by decide +kernel
theorem kX9_findMatching_36 : Cond.fieldLink RX9 36 (TX9 4).1 (TX9 4).2.1 (TX9 4).2.2.1 ∈ wsX9_findMatching := by decide +kernel
theorem kX9_findMatching_43 : Cond.fieldLink RX9 43 (TX9 5).1 (TX9 5).2.1 (TX9 5).2.2.1 ∈ wsX9_findMatching := by decide +kernel
theorem cX9_findMatching_ok : mMv l yX9_findMatching wsX9_findMatching rmX9_findMatching D n0 ft [.ref (n0 + 0)] n S (fun S' => ∃ k, k ≤ 48 ∧ (jFlag (labI S 1 48) k = 0 ∨ k = 48) ∧ S' = mfS (ctP S 1 k).1 1 (ctP S 1 k).2) := by
  have hb : mst 1 = true := rfl
  refine tv_enter (cc := cX9_findMatching) (maxL := 1) (ret := none) (by decide) rfl (Nat.le_of_ble_eq_true rfl) ?_
  intro p e s m args below meth c X hrt hnm hargs
  refine tv_aload_n X dX9_findMatching_0 rfl ?_
  refine mm_callVv (q := (RX9, TX9, 8)) X dX9_findMatching_1 (cX9_findContacts_ok) (cwV 0 X.2.2.2.2.1 gX9_findMatching_X9_findContacts rfl rfl rfl (by decide +kernel) ⟨Nat.le_of_ble_eq_true rfl, Nat.le_of_ble_eq_true rfl⟩) rfl rfl gX9 rfl (Nat.le_of_ble_eq_true rfl) ⟨Nat.zero_le _, Nat.zero_le _⟩ (fun S1 hq => ?_)
  obtain ⟨k, hk, hfl, hS1⟩ := hq
  rw [hS1]
  refine tv_aload_n X dX9_findMatching_4 rfl ?_
  refine mm_getf X dX9_findMatching_5 gX9 iX9_findMatching_X9 rfl 5 (by decide) kX9_findMatching_43 rfl ?_
  refine tv_aload_n X dX9_findMatching_8 rfl ?_
  refine mm_getf X dX9_findMatching_9 gX9 iX9_findMatching_X9 rfl 0 (by decide) kX9_findMatching_12 rfl ?_
  refine tv_aload_n X dX9_findMatching_12 rfl ?_
  refine mm_getf X dX9_findMatching_13 gX9 iX9_findMatching_X9 rfl 4 (by decide) kX9_findMatching_36 rfl ?_
  refine mm_callVv (q := (RX3, TX3, 6)) X dX9_findMatching_16 (cX3_find_ok hb ctP_k.1 ctP_k.2) (cwV 2 X.2.2.2.2.1 gX9_findMatching_X3_find rfl rfl rfl (by decide +kernel) ⟨Nat.le_of_ble_eq_true rfl, Nat.le_of_ble_eq_true rfl⟩) rfl rfl gX3 rfl (Nat.le_of_ble_eq_true rfl) ⟨Nat.zero_le _, Nat.zero_le _⟩ (fun S2 hq => ?_)
  exact tv_vret X hrt dX9_findMatching_19 ⟨_, rfl, k, hk, hfl, hq⟩
/-- the matching's base, the picture behind a matching -/
noncomputable def mtP (S : mS) (b k : Nat) : mS := mfS (ctP S b k).1 b (ctP S b k).2
noncomputable def mtB (S : mS) (b k : Nat) : mS := mfB (ctP S b k).1 b (ctP S b k).2
theorem mfB_n {S : mS} {b k q : Nat} (h : q < 109 ∨ 124 < q) : (mfB S b k).1 q = S.1 q := by
  unfold mfB mfA
  rw [gqS_n (by omega), fqS_n (by omega), mupd_n (by omega)]
theorem mfB_5 {S : mS} {b k : Nat} : (mfB S b k).1 109 5 = nI k := by
  unfold mfB mfA
  rw [gqS_n (by omega), fqS_n (by omega), mupd_ss]
theorem mfS_n {S : mS} {b k q : Nat} (h : q < 109 ∨ 126 < q) : (mfS S b k).1 q = S.1 q := by
  unfold mfS asgT
  rw [mset_n (by omega), mupd_n (by omega), mfB_n (by omega)]
theorem mfS_5 {S : mS} {b k : Nat} : (mfS S b k).1 109 5 = nI k := by
  unfold mfS asgT
  rw [mset_n (by decide), mupd_sn (by decide), mfB_5]
theorem mfS_4 {S : mS} {b k : Nat} : (mfS S b k).1 109 4 = nI (tkA (mfB S b k) k 6) := by
  unfold mfS asgT
  rw [mset_n (by decide), mupd_ss]
theorem mfS_126 {S : mS} {b k t : Nat} (ht : t < 6) : (mfS S b k).1 126 t = oI (asA (mfB S b k) k t) := by
  unfold mfS asgT
  rw [mset_s]
  exact if_pos ht
/-- the picture behind a frame of the block b, with k passes -/
noncomputable def scP (S : mS) (b k : Nat) : mS := tfS (mtP S b k) b (asA (mtB S b k) (ctP S b k).2) (tkA (mtB S b k) (ctP S b k).2 6) (ctP S b k).2
theorem iX9_scanFrame_X6 : ∀ w ∈ wsX60, w ∈ wsX9_scanFrame := by decide +kernel
theorem iX9_scanFrame_X9 : ∀ w ∈ wsX90, w ∈ wsX9_scanFrame := by decide +kernel
theorem kX9_scanFrame_29 : Cond.fieldLink RX9 29 (TX9 3).1 (TX9 3).2.1 (TX9 3).2.2.1 ∈ wsX9_scanFrame := by decide +kernel
theorem kX9_scanFrame_36 : Cond.fieldLink RX9 36 (TX9 4).1 (TX9 4).2.1 (TX9 4).2.2.1 ∈ wsX9_scanFrame := by decide +kernel
theorem kX9_scanFrame_43 : Cond.fieldLink RX9 43 (TX9 5).1 (TX9 5).2.1 (TX9 5).2.2.1 ∈ wsX9_scanFrame := by decide +kernel
theorem cX9_scanFrame_ok (hb : mst b = true) : mMi l yX9_scanFrame wsX9_scanFrame rmX9_scanFrame D n0 ft [.ref (n0 + 0), .ref (n0 + b)] n S (fun r S' => ∃ k, k ≤ 48 ∧ (jFlag (labI S b 48) k = 0 ∨ k = 48) ∧ S' = scP S b k ∧ r = (scP S b k).1 b 4 + (scP S b k).1 b 5 - (S.1 b 4 + S.1 b 5)) := by
  have hbl := mst_le hb
  refine tv_enter (cc := cX9_scanFrame) (maxL := 2) (ret := (some .int)) (by decide) rfl (Nat.le_of_ble_eq_true rfl) ?_
  intro p e s m args below meth c X hrt hnm hargs
  refine tv_aload_n X dX9_scanFrame_0 rfl ?_
  refine mm_getf X dX9_scanFrame_1 gX9 iX9_scanFrame_X9 rfl 3 (by decide) kX9_scanFrame_29 rfl ?_
  refine tv_aload_n X dX9_scanFrame_4 rfl ?_
  refine mm_callVv (q := (RX5, TX5, 5)) X dX9_scanFrame_5 (cX5_find_ok hb) (cwV 1 X.2.2.2.2.1 gX9_scanFrame_X5_find rfl rfl rfl (by decide +kernel) ⟨Nat.le_of_ble_eq_true rfl, Nat.le_of_ble_eq_true rfl⟩) rfl rfl gX5 rfl (Nat.le_of_ble_eq_true rfl) ⟨Nat.zero_le _, Nat.zero_le _⟩ (fun S1 hq => ?_)
  obtain ⟨k, hk, hfl, hS1⟩ := hq
  rw [hS1]
  refine tv_aload_n X dX9_scanFrame_8 rfl ?_
  refine mm_getf X dX9_scanFrame_9 gX9 iX9_scanFrame_X9 rfl 4 (by decide) kX9_scanFrame_36 rfl ?_
  refine tv_aload_n X dX9_scanFrame_12 rfl ?_
  refine mm_getfN X dX9_scanFrame_13 (gX6 hb) iX9_scanFrame_X6 rfl 0 (by decide) nF5 rfl ?_
  refine tv_aload_n X dX9_scanFrame_16 rfl ?_
  refine mm_getf X dX9_scanFrame_17 gX9 iX9_scanFrame_X9 rfl 3 (by decide) kX9_scanFrame_29 rfl ?_
  refine mm_callVv (q := (RX1, TX1, 6)) X dX9_scanFrame_20 (ct_find hb) (cwV 2 X.2.2.2.2.1 gX9_scanFrame_X1_find rfl rfl rfl (by decide +kernel) ⟨Nat.le_of_ble_eq_true rfl, Nat.le_of_ble_eq_true rfl⟩) rfl rfl gX1 rfl (Nat.le_of_ble_eq_true rfl) ⟨Nat.zero_le _, Nat.zero_le _⟩ (fun S2 hq => ?_)
  rw [hq]
  clear hq
  refine tv_aload_n X dX9_scanFrame_23 rfl ?_
  refine mm_getf X dX9_scanFrame_24 gX9 iX9_scanFrame_X9 rfl 5 (by decide) kX9_scanFrame_43 rfl ?_
  refine tv_aload_n X dX9_scanFrame_27 rfl ?_
  refine tv_aload_n X dX9_scanFrame_28 rfl ?_
  refine mm_getf X dX9_scanFrame_29 gX9 iX9_scanFrame_X9 rfl 4 (by decide) kX9_scanFrame_36 rfl ?_
  refine mm_callVv (q := (RX3, TX3, 6)) X dX9_scanFrame_32 (cX3_find_ok hb ctP_k.1 ctP_k.2) (cwV 2 X.2.2.2.2.1 gX9_scanFrame_X3_find rfl rfl rfl (by decide +kernel) ⟨Nat.le_of_ble_eq_true rfl, Nat.le_of_ble_eq_true rfl⟩) rfl rfl gX3 rfl (Nat.le_of_ble_eq_true rfl) ⟨Nat.zero_le _, Nat.zero_le _⟩ (fun S3 hq => ?_)
  rw [hq]
  clear hq
  have h1 : (mfS (ctP S b k).1 b (ctP S b k).2).1 103 5 = nI (ctP S b k).2 := by rw [mfS_n (by omega)]; exact ctP_k.1
  refine tv_aload_n X dX9_scanFrame_35 rfl ?_
  refine tv_aload_n X dX9_scanFrame_36 rfl ?_
  refine mm_getf X dX9_scanFrame_37 gX9 iX9_scanFrame_X9 rfl 4 (by decide) kX9_scanFrame_36 rfl ?_
  refine tv_aload_n X dX9_scanFrame_40 rfl ?_
  refine mm_getf X dX9_scanFrame_41 gX9 iX9_scanFrame_X9 rfl 5 (by decide) kX9_scanFrame_43 rfl ?_
  refine mm_callVi (q := (RX6, TX6, 6)) X dX9_scanFrame_44 (cX6_takeFrame_ok hb h1 mfS_5 ctP_k.2 mfS_4 (tkA_lt ctP_k.2 6) (fun t ht => ⟨mfS_126 ht, fun c hc => (fbN_lt hc).1⟩)) (cwV 2 X.2.2.2.2.1 gX9_scanFrame_X6_takeFrame rfl rfl rfl (by decide +kernel) ⟨Nat.le_of_ble_eq_true rfl, Nat.le_of_ble_eq_true rfl⟩) rfl rfl (gX6 hb) rfl (Nat.le_of_ble_eq_true rfl) ⟨Nat.zero_le _, Nat.zero_le _⟩ (fun r S4 hq => ?_)
  obtain ⟨hq1, hq2⟩ := hq
  rw [mfS_n (q := b) (by omega), ctP_n (q := b) (by omega)] at hq2
  rw [hq1, hq2]
  exact tv_iret X hrt dX9_scanFrame_47 ⟨_, rfl, k, hk, hfl, rfl, rfl⟩
end C26

