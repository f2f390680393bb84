/-- the saved states' blocks: six, apart, none of them the two others -/
def pmOk (S : mS) : Prop := (∀ i, i < 6 → mst (S.2.1 i) = true ∧ 27 ≤ S.2.1 i) ∧ ∀ i j, i < 6 → j < 6 → S.2.1 i = S.2.1 j → i = j
def rot (pm : Nat → Nat) : Nat → Nat := fun i => if i < 5 then pm (i + 1) else if i = 5 then pm 0 else pm i
section C25
variable {l : Launch} {D : va_G} {n0 : Nat} {ft : tv_ft} {n : Nat} {S : mS} {b : Nat}
theorem iX2_dropOldest_X2 : ∀ w ∈ wsX20, w ∈ wsX2_dropOldest := by decide +kernel
theorem kX2_dropOldest_11 : Cond.fieldLink RX2 11 (TX2 0).1 (TX2 0).2.1 (TX2 0).2.2.1 ∈ wsX2_dropOldest := by decide +kernel
theorem kX2_dropOldest_16 : Cond.fieldLink RX2 16 (TX2 1).1 (TX2 1).2.1 (TX2 1).2.2.1 ∈ wsX2_dropOldest := by decide +kernel
theorem cX2_dropOldest_ok (hpm : pmOk S) : mMv l yX2_dropOldest wsX2_dropOldest rmX2_dropOldest D n0 ft [.ref (n0 + 25)] n S (fun S' => S' = mupd (S.1, (rot S.2.1, S.2.2)) 25 1 5) := by
  have hp : ∀ i, i < 6 → mst (S.2.1 i) = true := fun i hi => (hpm.1 i hi).1
  refine tv_enter (cc := cX2_dropOldest) (maxL := 3) (ret := none) (by decide) rfl (Nat.le_of_ble_eq_true rfl) ?_
  intro p e s m args below meth c X hrt hnm hargs
  refine tv_aload_n X dX2_dropOldest_0 rfl ?_
  refine mm_getf X dX2_dropOldest_1 gX2 iX2_dropOldest_X2 rfl 0 (by decide) kX2_dropOldest_11 rfl ?_
  refine tv_iconst (v := 0) X dX2_dropOldest_4 (by decide) ?_
  refine mm_aald X dX2_dropOldest_5 g26 rfl 0 (by decide) (by decide) rfl (by decide) ?_
  refine tv_astore_n X dX2_dropOldest_6 rfl ?_
  refine tv_iconst (v := 1) X dX2_dropOldest_7 (by decide) ?_
  refine tv_istore_n X dX2_dropOldest_8 rfl ?_
  refine mm_L (L' := [(0, .ref (n0 + 25)), (1, .ref (n0 + S.2.1 0)), (2, .int 1)]) rfl ?_
  refine tv_iload_n X dX2_dropOldest_9 rfl ?_
  refine tv_bipush (v := 6) X dX2_dropOldest_10 (by decide) ?_
  refine tv_icmp_ge (tgt := 35) X dX2_dropOldest_12 (by decide) (fun h1 => ?_) (fun h1 => ?_)
  · exact absurd h1 (by decide)
  refine tv_aload_n X dX2_dropOldest_15 rfl ?_
  refine mm_getf X dX2_dropOldest_16 gX2 iX2_dropOldest_X2 rfl 0 (by decide) kX2_dropOldest_11 rfl ?_
  refine tv_iload_n X dX2_dropOldest_19 rfl ?_
  refine tv_iconst (v := 1) X dX2_dropOldest_20 (by decide) ?_
  refine tv_isub X dX2_dropOldest_21 ?_
  refine tv_aload_n X dX2_dropOldest_22 rfl ?_
  refine mm_getf X dX2_dropOldest_23 gX2 iX2_dropOldest_X2 rfl 0 (by decide) kX2_dropOldest_11 rfl ?_
  refine tv_iload_n X dX2_dropOldest_26 rfl ?_
  refine mm_aald X dX2_dropOldest_27 g26 rfl 1 rfl (by decide) rfl (by decide) ?_
  refine mm_ast26 X dX2_dropOldest_28 (hp 1 (by decide)) 0 (by decide) (by decide) ?_
  refine tv_iinc X dX2_dropOldest_29 rfl (show (1 : Int32) + Int32.ofInt 1 = 2 by decide) rfl ?_
  refine tv_goto (tgt := 9) X dX2_dropOldest_32 (by decide) ?_
  refine mm_L (L' := [(0, .ref (n0 + 25)), (1, .ref (n0 + S.2.1 0)), (2, .int 2)]) rfl ?_
  refine tv_iload_n X dX2_dropOldest_9 rfl ?_
  refine tv_bipush (v := 6) X dX2_dropOldest_10 (by decide) ?_
  refine tv_icmp_ge (tgt := 35) X dX2_dropOldest_12 (by decide) (fun h2 => ?_) (fun h2 => ?_)
  · exact absurd h2 (by decide)
  refine tv_aload_n X dX2_dropOldest_15 rfl ?_
  refine mm_getf X dX2_dropOldest_16 gX2 iX2_dropOldest_X2 rfl 0 (by decide) kX2_dropOldest_11 rfl ?_
  refine tv_iload_n X dX2_dropOldest_19 rfl ?_
  refine tv_iconst (v := 1) X dX2_dropOldest_20 (by decide) ?_
  refine tv_isub X dX2_dropOldest_21 ?_
  refine tv_aload_n X dX2_dropOldest_22 rfl ?_
  refine mm_getf X dX2_dropOldest_23 gX2 iX2_dropOldest_X2 rfl 0 (by decide) kX2_dropOldest_11 rfl ?_
  refine tv_iload_n X dX2_dropOldest_26 rfl ?_
  refine mm_aald X dX2_dropOldest_27 g26 rfl 2 rfl (by decide) rfl (by decide) ?_
  refine mm_ast26 X dX2_dropOldest_28 (hp 2 (by decide)) 1 (by decide) (by decide) ?_
  refine tv_iinc X dX2_dropOldest_29 rfl (show (2 : Int32) + Int32.ofInt 1 = 3 by decide) rfl ?_
  refine tv_goto (tgt := 9) X dX2_dropOldest_32 (by decide) ?_
  refine mm_L (L' := [(0, .ref (n0 + 25)), (1, .ref (n0 + S.2.1 0)), (2, .int 3)]) rfl ?_
  refine tv_iload_n X dX2_dropOldest_9 rfl ?_
  refine tv_bipush (v := 6) X dX2_dropOldest_10 (by decide) ?_
  refine tv_icmp_ge (tgt := 35) X dX2_dropOldest_12 (by decide) (fun h3 => ?_) (fun h3 => ?_)
  · exact absurd h3 (by decide)
  refine tv_aload_n X dX2_dropOldest_15 rfl ?_
  refine mm_getf X dX2_dropOldest_16 gX2 iX2_dropOldest_X2 rfl 0 (by decide) kX2_dropOldest_11 rfl ?_
  refine tv_iload_n X dX2_dropOldest_19 rfl ?_
  refine tv_iconst (v := 1) X dX2_dropOldest_20 (by decide) ?_
  refine tv_isub X dX2_dropOldest_21 ?_
  refine tv_aload_n X dX2_dropOldest_22 rfl ?_
  refine mm_getf X dX2_dropOldest_23 gX2 iX2_dropOldest_X2 rfl 0 (by decide) kX2_dropOldest_11 rfl ?_
  refine tv_iload_n X dX2_dropOldest_26 rfl ?_
  refine mm_aald X dX2_dropOldest_27 g26 rfl 3 rfl (by decide) rfl (by decide) ?_
  refine mm_ast26 X dX2_dropOldest_28 (hp 3 (by decide)) 2 (by decide) (by decide) ?_
  refine tv_iinc X dX2_dropOldest_29 rfl (show (3 : Int32) + Int32.ofInt 1 = 4 by decide) rfl ?_
  refine tv_goto (tgt := 9) X dX2_dropOldest_32 (by decide) ?_
  refine mm_L (L' := [(0, .ref (n0 + 25)), (1, .ref (n0 + S.2.1 0)), (2, .int 4)]) rfl ?_
  refine tv_iload_n X dX2_dropOldest_9 rfl ?_
  refine tv_bipush (v := 6) X dX2_dropOldest_10 (by decide) ?_
  refine tv_icmp_ge (tgt := 35) X dX2_dropOldest_12 (by decide) (fun h4 => ?_) (fun h4 => ?_)
  · exact absurd h4 (by decide)
  refine tv_aload_n X dX2_dropOldest_15 rfl ?_
  refine mm_getf X dX2_dropOldest_16 gX2 iX2_dropOldest_X2 rfl 0 (by decide) kX2_dropOldest_11 rfl ?_
  refine tv_iload_n X dX2_dropOldest_19 rfl ?_
  refine tv_iconst (v := 1) X dX2_dropOldest_20 (by decide) ?_
  refine tv_isub X dX2_dropOldest_21 ?_
  refine tv_aload_n X dX2_dropOldest_22 rfl ?_
  refine mm_getf X dX2_dropOldest_23 gX2 iX2_dropOldest_X2 rfl 0 (by decide) kX2_dropOldest_11 rfl ?_
  refine tv_iload_n X dX2_dropOldest_26 rfl ?_
  refine mm_aald X dX2_dropOldest_27 g26 rfl 4 rfl (by decide) rfl (by decide) ?_
  refine mm_ast26 X dX2_dropOldest_28 (hp 4 (by decide)) 3 (by decide) (by decide) ?_
  refine tv_iinc X dX2_dropOldest_29 rfl (show (4 : Int32) + Int32.ofInt 1 = 5 by decide) rfl ?_
  refine tv_goto (tgt := 9) X dX2_dropOldest_32 (by decide) ?_
  refine mm_L (L' := [(0, .ref (n0 + 25)), (1, .ref (n0 + S.2.1 0)), (2, .int 5)]) rfl ?_
  refine tv_iload_n X dX2_dropOldest_9 rfl ?_
  refine tv_bipush (v := 6) X dX2_dropOldest_10 (by decide) ?_
  refine tv_icmp_ge (tgt := 35) X dX2_dropOldest_12 (by decide) (fun h5 => ?_) (fun h5 => ?_)
  · exact absurd h5 (by decide)
  refine tv_aload_n X dX2_dropOldest_15 rfl ?_
  refine mm_getf X dX2_dropOldest_16 gX2 iX2_dropOldest_X2 rfl 0 (by decide) kX2_dropOldest_11 rfl ?_
  refine tv_iload_n X dX2_dropOldest_19 rfl ?_
  refine tv_iconst (v := 1) X dX2_dropOldest_20 (by decide) ?_
  refine tv_isub X dX2_dropOldest_21 ?_
  refine tv_aload_n X dX2_dropOldest_22 rfl ?_
  refine mm_getf X dX2_dropOldest_23 gX2 iX2_dropOldest_X2 rfl 0 (by decide) kX2_dropOldest_11 rfl ?_
  refine tv_iload_n X dX2_dropOldest_26 rfl ?_
  refine mm_aald X dX2_dropOldest_27 g26 rfl 5 rfl (by decide) rfl (by decide) ?_
  refine mm_ast26 X dX2_dropOldest_28 (hp 5 (by decide)) 4 (by decide) (by decide) ?_
  refine tv_iinc X dX2_dropOldest_29 rfl (show (5 : Int32) + Int32.ofInt 1 = 6 by decide) rfl ?_
  refine tv_goto (tgt := 9) X dX2_dropOldest_32 (by decide) ?_
  refine mm_L (L' := [(0, .ref (n0 + 25)), (1, .ref (n0 + S.2.1 0)), (2, .int 6)]) rfl ?_
  refine tv_iload_n X dX2_dropOldest_9 rfl ?_
  refine tv_bipush (v := 6) X dX2_dropOldest_10 (by decide) ?_
  refine tv_icmp_ge (tgt := 35) X dX2_dropOldest_12 (by decide) (fun h9 => ?_) (fun h9 => ?_)
  rotate_left
  · exact absurd (by decide) h9
  refine tv_aload_n X dX2_dropOldest_35 rfl ?_
  refine mm_getf X dX2_dropOldest_36 gX2 iX2_dropOldest_X2 rfl 0 (by decide) kX2_dropOldest_11 rfl ?_
  refine tv_iconst (v := 5) X dX2_dropOldest_39 (by decide) ?_
  refine tv_aload_n X dX2_dropOldest_40 rfl ?_
  refine mm_ast26 X dX2_dropOldest_41 (hp 0 (by decide)) 5 (by decide) (by decide) ?_
  refine tv_aload_n X dX2_dropOldest_42 rfl ?_
  refine tv_iconst (v := 5) X dX2_dropOldest_43 (by decide) ?_
  refine mm_put X dX2_dropOldest_44 gX2 iX2_dropOldest_X2 rfl tyX2 tyX2_ok nmX2 1 (by decide) kX2_dropOldest_16 rfl rfl rfl (Nat.le_of_ble_eq_true rfl) rfl ?_
  refine tv_vret X hrt dX2_dropOldest_47 ⟨_, rfl, ?_⟩
  refine congrArg (fun z => mupd z 25 1 5) ?_
  refine Prod.ext rfl (Prod.ext (funext fun i => ?_) rfl)
  show (if i = 5 then S.2.1 0 else if i = 4 then S.2.1 5 else if i = 3 then S.2.1 4 else if i = 2 then S.2.1 3 else if i = 1 then S.2.1 2 else if i = 0 then S.2.1 1 else S.2.1 i) = rot S.2.1 i
  unfold rot
  rcases (show i = 0 ∨ i = 1 ∨ i = 2 ∨ i = 3 ∨ i = 4 ∨ i = 5 ∨ 6 ≤ i by omega) with rfl | rfl | rfl | rfl | rfl | rfl | h
  · rfl
  · rfl
  · rfl
  · rfl
  · rfl
  · rfl
  · have h1 : ¬ i = 5 := by omega
    have h2 : ¬ i = 4 := by omega
    have h3 : ¬ i = 3 := by omega
    have h4 : ¬ i = 2 := by omega
    have h5 : ¬ i = 1 := by omega
    have h6 : ¬ i = 0 := by omega
    have h7 : ¬ i < 5 := by omega
    rw [if_neg h1, if_neg h2, if_neg h3, if_neg h4, if_neg h5, if_neg h6, if_neg h7, if_neg h1]
/-- the order behind a save, and where it was saved -/
def svP (S : mS) (h : Nat) : Nat → Nat := if h = 6 then rot S.2.1 else S.2.1
def svI (h : Nat) : Nat := if h = 6 then 5 else h
theorem rot_ok {S : mS} {f : Nat → Nat → Int32} {lo : Nat × Nat} (h : pmOk S) : pmOk (f, (rot S.2.1, lo)) := by
  have key : ∀ i, i < 6 → ∃ j, j < 6 ∧ rot S.2.1 i = S.2.1 j ∧ (j = i + 1 ∨ (i = 5 ∧ j = 0)) := by
    intro i hi
    unfold rot
    by_cases h5 : i < 5
    · exact ⟨i + 1, by omega, if_pos h5, Or.inl rfl⟩
    · have h6 : i = 5 := by omega
      exact ⟨0, by omega, by rw [if_neg h5, if_pos h6], Or.inr ⟨h6, rfl⟩⟩
  refine ⟨fun i hi => ?_, fun i j hi hj he => ?_⟩
  · obtain ⟨k, hk, he, -⟩ := key i hi
    show mst (rot S.2.1 i) = true ∧ 27 ≤ rot S.2.1 i
    rw [he]
    exact h.1 k hk
  · obtain ⟨a, ha, ea, ca⟩ := key i hi
    obtain ⟨c, hc, ec, cc⟩ := key j hj
    have := h.2 a c ha hc (by rw [← ea, ← ec]; exact he)
    omega
theorem svP_ok {S : mS} {h : Nat} {f : Nat → Nat → Int32} {lo : Nat × Nat} (hp : pmOk S) : pmOk (f, (svP S h, lo)) := by
  unfold svP
  split
  · exact rot_ok hp
  · exact hp
theorem iX2_save_X2 : ∀ w ∈ wsX20, w ∈ wsX2_save := by decide +kernel
theorem kX2_save_11 : Cond.fieldLink RX2 11 (TX2 0).1 (TX2 0).2.1 (TX2 0).2.2.1 ∈ wsX2_save := by decide +kernel
theorem kX2_save_16 : Cond.fieldLink RX2 16 (TX2 1).1 (TX2 1).2.1 (TX2 1).2.2.1 ∈ wsX2_save := by decide +kernel
theorem cX2_save_ok (hpm : pmOk S) {h : Nat} (hh : S.1 25 1 = nI h) (hh6 : h ≤ 6) (hd : trOk S 1) : mMv l yX2_save wsX2_save rmX2_save D n0 ft [.ref (n0 + 25), .ref (n0 + 1)] n S (fun S' => S'.2 = (svP S h, S.2.2) ∧ (∀ q, q ≠ 25 → (q < svP S h (svI h) ∨ svP S h (svI h) + 12 ≤ q) → S'.1 q = S.1 q) ∧ S'.1 25 1 = nI (svI h + 1) ∧ stEq S' (svP S h (svI h)) S 1) := by
  have hsi : svI h < 6 := by unfold svI; split <;> omega
  have hpo : pmOk (S.1, (svP S h, S.2.2)) := svP_ok hpm
  have hb := (hpo.1 (svI h) hsi).1
  have hb27 : 27 ≤ svP S h (svI h) := (hpo.1 (svI h) hsi).2
  have hble : svP S h (svI h) ≤ 87 := (mst_le hb).2
  refine tv_enter (cc := cX2_save) (maxL := 2) (ret := none) (by decide) rfl (Nat.le_of_ble_eq_true rfl) ?_
  intro p e s m args below meth c X hrt hnm hargs
  refine tv_aload_n X dX2_save_0 rfl ?_
  refine mm_getf X dX2_save_1 gX2 iX2_save_X2 rfl 1 (by decide) kX2_save_16 rfl ?_
  refine tv_bipush (v := 6) X dX2_save_4 (by decide) ?_
  rw [hh]
  refine mm_cut (pc := 13) (fun _ : Unit => True) (fun _ => [(0, .ref (n0 + 25)), (1, .ref (n0 + 1))]) (fun _ => []) (fun _ => mupd (S.1, (svP S h, S.2.2)) 25 1 (nI (svI h))) ?_ ?_
  rotate_left
  · intro hcut
    refine tv_icmp_lt (tgt := 13) X dX2_save_6 (by decide) (fun h1 => ?_) (fun h1 => ?_)
    · have hlt : h ≠ 6 := fun he => nI_ge (a := h) (b := 7) (by omega) (by decide) (by rw [he] at h1; exact absurd h1 (by decide))
      have e1 : svP S h = S.2.1 := if_neg hlt
      have e2 : svI h = h := if_neg hlt
      refine mm_st ?_ (hcut () trivial)
      rw [e1, e2]
      refine mS_ext (fun q => ?_) rfl
      show S.1 q = if q = 25 then upd (S.1 25) 1 (nI h) else S.1 q
      by_cases hq : q = 25
      · rw [if_pos hq, hq]
        funext j
        show _ = if j = 1 then _ else _
        by_cases hj : j = 1
        · rw [if_pos hj, hj, hh]
        · rw [if_neg hj]
      · rw [if_neg hq]
    · have he : h = 6 := by
        have : ¬ h < 6 := fun hl => h1 (nI_lt (b := 6) hl (by decide))
        omega
      refine tv_aload_n X dX2_save_9 rfl ?_
      refine mm_callVv (q := (RX2, TX2, 2)) X dX2_save_10 (cX2_dropOldest_ok hpm) (cwV 0 X.2.2.2.2.1 gX2_save_X2_dropOldest rfl rfl rfl (by decide +kernel) ⟨Nat.le_of_ble_eq_true rfl, Nat.le_of_ble_eq_true rfl⟩) rfl rfl gX2 rfl (Nat.le_of_ble_eq_true rfl) ⟨Nat.zero_le _, Nat.zero_le _⟩ (fun S1 hq => ?_)
      rw [hq]
      have e1 : svP S h = rot S.2.1 := if_pos he
      have e2 : svI h = 5 := if_pos he
      refine mm_st ?_ (hcut () trivial)
      rw [e1, e2]
      rfl
  intro _ _
  generalize hS1 : mupd (S.1, (svP S h, S.2.2)) 25 1 (nI (svI h)) = S1
  have s2 : S1.2 = (svP S h, S.2.2) := by rw [← hS1]; rfl
  have s25 : S1.1 25 1 = nI (svI h) := by rw [← hS1]; exact mupd_ss
  have sq : ∀ q, q ≠ 25 → S1.1 q = S.1 q := fun q hq => by rw [← hS1, mupd_n hq]
  have hbv : mst (S1.2.1 (svI h)) = true := by rw [s2]; exact hb
  have hd1 : trOk S1 1 := fun j hj => by rw [sq _ (by omega)]; exact hd j hj
  refine tv_aload_n X dX2_save_13 rfl ?_
  refine mm_getf X dX2_save_14 gX2 iX2_save_X2 rfl 0 (by decide) kX2_save_11 rfl ?_
  refine tv_aload_n X dX2_save_17 rfl ?_
  refine mm_getf X dX2_save_18 gX2 iX2_save_X2 rfl 1 (by decide) kX2_save_16 rfl ?_
  rw [s25]
  refine mm_aald X dX2_save_21 g26 rfl (svI h) rfl hsi rfl (by decide) ?_
  refine tv_aload_n X dX2_save_22 rfl ?_
  refine mm_callVv (q := (RX6, TX6, 6)) X dX2_save_23 (cX6_copyFrom_ok hbv (b2 := 1) rfl (by rw [s2]; show svP S h (svI h) ≠ 1; omega) hd1) (cwV 1 X.2.2.2.2.1 gX2_save_X6_copyFrom rfl rfl rfl (by decide +kernel) ⟨Nat.le_of_ble_eq_true rfl, Nat.le_of_ble_eq_true rfl⟩) rfl rfl (gX6 hbv) rfl (Nat.le_of_ble_eq_true rfl) ⟨Nat.zero_le _, Nat.zero_le _⟩ (fun S2 hq => ?_)
  obtain ⟨⟨f1, f2⟩, e1, e2, e3, e4, e5⟩ := hq
  rw [s2] at f2 e1 e2 e3 e4 e5
  have t25 : S2.1 25 1 = nI (svI h) := by rw [f2 25 (Or.inl (by show 25 < svP S h (svI h); omega))]; exact s25
  refine tv_aload_n X dX2_save_26 rfl ?_
  refine tv_dup X dX2_save_27 rfl ?_
  refine mm_getf X dX2_save_28 gX2 iX2_save_X2 rfl 1 (by decide) kX2_save_16 rfl ?_
  rw [t25]
  refine tv_iconst (v := 1) X dX2_save_31 (by decide) ?_
  refine tv_iadd X dX2_save_32 ?_
  rw [nI_1]
  refine mm_put X dX2_save_33 gX2 iX2_save_X2 rfl tyX2 tyX2_ok nmX2 1 (by decide) kX2_save_16 rfl rfl rfl (Nat.le_of_ble_eq_true rfl) rfl ?_
  refine tv_vret X hrt dX2_save_36 ⟨_, rfl, ?_, ?_, ?_, ?_, ?_, ?_, ?_, ?_⟩
  · exact f1.trans s2
  · intro q hq hr
    rw [mupd_n hq, f2 q hr, sq q hq]
  · exact mupd_ss
  · intro k hk
    rw [mupd_n (by omega), e1 k hk, sq _ (by omega)]
  · intro k hk
    rw [mupd_n (by omega), e2 k hk, sq _ (by omega)]
  · intro k hk
    rw [mupd_n (by omega), e3 k hk, sq _ (by omega)]
  · intro j hj k hk
    rw [mupd_n (by omega), e4 j hj k hk, sq _ (by omega)]
  · intro k h3 h6
    rw [mupd_n (by omega), e5 k h3 h6, sq _ (by omega)]
theorem iX2_restore_X2 : ∀ w ∈ wsX20, w ∈ wsX2_restore := by decide +kernel
theorem kX2_restore_11 : Cond.fieldLink RX2 11 (TX2 0).1 (TX2 0).2.1 (TX2 0).2.2.1 ∈ wsX2_restore := by decide +kernel
theorem kX2_restore_16 : Cond.fieldLink RX2 16 (TX2 1).1 (TX2 1).2.1 (TX2 1).2.2.1 ∈ wsX2_restore := by decide +kernel
theorem cX2_restore_ok (hpm : pmOk S) {h : Nat} (hh : S.1 25 1 = nI h) (hh6 : h ≤ 6) (h0 : 0 < h) (hd : trOk S (S.2.1 (h - 1))) : mMv l yX2_restore wsX2_restore rmX2_restore D n0 ft [.ref (n0 + 25), .ref (n0 + 1)] n S (fun S' => S'.2 = S.2 ∧ (∀ q, q ≠ 25 → (q < 1 ∨ 13 ≤ q) → S'.1 q = S.1 q) ∧ S'.1 25 1 = nI (h - 1) ∧ stEq S' 1 S (S.2.1 (h - 1))) := by
  have hb := (hpm.1 (h - 1) (by omega)).1
  have hb27 := (hpm.1 (h - 1) (by omega)).2
  have hble := (mst_le hb).2
  refine tv_enter (cc := cX2_restore) (maxL := 2) (ret := none) (by decide) rfl (Nat.le_of_ble_eq_true rfl) ?_
  intro p e s m args below meth c X hrt hnm hargs
  refine tv_aload_n X dX2_restore_0 rfl ?_
  refine mm_getf X dX2_restore_1 gX2 iX2_restore_X2 rfl 1 (by decide) kX2_restore_16 rfl ?_
  rw [hh]
  refine tv_if_le (tgt := 30) X dX2_restore_4 (by decide) (fun h1 => ?_) (fun h1 => ?_)
  · exact absurd h1 (nI_nle h0 (by omega))
  refine tv_aload_n X dX2_restore_7 rfl ?_
  refine tv_dup X dX2_restore_8 rfl ?_
  refine mm_getf X dX2_restore_9 gX2 iX2_restore_X2 rfl 1 (by decide) kX2_restore_16 rfl ?_
  rw [hh]
  refine tv_iconst (v := 1) X dX2_restore_12 (by decide) ?_
  refine tv_isub X dX2_restore_13 ?_
  rw [show nI h - 1 = nI (h - 1) from pk_sub (b := 1) (by omega)]
  refine mm_put X dX2_restore_14 gX2 iX2_restore_X2 rfl tyX2 tyX2_ok nmX2 1 (by decide) kX2_restore_16 rfl rfl rfl (Nat.le_of_ble_eq_true rfl) rfl ?_
  refine tv_aload_n X dX2_restore_17 rfl ?_
  refine tv_aload_n X dX2_restore_18 rfl ?_
  refine mm_getf X dX2_restore_19 gX2 iX2_restore_X2 rfl 0 (by decide) kX2_restore_11 rfl ?_
  refine tv_aload_n X dX2_restore_22 rfl ?_
  refine mm_getf X dX2_restore_23 gX2 iX2_restore_X2 rfl 1 (by decide) kX2_restore_16 rfl ?_
  rw [mupd_ss]
  refine mm_aald X dX2_restore_26 g26 rfl (h - 1) rfl (by omega) rfl (by decide) ?_
  have hd1 : trOk (mupd S 25 1 (nI (h - 1))) (S.2.1 (h - 1)) := fun j hj => by rw [mupd_n (by omega)]; exact hd j hj
  refine mm_callVv (q := (RX6, TX6, 6)) X dX2_restore_27 (cX6_copyFrom_ok (b := 1) rfl hb (by omega) hd1) (cwV 1 X.2.2.2.2.1 gX2_restore_X6_copyFrom rfl rfl rfl (by decide +kernel) ⟨Nat.le_of_ble_eq_true rfl, Nat.le_of_ble_eq_true rfl⟩) rfl rfl (gX6 (show mst 1 = true from rfl)) rfl (Nat.le_of_ble_eq_true rfl) ⟨Nat.zero_le _, Nat.zero_le _⟩ (fun S2 hq => ?_)
  obtain ⟨⟨f1, f2⟩, e1, e2, e3, e4, e5⟩ := hq
  refine tv_vret X hrt dX2_restore_30 ⟨_, rfl, ?_, ?_, ?_, ?_, ?_, ?_, ?_, ?_⟩
  · exact f1
  · intro q hq hr
    rw [f2 q (by omega), mupd_n hq]
  · rw [f2 25 (by omega)]
    exact mupd_ss
  · intro k hk
    rw [e1 k hk, mupd_n (by omega)]
  · intro k hk
    rw [e2 k hk, mupd_n (by omega)]
  · intro k hk
    rw [e3 k hk, mupd_n (by omega)]
  · intro j hj k hk
    rw [e4 j hj k hk, mupd_n (by omega)]
  · intro k h3 h6
    rw [e5 k h3 h6, mupd_n (by omega)]
end C25

