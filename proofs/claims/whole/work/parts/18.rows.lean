/-- what the reader becomes at a character, and whether it goes on -/
def accCmd (w : Nat → Int32) (x : Int32) : Nat → Int32 := upd (upd w 1 x) 0 (if x = 112 then 1 else 6)
def accOk0 (x : Int32) : Bool := decide (x = 112 ∨ x = 120 ∨ x = 98 ∨ x = 115)
def accBeh (w : Nat → Int32) (x : Int32) : (Nat → Int32) × Bool :=
  if x = 59 then (upd w 0 0, true) else if w 0 = 5 ∧ 48 ≤ x ∧ x ≤ 57 then (upd w 4 (10 * w 4 + x - 48), decide (10 * w 4 + x - 48 ≤ 255)) else (w, false)
def accR (w : Nat → Int32) (x : Int32) : (Nat → Int32) × Bool :=
  if w 0 = 0 then (accCmd w x, accOk0 x)
  else if w 0 = 1 then (upd (upd w 2 (x - 48)) 0 2, decide (0 ≤ x - 48 ∧ x - 48 < 8))
  else if w 0 = 2 then (upd (upd w 3 (x - 48)) 0 3, decide (0 ≤ x - 48 ∧ x - 48 < 6))
  else if w 0 = 3 then (upd w 0 4, decide (x = 44))
  else if w 0 = 4 then (upd (upd w 4 (x - 48)) 0 5, decide (1 ≤ x - 48 ∧ x - 48 ≤ 9))
  else accBeh w x
section C18
variable {l : Launch} {D : va_G} {n0 : Nat} {ft : Nat × Nat × Nat} {n : Nat} {S : mS} {b : Nat}
theorem iX0_begin_X0 : ∀ w ∈ wsX00, w ∈ wsX0_begin := by decide +kernel
theorem kX0_begin_11 : Cond.fieldLink RX0 11 (TX0 0).1 (TX0 0).2.1 (TX0 0).2.2.1 ∈ wsX0_begin := by decide +kernel
theorem cX0_begin_ok : mMv l yX0_begin wsX0_begin rmX0_begin D n0 ft [.ref (n0 + 129)] n S (fun S' => S' = mupd S 129 0 0) := by
  refine tv_enter (cc := cX0_begin) (maxL := 1) (ret := none) (by decide) rfl (Nat.le_of_ble_eq_true rfl) ?_
  intro p e s m args below meth c X hrt hnm hargs
  refine tv_aload_n X dX0_begin_0 rfl ?_
  refine tv_iconst (v := 0) X dX0_begin_1 (by decide) ?_
  refine mm_put X dX0_begin_2 gX0 iX0_begin_X0 rfl tyX0 tyX0_ok nmX0 0 (by decide) kX0_begin_11 rfl rfl rfl (Nat.le_of_ble_eq_true rfl) rfl ?_
  exact tv_vret X hrt dX0_begin_5 ⟨_, rfl, rfl⟩
theorem iX0_isComplete_X0 : ∀ w ∈ wsX00, w ∈ wsX0_isComplete := by decide +kernel
theorem kX0_isComplete_11 : Cond.fieldLink RX0 11 (TX0 0).1 (TX0 0).2.1 (TX0 0).2.2.1 ∈ wsX0_isComplete := by decide +kernel
theorem cX0_isComplete_ok : mMi l yX0_isComplete wsX0_isComplete rmX0_isComplete D n0 ft [.ref (n0 + 129)] n S (fun r S' => S' = S ∧ r = if S.1 129 0 = 5 ∨ S.1 129 0 = 6 then 1 else 0) := by
  refine tv_enter (cc := cX0_isComplete) (maxL := 1) (ret := (some .boolean)) (by decide) rfl (Nat.le_of_ble_eq_true rfl) ?_
  intro p e s m args below meth c X hrt hnm hargs
  refine tv_aload_n X dX0_isComplete_0 rfl ?_
  refine mm_getf X dX0_isComplete_1 gX0 iX0_isComplete_X0 rfl 0 (by decide) kX0_isComplete_11 rfl ?_
  refine tv_iconst (v := 5) X dX0_isComplete_4 (by decide) ?_
  refine tv_icmp_eq (tgt := 17) X dX0_isComplete_5 (by decide) (fun h1 => ?_) (fun h1 => ?_)
  · refine tv_iconst (v := 1) X dX0_isComplete_17 (by decide) ?_
    refine tv_goto (tgt := 22) X dX0_isComplete_18 (by decide) ?_
    exact tv_zret X hrt dX0_isComplete_22 rfl ⟨_, rfl, rfl, (if_pos (Or.inl h1)).symm⟩
  refine tv_aload_n X dX0_isComplete_8 rfl ?_
  refine mm_getf X dX0_isComplete_9 gX0 iX0_isComplete_X0 rfl 0 (by decide) kX0_isComplete_11 rfl ?_
  refine tv_bipush (v := 6) X dX0_isComplete_12 (by decide) ?_
  refine tv_icmp_ne (tgt := 21) X dX0_isComplete_14 (by decide) (fun h2 => ?_) (fun h2 => ?_)
  · refine tv_iconst (v := 0) X dX0_isComplete_21 (by decide) ?_
    exact tv_zret X hrt dX0_isComplete_22 rfl ⟨_, rfl, rfl, (if_neg (fun h => h.elim h1 h2)).symm⟩
  · refine tv_iconst (v := 1) X dX0_isComplete_17 (by decide) ?_
    refine tv_goto (tgt := 22) X dX0_isComplete_18 (by decide) ?_
    exact tv_zret X hrt dX0_isComplete_22 rfl ⟨_, rfl, rfl, (if_pos (Or.inr h2)).symm⟩
theorem iX0_acceptsCommand_X0 : ∀ w ∈ wsX00, w ∈ wsX0_acceptsCommand := by decide +kernel
theorem kX0_acceptsCommand_11 : Cond.fieldLink RX0 11 (TX0 0).1 (TX0 0).2.1 (TX0 0).2.2.1 ∈ wsX0_acceptsCommand := by decide +kernel
theorem kX0_acceptsCommand_31 : Cond.fieldLink RX0 31 (TX0 1).1 (TX0 1).2.1 (TX0 1).2.2.1 ∈ wsX0_acceptsCommand := by decide +kernel
theorem cX0_acceptsCommand_ok (x : Int32) : mMi l yX0_acceptsCommand wsX0_acceptsCommand rmX0_acceptsCommand D n0 ft [.ref (n0 + 129), .int x] n S (fun r S' => S' = mset S 129 (accCmd (S.1 129) x) ∧ r = if accOk0 x = true then 1 else 0) := by
  refine tv_enter (cc := cX0_acceptsCommand) (maxL := 2) (ret := (some .boolean)) (by decide) rfl (Nat.le_of_ble_eq_true rfl) ?_
  intro p e s m args below meth c X hrt hnm hargs
  have key : ∀ S1 : mS, S1 = mset S 129 (accCmd (S.1 129) x) → tv_V p l e rmX0_acceptsCommand s m args below meth c (MQ below (va_Qi (fun r u => ∃ S', u = (n, mH n0 S') ∧ (fun (r : Int32) S' => S' = mset S 129 (accCmd (S.1 129) x) ∧ r = if accOk0 x = true then 1 else 0) r S') (tv_B D vwCl n0) (tv_A n0)) args s 0 0 (tv_A n0)) D vwCl n0 0 0 2 21 [(0, .ref (n0 + 129)), (1, .int x)] [] n (mH n0 S1) := by
    intro S1 hS1
    refine tv_iload_n X dX0_acceptsCommand_21 rfl ?_
    refine tv_bipush (v := 112) X dX0_acceptsCommand_22 (by decide) ?_
    refine tv_icmp_eq (tgt := 45) X dX0_acceptsCommand_24 (by decide) (fun h1 => ?_) (fun h1 => ?_)
    · refine tv_iconst (v := 1) X dX0_acceptsCommand_45 (by decide) ?_
      refine tv_goto (tgt := 50) X dX0_acceptsCommand_46 (by decide) ?_
      exact tv_zret X hrt dX0_acceptsCommand_50 rfl ⟨_, rfl, hS1, by simp [accOk0, h1]⟩
    refine tv_iload_n X dX0_acceptsCommand_27 rfl ?_
    refine tv_bipush (v := 120) X dX0_acceptsCommand_28 (by decide) ?_
    refine tv_icmp_eq (tgt := 45) X dX0_acceptsCommand_30 (by decide) (fun h2 => ?_) (fun h2 => ?_)
    · refine tv_iconst (v := 1) X dX0_acceptsCommand_45 (by decide) ?_
      refine tv_goto (tgt := 50) X dX0_acceptsCommand_46 (by decide) ?_
      exact tv_zret X hrt dX0_acceptsCommand_50 rfl ⟨_, rfl, hS1, by simp [accOk0, h2]⟩
    refine tv_iload_n X dX0_acceptsCommand_33 rfl ?_
    refine tv_bipush (v := 98) X dX0_acceptsCommand_34 (by decide) ?_
    refine tv_icmp_eq (tgt := 45) X dX0_acceptsCommand_36 (by decide) (fun h3 => ?_) (fun h3 => ?_)
    · refine tv_iconst (v := 1) X dX0_acceptsCommand_45 (by decide) ?_
      refine tv_goto (tgt := 50) X dX0_acceptsCommand_46 (by decide) ?_
      exact tv_zret X hrt dX0_acceptsCommand_50 rfl ⟨_, rfl, hS1, by simp [accOk0, h3]⟩
    refine tv_iload_n X dX0_acceptsCommand_39 rfl ?_
    refine tv_bipush (v := 115) X dX0_acceptsCommand_40 (by decide) ?_
    refine tv_icmp_ne (tgt := 49) X dX0_acceptsCommand_42 (by decide) (fun h4 => ?_) (fun h4 => ?_)
    · refine tv_iconst (v := 0) X dX0_acceptsCommand_49 (by decide) ?_
      exact tv_zret X hrt dX0_acceptsCommand_50 rfl ⟨_, rfl, hS1, by simp [accOk0, h1, h2, h3, h4]⟩
    · refine tv_iconst (v := 1) X dX0_acceptsCommand_45 (by decide) ?_
      refine tv_goto (tgt := 50) X dX0_acceptsCommand_46 (by decide) ?_
      exact tv_zret X hrt dX0_acceptsCommand_50 rfl ⟨_, rfl, hS1, by simp [accOk0, h4]⟩
  refine tv_aload_n X dX0_acceptsCommand_0 rfl ?_
  refine tv_iload_n X dX0_acceptsCommand_1 rfl ?_
  refine mm_put X dX0_acceptsCommand_2 gX0 iX0_acceptsCommand_X0 rfl tyX0 tyX0_ok nmX0 1 (by decide) kX0_acceptsCommand_31 rfl rfl rfl (Nat.le_of_ble_eq_true rfl) rfl ?_
  refine tv_aload_n X dX0_acceptsCommand_5 rfl ?_
  refine tv_iload_n X dX0_acceptsCommand_6 rfl ?_
  refine tv_bipush (v := 112) X dX0_acceptsCommand_7 (by decide) ?_
  refine tv_icmp_ne (tgt := 16) X dX0_acceptsCommand_9 (by decide) (fun h0 => ?_) (fun h0 => ?_)
  · refine tv_bipush (v := 6) X dX0_acceptsCommand_16 (by decide) ?_
    refine mm_put X dX0_acceptsCommand_18 gX0 iX0_acceptsCommand_X0 rfl tyX0 tyX0_ok nmX0 0 (by decide) kX0_acceptsCommand_11 rfl rfl rfl (Nat.le_of_ble_eq_true rfl) rfl ?_
    refine key _ ?_
    unfold accCmd
    rw [if_neg h0]
    simp only [mupd, mset_s, mset_mset]
  · refine tv_iconst (v := 1) X dX0_acceptsCommand_12 (by decide) ?_
    refine tv_goto (tgt := 18) X dX0_acceptsCommand_13 (by decide) ?_
    refine mm_put X dX0_acceptsCommand_18 gX0 iX0_acceptsCommand_X0 rfl tyX0 tyX0_ok nmX0 0 (by decide) kX0_acceptsCommand_11 rfl rfl rfl (Nat.le_of_ble_eq_true rfl) rfl ?_
    refine key _ ?_
    unfold accCmd
    rw [if_pos h0]
    simp only [mupd, mset_s, mset_mset]
theorem iX0_acceptsBehind_X0 : ∀ w ∈ wsX00, w ∈ wsX0_acceptsBehind := by decide +kernel
theorem kX0_acceptsBehind_11 : Cond.fieldLink RX0 11 (TX0 0).1 (TX0 0).2.1 (TX0 0).2.2.1 ∈ wsX0_acceptsBehind := by decide +kernel
theorem kX0_acceptsBehind_25 : Cond.fieldLink RX0 25 (TX0 4).1 (TX0 4).2.1 (TX0 4).2.2.1 ∈ wsX0_acceptsBehind := by decide +kernel
theorem cX0_acceptsBehind_ok (x : Int32) : mMi l yX0_acceptsBehind wsX0_acceptsBehind rmX0_acceptsBehind D n0 ft [.ref (n0 + 129), .int x] n S (fun r S' => S' = mset S 129 (accBeh (S.1 129) x).1 ∧ r = if (accBeh (S.1 129) x).2 = true then 1 else 0) := by
  refine tv_enter (cc := cX0_acceptsBehind) (maxL := 2) (ret := (some .boolean)) (by decide) rfl (Nat.le_of_ble_eq_true rfl) ?_
  intro p e s m args below meth c X hrt hnm hargs
  refine tv_iload_n X dX0_acceptsBehind_0 rfl ?_
  refine tv_bipush (v := 59) X dX0_acceptsBehind_1 (by decide) ?_
  refine tv_icmp_ne (tgt := 13) X dX0_acceptsBehind_3 (by decide) (fun h1 => ?_) (fun h1 => ?_)
  rotate_left
  · refine tv_aload_n X dX0_acceptsBehind_6 rfl ?_
    refine tv_iconst (v := 0) X dX0_acceptsBehind_7 (by decide) ?_
    refine mm_put X dX0_acceptsBehind_8 gX0 iX0_acceptsBehind_X0 rfl tyX0 tyX0_ok nmX0 0 (by decide) kX0_acceptsBehind_11 rfl rfl rfl (Nat.le_of_ble_eq_true rfl) rfl ?_
    refine tv_iconst (v := 1) X dX0_acceptsBehind_11 (by decide) ?_
    have hA : accBeh (S.1 129) x = (upd (S.1 129) 0 0, true) := by unfold accBeh; rw [if_pos h1]
    exact tv_zret X hrt dX0_acceptsBehind_12 rfl ⟨_, rfl, by rw [hA]; rfl, by rw [hA]; rfl⟩
  refine tv_aload_n X dX0_acceptsBehind_13 rfl ?_
  refine mm_getf X dX0_acceptsBehind_14 gX0 iX0_acceptsBehind_X0 rfl 0 (by decide) kX0_acceptsBehind_11 rfl ?_
  refine tv_iconst (v := 5) X dX0_acceptsBehind_17 (by decide) ?_
  refine tv_icmp_ne (tgt := 33) X dX0_acceptsBehind_18 (by decide) (fun h2 => ?_) (fun h2 => ?_)
  · refine tv_iconst (v := 0) X dX0_acceptsBehind_33 (by decide) ?_
    have hA : accBeh (S.1 129) x = (S.1 129, false) := by unfold accBeh; rw [if_neg h1, if_neg (fun h => h2 h.1)]
    exact tv_zret X hrt dX0_acceptsBehind_34 rfl ⟨_, rfl, by rw [hA]; exact mset_self.symm, by rw [hA]; rfl⟩
  refine tv_iload_n X dX0_acceptsBehind_21 rfl ?_
  refine tv_bipush (v := 48) X dX0_acceptsBehind_22 (by decide) ?_
  refine tv_icmp_lt (tgt := 33) X dX0_acceptsBehind_24 (by decide) (fun h3 => ?_) (fun h3 => ?_)
  · refine tv_iconst (v := 0) X dX0_acceptsBehind_33 (by decide) ?_
    have hA : accBeh (S.1 129) x = (S.1 129, false) := by unfold accBeh; rw [if_neg h1, if_neg (fun h => Int32.not_lt.mpr h.2.1 h3)]
    exact tv_zret X hrt dX0_acceptsBehind_34 rfl ⟨_, rfl, by rw [hA]; exact mset_self.symm, by rw [hA]; rfl⟩
  refine tv_iload_n X dX0_acceptsBehind_27 rfl ?_
  refine tv_bipush (v := 57) X dX0_acceptsBehind_28 (by decide) ?_
  refine tv_icmp_le (tgt := 35) X dX0_acceptsBehind_30 (by decide) (fun h4 => ?_) (fun h4 => ?_)
  rotate_left
  · refine tv_iconst (v := 0) X dX0_acceptsBehind_33 (by decide) ?_
    have hA : accBeh (S.1 129) x = (S.1 129, false) := by unfold accBeh; rw [if_neg h1, if_neg (fun h => h4 h.2.2)]
    exact tv_zret X hrt dX0_acceptsBehind_34 rfl ⟨_, rfl, by rw [hA]; exact mset_self.symm, by rw [hA]; rfl⟩
  have hA : accBeh (S.1 129) x = (upd (S.1 129) 4 (10 * S.1 129 4 + x - 48), decide (10 * S.1 129 4 + x - 48 ≤ 255)) := by unfold accBeh; rw [if_neg h1, if_pos ⟨h2, Int32.not_lt.mp h3, h4⟩]
  refine tv_aload_n X dX0_acceptsBehind_35 rfl ?_
  refine tv_bipush (v := 10) X dX0_acceptsBehind_36 (by decide) ?_
  refine tv_aload_n X dX0_acceptsBehind_38 rfl ?_
  refine mm_getf X dX0_acceptsBehind_39 gX0 iX0_acceptsBehind_X0 rfl 4 (by decide) kX0_acceptsBehind_25 rfl ?_
  refine tv_imul X dX0_acceptsBehind_42 ?_
  refine tv_iload_n X dX0_acceptsBehind_43 rfl ?_
  refine tv_iadd X dX0_acceptsBehind_44 ?_
  refine tv_bipush (v := 48) X dX0_acceptsBehind_45 (by decide) ?_
  refine tv_isub X dX0_acceptsBehind_47 ?_
  refine mm_put X dX0_acceptsBehind_48 gX0 iX0_acceptsBehind_X0 rfl tyX0 tyX0_ok nmX0 4 (by decide) kX0_acceptsBehind_25 rfl rfl rfl (Nat.le_of_ble_eq_true rfl) rfl ?_
  refine tv_aload_n X dX0_acceptsBehind_51 rfl ?_
  refine mm_getf X dX0_acceptsBehind_52 gX0 iX0_acceptsBehind_X0 rfl 4 (by decide) kX0_acceptsBehind_25 rfl ?_
  refine tv_sipush (v := 255) X dX0_acceptsBehind_55 (by decide) ?_
  rw [mupd_ss]
  refine tv_icmp_gt (tgt := 65) X dX0_acceptsBehind_58 (by decide) (fun h5 => ?_) (fun h5 => ?_)
  · refine tv_iconst (v := 0) X dX0_acceptsBehind_65 (by decide) ?_
    exact tv_zret X hrt dX0_acceptsBehind_66 rfl ⟨_, rfl, by rw [hA]; rfl, by rw [hA]; exact (if_neg (by simpa using Int32.not_le.mpr h5)).symm⟩
  · refine tv_iconst (v := 1) X dX0_acceptsBehind_61 (by decide) ?_
    refine tv_goto (tgt := 66) X dX0_acceptsBehind_62 (by decide) ?_
    exact tv_zret X hrt dX0_acceptsBehind_66 rfl ⟨_, rfl, by rw [hA]; rfl, by rw [hA]; exact (if_pos (by simpa using Int32.not_lt.mp h5)).symm⟩
theorem iX0_accepts_X0 : ∀ w ∈ wsX00, w ∈ wsX0_accepts := by decide +kernel
theorem kX0_accepts_11 : Cond.fieldLink RX0 11 (TX0 0).1 (TX0 0).2.1 (TX0 0).2.2.1 ∈ wsX0_accepts := by decide +kernel
theorem kX0_accepts_19 : Cond.fieldLink RX0 19 (TX0 2).1 (TX0 2).2.1 (TX0 2).2.2.1 ∈ wsX0_accepts := by decide +kernel
theorem kX0_accepts_22 : Cond.fieldLink RX0 22 (TX0 3).1 (TX0 3).2.1 (TX0 3).2.2.1 ∈ wsX0_accepts := by decide +kernel
theorem kX0_accepts_25 : Cond.fieldLink RX0 25 (TX0 4).1 (TX0 4).2.1 (TX0 4).2.2.1 ∈ wsX0_accepts := by decide +kernel
theorem cX0_accepts_ok (x : Int32) : mMi l yX0_accepts wsX0_accepts rmX0_accepts D n0 ft [.ref (n0 + 129), .int x] n S (fun r S' => S' = mset S 129 (accR (S.1 129) x).1 ∧ r = if (accR (S.1 129) x).2 = true then 1 else 0) := by
  refine tv_enter (cc := cX0_accepts) (maxL := 2) (ret := (some .boolean)) (by decide) rfl (Nat.le_of_ble_eq_true rfl) ?_
  intro p e s m args below meth c X hrt hnm hargs
  refine tv_aload_n X dX0_accepts_0 rfl ?_
  refine mm_getf X dX0_accepts_1 gX0 iX0_accepts_X0 rfl 0 (by decide) kX0_accepts_11 rfl ?_
  by_cases c0 : S.1 129 0 = 0
  · have hA : accR (S.1 129) x = (accCmd (S.1 129) x, accOk0 x) := by unfold accR; rw [if_pos c0]
    rw [c0]
    refine tv_tableIn (tgt := 40) X dX0_accepts_4 (by decide) (by decide) rfl (by decide) ?_
    refine tv_aload_n X dX0_accepts_40 rfl ?_
    refine tv_iload_n X dX0_accepts_41 rfl ?_
    refine mm_callVi (q := (RX0, TX0, 5)) X dX0_accepts_42 (cX0_acceptsCommand_ok x) (cwV 1 X.2.2.2.2.1 gX0_accepts_X0_acceptsCommand rfl rfl rfl (by decide +kernel) ⟨Nat.le_of_ble_eq_true rfl, Nat.le_of_ble_eq_true rfl⟩) rfl rfl gX0 rfl (Nat.le_of_ble_eq_true rfl) ⟨Nat.zero_le _, Nat.zero_le _⟩ (fun r S1 hq => ?_)
    obtain ⟨hq1, hq2⟩ := hq
    rw [hq1, hq2]
    refine tv_zret X hrt dX0_accepts_45 ?_ ⟨_, rfl, by rw [hA], by rw [hA]⟩
    split <;> rfl
  by_cases c1 : S.1 129 0 = 1
  · have hA : accR (S.1 129) x = (upd (upd (S.1 129) 2 (x - 48)) 0 2, decide (0 ≤ x - 48 ∧ x - 48 < 8)) := by unfold accR; rw [if_neg c0, if_pos c1]
    rw [c1]
    refine tv_tableIn (tgt := 46) X dX0_accepts_4 (by decide) (by decide) rfl (by decide) ?_
    refine tv_aload_n X dX0_accepts_46 rfl ?_
    refine tv_iload_n X dX0_accepts_47 rfl ?_
    refine tv_bipush (v := 48) X dX0_accepts_48 (by decide) ?_
    refine tv_isub X dX0_accepts_50 ?_
    refine mm_put X dX0_accepts_51 gX0 iX0_accepts_X0 rfl tyX0 tyX0_ok nmX0 2 (by decide) kX0_accepts_19 rfl rfl rfl (Nat.le_of_ble_eq_true rfl) rfl ?_
    refine tv_aload_n X dX0_accepts_54 rfl ?_
    refine tv_iconst (v := 2) X dX0_accepts_55 (by decide) ?_
    refine mm_put X dX0_accepts_56 gX0 iX0_accepts_X0 rfl tyX0 tyX0_ok nmX0 0 (by decide) kX0_accepts_11 rfl rfl rfl (Nat.le_of_ble_eq_true rfl) rfl ?_
    refine tv_aload_n X dX0_accepts_59 rfl ?_
    refine mm_getf X dX0_accepts_60 gX0 iX0_accepts_X0 rfl 2 (by decide) kX0_accepts_19 rfl ?_
    rw [mupd_sn (by decide), mupd_ss]
    have hS : mupd (mupd S 129 2 (x - 48)) 129 0 2 = mset S 129 (upd (upd (S.1 129) 2 (x - 48)) 0 2) := by simp only [mupd, mset_s, mset_mset]
    refine tv_if_lt (tgt := 79) X dX0_accepts_63 (by decide) (fun h1 => ?_) (fun h1 => ?_)
    · refine tv_iconst (v := 0) X dX0_accepts_79 (by decide) ?_
      exact tv_zret X hrt dX0_accepts_80 rfl ⟨_, rfl, by rw [hA]; exact hS, by rw [hA]; exact (if_neg (by simpa using fun h => absurd h (Int32.not_le.mpr h1))).symm⟩
    refine tv_aload_n X dX0_accepts_66 rfl ?_
    refine mm_getf X dX0_accepts_67 gX0 iX0_accepts_X0 rfl 2 (by decide) kX0_accepts_19 rfl ?_
    refine tv_bipush (v := 8) X dX0_accepts_70 (by decide) ?_
    rw [mupd_sn (by decide), mupd_ss]
    refine tv_icmp_ge (tgt := 79) X dX0_accepts_72 (by decide) (fun h2 => ?_) (fun h2 => ?_)
    · refine tv_iconst (v := 0) X dX0_accepts_79 (by decide) ?_
      exact tv_zret X hrt dX0_accepts_80 rfl ⟨_, rfl, by rw [hA]; exact hS, by rw [hA]; exact (if_neg (by simpa using fun _ => h2)).symm⟩
    · refine tv_iconst (v := 1) X dX0_accepts_75 (by decide) ?_
      refine tv_goto (tgt := 80) X dX0_accepts_76 (by decide) ?_
      exact tv_zret X hrt dX0_accepts_80 rfl ⟨_, rfl, by rw [hA]; exact hS, by rw [hA]; exact (if_pos (by simpa using ⟨Int32.not_lt.mp h1, Int32.not_le.mp h2⟩)).symm⟩
  by_cases c2 : S.1 129 0 = 2
  · have hA : accR (S.1 129) x = (upd (upd (S.1 129) 3 (x - 48)) 0 3, decide (0 ≤ x - 48 ∧ x - 48 < 6)) := by unfold accR; rw [if_neg c0, if_neg c1, if_pos c2]
    rw [c2]
    refine tv_tableIn (tgt := 81) X dX0_accepts_4 (by decide) (by decide) rfl (by decide) ?_
    refine tv_aload_n X dX0_accepts_81 rfl ?_
    refine tv_iload_n X dX0_accepts_82 rfl ?_
    refine tv_bipush (v := 48) X dX0_accepts_83 (by decide) ?_
    refine tv_isub X dX0_accepts_85 ?_
    refine mm_put X dX0_accepts_86 gX0 iX0_accepts_X0 rfl tyX0 tyX0_ok nmX0 3 (by decide) kX0_accepts_22 rfl rfl rfl (Nat.le_of_ble_eq_true rfl) rfl ?_
    refine tv_aload_n X dX0_accepts_89 rfl ?_
    refine tv_iconst (v := 3) X dX0_accepts_90 (by decide) ?_
    refine mm_put X dX0_accepts_91 gX0 iX0_accepts_X0 rfl tyX0 tyX0_ok nmX0 0 (by decide) kX0_accepts_11 rfl rfl rfl (Nat.le_of_ble_eq_true rfl) rfl ?_
    refine tv_aload_n X dX0_accepts_94 rfl ?_
    refine mm_getf X dX0_accepts_95 gX0 iX0_accepts_X0 rfl 3 (by decide) kX0_accepts_22 rfl ?_
    rw [mupd_sn (by decide), mupd_ss]
    have hS : mupd (mupd S 129 3 (x - 48)) 129 0 3 = mset S 129 (upd (upd (S.1 129) 3 (x - 48)) 0 3) := by simp only [mupd, mset_s, mset_mset]
    refine tv_if_lt (tgt := 114) X dX0_accepts_98 (by decide) (fun h1 => ?_) (fun h1 => ?_)
    · refine tv_iconst (v := 0) X dX0_accepts_114 (by decide) ?_
      exact tv_zret X hrt dX0_accepts_115 rfl ⟨_, rfl, by rw [hA]; exact hS, by rw [hA]; exact (if_neg (by simpa using fun h => absurd h (Int32.not_le.mpr h1))).symm⟩
    refine tv_aload_n X dX0_accepts_101 rfl ?_
    refine mm_getf X dX0_accepts_102 gX0 iX0_accepts_X0 rfl 3 (by decide) kX0_accepts_22 rfl ?_
    refine tv_bipush (v := 6) X dX0_accepts_105 (by decide) ?_
    rw [mupd_sn (by decide), mupd_ss]
    refine tv_icmp_ge (tgt := 114) X dX0_accepts_107 (by decide) (fun h2 => ?_) (fun h2 => ?_)
    · refine tv_iconst (v := 0) X dX0_accepts_114 (by decide) ?_
      exact tv_zret X hrt dX0_accepts_115 rfl ⟨_, rfl, by rw [hA]; exact hS, by rw [hA]; exact (if_neg (by simpa using fun _ => h2)).symm⟩
    · refine tv_iconst (v := 1) X dX0_accepts_110 (by decide) ?_
      refine tv_goto (tgt := 115) X dX0_accepts_111 (by decide) ?_
      exact tv_zret X hrt dX0_accepts_115 rfl ⟨_, rfl, by rw [hA]; exact hS, by rw [hA]; exact (if_pos (by simpa using ⟨Int32.not_lt.mp h1, Int32.not_le.mp h2⟩)).symm⟩
  by_cases c3 : S.1 129 0 = 3
  · have hA : accR (S.1 129) x = (upd (S.1 129) 0 4, decide (x = 44)) := by unfold accR; rw [if_neg c0, if_neg c1, if_neg c2, if_pos c3]
    rw [c3]
    refine tv_tableIn (tgt := 116) X dX0_accepts_4 (by decide) (by decide) rfl (by decide) ?_
    refine tv_aload_n X dX0_accepts_116 rfl ?_
    refine tv_iconst (v := 4) X dX0_accepts_117 (by decide) ?_
    refine mm_put X dX0_accepts_118 gX0 iX0_accepts_X0 rfl tyX0 tyX0_ok nmX0 0 (by decide) kX0_accepts_11 rfl rfl rfl (Nat.le_of_ble_eq_true rfl) rfl ?_
    refine tv_iload_n X dX0_accepts_121 rfl ?_
    refine tv_bipush (v := 44) X dX0_accepts_122 (by decide) ?_
    refine tv_icmp_ne (tgt := 131) X dX0_accepts_124 (by decide) (fun h1 => ?_) (fun h1 => ?_)
    · refine tv_iconst (v := 0) X dX0_accepts_131 (by decide) ?_
      exact tv_zret X hrt dX0_accepts_132 rfl ⟨_, rfl, by rw [hA]; rfl, by rw [hA]; exact (if_neg (by simpa using h1)).symm⟩
    · refine tv_iconst (v := 1) X dX0_accepts_127 (by decide) ?_
      refine tv_goto (tgt := 132) X dX0_accepts_128 (by decide) ?_
      exact tv_zret X hrt dX0_accepts_132 rfl ⟨_, rfl, by rw [hA]; rfl, by rw [hA]; exact (if_pos (by simpa using h1)).symm⟩
  by_cases c4 : S.1 129 0 = 4
  · have hA : accR (S.1 129) x = (upd (upd (S.1 129) 4 (x - 48)) 0 5, decide (1 ≤ x - 48 ∧ x - 48 ≤ 9)) := by unfold accR; rw [if_neg c0, if_neg c1, if_neg c2, if_neg c3, if_pos c4]
    rw [c4]
    refine tv_tableIn (tgt := 133) X dX0_accepts_4 (by decide) (by decide) rfl (by decide) ?_
    refine tv_aload_n X dX0_accepts_133 rfl ?_
    refine tv_iload_n X dX0_accepts_134 rfl ?_
    refine tv_bipush (v := 48) X dX0_accepts_135 (by decide) ?_
    refine tv_isub X dX0_accepts_137 ?_
    refine mm_put X dX0_accepts_138 gX0 iX0_accepts_X0 rfl tyX0 tyX0_ok nmX0 4 (by decide) kX0_accepts_25 rfl rfl rfl (Nat.le_of_ble_eq_true rfl) rfl ?_
    refine tv_aload_n X dX0_accepts_141 rfl ?_
    refine tv_iconst (v := 5) X dX0_accepts_142 (by decide) ?_
    refine mm_put X dX0_accepts_143 gX0 iX0_accepts_X0 rfl tyX0 tyX0_ok nmX0 0 (by decide) kX0_accepts_11 rfl rfl rfl (Nat.le_of_ble_eq_true rfl) rfl ?_
    refine tv_aload_n X dX0_accepts_146 rfl ?_
    refine mm_getf X dX0_accepts_147 gX0 iX0_accepts_X0 rfl 4 (by decide) kX0_accepts_25 rfl ?_
    refine tv_iconst (v := 1) X dX0_accepts_150 (by decide) ?_
    rw [mupd_sn (by decide), mupd_ss]
    have hS : mupd (mupd S 129 4 (x - 48)) 129 0 5 = mset S 129 (upd (upd (S.1 129) 4 (x - 48)) 0 5) := by simp only [mupd, mset_s, mset_mset]
    refine tv_icmp_lt (tgt := 167) X dX0_accepts_151 (by decide) (fun h1 => ?_) (fun h1 => ?_)
    · refine tv_iconst (v := 0) X dX0_accepts_167 (by decide) ?_
      exact tv_zret X hrt dX0_accepts_168 rfl ⟨_, rfl, by rw [hA]; exact hS, by rw [hA]; exact (if_neg (by simpa using fun h => absurd h (Int32.not_le.mpr h1))).symm⟩
    refine tv_aload_n X dX0_accepts_154 rfl ?_
    refine mm_getf X dX0_accepts_155 gX0 iX0_accepts_X0 rfl 4 (by decide) kX0_accepts_25 rfl ?_
    refine tv_bipush (v := 9) X dX0_accepts_158 (by decide) ?_
    rw [mupd_sn (by decide), mupd_ss]
    refine tv_icmp_gt (tgt := 167) X dX0_accepts_160 (by decide) (fun h2 => ?_) (fun h2 => ?_)
    · refine tv_iconst (v := 0) X dX0_accepts_167 (by decide) ?_
      exact tv_zret X hrt dX0_accepts_168 rfl ⟨_, rfl, by rw [hA]; exact hS, by rw [hA]; exact (if_neg (by simpa using fun _ => h2)).symm⟩
    · refine tv_iconst (v := 1) X dX0_accepts_163 (by decide) ?_
      refine tv_goto (tgt := 168) X dX0_accepts_164 (by decide) ?_
      exact tv_zret X hrt dX0_accepts_168 rfl ⟨_, rfl, by rw [hA]; exact hS, by rw [hA]; exact (if_pos (by simpa using ⟨Int32.not_lt.mp h1, Int32.not_lt.mp h2⟩)).symm⟩
  have hA : accR (S.1 129) x = accBeh (S.1 129) x := by unfold accR; rw [if_neg c0, if_neg c1, if_neg c2, if_neg c3, if_neg c4]
  have k0 : ¬ (S.1 129 0).toInt = 0 := lv_neT c0 rfl
  have k1 : ¬ (S.1 129 0).toInt = 1 := lv_neT c1 rfl
  have k2 : ¬ (S.1 129 0).toInt = 2 := lv_neT c2 rfl
  have k3 : ¬ (S.1 129 0).toInt = 3 := lv_neT c3 rfl
  have k4 : ¬ (S.1 129 0).toInt = 4 := lv_neT c4 rfl
  refine tv_tableOut (tgt := 169) X dX0_accepts_4 (by omega) (by decide) ?_
  refine tv_aload_n X dX0_accepts_169 rfl ?_
  refine tv_iload_n X dX0_accepts_170 rfl ?_
  refine mm_callVi (q := (RX0, TX0, 5)) X dX0_accepts_171 (cX0_acceptsBehind_ok x) (cwV 1 X.2.2.2.2.1 gX0_accepts_X0_acceptsBehind rfl rfl rfl (by decide +kernel) ⟨Nat.le_of_ble_eq_true rfl, Nat.le_of_ble_eq_true rfl⟩) rfl rfl gX0 rfl (Nat.le_of_ble_eq_true rfl) ⟨Nat.zero_le _, Nat.zero_le _⟩ (fun r S1 hq => ?_)
  obtain ⟨hq1, hq2⟩ := hq
  rw [hq1, hq2]
  refine tv_zret X hrt dX0_accepts_174 ?_ ⟨_, rfl, by rw [hA], by rw [hA]⟩
  split <;> rfl
end C18

