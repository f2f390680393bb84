section C50
variable {l : Launch} {D : va_G} {n0 : Nat} {ft : tv_ft} {n a : Nat} {h : tv_H}
theorem rg_cell {n0 : Nat} : ∀ j, j < 4 → ∀ e', cell0 n0 (99 + j) = some e' → ∃ e, rgF (n0 + 99) j = some e ∧ tv_ce e e' := by
  intro j hj e' he'
  match j, hj with
  | 0, _ | 1, _ | 2, _ | 3, _ => exact ⟨e', he', tv_ce_refl⟩
theorem co_cell {n0 : Nat} : ∀ j, j < 6 → ∀ e', cell0 n0 (103 + j) = some e' → ∃ e, coF (n0 + 103) j = some e ∧ tv_ce e e' := by
  intro j hj e' he'
  match j, hj with
  | 0, _ | 1, _ | 2, _ | 3, _ | 4, _ | 5, _ => exact ⟨e', he', tv_ce_refl⟩
theorem mt_cell {n0 : Nat} : ∀ j, j < 18 → ∀ e', cell0 n0 (109 + j) = some e' → ∃ e, mtF (n0 + 109) j = some e ∧ tv_ce e e' := by
  intro j hj e' he'
  by_cases h1 : j = 1
  · rw [h1] at he' ⊢
    have h4 : e' = .inl (.array .int, (6, .inr (.inr (.inr (.inr (fun j => if j < 6 then some (n0 + (111 + j)) else none)))))) := (Option.some.inj he').symm
    rw [h4]
    refine ⟨_, rfl, tv_ce_q fun j hj => ?_⟩
    show (if j < 6 then some (n0 + 109 + 1 + 1 + j) else none) = (if j < 6 then some (n0 + (111 + j)) else none)
    rw [if_pos hj, if_pos hj]
    exact congrArg some (by omega)
  by_cases h2 : j = 9
  · rw [h2] at he' ⊢
    have h4 : e' = .inl (.array .int, (7, .inr (.inr (.inr (.inr (fun j => if j < 7 then some (n0 + (119 + j)) else none)))))) := (Option.some.inj he').symm
    rw [h4]
    refine ⟨_, rfl, tv_ce_q fun j hj => ?_⟩
    show (if j < 7 then some (n0 + 109 + 9 + 1 + j) else none) = (if j < 7 then some (n0 + (119 + j)) else none)
    rw [if_pos hj, if_pos hj]
    exact congrArg some (by omega)
  rcases (by omega : j = 0 ∨ j = 2 ∨ j = 3 ∨ j = 4 ∨ j = 5 ∨ j = 6 ∨ j = 7 ∨ j = 8 ∨ j = 10 ∨ j = 11 ∨ j = 12 ∨ j = 13 ∨ j = 14 ∨ j = 15 ∨ j = 16 ∨ j = 17) with h | h | h | h | h | h | h | h | h | h | h | h | h | h | h | h <;> (rw [h] at he' ⊢; exact ⟨e', he', tv_ce_refl⟩)
theorem tx_cell {n0 : Nat} : ∀ j, j < 2 → ∀ e', cell0 n0 (127 + j) = some e' → ∃ e, txF (n0 + 127) j = some e ∧ tv_ce e e' := by
  intro j hj e' he'
  match j, hj with
  | 0, _ | 1, _ => exact ⟨e', he', tv_ce_refl⟩
theorem rd_cell {n0 : Nat} : ∀ j, j < 1 → ∀ e', cell0 n0 (129 + j) = some e' → ∃ e, rdF j = some e ∧ tv_ce e e' := by
  intro j hj e' he'
  match j, hj with
  | 0, _ => exact ⟨e', he', tv_ce_refl⟩
theorem oX9_init_3 : Cond.methodLink RX9 3 objectInit ∈ wsX9_init ∧ Cond.instanceMethod objectInit ∈ wsX9_init ∧ Cond.code objectInit ⟨#[0xb1]⟩ 1 none ∈ wsX9_init := ⟨by decide +kernel, by decide +kernel, by decide +kernel⟩
theorem qX9_init_9 : Cond.classLink RX9 9 RX6 ∈ wsX9_init ∧ Cond.instantiable RX6 6 ∈ wsX9_init ∧ Cond.initialized RX6 ∈ wsX9_init := ⟨by decide +kernel, by decide +kernel, by decide +kernel⟩
theorem qX9_init_19 : Cond.classLink RX9 19 RX2 ∈ wsX9_init ∧ Cond.instantiable RX2 2 ∈ wsX9_init ∧ Cond.initialized RX2 ∈ wsX9_init := ⟨by decide +kernel, by decide +kernel, by decide +kernel⟩
theorem qX9_init_26 : Cond.classLink RX9 26 RX5 ∈ wsX9_init ∧ Cond.instantiable RX5 5 ∈ wsX9_init ∧ Cond.initialized RX5 ∈ wsX9_init := ⟨by decide +kernel, by decide +kernel, by decide +kernel⟩
theorem qX9_init_33 : Cond.classLink RX9 33 RX1 ∈ wsX9_init ∧ Cond.instantiable RX1 6 ∈ wsX9_init ∧ Cond.initialized RX1 ∈ wsX9_init := ⟨by decide +kernel, by decide +kernel, by decide +kernel⟩
theorem qX9_init_40 : Cond.classLink RX9 40 RX3 ∈ wsX9_init ∧ Cond.instantiable RX3 6 ∈ wsX9_init ∧ Cond.initialized RX3 ∈ wsX9_init := ⟨by decide +kernel, by decide +kernel, by decide +kernel⟩
theorem qX9_init_47 : Cond.classLink RX9 47 RX7 ∈ wsX9_init ∧ Cond.instantiable RX7 2 ∈ wsX9_init ∧ Cond.initialized RX7 ∈ wsX9_init := ⟨by decide +kernel, by decide +kernel, by decide +kernel⟩
theorem qX9_init_54 : Cond.classLink RX9 54 RX0 ∈ wsX9_init ∧ Cond.instantiable RX0 5 ∈ wsX9_init ∧ Cond.initialized RX0 ∈ wsX9_init := ⟨by decide +kernel, by decide +kernel, by decide +kernel⟩
theorem vX9_init_11 : Cond.initialized RX6 ∈ wsX9_init ∧ Cond.instanceMethod yX6_init ∈ wsX9_init ∧ Cond.methodLink RX9 11 yX6_init ∈ wsX9_init := ⟨by decide +kernel, by decide +kernel, by decide +kernel⟩
theorem vX9_init_21 : Cond.initialized RX2 ∈ wsX9_init ∧ Cond.instanceMethod yX2_init ∈ wsX9_init ∧ Cond.methodLink RX9 21 yX2_init ∈ wsX9_init := ⟨by decide +kernel, by decide +kernel, by decide +kernel⟩
theorem vX9_init_28 : Cond.initialized RX5 ∈ wsX9_init ∧ Cond.instanceMethod yX5_init ∈ wsX9_init := ⟨by decide +kernel, by decide +kernel⟩
theorem vX9_init_35 : Cond.initialized RX1 ∈ wsX9_init ∧ Cond.instanceMethod yX1_init ∈ wsX9_init := ⟨by decide +kernel, by decide +kernel⟩
theorem vX9_init_42 : Cond.initialized RX3 ∈ wsX9_init ∧ Cond.instanceMethod yX3_init ∈ wsX9_init := ⟨by decide +kernel, by decide +kernel⟩
theorem vX9_init_49 : Cond.initialized RX7 ∈ wsX9_init ∧ Cond.instanceMethod yX7_init ∈ wsX9_init := ⟨by decide +kernel, by decide +kernel⟩
theorem vX9_init_56 : Cond.initialized RX0 ∈ wsX9_init ∧ Cond.instanceMethod yX0_init ∈ wsX9_init := ⟨by decide +kernel, by decide +kernel⟩
theorem iX9_init_X0 : ∀ w ∈ wsX00, w ∈ wsX9_init := by decide +kernel
theorem iX9_init_X1 : ∀ w ∈ wsX10, w ∈ wsX9_init := by decide +kernel
theorem iX9_init_X2 : ∀ w ∈ wsX20, w ∈ wsX9_init := by decide +kernel
theorem iX9_init_X3 : ∀ w ∈ wsX30, w ∈ wsX9_init := by decide +kernel
theorem iX9_init_X5 : ∀ w ∈ wsX50, w ∈ wsX9_init := by decide +kernel
theorem iX9_init_X6 : ∀ w ∈ wsX60, w ∈ wsX9_init := by decide +kernel
theorem iX9_init_X7 : ∀ w ∈ wsX70, w ∈ wsX9_init := by decide +kernel
theorem iX9_init_X9 : ∀ w ∈ wsX90, w ∈ wsX9_init := by decide +kernel
theorem kX9_init_12 : Cond.fieldLink RX9 12 (TX9 0).1 (TX9 0).2.1 (TX9 0).2.2.1 ∈ wsX9_init := by decide +kernel
theorem kX9_init_16 : Cond.fieldLink RX9 16 (TX9 1).1 (TX9 1).2.1 (TX9 1).2.2.1 ∈ wsX9_init := by decide +kernel
theorem kX9_init_22 : Cond.fieldLink RX9 22 (TX9 2).1 (TX9 2).2.1 (TX9 2).2.2.1 ∈ wsX9_init := by decide +kernel
theorem kX9_init_29 : Cond.fieldLink RX9 29 (TX9 3).1 (TX9 3).2.1 (TX9 3).2.2.1 ∈ wsX9_init := by decide +kernel
theorem kX9_init_36 : Cond.fieldLink RX9 36 (TX9 4).1 (TX9 4).2.1 (TX9 4).2.2.1 ∈ wsX9_init := by decide +kernel
theorem kX9_init_43 : Cond.fieldLink RX9 43 (TX9 5).1 (TX9 5).2.1 (TX9 5).2.2.1 ∈ wsX9_init := by decide +kernel
theorem kX9_init_50 : Cond.fieldLink RX9 50 (TX9 6).1 (TX9 6).2.1 (TX9 6).2.2.1 ∈ wsX9_init := by decide +kernel
theorem kX9_init_57 : Cond.fieldLink RX9 57 (TX9 7).1 (TX9 7).2.1 (TX9 7).2.2.1 ∈ wsX9_init := by decide +kernel
theorem cX9_init_ok (he : h n0 = some (.inr (9, [.null, .null, .null, .null, .null, .null, .null, .null]))) : blMv l yX9_init wsX9_init rmX9_init 129 1997 D n0 ft n0 130 h (cell0 n0) := by
  unfold blMv
  refine tv_enter (cc := cX9_init) (maxL := 1) (ret := none) (by decide) rfl (Nat.le_of_ble_eq_true rfl) ?_
  intro p e s m args below meth c X hrt hnm hargs
  refine tv_heap (tv_bl_1 he) ?_
  refine bl_conv (g := xF n0 [.null, .null, .null, .null, .null, .null, .null, .null]) (fun i hi e' he' => ?_) ?_
  · have h0 : i = 0 := by omega
    rw [h0] at he'
    exact ⟨e', he', tv_ce_refl⟩
  refine tv_aload_n X dX9_init_0 rfl ?_
  refine tv_objInit X dX9_init_1 oX9_init_3.1 oX9_init_3.2.1 oX9_init_3.2.2 ⟨Nat.le_of_ble_eq_true rfl, Nat.le_of_ble_eq_true rfl⟩ ?_
  refine tv_aload_n X dX9_init_4 rfl ?_
  refine bl_new (ci := 6) X dX9_init_5 iX9_init_X6 rfl tyX6 tyX6_ok qX9_init_9.1 qX9_init_9.2.1 qX9_init_9.2.2 (fs := [.null, .null, .null, .int 0, .int 0, .int 0]) (fun j hj => by match j, hj with | 0, _ => rfl | 1, _ => rfl | 2, _ => rfl | 3, _ => rfl | 4, _ => rfl | 5, _ => rfl) ⟨Nat.le_of_ble_eq_true rfl, Nat.le_of_ble_eq_true rfl⟩ ?_
  refine tv_dup X dX9_init_8 rfl ?_
  refine bl_callIv X dX9_init_9 (c := 1) (cX6_init_ok ((tv_bl_at (by omega)).trans rfl)) (cwI 0 X.2.2.2.2.1 gX9_init_X6_init rfl rfl rfl (X.2.2.2.2.1 _ vX9_init_11.1) (X.2.2.2.2.1 _ vX9_init_11.2.2) (X.2.2.2.2.1 _ vX9_init_11.2.1) rfl (by decide +kernel) ⟨Nat.le_of_ble_eq_true rfl, Nat.le_of_ble_eq_true rfl⟩) (Nat.le_of_ble_eq_true rfl) (Nat.le_of_ble_eq_true rfl) ⟨Nat.le_of_ble_eq_true rfl, Nat.le_of_ble_eq_true rfl⟩ ?_
  refine bl_put X dX9_init_12 iX9_init_X9 rfl tyX9 tyX9_ok nmX9 0 (by decide) kX9_init_12 0 (Nat.le_of_ble_eq_true rfl) rfl (Or.inr ⟨rfl, hnm, rfl⟩) rfl rfl (Nat.le_of_ble_eq_true rfl) ?_
  refine bl_conv (g := xF n0 [.ref (n0 + 1), .null, .null, .null, .null, .null, .null, .null]) (xF_step (c := 1) (N := 12) (by omega) (st_cell rfl (fun i hi => (row0_st i hi).1))) ?_
  refine tv_aload_n X dX9_init_15 rfl ?_
  refine bl_new (ci := 6) X dX9_init_16 iX9_init_X6 rfl tyX6 tyX6_ok qX9_init_9.1 qX9_init_9.2.1 qX9_init_9.2.2 (fs := [.null, .null, .null, .int 0, .int 0, .int 0]) (fun j hj => by match j, hj with | 0, _ => rfl | 1, _ => rfl | 2, _ => rfl | 3, _ => rfl | 4, _ => rfl | 5, _ => rfl) ⟨Nat.le_of_ble_eq_true rfl, Nat.le_of_ble_eq_true rfl⟩ ?_
  refine tv_dup X dX9_init_19 rfl ?_
  refine bl_callIv X dX9_init_20 (c := 13) (cX6_init_ok ((tv_bl_at (by omega)).trans rfl)) (cwI 0 X.2.2.2.2.1 gX9_init_X6_init rfl rfl rfl (X.2.2.2.2.1 _ vX9_init_11.1) (X.2.2.2.2.1 _ vX9_init_11.2.2) (X.2.2.2.2.1 _ vX9_init_11.2.1) rfl (by decide +kernel) ⟨Nat.le_of_ble_eq_true rfl, Nat.le_of_ble_eq_true rfl⟩) (Nat.le_of_ble_eq_true rfl) (Nat.le_of_ble_eq_true rfl) ⟨Nat.le_of_ble_eq_true rfl, Nat.le_of_ble_eq_true rfl⟩ ?_
  refine bl_put X dX9_init_23 iX9_init_X9 rfl tyX9 tyX9_ok nmX9 1 (by decide) kX9_init_16 0 (Nat.le_of_ble_eq_true rfl) rfl (Or.inr ⟨rfl, hnm, rfl⟩) rfl rfl (Nat.le_of_ble_eq_true rfl) ?_
  refine bl_conv (g := xF n0 [.ref (n0 + 1), .ref (n0 + 13), .null, .null, .null, .null, .null, .null]) (xF_step (c := 13) (N := 12) (by omega) (st_cell rfl (fun i hi => (row0_st i hi).2))) ?_
  refine tv_aload_n X dX9_init_26 rfl ?_
  refine bl_new (ci := 2) X dX9_init_27 iX9_init_X2 rfl tyX2 tyX2_ok qX9_init_19.1 qX9_init_19.2.1 qX9_init_19.2.2 (fs := [.null, .int 0]) (fun j hj => by match j, hj with | 0, _ => rfl | 1, _ => rfl) ⟨Nat.le_of_ble_eq_true rfl, Nat.le_of_ble_eq_true rfl⟩ ?_
  refine tv_dup X dX9_init_30 rfl ?_
  refine bl_callIv X dX9_init_31 (c := 25) (cX2_init_ok ((tv_bl_at (by omega)).trans rfl)) (cwI 0 X.2.2.2.2.1 gX9_init_X2_init rfl rfl rfl (X.2.2.2.2.1 _ vX9_init_21.1) (X.2.2.2.2.1 _ vX9_init_21.2.2) (X.2.2.2.2.1 _ vX9_init_21.2.1) rfl (by decide +kernel) ⟨Nat.le_of_ble_eq_true rfl, Nat.le_of_ble_eq_true rfl⟩) (Nat.le_of_ble_eq_true rfl) (Nat.le_of_ble_eq_true rfl) ⟨Nat.le_of_ble_eq_true rfl, Nat.le_of_ble_eq_true rfl⟩ ?_
  refine bl_put X dX9_init_34 iX9_init_X9 rfl tyX9 tyX9_ok nmX9 2 (by decide) kX9_init_22 0 (Nat.le_of_ble_eq_true rfl) rfl (Or.inr ⟨rfl, hnm, rfl⟩) rfl rfl (Nat.le_of_ble_eq_true rfl) ?_
  refine bl_conv (g := xF n0 [.ref (n0 + 1), .ref (n0 + 13), .ref (n0 + 25), .null, .null, .null, .null, .null]) (xF_step (c := 25) (N := 74) (by omega) (hs_cell)) ?_
  refine tv_aload_n X dX9_init_37 rfl ?_
  refine bl_new (ci := 5) X dX9_init_38 iX9_init_X5 rfl tyX5 tyX5_ok qX9_init_26.1 qX9_init_26.2.1 qX9_init_26.2.2 (fs := [.null, .null, .null, .int 0, .int 0]) (fun j hj => by match j, hj with | 0, _ => rfl | 1, _ => rfl | 2, _ => rfl | 3, _ => rfl | 4, _ => rfl) ⟨Nat.le_of_ble_eq_true rfl, Nat.le_of_ble_eq_true rfl⟩ ?_
  refine tv_dup X dX9_init_41 rfl ?_
  refine bl_callINv X dX9_init_42 (c := 99) (cX5_init_ok ((tv_bl_at (by omega)).trans rfl)) ⟨va_cnB 0 X.2.2.2.2.1 gX9_init_X5_init_n28 rfl rfl rfl (tv_nwM X nM2) (X.2.2.2.2.1 _ vX9_init_28.1) (by decide +kernel) ⟨Nat.le_of_ble_eq_true rfl, Nat.le_of_ble_eq_true rfl⟩, rfl, X.2.2.2.2.1 _ vX9_init_28.2⟩ (Nat.le_of_ble_eq_true rfl) (Nat.le_of_ble_eq_true rfl) ⟨Nat.le_of_ble_eq_true rfl, Nat.le_of_ble_eq_true rfl⟩ ?_
  refine bl_put X dX9_init_45 iX9_init_X9 rfl tyX9 tyX9_ok nmX9 3 (by decide) kX9_init_29 0 (Nat.le_of_ble_eq_true rfl) rfl (Or.inr ⟨rfl, hnm, rfl⟩) rfl rfl (Nat.le_of_ble_eq_true rfl) ?_
  refine bl_conv (g := xF n0 [.ref (n0 + 1), .ref (n0 + 13), .ref (n0 + 25), .ref (n0 + 99), .null, .null, .null, .null]) (xF_step (c := 99) (N := 4) (by omega) (rg_cell)) ?_
  refine tv_aload_n X dX9_init_48 rfl ?_
  refine bl_new (ci := 1) X dX9_init_49 iX9_init_X1 rfl tyX1 tyX1_ok qX9_init_33.1 qX9_init_33.2.1 qX9_init_33.2.2 (fs := [.null, .null, .null, .null, .null, .int 0]) (fun j hj => by match j, hj with | 0, _ => rfl | 1, _ => rfl | 2, _ => rfl | 3, _ => rfl | 4, _ => rfl | 5, _ => rfl) ⟨Nat.le_of_ble_eq_true rfl, Nat.le_of_ble_eq_true rfl⟩ ?_
  refine tv_dup X dX9_init_52 rfl ?_
  refine bl_callINv X dX9_init_53 (c := 103) (cX1_init_ok ((tv_bl_at (by omega)).trans rfl)) ⟨va_cnB 0 X.2.2.2.2.1 gX9_init_X1_init_n35 rfl rfl rfl (tv_nwM X nM3) (X.2.2.2.2.1 _ vX9_init_35.1) (by decide +kernel) ⟨Nat.le_of_ble_eq_true rfl, Nat.le_of_ble_eq_true rfl⟩, rfl, X.2.2.2.2.1 _ vX9_init_35.2⟩ (Nat.le_of_ble_eq_true rfl) (Nat.le_of_ble_eq_true rfl) ⟨Nat.le_of_ble_eq_true rfl, Nat.le_of_ble_eq_true rfl⟩ ?_
  refine bl_put X dX9_init_56 iX9_init_X9 rfl tyX9 tyX9_ok nmX9 4 (by decide) kX9_init_36 0 (Nat.le_of_ble_eq_true rfl) rfl (Or.inr ⟨rfl, hnm, rfl⟩) rfl rfl (Nat.le_of_ble_eq_true rfl) ?_
  refine bl_conv (g := xF n0 [.ref (n0 + 1), .ref (n0 + 13), .ref (n0 + 25), .ref (n0 + 99), .ref (n0 + 103), .null, .null, .null]) (xF_step (c := 103) (N := 6) (by omega) (co_cell)) ?_
  refine tv_aload_n X dX9_init_59 rfl ?_
  refine bl_new (ci := 3) X dX9_init_60 iX9_init_X3 rfl tyX3 tyX3_ok qX9_init_40.1 qX9_init_40.2.1 qX9_init_40.2.2 (fs := [.null, .null, .null, .null, .int 0, .int 0]) (fun j hj => by match j, hj with | 0, _ => rfl | 1, _ => rfl | 2, _ => rfl | 3, _ => rfl | 4, _ => rfl | 5, _ => rfl) ⟨Nat.le_of_ble_eq_true rfl, Nat.le_of_ble_eq_true rfl⟩ ?_
  refine tv_dup X dX9_init_63 rfl ?_
  refine bl_callINv X dX9_init_64 (c := 109) (cX3_init_ok ((tv_bl_at (by omega)).trans rfl)) ⟨va_cnB 0 X.2.2.2.2.1 gX9_init_X3_init_n42 rfl rfl rfl (tv_nwM X nM4) (X.2.2.2.2.1 _ vX9_init_42.1) (by decide +kernel) ⟨Nat.le_of_ble_eq_true rfl, Nat.le_of_ble_eq_true rfl⟩, rfl, X.2.2.2.2.1 _ vX9_init_42.2⟩ (Nat.le_of_ble_eq_true rfl) (Nat.le_of_ble_eq_true rfl) ⟨Nat.le_of_ble_eq_true rfl, Nat.le_of_ble_eq_true rfl⟩ ?_
  refine bl_put X dX9_init_67 iX9_init_X9 rfl tyX9 tyX9_ok nmX9 5 (by decide) kX9_init_43 0 (Nat.le_of_ble_eq_true rfl) rfl (Or.inr ⟨rfl, hnm, rfl⟩) rfl rfl (Nat.le_of_ble_eq_true rfl) ?_
  refine bl_conv (g := xF n0 [.ref (n0 + 1), .ref (n0 + 13), .ref (n0 + 25), .ref (n0 + 99), .ref (n0 + 103), .ref (n0 + 109), .null, .null]) (xF_step (c := 109) (N := 18) (by omega) (mt_cell)) ?_
  refine tv_aload_n X dX9_init_70 rfl ?_
  refine bl_new (ci := 7) X dX9_init_71 iX9_init_X7 rfl tyX7 tyX7_ok qX9_init_47.1 qX9_init_47.2.1 qX9_init_47.2.2 (fs := [.null, .int 0]) (fun j hj => by match j, hj with | 0, _ => rfl | 1, _ => rfl) ⟨Nat.le_of_ble_eq_true rfl, Nat.le_of_ble_eq_true rfl⟩ ?_
  refine tv_dup X dX9_init_74 rfl ?_
  refine bl_callINv X dX9_init_75 (c := 127) (cX7_init_ok ((tv_bl_at (by omega)).trans rfl)) ⟨va_cnB 0 X.2.2.2.2.1 gX9_init_X7_init_n49 rfl rfl rfl (tv_nwM X nM5) (X.2.2.2.2.1 _ vX9_init_49.1) (by decide +kernel) ⟨Nat.le_of_ble_eq_true rfl, Nat.le_of_ble_eq_true rfl⟩, rfl, X.2.2.2.2.1 _ vX9_init_49.2⟩ (Nat.le_of_ble_eq_true rfl) (Nat.le_of_ble_eq_true rfl) ⟨Nat.le_of_ble_eq_true rfl, Nat.le_of_ble_eq_true rfl⟩ ?_
  refine bl_put X dX9_init_78 iX9_init_X9 rfl tyX9 tyX9_ok nmX9 6 (by decide) kX9_init_50 0 (Nat.le_of_ble_eq_true rfl) rfl (Or.inr ⟨rfl, hnm, rfl⟩) rfl rfl (Nat.le_of_ble_eq_true rfl) ?_
  refine bl_conv (g := xF n0 [.ref (n0 + 1), .ref (n0 + 13), .ref (n0 + 25), .ref (n0 + 99), .ref (n0 + 103), .ref (n0 + 109), .ref (n0 + 127), .null]) (xF_step (c := 127) (N := 2) (by omega) (tx_cell)) ?_
  refine tv_aload_n X dX9_init_81 rfl ?_
  refine bl_new (ci := 0) X dX9_init_82 iX9_init_X0 rfl tyX0 tyX0_ok qX9_init_54.1 qX9_init_54.2.1 qX9_init_54.2.2 (fs := [.int 0, .int 0, .int 0, .int 0, .int 0]) (fun j hj => by match j, hj with | 0, _ => rfl | 1, _ => rfl | 2, _ => rfl | 3, _ => rfl | 4, _ => rfl) ⟨Nat.le_of_ble_eq_true rfl, Nat.le_of_ble_eq_true rfl⟩ ?_
  refine tv_dup X dX9_init_85 rfl ?_
  refine bl_callINv X dX9_init_86 (c := 129) (cX0_init_ok ((tv_bl_at (by omega)).trans rfl)) ⟨va_cnB 0 X.2.2.2.2.1 gX9_init_X0_init_n56 rfl rfl rfl (tv_nwM X nM6) (X.2.2.2.2.1 _ vX9_init_56.1) (by decide +kernel) ⟨Nat.le_of_ble_eq_true rfl, Nat.le_of_ble_eq_true rfl⟩, rfl, X.2.2.2.2.1 _ vX9_init_56.2⟩ (Nat.le_of_ble_eq_true rfl) (Nat.le_of_ble_eq_true rfl) ⟨Nat.le_of_ble_eq_true rfl, Nat.le_of_ble_eq_true rfl⟩ ?_
  refine bl_put X dX9_init_89 iX9_init_X9 rfl tyX9 tyX9_ok nmX9 7 (by decide) kX9_init_57 0 (Nat.le_of_ble_eq_true rfl) rfl (Or.inr ⟨rfl, hnm, rfl⟩) rfl rfl (Nat.le_of_ble_eq_true rfl) ?_
  refine bl_conv (g := xF n0 [.ref (n0 + 1), .ref (n0 + 13), .ref (n0 + 25), .ref (n0 + 99), .ref (n0 + 103), .ref (n0 + 109), .ref (n0 + 127), .ref (n0 + 129)]) (xF_step (c := 129) (N := 1) (by omega) (rd_cell)) ?_
  refine bl_conv (g := cell0 n0) (fun i hi e' he' => ⟨e', ?_, tv_ce_refl⟩) ?_
  · by_cases h0 : i = 0
    · rw [h0] at he' ⊢
      exact he'
    · exact (if_neg h0).trans he'
  exact tv_vret X hrt dX9_init_92 rfl
end C50

