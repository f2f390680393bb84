section C41
variable {l : Launch} {D : va_G} {n0 : Nat} {ft : tv_ft} {n : Nat} {S : mS}
theorem iX9_raw_X6 : ∀ w ∈ wsX60, w ∈ wsX9_raw := by decide +kernel
theorem iX9_raw_X9 : ∀ w ∈ wsX90, w ∈ wsX9_raw := by decide +kernel
theorem kX9_raw_12 : Cond.fieldLink RX9 12 (TX9 0).1 (TX9 0).2.1 (TX9 0).2.2.1 ∈ wsX9_raw := by decide +kernel
theorem cX9_raw_in {i j : Nat} (hi : i < 8) (hj : j < 6) : mMi l yX9_raw wsX9_raw rmX9_raw D n0 ft [.ref (n0 + 0), .int (nI i), .int (nI j)] n S (fun r S' => S' = S ∧ r = S.1 3 (6 * i + j)) := by
  have hb : mst 1 = true := rfl
  refine tv_enter (cc := cX9_raw) (maxL := 3) (ret := (some .int)) (by decide) rfl (Nat.le_of_ble_eq_true rfl) ?_
  intro p e s m args below meth c X hrt hnm hargs
  refine tv_iload_n X dX9_raw_0 rfl ?_
  refine tv_iload_n X dX9_raw_1 rfl ?_
  refine mm_callSv X dX9_raw_2 (cX9_requireCell_in hi hj) (va_cwS 2 X.2.2.2.2.1 gX9_raw_X9_requireCell rfl rfl rfl (by decide +kernel) ⟨Nat.le_of_ble_eq_true rfl, Nat.le_of_ble_eq_true rfl⟩) rfl rfl (Nat.le_of_ble_eq_true rfl) ⟨Nat.zero_le _, Nat.zero_le _⟩ (fun S1 hq => ?_)
  rw [hq]
  clear hq
  refine tv_aload_n X dX9_raw_5 rfl ?_
  refine mm_getf X dX9_raw_6 gX9 iX9_raw_X9 rfl 0 (by decide) kX9_raw_12 rfl ?_
  refine mm_getfN X dX9_raw_9 (gX6 hb) iX9_raw_X6 rfl 0 (by decide) nF5 rfl ?_
  refine tv_iload_n X dX9_raw_12 rfl ?_
  refine tv_iload_n X dX9_raw_13 rfl ?_
  refine mm_callSi X dX9_raw_14 (cX9_cellAt_ok _ _) (va_cwS 2 X.2.2.2.2.1 gX9_raw_X9_cellAt rfl rfl rfl (by decide +kernel) ⟨Nat.le_of_ble_eq_true rfl, Nat.le_of_ble_eq_true rfl⟩) rfl rfl (Nat.le_of_ble_eq_true rfl) ⟨Nat.zero_le _, Nat.zero_le _⟩ (fun r S2 hq2 => ?_)
  obtain ⟨hq1, hq2⟩ := hq2
  rw [hq1, hq2, cellI]
  clear hq1 hq2
  refine mm_callVi (q := (RX4, TX4, 2)) X dX9_raw_17 (cX4_rawOf_ok hb (j := 6 * i + j) (by omega)) (cwV 1 X.2.2.2.2.1 gX9_raw_X4_rawOf rfl rfl rfl (by decide +kernel) ⟨Nat.le_of_ble_eq_true rfl, Nat.le_of_ble_eq_true rfl⟩) rfl rfl (gX4 hb) rfl (Nat.le_of_ble_eq_true rfl) ⟨Nat.zero_le _, Nat.zero_le _⟩ (fun r S3 hq3 => ?_)
  obtain ⟨hq1, hq2⟩ := hq3
  rw [hq1, hq2]
  exact tv_iret X hrt dX9_raw_20 ⟨_, rfl, rfl, rfl⟩
theorem iX9_signal_X6 : ∀ w ∈ wsX60, w ∈ wsX9_signal := by decide +kernel
theorem iX9_signal_X9 : ∀ w ∈ wsX90, w ∈ wsX9_signal := by decide +kernel
theorem kX9_signal_12 : Cond.fieldLink RX9 12 (TX9 0).1 (TX9 0).2.1 (TX9 0).2.2.1 ∈ wsX9_signal := by decide +kernel
theorem cX9_signal_in {i j : Nat} (hi : i < 8) (hj : j < 6) : mMi l yX9_signal wsX9_signal rmX9_signal D n0 ft [.ref (n0 + 0), .int (nI i), .int (nI j)] n S (fun r S' => S' = S ∧ r = sgS S 1 (6 * i + j)) := by
  have hb : mst 1 = true := rfl
  refine tv_enter (cc := cX9_signal) (maxL := 3) (ret := (some .int)) (by decide) rfl (Nat.le_of_ble_eq_true rfl) ?_
  intro p e s m args below meth c X hrt hnm hargs
  refine tv_iload_n X dX9_signal_0 rfl ?_
  refine tv_iload_n X dX9_signal_1 rfl ?_
  refine mm_callSv X dX9_signal_2 (cX9_requireCell_in hi hj) (va_cwS 2 X.2.2.2.2.1 gX9_signal_X9_requireCell rfl rfl rfl (by decide +kernel) ⟨Nat.le_of_ble_eq_true rfl, Nat.le_of_ble_eq_true rfl⟩) rfl rfl (Nat.le_of_ble_eq_true rfl) ⟨Nat.zero_le _, Nat.zero_le _⟩ (fun S1 hq => ?_)
  rw [hq]
  clear hq
  refine tv_aload_n X dX9_signal_5 rfl ?_
  refine mm_getf X dX9_signal_6 gX9 iX9_signal_X9 rfl 0 (by decide) kX9_signal_12 rfl ?_
  refine mm_getfN X dX9_signal_9 (gX6 hb) iX9_signal_X6 rfl 0 (by decide) nF5 rfl ?_
  refine tv_iload_n X dX9_signal_12 rfl ?_
  refine tv_iload_n X dX9_signal_13 rfl ?_
  refine mm_callSi X dX9_signal_14 (cX9_cellAt_ok _ _) (va_cwS 2 X.2.2.2.2.1 gX9_signal_X9_cellAt rfl rfl rfl (by decide +kernel) ⟨Nat.le_of_ble_eq_true rfl, Nat.le_of_ble_eq_true rfl⟩) rfl rfl (Nat.le_of_ble_eq_true rfl) ⟨Nat.zero_le _, Nat.zero_le _⟩ (fun r S2 hq2 => ?_)
  obtain ⟨hq1, hq2⟩ := hq2
  rw [hq1, hq2, cellI]
  clear hq1 hq2
  refine mm_callVi (q := (RX4, TX4, 2)) X dX9_signal_17 (cX4_signalOf_ok hb (j := 6 * i + j) (by omega)) (cwV 1 X.2.2.2.2.1 gX9_signal_X4_signalOf rfl rfl rfl (by decide +kernel) ⟨Nat.le_of_ble_eq_true rfl, Nat.le_of_ble_eq_true rfl⟩) rfl rfl (gX4 hb) rfl (Nat.le_of_ble_eq_true rfl) ⟨Nat.zero_le _, Nat.zero_le _⟩ (fun r S3 hq3 => ?_)
  obtain ⟨hq1, hq2⟩ := hq3
  rw [hq1, hq2]
  exact tv_iret X hrt dX9_signal_20 ⟨_, rfl, rfl, rfl⟩
theorem iX9_regionSize_X9 : ∀ w ∈ wsX90, w ∈ wsX9_regionSize := by decide +kernel
theorem kX9_regionSize_12 : Cond.fieldLink RX9 12 (TX9 0).1 (TX9 0).2.1 (TX9 0).2.2.1 ∈ wsX9_regionSize := by decide +kernel
theorem kX9_regionSize_29 : Cond.fieldLink RX9 29 (TX9 3).1 (TX9 3).2.1 (TX9 3).2.2.1 ∈ wsX9_regionSize := by decide +kernel
theorem cX9_regionSize_in {i j : Nat} (hi : i < 8) (hj : j < 6) : mMi l yX9_regionSize wsX9_regionSize rmX9_regionSize D n0 ft [.ref (n0 + 0), .int (nI i), .int (nI j)] n S (fun r S' => S' = regS S 1 48 ∧ r = if flS S 1 48 (6 * i + j) = 48 then 0 else (regS S 1 48).1 101 (flS S 1 48 (6 * i + j))) := by
  have hb : mst 1 = true := rfl
  refine tv_enter (cc := cX9_regionSize) (maxL := 3) (ret := (some .int)) (by decide) rfl (Nat.le_of_ble_eq_true rfl) ?_
  intro p e s m args below meth c X hrt hnm hargs
  refine tv_iload_n X dX9_regionSize_0 rfl ?_
  refine tv_iload_n X dX9_regionSize_1 rfl ?_
  refine mm_callSv X dX9_regionSize_2 (cX9_requireCell_in hi hj) (va_cwS 2 X.2.2.2.2.1 gX9_regionSize_X9_requireCell rfl rfl rfl (by decide +kernel) ⟨Nat.le_of_ble_eq_true rfl, Nat.le_of_ble_eq_true rfl⟩) rfl rfl (Nat.le_of_ble_eq_true rfl) ⟨Nat.zero_le _, Nat.zero_le _⟩ (fun S1 hq => ?_)
  rw [hq]
  clear hq
  refine tv_aload_n X dX9_regionSize_5 rfl ?_
  refine mm_getf X dX9_regionSize_6 gX9 iX9_regionSize_X9 rfl 3 (by decide) kX9_regionSize_29 rfl ?_
  refine tv_aload_n X dX9_regionSize_9 rfl ?_
  refine mm_getf X dX9_regionSize_10 gX9 iX9_regionSize_X9 rfl 0 (by decide) kX9_regionSize_12 rfl ?_
  refine mm_callVv (q := (RX5, TX5, 5)) X dX9_regionSize_13 (cX5_find_ok hb) (cwV 1 X.2.2.2.2.1 gX9_regionSize_X5_find rfl rfl rfl (by decide +kernel) ⟨Nat.le_of_ble_eq_true rfl, Nat.le_of_ble_eq_true rfl⟩) rfl rfl gX5 rfl (Nat.le_of_ble_eq_true rfl) ⟨Nat.zero_le _, Nat.zero_le _⟩ (fun S1 hq => ?_)
  obtain ⟨k, -, hk, hq1⟩ := hq
  rw [regS_48 hk] at hq1
  rw [hq1]
  clear hq1
  refine tv_aload_n X dX9_regionSize_16 rfl ?_
  refine mm_getf X dX9_regionSize_17 gX9 iX9_regionSize_X9 rfl 3 (by decide) kX9_regionSize_29 rfl ?_
  refine tv_iload_n X dX9_regionSize_20 rfl ?_
  refine tv_iload_n X dX9_regionSize_21 rfl ?_
  refine mm_callSi X dX9_regionSize_22 (cX9_cellAt_ok _ _) (va_cwS 2 X.2.2.2.2.1 gX9_regionSize_X9_cellAt rfl rfl rfl (by decide +kernel) ⟨Nat.le_of_ble_eq_true rfl, Nat.le_of_ble_eq_true rfl⟩) rfl rfl (Nat.le_of_ble_eq_true rfl) ⟨Nat.zero_le _, Nat.zero_le _⟩ (fun r S2 hq2 => ?_)
  obtain ⟨hq1, hq2⟩ := hq2
  rw [hq1, hq2, cellI]
  clear hq1 hq2
  have hfl := flS_ok (S := S) (b := 1) (k := 48) (j := 6 * i + j) (by omega)
  refine mm_callVi (q := (RX5, TX5, 5)) X dX9_regionSize_25 (cX5_sizeAround_ok (j := 6 * i + j) (by omega) (by rw [regS_100]; exact hfl.1) hfl.2) (cwV 1 X.2.2.2.2.1 gX9_regionSize_X5_sizeAround rfl rfl rfl (by decide +kernel) ⟨Nat.le_of_ble_eq_true rfl, Nat.le_of_ble_eq_true rfl⟩) rfl rfl gX5 rfl (Nat.le_of_ble_eq_true rfl) ⟨Nat.zero_le _, Nat.zero_le _⟩ (fun r S3 hq3 => ?_)
  obtain ⟨hq1, hq2⟩ := hq3
  rw [hq1, hq2]
  exact tv_iret X hrt dX9_regionSize_28 ⟨_, rfl, rfl, rfl⟩
theorem iX9_regionKind_X9 : ∀ w ∈ wsX90, w ∈ wsX9_regionKind := by decide +kernel
theorem kX9_regionKind_12 : Cond.fieldLink RX9 12 (TX9 0).1 (TX9 0).2.1 (TX9 0).2.2.1 ∈ wsX9_regionKind := by decide +kernel
theorem kX9_regionKind_29 : Cond.fieldLink RX9 29 (TX9 3).1 (TX9 3).2.1 (TX9 3).2.2.1 ∈ wsX9_regionKind := by decide +kernel
theorem cX9_regionKind_in {i j : Nat} (hi : i < 8) (hj : j < 6) : mMi l yX9_regionKind wsX9_regionKind rmX9_regionKind D n0 ft [.ref (n0 + 0), .int (nI i), .int (nI j)] n S (fun r S' => S' = regS S 1 48 ∧ r = if flS S 1 48 (6 * i + j) = 48 then -1 else kndR (regS S 1 48) (flS S 1 48 (6 * i + j))) := by
  have hb : mst 1 = true := rfl
  refine tv_enter (cc := cX9_regionKind) (maxL := 3) (ret := (some .int)) (by decide) rfl (Nat.le_of_ble_eq_true rfl) ?_
  intro p e s m args below meth c X hrt hnm hargs
  refine tv_iload_n X dX9_regionKind_0 rfl ?_
  refine tv_iload_n X dX9_regionKind_1 rfl ?_
  refine mm_callSv X dX9_regionKind_2 (cX9_requireCell_in hi hj) (va_cwS 2 X.2.2.2.2.1 gX9_regionKind_X9_requireCell rfl rfl rfl (by decide +kernel) ⟨Nat.le_of_ble_eq_true rfl, Nat.le_of_ble_eq_true rfl⟩) rfl rfl (Nat.le_of_ble_eq_true rfl) ⟨Nat.zero_le _, Nat.zero_le _⟩ (fun S1 hq => ?_)
  rw [hq]
  clear hq
  refine tv_aload_n X dX9_regionKind_5 rfl ?_
  refine mm_getf X dX9_regionKind_6 gX9 iX9_regionKind_X9 rfl 3 (by decide) kX9_regionKind_29 rfl ?_
  refine tv_aload_n X dX9_regionKind_9 rfl ?_
  refine mm_getf X dX9_regionKind_10 gX9 iX9_regionKind_X9 rfl 0 (by decide) kX9_regionKind_12 rfl ?_
  refine mm_callVv (q := (RX5, TX5, 5)) X dX9_regionKind_13 (cX5_find_ok hb) (cwV 1 X.2.2.2.2.1 gX9_regionKind_X5_find rfl rfl rfl (by decide +kernel) ⟨Nat.le_of_ble_eq_true rfl, Nat.le_of_ble_eq_true rfl⟩) rfl rfl gX5 rfl (Nat.le_of_ble_eq_true rfl) ⟨Nat.zero_le _, Nat.zero_le _⟩ (fun S1 hq => ?_)
  obtain ⟨k, -, hk, hq1⟩ := hq
  rw [regS_48 hk] at hq1
  rw [hq1]
  clear hq1
  refine tv_aload_n X dX9_regionKind_16 rfl ?_
  refine mm_getf X dX9_regionKind_17 gX9 iX9_regionKind_X9 rfl 3 (by decide) kX9_regionKind_29 rfl ?_
  refine tv_iload_n X dX9_regionKind_20 rfl ?_
  refine tv_iload_n X dX9_regionKind_21 rfl ?_
  refine mm_callSi X dX9_regionKind_22 (cX9_cellAt_ok _ _) (va_cwS 2 X.2.2.2.2.1 gX9_regionKind_X9_cellAt rfl rfl rfl (by decide +kernel) ⟨Nat.le_of_ble_eq_true rfl, Nat.le_of_ble_eq_true rfl⟩) rfl rfl (Nat.le_of_ble_eq_true rfl) ⟨Nat.zero_le _, Nat.zero_le _⟩ (fun r S2 hq2 => ?_)
  obtain ⟨hq1, hq2⟩ := hq2
  rw [hq1, hq2, cellI]
  clear hq1 hq2
  have hfl := flS_ok (S := S) (b := 1) (k := 48) (j := 6 * i + j) (by omega)
  refine mm_callVi (q := (RX5, TX5, 5)) X dX9_regionKind_25 (cX5_kindAround_ok (j := 6 * i + j) (by omega) (by rw [regS_100]; exact hfl.1) hfl.2) (cwV 1 X.2.2.2.2.1 gX9_regionKind_X5_kindAround rfl rfl rfl (by decide +kernel) ⟨Nat.le_of_ble_eq_true rfl, Nat.le_of_ble_eq_true rfl⟩) rfl rfl gX5 rfl (Nat.le_of_ble_eq_true rfl) ⟨Nat.zero_le _, Nat.zero_le _⟩ (fun r S3 hq3 => ?_)
  obtain ⟨hq1, hq2⟩ := hq3
  rw [hq1, hq2]
  exact tv_iret X hrt dX9_regionKind_28 ⟨_, rfl, rfl, rfl⟩
theorem iX9_regions_X9 : ∀ w ∈ wsX90, w ∈ wsX9_regions := by decide +kernel
theorem kX9_regions_12 : Cond.fieldLink RX9 12 (TX9 0).1 (TX9 0).2.1 (TX9 0).2.2.1 ∈ wsX9_regions := by decide +kernel
theorem kX9_regions_29 : Cond.fieldLink RX9 29 (TX9 3).1 (TX9 3).2.1 (TX9 3).2.2.1 ∈ wsX9_regions := by decide +kernel
theorem cX9_regions_in {q : Nat} (hq3 : q < 3) : mMi l yX9_regions wsX9_regions rmX9_regions D n0 ft [.ref (n0 + 0), .int (nI q)] n S (fun r S' => S' = regS S 1 48 ∧ r = cntI (fun j => decide (flS S 1 48 j = j ∧ kndR (regS S 1 48) j = nI q)) 48) := by
  have hb : mst 1 = true := rfl
  refine tv_enter (cc := cX9_regions) (maxL := 2) (ret := (some .int)) (by decide) rfl (Nat.le_of_ble_eq_true rfl) ?_
  intro p e s m args below meth c X hrt hnm hargs
  refine tv_iload_n X dX9_regions_0 rfl ?_
  refine tv_if_lt (tgt := 9) X dX9_regions_1 (by decide) (fun h1 => ?_) (fun h1 => ?_)
  · exact absurd h1 (nI_pos (by omega))
  refine tv_iload_n X dX9_regions_4 rfl ?_
  refine tv_iconst (v := 2) X dX9_regions_5 (by decide) ?_
  refine tv_icmp_le (tgt := 19) X dX9_regions_6 (by decide) (fun h2 => ?_) (fun h2 => ?_)
  rotate_left
  · exact absurd (nI_le (a := q) (b := 2) (by omega) (by decide)) h2
  refine tv_aload_n X dX9_regions_19 rfl ?_
  refine mm_getf X dX9_regions_20 gX9 iX9_regions_X9 rfl 3 (by decide) kX9_regions_29 rfl ?_
  refine tv_aload_n X dX9_regions_23 rfl ?_
  refine mm_getf X dX9_regions_24 gX9 iX9_regions_X9 rfl 0 (by decide) kX9_regions_12 rfl ?_
  refine mm_callVv (q := (RX5, TX5, 5)) X dX9_regions_27 (cX5_find_ok hb) (cwV 1 X.2.2.2.2.1 gX9_regions_X5_find rfl rfl rfl (by decide +kernel) ⟨Nat.le_of_ble_eq_true rfl, Nat.le_of_ble_eq_true rfl⟩) rfl rfl gX5 rfl (Nat.le_of_ble_eq_true rfl) ⟨Nat.zero_le _, Nat.zero_le _⟩ (fun S1 hq => ?_)
  obtain ⟨k, -, hk, hq1⟩ := hq
  rw [regS_48 hk] at hq1
  rw [hq1]
  clear hq1
  refine tv_aload_n X dX9_regions_30 rfl ?_
  refine mm_getf X dX9_regions_31 gX9 iX9_regions_X9 rfl 3 (by decide) kX9_regions_29 rfl ?_
  refine tv_iload_n X dX9_regions_34 rfl ?_
  refine mm_callVi (q := (RX5, TX5, 5)) X dX9_regions_35 (cX5_countOf_ok (fl := flS S 1 48) (fun j hj => by rw [regS_100]; exact flS_ok hj) _) (cwV 1 X.2.2.2.2.1 gX9_regions_X5_countOf rfl rfl rfl (by decide +kernel) ⟨Nat.le_of_ble_eq_true rfl, Nat.le_of_ble_eq_true rfl⟩) rfl rfl gX5 rfl (Nat.le_of_ble_eq_true rfl) ⟨Nat.zero_le _, Nat.zero_le _⟩ (fun r S3 hq3 => ?_)
  obtain ⟨hq1, hq2⟩ := hq3
  rw [hq1, hq2]
  exact tv_iret X hrt dX9_regions_38 ⟨_, rfl, rfl, rfl⟩
theorem iX9_setting_X6 : ∀ w ∈ wsX60, w ∈ wsX9_setting := by decide +kernel
theorem iX9_setting_X9 : ∀ w ∈ wsX90, w ∈ wsX9_setting := by decide +kernel
theorem kX9_setting_12 : Cond.fieldLink RX9 12 (TX9 0).1 (TX9 0).2.1 (TX9 0).2.2.1 ∈ wsX9_setting := by decide +kernel
theorem cX9_setting_in {q : Nat} (hq5 : q < 5) : mMi l yX9_setting wsX9_setting rmX9_setting D n0 ft [.ref (n0 + 0), .int (nI q)] n S (fun r S' => S' = S ∧ r = S.1 5 q) := by
  have hb : mst 1 = true := rfl
  refine tv_enter (cc := cX9_setting) (maxL := 2) (ret := (some .int)) (by decide) rfl (Nat.le_of_ble_eq_true rfl) ?_
  intro p e s m args below meth c X hrt hnm hargs
  refine tv_iload_n X dX9_setting_0 rfl ?_
  refine mm_callSv X dX9_setting_1 (cX9_requireSetting_in hq5) (va_cwS 1 X.2.2.2.2.1 gX9_setting_X9_requireSetting rfl rfl rfl (by decide +kernel) ⟨Nat.le_of_ble_eq_true rfl, Nat.le_of_ble_eq_true rfl⟩) rfl rfl (Nat.le_of_ble_eq_true rfl) ⟨Nat.zero_le _, Nat.zero_le _⟩ (fun S1 hq => ?_)
  rw [hq]
  clear hq
  refine tv_aload_n X dX9_setting_4 rfl ?_
  refine mm_getf X dX9_setting_5 gX9 iX9_setting_X9 rfl 0 (by decide) kX9_setting_12 rfl ?_
  refine mm_getfN X dX9_setting_8 (gX6 hb) iX9_setting_X6 rfl 1 (by decide) nF8 rfl ?_
  refine tv_iload_n X dX9_setting_11 rfl ?_
  refine mm_iald X dX9_setting_12 (gSet hb) q rfl hq5 (by decide) ?_
  exact tv_iret X hrt dX9_setting_13 ⟨_, rfl, rfl, rfl⟩
theorem iX9_contacts_X1 : ∀ w ∈ wsX10, w ∈ wsX9_contacts := by decide +kernel
theorem iX9_contacts_X9 : ∀ w ∈ wsX90, w ∈ wsX9_contacts := by decide +kernel
theorem kX9_contacts_36 : Cond.fieldLink RX9 36 (TX9 4).1 (TX9 4).2.1 (TX9 4).2.2.1 ∈ wsX9_contacts := by decide +kernel
set_option maxRecDepth 100000 in
theorem cX9_contacts_ok : mMi l yX9_contacts wsX9_contacts rmX9_contacts D n0 ft [.ref (n0 + 0)] n S (fun r S' => S' = (ctP S 1 48).1 ∧ r = nI (ctP S 1 48).2) := by
  refine tv_enter (cc := cX9_contacts) (maxL := 1) (ret := (some .int)) (by decide) rfl (Nat.le_of_ble_eq_true rfl) ?_
  intro p e s m args below meth c X hrt hnm hargs
  refine tv_aload_n X dX9_contacts_0 rfl ?_
  refine mm_callVv (q := (RX9, TX9, 8)) X dX9_contacts_1 (cX9_findContacts_ok) (cwV 0 X.2.2.2.2.1 gX9_contacts_X9_findContacts rfl rfl rfl (by decide +kernel) ⟨Nat.le_of_ble_eq_true rfl, Nat.le_of_ble_eq_true rfl⟩) rfl rfl gX9 rfl (Nat.le_of_ble_eq_true rfl) ⟨Nat.zero_le _, Nat.zero_le _⟩ (fun S1 hq => ?_)
  obtain ⟨k, -, hk, hq1⟩ := hq
  rw [ctP_48 hk] at hq1
  rw [hq1]
  clear hq1
  have hc := (ctP_k (S := S) (b := 1) (k := 48)).1
  generalize ctP S 1 48 = P at hc ⊢
  refine tv_aload_n X dX9_contacts_4 rfl ?_
  refine mm_getf X dX9_contacts_5 gX9 iX9_contacts_X9 rfl 4 (by decide) kX9_contacts_36 rfl ?_
  refine mm_getfN X dX9_contacts_8 gX1 iX9_contacts_X1 rfl 5 (by decide) nF17 rfl ?_
  rw [hc]
  exact tv_iret X hrt dX9_contacts_11 ⟨_, rfl, rfl, rfl⟩
theorem iX9_contact_X9 : ∀ w ∈ wsX90, w ∈ wsX9_contact := by decide +kernel
theorem kX9_contact_36 : Cond.fieldLink RX9 36 (TX9 4).1 (TX9 4).2.1 (TX9 4).2.2.1 ∈ wsX9_contact := by decide +kernel
theorem cX9_contact_in {j q : Nat} (hj : j < 2 ^ 31) (hq4 : q < 4) : mMi l yX9_contact wsX9_contact rmX9_contact D n0 ft [.ref (n0 + 0), .int (nI j), .int (nI q)] n S
    (fun r S' => S' = (ctP S 1 48).1 ∧ ((∃ j1, j1 < (ctP S 1 48).2 ∧ nI j = nI j1 ∧ r = (ctP S 1 48).1.1 (105 + q) j1) ∨ ((¬ ∃ j1, j1 < (ctP S 1 48).2 ∧ nI j = nI j1) ∧ r = -1))) := by
  refine tv_enter (cc := cX9_contact) (maxL := 3) (ret := (some .int)) (by decide) rfl (Nat.le_of_ble_eq_true rfl) ?_
  intro p e s m args below meth c X hrt hnm hargs
  refine tv_iload_n X dX9_contact_0 rfl ?_
  refine mm_callSv X dX9_contact_1 (cX9_requireContactNumber_in hj) (va_cwS 1 X.2.2.2.2.1 gX9_contact_X9_requireContactNumber rfl rfl rfl (by decide +kernel) ⟨Nat.le_of_ble_eq_true rfl, Nat.le_of_ble_eq_true rfl⟩) rfl rfl (Nat.le_of_ble_eq_true rfl) ⟨Nat.zero_le _, Nat.zero_le _⟩ (fun S1 hq => ?_)
  rw [hq]
  clear hq
  refine tv_iload_n X dX9_contact_4 rfl ?_
  refine mm_callSv X dX9_contact_5 (cX9_requirePart_in hq4) (va_cwS 1 X.2.2.2.2.1 gX9_contact_X9_requirePart rfl rfl rfl (by decide +kernel) ⟨Nat.le_of_ble_eq_true rfl, Nat.le_of_ble_eq_true rfl⟩) rfl rfl (Nat.le_of_ble_eq_true rfl) ⟨Nat.zero_le _, Nat.zero_le _⟩ (fun S1 hq => ?_)
  rw [hq]
  clear hq
  refine tv_aload_n X dX9_contact_8 rfl ?_
  refine mm_callVv (q := (RX9, TX9, 8)) X dX9_contact_9 (cX9_findContacts_ok) (cwV 0 X.2.2.2.2.1 gX9_contact_X9_findContacts rfl rfl rfl (by decide +kernel) ⟨Nat.le_of_ble_eq_true rfl, Nat.le_of_ble_eq_true rfl⟩) rfl rfl gX9 rfl (Nat.le_of_ble_eq_true rfl) ⟨Nat.zero_le _, Nat.zero_le _⟩ (fun S1 hq => ?_)
  obtain ⟨k, -, hk, hq1⟩ := hq
  rw [ctP_48 hk] at hq1
  rw [hq1]
  clear hq1
  refine tv_aload_n X dX9_contact_12 rfl ?_
  refine mm_getf X dX9_contact_13 gX9 iX9_contact_X9 rfl 4 (by decide) kX9_contact_36 rfl ?_
  refine tv_iload_n X dX9_contact_16 rfl ?_
  refine tv_iload_n X dX9_contact_17 rfl ?_
  refine mm_callVi (q := (RX1, TX1, 6)) X dX9_contact_18 (cX1_partOf_ok ctP_k.1 ctP_k.2 _ hq4) (cwV 2 X.2.2.2.2.1 gX9_contact_X1_partOf rfl rfl rfl (by decide +kernel) ⟨Nat.le_of_ble_eq_true rfl, Nat.le_of_ble_eq_true rfl⟩) rfl rfl gX1 rfl (Nat.le_of_ble_eq_true rfl) ⟨Nat.zero_le _, Nat.zero_le _⟩ (fun r S3 hq3 => ?_)
  obtain ⟨hq1, hq2⟩ := hq3
  rw [hq1]
  exact tv_iret X hrt dX9_contact_21 ⟨_, rfl, rfl, hq2⟩
theorem iX9_isDown_X6 : ∀ w ∈ wsX60, w ∈ wsX9_isDown := by decide +kernel
theorem iX9_isDown_X8 : ∀ w ∈ wsX80, w ∈ wsX9_isDown := by decide +kernel
theorem iX9_isDown_X9 : ∀ w ∈ wsX90, w ∈ wsX9_isDown := by decide +kernel
theorem kX9_isDown_12 : Cond.fieldLink RX9 12 (TX9 0).1 (TX9 0).2.1 (TX9 0).2.2.1 ∈ wsX9_isDown := by decide +kernel
theorem cX9_isDown_in (hd : trOk S 1) {t : Nat} (hj : t < 6) : mMi l yX9_isDown wsX9_isDown rmX9_isDown D n0 ft [.ref (n0 + 0), .int (nI t)] n S (fun r S' => S' = S ∧ r = S.1 (1 + 6 + t) 0) := by
  have hb : mst 1 = true := rfl
  refine tv_enter (cc := cX9_isDown) (maxL := 2) (ret := (some .boolean)) (by decide) rfl (Nat.le_of_ble_eq_true rfl) ?_
  intro p e s m args below meth c X hrt hnm hargs
  refine tv_iload_n X dX9_isDown_0 rfl ?_
  refine mm_callSv X dX9_isDown_1 (cX9_requireTrack_in hj) (va_cwS 1 X.2.2.2.2.1 gX9_isDown_X9_requireTrack rfl rfl rfl (by decide +kernel) ⟨Nat.le_of_ble_eq_true rfl, Nat.le_of_ble_eq_true rfl⟩) rfl rfl (Nat.le_of_ble_eq_true rfl) ⟨Nat.zero_le _, Nat.zero_le _⟩ (fun S1 hq => ?_)
  rw [hq]
  clear hq
  refine tv_aload_n X dX9_isDown_4 rfl ?_
  refine mm_getf X dX9_isDown_5 gX9 iX9_isDown_X9 rfl 0 (by decide) kX9_isDown_12 rfl ?_
  refine mm_getfN X dX9_isDown_8 (gX6 hb) iX9_isDown_X6 rfl 2 (by decide) nF10 rfl ?_
  refine tv_iload_n X dX9_isDown_11 rfl ?_
  refine mm_aald X dX9_isDown_12 (gTrs hb) rfl t rfl hj rfl (by decide) ?_
  refine mm_getfN X dX9_isDown_13 (gX8 hb hj) iX9_isDown_X8 rfl 0 (by decide) nF3 rfl ?_
  refine tv_zret X hrt dX9_isDown_16 ?_ ⟨_, rfl, rfl, rfl⟩
  rcases hd t hj with e | e
  · rw [e]; rfl
  · rw [e]; rfl
theorem iX9_track_X6 : ∀ w ∈ wsX60, w ∈ wsX9_track := by decide +kernel
theorem iX9_track_X9 : ∀ w ∈ wsX90, w ∈ wsX9_track := by decide +kernel
theorem kX9_track_12 : Cond.fieldLink RX9 12 (TX9 0).1 (TX9 0).2.1 (TX9 0).2.2.1 ∈ wsX9_track := by decide +kernel
theorem cX9_track_in {t q : Nat} (hj : t < 6) (hq4 : q < 4) : mMi l yX9_track wsX9_track rmX9_track D n0 ft [.ref (n0 + 0), .int (nI t), .int (nI q)] n S (fun r S' => S' = S ∧ r = if S.1 (1 + 6 + t) 0 = 0 then -1 else S.1 (1 + 6 + t) (q + 1)) := by
  have hb : mst 1 = true := rfl
  refine tv_enter (cc := cX9_track) (maxL := 3) (ret := (some .int)) (by decide) rfl (Nat.le_of_ble_eq_true rfl) ?_
  intro p e s m args below meth c X hrt hnm hargs
  refine tv_iload_n X dX9_track_0 rfl ?_
  refine mm_callSv X dX9_track_1 (cX9_requireTrack_in hj) (va_cwS 1 X.2.2.2.2.1 gX9_track_X9_requireTrack rfl rfl rfl (by decide +kernel) ⟨Nat.le_of_ble_eq_true rfl, Nat.le_of_ble_eq_true rfl⟩) rfl rfl (Nat.le_of_ble_eq_true rfl) ⟨Nat.zero_le _, Nat.zero_le _⟩ (fun S1 hq => ?_)
  rw [hq]
  clear hq
  refine tv_iload_n X dX9_track_4 rfl ?_
  refine mm_callSv X dX9_track_5 (cX9_requirePart_in hq4) (va_cwS 1 X.2.2.2.2.1 gX9_track_X9_requirePart rfl rfl rfl (by decide +kernel) ⟨Nat.le_of_ble_eq_true rfl, Nat.le_of_ble_eq_true rfl⟩) rfl rfl (Nat.le_of_ble_eq_true rfl) ⟨Nat.zero_le _, Nat.zero_le _⟩ (fun S1 hq => ?_)
  rw [hq]
  clear hq
  refine tv_aload_n X dX9_track_8 rfl ?_
  refine mm_getf X dX9_track_9 gX9 iX9_track_X9 rfl 0 (by decide) kX9_track_12 rfl ?_
  refine mm_getfN X dX9_track_12 (gX6 hb) iX9_track_X6 rfl 2 (by decide) nF10 rfl ?_
  refine tv_iload_n X dX9_track_15 rfl ?_
  refine mm_aald X dX9_track_16 (gTrs hb) rfl t rfl hj rfl (by decide) ?_
  refine tv_iload_n X dX9_track_17 rfl ?_
  refine mm_callVi (q := (RX8, TX8, 5)) X dX9_track_18 (cX8_partOf_ok hb hj hq4) (cwV 1 X.2.2.2.2.1 gX9_track_X8_partOf rfl rfl rfl (by decide +kernel) ⟨Nat.le_of_ble_eq_true rfl, Nat.le_of_ble_eq_true rfl⟩) rfl rfl (gX8 hb hj) rfl (Nat.le_of_ble_eq_true rfl) ⟨Nat.zero_le _, Nat.zero_le _⟩ (fun r S3 hq3 => ?_)
  obtain ⟨hq1, hq2⟩ := hq3
  rw [hq1, hq2]
  exact tv_iret X hrt dX9_track_21 ⟨_, rfl, rfl, rfl⟩
theorem iX9_squaredDistance_X1 : ∀ w ∈ wsX10, w ∈ wsX9_squaredDistance := by decide +kernel
theorem iX9_squaredDistance_X6 : ∀ w ∈ wsX60, w ∈ wsX9_squaredDistance := by decide +kernel
theorem iX9_squaredDistance_X8 : ∀ w ∈ wsX80, w ∈ wsX9_squaredDistance := by decide +kernel
theorem iX9_squaredDistance_X9 : ∀ w ∈ wsX90, w ∈ wsX9_squaredDistance := by decide +kernel
theorem kX9_squaredDistance_12 : Cond.fieldLink RX9 12 (TX9 0).1 (TX9 0).2.1 (TX9 0).2.2.1 ∈ wsX9_squaredDistance := by decide +kernel
theorem kX9_squaredDistance_36 : Cond.fieldLink RX9 36 (TX9 4).1 (TX9 4).2.1 (TX9 4).2.2.1 ∈ wsX9_squaredDistance := by decide +kernel
theorem cX9_squaredDistance_in {t j1 : Nat} (hj : t < 6) (hj1 : j1 < 2 ^ 31) : mMi l yX9_squaredDistance wsX9_squaredDistance rmX9_squaredDistance D n0 ft [.ref (n0 + 0), .int (nI t), .int (nI j1)] n S
    (fun r S' => S' = (ctP S 1 48).1 ∧ (((S.1 (1 + 6 + t) 0 = 0 ∨ ¬ j1 < (ctP S 1 48).2) ∧ r = -1) ∨ (¬ S.1 (1 + 6 + t) 0 = 0 ∧ j1 < (ctP S 1 48).2 ∧ r = (S.1 (1 + 6 + t) 1 - (ctP S 1 48).1.1 105 j1) * (S.1 (1 + 6 + t) 1 - (ctP S 1 48).1.1 105 j1) + (S.1 (1 + 6 + t) 2 - (ctP S 1 48).1.1 106 j1) * (S.1 (1 + 6 + t) 2 - (ctP S 1 48).1.1 106 j1)))) := by
  have hb : mst 1 = true := rfl
  refine tv_enter (cc := cX9_squaredDistance) (maxL := 3) (ret := (some .int)) (by decide) rfl (Nat.le_of_ble_eq_true rfl) ?_
  intro p e s m args below meth c X hrt hnm hargs
  refine tv_iload_n X dX9_squaredDistance_0 rfl ?_
  refine mm_callSv X dX9_squaredDistance_1 (cX9_requireTrack_in hj) (va_cwS 1 X.2.2.2.2.1 gX9_squaredDistance_X9_requireTrack rfl rfl rfl (by decide +kernel) ⟨Nat.le_of_ble_eq_true rfl, Nat.le_of_ble_eq_true rfl⟩) rfl rfl (Nat.le_of_ble_eq_true rfl) ⟨Nat.zero_le _, Nat.zero_le _⟩ (fun S1 hq => ?_)
  rw [hq]
  clear hq
  refine tv_iload_n X dX9_squaredDistance_4 rfl ?_
  refine mm_callSv X dX9_squaredDistance_5 (cX9_requireContactNumber_in hj1) (va_cwS 1 X.2.2.2.2.1 gX9_squaredDistance_X9_requireContactNumber rfl rfl rfl (by decide +kernel) ⟨Nat.le_of_ble_eq_true rfl, Nat.le_of_ble_eq_true rfl⟩) rfl rfl (Nat.le_of_ble_eq_true rfl) ⟨Nat.zero_le _, Nat.zero_le _⟩ (fun S1 hq => ?_)
  rw [hq]
  clear hq
  refine tv_aload_n X dX9_squaredDistance_8 rfl ?_
  refine mm_callVv (q := (RX9, TX9, 8)) X dX9_squaredDistance_9 (cX9_findContacts_ok) (cwV 0 X.2.2.2.2.1 gX9_squaredDistance_X9_findContacts rfl rfl rfl (by decide +kernel) ⟨Nat.le_of_ble_eq_true rfl, Nat.le_of_ble_eq_true rfl⟩) rfl rfl gX9 rfl (Nat.le_of_ble_eq_true rfl) ⟨Nat.zero_le _, Nat.zero_le _⟩ (fun S1 hq => ?_)
  obtain ⟨k, -, hk, hq1⟩ := hq
  rw [ctP_48 hk] at hq1
  rw [hq1]
  clear hq1
  have htr : (ctP S 1 48).1.1 (1 + 6 + t) = S.1 (1 + 6 + t) := ctP_n (by omega)
  obtain ⟨hc5, hc6⟩ := ctP_k (S := S) (b := 1) (k := 48)
  generalize ctP S 1 48 = P at htr hc5 hc6 ⊢
  obtain ⟨T, kc⟩ := P
  dsimp only at htr hc5 hc6 ⊢
  refine tv_aload_n X dX9_squaredDistance_12 rfl ?_
  refine mm_getf X dX9_squaredDistance_13 gX9 iX9_squaredDistance_X9 rfl 0 (by decide) kX9_squaredDistance_12 rfl ?_
  refine mm_getfN X dX9_squaredDistance_16 (gX6 hb) iX9_squaredDistance_X6 rfl 2 (by decide) nF10 rfl ?_
  refine tv_iload_n X dX9_squaredDistance_19 rfl ?_
  refine mm_aald X dX9_squaredDistance_20 (gTrs hb) rfl t rfl hj rfl (by decide) ?_
  refine mm_getfN X dX9_squaredDistance_21 (gX8 hb hj) iX9_squaredDistance_X8 rfl 0 (by decide) nF3 rfl ?_
  rw [htr]
  by_cases h0 : S.1 (1 + 6 + t) 0 = 0
  · refine tv_if_eq (tgt := 38) X dX9_squaredDistance_24 (by decide) (fun h1 => ?_) (fun h1 => ?_)
    rotate_left
    · exact absurd h0 h1
    refine tv_iconst (v := -1) X dX9_squaredDistance_38 (by decide) ?_
    exact tv_iret X hrt dX9_squaredDistance_39 ⟨_, rfl, rfl, Or.inl ⟨Or.inl h0, rfl⟩⟩
  · refine tv_if_eq (tgt := 38) X dX9_squaredDistance_24 (by decide) (fun h1 => ?_) (fun h1 => ?_)
    · exact absurd h1 h0
    refine tv_iload_n X dX9_squaredDistance_27 rfl ?_
    refine tv_aload_n X dX9_squaredDistance_28 rfl ?_
    refine mm_getf X dX9_squaredDistance_29 gX9 iX9_squaredDistance_X9 rfl 4 (by decide) kX9_squaredDistance_36 rfl ?_
    refine mm_getfN X dX9_squaredDistance_32 gX1 iX9_squaredDistance_X1 rfl 5 (by decide) nF17 rfl ?_
    rw [hc5]
    by_cases hlt : nI j1 < nI kc
    · refine tv_icmp_lt (tgt := 40) X dX9_squaredDistance_35 (by decide) (fun h2 => ?_) (fun h2 => ?_)
      rotate_left
      · exact absurd hlt h2
      have hjk : j1 < kc := (nI_ltI hj1 (by omega)).mp hlt
      refine tv_aload_n X dX9_squaredDistance_40 rfl ?_
      refine mm_getf X dX9_squaredDistance_41 gX9 iX9_squaredDistance_X9 rfl 0 (by decide) kX9_squaredDistance_12 rfl ?_
      refine mm_getfN X dX9_squaredDistance_44 (gX6 hb) iX9_squaredDistance_X6 rfl 2 (by decide) nF10 rfl ?_
      refine tv_iload_n X dX9_squaredDistance_47 rfl ?_
      refine mm_aald X dX9_squaredDistance_48 (gTrs hb) rfl t rfl hj rfl (by decide) ?_
      refine tv_aload_n X dX9_squaredDistance_49 rfl ?_
      refine mm_getf X dX9_squaredDistance_50 gX9 iX9_squaredDistance_X9 rfl 4 (by decide) kX9_squaredDistance_36 rfl ?_
      refine tv_iload_n X dX9_squaredDistance_53 rfl ?_
      refine mm_callVi (q := (RX1, TX1, 6)) X dX9_squaredDistance_54 (cX1_rowOf_ok hc5 hc6 hjk) (cwV 1 X.2.2.2.2.1 gX9_squaredDistance_X1_rowOf rfl rfl rfl (by decide +kernel) ⟨Nat.le_of_ble_eq_true rfl, Nat.le_of_ble_eq_true rfl⟩) rfl rfl gX1 rfl (Nat.le_of_ble_eq_true rfl) ⟨Nat.zero_le _, Nat.zero_le _⟩ (fun r S3 hq3 => ?_)
      obtain ⟨hq1, hq2⟩ := hq3
      rw [hq1, hq2]
      clear hq1 hq2
      refine tv_aload_n X dX9_squaredDistance_57 rfl ?_
      refine mm_getf X dX9_squaredDistance_58 gX9 iX9_squaredDistance_X9 rfl 4 (by decide) kX9_squaredDistance_36 rfl ?_
      refine tv_iload_n X dX9_squaredDistance_61 rfl ?_
      refine mm_callVi (q := (RX1, TX1, 6)) X dX9_squaredDistance_62 (cX1_columnOf_ok hc5 hc6 hjk) (cwV 1 X.2.2.2.2.1 gX9_squaredDistance_X1_columnOf rfl rfl rfl (by decide +kernel) ⟨Nat.le_of_ble_eq_true rfl, Nat.le_of_ble_eq_true rfl⟩) rfl rfl gX1 rfl (Nat.le_of_ble_eq_true rfl) ⟨Nat.zero_le _, Nat.zero_le _⟩ (fun r S3 hq3 => ?_)
      obtain ⟨hq1, hq2⟩ := hq3
      rw [hq1, hq2]
      clear hq1 hq2
      refine mm_callVi (q := (RX8, TX8, 5)) X dX9_squaredDistance_65 (cX8_squaredWayTo_ok hb hj _ _) (cwV 2 X.2.2.2.2.1 gX9_squaredDistance_X8_squaredWayTo rfl rfl rfl (by decide +kernel) ⟨Nat.le_of_ble_eq_true rfl, Nat.le_of_ble_eq_true rfl⟩) rfl rfl (gX8 hb hj) rfl (Nat.le_of_ble_eq_true rfl) ⟨Nat.zero_le _, Nat.zero_le _⟩ (fun r S3 hq3 => ?_)
      obtain ⟨hq1, hq2⟩ := hq3
      rw [htr] at hq2
      rw [hq1, hq2]
      exact tv_iret X hrt dX9_squaredDistance_68 ⟨_, rfl, rfl, Or.inr ⟨h0, hjk, rfl⟩⟩
    · refine tv_icmp_lt (tgt := 40) X dX9_squaredDistance_35 (by decide) (fun h2 => ?_) (fun h2 => ?_)
      · exact absurd h2 hlt
      refine tv_iconst (v := -1) X dX9_squaredDistance_38 (by decide) ?_
      refine tv_iret X hrt dX9_squaredDistance_39 ⟨_, rfl, rfl, Or.inl ⟨Or.inr ?_, rfl⟩⟩
      exact fun hjk => hlt (nI_lt hjk (by omega))
theorem iX9_match_X9 : ∀ w ∈ wsX90, w ∈ wsX9_match := by decide +kernel
theorem kX9_match_43 : Cond.fieldLink RX9 43 (TX9 5).1 (TX9 5).2.1 (TX9 5).2.2.1 ∈ wsX9_match := by decide +kernel
theorem cX9_match_in {t : Nat} (hj : t < 6) : mMi l yX9_match wsX9_match rmX9_match D n0 ft [.ref (n0 + 0), .int (nI t)] n S (fun r S' => S' = mtP S 1 48 ∧ r = (mtP S 1 48).1 126 t) := by
  refine tv_enter (cc := cX9_match) (maxL := 2) (ret := (some .int)) (by decide) rfl (Nat.le_of_ble_eq_true rfl) ?_
  intro p e s m args below meth c X hrt hnm hargs
  refine tv_iload_n X dX9_match_0 rfl ?_
  refine mm_callSv X dX9_match_1 (cX9_requireTrack_in hj) (va_cwS 1 X.2.2.2.2.1 gX9_match_X9_requireTrack rfl rfl rfl (by decide +kernel) ⟨Nat.le_of_ble_eq_true rfl, Nat.le_of_ble_eq_true rfl⟩) rfl rfl (Nat.le_of_ble_eq_true rfl) ⟨Nat.zero_le _, Nat.zero_le _⟩ (fun S1 hq => ?_)
  rw [hq]
  clear hq
  refine tv_aload_n X dX9_match_4 rfl ?_
  refine mm_callVv (q := (RX9, TX9, 8)) X dX9_match_5 (cX9_findMatching_ok) (cwV 0 X.2.2.2.2.1 gX9_match_X9_findMatching rfl rfl rfl (by decide +kernel) ⟨Nat.le_of_ble_eq_true rfl, Nat.le_of_ble_eq_true rfl⟩) rfl rfl gX9 rfl (Nat.le_of_ble_eq_true rfl) ⟨Nat.zero_le _, Nat.zero_le _⟩ (fun S1 hq => ?_)
  obtain ⟨k, -, hk, hq1⟩ := hq
  rw [ctP_48 hk] at hq1
  rw [hq1]
  clear hq1
  refine tv_aload_n X dX9_match_8 rfl ?_
  refine mm_getf X dX9_match_9 gX9 iX9_match_X9 rfl 5 (by decide) kX9_match_43 rfl ?_
  refine tv_iload_n X dX9_match_12 rfl ?_
  refine mm_callVi (q := (RX3, TX3, 6)) X dX9_match_13 (cX3_contactOf_ok hj) (cwV 1 X.2.2.2.2.1 gX9_match_X3_contactOf rfl rfl rfl (by decide +kernel) ⟨Nat.le_of_ble_eq_true rfl, Nat.le_of_ble_eq_true rfl⟩) rfl rfl gX3 rfl (Nat.le_of_ble_eq_true rfl) ⟨Nat.zero_le _, Nat.zero_le _⟩ (fun r S3 hq3 => ?_)
  obtain ⟨hq1, hq2⟩ := hq3
  rw [hq1, hq2]
  exact tv_iret X hrt dX9_match_16 ⟨_, rfl, rfl, rfl⟩
theorem iX9_matchingCost_X9 : ∀ w ∈ wsX90, w ∈ wsX9_matchingCost := by decide +kernel
theorem kX9_matchingCost_43 : Cond.fieldLink RX9 43 (TX9 5).1 (TX9 5).2.1 (TX9 5).2.2.1 ∈ wsX9_matchingCost := by decide +kernel
theorem cX9_matchingCost_ok : mMi l yX9_matchingCost wsX9_matchingCost rmX9_matchingCost D n0 ft [.ref (n0 + 0)] n S (fun r S' => S' = mtP S 1 48 ∧ r = (mtP S 1 48).1 119 0) := by
  refine tv_enter (cc := cX9_matchingCost) (maxL := 1) (ret := (some .int)) (by decide) rfl (Nat.le_of_ble_eq_true rfl) ?_
  intro p e s m args below meth c X hrt hnm hargs
  refine tv_aload_n X dX9_matchingCost_0 rfl ?_
  refine mm_callVv (q := (RX9, TX9, 8)) X dX9_matchingCost_1 (cX9_findMatching_ok) (cwV 0 X.2.2.2.2.1 gX9_matchingCost_X9_findMatching rfl rfl rfl (by decide +kernel) ⟨Nat.le_of_ble_eq_true rfl, Nat.le_of_ble_eq_true rfl⟩) rfl rfl gX9 rfl (Nat.le_of_ble_eq_true rfl) ⟨Nat.zero_le _, Nat.zero_le _⟩ (fun S1 hq => ?_)
  obtain ⟨k, -, hk, hq1⟩ := hq
  rw [ctP_48 hk] at hq1
  rw [hq1]
  clear hq1
  refine tv_aload_n X dX9_matchingCost_4 rfl ?_
  refine mm_getf X dX9_matchingCost_5 gX9 iX9_matchingCost_X9 rfl 5 (by decide) kX9_matchingCost_43 rfl ?_
  refine mm_callVi (q := (RX3, TX3, 6)) X dX9_matchingCost_8 (cX3_wholeCost_ok) (cwV 0 X.2.2.2.2.1 gX9_matchingCost_X3_wholeCost rfl rfl rfl (by decide +kernel) ⟨Nat.le_of_ble_eq_true rfl, Nat.le_of_ble_eq_true rfl⟩) rfl rfl gX3 rfl (Nat.le_of_ble_eq_true rfl) ⟨Nat.zero_le _, Nat.zero_le _⟩ (fun r S3 hq3 => ?_)
  obtain ⟨hq1, hq2⟩ := hq3
  rw [hq1, hq2]
  exact tv_iret X hrt dX9_matchingCost_11 ⟨_, rfl, rfl, rfl⟩
theorem iX9_downIfScanned_X9 : ∀ w ∈ wsX90, w ∈ wsX9_downIfScanned := by decide +kernel
theorem kX9_downIfScanned_12 : Cond.fieldLink RX9 12 (TX9 0).1 (TX9 0).2.1 (TX9 0).2.2.1 ∈ wsX9_downIfScanned := by decide +kernel
theorem kX9_downIfScanned_16 : Cond.fieldLink RX9 16 (TX9 1).1 (TX9 1).2.1 (TX9 1).2.2.1 ∈ wsX9_downIfScanned := by decide +kernel
theorem cX9_downIfScanned_ok (hd : trOk S 1) : mMi l yX9_downIfScanned wsX9_downIfScanned rmX9_downIfScanned D n0 ft [.ref (n0 + 0)] n S (fun r S' => ∃ S1, stFr S1 13 S ∧ stEq S1 13 S 1 ∧ S' = scP S1 13 48 ∧ r = nI (dsN (scP S1 13 48) 13 6)) := by
  have hb : mst 1 = true := rfl
  have hb2 : mst 13 = true := rfl
  refine tv_enter (cc := cX9_downIfScanned) (maxL := 1) (ret := (some .int)) (by decide) rfl (Nat.le_of_ble_eq_true rfl) ?_
  intro p e s m args below meth c X hrt hnm hargs
  refine tv_aload_n X dX9_downIfScanned_0 rfl ?_
  refine mm_getf X dX9_downIfScanned_1 gX9 iX9_downIfScanned_X9 rfl 1 (by decide) kX9_downIfScanned_16 rfl ?_
  refine tv_aload_n X dX9_downIfScanned_4 rfl ?_
  refine mm_getf X dX9_downIfScanned_5 gX9 iX9_downIfScanned_X9 rfl 0 (by decide) kX9_downIfScanned_12 rfl ?_
  refine mm_callVv (q := (RX6, TX6, 6)) X dX9_downIfScanned_8 (cX6_copyFrom_ok hb2 hb (by decide) hd) (cwV 1 X.2.2.2.2.1 gX9_downIfScanned_X6_copyFrom rfl rfl rfl (by decide +kernel) ⟨Nat.le_of_ble_eq_true rfl, Nat.le_of_ble_eq_true rfl⟩) rfl rfl (gX6 hb2) rfl (Nat.le_of_ble_eq_true rfl) ⟨Nat.zero_le _, Nat.zero_le _⟩ (fun S1 hq => ?_)
  refine tv_aload_n X dX9_downIfScanned_11 rfl ?_
  refine tv_aload_n X dX9_downIfScanned_12 rfl ?_
  refine mm_getf X dX9_downIfScanned_13 gX9 iX9_downIfScanned_X9 rfl 1 (by decide) kX9_downIfScanned_16 rfl ?_
  refine mm_callVi (q := (RX9, TX9, 8)) X dX9_downIfScanned_16 (cX9_scanFrame_ok hb2) (cwV 1 X.2.2.2.2.1 gX9_downIfScanned_X9_scanFrame rfl rfl rfl (by decide +kernel) ⟨Nat.le_of_ble_eq_true rfl, Nat.le_of_ble_eq_true rfl⟩) rfl rfl gX9 rfl (Nat.le_of_ble_eq_true rfl) ⟨Nat.zero_le _, Nat.zero_le _⟩ (fun r S3 hq3 => ?_)
  obtain ⟨k, -, hk, hq1, hq2⟩ := hq3
  rw [scP_48 hk] at hq1
  rw [hq1]
  clear hq1 hq2
  refine tv_pop X dX9_downIfScanned_19 rfl ?_
  refine tv_aload_n X dX9_downIfScanned_20 rfl ?_
  refine mm_getf X dX9_downIfScanned_21 gX9 iX9_downIfScanned_X9 rfl 1 (by decide) kX9_downIfScanned_16 rfl ?_
  refine mm_callVi (q := (RX6, TX6, 6)) X dX9_downIfScanned_24 (cX6_downSet_ok hb2) (cwV 0 X.2.2.2.2.1 gX9_downIfScanned_X6_downSet rfl rfl rfl (by decide +kernel) ⟨Nat.le_of_ble_eq_true rfl, Nat.le_of_ble_eq_true rfl⟩) rfl rfl (gX6 hb2) rfl (Nat.le_of_ble_eq_true rfl) ⟨Nat.zero_le _, Nat.zero_le _⟩ (fun r S3 hq3 => ?_)
  obtain ⟨hq1, hq2⟩ := hq3
  rw [hq1, hq2]
  exact tv_iret X hrt dX9_downIfScanned_27 ⟨_, rfl, S1, hq.1, hq.2, rfl, rfl⟩
theorem iX9_frames_X6 : ∀ w ∈ wsX60, w ∈ wsX9_frames := by decide +kernel
theorem iX9_frames_X9 : ∀ w ∈ wsX90, w ∈ wsX9_frames := by decide +kernel
theorem kX9_frames_12 : Cond.fieldLink RX9 12 (TX9 0).1 (TX9 0).2.1 (TX9 0).2.2.1 ∈ wsX9_frames := by decide +kernel
theorem cX9_frames_ok : mMi l yX9_frames wsX9_frames rmX9_frames D n0 ft [.ref (n0 + 0)] n S (fun r S' => S' = S ∧ r = S.1 1 3) := by
  have hb : mst 1 = true := rfl
  refine tv_enter (cc := cX9_frames) (maxL := 1) (ret := (some .int)) (by decide) rfl (Nat.le_of_ble_eq_true rfl) ?_
  intro p e s m args below meth c X hrt hnm hargs
  refine tv_aload_n X dX9_frames_0 rfl ?_
  refine mm_getf X dX9_frames_1 gX9 iX9_frames_X9 rfl 0 (by decide) kX9_frames_12 rfl ?_
  refine mm_getfN X dX9_frames_4 (gX6 hb) iX9_frames_X6 rfl 3 (by decide) nF11 rfl ?_
  exact tv_iret X hrt dX9_frames_7 ⟨_, rfl, rfl, rfl⟩
theorem iX9_downs_X6 : ∀ w ∈ wsX60, w ∈ wsX9_downs := by decide +kernel
theorem iX9_downs_X9 : ∀ w ∈ wsX90, w ∈ wsX9_downs := by decide +kernel
theorem kX9_downs_12 : Cond.fieldLink RX9 12 (TX9 0).1 (TX9 0).2.1 (TX9 0).2.2.1 ∈ wsX9_downs := by decide +kernel
theorem cX9_downs_ok : mMi l yX9_downs wsX9_downs rmX9_downs D n0 ft [.ref (n0 + 0)] n S (fun r S' => S' = S ∧ r = S.1 1 4) := by
  have hb : mst 1 = true := rfl
  refine tv_enter (cc := cX9_downs) (maxL := 1) (ret := (some .int)) (by decide) rfl (Nat.le_of_ble_eq_true rfl) ?_
  intro p e s m args below meth c X hrt hnm hargs
  refine tv_aload_n X dX9_downs_0 rfl ?_
  refine mm_getf X dX9_downs_1 gX9 iX9_downs_X9 rfl 0 (by decide) kX9_downs_12 rfl ?_
  refine mm_getfN X dX9_downs_4 (gX6 hb) iX9_downs_X6 rfl 4 (by decide) nF12 rfl ?_
  exact tv_iret X hrt dX9_downs_7 ⟨_, rfl, rfl, rfl⟩
theorem iX9_ups_X6 : ∀ w ∈ wsX60, w ∈ wsX9_ups := by decide +kernel
theorem iX9_ups_X9 : ∀ w ∈ wsX90, w ∈ wsX9_ups := by decide +kernel
theorem kX9_ups_12 : Cond.fieldLink RX9 12 (TX9 0).1 (TX9 0).2.1 (TX9 0).2.2.1 ∈ wsX9_ups := by decide +kernel
theorem cX9_ups_ok : mMi l yX9_ups wsX9_ups rmX9_ups D n0 ft [.ref (n0 + 0)] n S (fun r S' => S' = S ∧ r = S.1 1 5) := by
  have hb : mst 1 = true := rfl
  refine tv_enter (cc := cX9_ups) (maxL := 1) (ret := (some .int)) (by decide) rfl (Nat.le_of_ble_eq_true rfl) ?_
  intro p e s m args below meth c X hrt hnm hargs
  refine tv_aload_n X dX9_ups_0 rfl ?_
  refine mm_getf X dX9_ups_1 gX9 iX9_ups_X9 rfl 0 (by decide) kX9_ups_12 rfl ?_
  refine mm_getfN X dX9_ups_4 (gX6 hb) iX9_ups_X6 rfl 5 (by decide) nF13 rfl ?_
  exact tv_iret X hrt dX9_ups_7 ⟨_, rfl, rfl, rfl⟩
theorem iX9_savedStates_X2 : ∀ w ∈ wsX20, w ∈ wsX9_savedStates := by decide +kernel
theorem iX9_savedStates_X9 : ∀ w ∈ wsX90, w ∈ wsX9_savedStates := by decide +kernel
theorem kX9_savedStates_22 : Cond.fieldLink RX9 22 (TX9 2).1 (TX9 2).2.1 (TX9 2).2.2.1 ∈ wsX9_savedStates := by decide +kernel
theorem cX9_savedStates_ok : mMi l yX9_savedStates wsX9_savedStates rmX9_savedStates D n0 ft [.ref (n0 + 0)] n S (fun r S' => S' = S ∧ r = S.1 25 1) := by
  refine tv_enter (cc := cX9_savedStates) (maxL := 1) (ret := (some .int)) (by decide) rfl (Nat.le_of_ble_eq_true rfl) ?_
  intro p e s m args below meth c X hrt hnm hargs
  refine tv_aload_n X dX9_savedStates_0 rfl ?_
  refine mm_getf X dX9_savedStates_1 gX9 iX9_savedStates_X9 rfl 2 (by decide) kX9_savedStates_22 rfl ?_
  refine mm_getfN X dX9_savedStates_4 gX2 iX9_savedStates_X2 rfl 1 (by decide) nF14 rfl ?_
  exact tv_iret X hrt dX9_savedStates_7 ⟨_, rfl, rfl, rfl⟩
theorem iX9_meanSignal_X6 : ∀ w ∈ wsX60, w ∈ wsX9_meanSignal := by decide +kernel
theorem iX9_meanSignal_X9 : ∀ w ∈ wsX90, w ∈ wsX9_meanSignal := by decide +kernel
theorem kX9_meanSignal_12 : Cond.fieldLink RX9 12 (TX9 0).1 (TX9 0).2.1 (TX9 0).2.2.1 ∈ wsX9_meanSignal := by decide +kernel
theorem cX9_meanSignal_ok : mMf l yX9_meanSignal wsX9_meanSignal rmX9_meanSignal D n0 ft [.ref (n0 + 0)] n S (fun r S' => S' = S ∧ r = cmV S) := by
  have hb : mst 1 = true := rfl
  refine tv_enter (cc := cX9_meanSignal) (maxL := 5) (ret := (some .float)) (by decide) rfl (Nat.le_of_ble_eq_true rfl) ?_
  intro p e s m args below meth c X hrt hnm hargs
  refine tv_iconst (v := 0) X dX9_meanSignal_0 (by decide) ?_
  refine tv_istore_n X dX9_meanSignal_1 rfl ?_
  refine tv_iconst (v := 0) X dX9_meanSignal_2 (by decide) ?_
  refine tv_istore_n X dX9_meanSignal_3 rfl ?_
  refine tv_iconst (v := 0) X dX9_meanSignal_4 (by decide) ?_
  refine tv_istore_n X dX9_meanSignal_5 rfl ?_
  refine mm_for 48 (fun i => [(0, .ref (n0 + 0)), (1, .int (cmS S i)), (2, .int (cmN S i)), (3, .int (nI i))]) (fun _ => S) ?_ ?_
  · intro i hi ih
    dsimp only at ih
    have e1 : cmS S (i + 1) = if S.1 5 0 ≤ sgS S 1 i then cmS S i + sgS S 1 i else cmS S i := rfl
    have e2 : cmN S (i + 1) = if S.1 5 0 ≤ sgS S 1 i then cmN S i + 1 else cmN S i := rfl
    rw [e1, e2] at ih
    refine tv_iload_n X dX9_meanSignal_6 rfl ?_
    refine tv_bipush (v := 48) X dX9_meanSignal_7 (by decide) ?_
    refine tv_icmp_ge (tgt := 53) X dX9_meanSignal_9 (by decide) (fun h1 => ?_) (fun h1 => ?_)
    · exact absurd h1 (nI_ge (a := i) (b := 48) hi (by decide))
    refine tv_aload_n X dX9_meanSignal_12 rfl ?_
    refine mm_getf X dX9_meanSignal_13 gX9 iX9_meanSignal_X9 rfl 0 (by decide) kX9_meanSignal_12 rfl ?_
    refine mm_getfN X dX9_meanSignal_16 (gX6 hb) iX9_meanSignal_X6 rfl 0 (by decide) nF5 rfl ?_
    refine tv_iload_n X dX9_meanSignal_19 rfl ?_
    refine mm_callVi (q := (RX4, TX4, 2)) X dX9_meanSignal_20 (cX4_signalOf_ok hb hi) (cwV 1 X.2.2.2.2.1 gX9_meanSignal_X4_signalOf rfl rfl rfl (by decide +kernel) ⟨Nat.le_of_ble_eq_true rfl, Nat.le_of_ble_eq_true rfl⟩) rfl rfl (gX4 hb) rfl (Nat.le_of_ble_eq_true rfl) ⟨Nat.zero_le _, Nat.zero_le _⟩ (fun r S3 hq3 => ?_)
    obtain ⟨hq1, hq2⟩ := hq3
    rw [hq1, hq2]
    clear hq1 hq2
    refine tv_istore X dX9_meanSignal_23 rfl ?_
    refine tv_iload X dX9_meanSignal_25 rfl ?_
    refine tv_aload_n X dX9_meanSignal_27 rfl ?_
    refine mm_getf X dX9_meanSignal_28 gX9 iX9_meanSignal_X9 rfl 0 (by decide) kX9_meanSignal_12 rfl ?_
    refine mm_getfN X dX9_meanSignal_31 (gX6 hb) iX9_meanSignal_X6 rfl 1 (by decide) nF8 rfl ?_
    refine tv_iconst (v := 0) X dX9_meanSignal_34 (by decide) ?_
    refine mm_iald X dX9_meanSignal_35 (gSet hb) 0 (by decide) (by decide) (by decide) ?_
    refine tv_icmp_lt (tgt := 47) X dX9_meanSignal_36 (by decide) (fun h2 => ?_) (fun h2 => ?_)
    · rw [if_neg (Int32.not_le.mpr h2), if_neg (Int32.not_le.mpr h2)] at ih
      refine tv_iinc X dX9_meanSignal_47 rfl (nI_1 i) rfl ?_
      refine tv_goto (tgt := 6) X dX9_meanSignal_50 (by decide) ?_
      exact tv_sl [0, 1, 2, 3] rfl ih
    · rw [if_pos (Int32.not_lt.mp h2), if_pos (Int32.not_lt.mp h2)] at ih
      refine tv_iload_n X dX9_meanSignal_39 rfl ?_
      refine tv_iload X dX9_meanSignal_40 rfl ?_
      refine tv_iadd X dX9_meanSignal_42 ?_
      refine tv_istore_n X dX9_meanSignal_43 rfl ?_
      refine tv_iinc X dX9_meanSignal_44 rfl rfl rfl ?_
      refine tv_iinc X dX9_meanSignal_47 rfl (nI_1 i) rfl ?_
      refine tv_goto (tgt := 6) X dX9_meanSignal_50 (by decide) ?_
      exact tv_sl [0, 1, 2, 3] rfl ih
  · refine tv_iload_n X dX9_meanSignal_6 rfl ?_
    refine tv_bipush (v := 48) X dX9_meanSignal_7 (by decide) ?_
    refine tv_icmp_ge (tgt := 53) X dX9_meanSignal_9 (by decide) (fun h1 => ?_) (fun h1 => ?_)
    rotate_left
    · exact absurd (nI_le (Nat.le_refl 48) (by decide)) h1
    have hcv : cmV S = if 0 < cmN S 48 then FP.fdiv (FP.i2f (cmS S 48)) (FP.i2f (cmN S 48)) else FP.fconst0 := rfl
    refine tv_iload_n X dX9_meanSignal_53 rfl ?_
    refine tv_if_le (tgt := 65) X dX9_meanSignal_54 (by decide) (fun h2 => ?_) (fun h2 => ?_)
    · rw [if_neg (Int32.not_lt.mpr h2)] at hcv
      refine tv_fconst0 X dX9_meanSignal_65 ?_
      exact tv_fret X hrt dX9_meanSignal_66 ⟨_, rfl, rfl, hcv.symm⟩
    · have h3 : 0 < cmN S 48 := Int32.not_le.mp h2
      have h4 : ¬ cmN S 48 = 0 := fun e => by rw [e] at h3; exact absurd h3 (by decide)
      rw [if_pos h3] at hcv
      refine tv_iload_n X dX9_meanSignal_57 rfl ?_
      refine tv_i2f X dX9_meanSignal_58 ?_
      refine tv_iload_n X dX9_meanSignal_59 rfl ?_
      refine tv_i2f X dX9_meanSignal_60 ?_
      refine tv_fdiv X dX9_meanSignal_61 (n32_of (fdiv_num h4)) ?_
      refine tv_goto (tgt := 66) X dX9_meanSignal_62 (by decide) ?_
      exact tv_fret X hrt dX9_meanSignal_66 ⟨_, rfl, rfl, hcv.symm⟩
end C41

