section TXS
variable {p : Program} {l : Launch} {e : Env} {R : Room} {s : State} {m : MethodId} {args : Array Value} {below : List Frame} {meth : Method} {c : Code} {Q : State → Prop} {D : va_G} {n0 cells slots nL pc : Nat} {L : List (Nat × Value)} {st : List Value} {n : Nat} {h : tv_H} {cc : ByteArray} {own : String} {Ts : List Cond} {ft : Nat × Nat × Nat}
theorem tv_getsL (X : tv_X p s m args meth c cc nL own Ts D vwCl n0 ft) {index : Nat} (d : decode cc pc = .ok (.getstatic index, 3)) (hlink : Cond.fieldLink own index "TouchTracker" "LEAST_VALUES" "[I" ∈ Ts) (kk : tv_V p l e R s m args below meth c Q D vwCl n0 cells slots nL (pc + 3) L (.ref ft.2.1 :: st) n h) : tv_V p l e R s m args below meth c Q D vwCl n0 cells slots nL pc L st n h := fun H locs ls hr hS hh => va_gets X.1 X.2.1 X.2.2.2.2.2.1.2.1.2.1.1 hS X.2.2.2.1 (X.2.2.2.2.1 _ hlink) (fun _ h => h) d (kk H locs ls hr hS hh)
theorem tv_getsG (X : tv_X p s m args meth c cc nL own Ts D vwCl n0 ft) {index : Nat} (d : decode cc pc = .ok (.getstatic index, 3)) (hlink : Cond.fieldLink own index "TouchTracker" "GREATEST_VALUES" "[I" ∈ Ts) (kk : tv_V p l e R s m args below meth c Q D vwCl n0 cells slots nL (pc + 3) L (.ref ft.2.2 :: st) n h) : tv_V p l e R s m args below meth c Q D vwCl n0 cells slots nL pc L st n h := fun H locs ls hr hS hh => va_gets X.1 X.2.1 X.2.2.2.2.2.1.2.1.2.2.1.1 hS X.2.2.2.1 (X.2.2.2.2.1 _ hlink) (fun _ h => h) d (kk H locs ls hr hS hh)
def leastN (q : Nat) : Int32 := if q = 4 then 0 else 1
theorem leastN_eq : ∀ q, q < 5 → ([1, 1, 1, 1, 0] : List Int32).getD q 0 = leastN q := by decide
theorem mostN_eq : ∀ q, q < 5 → ([100, 48, 255, 1000, 5] : List Int32).getD q 0 = mostN q := by decide
theorem tv_ialdL (X : tv_X p s m args meth c cc nL own Ts D vwCl n0 ft) (d : decode cc pc = .ok (.iaload, 1)) {q : Nat} (hq : q < 5) (kk : tv_V p l e R s m args below meth c Q D vwCl n0 cells slots nL (pc + 1) L (.int (leastN q) :: st) n h) : tv_V p l e R s m args below meth c Q D vwCl n0 cells slots nL pc L (.int (nI q) :: .ref ft.2.1 :: st) n h := fun H locs ls hr hS hh => va_ti X.1 X.2.1 X.2.2.2.2.2.1.2.1.2.1.2 hS (vp_in_nI hq (by decide)) (v := .int (leastN q)) (by rw [nI_clamp (by omega), leastN_eq q hq]) d (kk H locs ls hr hS hh)
theorem tv_ialdG (X : tv_X p s m args meth c cc nL own Ts D vwCl n0 ft) (d : decode cc pc = .ok (.iaload, 1)) {q : Nat} (hq : q < 5) (kk : tv_V p l e R s m args below meth c Q D vwCl n0 cells slots nL (pc + 1) L (.int (mostN q) :: st) n h) : tv_V p l e R s m args below meth c Q D vwCl n0 cells slots nL pc L (.int (nI q) :: .ref ft.2.2 :: st) n h := fun H locs ls hr hS hh => va_ti X.1 X.2.1 X.2.2.2.2.2.1.2.1.2.2.1.2 hS (vp_in_nI hq (by decide)) (v := .int (mostN q)) (by rw [nI_clamp (by omega), mostN_eq q hq]) d (kk H locs ls hr hS hh)
end TXS
section C44
variable {l : Launch} {D : va_G} {n0 : Nat} {ft : Nat × Nat × Nat} {n : Nat} {S : mS} {b : Nat} {len a h : Nat}
theorem aX9_press_65 : Cond.classLink RX9 65 "java/lang/IllegalArgumentException" ∈ wsX9_press ∧ Cond.initialized "java/lang/IllegalArgumentException" ∈ wsX9_press ∧ (∀ w ∈ (vx_atS RX9 69 "java/lang/IllegalArgumentException" ["java/lang/RuntimeException", "java/lang/Exception"]).filter goodWord, w ∈ wsX9_press) ∧ (∀ w ∈ (vx_atS RX9 69 "java/lang/IllegalArgumentException" ["java/lang/RuntimeException", "java/lang/Exception"]).filter (fun w => !goodWord w), w ∈ (tv_nD.map Cond.declares ++ [Cond.castable "java/lang/IllegalArgumentException" "java/lang/IllegalArgumentException"])) ∧ (∀ w ∈ Cond.classLink RX9 65 "java/lang/IllegalArgumentException" :: Cond.initialized "java/lang/IllegalArgumentException" :: vx_atS RX9 69 "java/lang/IllegalArgumentException" ["java/lang/RuntimeException", "java/lang/Exception"], vx_ot w = true) := ⟨by decide +kernel, by decide +kernel, by decide +kernel, by decide +kernel, by decide +kernel⟩
theorem iX9_press_X6 : ∀ w ∈ wsX60, w ∈ wsX9_press := by decide +kernel
theorem iX9_press_X9 : ∀ w ∈ wsX90, w ∈ wsX9_press := by decide +kernel
theorem kX9_press_12 : Cond.fieldLink RX9 12 (TX9 0).1 (TX9 0).2.1 (TX9 0).2.2.1 ∈ wsX9_press := by decide +kernel
theorem kX9_press_22 : Cond.fieldLink RX9 22 (TX9 2).1 (TX9 2).2.1 (TX9 2).2.2.1 ∈ wsX9_press := by decide +kernel
theorem cX9_press_ok (hst : l.stackTraces = false) (hpm : pmOk S) (hh : S.1 25 1 = nI h) (hh6 : h ≤ 6) (hd : trOk S 1) (x y v : Int32) : mxMi l yX9_press wsX9_press rmX9_press 2 12 D n0 ft [.ref (n0 + 0), .int x, .int y, .int v] n S
    (fun r S' => ∃ i j S1, i < 8 ∧ j < 6 ∧ x = nI i ∧ y = nI j ∧ inI v 1 255 = true ∧ svR S h S1 ∧ S' = mset S1 3 (prs9 (S1.1 3) x y v) ∧ r = prs9 (S1.1 3) x y v (6 * i + j))
    (fun E S' => S' = S ∧ ((E = exI ∧ ¬ onP x y) ∨ (E = exA ∧ onP x y ∧ inI v 1 255 = false))) := by
  have hb : mst 1 = true := rfl
  refine tx_enter (cc := cX9_press) (maxL := 4) (ret := (some .int)) (by decide) rfl (Nat.le_of_ble_eq_true rfl) ?_
  intro p e s m args below meth c X hrt hnm hargs hex
  refine tv_iload_n X dX9_press_0 rfl ?_
  refine tv_iload_n X dX9_press_1 rfl ?_
  refine tx_callSv X hex dX9_press_2 (cX9_requireCell_ok hst x y) (va_cwS 2 X.2.2.2.2.1 gX9_press_X9_requireCell rfl rfl rfl (by decide +kernel) ⟨Nat.le_of_ble_eq_true rfl, Nat.le_of_ble_eq_true rfl⟩) rfl rfl (Nat.le_of_ble_eq_true rfl) ⟨Nat.le_of_ble_eq_true rfl, Nat.le_of_ble_eq_true rfl⟩ (Nat.le_of_ble_eq_true rfl) (Nat.le_of_ble_eq_true rfl) (fun E u hu => ?_) (fun n1 h1 hq => ?_)
  · obtain ⟨k1, S', k2, k3, k4, k5⟩ := hu
    exact ⟨k1, S', k2, k3, Or.inl ⟨k4, k5⟩⟩
  obtain ⟨S1, hS1, hq1, hon⟩ := hq
  cases hS1
  rw [hq1]
  clear hq1
  refine tv_iload_n X dX9_press_5 rfl ?_
  refine tv_iconst (v := 1) X dX9_press_6 (by decide) ?_
  refine tv_icmp_lt (tgt := 17) X dX9_press_7 (by decide) (fun h1 => ?_) (fun h1 => ?_)
  · refine tx_throwS (cls := "java/lang/IllegalArgumentException") (text := "a force is from 1 to 255") (names := ["java/lang/RuntimeException", "java/lang/Exception"]) X hex hst dX9_press_17 dX9_press_20 dX9_press_21 dX9_press_23 dX9_press_26 (by decide +kernel) (by decide +kernel) (by decide +kernel) (by decide +kernel) aX9_press_65.1 aX9_press_65.2.1 aX9_press_65.2.2.1 aX9_press_65.2.2.2.1 aX9_press_65.2.2.2.2 ⟨⟨Nat.le_of_ble_eq_true rfl, Nat.le_of_ble_eq_true rfl⟩, Nat.le_of_ble_eq_true rfl, Nat.le_of_ble_eq_true rfl⟩ (Nat.le_of_ble_eq_true rfl) (Nat.le_of_ble_eq_true rfl) (fun n1 hn1 => ⟨hn1, _, rfl, rfl, Or.inr ⟨rfl, hon, by unfold inI; rw [decide_eq_false (Int32.not_le.mpr h1)]; rfl⟩⟩)
  refine tv_iload_n X dX9_press_10 rfl ?_
  refine tv_sipush (v := 255) X dX9_press_11 (by decide) ?_
  refine tv_icmp_le (tgt := 27) X dX9_press_14 (by decide) (fun h2 => ?_) (fun h2 => ?_)
  rotate_left
  · refine tx_throwS (cls := "java/lang/IllegalArgumentException") (text := "a force is from 1 to 255") (names := ["java/lang/RuntimeException", "java/lang/Exception"]) X hex hst dX9_press_17 dX9_press_20 dX9_press_21 dX9_press_23 dX9_press_26 (by decide +kernel) (by decide +kernel) (by decide +kernel) (by decide +kernel) aX9_press_65.1 aX9_press_65.2.1 aX9_press_65.2.2.1 aX9_press_65.2.2.2.1 aX9_press_65.2.2.2.2 ⟨⟨Nat.le_of_ble_eq_true rfl, Nat.le_of_ble_eq_true rfl⟩, Nat.le_of_ble_eq_true rfl, Nat.le_of_ble_eq_true rfl⟩ (Nat.le_of_ble_eq_true rfl) (Nat.le_of_ble_eq_true rfl) (fun n1 hn1 => ⟨hn1, _, rfl, rfl, Or.inr ⟨rfl, hon, by unfold inI; rw [decide_eq_false h2, Bool.and_false]⟩⟩)
  have hin : inI v 1 255 = true := by unfold inI; rw [decide_eq_true (Int32.not_lt.mp h1), decide_eq_true h2]; rfl
  refine tv_aload_n X dX9_press_27 rfl ?_
  refine mm_getf X dX9_press_28 gX9 iX9_press_X9 rfl 2 (by decide) kX9_press_22 rfl ?_
  refine tv_aload_n X dX9_press_31 rfl ?_
  refine mm_getf X dX9_press_32 gX9 iX9_press_X9 rfl 0 (by decide) kX9_press_12 rfl ?_
  refine mm_callVv (q := (RX2, TX2, 2)) X dX9_press_35 (cX2_save_ok hpm hh hh6 hd) (cwV 1 X.2.2.2.2.1 gX9_press_X2_save rfl rfl rfl (by decide +kernel) ⟨Nat.le_of_ble_eq_true rfl, Nat.le_of_ble_eq_true rfl⟩) rfl rfl gX2 rfl (Nat.le_of_ble_eq_true rfl) ⟨Nat.le_of_ble_eq_true rfl, Nat.le_of_ble_eq_true rfl⟩ (fun S1 hq => ?_)
  obtain ⟨⟨i, hi, rfl⟩, j, hj, rfl⟩ := hon
  refine tv_aload_n X dX9_press_38 rfl ?_
  refine mm_getf X dX9_press_39 gX9 iX9_press_X9 rfl 0 (by decide) kX9_press_12 rfl ?_
  refine mm_getfN X dX9_press_42 (gX6 hb) iX9_press_X6 rfl 0 (by decide) nF5 rfl ?_
  refine tv_iload_n X dX9_press_45 rfl ?_
  refine tv_iload_n X dX9_press_46 rfl ?_
  refine tv_iload_n X dX9_press_47 rfl ?_
  refine mm_callVv (q := (RX4, TX4, 2)) X dX9_press_48 (cX4_pressAt_ok hb _ _ v) (cwV 3 X.2.2.2.2.1 gX9_press_X4_pressAt rfl rfl rfl (by decide +kernel) ⟨Nat.le_of_ble_eq_true rfl, Nat.le_of_ble_eq_true rfl⟩) rfl rfl (gX4 hb) rfl (Nat.le_of_ble_eq_true rfl) ⟨Nat.le_of_ble_eq_true rfl, Nat.le_of_ble_eq_true rfl⟩ (fun S2 hq2 => ?_)
  rw [hq2]
  clear hq2
  refine tv_aload_n X dX9_press_51 rfl ?_
  refine mm_getf X dX9_press_52 gX9 iX9_press_X9 rfl 0 (by decide) kX9_press_12 rfl ?_
  refine mm_getfN X dX9_press_55 (gX6 hb) iX9_press_X6 rfl 0 (by decide) nF5 rfl ?_
  refine tv_iload_n X dX9_press_58 rfl ?_
  refine tv_iload_n X dX9_press_59 rfl ?_
  refine mm_callSi X dX9_press_60 (cX9_cellAt_ok _ _) (va_cwS 2 X.2.2.2.2.1 gX9_press_X9_cellAt rfl rfl rfl (by decide +kernel) ⟨Nat.le_of_ble_eq_true rfl, Nat.le_of_ble_eq_true rfl⟩) rfl rfl (Nat.le_of_ble_eq_true rfl) ⟨Nat.le_of_ble_eq_true rfl, Nat.le_of_ble_eq_true rfl⟩ (fun r S3 hq3 => ?_)
  obtain ⟨hq1, hq2⟩ := hq3
  rw [hq1, hq2, cellI]
  clear hq1 hq2
  refine mm_callVi (q := (RX4, TX4, 2)) X dX9_press_63 (cX4_rawOf_ok hb (j := 6 * i + j) (by omega)) (cwV 1 X.2.2.2.2.1 gX9_press_X4_rawOf rfl rfl rfl (by decide +kernel) ⟨Nat.le_of_ble_eq_true rfl, Nat.le_of_ble_eq_true rfl⟩) rfl rfl (gX4 hb) rfl (Nat.le_of_ble_eq_true rfl) ⟨Nat.le_of_ble_eq_true rfl, Nat.le_of_ble_eq_true rfl⟩ (fun r S3 hq3 => ?_)
  obtain ⟨hq1, hq2⟩ := hq3
  rw [mset_s] at hq2
  rw [hq1, hq2]
  refine tx_ret (Nat.le_of_ble_eq_true rfl) (Nat.le_of_ble_eq_true rfl) ?_
  exact tv_iret X hrt dX9_press_66 ⟨_, rfl, i, j, S1, hi, hj, rfl, rfl, hin, hq, rfl, rfl⟩
theorem iX9_release_X6 : ∀ w ∈ wsX60, w ∈ wsX9_release := by decide +kernel
theorem iX9_release_X9 : ∀ w ∈ wsX90, w ∈ wsX9_release := by decide +kernel
theorem kX9_release_12 : Cond.fieldLink RX9 12 (TX9 0).1 (TX9 0).2.1 (TX9 0).2.2.1 ∈ wsX9_release := by decide +kernel
theorem kX9_release_22 : Cond.fieldLink RX9 22 (TX9 2).1 (TX9 2).2.1 (TX9 2).2.2.1 ∈ wsX9_release := by decide +kernel
theorem cX9_release_ok (hpm : pmOk S) (hh : S.1 25 1 = nI h) (hh6 : h ≤ 6) (hd : trOk S 1) : mMi l yX9_release wsX9_release rmX9_release D n0 ft [.ref (n0 + 0)] n S (fun r S' => ∃ S1, svR S h S1 ∧ S' = mset S1 3 (fun k => if k < 48 then 0 else S1.1 3 k) ∧ r = cntI (fun k => decide (S1.1 3 k ≠ 0)) 48) := by
  have hb : mst 1 = true := rfl
  refine tv_enter (cc := cX9_release) (maxL := 1) (ret := (some .int)) (by decide) rfl (Nat.le_of_ble_eq_true rfl) ?_
  intro p e s m args below meth c X hrt hnm hargs
  refine tv_aload_n X dX9_release_0 rfl ?_
  refine mm_getf X dX9_release_1 gX9 iX9_release_X9 rfl 2 (by decide) kX9_release_22 rfl ?_
  refine tv_aload_n X dX9_release_4 rfl ?_
  refine mm_getf X dX9_release_5 gX9 iX9_release_X9 rfl 0 (by decide) kX9_release_12 rfl ?_
  refine mm_callVv (q := (RX2, TX2, 2)) X dX9_release_8 (cX2_save_ok hpm hh hh6 hd) (cwV 1 X.2.2.2.2.1 gX9_release_X2_save rfl rfl rfl (by decide +kernel) ⟨Nat.le_of_ble_eq_true rfl, Nat.le_of_ble_eq_true rfl⟩) rfl rfl gX2 rfl (Nat.le_of_ble_eq_true rfl) ⟨Nat.zero_le _, Nat.zero_le _⟩ (fun S1 hq => ?_)
  refine tv_aload_n X dX9_release_11 rfl ?_
  refine mm_getf X dX9_release_12 gX9 iX9_release_X9 rfl 0 (by decide) kX9_release_12 rfl ?_
  refine mm_getfN X dX9_release_15 (gX6 hb) iX9_release_X6 rfl 0 (by decide) nF5 rfl ?_
  refine mm_callVi (q := (RX4, TX4, 2)) X dX9_release_18 (cX4_clearRaw_ok hb) (cwV 0 X.2.2.2.2.1 gX9_release_X4_clearRaw rfl rfl rfl (by decide +kernel) ⟨Nat.le_of_ble_eq_true rfl, Nat.le_of_ble_eq_true rfl⟩) rfl rfl (gX4 hb) rfl (Nat.le_of_ble_eq_true rfl) ⟨Nat.zero_le _, Nat.zero_le _⟩ (fun r S3 hq3 => ?_)
  obtain ⟨hq1, hq2⟩ := hq3
  rw [hq1, hq2]
  exact tv_iret X hrt dX9_release_21 ⟨_, rfl, S1, hq, rfl, rfl⟩
theorem iX9_calibrate_X6 : ∀ w ∈ wsX60, w ∈ wsX9_calibrate := by decide +kernel
theorem iX9_calibrate_X9 : ∀ w ∈ wsX90, w ∈ wsX9_calibrate := by decide +kernel
theorem kX9_calibrate_12 : Cond.fieldLink RX9 12 (TX9 0).1 (TX9 0).2.1 (TX9 0).2.2.1 ∈ wsX9_calibrate := by decide +kernel
theorem kX9_calibrate_22 : Cond.fieldLink RX9 22 (TX9 2).1 (TX9 2).2.1 (TX9 2).2.2.1 ∈ wsX9_calibrate := by decide +kernel
theorem cX9_calibrate_ok (hpm : pmOk S) (hh : S.1 25 1 = nI h) (hh6 : h ≤ 6) (hd : trOk S 1) : mMi l yX9_calibrate wsX9_calibrate rmX9_calibrate D n0 ft [.ref (n0 + 0)] n S (fun r S' => ∃ S1, svR S h S1 ∧ S' = mset S1 4 (fun k => if k < 48 then S1.1 3 k else S1.1 4 k) ∧ r = cntI (fun k => decide (S1.1 4 k ≠ S1.1 3 k)) 48) := by
  have hb : mst 1 = true := rfl
  refine tv_enter (cc := cX9_calibrate) (maxL := 1) (ret := (some .int)) (by decide) rfl (Nat.le_of_ble_eq_true rfl) ?_
  intro p e s m args below meth c X hrt hnm hargs
  refine tv_aload_n X dX9_calibrate_0 rfl ?_
  refine mm_getf X dX9_calibrate_1 gX9 iX9_calibrate_X9 rfl 2 (by decide) kX9_calibrate_22 rfl ?_
  refine tv_aload_n X dX9_calibrate_4 rfl ?_
  refine mm_getf X dX9_calibrate_5 gX9 iX9_calibrate_X9 rfl 0 (by decide) kX9_calibrate_12 rfl ?_
  refine mm_callVv (q := (RX2, TX2, 2)) X dX9_calibrate_8 (cX2_save_ok hpm hh hh6 hd) (cwV 1 X.2.2.2.2.1 gX9_calibrate_X2_save rfl rfl rfl (by decide +kernel) ⟨Nat.le_of_ble_eq_true rfl, Nat.le_of_ble_eq_true rfl⟩) rfl rfl gX2 rfl (Nat.le_of_ble_eq_true rfl) ⟨Nat.zero_le _, Nat.zero_le _⟩ (fun S1 hq => ?_)
  refine tv_aload_n X dX9_calibrate_11 rfl ?_
  refine mm_getf X dX9_calibrate_12 gX9 iX9_calibrate_X9 rfl 0 (by decide) kX9_calibrate_12 rfl ?_
  refine mm_getfN X dX9_calibrate_15 (gX6 hb) iX9_calibrate_X6 rfl 0 (by decide) nF5 rfl ?_
  refine mm_callVi (q := (RX4, TX4, 2)) X dX9_calibrate_18 (cX4_takeBaselines_ok hb) (cwV 0 X.2.2.2.2.1 gX9_calibrate_X4_takeBaselines rfl rfl rfl (by decide +kernel) ⟨Nat.le_of_ble_eq_true rfl, Nat.le_of_ble_eq_true rfl⟩) rfl rfl (gX4 hb) rfl (Nat.le_of_ble_eq_true rfl) ⟨Nat.zero_le _, Nat.zero_le _⟩ (fun r S3 hq3 => ?_)
  obtain ⟨hq1, hq2⟩ := hq3
  rw [hq1, hq2]
  exact tv_iret X hrt dX9_calibrate_21 ⟨_, rfl, S1, hq, rfl, rfl⟩
theorem aX9_set_65 : Cond.classLink RX9 65 "java/lang/IllegalArgumentException" ∈ wsX9_set ∧ Cond.initialized "java/lang/IllegalArgumentException" ∈ wsX9_set ∧ (∀ w ∈ (vx_atS RX9 69 "java/lang/IllegalArgumentException" ["java/lang/RuntimeException", "java/lang/Exception"]).filter goodWord, w ∈ wsX9_set) ∧ (∀ w ∈ (vx_atS RX9 69 "java/lang/IllegalArgumentException" ["java/lang/RuntimeException", "java/lang/Exception"]).filter (fun w => !goodWord w), w ∈ (tv_nD.map Cond.declares ++ [Cond.castable "java/lang/IllegalArgumentException" "java/lang/IllegalArgumentException"])) ∧ (∀ w ∈ Cond.classLink RX9 65 "java/lang/IllegalArgumentException" :: Cond.initialized "java/lang/IllegalArgumentException" :: vx_atS RX9 69 "java/lang/IllegalArgumentException" ["java/lang/RuntimeException", "java/lang/Exception"], vx_ot w = true) := ⟨by decide +kernel, by decide +kernel, by decide +kernel, by decide +kernel, by decide +kernel⟩
theorem iX9_set_X6 : ∀ w ∈ wsX60, w ∈ wsX9_set := by decide +kernel
theorem iX9_set_X9 : ∀ w ∈ wsX90, w ∈ wsX9_set := by decide +kernel
theorem kX9_set_12 : Cond.fieldLink RX9 12 (TX9 0).1 (TX9 0).2.1 (TX9 0).2.2.1 ∈ wsX9_set := by decide +kernel
theorem kX9_set_22 : Cond.fieldLink RX9 22 (TX9 2).1 (TX9 2).2.1 (TX9 2).2.2.1 ∈ wsX9_set := by decide +kernel
theorem kX9_set_110 : Cond.fieldLink RX9 110 "TouchTracker" "LEAST_VALUES" "[I" ∈ wsX9_set := by decide +kernel
theorem kX9_set_114 : Cond.fieldLink RX9 114 "TouchTracker" "GREATEST_VALUES" "[I" ∈ wsX9_set := by decide +kernel
theorem cX9_set_ok (hst : l.stackTraces = false) (hpm : pmOk S) (hh : S.1 25 1 = nI h) (hh6 : h ≤ 6) (hd : trOk S 1) (x v : Int32) : mxMi l yX9_set wsX9_set rmX9_set 2 12 D n0 ft [.ref (n0 + 0), .int x, .int v] n S
    (fun r S' => ∃ q S1, q < 5 ∧ x = nI q ∧ inI v (leastN q) (mostN q) = true ∧ svR S h S1 ∧ S' = mupd S1 5 q v ∧ r = S1.1 5 q)
    (fun E S' => S' = S ∧ ((E = exI ∧ ¬ ∃ q, q < 5 ∧ x = nI q) ∨ (E = exA ∧ ∃ q, q < 5 ∧ x = nI q ∧ inI v (leastN q) (mostN q) = false))) := by
  have hb : mst 1 = true := rfl
  refine tx_enter (cc := cX9_set) (maxL := 4) (ret := (some .int)) (by decide) rfl (Nat.le_of_ble_eq_true rfl) ?_
  intro p e s m args below meth c X hrt hnm hargs hex
  refine tv_iload_n X dX9_set_0 rfl ?_
  refine tx_callSv X hex dX9_set_1 (cX9_requireSetting_ok hst x) (va_cwS 1 X.2.2.2.2.1 gX9_set_X9_requireSetting rfl rfl rfl (by decide +kernel) ⟨Nat.le_of_ble_eq_true rfl, Nat.le_of_ble_eq_true rfl⟩) rfl rfl (Nat.le_of_ble_eq_true rfl) ⟨Nat.le_of_ble_eq_true rfl, Nat.le_of_ble_eq_true rfl⟩ (Nat.le_of_ble_eq_true rfl) (Nat.le_of_ble_eq_true rfl) (fun E u hu => ?_) (fun n1 h1 hq => ?_)
  · obtain ⟨k1, S', k2, k3, k4, k5⟩ := hu
    exact ⟨k1, S', k2, k3, Or.inl ⟨k4, k5⟩⟩
  obtain ⟨S1, hS1, hq1, q, hq5, rfl⟩ := hq
  cases hS1
  rw [hq1]
  clear hq1
  refine tv_iload_n X dX9_set_4 rfl ?_
  refine tv_getsL X dX9_set_5 kX9_set_110 ?_
  refine tv_iload_n X dX9_set_8 rfl ?_
  refine tv_ialdL X dX9_set_9 hq5 ?_
  refine tv_icmp_lt (tgt := 22) X dX9_set_10 (by decide) (fun h1 => ?_) (fun h1 => ?_)
  · refine tx_throwS (cls := "java/lang/IllegalArgumentException") (text := "the value is out of range for the setting") (names := ["java/lang/RuntimeException", "java/lang/Exception"]) X hex hst dX9_set_22 dX9_set_25 dX9_set_26 dX9_set_28 dX9_set_31 (by decide +kernel) (by decide +kernel) (by decide +kernel) (by decide +kernel) aX9_set_65.1 aX9_set_65.2.1 aX9_set_65.2.2.1 aX9_set_65.2.2.2.1 aX9_set_65.2.2.2.2 ⟨⟨Nat.le_of_ble_eq_true rfl, Nat.le_of_ble_eq_true rfl⟩, Nat.le_of_ble_eq_true rfl, Nat.le_of_ble_eq_true rfl⟩ (Nat.le_of_ble_eq_true rfl) (Nat.le_of_ble_eq_true rfl) (fun n1 hn1 => ⟨hn1, _, rfl, rfl, Or.inr ⟨rfl, q, hq5, rfl, by unfold inI; rw [decide_eq_false (Int32.not_le.mpr h1)]; rfl⟩⟩)
  refine tv_iload_n X dX9_set_13 rfl ?_
  refine tv_getsG X dX9_set_14 kX9_set_114 ?_
  refine tv_iload_n X dX9_set_17 rfl ?_
  refine tv_ialdG X dX9_set_18 hq5 ?_
  refine tv_icmp_le (tgt := 32) X dX9_set_19 (by decide) (fun h2 => ?_) (fun h2 => ?_)
  rotate_left
  · refine tx_throwS (cls := "java/lang/IllegalArgumentException") (text := "the value is out of range for the setting") (names := ["java/lang/RuntimeException", "java/lang/Exception"]) X hex hst dX9_set_22 dX9_set_25 dX9_set_26 dX9_set_28 dX9_set_31 (by decide +kernel) (by decide +kernel) (by decide +kernel) (by decide +kernel) aX9_set_65.1 aX9_set_65.2.1 aX9_set_65.2.2.1 aX9_set_65.2.2.2.1 aX9_set_65.2.2.2.2 ⟨⟨Nat.le_of_ble_eq_true rfl, Nat.le_of_ble_eq_true rfl⟩, Nat.le_of_ble_eq_true rfl, Nat.le_of_ble_eq_true rfl⟩ (Nat.le_of_ble_eq_true rfl) (Nat.le_of_ble_eq_true rfl) (fun n1 hn1 => ⟨hn1, _, rfl, rfl, Or.inr ⟨rfl, q, hq5, rfl, by unfold inI; rw [decide_eq_false h2, Bool.and_false]⟩⟩)
  have hin : inI v (leastN q) (mostN q) = true := by unfold inI; rw [decide_eq_true (Int32.not_lt.mp h1), decide_eq_true h2]; rfl
  refine tv_aload_n X dX9_set_32 rfl ?_
  refine mm_getf X dX9_set_33 gX9 iX9_set_X9 rfl 2 (by decide) kX9_set_22 rfl ?_
  refine tv_aload_n X dX9_set_36 rfl ?_
  refine mm_getf X dX9_set_37 gX9 iX9_set_X9 rfl 0 (by decide) kX9_set_12 rfl ?_
  refine mm_callVv (q := (RX2, TX2, 2)) X dX9_set_40 (cX2_save_ok hpm hh hh6 hd) (cwV 1 X.2.2.2.2.1 gX9_set_X2_save rfl rfl rfl (by decide +kernel) ⟨Nat.le_of_ble_eq_true rfl, Nat.le_of_ble_eq_true rfl⟩) rfl rfl gX2 rfl (Nat.le_of_ble_eq_true rfl) ⟨Nat.le_of_ble_eq_true rfl, Nat.le_of_ble_eq_true rfl⟩ (fun S1 hq => ?_)
  refine tv_aload_n X dX9_set_43 rfl ?_
  refine mm_getf X dX9_set_44 gX9 iX9_set_X9 rfl 0 (by decide) kX9_set_12 rfl ?_
  refine mm_getfN X dX9_set_47 (gX6 hb) iX9_set_X6 rfl 1 (by decide) nF8 rfl ?_
  refine tv_iload_n X dX9_set_50 rfl ?_
  refine mm_iald X dX9_set_51 (gSet hb) q rfl hq5 (by decide) ?_
  refine tv_istore_n X dX9_set_52 rfl ?_
  refine tv_aload_n X dX9_set_53 rfl ?_
  refine mm_getf X dX9_set_54 gX9 iX9_set_X9 rfl 0 (by decide) kX9_set_12 rfl ?_
  refine mm_getfN X dX9_set_57 (gX6 hb) iX9_set_X6 rfl 1 (by decide) nF8 rfl ?_
  refine tv_iload_n X dX9_set_60 rfl ?_
  refine tv_iload_n X dX9_set_61 rfl ?_
  refine mm_iast X dX9_set_62 (gSet hb) q rfl hq5 (by decide) ?_
  refine tv_iload_n X dX9_set_63 rfl ?_
  refine tx_ret (Nat.le_of_ble_eq_true rfl) (Nat.le_of_ble_eq_true rfl) ?_
  exact tv_iret X hrt dX9_set_64 ⟨_, rfl, q, S1, hq5, rfl, hin, hq, rfl, rfl⟩
theorem iX9_scan_X9 : ∀ w ∈ wsX90, w ∈ wsX9_scan := by decide +kernel
theorem kX9_scan_12 : Cond.fieldLink RX9 12 (TX9 0).1 (TX9 0).2.1 (TX9 0).2.2.1 ∈ wsX9_scan := by decide +kernel
theorem kX9_scan_22 : Cond.fieldLink RX9 22 (TX9 2).1 (TX9 2).2.1 (TX9 2).2.2.1 ∈ wsX9_scan := by decide +kernel
theorem cX9_scan_ok (hpm : pmOk S) (hh : S.1 25 1 = nI h) (hh6 : h ≤ 6) (hd : trOk S 1) : mMi l yX9_scan wsX9_scan rmX9_scan D n0 ft [.ref (n0 + 0)] n S (fun r S' => ∃ S1, svR S h S1 ∧ S' = scP S1 1 48 ∧ r = (scP S1 1 48).1 1 4 + (scP S1 1 48).1 1 5 - (S1.1 1 4 + S1.1 1 5)) := by
  have hb : mst 1 = true := rfl
  refine tv_enter (cc := cX9_scan) (maxL := 1) (ret := (some .int)) (by decide) rfl (Nat.le_of_ble_eq_true rfl) ?_
  intro p e s m args below meth c X hrt hnm hargs
  refine tv_aload_n X dX9_scan_0 rfl ?_
  refine mm_getf X dX9_scan_1 gX9 iX9_scan_X9 rfl 2 (by decide) kX9_scan_22 rfl ?_
  refine tv_aload_n X dX9_scan_4 rfl ?_
  refine mm_getf X dX9_scan_5 gX9 iX9_scan_X9 rfl 0 (by decide) kX9_scan_12 rfl ?_
  refine mm_callVv (q := (RX2, TX2, 2)) X dX9_scan_8 (cX2_save_ok hpm hh hh6 hd) (cwV 1 X.2.2.2.2.1 gX9_scan_X2_save rfl rfl rfl (by decide +kernel) ⟨Nat.le_of_ble_eq_true rfl, Nat.le_of_ble_eq_true rfl⟩) rfl rfl gX2 rfl (Nat.le_of_ble_eq_true rfl) ⟨Nat.zero_le _, Nat.zero_le _⟩ (fun S1 hq => ?_)
  refine tv_aload_n X dX9_scan_11 rfl ?_
  refine tv_aload_n X dX9_scan_12 rfl ?_
  refine mm_getf X dX9_scan_13 gX9 iX9_scan_X9 rfl 0 (by decide) kX9_scan_12 rfl ?_
  refine mm_callVi (q := (RX9, TX9, 8)) X dX9_scan_16 (cX9_scanFrame_ok hb) (cwV 1 X.2.2.2.2.1 gX9_scan_X9_scanFrame rfl rfl rfl (by decide +kernel) ⟨Nat.le_of_ble_eq_true rfl, Nat.le_of_ble_eq_true rfl⟩) rfl rfl gX9 rfl (Nat.le_of_ble_eq_true rfl) ⟨Nat.zero_le _, Nat.zero_le _⟩ (fun r S3 hq3 => ?_)
  obtain ⟨k, -, hk, hq1, hq2⟩ := hq3
  rw [scP_48 hk] at hq1 hq2
  rw [hq1, hq2]
  exact tv_iret X hrt dX9_scan_19 ⟨_, rfl, S1, hq, rfl, rfl⟩
theorem aX9_appendText_65 : Cond.classLink RX9 65 "java/lang/IllegalArgumentException" ∈ wsX9_appendText ∧ Cond.initialized "java/lang/IllegalArgumentException" ∈ wsX9_appendText ∧ (∀ w ∈ (vx_atS RX9 69 "java/lang/IllegalArgumentException" ["java/lang/RuntimeException", "java/lang/Exception"]).filter goodWord, w ∈ wsX9_appendText) ∧ (∀ w ∈ (vx_atS RX9 69 "java/lang/IllegalArgumentException" ["java/lang/RuntimeException", "java/lang/Exception"]).filter (fun w => !goodWord w), w ∈ (tv_nD.map Cond.declares ++ [Cond.castable "java/lang/IllegalArgumentException" "java/lang/IllegalArgumentException"])) ∧ (∀ w ∈ Cond.classLink RX9 65 "java/lang/IllegalArgumentException" :: Cond.initialized "java/lang/IllegalArgumentException" :: vx_atS RX9 69 "java/lang/IllegalArgumentException" ["java/lang/RuntimeException", "java/lang/Exception"], vx_ot w = true) := ⟨by decide +kernel, by decide +kernel, by decide +kernel, by decide +kernel, by decide +kernel⟩
theorem aX9_appendText_132 : Cond.classLink RX9 132 "java/lang/IllegalStateException" ∈ wsX9_appendText ∧ Cond.initialized "java/lang/IllegalStateException" ∈ wsX9_appendText ∧ (∀ w ∈ (vx_atS RX9 136 "java/lang/IllegalStateException" ["java/lang/RuntimeException", "java/lang/Exception"]).filter goodWord, w ∈ wsX9_appendText) ∧ (∀ w ∈ (vx_atS RX9 136 "java/lang/IllegalStateException" ["java/lang/RuntimeException", "java/lang/Exception"]).filter (fun w => !goodWord w), w ∈ (tv_nD.map Cond.declares ++ [Cond.castable "java/lang/IllegalStateException" "java/lang/IllegalStateException"])) ∧ (∀ w ∈ Cond.classLink RX9 132 "java/lang/IllegalStateException" :: Cond.initialized "java/lang/IllegalStateException" :: vx_atS RX9 136 "java/lang/IllegalStateException" ["java/lang/RuntimeException", "java/lang/Exception"], vx_ot w = true) := ⟨by decide +kernel, by decide +kernel, by decide +kernel, by decide +kernel, by decide +kernel⟩
theorem iX9_appendText_X7 : ∀ w ∈ wsX70, w ∈ wsX9_appendText := by decide +kernel
theorem iX9_appendText_X9 : ∀ w ∈ wsX90, w ∈ wsX9_appendText := by decide +kernel
theorem kX9_appendText_50 : Cond.fieldLink RX9 50 (TX9 6).1 (TX9 6).2.1 (TX9 6).2.2.1 ∈ wsX9_appendText := by decide +kernel
theorem cX9_appendText_ok (hst : l.stackTraces = false) {k : Nat} (hk : S.1 127 1 = nI k) (hk80 : k ≤ 80) (v : Int32) : mxMi l yX9_appendText wsX9_appendText rmX9_appendText 1 6 D n0 ft [.ref (n0 + 0), .int v] n S
    (fun r S' => inI v 32 126 = true ∧ k < 80 ∧ S' = mset (mset S 128 (upd (S.1 128) k (vp_nar .char (v.toUInt32 % 65536).toInt32))) 127 (upd (S.1 127) 1 (nI (k + 1))) ∧ r = nI (k + 1))
    (fun E S' => S' = S ∧ ((E = exA ∧ inI v 32 126 = false) ∨ (E = exS ∧ inI v 32 126 = true ∧ k = 80))) := by
  refine tx_enter (cc := cX9_appendText) (maxL := 2) (ret := (some .int)) (by decide) rfl (Nat.le_of_ble_eq_true rfl) ?_
  intro p e s m args below meth c X hrt hnm hargs hex
  refine tv_iload_n X dX9_appendText_0 rfl ?_
  refine tv_bipush (v := 32) X dX9_appendText_1 (by decide) ?_
  refine tv_icmp_lt (tgt := 12) X dX9_appendText_3 (by decide) (fun h1 => ?_) (fun h1 => ?_)
  · refine tx_throwS (cls := "java/lang/IllegalArgumentException") (text := "a character code is from 32 to 126") (names := ["java/lang/RuntimeException", "java/lang/Exception"]) X hex hst dX9_appendText_12 dX9_appendText_15 dX9_appendText_16 dX9_appendText_18 dX9_appendText_21 (by decide +kernel) (by decide +kernel) (by decide +kernel) (by decide +kernel) aX9_appendText_65.1 aX9_appendText_65.2.1 aX9_appendText_65.2.2.1 aX9_appendText_65.2.2.2.1 aX9_appendText_65.2.2.2.2 ⟨⟨Nat.le_of_ble_eq_true rfl, Nat.le_of_ble_eq_true rfl⟩, Nat.le_of_ble_eq_true rfl, Nat.le_of_ble_eq_true rfl⟩ (Nat.le_of_ble_eq_true rfl) (Nat.le_of_ble_eq_true rfl) (fun n1 hn1 => ⟨hn1, _, rfl, rfl, Or.inl ⟨rfl, by unfold inI; rw [decide_eq_false (Int32.not_le.mpr h1)]; rfl⟩⟩)
  refine tv_iload_n X dX9_appendText_6 rfl ?_
  refine tv_bipush (v := 126) X dX9_appendText_7 (by decide) ?_
  refine tv_icmp_le (tgt := 22) X dX9_appendText_9 (by decide) (fun h2 => ?_) (fun h2 => ?_)
  rotate_left
  · refine tx_throwS (cls := "java/lang/IllegalArgumentException") (text := "a character code is from 32 to 126") (names := ["java/lang/RuntimeException", "java/lang/Exception"]) X hex hst dX9_appendText_12 dX9_appendText_15 dX9_appendText_16 dX9_appendText_18 dX9_appendText_21 (by decide +kernel) (by decide +kernel) (by decide +kernel) (by decide +kernel) aX9_appendText_65.1 aX9_appendText_65.2.1 aX9_appendText_65.2.2.1 aX9_appendText_65.2.2.2.1 aX9_appendText_65.2.2.2.2 ⟨⟨Nat.le_of_ble_eq_true rfl, Nat.le_of_ble_eq_true rfl⟩, Nat.le_of_ble_eq_true rfl, Nat.le_of_ble_eq_true rfl⟩ (Nat.le_of_ble_eq_true rfl) (Nat.le_of_ble_eq_true rfl) (fun n1 hn1 => ⟨hn1, _, rfl, rfl, Or.inl ⟨rfl, by unfold inI; rw [decide_eq_false h2, Bool.and_false]⟩⟩)
  have hin : inI v 32 126 = true := by unfold inI; rw [decide_eq_true (Int32.not_lt.mp h1), decide_eq_true h2]; rfl
  refine tv_aload_n X dX9_appendText_22 rfl ?_
  refine mm_getf X dX9_appendText_23 gX9 iX9_appendText_X9 rfl 6 (by decide) kX9_appendText_50 rfl ?_
  refine mm_callVi (q := (RX7, TX7, 2)) X dX9_appendText_26 (cX7_isFull_ok hk hk80) (cwV 0 X.2.2.2.2.1 gX9_appendText_X7_isFull rfl rfl rfl (by decide +kernel) ⟨Nat.le_of_ble_eq_true rfl, Nat.le_of_ble_eq_true rfl⟩) rfl rfl gX7 rfl (Nat.le_of_ble_eq_true rfl) ⟨Nat.le_of_ble_eq_true rfl, Nat.le_of_ble_eq_true rfl⟩ (fun r S1 hq => ?_)
  obtain ⟨hq1, hq2⟩ := hq
  rw [hq1, hq2]
  clear hq1 hq2
  by_cases h80 : k = 80
  · rw [if_pos h80]
    refine tv_if_eq (tgt := 42) X dX9_appendText_29 (by decide) (fun h3 => ?_) (fun h3 => ?_)
    · exact absurd h3 (by decide)
    · refine tx_throwS (cls := "java/lang/IllegalStateException") (text := "the text is full") (names := ["java/lang/RuntimeException", "java/lang/Exception"]) X hex hst dX9_appendText_32 dX9_appendText_35 dX9_appendText_36 dX9_appendText_38 dX9_appendText_41 (by decide +kernel) (by decide +kernel) (by decide +kernel) (by decide +kernel) aX9_appendText_132.1 aX9_appendText_132.2.1 aX9_appendText_132.2.2.1 aX9_appendText_132.2.2.2.1 aX9_appendText_132.2.2.2.2 ⟨⟨Nat.le_of_ble_eq_true rfl, Nat.le_of_ble_eq_true rfl⟩, Nat.le_of_ble_eq_true rfl, Nat.le_of_ble_eq_true rfl⟩ (Nat.le_of_ble_eq_true rfl) (Nat.le_of_ble_eq_true rfl) (fun n1 hn1 => ⟨hn1, _, rfl, rfl, Or.inr ⟨rfl, hin, h80⟩⟩)
  · rw [if_neg h80]
    refine tv_if_eq (tgt := 42) X dX9_appendText_29 (by decide) (fun h3 => ?_) (fun h3 => ?_)
    rotate_left
    · exact absurd rfl h3
    refine tv_aload_n X dX9_appendText_42 rfl ?_
    refine mm_getf X dX9_appendText_43 gX9 iX9_appendText_X9 rfl 6 (by decide) kX9_appendText_50 rfl ?_
    refine tv_iload_n X dX9_appendText_46 rfl ?_
    refine mm_callVv (q := (RX7, TX7, 2)) X dX9_appendText_47 (cX7_append_ok hk (by omega) v) (cwV 1 X.2.2.2.2.1 gX9_appendText_X7_append rfl rfl rfl (by decide +kernel) ⟨Nat.le_of_ble_eq_true rfl, Nat.le_of_ble_eq_true rfl⟩) rfl rfl gX7 rfl (Nat.le_of_ble_eq_true rfl) ⟨Nat.le_of_ble_eq_true rfl, Nat.le_of_ble_eq_true rfl⟩ (fun S1 hq => ?_)
    rw [hq]
    clear hq
    refine tv_aload_n X dX9_appendText_50 rfl ?_
    refine mm_getf X dX9_appendText_51 gX9 iX9_appendText_X9 rfl 6 (by decide) kX9_appendText_50 rfl ?_
    refine mm_getfN X dX9_appendText_54 gX7 iX9_appendText_X7 rfl 1 (by decide) nF18 rfl ?_
    rw [mset_s, pk_us]
    refine tx_ret (Nat.le_of_ble_eq_true rfl) (Nat.le_of_ble_eq_true rfl) ?_
    exact tv_iret X hrt dX9_appendText_57 ⟨_, rfl, hin, by omega, rfl, rfl⟩
theorem iX9_clearText_X7 : ∀ w ∈ wsX70, w ∈ wsX9_clearText := by decide +kernel
theorem iX9_clearText_X9 : ∀ w ∈ wsX90, w ∈ wsX9_clearText := by decide +kernel
theorem kX9_clearText_50 : Cond.fieldLink RX9 50 (TX9 6).1 (TX9 6).2.1 (TX9 6).2.2.1 ∈ wsX9_clearText := by decide +kernel
theorem cX9_clearText_ok : mMi l yX9_clearText wsX9_clearText rmX9_clearText D n0 ft [.ref (n0 + 0)] n S (fun r S' => S' = mset S 127 (upd (S.1 127) 1 0) ∧ r = S.1 127 1) := by
  refine tv_enter (cc := cX9_clearText) (maxL := 2) (ret := (some .int)) (by decide) rfl (Nat.le_of_ble_eq_true rfl) ?_
  intro p e s m args below meth c X hrt hnm hargs
  refine tv_aload_n X dX9_clearText_0 rfl ?_
  refine mm_getf X dX9_clearText_1 gX9 iX9_clearText_X9 rfl 6 (by decide) kX9_clearText_50 rfl ?_
  refine mm_getfN X dX9_clearText_4 gX7 iX9_clearText_X7 rfl 1 (by decide) nF18 rfl ?_
  refine tv_istore_n X dX9_clearText_7 rfl ?_
  refine tv_aload_n X dX9_clearText_8 rfl ?_
  refine mm_getf X dX9_clearText_9 gX9 iX9_clearText_X9 rfl 6 (by decide) kX9_clearText_50 rfl ?_
  refine mm_callVv (q := (RX7, TX7, 2)) X dX9_clearText_12 (cX7_empty_ok) (cwV 0 X.2.2.2.2.1 gX9_clearText_X7_empty rfl rfl rfl (by decide +kernel) ⟨Nat.le_of_ble_eq_true rfl, Nat.le_of_ble_eq_true rfl⟩) rfl rfl gX7 rfl (Nat.le_of_ble_eq_true rfl) ⟨Nat.zero_le _, Nat.zero_le _⟩ (fun S1 hq => ?_)
  rw [hq]
  refine tv_iload_n X dX9_clearText_15 rfl ?_
  exact tv_iret X hrt dX9_clearText_16 ⟨_, rfl, rfl, rfl⟩
theorem cX9_errorPosition_ok {k : Nat} (hk : S.1 127 1 = nI k) (hk80 : k ≤ 80) : mMi l yX9_errorPosition wsX9_errorPosition rmX9_errorPosition D n0 ft [.ref (n0 + 0)] n S (fun r S' => (∃ w, S' = mset S 129 w) ∧ r = feR (S.1 129) (S.1 128) k) := by
  refine tv_enter (cc := cX9_errorPosition) (maxL := 1) (ret := (some .int)) (by decide) rfl (Nat.le_of_ble_eq_true rfl) ?_
  intro p e s m args below meth c X hrt hnm hargs
  refine tv_aload_n X dX9_errorPosition_0 rfl ?_
  refine mm_callVi (q := (RX9, TX9, 8)) X dX9_errorPosition_1 (cX9_findError_ok hk hk80) (cwV 0 X.2.2.2.2.1 gX9_errorPosition_X9_findError rfl rfl rfl (by decide +kernel) ⟨Nat.le_of_ble_eq_true rfl, Nat.le_of_ble_eq_true rfl⟩) rfl rfl gX9 rfl (Nat.le_of_ble_eq_true rfl) ⟨Nat.zero_le _, Nat.zero_le _⟩ (fun r S1 hq => ?_)
  obtain ⟨⟨w, hq1⟩, hq2⟩ := hq
  rw [hq1, hq2]
  exact tv_iret X hrt dX9_errorPosition_4 ⟨_, rfl, ⟨w, rfl⟩, rfl⟩
theorem aX9_undo_132 : Cond.classLink RX9 132 "java/lang/IllegalStateException" ∈ wsX9_undo ∧ Cond.initialized "java/lang/IllegalStateException" ∈ wsX9_undo ∧ (∀ w ∈ (vx_atS RX9 136 "java/lang/IllegalStateException" ["java/lang/RuntimeException", "java/lang/Exception"]).filter goodWord, w ∈ wsX9_undo) ∧ (∀ w ∈ (vx_atS RX9 136 "java/lang/IllegalStateException" ["java/lang/RuntimeException", "java/lang/Exception"]).filter (fun w => !goodWord w), w ∈ (tv_nD.map Cond.declares ++ [Cond.castable "java/lang/IllegalStateException" "java/lang/IllegalStateException"])) ∧ (∀ w ∈ Cond.classLink RX9 132 "java/lang/IllegalStateException" :: Cond.initialized "java/lang/IllegalStateException" :: vx_atS RX9 136 "java/lang/IllegalStateException" ["java/lang/RuntimeException", "java/lang/Exception"], vx_ot w = true) := ⟨by decide +kernel, by decide +kernel, by decide +kernel, by decide +kernel, by decide +kernel⟩
theorem iX9_undo_X2 : ∀ w ∈ wsX20, w ∈ wsX9_undo := by decide +kernel
theorem iX9_undo_X9 : ∀ w ∈ wsX90, w ∈ wsX9_undo := by decide +kernel
theorem kX9_undo_12 : Cond.fieldLink RX9 12 (TX9 0).1 (TX9 0).2.1 (TX9 0).2.2.1 ∈ wsX9_undo := by decide +kernel
theorem kX9_undo_22 : Cond.fieldLink RX9 22 (TX9 2).1 (TX9 2).2.1 (TX9 2).2.2.1 ∈ wsX9_undo := by decide +kernel
theorem cX9_undo_ok (hst : l.stackTraces = false) (hpm : pmOk S) (hh : S.1 25 1 = nI h) (hh6 : h ≤ 6) (hd : 0 < h → trOk S (S.2.1 (h - 1))) : mxMi l yX9_undo wsX9_undo rmX9_undo 1 6 D n0 ft [.ref (n0 + 0)] n S
    (fun r S' => 0 < h ∧ rsR S h S' ∧ r = nI (h - 1))
    (fun E S' => S' = S ∧ E = exS ∧ h = 0) := by
  have hb : mst 1 = true := rfl
  refine tx_enter (cc := cX9_undo) (maxL := 1) (ret := (some .int)) (by decide) rfl (Nat.le_of_ble_eq_true rfl) ?_
  intro p e s m args below meth c X hrt hnm hargs hex
  refine tv_aload_n X dX9_undo_0 rfl ?_
  refine mm_getf X dX9_undo_1 gX9 iX9_undo_X9 rfl 2 (by decide) kX9_undo_22 rfl ?_
  refine mm_getfN X dX9_undo_4 gX2 iX9_undo_X2 rfl 1 (by decide) nF14 rfl ?_
  rw [hh]
  by_cases h0 : h = 0
  · refine tv_if_ne (tgt := 20) X dX9_undo_7 (by decide) (fun h1 => ?_) (fun h1 => ?_)
    · exact absurd (by rw [h0]; rfl) h1
    · refine tx_throwS (cls := "java/lang/IllegalStateException") (text := "there is no saved state") (names := ["java/lang/RuntimeException", "java/lang/Exception"]) X hex hst dX9_undo_10 dX9_undo_13 dX9_undo_14 dX9_undo_16 dX9_undo_19 (by decide +kernel) (by decide +kernel) (by decide +kernel) (by decide +kernel) aX9_undo_132.1 aX9_undo_132.2.1 aX9_undo_132.2.2.1 aX9_undo_132.2.2.2.1 aX9_undo_132.2.2.2.2 ⟨⟨Nat.le_of_ble_eq_true rfl, Nat.le_of_ble_eq_true rfl⟩, Nat.le_of_ble_eq_true rfl, Nat.le_of_ble_eq_true rfl⟩ (Nat.le_of_ble_eq_true rfl) (Nat.le_of_ble_eq_true rfl) (fun n1 hn1 => ⟨hn1, _, rfl, rfl, rfl, h0⟩)
  · refine tv_if_ne (tgt := 20) X dX9_undo_7 (by decide) (fun h1 => ?_) (fun h1 => ?_)
    rotate_left
    · exact absurd h1 (nI_ne0 (by omega) (by omega))
    refine tv_aload_n X dX9_undo_20 rfl ?_
    refine mm_getf X dX9_undo_21 gX9 iX9_undo_X9 rfl 2 (by decide) kX9_undo_22 rfl ?_
    refine tv_aload_n X dX9_undo_24 rfl ?_
    refine mm_getf X dX9_undo_25 gX9 iX9_undo_X9 rfl 0 (by decide) kX9_undo_12 rfl ?_
    refine mm_callVv (q := (RX2, TX2, 2)) X dX9_undo_28 (cX2_restore_ok hpm hh hh6 (by omega) (hd (by omega))) (cwV 1 X.2.2.2.2.1 gX9_undo_X2_restore rfl rfl rfl (by decide +kernel) ⟨Nat.le_of_ble_eq_true rfl, Nat.le_of_ble_eq_true rfl⟩) rfl rfl gX2 rfl (Nat.le_of_ble_eq_true rfl) ⟨Nat.le_of_ble_eq_true rfl, Nat.le_of_ble_eq_true rfl⟩ (fun S1 hq => ?_)
    refine tv_aload_n X dX9_undo_31 rfl ?_
    refine mm_getf X dX9_undo_32 gX9 iX9_undo_X9 rfl 2 (by decide) kX9_undo_22 rfl ?_
    refine mm_getfN X dX9_undo_35 gX2 iX9_undo_X2 rfl 1 (by decide) nF14 rfl ?_
    rw [hq.2.2.1]
    refine tx_ret (Nat.le_of_ble_eq_true rfl) (Nat.le_of_ble_eq_true rfl) ?_
    exact tv_iret X hrt dX9_undo_38 ⟨_, rfl, by omega, hq, rfl⟩
theorem aX9_runText_132 : Cond.classLink RX9 132 "java/lang/IllegalStateException" ∈ wsX9_runText ∧ Cond.initialized "java/lang/IllegalStateException" ∈ wsX9_runText ∧ (∀ w ∈ (vx_atS RX9 136 "java/lang/IllegalStateException" ["java/lang/RuntimeException", "java/lang/Exception"]).filter goodWord, w ∈ wsX9_runText) ∧ (∀ w ∈ (vx_atS RX9 136 "java/lang/IllegalStateException" ["java/lang/RuntimeException", "java/lang/Exception"]).filter (fun w => !goodWord w), w ∈ (tv_nD.map Cond.declares ++ [Cond.castable "java/lang/IllegalStateException" "java/lang/IllegalStateException"])) ∧ (∀ w ∈ Cond.classLink RX9 132 "java/lang/IllegalStateException" :: Cond.initialized "java/lang/IllegalStateException" :: vx_atS RX9 136 "java/lang/IllegalStateException" ["java/lang/RuntimeException", "java/lang/Exception"], vx_ot w = true) := ⟨by decide +kernel, by decide +kernel, by decide +kernel, by decide +kernel, by decide +kernel⟩
theorem iX9_runText_X7 : ∀ w ∈ wsX70, w ∈ wsX9_runText := by decide +kernel
theorem iX9_runText_X9 : ∀ w ∈ wsX90, w ∈ wsX9_runText := by decide +kernel
theorem kX9_runText_12 : Cond.fieldLink RX9 12 (TX9 0).1 (TX9 0).2.1 (TX9 0).2.2.1 ∈ wsX9_runText := by decide +kernel
theorem kX9_runText_22 : Cond.fieldLink RX9 22 (TX9 2).1 (TX9 2).2.1 (TX9 2).2.2.1 ∈ wsX9_runText := by decide +kernel
theorem kX9_runText_50 : Cond.fieldLink RX9 50 (TX9 6).1 (TX9 6).2.1 (TX9 6).2.2.1 ∈ wsX9_runText := by decide +kernel
theorem kX9_runText_57 : Cond.fieldLink RX9 57 (TX9 7).1 (TX9 7).2.1 (TX9 7).2.2.1 ∈ wsX9_runText := by decide +kernel
theorem rc_ok : mMi l yX9_runCommand wsX9_runCommand rmX9_runCommand D n0 ft [.ref (n0 + 0)] n S (fun r S' => (S.1 129 1 = 112 ∧ r = 0 ∧ S' = mset S 3 (prs9 (S.1 3) (S.1 129 2) (S.1 129 3) (S.1 129 4))) ∨ (S.1 129 1 = 120 ∧ r = 0 ∧ S' = mset S 3 (fun k => if k < 48 then 0 else S.1 3 k)) ∨ (S.1 129 1 = 98 ∧ r = 0 ∧ S' = mset S 4 (fun k => if k < 48 then S.1 3 k else S.1 4 k)) ∨ (¬ S.1 129 1 = 112 ∧ ¬ S.1 129 1 = 120 ∧ ¬ S.1 129 1 = 98 ∧ ∃ k, k ≤ 48 ∧ (jFlag (labI S 1 48) k = 0 ∨ k = 48) ∧ S' = scP S 1 k ∧ r = (scP S 1 k).1 1 4 + (scP S 1 k).1 1 5 - (S.1 1 4 + S.1 1 5))) := cX9_runCommand_ok
theorem rc_E {r : Int32} {S' : mS} (hq : (S.1 129 1 = 112 ∧ r = 0 ∧ S' = mset S 3 (prs9 (S.1 3) (S.1 129 2) (S.1 129 3) (S.1 129 4))) ∨ (S.1 129 1 = 120 ∧ r = 0 ∧ S' = mset S 3 (fun k => if k < 48 then 0 else S.1 3 k)) ∨ (S.1 129 1 = 98 ∧ r = 0 ∧ S' = mset S 4 (fun k => if k < 48 then S.1 3 k else S.1 4 k)) ∨ (¬ S.1 129 1 = 112 ∧ ¬ S.1 129 1 = 120 ∧ ¬ S.1 129 1 = 98 ∧ ∃ k, k ≤ 48 ∧ (jFlag (labI S 1 48) k = 0 ∨ k = 48) ∧ S' = scP S 1 k ∧ r = (scP S 1 k).1 1 4 + (scP S 1 k).1 1 5 - (S.1 1 4 + S.1 1 5))) : S' = (rcE S).1 ∧ r = (rcE S).2 := by
  rcases hq with ⟨h1, h2, h3⟩ | ⟨h1, h2, h3⟩ | ⟨h1, h2, h3⟩ | ⟨h1, h2, h3, k, -, hk, h4, h5⟩
  · have e : rcE S = (mset S 3 (prs9 (S.1 3) (S.1 129 2) (S.1 129 3) (S.1 129 4)), 0) := if_pos h1
    rw [e]; exact ⟨h3, h2⟩
  · have e : rcE S = (mset S 3 (fun k => if k < 48 then 0 else S.1 3 k), 0) := by
      unfold rcE
      rw [if_neg (by rw [h1]; decide), if_pos h1]
    rw [e]; exact ⟨h3, h2⟩
  · have e : rcE S = (mset S 4 (fun k => if k < 48 then S.1 3 k else S.1 4 k), 0) := by
      unfold rcE
      rw [if_neg (by rw [h1]; decide), if_neg (by rw [h1]; decide), if_pos h1]
    rw [e]; exact ⟨h3, h2⟩
  · have e : rcE S = (scP S 1 48, (scP S 1 48).1 1 4 + (scP S 1 48).1 1 5 - (S.1 1 4 + S.1 1 5)) := by
      unfold rcE
      rw [if_neg h1, if_neg h2, if_neg h3]
    rw [e]
    rw [scP_48 hk] at h4 h5
    exact ⟨h4, h5⟩
theorem cX9_runText_ok (hst : l.stackTraces = false) (hpm : pmOk S) (hh : S.1 25 1 = nI h) (hh6 : h ≤ 6) (hd : trOk S 1) {k : Nat} (hk : S.1 127 1 = nI k) (hk80 : k ≤ 80) : mxMi l yX9_runText wsX9_runText rmX9_runText 1 6 D n0 ft [.ref (n0 + 0)] n S
    (fun r S' => feR (S.1 129) (S.1 128) k = -1 ∧ ∃ w S1, svR (mset S 129 w) h S1 ∧ S' = (rnE S1 k).1 ∧ r = (rnE S1 k).2)
    (fun E S' => (∃ w, S' = mset S 129 w) ∧ E = exS ∧ ¬ feR (S.1 129) (S.1 128) k = -1) := by
  have hb : mst 1 = true := rfl
  refine tx_enter (cc := cX9_runText) (maxL := 4) (ret := (some .int)) (by decide) rfl (Nat.le_of_ble_eq_true rfl) ?_
  intro p e s m args below meth c X hrt hnm hargs hex
  refine tv_aload_n X dX9_runText_0 rfl ?_
  refine mm_callVi (q := (RX9, TX9, 8)) X dX9_runText_1 (cX9_findError_ok hk hk80) (cwV 0 X.2.2.2.2.1 gX9_runText_X9_findError rfl rfl rfl (by decide +kernel) ⟨Nat.le_of_ble_eq_true rfl, Nat.le_of_ble_eq_true rfl⟩) rfl rfl gX9 rfl (Nat.le_of_ble_eq_true rfl) ⟨Nat.le_of_ble_eq_true rfl, Nat.le_of_ble_eq_true rfl⟩ (fun r S1 hq => ?_)
  obtain ⟨⟨w, hq1⟩, hq2⟩ := hq
  rw [hq1, hq2]
  clear hq1 hq2
  refine tv_iconst (v := -1) X dX9_runText_4 (by decide) ?_
  by_cases hfe : feR (S.1 129) (S.1 128) k = -1
  rotate_left
  · refine tv_icmp_eq (tgt := 18) X dX9_runText_5 (by decide) (fun h1 => ?_) (fun h1 => ?_)
    · exact absurd h1 hfe
    · refine tx_throwS (cls := "java/lang/IllegalStateException") (text := "the text is not valid") (names := ["java/lang/RuntimeException", "java/lang/Exception"]) X hex hst dX9_runText_8 dX9_runText_11 dX9_runText_12 dX9_runText_14 dX9_runText_17 (by decide +kernel) (by decide +kernel) (by decide +kernel) (by decide +kernel) aX9_runText_132.1 aX9_runText_132.2.1 aX9_runText_132.2.2.1 aX9_runText_132.2.2.2.1 aX9_runText_132.2.2.2.2 ⟨⟨Nat.le_of_ble_eq_true rfl, Nat.le_of_ble_eq_true rfl⟩, Nat.le_of_ble_eq_true rfl, Nat.le_of_ble_eq_true rfl⟩ (Nat.le_of_ble_eq_true rfl) (Nat.le_of_ble_eq_true rfl) (fun n1 hn1 => ⟨hn1, _, rfl, ⟨w, rfl⟩, rfl, hfe⟩)
  refine tv_icmp_eq (tgt := 18) X dX9_runText_5 (by decide) (fun h1 => ?_) (fun h1 => ?_)
  rotate_left
  · exact absurd hfe h1
  have hpm' : pmOk (mset S 129 w) := hpm
  have hh' : (mset S 129 w).1 25 1 = nI h := by rw [mset_n (by decide)]; exact hh
  have hd' : trOk (mset S 129 w) 1 := fun j hj => by rw [mset_n (by omega)]; exact hd j hj
  refine tv_aload_n X dX9_runText_18 rfl ?_
  refine mm_getf X dX9_runText_19 gX9 iX9_runText_X9 rfl 2 (by decide) kX9_runText_22 rfl ?_
  refine tv_aload_n X dX9_runText_22 rfl ?_
  refine mm_getf X dX9_runText_23 gX9 iX9_runText_X9 rfl 0 (by decide) kX9_runText_12 rfl ?_
  refine mm_callVv (q := (RX2, TX2, 2)) X dX9_runText_26 (cX2_save_ok hpm' hh' hh6 hd') (cwV 1 X.2.2.2.2.1 gX9_runText_X2_save rfl rfl rfl (by decide +kernel) ⟨Nat.le_of_ble_eq_true rfl, Nat.le_of_ble_eq_true rfl⟩) rfl rfl gX2 rfl (Nat.le_of_ble_eq_true rfl) ⟨Nat.le_of_ble_eq_true rfl, Nat.le_of_ble_eq_true rfl⟩ (fun S1 hq => ?_)
  have hpo : pmOk (S1.1, (svP (mset S 129 w) h, S1.2.2)) := svP_ok hpm'
  have hsi : svI h < 6 := by unfold svI; split <;> omega
  have hble := (mst_le (hpo.1 (svI h) hsi).1).2
  have h127 : S1.1 127 1 = nI k := by
    rw [hq.2.1 127 (by decide) (by show 127 < svP (mset S 129 w) h (svI h) ∨ _; have : svP (mset S 129 w) h (svI h) ≤ 87 := hble; omega), mset_n (by decide)]
    exact hk
  refine tv_iconst (v := 0) X dX9_runText_29 (by decide) ?_
  refine tv_istore_n X dX9_runText_30 rfl ?_
  refine tv_aload_n X dX9_runText_31 rfl ?_
  refine mm_getf X dX9_runText_32 gX9 iX9_runText_X9 rfl 7 (by decide) kX9_runText_57 rfl ?_
  refine mm_callVv (q := (RX0, TX0, 5)) X dX9_runText_35 (cX0_begin_ok) (cwV 0 X.2.2.2.2.1 gX9_runText_X0_begin rfl rfl rfl (by decide +kernel) ⟨Nat.le_of_ble_eq_true rfl, Nat.le_of_ble_eq_true rfl⟩) rfl rfl gX0 rfl (Nat.le_of_ble_eq_true rfl) ⟨Nat.le_of_ble_eq_true rfl, Nat.le_of_ble_eq_true rfl⟩ (fun S2 hq2 => ?_)
  rw [hq2]
  clear hq2
  refine tv_iconst (v := 0) X dX9_runText_38 (by decide) ?_
  refine tv_istore_n X dX9_runText_39 rfl ?_
  refine mm_L (L' := [(0, .ref (n0 + 0)), (1, .int (rnT S1 (S1.1 128) 0).2), (2, .int (nI 0))]) rfl ?_
  refine mm_st (S' := (rnT S1 (S1.1 128) 0).1) rfl ?_
  refine mm_for k (fun i => [(0, .ref (n0 + 0)), (1, .int (rnT S1 (S1.1 128) i).2), (2, .int (nI i))]) (fun i => (rnT S1 (S1.1 128) i).1) ?_ ?_
  · intro i hi ih
    dsimp only at ih
    have e127 : (rnT S1 (S1.1 128) i).1.1 127 1 = nI k := by rw [rnT_n (by decide) (by decide)]; exact h127
    have e128 : (rnT S1 (S1.1 128) i).1.1 128 = S1.1 128 := rnT_n (by decide) (by decide) i
    have hnx : rnT S1 (S1.1 128) (i + 1) = if S1.1 128 i = 59 then (mset (rcE (rnT S1 (S1.1 128) i).1).1 129 (accR ((rcE (rnT S1 (S1.1 128) i).1).1.1 129) (S1.1 128 i)).1, (rnT S1 (S1.1 128) i).2 + (rcE (rnT S1 (S1.1 128) i).1).2) else (mset (rnT S1 (S1.1 128) i).1 129 (accR ((rnT S1 (S1.1 128) i).1.1 129) (S1.1 128 i)).1, (rnT S1 (S1.1 128) i).2) := rfl
    rw [hnx] at ih
    generalize rnT S1 (S1.1 128) i = q at ih e127 e128 ⊢
    refine tv_iload_n X dX9_runText_40 rfl ?_
    refine tv_aload_n X dX9_runText_41 rfl ?_
    refine mm_getf X dX9_runText_42 gX9 iX9_runText_X9 rfl 6 (by decide) kX9_runText_50 rfl ?_
    refine mm_getfN X dX9_runText_45 gX7 iX9_runText_X7 rfl 1 (by decide) nF18 rfl ?_
    rw [e127]
    refine tv_icmp_ge (tgt := 88) X dX9_runText_48 (by decide) (fun h2 => ?_) (fun h2 => ?_)
    · exact absurd h2 (nI_ge hi (by omega))
    refine tv_aload_n X dX9_runText_51 rfl ?_
    refine mm_getf X dX9_runText_52 gX9 iX9_runText_X9 rfl 6 (by decide) kX9_runText_50 rfl ?_
    refine tv_iload_n X dX9_runText_55 rfl ?_
    refine mm_callVi (q := (RX7, TX7, 2)) X dX9_runText_56 (cX7_at_ok (k := i) (by omega)) (cwV 1 X.2.2.2.2.1 gX9_runText_X7_at rfl rfl rfl (by decide +kernel) ⟨Nat.le_of_ble_eq_true rfl, Nat.le_of_ble_eq_true rfl⟩) rfl rfl gX7 rfl (Nat.le_of_ble_eq_true rfl) ⟨Nat.le_of_ble_eq_true rfl, Nat.le_of_ble_eq_true rfl⟩ (fun r S3 hq3 => ?_)
    obtain ⟨hq1, hq2⟩ := hq3
    rw [e128] at hq2
    rw [hq1, hq2]
    clear hq1 hq2
    refine tv_istore_n X dX9_runText_59 rfl ?_
    refine tv_iload_n X dX9_runText_60 rfl ?_
    refine tv_bipush (v := 59) X dX9_runText_61 (by decide) ?_
    by_cases h59 : S1.1 128 i = 59
    · rw [if_pos h59] at ih
      refine tv_icmp_ne (tgt := 73) X dX9_runText_63 (by decide) (fun h3 => ?_) (fun h3 => ?_)
      · exact absurd h59 h3
      refine tv_iload_n X dX9_runText_66 rfl ?_
      refine tv_aload_n X dX9_runText_67 rfl ?_
      refine mm_callVi (q := (RX9, TX9, 8)) X dX9_runText_68 (rc_ok) (cwV 0 X.2.2.2.2.1 gX9_runText_X9_runCommand rfl rfl rfl (by decide +kernel) ⟨Nat.le_of_ble_eq_true rfl, Nat.le_of_ble_eq_true rfl⟩) rfl rfl gX9 rfl (Nat.le_of_ble_eq_true rfl) ⟨Nat.le_of_ble_eq_true rfl, Nat.le_of_ble_eq_true rfl⟩ (fun r S3 hq3 => ?_)
      obtain ⟨hq1, hq2⟩ := rc_E hq3
      rw [hq1, hq2]
      clear hq1 hq2 hq3
      refine tv_iadd X dX9_runText_71 ?_
      refine tv_istore_n X dX9_runText_72 rfl ?_
      refine tv_aload_n X dX9_runText_73 rfl ?_
      refine mm_getf X dX9_runText_74 gX9 iX9_runText_X9 rfl 7 (by decide) kX9_runText_57 rfl ?_
      refine tv_iload_n X dX9_runText_77 rfl ?_
      refine mm_callVi (q := (RX0, TX0, 5)) X dX9_runText_78 (cX0_accepts_ok _) (cwV 1 X.2.2.2.2.1 gX9_runText_X0_accepts rfl rfl rfl (by decide +kernel) ⟨Nat.le_of_ble_eq_true rfl, Nat.le_of_ble_eq_true rfl⟩) rfl rfl gX0 rfl (Nat.le_of_ble_eq_true rfl) ⟨Nat.le_of_ble_eq_true rfl, Nat.le_of_ble_eq_true rfl⟩ (fun r S3 hq3 => ?_)
      rw [hq3.1]
      refine tv_pop X dX9_runText_81 rfl ?_
      refine tv_iinc X dX9_runText_82 rfl (nI_1 i) rfl ?_
      refine tv_goto (tgt := 40) X dX9_runText_85 (by decide) ?_
      exact tv_sl [0, 1, 2] rfl ih
    · rw [if_neg h59] at ih
      refine tv_icmp_ne (tgt := 73) X dX9_runText_63 (by decide) (fun h3 => ?_) (fun h3 => ?_)
      rotate_left
      · exact absurd h3 h59
      refine tv_aload_n X dX9_runText_73 rfl ?_
      refine mm_getf X dX9_runText_74 gX9 iX9_runText_X9 rfl 7 (by decide) kX9_runText_57 rfl ?_
      refine tv_iload_n X dX9_runText_77 rfl ?_
      refine mm_callVi (q := (RX0, TX0, 5)) X dX9_runText_78 (cX0_accepts_ok _) (cwV 1 X.2.2.2.2.1 gX9_runText_X0_accepts rfl rfl rfl (by decide +kernel) ⟨Nat.le_of_ble_eq_true rfl, Nat.le_of_ble_eq_true rfl⟩) rfl rfl gX0 rfl (Nat.le_of_ble_eq_true rfl) ⟨Nat.le_of_ble_eq_true rfl, Nat.le_of_ble_eq_true rfl⟩ (fun r S3 hq3 => ?_)
      rw [hq3.1]
      refine tv_pop X dX9_runText_81 rfl ?_
      refine tv_iinc X dX9_runText_82 rfl (nI_1 i) rfl ?_
      refine tv_goto (tgt := 40) X dX9_runText_85 (by decide) ?_
      exact tv_sl [0, 1, 2] rfl ih
  · have e127 : (rnT S1 (S1.1 128) k).1.1 127 1 = nI k := by rw [rnT_n (by decide) (by decide)]; exact h127
    have hrn : rnE S1 k = ((rcE (rnT S1 (S1.1 128) k).1).1, (rnT S1 (S1.1 128) k).2 + (rcE (rnT S1 (S1.1 128) k).1).2) := rfl
    generalize rnT S1 (S1.1 128) k = q at e127 hrn ⊢
    refine tv_iload_n X dX9_runText_40 rfl ?_
    refine tv_aload_n X dX9_runText_41 rfl ?_
    refine mm_getf X dX9_runText_42 gX9 iX9_runText_X9 rfl 6 (by decide) kX9_runText_50 rfl ?_
    refine mm_getfN X dX9_runText_45 gX7 iX9_runText_X7 rfl 1 (by decide) nF18 rfl ?_
    rw [e127]
    refine tv_icmp_ge (tgt := 88) X dX9_runText_48 (by decide) (fun h2 => ?_) (fun h2 => ?_)
    rotate_left
    · exact absurd (nI_le (Nat.le_refl _) (by omega)) h2
    refine tv_iload_n X dX9_runText_88 rfl ?_
    refine tv_aload_n X dX9_runText_89 rfl ?_
    refine mm_callVi (q := (RX9, TX9, 8)) X dX9_runText_90 (rc_ok) (cwV 0 X.2.2.2.2.1 gX9_runText_X9_runCommand rfl rfl rfl (by decide +kernel) ⟨Nat.le_of_ble_eq_true rfl, Nat.le_of_ble_eq_true rfl⟩) rfl rfl gX9 rfl (Nat.le_of_ble_eq_true rfl) ⟨Nat.le_of_ble_eq_true rfl, Nat.le_of_ble_eq_true rfl⟩ (fun r S3 hq3 => ?_)
    obtain ⟨hq1, hq2⟩ := rc_E hq3
    rw [hq1, hq2]
    refine tv_iadd X dX9_runText_93 ?_
    refine tx_ret (Nat.le_of_ble_eq_true rfl) (Nat.le_of_ble_eq_true rfl) ?_
    exact tv_iret X hrt dX9_runText_94 ⟨_, rfl, hfe, w, S1, hq, by rw [hrn], by rw [hrn]⟩
end C44

