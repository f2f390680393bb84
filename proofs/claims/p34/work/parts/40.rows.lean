def mostN : Nat → Int32
  | 0 => 100
  | 1 => 48
  | 2 => 255
  | 3 => 1000
  | _ => 5
section TXS
variable {p : Program} {l : Launch} {e : Env} {R : Room} {s : State} {m : MethodId} {args : Array Value} {below : List Frame} {meth : Method} {c : Code} {Q : State → Prop} {D : va_G} {n0 cells slots nL pc : Nat} {L : List (Nat × Value)} {st : List Value} {n : Nat} {h : tv_H} {cc : ByteArray} {own : String} {Ts : List Cond} {ft : tv_ft}
theorem tv_getsL (X : tv_X p s m args meth c cc nL own Ts D vwCl n0 ft) {index : Nat} (d : decode cc pc = .ok (.getstatic index, 3)) (hlink : Cond.fieldLink own index "TouchTracker" "LEAST_VALUES" "[I" ∈ Ts) (kk : tv_V p l e R s m args below meth c Q D vwCl n0 cells slots nL (pc + 3) L (.ref ft.2.1 :: st) n h) : tv_V p l e R s m args below meth c Q D vwCl n0 cells slots nL pc L st n h := fun H locs ls hr hS hh => va_gets X.1 X.2.1 X.2.2.2.2.2.1.2.1.2.1.1 hS X.2.2.2.1 (X.2.2.2.2.1 _ hlink) (fun _ h => h) d (kk H locs ls hr hS hh)
theorem tv_getsG (X : tv_X p s m args meth c cc nL own Ts D vwCl n0 ft) {index : Nat} (d : decode cc pc = .ok (.getstatic index, 3)) (hlink : Cond.fieldLink own index "TouchTracker" "GREATEST_VALUES" "[I" ∈ Ts) (kk : tv_V p l e R s m args below meth c Q D vwCl n0 cells slots nL (pc + 3) L (.ref ft.2.2.1 :: st) n h) : tv_V p l e R s m args below meth c Q D vwCl n0 cells slots nL pc L st n h := fun H locs ls hr hS hh => va_gets X.1 X.2.1 X.2.2.2.2.2.1.2.1.2.2.1.1 hS X.2.2.2.1 (X.2.2.2.2.1 _ hlink) (fun _ h => h) d (kk H locs ls hr hS hh)
def leastN (q : Nat) : Int32 := if q = 4 then 0 else 1
theorem leastN_eq : ∀ q, q < 5 → ([1, 1, 1, 1, 0] : List Int32).getD q 0 = leastN q := by decide
theorem mostN_eq : ∀ q, q < 5 → ([100, 48, 255, 1000, 5] : List Int32).getD q 0 = mostN q := by decide
theorem tv_ialdL (X : tv_X p s m args meth c cc nL own Ts D vwCl n0 ft) (d : decode cc pc = .ok (.iaload, 1)) {q : Nat} (hq : q < 5) (kk : tv_V p l e R s m args below meth c Q D vwCl n0 cells slots nL (pc + 1) L (.int (leastN q) :: st) n h) : tv_V p l e R s m args below meth c Q D vwCl n0 cells slots nL pc L (.int (nI q) :: .ref ft.2.1 :: st) n h := fun H locs ls hr hS hh => va_ti X.1 X.2.1 X.2.2.2.2.2.1.2.1.2.1.2 hS (vp_in_nI hq (by decide)) (v := .int (leastN q)) (by rw [nI_clamp (by omega), leastN_eq q hq]) d (kk H locs ls hr hS hh)
theorem tv_ialdG (X : tv_X p s m args meth c cc nL own Ts D vwCl n0 ft) (d : decode cc pc = .ok (.iaload, 1)) {q : Nat} (hq : q < 5) (kk : tv_V p l e R s m args below meth c Q D vwCl n0 cells slots nL (pc + 1) L (.int (mostN q) :: st) n h) : tv_V p l e R s m args below meth c Q D vwCl n0 cells slots nL pc L (.int (nI q) :: .ref ft.2.2.1 :: st) n h := fun H locs ls hr hS hh => va_ti X.1 X.2.1 X.2.2.2.2.2.1.2.1.2.2.1.2 hS (vp_in_nI hq (by decide)) (v := .int (mostN q)) (by rw [nI_clamp (by omega), mostN_eq q hq]) d (kk H locs ls hr hS hh)
end TXS

section MLV
variable {p : Program} {l : Launch} {e : Env} {R : Room} {s : State} {m : MethodId} {args : Array Value} {below : List Frame} {meth : Method} {c : Code} {Q : State → Prop} {D : va_G} {n0 cells slots nL pc : Nat} {L : List (Nat × Value)} {st : List Value} {n : Nat} {S : mS} {cc : ByteArray} {own : String} {Ts : List Cond} {ft : tv_ft}
theorem mm_callSv (X : tv_X p s m args meth c cc nL own Ts D vwCl n0 ft) {y : MethodName} {ws : List Cond} {rm : Room} {index kn : Nat} {As rest st0 : List Value} {post : mS → Prop} {bytes : ByteArray} {maxL : Nat} {ret : Option FieldType} (d : decode cc pc = .ok (.invokestatic index, 3)) (hM : mMv l y ws rm D n0 ft As n S post) (cw : CallB R s args own index y bytes maxL ret ws rm 0 0 kn ∧ (Cond.static y).before args s = true) (hn : As.length = kn) (hst : st0 = As.reverse ++ rest) (hw : (rest.map fun v => v.category).sum ≤ 8) (hR : cells ≤ R.cells ∧ slots ≤ R.slots)
    (kk : ∀ (S' : mS), post S' → tv_V p l e R s m args below meth c Q D vwCl n0 cells slots nL (pc + 3) L rest n (mH n0 S')) : tv_V p l e R s m args below meth c Q D vwCl n0 cells slots nL pc L st0 n (mH n0 S) := fun H locs ls hr hS hh => by
  subst hst
  refine va_callv (va_runS (As := As) (rest := rest) ⟨X.1, X.2.1, X.2.2.1, X.2.2.2.1, X.2.2.2.2.1⟩ hM cw ⟨tv_blind, tv_pre X hr hS⟩ rfl hn hh.1 rfl (lv_room hw) d hR) hS (fun q _ h => h) (fun q h => h) (fun u t H1 locs1 ht hvm hp hB hz1 hk1 hS1 => ?_)
  subst ht
  obtain ⟨S', hS', hp⟩ := hp
  rw [hS'] at hB
  exact kk S' hp _ _ ls (tv_rep.moved hvm.symm hB) hS1 hh
end MLV
/-! the face, at arguments that no call refuses -/
theorem cellI (i j : Nat) : (6 : Int32) * nI i + nI j = nI (6 * i + j) := by
  rw [show (6 : Int32) = nI 6 from rfl, pk_mul, nI_add]
section C40
variable {l : Launch} {D : va_G} {n0 : Nat} {ft : tv_ft} {n : Nat} {S : mS} {h : Nat}
theorem cX9_requireCell_in {i j : Nat} (hi : i < 8) (hj : j < 6) : mMv l yX9_requireCell wsX9_requireCell rmX9_requireCell D n0 ft [.int (nI i), .int (nI j)] n S (fun S' => S' = S) := by
  refine tv_enter (cc := cX9_requireCell) (maxL := 2) (ret := none) (by decide) rfl (Nat.le_of_ble_eq_true rfl) ?_
  intro p e s m args below meth c X hrt hnm hargs
  refine tv_iload_n X dX9_requireCell_0 rfl ?_
  refine tv_iload_n X dX9_requireCell_1 rfl ?_
  refine mm_callSi X dX9_requireCell_2 (cX9_isOnPanel_ok _ _) (va_cwS 2 X.2.2.2.2.1 gX9_requireCell_X9_isOnPanel rfl rfl rfl (by decide +kernel) ⟨Nat.le_of_ble_eq_true rfl, Nat.le_of_ble_eq_true rfl⟩) rfl rfl (Nat.le_of_ble_eq_true rfl) ⟨Nat.zero_le _, Nat.zero_le _⟩ (fun r S1 hq => ?_)
  obtain ⟨hq1, ⟨hq2, hon⟩ | ⟨hq2, hon⟩⟩ := hq
  · rw [hq1, hq2]
    refine tv_if_ne (tgt := 19) X dX9_requireCell_5 (by decide) (fun h1 => ?_) (fun h1 => ?_)
    · exact tv_vret X hrt dX9_requireCell_19 ⟨_, rfl, rfl⟩
    · exact absurd h1 (by decide)
  · exact absurd ⟨⟨i, hi, rfl⟩, j, hj, rfl⟩ hon
theorem cX9_requireSetting_in {q : Nat} (hq : q < 5) : mMv l yX9_requireSetting wsX9_requireSetting rmX9_requireSetting D n0 ft [.int (nI q)] n S (fun S' => S' = S) := by
  refine tv_enter (cc := cX9_requireSetting) (maxL := 1) (ret := none) (by decide) rfl (Nat.le_of_ble_eq_true rfl) ?_
  intro p e s m args below meth c X hrt hnm hargs
  refine tv_iload_n X dX9_requireSetting_0 rfl ?_
  refine tv_if_lt (tgt := 9) X dX9_requireSetting_1 (by decide) (fun h1 => ?_) (fun h1 => ?_)
  · exact absurd h1 (nI_pos (by omega))
  refine tv_iload_n X dX9_requireSetting_4 rfl ?_
  refine tv_iconst (v := 5) X dX9_requireSetting_5 (by decide) ?_
  refine tv_icmp_lt (tgt := 20) X dX9_requireSetting_6 (by decide) (fun h2 => ?_) (fun h2 => ?_)
  · exact tv_vret X hrt dX9_requireSetting_20 ⟨_, rfl, rfl⟩
  · exact absurd (nI_lt (a := q) (b := 5) hq (by decide)) h2
theorem cX9_requireTrack_in {t : Nat} (ht : t < 6) : mMv l yX9_requireTrack wsX9_requireTrack rmX9_requireTrack D n0 ft [.int (nI t)] n S (fun S' => S' = S) := by
  refine tv_enter (cc := cX9_requireTrack) (maxL := 1) (ret := none) (by decide) rfl (Nat.le_of_ble_eq_true rfl) ?_
  intro p e s m args below meth c X hrt hnm hargs
  refine tv_iload_n X dX9_requireTrack_0 rfl ?_
  refine tv_if_lt (tgt := 10) X dX9_requireTrack_1 (by decide) (fun h1 => ?_) (fun h1 => ?_)
  · exact absurd h1 (nI_pos (by omega))
  refine tv_iload_n X dX9_requireTrack_4 rfl ?_
  refine tv_bipush (v := 6) X dX9_requireTrack_5 (by decide) ?_
  refine tv_icmp_lt (tgt := 21) X dX9_requireTrack_7 (by decide) (fun h2 => ?_) (fun h2 => ?_)
  · exact tv_vret X hrt dX9_requireTrack_21 ⟨_, rfl, rfl⟩
  · exact absurd (nI_lt (a := t) (b := 6) ht (by decide)) h2
theorem cX9_requireContactNumber_in {j : Nat} (hj : j < 2 ^ 31) : mMv l yX9_requireContactNumber wsX9_requireContactNumber rmX9_requireContactNumber D n0 ft [.int (nI j)] n S (fun S' => S' = S) := by
  refine tv_enter (cc := cX9_requireContactNumber) (maxL := 1) (ret := none) (by decide) rfl (Nat.le_of_ble_eq_true rfl) ?_
  intro p e s m args below meth c X hrt hnm hargs
  refine tv_iload_n X dX9_requireContactNumber_0 rfl ?_
  refine tv_if_ge (tgt := 15) X dX9_requireContactNumber_1 (by decide) (fun h1 => ?_) (fun h1 => ?_)
  · exact tv_vret X hrt dX9_requireContactNumber_15 ⟨_, rfl, rfl⟩
  · exact absurd (Int32.not_lt.mp (nI_pos hj)) h1
theorem cX9_requirePart_in {q : Nat} (hq : q < 4) : mMv l yX9_requirePart wsX9_requirePart rmX9_requirePart D n0 ft [.int (nI q)] n S (fun S' => S' = S) := by
  refine tv_enter (cc := cX9_requirePart) (maxL := 1) (ret := none) (by decide) rfl (Nat.le_of_ble_eq_true rfl) ?_
  intro p e s m args below meth c X hrt hnm hargs
  refine tv_iload_n X dX9_requirePart_0 rfl ?_
  refine tv_if_lt (tgt := 9) X dX9_requirePart_1 (by decide) (fun h1 => ?_) (fun h1 => ?_)
  · exact absurd h1 (nI_pos (by omega))
  refine tv_iload_n X dX9_requirePart_4 rfl ?_
  refine tv_iconst (v := 4) X dX9_requirePart_5 (by decide) ?_
  refine tv_icmp_lt (tgt := 20) X dX9_requirePart_6 (by decide) (fun h2 => ?_) (fun h2 => ?_)
  · exact tv_vret X hrt dX9_requirePart_20 ⟨_, rfl, rfl⟩
  · exact absurd (nI_lt (a := q) (b := 4) hq (by decide)) h2
theorem iX9_setRaw_X6 : ∀ w ∈ wsX60, w ∈ wsX9_setRaw := by decide +kernel
theorem iX9_setRaw_X9 : ∀ w ∈ wsX90, w ∈ wsX9_setRaw := by decide +kernel
theorem kX9_setRaw_12 : Cond.fieldLink RX9 12 (TX9 0).1 (TX9 0).2.1 (TX9 0).2.2.1 ∈ wsX9_setRaw := by decide +kernel
theorem kX9_setRaw_22 : Cond.fieldLink RX9 22 (TX9 2).1 (TX9 2).2.1 (TX9 2).2.2.1 ∈ wsX9_setRaw := by decide +kernel
theorem cX9_setRaw_in (hpm : pmOk S) (hh : S.1 25 1 = nI h) (hh6 : h ≤ 6) (hd : trOk S 1) {i j v : Nat} (hi : i < 8) (hj : j < 6) (hv : v < 256) : mMi l yX9_setRaw wsX9_setRaw rmX9_setRaw D n0 ft [.ref (n0 + 0), .int (nI i), .int (nI j), .int (nI v)] n S
    (fun r S' => ∃ S1, svR S h S1 ∧ S' = mset S1 3 (upd (S1.1 3) (6 * i + j) (nI v)) ∧ r = S1.1 3 (6 * i + j)) := by
  have hb : mst 1 = true := rfl
  refine tv_enter (cc := cX9_setRaw) (maxL := 4) (ret := (some .int)) (by decide) rfl (Nat.le_of_ble_eq_true rfl) ?_
  intro p e s m args below meth c X hrt hnm hargs
  refine tv_iload_n X dX9_setRaw_0 rfl ?_
  refine tv_iload_n X dX9_setRaw_1 rfl ?_
  refine mm_callSv X dX9_setRaw_2 (cX9_requireCell_in hi hj) (va_cwS 2 X.2.2.2.2.1 gX9_setRaw_X9_requireCell rfl rfl rfl (by decide +kernel) ⟨Nat.le_of_ble_eq_true rfl, Nat.le_of_ble_eq_true rfl⟩) rfl rfl (Nat.le_of_ble_eq_true rfl) ⟨Nat.zero_le _, Nat.zero_le _⟩ (fun S1 hq => ?_)
  rw [hq]
  clear hq
  refine tv_iload_n X dX9_setRaw_5 rfl ?_
  refine tv_if_lt (tgt := 16) X dX9_setRaw_6 (by decide) (fun h1 => ?_) (fun h1 => ?_)
  · exact absurd h1 (nI_pos (by omega))
  refine tv_iload_n X dX9_setRaw_9 rfl ?_
  refine tv_sipush (v := 255) X dX9_setRaw_10 (by decide) ?_
  refine tv_icmp_le (tgt := 26) X dX9_setRaw_13 (by decide) (fun h2 => ?_) (fun h2 => ?_)
  rotate_left
  · exact absurd (nI_le (a := v) (b := 255) (by omega) (by decide)) h2
  refine tv_aload_n X dX9_setRaw_26 rfl ?_
  refine mm_getf X dX9_setRaw_27 gX9 iX9_setRaw_X9 rfl 2 (by decide) kX9_setRaw_22 rfl ?_
  refine tv_aload_n X dX9_setRaw_30 rfl ?_
  refine mm_getf X dX9_setRaw_31 gX9 iX9_setRaw_X9 rfl 0 (by decide) kX9_setRaw_12 rfl ?_
  refine mm_callVv (q := (RX2, TX2, 2)) X dX9_setRaw_34 (cX2_save_ok hpm hh hh6 hd) (cwV 1 X.2.2.2.2.1 gX9_setRaw_X2_save rfl rfl rfl (by decide +kernel) ⟨Nat.le_of_ble_eq_true rfl, Nat.le_of_ble_eq_true rfl⟩) rfl rfl gX2 rfl (Nat.le_of_ble_eq_true rfl) ⟨Nat.zero_le _, Nat.zero_le _⟩ (fun S1 hq => ?_)
  refine tv_aload_n X dX9_setRaw_37 rfl ?_
  refine mm_getf X dX9_setRaw_38 gX9 iX9_setRaw_X9 rfl 0 (by decide) kX9_setRaw_12 rfl ?_
  refine mm_getfN X dX9_setRaw_41 (gX6 hb) iX9_setRaw_X6 rfl 0 (by decide) nF5 rfl ?_
  refine tv_iload_n X dX9_setRaw_44 rfl ?_
  refine tv_iload_n X dX9_setRaw_45 rfl ?_
  refine mm_callSi X dX9_setRaw_46 (cX9_cellAt_ok _ _) (va_cwS 2 X.2.2.2.2.1 gX9_setRaw_X9_cellAt rfl rfl rfl (by decide +kernel) ⟨Nat.le_of_ble_eq_true rfl, Nat.le_of_ble_eq_true rfl⟩) rfl rfl (Nat.le_of_ble_eq_true rfl) ⟨Nat.zero_le _, Nat.zero_le _⟩ (fun r S2 hq2 => ?_)
  obtain ⟨hq1, hq2⟩ := hq2
  rw [hq1, hq2, cellI]
  clear hq1 hq2
  refine tv_iload_n X dX9_setRaw_49 rfl ?_
  refine mm_callVi (q := (RX4, TX4, 2)) X dX9_setRaw_50 (cX4_replaceRaw_ok hb (j := 6 * i + j) (by omega) _) (cwV 2 X.2.2.2.2.1 gX9_setRaw_X4_replaceRaw rfl rfl rfl (by decide +kernel) ⟨Nat.le_of_ble_eq_true rfl, Nat.le_of_ble_eq_true rfl⟩) rfl rfl (gX4 hb) rfl (Nat.le_of_ble_eq_true rfl) ⟨Nat.zero_le _, Nat.zero_le _⟩ (fun r S3 hq3 => ?_)
  obtain ⟨hq1, hq2⟩ := hq3
  rw [hq1, hq2]
  exact tv_iret X hrt dX9_setRaw_53 ⟨_, rfl, S1, hq, rfl, rfl⟩
theorem iX9_press_X6 : ∀ w ∈ wsX60, w ∈ wsX9_press := by decide +kernel
theorem iX9_press_X9 : ∀ w ∈ wsX90, w ∈ wsX9_press := by decide +kernel
theorem kX9_press_12 : Cond.fieldLink RX9 12 (TX9 0).1 (TX9 0).2.1 (TX9 0).2.2.1 ∈ wsX9_press := by decide +kernel
theorem kX9_press_22 : Cond.fieldLink RX9 22 (TX9 2).1 (TX9 2).2.1 (TX9 2).2.2.1 ∈ wsX9_press := by decide +kernel
theorem cX9_press_in (hpm : pmOk S) (hh : S.1 25 1 = nI h) (hh6 : h ≤ 6) (hd : trOk S 1) {i j v : Nat} (hi : i < 8) (hj : j < 6) (hv0 : 1 ≤ v) (hv : v < 256) : mMi l yX9_press wsX9_press rmX9_press D n0 ft [.ref (n0 + 0), .int (nI i), .int (nI j), .int (nI v)] n S
    (fun r S' => ∃ S1, svR S h S1 ∧ S' = mset S1 3 (prs9 (S1.1 3) (nI i) (nI j) (nI v)) ∧ r = prs9 (S1.1 3) (nI i) (nI j) (nI v) (6 * i + j)) := by
  have hb : mst 1 = true := rfl
  refine tv_enter (cc := cX9_press) (maxL := 4) (ret := (some .int)) (by decide) rfl (Nat.le_of_ble_eq_true rfl) ?_
  intro p e s m args below meth c X hrt hnm hargs
  refine tv_iload_n X dX9_press_0 rfl ?_
  refine tv_iload_n X dX9_press_1 rfl ?_
  refine mm_callSv X dX9_press_2 (cX9_requireCell_in hi hj) (va_cwS 2 X.2.2.2.2.1 gX9_press_X9_requireCell rfl rfl rfl (by decide +kernel) ⟨Nat.le_of_ble_eq_true rfl, Nat.le_of_ble_eq_true rfl⟩) rfl rfl (Nat.le_of_ble_eq_true rfl) ⟨Nat.zero_le _, Nat.zero_le _⟩ (fun S1 hq => ?_)
  rw [hq]
  clear hq
  refine tv_iload_n X dX9_press_5 rfl ?_
  refine tv_iconst (v := 1) X dX9_press_6 (by decide) ?_
  refine tv_icmp_lt (tgt := 17) X dX9_press_7 (by decide) (fun h1 => ?_) (fun h1 => ?_)
  · exact absurd h1 (Int32.not_lt.mpr (nI_le (a := 1) (b := v) hv0 (by omega)))
  refine tv_iload_n X dX9_press_10 rfl ?_
  refine tv_sipush (v := 255) X dX9_press_11 (by decide) ?_
  refine tv_icmp_le (tgt := 27) X dX9_press_14 (by decide) (fun h2 => ?_) (fun h2 => ?_)
  rotate_left
  · exact absurd (nI_le (a := v) (b := 255) (by omega) (by decide)) h2
  refine tv_aload_n X dX9_press_27 rfl ?_
  refine mm_getf X dX9_press_28 gX9 iX9_press_X9 rfl 2 (by decide) kX9_press_22 rfl ?_
  refine tv_aload_n X dX9_press_31 rfl ?_
  refine mm_getf X dX9_press_32 gX9 iX9_press_X9 rfl 0 (by decide) kX9_press_12 rfl ?_
  refine mm_callVv (q := (RX2, TX2, 2)) X dX9_press_35 (cX2_save_ok hpm hh hh6 hd) (cwV 1 X.2.2.2.2.1 gX9_press_X2_save rfl rfl rfl (by decide +kernel) ⟨Nat.le_of_ble_eq_true rfl, Nat.le_of_ble_eq_true rfl⟩) rfl rfl gX2 rfl (Nat.le_of_ble_eq_true rfl) ⟨Nat.zero_le _, Nat.zero_le _⟩ (fun S1 hq => ?_)
  refine tv_aload_n X dX9_press_38 rfl ?_
  refine mm_getf X dX9_press_39 gX9 iX9_press_X9 rfl 0 (by decide) kX9_press_12 rfl ?_
  refine mm_getfN X dX9_press_42 (gX6 hb) iX9_press_X6 rfl 0 (by decide) nF5 rfl ?_
  refine tv_iload_n X dX9_press_45 rfl ?_
  refine tv_iload_n X dX9_press_46 rfl ?_
  refine tv_iload_n X dX9_press_47 rfl ?_
  refine mm_callVv (q := (RX4, TX4, 2)) X dX9_press_48 (cX4_pressAt_ok hb _ _ _) (cwV 3 X.2.2.2.2.1 gX9_press_X4_pressAt rfl rfl rfl (by decide +kernel) ⟨Nat.le_of_ble_eq_true rfl, Nat.le_of_ble_eq_true rfl⟩) rfl rfl (gX4 hb) rfl (Nat.le_of_ble_eq_true rfl) ⟨Nat.zero_le _, Nat.zero_le _⟩ (fun S2 hq2 => ?_)
  rw [hq2]
  clear hq2
  refine tv_aload_n X dX9_press_51 rfl ?_
  refine mm_getf X dX9_press_52 gX9 iX9_press_X9 rfl 0 (by decide) kX9_press_12 rfl ?_
  refine mm_getfN X dX9_press_55 (gX6 hb) iX9_press_X6 rfl 0 (by decide) nF5 rfl ?_
  refine tv_iload_n X dX9_press_58 rfl ?_
  refine tv_iload_n X dX9_press_59 rfl ?_
  refine mm_callSi X dX9_press_60 (cX9_cellAt_ok _ _) (va_cwS 2 X.2.2.2.2.1 gX9_press_X9_cellAt rfl rfl rfl (by decide +kernel) ⟨Nat.le_of_ble_eq_true rfl, Nat.le_of_ble_eq_true rfl⟩) rfl rfl (Nat.le_of_ble_eq_true rfl) ⟨Nat.zero_le _, Nat.zero_le _⟩ (fun r S3 hq3 => ?_)
  obtain ⟨hq1, hq2⟩ := hq3
  rw [hq1, hq2, cellI]
  clear hq1 hq2
  refine mm_callVi (q := (RX4, TX4, 2)) X dX9_press_63 (cX4_rawOf_ok hb (j := 6 * i + j) (by omega)) (cwV 1 X.2.2.2.2.1 gX9_press_X4_rawOf rfl rfl rfl (by decide +kernel) ⟨Nat.le_of_ble_eq_true rfl, Nat.le_of_ble_eq_true rfl⟩) rfl rfl (gX4 hb) rfl (Nat.le_of_ble_eq_true rfl) ⟨Nat.zero_le _, Nat.zero_le _⟩ (fun r S3 hq3 => ?_)
  obtain ⟨hq1, hq2⟩ := hq3
  rw [mset_s] at hq2
  rw [hq1, hq2]
  exact tv_iret X hrt dX9_press_66 ⟨_, rfl, S1, hq, rfl, rfl⟩
theorem iX9_release_X6 : ∀ w ∈ wsX60, w ∈ wsX9_release := by decide +kernel
theorem iX9_release_X9 : ∀ w ∈ wsX90, w ∈ wsX9_release := by decide +kernel
theorem kX9_release_12 : Cond.fieldLink RX9 12 (TX9 0).1 (TX9 0).2.1 (TX9 0).2.2.1 ∈ wsX9_release := by decide +kernel
theorem kX9_release_22 : Cond.fieldLink RX9 22 (TX9 2).1 (TX9 2).2.1 (TX9 2).2.2.1 ∈ wsX9_release := by decide +kernel
theorem cX9_release_ok (hpm : pmOk S) (hh : S.1 25 1 = nI h) (hh6 : h ≤ 6) (hd : trOk S 1) : mMi l yX9_release wsX9_release rmX9_release D n0 ft [.ref (n0 + 0)] n S (fun r S' => ∃ S1, svR S h S1 ∧ S' = mset S1 3 (fun k => if k < 48 then 0 else S1.1 3 k) ∧ r = cntI (fun k => decide (S1.1 3 k ≠ 0)) 48) := by
  have hb : mst 1 = true := rfl
  refine tv_enter (cc := cX9_release) (maxL := 1) (ret := (some .int)) (by decide) rfl (Nat.le_of_ble_eq_true rfl) ?_
  intro p e s m args below meth c X hrt hnm hargs
  refine tv_aload_n X dX9_release_0 rfl ?_
  refine mm_getf X dX9_release_1 gX9 iX9_release_X9 rfl 2 (by decide) kX9_release_22 rfl ?_
  refine tv_aload_n X dX9_release_4 rfl ?_
  refine mm_getf X dX9_release_5 gX9 iX9_release_X9 rfl 0 (by decide) kX9_release_12 rfl ?_
  refine mm_callVv (q := (RX2, TX2, 2)) X dX9_release_8 (cX2_save_ok hpm hh hh6 hd) (cwV 1 X.2.2.2.2.1 gX9_release_X2_save rfl rfl rfl (by decide +kernel) ⟨Nat.le_of_ble_eq_true rfl, Nat.le_of_ble_eq_true rfl⟩) rfl rfl gX2 rfl (Nat.le_of_ble_eq_true rfl) ⟨Nat.zero_le _, Nat.zero_le _⟩ (fun S1 hq => ?_)
  refine tv_aload_n X dX9_release_11 rfl ?_
  refine mm_getf X dX9_release_12 gX9 iX9_release_X9 rfl 0 (by decide) kX9_release_12 rfl ?_
  refine mm_getfN X dX9_release_15 (gX6 hb) iX9_release_X6 rfl 0 (by decide) nF5 rfl ?_
  refine mm_callVi (q := (RX4, TX4, 2)) X dX9_release_18 (cX4_clearRaw_ok hb) (cwV 0 X.2.2.2.2.1 gX9_release_X4_clearRaw rfl rfl rfl (by decide +kernel) ⟨Nat.le_of_ble_eq_true rfl, Nat.le_of_ble_eq_true rfl⟩) rfl rfl (gX4 hb) rfl (Nat.le_of_ble_eq_true rfl) ⟨Nat.zero_le _, Nat.zero_le _⟩ (fun r S3 hq3 => ?_)
  obtain ⟨hq1, hq2⟩ := hq3
  rw [hq1, hq2]
  exact tv_iret X hrt dX9_release_21 ⟨_, rfl, S1, hq, rfl, rfl⟩
theorem iX9_calibrate_X6 : ∀ w ∈ wsX60, w ∈ wsX9_calibrate := by decide +kernel
theorem iX9_calibrate_X9 : ∀ w ∈ wsX90, w ∈ wsX9_calibrate := by decide +kernel
theorem kX9_calibrate_12 : Cond.fieldLink RX9 12 (TX9 0).1 (TX9 0).2.1 (TX9 0).2.2.1 ∈ wsX9_calibrate := by decide +kernel
theorem kX9_calibrate_22 : Cond.fieldLink RX9 22 (TX9 2).1 (TX9 2).2.1 (TX9 2).2.2.1 ∈ wsX9_calibrate := by decide +kernel
theorem cX9_calibrate_ok (hpm : pmOk S) (hh : S.1 25 1 = nI h) (hh6 : h ≤ 6) (hd : trOk S 1) : mMi l yX9_calibrate wsX9_calibrate rmX9_calibrate D n0 ft [.ref (n0 + 0)] n S (fun r S' => ∃ S1, svR S h S1 ∧ S' = mset S1 4 (fun k => if k < 48 then S1.1 3 k else S1.1 4 k) ∧ r = cntI (fun k => decide (S1.1 4 k ≠ S1.1 3 k)) 48) := by
  have hb : mst 1 = true := rfl
  refine tv_enter (cc := cX9_calibrate) (maxL := 1) (ret := (some .int)) (by decide) rfl (Nat.le_of_ble_eq_true rfl) ?_
  intro p e s m args below meth c X hrt hnm hargs
  refine tv_aload_n X dX9_calibrate_0 rfl ?_
  refine mm_getf X dX9_calibrate_1 gX9 iX9_calibrate_X9 rfl 2 (by decide) kX9_calibrate_22 rfl ?_
  refine tv_aload_n X dX9_calibrate_4 rfl ?_
  refine mm_getf X dX9_calibrate_5 gX9 iX9_calibrate_X9 rfl 0 (by decide) kX9_calibrate_12 rfl ?_
  refine mm_callVv (q := (RX2, TX2, 2)) X dX9_calibrate_8 (cX2_save_ok hpm hh hh6 hd) (cwV 1 X.2.2.2.2.1 gX9_calibrate_X2_save rfl rfl rfl (by decide +kernel) ⟨Nat.le_of_ble_eq_true rfl, Nat.le_of_ble_eq_true rfl⟩) rfl rfl gX2 rfl (Nat.le_of_ble_eq_true rfl) ⟨Nat.zero_le _, Nat.zero_le _⟩ (fun S1 hq => ?_)
  refine tv_aload_n X dX9_calibrate_11 rfl ?_
  refine mm_getf X dX9_calibrate_12 gX9 iX9_calibrate_X9 rfl 0 (by decide) kX9_calibrate_12 rfl ?_
  refine mm_getfN X dX9_calibrate_15 (gX6 hb) iX9_calibrate_X6 rfl 0 (by decide) nF5 rfl ?_
  refine mm_callVi (q := (RX4, TX4, 2)) X dX9_calibrate_18 (cX4_takeBaselines_ok hb) (cwV 0 X.2.2.2.2.1 gX9_calibrate_X4_takeBaselines rfl rfl rfl (by decide +kernel) ⟨Nat.le_of_ble_eq_true rfl, Nat.le_of_ble_eq_true rfl⟩) rfl rfl (gX4 hb) rfl (Nat.le_of_ble_eq_true rfl) ⟨Nat.zero_le _, Nat.zero_le _⟩ (fun r S3 hq3 => ?_)
  obtain ⟨hq1, hq2⟩ := hq3
  rw [hq1, hq2]
  exact tv_iret X hrt dX9_calibrate_21 ⟨_, rfl, S1, hq, rfl, rfl⟩
theorem iX9_set_X6 : ∀ w ∈ wsX60, w ∈ wsX9_set := by decide +kernel
theorem iX9_set_X9 : ∀ w ∈ wsX90, w ∈ wsX9_set := by decide +kernel
theorem kX9_set_12 : Cond.fieldLink RX9 12 (TX9 0).1 (TX9 0).2.1 (TX9 0).2.2.1 ∈ wsX9_set := by decide +kernel
theorem kX9_set_22 : Cond.fieldLink RX9 22 (TX9 2).1 (TX9 2).2.1 (TX9 2).2.2.1 ∈ wsX9_set := by decide +kernel
theorem kX9_set_110 : Cond.fieldLink RX9 110 "TouchTracker" "LEAST_VALUES" "[I" ∈ wsX9_set := by decide +kernel
theorem kX9_set_114 : Cond.fieldLink RX9 114 "TouchTracker" "GREATEST_VALUES" "[I" ∈ wsX9_set := by decide +kernel
theorem cX9_set_in (hpm : pmOk S) (hh : S.1 25 1 = nI h) (hh6 : h ≤ 6) (hd : trOk S 1) {q : Nat} {v : Int32} (hq5 : q < 5) (hlo : leastN q ≤ v) (hhi : v ≤ mostN q) : mMi l yX9_set wsX9_set rmX9_set D n0 ft [.ref (n0 + 0), .int (nI q), .int v] n S
    (fun r S' => ∃ S1, svR S h S1 ∧ S' = mupd S1 5 q v ∧ r = S1.1 5 q) := by
  have hb : mst 1 = true := rfl
  refine tv_enter (cc := cX9_set) (maxL := 4) (ret := (some .int)) (by decide) rfl (Nat.le_of_ble_eq_true rfl) ?_
  intro p e s m args below meth c X hrt hnm hargs
  refine tv_iload_n X dX9_set_0 rfl ?_
  refine mm_callSv X dX9_set_1 (cX9_requireSetting_in hq5) (va_cwS 1 X.2.2.2.2.1 gX9_set_X9_requireSetting rfl rfl rfl (by decide +kernel) ⟨Nat.le_of_ble_eq_true rfl, Nat.le_of_ble_eq_true rfl⟩) rfl rfl (Nat.le_of_ble_eq_true rfl) ⟨Nat.zero_le _, Nat.zero_le _⟩ (fun S1 hq => ?_)
  rw [hq]
  clear hq
  refine tv_iload_n X dX9_set_4 rfl ?_
  refine tv_getsL X dX9_set_5 kX9_set_110 ?_
  refine tv_iload_n X dX9_set_8 rfl ?_
  refine tv_ialdL X dX9_set_9 hq5 ?_
  refine tv_icmp_lt (tgt := 22) X dX9_set_10 (by decide) (fun h1 => ?_) (fun h1 => ?_)
  · exact absurd h1 (Int32.not_lt.mpr hlo)
  refine tv_iload_n X dX9_set_13 rfl ?_
  refine tv_getsG X dX9_set_14 kX9_set_114 ?_
  refine tv_iload_n X dX9_set_17 rfl ?_
  refine tv_ialdG X dX9_set_18 hq5 ?_
  refine tv_icmp_le (tgt := 32) X dX9_set_19 (by decide) (fun h2 => ?_) (fun h2 => ?_)
  rotate_left
  · exact absurd hhi h2
  refine tv_aload_n X dX9_set_32 rfl ?_
  refine mm_getf X dX9_set_33 gX9 iX9_set_X9 rfl 2 (by decide) kX9_set_22 rfl ?_
  refine tv_aload_n X dX9_set_36 rfl ?_
  refine mm_getf X dX9_set_37 gX9 iX9_set_X9 rfl 0 (by decide) kX9_set_12 rfl ?_
  refine mm_callVv (q := (RX2, TX2, 2)) X dX9_set_40 (cX2_save_ok hpm hh hh6 hd) (cwV 1 X.2.2.2.2.1 gX9_set_X2_save rfl rfl rfl (by decide +kernel) ⟨Nat.le_of_ble_eq_true rfl, Nat.le_of_ble_eq_true rfl⟩) rfl rfl gX2 rfl (Nat.le_of_ble_eq_true rfl) ⟨Nat.zero_le _, Nat.zero_le _⟩ (fun S1 hq => ?_)
  refine tv_aload_n X dX9_set_43 rfl ?_
  refine mm_getf X dX9_set_44 gX9 iX9_set_X9 rfl 0 (by decide) kX9_set_12 rfl ?_
  refine mm_getfN X dX9_set_47 (gX6 hb) iX9_set_X6 rfl 1 (by decide) nF8 rfl ?_
  refine tv_iload_n X dX9_set_50 rfl ?_
  refine mm_iald X dX9_set_51 (gSet hb) q rfl hq5 (by decide) ?_
  refine tv_istore_n X dX9_set_52 rfl ?_
  refine tv_aload_n X dX9_set_53 rfl ?_
  refine mm_getf X dX9_set_54 gX9 iX9_set_X9 rfl 0 (by decide) kX9_set_12 rfl ?_
  refine mm_getfN X dX9_set_57 (gX6 hb) iX9_set_X6 rfl 1 (by decide) nF8 rfl ?_
  refine tv_iload_n X dX9_set_60 rfl ?_
  refine tv_iload_n X dX9_set_61 rfl ?_
  refine mm_iast X dX9_set_62 (gSet hb) q rfl hq5 (by decide) ?_
  refine tv_iload_n X dX9_set_63 rfl ?_
  exact tv_iret X hrt dX9_set_64 ⟨_, rfl, S1, hq, rfl, rfl⟩
theorem iX9_scan_X9 : ∀ w ∈ wsX90, w ∈ wsX9_scan := by decide +kernel
theorem kX9_scan_12 : Cond.fieldLink RX9 12 (TX9 0).1 (TX9 0).2.1 (TX9 0).2.2.1 ∈ wsX9_scan := by decide +kernel
theorem kX9_scan_22 : Cond.fieldLink RX9 22 (TX9 2).1 (TX9 2).2.1 (TX9 2).2.2.1 ∈ wsX9_scan := by decide +kernel
theorem cX9_scan_ok (hpm : pmOk S) (hh : S.1 25 1 = nI h) (hh6 : h ≤ 6) (hd : trOk S 1) : mMi l yX9_scan wsX9_scan rmX9_scan D n0 ft [.ref (n0 + 0)] n S (fun r S' => ∃ S1, svR S h S1 ∧ S' = scP S1 1 48 ∧ r = (scP S1 1 48).1 1 4 + (scP S1 1 48).1 1 5 - (S1.1 1 4 + S1.1 1 5)) := by
  have hb : mst 1 = true := rfl
  refine tv_enter (cc := cX9_scan) (maxL := 1) (ret := (some .int)) (by decide) rfl (Nat.le_of_ble_eq_true rfl) ?_
  intro p e s m args below meth c X hrt hnm hargs
  refine tv_aload_n X dX9_scan_0 rfl ?_
  refine mm_getf X dX9_scan_1 gX9 iX9_scan_X9 rfl 2 (by decide) kX9_scan_22 rfl ?_
  refine tv_aload_n X dX9_scan_4 rfl ?_
  refine mm_getf X dX9_scan_5 gX9 iX9_scan_X9 rfl 0 (by decide) kX9_scan_12 rfl ?_
  refine mm_callVv (q := (RX2, TX2, 2)) X dX9_scan_8 (cX2_save_ok hpm hh hh6 hd) (cwV 1 X.2.2.2.2.1 gX9_scan_X2_save rfl rfl rfl (by decide +kernel) ⟨Nat.le_of_ble_eq_true rfl, Nat.le_of_ble_eq_true rfl⟩) rfl rfl gX2 rfl (Nat.le_of_ble_eq_true rfl) ⟨Nat.zero_le _, Nat.zero_le _⟩ (fun S1 hq => ?_)
  refine tv_aload_n X dX9_scan_11 rfl ?_
  refine tv_aload_n X dX9_scan_12 rfl ?_
  refine mm_getf X dX9_scan_13 gX9 iX9_scan_X9 rfl 0 (by decide) kX9_scan_12 rfl ?_
  refine mm_callVi (q := (RX9, TX9, 8)) X dX9_scan_16 (cX9_scanFrame_ok hb) (cwV 1 X.2.2.2.2.1 gX9_scan_X9_scanFrame rfl rfl rfl (by decide +kernel) ⟨Nat.le_of_ble_eq_true rfl, Nat.le_of_ble_eq_true rfl⟩) rfl rfl gX9 rfl (Nat.le_of_ble_eq_true rfl) ⟨Nat.zero_le _, Nat.zero_le _⟩ (fun r S3 hq3 => ?_)
  obtain ⟨k, -, hk, hq1, hq2⟩ := hq3
  rw [scP_48 hk] at hq1 hq2
  rw [hq1, hq2]
  exact tv_iret X hrt dX9_scan_19 ⟨_, rfl, S1, hq, rfl, rfl⟩
theorem iX9_undo_X2 : ∀ w ∈ wsX20, w ∈ wsX9_undo := by decide +kernel
theorem iX9_undo_X9 : ∀ w ∈ wsX90, w ∈ wsX9_undo := by decide +kernel
theorem kX9_undo_12 : Cond.fieldLink RX9 12 (TX9 0).1 (TX9 0).2.1 (TX9 0).2.2.1 ∈ wsX9_undo := by decide +kernel
theorem kX9_undo_22 : Cond.fieldLink RX9 22 (TX9 2).1 (TX9 2).2.1 (TX9 2).2.2.1 ∈ wsX9_undo := by decide +kernel
theorem cX9_undo_in (hpm : pmOk S) (hh : S.1 25 1 = nI h) (hh6 : h ≤ 6) (h0 : 0 < h) (hd : trOk S (S.2.1 (h - 1))) : mMi l yX9_undo wsX9_undo rmX9_undo D n0 ft [.ref (n0 + 0)] n S
    (fun r S' => rsR S h S' ∧ r = nI (h - 1)) := by
  have hb : mst 1 = true := rfl
  refine tv_enter (cc := cX9_undo) (maxL := 1) (ret := (some .int)) (by decide) rfl (Nat.le_of_ble_eq_true rfl) ?_
  intro p e s m args below meth c X hrt hnm hargs
  refine tv_aload_n X dX9_undo_0 rfl ?_
  refine mm_getf X dX9_undo_1 gX9 iX9_undo_X9 rfl 2 (by decide) kX9_undo_22 rfl ?_
  refine mm_getfN X dX9_undo_4 gX2 iX9_undo_X2 rfl 1 (by decide) nF14 rfl ?_
  rw [hh]
  refine tv_if_ne (tgt := 20) X dX9_undo_7 (by decide) (fun h1 => ?_) (fun h1 => ?_)
  rotate_left
  · exact absurd h1 (nI_ne0 (by omega) (by omega))
  refine tv_aload_n X dX9_undo_20 rfl ?_
  refine mm_getf X dX9_undo_21 gX9 iX9_undo_X9 rfl 2 (by decide) kX9_undo_22 rfl ?_
  refine tv_aload_n X dX9_undo_24 rfl ?_
  refine mm_getf X dX9_undo_25 gX9 iX9_undo_X9 rfl 0 (by decide) kX9_undo_12 rfl ?_
  refine mm_callVv (q := (RX2, TX2, 2)) X dX9_undo_28 (cX2_restore_ok hpm hh hh6 (by omega) hd) (cwV 1 X.2.2.2.2.1 gX9_undo_X2_restore rfl rfl rfl (by decide +kernel) ⟨Nat.le_of_ble_eq_true rfl, Nat.le_of_ble_eq_true rfl⟩) rfl rfl gX2 rfl (Nat.le_of_ble_eq_true rfl) ⟨Nat.zero_le _, Nat.zero_le _⟩ (fun S1 hq => ?_)
  refine tv_aload_n X dX9_undo_31 rfl ?_
  refine mm_getf X dX9_undo_32 gX9 iX9_undo_X9 rfl 2 (by decide) kX9_undo_22 rfl ?_
  refine mm_getfN X dX9_undo_35 gX2 iX9_undo_X2 rfl 1 (by decide) nF14 rfl ?_
  rw [hq.2.2.1]
  exact tv_iret X hrt dX9_undo_38 ⟨_, rfl, hq, rfl⟩
end C40

