section C14
variable {l : Launch} {D : va_G} {n0 : Nat} {ft : tv_ft} {n : Nat} {S : mS} {b : Nat}
/-- a track's row -/
def trkGo (x y : Int32) : Nat → Int32 := fun k => if k = 0 then 1 else if k = 1 then x else if k = 2 then y else 0
theorem iX8_goDown_X8 : ∀ w ∈ wsX80, w ∈ wsX8_goDown := by decide +kernel
theorem kX8_goDown_9 : Cond.fieldLink RX8 9 (TX8 0).1 (TX8 0).2.1 (TX8 0).2.2.1 ∈ wsX8_goDown := by decide +kernel
theorem kX8_goDown_15 : Cond.fieldLink RX8 15 (TX8 1).1 (TX8 1).2.1 (TX8 1).2.2.1 ∈ wsX8_goDown := by decide +kernel
theorem kX8_goDown_19 : Cond.fieldLink RX8 19 (TX8 2).1 (TX8 2).2.1 (TX8 2).2.2.1 ∈ wsX8_goDown := by decide +kernel
theorem kX8_goDown_22 : Cond.fieldLink RX8 22 (TX8 3).1 (TX8 3).2.1 (TX8 3).2.2.1 ∈ wsX8_goDown := by decide +kernel
theorem kX8_goDown_25 : Cond.fieldLink RX8 25 (TX8 4).1 (TX8 4).2.1 (TX8 4).2.2.1 ∈ wsX8_goDown := by decide +kernel
theorem cX8_goDown_ok (hb : mst b = true) {j : Nat} (hj : j < 6) (x y : Int32) : mMv l yX8_goDown wsX8_goDown rmX8_goDown D n0 ft [.ref (n0 + (b + 6 + j)), .int x, .int y] n S (fun S' => S' = mset S (b + 6 + j) (upd (upd (upd (upd (upd (S.1 (b + 6 + j)) 0 1) 1 x) 2 y) 3 0) 4 0)) := by
  refine tv_enter (cc := cX8_goDown) (maxL := 3) (ret := none) (by decide) rfl (Nat.le_of_ble_eq_true rfl) ?_
  intro p e s m args below meth c X hrt hnm hargs
  refine tv_aload_n X dX8_goDown_0 rfl ?_
  refine tv_iconst (v := 1) X dX8_goDown_1 (by decide) ?_
  refine mm_put X dX8_goDown_2 (gX8 hb hj) iX8_goDown_X8 rfl tyX8 tyX8_ok nmX8 0 (by decide) kX8_goDown_9 rfl rfl rfl (Nat.le_of_ble_eq_true rfl) rfl ?_
  refine tv_aload_n X dX8_goDown_5 rfl ?_
  refine tv_iload_n X dX8_goDown_6 rfl ?_
  refine mm_put X dX8_goDown_7 (gX8 hb hj) iX8_goDown_X8 rfl tyX8 tyX8_ok nmX8 1 (by decide) kX8_goDown_15 rfl rfl rfl (Nat.le_of_ble_eq_true rfl) rfl ?_
  refine tv_aload_n X dX8_goDown_10 rfl ?_
  refine tv_iload_n X dX8_goDown_11 rfl ?_
  refine mm_put X dX8_goDown_12 (gX8 hb hj) iX8_goDown_X8 rfl tyX8 tyX8_ok nmX8 2 (by decide) kX8_goDown_19 rfl rfl rfl (Nat.le_of_ble_eq_true rfl) rfl ?_
  refine tv_aload_n X dX8_goDown_15 rfl ?_
  refine tv_iconst (v := 0) X dX8_goDown_16 (by decide) ?_
  refine mm_put X dX8_goDown_17 (gX8 hb hj) iX8_goDown_X8 rfl tyX8 tyX8_ok nmX8 3 (by decide) kX8_goDown_22 rfl rfl rfl (Nat.le_of_ble_eq_true rfl) rfl ?_
  refine tv_aload_n X dX8_goDown_20 rfl ?_
  refine tv_iconst (v := 0) X dX8_goDown_21 (by decide) ?_
  refine mm_put X dX8_goDown_22 (gX8 hb hj) iX8_goDown_X8 rfl tyX8 tyX8_ok nmX8 4 (by decide) kX8_goDown_25 rfl rfl rfl (Nat.le_of_ble_eq_true rfl) rfl ?_
  refine tv_vret X hrt dX8_goDown_25 ⟨_, rfl, ?_⟩
  simp only [mupd, mset_mset, mset_s]
theorem iX8_follow_X8 : ∀ w ∈ wsX80, w ∈ wsX8_follow := by decide +kernel
theorem kX8_follow_15 : Cond.fieldLink RX8 15 (TX8 1).1 (TX8 1).2.1 (TX8 1).2.2.1 ∈ wsX8_follow := by decide +kernel
theorem kX8_follow_19 : Cond.fieldLink RX8 19 (TX8 2).1 (TX8 2).2.1 (TX8 2).2.2.1 ∈ wsX8_follow := by decide +kernel
theorem kX8_follow_22 : Cond.fieldLink RX8 22 (TX8 3).1 (TX8 3).2.1 (TX8 3).2.2.1 ∈ wsX8_follow := by decide +kernel
theorem kX8_follow_25 : Cond.fieldLink RX8 25 (TX8 4).1 (TX8 4).2.1 (TX8 4).2.2.1 ∈ wsX8_follow := by decide +kernel
theorem cX8_follow_ok (hb : mst b = true) {j : Nat} (hj : j < 6) (x y : Int32) : mMv l yX8_follow wsX8_follow rmX8_follow D n0 ft [.ref (n0 + (b + 6 + j)), .int x, .int y] n S (fun S' => S' = mset S (b + 6 + j) (upd (upd (upd (upd (S.1 (b + 6 + j)) 1 x) 2 y) 3 (S.1 (b + 6 + j) 3 + 1)) 4 0)) := by
  refine tv_enter (cc := cX8_follow) (maxL := 3) (ret := none) (by decide) rfl (Nat.le_of_ble_eq_true rfl) ?_
  intro p e s m args below meth c X hrt hnm hargs
  refine tv_aload_n X dX8_follow_0 rfl ?_
  refine tv_iload_n X dX8_follow_1 rfl ?_
  refine mm_put X dX8_follow_2 (gX8 hb hj) iX8_follow_X8 rfl tyX8 tyX8_ok nmX8 1 (by decide) kX8_follow_15 rfl rfl rfl (Nat.le_of_ble_eq_true rfl) rfl ?_
  refine tv_aload_n X dX8_follow_5 rfl ?_
  refine tv_iload_n X dX8_follow_6 rfl ?_
  refine mm_put X dX8_follow_7 (gX8 hb hj) iX8_follow_X8 rfl tyX8 tyX8_ok nmX8 2 (by decide) kX8_follow_19 rfl rfl rfl (Nat.le_of_ble_eq_true rfl) rfl ?_
  refine tv_aload_n X dX8_follow_10 rfl ?_
  refine tv_dup X dX8_follow_11 rfl ?_
  refine mm_getf X dX8_follow_12 (gX8 hb hj) iX8_follow_X8 rfl 3 (by decide) kX8_follow_22 rfl ?_
  refine tv_iconst (v := 1) X dX8_follow_15 (by decide) ?_
  refine tv_iadd X dX8_follow_16 ?_
  refine mm_put X dX8_follow_17 (gX8 hb hj) iX8_follow_X8 rfl tyX8 tyX8_ok nmX8 3 (by decide) kX8_follow_22 rfl rfl rfl (Nat.le_of_ble_eq_true rfl) rfl ?_
  refine tv_aload_n X dX8_follow_20 rfl ?_
  refine tv_iconst (v := 0) X dX8_follow_21 (by decide) ?_
  refine mm_put X dX8_follow_22 (gX8 hb hj) iX8_follow_X8 rfl tyX8 tyX8_ok nmX8 4 (by decide) kX8_follow_25 rfl rfl rfl (Nat.le_of_ble_eq_true rfl) rfl ?_
  refine tv_vret X hrt dX8_follow_25 ⟨_, rfl, ?_⟩
  simp [mupd, mset_mset, mset_s, upd]
theorem iX8_miss_X8 : ∀ w ∈ wsX80, w ∈ wsX8_miss := by decide +kernel
theorem kX8_miss_9 : Cond.fieldLink RX8 9 (TX8 0).1 (TX8 0).2.1 (TX8 0).2.2.1 ∈ wsX8_miss := by decide +kernel
theorem kX8_miss_25 : Cond.fieldLink RX8 25 (TX8 4).1 (TX8 4).2.1 (TX8 4).2.2.1 ∈ wsX8_miss := by decide +kernel
theorem cX8_miss_ok (hb : mst b = true) {j : Nat} (hj : j < 6) (g : Int32) : mMv l yX8_miss wsX8_miss rmX8_miss D n0 ft [.ref (n0 + (b + 6 + j)), .int g] n S (fun S' => S' = mset S (b + 6 + j) (upd (upd (S.1 (b + 6 + j)) 4 (S.1 (b + 6 + j) 4 + 1)) 0 (if g < S.1 (b + 6 + j) 4 + 1 then 0 else 1))) := by
  refine tv_enter (cc := cX8_miss) (maxL := 2) (ret := none) (by decide) rfl (Nat.le_of_ble_eq_true rfl) ?_
  intro p e s m args below meth c X hrt hnm hargs
  refine tv_aload_n X dX8_miss_0 rfl ?_
  refine tv_dup X dX8_miss_1 rfl ?_
  refine mm_getf X dX8_miss_2 (gX8 hb hj) iX8_miss_X8 rfl 4 (by decide) kX8_miss_25 rfl ?_
  refine tv_iconst (v := 1) X dX8_miss_5 (by decide) ?_
  refine tv_iadd X dX8_miss_6 ?_
  refine mm_put X dX8_miss_7 (gX8 hb hj) iX8_miss_X8 rfl tyX8 tyX8_ok nmX8 4 (by decide) kX8_miss_25 rfl rfl rfl (Nat.le_of_ble_eq_true rfl) rfl ?_
  refine tv_aload_n X dX8_miss_10 rfl ?_
  refine tv_aload_n X dX8_miss_11 rfl ?_
  refine mm_getf X dX8_miss_12 (gX8 hb hj) iX8_miss_X8 rfl 4 (by decide) kX8_miss_25 rfl ?_
  refine tv_iload_n X dX8_miss_15 rfl ?_
  refine tv_icmp_gt (tgt := 23) X dX8_miss_16 (by decide) (fun h1 => ?_) (fun h1 => ?_)
  · refine tv_iconst (v := 0) X dX8_miss_23 (by decide) ?_
    refine mm_put X dX8_miss_24 (gX8 hb hj) iX8_miss_X8 rfl tyX8 tyX8_ok nmX8 0 (by decide) kX8_miss_9 rfl rfl rfl (Nat.le_of_ble_eq_true rfl) rfl ?_
    refine tv_vret X hrt dX8_miss_27 ⟨_, rfl, ?_⟩
    have h2 : g < S.1 (b + 6 + j) 4 + 1 := by simpa [mupd, mset_s, upd] using h1
    rw [if_pos h2]
    simp only [mupd, mset_mset, mset_s]
  · refine tv_iconst (v := 1) X dX8_miss_19 (by decide) ?_
    refine tv_goto (tgt := 24) X dX8_miss_20 (by decide) ?_
    refine mm_put X dX8_miss_24 (gX8 hb hj) iX8_miss_X8 rfl tyX8 tyX8_ok nmX8 0 (by decide) kX8_miss_9 rfl rfl rfl (Nat.le_of_ble_eq_true rfl) rfl ?_
    refine tv_vret X hrt dX8_miss_27 ⟨_, rfl, ?_⟩
    have h2 : ¬ g < S.1 (b + 6 + j) 4 + 1 := by simpa [mupd, mset_s, upd] using h1
    rw [if_neg h2]
    simp only [mupd, mset_mset, mset_s]
theorem iX8_partOf_X8 : ∀ w ∈ wsX80, w ∈ wsX8_partOf := by decide +kernel
theorem kX8_partOf_9 : Cond.fieldLink RX8 9 (TX8 0).1 (TX8 0).2.1 (TX8 0).2.2.1 ∈ wsX8_partOf := by decide +kernel
theorem kX8_partOf_15 : Cond.fieldLink RX8 15 (TX8 1).1 (TX8 1).2.1 (TX8 1).2.2.1 ∈ wsX8_partOf := by decide +kernel
theorem kX8_partOf_19 : Cond.fieldLink RX8 19 (TX8 2).1 (TX8 2).2.1 (TX8 2).2.2.1 ∈ wsX8_partOf := by decide +kernel
theorem kX8_partOf_22 : Cond.fieldLink RX8 22 (TX8 3).1 (TX8 3).2.1 (TX8 3).2.2.1 ∈ wsX8_partOf := by decide +kernel
theorem kX8_partOf_25 : Cond.fieldLink RX8 25 (TX8 4).1 (TX8 4).2.1 (TX8 4).2.2.1 ∈ wsX8_partOf := by decide +kernel
theorem cX8_partOf_ok (hb : mst b = true) {j : Nat} (hj : j < 6) {q : Nat} (hq4 : q < 4) : mMi l yX8_partOf wsX8_partOf rmX8_partOf D n0 ft [.ref (n0 + (b + 6 + j)), .int (nI q)] n S (fun r S' => S' = S ∧ r = if S.1 (b + 6 + j) 0 = 0 then -1 else S.1 (b + 6 + j) (q + 1)) := by
  refine tv_enter (cc := cX8_partOf) (maxL := 2) (ret := (some .int)) (by decide) rfl (Nat.le_of_ble_eq_true rfl) ?_
  intro p e s m args below meth c X hrt hnm hargs
  refine tv_aload_n X dX8_partOf_0 rfl ?_
  refine mm_getf X dX8_partOf_1 (gX8 hb hj) iX8_partOf_X8 rfl 0 (by decide) kX8_partOf_9 rfl ?_
  refine tv_if_ne (tgt := 9) X dX8_partOf_4 (by decide) (fun h1 => ?_) (fun h1 => ?_)
  · refine tv_iload_n X dX8_partOf_9 rfl ?_
    match q, hq4 with
    | 0, _ =>
      refine tv_tableIn (tgt := 36) X dX8_partOf_10 (by decide) (by decide) rfl (by decide) ?_
      refine tv_aload_n X dX8_partOf_36 rfl ?_
      refine mm_getf X dX8_partOf_37 (gX8 hb hj) iX8_partOf_X8 rfl 1 (by decide) kX8_partOf_15 rfl ?_
      exact tv_iret X hrt dX8_partOf_40 ⟨_, rfl, rfl, (if_neg h1).symm⟩
    | 1, _ =>
      refine tv_tableIn (tgt := 41) X dX8_partOf_10 (by decide) (by decide) rfl (by decide) ?_
      refine tv_aload_n X dX8_partOf_41 rfl ?_
      refine mm_getf X dX8_partOf_42 (gX8 hb hj) iX8_partOf_X8 rfl 2 (by decide) kX8_partOf_19 rfl ?_
      exact tv_iret X hrt dX8_partOf_45 ⟨_, rfl, rfl, (if_neg h1).symm⟩
    | 2, _ =>
      refine tv_tableIn (tgt := 46) X dX8_partOf_10 (by decide) (by decide) rfl (by decide) ?_
      refine tv_aload_n X dX8_partOf_46 rfl ?_
      refine mm_getf X dX8_partOf_47 (gX8 hb hj) iX8_partOf_X8 rfl 3 (by decide) kX8_partOf_22 rfl ?_
      exact tv_iret X hrt dX8_partOf_50 ⟨_, rfl, rfl, (if_neg h1).symm⟩
    | 3, _ =>
      refine tv_tableOut (tgt := 51) X dX8_partOf_10 (by decide) (by decide) ?_
      refine tv_aload_n X dX8_partOf_51 rfl ?_
      refine mm_getf X dX8_partOf_52 (gX8 hb hj) iX8_partOf_X8 rfl 4 (by decide) kX8_partOf_25 rfl ?_
      exact tv_iret X hrt dX8_partOf_55 ⟨_, rfl, rfl, (if_neg h1).symm⟩
  · refine tv_iconst (v := -1) X dX8_partOf_7 (by decide) ?_
    exact tv_iret X hrt dX8_partOf_8 ⟨_, rfl, rfl, (if_pos h1).symm⟩
theorem iX8_squaredWayTo_X8 : ∀ w ∈ wsX80, w ∈ wsX8_squaredWayTo := by decide +kernel
theorem kX8_squaredWayTo_15 : Cond.fieldLink RX8 15 (TX8 1).1 (TX8 1).2.1 (TX8 1).2.2.1 ∈ wsX8_squaredWayTo := by decide +kernel
theorem kX8_squaredWayTo_19 : Cond.fieldLink RX8 19 (TX8 2).1 (TX8 2).2.1 (TX8 2).2.2.1 ∈ wsX8_squaredWayTo := by decide +kernel
theorem cX8_squaredWayTo_ok (hb : mst b = true) {j : Nat} (hj : j < 6) (x y : Int32) : mMi l yX8_squaredWayTo wsX8_squaredWayTo rmX8_squaredWayTo D n0 ft [.ref (n0 + (b + 6 + j)), .int x, .int y] n S (fun r S' => S' = S ∧ r = (S.1 (b + 6 + j) 1 - x) * (S.1 (b + 6 + j) 1 - x) + (S.1 (b + 6 + j) 2 - y) * (S.1 (b + 6 + j) 2 - y)) := by
  refine tv_enter (cc := cX8_squaredWayTo) (maxL := 5) (ret := (some .int)) (by decide) rfl (Nat.le_of_ble_eq_true rfl) ?_
  intro p e s m args below meth c X hrt hnm hargs
  refine tv_aload_n X dX8_squaredWayTo_0 rfl ?_
  refine mm_getf X dX8_squaredWayTo_1 (gX8 hb hj) iX8_squaredWayTo_X8 rfl 1 (by decide) kX8_squaredWayTo_15 rfl ?_
  refine tv_iload_n X dX8_squaredWayTo_4 rfl ?_
  refine tv_isub X dX8_squaredWayTo_5 ?_
  refine tv_istore_n X dX8_squaredWayTo_6 rfl ?_
  refine tv_aload_n X dX8_squaredWayTo_7 rfl ?_
  refine mm_getf X dX8_squaredWayTo_8 (gX8 hb hj) iX8_squaredWayTo_X8 rfl 2 (by decide) kX8_squaredWayTo_19 rfl ?_
  refine tv_iload_n X dX8_squaredWayTo_11 rfl ?_
  refine tv_isub X dX8_squaredWayTo_12 ?_
  refine tv_istore X dX8_squaredWayTo_13 rfl ?_
  refine tv_iload_n X dX8_squaredWayTo_15 rfl ?_
  refine tv_iload_n X dX8_squaredWayTo_16 rfl ?_
  refine tv_imul X dX8_squaredWayTo_17 ?_
  refine tv_iload X dX8_squaredWayTo_18 rfl ?_
  refine tv_iload X dX8_squaredWayTo_20 rfl ?_
  refine tv_imul X dX8_squaredWayTo_22 ?_
  refine tv_iadd X dX8_squaredWayTo_23 ?_
  exact tv_iret X hrt dX8_squaredWayTo_24 ⟨_, rfl, rfl, rfl⟩
theorem iX8_copyFrom_X8 : ∀ w ∈ wsX80, w ∈ wsX8_copyFrom := by decide +kernel
theorem kX8_copyFrom_9 : Cond.fieldLink RX8 9 (TX8 0).1 (TX8 0).2.1 (TX8 0).2.2.1 ∈ wsX8_copyFrom := by decide +kernel
theorem kX8_copyFrom_15 : Cond.fieldLink RX8 15 (TX8 1).1 (TX8 1).2.1 (TX8 1).2.2.1 ∈ wsX8_copyFrom := by decide +kernel
theorem kX8_copyFrom_19 : Cond.fieldLink RX8 19 (TX8 2).1 (TX8 2).2.1 (TX8 2).2.2.1 ∈ wsX8_copyFrom := by decide +kernel
theorem kX8_copyFrom_22 : Cond.fieldLink RX8 22 (TX8 3).1 (TX8 3).2.1 (TX8 3).2.2.1 ∈ wsX8_copyFrom := by decide +kernel
theorem kX8_copyFrom_25 : Cond.fieldLink RX8 25 (TX8 4).1 (TX8 4).2.1 (TX8 4).2.2.1 ∈ wsX8_copyFrom := by decide +kernel
theorem cX8_copyFrom_ok (hb : mst b = true) {j : Nat} (hj : j < 6) {b2 : Nat} (hb2 : mst b2 = true) {j2 : Nat} (hj2 : j2 < 6) (hne : b + 6 + j ≠ b2 + 6 + j2) (hd : S.1 (b2 + 6 + j2) 0 = 0 ∨ S.1 (b2 + 6 + j2) 0 = 1) : mMv l yX8_copyFrom wsX8_copyFrom rmX8_copyFrom D n0 ft [.ref (n0 + (b + 6 + j)), .ref (n0 + (b2 + 6 + j2))] n S (fun S' => S' = mset S (b + 6 + j) (upd (upd (upd (upd (upd (S.1 (b + 6 + j)) 0 (S.1 (b2 + 6 + j2) 0)) 1 (S.1 (b2 + 6 + j2) 1)) 2 (S.1 (b2 + 6 + j2) 2)) 3 (S.1 (b2 + 6 + j2) 3)) 4 (S.1 (b2 + 6 + j2) 4))) := by
  refine tv_enter (cc := cX8_copyFrom) (maxL := 2) (ret := none) (by decide) rfl (Nat.le_of_ble_eq_true rfl) ?_
  intro p e s m args below meth c X hrt hnm hargs
  have hn1 : narrow (tyX8 0) (.int (S.1 (b2 + 6 + j2) 0)) = .int (S.1 (b2 + 6 + j2) 0) := by rcases hd with h | h <;> rw [h] <;> rfl
  have hf1 : fits (tyX8 0) (.int (S.1 (b2 + 6 + j2) 0)) = true := by rcases hd with h | h <;> rw [h] <;> rfl
  refine tv_aload_n X dX8_copyFrom_0 rfl ?_
  refine tv_aload_n X dX8_copyFrom_1 rfl ?_
  refine mm_getf X dX8_copyFrom_2 (gX8 hb2 hj2) iX8_copyFrom_X8 rfl 0 (by decide) kX8_copyFrom_9 rfl ?_
  refine mm_put X dX8_copyFrom_5 (gX8 hb hj) iX8_copyFrom_X8 rfl tyX8 tyX8_ok nmX8 0 (by decide) kX8_copyFrom_9 rfl hn1 hf1 (Nat.le_of_ble_eq_true rfl) rfl ?_
  refine tv_aload_n X dX8_copyFrom_8 rfl ?_
  refine tv_aload_n X dX8_copyFrom_9 rfl ?_
  refine mm_getf X dX8_copyFrom_10 (gX8 hb2 hj2) iX8_copyFrom_X8 rfl 1 (by decide) kX8_copyFrom_15 rfl ?_
  refine mm_put X dX8_copyFrom_13 (gX8 hb hj) iX8_copyFrom_X8 rfl tyX8 tyX8_ok nmX8 1 (by decide) kX8_copyFrom_15 rfl rfl rfl (Nat.le_of_ble_eq_true rfl) rfl ?_
  refine tv_aload_n X dX8_copyFrom_16 rfl ?_
  refine tv_aload_n X dX8_copyFrom_17 rfl ?_
  refine mm_getf X dX8_copyFrom_18 (gX8 hb2 hj2) iX8_copyFrom_X8 rfl 2 (by decide) kX8_copyFrom_19 rfl ?_
  refine mm_put X dX8_copyFrom_21 (gX8 hb hj) iX8_copyFrom_X8 rfl tyX8 tyX8_ok nmX8 2 (by decide) kX8_copyFrom_19 rfl rfl rfl (Nat.le_of_ble_eq_true rfl) rfl ?_
  refine tv_aload_n X dX8_copyFrom_24 rfl ?_
  refine tv_aload_n X dX8_copyFrom_25 rfl ?_
  refine mm_getf X dX8_copyFrom_26 (gX8 hb2 hj2) iX8_copyFrom_X8 rfl 3 (by decide) kX8_copyFrom_22 rfl ?_
  refine mm_put X dX8_copyFrom_29 (gX8 hb hj) iX8_copyFrom_X8 rfl tyX8 tyX8_ok nmX8 3 (by decide) kX8_copyFrom_22 rfl rfl rfl (Nat.le_of_ble_eq_true rfl) rfl ?_
  refine tv_aload_n X dX8_copyFrom_32 rfl ?_
  refine tv_aload_n X dX8_copyFrom_33 rfl ?_
  refine mm_getf X dX8_copyFrom_34 (gX8 hb2 hj2) iX8_copyFrom_X8 rfl 4 (by decide) kX8_copyFrom_25 rfl ?_
  refine mm_put X dX8_copyFrom_37 (gX8 hb hj) iX8_copyFrom_X8 rfl tyX8 tyX8_ok nmX8 4 (by decide) kX8_copyFrom_25 rfl rfl rfl (Nat.le_of_ble_eq_true rfl) rfl ?_
  refine tv_vret X hrt dX8_copyFrom_40 ⟨_, rfl, ?_⟩
  simp only [mupd, mset_mset, mset_s, mset_n (Ne.symm hne)]
end C14

