section C17
variable {l : Launch} {D : va_G} {n0 : Nat} {ft : tv_ft} {n : Nat} {S : mS} {b : Nat}
theorem iX4_takeBaselines_X4 : ∀ w ∈ wsX40, w ∈ wsX4_takeBaselines := by decide +kernel
theorem kX4_takeBaselines_9 : Cond.fieldLink RX4 9 (TX4 0).1 (TX4 0).2.1 (TX4 0).2.2.1 ∈ wsX4_takeBaselines := by decide +kernel
theorem kX4_takeBaselines_15 : Cond.fieldLink RX4 15 (TX4 1).1 (TX4 1).2.1 (TX4 1).2.2.1 ∈ wsX4_takeBaselines := by decide +kernel
theorem cX4_takeBaselines_ok (hb : mst b = true) : mMi l yX4_takeBaselines wsX4_takeBaselines rmX4_takeBaselines D n0 ft [.ref (n0 + (b + 1))] n S (fun r S' => S' = mset S (b + 3) (fun k => if k < 48 then S.1 (b + 2) k else S.1 (b + 3) k) ∧ r = cntI (fun k => decide (S.1 (b + 3) k ≠ S.1 (b + 2) k)) 48) := by
  refine tv_enter (cc := cX4_takeBaselines) (maxL := 3) (ret := (some .int)) (by decide) rfl (Nat.le_of_ble_eq_true rfl) ?_
  intro p e s m args below meth c X hrt hnm hargs
  refine tv_iconst (v := 0) X dX4_takeBaselines_0 (by decide) ?_
  refine tv_istore_n X dX4_takeBaselines_1 rfl ?_
  refine tv_iconst (v := 0) X dX4_takeBaselines_2 (by decide) ?_
  refine tv_istore_n X dX4_takeBaselines_3 rfl ?_
  refine mm_st (S' := mset S (b + 3) (fun k => if k < 0 then S.1 (b + 2) k else S.1 (b + 3) k)) ?_ ?_
  · exact (mset_self (S := S) (k := b + 3)).symm.trans (congrArg (mset S (b + 3)) (funext fun k => by simp))
  refine mm_for 48 (fun i => [(0, .ref (n0 + (b + 1))), (1, .int (cntI (fun k => decide (S.1 (b + 3) k ≠ S.1 (b + 2) k)) i)), (2, .int (nI i))]) (fun i => mset S (b + 3) (fun k => if k < i then S.1 (b + 2) k else S.1 (b + 3) k)) ?_ ?_
  · intro i hi ih
    refine tv_iload_n X dX4_takeBaselines_4 rfl ?_
    refine tv_bipush (v := 48) X dX4_takeBaselines_5 (by decide) ?_
    refine tv_icmp_ge (tgt := 46) X dX4_takeBaselines_7 (by decide) (fun h1 => ?_) (fun h1 => ?_)
    · exact absurd h1 (nI_ge (a := i) (b := 48) hi (by decide))
    · generalize hT0 : mset S (b + 3) (fun k => if k < i then S.1 (b + 2) k else S.1 (b + 3) k) = S1
      have e3 : S1.1 (b + 3) i = S.1 (b + 3) i := by
        rw [← hT0, mset_s]
        exact if_neg (Nat.lt_irrefl i)
      have e2 : S1.1 (b + 2) = S.1 (b + 2) := by
        rw [← hT0, mset_n (by omega)]
      have hT : mset S (b + 3) (fun k => if k < i + 1 then S.1 (b + 2) k else S.1 (b + 3) k) = mupd S1 (b + 3) i (S.1 (b + 2) i) := by
        rw [← hT0]
        show _ = mset (mset _ _ _) _ (upd ((mset _ _ _).1 _) _ _)
        rw [mset_mset, mset_s]
        refine congrArg (mset S (b + 3)) (funext fun k => ?_)
        unfold upd
        by_cases e1 : k = i
        · subst e1; simp
        · simp only [e1, if_false]
          by_cases e2 : k < i
          · simp [e2, Nat.lt_succ_of_lt e2]
          · simp [e2, show ¬ k < i + 1 by omega]
      dsimp only at ih
      rw [hT] at ih
      refine tv_aload_n X dX4_takeBaselines_10 rfl ?_
      refine mm_getf X dX4_takeBaselines_11 (gX4 hb) iX4_takeBaselines_X4 rfl 1 (by decide) kX4_takeBaselines_15 rfl ?_
      refine tv_iload_n X dX4_takeBaselines_14 rfl ?_
      refine mm_iald X dX4_takeBaselines_15 (gBas hb) _ rfl (by omega) (by decide) ?_
      refine tv_aload_n X dX4_takeBaselines_16 rfl ?_
      refine mm_getf X dX4_takeBaselines_17 (gX4 hb) iX4_takeBaselines_X4 rfl 0 (by decide) kX4_takeBaselines_9 rfl ?_
      refine tv_iload_n X dX4_takeBaselines_20 rfl ?_
      refine mm_iald X dX4_takeBaselines_21 (gRaw hb) _ rfl (by omega) (by decide) ?_
      rw [e3, e2]
      refine tv_icmp_eq (tgt := 28) X dX4_takeBaselines_22 (by decide) (fun h2 => ?_) (fun h2 => ?_)
      · have hc2 : cntI (fun k => decide (S.1 (b + 3) k ≠ S.1 (b + 2) k)) (i + 1) = cntI (fun k => decide (S.1 (b + 3) k ≠ S.1 (b + 2) k)) i := by simp [cntI, h2]
        rw [hc2] at ih
        refine tv_aload_n X dX4_takeBaselines_28 rfl ?_
        refine mm_getf X dX4_takeBaselines_29 (gX4 hb) iX4_takeBaselines_X4 rfl 1 (by decide) kX4_takeBaselines_15 rfl ?_
        refine tv_iload_n X dX4_takeBaselines_32 rfl ?_
        refine tv_aload_n X dX4_takeBaselines_33 rfl ?_
        refine mm_getf X dX4_takeBaselines_34 (gX4 hb) iX4_takeBaselines_X4 rfl 0 (by decide) kX4_takeBaselines_9 rfl ?_
        refine tv_iload_n X dX4_takeBaselines_37 rfl ?_
        refine mm_iald X dX4_takeBaselines_38 (gRaw hb) i rfl hi (by decide) ?_
        rw [e2]
        refine mm_iast X dX4_takeBaselines_39 (gBas hb) i rfl hi (by decide) ?_
        refine tv_iinc X dX4_takeBaselines_40 rfl (nI_1 i) rfl ?_
        refine tv_goto (tgt := 4) X dX4_takeBaselines_43 (by decide) ?_
        exact ih
      · have hc2 : cntI (fun k => decide (S.1 (b + 3) k ≠ S.1 (b + 2) k)) (i + 1) = cntI (fun k => decide (S.1 (b + 3) k ≠ S.1 (b + 2) k)) i + 1 := by simp [cntI, h2]
        rw [hc2] at ih
        refine tv_iinc X dX4_takeBaselines_25 rfl rfl rfl ?_
        refine tv_aload_n X dX4_takeBaselines_28 rfl ?_
        refine mm_getf X dX4_takeBaselines_29 (gX4 hb) iX4_takeBaselines_X4 rfl 1 (by decide) kX4_takeBaselines_15 rfl ?_
        refine tv_iload_n X dX4_takeBaselines_32 rfl ?_
        refine tv_aload_n X dX4_takeBaselines_33 rfl ?_
        refine mm_getf X dX4_takeBaselines_34 (gX4 hb) iX4_takeBaselines_X4 rfl 0 (by decide) kX4_takeBaselines_9 rfl ?_
        refine tv_iload_n X dX4_takeBaselines_37 rfl ?_
        refine mm_iald X dX4_takeBaselines_38 (gRaw hb) i rfl hi (by decide) ?_
        rw [e2]
        refine mm_iast X dX4_takeBaselines_39 (gBas hb) i rfl hi (by decide) ?_
        refine tv_iinc X dX4_takeBaselines_40 rfl (nI_1 i) rfl ?_
        refine tv_goto (tgt := 4) X dX4_takeBaselines_43 (by decide) ?_
        exact ih
  · refine tv_iload_n X dX4_takeBaselines_4 rfl ?_
    refine tv_bipush (v := 48) X dX4_takeBaselines_5 (by decide) ?_
    refine tv_icmp_ge (tgt := 46) X dX4_takeBaselines_7 (by decide) (fun h1 => ?_) (fun h1 => ?_)
    · refine tv_iload_n X dX4_takeBaselines_46 rfl ?_
      exact tv_iret X hrt dX4_takeBaselines_47 ⟨_, rfl, rfl, rfl⟩
    · exact absurd (nI_le (Nat.le_refl 48) (by decide)) h1
theorem iX4_copyFrom_X4 : ∀ w ∈ wsX40, w ∈ wsX4_copyFrom := by decide +kernel
theorem kX4_copyFrom_9 : Cond.fieldLink RX4 9 (TX4 0).1 (TX4 0).2.1 (TX4 0).2.2.1 ∈ wsX4_copyFrom := by decide +kernel
theorem kX4_copyFrom_15 : Cond.fieldLink RX4 15 (TX4 1).1 (TX4 1).2.1 (TX4 1).2.2.1 ∈ wsX4_copyFrom := by decide +kernel
theorem aX4_copyFrom_38 : Cond.methodLink RX4 38 arraycopyName ∈ wsX4_copyFrom ∧ Cond.native arraycopyName ∈ wsX4_copyFrom ∧ Cond.static arraycopyName ∈ wsX4_copyFrom ∧ Cond.initialized "java/lang/System" ∈ wsX4_copyFrom := ⟨by decide +kernel, by decide +kernel, by decide +kernel, by decide +kernel⟩
theorem cX4_copyFrom_ok (hb : mst b = true) {b2 : Nat} (hb2 : mst b2 = true) (hne : b ≠ b2) : mMv l yX4_copyFrom wsX4_copyFrom rmX4_copyFrom D n0 ft [.ref (n0 + (b + 1)), .ref (n0 + (b2 + 1))] n S (fun S' => S' = mset (mset S (b + 2) (fun k => if k < 48 then S.1 (b2 + 2) k else S.1 (b + 2) k)) (b + 3) (fun k => if k < 48 then S.1 (b2 + 3) k else S.1 (b + 3) k)) := by
  have h1 := mst_cases hb
  have h2 := mst_cases hb2
  refine tv_enter (cc := cX4_copyFrom) (maxL := 2) (ret := none) (by decide) rfl (Nat.le_of_ble_eq_true rfl) ?_
  intro p e s m args below meth c X hrt hnm hargs
  refine tv_aload_n X dX4_copyFrom_0 rfl ?_
  refine mm_getf X dX4_copyFrom_1 (gX4 hb2) iX4_copyFrom_X4 rfl 0 (by decide) kX4_copyFrom_9 rfl ?_
  refine tv_iconst (v := 0) X dX4_copyFrom_4 (by decide) ?_
  refine tv_aload_n X dX4_copyFrom_5 rfl ?_
  refine mm_getf X dX4_copyFrom_6 (gX4 hb) iX4_copyFrom_X4 rfl 0 (by decide) kX4_copyFrom_9 rfl ?_
  refine tv_iconst (v := 0) X dX4_copyFrom_9 (by decide) ?_
  refine tv_bipush (v := 48) X dX4_copyFrom_10 (by decide) ?_
  refine mm_copyi X dX4_copyFrom_12 aX4_copyFrom_38.1 aX4_copyFrom_38.2.1 aX4_copyFrom_38.2.2.1 aX4_copyFrom_38.2.2.2 (gRaw hb2) (gRaw hb) (by decide) (by decide) ⟨Nat.le_of_ble_eq_true rfl, Nat.le_of_ble_eq_true rfl⟩ ?_
  refine tv_aload_n X dX4_copyFrom_15 rfl ?_
  refine mm_getf X dX4_copyFrom_16 (gX4 hb2) iX4_copyFrom_X4 rfl 1 (by decide) kX4_copyFrom_15 rfl ?_
  refine tv_iconst (v := 0) X dX4_copyFrom_19 (by decide) ?_
  refine tv_aload_n X dX4_copyFrom_20 rfl ?_
  refine mm_getf X dX4_copyFrom_21 (gX4 hb) iX4_copyFrom_X4 rfl 1 (by decide) kX4_copyFrom_15 rfl ?_
  refine tv_iconst (v := 0) X dX4_copyFrom_24 (by decide) ?_
  refine tv_bipush (v := 48) X dX4_copyFrom_25 (by decide) ?_
  refine mm_copyi X dX4_copyFrom_27 aX4_copyFrom_38.1 aX4_copyFrom_38.2.1 aX4_copyFrom_38.2.2.1 aX4_copyFrom_38.2.2.2 (gBas hb2) (gBas hb) (by decide) (by decide) ⟨Nat.le_of_ble_eq_true rfl, Nat.le_of_ble_eq_true rfl⟩ ?_
  refine tv_vret X hrt dX4_copyFrom_30 ⟨_, rfl, ?_⟩
  rw [mset_n (q := b2 + 3) (k := b + 2) (by omega), mset_n (q := b + 3) (k := b + 2) (by omega)]
/-- the raw values when the cell at row i, column j is pressed -/
noncomputable def prs3 (row : Nat → Int32) (x y d f : Int32) : Nat → Int32 := rai (rai (rai row (x + d) (y + (-1)) (f >>> ((d * d + (-1) * (-1)) &&& 31))) (x + d) (y + 0) (f >>> ((d * d + 0 * 0) &&& 31))) (x + d) (y + 1) (f >>> ((d * d + 1 * 1) &&& 31))
noncomputable def prs9 (row : Nat → Int32) (x y f : Int32) : Nat → Int32 := prs3 (prs3 (prs3 row x y (-1) f) x y 0 f) x y 1 f
set_option maxHeartbeats 4000000 in
theorem cX4_pressAt_ok (hb : mst b = true) (x y f : Int32) : mMv l yX4_pressAt wsX4_pressAt rmX4_pressAt D n0 ft [.ref (n0 + (b + 1)), .int x, .int y, .int f] n S (fun S' => S' = mset S (b + 2) (prs9 (S.1 (b + 2)) x y f)) := by
  refine tv_enter (cc := cX4_pressAt) (maxL := 6) (ret := none) (by decide) rfl (Nat.le_of_ble_eq_true rfl) ?_
  intro p e s m args below meth c X hrt hnm hargs
  refine tv_iconst (v := -1) X dX4_pressAt_0 (by decide) ?_
  refine tv_istore X dX4_pressAt_1 rfl ?_
  refine tv_iload X dX4_pressAt_3 rfl ?_
  refine tv_iconst (v := 1) X dX4_pressAt_5 (by decide) ?_
  refine tv_icmp_gt (tgt := 55) X dX4_pressAt_6 (by decide) (fun h1 => ?_) (fun h1 => ?_)
  · exact absurd h1 (by decide)
  refine tv_iconst (v := -1) X dX4_pressAt_9 (by decide) ?_
  refine tv_istore X dX4_pressAt_10 rfl ?_
  refine mm_L (L' := [(0, .ref (n0 + (b + 1))), (1, .int x), (2, .int y), (3, .int f), (4, .int (-1)), (5, .int (-1))]) rfl ?_
  refine tv_iload X dX4_pressAt_12 rfl ?_
  refine tv_iconst (v := 1) X dX4_pressAt_14 (by decide) ?_
  refine tv_icmp_gt (tgt := 49) X dX4_pressAt_15 (by decide) (fun h2 => ?_) (fun h2 => ?_)
  · exact absurd h2 (by decide)
  refine tv_aload_n X dX4_pressAt_18 rfl ?_
  refine tv_iload_n X dX4_pressAt_19 rfl ?_
  refine tv_iload X dX4_pressAt_20 rfl ?_
  refine tv_iadd X dX4_pressAt_22 ?_
  refine tv_iload_n X dX4_pressAt_23 rfl ?_
  refine tv_iload X dX4_pressAt_24 rfl ?_
  refine tv_iadd X dX4_pressAt_26 ?_
  refine tv_iload_n X dX4_pressAt_27 rfl ?_
  refine tv_iload X dX4_pressAt_28 rfl ?_
  refine tv_iload X dX4_pressAt_30 rfl ?_
  refine tv_imul X dX4_pressAt_32 ?_
  refine tv_iload X dX4_pressAt_33 rfl ?_
  refine tv_iload X dX4_pressAt_35 rfl ?_
  refine tv_imul X dX4_pressAt_37 ?_
  refine tv_iadd X dX4_pressAt_38 ?_
  refine tv_ishr X dX4_pressAt_39 ?_
  refine mm_callVv (q := (RX4, TX4, 2)) X dX4_pressAt_40 (cX4_raise_ok hb _ _ _) (cwV 3 X.2.2.2.2.1 gX4_pressAt_X4_raise rfl rfl rfl (by decide +kernel) ⟨Nat.le_of_ble_eq_true rfl, Nat.le_of_ble_eq_true rfl⟩) rfl rfl (gX4 hb) rfl (Nat.le_of_ble_eq_true rfl) ⟨Nat.zero_le _, Nat.zero_le _⟩ (fun S1 hq => ?_)
  rw [hq]
  clear hq S1
  refine tv_iinc X dX4_pressAt_43 rfl (show (-1 : Int32) + Int32.ofInt 1 = 0 by decide) rfl ?_
  refine tv_goto (tgt := 12) X dX4_pressAt_46 (by decide) ?_
  refine mm_L (L' := [(0, .ref (n0 + (b + 1))), (1, .int x), (2, .int y), (3, .int f), (4, .int (-1)), (5, .int (0))]) rfl ?_
  refine tv_iload X dX4_pressAt_12 rfl ?_
  refine tv_iconst (v := 1) X dX4_pressAt_14 (by decide) ?_
  refine tv_icmp_gt (tgt := 49) X dX4_pressAt_15 (by decide) (fun h2 => ?_) (fun h2 => ?_)
  · exact absurd h2 (by decide)
  refine tv_aload_n X dX4_pressAt_18 rfl ?_
  refine tv_iload_n X dX4_pressAt_19 rfl ?_
  refine tv_iload X dX4_pressAt_20 rfl ?_
  refine tv_iadd X dX4_pressAt_22 ?_
  refine tv_iload_n X dX4_pressAt_23 rfl ?_
  refine tv_iload X dX4_pressAt_24 rfl ?_
  refine tv_iadd X dX4_pressAt_26 ?_
  refine tv_iload_n X dX4_pressAt_27 rfl ?_
  refine tv_iload X dX4_pressAt_28 rfl ?_
  refine tv_iload X dX4_pressAt_30 rfl ?_
  refine tv_imul X dX4_pressAt_32 ?_
  refine tv_iload X dX4_pressAt_33 rfl ?_
  refine tv_iload X dX4_pressAt_35 rfl ?_
  refine tv_imul X dX4_pressAt_37 ?_
  refine tv_iadd X dX4_pressAt_38 ?_
  refine tv_ishr X dX4_pressAt_39 ?_
  refine mm_callVv (q := (RX4, TX4, 2)) X dX4_pressAt_40 (cX4_raise_ok hb _ _ _) (cwV 3 X.2.2.2.2.1 gX4_pressAt_X4_raise rfl rfl rfl (by decide +kernel) ⟨Nat.le_of_ble_eq_true rfl, Nat.le_of_ble_eq_true rfl⟩) rfl rfl (gX4 hb) rfl (Nat.le_of_ble_eq_true rfl) ⟨Nat.zero_le _, Nat.zero_le _⟩ (fun S1 hq => ?_)
  rw [hq, mset_s, mset_mset]
  clear hq S1
  refine tv_iinc X dX4_pressAt_43 rfl (show (0 : Int32) + Int32.ofInt 1 = 1 by decide) rfl ?_
  refine tv_goto (tgt := 12) X dX4_pressAt_46 (by decide) ?_
  refine mm_L (L' := [(0, .ref (n0 + (b + 1))), (1, .int x), (2, .int y), (3, .int f), (4, .int (-1)), (5, .int (1))]) rfl ?_
  refine tv_iload X dX4_pressAt_12 rfl ?_
  refine tv_iconst (v := 1) X dX4_pressAt_14 (by decide) ?_
  refine tv_icmp_gt (tgt := 49) X dX4_pressAt_15 (by decide) (fun h2 => ?_) (fun h2 => ?_)
  · exact absurd h2 (by decide)
  refine tv_aload_n X dX4_pressAt_18 rfl ?_
  refine tv_iload_n X dX4_pressAt_19 rfl ?_
  refine tv_iload X dX4_pressAt_20 rfl ?_
  refine tv_iadd X dX4_pressAt_22 ?_
  refine tv_iload_n X dX4_pressAt_23 rfl ?_
  refine tv_iload X dX4_pressAt_24 rfl ?_
  refine tv_iadd X dX4_pressAt_26 ?_
  refine tv_iload_n X dX4_pressAt_27 rfl ?_
  refine tv_iload X dX4_pressAt_28 rfl ?_
  refine tv_iload X dX4_pressAt_30 rfl ?_
  refine tv_imul X dX4_pressAt_32 ?_
  refine tv_iload X dX4_pressAt_33 rfl ?_
  refine tv_iload X dX4_pressAt_35 rfl ?_
  refine tv_imul X dX4_pressAt_37 ?_
  refine tv_iadd X dX4_pressAt_38 ?_
  refine tv_ishr X dX4_pressAt_39 ?_
  refine mm_callVv (q := (RX4, TX4, 2)) X dX4_pressAt_40 (cX4_raise_ok hb _ _ _) (cwV 3 X.2.2.2.2.1 gX4_pressAt_X4_raise rfl rfl rfl (by decide +kernel) ⟨Nat.le_of_ble_eq_true rfl, Nat.le_of_ble_eq_true rfl⟩) rfl rfl (gX4 hb) rfl (Nat.le_of_ble_eq_true rfl) ⟨Nat.zero_le _, Nat.zero_le _⟩ (fun S1 hq => ?_)
  rw [hq, mset_s, mset_mset]
  clear hq S1
  refine tv_iinc X dX4_pressAt_43 rfl (show (1 : Int32) + Int32.ofInt 1 = 2 by decide) rfl ?_
  refine tv_goto (tgt := 12) X dX4_pressAt_46 (by decide) ?_
  refine mm_L (L' := [(0, .ref (n0 + (b + 1))), (1, .int x), (2, .int y), (3, .int f), (4, .int (-1)), (5, .int (2))]) rfl ?_
  refine tv_iload X dX4_pressAt_12 rfl ?_
  refine tv_iconst (v := 1) X dX4_pressAt_14 (by decide) ?_
  refine tv_icmp_gt (tgt := 49) X dX4_pressAt_15 (by decide) (fun h3 => ?_) (fun h3 => ?_)
  rotate_left
  · exact absurd (by decide) h3
  refine tv_iinc X dX4_pressAt_49 rfl (show (-1 : Int32) + Int32.ofInt 1 = 0 by decide) rfl ?_
  refine tv_goto (tgt := 3) X dX4_pressAt_52 (by decide) ?_
  refine mm_L (L' := [(0, .ref (n0 + (b + 1))), (1, .int x), (2, .int y), (3, .int f), (4, .int (0)), (5, .int 2)]) rfl ?_
  refine tv_iload X dX4_pressAt_3 rfl ?_
  refine tv_iconst (v := 1) X dX4_pressAt_5 (by decide) ?_
  refine tv_icmp_gt (tgt := 55) X dX4_pressAt_6 (by decide) (fun h1 => ?_) (fun h1 => ?_)
  · exact absurd h1 (by decide)
  refine tv_iconst (v := -1) X dX4_pressAt_9 (by decide) ?_
  refine tv_istore X dX4_pressAt_10 rfl ?_
  refine mm_L (L' := [(0, .ref (n0 + (b + 1))), (1, .int x), (2, .int y), (3, .int f), (4, .int (0)), (5, .int (-1))]) rfl ?_
  refine tv_iload X dX4_pressAt_12 rfl ?_
  refine tv_iconst (v := 1) X dX4_pressAt_14 (by decide) ?_
  refine tv_icmp_gt (tgt := 49) X dX4_pressAt_15 (by decide) (fun h2 => ?_) (fun h2 => ?_)
  · exact absurd h2 (by decide)
  refine tv_aload_n X dX4_pressAt_18 rfl ?_
  refine tv_iload_n X dX4_pressAt_19 rfl ?_
  refine tv_iload X dX4_pressAt_20 rfl ?_
  refine tv_iadd X dX4_pressAt_22 ?_
  refine tv_iload_n X dX4_pressAt_23 rfl ?_
  refine tv_iload X dX4_pressAt_24 rfl ?_
  refine tv_iadd X dX4_pressAt_26 ?_
  refine tv_iload_n X dX4_pressAt_27 rfl ?_
  refine tv_iload X dX4_pressAt_28 rfl ?_
  refine tv_iload X dX4_pressAt_30 rfl ?_
  refine tv_imul X dX4_pressAt_32 ?_
  refine tv_iload X dX4_pressAt_33 rfl ?_
  refine tv_iload X dX4_pressAt_35 rfl ?_
  refine tv_imul X dX4_pressAt_37 ?_
  refine tv_iadd X dX4_pressAt_38 ?_
  refine tv_ishr X dX4_pressAt_39 ?_
  refine mm_callVv (q := (RX4, TX4, 2)) X dX4_pressAt_40 (cX4_raise_ok hb _ _ _) (cwV 3 X.2.2.2.2.1 gX4_pressAt_X4_raise rfl rfl rfl (by decide +kernel) ⟨Nat.le_of_ble_eq_true rfl, Nat.le_of_ble_eq_true rfl⟩) rfl rfl (gX4 hb) rfl (Nat.le_of_ble_eq_true rfl) ⟨Nat.zero_le _, Nat.zero_le _⟩ (fun S1 hq => ?_)
  rw [hq, mset_s, mset_mset]
  clear hq S1
  refine tv_iinc X dX4_pressAt_43 rfl (show (-1 : Int32) + Int32.ofInt 1 = 0 by decide) rfl ?_
  refine tv_goto (tgt := 12) X dX4_pressAt_46 (by decide) ?_
  refine mm_L (L' := [(0, .ref (n0 + (b + 1))), (1, .int x), (2, .int y), (3, .int f), (4, .int (0)), (5, .int (0))]) rfl ?_
  refine tv_iload X dX4_pressAt_12 rfl ?_
  refine tv_iconst (v := 1) X dX4_pressAt_14 (by decide) ?_
  refine tv_icmp_gt (tgt := 49) X dX4_pressAt_15 (by decide) (fun h2 => ?_) (fun h2 => ?_)
  · exact absurd h2 (by decide)
  refine tv_aload_n X dX4_pressAt_18 rfl ?_
  refine tv_iload_n X dX4_pressAt_19 rfl ?_
  refine tv_iload X dX4_pressAt_20 rfl ?_
  refine tv_iadd X dX4_pressAt_22 ?_
  refine tv_iload_n X dX4_pressAt_23 rfl ?_
  refine tv_iload X dX4_pressAt_24 rfl ?_
  refine tv_iadd X dX4_pressAt_26 ?_
  refine tv_iload_n X dX4_pressAt_27 rfl ?_
  refine tv_iload X dX4_pressAt_28 rfl ?_
  refine tv_iload X dX4_pressAt_30 rfl ?_
  refine tv_imul X dX4_pressAt_32 ?_
  refine tv_iload X dX4_pressAt_33 rfl ?_
  refine tv_iload X dX4_pressAt_35 rfl ?_
  refine tv_imul X dX4_pressAt_37 ?_
  refine tv_iadd X dX4_pressAt_38 ?_
  refine tv_ishr X dX4_pressAt_39 ?_
  refine mm_callVv (q := (RX4, TX4, 2)) X dX4_pressAt_40 (cX4_raise_ok hb _ _ _) (cwV 3 X.2.2.2.2.1 gX4_pressAt_X4_raise rfl rfl rfl (by decide +kernel) ⟨Nat.le_of_ble_eq_true rfl, Nat.le_of_ble_eq_true rfl⟩) rfl rfl (gX4 hb) rfl (Nat.le_of_ble_eq_true rfl) ⟨Nat.zero_le _, Nat.zero_le _⟩ (fun S1 hq => ?_)
  rw [hq, mset_s, mset_mset]
  clear hq S1
  refine tv_iinc X dX4_pressAt_43 rfl (show (0 : Int32) + Int32.ofInt 1 = 1 by decide) rfl ?_
  refine tv_goto (tgt := 12) X dX4_pressAt_46 (by decide) ?_
  refine mm_L (L' := [(0, .ref (n0 + (b + 1))), (1, .int x), (2, .int y), (3, .int f), (4, .int (0)), (5, .int (1))]) rfl ?_
  refine tv_iload X dX4_pressAt_12 rfl ?_
  refine tv_iconst (v := 1) X dX4_pressAt_14 (by decide) ?_
  refine tv_icmp_gt (tgt := 49) X dX4_pressAt_15 (by decide) (fun h2 => ?_) (fun h2 => ?_)
  · exact absurd h2 (by decide)
  refine tv_aload_n X dX4_pressAt_18 rfl ?_
  refine tv_iload_n X dX4_pressAt_19 rfl ?_
  refine tv_iload X dX4_pressAt_20 rfl ?_
  refine tv_iadd X dX4_pressAt_22 ?_
  refine tv_iload_n X dX4_pressAt_23 rfl ?_
  refine tv_iload X dX4_pressAt_24 rfl ?_
  refine tv_iadd X dX4_pressAt_26 ?_
  refine tv_iload_n X dX4_pressAt_27 rfl ?_
  refine tv_iload X dX4_pressAt_28 rfl ?_
  refine tv_iload X dX4_pressAt_30 rfl ?_
  refine tv_imul X dX4_pressAt_32 ?_
  refine tv_iload X dX4_pressAt_33 rfl ?_
  refine tv_iload X dX4_pressAt_35 rfl ?_
  refine tv_imul X dX4_pressAt_37 ?_
  refine tv_iadd X dX4_pressAt_38 ?_
  refine tv_ishr X dX4_pressAt_39 ?_
  refine mm_callVv (q := (RX4, TX4, 2)) X dX4_pressAt_40 (cX4_raise_ok hb _ _ _) (cwV 3 X.2.2.2.2.1 gX4_pressAt_X4_raise rfl rfl rfl (by decide +kernel) ⟨Nat.le_of_ble_eq_true rfl, Nat.le_of_ble_eq_true rfl⟩) rfl rfl (gX4 hb) rfl (Nat.le_of_ble_eq_true rfl) ⟨Nat.zero_le _, Nat.zero_le _⟩ (fun S1 hq => ?_)
  rw [hq, mset_s, mset_mset]
  clear hq S1
  refine tv_iinc X dX4_pressAt_43 rfl (show (1 : Int32) + Int32.ofInt 1 = 2 by decide) rfl ?_
  refine tv_goto (tgt := 12) X dX4_pressAt_46 (by decide) ?_
  refine mm_L (L' := [(0, .ref (n0 + (b + 1))), (1, .int x), (2, .int y), (3, .int f), (4, .int (0)), (5, .int (2))]) rfl ?_
  refine tv_iload X dX4_pressAt_12 rfl ?_
  refine tv_iconst (v := 1) X dX4_pressAt_14 (by decide) ?_
  refine tv_icmp_gt (tgt := 49) X dX4_pressAt_15 (by decide) (fun h3 => ?_) (fun h3 => ?_)
  rotate_left
  · exact absurd (by decide) h3
  refine tv_iinc X dX4_pressAt_49 rfl (show (0 : Int32) + Int32.ofInt 1 = 1 by decide) rfl ?_
  refine tv_goto (tgt := 3) X dX4_pressAt_52 (by decide) ?_
  refine mm_L (L' := [(0, .ref (n0 + (b + 1))), (1, .int x), (2, .int y), (3, .int f), (4, .int (1)), (5, .int 2)]) rfl ?_
  refine tv_iload X dX4_pressAt_3 rfl ?_
  refine tv_iconst (v := 1) X dX4_pressAt_5 (by decide) ?_
  refine tv_icmp_gt (tgt := 55) X dX4_pressAt_6 (by decide) (fun h1 => ?_) (fun h1 => ?_)
  · exact absurd h1 (by decide)
  refine tv_iconst (v := -1) X dX4_pressAt_9 (by decide) ?_
  refine tv_istore X dX4_pressAt_10 rfl ?_
  refine mm_L (L' := [(0, .ref (n0 + (b + 1))), (1, .int x), (2, .int y), (3, .int f), (4, .int (1)), (5, .int (-1))]) rfl ?_
  refine tv_iload X dX4_pressAt_12 rfl ?_
  refine tv_iconst (v := 1) X dX4_pressAt_14 (by decide) ?_
  refine tv_icmp_gt (tgt := 49) X dX4_pressAt_15 (by decide) (fun h2 => ?_) (fun h2 => ?_)
  · exact absurd h2 (by decide)
  refine tv_aload_n X dX4_pressAt_18 rfl ?_
  refine tv_iload_n X dX4_pressAt_19 rfl ?_
  refine tv_iload X dX4_pressAt_20 rfl ?_
  refine tv_iadd X dX4_pressAt_22 ?_
  refine tv_iload_n X dX4_pressAt_23 rfl ?_
  refine tv_iload X dX4_pressAt_24 rfl ?_
  refine tv_iadd X dX4_pressAt_26 ?_
  refine tv_iload_n X dX4_pressAt_27 rfl ?_
  refine tv_iload X dX4_pressAt_28 rfl ?_
  refine tv_iload X dX4_pressAt_30 rfl ?_
  refine tv_imul X dX4_pressAt_32 ?_
  refine tv_iload X dX4_pressAt_33 rfl ?_
  refine tv_iload X dX4_pressAt_35 rfl ?_
  refine tv_imul X dX4_pressAt_37 ?_
  refine tv_iadd X dX4_pressAt_38 ?_
  refine tv_ishr X dX4_pressAt_39 ?_
  refine mm_callVv (q := (RX4, TX4, 2)) X dX4_pressAt_40 (cX4_raise_ok hb _ _ _) (cwV 3 X.2.2.2.2.1 gX4_pressAt_X4_raise rfl rfl rfl (by decide +kernel) ⟨Nat.le_of_ble_eq_true rfl, Nat.le_of_ble_eq_true rfl⟩) rfl rfl (gX4 hb) rfl (Nat.le_of_ble_eq_true rfl) ⟨Nat.zero_le _, Nat.zero_le _⟩ (fun S1 hq => ?_)
  rw [hq, mset_s, mset_mset]
  clear hq S1
  refine tv_iinc X dX4_pressAt_43 rfl (show (-1 : Int32) + Int32.ofInt 1 = 0 by decide) rfl ?_
  refine tv_goto (tgt := 12) X dX4_pressAt_46 (by decide) ?_
  refine mm_L (L' := [(0, .ref (n0 + (b + 1))), (1, .int x), (2, .int y), (3, .int f), (4, .int (1)), (5, .int (0))]) rfl ?_
  refine tv_iload X dX4_pressAt_12 rfl ?_
  refine tv_iconst (v := 1) X dX4_pressAt_14 (by decide) ?_
  refine tv_icmp_gt (tgt := 49) X dX4_pressAt_15 (by decide) (fun h2 => ?_) (fun h2 => ?_)
  · exact absurd h2 (by decide)
  refine tv_aload_n X dX4_pressAt_18 rfl ?_
  refine tv_iload_n X dX4_pressAt_19 rfl ?_
  refine tv_iload X dX4_pressAt_20 rfl ?_
  refine tv_iadd X dX4_pressAt_22 ?_
  refine tv_iload_n X dX4_pressAt_23 rfl ?_
  refine tv_iload X dX4_pressAt_24 rfl ?_
  refine tv_iadd X dX4_pressAt_26 ?_
  refine tv_iload_n X dX4_pressAt_27 rfl ?_
  refine tv_iload X dX4_pressAt_28 rfl ?_
  refine tv_iload X dX4_pressAt_30 rfl ?_
  refine tv_imul X dX4_pressAt_32 ?_
  refine tv_iload X dX4_pressAt_33 rfl ?_
  refine tv_iload X dX4_pressAt_35 rfl ?_
  refine tv_imul X dX4_pressAt_37 ?_
  refine tv_iadd X dX4_pressAt_38 ?_
  refine tv_ishr X dX4_pressAt_39 ?_
  refine mm_callVv (q := (RX4, TX4, 2)) X dX4_pressAt_40 (cX4_raise_ok hb _ _ _) (cwV 3 X.2.2.2.2.1 gX4_pressAt_X4_raise rfl rfl rfl (by decide +kernel) ⟨Nat.le_of_ble_eq_true rfl, Nat.le_of_ble_eq_true rfl⟩) rfl rfl (gX4 hb) rfl (Nat.le_of_ble_eq_true rfl) ⟨Nat.zero_le _, Nat.zero_le _⟩ (fun S1 hq => ?_)
  rw [hq, mset_s, mset_mset]
  clear hq S1
  refine tv_iinc X dX4_pressAt_43 rfl (show (0 : Int32) + Int32.ofInt 1 = 1 by decide) rfl ?_
  refine tv_goto (tgt := 12) X dX4_pressAt_46 (by decide) ?_
  refine mm_L (L' := [(0, .ref (n0 + (b + 1))), (1, .int x), (2, .int y), (3, .int f), (4, .int (1)), (5, .int (1))]) rfl ?_
  refine tv_iload X dX4_pressAt_12 rfl ?_
  refine tv_iconst (v := 1) X dX4_pressAt_14 (by decide) ?_
  refine tv_icmp_gt (tgt := 49) X dX4_pressAt_15 (by decide) (fun h2 => ?_) (fun h2 => ?_)
  · exact absurd h2 (by decide)
  refine tv_aload_n X dX4_pressAt_18 rfl ?_
  refine tv_iload_n X dX4_pressAt_19 rfl ?_
  refine tv_iload X dX4_pressAt_20 rfl ?_
  refine tv_iadd X dX4_pressAt_22 ?_
  refine tv_iload_n X dX4_pressAt_23 rfl ?_
  refine tv_iload X dX4_pressAt_24 rfl ?_
  refine tv_iadd X dX4_pressAt_26 ?_
  refine tv_iload_n X dX4_pressAt_27 rfl ?_
  refine tv_iload X dX4_pressAt_28 rfl ?_
  refine tv_iload X dX4_pressAt_30 rfl ?_
  refine tv_imul X dX4_pressAt_32 ?_
  refine tv_iload X dX4_pressAt_33 rfl ?_
  refine tv_iload X dX4_pressAt_35 rfl ?_
  refine tv_imul X dX4_pressAt_37 ?_
  refine tv_iadd X dX4_pressAt_38 ?_
  refine tv_ishr X dX4_pressAt_39 ?_
  refine mm_callVv (q := (RX4, TX4, 2)) X dX4_pressAt_40 (cX4_raise_ok hb _ _ _) (cwV 3 X.2.2.2.2.1 gX4_pressAt_X4_raise rfl rfl rfl (by decide +kernel) ⟨Nat.le_of_ble_eq_true rfl, Nat.le_of_ble_eq_true rfl⟩) rfl rfl (gX4 hb) rfl (Nat.le_of_ble_eq_true rfl) ⟨Nat.zero_le _, Nat.zero_le _⟩ (fun S1 hq => ?_)
  rw [hq, mset_s, mset_mset]
  clear hq S1
  refine tv_iinc X dX4_pressAt_43 rfl (show (1 : Int32) + Int32.ofInt 1 = 2 by decide) rfl ?_
  refine tv_goto (tgt := 12) X dX4_pressAt_46 (by decide) ?_
  refine mm_L (L' := [(0, .ref (n0 + (b + 1))), (1, .int x), (2, .int y), (3, .int f), (4, .int (1)), (5, .int (2))]) rfl ?_
  refine tv_iload X dX4_pressAt_12 rfl ?_
  refine tv_iconst (v := 1) X dX4_pressAt_14 (by decide) ?_
  refine tv_icmp_gt (tgt := 49) X dX4_pressAt_15 (by decide) (fun h3 => ?_) (fun h3 => ?_)
  rotate_left
  · exact absurd (by decide) h3
  refine tv_iinc X dX4_pressAt_49 rfl (show (1 : Int32) + Int32.ofInt 1 = 2 by decide) rfl ?_
  refine tv_goto (tgt := 3) X dX4_pressAt_52 (by decide) ?_
  refine mm_L (L' := [(0, .ref (n0 + (b + 1))), (1, .int x), (2, .int y), (3, .int f), (4, .int (2)), (5, .int 2)]) rfl ?_
  refine tv_iload X dX4_pressAt_3 rfl ?_
  refine tv_iconst (v := 1) X dX4_pressAt_5 (by decide) ?_
  refine tv_icmp_gt (tgt := 55) X dX4_pressAt_6 (by decide) (fun h4 => ?_) (fun h4 => ?_)
  rotate_left
  · exact absurd (by decide) h4
  exact tv_vret X hrt dX4_pressAt_55 ⟨_, rfl, rfl⟩
end C17

