/-- the contact of the peak c laid behind the others -/
noncomputable def addS (S : mS) (b c k : Nat) : mS := mupd (mupd (mupd (mupd (mupd S 105 k (100 * wr9 (sgS S b) (nI (c / 6)) (nI (c % 6)) / S.1 104 c)) 106 k (100 * wc9 (sgS S b) (nI (c / 6)) (nI (c % 6)) / S.1 104 c)) 107 k (S.1 104 c)) 108 k (nI c)) 103 5 (nI (k + 1))
section C20
variable {l : Launch} {D : va_G} {n0 : Nat} {ft : tv_ft} {n : Nat} {S : mS} {b : Nat}
theorem iX1_add_X1 : ∀ w ∈ wsX10, w ∈ wsX1_add := by decide +kernel
theorem kX1_add_9 : Cond.fieldLink RX1 9 (TX1 0).1 (TX1 0).2.1 (TX1 0).2.2.1 ∈ wsX1_add := by decide +kernel
theorem kX1_add_15 : Cond.fieldLink RX1 15 (TX1 1).1 (TX1 1).2.1 (TX1 1).2.2.1 ∈ wsX1_add := by decide +kernel
theorem kX1_add_18 : Cond.fieldLink RX1 18 (TX1 2).1 (TX1 2).2.1 (TX1 2).2.2.1 ∈ wsX1_add := by decide +kernel
theorem kX1_add_21 : Cond.fieldLink RX1 21 (TX1 3).1 (TX1 3).2.1 (TX1 3).2.2.1 ∈ wsX1_add := by decide +kernel
theorem kX1_add_24 : Cond.fieldLink RX1 24 (TX1 4).1 (TX1 4).2.1 (TX1 4).2.2.1 ∈ wsX1_add := by decide +kernel
theorem kX1_add_41 : Cond.fieldLink RX1 41 (TX1 5).1 (TX1 5).2.1 (TX1 5).2.2.1 ∈ wsX1_add := by decide +kernel
theorem zX1_add_X9 : Cond.initialized RX9 ∈ wsX1_add ∧ True := ⟨by decide +kernel, trivial⟩
theorem zX1_add_X9_isCell : Cond.static yX9_isCell ∈ wsX1_add := by decide +kernel
set_option maxHeartbeats 4000000 in
theorem cX1_add_ok (hb : mst b = true) {c1 : Nat} (hc : c1 < 48) (hmass : 0 < S.1 104 c1) {k : Nat} (hk : S.1 103 5 = nI k) (hk6 : k ≤ 6) : mMv l yX1_add wsX1_add rmX1_add D n0 ft [.ref (n0 + 103), .ref (n0 + (b + 1)), .int (nI c1)] n S (fun S' => S' = if k < 6 then addS S b c1 k else S) := by
  refine tv_enter (cc := cX1_add) (maxL := 11) (ret := none) (by decide) rfl (Nat.le_of_ble_eq_true rfl) ?_
  intro p e s m args below meth c X hrt hnm hargs
  have hbl := mst_le hb
  have hd := div6 hc
  have hm := rem6 hc
  refine tv_iload_n X dX1_add_0 rfl ?_
  refine mm_callSNi X dX1_add_1 (cX9_isCell_in hc) ⟨va_cnB 1 X.2.2.2.2.1 gX1_add_X9_isCell_n64 rfl rfl rfl (tv_nwM X nM11) (X.2.2.2.2.1 _ (zX1_add_X9).1) (by decide +kernel) ⟨Nat.le_of_ble_eq_true rfl, Nat.le_of_ble_eq_true rfl⟩, X.2.2.2.2.1 _ (zX1_add_X9_isCell)⟩ rfl rfl (Nat.le_of_ble_eq_true rfl) ⟨Nat.zero_le _, Nat.zero_le _⟩ (fun r S1 hq => ?_)
  obtain ⟨hq1, hq2⟩ := hq
  rw [hq1, hq2]
  clear hq1 hq2 S1 r
  refine tv_if_eq (tgt := 16) X dX1_add_4 (by decide) (fun h1 => ?_) (fun h1 => ?_)
  · exact absurd h1 (by decide)
  refine tv_aload_n X dX1_add_7 rfl ?_
  refine mm_getf X dX1_add_8 gX1 iX1_add_X1 rfl 0 (by decide) kX1_add_9 rfl ?_
  refine tv_iload_n X dX1_add_11 rfl ?_
  refine mm_iald X dX1_add_12 g104 _ rfl (by omega) (by decide) ?_
  refine tv_goto (tgt := 17) X dX1_add_13 (by decide) ?_
  refine tv_istore_n X dX1_add_17 rfl ?_
  refine tv_iload_n X dX1_add_18 rfl ?_
  refine tv_if_le (tgt := 31) X dX1_add_19 (by decide) (fun h2 => ?_) (fun h2 => ?_)
  · exact absurd hmass (Int32.not_lt.mpr h2)
  refine tv_aload_n X dX1_add_22 rfl ?_
  refine mm_getf X dX1_add_23 gX1 iX1_add_X1 rfl 5 (by decide) kX1_add_41 rfl ?_
  refine tv_bipush (v := 6) X dX1_add_26 (by decide) ?_
  rw [hk]
  refine tv_icmp_lt (tgt := 32) X dX1_add_28 (by decide) (fun h3 => ?_) (fun h3 => ?_)
  rotate_left
  · have hk6' : ¬ k < 6 := fun h => h3 (nI_lt (b := 6) h (by decide))
    exact tv_vret X hrt dX1_add_31 ⟨_, rfl, (if_neg hk6').symm⟩
  have hk6 : k < 6 := Nat.lt_of_not_le fun h => nI_nlt (a := k) (b := 6) h (by omega) h3
  have hmne : ¬ S.1 104 c1 = 0 := fun h => absurd hmass (by rw [h]; decide)
  generalize hma : S.1 104 c1 = ma at hmne
  refine tv_iconst (v := 0) X dX1_add_32 (by decide) ?_
  refine tv_istore X dX1_add_33 rfl ?_
  refine tv_iconst (v := 0) X dX1_add_35 (by decide) ?_
  refine tv_istore X dX1_add_36 rfl ?_
  refine tv_iconst (v := -1) X dX1_add_38 (by decide) ?_
  refine tv_istore X dX1_add_39 rfl ?_
  refine tv_iload X dX1_add_41 rfl ?_
  refine tv_iconst (v := 1) X dX1_add_43 (by decide) ?_
  refine tv_icmp_gt (tgt := 116) X dX1_add_44 (by decide) (fun h1 => ?_) (fun h1 => ?_)
  · exact absurd h1 (by decide)
  refine tv_iconst (v := -1) X dX1_add_47 (by decide) ?_
  refine tv_istore X dX1_add_48 rfl ?_
  refine mm_L (L' := [(0, .ref (n0 + 103)), (1, .ref (n0 + (b + 1))), (2, .int (nI c1)), (3, .int ma), (4, .int (0)), (5, .int (0)), (6, .int (-1)), (7, .int (-1))]) rfl ?_
  refine tv_iload X dX1_add_50 rfl ?_
  refine tv_iconst (v := 1) X dX1_add_52 (by decide) ?_
  refine tv_icmp_gt (tgt := 110) X dX1_add_53 (by decide) (fun h2 => ?_) (fun h2 => ?_)
  · exact absurd h2 (by decide)
  refine tv_iload_n X dX1_add_56 rfl ?_
  refine tv_bipush (v := 6) X dX1_add_57 (by decide) ?_
  refine tv_idiv X dX1_add_59 (by decide) ?_
  refine tv_iload X dX1_add_60 rfl ?_
  refine tv_iadd X dX1_add_62 ?_
  refine tv_istore X dX1_add_63 rfl ?_
  refine tv_iload_n X dX1_add_65 rfl ?_
  refine tv_bipush (v := 6) X dX1_add_66 (by decide) ?_
  refine tv_irem X dX1_add_68 (by decide) ?_
  refine tv_iload X dX1_add_69 rfl ?_
  refine tv_iadd X dX1_add_71 ?_
  rw [hm, hd]
  refine tv_istore X dX1_add_72 rfl ?_
  refine tv_aload_n X dX1_add_74 rfl ?_
  refine tv_iload X dX1_add_75 rfl ?_
  refine tv_iload X dX1_add_77 rfl ?_
  refine mm_callVi (q := (RX4, TX4, 2)) X dX1_add_79 (cX4_signalAt_ok hb _ _) (cwV 2 X.2.2.2.2.1 gX1_add_X4_signalAt rfl rfl rfl (by decide +kernel) ⟨Nat.le_of_ble_eq_true rfl, Nat.le_of_ble_eq_true rfl⟩) rfl rfl (gX4 hb) rfl (Nat.le_of_ble_eq_true rfl) ⟨Nat.zero_le _, Nat.zero_le _⟩ (fun r S1 hq => ?_)
  obtain ⟨hq1, hq2⟩ := hq
  rw [hq1, hq2]
  clear hq1 hq2 S1 r
  refine tv_istore X dX1_add_82 rfl ?_
  refine tv_iload X dX1_add_84 rfl ?_
  refine tv_iload X dX1_add_86 rfl ?_
  refine tv_iload X dX1_add_88 rfl ?_
  refine tv_imul X dX1_add_90 ?_
  refine tv_iadd X dX1_add_91 ?_
  refine tv_istore X dX1_add_92 rfl ?_
  refine tv_iload X dX1_add_94 rfl ?_
  refine tv_iload X dX1_add_96 rfl ?_
  refine tv_iload X dX1_add_98 rfl ?_
  refine tv_imul X dX1_add_100 ?_
  refine tv_iadd X dX1_add_101 ?_
  refine tv_istore X dX1_add_102 rfl ?_
  refine tv_iinc X dX1_add_104 rfl (show (-1 : Int32) + Int32.ofInt 1 = 0 by decide) rfl ?_
  refine tv_goto (tgt := 50) X dX1_add_107 (by decide) ?_
  refine tv_sl (L' := [(0, .ref (n0 + 103)), (1, .ref (n0 + (b + 1))), (2, .int (nI c1)), (3, .int ma), (4, .int (0 + saG (sgS S b) (nI (c1 / 6) + (-1)) (nI (c1 % 6) + (-1)) * (nI (c1 / 6) + (-1)))), (5, .int (0 + saG (sgS S b) (nI (c1 / 6) + (-1)) (nI (c1 % 6) + (-1)) * (nI (c1 % 6) + (-1)))), (6, .int (-1)), (7, .int (0))]) [0, 1, 2, 3, 4, 5, 6, 7] rfl ?_
  refine tv_iload X dX1_add_50 rfl ?_
  refine tv_iconst (v := 1) X dX1_add_52 (by decide) ?_
  refine tv_icmp_gt (tgt := 110) X dX1_add_53 (by decide) (fun h2 => ?_) (fun h2 => ?_)
  · exact absurd h2 (by decide)
  refine tv_iload_n X dX1_add_56 rfl ?_
  refine tv_bipush (v := 6) X dX1_add_57 (by decide) ?_
  refine tv_idiv X dX1_add_59 (by decide) ?_
  refine tv_iload X dX1_add_60 rfl ?_
  refine tv_iadd X dX1_add_62 ?_
  refine tv_istore X dX1_add_63 rfl ?_
  refine tv_iload_n X dX1_add_65 rfl ?_
  refine tv_bipush (v := 6) X dX1_add_66 (by decide) ?_
  refine tv_irem X dX1_add_68 (by decide) ?_
  refine tv_iload X dX1_add_69 rfl ?_
  refine tv_iadd X dX1_add_71 ?_
  rw [hm, hd]
  refine tv_istore X dX1_add_72 rfl ?_
  refine tv_aload_n X dX1_add_74 rfl ?_
  refine tv_iload X dX1_add_75 rfl ?_
  refine tv_iload X dX1_add_77 rfl ?_
  refine mm_callVi (q := (RX4, TX4, 2)) X dX1_add_79 (cX4_signalAt_ok hb _ _) (cwV 2 X.2.2.2.2.1 gX1_add_X4_signalAt rfl rfl rfl (by decide +kernel) ⟨Nat.le_of_ble_eq_true rfl, Nat.le_of_ble_eq_true rfl⟩) rfl rfl (gX4 hb) rfl (Nat.le_of_ble_eq_true rfl) ⟨Nat.zero_le _, Nat.zero_le _⟩ (fun r S1 hq => ?_)
  obtain ⟨hq1, hq2⟩ := hq
  rw [hq1, hq2]
  clear hq1 hq2 S1 r
  refine tv_istore X dX1_add_82 rfl ?_
  refine tv_iload X dX1_add_84 rfl ?_
  refine tv_iload X dX1_add_86 rfl ?_
  refine tv_iload X dX1_add_88 rfl ?_
  refine tv_imul X dX1_add_90 ?_
  refine tv_iadd X dX1_add_91 ?_
  refine tv_istore X dX1_add_92 rfl ?_
  refine tv_iload X dX1_add_94 rfl ?_
  refine tv_iload X dX1_add_96 rfl ?_
  refine tv_iload X dX1_add_98 rfl ?_
  refine tv_imul X dX1_add_100 ?_
  refine tv_iadd X dX1_add_101 ?_
  refine tv_istore X dX1_add_102 rfl ?_
  refine tv_iinc X dX1_add_104 rfl (show (0 : Int32) + Int32.ofInt 1 = 1 by decide) rfl ?_
  refine tv_goto (tgt := 50) X dX1_add_107 (by decide) ?_
  refine tv_sl (L' := [(0, .ref (n0 + 103)), (1, .ref (n0 + (b + 1))), (2, .int (nI c1)), (3, .int ma), (4, .int (0 + saG (sgS S b) (nI (c1 / 6) + (-1)) (nI (c1 % 6) + (-1)) * (nI (c1 / 6) + (-1)) + saG (sgS S b) (nI (c1 / 6) + (-1)) (nI (c1 % 6) + (0)) * (nI (c1 / 6) + (-1)))), (5, .int (0 + saG (sgS S b) (nI (c1 / 6) + (-1)) (nI (c1 % 6) + (-1)) * (nI (c1 % 6) + (-1)) + saG (sgS S b) (nI (c1 / 6) + (-1)) (nI (c1 % 6) + (0)) * (nI (c1 % 6) + (0)))), (6, .int (-1)), (7, .int (1))]) [0, 1, 2, 3, 4, 5, 6, 7] rfl ?_
  refine tv_iload X dX1_add_50 rfl ?_
  refine tv_iconst (v := 1) X dX1_add_52 (by decide) ?_
  refine tv_icmp_gt (tgt := 110) X dX1_add_53 (by decide) (fun h2 => ?_) (fun h2 => ?_)
  · exact absurd h2 (by decide)
  refine tv_iload_n X dX1_add_56 rfl ?_
  refine tv_bipush (v := 6) X dX1_add_57 (by decide) ?_
  refine tv_idiv X dX1_add_59 (by decide) ?_
  refine tv_iload X dX1_add_60 rfl ?_
  refine tv_iadd X dX1_add_62 ?_
  refine tv_istore X dX1_add_63 rfl ?_
  refine tv_iload_n X dX1_add_65 rfl ?_
  refine tv_bipush (v := 6) X dX1_add_66 (by decide) ?_
  refine tv_irem X dX1_add_68 (by decide) ?_
  refine tv_iload X dX1_add_69 rfl ?_
  refine tv_iadd X dX1_add_71 ?_
  rw [hm, hd]
  refine tv_istore X dX1_add_72 rfl ?_
  refine tv_aload_n X dX1_add_74 rfl ?_
  refine tv_iload X dX1_add_75 rfl ?_
  refine tv_iload X dX1_add_77 rfl ?_
  refine mm_callVi (q := (RX4, TX4, 2)) X dX1_add_79 (cX4_signalAt_ok hb _ _) (cwV 2 X.2.2.2.2.1 gX1_add_X4_signalAt rfl rfl rfl (by decide +kernel) ⟨Nat.le_of_ble_eq_true rfl, Nat.le_of_ble_eq_true rfl⟩) rfl rfl (gX4 hb) rfl (Nat.le_of_ble_eq_true rfl) ⟨Nat.zero_le _, Nat.zero_le _⟩ (fun r S1 hq => ?_)
  obtain ⟨hq1, hq2⟩ := hq
  rw [hq1, hq2]
  clear hq1 hq2 S1 r
  refine tv_istore X dX1_add_82 rfl ?_
  refine tv_iload X dX1_add_84 rfl ?_
  refine tv_iload X dX1_add_86 rfl ?_
  refine tv_iload X dX1_add_88 rfl ?_
  refine tv_imul X dX1_add_90 ?_
  refine tv_iadd X dX1_add_91 ?_
  refine tv_istore X dX1_add_92 rfl ?_
  refine tv_iload X dX1_add_94 rfl ?_
  refine tv_iload X dX1_add_96 rfl ?_
  refine tv_iload X dX1_add_98 rfl ?_
  refine tv_imul X dX1_add_100 ?_
  refine tv_iadd X dX1_add_101 ?_
  refine tv_istore X dX1_add_102 rfl ?_
  refine tv_iinc X dX1_add_104 rfl (show (1 : Int32) + Int32.ofInt 1 = 2 by decide) rfl ?_
  refine tv_goto (tgt := 50) X dX1_add_107 (by decide) ?_
  refine tv_sl (L' := [(0, .ref (n0 + 103)), (1, .ref (n0 + (b + 1))), (2, .int (nI c1)), (3, .int ma), (4, .int (0 + saG (sgS S b) (nI (c1 / 6) + (-1)) (nI (c1 % 6) + (-1)) * (nI (c1 / 6) + (-1)) + saG (sgS S b) (nI (c1 / 6) + (-1)) (nI (c1 % 6) + (0)) * (nI (c1 / 6) + (-1)) + saG (sgS S b) (nI (c1 / 6) + (-1)) (nI (c1 % 6) + (1)) * (nI (c1 / 6) + (-1)))), (5, .int (0 + saG (sgS S b) (nI (c1 / 6) + (-1)) (nI (c1 % 6) + (-1)) * (nI (c1 % 6) + (-1)) + saG (sgS S b) (nI (c1 / 6) + (-1)) (nI (c1 % 6) + (0)) * (nI (c1 % 6) + (0)) + saG (sgS S b) (nI (c1 / 6) + (-1)) (nI (c1 % 6) + (1)) * (nI (c1 % 6) + (1)))), (6, .int (-1)), (7, .int (2))]) [0, 1, 2, 3, 4, 5, 6, 7] rfl ?_
  refine tv_iload X dX1_add_50 rfl ?_
  refine tv_iconst (v := 1) X dX1_add_52 (by decide) ?_
  refine tv_icmp_gt (tgt := 110) X dX1_add_53 (by decide) (fun h3 => ?_) (fun h3 => ?_)
  rotate_left
  · exact absurd (by decide) h3
  refine tv_iinc X dX1_add_110 rfl (show (-1 : Int32) + Int32.ofInt 1 = 0 by decide) rfl ?_
  refine tv_goto (tgt := 41) X dX1_add_113 (by decide) ?_
  refine mm_L (L' := [(0, .ref (n0 + 103)), (1, .ref (n0 + (b + 1))), (2, .int (nI c1)), (3, .int ma), (4, .int (wr3 (sgS S b) (nI (c1 / 6)) (nI (c1 % 6)) (-1) (0))), (5, .int (wc3 (sgS S b) (nI (c1 / 6)) (nI (c1 % 6)) (-1) (0))), (6, .int (0)), (7, .int 2)]) rfl ?_
  refine tv_iload X dX1_add_41 rfl ?_
  refine tv_iconst (v := 1) X dX1_add_43 (by decide) ?_
  refine tv_icmp_gt (tgt := 116) X dX1_add_44 (by decide) (fun h1 => ?_) (fun h1 => ?_)
  · exact absurd h1 (by decide)
  refine tv_iconst (v := -1) X dX1_add_47 (by decide) ?_
  refine tv_istore X dX1_add_48 rfl ?_
  refine mm_L (L' := [(0, .ref (n0 + 103)), (1, .ref (n0 + (b + 1))), (2, .int (nI c1)), (3, .int ma), (4, .int (wr3 (sgS S b) (nI (c1 / 6)) (nI (c1 % 6)) (-1) (0))), (5, .int (wc3 (sgS S b) (nI (c1 / 6)) (nI (c1 % 6)) (-1) (0))), (6, .int (0)), (7, .int (-1))]) rfl ?_
  refine tv_iload X dX1_add_50 rfl ?_
  refine tv_iconst (v := 1) X dX1_add_52 (by decide) ?_
  refine tv_icmp_gt (tgt := 110) X dX1_add_53 (by decide) (fun h2 => ?_) (fun h2 => ?_)
  · exact absurd h2 (by decide)
  refine tv_iload_n X dX1_add_56 rfl ?_
  refine tv_bipush (v := 6) X dX1_add_57 (by decide) ?_
  refine tv_idiv X dX1_add_59 (by decide) ?_
  refine tv_iload X dX1_add_60 rfl ?_
  refine tv_iadd X dX1_add_62 ?_
  refine tv_istore X dX1_add_63 rfl ?_
  refine tv_iload_n X dX1_add_65 rfl ?_
  refine tv_bipush (v := 6) X dX1_add_66 (by decide) ?_
  refine tv_irem X dX1_add_68 (by decide) ?_
  refine tv_iload X dX1_add_69 rfl ?_
  refine tv_iadd X dX1_add_71 ?_
  rw [hm, hd]
  refine tv_istore X dX1_add_72 rfl ?_
  refine tv_aload_n X dX1_add_74 rfl ?_
  refine tv_iload X dX1_add_75 rfl ?_
  refine tv_iload X dX1_add_77 rfl ?_
  refine mm_callVi (q := (RX4, TX4, 2)) X dX1_add_79 (cX4_signalAt_ok hb _ _) (cwV 2 X.2.2.2.2.1 gX1_add_X4_signalAt rfl rfl rfl (by decide +kernel) ⟨Nat.le_of_ble_eq_true rfl, Nat.le_of_ble_eq_true rfl⟩) rfl rfl (gX4 hb) rfl (Nat.le_of_ble_eq_true rfl) ⟨Nat.zero_le _, Nat.zero_le _⟩ (fun r S1 hq => ?_)
  obtain ⟨hq1, hq2⟩ := hq
  rw [hq1, hq2]
  clear hq1 hq2 S1 r
  refine tv_istore X dX1_add_82 rfl ?_
  refine tv_iload X dX1_add_84 rfl ?_
  refine tv_iload X dX1_add_86 rfl ?_
  refine tv_iload X dX1_add_88 rfl ?_
  refine tv_imul X dX1_add_90 ?_
  refine tv_iadd X dX1_add_91 ?_
  refine tv_istore X dX1_add_92 rfl ?_
  refine tv_iload X dX1_add_94 rfl ?_
  refine tv_iload X dX1_add_96 rfl ?_
  refine tv_iload X dX1_add_98 rfl ?_
  refine tv_imul X dX1_add_100 ?_
  refine tv_iadd X dX1_add_101 ?_
  refine tv_istore X dX1_add_102 rfl ?_
  refine tv_iinc X dX1_add_104 rfl (show (-1 : Int32) + Int32.ofInt 1 = 0 by decide) rfl ?_
  refine tv_goto (tgt := 50) X dX1_add_107 (by decide) ?_
  refine tv_sl (L' := [(0, .ref (n0 + 103)), (1, .ref (n0 + (b + 1))), (2, .int (nI c1)), (3, .int ma), (4, .int (wr3 (sgS S b) (nI (c1 / 6)) (nI (c1 % 6)) (-1) (0) + saG (sgS S b) (nI (c1 / 6) + (0)) (nI (c1 % 6) + (-1)) * (nI (c1 / 6) + (0)))), (5, .int (wc3 (sgS S b) (nI (c1 / 6)) (nI (c1 % 6)) (-1) (0) + saG (sgS S b) (nI (c1 / 6) + (0)) (nI (c1 % 6) + (-1)) * (nI (c1 % 6) + (-1)))), (6, .int (0)), (7, .int (0))]) [0, 1, 2, 3, 4, 5, 6, 7] rfl ?_
  refine tv_iload X dX1_add_50 rfl ?_
  refine tv_iconst (v := 1) X dX1_add_52 (by decide) ?_
  refine tv_icmp_gt (tgt := 110) X dX1_add_53 (by decide) (fun h2 => ?_) (fun h2 => ?_)
  · exact absurd h2 (by decide)
  refine tv_iload_n X dX1_add_56 rfl ?_
  refine tv_bipush (v := 6) X dX1_add_57 (by decide) ?_
  refine tv_idiv X dX1_add_59 (by decide) ?_
  refine tv_iload X dX1_add_60 rfl ?_
  refine tv_iadd X dX1_add_62 ?_
  refine tv_istore X dX1_add_63 rfl ?_
  refine tv_iload_n X dX1_add_65 rfl ?_
  refine tv_bipush (v := 6) X dX1_add_66 (by decide) ?_
  refine tv_irem X dX1_add_68 (by decide) ?_
  refine tv_iload X dX1_add_69 rfl ?_
  refine tv_iadd X dX1_add_71 ?_
  rw [hm, hd]
  refine tv_istore X dX1_add_72 rfl ?_
  refine tv_aload_n X dX1_add_74 rfl ?_
  refine tv_iload X dX1_add_75 rfl ?_
  refine tv_iload X dX1_add_77 rfl ?_
  refine mm_callVi (q := (RX4, TX4, 2)) X dX1_add_79 (cX4_signalAt_ok hb _ _) (cwV 2 X.2.2.2.2.1 gX1_add_X4_signalAt rfl rfl rfl (by decide +kernel) ⟨Nat.le_of_ble_eq_true rfl, Nat.le_of_ble_eq_true rfl⟩) rfl rfl (gX4 hb) rfl (Nat.le_of_ble_eq_true rfl) ⟨Nat.zero_le _, Nat.zero_le _⟩ (fun r S1 hq => ?_)
  obtain ⟨hq1, hq2⟩ := hq
  rw [hq1, hq2]
  clear hq1 hq2 S1 r
  refine tv_istore X dX1_add_82 rfl ?_
  refine tv_iload X dX1_add_84 rfl ?_
  refine tv_iload X dX1_add_86 rfl ?_
  refine tv_iload X dX1_add_88 rfl ?_
  refine tv_imul X dX1_add_90 ?_
  refine tv_iadd X dX1_add_91 ?_
  refine tv_istore X dX1_add_92 rfl ?_
  refine tv_iload X dX1_add_94 rfl ?_
  refine tv_iload X dX1_add_96 rfl ?_
  refine tv_iload X dX1_add_98 rfl ?_
  refine tv_imul X dX1_add_100 ?_
  refine tv_iadd X dX1_add_101 ?_
  refine tv_istore X dX1_add_102 rfl ?_
  refine tv_iinc X dX1_add_104 rfl (show (0 : Int32) + Int32.ofInt 1 = 1 by decide) rfl ?_
  refine tv_goto (tgt := 50) X dX1_add_107 (by decide) ?_
  refine tv_sl (L' := [(0, .ref (n0 + 103)), (1, .ref (n0 + (b + 1))), (2, .int (nI c1)), (3, .int ma), (4, .int (wr3 (sgS S b) (nI (c1 / 6)) (nI (c1 % 6)) (-1) (0) + saG (sgS S b) (nI (c1 / 6) + (0)) (nI (c1 % 6) + (-1)) * (nI (c1 / 6) + (0)) + saG (sgS S b) (nI (c1 / 6) + (0)) (nI (c1 % 6) + (0)) * (nI (c1 / 6) + (0)))), (5, .int (wc3 (sgS S b) (nI (c1 / 6)) (nI (c1 % 6)) (-1) (0) + saG (sgS S b) (nI (c1 / 6) + (0)) (nI (c1 % 6) + (-1)) * (nI (c1 % 6) + (-1)) + saG (sgS S b) (nI (c1 / 6) + (0)) (nI (c1 % 6) + (0)) * (nI (c1 % 6) + (0)))), (6, .int (0)), (7, .int (1))]) [0, 1, 2, 3, 4, 5, 6, 7] rfl ?_
  refine tv_iload X dX1_add_50 rfl ?_
  refine tv_iconst (v := 1) X dX1_add_52 (by decide) ?_
  refine tv_icmp_gt (tgt := 110) X dX1_add_53 (by decide) (fun h2 => ?_) (fun h2 => ?_)
  · exact absurd h2 (by decide)
  refine tv_iload_n X dX1_add_56 rfl ?_
  refine tv_bipush (v := 6) X dX1_add_57 (by decide) ?_
  refine tv_idiv X dX1_add_59 (by decide) ?_
  refine tv_iload X dX1_add_60 rfl ?_
  refine tv_iadd X dX1_add_62 ?_
  refine tv_istore X dX1_add_63 rfl ?_
  refine tv_iload_n X dX1_add_65 rfl ?_
  refine tv_bipush (v := 6) X dX1_add_66 (by decide) ?_
  refine tv_irem X dX1_add_68 (by decide) ?_
  refine tv_iload X dX1_add_69 rfl ?_
  refine tv_iadd X dX1_add_71 ?_
  rw [hm, hd]
  refine tv_istore X dX1_add_72 rfl ?_
  refine tv_aload_n X dX1_add_74 rfl ?_
  refine tv_iload X dX1_add_75 rfl ?_
  refine tv_iload X dX1_add_77 rfl ?_
  refine mm_callVi (q := (RX4, TX4, 2)) X dX1_add_79 (cX4_signalAt_ok hb _ _) (cwV 2 X.2.2.2.2.1 gX1_add_X4_signalAt rfl rfl rfl (by decide +kernel) ⟨Nat.le_of_ble_eq_true rfl, Nat.le_of_ble_eq_true rfl⟩) rfl rfl (gX4 hb) rfl (Nat.le_of_ble_eq_true rfl) ⟨Nat.zero_le _, Nat.zero_le _⟩ (fun r S1 hq => ?_)
  obtain ⟨hq1, hq2⟩ := hq
  rw [hq1, hq2]
  clear hq1 hq2 S1 r
  refine tv_istore X dX1_add_82 rfl ?_
  refine tv_iload X dX1_add_84 rfl ?_
  refine tv_iload X dX1_add_86 rfl ?_
  refine tv_iload X dX1_add_88 rfl ?_
  refine tv_imul X dX1_add_90 ?_
  refine tv_iadd X dX1_add_91 ?_
  refine tv_istore X dX1_add_92 rfl ?_
  refine tv_iload X dX1_add_94 rfl ?_
  refine tv_iload X dX1_add_96 rfl ?_
  refine tv_iload X dX1_add_98 rfl ?_
  refine tv_imul X dX1_add_100 ?_
  refine tv_iadd X dX1_add_101 ?_
  refine tv_istore X dX1_add_102 rfl ?_
  refine tv_iinc X dX1_add_104 rfl (show (1 : Int32) + Int32.ofInt 1 = 2 by decide) rfl ?_
  refine tv_goto (tgt := 50) X dX1_add_107 (by decide) ?_
  refine tv_sl (L' := [(0, .ref (n0 + 103)), (1, .ref (n0 + (b + 1))), (2, .int (nI c1)), (3, .int ma), (4, .int (wr3 (sgS S b) (nI (c1 / 6)) (nI (c1 % 6)) (-1) (0) + saG (sgS S b) (nI (c1 / 6) + (0)) (nI (c1 % 6) + (-1)) * (nI (c1 / 6) + (0)) + saG (sgS S b) (nI (c1 / 6) + (0)) (nI (c1 % 6) + (0)) * (nI (c1 / 6) + (0)) + saG (sgS S b) (nI (c1 / 6) + (0)) (nI (c1 % 6) + (1)) * (nI (c1 / 6) + (0)))), (5, .int (wc3 (sgS S b) (nI (c1 / 6)) (nI (c1 % 6)) (-1) (0) + saG (sgS S b) (nI (c1 / 6) + (0)) (nI (c1 % 6) + (-1)) * (nI (c1 % 6) + (-1)) + saG (sgS S b) (nI (c1 / 6) + (0)) (nI (c1 % 6) + (0)) * (nI (c1 % 6) + (0)) + saG (sgS S b) (nI (c1 / 6) + (0)) (nI (c1 % 6) + (1)) * (nI (c1 % 6) + (1)))), (6, .int (0)), (7, .int (2))]) [0, 1, 2, 3, 4, 5, 6, 7] rfl ?_
  refine tv_iload X dX1_add_50 rfl ?_
  refine tv_iconst (v := 1) X dX1_add_52 (by decide) ?_
  refine tv_icmp_gt (tgt := 110) X dX1_add_53 (by decide) (fun h3 => ?_) (fun h3 => ?_)
  rotate_left
  · exact absurd (by decide) h3
  refine tv_iinc X dX1_add_110 rfl (show (0 : Int32) + Int32.ofInt 1 = 1 by decide) rfl ?_
  refine tv_goto (tgt := 41) X dX1_add_113 (by decide) ?_
  refine mm_L (L' := [(0, .ref (n0 + 103)), (1, .ref (n0 + (b + 1))), (2, .int (nI c1)), (3, .int ma), (4, .int (wr3 (sgS S b) (nI (c1 / 6)) (nI (c1 % 6)) (0) (wr3 (sgS S b) (nI (c1 / 6)) (nI (c1 % 6)) (-1) (0)))), (5, .int (wc3 (sgS S b) (nI (c1 / 6)) (nI (c1 % 6)) (0) (wc3 (sgS S b) (nI (c1 / 6)) (nI (c1 % 6)) (-1) (0)))), (6, .int (1)), (7, .int 2)]) rfl ?_
  refine tv_iload X dX1_add_41 rfl ?_
  refine tv_iconst (v := 1) X dX1_add_43 (by decide) ?_
  refine tv_icmp_gt (tgt := 116) X dX1_add_44 (by decide) (fun h1 => ?_) (fun h1 => ?_)
  · exact absurd h1 (by decide)
  refine tv_iconst (v := -1) X dX1_add_47 (by decide) ?_
  refine tv_istore X dX1_add_48 rfl ?_
  refine mm_L (L' := [(0, .ref (n0 + 103)), (1, .ref (n0 + (b + 1))), (2, .int (nI c1)), (3, .int ma), (4, .int (wr3 (sgS S b) (nI (c1 / 6)) (nI (c1 % 6)) (0) (wr3 (sgS S b) (nI (c1 / 6)) (nI (c1 % 6)) (-1) (0)))), (5, .int (wc3 (sgS S b) (nI (c1 / 6)) (nI (c1 % 6)) (0) (wc3 (sgS S b) (nI (c1 / 6)) (nI (c1 % 6)) (-1) (0)))), (6, .int (1)), (7, .int (-1))]) rfl ?_
  refine tv_iload X dX1_add_50 rfl ?_
  refine tv_iconst (v := 1) X dX1_add_52 (by decide) ?_
  refine tv_icmp_gt (tgt := 110) X dX1_add_53 (by decide) (fun h2 => ?_) (fun h2 => ?_)
  · exact absurd h2 (by decide)
  refine tv_iload_n X dX1_add_56 rfl ?_
  refine tv_bipush (v := 6) X dX1_add_57 (by decide) ?_
  refine tv_idiv X dX1_add_59 (by decide) ?_
  refine tv_iload X dX1_add_60 rfl ?_
  refine tv_iadd X dX1_add_62 ?_
  refine tv_istore X dX1_add_63 rfl ?_
  refine tv_iload_n X dX1_add_65 rfl ?_
  refine tv_bipush (v := 6) X dX1_add_66 (by decide) ?_
  refine tv_irem X dX1_add_68 (by decide) ?_
  refine tv_iload X dX1_add_69 rfl ?_
  refine tv_iadd X dX1_add_71 ?_
  rw [hm, hd]
  refine tv_istore X dX1_add_72 rfl ?_
  refine tv_aload_n X dX1_add_74 rfl ?_
  refine tv_iload X dX1_add_75 rfl ?_
  refine tv_iload X dX1_add_77 rfl ?_
  refine mm_callVi (q := (RX4, TX4, 2)) X dX1_add_79 (cX4_signalAt_ok hb _ _) (cwV 2 X.2.2.2.2.1 gX1_add_X4_signalAt rfl rfl rfl (by decide +kernel) ⟨Nat.le_of_ble_eq_true rfl, Nat.le_of_ble_eq_true rfl⟩) rfl rfl (gX4 hb) rfl (Nat.le_of_ble_eq_true rfl) ⟨Nat.zero_le _, Nat.zero_le _⟩ (fun r S1 hq => ?_)
  obtain ⟨hq1, hq2⟩ := hq
  rw [hq1, hq2]
  clear hq1 hq2 S1 r
  refine tv_istore X dX1_add_82 rfl ?_
  refine tv_iload X dX1_add_84 rfl ?_
  refine tv_iload X dX1_add_86 rfl ?_
  refine tv_iload X dX1_add_88 rfl ?_
  refine tv_imul X dX1_add_90 ?_
  refine tv_iadd X dX1_add_91 ?_
  refine tv_istore X dX1_add_92 rfl ?_
  refine tv_iload X dX1_add_94 rfl ?_
  refine tv_iload X dX1_add_96 rfl ?_
  refine tv_iload X dX1_add_98 rfl ?_
  refine tv_imul X dX1_add_100 ?_
  refine tv_iadd X dX1_add_101 ?_
  refine tv_istore X dX1_add_102 rfl ?_
  refine tv_iinc X dX1_add_104 rfl (show (-1 : Int32) + Int32.ofInt 1 = 0 by decide) rfl ?_
  refine tv_goto (tgt := 50) X dX1_add_107 (by decide) ?_
  refine tv_sl (L' := [(0, .ref (n0 + 103)), (1, .ref (n0 + (b + 1))), (2, .int (nI c1)), (3, .int ma), (4, .int (wr3 (sgS S b) (nI (c1 / 6)) (nI (c1 % 6)) (0) (wr3 (sgS S b) (nI (c1 / 6)) (nI (c1 % 6)) (-1) (0)) + saG (sgS S b) (nI (c1 / 6) + (1)) (nI (c1 % 6) + (-1)) * (nI (c1 / 6) + (1)))), (5, .int (wc3 (sgS S b) (nI (c1 / 6)) (nI (c1 % 6)) (0) (wc3 (sgS S b) (nI (c1 / 6)) (nI (c1 % 6)) (-1) (0)) + saG (sgS S b) (nI (c1 / 6) + (1)) (nI (c1 % 6) + (-1)) * (nI (c1 % 6) + (-1)))), (6, .int (1)), (7, .int (0))]) [0, 1, 2, 3, 4, 5, 6, 7] rfl ?_
  refine tv_iload X dX1_add_50 rfl ?_
  refine tv_iconst (v := 1) X dX1_add_52 (by decide) ?_
  refine tv_icmp_gt (tgt := 110) X dX1_add_53 (by decide) (fun h2 => ?_) (fun h2 => ?_)
  · exact absurd h2 (by decide)
  refine tv_iload_n X dX1_add_56 rfl ?_
  refine tv_bipush (v := 6) X dX1_add_57 (by decide) ?_
  refine tv_idiv X dX1_add_59 (by decide) ?_
  refine tv_iload X dX1_add_60 rfl ?_
  refine tv_iadd X dX1_add_62 ?_
  refine tv_istore X dX1_add_63 rfl ?_
  refine tv_iload_n X dX1_add_65 rfl ?_
  refine tv_bipush (v := 6) X dX1_add_66 (by decide) ?_
  refine tv_irem X dX1_add_68 (by decide) ?_
  refine tv_iload X dX1_add_69 rfl ?_
  refine tv_iadd X dX1_add_71 ?_
  rw [hm, hd]
  refine tv_istore X dX1_add_72 rfl ?_
  refine tv_aload_n X dX1_add_74 rfl ?_
  refine tv_iload X dX1_add_75 rfl ?_
  refine tv_iload X dX1_add_77 rfl ?_
  refine mm_callVi (q := (RX4, TX4, 2)) X dX1_add_79 (cX4_signalAt_ok hb _ _) (cwV 2 X.2.2.2.2.1 gX1_add_X4_signalAt rfl rfl rfl (by decide +kernel) ⟨Nat.le_of_ble_eq_true rfl, Nat.le_of_ble_eq_true rfl⟩) rfl rfl (gX4 hb) rfl (Nat.le_of_ble_eq_true rfl) ⟨Nat.zero_le _, Nat.zero_le _⟩ (fun r S1 hq => ?_)
  obtain ⟨hq1, hq2⟩ := hq
  rw [hq1, hq2]
  clear hq1 hq2 S1 r
  refine tv_istore X dX1_add_82 rfl ?_
  refine tv_iload X dX1_add_84 rfl ?_
  refine tv_iload X dX1_add_86 rfl ?_
  refine tv_iload X dX1_add_88 rfl ?_
  refine tv_imul X dX1_add_90 ?_
  refine tv_iadd X dX1_add_91 ?_
  refine tv_istore X dX1_add_92 rfl ?_
  refine tv_iload X dX1_add_94 rfl ?_
  refine tv_iload X dX1_add_96 rfl ?_
  refine tv_iload X dX1_add_98 rfl ?_
  refine tv_imul X dX1_add_100 ?_
  refine tv_iadd X dX1_add_101 ?_
  refine tv_istore X dX1_add_102 rfl ?_
  refine tv_iinc X dX1_add_104 rfl (show (0 : Int32) + Int32.ofInt 1 = 1 by decide) rfl ?_
  refine tv_goto (tgt := 50) X dX1_add_107 (by decide) ?_
  refine tv_sl (L' := [(0, .ref (n0 + 103)), (1, .ref (n0 + (b + 1))), (2, .int (nI c1)), (3, .int ma), (4, .int (wr3 (sgS S b) (nI (c1 / 6)) (nI (c1 % 6)) (0) (wr3 (sgS S b) (nI (c1 / 6)) (nI (c1 % 6)) (-1) (0)) + saG (sgS S b) (nI (c1 / 6) + (1)) (nI (c1 % 6) + (-1)) * (nI (c1 / 6) + (1)) + saG (sgS S b) (nI (c1 / 6) + (1)) (nI (c1 % 6) + (0)) * (nI (c1 / 6) + (1)))), (5, .int (wc3 (sgS S b) (nI (c1 / 6)) (nI (c1 % 6)) (0) (wc3 (sgS S b) (nI (c1 / 6)) (nI (c1 % 6)) (-1) (0)) + saG (sgS S b) (nI (c1 / 6) + (1)) (nI (c1 % 6) + (-1)) * (nI (c1 % 6) + (-1)) + saG (sgS S b) (nI (c1 / 6) + (1)) (nI (c1 % 6) + (0)) * (nI (c1 % 6) + (0)))), (6, .int (1)), (7, .int (1))]) [0, 1, 2, 3, 4, 5, 6, 7] rfl ?_
  refine tv_iload X dX1_add_50 rfl ?_
  refine tv_iconst (v := 1) X dX1_add_52 (by decide) ?_
  refine tv_icmp_gt (tgt := 110) X dX1_add_53 (by decide) (fun h2 => ?_) (fun h2 => ?_)
  · exact absurd h2 (by decide)
  refine tv_iload_n X dX1_add_56 rfl ?_
  refine tv_bipush (v := 6) X dX1_add_57 (by decide) ?_
  refine tv_idiv X dX1_add_59 (by decide) ?_
  refine tv_iload X dX1_add_60 rfl ?_
  refine tv_iadd X dX1_add_62 ?_
  refine tv_istore X dX1_add_63 rfl ?_
  refine tv_iload_n X dX1_add_65 rfl ?_
  refine tv_bipush (v := 6) X dX1_add_66 (by decide) ?_
  refine tv_irem X dX1_add_68 (by decide) ?_
  refine tv_iload X dX1_add_69 rfl ?_
  refine tv_iadd X dX1_add_71 ?_
  rw [hm, hd]
  refine tv_istore X dX1_add_72 rfl ?_
  refine tv_aload_n X dX1_add_74 rfl ?_
  refine tv_iload X dX1_add_75 rfl ?_
  refine tv_iload X dX1_add_77 rfl ?_
  refine mm_callVi (q := (RX4, TX4, 2)) X dX1_add_79 (cX4_signalAt_ok hb _ _) (cwV 2 X.2.2.2.2.1 gX1_add_X4_signalAt rfl rfl rfl (by decide +kernel) ⟨Nat.le_of_ble_eq_true rfl, Nat.le_of_ble_eq_true rfl⟩) rfl rfl (gX4 hb) rfl (Nat.le_of_ble_eq_true rfl) ⟨Nat.zero_le _, Nat.zero_le _⟩ (fun r S1 hq => ?_)
  obtain ⟨hq1, hq2⟩ := hq
  rw [hq1, hq2]
  clear hq1 hq2 S1 r
  refine tv_istore X dX1_add_82 rfl ?_
  refine tv_iload X dX1_add_84 rfl ?_
  refine tv_iload X dX1_add_86 rfl ?_
  refine tv_iload X dX1_add_88 rfl ?_
  refine tv_imul X dX1_add_90 ?_
  refine tv_iadd X dX1_add_91 ?_
  refine tv_istore X dX1_add_92 rfl ?_
  refine tv_iload X dX1_add_94 rfl ?_
  refine tv_iload X dX1_add_96 rfl ?_
  refine tv_iload X dX1_add_98 rfl ?_
  refine tv_imul X dX1_add_100 ?_
  refine tv_iadd X dX1_add_101 ?_
  refine tv_istore X dX1_add_102 rfl ?_
  refine tv_iinc X dX1_add_104 rfl (show (1 : Int32) + Int32.ofInt 1 = 2 by decide) rfl ?_
  refine tv_goto (tgt := 50) X dX1_add_107 (by decide) ?_
  refine tv_sl (L' := [(0, .ref (n0 + 103)), (1, .ref (n0 + (b + 1))), (2, .int (nI c1)), (3, .int ma), (4, .int (wr3 (sgS S b) (nI (c1 / 6)) (nI (c1 % 6)) (0) (wr3 (sgS S b) (nI (c1 / 6)) (nI (c1 % 6)) (-1) (0)) + saG (sgS S b) (nI (c1 / 6) + (1)) (nI (c1 % 6) + (-1)) * (nI (c1 / 6) + (1)) + saG (sgS S b) (nI (c1 / 6) + (1)) (nI (c1 % 6) + (0)) * (nI (c1 / 6) + (1)) + saG (sgS S b) (nI (c1 / 6) + (1)) (nI (c1 % 6) + (1)) * (nI (c1 / 6) + (1)))), (5, .int (wc3 (sgS S b) (nI (c1 / 6)) (nI (c1 % 6)) (0) (wc3 (sgS S b) (nI (c1 / 6)) (nI (c1 % 6)) (-1) (0)) + saG (sgS S b) (nI (c1 / 6) + (1)) (nI (c1 % 6) + (-1)) * (nI (c1 % 6) + (-1)) + saG (sgS S b) (nI (c1 / 6) + (1)) (nI (c1 % 6) + (0)) * (nI (c1 % 6) + (0)) + saG (sgS S b) (nI (c1 / 6) + (1)) (nI (c1 % 6) + (1)) * (nI (c1 % 6) + (1)))), (6, .int (1)), (7, .int (2))]) [0, 1, 2, 3, 4, 5, 6, 7] rfl ?_
  refine tv_iload X dX1_add_50 rfl ?_
  refine tv_iconst (v := 1) X dX1_add_52 (by decide) ?_
  refine tv_icmp_gt (tgt := 110) X dX1_add_53 (by decide) (fun h3 => ?_) (fun h3 => ?_)
  rotate_left
  · exact absurd (by decide) h3
  refine tv_iinc X dX1_add_110 rfl (show (1 : Int32) + Int32.ofInt 1 = 2 by decide) rfl ?_
  refine tv_goto (tgt := 41) X dX1_add_113 (by decide) ?_
  refine mm_L (L' := [(0, .ref (n0 + 103)), (1, .ref (n0 + (b + 1))), (2, .int (nI c1)), (3, .int ma), (4, .int (wr3 (sgS S b) (nI (c1 / 6)) (nI (c1 % 6)) (1) (wr3 (sgS S b) (nI (c1 / 6)) (nI (c1 % 6)) (0) (wr3 (sgS S b) (nI (c1 / 6)) (nI (c1 % 6)) (-1) (0))))), (5, .int (wc3 (sgS S b) (nI (c1 / 6)) (nI (c1 % 6)) (1) (wc3 (sgS S b) (nI (c1 / 6)) (nI (c1 % 6)) (0) (wc3 (sgS S b) (nI (c1 / 6)) (nI (c1 % 6)) (-1) (0))))), (6, .int (2)), (7, .int 2)]) rfl ?_
  refine tv_iload X dX1_add_41 rfl ?_
  refine tv_iconst (v := 1) X dX1_add_43 (by decide) ?_
  refine tv_icmp_gt (tgt := 116) X dX1_add_44 (by decide) (fun h4 => ?_) (fun h4 => ?_)
  rotate_left
  · exact absurd (by decide) h4
  refine tv_aload_n X dX1_add_116 rfl ?_
  refine mm_getf X dX1_add_117 gX1 iX1_add_X1 rfl 1 (by decide) kX1_add_15 rfl ?_
  refine tv_aload_n X dX1_add_120 rfl ?_
  refine mm_getf X dX1_add_121 gX1 iX1_add_X1 rfl 5 (by decide) kX1_add_41 rfl ?_
  rw [hk]
  refine tv_bipush (v := 100) X dX1_add_124 (by decide) ?_
  refine tv_iload X dX1_add_126 rfl ?_
  refine tv_imul X dX1_add_128 ?_
  refine tv_iload_n X dX1_add_129 rfl ?_
  refine tv_idiv X dX1_add_130 hmne ?_
  refine mm_iast X dX1_add_131 g105 k rfl hk6 (by decide) ?_
  refine tv_aload_n X dX1_add_132 rfl ?_
  refine mm_getf X dX1_add_133 gX1 iX1_add_X1 rfl 2 (by decide) kX1_add_18 rfl ?_
  refine tv_aload_n X dX1_add_136 rfl ?_
  refine mm_getf X dX1_add_137 gX1 iX1_add_X1 rfl 5 (by decide) kX1_add_41 rfl ?_
  have q1 : (mupd S 105 k (100 * wr9 (sgS S b) (nI (c1 / 6)) (nI (c1 % 6)) / ma)).1 103 5 = nI k := by rw [mupd_n (by decide)]; exact hk
  refine mm_st (S' := mupd S 105 k (100 * wr9 (sgS S b) (nI (c1 / 6)) (nI (c1 % 6)) / ma)) rfl ?_
  refine mm_tos (v := .int (nI k)) (by exact congrArg Value.int q1) ?_
  generalize hS1 : mupd S 105 k (100 * wr9 (sgS S b) (nI (c1 / 6)) (nI (c1 % 6)) / ma) = S1 at q1 ⊢
  refine tv_bipush (v := 100) X dX1_add_140 (by decide) ?_
  refine tv_iload X dX1_add_142 rfl ?_
  refine tv_imul X dX1_add_144 ?_
  refine tv_iload_n X dX1_add_145 rfl ?_
  refine tv_idiv X dX1_add_146 hmne ?_
  refine mm_iast X dX1_add_147 g106 k rfl hk6 (by decide) ?_
  refine tv_aload_n X dX1_add_148 rfl ?_
  refine mm_getf X dX1_add_149 gX1 iX1_add_X1 rfl 3 (by decide) kX1_add_21 rfl ?_
  refine tv_aload_n X dX1_add_152 rfl ?_
  refine mm_getf X dX1_add_153 gX1 iX1_add_X1 rfl 5 (by decide) kX1_add_41 rfl ?_
  have q2 : (mupd S1 106 k (100 * wc9 (sgS S b) (nI (c1 / 6)) (nI (c1 % 6)) / ma)).1 103 5 = nI k := by rw [mupd_n (by decide)]; exact q1
  refine mm_st (S' := mupd S1 106 k (100 * wc9 (sgS S b) (nI (c1 / 6)) (nI (c1 % 6)) / ma)) rfl ?_
  refine mm_tos (v := .int (nI k)) (by exact congrArg Value.int q2) ?_
  generalize hS2 : mupd S1 106 k (100 * wc9 (sgS S b) (nI (c1 / 6)) (nI (c1 % 6)) / ma) = S2 at q2 ⊢
  refine tv_iload_n X dX1_add_156 rfl ?_
  refine mm_iast X dX1_add_157 g107 k rfl hk6 (by decide) ?_
  refine tv_aload_n X dX1_add_158 rfl ?_
  refine mm_getf X dX1_add_159 gX1 iX1_add_X1 rfl 4 (by decide) kX1_add_24 rfl ?_
  refine tv_aload_n X dX1_add_162 rfl ?_
  refine mm_getf X dX1_add_163 gX1 iX1_add_X1 rfl 5 (by decide) kX1_add_41 rfl ?_
  have q3 : (mupd S2 107 k ma).1 103 5 = nI k := by rw [mupd_n (by decide)]; exact q2
  rw [q3]
  refine tv_iload_n X dX1_add_166 rfl ?_
  refine mm_iast X dX1_add_167 g108 k rfl hk6 (by decide) ?_
  refine tv_aload_n X dX1_add_168 rfl ?_
  refine tv_dup X dX1_add_169 rfl ?_
  refine mm_getf X dX1_add_170 gX1 iX1_add_X1 rfl 5 (by decide) kX1_add_41 rfl ?_
  have q4 : (mupd (mupd S2 107 k ma) 108 k (nI c1)).1 103 5 = nI k := by rw [mupd_n (by decide)]; exact q3
  rw [q4]
  refine tv_iconst (v := 1) X dX1_add_173 (by decide) ?_
  refine tv_iadd X dX1_add_174 ?_
  rw [nI_1]
  refine mm_put X dX1_add_175 gX1 iX1_add_X1 rfl tyX1 tyX1_ok nmX1 5 (by decide) kX1_add_41 rfl rfl rfl (Nat.le_of_ble_eq_true rfl) rfl ?_
  refine tv_vret X hrt dX1_add_178 ⟨_, rfl, ?_⟩
  rw [if_pos hk6]
  unfold addS
  rw [hma, hS1, hS2]

theorem iX1_find_X1 : ∀ w ∈ wsX10, w ∈ wsX1_find := by decide +kernel
theorem kX1_find_9 : Cond.fieldLink RX1 9 (TX1 0).1 (TX1 0).2.1 (TX1 0).2.2.1 ∈ wsX1_find := by decide +kernel
theorem kX1_find_41 : Cond.fieldLink RX1 41 (TX1 5).1 (TX1 5).2.1 (TX1 5).2.2.1 ∈ wsX1_find := by decide +kernel
/-- the candidates: the mass of a peak of a finger, 0 of any other -/
noncomputable def canS (S : mS) (b : Nat) (fl : Nat → Nat) (k : Nat) : Int32 := if (if fl k = 48 then (-1 : Int32) else kndR S (fl k)) = 0 ∧ pk9 (sgS S b) (sgS S b k) (nI (k / 6)) (nI (k % 6)) = true then mas9 (sgS S b) (nI (k / 6)) (nI (k % 6)) else 0
noncomputable def canI (S : mS) (b : Nat) (fl : Nat → Nat) (i : Nat) : Nat → Int32 := fun k => if k < i then canS S b fl k else S.1 104 k
/-- the contacts of the first i cells -/
noncomputable def cosU (S : mS) (b : Nat) : Nat → mS × Nat
  | 0 => (mupd S 103 5 0, 0)
  | i + 1 => if 0 < S.1 104 i ∧ hvr (S.1 104) i 48 < 6 ∧ (cosU S b i).2 < 6 then (addS (cosU S b i).1 b i (cosU S b i).2, (cosU S b i).2 + 1) else cosU S b i
theorem addS_n {S : mS} {b c k q : Nat} (h : q ≠ 103 ∧ q ≠ 105 ∧ q ≠ 106 ∧ q ≠ 107 ∧ q ≠ 108) : (addS S b c k).1 q = S.1 q := by
  unfold addS
  rw [mupd_n h.1, mupd_n h.2.2.2.2, mupd_n h.2.2.2.1, mupd_n h.2.2.1, mupd_n h.2.1]
theorem cosU_n {S : mS} {b i q : Nat} (h : q ≠ 103 ∧ q ≠ 105 ∧ q ≠ 106 ∧ q ≠ 107 ∧ q ≠ 108) : (cosU S b i).1.1 q = S.1 q := by
  induction i with
  | zero => exact mupd_n h.1
  | succ i ih =>
    unfold cosU
    split
    · rw [addS_n h]; exact ih
    · exact ih
theorem cosU_k {S : mS} {b i : Nat} : (cosU S b i).1.1 103 5 = nI (cosU S b i).2 ∧ (cosU S b i).2 ≤ 6 := by
  induction i with
  | zero => exact ⟨mupd_ss, Nat.zero_le _⟩
  | succ i ih =>
    unfold cosU
    split
    · refine ⟨mupd_ss, ?_⟩
      rename_i hc
      exact hc.2.2
    · exact ih
theorem cX1_find_ok (hb : mst b = true) {fl : Nat → Nat} (hfl : ∀ j, j < 48 → S.1 100 j = nI (fl j) ∧ fl j ≤ 48) : mMv l yX1_find wsX1_find rmX1_find D n0 ft [.ref (n0 + 103), .ref (n0 + (b + 1)), .ref (n0 + 99)] n S (fun S' => S' = (cosU (mset S 104 (canI S b fl 48)) b 48).1) := by
  have hbl := mst_le hb
  refine tv_enter (cc := cX1_find) (maxL := 5) (ret := none) (by decide) rfl (Nat.le_of_ble_eq_true rfl) ?_
  intro p e s m args below meth c X hrt hnm hargs
  refine tv_iconst (v := 0) X dX1_find_0 (by decide) ?_
  refine tv_istore_n X dX1_find_1 rfl ?_
  refine mm_st (S' := mset S 104 (canI S b fl 0)) ?_ ?_
  · rw [show canI S b fl 0 = S.1 104 from funext fun k => if_neg (Nat.not_lt_zero k)]
    exact mset_self.symm
  refine mm_cut (pc := 57) (fun _ : Unit => True) (fun _ => [(0, .ref (n0 + 103)), (1, .ref (n0 + (b + 1))), (2, .ref (n0 + 99)), (3, .int (nI 48))]) (fun _ => []) (fun _ => mset S 104 (canI S b fl 48)) ?_ ?_
  · intro _ _
    generalize mset S 104 (canI S b fl 48) = S1
    refine tv_aload_n X dX1_find_57 rfl ?_
    refine tv_iconst (v := 0) X dX1_find_58 (by decide) ?_
    refine mm_put X dX1_find_59 gX1 iX1_find_X1 rfl tyX1 tyX1_ok nmX1 5 (by decide) kX1_find_41 rfl rfl rfl (Nat.le_of_ble_eq_true rfl) rfl ?_
    refine tv_iconst (v := 0) X dX1_find_62 (by decide) ?_
    refine tv_istore_n X dX1_find_63 rfl ?_
    refine mm_for 48 (fun i => [(0, .ref (n0 + 103)), (1, .ref (n0 + (b + 1))), (2, .ref (n0 + 99)), (3, .int (nI i))]) (fun i => (cosU S1 b i).1) ?_ ?_
    · intro i hi ih
      dsimp only at ih
      have hcs : (cosU S1 b (i + 1)) = if 0 < S1.1 104 i ∧ hvr (S1.1 104) i 48 < 6 ∧ (cosU S1 b i).2 < 6 then (addS (cosU S1 b i).1 b i (cosU S1 b i).2, (cosU S1 b i).2 + 1) else cosU S1 b i := rfl
      rw [hcs] at ih
      have h104 : (cosU S1 b i).1.1 104 = S1.1 104 := cosU_n (by decide)
      obtain ⟨hk, hk6⟩ := cosU_k (S := S1) (b := b) (i := i)
      generalize cosU S1 b i = q at hk hk6 h104 ih ⊢
      refine tv_iload_n X dX1_find_64 rfl ?_
      refine tv_bipush (v := 48) X dX1_find_65 (by decide) ?_
      refine tv_icmp_ge (tgt := 101) X dX1_find_67 (by decide) (fun h1 => ?_) (fun h1 => ?_)
      · exact absurd h1 (nI_ge (a := i) (b := 48) hi (by decide))
      refine tv_aload_n X dX1_find_70 rfl ?_
      refine mm_getf X dX1_find_71 gX1 iX1_find_X1 rfl 0 (by decide) kX1_find_9 rfl ?_
      refine tv_iload_n X dX1_find_74 rfl ?_
      refine mm_iald X dX1_find_75 g104 _ rfl (by omega) (by decide) ?_
      rw [h104]
      refine tv_if_le (tgt := 95) X dX1_find_76 (by decide) (fun h2 => ?_) (fun h2 => ?_)
      · rw [if_neg (fun h => absurd h.1 (Int32.not_lt.mpr h2))] at ih
        refine tv_iinc X dX1_find_95 rfl (nI_1 i) rfl ?_
        refine tv_goto (tgt := 64) X dX1_find_98 (by decide) ?_
        exact ih
      refine tv_aload_n X dX1_find_79 rfl ?_
      refine tv_iload_n X dX1_find_80 rfl ?_
      refine mm_callVi (q := (RX1, TX1, 6)) X dX1_find_81 (cX1_heavierThan_ok hi) (cwV 1 X.2.2.2.2.1 gX1_find_X1_heavierThan rfl rfl rfl (by decide +kernel) ⟨Nat.le_of_ble_eq_true rfl, Nat.le_of_ble_eq_true rfl⟩) rfl rfl gX1 rfl (Nat.le_of_ble_eq_true rfl) ⟨Nat.zero_le _, Nat.zero_le _⟩ (fun r S2 hq => ?_)
      obtain ⟨hq1, hq2⟩ := hq
      rw [hq1, hq2, h104]
      refine tv_bipush (v := 6) X dX1_find_84 (by decide) ?_
      refine tv_icmp_ge (tgt := 95) X dX1_find_86 (by decide) (fun h3 => ?_) (fun h3 => ?_)
      · rw [if_neg (fun h => absurd h.2.1 (Int32.not_lt.mpr h3))] at ih
        refine tv_iinc X dX1_find_95 rfl (nI_1 i) rfl ?_
        refine tv_goto (tgt := 64) X dX1_find_98 (by decide) ?_
        exact ih
      refine tv_aload_n X dX1_find_89 rfl ?_
      refine tv_aload_n X dX1_find_90 rfl ?_
      refine tv_iload_n X dX1_find_91 rfl ?_
      refine mm_callVv (q := (RX1, TX1, 6)) X dX1_find_92 (cX1_add_ok hb hi (by rw [h104]; exact Int32.not_le.mp h2) hk hk6) (cwV 2 X.2.2.2.2.1 gX1_find_X1_add rfl rfl rfl (by decide +kernel) ⟨Nat.le_of_ble_eq_true rfl, Nat.le_of_ble_eq_true rfl⟩) rfl rfl gX1 rfl (Nat.le_of_ble_eq_true rfl) ⟨Nat.zero_le _, Nat.zero_le _⟩ (fun S3 hq3 => ?_)
      rw [hq3]
      refine tv_iinc X dX1_find_95 rfl (nI_1 i) rfl ?_
      refine tv_goto (tgt := 64) X dX1_find_98 (by decide) ?_
      by_cases hlt : q.2 < 6
      · rw [if_pos ⟨Int32.not_le.mp h2, Int32.not_le.mp h3, hlt⟩] at ih
        rw [if_pos hlt]
        exact ih
      · rw [if_neg (fun h => hlt h.2.2)] at ih
        rw [if_neg hlt]
        exact ih
    · refine tv_iload_n X dX1_find_64 rfl ?_
      refine tv_bipush (v := 48) X dX1_find_65 (by decide) ?_
      refine tv_icmp_ge (tgt := 101) X dX1_find_67 (by decide) (fun h1 => ?_) (fun h1 => ?_)
      · exact tv_vret X hrt dX1_find_101 ⟨_, rfl, rfl⟩
      · exact absurd (nI_le (Nat.le_refl 48) (by decide)) h1
  · intro hk
    refine mm_for 48 (fun i => [(0, .ref (n0 + 103)), (1, .ref (n0 + (b + 1))), (2, .ref (n0 + 99)), (3, .int (nI i))]) (fun i => mset S 104 (canI S b fl i)) ?_ ?_
    · intro i hi ih
      have hsg : ∀ f, sgS (mset S 104 f) b = sgS S b := fun f => funext fun j => sgS_set (by omega) (by omega)
      have hknd : ∀ f j, kndR (mset S 104 f) j = kndR S j := fun f j => by
        unfold kndR
        rw [mset_n (by decide), mset_n (by decide), mset_n (by decide)]
      have hT : ∀ v, v = canS S b fl i → mupd (mset S 104 (canI S b fl i)) 104 i v = mset S 104 (canI S b fl (i + 1)) := by
        intro v hv
        subst hv
        show mset (mset _ _ _) _ (upd ((mset _ _ _).1 _) _ _) = _
        rw [mset_mset, mset_s]
        refine congrArg (mset S 104) (funext fun k => ?_)
        unfold upd canI
        by_cases e1 : k = i
        · subst e1; rw [if_pos rfl, if_pos (Nat.lt_succ_self k)]
        · rw [if_neg e1]
          by_cases e2 : k < i
          · rw [if_pos e2, if_pos (Nat.lt_succ_of_lt e2)]
          · rw [if_neg e2, if_neg (by omega)]
      have hfi : (mset S 104 (canI S b fl i)).1 100 i = nI (fl i) := by rw [mset_n (by decide)]; exact (hfl i hi).1
      refine tv_iload_n X dX1_find_2 rfl ?_
      refine tv_bipush (v := 48) X dX1_find_3 (by decide) ?_
      refine tv_icmp_ge (tgt := 57) X dX1_find_5 (by decide) (fun h1 => ?_) (fun h1 => ?_)
      · exact absurd h1 (nI_ge (a := i) (b := 48) hi (by decide))
      refine tv_aload_n X dX1_find_8 rfl ?_
      refine tv_iload_n X dX1_find_9 rfl ?_
      refine mm_callVi (q := (RX5, TX5, 5)) X dX1_find_10 (cX5_kindAround_ok hi hfi (hfl i hi).2) (cwV 1 X.2.2.2.2.1 gX1_find_X5_kindAround rfl rfl rfl (by decide +kernel) ⟨Nat.le_of_ble_eq_true rfl, Nat.le_of_ble_eq_true rfl⟩) rfl rfl gX5 rfl (Nat.le_of_ble_eq_true rfl) ⟨Nat.zero_le _, Nat.zero_le _⟩ (fun r S2 hq => ?_)
      obtain ⟨hq1, hq2⟩ := hq
      rw [hq1, hq2, hknd]
      clear hq1 hq2 S2 r
      refine mm_cut (pc := 29) (fun v : Int32 => v = if (if fl i = 48 then (-1 : Int32) else kndR S (fl i)) = 0 ∧ pk9 (sgS S b) (sgS S b i) (nI (i / 6)) (nI (i % 6)) = true then 1 else 0) (fun _ => [(0, .ref (n0 + 103)), (1, .ref (n0 + (b + 1))), (2, .ref (n0 + 99)), (3, .int (nI i))]) (fun v => [.int v]) (fun _ => mset S 104 (canI S b fl i)) ?_ ?_
      · intro v hv
        refine tv_istore X dX1_find_29 rfl ?_
        refine tv_aload_n X dX1_find_31 rfl ?_
        refine mm_getf X dX1_find_32 gX1 iX1_find_X1 rfl 0 (by decide) kX1_find_9 rfl ?_
        refine tv_iload_n X dX1_find_35 rfl ?_
        refine tv_iload X dX1_find_36 rfl ?_
        refine tv_if_eq (tgt := 49) X dX1_find_38 (by decide) (fun h2 => ?_) (fun h2 => ?_)
        · refine tv_iconst (v := 0) X dX1_find_49 (by decide) ?_
          refine mm_iast X dX1_find_50 g104 i rfl hi (by decide) ?_
          refine tv_iinc X dX1_find_51 rfl (nI_1 i) rfl ?_
          refine tv_goto (tgt := 2) X dX1_find_54 (by decide) ?_
          refine mm_st (hT 0 ?_) (tv_sl [0, 1, 2, 3] rfl ih)
          unfold canS
          rw [if_neg]
          intro hh
          rw [if_pos hh] at hv
          rw [hv] at h2
          exact absurd h2 (by decide)
        · refine tv_aload_n X dX1_find_41 rfl ?_
          refine tv_iload_n X dX1_find_42 rfl ?_
          refine mm_callSi X dX1_find_43 (cX1_massAround_ok hb hi) (va_cwS 2 X.2.2.2.2.1 gX1_find_X1_massAround rfl rfl rfl (by decide +kernel) ⟨Nat.le_of_ble_eq_true rfl, Nat.le_of_ble_eq_true rfl⟩) rfl rfl (Nat.le_of_ble_eq_true rfl) ⟨Nat.zero_le _, Nat.zero_le _⟩ (fun r S2 hq => ?_)
          obtain ⟨hq1, hq2⟩ := hq
          rw [hq1, hq2, hsg]
          refine tv_goto (tgt := 50) X dX1_find_46 (by decide) ?_
          refine mm_iast X dX1_find_50 g104 i rfl hi (by decide) ?_
          refine tv_iinc X dX1_find_51 rfl (nI_1 i) rfl ?_
          refine tv_goto (tgt := 2) X dX1_find_54 (by decide) ?_
          refine mm_st (hT _ ?_) (tv_sl [0, 1, 2, 3] rfl ih)
          unfold canS
          rw [if_pos]
          by_cases hh : (if fl i = 48 then (-1 : Int32) else kndR S (fl i)) = 0 ∧ pk9 (sgS S b) (sgS S b i) (nI (i / 6)) (nI (i % 6)) = true
          · exact hh
          · rw [if_neg hh] at hv
            exact absurd hv h2
      · intro hcut
        refine tv_if_ne (tgt := 28) X dX1_find_13 (by decide) (fun h2 => ?_) (fun h2 => ?_)
        · refine tv_iconst (v := 0) X dX1_find_28 (by decide) ?_
          exact hcut 0 (if_neg (fun h => h2 h.1)).symm
        · refine tv_aload_n X dX1_find_16 rfl ?_
          refine tv_iload_n X dX1_find_17 rfl ?_
          refine mm_callSi X dX1_find_18 (cX1_isPeak_ok hb hi) (va_cwS 2 X.2.2.2.2.1 gX1_find_X1_isPeak rfl rfl rfl (by decide +kernel) ⟨Nat.le_of_ble_eq_true rfl, Nat.le_of_ble_eq_true rfl⟩) rfl rfl (Nat.le_of_ble_eq_true rfl) ⟨Nat.zero_le _, Nat.zero_le _⟩ (fun r S2 hq => ?_)
          obtain ⟨hq1, hq2⟩ := hq
          rw [hq1, hq2, hsg]
          by_cases hp : pk9 (sgS S b) (sgS S b i) (nI (i / 6)) (nI (i % 6)) = true
          · rw [if_pos hp]
            refine tv_if_eq (tgt := 28) X dX1_find_21 (by decide) (fun h3 => ?_) (fun h3 => ?_)
            · exact absurd h3 (by decide)
            refine tv_iconst (v := 1) X dX1_find_24 (by decide) ?_
            refine tv_goto (tgt := 29) X dX1_find_25 (by decide) ?_
            exact hcut 1 (if_pos ⟨h2, hp⟩).symm
          · rw [if_neg hp]
            refine tv_if_eq (tgt := 28) X dX1_find_21 (by decide) (fun h3 => ?_) (fun h3 => ?_)
            rotate_left
            · exact absurd rfl h3
            refine tv_iconst (v := 0) X dX1_find_28 (by decide) ?_
            exact hcut 0 (if_neg (fun h => hp h.2)).symm
    · refine tv_iload_n X dX1_find_2 rfl ?_
      refine tv_bipush (v := 48) X dX1_find_3 (by decide) ?_
      refine tv_icmp_ge (tgt := 57) X dX1_find_5 (by decide) (fun h1 => ?_) (fun h1 => ?_)
      · exact hk () trivial
      · exact absurd (nI_le (Nat.le_refl 48) (by decide)) h1
end C20

