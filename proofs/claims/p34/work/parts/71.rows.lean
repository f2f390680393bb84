/-! the law's small methods -/
section C66
variable {p : Program} {l : Launch} {e : Env} {R : Room} {s : State} {m : MethodId} {args : Array Value} {below : List Frame} {meth : Method} {c : Code} {Q : State → Prop} {D : va_G} {n0 cells slots nL pc : Nat} {L : List (Nat × Value)} {st : List Value} {n : Nat} {h : tv_H} {cc : ByteArray} {own : String} {Ts : List Cond} {ft : tv_ft}
theorem ts_sld (X : tv_X p s m args meth c cc nL own Ts D vwCl n0 ft) (d : decode cc pc = .ok (.iaload, 1)) {i : Int32} (hin : vp_in i ft.2.2.2.2.1) (kk : tv_V p l e R s m args below meth c Q D vwCl n0 cells slots nL (pc + 1) L (.int (ft.2.2.2.2.2 i.toNatClampNeg) :: st) n h) : tv_V p l e R s m args below meth c Q D vwCl n0 cells slots nL pc L (.int i :: .ref ft.2.2.2.1 :: st) n h := fun H locs ls hr hS hh => va_sld X.1 X.2.1 X.2.2.2.2.2.1.2.1.2.2.2.1 (va_X_lt X.2.2.2.2.2.1.2.1.2.2.2.1) (Nat.not_le.mpr X.2.2.2.2.2.1.2.1.2.2.2.2) hS hin d (kk H locs ls hr hS hh)
theorem ts_len (X : tv_X p s m args meth c cc nL own Ts D vwCl n0 ft) (d : decode cc pc = .ok (.arraylength, 1)) (kk : tv_V p l e R s m args below meth c Q D vwCl n0 cells slots nL (pc + 1) L (.int (nI ft.2.2.2.2.1) :: st) n h) : tv_V p l e R s m args below meth c Q D vwCl n0 cells slots nL pc L (.ref ft.2.2.2.1 :: st) n h := fun H locs ls hr hS hh => va_slen X.1 X.2.1 X.2.2.2.2.2.1.2.1.2.2.2.1 (va_X_lt X.2.2.2.2.2.1.2.1.2.2.2.1) (Nat.not_le.mpr X.2.2.2.2.2.1.2.1.2.2.2.2) hS d (kk H locs ls hr hS hh)
end C66
def upN (x : Int32) (n : Nat) : Nat := (x.toBitVec.toNat % 2 ^ 31) % n
/-- what the law tells of the state -/
noncomputable def tdA (v : Nat → Int32) : Nat → Int64
  | 0 => 31 * (31 * (31 * (v 131).toInt64 + (v 132).toInt64) + (v 133).toInt64) + (nI (kV v)).toInt64
  | k + 1 => 31 * (31 * tdA v k + (v k).toInt64) + (sgV v k).toInt64
noncomputable def tdB (v : Nat → Int32) : Nat → Int64
  | 0 => tdA v 48
  | k + 1 => 31 * tdB v k + (if dnB v (k / 4) then v (101 + 5 * (k / 4) + (k % 4 + 1)) else -1).toInt64
noncomputable def tdC (v : Nat → Int32) : Nat → Int64
  | 0 => tdB v 24
  | k + 1 => 31 * tdC v k + (v (96 + k)).toInt64
section C66b
variable {l : Launch} {D : va_G} {n0 : Nat} {ft : tv_ft} {n : Nat} {S : mS}
theorem kcL_cell_7 : Cond.constant RL 7 1812433253 ∈ wsL_cell := by decide +kernel
theorem cL_cell_ok (hL : ft.2.2.2.2.1 ≤ 260) {k : Nat} (hk : k < 1000) : mMi l yL_cell wsL_cell rmL_cell D n0 ft [.ref ft.2.2.2.1, .int (nI k)] n S (fun r S' => S' = S) := by
  refine tv_enter (cc := cL_cell) (maxL := 2) (ret := (some .int)) (by decide) rfl (Nat.le_of_ble_eq_true rfl) ?_
  intro p e s m args below meth c X hrt hnm hargs
  refine tv_iload_n X dL_cell_0 rfl ?_
  refine tv_aload_n X dL_cell_1 rfl ?_
  refine ts_len X dL_cell_2 ?_
  refine tv_icmp_ge (tgt := 12) X dL_cell_3 (by decide) (fun h1 => ?_) (fun h1 => ?_)
  · refine tv_ldc X kcL_cell_7 dL_cell_12 ?_
    refine tv_iload_n X dL_cell_14 rfl ?_
    refine tv_sipush (v := 271) X dL_cell_15 (by decide) ?_
    refine tv_iadd X dL_cell_18 ?_
    refine tv_imul X dL_cell_19 ?_
    exact tv_iret X hrt dL_cell_20 ⟨_, rfl, rfl⟩
  · have hlt : k < ft.2.2.2.2.1 := Nat.lt_of_not_le fun h9 => h1 (nI_le h9 (by omega))
    refine tv_aload_n X dL_cell_6 rfl ?_
    refine tv_iload_n X dL_cell_7 rfl ?_
    refine ts_sld X dL_cell_8 (vp_in_nI hlt (by omega)) ?_
    refine tv_goto (tgt := 20) X dL_cell_9 (by decide) ?_
    exact tv_iret X hrt dL_cell_20 ⟨_, rfl, rfl⟩
theorem kcL_up_8 : Cond.constant RL 8 2147483647 ∈ wsL_up := by decide +kernel
theorem cL_up_ok (x : Int32) {q : Nat} (h0 : 0 < q) (hq : q < 2 ^ 30) : mMi l yL_up wsL_up rmL_up D n0 ft [.int x, .int (nI q)] n S (fun r S' => S' = S ∧ r = nI (upN x q)) := by
  refine tv_enter (cc := cL_up) (maxL := 2) (ret := (some .int)) (by decide) rfl (Nat.le_of_ble_eq_true rfl) ?_
  intro p e s m args below meth c X hrt hnm hargs
  refine tv_iload_n X dL_up_0 rfl ?_
  refine tv_ldc X kcL_up_8 dL_up_1 ?_
  refine tv_iand X dL_up_3 ?_
  rw [pk_and x (m := 2147483647) 31 (by decide)]
  refine tv_iload_n X dL_up_4 rfl ?_
  refine tv_irem X dL_up_5 (nI_ne0 h0 (by omega)) ?_
  rw [pk_rem (Nat.mod_lt _ (by decide)) h0 (by omega)]
  exact tv_iret X hrt dL_up_6 ⟨_, rfl, rfl, rfl⟩
theorem cL_bits_ok (x : Int32) : mMi l yL_bits wsL_bits rmL_bits D n0 ft [.int x] n S (fun r S' => S' = S ∧ r = btI x 6) := by
  refine tv_enter (cc := cL_bits) (maxL := 3) (ret := (some .int)) (by decide) rfl (Nat.le_of_ble_eq_true rfl) ?_
  intro p e s m args below meth c X hrt hnm hargs
  refine tv_iconst (v := 0) X dL_bits_0 (by decide) ?_
  refine tv_istore_n X dL_bits_1 rfl ?_
  refine tv_iconst (v := 0) X dL_bits_2 (by decide) ?_
  refine tv_istore_n X dL_bits_3 rfl ?_
  refine mm_for 6 (fun i => [(0, .int x), (1, .int (btI x i)), (2, .int (nI i))]) (fun _ => S) ?_ ?_
  · intro i hi ih
    refine tv_iload_n X dL_bits_4 rfl ?_
    refine tv_bipush (v := 6) X dL_bits_5 (by decide) ?_
    refine tv_icmp_ge (tgt := 24) X dL_bits_7 (by decide) (fun h1 => ?_) (fun h1 => ?_)
    · exact absurd h1 (nI_ge (a := i) (b := 6) hi (by decide))
    refine tv_iload_n X dL_bits_10 rfl ?_
    refine tv_iload_n X dL_bits_11 rfl ?_
    refine tv_iload_n X dL_bits_12 rfl ?_
    refine tv_ishr X dL_bits_13 ?_
    refine tv_iconst (v := 1) X dL_bits_14 (by decide) ?_
    refine tv_iand X dL_bits_15 ?_
    refine tv_iadd X dL_bits_16 ?_
    refine tv_istore_n X dL_bits_17 rfl ?_
    refine tv_iinc X dL_bits_18 rfl (nI_1 i) rfl ?_
    refine tv_goto (tgt := 4) X dL_bits_21 (by decide) ?_
    exact ih
  · refine tv_iload_n X dL_bits_4 rfl ?_
    refine tv_bipush (v := 6) X dL_bits_5 (by decide) ?_
    refine tv_icmp_ge (tgt := 24) X dL_bits_7 (by decide) (fun h1 => ?_) (fun h1 => ?_)
    · refine tv_iload_n X dL_bits_24 rfl ?_
      exact tv_iret X hrt dL_bits_25 ⟨_, rfl, rfl, rfl⟩
    · exact absurd (nI_le (Nat.le_refl 6) (by decide)) h1
theorem cL_downSet_ok (hG : GV (vw S 1)) : mMi l yL_downSet wsL_downSet rmL_downSet D n0 ft [.ref (n0 + 0)] n S (fun r S' => S' = S ∧ r = nI (dsV (vw S 1) 6)) := by
  refine tv_enter (cc := cL_downSet) (maxL := 3) (ret := (some .int)) (by decide) rfl (Nat.le_of_ble_eq_true rfl) ?_
  intro p e s m args below meth c X hrt hnm hargs
  refine tv_iconst (v := 0) X dL_downSet_0 (by decide) ?_
  refine tv_istore_n X dL_downSet_1 rfl ?_
  refine tv_iconst (v := 0) X dL_downSet_2 (by decide) ?_
  refine tv_istore_n X dL_downSet_3 rfl ?_
  refine mm_for 6 (fun i => [(0, .ref (n0 + 0)), (1, .int (nI (dsV (vw S 1) i))), (2, .int (nI i))]) (fun _ => S) ?_ ?_
  · intro i hi ih
    dsimp only at ih
    have hd : dsV (vw S 1) (i + 1) = if dnB (vw S 1) i then dsV (vw S 1) i ||| 1 <<< i else dsV (vw S 1) i := by
      rw [dsV]
      cases hd : dnB (vw S 1) i with
      | true => rw [if_neg (dn_iff.mp hd), if_pos rfl]
      | false => rw [if_pos (up_iff.mp hd), if_neg (by decide)]
    have hlt := ds_lt (v := vw S 1) i (by omega)
    refine tv_iload_n X dL_downSet_4 rfl ?_
    refine tv_bipush (v := 6) X dL_downSet_5 (by decide) ?_
    refine tv_icmp_ge (tgt := 34) X dL_downSet_7 (by decide) (fun h1 => ?_) (fun h1 => ?_)
    · exact absurd h1 (nI_ge (a := i) (b := 6) hi (by decide))
    refine tv_iload_n X dL_downSet_10 rfl ?_
    refine tv_aload_n X dL_downSet_11 rfl ?_
    refine tv_iload_n X dL_downSet_12 rfl ?_
    refine mm_callVi (q := (RX9, TX9, 8)) X dL_downSet_13 (fX9_isDown hG hi) (cwV 1 X.2.2.2.2.1 gL_downSet_X9_isDown rfl rfl rfl (by decide +kernel) ⟨Nat.le_of_ble_eq_true rfl, Nat.le_of_ble_eq_true rfl⟩) rfl rfl gX9 rfl (Nat.le_of_ble_eq_true rfl) ⟨Nat.zero_le _, Nat.zero_le _⟩ (fun r S1 hq => ?_)
    obtain ⟨hq1, ⟨hq2, hq3⟩ | ⟨hq2, hq3⟩⟩ := hq
    · rw [hq1, hq2]
      rw [hq3, if_neg (by decide)] at hd
      refine tv_if_eq (tgt := 25) X dL_downSet_16 (by decide) (fun h2 => ?_) (fun h2 => ?_)
      · refine tv_iconst (v := 0) X dL_downSet_25 (by decide) ?_
        refine tv_ior X dL_downSet_26 ?_
        rw [Int32.or_zero]
        refine tv_istore_n X dL_downSet_27 rfl ?_
        refine tv_iinc X dL_downSet_28 rfl (nI_1 i) rfl ?_
        refine tv_goto (tgt := 4) X dL_downSet_31 (by decide) ?_
        rw [← hd]
        exact ih
      · exact absurd rfl h2
    · rw [hq1, hq2]
      rw [hq3, if_pos rfl] at hd
      refine tv_if_eq (tgt := 25) X dL_downSet_16 (by decide) (fun h2 => ?_) (fun h2 => ?_)
      · exact absurd h2 (by decide)
      · refine tv_iconst (v := 1) X dL_downSet_19 (by decide) ?_
        refine tv_iload_n X dL_downSet_20 rfl ?_
        refine tv_ishl X dL_downSet_21 ?_
        refine tv_goto (tgt := 26) X dL_downSet_22 (by decide) ?_
        refine tv_ior X dL_downSet_26 ?_
        rw [(or6 _ hlt i hi).1]
        refine tv_istore_n X dL_downSet_27 rfl ?_
        refine tv_iinc X dL_downSet_28 rfl (nI_1 i) rfl ?_
        refine tv_goto (tgt := 4) X dL_downSet_31 (by decide) ?_
        rw [← hd]
        exact ih
  · refine tv_iload_n X dL_downSet_4 rfl ?_
    refine tv_bipush (v := 6) X dL_downSet_5 (by decide) ?_
    refine tv_icmp_ge (tgt := 34) X dL_downSet_7 (by decide) (fun h1 => ?_) (fun h1 => ?_)
    · refine tv_iload_n X dL_downSet_34 rfl ?_
      exact tv_iret X hrt dL_downSet_35 ⟨_, rfl, rfl, rfl⟩
    · exact absurd (nI_le (Nat.le_refl 6) (by decide)) h1
theorem klL_told_9 : Cond.constantLong RL 9 31 ∈ wsL_told := by decide +kernel
theorem cL_told_ok : mMl l yL_told wsL_told rmL_told D n0 ft [.ref (n0 + 0)] n S (fun r S' => QS S S' ∧ r = tdC (vw S 1) 5) := by
  unfold mMl tv_Ml
  refine tv_enter (cc := cL_told) (maxL := 4) (ret := (some .long)) (by decide) rfl (Nat.le_of_ble_eq_true rfl) ?_
  intro p e s m args below meth c X hrt hnm hargs
  refine tg_ldc2 X klL_told_9 dL_told_0 ?_
  refine tg_ldc2 X klL_told_9 dL_told_3 ?_
  refine tg_ldc2 X klL_told_9 dL_told_6 ?_
  refine tv_aload_n X dL_told_9 rfl ?_
  refine mm_callVi (q := (RX9, TX9, 8)) X dL_told_10 (fX9_frames) (cwV 0 X.2.2.2.2.1 gL_told_X9_frames rfl rfl rfl (by decide +kernel) ⟨Nat.le_of_ble_eq_true rfl, Nat.le_of_ble_eq_true rfl⟩) rfl rfl gX9 rfl (Nat.le_of_ble_eq_true rfl) ⟨Nat.zero_le _, Nat.zero_le _⟩ (fun r S1 hq => ?_)
  obtain ⟨hq1, hq2⟩ := hq
  rw [hq1, hq2]
  clear hq1 hq2
  refine tv_i2l X dL_told_13 ?_
  refine tg_lmul X dL_told_14 ?_
  refine tv_aload_n X dL_told_15 rfl ?_
  refine mm_callVi (q := (RX9, TX9, 8)) X dL_told_16 (fX9_downs) (cwV 0 X.2.2.2.2.1 gL_told_X9_downs rfl rfl rfl (by decide +kernel) ⟨Nat.le_of_ble_eq_true rfl, Nat.le_of_ble_eq_true rfl⟩) rfl rfl gX9 rfl (Nat.le_of_ble_eq_true rfl) ⟨Nat.zero_le _, Nat.zero_le _⟩ (fun r S1 hq => ?_)
  obtain ⟨hq1, hq2⟩ := hq
  rw [hq1, hq2]
  clear hq1 hq2
  refine tv_i2l X dL_told_19 ?_
  refine tg_ladd X dL_told_20 ?_
  refine tg_lmul X dL_told_21 ?_
  refine tv_aload_n X dL_told_22 rfl ?_
  refine mm_callVi (q := (RX9, TX9, 8)) X dL_told_23 (fX9_ups) (cwV 0 X.2.2.2.2.1 gL_told_X9_ups rfl rfl rfl (by decide +kernel) ⟨Nat.le_of_ble_eq_true rfl, Nat.le_of_ble_eq_true rfl⟩) rfl rfl gX9 rfl (Nat.le_of_ble_eq_true rfl) ⟨Nat.zero_le _, Nat.zero_le _⟩ (fun r S1 hq => ?_)
  obtain ⟨hq1, hq2⟩ := hq
  rw [hq1, hq2]
  clear hq1 hq2
  refine tv_i2l X dL_told_26 ?_
  refine tg_ladd X dL_told_27 ?_
  refine tg_lmul X dL_told_28 ?_
  refine tv_aload_n X dL_told_29 rfl ?_
  refine mm_callVi (q := (RX9, TX9, 8)) X dL_told_30 (fX9_contacts) (cwV 0 X.2.2.2.2.1 gL_told_X9_contacts rfl rfl rfl (by decide +kernel) ⟨Nat.le_of_ble_eq_true rfl, Nat.le_of_ble_eq_true rfl⟩) rfl rfl gX9 rfl (Nat.le_of_ble_eq_true rfl) ⟨Nat.zero_le _, Nat.zero_le _⟩ (fun r S1 hq => ?_)
  obtain ⟨hQ, hq2⟩ := hq
  rw [hq2]
  clear hq2
  have hv : vw S1 1 = vw S 1 := hQ.vw1
  refine tv_i2l X dL_told_33 ?_
  refine tg_ladd X dL_told_34 ?_
  refine tg_lstore_n X dL_told_35 rfl (by decide) rfl ?_
  refine tv_iconst (v := 0) X dL_told_36 (by decide) ?_
  refine tg_istore_n X dL_told_37 rfl (by decide) rfl ?_
  refine tv_sl (L' := [(0, .ref (n0 + 0)), (1, .long (tdA (vw S 1) 0)), (3, .int (nI 0))]) [2, 1, 0] rfl ?_
  refine mm_cut (pc := 122) (fun _ : Unit => True) (fun _ => [(0, .ref (n0 + 0)), (1, .long (tdC (vw S 1) 0)), (3, .int (nI 0))]) (fun _ => []) (fun _ => S1) ?_ ?_
  · intro _ _
    refine mm_for 5 (fun i => [(0, .ref (n0 + 0)), (1, .long (tdC (vw S 1) i)), (3, .int (nI i))]) (fun _ => S1) ?_ ?_
    · intro i hi ih
      refine tv_iload_n X dL_told_122 rfl ?_
      refine tv_iconst (v := 5) X dL_told_123 (by decide) ?_
      refine tv_icmp_ge (tgt := 146) X dL_told_124 (by decide) (fun h1 => ?_) (fun h1 => ?_)
      · exact absurd h1 (nI_ge (a := i) (b := 5) hi (by decide))
      refine tg_ldc2 X klL_told_9 dL_told_127 ?_
      refine tg_lload_n X dL_told_130 rfl ?_
      refine tg_lmul X dL_told_131 ?_
      refine tv_aload_n X dL_told_132 rfl ?_
      refine tv_iload_n X dL_told_133 rfl ?_
      refine mm_callVi (q := (RX9, TX9, 8)) X dL_told_134 (fX9_setting hi) (cwV 1 X.2.2.2.2.1 gL_told_X9_setting rfl rfl rfl (by decide +kernel) ⟨Nat.le_of_ble_eq_true rfl, Nat.le_of_ble_eq_true rfl⟩) rfl rfl gX9 rfl (Nat.le_of_ble_eq_true rfl) ⟨Nat.zero_le _, Nat.zero_le _⟩ (fun r S2 hq => ?_)
      obtain ⟨hq1, hq2⟩ := hq
      rw [hq1, hq2, hv]
      clear hq1 hq2
      refine tv_i2l X dL_told_137 ?_
      refine tg_ladd X dL_told_138 ?_
      refine tg_lstore_n X dL_told_139 rfl (by decide) rfl ?_
      refine tg_iinc X dL_told_140 rfl (nI_1 i) (by decide) rfl ?_
      refine tv_goto (tgt := 122) X dL_told_143 (by decide) ?_
      exact tv_sl [2, 1, 0] rfl ih
    · refine tv_iload_n X dL_told_122 rfl ?_
      refine tv_iconst (v := 5) X dL_told_123 (by decide) ?_
      refine tv_icmp_ge (tgt := 146) X dL_told_124 (by decide) (fun h1 => ?_) (fun h1 => ?_)
      · refine tg_lload_n X dL_told_146 rfl ?_
        exact tg_lret X hrt dL_told_147 ⟨_, rfl, hQ, rfl⟩
      · exact absurd (nI_le (Nat.le_refl 5) (by decide)) h1
  intro hC
  refine mm_cut (pc := 90) (fun _ : Unit => True) (fun _ => [(0, .ref (n0 + 0)), (1, .long (tdB (vw S 1) 0)), (3, .int (nI 0))]) (fun _ => []) (fun _ => S1) ?_ ?_
  · intro _ _
    refine mm_for 24 (fun i => [(0, .ref (n0 + 0)), (1, .long (tdB (vw S 1) i)), (3, .int (nI i))]) (fun _ => S1) ?_ ?_
    · intro i hi ih
      refine tv_iload_n X dL_told_90 rfl ?_
      refine tv_bipush (v := 24) X dL_told_91 (by decide) ?_
      refine tv_icmp_ge (tgt := 120) X dL_told_93 (by decide) (fun h1 => ?_) (fun h1 => ?_)
      · exact absurd h1 (nI_ge (a := i) (b := 24) hi (by decide))
      refine tg_ldc2 X klL_told_9 dL_told_96 ?_
      refine tg_lload_n X dL_told_99 rfl ?_
      refine tg_lmul X dL_told_100 ?_
      refine tv_aload_n X dL_told_101 rfl ?_
      refine tv_iload_n X dL_told_102 rfl ?_
      refine tv_iconst (v := 4) X dL_told_103 (by decide) ?_
      refine tv_idiv X dL_told_104 (by decide) ?_
      refine tv_iload_n X dL_told_105 rfl ?_
      refine tv_iconst (v := 4) X dL_told_106 (by decide) ?_
      refine tv_irem X dL_told_107 (by decide) ?_
      rw [show nI i - nI i / 4 * 4 = nI (i % 4) from pk_rem (d := 4) (by omega) (by decide) (by decide), show nI i / 4 = nI (i / 4) from pk_div (d := 4) (by omega) (by decide) (by decide)]
      refine mm_callVi (q := (RX9, TX9, 8)) X dL_told_108 (fX9_track (t := i / 4) (q := i % 4) (by omega) (by omega)) (cwV 2 X.2.2.2.2.1 gL_told_X9_track rfl rfl rfl (by decide +kernel) ⟨Nat.le_of_ble_eq_true rfl, Nat.le_of_ble_eq_true rfl⟩) rfl rfl gX9 rfl (Nat.le_of_ble_eq_true rfl) ⟨Nat.zero_le _, Nat.zero_le _⟩ (fun r S2 hq => ?_)
      obtain ⟨hq1, hq2⟩ := hq
      rw [hq1, hq2, hv]
      clear hq1 hq2
      refine tv_i2l X dL_told_111 ?_
      refine tg_ladd X dL_told_112 ?_
      refine tg_lstore_n X dL_told_113 rfl (by decide) rfl ?_
      refine tg_iinc X dL_told_114 rfl (nI_1 i) (by decide) rfl ?_
      refine tv_goto (tgt := 90) X dL_told_117 (by decide) ?_
      exact tv_sl [2, 1, 0] rfl ih
    · refine tv_iload_n X dL_told_90 rfl ?_
      refine tv_bipush (v := 24) X dL_told_91 (by decide) ?_
      refine tv_icmp_ge (tgt := 120) X dL_told_93 (by decide) (fun h1 => ?_) (fun h1 => ?_)
      · refine tv_iconst (v := 0) X dL_told_120 (by decide) ?_
        refine tg_istore_n X dL_told_121 rfl (by decide) rfl ?_
        exact tv_sl [1, 2, 0] rfl (hC () trivial)
      · exact absurd (nI_le (Nat.le_refl 24) (by decide)) h1
  intro hB
  refine mm_for 48 (fun i => [(0, .ref (n0 + 0)), (1, .long (tdA (vw S 1) i)), (3, .int (nI i))]) (fun _ => S1) ?_ ?_
  · intro i hi ih
    refine tv_iload_n X dL_told_38 rfl ?_
    refine tv_bipush (v := 48) X dL_told_39 (by decide) ?_
    refine tv_icmp_ge (tgt := 88) X dL_told_41 (by decide) (fun h1 => ?_) (fun h1 => ?_)
    · exact absurd h1 (nI_ge (a := i) (b := 48) hi (by decide))
    refine tg_ldc2 X klL_told_9 dL_told_44 ?_
    refine tg_ldc2 X klL_told_9 dL_told_47 ?_
    refine tg_lload_n X dL_told_50 rfl ?_
    refine tg_lmul X dL_told_51 ?_
    refine tv_aload_n X dL_told_52 rfl ?_
    refine tv_iload_n X dL_told_53 rfl ?_
    refine tv_bipush (v := 6) X dL_told_54 (by decide) ?_
    refine tv_idiv X dL_told_56 (by decide) ?_
    refine tv_iload_n X dL_told_57 rfl ?_
    refine tv_bipush (v := 6) X dL_told_58 (by decide) ?_
    refine tv_irem X dL_told_60 (by decide) ?_
    rw [rem6 hi, div6 hi]
    refine mm_callVi (q := (RX9, TX9, 8)) X dL_told_61 (fX9_raw (i := i / 6) (j := i % 6) (by omega) (by omega)) (cwV 2 X.2.2.2.2.1 gL_told_X9_raw rfl rfl rfl (by decide +kernel) ⟨Nat.le_of_ble_eq_true rfl, Nat.le_of_ble_eq_true rfl⟩) rfl rfl gX9 rfl (Nat.le_of_ble_eq_true rfl) ⟨Nat.zero_le _, Nat.zero_le _⟩ (fun r S2 hq => ?_)
    obtain ⟨hq1, hq2⟩ := hq
    rw [hq1, hq2, hv, show 6 * (i / 6) + i % 6 = i by omega]
    clear hq1 hq2
    refine tv_i2l X dL_told_64 ?_
    refine tg_ladd X dL_told_65 ?_
    refine tg_lmul X dL_told_66 ?_
    refine tv_aload_n X dL_told_67 rfl ?_
    refine tv_iload_n X dL_told_68 rfl ?_
    refine tv_bipush (v := 6) X dL_told_69 (by decide) ?_
    refine tv_idiv X dL_told_71 (by decide) ?_
    refine tv_iload_n X dL_told_72 rfl ?_
    refine tv_bipush (v := 6) X dL_told_73 (by decide) ?_
    refine tv_irem X dL_told_75 (by decide) ?_
    rw [rem6 hi, div6 hi]
    refine mm_callVi (q := (RX9, TX9, 8)) X dL_told_76 (fX9_signal (i := i / 6) (j := i % 6) (by omega) (by omega)) (cwV 2 X.2.2.2.2.1 gL_told_X9_signal rfl rfl rfl (by decide +kernel) ⟨Nat.le_of_ble_eq_true rfl, Nat.le_of_ble_eq_true rfl⟩) rfl rfl gX9 rfl (Nat.le_of_ble_eq_true rfl) ⟨Nat.zero_le _, Nat.zero_le _⟩ (fun r S2 hq => ?_)
    obtain ⟨hq1, hq2⟩ := hq
    rw [hq1, hq2, hv, show 6 * (i / 6) + i % 6 = i by omega]
    clear hq1 hq2
    refine tv_i2l X dL_told_79 ?_
    refine tg_ladd X dL_told_80 ?_
    refine tg_lstore_n X dL_told_81 rfl (by decide) rfl ?_
    refine tg_iinc X dL_told_82 rfl (nI_1 i) (by decide) rfl ?_
    refine tv_goto (tgt := 38) X dL_told_85 (by decide) ?_
    exact tv_sl [2, 1, 0] rfl ih
  · refine tv_iload_n X dL_told_38 rfl ?_
    refine tv_bipush (v := 48) X dL_told_39 (by decide) ?_
    refine tv_icmp_ge (tgt := 88) X dL_told_41 (by decide) (fun h1 => ?_) (fun h1 => ?_)
    · refine tv_iconst (v := 0) X dL_told_88 (by decide) ?_
      refine tg_istore_n X dL_told_89 rfl (by decide) rfl ?_
      exact tv_sl [1, 2, 0] rfl (hB () trivial)
    · exact absurd (nI_le (Nat.le_refl 48) (by decide)) h1
end C66b

