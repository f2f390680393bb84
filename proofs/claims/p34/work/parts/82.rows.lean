/-! a turn of the law -/
section LWK
variable {p : Program} {l : Launch} {e : Env} {s : State} {m : MethodId} {below : List Frame} {meth : Method} {c : Code} {Q : State → Prop} {D : va_G} {n0 cells slots : Nat} {n : Nat} {ft : tv_ft} {S : mS}
theorem law_tail (X : tv_X p s m #[Value.ref ft.2.2.2.1] meth c cL_law 12 RL wsL_law D vwCl n0 ft) {q h : Nat} (hI : INV S h) (h0 : S.2.2.1 = 0) (hC : cells + 3 ≤ 600130 ∧ slots + 102 ≤ 7301080) (next : ∀ (S' : mS) (n' h' : Nat), INV S' h' → S'.2.2.1 = 0 → tv_V p l e room_1 s m #[Value.ref ft.2.2.2.1] below meth c Q D vwCl n0 (cells + 3) (slots + 102) 12 30 [(0, .ref ft.2.2.2.1), (1, .ref (n0 + 0)), (2, .int 1), (3, .int (nI (q + 1)))] [] n' (mH n0 S')) : tv_V p l e room_1 s m #[Value.ref ft.2.2.2.1] below meth c Q D vwCl n0 (cells + 2) (slots + 96) 12 186 [(0, .ref ft.2.2.2.1), (1, .ref (n0 + 0)), (2, .int 1), (3, .int (nI q))] [] n (mH n0 S) := by
  have hR2 : cells + 2 ≤ room_1.cells ∧ slots + 96 ≤ room_1.slots := ⟨show cells + 2 ≤ 600130 by omega, show slots + 96 ≤ 7301080 by omega⟩
  have hR3 : cells + 2 + 1 ≤ room_1.cells ∧ slots + 96 + 6 ≤ room_1.slots := ⟨show cells + 2 + 1 ≤ 600130 by omega, show slots + 96 + 6 ≤ 7301080 by omega⟩
  refine tv_iload_n X dL_law_186 rfl ?_
  refine tv_if_eq (tgt := 208) X dL_law_187 (by decide) (fun h1 => ?_) (fun h1 => ?_)
  · exact absurd h1 (by decide)
  refine tv_aload_n X dL_law_190 rfl ?_
  refine mm_callSi X dL_law_191 (cL_holds_ok hI) (va_cwS 1 X.2.2.2.2.1 gL_law_L_holds rfl rfl rfl (by decide +kernel) ⟨Nat.le_of_ble_eq_true rfl, Nat.le_of_ble_eq_true rfl⟩) rfl rfl (Nat.le_of_ble_eq_true rfl) hR2 (fun r1 S1 hq1 => ?_)
  obtain ⟨hQ1, e1⟩ := hq1
  rw [e1]
  refine tv_if_eq (tgt := 208) X dL_law_194 (by decide) (fun h2 => ?_) (fun h2 => ?_)
  · exact absurd h2 (by decide)
  refine tv_aload_n X dL_law_197 rfl ?_
  refine mm_callSa X dL_law_198 (cL_isMatched_ok (hQ1.inv hI) (by rw [hQ1.1]; exact h0)) (va_cwS 1 X.2.2.2.2.1 gL_law_L_isMatched rfl rfl rfl (by decide +kernel) ⟨Nat.le_of_ble_eq_true rfl, Nat.le_of_ble_eq_true rfl⟩) rfl rfl (Nat.le_of_ble_eq_true rfl) hR3 (fun r2 n2 S2 hq2 => ?_)
  obtain ⟨e2, i2, z2, -⟩ := hq2
  rw [e2]
  refine tv_if_eq (tgt := 208) X dL_law_201 (by decide) (fun h3 => ?_) (fun h3 => ?_)
  · exact absurd h3 (by decide)
  refine tv_iconst (v := 1) X dL_law_204 (by decide) ?_
  refine tv_goto (tgt := 209) X dL_law_205 (by decide) ?_
  refine tg_istore_n X dL_law_209 rfl (by decide) rfl ?_
  refine tg_iinc X dL_law_210 rfl (nI_1 q) (by decide) rfl ?_
  refine tv_goto (tgt := 30) X dL_law_213 (by decide) ?_
  exact tv_sl [2, 3, 1, 0] rfl (next S2 n2 h i2 z2)
set_option maxHeartbeats 4000000 in
theorem law_turn (X : tv_X p s m #[Value.ref ft.2.2.2.1] meth c cL_law 12 RL wsL_law D vwCl n0 ft) (hL : ft.2.2.2.2.1 ≤ 260) {q h : Nat} (hq : q < 56) (hI : INV S h) (h0 : S.2.2.1 = 0) (hC : cells + 3 ≤ 600130 ∧ slots + 102 ≤ 7301080) (next : ∀ (S' : mS) (n' h' : Nat), INV S' h' → S'.2.2.1 = 0 → tv_V p l e room_1 s m #[Value.ref ft.2.2.2.1] below meth c Q D vwCl n0 (cells + 3) (slots + 102) 12 30 [(0, .ref ft.2.2.2.1), (1, .ref (n0 + 0)), (2, .int 1), (3, .int (nI (q + 1)))] [] n' (mH n0 S')) : tv_V p l e room_1 s m #[Value.ref ft.2.2.2.1] below meth c Q D vwCl n0 cells slots 12 30 [(0, .ref ft.2.2.2.1), (1, .ref (n0 + 0)), (2, .int 1), (3, .int (nI q))] [] n (mH n0 S) := by
  have hR0 : cells ≤ room_1.cells ∧ slots ≤ room_1.slots := ⟨show cells ≤ 600130 by omega, show slots ≤ 7301080 by omega⟩
  have hR1 : cells + 1 ≤ room_1.cells ∧ slots + 48 ≤ room_1.slots := ⟨show cells + 1 ≤ 600130 by omega, show slots + 48 ≤ 7301080 by omega⟩
  have hR2 : cells + 1 + 1 ≤ room_1.cells ∧ slots + 48 + 48 ≤ room_1.slots := ⟨show cells + 1 + 1 ≤ 600130 by omega, show slots + 48 + 48 ≤ 7301080 by omega⟩
  obtain ⟨sv1, sv2, sv3⟩ := INV.svi hI.2.1.2
  have h6 := hI.2.1.2
  refine tv_iload_n X dL_law_30 rfl ?_
  refine tv_bipush (v := 56) X dL_law_31 (by decide) ?_
  refine tv_icmp_ge (tgt := 216) X dL_law_33 (by decide) (fun h1 => ?_) (fun h1 => ?_)
  · exact absurd h1 (nI_ge (a := q) (b := 56) hq (by decide))
  refine tv_iload_n X dL_law_36 rfl ?_
  refine tv_if_eq (tgt := 216) X dL_law_37 (by decide) (fun h1 => ?_) (fun h1 => ?_)
  · exact absurd h1 (by decide)
  refine tv_aload_n X dL_law_40 rfl ?_
  refine tv_iconst (v := 2) X dL_law_41 (by decide) ?_
  refine tv_iload_n X dL_law_42 rfl ?_
  refine tv_imul X dL_law_43 ?_
  rw [show (2 : Int32) * nI q = nI (2 * q) from pk_mul 2 q]
  refine mm_callSi X dL_law_44 (cL_cell_ok hL (k := 2 * q) (by omega)) (va_cwS 2 X.2.2.2.2.1 gL_law_L_cell rfl rfl rfl (by decide +kernel) ⟨Nat.le_of_ble_eq_true rfl, Nat.le_of_ble_eq_true rfl⟩) rfl rfl (Nat.le_of_ble_eq_true rfl) hR0 (fun x S1 hq1 => ?_)
  rw [hq1]
  clear hq1
  refine tg_istore X dL_law_47 (by decide) rfl ?_
  refine tv_aload_n X dL_law_49 rfl ?_
  refine tv_iconst (v := 2) X dL_law_50 (by decide) ?_
  refine tv_iload_n X dL_law_51 rfl ?_
  refine tv_imul X dL_law_52 ?_
  rw [show (2 : Int32) * nI q = nI (2 * q) from pk_mul 2 q]
  refine tv_iconst (v := 1) X dL_law_53 (by decide) ?_
  refine tv_iadd X dL_law_54 ?_
  rw [nI_1]
  refine mm_callSi X dL_law_55 (cL_cell_ok hL (k := 2 * q + 1) (by omega)) (va_cwS 2 X.2.2.2.2.1 gL_law_L_cell rfl rfl rfl (by decide +kernel) ⟨Nat.le_of_ble_eq_true rfl, Nat.le_of_ble_eq_true rfl⟩) rfl rfl (Nat.le_of_ble_eq_true rfl) hR0 (fun y S1 hq1 => ?_)
  rw [hq1]
  clear hq1
  refine tg_istore X dL_law_58 (by decide) rfl ?_
  refine tv_aload_n X dL_law_60 rfl ?_
  refine mm_callSl X dL_law_61 (cL_told_ok) (va_cwS 1 X.2.2.2.2.1 gL_law_L_told rfl rfl rfl (by decide +kernel) ⟨Nat.le_of_ble_eq_true rfl, Nat.le_of_ble_eq_true rfl⟩) rfl rfl (Nat.le_of_ble_eq_true rfl) hR0 (fun t1 S1 hq1 => ?_)
  obtain ⟨hQ1, e1⟩ := hq1
  rw [e1]
  clear e1
  have i1 := hQ1.inv hI
  have z1 : S1.2.2.1 = 0 := by rw [hQ1.1]; exact h0
  have v1 : vw S1 1 = vw S 1 := hQ1.vw1
  refine tg_lstore X dL_law_64 (by decide) rfl ?_
  refine tv_aload_n X dL_law_66 rfl ?_
  refine mm_callVi (q := (RX9, TX9, 8)) X dL_law_67 (fX9_savedStates i1) (cwV 0 X.2.2.2.2.1 gL_law_X9_savedStates rfl rfl rfl (by decide +kernel) ⟨Nat.le_of_ble_eq_true rfl, Nat.le_of_ble_eq_true rfl⟩) rfl rfl gX9 rfl (Nat.le_of_ble_eq_true rfl) hR0 (fun r2 S2 hq2 => ?_)
  obtain ⟨e2, e3⟩ := hq2
  rw [e2, e3]
  clear e2 e3
  refine tg_istore X dL_law_70 (by decide) rfl ?_
  refine tv_aload_n X dL_law_72 rfl ?_
  refine tv_iload X dL_law_73 rfl ?_
  refine tv_iload X dL_law_75 rfl ?_
  refine mm_callSa X dL_law_77 (cL_acts_ok i1 z1 x y) (va_cwS 3 X.2.2.2.2.1 gL_law_L_acts rfl rfl rfl (by decide +kernel) ⟨Nat.le_of_ble_eq_true rfl, Nat.le_of_ble_eq_true rfl⟩) rfl rfl (Nat.le_of_ble_eq_true rfl) hR1 (fun r2 n2 S2 hq2 => ?_)
  obtain ⟨e2, i2, w2, v2, z2⟩ := hq2
  rw [e2]
  clear e2
  rw [v1] at w2 v2
  refine tv_if_eq (tgt := 110) X dL_law_80 (by decide) (fun h2 => ?_) (fun h2 => ?_)
  · exact absurd h2 (by decide)
  refine tv_aload_n X dL_law_83 rfl ?_
  refine mm_callVi (q := (RX9, TX9, 8)) X dL_law_84 (fX9_savedStates i2) (cwV 0 X.2.2.2.2.1 gL_law_X9_savedStates rfl rfl rfl (by decide +kernel) ⟨Nat.le_of_ble_eq_true rfl, Nat.le_of_ble_eq_true rfl⟩) rfl rfl gX9 rfl (Nat.le_of_ble_eq_true rfl) hR1 (fun r3 S3 hq3 => ?_)
  obtain ⟨e3, e4⟩ := hq3
  rw [e3, e4]
  clear e3 e4
  refine mm_cut (pc := 103) (fun _ : Unit => True) (fun _ => [(8, .int (nI h)), (6, .long (tdC (vw S 1) 5)), (5, .int y), (4, .int x), (0, .ref ft.2.2.2.1), (1, .ref (n0 + 0)), (2, .int 1), (3, .int (nI q))]) (fun _ => [.int (nI (svI h + 1)), .int (nI (svI h + 1))]) (fun _ => S2) ?_ ?_
  rotate_left
  · intro hA
    refine tv_iload X dL_law_87 rfl ?_
    refine tv_bipush (v := 6) X dL_law_89 (by decide) ?_
    refine tv_icmp_ge (tgt := 101) X dL_law_91 (by decide) (fun h3 => ?_) (fun h3 => ?_)
    · have h9 : svI h + 1 = 6 := by
        have : ¬ h < 6 := fun h8 => nI_ge (b := 6) h8 (by decide) h3
        rw [sv3, if_neg this]
      rw [h9] at hA ⊢
      refine tv_bipush (v := 6) X dL_law_101 (by decide) ?_
      exact hA () trivial
    · have h9 : svI h + 1 = h + 1 := by
        have : h < 6 := Nat.lt_of_not_le fun h8 => h3 (nI_le (a := 6) h8 (by omega))
        rw [sv3, if_pos this]
      rw [h9] at hA ⊢
      refine tv_iload X dL_law_94 rfl ?_
      refine tv_iconst (v := 1) X dL_law_96 (by decide) ?_
      refine tv_iadd X dL_law_97 ?_
      rw [nI_1]
      refine tv_goto (tgt := 103) X dL_law_98 (by decide) ?_
      exact hA () trivial
  intro _ _
  refine tv_icmp_ne (tgt := 110) X dL_law_103 (by decide) (fun h3 => ?_) (fun h3 => ?_)
  · exact absurd rfl h3
  refine tv_iconst (v := 1) X dL_law_106 (by decide) ?_
  refine tv_goto (tgt := 111) X dL_law_107 (by decide) ?_
  refine tg_istore_n X dL_law_111 rfl (by decide) rfl ?_
  refine tv_iload_n X dL_law_112 rfl ?_
  refine tv_if_eq (tgt := 186) X dL_law_113 (by decide) (fun h4 => ?_) (fun h4 => ?_)
  · exact absurd h4 (by decide)
  refine tv_iload X dL_law_116 rfl ?_
  refine tv_bipush (v := 8) X dL_law_118 (by decide) ?_
  refine tv_ishr X dL_law_120 ?_
  refine tv_iconst (v := 3) X dL_law_121 (by decide) ?_
  refine tv_iand X dL_law_122 ?_
  refine tv_if_ne (tgt := 186) X dL_law_123 (by decide) (fun h5 => ?_) (fun h5 => ?_)
  · refine tv_widen (k0 := cells + 2) (k1 := slots + 96) (by omega) (by omega) ?_
    exact tv_sl [5, 6, 0, 7] rfl (law_tail X i2 z2 hC next)
  refine tv_aload_n X dL_law_126 rfl ?_
  refine mm_callSl X dL_law_127 (cL_told_ok) (va_cwS 1 X.2.2.2.2.1 gL_law_L_told rfl rfl rfl (by decide +kernel) ⟨Nat.le_of_ble_eq_true rfl, Nat.le_of_ble_eq_true rfl⟩) rfl rfl (Nat.le_of_ble_eq_true rfl) hR1 (fun t3 S3 hq3 => ?_)
  obtain ⟨hQ3, e3⟩ := hq3
  rw [e3, v2]
  clear e3
  have i3 := hQ3.inv i2
  refine tg_lstore X dL_law_130 (by decide) rfl ?_
  refine tv_aload_n X dL_law_132 rfl ?_
  refine mm_callVi (q := (RX9, TX9, 8)) X dL_law_133 (fX9_savedStates i3) (cwV 0 X.2.2.2.2.1 gL_law_X9_savedStates rfl rfl rfl (by decide +kernel) ⟨Nat.le_of_ble_eq_true rfl, Nat.le_of_ble_eq_true rfl⟩) rfl rfl gX9 rfl (Nat.le_of_ble_eq_true rfl) hR1 (fun r4 S4 hq4 => ?_)
  obtain ⟨e3, e4⟩ := hq4
  rw [e3, e4]
  clear e3 e4
  refine tv_iconst (v := 1) X dL_law_136 (by decide) ?_
  refine tv_isub X dL_law_137 ?_
  rw [show nI (svI h + 1) - 1 = nI (svI h) from pk_sub (b := 1) (by omega)]
  refine tg_istore X dL_law_138 (by decide) rfl ?_
  refine tv_aload_n X dL_law_140 rfl ?_
  refine mm_callVi (q := (RX9, TX9, 8)) X dL_law_141 (fX9_undo i3) (cwV 0 X.2.2.2.2.1 gL_law_X9_undo rfl rfl rfl (by decide +kernel) ⟨Nat.le_of_ble_eq_true rfl, Nat.le_of_ble_eq_true rfl⟩) rfl rfl gX9 rfl (Nat.le_of_ble_eq_true rfl) hR1 (fun r4 S4 hq4 => ?_)
  obtain ⟨⟨i4, v4, c4⟩, e4⟩ := hq4
  have hbk := pm_blk i2.1 sv1
  have v4' : vw S4 1 = vw S 1 := by
    rw [v4, hQ3.1, hQ3.vwb hbk.1 hbk.2]
    exact w2
  have z4 : S4.2.2.1 = 0 := by
    rw [c4.1, hQ3.1]
    exact z2
  rw [e4]
  clear e4
  refine tv_iload X dL_law_144 rfl ?_
  refine tv_icmp_ne (tgt := 184) X dL_law_146 (by decide) (fun h6' => ?_) (fun h6' => ?_)
  · exact absurd rfl h6'
  refine tv_aload_n X dL_law_149 rfl ?_
  refine mm_callSl X dL_law_150 (cL_told_ok) (va_cwS 1 X.2.2.2.2.1 gL_law_L_told rfl rfl rfl (by decide +kernel) ⟨Nat.le_of_ble_eq_true rfl, Nat.le_of_ble_eq_true rfl⟩) rfl rfl (Nat.le_of_ble_eq_true rfl) hR1 (fun t5 S5 hq5 => ?_)
  obtain ⟨hQ5, e5⟩ := hq5
  rw [e5, v4']
  clear e5
  have i5 := hQ5.inv i4
  have z5 : S5.2.2.1 = 0 := by rw [hQ5.1]; exact z4
  have v5 : vw S5 1 = vw S 1 := hQ5.vw1.trans v4'
  refine tg_lload X dL_law_153 rfl ?_
  refine tg_lcmp X dL_law_155 ?_
  rw [lcmp_0]
  refine tv_if_ne (tgt := 184) X dL_law_156 (by decide) (fun h7 => ?_) (fun h7 => ?_)
  · exact absurd rfl h7
  refine tv_aload_n X dL_law_159 rfl ?_
  refine tv_iload X dL_law_160 rfl ?_
  refine tv_iload X dL_law_162 rfl ?_
  refine mm_callSa X dL_law_164 (cL_acts_ok i5 z5 x y) (va_cwS 3 X.2.2.2.2.1 gL_law_L_acts rfl rfl rfl (by decide +kernel) ⟨Nat.le_of_ble_eq_true rfl, Nat.le_of_ble_eq_true rfl⟩) rfl rfl (Nat.le_of_ble_eq_true rfl) hR2 (fun r6 n6 S6 hq6 => ?_)
  obtain ⟨e6, i6, -, v6, z6⟩ := hq6
  rw [e6]
  clear e6
  rw [v5] at v6
  refine tv_if_eq (tgt := 184) X dL_law_167 (by decide) (fun h8 => ?_) (fun h8 => ?_)
  · exact absurd h8 (by decide)
  refine tv_aload_n X dL_law_170 rfl ?_
  refine mm_callSl X dL_law_171 (cL_told_ok) (va_cwS 1 X.2.2.2.2.1 gL_law_L_told rfl rfl rfl (by decide +kernel) ⟨Nat.le_of_ble_eq_true rfl, Nat.le_of_ble_eq_true rfl⟩) rfl rfl (Nat.le_of_ble_eq_true rfl) hR2 (fun t7 S7 hq7 => ?_)
  obtain ⟨hQ7, e7⟩ := hq7
  rw [e7, v6]
  clear e7
  refine tg_lload X dL_law_174 rfl ?_
  refine tg_lcmp X dL_law_176 ?_
  rw [lcmp_0]
  refine tv_if_ne (tgt := 184) X dL_law_177 (by decide) (fun h9 => ?_) (fun h9 => ?_)
  · exact absurd rfl h9
  refine tv_iconst (v := 1) X dL_law_180 (by decide) ?_
  refine tv_goto (tgt := 185) X dL_law_181 (by decide) ?_
  refine tg_istore_n X dL_law_185 rfl (by decide) rfl ?_
  exact tv_sl [7, 8, 0, 9] rfl (law_tail X (hQ7.inv i6) (by rw [hQ7.1]; exact z6) hC next)
theorem law_loop (X : tv_X p s m #[Value.ref ft.2.2.2.1] meth c cL_law 12 RL wsL_law D vwCl n0 ft) (hL : ft.2.2.2.2.1 ≤ 260) (hEnd : ∀ (cells slots n : Nat) (L' : List (Nat × Value)) (hh : tv_H), cells ≤ 600130 → slots ≤ 7301080 → tv_V p l e room_1 s m #[Value.ref ft.2.2.2.1] below meth c Q D vwCl n0 cells slots 12 217 L' [.int 1] n hh) : ∀ (d q : Nat), q + d = 56 → ∀ (S : mS) (n h cells slots : Nat), INV S h → S.2.2.1 = 0 → cells + 3 * d ≤ 600130 → slots + 102 * d ≤ 7301080 → tv_V p l e room_1 s m #[Value.ref ft.2.2.2.1] below meth c Q D vwCl n0 cells slots 12 30 [(0, .ref ft.2.2.2.1), (1, .ref (n0 + 0)), (2, .int 1), (3, .int (nI q))] [] n (mH n0 S) := by
  intro d
  induction d with
  | zero =>
    intro q hd S n h cells slots hI h0 hC1 hC2
    have hq : q = 56 := by omega
    subst hq
    refine tv_iload_n X dL_law_30 rfl ?_
    refine tv_bipush (v := 56) X dL_law_31 (by decide) ?_
    refine tv_icmp_ge (tgt := 216) X dL_law_33 (by decide) (fun h1 => ?_) (fun h1 => ?_)
    · refine tv_iload_n X dL_law_216 rfl ?_
      exact hEnd _ _ _ _ _ (by omega) (by omega)
    · exact absurd (nI_le (Nat.le_refl 56) (by decide)) h1
  | succ d ih =>
    intro q hd S n h cells slots hI h0 hC1 hC2
    exact law_turn X hL (by omega) hI h0 ⟨by omega, by omega⟩ (fun S' n' h' hI' h0' => ih (q + 1) (by omega) S' n' h' (cells + 3) (slots + 102) hI' h0' (by omega) (by omega))
theorem qL_law_12 : Cond.classLink RL 12 RX9 ∈ wsL_law ∧ Cond.instantiable RX9 8 ∈ wsL_law ∧ Cond.initialized RX9 ∈ wsL_law := ⟨by decide +kernel, by decide +kernel, by decide +kernel⟩
theorem vL_law_111 : Cond.initialized RX9 ∈ wsL_law ∧ Cond.instanceMethod yX9_init ∈ wsL_law ∧ Cond.methodLink RL 111 yX9_init ∈ wsL_law := ⟨by decide +kernel, by decide +kernel, by decide +kernel⟩
theorem law_walk (X : tv_X p s m #[Value.ref ft.2.2.2.1] meth c cL_law 12 RL wsL_law D vwCl n0 ft) (hn0 : n0 = s.heap.size) (hL : ft.2.2.2.2.1 ≤ 260) (hEnd : ∀ (cells slots n : Nat) (L' : List (Nat × Value)) (hh : tv_H), cells ≤ 600130 → slots ≤ 7301080 → tv_V p l e room_1 s m #[Value.ref ft.2.2.2.1] below meth c Q D vwCl n0 cells slots 12 217 L' [.int 1] n hh) : tv_V p l e room_1 s m #[Value.ref ft.2.2.2.1] below meth c Q D vwCl n0 0 0 12 0 [(0, .ref ft.2.2.2.1)] [] n0 (fun _ => none) := by
  refine tv_heap (bl_0 (a := n0) (f := fun _ => none)) ?_
  refine bl_new (k := 0) (ci := 9) X dL_law_0 inlX9 rfl tyX9 tyX9_ok qL_law_12.1 qL_law_12.2.1 qL_law_12.2.2 (fs := [.null, .null, .null, .null, .null, .null, .null, .null]) (fun j hj => by match j, hj with | 0, _ => rfl | 1, _ => rfl | 2, _ => rfl | 3, _ => rfl | 4, _ => rfl | 5, _ => rfl | 6, _ => rfl | 7, _ => rfl) ⟨Nat.le_of_ble_eq_true rfl, Nat.le_of_ble_eq_true rfl⟩ ?_
  refine tv_dup X dL_law_3 rfl ?_
  refine bl_callIv X dL_law_4 (c := 0) (cX9_init_ok ((tv_bl_at (i := 0) (by omega)).trans rfl)) (cwI 0 X.2.2.2.2.1 gL_law_X9_init rfl rfl rfl (X.2.2.2.2.1 _ vL_law_111.1) (X.2.2.2.2.1 _ vL_law_111.2.2) (X.2.2.2.2.1 _ vL_law_111.2.1) rfl (by decide +kernel) ⟨Nat.le_of_ble_eq_true rfl, Nat.le_of_ble_eq_true rfl⟩) (Nat.le_of_ble_eq_true rfl) (Nat.le_of_ble_eq_true rfl) ⟨Nat.le_of_ble_eq_true rfl, Nat.le_of_ble_eq_true rfl⟩ ?_
  refine tv_astore_n X dL_law_7 rfl ?_
  refine tv_heap (h' := tv_bl (fun _ => none) n0 130 (cell0 n0)) ?_ ?_
  · refine tv_bl_cg (k := 130) fun i hi => ?_
    try unfold fupd
    dsimp only
    rw [if_pos (by omega)]
    rfl
  refine tv_conv (h' := mH n0 S0) mH_0 ?_
  refine tv_sl (L' := [(0, .ref ft.2.2.2.1), (1, .ref (n0 + 0))]) [0, 1] rfl ?_
  have hR0 : 0 + 1 + 129 ≤ room_1.cells ∧ 0 + 8 + 1997 ≤ room_1.slots := ⟨Nat.le_of_ble_eq_true rfl, Nat.le_of_ble_eq_true rfl⟩
  refine tv_aload_n X dL_law_8 rfl ?_
  refine mm_callSi X dL_law_9 (cL_holds_ok INV_0) (va_cwS 1 X.2.2.2.2.1 gL_law_L_holds rfl rfl rfl (by decide +kernel) ⟨Nat.le_of_ble_eq_true rfl, Nat.le_of_ble_eq_true rfl⟩) rfl rfl (Nat.le_of_ble_eq_true rfl) hR0 (fun r1 S1 hq1 => ?_)
  obtain ⟨hQ1, e1⟩ := hq1
  rw [e1]
  clear e1
  have i1 := hQ1.inv INV_0
  have z1 : S1.2.2.1 = 0 := by rw [hQ1.1]; rfl
  refine tv_if_eq (tgt := 26) X dL_law_12 (by decide) (fun h1 => ?_) (fun h1 => ?_)
  · exact absurd h1 (by decide)
  refine tv_aload_n X dL_law_15 rfl ?_
  refine mm_callVi (q := (RX9, TX9, 8)) X dL_law_16 (fX9_downIfScanned i1) (cwV 0 X.2.2.2.2.1 gL_law_X9_downIfScanned rfl rfl rfl (by decide +kernel) ⟨Nat.le_of_ble_eq_true rfl, Nat.le_of_ble_eq_true rfl⟩) rfl rfl gX9 rfl (Nat.le_of_ble_eq_true rfl) hR0 (fun r2 S2 hq2 => ?_)
  obtain ⟨hQ2, e2⟩ := hq2
  rw [hQ1.vw1, vw_0, fr_00] at e2
  rw [e2]
  clear e2
  refine tv_if_ne (tgt := 26) X dL_law_19 (by decide) (fun h2 => ?_) (fun h2 => ?_)
  · exact absurd rfl h2
  refine tv_iconst (v := 1) X dL_law_22 (by decide) ?_
  refine tv_goto (tgt := 27) X dL_law_23 (by decide) ?_
  refine tg_istore_n X dL_law_27 rfl (by decide) rfl ?_
  refine tv_iconst (v := 0) X dL_law_28 (by decide) ?_
  refine tg_istore_n X dL_law_29 rfl (by decide) rfl ?_
  refine tv_sl (L' := [(0, .ref ft.2.2.2.1), (1, .ref (n0 + 0)), (2, .int 1), (3, .int (nI 0))]) [2, 3, 1, 0] rfl ?_
  exact law_loop X hL hEnd 56 0 (by omega) S2 _ 0 _ _ (hQ2.inv i1) (by rw [hQ2.1]; exact z1) (Nat.le_of_ble_eq_true rfl) (Nat.le_of_ble_eq_true rfl)
end LWK

