/-! what an array of the law's own leaves -/
theorem INV_cg {S T : mS} {h : Nat} (hI : INV S h) (e : ∀ q, q < 130 → T.1 q = S.1 q) (e2 : T.2.1 = S.2.1) : INV T h ∧ vw T 1 = vw S 1 ∧ ∀ i, i < 6 → vw T (T.2.1 i) = vw S (S.2.1 i) := by
  obtain ⟨h1, h2, h3, h4, h5⟩ := hI
  have v1 : vw T 1 = vw S 1 := vw_rows fun q a b => e q (by omega)
  have vb : ∀ i, i < 6 → vw T (T.2.1 i) = vw S (S.2.1 i) := fun i hi => by
    have := pm_blk h1 hi
    rw [e2]
    exact vw_rows fun q a b => e q (by omega)
  refine ⟨⟨?_, ⟨by rw [e 25 (by omega)]; exact h2.1, h2.2⟩, by rw [v1]; exact h3, fun i hi => by rw [vb i (by have := h2.2; omega)]; exact h4 i hi, fun s hs => by rw [e 125 (by omega)]; exact h5 s hs⟩, v1, vb⟩
  unfold pmOk at h1 ⊢
  rw [e2]
  exact h1
def OPL (S : mS) (h : Nat) (v' : Nat → Int32) (S' : mS) : Prop := INV S' (svI h + 1) ∧ vw S' (S'.2.1 (svI h)) = vw S 1 ∧ vw S' 1 = v' ∧ S'.2.2.1 = 0
theorem OP.scr {S T S1 S' : mS} {h : Nat} {v' : Nat → Int32} (ho : OP T h v' S1) (hT : vw T 1 = vw S 1) (h6 : h ≤ 6) (e : ∀ q, q < 130 → S'.1 q = S1.1 q) (e2 : S'.2.1 = S1.2.1) (e0 : S'.2.2.1 = 0) : OPL S h v' S' := by
  obtain ⟨a, b, c, -⟩ := ho
  obtain ⟨i1, i2, i3⟩ := INV_cg a e e2
  exact ⟨i1, by rw [i3 _ (INV.svi h6).1, b, hT], by rw [i2, c], e0⟩
/-- the gain of a cell, as the law counts it -/
theorem mr_law {i j a b f : Nat} : mrN i j a b f = if 1 < (if i < a then a - i else i - a) ∨ 1 < (if j < b then b - j else j - b) then 0 else if (if i < a then a - i else i - a) + (if j < b then b - j else j - b) = 0 then f else if (if i < a then a - i else i - a) + (if j < b then b - j else j - b) = 1 then f / 2 else f / 4 := by
  have h1 : ∃ x, (if i < a then a - i else i - a) = x ∧ (x = 0 ↔ a = i) ∧ (x = 1 ↔ a + 1 = i ∨ a = i + 1) := by
    by_cases h : i < a
    · exact ⟨a - i, if_pos h, by omega, by omega⟩
    · exact ⟨i - a, if_neg h, by omega, by omega⟩
  have h2 : ∃ y, (if j < b then b - j else j - b) = y ∧ (y = 0 ↔ b = j) ∧ (y = 1 ↔ b + 1 = j ∨ b = j + 1) := by
    by_cases h : j < b
    · exact ⟨b - j, if_pos h, by omega, by omega⟩
    · exact ⟨j - b, if_neg h, by omega, by omega⟩
  obtain ⟨x, ex, x0, x1⟩ := h1
  obtain ⟨y, ey, y0, y1⟩ := h2
  rw [ex, ey]
  unfold mrN
  by_cases c1 : 1 < x ∨ 1 < y
  · rw [if_pos c1, if_neg (by omega)]
  · rw [if_neg c1, if_pos (by omega)]
    by_cases c2 : x + y = 0
    · rw [if_pos c2, if_pos (by omega), if_pos (by omega)]
    · rw [if_neg c2]
      by_cases c3 : x + y = 1
      · rw [if_pos c3]
        by_cases c4 : a = i
        · rw [if_pos c4, if_neg (by omega)]
        · rw [if_neg c4, if_pos (by omega)]
      · rw [if_neg c3, if_neg (by omega), if_neg (by omega)]
/-- the press's picture of what was before -/
def bfT (S : mS) (k i : Nat) : mS := mset (mscr S (k, 48)) k (fun j => if j < i then vw S 1 j else 0)
section C67
variable {l : Launch} {D : va_G} {n0 : Nat} {ft : tv_ft} {n : Nat} {S : mS} {h : Nat}
theorem wL_presses_int : Cond.arrayClass .int ∈ wsL_presses := by decide +kernel
theorem cL_presses_ok (hI : INV S h) (h0 : S.2.2.1 = 0) {i j f : Nat} (hi : i < 8) (hj : j < 6) (hf1 : 1 ≤ f) (hf : f < 256) : mAi l yL_presses wsL_presses rmL_presses 1 48 D n0 ft [.ref (n0 + 0), .int (nI i), .int (nI j), .int (nI f)] n S (fun r S' => r = 1 ∧ OPL S h (prsV (vw S 1) i j f) S') := by
  unfold mAi
  refine tv_enter (cc := cL_presses) (maxL := 11) (ret := (some .boolean)) (by decide) rfl (Nat.le_of_ble_eq_true rfl) ?_
  intro p e s m args below meth c X hrt hnm hargs
  refine tv_bipush (v := 48) X dL_presses_0 (by decide) ?_
  refine mm_newi X dL_presses_2 wL_presses_int h0 rfl (by decide) ⟨Nat.le_of_ble_eq_true rfl, Nat.le_of_ble_eq_true rfl⟩ (fun k hk => ?_)
  refine tv_astore X dL_presses_4 rfl ?_
  refine tv_iconst (v := 0) X dL_presses_6 (by decide) ?_
  refine tv_istore X dL_presses_7 rfl ?_
  refine mm_st (S' := bfT S k 0) ?_ ?_
  · unfold bfT
    exact congrArg (mset (mscr S (k, 48)) k) (funext fun j => (if_neg (Nat.not_lt_zero j)).symm)
  have hT : ∀ q, INV (bfT S k q) h ∧ vw (bfT S k q) 1 = vw S 1 := fun q => by
    obtain ⟨a, b, -⟩ := INV_cg (T := bfT S k q) hI (fun q hq => mset_n (by omega)) rfl
    exact ⟨a, b⟩
  refine mm_cut (pc := 41) (fun _ : Unit => True) (fun _ => [(0, .ref (n0 + 0)), (1, .int (nI i)), (2, .int (nI j)), (3, .int (nI f)), (4, .ref (n0 + k)), (5, .int (nI 48))]) (fun _ => []) (fun _ => bfT S k 48) ?_ ?_
  rotate_left
  · intro hend
    refine mm_for 48 (fun q => [(0, .ref (n0 + 0)), (1, .int (nI i)), (2, .int (nI j)), (3, .int (nI f)), (4, .ref (n0 + k)), (5, .int (nI q))]) (fun q => bfT S k q) ?_ ?_
    · intro q hq ih
      refine tv_iload X dL_presses_9 rfl ?_
      refine tv_bipush (v := 48) X dL_presses_11 (by decide) ?_
      refine tv_icmp_ge (tgt := 41) X dL_presses_13 (by decide) (fun h1 => ?_) (fun h1 => ?_)
      · exact absurd h1 (nI_ge (a := q) (b := 48) hq (by decide))
      refine tv_aload X dL_presses_16 rfl ?_
      refine tv_iload X dL_presses_18 rfl ?_
      refine tv_aload_n X dL_presses_20 rfl ?_
      refine tv_iload X dL_presses_21 rfl ?_
      refine tv_bipush (v := 6) X dL_presses_23 (by decide) ?_
      refine tv_idiv X dL_presses_25 (by decide) ?_
      refine tv_iload X dL_presses_26 rfl ?_
      refine tv_bipush (v := 6) X dL_presses_28 (by decide) ?_
      refine tv_irem X dL_presses_30 (by decide) ?_
      rw [rem6 hq, div6 hq]
      refine mm_callVi (q := (RX9, TX9, 8)) X dL_presses_31 (fX9_raw (i := q / 6) (j := q % 6) (by omega) (by omega)) (cwV 2 X.2.2.2.2.1 gL_presses_X9_raw rfl rfl rfl (by decide +kernel) ⟨Nat.le_of_ble_eq_true rfl, Nat.le_of_ble_eq_true rfl⟩) rfl rfl gX9 rfl (Nat.le_of_ble_eq_true rfl) ⟨Nat.le_of_ble_eq_true rfl, Nat.le_of_ble_eq_true rfl⟩ (fun r S2 hq2 => ?_)
      obtain ⟨hq1, hq2⟩ := hq2
      rw [(hT q).2, show 6 * (q / 6) + q % 6 = q by omega] at hq2
      rw [hq1, hq2]
      clear hq1 hq2
      refine mm_iast X dL_presses_34 (g_scr hk rfl) q rfl hq (by decide) ?_
      refine tv_iinc X dL_presses_35 rfl (nI_1 q) rfl ?_
      refine tv_goto (tgt := 9) X dL_presses_38 (by decide) ?_
      refine mm_st ?_ ih
      unfold bfT mupd
      rw [mset_mset, mset_s]
      refine congrArg (mset (mscr S (k, 48)) k) (funext fun z => ?_)
      show (if z = q then vw S 1 q else (if z < q then vw S 1 z else 0)) = if z < q + 1 then vw S 1 z else 0
      by_cases e1 : z = q
      · rw [if_pos e1, if_pos (by omega), e1]
      · rw [if_neg e1]
        by_cases e2 : z < q
        · rw [if_pos e2, if_pos (by omega)]
        · rw [if_neg e2, if_neg (by omega)]
    · refine tv_iload X dL_presses_9 rfl ?_
      refine tv_bipush (v := 48) X dL_presses_11 (by decide) ?_
      refine tv_icmp_ge (tgt := 41) X dL_presses_13 (by decide) (fun h1 => ?_) (fun h1 => ?_)
      · exact hend () trivial
      · exact absurd (nI_le (Nat.le_refl 48) (by decide)) h1
  intro _ _
  refine tv_aload_n X dL_presses_41 rfl ?_
  refine tv_iload_n X dL_presses_42 rfl ?_
  refine tv_iload_n X dL_presses_43 rfl ?_
  refine tv_iload_n X dL_presses_44 rfl ?_
  refine mm_callVi (q := (RX9, TX9, 8)) X dL_presses_45 (fX9_press (hT 48).1 hi hj hf1 hf) (cwV 3 X.2.2.2.2.1 gL_presses_X9_press rfl rfl rfl (by decide +kernel) ⟨Nat.le_of_ble_eq_true rfl, Nat.le_of_ble_eq_true rfl⟩) rfl rfl gX9 rfl (Nat.le_of_ble_eq_true rfl) ⟨Nat.le_of_ble_eq_true rfl, Nat.le_of_ble_eq_true rfl⟩ (fun r S1 hq => ?_)
  obtain ⟨hO, hq2⟩ := hq
  rw [(hT 48).2] at hO hq2
  rw [hq2]
  clear hq2
  have hv1 := hO.2.2.1
  have hsc := hO.2.2.2
  have e22 : S1.2.2 = (k, 48) := hsc.1
  have ek : ∀ q, q < 48 → S1.1 k q = vw S 1 q := fun q hq => by
    rw [hsc.2 k (by omega)]
    unfold bfT
    rw [mset_s]
    exact if_pos hq
  refine tv_aload_n X dL_presses_48 rfl ?_
  refine tv_iload_n X dL_presses_49 rfl ?_
  refine tv_iload_n X dL_presses_50 rfl ?_
  refine mm_callVi (q := (RX9, TX9, 8)) X dL_presses_51 (fX9_raw hi hj) (cwV 2 X.2.2.2.2.1 gL_presses_X9_raw rfl rfl rfl (by decide +kernel) ⟨Nat.le_of_ble_eq_true rfl, Nat.le_of_ble_eq_true rfl⟩) rfl rfl gX9 rfl (Nat.le_of_ble_eq_true rfl) ⟨Nat.le_of_ble_eq_true rfl, Nat.le_of_ble_eq_true rfl⟩ (fun r S2 hq => ?_)
  obtain ⟨hq1, hq2⟩ := hq
  rw [hv1] at hq2
  rw [hq1, hq2]
  clear hq1 hq2
  refine tv_icmp_ne (tgt := 61) X dL_presses_54 (by decide) (fun h1 => ?_) (fun h1 => ?_)
  · exact absurd rfl h1
  refine tv_iconst (v := 1) X dL_presses_57 (by decide) ?_
  refine tv_goto (tgt := 62) X dL_presses_58 (by decide) ?_
  refine tv_istore X dL_presses_62 rfl ?_
  refine tv_iconst (v := 0) X dL_presses_64 (by decide) ?_
  refine tv_istore X dL_presses_65 rfl ?_
  refine mm_for 48 (fun q => [(0, .ref (n0 + 0)), (1, .int (nI i)), (2, .int (nI j)), (3, .int (nI f)), (4, .ref (n0 + k)), (5, .int 1), (6, .int (nI q))]) (fun _ => S1) ?_ ?_
  · intro q hq ih
    generalize hdn : (if i < q / 6 then q / 6 - i else i - q / 6) = dn
    generalize hov : (if j < q % 6 then q % 6 - j else j - q % 6) = ov
    have hdn8 : dn < 8 := by rw [← hdn]; split <;> omega
    have hov6 : ov < 6 := by rw [← hov]; split <;> omega
    have hm := mr_law (i := i) (j := j) (a := q / 6) (b := q % 6) (f := f)
    rw [hdn, hov] at hm
    obtain ⟨hw1, hw2⟩ := rw_n hI.2.2.1 hq
    have hvq : prsV (vw S 1) i j f q = nI (cpN ((vw S 1 q).toNatClampNeg + mrN i j (q / 6) (q % 6) f)) := if_pos hq
    generalize mrN i j (q / 6) (q % 6) f = mo at hm hvq
    generalize (vw S 1 q).toNatClampNeg = w at hw1 hw2 hvq
    have hmo : mo < 256 := by
      rw [hm]
      split
      · omega
      · split
        · omega
        · split <;> omega
    refine tv_iload X dL_presses_67 rfl ?_
    refine tv_bipush (v := 48) X dL_presses_69 (by decide) ?_
    refine tv_icmp_ge (tgt := 245) X dL_presses_71 (by decide) (fun h1 => ?_) (fun h1 => ?_)
    · exact absurd h1 (nI_ge (a := q) (b := 48) hq (by decide))
    refine mm_cut (pc := 100) (fun _ : Unit => True) (fun _ => [(0, .ref (n0 + 0)), (1, .int (nI i)), (2, .int (nI j)), (3, .int (nI f)), (4, .ref (n0 + k)), (5, .int 1), (6, .int (nI q))]) (fun _ => [.int (nI dn)]) (fun _ => S1) ?_ ?_
    rotate_left
    · intro hA
      refine tv_iload X dL_presses_74 rfl ?_
      refine tv_bipush (v := 6) X dL_presses_76 (by decide) ?_
      refine tv_idiv X dL_presses_78 (by decide) ?_
      refine tv_iload_n X dL_presses_79 rfl ?_
      rw [div6 hq]
      refine tv_icmp_le (tgt := 93) X dL_presses_80 (by decide) (fun h2 => ?_) (fun h2 => ?_)
      · have h3 := (nI_leI (by omega) (by omega)).mp h2
        refine tv_iload_n X dL_presses_93 rfl ?_
        refine tv_iload X dL_presses_94 rfl ?_
        refine tv_bipush (v := 6) X dL_presses_96 (by decide) ?_
        refine tv_idiv X dL_presses_98 (by decide) ?_
        rw [div6 hq]
        refine tv_isub X dL_presses_99 ?_
        rw [pk_sub h3, show i - q / 6 = dn by rw [← hdn, if_neg (by omega)]]
        exact hA () trivial
      · have h3 : i < q / 6 := Nat.lt_of_not_le fun h9 => h2 (nI_le h9 (by omega))
        refine tv_iload X dL_presses_83 rfl ?_
        refine tv_bipush (v := 6) X dL_presses_85 (by decide) ?_
        refine tv_idiv X dL_presses_87 (by decide) ?_
        rw [div6 hq]
        refine tv_iload_n X dL_presses_88 rfl ?_
        refine tv_isub X dL_presses_89 ?_
        rw [pk_sub (by omega), show q / 6 - i = dn by rw [← hdn, if_pos h3]]
        refine tv_goto (tgt := 100) X dL_presses_90 (by decide) ?_
        exact hA () trivial
    intro _ _
    refine tv_istore X dL_presses_100 rfl ?_
    refine mm_cut (pc := 128) (fun _ : Unit => True) (fun _ => [(0, .ref (n0 + 0)), (1, .int (nI i)), (2, .int (nI j)), (3, .int (nI f)), (4, .ref (n0 + k)), (5, .int 1), (6, .int (nI q)), (7, .int (nI dn))]) (fun _ => [.int (nI ov)]) (fun _ => S1) ?_ ?_
    rotate_left
    · intro hA
      refine tv_iload X dL_presses_102 rfl ?_
      refine tv_bipush (v := 6) X dL_presses_104 (by decide) ?_
      refine tv_irem X dL_presses_106 (by decide) ?_
      refine tv_iload_n X dL_presses_107 rfl ?_
      rw [rem6 hq]
      refine tv_icmp_le (tgt := 121) X dL_presses_108 (by decide) (fun h2 => ?_) (fun h2 => ?_)
      · have h3 := (nI_leI (by omega) (by omega)).mp h2
        refine tv_iload_n X dL_presses_121 rfl ?_
        refine tv_iload X dL_presses_122 rfl ?_
        refine tv_bipush (v := 6) X dL_presses_124 (by decide) ?_
        refine tv_irem X dL_presses_126 (by decide) ?_
        rw [rem6 hq]
        refine tv_isub X dL_presses_127 ?_
        rw [pk_sub h3, show j - q % 6 = ov by rw [← hov, if_neg (by omega)]]
        exact hA () trivial
      · have h3 : j < q % 6 := Nat.lt_of_not_le fun h9 => h2 (nI_le h9 (by omega))
        refine tv_iload X dL_presses_111 rfl ?_
        refine tv_bipush (v := 6) X dL_presses_113 (by decide) ?_
        refine tv_irem X dL_presses_115 (by decide) ?_
        rw [rem6 hq]
        refine tv_iload_n X dL_presses_116 rfl ?_
        refine tv_isub X dL_presses_117 ?_
        rw [pk_sub (by omega), show q % 6 - j = ov by rw [← hov, if_pos h3]]
        refine tv_goto (tgt := 128) X dL_presses_118 (by decide) ?_
        exact hA () trivial
    intro _ _
    refine tv_istore X dL_presses_128 rfl ?_
    refine mm_cut (pc := 176) (fun _ : Unit => True) (fun _ => [(0, .ref (n0 + 0)), (1, .int (nI i)), (2, .int (nI j)), (3, .int (nI f)), (4, .ref (n0 + k)), (5, .int 1), (6, .int (nI q)), (7, .int (nI dn)), (8, .int (nI ov))]) (fun _ => [.int (nI mo)]) (fun _ => S1) ?_ ?_
    rotate_left
    · intro hA
      refine tv_iload X dL_presses_130 rfl ?_
      refine tv_iconst (v := 1) X dL_presses_132 (by decide) ?_
      refine tv_icmp_gt (tgt := 142) X dL_presses_133 (by decide) (fun h2 => ?_) (fun h2 => ?_)
      · have h3 : 1 < dn := (nI_ltI (a := 1) (by omega) (by omega)).mp h2
        rw [if_pos (Or.inl h3)] at hm
        rw [hm] at hA
        refine tv_iconst (v := 0) X dL_presses_142 (by decide) ?_
        refine tv_goto (tgt := 176) X dL_presses_143 (by decide) ?_
        exact hA () trivial
      have h3 : ¬ 1 < dn := fun h9 => h2 (nI_lt (a := 1) h9 (by omega))
      refine tv_iload X dL_presses_136 rfl ?_
      refine tv_iconst (v := 1) X dL_presses_138 (by decide) ?_
      refine tv_icmp_le (tgt := 146) X dL_presses_139 (by decide) (fun h4 => ?_) (fun h4 => ?_)
      rotate_left
      · have h5 : 1 < ov := Nat.lt_of_not_le fun h9 => h4 (nI_le (b := 1) h9 (by omega))
        rw [if_pos (Or.inr h5)] at hm
        rw [hm] at hA
        refine tv_iconst (v := 0) X dL_presses_142 (by decide) ?_
        refine tv_goto (tgt := 176) X dL_presses_143 (by decide) ?_
        exact hA () trivial
      have h5 : ov ≤ 1 := (nI_leI (b := 1) (by omega) (by omega)).mp h4
      rw [if_neg (by omega)] at hm
      refine tv_iload X dL_presses_146 rfl ?_
      refine tv_iload X dL_presses_148 rfl ?_
      refine tv_iadd X dL_presses_150 ?_
      rw [nI_add]
      refine tv_if_ne (tgt := 158) X dL_presses_151 (by decide) (fun h6 => ?_) (fun h6 => ?_)
      · have h7 : ¬ dn + ov = 0 := fun h9 => h6 (by rw [h9]; rfl)
        rw [if_neg h7] at hm
        refine tv_iload X dL_presses_158 rfl ?_
        refine tv_iload X dL_presses_160 rfl ?_
        refine tv_iadd X dL_presses_162 ?_
        rw [nI_add]
        refine tv_iconst (v := 1) X dL_presses_163 (by decide) ?_
        refine tv_icmp_ne (tgt := 173) X dL_presses_164 (by decide) (fun h8 => ?_) (fun h8 => ?_)
        · rw [if_neg (fun h9 => h8 (by rw [h9]; rfl))] at hm
          refine tv_iload_n X dL_presses_173 rfl ?_
          refine tv_iconst (v := 4) X dL_presses_174 (by decide) ?_
          refine tv_idiv X dL_presses_175 (by decide) ?_
          rw [show nI f / 4 = nI (f / 4) from pk_div (d := 4) (by omega) (by decide) (by decide), ← hm]
          exact hA () trivial
        · rw [if_pos ((nI_eq (b := 1) (by omega) (by decide)).mp h8)] at hm
          refine tv_iload_n X dL_presses_167 rfl ?_
          refine tv_iconst (v := 2) X dL_presses_168 (by decide) ?_
          refine tv_idiv X dL_presses_169 (by decide) ?_
          rw [show nI f / 2 = nI (f / 2) from pk_div (d := 2) (by omega) (by decide) (by decide), ← hm]
          refine tv_goto (tgt := 176) X dL_presses_170 (by decide) ?_
          exact hA () trivial
      · rw [if_pos ((nI_eq (b := 0) (by omega) (by decide)).mp h6)] at hm
        rw [hm] at hA
        refine tv_iload_n X dL_presses_154 rfl ?_
        refine tv_goto (tgt := 176) X dL_presses_155 (by decide) ?_
        exact hA () trivial
    intro _ _
    refine tv_istore X dL_presses_176 rfl ?_
    refine tv_aload_n X dL_presses_178 rfl ?_
    refine tv_iload X dL_presses_179 rfl ?_
    refine tv_bipush (v := 6) X dL_presses_181 (by decide) ?_
    refine tv_idiv X dL_presses_183 (by decide) ?_
    refine tv_iload X dL_presses_184 rfl ?_
    refine tv_bipush (v := 6) X dL_presses_186 (by decide) ?_
    refine tv_irem X dL_presses_188 (by decide) ?_
    rw [rem6 hq, div6 hq]
    refine mm_callVi (q := (RX9, TX9, 8)) X dL_presses_189 (fX9_raw (i := q / 6) (j := q % 6) (by omega) (by omega)) (cwV 2 X.2.2.2.2.1 gL_presses_X9_raw rfl rfl rfl (by decide +kernel) ⟨Nat.le_of_ble_eq_true rfl, Nat.le_of_ble_eq_true rfl⟩) rfl rfl gX9 rfl (Nat.le_of_ble_eq_true rfl) ⟨Nat.le_of_ble_eq_true rfl, Nat.le_of_ble_eq_true rfl⟩ (fun r S2 hq2 => ?_)
    obtain ⟨hq1, hq2⟩ := hq2
    rw [hv1, show 6 * (q / 6) + q % 6 = q by omega, hvq] at hq2
    rw [hq1, hq2]
    clear hq1 hq2
    refine tv_istore X dL_presses_192 rfl ?_
    refine tv_iload X dL_presses_194 rfl ?_
    refine tv_if_eq (tgt := 236) X dL_presses_196 (by decide) (fun h2 => ?_) (fun h2 => ?_)
    · exact absurd h2 (by decide)
    refine mm_cut (pc := 229) (fun _ : Unit => True) (fun _ => [(0, .ref (n0 + 0)), (1, .int (nI i)), (2, .int (nI j)), (3, .int (nI f)), (4, .ref (n0 + k)), (5, .int 1), (6, .int (nI q)), (7, .int (nI dn)), (8, .int (nI ov)), (9, .int (nI mo)), (10, .int (nI (cpN (w + mo))))]) (fun _ => [.int (nI (cpN (w + mo))), .int (nI (cpN (w + mo)))]) (fun _ => S1) ?_ ?_
    rotate_left
    · intro hA
      refine tv_iload X dL_presses_199 rfl ?_
      refine tv_aload X dL_presses_201 rfl ?_
      refine tv_iload X dL_presses_203 rfl ?_
      refine mm_iald X dL_presses_205 (g_scr hk e22) q rfl hq (by decide) ?_
      rw [ek q hq, hw1]
      refine tv_iload X dL_presses_206 rfl ?_
      refine tv_iadd X dL_presses_208 ?_
      rw [nI_add]
      refine tv_sipush (v := 255) X dL_presses_209 (by decide) ?_
      refine tv_icmp_le (tgt := 221) X dL_presses_212 (by decide) (fun h3 => ?_) (fun h3 => ?_)
      · have h4 : w + mo ≤ 255 := (nI_leI (b := 255) (by omega) (by decide)).mp h3
        refine tv_aload X dL_presses_221 rfl ?_
        refine tv_iload X dL_presses_223 rfl ?_
        refine mm_iald X dL_presses_225 (g_scr hk e22) q rfl hq (by decide) ?_
        rw [ek q hq, hw1]
        refine tv_iload X dL_presses_226 rfl ?_
        refine tv_iadd X dL_presses_228 ?_
        rw [nI_add]
        have e5 : cpN (w + mo) = w + mo := by
          unfold cpN
          by_cases h5 : w + mo < 255
          · rw [if_pos h5]
          · rw [if_neg h5]; omega
        rw [e5] at hA ⊢
        exact hA () trivial
      · have h4 : 255 < w + mo := Nat.lt_of_not_le fun h9 => h3 (nI_le (b := 255) h9 (by decide))
        refine tv_sipush (v := 255) X dL_presses_215 (by decide) ?_
        refine tv_goto (tgt := 229) X dL_presses_218 (by decide) ?_
        have e5 : cpN (w + mo) = 255 := by
          unfold cpN
          rw [if_neg (by omega)]
        rw [e5] at hA ⊢
        exact hA () trivial
    intro _ _
    refine tv_icmp_ne (tgt := 236) X dL_presses_229 (by decide) (fun h3 => ?_) (fun h3 => ?_)
    · exact absurd rfl h3
    refine tv_iconst (v := 1) X dL_presses_232 (by decide) ?_
    refine tv_goto (tgt := 237) X dL_presses_233 (by decide) ?_
    refine tv_istore X dL_presses_237 rfl ?_
    refine tv_iinc X dL_presses_239 rfl (nI_1 q) rfl ?_
    refine tv_goto (tgt := 67) X dL_presses_242 (by decide) ?_
    exact tv_sl [0, 1, 2, 3, 4, 5, 6] rfl ih
  · refine tv_iload X dL_presses_67 rfl ?_
    refine tv_bipush (v := 48) X dL_presses_69 (by decide) ?_
    refine tv_icmp_ge (tgt := 245) X dL_presses_71 (by decide) (fun h1 => ?_) (fun h1 => ?_)
    · refine tv_iload X dL_presses_245 rfl ?_
      refine mm_drop (by rw [e22]; exact hk) ?_
      exact tv_zret X hrt dL_presses_247 rfl ⟨mscr S1 (0, 0), rfl, rfl, hO.scr (hT 48).2 hI.2.1.2 (fun _ _ => rfl) rfl rfl⟩
    · exact absurd (nI_le (Nat.le_refl 48) (by decide)) h1
end C67

