/-! a matching, as the law looks at it -/
def asT (h k : Nat) (v : Nat → Int32) (q : Nat) (T : mS) : Prop := INV T h ∧ vw T 1 = v ∧ T.2.2 = (k, 6) ∧ ∀ t, t < q → T.1 k t = oI (asV v t)
theorem asT_q {h k q : Nat} {v : Nat → Int32} {T T' : mS} (hT : asT h k v q T) (hk : 129 < k) (hQ : QS T T') : asT h k v q T' := by
  obtain ⟨a1, a2, a3, a4⟩ := hT
  exact ⟨hQ.inv a1, hQ.vw1.trans a2, by rw [hQ.1]; exact a3, fun t ht => by rw [hQ.2 k (Or.inr (Or.inr (by omega))) (by omega)]; exact a4 t ht⟩
theorem asT_u {h k q : Nat} {v : Nat → Int32} {T : mS} (hT : asT h k v q T) (hk : 129 < k) : asT h k v (q + 1) (mupd T k q (oI (asV v q))) := by
  obtain ⟨a1, a2, a3, a4⟩ := hT
  obtain ⟨c1, c2⟩ := up_INV (j := q) (x := oI (asV v q)) a1 hk
  refine ⟨c1, c2.trans a2, a3, fun t ht => ?_⟩
  by_cases e : t = q
  · rw [e, mupd_ss]
  · rw [mupd_sn e]; exact a4 t (by omega)
theorem dcV_s {v : Nat → Int32} {q : Nat} : dcV v (q + 1) = dcV v q + if dnB v q = true then 1 else 0 := by
  rw [dcV]
  cases hd : dnB v q with
  | true => rw [if_neg (dn_iff.mp hd), if_pos rfl]
  | false => rw [if_pos (up_iff.mp hd), if_neg (by decide)]; rfl
theorem tk_64 {v : Nat → Int32} (q : Nat) : tkV v q < 64 := two6 kV_6 (tk_lt q)
section C75
variable {l : Launch} {D : va_G} {n0 : Nat} {ft : tv_ft} {n : Nat} {S : mS} {h : Nat}
theorem wL_isMatched_int : Cond.arrayClass .int ∈ wsL_isMatched := by decide +kernel
set_option maxHeartbeats 4000000 in
theorem cL_isMatched_ok (hI : INV S h) (h0 : S.2.2.1 = 0) : mAi l yL_isMatched wsL_isMatched rmL_isMatched 1 6 D n0 ft [.ref (n0 + 0)] n S (fun r S' => r = 1 ∧ INV S' h ∧ S'.2.2.1 = 0 ∧ vw S' 1 = vw S 1) := by
  have hG := hI.2.2.1
  generalize hv : vw S 1 = v at hG ⊢
  have hk6 := kV_6 (v := v)
  obtain ⟨ga1, ga2⟩ := ga_n hG
  unfold mAi
  refine tv_enter (cc := cL_isMatched) (maxL := 15) (ret := (some .boolean)) (by decide) rfl (Nat.le_of_ble_eq_true rfl) ?_
  intro p e s m args below meth c X hrt hnm hargs
  refine tv_aload_n X dL_isMatched_0 rfl ?_
  refine tv_iconst (v := 3) X dL_isMatched_1 (by decide) ?_
  refine mm_callVi (q := (RX9, TX9, 8)) X dL_isMatched_2 (fX9_setting (q := 3) (by decide)) (cwV 1 X.2.2.2.2.1 gL_isMatched_X9_setting rfl rfl rfl (by decide +kernel) ⟨Nat.le_of_ble_eq_true rfl, Nat.le_of_ble_eq_true rfl⟩) rfl rfl gX9 rfl (Nat.le_of_ble_eq_true rfl) ⟨Nat.le_of_ble_eq_true rfl, Nat.le_of_ble_eq_true rfl⟩ (fun r S1 hq => ?_)
  obtain ⟨hq1, hq2⟩ := hq
  rw [hv, show 96 + 3 = 99 from rfl] at hq2
  rw [hq1, hq2]
  clear hq1 hq2
  refine tv_aload_n X dL_isMatched_5 rfl ?_
  refine tv_iconst (v := 3) X dL_isMatched_6 (by decide) ?_
  refine mm_callVi (q := (RX9, TX9, 8)) X dL_isMatched_7 (fX9_setting (q := 3) (by decide)) (cwV 1 X.2.2.2.2.1 gL_isMatched_X9_setting rfl rfl rfl (by decide +kernel) ⟨Nat.le_of_ble_eq_true rfl, Nat.le_of_ble_eq_true rfl⟩) rfl rfl gX9 rfl (Nat.le_of_ble_eq_true rfl) ⟨Nat.le_of_ble_eq_true rfl, Nat.le_of_ble_eq_true rfl⟩ (fun r S1 hq => ?_)
  obtain ⟨hq1, hq2⟩ := hq
  rw [hv, show 96 + 3 = 99 from rfl] at hq2
  rw [hq1, hq2]
  clear hq1 hq2
  refine tv_imul X dL_isMatched_10 ?_
  rw [ga1]
  refine tv_istore_n X dL_isMatched_11 rfl ?_
  refine tv_iconst (v := 0) X dL_isMatched_12 (by decide) ?_
  refine tv_istore_n X dL_isMatched_13 rfl ?_
  refine tv_iconst (v := 0) X dL_isMatched_14 (by decide) ?_
  refine tv_istore_n X dL_isMatched_15 rfl ?_
  refine tv_iconst (v := 0) X dL_isMatched_16 (by decide) ?_
  refine tv_istore X dL_isMatched_17 rfl ?_
  refine tv_bipush (v := 6) X dL_isMatched_19 (by decide) ?_
  refine mm_newi X dL_isMatched_21 wL_isMatched_int h0 rfl (by decide) ⟨Nat.le_of_ble_eq_true rfl, Nat.le_of_ble_eq_true rfl⟩ (fun k hk => ?_)
  refine tv_astore X dL_isMatched_23 rfl ?_
  refine tv_iconst (v := 1) X dL_isMatched_25 (by decide) ?_
  refine tv_istore X dL_isMatched_26 rfl ?_
  refine tv_iconst (v := 0) X dL_isMatched_28 (by decide) ?_
  refine tv_istore X dL_isMatched_29 rfl ?_
  have hT0 : asT h k v 0 (mset (mscr S (k, 6)) k (fun _ => 0)) := by
    obtain ⟨a, b, -⟩ := INV_cg (T := mset (mscr S (k, 6)) k (fun _ => 0)) hI (fun q hq => mset_n (by omega)) rfl
    exact ⟨a, b.trans hv, rfl, fun t ht => absurd ht (Nat.not_lt_zero t)⟩
  refine mm_cut (pc := 174) (fun T => asT h k v 6 T) (fun _ => [(0, .ref (n0 + 0)), (1, .int (nI (gaN v))), (2, .int (nI (tkV v 6))), (3, .int (nI (sumN (fun t => cst v t (asV v t)) 6))), (4, .int (nI (dcV v 6))), (5, .ref (n0 + k)), (6, .int 1)]) (fun _ => []) (fun T => T) ?_ ?_
  rotate_left
  · intro hend
    refine mm_loop (ι := Nat × mS) (fun i => i.1 ≤ 6 ∧ asT h k v i.1 i.2) (fun i => 6 - i.1) (fun i => [(0, .ref (n0 + 0)), (1, .int (nI (gaN v))), (2, .int (nI (tkV v i.1))), (3, .int (nI (sumN (fun t => cst v t (asV v t)) i.1))), (4, .int (nI (dcV v i.1))), (5, .ref (n0 + k)), (6, .int 1), (7, .int (nI i.1))]) (fun i => i.2) (0, mset (mscr S (k, 6)) k (fun _ => 0)) ⟨Nat.zero_le _, hT0⟩ ?_
    rintro ⟨q, T⟩ ⟨hq6, hT⟩ ih
    dsimp only at hq6 hT ih ⊢
    refine tv_iload X dL_isMatched_31 rfl ?_
    refine tv_bipush (v := 6) X dL_isMatched_33 (by decide) ?_
    refine tv_icmp_ge (tgt := 174) X dL_isMatched_35 (by decide) (fun h1 => ?_) (fun h1 => ?_)
    · have e6 : q = 6 := by
        have : ¬ q < 6 := fun h9 => nI_ge (b := 6) h9 (by decide) h1
        omega
      rw [e6] at hT ⊢
      exact tv_sl [0, 1, 2, 3, 4, 5, 6] rfl (hend T hT)
    have hq : q < 6 := Nat.lt_of_not_le fun h9 => h1 (nI_le (a := 6) h9 (by omega))
    have hsum : sumN (fun t => cst v t (asV v t)) (q + 1) = sumN (fun t => cst v t (asV v t)) q + cst v q (asV v q) := rfl
    have htk := tk_s (v := v) (t := q)
    refine tv_aload X dL_isMatched_38 rfl ?_
    refine tv_iload X dL_isMatched_40 rfl ?_
    refine tv_aload_n X dL_isMatched_42 rfl ?_
    refine tv_iload X dL_isMatched_43 rfl ?_
    refine mm_callVi (q := (RX9, TX9, 8)) X dL_isMatched_45 (fX9_match hT.1 hq) (cwV 1 X.2.2.2.2.1 gL_isMatched_X9_match rfl rfl rfl (by decide +kernel) ⟨Nat.le_of_ble_eq_true rfl, Nat.le_of_ble_eq_true rfl⟩) rfl rfl gX9 rfl (Nat.le_of_ble_eq_true rfl) ⟨Nat.le_of_ble_eq_true rfl, Nat.le_of_ble_eq_true rfl⟩ (fun r S2 hq2 => ?_)
    obtain ⟨hQ2, hq2⟩ := hq2
    rw [hT.2.1] at hq2
    have e22 : S2.2.2 = (k, 6) := by rw [hQ2.1]; exact hT.2.2.1
    rw [hq2]
    clear hq2
    have hst := asT_u (asT_q hT hk hQ2) hk
    refine mm_iast X dL_isMatched_48 (g_scr hk e22) q rfl (by omega) (by decide) ?_
    refine tv_iload X dL_isMatched_49 rfl ?_
    refine tv_aload_n X dL_isMatched_51 rfl ?_
    refine tv_iload X dL_isMatched_52 rfl ?_
    generalize mupd S2 k q (oI (asV v q)) = T1 at hst ⊢
    refine mm_callVi (q := (RX9, TX9, 8)) X dL_isMatched_54 (fX9_isDown (by rw [hst.2.1]; exact hG) hq) (cwV 1 X.2.2.2.2.1 gL_isMatched_X9_isDown rfl rfl rfl (by decide +kernel) ⟨Nat.le_of_ble_eq_true rfl, Nat.le_of_ble_eq_true rfl⟩) rfl rfl gX9 rfl (Nat.le_of_ble_eq_true rfl) ⟨Nat.le_of_ble_eq_true rfl, Nat.le_of_ble_eq_true rfl⟩ (fun r S3 hq2 => ?_)
    obtain ⟨hq1, hq2⟩ := hq2
    rw [hst.2.1] at hq2
    rw [hq1]
    clear hq1
    refine mm_cut (pc := 65) (fun _ : Unit => True) (fun _ => [(0, .ref (n0 + 0)), (1, .int (nI (gaN v))), (2, .int (nI (tkV v q))), (3, .int (nI (sumN (fun t => cst v t (asV v t)) q))), (4, .int (nI (dcV v q))), (5, .ref (n0 + k)), (6, .int 1), (7, .int (nI q))]) (fun _ => [.int (nI (if dnB v q = true then 1 else 0)), .int (nI (dcV v q))]) (fun _ => T1) ?_ ?_
    rotate_left
    · intro hA
      rcases hq2 with ⟨e1, e2⟩ | ⟨e1, e2⟩
      · rw [e2, if_neg (by decide)] at hA
        rw [e1]
        refine tv_if_eq (tgt := 64) X dL_isMatched_57 (by decide) (fun h2 => ?_) (fun h2 => ?_)
        · refine tv_iconst (v := 0) X dL_isMatched_64 (by decide) ?_
          exact hA () trivial
        · exact absurd rfl h2
      · rw [e2, if_pos rfl] at hA
        rw [e1]
        refine tv_if_eq (tgt := 64) X dL_isMatched_57 (by decide) (fun h2 => ?_) (fun h2 => ?_)
        · exact absurd h2 (by decide)
        · refine tv_iconst (v := 1) X dL_isMatched_60 (by decide) ?_
          refine tv_goto (tgt := 65) X dL_isMatched_61 (by decide) ?_
          exact hA () trivial
    intro _ _
    clear hq2
    refine tv_iadd X dL_isMatched_65 ?_
    rw [nI_add, ← dcV_s]
    have e2T := hst.2.2.1
    refine tv_istore X dL_isMatched_66 rfl ?_
    refine tv_aload X dL_isMatched_68 rfl ?_
    refine tv_iload X dL_isMatched_70 rfl ?_
    refine mm_iald X dL_isMatched_72 (g_scr hk e2T) q rfl hq (by decide) ?_
    rw [hst.2.2.2 q (by omega)]
    cases ha : asV v q with
    | none =>
      rw [ha] at hsum htk
      refine tv_if_lt (tgt := 151) X dL_isMatched_73 (by decide) (fun h2 => ?_) (fun h2 => ?_)
      rotate_left
      · exact absurd (show (-1 : Int32) < 0 by decide) h2
      refine tv_iload_n X dL_isMatched_151 rfl ?_
      refine tv_aload_n X dL_isMatched_152 rfl ?_
      refine tv_iload X dL_isMatched_153 rfl ?_
      refine mm_callVi (q := (RX9, TX9, 8)) X dL_isMatched_155 (fX9_isDown (by rw [hst.2.1]; exact hG) hq) (cwV 1 X.2.2.2.2.1 gL_isMatched_X9_isDown rfl rfl rfl (by decide +kernel) ⟨Nat.le_of_ble_eq_true rfl, Nat.le_of_ble_eq_true rfl⟩) rfl rfl gX9 rfl (Nat.le_of_ble_eq_true rfl) ⟨Nat.le_of_ble_eq_true rfl, Nat.le_of_ble_eq_true rfl⟩ (fun r2 S3 hq2 => ?_)
      obtain ⟨hq1, hq2⟩ := hq2
      rw [hst.2.1] at hq2
      rw [hq1]
      clear hq1
      refine mm_cut (pc := 166) (fun _ : Unit => True) (fun _ => [(0, .ref (n0 + 0)), (1, .int (nI (gaN v))), (2, .int (nI (tkV v q))), (3, .int (nI (sumN (fun t => cst v t (asV v t)) q))), (4, .int (nI (dcV v (q + 1)))), (5, .ref (n0 + k)), (6, .int 1), (7, .int (nI q))]) (fun _ => [.int (nI (nnN v q)), .int (nI (sumN (fun t => cst v t (asV v t)) q))]) (fun _ => T1) ?_ ?_
      rotate_left
      · intro hA
        unfold nnN at hA
        rcases hq2 with ⟨e1, e2⟩ | ⟨e1, e2⟩
        · rw [e2, if_neg (by decide)] at hA
          rw [e1]
          refine tv_if_eq (tgt := 165) X dL_isMatched_158 (by decide) (fun h3 => ?_) (fun h3 => ?_)
          · refine tv_iconst (v := 0) X dL_isMatched_165 (by decide) ?_
            exact hA () trivial
          · exact absurd rfl h3
        · rw [e2, if_pos rfl] at hA
          rw [e1]
          refine tv_if_eq (tgt := 165) X dL_isMatched_158 (by decide) (fun h3 => ?_) (fun h3 => ?_)
          · exact absurd h3 (by decide)
          · refine tv_iload_n X dL_isMatched_161 rfl ?_
            refine tv_goto (tgt := 166) X dL_isMatched_162 (by decide) ?_
            exact hA () trivial
      intro _ _
      refine tv_iadd X dL_isMatched_166 ?_
      rw [nI_add]
      refine tv_istore_n X dL_isMatched_167 rfl ?_
      refine tv_iinc X dL_isMatched_168 rfl (nI_1 q) rfl ?_
      refine tv_goto (tgt := 31) X dL_isMatched_171 (by decide) ?_
      have hih := ih (q + 1, T1) ⟨by omega, hst⟩ (by dsimp only; omega)
      dsimp only at hih
      rw [hsum, htk] at hih
      exact tv_sl [0, 1, 2, 3, 4, 5, 6, 7] rfl hih
    | some c =>
      rw [ha] at hsum htk
      obtain ⟨hc, ho, hb, -⟩ := as_ok hG hq ha
      have hd := as_dn hG hq ha
      have hwy := wy_n hG hq hc
      have hle : wyN v q c ≤ gaN v := by
        unfold okN at ho
        rw [Bool.and_eq_true] at ho
        exact of_decide_eq_true ho.2
      have hrow : ∀ T', asT h k v (q + 1) T' → T'.1 k q = nI c := fun T' h9 => by
        rw [h9.2.2.2 q (by omega), ha]
        rfl
      refine tv_if_lt (tgt := 151) X dL_isMatched_73 (by decide) (fun h2 => ?_) (fun h2 => ?_)
      · exact absurd h2 (nI_pos (n := c) (by omega))
      refine tv_iload X dL_isMatched_76 rfl ?_
      refine tv_if_eq (tgt := 121) X dL_isMatched_78 (by decide) (fun h3 => ?_) (fun h3 => ?_)
      · exact absurd h3 (by decide)
      refine tv_aload_n X dL_isMatched_81 rfl ?_
      refine tv_iload X dL_isMatched_82 rfl ?_
      refine mm_callVi (q := (RX9, TX9, 8)) X dL_isMatched_84 (fX9_isDown (by rw [hst.2.1]; exact hG) hq) (cwV 1 X.2.2.2.2.1 gL_isMatched_X9_isDown rfl rfl rfl (by decide +kernel) ⟨Nat.le_of_ble_eq_true rfl, Nat.le_of_ble_eq_true rfl⟩) rfl rfl gX9 rfl (Nat.le_of_ble_eq_true rfl) ⟨Nat.le_of_ble_eq_true rfl, Nat.le_of_ble_eq_true rfl⟩ (fun r3 S3 hq2 => ?_)
      obtain ⟨hq1, hq2⟩ := hq2
      rw [hst.2.1] at hq2
      have hr3 : r3 = 1 := by
        rcases hq2 with ⟨-, e2⟩ | ⟨e1, -⟩
        · rw [hd] at e2; cases e2
        · exact e1
      rw [hq1, hr3]
      clear hq1 hq2 hr3
      refine tv_if_eq (tgt := 121) X dL_isMatched_87 (by decide) (fun h3 => ?_) (fun h3 => ?_)
      · exact absurd h3 (by decide)
      refine tv_iload_n X dL_isMatched_90 rfl ?_
      refine tv_aload X dL_isMatched_91 rfl ?_
      refine tv_iload X dL_isMatched_93 rfl ?_
      refine mm_iald X dL_isMatched_95 (g_scr hk e2T) q rfl hq (by decide) ?_
      rw [hrow T1 hst]
      refine tv_ishr X dL_isMatched_96 ?_
      refine tv_iconst (v := 1) X dL_isMatched_97 (by decide) ?_
      refine tv_iand X dL_isMatched_98 ?_
      rw [(bw3 _ (tk_64 q) c (by omega)).1, hb, if_neg (by decide)]
      refine tv_if_ne (tgt := 121) X dL_isMatched_99 (by decide) (fun h3 => ?_) (fun h3 => ?_)
      · exact absurd rfl h3
      refine tv_aload_n X dL_isMatched_102 rfl ?_
      refine tv_iload X dL_isMatched_103 rfl ?_
      refine tv_aload X dL_isMatched_105 rfl ?_
      refine tv_iload X dL_isMatched_107 rfl ?_
      refine mm_iald X dL_isMatched_109 (g_scr hk e2T) q rfl hq (by decide) ?_
      rw [hrow T1 hst]
      refine mm_callVi (q := (RX9, TX9, 8)) X dL_isMatched_110 (fX9_squaredDistance (t := q) (c := c) hq (by omega)) (cwV 2 X.2.2.2.2.1 gL_isMatched_X9_squaredDistance rfl rfl rfl (by decide +kernel) ⟨Nat.le_of_ble_eq_true rfl, Nat.le_of_ble_eq_true rfl⟩) rfl rfl gX9 rfl (Nat.le_of_ble_eq_true rfl) ⟨Nat.le_of_ble_eq_true rfl, Nat.le_of_ble_eq_true rfl⟩ (fun r4 S4 hq2 => ?_)
      obtain ⟨hQ4, hq2⟩ := hq2
      rw [hst.2.1, if_pos ⟨hd, hc⟩, hwy.1] at hq2
      rw [hq2]
      clear hq2
      have hs4 := asT_q hst hk hQ4
      have e24 := hs4.2.2.1
      refine tv_iload_n X dL_isMatched_113 rfl ?_
      refine tv_icmp_gt (tgt := 121) X dL_isMatched_114 (by decide) (fun h3 => ?_) (fun h3 => ?_)
      · exact absurd h3 (nI_nlt hle (by omega))
      refine tv_iconst (v := 1) X dL_isMatched_117 (by decide) ?_
      refine tv_goto (tgt := 122) X dL_isMatched_118 (by decide) ?_
      refine tv_istore X dL_isMatched_122 rfl ?_
      refine tv_iload_n X dL_isMatched_124 rfl ?_
      refine tv_iconst (v := 1) X dL_isMatched_125 (by decide) ?_
      refine tv_aload X dL_isMatched_126 rfl ?_
      refine tv_iload X dL_isMatched_128 rfl ?_
      refine mm_iald X dL_isMatched_130 (g_scr hk e24) q rfl hq (by decide) ?_
      rw [hrow S4 hs4]
      refine tv_ishl X dL_isMatched_131 ?_
      refine tv_ior X dL_isMatched_132 ?_
      rw [(or6 _ (tk_64 q) c (by omega)).1]
      refine tv_istore_n X dL_isMatched_133 rfl ?_
      refine tv_iload_n X dL_isMatched_134 rfl ?_
      refine tv_aload_n X dL_isMatched_135 rfl ?_
      refine tv_iload X dL_isMatched_136 rfl ?_
      refine tv_aload X dL_isMatched_138 rfl ?_
      refine tv_iload X dL_isMatched_140 rfl ?_
      refine mm_iald X dL_isMatched_142 (g_scr hk e24) q rfl hq (by decide) ?_
      rw [hrow S4 hs4]
      refine mm_callVi (q := (RX9, TX9, 8)) X dL_isMatched_143 (fX9_squaredDistance (t := q) (c := c) hq (by omega)) (cwV 2 X.2.2.2.2.1 gL_isMatched_X9_squaredDistance rfl rfl rfl (by decide +kernel) ⟨Nat.le_of_ble_eq_true rfl, Nat.le_of_ble_eq_true rfl⟩) rfl rfl gX9 rfl (Nat.le_of_ble_eq_true rfl) ⟨Nat.le_of_ble_eq_true rfl, Nat.le_of_ble_eq_true rfl⟩ (fun r5 S5 hq2 => ?_)
      obtain ⟨hQ5, hq2⟩ := hq2
      rw [hs4.2.1, if_pos ⟨hd, hc⟩, hwy.1] at hq2
      rw [hq2]
      clear hq2
      have hs5 := asT_q hs4 hk hQ5
      refine tv_iadd X dL_isMatched_146 ?_
      rw [nI_add]
      refine tv_istore_n X dL_isMatched_147 rfl ?_
      refine tv_goto (tgt := 168) X dL_isMatched_148 (by decide) ?_
      refine tv_iinc X dL_isMatched_168 rfl (nI_1 q) rfl ?_
      refine tv_goto (tgt := 31) X dL_isMatched_171 (by decide) ?_
      have hih := ih (q + 1, S5) ⟨by omega, hs5⟩ (by dsimp only; omega)
      dsimp only at hih
      rw [hsum, htk] at hih
      exact tv_sl [0, 1, 2, 3, 4, 5, 6, 7] rfl hih
  intro T hT
  have hcost := cost_le hG 6 (Nat.le_refl 6)
  have hdc := dcV_le (v := v) 6
  have hmul : gaN v * dcV v 6 ≤ 1000000 * 6 := Nat.mul_le_mul ga2 hdc
  refine tv_iload X dL_isMatched_174 rfl ?_
  refine tv_if_eq (tgt := 199) X dL_isMatched_176 (by decide) (fun h1 => ?_) (fun h1 => ?_)
  · exact absurd h1 (by decide)
  refine tv_aload_n X dL_isMatched_179 rfl ?_
  refine mm_callVi (q := (RX9, TX9, 8)) X dL_isMatched_180 (fX9_matchingCost hT.1) (cwV 0 X.2.2.2.2.1 gL_isMatched_X9_matchingCost rfl rfl rfl (by decide +kernel) ⟨Nat.le_of_ble_eq_true rfl, Nat.le_of_ble_eq_true rfl⟩) rfl rfl gX9 rfl (Nat.le_of_ble_eq_true rfl) ⟨Nat.le_of_ble_eq_true rfl, Nat.le_of_ble_eq_true rfl⟩ (fun r S2 hq => ?_)
  obtain ⟨hQ2, hq2⟩ := hq
  rw [hT.2.1, cost_v hG] at hq2
  rw [hq2]
  clear hq2
  have hT2 := asT_q hT hk hQ2
  refine tv_iload_n X dL_isMatched_183 rfl ?_
  refine tv_icmp_ne (tgt := 199) X dL_isMatched_184 (by decide) (fun h2 => ?_) (fun h2 => ?_)
  · exact absurd rfl h2
  refine tv_iload_n X dL_isMatched_187 rfl ?_
  refine tv_iload_n X dL_isMatched_188 rfl ?_
  refine tv_iload X dL_isMatched_189 rfl ?_
  refine tv_imul X dL_isMatched_191 ?_
  rw [pk_mul]
  refine tv_icmp_gt (tgt := 199) X dL_isMatched_192 (by decide) (fun h3 => ?_) (fun h3 => ?_)
  · exact absurd h3 (nI_nlt hcost (by omega))
  refine tv_iconst (v := 1) X dL_isMatched_195 (by decide) ?_
  refine tv_goto (tgt := 200) X dL_isMatched_196 (by decide) ?_
  refine tv_istore X dL_isMatched_200 rfl ?_
  refine tv_iconst (v := 0) X dL_isMatched_202 (by decide) ?_
  refine tv_istore X dL_isMatched_203 rfl ?_
  refine mm_loop (ι := Nat × mS) (fun i => i.1 ≤ 36 ∧ asT h k v 6 i.2) (fun i => 36 - i.1) (fun i => [(0, .ref (n0 + 0)), (1, .int (nI (gaN v))), (2, .int (nI (tkV v 6))), (5, .ref (n0 + k)), (6, .int 1), (7, .int (nI i.1))]) (fun i => i.2) (0, S2) ⟨Nat.zero_le _, hT2⟩ ?_ |> tv_sl [0, 1, 2, 5, 6, 7] rfl
  clear hT hT2 hQ2
  rintro ⟨q, T⟩ ⟨hq36, hT⟩ ih
  dsimp only at hq36 hT ih ⊢
  refine tv_iload X dL_isMatched_205 rfl ?_
  refine tv_bipush (v := 36) X dL_isMatched_207 (by decide) ?_
  refine tv_icmp_ge (tgt := 470) X dL_isMatched_209 (by decide) (fun h1 => ?_) (fun h1 => ?_)
  · refine tv_iload X dL_isMatched_470 rfl ?_
    refine mm_drop (by rw [hT.2.2.1]; exact hk) ?_
    obtain ⟨i1, i2, -⟩ := INV_cg (T := mscr T (0, 0)) hT.1 (fun _ _ => rfl) rfl
    exact tv_zret X hrt dL_isMatched_472 rfl ⟨mscr T (0, 0), rfl, rfl, i1, rfl, i2.trans hT.2.1⟩
  have hq : q < 36 := Nat.lt_of_not_le fun h9 => h1 (nI_le (a := 36) h9 (by omega))
  refine tv_iload X dL_isMatched_212 rfl ?_
  refine tv_if_eq (tgt := 470) X dL_isMatched_214 (by decide) (fun h2 => ?_) (fun h2 => ?_)
  · exact absurd h2 (by decide)
  refine tv_iload X dL_isMatched_217 rfl ?_
  refine tv_bipush (v := 6) X dL_isMatched_219 (by decide) ?_
  refine tv_idiv X dL_isMatched_221 (by decide) ?_
  rw [div6 (c := q) (by omega)]
  refine tv_istore X dL_isMatched_222 rfl ?_
  refine tv_iload X dL_isMatched_224 rfl ?_
  refine tv_bipush (v := 6) X dL_isMatched_226 (by decide) ?_
  refine tv_irem X dL_isMatched_228 (by decide) ?_
  rw [rem6 (c := q) (by omega)]
  refine tv_istore X dL_isMatched_229 rfl ?_
  refine tv_iload X dL_isMatched_231 rfl ?_
  refine tv_iload X dL_isMatched_233 rfl ?_
  have ha6 : q / 6 < 6 := by omega
  have hb6 : q % 6 < 6 := by omega
  generalize q / 6 = a at ha6 ⊢
  generalize q % 6 = b at hb6 ⊢
  refine mm_cut (pc := 360) (fun T => asT h k v 6 T) (fun _ => [(0, .ref (n0 + 0)), (1, .int (nI (gaN v))), (2, .int (nI (tkV v 6))), (5, .ref (n0 + k)), (6, .int 1), (7, .int (nI q)), (8, .int (nI a)), (9, .int (nI b))]) (fun _ => []) (fun T => T) ?_ ?_
  rotate_left
  · intro hA
    have e22 := hT.2.2.1
    refine mm_cut (pc := 258) (fun _ : Unit => True) (fun _ => [(0, .ref (n0 + 0)), (1, .int (nI (gaN v))), (2, .int (nI (tkV v 6))), (5, .ref (n0 + k)), (6, .int 1), (7, .int (nI q)), (8, .int (nI a)), (9, .int (nI b))]) (fun _ => []) (fun _ => T) ?_ ?_
    · intro _ _
      refine tv_iconst (v := 0) X dL_isMatched_258 (by decide) ?_
      refine tv_istore X dL_isMatched_259 rfl ?_
      refine tv_iload X dL_isMatched_261 rfl ?_
      refine tv_if_eq (tgt := 280) X dL_isMatched_263 (by decide) (fun h3 => ?_) (fun h3 => ?_)
      rotate_left
      · exact absurd rfl h3
      refine tv_iconst (v := 0) X dL_isMatched_280 (by decide) ?_
      refine tv_istore X dL_isMatched_281 rfl ?_
      refine tv_iload X dL_isMatched_283 rfl ?_
      refine tv_if_eq (tgt := 302) X dL_isMatched_285 (by decide) (fun h3 => ?_) (fun h3 => ?_)
      rotate_left
      · exact absurd rfl h3
      refine tv_iconst (v := 0) X dL_isMatched_302 (by decide) ?_
      refine tv_istore X dL_isMatched_303 rfl ?_
      refine tv_iload X dL_isMatched_305 rfl ?_
      refine tv_if_eq (tgt := 353) X dL_isMatched_307 (by decide) (fun h3 => ?_) (fun h3 => ?_)
      rotate_left
      · exact absurd rfl h3
      refine tv_iconst (v := 1) X dL_isMatched_353 (by decide) ?_
      refine tv_goto (tgt := 358) X dL_isMatched_354 (by decide) ?_
      refine tv_istore X dL_isMatched_358 rfl ?_
      exact tv_sl [0, 1, 2, 3, 4, 5, 6, 7] rfl (hA T hT)
    intro hN
    refine tv_icmp_eq (tgt := 258) X dL_isMatched_235 (by decide) (fun h3 => ?_) (fun h3 => ?_)
    · exact hN () trivial
    have hab : a ≠ b := fun e => h3 (by rw [e])
    refine tv_aload X dL_isMatched_238 rfl ?_
    refine tv_iload X dL_isMatched_240 rfl ?_
    refine mm_iald X dL_isMatched_242 (g_scr hk e22) a rfl ha6 (by decide) ?_
    rw [hT.2.2.2 a ha6]
    cases ea : asV v a with
    | none =>
      refine tv_if_lt (tgt := 258) X dL_isMatched_243 (by decide) (fun h4 => ?_) (fun h4 => ?_)
      · exact hN () trivial
      · exact absurd (show (-1 : Int32) < 0 by decide) h4
    | some ca =>
      obtain ⟨hca, hoa, -, -⟩ := as_ok hG ha6 ea
      have hda := as_dn hG ha6 ea
      refine tv_if_lt (tgt := 258) X dL_isMatched_243 (by decide) (fun h4 => ?_) (fun h4 => ?_)
      · exact absurd h4 (nI_pos (n := ca) (by omega))
      refine tv_aload X dL_isMatched_246 rfl ?_
      refine tv_iload X dL_isMatched_248 rfl ?_
      refine mm_iald X dL_isMatched_250 (g_scr hk e22) b rfl hb6 (by decide) ?_
      rw [hT.2.2.2 b hb6]
      cases eb : asV v b with
      | none =>
        refine tv_if_lt (tgt := 258) X dL_isMatched_251 (by decide) (fun h5 => ?_) (fun h5 => ?_)
        · exact hN () trivial
        · exact absurd (show (-1 : Int32) < 0 by decide) h5
      | some cb =>
        obtain ⟨hcb, hob, -, -⟩ := as_ok hG hb6 eb
        have hdb := as_dn hG hb6 eb
        have w1 := wy_n hG ha6 hcb
        have w2 := wy_n hG hb6 hca
        have w3 := wy_n hG ha6 hca
        have w4 := wy_n hG hb6 hcb
        have ra : ∀ T', asT h k v 6 T' → T'.1 k a = nI ca := fun T' h9 => by
          rw [h9.2.2.2 a ha6, ea]
          rfl
        have rb : ∀ T', asT h k v 6 T' → T'.1 k b = nI cb := fun T' h9 => by
          rw [h9.2.2.2 b hb6, eb]
          rfl
        refine tv_if_lt (tgt := 258) X dL_isMatched_251 (by decide) (fun h5 => ?_) (fun h5 => ?_)
        · exact absurd h5 (nI_pos (n := cb) (by omega))
        refine tv_iconst (v := 1) X dL_isMatched_254 (by decide) ?_
        refine tv_goto (tgt := 259) X dL_isMatched_255 (by decide) ?_
        refine tv_istore X dL_isMatched_259 rfl ?_
        refine tv_iload X dL_isMatched_261 rfl ?_
        refine tv_if_eq (tgt := 280) X dL_isMatched_263 (by decide) (fun h6 => ?_) (fun h6 => ?_)
        · exact absurd h6 (by decide)
        refine tv_aload_n X dL_isMatched_266 rfl ?_
        refine tv_iload X dL_isMatched_267 rfl ?_
        refine tv_aload X dL_isMatched_269 rfl ?_
        refine tv_iload X dL_isMatched_271 rfl ?_
        refine mm_iald X dL_isMatched_273 (g_scr hk e22) b rfl hb6 (by decide) ?_
        rw [rb T hT]
        refine mm_callVi (q := (RX9, TX9, 8)) X dL_isMatched_274 (fX9_squaredDistance (t := a) (c := cb) ha6 (by omega)) (cwV 2 X.2.2.2.2.1 gL_isMatched_X9_squaredDistance rfl rfl rfl (by decide +kernel) ⟨Nat.le_of_ble_eq_true rfl, Nat.le_of_ble_eq_true rfl⟩) rfl rfl gX9 rfl (Nat.le_of_ble_eq_true rfl) ⟨Nat.le_of_ble_eq_true rfl, Nat.le_of_ble_eq_true rfl⟩ (fun r1 S1 hq2 => ?_)
        obtain ⟨hQ1, hq2⟩ := hq2
        rw [hT.2.1, if_pos ⟨hda, hcb⟩, w1.1] at hq2
        rw [hq2]
        clear hq2
        have t1 := asT_q hT hk hQ1
        have e21 := t1.2.2.1
        refine tv_goto (tgt := 281) X dL_isMatched_277 (by decide) ?_
        refine tv_istore X dL_isMatched_281 rfl ?_
        refine tv_iload X dL_isMatched_283 rfl ?_
        refine tv_if_eq (tgt := 302) X dL_isMatched_285 (by decide) (fun h6 => ?_) (fun h6 => ?_)
        · exact absurd h6 (by decide)
        refine tv_aload_n X dL_isMatched_288 rfl ?_
        refine tv_iload X dL_isMatched_289 rfl ?_
        refine tv_aload X dL_isMatched_291 rfl ?_
        refine tv_iload X dL_isMatched_293 rfl ?_
        refine mm_iald X dL_isMatched_295 (g_scr hk e21) a rfl ha6 (by decide) ?_
        rw [ra S1 t1]
        refine mm_callVi (q := (RX9, TX9, 8)) X dL_isMatched_296 (fX9_squaredDistance (t := b) (c := ca) hb6 (by omega)) (cwV 2 X.2.2.2.2.1 gL_isMatched_X9_squaredDistance rfl rfl rfl (by decide +kernel) ⟨Nat.le_of_ble_eq_true rfl, Nat.le_of_ble_eq_true rfl⟩) rfl rfl gX9 rfl (Nat.le_of_ble_eq_true rfl) ⟨Nat.le_of_ble_eq_true rfl, Nat.le_of_ble_eq_true rfl⟩ (fun r2 S2 hq2 => ?_)
        obtain ⟨hQ2, hq2⟩ := hq2
        rw [t1.2.1, if_pos ⟨hdb, hca⟩, w2.1] at hq2
        rw [hq2]
        clear hq2
        have t2 := asT_q t1 hk hQ2
        have e2 := t2.2.2.1
        refine tv_goto (tgt := 303) X dL_isMatched_299 (by decide) ?_
        refine tv_istore X dL_isMatched_303 rfl ?_
        refine tv_iload X dL_isMatched_305 rfl ?_
        refine tv_if_eq (tgt := 353) X dL_isMatched_307 (by decide) (fun h6 => ?_) (fun h6 => ?_)
        · exact absurd h6 (by decide)
        refine tv_iload X dL_isMatched_310 rfl ?_
        refine tv_iload_n X dL_isMatched_312 rfl ?_
        refine tv_icmp_gt (tgt := 353) X dL_isMatched_313 (by decide) (fun h7 => ?_) (fun h7 => ?_)
        · refine tv_iconst (v := 1) X dL_isMatched_353 (by decide) ?_
          refine tv_goto (tgt := 358) X dL_isMatched_354 (by decide) ?_
          refine tv_istore X dL_isMatched_358 rfl ?_
          exact tv_sl [0, 1, 2, 3, 4, 5, 6, 7] rfl (hA S2 t2)
        have o1 : okN v a cb = true := by
          unfold okN
          rw [hda, decide_eq_true (show wyN v a cb ≤ gaN v from Nat.le_of_not_lt fun h9 => h7 (nI_lt h9 (by omega)))]
          rfl
        refine tv_iload X dL_isMatched_316 rfl ?_
        refine tv_iload_n X dL_isMatched_318 rfl ?_
        refine tv_icmp_gt (tgt := 353) X dL_isMatched_319 (by decide) (fun h8 => ?_) (fun h8 => ?_)
        · refine tv_iconst (v := 1) X dL_isMatched_353 (by decide) ?_
          refine tv_goto (tgt := 358) X dL_isMatched_354 (by decide) ?_
          refine tv_istore X dL_isMatched_358 rfl ?_
          exact tv_sl [0, 1, 2, 3, 4, 5, 6, 7] rfl (hA S2 t2)
        have o2 : okN v b ca = true := by
          unfold okN
          rw [hdb, decide_eq_true (show wyN v b ca ≤ gaN v from Nat.le_of_not_lt fun h9 => h8 (nI_lt h9 (by omega)))]
          rfl
        have hx := exch2 hG ha6 hb6 hab ea eb o1 o2
        refine tv_iload X dL_isMatched_322 rfl ?_
        refine tv_iload X dL_isMatched_324 rfl ?_
        refine tv_iadd X dL_isMatched_326 ?_
        rw [nI_add]
        refine tv_aload_n X dL_isMatched_327 rfl ?_
        refine tv_iload X dL_isMatched_328 rfl ?_
        refine tv_aload X dL_isMatched_330 rfl ?_
        refine tv_iload X dL_isMatched_332 rfl ?_
        refine mm_iald X dL_isMatched_334 (g_scr hk e2) a rfl ha6 (by decide) ?_
        rw [ra S2 t2]
        refine mm_callVi (q := (RX9, TX9, 8)) X dL_isMatched_335 (fX9_squaredDistance (t := a) (c := ca) ha6 (by omega)) (cwV 2 X.2.2.2.2.1 gL_isMatched_X9_squaredDistance rfl rfl rfl (by decide +kernel) ⟨Nat.le_of_ble_eq_true rfl, Nat.le_of_ble_eq_true rfl⟩) rfl rfl gX9 rfl (Nat.le_of_ble_eq_true rfl) ⟨Nat.le_of_ble_eq_true rfl, Nat.le_of_ble_eq_true rfl⟩ (fun r3 S3 hq2 => ?_)
        obtain ⟨hQ3, hq2⟩ := hq2
        rw [t2.2.1, if_pos ⟨hda, hca⟩, w3.1] at hq2
        rw [hq2]
        clear hq2
        have t3 := asT_q t2 hk hQ3
        have e3 := t3.2.2.1
        refine tv_aload_n X dL_isMatched_338 rfl ?_
        refine tv_iload X dL_isMatched_339 rfl ?_
        refine tv_aload X dL_isMatched_341 rfl ?_
        refine tv_iload X dL_isMatched_343 rfl ?_
        refine mm_iald X dL_isMatched_345 (g_scr hk e3) b rfl hb6 (by decide) ?_
        rw [rb S3 t3]
        refine mm_callVi (q := (RX9, TX9, 8)) X dL_isMatched_346 (fX9_squaredDistance (t := b) (c := cb) hb6 (by omega)) (cwV 2 X.2.2.2.2.1 gL_isMatched_X9_squaredDistance rfl rfl rfl (by decide +kernel) ⟨Nat.le_of_ble_eq_true rfl, Nat.le_of_ble_eq_true rfl⟩) rfl rfl gX9 rfl (Nat.le_of_ble_eq_true rfl) ⟨Nat.le_of_ble_eq_true rfl, Nat.le_of_ble_eq_true rfl⟩ (fun r4 S4 hq2 => ?_)
        obtain ⟨hQ4, hq2⟩ := hq2
        rw [t3.2.1, if_pos ⟨hdb, hcb⟩, w4.1] at hq2
        rw [hq2]
        clear hq2
        have t4 := asT_q t3 hk hQ4
        refine tv_iadd X dL_isMatched_349 ?_
        rw [nI_add]
        refine tv_icmp_lt (tgt := 357) X dL_isMatched_350 (by decide) (fun h9 => ?_) (fun h9 => ?_)
        · exact absurd h9 (nI_nlt hx (by omega))
        refine tv_iconst (v := 1) X dL_isMatched_353 (by decide) ?_
        refine tv_goto (tgt := 358) X dL_isMatched_354 (by decide) ?_
        refine tv_istore X dL_isMatched_358 rfl ?_
        exact tv_sl [0, 1, 2, 3, 4, 5, 6, 7] rfl (hA S4 t4)
  clear hT
  intro T hT
  refine mm_cut (pc := 457) (fun T => asT h k v 6 T) (fun _ => [(0, .ref (n0 + 0)), (1, .int (nI (gaN v))), (2, .int (nI (tkV v 6))), (5, .ref (n0 + k)), (7, .int (nI q))]) (fun _ => []) (fun T => T) ?_ ?_
  · intro T' hT'
    refine tv_iconst (v := 1) X dL_isMatched_457 (by decide) ?_
    refine tv_goto (tgt := 462) X dL_isMatched_458 (by decide) ?_
    refine tv_istore X dL_isMatched_462 rfl ?_
    refine tv_iinc X dL_isMatched_464 rfl (nI_1 q) rfl ?_
    refine tv_goto (tgt := 205) X dL_isMatched_467 (by decide) ?_
    exact tv_sl [0, 1, 2, 3, 5, 4] rfl (ih (q + 1, T') ⟨by omega, hT'⟩ (by dsimp only; omega))
  intro hend
  refine tv_iload X dL_isMatched_360 rfl ?_
  refine tv_aload_n X dL_isMatched_362 rfl ?_
  refine mm_callVi (q := (RX9, TX9, 8)) X dL_isMatched_363 (fX9_contacts) (cwV 0 X.2.2.2.2.1 gL_isMatched_X9_contacts rfl rfl rfl (by decide +kernel) ⟨Nat.le_of_ble_eq_true rfl, Nat.le_of_ble_eq_true rfl⟩) rfl rfl gX9 rfl (Nat.le_of_ble_eq_true rfl) ⟨Nat.le_of_ble_eq_true rfl, Nat.le_of_ble_eq_true rfl⟩ (fun r S1 hq2 => ?_)
  obtain ⟨hQ1, hq2⟩ := hq2
  rw [hT.2.1] at hq2
  rw [hq2]
  clear hq2
  have t1 := asT_q hT hk hQ1
  have e21 := t1.2.2.1
  refine mm_cut (pc := 391) (fun _ : Unit => True) (fun _ => [(0, .ref (n0 + 0)), (1, .int (nI (gaN v))), (2, .int (nI (tkV v 6))), (5, .ref (n0 + k)), (6, .int 1), (7, .int (nI q)), (8, .int (nI a)), (9, .int (nI b))]) (fun _ => []) (fun _ => S1) ?_ ?_
  · intro _ _
    refine tv_iconst (v := 0) X dL_isMatched_391 (by decide) ?_
    refine tv_istore X dL_isMatched_392 rfl ?_
    refine tv_iload X dL_isMatched_394 rfl ?_
    refine tv_if_eq (tgt := 410) X dL_isMatched_396 (by decide) (fun h3 => ?_) (fun h3 => ?_)
    rotate_left
    · exact absurd rfl h3
    refine tv_iconst (v := 0) X dL_isMatched_410 (by decide) ?_
    refine tv_istore X dL_isMatched_411 rfl ?_
    refine tv_iload X dL_isMatched_413 rfl ?_
    refine tv_if_eq (tgt := 461) X dL_isMatched_415 (by decide) (fun h3 => ?_) (fun h3 => ?_)
    · exact absurd h3 (by decide)
    refine tv_iload X dL_isMatched_418 rfl ?_
    refine tv_if_eq (tgt := 457) X dL_isMatched_420 (by decide) (fun h3 => ?_) (fun h3 => ?_)
    rotate_left
    · exact absurd rfl h3
    exact tv_sl [0, 1, 2, 3, 5] rfl (hend S1 t1)
  intro hN
  refine tv_icmp_ge (tgt := 391) X dL_isMatched_366 (by decide) (fun h3 => ?_) (fun h3 => ?_)
  · exact hN () trivial
  have hbk : b < kV v := Nat.lt_of_not_le fun h9 => h3 (nI_le h9 (by omega))
  have wab := wy_n hG ha6 hbk
  refine tv_iload_n X dL_isMatched_369 rfl ?_
  refine tv_iload X dL_isMatched_370 rfl ?_
  refine tv_ishr X dL_isMatched_372 ?_
  refine tv_iconst (v := 1) X dL_isMatched_373 (by decide) ?_
  refine tv_iand X dL_isMatched_374 ?_
  rw [(bw3 _ (tk_64 6) b hb6).1]
  cases htb : (tkV v 6).testBit b with
  | true =>
    refine tv_if_ne (tgt := 391) X dL_isMatched_375 (by decide) (fun h4 => ?_) (fun h4 => ?_)
    · exact hN () trivial
    · exact absurd (show (1 : Int32) = 0 from h4) (by decide)
  | false =>
    refine tv_if_ne (tgt := 391) X dL_isMatched_375 (by decide) (fun h4 => ?_) (fun h4 => ?_)
    · exact absurd rfl h4
    refine tv_aload_n X dL_isMatched_378 rfl ?_
    refine tv_iload X dL_isMatched_379 rfl ?_
    refine mm_callVi (q := (RX9, TX9, 8)) X dL_isMatched_381 (fX9_isDown (by rw [t1.2.1]; exact hG) ha6) (cwV 1 X.2.2.2.2.1 gL_isMatched_X9_isDown rfl rfl rfl (by decide +kernel) ⟨Nat.le_of_ble_eq_true rfl, Nat.le_of_ble_eq_true rfl⟩) rfl rfl gX9 rfl (Nat.le_of_ble_eq_true rfl) ⟨Nat.le_of_ble_eq_true rfl, Nat.le_of_ble_eq_true rfl⟩ (fun r2 S2 hq2 => ?_)
    obtain ⟨hq1, hq2⟩ := hq2
    rw [t1.2.1] at hq2
    rw [hq1]
    clear hq1
    rcases hq2 with ⟨e1, hda⟩ | ⟨e1, hda⟩
    · rw [e1]
      refine tv_if_eq (tgt := 391) X dL_isMatched_384 (by decide) (fun h5 => ?_) (fun h5 => ?_)
      · exact hN () trivial
      · exact absurd rfl h5
    rw [e1]
    refine tv_if_eq (tgt := 391) X dL_isMatched_384 (by decide) (fun h5 => ?_) (fun h5 => ?_)
    · exact absurd h5 (by decide)
    refine tv_iconst (v := 1) X dL_isMatched_387 (by decide) ?_
    refine tv_goto (tgt := 392) X dL_isMatched_388 (by decide) ?_
    refine tv_istore X dL_isMatched_392 rfl ?_
    refine tv_iload X dL_isMatched_394 rfl ?_
    refine tv_if_eq (tgt := 410) X dL_isMatched_396 (by decide) (fun h5 => ?_) (fun h5 => ?_)
    · exact absurd h5 (by decide)
    refine tv_aload_n X dL_isMatched_399 rfl ?_
    refine tv_iload X dL_isMatched_400 rfl ?_
    refine tv_iload X dL_isMatched_402 rfl ?_
    refine mm_callVi (q := (RX9, TX9, 8)) X dL_isMatched_404 (fX9_squaredDistance (t := a) (c := b) ha6 (by omega)) (cwV 2 X.2.2.2.2.1 gL_isMatched_X9_squaredDistance rfl rfl rfl (by decide +kernel) ⟨Nat.le_of_ble_eq_true rfl, Nat.le_of_ble_eq_true rfl⟩) rfl rfl gX9 rfl (Nat.le_of_ble_eq_true rfl) ⟨Nat.le_of_ble_eq_true rfl, Nat.le_of_ble_eq_true rfl⟩ (fun r3 S3 hq2 => ?_)
    obtain ⟨hQ3, hq2⟩ := hq2
    rw [t1.2.1, if_pos ⟨hda, hbk⟩, wab.1] at hq2
    rw [hq2]
    clear hq2
    have t3 := asT_q t1 hk hQ3
    have e3 := t3.2.2.1
    refine tv_goto (tgt := 411) X dL_isMatched_407 (by decide) ?_
    refine tv_istore X dL_isMatched_411 rfl ?_
    refine tv_iload X dL_isMatched_413 rfl ?_
    refine tv_if_eq (tgt := 461) X dL_isMatched_415 (by decide) (fun h6 => ?_) (fun h6 => ?_)
    · exact absurd h6 (by decide)
    refine tv_iload X dL_isMatched_418 rfl ?_
    refine tv_if_eq (tgt := 457) X dL_isMatched_420 (by decide) (fun h6 => ?_) (fun h6 => ?_)
    · exact absurd h6 (by decide)
    refine tv_iload X dL_isMatched_423 rfl ?_
    refine tv_iload_n X dL_isMatched_425 rfl ?_
    refine tv_icmp_gt (tgt := 457) X dL_isMatched_426 (by decide) (fun h7 => ?_) (fun h7 => ?_)
    · exact tv_sl [0, 1, 2, 3, 5] rfl (hend S3 t3)
    have o1 : okN v a b = true := by
      unfold okN
      rw [hda, decide_eq_true (show wyN v a b ≤ gaN v from Nat.le_of_not_lt fun h9 => h7 (nI_lt h9 (by omega)))]
      rfl
    have hx := exch1 hG ha6 hbk (fun t ht e => by
      rw [(tk_bit 6).mpr ⟨t, ht, e⟩] at htb
      cases htb) o1
    refine tv_iload X dL_isMatched_429 rfl ?_
    refine tv_aload X dL_isMatched_431 rfl ?_
    refine tv_iload X dL_isMatched_433 rfl ?_
    refine mm_iald X dL_isMatched_435 (g_scr hk e3) a rfl ha6 (by decide) ?_
    rw [t3.2.2.2 a ha6]
    cases ea : asV v a with
    | none =>
      rw [ea] at hx
      have hx2 : gaN v ≤ wyN v a b := by
        have h9 : nnN v a ≤ wyN v a b := hx
        unfold nnN at h9
        rw [hda, if_pos rfl] at h9
        exact h9
      refine tv_if_ge (tgt := 443) X dL_isMatched_436 (by decide) (fun h8 => ?_) (fun h8 => ?_)
      · exact absurd h8 (show ¬ (0 : Int32) ≤ -1 by decide)
      refine tv_iload_n X dL_isMatched_439 rfl ?_
      refine tv_goto (tgt := 454) X dL_isMatched_440 (by decide) ?_
      refine tv_icmp_lt (tgt := 461) X dL_isMatched_454 (by decide) (fun h9 => ?_) (fun h9 => ?_)
      · exact absurd h9 (nI_nlt hx2 (by omega))
      exact tv_sl [0, 1, 2, 3, 5] rfl (hend S3 t3)
    | some ca =>
      rw [ea] at hx
      have hx2 : wyN v a ca ≤ wyN v a b := hx
      have hca := (as_ok hG ha6 ea).1
      have w3 := wy_n hG ha6 hca
      refine tv_if_ge (tgt := 443) X dL_isMatched_436 (by decide) (fun h8 => ?_) (fun h8 => ?_)
      rotate_left
      · exact absurd (Int32.not_lt.mp (nI_pos (n := ca) (by omega))) h8
      refine tv_aload_n X dL_isMatched_443 rfl ?_
      refine tv_iload X dL_isMatched_444 rfl ?_
      refine tv_aload X dL_isMatched_446 rfl ?_
      refine tv_iload X dL_isMatched_448 rfl ?_
      refine mm_iald X dL_isMatched_450 (g_scr hk e3) a rfl ha6 (by decide) ?_
      rw [show S3.1 k a = nI ca by rw [t3.2.2.2 a ha6, ea]; rfl]
      refine mm_callVi (q := (RX9, TX9, 8)) X dL_isMatched_451 (fX9_squaredDistance (t := a) (c := ca) ha6 (by omega)) (cwV 2 X.2.2.2.2.1 gL_isMatched_X9_squaredDistance rfl rfl rfl (by decide +kernel) ⟨Nat.le_of_ble_eq_true rfl, Nat.le_of_ble_eq_true rfl⟩) rfl rfl gX9 rfl (Nat.le_of_ble_eq_true rfl) ⟨Nat.le_of_ble_eq_true rfl, Nat.le_of_ble_eq_true rfl⟩ (fun r4 S4 hq2 => ?_)
      obtain ⟨hQ4, hq2⟩ := hq2
      rw [t3.2.1, if_pos ⟨hda, hca⟩, w3.1] at hq2
      rw [hq2]
      clear hq2
      have t4 := asT_q t3 hk hQ4
      refine tv_icmp_lt (tgt := 461) X dL_isMatched_454 (by decide) (fun h9 => ?_) (fun h9 => ?_)
      · exact absurd h9 (nI_nlt hx2 (by omega))
      exact tv_sl [0, 1, 2, 3, 5] rfl (hend S4 t4)
end C75

