/-! a frame, as the law looks at it -/
noncomputable def rpo (v : Nat → Int32) (t : Nat) : Int32 := match asV v t with
  | some c => rpV v c
  | none => 0
noncomputable def cpo (v : Nat → Int32) (t : Nat) : Int32 := match asV v t with
  | some c => cpV v c
  | none => 0
def scT (h k : Nat) (v : Nat → Int32) (q : Nat) (T : mS) : Prop := INV T h ∧ vw T 1 = v ∧ T.2.2 = (k, 18) ∧ ∀ t, t < q → T.1 k t = oI (asV v t) ∧ T.1 k (6 + t) = rpo v t ∧ T.1 k (12 + t) = cpo v t
theorem up_INV {S : mS} {h k j : Nat} {x : Int32} (hI : INV S h) (hk : 129 < k) : INV (mupd S k j x) h ∧ vw (mupd S k j x) 1 = vw S 1 := by
  obtain ⟨a, b, -⟩ := INV_cg (T := mupd S k j x) hI (fun q hq => mupd_n (by omega)) rfl
  exact ⟨a, b⟩
theorem scT_s {S S3 S4 : mS} {h k q : Nat} {v : Nat → Int32} {T : mS} (hT : scT h k v q T) (hk : 129 < k) (hq6 : q < 6) (hQ : QS T S) (h3 : QS (mupd S k q (oI (asV v q))) S3) (h4 : QS (mupd S3 k (6 + q) (rpo v q)) S4) : scT h k v (q + 1) (mupd S4 k (12 + q) (cpo v q)) := by
  obtain ⟨a1, a2, a3, a4⟩ := hT
  have b1 := hQ.inv a1
  obtain ⟨c1, c2⟩ := up_INV (j := q) (x := oI (asV v q)) b1 hk
  have d1 := h3.inv c1
  obtain ⟨e1, e2⟩ := up_INV (j := 6 + q) (x := rpo v q) d1 hk
  have f1 := h4.inv e1
  obtain ⟨g1, g2⟩ := up_INV (j := 12 + q) (x := cpo v q) f1 hk
  have r0 : S.1 k = T.1 k := hQ.2 k (Or.inr (Or.inr (by omega))) (by omega)
  have r3 : S3.1 k = (mupd S k q (oI (asV v q))).1 k := h3.2 k (Or.inr (Or.inr (by omega))) (by omega)
  have r4 : S4.1 k = (mupd S3 k (6 + q) (rpo v q)).1 k := h4.2 k (Or.inr (Or.inr (by omega))) (by omega)
  refine ⟨g1, ?_, ?_, fun t ht => ?_⟩
  · rw [g2, h4.vw1, e2, h3.vw1, c2, hQ.vw1, a2]
  · show S4.2.2 = (k, 18)
    rw [h4.1]
    show S3.2.2 = (k, 18)
    rw [h3.1]
    show S.2.2 = (k, 18)
    rw [hQ.1]
    exact a3
  · by_cases e : t = q
    · subst e
      refine ⟨?_, ?_, ?_⟩
      · rw [mupd_sn (by omega), r4, mupd_sn (by omega), r3, mupd_ss]
      · rw [mupd_sn (by omega), r4, mupd_ss]
      · rw [mupd_ss]
    · obtain ⟨x1, x2, x3⟩ := a4 t (by omega)
      refine ⟨?_, ?_, ?_⟩
      · rw [mupd_sn (by omega), r4, mupd_sn (by omega), r3, mupd_sn (by omega), r0]; exact x1
      · rw [mupd_sn (by omega), r4, mupd_sn (by omega), r3, mupd_sn (by omega), r0]; exact x2
      · rw [mupd_sn (by omega), r4, mupd_sn (by omega), r3, mupd_sn (by omega), r0]; exact x3
theorem rpo_s {v : Nat → Int32} {t c : Nat} (h : asV v t = some c) : rpo v t = rpV v c ∧ cpo v t = cpV v c := by
  unfold rpo cpo
  rw [h]
  exact ⟨rfl, rfl⟩
theorem rpo_n {v : Nat → Int32} {t : Nat} (h : asV v t = none) : rpo v t = 0 ∧ cpo v t = 0 := by
  unfold rpo cpo
  rw [h]
  exact ⟨rfl, rfl⟩
section C68
variable {l : Launch} {D : va_G} {n0 : Nat} {ft : tv_ft} {n : Nat} {S : mS} {h : Nat}
theorem wL_scans_int : Cond.arrayClass .int ∈ wsL_scans := by decide +kernel
theorem cL_scans_ok (hI : INV S h) (h0 : S.2.2.1 = 0) : mAi l yL_scans wsL_scans rmL_scans 1 18 D n0 ft [.ref (n0 + 0)] n S (fun r S' => r = 1 ∧ OPL S h (frV (vw S 1)) S') := by
  have hG := hI.2.2.1
  have hG' := GV_fr hG
  generalize hv : vw S 1 = v at hG hG' ⊢
  unfold mAi
  refine tv_enter (cc := cL_scans) (maxL := 12) (ret := (some .boolean)) (by decide) rfl (Nat.le_of_ble_eq_true rfl) ?_
  intro p e s m args below meth c X hrt hnm hargs
  refine tv_aload_n X dL_scans_0 rfl ?_
  refine mm_callVi (q := (RX9, TX9, 8)) X dL_scans_1 (fX9_downIfScanned hI) (cwV 0 X.2.2.2.2.1 gL_scans_X9_downIfScanned rfl rfl rfl (by decide +kernel) ⟨Nat.le_of_ble_eq_true rfl, Nat.le_of_ble_eq_true rfl⟩) rfl rfl gX9 rfl (Nat.le_of_ble_eq_true rfl) ⟨Nat.le_of_ble_eq_true rfl, Nat.le_of_ble_eq_true rfl⟩ (fun r S1 hq => ?_)
  obtain ⟨hQ1, hq2⟩ := hq
  rw [hq2, hv]
  clear hq2
  have hI1 := hQ1.inv hI
  have hv1 : vw S1 1 = v := hQ1.vw1.trans hv
  have h01 : S1.2.2.1 = 0 := by rw [hQ1.1]; exact h0
  refine tv_istore_n X dL_scans_4 rfl ?_
  refine tv_aload_n X dL_scans_5 rfl ?_
  refine mm_callSi X dL_scans_6 (cL_downSet_ok (by rw [hv1]; exact hG)) (va_cwS 1 X.2.2.2.2.1 gL_scans_L_downSet rfl rfl rfl (by decide +kernel) ⟨Nat.le_of_ble_eq_true rfl, Nat.le_of_ble_eq_true rfl⟩) rfl rfl (Nat.le_of_ble_eq_true rfl) ⟨Nat.le_of_ble_eq_true rfl, Nat.le_of_ble_eq_true rfl⟩ (fun r S2 hq => ?_)
  obtain ⟨hq1, hq2⟩ := hq
  rw [hq1, hq2, hv1]
  clear hq1 hq2
  refine tv_istore_n X dL_scans_9 rfl ?_
  refine tv_aload_n X dL_scans_10 rfl ?_
  refine mm_callVi (q := (RX9, TX9, 8)) X dL_scans_11 (fX9_downs) (cwV 0 X.2.2.2.2.1 gL_scans_X9_downs rfl rfl rfl (by decide +kernel) ⟨Nat.le_of_ble_eq_true rfl, Nat.le_of_ble_eq_true rfl⟩) rfl rfl gX9 rfl (Nat.le_of_ble_eq_true rfl) ⟨Nat.le_of_ble_eq_true rfl, Nat.le_of_ble_eq_true rfl⟩ (fun r S2 hq => ?_)
  obtain ⟨hq1, hq2⟩ := hq
  rw [hq1, hq2, hv1]
  clear hq1 hq2
  refine tv_istore_n X dL_scans_14 rfl ?_
  refine tv_aload_n X dL_scans_15 rfl ?_
  refine mm_callVi (q := (RX9, TX9, 8)) X dL_scans_16 (fX9_ups) (cwV 0 X.2.2.2.2.1 gL_scans_X9_ups rfl rfl rfl (by decide +kernel) ⟨Nat.le_of_ble_eq_true rfl, Nat.le_of_ble_eq_true rfl⟩) rfl rfl gX9 rfl (Nat.le_of_ble_eq_true rfl) ⟨Nat.le_of_ble_eq_true rfl, Nat.le_of_ble_eq_true rfl⟩ (fun r S2 hq => ?_)
  obtain ⟨hq1, hq2⟩ := hq
  rw [hq1, hq2, hv1]
  clear hq1 hq2
  refine tv_istore X dL_scans_19 rfl ?_
  refine tv_aload_n X dL_scans_21 rfl ?_
  refine mm_callVi (q := (RX9, TX9, 8)) X dL_scans_22 (fX9_frames) (cwV 0 X.2.2.2.2.1 gL_scans_X9_frames rfl rfl rfl (by decide +kernel) ⟨Nat.le_of_ble_eq_true rfl, Nat.le_of_ble_eq_true rfl⟩) rfl rfl gX9 rfl (Nat.le_of_ble_eq_true rfl) ⟨Nat.le_of_ble_eq_true rfl, Nat.le_of_ble_eq_true rfl⟩ (fun r S2 hq => ?_)
  obtain ⟨hq1, hq2⟩ := hq
  rw [hq1, hq2, hv1]
  clear hq1 hq2
  refine tv_istore X dL_scans_25 rfl ?_
  refine tv_bipush (v := 18) X dL_scans_27 (by decide) ?_
  refine mm_newi X dL_scans_29 wL_scans_int h01 rfl (by decide) ⟨Nat.le_of_ble_eq_true rfl, Nat.le_of_ble_eq_true rfl⟩ (fun k hk => ?_)
  refine tv_astore X dL_scans_31 rfl ?_
  refine tv_iconst (v := 0) X dL_scans_33 (by decide) ?_
  refine tv_istore X dL_scans_34 rfl ?_
  have hT0 : scT h k v 0 (mset (mscr S1 (k, 18)) k (fun _ => 0)) := by
    obtain ⟨a, b, -⟩ := INV_cg (T := mset (mscr S1 (k, 18)) k (fun _ => 0)) hI1 (fun q hq => mset_n (by omega)) rfl
    exact ⟨a, b.trans hv1, rfl, fun t ht => absurd ht (Nat.not_lt_zero t)⟩
  refine mm_cut (pc := 112) (fun T => scT h k v 6 T) (fun _ => [(0, .ref (n0 + 0)), (1, .int (nI (dsV (frV v) 6))), (2, .int (nI (dsV v 6))), (3, .int (v 132)), (4, .int (v 133)), (5, .int (v 131)), (6, .ref (n0 + k)), (7, .int (nI 6))]) (fun _ => []) (fun T => T) ?_ ?_
  rotate_left
  · intro hend
    refine mm_loop (ι := Nat × mS) (fun i => i.1 ≤ 6 ∧ scT h k v i.1 i.2) (fun i => 6 - i.1) (fun i => [(0, .ref (n0 + 0)), (1, .int (nI (dsV (frV v) 6))), (2, .int (nI (dsV v 6))), (3, .int (v 132)), (4, .int (v 133)), (5, .int (v 131)), (6, .ref (n0 + k)), (7, .int (nI i.1))]) (fun i => i.2) (0, mset (mscr S1 (k, 18)) k (fun _ => 0)) ⟨Nat.zero_le _, hT0⟩ ?_
    rintro ⟨q, T⟩ ⟨hq6, hT⟩ ih
    dsimp only at hq6 hT ih ⊢
    refine tv_iload X dL_scans_36 rfl ?_
    refine tv_bipush (v := 6) X dL_scans_38 (by decide) ?_
    refine tv_icmp_ge (tgt := 112) X dL_scans_40 (by decide) (fun h1 => ?_) (fun h1 => ?_)
    · have e6 : q = 6 := by
        have : ¬ q < 6 := fun h9 => nI_ge (b := 6) h9 (by decide) h1
        omega
      rw [e6] at hT ⊢
      exact hend T hT
    have hq : q < 6 := Nat.lt_of_not_le fun h9 => h1 (nI_le (a := 6) h9 (by omega))
    refine tv_aload_n X dL_scans_43 rfl ?_
    refine tv_iload X dL_scans_44 rfl ?_
    refine mm_callVi (q := (RX9, TX9, 8)) X dL_scans_46 (fX9_match hT.1 hq) (cwV 1 X.2.2.2.2.1 gL_scans_X9_match rfl rfl rfl (by decide +kernel) ⟨Nat.le_of_ble_eq_true rfl, Nat.le_of_ble_eq_true rfl⟩) rfl rfl gX9 rfl (Nat.le_of_ble_eq_true rfl) ⟨Nat.le_of_ble_eq_true rfl, Nat.le_of_ble_eq_true rfl⟩ (fun r S2 hq2 => ?_)
    obtain ⟨hQ2, hq2⟩ := hq2
    rw [hT.2.1] at hq2
    have e22 : S2.2.2 = (k, 18) := by rw [hQ2.1]; exact hT.2.2.1
    have hv2 : vw S2 1 = v := hQ2.vw1.trans hT.2.1
    rw [hq2]
    clear hq2
    refine tv_istore X dL_scans_49 rfl ?_
    refine tv_aload X dL_scans_51 rfl ?_
    refine tv_iload X dL_scans_53 rfl ?_
    refine tv_iload X dL_scans_55 rfl ?_
    refine mm_iast X dL_scans_57 (g_scr hk e22) q rfl (by omega) (by decide) ?_
    refine tv_aload X dL_scans_58 rfl ?_
    refine tv_bipush (v := 6) X dL_scans_60 (by decide) ?_
    refine tv_iload X dL_scans_62 rfl ?_
    refine tv_iadd X dL_scans_64 ?_
    refine tv_iload X dL_scans_65 rfl ?_
    rw [show (6 : Int32) + nI q = nI (6 + q) from nI_add 6 q]
    cases ha : asV v q with
    | none =>
      obtain ⟨o1, o2⟩ := rpo_n ha
      have hst := scT_s hT hk hq hQ2 QS.refl QS.refl
      rw [ha, o1, o2] at hst
      refine tv_if_ge (tgt := 74) X dL_scans_67 (by decide) (fun h2 => ?_) (fun h2 => ?_)
      · exact absurd h2 (show ¬ (0 : Int32) ≤ -1 by decide)
      refine tv_iconst (v := 0) X dL_scans_70 (by decide) ?_
      refine tv_goto (tgt := 81) X dL_scans_71 (by decide) ?_
      refine mm_iast X dL_scans_81 (g_scr (pm := (mupd S2 k q (oI none)).2) hk e22) (6 + q) rfl (by omega) (by decide) ?_
      refine tv_aload X dL_scans_82 rfl ?_
      refine tv_bipush (v := 12) X dL_scans_84 (by decide) ?_
      refine tv_iload X dL_scans_86 rfl ?_
      refine tv_iadd X dL_scans_88 ?_
      refine tv_iload X dL_scans_89 rfl ?_
      rw [show (12 : Int32) + nI q = nI (12 + q) from nI_add 12 q]
      refine tv_if_ge (tgt := 98) X dL_scans_91 (by decide) (fun h3 => ?_) (fun h3 => ?_)
      · exact absurd h3 (show ¬ (0 : Int32) ≤ -1 by decide)
      refine tv_iconst (v := 0) X dL_scans_94 (by decide) ?_
      refine tv_goto (tgt := 105) X dL_scans_95 (by decide) ?_
      refine mm_iast X dL_scans_105 (g_scr (pm := (mupd (mupd S2 k q (oI none)) k (6 + q) 0).2) hk e22) (12 + q) rfl (by omega) (by decide) ?_
      refine tv_iinc X dL_scans_106 rfl (nI_1 q) rfl ?_
      refine tv_goto (tgt := 36) X dL_scans_109 (by decide) ?_
      exact tv_sl [0, 1, 2, 3, 4, 5, 6, 7] rfl (ih (q + 1, _) ⟨by omega, hst⟩ (by omega))
    | some c =>
      have hc := (as_ok hG hq ha).1
      have hk6 := kV_6 (v := v)
      obtain ⟨o1, o2⟩ := rpo_s ha
      have i2 := (up_INV (j := q) (x := oI (some c)) (hQ2.inv hT.1) hk)
      have v2 : vw (mupd S2 k q (oI (some c))) 1 = v := i2.2.trans hv2
      refine tv_if_ge (tgt := 74) X dL_scans_67 (by decide) (fun h2 => ?_) (fun h2 => ?_)
      rotate_left
      · exact absurd (Int32.not_lt.mp (nI_pos (n := c) (by omega))) h2
      refine tv_aload_n X dL_scans_74 rfl ?_
      refine tv_iload X dL_scans_75 rfl ?_
      refine tv_iconst (v := 0) X dL_scans_77 (by decide) ?_
      refine mm_callVi (q := (RX9, TX9, 8)) X dL_scans_78 (fX9_contact (j := c) (q := 0) (by omega) (by decide)) (cwV 2 X.2.2.2.2.1 gL_scans_X9_contact rfl rfl rfl (by decide +kernel) ⟨Nat.le_of_ble_eq_true rfl, Nat.le_of_ble_eq_true rfl⟩) rfl rfl gX9 rfl (Nat.le_of_ble_eq_true rfl) ⟨Nat.le_of_ble_eq_true rfl, Nat.le_of_ble_eq_true rfl⟩ (fun r S3 hq2 => ?_)
      obtain ⟨hQ3, hq2⟩ := hq2
      rw [v2, if_pos hc, prV_0] at hq2
      rw [hq2]
      clear hq2
      have e23 : S3.2.2 = (k, 18) := by rw [hQ3.1]; exact e22
      have v3 : vw S3 1 = v := hQ3.vw1.trans v2
      have v3' : vw (mupd S3 k (6 + q) (rpV v c)) 1 = v := (up_INV (j := 6 + q) (x := rpV v c) (hQ3.inv i2.1) hk).2.trans v3
      refine mm_iast X dL_scans_81 (g_scr hk e23) (6 + q) rfl (by omega) (by decide) ?_
      refine tv_aload X dL_scans_82 rfl ?_
      refine tv_bipush (v := 12) X dL_scans_84 (by decide) ?_
      refine tv_iload X dL_scans_86 rfl ?_
      refine tv_iadd X dL_scans_88 ?_
      refine tv_iload X dL_scans_89 rfl ?_
      rw [show (12 : Int32) + nI q = nI (12 + q) from nI_add 12 q]
      refine tv_if_ge (tgt := 98) X dL_scans_91 (by decide) (fun h3 => ?_) (fun h3 => ?_)
      rotate_left
      · exact absurd (Int32.not_lt.mp (nI_pos (n := c) (by omega))) h3
      refine tv_aload_n X dL_scans_98 rfl ?_
      refine tv_iload X dL_scans_99 rfl ?_
      refine tv_iconst (v := 1) X dL_scans_101 (by decide) ?_
      refine mm_callVi (q := (RX9, TX9, 8)) X dL_scans_102 (fX9_contact (j := c) (q := 1) (by omega) (by decide)) (cwV 2 X.2.2.2.2.1 gL_scans_X9_contact rfl rfl rfl (by decide +kernel) ⟨Nat.le_of_ble_eq_true rfl, Nat.le_of_ble_eq_true rfl⟩) rfl rfl gX9 rfl (Nat.le_of_ble_eq_true rfl) ⟨Nat.le_of_ble_eq_true rfl, Nat.le_of_ble_eq_true rfl⟩ (fun r S4 hq2 => ?_)
      obtain ⟨hQ4, hq2⟩ := hq2
      have v3'' : vw (mupd S3 k (6 + q) (rwV v ((ctV v).getD c 0))) 1 = v := v3'
      rw [v3'', if_pos hc, prV_1] at hq2
      rw [hq2]
      clear hq2
      have e24 : S4.2.2 = (k, 18) := by rw [hQ4.1]; exact e23
      have hst := scT_s hT hk hq hQ2 (S3 := S3) (S4 := S4) (by rw [ha]; exact hQ3) (by rw [o1]; exact hQ4)
      rw [o2] at hst
      refine mm_iast X dL_scans_105 (g_scr hk e24) (12 + q) rfl (by omega) (by decide) ?_
      refine tv_iinc X dL_scans_106 rfl (nI_1 q) rfl ?_
      refine tv_goto (tgt := 36) X dL_scans_109 (by decide) ?_
      exact tv_sl [0, 1, 2, 3, 4, 5, 6, 7] rfl (ih (q + 1, _) ⟨by omega, hst⟩ (by omega))
  intro T hT
  obtain ⟨hIT, hvT, e22, hrow⟩ := hT
  refine tv_aload_n X dL_scans_112 rfl ?_
  refine tv_iconst (v := 3) X dL_scans_113 (by decide) ?_
  refine tv_iconst (v := 3) X dL_scans_114 (by decide) ?_
  refine mm_callVi (q := (RX9, TX9, 8)) X dL_scans_115 (fX9_raw (i := 3) (j := 3) (by decide) (by decide)) (cwV 2 X.2.2.2.2.1 gL_scans_X9_raw rfl rfl rfl (by decide +kernel) ⟨Nat.le_of_ble_eq_true rfl, Nat.le_of_ble_eq_true rfl⟩) rfl rfl gX9 rfl (Nat.le_of_ble_eq_true rfl) ⟨Nat.le_of_ble_eq_true rfl, Nat.le_of_ble_eq_true rfl⟩ (fun r S2 hq => ?_)
  obtain ⟨hq1, hq2⟩ := hq
  rw [hvT] at hq2
  rw [hq1, hq2]
  clear hq1 hq2
  refine tv_istore X dL_scans_118 rfl ?_
  refine tv_aload_n X dL_scans_120 rfl ?_
  refine mm_callVi (q := (RX9, TX9, 8)) X dL_scans_121 (fX9_scan hIT) (cwV 0 X.2.2.2.2.1 gL_scans_X9_scan rfl rfl rfl (by decide +kernel) ⟨Nat.le_of_ble_eq_true rfl, Nat.le_of_ble_eq_true rfl⟩) rfl rfl gX9 rfl (Nat.le_of_ble_eq_true rfl) ⟨Nat.le_of_ble_eq_true rfl, Nat.le_of_ble_eq_true rfl⟩ (fun r S5 hq => ?_)
  obtain ⟨hO, hq2⟩ := hq
  rw [hvT] at hO hq2
  rw [hq2]
  clear hq2
  have hv5 := hO.2.2.1
  have hsc := hO.2.2.2
  have e25 : S5.2.2 = (k, 18) := hsc.1.trans e22
  have ek : ∀ t, t < 6 → S5.1 k t = oI (asV v t) ∧ S5.1 k (6 + t) = rpo v t ∧ S5.1 k (12 + t) = cpo v t := fun t ht => by
    rw [hsc.2 k (by omega)]
    exact hrow t ht
  obtain ⟨c1, c2, -⟩ := fr_counts hG 6 (Nat.le_refl 6)
  obtain ⟨b1, b2, b3⟩ := bt_new (v := v)
  refine tv_istore X dL_scans_124 rfl ?_
  refine tv_aload_n X dL_scans_126 rfl ?_
  refine mm_callSi X dL_scans_127 (cL_downSet_ok (by rw [hv5]; exact hG')) (va_cwS 1 X.2.2.2.2.1 gL_scans_L_downSet rfl rfl rfl (by decide +kernel) ⟨Nat.le_of_ble_eq_true rfl, Nat.le_of_ble_eq_true rfl⟩) rfl rfl (Nat.le_of_ble_eq_true rfl) ⟨Nat.le_of_ble_eq_true rfl, Nat.le_of_ble_eq_true rfl⟩ (fun r S6 hq => ?_)
  obtain ⟨hq1, hq2⟩ := hq
  rw [hv5] at hq2
  rw [hq1, hq2]
  clear hq1 hq2
  refine tv_istore X dL_scans_130 rfl ?_
  refine tv_iload X dL_scans_132 rfl ?_
  refine tv_iload_n X dL_scans_134 rfl ?_
  refine tv_icmp_ne (tgt := 213) X dL_scans_135 (by decide) (fun h1 => ?_) (fun h1 => ?_)
  · exact absurd rfl h1
  refine tv_aload_n X dL_scans_138 rfl ?_
  refine mm_callVi (q := (RX9, TX9, 8)) X dL_scans_139 (fX9_frames) (cwV 0 X.2.2.2.2.1 gL_scans_X9_frames rfl rfl rfl (by decide +kernel) ⟨Nat.le_of_ble_eq_true rfl, Nat.le_of_ble_eq_true rfl⟩) rfl rfl gX9 rfl (Nat.le_of_ble_eq_true rfl) ⟨Nat.le_of_ble_eq_true rfl, Nat.le_of_ble_eq_true rfl⟩ (fun r S6 hq => ?_)
  obtain ⟨hq1, hq2⟩ := hq
  rw [hv5, frV_131] at hq2
  rw [hq1, hq2]
  clear hq1 hq2
  refine tv_iload X dL_scans_142 rfl ?_
  refine tv_iconst (v := 1) X dL_scans_144 (by decide) ?_
  refine tv_iadd X dL_scans_145 ?_
  refine tv_icmp_ne (tgt := 213) X dL_scans_146 (by decide) (fun h1 => ?_) (fun h1 => ?_)
  · exact absurd rfl h1
  refine tv_aload_n X dL_scans_149 rfl ?_
  refine mm_callVi (q := (RX9, TX9, 8)) X dL_scans_150 (fX9_downs) (cwV 0 X.2.2.2.2.1 gL_scans_X9_downs rfl rfl rfl (by decide +kernel) ⟨Nat.le_of_ble_eq_true rfl, Nat.le_of_ble_eq_true rfl⟩) rfl rfl gX9 rfl (Nat.le_of_ble_eq_true rfl) ⟨Nat.le_of_ble_eq_true rfl, Nat.le_of_ble_eq_true rfl⟩ (fun r S6 hq => ?_)
  obtain ⟨hq1, hq2⟩ := hq
  rw [hv5, frV_132, c1] at hq2
  rw [hq1, hq2]
  clear hq1 hq2
  refine tv_iload_n X dL_scans_153 rfl ?_
  refine tv_isub X dL_scans_154 ?_
  refine tv_iload X dL_scans_155 rfl ?_
  refine tv_iload_n X dL_scans_157 rfl ?_
  refine tv_iconst (v := -1) X dL_scans_158 (by decide) ?_
  refine tv_ixor X dL_scans_159 ?_
  refine tv_iand X dL_scans_160 ?_
  refine mm_callSi X dL_scans_161 (cL_bits_ok _) (va_cwS 1 X.2.2.2.2.1 gL_scans_L_bits rfl rfl rfl (by decide +kernel) ⟨Nat.le_of_ble_eq_true rfl, Nat.le_of_ble_eq_true rfl⟩) rfl rfl (Nat.le_of_ble_eq_true rfl) ⟨Nat.le_of_ble_eq_true rfl, Nat.le_of_ble_eq_true rfl⟩ (fun r S6 hq => ?_)
  obtain ⟨hq1, hq2⟩ := hq
  rw [b1] at hq2
  rw [hq1, hq2]
  clear hq1 hq2
  refine tv_icmp_ne (tgt := 213) X dL_scans_164 (by decide) (fun h1 => ?_) (fun h1 => ?_)
  · exact absurd (by rw [Int32.add_comm, Int32.add_sub_cancel]) h1
  refine tv_aload_n X dL_scans_167 rfl ?_
  refine mm_callVi (q := (RX9, TX9, 8)) X dL_scans_168 (fX9_ups) (cwV 0 X.2.2.2.2.1 gL_scans_X9_ups rfl rfl rfl (by decide +kernel) ⟨Nat.le_of_ble_eq_true rfl, Nat.le_of_ble_eq_true rfl⟩) rfl rfl gX9 rfl (Nat.le_of_ble_eq_true rfl) ⟨Nat.le_of_ble_eq_true rfl, Nat.le_of_ble_eq_true rfl⟩ (fun r S6 hq => ?_)
  obtain ⟨hq1, hq2⟩ := hq
  rw [hv5, frV_133, c2] at hq2
  rw [hq1, hq2]
  clear hq1 hq2
  refine tv_iload X dL_scans_171 rfl ?_
  refine tv_isub X dL_scans_173 ?_
  refine tv_iload_n X dL_scans_174 rfl ?_
  refine tv_iload X dL_scans_175 rfl ?_
  refine tv_iconst (v := -1) X dL_scans_177 (by decide) ?_
  refine tv_ixor X dL_scans_178 ?_
  refine tv_iand X dL_scans_179 ?_
  refine mm_callSi X dL_scans_180 (cL_bits_ok _) (va_cwS 1 X.2.2.2.2.1 gL_scans_L_bits rfl rfl rfl (by decide +kernel) ⟨Nat.le_of_ble_eq_true rfl, Nat.le_of_ble_eq_true rfl⟩) rfl rfl (Nat.le_of_ble_eq_true rfl) ⟨Nat.le_of_ble_eq_true rfl, Nat.le_of_ble_eq_true rfl⟩ (fun r S6 hq => ?_)
  obtain ⟨hq1, hq2⟩ := hq
  rw [b2] at hq2
  rw [hq1, hq2]
  clear hq1 hq2
  refine tv_icmp_ne (tgt := 213) X dL_scans_183 (by decide) (fun h1 => ?_) (fun h1 => ?_)
  · exact absurd (by rw [Int32.add_comm, Int32.add_sub_cancel]) h1
  refine tv_iload X dL_scans_186 rfl ?_
  refine tv_iload X dL_scans_188 rfl ?_
  refine tv_iload_n X dL_scans_190 rfl ?_
  refine tv_ixor X dL_scans_191 ?_
  refine mm_callSi X dL_scans_192 (cL_bits_ok _) (va_cwS 1 X.2.2.2.2.1 gL_scans_L_bits rfl rfl rfl (by decide +kernel) ⟨Nat.le_of_ble_eq_true rfl, Nat.le_of_ble_eq_true rfl⟩) rfl rfl (Nat.le_of_ble_eq_true rfl) ⟨Nat.le_of_ble_eq_true rfl, Nat.le_of_ble_eq_true rfl⟩ (fun r S6 hq => ?_)
  obtain ⟨hq1, hq2⟩ := hq
  rw [b3] at hq2
  rw [hq1, hq2]
  clear hq1 hq2
  refine tv_icmp_ne (tgt := 213) X dL_scans_195 (by decide) (fun h1 => ?_) (fun h1 => ?_)
  · exact absurd rfl h1
  refine tv_aload_n X dL_scans_198 rfl ?_
  refine tv_iconst (v := 3) X dL_scans_199 (by decide) ?_
  refine tv_iconst (v := 3) X dL_scans_200 (by decide) ?_
  refine mm_callVi (q := (RX9, TX9, 8)) X dL_scans_201 (fX9_raw (i := 3) (j := 3) (by decide) (by decide)) (cwV 2 X.2.2.2.2.1 gL_scans_X9_raw rfl rfl rfl (by decide +kernel) ⟨Nat.le_of_ble_eq_true rfl, Nat.le_of_ble_eq_true rfl⟩) rfl rfl gX9 rfl (Nat.le_of_ble_eq_true rfl) ⟨Nat.le_of_ble_eq_true rfl, Nat.le_of_ble_eq_true rfl⟩ (fun r S6 hq => ?_)
  obtain ⟨hq1, hq2⟩ := hq
  rw [hv5, frV_lo (by decide)] at hq2
  rw [hq1, hq2]
  clear hq1 hq2
  refine tv_iload X dL_scans_204 rfl ?_
  refine tv_icmp_ne (tgt := 213) X dL_scans_206 (by decide) (fun h1 => ?_) (fun h1 => ?_)
  · exact absurd rfl h1
  refine tv_iconst (v := 1) X dL_scans_209 (by decide) ?_
  refine tv_goto (tgt := 214) X dL_scans_210 (by decide) ?_
  refine tv_istore X dL_scans_214 rfl ?_
  refine tv_iconst (v := 0) X dL_scans_216 (by decide) ?_
  refine tv_istore X dL_scans_217 rfl ?_
  refine mm_for 6 (fun q => [(0, .ref (n0 + 0)), (1, .int (nI (dsV (frV v) 6))), (2, .int (nI (dsV v 6))), (3, .int (v 132)), (4, .int (v 133)), (5, .int (v 131)), (6, .ref (n0 + k)), (7, .int (v (6 * 3 + 3))), (8, .int (nI (nwN v 6 + lsD v 6))), (9, .int (nI (dsV (frV v) 6))), (10, .int 1), (11, .int (nI q))]) (fun _ => S5) ?_ ?_
  · intro q hq ih
    have hd1 := ds_lt (v := v) 6 (Nat.le_refl 6)
    have hd2 := ds_lt (v := frV v) 6 (Nat.le_refl 6)
    have hb1 : (dsV v 6).testBit q = dnB v q := by rw [ds_bit, decide_eq_true hq, Bool.true_and]
    have hb2 : (dsV (frV v) 6).testBit q = dnB (frV v) q := by rw [ds_bit, decide_eq_true hq, Bool.true_and]
    obtain ⟨k1, k2, k3⟩ := ek q hq
    refine tv_iload X dL_scans_219 rfl ?_
    refine tv_bipush (v := 6) X dL_scans_221 (by decide) ?_
    refine tv_icmp_ge (tgt := 338) X dL_scans_223 (by decide) (fun h1 => ?_) (fun h1 => ?_)
    · exact absurd h1 (nI_ge (a := q) (b := 6) hq (by decide))
    refine tv_iload X dL_scans_226 rfl ?_
    refine tv_if_eq (tgt := 329) X dL_scans_228 (by decide) (fun h1 => ?_) (fun h1 => ?_)
    · exact absurd h1 (by decide)
    refine mm_cut (pc := 296) (fun _ : Unit => True) (fun _ => [(0, .ref (n0 + 0)), (1, .int (nI (dsV (frV v) 6))), (2, .int (nI (dsV v 6))), (3, .int (v 132)), (4, .int (v 133)), (5, .int (v 131)), (6, .ref (n0 + k)), (7, .int (v (6 * 3 + 3))), (8, .int (nI (nwN v 6 + lsD v 6))), (9, .int (nI (dsV (frV v) 6))), (10, .int 1), (11, .int (nI q))]) (fun _ => []) (fun _ => S5) ?_ ?_
    rotate_left
    · intro hA
      refine tv_aload X dL_scans_231 rfl ?_
      refine tv_iload X dL_scans_233 rfl ?_
      refine mm_iald X dL_scans_235 (g_scr hk e25) q rfl (by omega) (by decide) ?_
      rw [k1]
      cases ha : asV v q with
      | none =>
        refine tv_if_lt (tgt := 296) X dL_scans_236 (by decide) (fun h2 => ?_) (fun h2 => ?_)
        · exact hA () trivial
        · exact absurd (show (-1 : Int32) < 0 by decide) h2
      | some c =>
        have hc := (as_ok hG hq ha).1
        have hk6 := kV_6 (v := v)
        obtain ⟨o1, o2⟩ := rpo_s ha
        rcases fr_cases hG hq with ⟨c', hg, hk', f1, f2, e⟩ | ⟨c', hg, ha', hk', f1, f2, e⟩ | ⟨hg, ha', -⟩ | ⟨hg, ha', -⟩
        · exact absurd f1 (by rw [as_dn hG hq ha]; decide)
        rotate_left
        · rw [ha] at ha'; cases ha'
        · rw [ha] at ha'; cases ha'
        rw [ha] at ha'
        have hcc : c = c' := Option.some.inj ha'
        subst hcc
        have g1 := e 1 (by decide)
        have g2 := e 2 (by decide)
        have g4 := e 4 (by decide)
        have g1' : frV v (101 + 5 * q + (0 + 1)) = rpV v c := g1
        have g2' : frV v (101 + 5 * q + (1 + 1)) = cpV v c := g2
        have g4' : frV v (101 + 5 * q + (3 + 1)) = 0 := g4
        refine tv_if_lt (tgt := 296) X dL_scans_236 (by decide) (fun h2 => ?_) (fun h2 => ?_)
        · exact absurd h2 (nI_pos (n := c) (by omega))
        refine tv_iload X dL_scans_239 rfl ?_
        refine tv_iload X dL_scans_241 rfl ?_
        refine tv_ishr X dL_scans_243 ?_
        refine tv_iconst (v := 1) X dL_scans_244 (by decide) ?_
        refine tv_iand X dL_scans_245 ?_
        refine tv_iconst (v := 1) X dL_scans_246 (by decide) ?_
        rw [(bw3 _ hd2 q hq).1, hb2, f2, if_pos rfl]
        refine tv_icmp_ne (tgt := 329) X dL_scans_247 (by decide) (fun h3 => ?_) (fun h3 => ?_)
        · exact absurd rfl h3
        refine tv_aload_n X dL_scans_250 rfl ?_
        refine tv_iload X dL_scans_251 rfl ?_
        refine tv_iconst (v := 0) X dL_scans_253 (by decide) ?_
        refine mm_callVi (q := (RX9, TX9, 8)) X dL_scans_254 (fX9_track (t := q) (q := 0) hq (by decide)) (cwV 2 X.2.2.2.2.1 gL_scans_X9_track rfl rfl rfl (by decide +kernel) ⟨Nat.le_of_ble_eq_true rfl, Nat.le_of_ble_eq_true rfl⟩) rfl rfl gX9 rfl (Nat.le_of_ble_eq_true rfl) ⟨Nat.le_of_ble_eq_true rfl, Nat.le_of_ble_eq_true rfl⟩ (fun r S6 hq2 => ?_)
        obtain ⟨hq1, hq2⟩ := hq2
        rw [hv5, f2, if_pos rfl, g1'] at hq2
        rw [hq1, hq2]
        clear hq1 hq2
        refine tv_aload X dL_scans_257 rfl ?_
        refine tv_bipush (v := 6) X dL_scans_259 (by decide) ?_
        refine tv_iload X dL_scans_261 rfl ?_
        refine tv_iadd X dL_scans_263 ?_
        rw [show (6 : Int32) + nI q = nI (6 + q) from nI_add 6 q]
        refine mm_iald X dL_scans_264 (g_scr hk e25) (6 + q) rfl (by omega) (by decide) ?_
        rw [k2, o1]
        refine tv_icmp_ne (tgt := 329) X dL_scans_265 (by decide) (fun h3 => ?_) (fun h3 => ?_)
        · exact absurd rfl h3
        refine tv_aload_n X dL_scans_268 rfl ?_
        refine tv_iload X dL_scans_269 rfl ?_
        refine tv_iconst (v := 1) X dL_scans_271 (by decide) ?_
        refine mm_callVi (q := (RX9, TX9, 8)) X dL_scans_272 (fX9_track (t := q) (q := 1) hq (by decide)) (cwV 2 X.2.2.2.2.1 gL_scans_X9_track rfl rfl rfl (by decide +kernel) ⟨Nat.le_of_ble_eq_true rfl, Nat.le_of_ble_eq_true rfl⟩) rfl rfl gX9 rfl (Nat.le_of_ble_eq_true rfl) ⟨Nat.le_of_ble_eq_true rfl, Nat.le_of_ble_eq_true rfl⟩ (fun r S6 hq2 => ?_)
        obtain ⟨hq1, hq2⟩ := hq2
        rw [hv5, f2, if_pos rfl, g2'] at hq2
        rw [hq1, hq2]
        clear hq1 hq2
        refine tv_aload X dL_scans_275 rfl ?_
        refine tv_bipush (v := 12) X dL_scans_277 (by decide) ?_
        refine tv_iload X dL_scans_279 rfl ?_
        refine tv_iadd X dL_scans_281 ?_
        rw [show (12 : Int32) + nI q = nI (12 + q) from nI_add 12 q]
        refine mm_iald X dL_scans_282 (g_scr hk e25) (12 + q) rfl (by omega) (by decide) ?_
        rw [k3, o2]
        refine tv_icmp_ne (tgt := 329) X dL_scans_283 (by decide) (fun h3 => ?_) (fun h3 => ?_)
        · exact absurd rfl h3
        refine tv_aload_n X dL_scans_286 rfl ?_
        refine tv_iload X dL_scans_287 rfl ?_
        refine tv_iconst (v := 3) X dL_scans_289 (by decide) ?_
        refine mm_callVi (q := (RX9, TX9, 8)) X dL_scans_290 (fX9_track (t := q) (q := 3) hq (by decide)) (cwV 2 X.2.2.2.2.1 gL_scans_X9_track rfl rfl rfl (by decide +kernel) ⟨Nat.le_of_ble_eq_true rfl, Nat.le_of_ble_eq_true rfl⟩) rfl rfl gX9 rfl (Nat.le_of_ble_eq_true rfl) ⟨Nat.le_of_ble_eq_true rfl, Nat.le_of_ble_eq_true rfl⟩ (fun r S6 hq2 => ?_)
        obtain ⟨hq1, hq2⟩ := hq2
        rw [hv5, f2, if_pos rfl, g4'] at hq2
        rw [hq1, hq2]
        clear hq1 hq2
        refine tv_if_ne (tgt := 329) X dL_scans_293 (by decide) (fun h3 => ?_) (fun h3 => ?_)
        · exact absurd rfl h3
        exact hA () trivial
    intro _ _
    refine tv_iload X dL_scans_296 rfl ?_
    refine tv_iload_n X dL_scans_298 rfl ?_
    refine tv_iconst (v := -1) X dL_scans_299 (by decide) ?_
    refine tv_ixor X dL_scans_300 ?_
    refine tv_iand X dL_scans_301 ?_
    rw [bw1 _ hd2 _ hd1]
    refine tv_iload X dL_scans_302 rfl ?_
    refine tv_ishr X dL_scans_304 ?_
    refine tv_iconst (v := 1) X dL_scans_305 (by decide) ?_
    refine tv_iand X dL_scans_306 ?_
    have hand : dsV (frV v) 6 &&& (63 ^^^ dsV v 6) < 64 := Nat.lt_of_le_of_lt Nat.and_le_left hd2
    rw [(bw3 _ hand q hq).1, Nat.testBit_and, Nat.testBit_xor, (bw3 0 (by decide) q hq).2, hb1, hb2, Bool.true_xor]
    refine tv_aload_n X dL_scans_307 rfl ?_
    refine tv_iload X dL_scans_308 rfl ?_
    refine tv_iconst (v := 2) X dL_scans_310 (by decide) ?_
    refine mm_callVi (q := (RX9, TX9, 8)) X dL_scans_311 (fX9_track (t := q) (q := 2) hq (by decide)) (cwV 2 X.2.2.2.2.1 gL_scans_X9_track rfl rfl rfl (by decide +kernel) ⟨Nat.le_of_ble_eq_true rfl, Nat.le_of_ble_eq_true rfl⟩) rfl rfl gX9 rfl (Nat.le_of_ble_eq_true rfl) ⟨Nat.le_of_ble_eq_true rfl, Nat.le_of_ble_eq_true rfl⟩ (fun r S6 hq2 => ?_)
    obtain ⟨hq1, hq2⟩ := hq2
    rw [hv5] at hq2
    rw [hq1]
    clear hq1
    have hend : ∀ x : Int32, (x = 0 ∨ x = 1) → ((dnB (frV v) q && !dnB v q) = true → x = 1) → tv_V p l e rmL_scans s m args below meth c (MQ below (va_Qi (fun r u => ∃ S', u.2 = mH n0 S' ∧ r = 1 ∧ OPL S h (frV v) S') (tv_B D vwCl n0) (tv_A n0)) args s 1 18 (tv_A n0)) D vwCl n0 (0 + 1) (0 + 18) 12 322 [(0, .ref (n0 + 0)), (1, .int (nI (dsV (frV v) 6))), (2, .int (nI (dsV v 6))), (3, .int (v 132)), (4, .int (v 133)), (5, .int (v 131)), (6, .ref (n0 + k)), (7, .int (v (6 * 3 + 3))), (8, .int (nI (nwN v 6 + lsD v 6))), (9, .int (nI (dsV (frV v) 6))), (10, .int 1), (11, .int (nI q))] [.int x, .int (if (dnB (frV v) q && !dnB v q) = true then 1 else 0)] (n + 1) (mH n0 S5) := by
      intro x hx hx1
      refine tv_icmp_gt (tgt := 329) X dL_scans_322 (by decide) (fun h3 => ?_) (fun h3 => ?_)
      · by_cases hb : (dnB (frV v) q && !dnB v q) = true
        · rw [if_pos hb, hx1 hb] at h3
          exact absurd h3 (by decide)
        · rw [if_neg hb] at h3
          rcases hx with e | e <;> rw [e] at h3 <;> exact absurd h3 (by decide)
      refine tv_iconst (v := 1) X dL_scans_325 (by decide) ?_
      refine tv_goto (tgt := 330) X dL_scans_326 (by decide) ?_
      refine tv_istore X dL_scans_330 rfl ?_
      refine tv_iinc X dL_scans_332 rfl (nI_1 q) rfl ?_
      refine tv_goto (tgt := 219) X dL_scans_335 (by decide) ?_
      exact tv_sl [0, 1, 2, 3, 4, 5, 6, 7, 8, 9, 10, 11] rfl ih
    have hage : (dnB (frV v) q && !dnB v q) = true → r = 0 := by
      intro hb
      rw [Bool.and_eq_true, Bool.not_eq_true'] at hb
      rcases fr_cases hG hq with ⟨c', hg, hk', f1, f2, e⟩ | ⟨c', hg, ha', hk', f1, f2, e⟩ | ⟨hg, ha', f1, f2, e⟩ | ⟨hg, ha', f1, f2, e⟩
      · rw [hq2, hb.1, if_pos rfl]
        exact e 3 (by decide)
      · rw [f1] at hb; exact absurd hb.2 (by decide)
      · rw [f2] at hb; exact absurd hb.1 (by decide)
      · rw [f1] at hb; exact absurd hb.2 (by decide)
    refine tv_if_ne (tgt := 321) X dL_scans_314 (by decide) (fun h3 => ?_) (fun h3 => ?_)
    · refine tv_iconst (v := 0) X dL_scans_321 (by decide) ?_
      exact hend 0 (Or.inl rfl) (fun hb => absurd (hage hb) h3)
    · refine tv_iconst (v := 1) X dL_scans_317 (by decide) ?_
      refine tv_goto (tgt := 322) X dL_scans_318 (by decide) ?_
      exact hend 1 (Or.inr rfl) (fun _ => rfl)
  · refine tv_iload X dL_scans_219 rfl ?_
    refine tv_bipush (v := 6) X dL_scans_221 (by decide) ?_
    refine tv_icmp_ge (tgt := 338) X dL_scans_223 (by decide) (fun h1 => ?_) (fun h1 => ?_)
    · refine tv_iload X dL_scans_338 rfl ?_
      refine mm_drop (by rw [e25]; exact hk) ?_
      have hvv : vw T 1 = vw S 1 := hvT.trans hv.symm
      exact tv_zret X hrt dL_scans_340 rfl ⟨mscr S5 (0, 0), rfl, rfl, hO.scr hvv hI.2.1.2 (fun _ _ => rfl) rfl rfl⟩
    · exact absurd (nI_le (Nat.le_refl 6) (by decide)) h1
end C68

