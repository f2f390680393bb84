/-! a deed, as the law does it -/
def svN (u : Int32) (q : Nat) : Nat := if q = 0 then 1 + upN u 100 else if q = 1 then 1 + upN u 48 else if q = 2 then 1 + upN u 255 else if q = 3 then 1 + upN u 1000 else upN u 6
theorem upN_lt {x : Int32} {q : Nat} (h : 0 < q) : upN x q < q := Nat.mod_lt _ h
theorem sv_n {u : Int32} : ∀ q, q < 5 → loN q ≤ svN u q ∧ svN u q ≤ hiN q ∧ svN u q ≤ 1000 := by
  intro q hq
  have h1 := upN_lt (x := u) (q := 100) (by decide)
  have h2 := upN_lt (x := u) (q := 48) (by decide)
  have h3 := upN_lt (x := u) (q := 255) (by decide)
  have h4 := upN_lt (x := u) (q := 1000) (by decide)
  have h5 := upN_lt (x := u) (q := 6) (by decide)
  unfold loN svN hiN
  generalize upN u 100 = a at h1 ⊢
  generalize upN u 48 = b at h2 ⊢
  generalize upN u 255 = c at h3 ⊢
  generalize upN u 1000 = d at h4 ⊢
  generalize upN u 6 = e at h5 ⊢
  rcases (by omega : q = 0 ∨ q = 1 ∨ q = 2 ∨ q = 3 ∨ q = 4) with rfl | rfl | rfl | rfl | rfl
  · show 1 ≤ 1 + a ∧ 1 + a ≤ 100 ∧ 1 + a ≤ 1000; omega
  · show 1 ≤ 1 + b ∧ 1 + b ≤ 48 ∧ 1 + b ≤ 1000; omega
  · show 1 ≤ 1 + c ∧ 1 + c ≤ 255 ∧ 1 + c ≤ 1000; omega
  · show 1 ≤ 1 + d ∧ 1 + d ≤ 1000 ∧ 1 + d ≤ 1000; omega
  · show 0 ≤ e ∧ e ≤ 5 ∧ e ≤ 1000; omega
noncomputable def actM (v : Nat → Int32) (m i j : Nat) (y : Int32) : Nat → Int32 := if m = 0 then relV v else if m = 1 then (if y &&& 3 ≤ 0 then calV v else rawV v (6 * i + j) (nI (upN (y >>> ((6 : Int32) &&& 31)) 256))) else if m = 2 then setV v (upN y 5) (nI (svN (y >>> ((3 : Int32) &&& 31)) (upN y 5))) else if m = 3 then rawV v (6 * i + j) (nI (upN (y >>> ((6 : Int32) &&& 31)) 256)) else if m < 8 then frV v else prsV v i j (1 + upN (y >>> ((6 : Int32) &&& 31)) 255)
noncomputable def actV (v : Nat → Int32) (x y : Int32) : Nat → Int32 := actM v (upN x 16) (upN y 8) (upN (y >>> ((3 : Int32) &&& 31)) 6) y
section AM
variable {v : Nat → Int32} {m i j : Nat} {y : Int32}
theorem aM0 : actM v 0 i j y = relV v := if_pos rfl
theorem aM1 : actM v 1 i j y = if y &&& 3 ≤ 0 then calV v else rawV v (6 * i + j) (nI (upN (y >>> ((6 : Int32) &&& 31)) 256)) := by
  unfold actM
  rw [if_neg (by decide), if_pos rfl]
theorem aM2 : actM v 2 i j y = setV v (upN y 5) (nI (svN (y >>> ((3 : Int32) &&& 31)) (upN y 5))) := by
  unfold actM
  rw [if_neg (by decide), if_neg (by decide), if_pos rfl]
theorem aM3 : actM v 3 i j y = rawV v (6 * i + j) (nI (upN (y >>> ((6 : Int32) &&& 31)) 256)) := by
  unfold actM
  rw [if_neg (by decide), if_neg (by decide), if_neg (by decide), if_pos rfl]
theorem aM4 (h4 : 4 ≤ m) (h8 : m < 8) : actM v m i j y = frV v := by
  unfold actM
  rw [if_neg (by omega), if_neg (by omega), if_neg (by omega), if_neg (by omega), if_pos h8]
theorem aM8 (h8 : 8 ≤ m) : actM v m i j y = prsV v i j (1 + upN (y >>> ((6 : Int32) &&& 31)) 255) := by
  unfold actM
  rw [if_neg (by omega), if_neg (by omega), if_neg (by omega), if_neg (by omega), if_neg (by omega)]
end AM
/-! where nothing is touched -/
theorem quiet {v : Nat → Int32} (h : ∀ j, j < 48 → ttV v j = false) : kV v = 0 ∧ mnV v = FP.fconst0 := by
  constructor
  · refine Nat.eq_zero_of_not_pos fun hk => ?_
    obtain ⟨-, h1, h2⟩ := ct_at hk
    have h3 := (cd_pos h2).1
    rw [(reg_f (h _ h1)).2] at h3
    exact absurd h3 (by decide)
  · unfold mnV
    rw [(cnN_0 48).mpr h]
    exact if_neg (by decide)
theorem qt_sg {v : Nat → Int32} {a : Nat} (h0 : 0 < a) (h1 : a < 101) (e : v 96 = nI a) {j : Nat} (hs : sgV v j = 0) : ttV v j = false := by
  rw [tt_iff', hs, e]
  exact nI_lt (a := 0) h0 (by omega)
theorem rel_q {v : Nat → Int32} (hG : GV v) : kV (relV v) = 0 ∧ mnV (relV v) = FP.fconst0 := by
  obtain ⟨a, h0, h1, e⟩ := hG.2.1
  refine quiet fun j hj => qt_sg (a := a) h0 h1 ((if_neg (by decide)).trans e) ?_
  obtain ⟨b, hb, eb⟩ := hG.1 (48 + j) (by omega)
  unfold sgV
  rw [show relV v j = 0 from if_pos hj, show relV v (48 + j) = nI b from (if_neg (by omega)).trans eb, if_neg]
  intro h
  have h2 : (nI 0 - nI b).toInt = ((0 : Nat) : Int) - b := pk_sub_toInt (by omega) (by omega)
  have h3 := Int32.lt_iff_toInt_lt.mp h
  have h4 : ((0 : Int32) - nI b).toInt = ((0 : Nat) : Int) - b := h2
  rw [h4] at h3
  have h5 : (0 : Int32).toInt = 0 := rfl
  rw [h5] at h3
  omega
theorem cal_sg {v : Nat → Int32} {j : Nat} (hj : j < 48) : sgV (calV v) j = 0 := by
  unfold sgV
  rw [show calV v j = v j from if_neg (by omega), show calV v (48 + j) = v j from (if_pos (by omega)).trans (congrArg v (by omega)), Int32.sub_self]
  exact if_neg (Int32.lt_irrefl)
theorem cal_q {v : Nat → Int32} (hG : GV v) : kV (calV v) = 0 ∧ mnV (calV v) = FP.fconst0 := by
  obtain ⟨a, h0, h1, e⟩ := hG.2.1
  exact quiet fun j hj => qt_sg (a := a) h0 h1 ((if_neg (by decide)).trans e) (cal_sg hj)
theorem set_n {v : Nat → Int32} (hG : GV v) {q : Nat} (hq : q < 5) : ∃ a, a < 1001 ∧ v (96 + q) = nI a := by
  obtain ⟨-, ⟨a0, -, b0, e0⟩, ⟨a1, -, b1, e1⟩, ⟨a2, -, b2, e2⟩, ⟨a3, -, b3, e3⟩, ⟨a4, b4, e4⟩, -⟩ := hG
  rcases (by omega : q = 0 ∨ q = 1 ∨ q = 2 ∨ q = 3 ∨ q = 4) with rfl | rfl | rfl | rfl | rfl
  · exact ⟨a0, by omega, e0⟩
  · exact ⟨a1, by omega, e1⟩
  · exact ⟨a2, by omega, e2⟩
  · exact ⟨a3, by omega, e3⟩
  · exact ⟨a4, by omega, e4⟩
theorem OP.opl {S S1 S' : mS} {h : Nat} {v' : Nat → Int32} (ho : OP S h v' S1) (h6 : h ≤ 6) (h0 : S.2.2.1 = 0) (hQ : QS S1 S') : OPL S h v' S' := by
  obtain ⟨a, b, c, d⟩ := ho
  have := pm_blk a.1 (INV.svi h6).1
  exact ⟨hQ.inv a, by rw [hQ.1, hQ.vwb this.1 this.2, b], by rw [hQ.vw1, c], by rw [hQ.1, d.1]; exact h0⟩
theorem tb_out : ∀ m, m < 16 → 8 ≤ m → (7 : Int) < (nI m).toInt := by decide +kernel
section C76
variable {l : Launch} {D : va_G} {n0 : Nat} {ft : tv_ft} {n : Nat} {S : mS} {h : Nat}
set_option maxHeartbeats 4000000 in
theorem cL_acts_ok (hI : INV S h) (h0 : S.2.2.1 = 0) (x y : Int32) : mAi l yL_acts wsL_acts rmL_acts 1 48 D n0 ft [.ref (n0 + 0), .int x, .int y] n S (fun r S' => r = 1 ∧ OPL S h (actV (vw S 1) x y) S') := by
  have hG := hI.2.2.1
  have h6 := hI.2.1.2
  unfold mAi actV
  refine tv_enter (cc := cL_acts) (maxL := 8) (ret := (some .boolean)) (by decide) rfl (Nat.le_of_ble_eq_true rfl) ?_
  intro p e s m args below meth c X hrt hnm hargs
  refine tv_iload_n X dL_acts_0 rfl ?_
  refine tv_bipush (v := 8) X dL_acts_1 (by decide) ?_
  refine mm_callSi X dL_acts_3 (cL_up_ok y (q := 8) (by decide) (by decide)) (va_cwS 2 X.2.2.2.2.1 gL_acts_L_up rfl rfl rfl (by decide +kernel) ⟨Nat.le_of_ble_eq_true rfl, Nat.le_of_ble_eq_true rfl⟩) rfl rfl (Nat.le_of_ble_eq_true rfl) ⟨Nat.le_of_ble_eq_true rfl, Nat.le_of_ble_eq_true rfl⟩ (fun r S1 hq => ?_)
  obtain ⟨hq1, hq2⟩ := hq
  rw [hq1, hq2]
  clear hq1 hq2
  refine tv_istore_n X dL_acts_6 rfl ?_
  refine tv_iload_n X dL_acts_7 rfl ?_
  refine tv_iconst (v := 3) X dL_acts_8 (by decide) ?_
  refine tv_ishr X dL_acts_9 ?_
  refine tv_bipush (v := 6) X dL_acts_10 (by decide) ?_
  refine mm_callSi X dL_acts_12 (cL_up_ok _ (q := 6) (by decide) (by decide)) (va_cwS 2 X.2.2.2.2.1 gL_acts_L_up rfl rfl rfl (by decide +kernel) ⟨Nat.le_of_ble_eq_true rfl, Nat.le_of_ble_eq_true rfl⟩) rfl rfl (Nat.le_of_ble_eq_true rfl) ⟨Nat.le_of_ble_eq_true rfl, Nat.le_of_ble_eq_true rfl⟩ (fun r S1 hq => ?_)
  obtain ⟨hq1, hq2⟩ := hq
  rw [hq1, hq2]
  clear hq1 hq2
  refine tv_istore X dL_acts_15 rfl ?_
  refine tv_iload_n X dL_acts_17 rfl ?_
  refine tv_bipush (v := 16) X dL_acts_18 (by decide) ?_
  refine mm_callSi X dL_acts_20 (cL_up_ok x (q := 16) (by decide) (by decide)) (va_cwS 2 X.2.2.2.2.1 gL_acts_L_up rfl rfl rfl (by decide +kernel) ⟨Nat.le_of_ble_eq_true rfl, Nat.le_of_ble_eq_true rfl⟩) rfl rfl (Nat.le_of_ble_eq_true rfl) ⟨Nat.le_of_ble_eq_true rfl, Nat.le_of_ble_eq_true rfl⟩ (fun r S1 hq => ?_)
  obtain ⟨hq1, hq2⟩ := hq
  rw [hq1, hq2]
  clear hq1 hq2
  have hm := upN_lt (x := x) (q := 16) (by decide)
  have hi := upN_lt (x := y) (q := 8) (by decide)
  have hj := upN_lt (x := y >>> ((3 : Int32) &&& 31)) (q := 6) (by decide)
  generalize upN x 16 = m at hm ⊢
  generalize upN y 8 = i at hi ⊢
  generalize upN (y >>> ((3 : Int32) &&& 31)) 6 = j at hj ⊢
  have hu := upN_lt (x := y >>> ((6 : Int32) &&& 31)) (q := 256) (by decide)
  have hu5 := upN_lt (x := y >>> ((6 : Int32) &&& 31)) (q := 255) (by decide)
  obtain ⟨w1, w2⟩ := rw_n hG (q := 6 * i + j) (by omega)
  rcases (by omega : m = 0 ∨ m = 1 ∨ m = 2 ∨ m = 3 ∨ (4 ≤ m ∧ m < 8) ∨ 8 ≤ m) with rfl | rfl | rfl | rfl | ⟨h4, h8⟩ | h8
  · refine tv_tableIn (tgt := 68) X dL_acts_23 (by decide) (by decide) rfl (by decide) ?_
    obtain ⟨k0, mn0⟩ := rel_q hG
    rw [aM0]
    refine tv_aload_n X dL_acts_68 rfl ?_
    refine mm_callVi (q := (RX9, TX9, 8)) X dL_acts_69 (fX9_release hI) (cwV 0 X.2.2.2.2.1 gL_acts_X9_release rfl rfl rfl (by decide +kernel) ⟨Nat.le_of_ble_eq_true rfl, Nat.le_of_ble_eq_true rfl⟩) rfl rfl gX9 rfl (Nat.le_of_ble_eq_true rfl) ⟨Nat.le_of_ble_eq_true rfl, Nat.le_of_ble_eq_true rfl⟩ (fun r1 S1 hq => ?_)
    obtain ⟨hO, c, hc, e1⟩ := hq
    rw [e1]
    refine tv_if_lt (tgt := 95) X dL_acts_72 (by decide) (fun h1 => ?_) (fun h1 => ?_)
    · exact absurd h1 (nI_pos (by omega))
    refine tv_aload_n X dL_acts_75 rfl ?_
    refine mm_callVi (q := (RX9, TX9, 8)) X dL_acts_76 (fX9_contacts) (cwV 0 X.2.2.2.2.1 gL_acts_X9_contacts rfl rfl rfl (by decide +kernel) ⟨Nat.le_of_ble_eq_true rfl, Nat.le_of_ble_eq_true rfl⟩) rfl rfl gX9 rfl (Nat.le_of_ble_eq_true rfl) ⟨Nat.le_of_ble_eq_true rfl, Nat.le_of_ble_eq_true rfl⟩ (fun r2 S2 hq => ?_)
    obtain ⟨hQ2, e2⟩ := hq
    rw [hO.2.2.1, k0] at e2
    rw [e2]
    refine tv_if_ne (tgt := 95) X dL_acts_79 (by decide) (fun h1 => ?_) (fun h1 => ?_)
    · exact absurd rfl h1
    refine tv_aload_n X dL_acts_82 rfl ?_
    refine mm_callVf (q := (RX9, TX9, 8)) X dL_acts_83 (fX9_meanSignal) (cwV 0 X.2.2.2.2.1 gL_acts_X9_meanSignal rfl rfl rfl (by decide +kernel) ⟨Nat.le_of_ble_eq_true rfl, Nat.le_of_ble_eq_true rfl⟩) rfl rfl gX9 rfl (Nat.le_of_ble_eq_true rfl) ⟨Nat.le_of_ble_eq_true rfl, Nat.le_of_ble_eq_true rfl⟩ (fun r3 S3 hq => ?_)
    obtain ⟨e3, e4⟩ := hq
    rw [hQ2.vw1, hO.2.2.1] at e4
    rw [e3, e4]
    refine tv_fconst0 X dL_acts_86 ?_
    rw [← mn0]
    refine tg_fcmp X dL_acts_87 ?_
    rw [fcmp_0 mn_num]
    refine tv_if_ne (tgt := 95) X dL_acts_88 (by decide) (fun h1 => ?_) (fun h1 => ?_)
    · exact absurd rfl h1
    refine tv_iconst (v := 1) X dL_acts_91 (by decide) ?_
    refine tv_goto (tgt := 96) X dL_acts_92 (by decide) ?_
    refine tv_widen (k0 := 1) (k1 := 48) (by decide) (by decide) ?_
    exact tv_zret X hrt dL_acts_96 rfl ⟨S2, rfl, rfl, hO.opl h6 h0 hQ2⟩
  · refine tv_tableIn (tgt := 97) X dL_acts_23 (by decide) (by decide) rfl (by decide) ?_
    rw [aM1]
    refine tv_iload_n X dL_acts_97 rfl ?_
    refine tv_iconst (v := 3) X dL_acts_98 (by decide) ?_
    refine tv_iand X dL_acts_99 ?_
    refine tv_if_le (tgt := 131) X dL_acts_100 (by decide) (fun h1 => ?_) (fun h1 => ?_)
    · rw [if_pos h1]
      obtain ⟨k0, -⟩ := cal_q hG
      refine tv_aload_n X dL_acts_131 rfl ?_
      refine mm_callVi (q := (RX9, TX9, 8)) X dL_acts_132 (fX9_calibrate hI) (cwV 0 X.2.2.2.2.1 gL_acts_X9_calibrate rfl rfl rfl (by decide +kernel) ⟨Nat.le_of_ble_eq_true rfl, Nat.le_of_ble_eq_true rfl⟩) rfl rfl gX9 rfl (Nat.le_of_ble_eq_true rfl) ⟨Nat.le_of_ble_eq_true rfl, Nat.le_of_ble_eq_true rfl⟩ (fun r1 S1 hq => ?_)
      obtain ⟨hO, c, hc, e1⟩ := hq
      rw [e1]
      refine tv_if_lt (tgt := 159) X dL_acts_135 (by decide) (fun h2 => ?_) (fun h2 => ?_)
      · exact absurd h2 (nI_pos (by omega))
      refine tv_aload_n X dL_acts_138 rfl ?_
      refine mm_callVi (q := (RX9, TX9, 8)) X dL_acts_139 (fX9_contacts) (cwV 0 X.2.2.2.2.1 gL_acts_X9_contacts rfl rfl rfl (by decide +kernel) ⟨Nat.le_of_ble_eq_true rfl, Nat.le_of_ble_eq_true rfl⟩) rfl rfl gX9 rfl (Nat.le_of_ble_eq_true rfl) ⟨Nat.le_of_ble_eq_true rfl, Nat.le_of_ble_eq_true rfl⟩ (fun r2 S2 hq => ?_)
      obtain ⟨hQ2, e2⟩ := hq
      rw [hO.2.2.1, k0] at e2
      rw [e2]
      refine tv_if_ne (tgt := 159) X dL_acts_142 (by decide) (fun h2 => ?_) (fun h2 => ?_)
      · exact absurd rfl h2
      refine tv_aload_n X dL_acts_145 rfl ?_
      refine tv_iload_n X dL_acts_146 rfl ?_
      refine tv_iload X dL_acts_147 rfl ?_
      refine mm_callVi (q := (RX9, TX9, 8)) X dL_acts_149 (fX9_signal hi hj) (cwV 2 X.2.2.2.2.1 gL_acts_X9_signal rfl rfl rfl (by decide +kernel) ⟨Nat.le_of_ble_eq_true rfl, Nat.le_of_ble_eq_true rfl⟩) rfl rfl gX9 rfl (Nat.le_of_ble_eq_true rfl) ⟨Nat.le_of_ble_eq_true rfl, Nat.le_of_ble_eq_true rfl⟩ (fun r3 S3 hq => ?_)
      obtain ⟨e3, e4⟩ := hq
      rw [hQ2.vw1, hO.2.2.1, cal_sg (by omega)] at e4
      rw [e3, e4]
      refine tv_if_ne (tgt := 159) X dL_acts_152 (by decide) (fun h2 => ?_) (fun h2 => ?_)
      · exact absurd rfl h2
      refine tv_iconst (v := 1) X dL_acts_155 (by decide) ?_
      refine tv_goto (tgt := 160) X dL_acts_156 (by decide) ?_
      refine tv_widen (k0 := 1) (k1 := 48) (by decide) (by decide) ?_
      exact tv_zret X hrt dL_acts_160 rfl ⟨S2, rfl, rfl, hO.opl h6 h0 hQ2⟩
    · rw [if_neg h1]
      refine tv_aload_n X dL_acts_103 rfl ?_
      refine tv_iload_n X dL_acts_104 rfl ?_
      refine tv_iload X dL_acts_105 rfl ?_
      refine tv_iload_n X dL_acts_107 rfl ?_
      refine tv_bipush (v := 6) X dL_acts_108 (by decide) ?_
      refine tv_ishr X dL_acts_110 ?_
      refine tv_sipush (v := 256) X dL_acts_111 (by decide) ?_
      refine mm_callSi X dL_acts_114 (cL_up_ok _ (q := 256) (by decide) (by decide)) (va_cwS 2 X.2.2.2.2.1 gL_acts_L_up rfl rfl rfl (by decide +kernel) ⟨Nat.le_of_ble_eq_true rfl, Nat.le_of_ble_eq_true rfl⟩) rfl rfl (Nat.le_of_ble_eq_true rfl) ⟨Nat.le_of_ble_eq_true rfl, Nat.le_of_ble_eq_true rfl⟩ (fun r1 S1 hq => ?_)
      obtain ⟨hq1, hq2⟩ := hq
      rw [hq1, hq2]
      clear hq1 hq2
      refine mm_callVi (q := (RX9, TX9, 8)) X dL_acts_117 (fX9_setRaw hI hi hj hu) (cwV 3 X.2.2.2.2.1 gL_acts_X9_setRaw rfl rfl rfl (by decide +kernel) ⟨Nat.le_of_ble_eq_true rfl, Nat.le_of_ble_eq_true rfl⟩) rfl rfl gX9 rfl (Nat.le_of_ble_eq_true rfl) ⟨Nat.le_of_ble_eq_true rfl, Nat.le_of_ble_eq_true rfl⟩ (fun r2 S2 hq => ?_)
      obtain ⟨hO, e2⟩ := hq
      rw [e2, w1]
      refine tv_if_lt (tgt := 127) X dL_acts_120 (by decide) (fun h2 => ?_) (fun h2 => ?_)
      · exact absurd h2 (nI_pos (by omega))
      refine tv_iconst (v := 1) X dL_acts_123 (by decide) ?_
      refine tv_goto (tgt := 160) X dL_acts_124 (by decide) ?_
      refine tv_widen (k0 := 1) (k1 := 48) (by decide) (by decide) ?_
      exact tv_zret X hrt dL_acts_160 rfl ⟨S2, rfl, rfl, hO.opl h6 h0 QS.refl⟩
  · refine tv_tableIn (tgt := 161) X dL_acts_23 (by decide) (by decide) rfl (by decide) ?_
    rw [aM2]
    refine tv_iload_n X dL_acts_161 rfl ?_
    refine tv_iconst (v := 5) X dL_acts_162 (by decide) ?_
    refine mm_callSi X dL_acts_163 (cL_up_ok y (q := 5) (by decide) (by decide)) (va_cwS 2 X.2.2.2.2.1 gL_acts_L_up rfl rfl rfl (by decide +kernel) ⟨Nat.le_of_ble_eq_true rfl, Nat.le_of_ble_eq_true rfl⟩) rfl rfl (Nat.le_of_ble_eq_true rfl) ⟨Nat.le_of_ble_eq_true rfl, Nat.le_of_ble_eq_true rfl⟩ (fun r1 S1 hq => ?_)
    obtain ⟨hq1, hq2⟩ := hq
    rw [hq1, hq2]
    clear hq1 hq2
    have hq5 := upN_lt (x := y) (q := 5) (by decide)
    generalize upN y 5 = q at hq5 ⊢
    obtain ⟨s1, s2, s3⟩ := sv_n (u := y >>> ((3 : Int32) &&& 31)) q hq5
    refine tv_istore X dL_acts_166 rfl ?_
    refine mm_cut (pc := 253) (fun _ : Unit => True) (fun _ => [(0, .ref (n0 + 0)), (5, .int (nI q))]) (fun _ => [.int (nI (svN (y >>> ((3 : Int32) &&& 31)) q))]) (fun _ => S) ?_ ?_
    · intro _ _
      generalize svN (y >>> ((3 : Int32) &&& 31)) q = z at s1 s2 s3 ⊢
      refine tv_istore X dL_acts_253 rfl ?_
      refine tv_aload_n X dL_acts_255 rfl ?_
      refine tv_iload X dL_acts_256 rfl ?_
      refine tv_iload X dL_acts_258 rfl ?_
      refine mm_callVi (q := (RX9, TX9, 8)) X dL_acts_260 (fX9_set hI hq5 s1 s2) (cwV 2 X.2.2.2.2.1 gL_acts_X9_set rfl rfl rfl (by decide +kernel) ⟨Nat.le_of_ble_eq_true rfl, Nat.le_of_ble_eq_true rfl⟩) rfl rfl gX9 rfl (Nat.le_of_ble_eq_true rfl) ⟨Nat.le_of_ble_eq_true rfl, Nat.le_of_ble_eq_true rfl⟩ (fun r2 S2 hq => ?_)
      obtain ⟨hO, e2⟩ := hq
      obtain ⟨a, ha, ea⟩ := set_n hG hq5
      rw [e2, ea]
      refine tv_if_lt (tgt := 281) X dL_acts_263 (by decide) (fun h1 => ?_) (fun h1 => ?_)
      · exact absurd h1 (nI_pos (by omega))
      refine tv_aload_n X dL_acts_266 rfl ?_
      refine tv_iload X dL_acts_267 rfl ?_
      refine mm_callVi (q := (RX9, TX9, 8)) X dL_acts_269 (fX9_setting hq5) (cwV 1 X.2.2.2.2.1 gL_acts_X9_setting rfl rfl rfl (by decide +kernel) ⟨Nat.le_of_ble_eq_true rfl, Nat.le_of_ble_eq_true rfl⟩) rfl rfl gX9 rfl (Nat.le_of_ble_eq_true rfl) ⟨Nat.le_of_ble_eq_true rfl, Nat.le_of_ble_eq_true rfl⟩ (fun r3 S3 hq => ?_)
      obtain ⟨e3, e4⟩ := hq
      rw [hO.2.2.1, show setV (vw S 1) q (nI z) (96 + q) = nI z from if_pos rfl] at e4
      rw [e3, e4]
      refine tv_iload X dL_acts_272 rfl ?_
      refine tv_icmp_ne (tgt := 281) X dL_acts_274 (by decide) (fun h1 => ?_) (fun h1 => ?_)
      · exact absurd rfl h1
      refine tv_iconst (v := 1) X dL_acts_277 (by decide) ?_
      refine tv_goto (tgt := 282) X dL_acts_278 (by decide) ?_
      refine tv_widen (k0 := 1) (k1 := 48) (by decide) (by decide) ?_
      exact tv_zret X hrt dL_acts_282 rfl ⟨S2, rfl, rfl, hO.opl h6 h0 QS.refl⟩
    intro hA
    clear s1 s2 s3
    rcases (by omega : q = 0 ∨ q = 1 ∨ q = 2 ∨ q = 3 ∨ q = 4) with rfl | rfl | rfl | rfl | rfl
    · rw [show svN (y >>> ((3 : Int32) &&& 31)) 0 = 1 + upN (y >>> ((3 : Int32) &&& 31)) 100 from rfl] at hA
      refine tv_iload X dL_acts_168 rfl ?_
      refine tv_if_ne (tgt := 186) X dL_acts_170 (by decide) (fun h1 => ?_) (fun h1 => ?_)
      · exact absurd rfl h1
      refine tv_iconst (v := 1) X dL_acts_173 (by decide) ?_
      refine tv_iload_n X dL_acts_174 rfl ?_
      refine tv_iconst (v := 3) X dL_acts_175 (by decide) ?_
      refine tv_ishr X dL_acts_176 ?_
      refine tv_bipush (v := 100) X dL_acts_177 (by decide) ?_
      refine mm_callSi X dL_acts_179 (cL_up_ok _ (q := 100) (by decide) (by decide)) (va_cwS 2 X.2.2.2.2.1 gL_acts_L_up rfl rfl rfl (by decide +kernel) ⟨Nat.le_of_ble_eq_true rfl, Nat.le_of_ble_eq_true rfl⟩) rfl rfl (Nat.le_of_ble_eq_true rfl) ⟨Nat.le_of_ble_eq_true rfl, Nat.le_of_ble_eq_true rfl⟩ (fun r1 S1 hq => ?_)
      obtain ⟨hq1, hq2⟩ := hq
      rw [hq1, hq2]
      clear hq1 hq2
      refine tv_iadd X dL_acts_182 ?_
      rw [show (1 : Int32) + nI (upN (y >>> ((3 : Int32) &&& 31)) 100) = nI (1 + upN (y >>> ((3 : Int32) &&& 31)) 100) from nI_add 1 _]
      refine tv_goto (tgt := 253) X dL_acts_183 (by decide) ?_
      exact tv_sl [0, 5] rfl (hA () trivial)
    · rw [show svN (y >>> ((3 : Int32) &&& 31)) 1 = 1 + upN (y >>> ((3 : Int32) &&& 31)) 48 from rfl] at hA
      refine tv_iload X dL_acts_168 rfl ?_
      refine tv_if_ne (tgt := 186) X dL_acts_170 (by decide) (fun h1 => ?_) (fun h1 => ?_)
      rotate_left
      · exact absurd (show (1 : Int32) = 0 from h1) (by decide)
      refine tv_iload X dL_acts_186 rfl ?_
      refine tv_iconst (v := 1) X dL_acts_188 (by decide) ?_
      refine tv_icmp_ne (tgt := 205) X dL_acts_189 (by decide) (fun h1 => ?_) (fun h1 => ?_)
      · exact absurd rfl h1
      refine tv_iconst (v := 1) X dL_acts_192 (by decide) ?_
      refine tv_iload_n X dL_acts_193 rfl ?_
      refine tv_iconst (v := 3) X dL_acts_194 (by decide) ?_
      refine tv_ishr X dL_acts_195 ?_
      refine tv_bipush (v := 48) X dL_acts_196 (by decide) ?_
      refine mm_callSi X dL_acts_198 (cL_up_ok _ (q := 48) (by decide) (by decide)) (va_cwS 2 X.2.2.2.2.1 gL_acts_L_up rfl rfl rfl (by decide +kernel) ⟨Nat.le_of_ble_eq_true rfl, Nat.le_of_ble_eq_true rfl⟩) rfl rfl (Nat.le_of_ble_eq_true rfl) ⟨Nat.le_of_ble_eq_true rfl, Nat.le_of_ble_eq_true rfl⟩ (fun r1 S1 hq => ?_)
      obtain ⟨hq1, hq2⟩ := hq
      rw [hq1, hq2]
      clear hq1 hq2
      refine tv_iadd X dL_acts_201 ?_
      rw [show (1 : Int32) + nI (upN (y >>> ((3 : Int32) &&& 31)) 48) = nI (1 + upN (y >>> ((3 : Int32) &&& 31)) 48) from nI_add 1 _]
      refine tv_goto (tgt := 253) X dL_acts_202 (by decide) ?_
      exact tv_sl [0, 5] rfl (hA () trivial)
    · rw [show svN (y >>> ((3 : Int32) &&& 31)) 2 = 1 + upN (y >>> ((3 : Int32) &&& 31)) 255 from rfl] at hA
      refine tv_iload X dL_acts_168 rfl ?_
      refine tv_if_ne (tgt := 186) X dL_acts_170 (by decide) (fun h1 => ?_) (fun h1 => ?_)
      rotate_left
      · exact absurd (show (2 : Int32) = 0 from h1) (by decide)
      refine tv_iload X dL_acts_186 rfl ?_
      refine tv_iconst (v := 1) X dL_acts_188 (by decide) ?_
      refine tv_icmp_ne (tgt := 205) X dL_acts_189 (by decide) (fun h1 => ?_) (fun h1 => ?_)
      rotate_left
      · exact absurd (show (2 : Int32) = 1 from h1) (by decide)
      refine tv_iload X dL_acts_205 rfl ?_
      refine tv_iconst (v := 2) X dL_acts_207 (by decide) ?_
      refine tv_icmp_ne (tgt := 225) X dL_acts_208 (by decide) (fun h1 => ?_) (fun h1 => ?_)
      · exact absurd rfl h1
      refine tv_iconst (v := 1) X dL_acts_211 (by decide) ?_
      refine tv_iload_n X dL_acts_212 rfl ?_
      refine tv_iconst (v := 3) X dL_acts_213 (by decide) ?_
      refine tv_ishr X dL_acts_214 ?_
      refine tv_sipush (v := 255) X dL_acts_215 (by decide) ?_
      refine mm_callSi X dL_acts_218 (cL_up_ok _ (q := 255) (by decide) (by decide)) (va_cwS 2 X.2.2.2.2.1 gL_acts_L_up rfl rfl rfl (by decide +kernel) ⟨Nat.le_of_ble_eq_true rfl, Nat.le_of_ble_eq_true rfl⟩) rfl rfl (Nat.le_of_ble_eq_true rfl) ⟨Nat.le_of_ble_eq_true rfl, Nat.le_of_ble_eq_true rfl⟩ (fun r1 S1 hq => ?_)
      obtain ⟨hq1, hq2⟩ := hq
      rw [hq1, hq2]
      clear hq1 hq2
      refine tv_iadd X dL_acts_221 ?_
      rw [show (1 : Int32) + nI (upN (y >>> ((3 : Int32) &&& 31)) 255) = nI (1 + upN (y >>> ((3 : Int32) &&& 31)) 255) from nI_add 1 _]
      refine tv_goto (tgt := 253) X dL_acts_222 (by decide) ?_
      exact tv_sl [0, 5] rfl (hA () trivial)
    · rw [show svN (y >>> ((3 : Int32) &&& 31)) 3 = 1 + upN (y >>> ((3 : Int32) &&& 31)) 1000 from rfl] at hA
      refine tv_iload X dL_acts_168 rfl ?_
      refine tv_if_ne (tgt := 186) X dL_acts_170 (by decide) (fun h1 => ?_) (fun h1 => ?_)
      rotate_left
      · exact absurd (show (3 : Int32) = 0 from h1) (by decide)
      refine tv_iload X dL_acts_186 rfl ?_
      refine tv_iconst (v := 1) X dL_acts_188 (by decide) ?_
      refine tv_icmp_ne (tgt := 205) X dL_acts_189 (by decide) (fun h1 => ?_) (fun h1 => ?_)
      rotate_left
      · exact absurd (show (3 : Int32) = 1 from h1) (by decide)
      refine tv_iload X dL_acts_205 rfl ?_
      refine tv_iconst (v := 2) X dL_acts_207 (by decide) ?_
      refine tv_icmp_ne (tgt := 225) X dL_acts_208 (by decide) (fun h1 => ?_) (fun h1 => ?_)
      rotate_left
      · exact absurd (show (3 : Int32) = 2 from h1) (by decide)
      refine tv_iload X dL_acts_225 rfl ?_
      refine tv_iconst (v := 3) X dL_acts_227 (by decide) ?_
      refine tv_icmp_ne (tgt := 245) X dL_acts_228 (by decide) (fun h1 => ?_) (fun h1 => ?_)
      · exact absurd rfl h1
      refine tv_iconst (v := 1) X dL_acts_231 (by decide) ?_
      refine tv_iload_n X dL_acts_232 rfl ?_
      refine tv_iconst (v := 3) X dL_acts_233 (by decide) ?_
      refine tv_ishr X dL_acts_234 ?_
      refine tv_sipush (v := 1000) X dL_acts_235 (by decide) ?_
      refine mm_callSi X dL_acts_238 (cL_up_ok _ (q := 1000) (by decide) (by decide)) (va_cwS 2 X.2.2.2.2.1 gL_acts_L_up rfl rfl rfl (by decide +kernel) ⟨Nat.le_of_ble_eq_true rfl, Nat.le_of_ble_eq_true rfl⟩) rfl rfl (Nat.le_of_ble_eq_true rfl) ⟨Nat.le_of_ble_eq_true rfl, Nat.le_of_ble_eq_true rfl⟩ (fun r1 S1 hq => ?_)
      obtain ⟨hq1, hq2⟩ := hq
      rw [hq1, hq2]
      clear hq1 hq2
      refine tv_iadd X dL_acts_241 ?_
      rw [show (1 : Int32) + nI (upN (y >>> ((3 : Int32) &&& 31)) 1000) = nI (1 + upN (y >>> ((3 : Int32) &&& 31)) 1000) from nI_add 1 _]
      refine tv_goto (tgt := 253) X dL_acts_242 (by decide) ?_
      exact tv_sl [0, 5] rfl (hA () trivial)
    · rw [show svN (y >>> ((3 : Int32) &&& 31)) 4 = upN (y >>> ((3 : Int32) &&& 31)) 6 from rfl] at hA
      refine tv_iload X dL_acts_168 rfl ?_
      refine tv_if_ne (tgt := 186) X dL_acts_170 (by decide) (fun h1 => ?_) (fun h1 => ?_)
      rotate_left
      · exact absurd (show (4 : Int32) = 0 from h1) (by decide)
      refine tv_iload X dL_acts_186 rfl ?_
      refine tv_iconst (v := 1) X dL_acts_188 (by decide) ?_
      refine tv_icmp_ne (tgt := 205) X dL_acts_189 (by decide) (fun h1 => ?_) (fun h1 => ?_)
      rotate_left
      · exact absurd (show (4 : Int32) = 1 from h1) (by decide)
      refine tv_iload X dL_acts_205 rfl ?_
      refine tv_iconst (v := 2) X dL_acts_207 (by decide) ?_
      refine tv_icmp_ne (tgt := 225) X dL_acts_208 (by decide) (fun h1 => ?_) (fun h1 => ?_)
      rotate_left
      · exact absurd (show (4 : Int32) = 2 from h1) (by decide)
      refine tv_iload X dL_acts_225 rfl ?_
      refine tv_iconst (v := 3) X dL_acts_227 (by decide) ?_
      refine tv_icmp_ne (tgt := 245) X dL_acts_228 (by decide) (fun h1 => ?_) (fun h1 => ?_)
      rotate_left
      · exact absurd (show (4 : Int32) = 3 from h1) (by decide)
      refine tv_iload_n X dL_acts_245 rfl ?_
      refine tv_iconst (v := 3) X dL_acts_246 (by decide) ?_
      refine tv_ishr X dL_acts_247 ?_
      refine tv_bipush (v := 6) X dL_acts_248 (by decide) ?_
      refine mm_callSi X dL_acts_250 (cL_up_ok _ (q := 6) (by decide) (by decide)) (va_cwS 2 X.2.2.2.2.1 gL_acts_L_up rfl rfl rfl (by decide +kernel) ⟨Nat.le_of_ble_eq_true rfl, Nat.le_of_ble_eq_true rfl⟩) rfl rfl (Nat.le_of_ble_eq_true rfl) ⟨Nat.le_of_ble_eq_true rfl, Nat.le_of_ble_eq_true rfl⟩ (fun r1 S1 hq => ?_)
      obtain ⟨hq1, hq2⟩ := hq
      rw [hq1, hq2]
      clear hq1 hq2
      exact tv_sl [0, 5] rfl (hA () trivial)
  · refine tv_tableIn (tgt := 283) X dL_acts_23 (by decide) (by decide) rfl (by decide) ?_
    rw [aM3]
    refine tv_aload_n X dL_acts_283 rfl ?_
    refine tv_iload_n X dL_acts_284 rfl ?_
    refine tv_iload X dL_acts_285 rfl ?_
    refine mm_callVi (q := (RX9, TX9, 8)) X dL_acts_287 (fX9_raw hi hj) (cwV 2 X.2.2.2.2.1 gL_acts_X9_raw rfl rfl rfl (by decide +kernel) ⟨Nat.le_of_ble_eq_true rfl, Nat.le_of_ble_eq_true rfl⟩) rfl rfl gX9 rfl (Nat.le_of_ble_eq_true rfl) ⟨Nat.le_of_ble_eq_true rfl, Nat.le_of_ble_eq_true rfl⟩ (fun r1 S1 hq => ?_)
    obtain ⟨hq1, hq2⟩ := hq
    rw [hq1, hq2]
    clear hq1 hq2
    refine tv_istore X dL_acts_290 rfl ?_
    refine tv_aload_n X dL_acts_292 rfl ?_
    refine tv_iload_n X dL_acts_293 rfl ?_
    refine tv_iload X dL_acts_294 rfl ?_
    refine tv_iload_n X dL_acts_296 rfl ?_
    refine tv_bipush (v := 6) X dL_acts_297 (by decide) ?_
    refine tv_ishr X dL_acts_299 ?_
    refine tv_sipush (v := 256) X dL_acts_300 (by decide) ?_
    refine mm_callSi X dL_acts_303 (cL_up_ok _ (q := 256) (by decide) (by decide)) (va_cwS 2 X.2.2.2.2.1 gL_acts_L_up rfl rfl rfl (by decide +kernel) ⟨Nat.le_of_ble_eq_true rfl, Nat.le_of_ble_eq_true rfl⟩) rfl rfl (Nat.le_of_ble_eq_true rfl) ⟨Nat.le_of_ble_eq_true rfl, Nat.le_of_ble_eq_true rfl⟩ (fun r1 S1 hq => ?_)
    obtain ⟨hq1, hq2⟩ := hq
    rw [hq1, hq2]
    clear hq1 hq2
    refine mm_callVi (q := (RX9, TX9, 8)) X dL_acts_306 (fX9_setRaw hI hi hj hu) (cwV 3 X.2.2.2.2.1 gL_acts_X9_setRaw rfl rfl rfl (by decide +kernel) ⟨Nat.le_of_ble_eq_true rfl, Nat.le_of_ble_eq_true rfl⟩) rfl rfl gX9 rfl (Nat.le_of_ble_eq_true rfl) ⟨Nat.le_of_ble_eq_true rfl, Nat.le_of_ble_eq_true rfl⟩ (fun r2 S2 hq => ?_)
    obtain ⟨hO, e2⟩ := hq
    rw [e2]
    refine tv_iload X dL_acts_309 rfl ?_
    refine tv_icmp_ne (tgt := 338) X dL_acts_311 (by decide) (fun h1 => ?_) (fun h1 => ?_)
    · exact absurd rfl h1
    refine tv_aload_n X dL_acts_314 rfl ?_
    refine tv_iload_n X dL_acts_315 rfl ?_
    refine tv_iload X dL_acts_316 rfl ?_
    refine mm_callVi (q := (RX9, TX9, 8)) X dL_acts_318 (fX9_raw hi hj) (cwV 2 X.2.2.2.2.1 gL_acts_X9_raw rfl rfl rfl (by decide +kernel) ⟨Nat.le_of_ble_eq_true rfl, Nat.le_of_ble_eq_true rfl⟩) rfl rfl gX9 rfl (Nat.le_of_ble_eq_true rfl) ⟨Nat.le_of_ble_eq_true rfl, Nat.le_of_ble_eq_true rfl⟩ (fun r3 S3 hq => ?_)
    obtain ⟨hq1, hq2⟩ := hq
    rw [hO.2.2.1, show rawV (vw S 1) (6 * i + j) (nI (upN (y >>> ((6 : Int32) &&& 31)) 256)) (6 * i + j) = nI (upN (y >>> ((6 : Int32) &&& 31)) 256) from if_pos rfl] at hq2
    rw [hq1, hq2]
    clear hq1 hq2
    refine tv_iload_n X dL_acts_321 rfl ?_
    refine tv_bipush (v := 6) X dL_acts_322 (by decide) ?_
    refine tv_ishr X dL_acts_324 ?_
    refine tv_sipush (v := 256) X dL_acts_325 (by decide) ?_
    refine mm_callSi X dL_acts_328 (cL_up_ok _ (q := 256) (by decide) (by decide)) (va_cwS 2 X.2.2.2.2.1 gL_acts_L_up rfl rfl rfl (by decide +kernel) ⟨Nat.le_of_ble_eq_true rfl, Nat.le_of_ble_eq_true rfl⟩) rfl rfl (Nat.le_of_ble_eq_true rfl) ⟨Nat.le_of_ble_eq_true rfl, Nat.le_of_ble_eq_true rfl⟩ (fun r1 S1 hq => ?_)
    obtain ⟨hq1, hq2⟩ := hq
    rw [hq1, hq2]
    clear hq1 hq2
    refine tv_icmp_ne (tgt := 338) X dL_acts_331 (by decide) (fun h1 => ?_) (fun h1 => ?_)
    · exact absurd rfl h1
    refine tv_iconst (v := 1) X dL_acts_334 (by decide) ?_
    refine tv_goto (tgt := 339) X dL_acts_335 (by decide) ?_
    refine tv_widen (k0 := 1) (k1 := 48) (by decide) (by decide) ?_
    exact tv_zret X hrt dL_acts_339 rfl ⟨S2, rfl, rfl, hO.opl h6 h0 QS.refl⟩
  · rw [aM4 h4 h8]
    refine mm_cut (pc := 340) (fun _ : Unit => True) (fun _ => [(0, .ref (n0 + 0))]) (fun _ => []) (fun _ => S) ?_ ?_
    · intro _ _
      refine tv_aload_n X dL_acts_340 rfl ?_
      refine mm_callSa X dL_acts_341 (cL_scans_ok hI h0) (va_cwS 1 X.2.2.2.2.1 gL_acts_L_scans rfl rfl rfl (by decide +kernel) ⟨Nat.le_of_ble_eq_true rfl, Nat.le_of_ble_eq_true rfl⟩) rfl rfl (Nat.le_of_ble_eq_true rfl) ⟨Nat.le_of_ble_eq_true rfl, Nat.le_of_ble_eq_true rfl⟩ (fun r1 n1 S1 hq => ?_)
      obtain ⟨e1, hO⟩ := hq
      rw [e1]
      refine tv_widen (k0 := 1) (k1 := 48) (by decide) (by decide) ?_
      exact tv_zret X hrt dL_acts_344 rfl ⟨S1, rfl, rfl, hO⟩
    intro hA
    rcases (by omega : m = 4 ∨ m = 5 ∨ m = 6 ∨ m = 7) with rfl | rfl | rfl | rfl
    · refine tv_tableIn (tgt := 340) X dL_acts_23 (by decide) (by decide) rfl (by decide) ?_
      exact tv_sl [0] rfl (hA () trivial)
    · refine tv_tableIn (tgt := 340) X dL_acts_23 (by decide) (by decide) rfl (by decide) ?_
      exact tv_sl [0] rfl (hA () trivial)
    · refine tv_tableIn (tgt := 340) X dL_acts_23 (by decide) (by decide) rfl (by decide) ?_
      exact tv_sl [0] rfl (hA () trivial)
    · refine tv_tableIn (tgt := 340) X dL_acts_23 (by decide) (by decide) rfl (by decide) ?_
      exact tv_sl [0] rfl (hA () trivial)
  · rw [aM8 h8]
    refine tv_tableOut (tgt := 345) X dL_acts_23 (Or.inr (tb_out m hm h8)) (by decide) ?_
    refine tv_aload_n X dL_acts_345 rfl ?_
    refine tv_iload_n X dL_acts_346 rfl ?_
    refine tv_iload X dL_acts_347 rfl ?_
    refine tv_iconst (v := 1) X dL_acts_349 (by decide) ?_
    refine tv_iload_n X dL_acts_350 rfl ?_
    refine tv_bipush (v := 6) X dL_acts_351 (by decide) ?_
    refine tv_ishr X dL_acts_353 ?_
    refine tv_sipush (v := 255) X dL_acts_354 (by decide) ?_
    refine mm_callSi X dL_acts_357 (cL_up_ok _ (q := 255) (by decide) (by decide)) (va_cwS 2 X.2.2.2.2.1 gL_acts_L_up rfl rfl rfl (by decide +kernel) ⟨Nat.le_of_ble_eq_true rfl, Nat.le_of_ble_eq_true rfl⟩) rfl rfl (Nat.le_of_ble_eq_true rfl) ⟨Nat.le_of_ble_eq_true rfl, Nat.le_of_ble_eq_true rfl⟩ (fun r1 S1 hq => ?_)
    obtain ⟨hq1, hq2⟩ := hq
    rw [hq1, hq2]
    clear hq1 hq2
    generalize upN (y >>> ((6 : Int32) &&& 31)) 255 = f at hu5 ⊢
    refine tv_iadd X dL_acts_360 ?_
    rw [show (1 : Int32) + nI f = nI (1 + f) from nI_add 1 _]
    refine mm_callSa X dL_acts_361 (cL_presses_ok hI h0 hi hj (f := 1 + f) (by omega) (by omega)) (va_cwS 4 X.2.2.2.2.1 gL_acts_L_presses rfl rfl rfl (by decide +kernel) ⟨Nat.le_of_ble_eq_true rfl, Nat.le_of_ble_eq_true rfl⟩) rfl rfl (Nat.le_of_ble_eq_true rfl) ⟨Nat.le_of_ble_eq_true rfl, Nat.le_of_ble_eq_true rfl⟩ (fun r1 n1 S1 hq => ?_)
    obtain ⟨e1, hO⟩ := hq
    rw [e1]
    refine tv_widen (k0 := 1) (k1 := 48) (by decide) (by decide) ?_
    exact tv_zret X hrt dL_acts_364 rfl ⟨S1, rfl, rfl, hO⟩
end C76

