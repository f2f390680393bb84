/-! regions and contacts, as the law looks at them -/
theorem tt_iff {v : Nat → Int32} {c : Nat} : ttV v c = true ↔ v 96 ≤ sgV v c := decide_eq_true_iff
theorem tt_iff' {v : Nat → Int32} {c : Nat} : ttV v c = false ↔ sgV v c < v 96 := by
  unfold ttV
  rw [decide_eq_false_iff_not, Int32.not_le]
theorem bt_dc {v : Nat → Int32} : btI (nI (dsV v 6)) 6 = nI (dcV v 6) := by
  rw [bt_n (ds_lt 6 (Nat.le_refl 6)) 6 (Nat.le_refl 6)]
  have key : ∀ n, n ≤ 6 → cnN (fun t => (dsV v 6).testBit t) n = dcV v n := by
    intro n
    induction n with
    | zero => exact fun _ => rfl
    | succ n ih =>
      intro hn
      unfold cnN dcV
      rw [ih (by omega), ds_bit, decide_eq_true (show n < 6 by omega), Bool.true_and]
      cases hd : dnB v n with
      | true => rw [if_pos rfl, if_neg (dn_iff.mp hd)]
      | false => rw [if_neg (by decide), if_pos (up_iff.mp hd)]
  exact congrArg nI (key 6 (Nat.le_refl 6))
noncomputable def rgS (v : Nat → Int32) : Nat → Int32
  | 0 => 0
  | q + 1 => rgS v q + rgV v (nI q)
noncomputable def lsP (v : Nat → Int32) : Nat → Int32
  | 0 => -1
  | q + 1 => nI ((ctV v).getD q 0)
theorem lsP_lt {v : Nat → Int32} {q : Nat} (hq : q < kV v) : ¬ nI ((ctV v).getD q 0) ≤ lsP v q := by
  have h1 := (ct_at hq).2.1
  cases q with
  | zero =>
    show ¬ nI ((ctV v).getD 0 0) ≤ (-1 : Int32)
    intro h
    exact nI_pos (n := (ctV v).getD 0 0) (by omega) (Int32.lt_of_le_of_lt h (by decide))
  | succ q =>
    show ¬ nI ((ctV v).getD (q + 1) 0) ≤ nI ((ctV v).getD q 0)
    have h2 := ct_lt (v := v) (i := q) (j := q + 1) (by omega) hq
    exact nI_ge h2 (by omega)
theorem far {a c : Nat} (ha : a < 2 ^ 29) (hc : c < 2 ^ 29) (h1 : c ≤ a + 100) (h2 : a ≤ c + 100) : ¬ nI a - nI c < -100 ∧ ¬ (100 : Int32) < nI a - nI c := by
  have h3 : (nI a - nI c).toInt = (a : Int) - c := pk_sub_toInt (by omega) (by omega)
  have e1 : (-100 : Int32).toInt = -100 := rfl
  have e2 : (100 : Int32).toInt = 100 := rfl
  refine ⟨fun h => ?_, fun h => ?_⟩
  · have h4 := Int32.lt_iff_toInt_lt.mp h
    rw [h3, e1] at h4
    omega
  · have h4 := Int32.lt_iff_toInt_lt.mp h
    rw [h3, e2] at h4
    omega
section C74
variable {l : Launch} {D : va_G} {n0 : Nat} {ft : tv_ft} {n : Nat} {S : mS} {h : Nat}
set_option maxHeartbeats 4000000 in
theorem cL_holds_ok (hI : INV S h) : mMi l yL_holds wsL_holds rmL_holds D n0 ft [.ref (n0 + 0)] n S (fun r S' => QS S S' ∧ r = 1) := by
  have hG := hI.2.2.1
  generalize hv : vw S 1 = v at hG
  have hvT : ∀ T, QS S T → vw T 1 = v := fun T hT => hT.vw1.trans hv
  have hk6 := kV_6 (v := v)
  refine tv_enter (cc := cL_holds) (maxL := 12) (ret := (some .boolean)) (by decide) rfl (Nat.le_of_ble_eq_true rfl) ?_
  intro p e s m args below meth c X hrt hnm hargs
  refine tv_iconst (v := 0) X dL_holds_0 (by decide) ?_
  refine tv_istore_n X dL_holds_1 rfl ?_
  refine tv_iconst (v := 0) X dL_holds_2 (by decide) ?_
  refine tv_istore_n X dL_holds_3 rfl ?_
  refine tv_iconst (v := 0) X dL_holds_4 (by decide) ?_
  refine tv_istore_n X dL_holds_5 rfl ?_
  refine tv_iconst (v := -1) X dL_holds_6 (by decide) ?_
  refine tv_istore X dL_holds_7 rfl ?_
  refine tv_aload_n X dL_holds_9 rfl ?_
  refine mm_callVi (q := (RX9, TX9, 8)) X dL_holds_10 (fX9_contacts) (cwV 0 X.2.2.2.2.1 gL_holds_X9_contacts rfl rfl rfl (by decide +kernel) ⟨Nat.le_of_ble_eq_true rfl, Nat.le_of_ble_eq_true rfl⟩) rfl rfl gX9 rfl (Nat.le_of_ble_eq_true rfl) ⟨Nat.zero_le _, Nat.zero_le _⟩ (fun r S1 hq => ?_)
  obtain ⟨hQ1, hq2⟩ := hq
  rw [hv] at hq2
  rw [hq2]
  clear hq2
  have hv1 := hvT S1 hQ1
  refine tv_istore X dL_holds_13 rfl ?_
  refine tv_iload X dL_holds_15 rfl ?_
  refine tv_if_lt (tgt := 50) X dL_holds_17 (by decide) (fun h1 => ?_) (fun h1 => ?_)
  · exact absurd h1 (nI_pos (by omega))
  refine tv_iload X dL_holds_20 rfl ?_
  refine tv_bipush (v := 6) X dL_holds_22 (by decide) ?_
  refine tv_icmp_gt (tgt := 50) X dL_holds_24 (by decide) (fun h2 => ?_) (fun h2 => ?_)
  · exact absurd h2 (Int32.not_lt.mpr (nI_le (b := 6) hk6 (by decide)))
  refine tv_aload_n X dL_holds_27 rfl ?_
  refine mm_callVi (q := (RX9, TX9, 8)) X dL_holds_28 (fX9_downs) (cwV 0 X.2.2.2.2.1 gL_holds_X9_downs rfl rfl rfl (by decide +kernel) ⟨Nat.le_of_ble_eq_true rfl, Nat.le_of_ble_eq_true rfl⟩) rfl rfl gX9 rfl (Nat.le_of_ble_eq_true rfl) ⟨Nat.zero_le _, Nat.zero_le _⟩ (fun r S2 hq => ?_)
  obtain ⟨hq1, hq2⟩ := hq
  rw [hv1] at hq2
  rw [hq1, hq2]
  clear hq1 hq2
  refine tv_aload_n X dL_holds_31 rfl ?_
  refine mm_callVi (q := (RX9, TX9, 8)) X dL_holds_32 (fX9_ups) (cwV 0 X.2.2.2.2.1 gL_holds_X9_ups rfl rfl rfl (by decide +kernel) ⟨Nat.le_of_ble_eq_true rfl, Nat.le_of_ble_eq_true rfl⟩) rfl rfl gX9 rfl (Nat.le_of_ble_eq_true rfl) ⟨Nat.zero_le _, Nat.zero_le _⟩ (fun r S2 hq => ?_)
  obtain ⟨hq1, hq2⟩ := hq
  rw [hv1] at hq2
  rw [hq1, hq2]
  clear hq1 hq2
  refine tv_isub X dL_holds_35 ?_
  refine tv_aload_n X dL_holds_36 rfl ?_
  refine mm_callSi X dL_holds_37 (cL_downSet_ok (by rw [hv1]; exact hG)) (va_cwS 1 X.2.2.2.2.1 gL_holds_L_downSet rfl rfl rfl (by decide +kernel) ⟨Nat.le_of_ble_eq_true rfl, Nat.le_of_ble_eq_true rfl⟩) rfl rfl (Nat.le_of_ble_eq_true rfl) ⟨Nat.zero_le _, Nat.zero_le _⟩ (fun r S2 hq => ?_)
  obtain ⟨hq1, hq2⟩ := hq
  rw [hv1] at hq2
  rw [hq1, hq2]
  clear hq1 hq2
  refine mm_callSi X dL_holds_40 (cL_bits_ok _) (va_cwS 1 X.2.2.2.2.1 gL_holds_L_bits rfl rfl rfl (by decide +kernel) ⟨Nat.le_of_ble_eq_true rfl, Nat.le_of_ble_eq_true rfl⟩) rfl rfl (Nat.le_of_ble_eq_true rfl) ⟨Nat.zero_le _, Nat.zero_le _⟩ (fun r S2 hq => ?_)
  obtain ⟨hq1, hq2⟩ := hq
  rw [bt_dc] at hq2
  rw [hq1, hq2]
  clear hq1 hq2
  refine tv_icmp_ne (tgt := 50) X dL_holds_43 (by decide) (fun h3 => ?_) (fun h3 => ?_)
  · exact absurd (by rw [hG.2.2.2.2.2.2.2, Int32.add_comm, Int32.add_sub_cancel]) h3
  refine tv_iconst (v := 1) X dL_holds_46 (by decide) ?_
  refine tv_goto (tgt := 51) X dL_holds_47 (by decide) ?_
  refine tv_istore X dL_holds_51 rfl ?_
  refine tv_iconst (v := 0) X dL_holds_53 (by decide) ?_
  refine tv_istore X dL_holds_54 rfl ?_
  refine mm_cut (pc := 633) (fun T => QS S T) (fun _ => [(0, .ref (n0 + 0)), (1, .int (rgS v 3)), (2, .int (nI (cnN (ttV v) 48))), (3, .int (smV v 48)), (5, .int (nI (kV v))), (6, .int 1)]) (fun _ => []) (fun T => T) ?_ ?_
  · intro T hT
    have hvt := hvT T hT
    obtain ⟨nr, hr1, hr2, hr3⟩ := rg_n (v := v)
    have hrs : rgS v 3 = nI nr := by
      rw [← hr3]
      show 0 + rgV v 0 + rgV v 1 + rgV v 2 = _
      rw [Int32.zero_add]
    have htc := cnN_i (q := ttV v) 48
    rw [hrs]
    refine tv_iload X dL_holds_633 rfl ?_
    refine tv_if_eq (tgt := 700) X dL_holds_635 (by decide) (fun h4 => ?_) (fun h4 => ?_)
    · exact absurd h4 (by decide)
    refine tv_iload_n X dL_holds_638 rfl ?_
    refine tv_iload_n X dL_holds_639 rfl ?_
    refine tv_icmp_gt (tgt := 700) X dL_holds_640 (by decide) (fun h4 => ?_) (fun h4 => ?_)
    · exact absurd h4 (Int32.not_lt.mpr (nI_le hr1 (by omega)))
    refine mm_cut (pc := 664) (fun _ : Unit => True) (fun _ => [(0, .ref (n0 + 0)), (1, .int (nI nr)), (2, .int (nI (cnN (ttV v) 48))), (3, .int (smV v 48)), (5, .int (nI (kV v))), (6, .int 1)]) (fun _ => []) (fun _ => T) ?_ ?_
    rotate_left
    · intro hA
      refine tv_iload_n X dL_holds_643 rfl ?_
      by_cases hz : cnN (ttV v) 48 = 0
      · have hz2 := hr2.mp hz
        refine tv_if_ne (tgt := 651) X dL_holds_644 (by decide) (fun h5 => ?_) (fun h5 => ?_)
        · exact absurd (by rw [hz]; rfl) h5
        refine tv_iconst (v := 1) X dL_holds_647 (by decide) ?_
        refine tv_goto (tgt := 652) X dL_holds_648 (by decide) ?_
        refine tv_iload_n X dL_holds_652 rfl ?_
        refine tv_if_ne (tgt := 660) X dL_holds_653 (by decide) (fun h6 => ?_) (fun h6 => ?_)
        · exact absurd (by rw [hz2]; rfl) h6
        refine tv_iconst (v := 1) X dL_holds_656 (by decide) ?_
        refine tv_goto (tgt := 661) X dL_holds_657 (by decide) ?_
        refine tv_icmp_ne (tgt := 700) X dL_holds_661 (by decide) (fun h7 => ?_) (fun h7 => ?_)
        · exact absurd rfl h7
        exact hA () trivial
      · have hz2 : ¬ nr = 0 := fun h9 => hz (hr2.mpr h9)
        refine tv_if_ne (tgt := 651) X dL_holds_644 (by decide) (fun h5 => ?_) (fun h5 => ?_)
        rotate_left
        · exact absurd h5 (nI_ne0 (by omega) (by omega))
        refine tv_iconst (v := 0) X dL_holds_651 (by decide) ?_
        refine tv_iload_n X dL_holds_652 rfl ?_
        refine tv_if_ne (tgt := 660) X dL_holds_653 (by decide) (fun h6 => ?_) (fun h6 => ?_)
        rotate_left
        · exact absurd h6 (nI_ne0 (by omega) (by omega))
        refine tv_iconst (v := 0) X dL_holds_660 (by decide) ?_
        refine tv_icmp_ne (tgt := 700) X dL_holds_661 (by decide) (fun h7 => ?_) (fun h7 => ?_)
        · exact absurd rfl h7
        exact hA () trivial
    intro _ _
    refine tv_aload_n X dL_holds_664 rfl ?_
    refine tv_iload X dL_holds_665 rfl ?_
    refine tv_iconst (v := 0) X dL_holds_667 (by decide) ?_
    refine mm_callVi (q := (RX9, TX9, 8)) X dL_holds_668 (fX9_contact (j := kV v) (q := 0) (by omega) (by decide)) (cwV 2 X.2.2.2.2.1 gL_holds_X9_contact rfl rfl rfl (by decide +kernel) ⟨Nat.le_of_ble_eq_true rfl, Nat.le_of_ble_eq_true rfl⟩) rfl rfl gX9 rfl (Nat.le_of_ble_eq_true rfl) ⟨Nat.zero_le _, Nat.zero_le _⟩ (fun r T2 hq => ?_)
    obtain ⟨hQ2, hq2⟩ := hq
    rw [hvt, if_neg (Nat.lt_irrefl _)] at hq2
    rw [hq2]
    clear hq2
    have hQ3 := hT.trans hQ2
    have hv3 := hvT T2 hQ3
    refine tv_iconst (v := -1) X dL_holds_671 (by decide) ?_
    refine tv_icmp_ne (tgt := 700) X dL_holds_672 (by decide) (fun h5 => ?_) (fun h5 => ?_)
    · exact absurd rfl h5
    refine tv_aload_n X dL_holds_675 rfl ?_
    refine mm_callVf (q := (RX9, TX9, 8)) X dL_holds_676 (fX9_meanSignal) (cwV 0 X.2.2.2.2.1 gL_holds_X9_meanSignal rfl rfl rfl (by decide +kernel) ⟨Nat.le_of_ble_eq_true rfl, Nat.le_of_ble_eq_true rfl⟩) rfl rfl gX9 rfl (Nat.le_of_ble_eq_true rfl) ⟨Nat.zero_le _, Nat.zero_le _⟩ (fun r T3 hq => ?_)
    obtain ⟨hq1, hq2⟩ := hq
    rw [hv3] at hq2
    rw [hq1, hq2]
    clear hq1 hq2
    refine tv_iload_n X dL_holds_679 rfl ?_
    by_cases hz : cnN (ttV v) 48 = 0
    · have hm : mnV v = FP.fconst0 := by
        unfold mnV
        rw [hz]
        rfl
      refine tv_if_ne (tgt := 687) X dL_holds_680 (by decide) (fun h6 => ?_) (fun h6 => ?_)
      · exact absurd (by rw [hz]; rfl) h6
      refine tv_fconst0 X dL_holds_683 ?_
      refine tv_goto (tgt := 692) X dL_holds_684 (by decide) ?_
      rw [← hm]
      refine tg_fcmp X dL_holds_692 ?_
      rw [fcmp_0 mn_num]
      refine tv_if_ne (tgt := 700) X dL_holds_693 (by decide) (fun h7 => ?_) (fun h7 => ?_)
      · exact absurd rfl h7
      refine tv_iconst (v := 1) X dL_holds_696 (by decide) ?_
      refine tv_goto (tgt := 701) X dL_holds_697 (by decide) ?_
      exact tv_zret X hrt dL_holds_701 rfl ⟨_, rfl, hQ3, rfl⟩
    · have h0 : 0 < nI (cnN (ttV v) 48) := nI_lt (a := 0) (by omega) (by omega)
      have hm : FP.fdiv (FP.i2f (smV v 48)) (FP.i2f (nI (cnN (ttV v) 48))) = mnV v := by
        unfold mnV
        rw [if_pos h0]
      refine tv_if_ne (tgt := 687) X dL_holds_680 (by decide) (fun h6 => ?_) (fun h6 => ?_)
      rotate_left
      · exact absurd h6 (nI_ne0 (by omega) (by omega))
      refine tv_iload_n X dL_holds_687 rfl ?_
      refine tv_i2f X dL_holds_688 ?_
      refine tv_iload_n X dL_holds_689 rfl ?_
      refine tv_i2f X dL_holds_690 ?_
      refine tv_fdiv X dL_holds_691 (n32_of (fdiv_num (nI_ne0 (by omega) (by omega)))) ?_
      rw [hm]
      refine tg_fcmp X dL_holds_692 ?_
      rw [fcmp_0 mn_num]
      refine tv_if_ne (tgt := 700) X dL_holds_693 (by decide) (fun h7 => ?_) (fun h7 => ?_)
      · exact absurd rfl h7
      refine tv_iconst (v := 1) X dL_holds_696 (by decide) ?_
      refine tv_goto (tgt := 701) X dL_holds_697 (by decide) ?_
      exact tv_zret X hrt dL_holds_701 rfl ⟨_, rfl, hQ3, rfl⟩
  intro hend
  refine mm_cut (pc := 437) (fun T => QS S T) (fun _ => [(0, .ref (n0 + 0)), (1, .int (rgS v 3)), (2, .int (nI (cnN (ttV v) 48))), (3, .int (smV v 48)), (4, .int (lsP v 0)), (5, .int (nI (kV v))), (6, .int 1), (7, .int (nI 0))]) (fun _ => []) (fun T => T) ?_ ?_
  · intro T0 hT0
    refine mm_loop (ι := Nat × mS) (fun i => i.1 ≤ kV v ∧ QS S i.2) (fun i => kV v - i.1) (fun i => [(0, .ref (n0 + 0)), (1, .int (rgS v 3)), (2, .int (nI (cnN (ttV v) 48))), (3, .int (smV v 48)), (4, .int (lsP v i.1)), (5, .int (nI (kV v))), (6, .int 1), (7, .int (nI i.1))]) (fun i => i.2) (0, T0) ⟨Nat.zero_le _, hT0⟩ ?_
    rintro ⟨q, T⟩ ⟨hqk, hT⟩ ih
    dsimp only at hqk hT ih ⊢
    have hvt := hvT T hT
    refine tv_iload X dL_holds_437 rfl ?_
    refine tv_iload X dL_holds_439 rfl ?_
    refine tv_icmp_ge (tgt := 633) X dL_holds_441 (by decide) (fun h4 => ?_) (fun h4 => ?_)
    · exact tv_sl [0, 1, 2, 3, 5, 6] rfl (hend T hT)
    have hq : q < kV v := Nat.lt_of_not_le fun h9 => h4 (nI_le h9 (by omega))
    obtain ⟨c1, c2, c3⟩ := ct_at hq
    have hlast := lsP_lt hq
    generalize hp : (ctV v).getD q 0 = pk at c2 c3 hlast
    obtain ⟨p1, M, a, b, ⟨eM, hM0, hMs, hM3⟩, ⟨ea, ha7, ha1, ha2⟩, eb, hb5, hb1, hb2⟩ := pos_v hG c2 c3
    obtain ⟨es, hs256⟩ := sg_n hG c2
    obtain ⟨f1, f2⟩ := far (a := a) (c := 100 * (pk / 6)) (by omega) (by omega) ha1 ha2
    obtain ⟨g1, g2⟩ := far (a := b) (c := 100 * (pk % 6)) (by omega) (by omega) hb1 hb2
    refine tv_iload X dL_holds_444 rfl ?_
    refine tv_if_eq (tgt := 633) X dL_holds_446 (by decide) (fun h5 => ?_) (fun h5 => ?_)
    · exact absurd h5 (by decide)
    refine tv_aload_n X dL_holds_449 rfl ?_
    refine tv_iload X dL_holds_450 rfl ?_
    refine tv_iconst (v := 3) X dL_holds_452 (by decide) ?_
    refine mm_callVi (q := (RX9, TX9, 8)) X dL_holds_453 (fX9_contact (j := q) (q := 3) (by omega) (by decide)) (cwV 2 X.2.2.2.2.1 gL_holds_X9_contact rfl rfl rfl (by decide +kernel) ⟨Nat.le_of_ble_eq_true rfl, Nat.le_of_ble_eq_true rfl⟩) rfl rfl gX9 rfl (Nat.le_of_ble_eq_true rfl) ⟨Nat.zero_le _, Nat.zero_le _⟩ (fun r T2 hq2 => ?_)
    obtain ⟨hQ2, hq2⟩ := hq2
    rw [hvt, if_pos hq, prV_3, hp] at hq2
    rw [hq2]
    clear hq2
    have t2 := hT.trans hQ2
    refine tv_istore X dL_holds_456 rfl ?_
    refine tv_aload_n X dL_holds_458 rfl ?_
    refine tv_iload X dL_holds_459 rfl ?_
    refine tv_iconst (v := 0) X dL_holds_461 (by decide) ?_
    refine mm_callVi (q := (RX9, TX9, 8)) X dL_holds_462 (fX9_contact (j := q) (q := 0) (by omega) (by decide)) (cwV 2 X.2.2.2.2.1 gL_holds_X9_contact rfl rfl rfl (by decide +kernel) ⟨Nat.le_of_ble_eq_true rfl, Nat.le_of_ble_eq_true rfl⟩) rfl rfl gX9 rfl (Nat.le_of_ble_eq_true rfl) ⟨Nat.zero_le _, Nat.zero_le _⟩ (fun r T3 hq2 => ?_)
    obtain ⟨hQ3, hq2⟩ := hq2
    rw [hvT T2 t2, if_pos hq, prV_0, hp, ea] at hq2
    rw [hq2]
    clear hq2
    have t3 := t2.trans hQ3
    refine tv_bipush (v := 100) X dL_holds_465 (by decide) ?_
    refine tv_iload X dL_holds_467 rfl ?_
    refine tv_bipush (v := 6) X dL_holds_469 (by decide) ?_
    refine tv_idiv X dL_holds_471 (by decide) ?_
    rw [div6 c2]
    refine tv_imul X dL_holds_472 ?_
    rw [show (100 : Int32) * nI (pk / 6) = nI (100 * (pk / 6)) from pk_mul 100 _]
    refine tv_isub X dL_holds_473 ?_
    refine tv_istore X dL_holds_474 rfl ?_
    refine tv_aload_n X dL_holds_476 rfl ?_
    refine tv_iload X dL_holds_477 rfl ?_
    refine tv_iconst (v := 1) X dL_holds_479 (by decide) ?_
    refine mm_callVi (q := (RX9, TX9, 8)) X dL_holds_480 (fX9_contact (j := q) (q := 1) (by omega) (by decide)) (cwV 2 X.2.2.2.2.1 gL_holds_X9_contact rfl rfl rfl (by decide +kernel) ⟨Nat.le_of_ble_eq_true rfl, Nat.le_of_ble_eq_true rfl⟩) rfl rfl gX9 rfl (Nat.le_of_ble_eq_true rfl) ⟨Nat.zero_le _, Nat.zero_le _⟩ (fun r T4 hq2 => ?_)
    obtain ⟨hQ4, hq2⟩ := hq2
    rw [hvT T3 t3, if_pos hq, prV_1, hp, eb] at hq2
    rw [hq2]
    clear hq2
    have t4 := t3.trans hQ4
    refine tv_bipush (v := 100) X dL_holds_483 (by decide) ?_
    refine tv_iload X dL_holds_485 rfl ?_
    refine tv_bipush (v := 6) X dL_holds_487 (by decide) ?_
    refine tv_irem X dL_holds_489 (by decide) ?_
    rw [rem6 c2]
    refine tv_imul X dL_holds_490 ?_
    rw [show (100 : Int32) * nI (pk % 6) = nI (100 * (pk % 6)) from pk_mul 100 _]
    refine tv_isub X dL_holds_491 ?_
    refine tv_istore X dL_holds_492 rfl ?_
    refine tv_iload X dL_holds_494 rfl ?_
    refine tv_iload X dL_holds_496 rfl ?_
    refine tv_icmp_le (tgt := 620) X dL_holds_498 (by decide) (fun h6 => ?_) (fun h6 => ?_)
    · exact absurd h6 hlast
    refine tv_aload_n X dL_holds_501 rfl ?_
    refine tv_iload X dL_holds_502 rfl ?_
    refine tv_bipush (v := 6) X dL_holds_504 (by decide) ?_
    refine tv_idiv X dL_holds_506 (by decide) ?_
    refine tv_iload X dL_holds_507 rfl ?_
    refine tv_bipush (v := 6) X dL_holds_509 (by decide) ?_
    refine tv_irem X dL_holds_511 (by decide) ?_
    rw [rem6 c2, div6 c2]
    refine mm_callVi (q := (RX9, TX9, 8)) X dL_holds_512 (fX9_regionKind (i := pk / 6) (j := pk % 6) (by omega) (by omega)) (cwV 2 X.2.2.2.2.1 gL_holds_X9_regionKind rfl rfl rfl (by decide +kernel) ⟨Nat.le_of_ble_eq_true rfl, Nat.le_of_ble_eq_true rfl⟩) rfl rfl gX9 rfl (Nat.le_of_ble_eq_true rfl) ⟨Nat.zero_le _, Nat.zero_le _⟩ (fun r T5 hq2 => ?_)
    obtain ⟨hQ5, hq2⟩ := hq2
    rw [hvT T4 t4, show 6 * (pk / 6) + pk % 6 = pk by omega, p1] at hq2
    rw [hq2]
    clear hq2
    have t5 := t4.trans hQ5
    refine tv_if_ne (tgt := 620) X dL_holds_515 (by decide) (fun h7 => ?_) (fun h7 => ?_)
    · exact absurd rfl h7
    refine tv_aload_n X dL_holds_518 rfl ?_
    refine tv_iload X dL_holds_519 rfl ?_
    refine tv_iconst (v := 2) X dL_holds_521 (by decide) ?_
    refine mm_callVi (q := (RX9, TX9, 8)) X dL_holds_522 (fX9_contact (j := q) (q := 2) (by omega) (by decide)) (cwV 2 X.2.2.2.2.1 gL_holds_X9_contact rfl rfl rfl (by decide +kernel) ⟨Nat.le_of_ble_eq_true rfl, Nat.le_of_ble_eq_true rfl⟩) rfl rfl gX9 rfl (Nat.le_of_ble_eq_true rfl) ⟨Nat.zero_le _, Nat.zero_le _⟩ (fun r T6 hq2 => ?_)
    obtain ⟨hQ6, hq2⟩ := hq2
    rw [hvT T5 t5, if_pos hq, prV_2, hp, eM] at hq2
    rw [hq2]
    clear hq2
    have t6 := t5.trans hQ6
    refine tv_aload_n X dL_holds_525 rfl ?_
    refine tv_iload X dL_holds_526 rfl ?_
    refine tv_bipush (v := 6) X dL_holds_528 (by decide) ?_
    refine tv_idiv X dL_holds_530 (by decide) ?_
    refine tv_iload X dL_holds_531 rfl ?_
    refine tv_bipush (v := 6) X dL_holds_533 (by decide) ?_
    refine tv_irem X dL_holds_535 (by decide) ?_
    rw [rem6 c2, div6 c2]
    refine mm_callVi (q := (RX9, TX9, 8)) X dL_holds_536 (fX9_signal (i := pk / 6) (j := pk % 6) (by omega) (by omega)) (cwV 2 X.2.2.2.2.1 gL_holds_X9_signal rfl rfl rfl (by decide +kernel) ⟨Nat.le_of_ble_eq_true rfl, Nat.le_of_ble_eq_true rfl⟩) rfl rfl gX9 rfl (Nat.le_of_ble_eq_true rfl) ⟨Nat.zero_le _, Nat.zero_le _⟩ (fun r T7 hq2 => ?_)
    obtain ⟨hq1, hq2⟩ := hq2
    rw [hvT T6 t6, show 6 * (pk / 6) + pk % 6 = pk by omega, es] at hq2
    rw [hq1, hq2]
    clear hq1 hq2
    refine tv_icmp_lt (tgt := 620) X dL_holds_539 (by decide) (fun h8 => ?_) (fun h8 => ?_)
    · exact absurd h8 (nI_nlt hMs (by omega))
    refine tv_iload X dL_holds_542 rfl ?_
    refine tv_bipush (v := -100) X dL_holds_544 (by decide) ?_
    refine tv_icmp_lt (tgt := 620) X dL_holds_546 (by decide) (fun h8 => ?_) (fun h8 => ?_)
    · exact absurd h8 f1
    refine tv_iload X dL_holds_549 rfl ?_
    refine tv_bipush (v := 100) X dL_holds_551 (by decide) ?_
    refine tv_icmp_gt (tgt := 620) X dL_holds_553 (by decide) (fun h8 => ?_) (fun h8 => ?_)
    · exact absurd h8 f2
    refine tv_iload X dL_holds_556 rfl ?_
    refine tv_bipush (v := -100) X dL_holds_558 (by decide) ?_
    refine tv_icmp_lt (tgt := 620) X dL_holds_560 (by decide) (fun h8 => ?_) (fun h8 => ?_)
    · exact absurd h8 g1
    refine tv_iload X dL_holds_563 rfl ?_
    refine tv_bipush (v := 100) X dL_holds_565 (by decide) ?_
    refine tv_icmp_gt (tgt := 620) X dL_holds_567 (by decide) (fun h8 => ?_) (fun h8 => ?_)
    · exact absurd h8 g2
    refine tv_aload_n X dL_holds_570 rfl ?_
    refine tv_iload X dL_holds_571 rfl ?_
    refine tv_iconst (v := 0) X dL_holds_573 (by decide) ?_
    refine mm_callVi (q := (RX9, TX9, 8)) X dL_holds_574 (fX9_contact (j := q) (q := 0) (by omega) (by decide)) (cwV 2 X.2.2.2.2.1 gL_holds_X9_contact rfl rfl rfl (by decide +kernel) ⟨Nat.le_of_ble_eq_true rfl, Nat.le_of_ble_eq_true rfl⟩) rfl rfl gX9 rfl (Nat.le_of_ble_eq_true rfl) ⟨Nat.zero_le _, Nat.zero_le _⟩ (fun r T8 hq2 => ?_)
    obtain ⟨hQ8, hq2⟩ := hq2
    rw [hvT T6 t6, if_pos hq, prV_0, hp, ea] at hq2
    rw [hq2]
    clear hq2
    have t8 := t6.trans hQ8
    refine tv_if_lt (tgt := 620) X dL_holds_577 (by decide) (fun h8 => ?_) (fun h8 => ?_)
    · exact absurd h8 (nI_pos (by omega))
    refine tv_aload_n X dL_holds_580 rfl ?_
    refine tv_iload X dL_holds_581 rfl ?_
    refine tv_iconst (v := 0) X dL_holds_583 (by decide) ?_
    refine mm_callVi (q := (RX9, TX9, 8)) X dL_holds_584 (fX9_contact (j := q) (q := 0) (by omega) (by decide)) (cwV 2 X.2.2.2.2.1 gL_holds_X9_contact rfl rfl rfl (by decide +kernel) ⟨Nat.le_of_ble_eq_true rfl, Nat.le_of_ble_eq_true rfl⟩) rfl rfl gX9 rfl (Nat.le_of_ble_eq_true rfl) ⟨Nat.zero_le _, Nat.zero_le _⟩ (fun r T9 hq2 => ?_)
    obtain ⟨hQ9, hq2⟩ := hq2
    rw [hvT T8 t8, if_pos hq, prV_0, hp, ea] at hq2
    rw [hq2]
    clear hq2
    have t9 := t8.trans hQ9
    refine tv_sipush (v := 700) X dL_holds_587 (by decide) ?_
    refine tv_icmp_gt (tgt := 620) X dL_holds_590 (by decide) (fun h8 => ?_) (fun h8 => ?_)
    · exact absurd h8 (nI_nlt (a := 700) (by omega) (by omega))
    refine tv_aload_n X dL_holds_593 rfl ?_
    refine tv_iload X dL_holds_594 rfl ?_
    refine tv_iconst (v := 1) X dL_holds_596 (by decide) ?_
    refine mm_callVi (q := (RX9, TX9, 8)) X dL_holds_597 (fX9_contact (j := q) (q := 1) (by omega) (by decide)) (cwV 2 X.2.2.2.2.1 gL_holds_X9_contact rfl rfl rfl (by decide +kernel) ⟨Nat.le_of_ble_eq_true rfl, Nat.le_of_ble_eq_true rfl⟩) rfl rfl gX9 rfl (Nat.le_of_ble_eq_true rfl) ⟨Nat.zero_le _, Nat.zero_le _⟩ (fun r Ta hq2 => ?_)
    obtain ⟨hQa, hq2⟩ := hq2
    rw [hvT T9 t9, if_pos hq, prV_1, hp, eb] at hq2
    rw [hq2]
    clear hq2
    have ta := t9.trans hQa
    refine tv_if_lt (tgt := 620) X dL_holds_600 (by decide) (fun h8 => ?_) (fun h8 => ?_)
    · exact absurd h8 (nI_pos (by omega))
    refine tv_aload_n X dL_holds_603 rfl ?_
    refine tv_iload X dL_holds_604 rfl ?_
    refine tv_iconst (v := 1) X dL_holds_606 (by decide) ?_
    refine mm_callVi (q := (RX9, TX9, 8)) X dL_holds_607 (fX9_contact (j := q) (q := 1) (by omega) (by decide)) (cwV 2 X.2.2.2.2.1 gL_holds_X9_contact rfl rfl rfl (by decide +kernel) ⟨Nat.le_of_ble_eq_true rfl, Nat.le_of_ble_eq_true rfl⟩) rfl rfl gX9 rfl (Nat.le_of_ble_eq_true rfl) ⟨Nat.zero_le _, Nat.zero_le _⟩ (fun r Tb hq2 => ?_)
    obtain ⟨hQb, hq2⟩ := hq2
    rw [hvT Ta ta, if_pos hq, prV_1, hp, eb] at hq2
    rw [hq2]
    clear hq2
    have tb := ta.trans hQb
    refine tv_sipush (v := 500) X dL_holds_610 (by decide) ?_
    refine tv_icmp_gt (tgt := 620) X dL_holds_613 (by decide) (fun h8 => ?_) (fun h8 => ?_)
    · exact absurd h8 (nI_nlt (a := 500) (by omega) (by omega))
    refine tv_iconst (v := 1) X dL_holds_616 (by decide) ?_
    refine tv_goto (tgt := 621) X dL_holds_617 (by decide) ?_
    refine tv_istore X dL_holds_621 rfl ?_
    refine tv_iload X dL_holds_623 rfl ?_
    refine tv_istore X dL_holds_625 rfl ?_
    refine tv_iinc X dL_holds_627 rfl (nI_1 q) rfl ?_
    refine tv_goto (tgt := 437) X dL_holds_630 (by decide) ?_
    have hl : lsP v (q + 1) = nI pk := by rw [← hp]; rfl
    have hih := ih (q + 1, Tb) ⟨by omega, tb⟩ (by dsimp only; omega)
    dsimp only at hih
    rw [hl] at hih
    exact tv_sl [0, 1, 2, 3, 4, 5, 6, 7] rfl hih
  intro hC
  refine mm_cut (pc := 413) (fun T => QS S T) (fun _ => [(0, .ref (n0 + 0)), (1, .int (rgS v 0)), (2, .int (nI (cnN (ttV v) 48))), (3, .int (smV v 48)), (4, .int (lsP v 0)), (5, .int (nI (kV v))), (6, .int 1), (7, .int (nI 0))]) (fun _ => []) (fun T => T) ?_ ?_
  · intro T0 hT0
    refine mm_loop (ι := Nat × mS) (fun i => i.1 ≤ 3 ∧ QS S i.2) (fun i => 3 - i.1) (fun i => [(0, .ref (n0 + 0)), (1, .int (rgS v i.1)), (2, .int (nI (cnN (ttV v) 48))), (3, .int (smV v 48)), (4, .int (lsP v 0)), (5, .int (nI (kV v))), (6, .int 1), (7, .int (nI i.1))]) (fun i => i.2) (0, T0) ⟨Nat.zero_le _, hT0⟩ ?_
    rintro ⟨q, T⟩ ⟨hq3, hT⟩ ih
    dsimp only at hq3 hT ih ⊢
    refine tv_iload X dL_holds_413 rfl ?_
    refine tv_iconst (v := 3) X dL_holds_415 (by decide) ?_
    refine tv_icmp_ge (tgt := 434) X dL_holds_416 (by decide) (fun h4 => ?_) (fun h4 => ?_)
    · have e3 : q = 3 := by
        have : ¬ q < 3 := fun h9 => nI_ge (b := 3) h9 (by decide) h4
        omega
      subst e3
      refine tv_iconst (v := 0) X dL_holds_434 (by decide) ?_
      refine tv_istore X dL_holds_435 rfl ?_
      exact hC T hT
    have hq : q < 3 := Nat.lt_of_not_le fun h9 => h4 (nI_le (a := 3) h9 (by omega))
    refine tv_iload_n X dL_holds_419 rfl ?_
    refine tv_aload_n X dL_holds_420 rfl ?_
    refine tv_iload X dL_holds_421 rfl ?_
    refine mm_callVi (q := (RX9, TX9, 8)) X dL_holds_423 (fX9_regions hq) (cwV 1 X.2.2.2.2.1 gL_holds_X9_regions rfl rfl rfl (by decide +kernel) ⟨Nat.le_of_ble_eq_true rfl, Nat.le_of_ble_eq_true rfl⟩) rfl rfl gX9 rfl (Nat.le_of_ble_eq_true rfl) ⟨Nat.zero_le _, Nat.zero_le _⟩ (fun r T2 hq2 => ?_)
    obtain ⟨hQ2, hq2⟩ := hq2
    rw [hvT T hT] at hq2
    rw [hq2]
    clear hq2
    refine tv_iadd X dL_holds_426 ?_
    refine tv_istore_n X dL_holds_427 rfl ?_
    refine tv_iinc X dL_holds_428 rfl (nI_1 q) rfl ?_
    refine tv_goto (tgt := 413) X dL_holds_431 (by decide) ?_
    exact ih (q + 1, T2) ⟨by omega, hT.trans hQ2⟩ (by dsimp only; omega)
  intro hR
  refine mm_loop (ι := Nat × mS) (fun i => i.1 ≤ 48 ∧ QS S i.2) (fun i => 48 - i.1) (fun i => [(0, .ref (n0 + 0)), (1, .int 0), (2, .int (nI (cnN (ttV v) i.1))), (3, .int (smV v i.1)), (4, .int (-1)), (5, .int (nI (kV v))), (6, .int 1), (7, .int (nI i.1))]) (fun i => i.2) (0, S1) ⟨Nat.zero_le _, hQ1⟩ ?_
  rintro ⟨q, T⟩ ⟨hq48, hT⟩ ih
  dsimp only at hq48 hT ih ⊢
  have hvt := hvT T hT
  refine tv_iload X dL_holds_56 rfl ?_
  refine tv_bipush (v := 48) X dL_holds_58 (by decide) ?_
  refine tv_icmp_ge (tgt := 410) X dL_holds_60 (by decide) (fun h4 => ?_) (fun h4 => ?_)
  · have e48 : q = 48 := by
      have : ¬ q < 48 := fun h9 => nI_ge (b := 48) h9 (by decide) h4
      omega
    rw [e48]
    refine tv_iconst (v := 0) X dL_holds_410 (by decide) ?_
    refine tv_istore X dL_holds_411 rfl ?_
    exact hR T hT
  have hq : q < 48 := Nat.lt_of_not_le fun h9 => h4 (nI_le (a := 48) h9 (by omega))
  have e6 : 6 * (q / 6) + q % 6 = q := by omega
  refine tv_aload_n X dL_holds_63 rfl ?_
  refine tv_iload X dL_holds_64 rfl ?_
  refine tv_bipush (v := 6) X dL_holds_66 (by decide) ?_
  refine tv_idiv X dL_holds_68 (by decide) ?_
  refine tv_iload X dL_holds_69 rfl ?_
  refine tv_bipush (v := 6) X dL_holds_71 (by decide) ?_
  refine tv_irem X dL_holds_73 (by decide) ?_
  rw [rem6 hq, div6 hq]
  refine mm_callVi (q := (RX9, TX9, 8)) X dL_holds_74 (fX9_signal (i := q / 6) (j := q % 6) (by omega) (by omega)) (cwV 2 X.2.2.2.2.1 gL_holds_X9_signal rfl rfl rfl (by decide +kernel) ⟨Nat.le_of_ble_eq_true rfl, Nat.le_of_ble_eq_true rfl⟩) rfl rfl gX9 rfl (Nat.le_of_ble_eq_true rfl) ⟨Nat.zero_le _, Nat.zero_le _⟩ (fun r T2 hq2 => ?_)
  obtain ⟨hq1, hq2⟩ := hq2
  rw [hvt, e6] at hq2
  rw [hq1, hq2]
  clear hq1 hq2
  refine tv_istore X dL_holds_77 rfl ?_
  refine tv_aload_n X dL_holds_79 rfl ?_
  refine tv_iload X dL_holds_80 rfl ?_
  refine tv_bipush (v := 6) X dL_holds_82 (by decide) ?_
  refine tv_idiv X dL_holds_84 (by decide) ?_
  refine tv_iload X dL_holds_85 rfl ?_
  refine tv_bipush (v := 6) X dL_holds_87 (by decide) ?_
  refine tv_irem X dL_holds_89 (by decide) ?_
  rw [rem6 hq, div6 hq]
  refine mm_callVi (q := (RX9, TX9, 8)) X dL_holds_90 (fX9_regionSize (i := q / 6) (j := q % 6) (by omega) (by omega)) (cwV 2 X.2.2.2.2.1 gL_holds_X9_regionSize rfl rfl rfl (by decide +kernel) ⟨Nat.le_of_ble_eq_true rfl, Nat.le_of_ble_eq_true rfl⟩) rfl rfl gX9 rfl (Nat.le_of_ble_eq_true rfl) ⟨Nat.zero_le _, Nat.zero_le _⟩ (fun r T2 hq2 => ?_)
  obtain ⟨hQ2, hq2⟩ := hq2
  rw [hvt, e6] at hq2
  rw [hq2]
  clear hq2
  have t2 := hT.trans hQ2
  refine tv_istore X dL_holds_93 rfl ?_
  refine tv_aload_n X dL_holds_95 rfl ?_
  refine tv_iload X dL_holds_96 rfl ?_
  refine tv_bipush (v := 6) X dL_holds_98 (by decide) ?_
  refine tv_idiv X dL_holds_100 (by decide) ?_
  refine tv_iload X dL_holds_101 rfl ?_
  refine tv_bipush (v := 6) X dL_holds_103 (by decide) ?_
  refine tv_irem X dL_holds_105 (by decide) ?_
  rw [rem6 hq, div6 hq]
  refine mm_callVi (q := (RX9, TX9, 8)) X dL_holds_106 (fX9_regionKind (i := q / 6) (j := q % 6) (by omega) (by omega)) (cwV 2 X.2.2.2.2.1 gL_holds_X9_regionKind rfl rfl rfl (by decide +kernel) ⟨Nat.le_of_ble_eq_true rfl, Nat.le_of_ble_eq_true rfl⟩) rfl rfl gX9 rfl (Nat.le_of_ble_eq_true rfl) ⟨Nat.zero_le _, Nat.zero_le _⟩ (fun r T3 hq2 => ?_)
  obtain ⟨hQ3, hq2⟩ := hq2
  rw [hvT T2 t2, e6] at hq2
  rw [hq2]
  clear hq2
  have t3 := t2.trans hQ3
  refine tv_istore X dL_holds_109 rfl ?_
  refine tv_iload X dL_holds_111 rfl ?_
  refine tv_aload_n X dL_holds_113 rfl ?_
  refine tv_iconst (v := 0) X dL_holds_114 (by decide) ?_
  refine mm_callVi (q := (RX9, TX9, 8)) X dL_holds_115 (fX9_setting (q := 0) (by decide)) (cwV 1 X.2.2.2.2.1 gL_holds_X9_setting rfl rfl rfl (by decide +kernel) ⟨Nat.le_of_ble_eq_true rfl, Nat.le_of_ble_eq_true rfl⟩) rfl rfl gX9 rfl (Nat.le_of_ble_eq_true rfl) ⟨Nat.zero_le _, Nat.zero_le _⟩ (fun r T4 hq2 => ?_)
  obtain ⟨hq1, hq2⟩ := hq2
  rw [hvT T3 t3, show 96 + 0 = 96 from rfl] at hq2
  rw [hq1, hq2]
  clear hq1 hq2
  have hcn : cnN (ttV v) (q + 1) = if ttV v q then cnN (ttV v) q + 1 else cnN (ttV v) q := rfl
  have hsm : smV v (q + 1) = if v 96 ≤ sgV v q then smV v q + sgV v q else smV v q := by rw [smV]
  cases ht : ttV v q with
  | false =>
    obtain ⟨z1, z2⟩ := reg_f ht
    rw [z1, z2]
    rw [ht, if_neg (by decide)] at hcn
    rw [if_neg (Int32.not_le.mpr (tt_iff'.mp ht))] at hsm
    refine tv_icmp_lt (tgt := 125) X dL_holds_118 (by decide) (fun h5 => ?_) (fun h5 => ?_)
    rotate_left
    · exact absurd (tt_iff'.mp ht) h5
    refine tv_iconst (v := 0) X dL_holds_125 (by decide) ?_
    refine tv_istore X dL_holds_126 rfl ?_
    refine tv_iload X dL_holds_128 rfl ?_
    refine tv_if_eq (tgt := 202) X dL_holds_130 (by decide) (fun h6 => ?_) (fun h6 => ?_)
    · exact absurd h6 (by decide)
    refine tv_iload X dL_holds_133 rfl ?_
    refine tv_if_le (tgt := 142) X dL_holds_135 (by decide) (fun h6 => ?_) (fun h6 => ?_)
    rotate_left
    · exact absurd (show (0 : Int32) ≤ 0 by decide) h6
    refine tv_iconst (v := 0) X dL_holds_142 (by decide) ?_
    refine tv_iload X dL_holds_143 rfl ?_
    refine tv_icmp_ne (tgt := 202) X dL_holds_145 (by decide) (fun h7 => ?_) (fun h7 => ?_)
    · exact absurd rfl h7
    refine tv_iload X dL_holds_148 rfl ?_
    refine tv_iconst (v := -1) X dL_holds_150 (by decide) ?_
    refine tv_icmp_eq (tgt := 158) X dL_holds_151 (by decide) (fun h7 => ?_) (fun h7 => ?_)
    rotate_left
    · exact absurd rfl h7
    refine tv_iconst (v := 0) X dL_holds_158 (by decide) ?_
    refine tv_iload X dL_holds_159 rfl ?_
    refine tv_icmp_ne (tgt := 202) X dL_holds_161 (by decide) (fun h7 => ?_) (fun h7 => ?_)
    · exact absurd rfl h7
    refine tv_iload X dL_holds_164 rfl ?_
    refine tv_if_eq (tgt := 198) X dL_holds_166 (by decide) (fun h7 => ?_) (fun h7 => ?_)
    rotate_left
    · exact absurd rfl h7
    refine tv_iconst (v := 1) X dL_holds_198 (by decide) ?_
    refine tv_goto (tgt := 203) X dL_holds_199 (by decide) ?_
    refine tv_istore X dL_holds_203 rfl ?_
    refine tv_iload X dL_holds_205 rfl ?_
    refine tv_if_eq (tgt := 289) X dL_holds_207 (by decide) (fun h7 => ?_) (fun h7 => ?_)
    · exact absurd h7 (by decide)
    refine tv_iload X dL_holds_210 rfl ?_
    refine tv_if_eq (tgt := 285) X dL_holds_212 (by decide) (fun h7 => ?_) (fun h7 => ?_)
    rotate_left
    · exact absurd rfl h7
    refine tv_iconst (v := 1) X dL_holds_285 (by decide) ?_
    refine tv_goto (tgt := 290) X dL_holds_286 (by decide) ?_
    refine tv_istore X dL_holds_290 rfl ?_
    refine tv_iload X dL_holds_292 rfl ?_
    refine tv_if_eq (tgt := 374) X dL_holds_294 (by decide) (fun h7 => ?_) (fun h7 => ?_)
    · exact absurd h7 (by decide)
    refine tv_iload X dL_holds_297 rfl ?_
    refine tv_if_eq (tgt := 370) X dL_holds_299 (by decide) (fun h7 => ?_) (fun h7 => ?_)
    rotate_left
    · exact absurd rfl h7
    refine tv_iconst (v := 1) X dL_holds_370 (by decide) ?_
    refine tv_goto (tgt := 375) X dL_holds_371 (by decide) ?_
    refine tv_istore X dL_holds_375 rfl ?_
    refine tv_iload_n X dL_holds_377 rfl ?_
    refine tv_iload X dL_holds_378 rfl ?_
    refine tv_if_eq (tgt := 387) X dL_holds_380 (by decide) (fun h7 => ?_) (fun h7 => ?_)
    rotate_left
    · exact absurd rfl h7
    refine tv_iconst (v := 0) X dL_holds_387 (by decide) ?_
    refine tv_iadd X dL_holds_388 ?_
    rw [Int32.add_zero]
    refine tv_istore_n X dL_holds_389 rfl ?_
    refine tv_iload_n X dL_holds_390 rfl ?_
    refine tv_iload X dL_holds_391 rfl ?_
    refine tv_if_eq (tgt := 401) X dL_holds_393 (by decide) (fun h7 => ?_) (fun h7 => ?_)
    rotate_left
    · exact absurd rfl h7
    refine tv_iconst (v := 0) X dL_holds_401 (by decide) ?_
    refine tv_iadd X dL_holds_402 ?_
    rw [Int32.add_zero]
    refine tv_istore_n X dL_holds_403 rfl ?_
    refine tv_iinc X dL_holds_404 rfl (nI_1 q) rfl ?_
    refine tv_goto (tgt := 56) X dL_holds_407 (by decide) ?_
    have hih := ih (q + 1, T3) ⟨by omega, t3⟩ (by dsimp only; omega)
    dsimp only at hih
    rw [hcn, hsm] at hih
    exact tv_sl [0, 1, 2, 3, 4, 5, 6, 7] rfl hih
  | true =>
    obtain ⟨m, e1, hm0, hm48, hk3, hk1⟩ := reg_t hq ht
    rw [ht, if_pos rfl] at hcn
    rw [if_pos (tt_iff.mp ht)] at hsm
    rw [e1]
    refine tv_icmp_lt (tgt := 125) X dL_holds_118 (by decide) (fun h5 => ?_) (fun h5 => ?_)
    · exact absurd h5 (Int32.not_lt.mpr (tt_iff.mp ht))
    refine tv_iconst (v := 1) X dL_holds_121 (by decide) ?_
    refine tv_goto (tgt := 126) X dL_holds_122 (by decide) ?_
    refine tv_istore X dL_holds_126 rfl ?_
    refine tv_iload X dL_holds_128 rfl ?_
    refine tv_if_eq (tgt := 202) X dL_holds_130 (by decide) (fun h6 => ?_) (fun h6 => ?_)
    · exact absurd h6 (by decide)
    refine tv_iload X dL_holds_133 rfl ?_
    refine tv_if_le (tgt := 142) X dL_holds_135 (by decide) (fun h6 => ?_) (fun h6 => ?_)
    · exact absurd h6 (nI_nle hm0 (by omega))
    refine tv_iconst (v := 1) X dL_holds_138 (by decide) ?_
    refine tv_goto (tgt := 143) X dL_holds_139 (by decide) ?_
    refine tv_iload X dL_holds_143 rfl ?_
    refine tv_icmp_ne (tgt := 202) X dL_holds_145 (by decide) (fun h7 => ?_) (fun h7 => ?_)
    · exact absurd rfl h7
    refine tv_iload X dL_holds_148 rfl ?_
    refine tv_iconst (v := -1) X dL_holds_150 (by decide) ?_
    refine tv_icmp_eq (tgt := 158) X dL_holds_151 (by decide) (fun h7 => ?_) (fun h7 => ?_)
    · rcases hk3 with e | e | e <;> rw [e] at h7 <;> exact absurd h7 (by decide)
    refine tv_iconst (v := 1) X dL_holds_154 (by decide) ?_
    refine tv_goto (tgt := 159) X dL_holds_155 (by decide) ?_
    refine tv_iload X dL_holds_159 rfl ?_
    refine tv_icmp_ne (tgt := 202) X dL_holds_161 (by decide) (fun h8 => ?_) (fun h8 => ?_)
    · exact absurd rfl h8
    refine tv_iload X dL_holds_164 rfl ?_
    refine tv_if_eq (tgt := 198) X dL_holds_166 (by decide) (fun h8 => ?_) (fun h8 => ?_)
    · exact absurd h8 (by decide)
    refine tv_iload X dL_holds_169 rfl ?_
    refine tv_aload_n X dL_holds_171 rfl ?_
    refine tv_iconst (v := 1) X dL_holds_172 (by decide) ?_
    refine mm_callVi (q := (RX9, TX9, 8)) X dL_holds_173 (fX9_setting (q := 1) (by decide)) (cwV 1 X.2.2.2.2.1 gL_holds_X9_setting rfl rfl rfl (by decide +kernel) ⟨Nat.le_of_ble_eq_true rfl, Nat.le_of_ble_eq_true rfl⟩) rfl rfl gX9 rfl (Nat.le_of_ble_eq_true rfl) ⟨Nat.zero_le _, Nat.zero_le _⟩ (fun r T4 hq2 => ?_)
    obtain ⟨hq1, hq2⟩ := hq2
    rw [hvT T3 t3, show 96 + 1 = 97 from rfl] at hq2
    rw [hq1, hq2]
    clear hq1 hq2
    refine mm_cut (pc := 203) (fun _ : Unit => True) (fun _ => [(0, .ref (n0 + 0)), (1, .int 0), (2, .int (nI (cnN (ttV v) q))), (3, .int (smV v q)), (4, .int (-1)), (5, .int (nI (kV v))), (6, .int 1), (7, .int (nI q)), (8, .int (sgV v q)), (9, .int (nI m)), (10, .int (rkV v q)), (11, .int 1)]) (fun _ => [.int 1]) (fun _ => T3) ?_ ?_
    rotate_left
    · intro hA
      by_cases hr : rkV v q = 1
      · have hlt := hk1.mp hr
        refine tv_icmp_le (tgt := 183) X dL_holds_176 (by decide) (fun h8 => ?_) (fun h8 => ?_)
        · exact absurd h8 (Int32.not_le.mpr hlt)
        refine tv_iconst (v := 1) X dL_holds_179 (by decide) ?_
        refine tv_goto (tgt := 184) X dL_holds_180 (by decide) ?_
        refine tv_iload X dL_holds_184 rfl ?_
        refine tv_iconst (v := 1) X dL_holds_186 (by decide) ?_
        refine tv_icmp_ne (tgt := 194) X dL_holds_187 (by decide) (fun h9 => ?_) (fun h9 => ?_)
        · exact absurd hr h9
        refine tv_iconst (v := 1) X dL_holds_190 (by decide) ?_
        refine tv_goto (tgt := 195) X dL_holds_191 (by decide) ?_
        refine tv_icmp_ne (tgt := 202) X dL_holds_195 (by decide) (fun h9 => ?_) (fun h9 => ?_)
        · exact absurd rfl h9
        refine tv_iconst (v := 1) X dL_holds_198 (by decide) ?_
        refine tv_goto (tgt := 203) X dL_holds_199 (by decide) ?_
        exact hA () trivial
      · have hlt : nI m ≤ v 97 := Int32.not_lt.mp fun h9 => hr (hk1.mpr h9)
        refine tv_icmp_le (tgt := 183) X dL_holds_176 (by decide) (fun h8 => ?_) (fun h8 => ?_)
        rotate_left
        · exact absurd hlt h8
        refine tv_iconst (v := 0) X dL_holds_183 (by decide) ?_
        refine tv_iload X dL_holds_184 rfl ?_
        refine tv_iconst (v := 1) X dL_holds_186 (by decide) ?_
        refine tv_icmp_ne (tgt := 194) X dL_holds_187 (by decide) (fun h9 => ?_) (fun h9 => ?_)
        rotate_left
        · exact absurd h9 hr
        refine tv_iconst (v := 0) X dL_holds_194 (by decide) ?_
        refine tv_icmp_ne (tgt := 202) X dL_holds_195 (by decide) (fun h9 => ?_) (fun h9 => ?_)
        · exact absurd rfl h9
        refine tv_iconst (v := 1) X dL_holds_198 (by decide) ?_
        refine tv_goto (tgt := 203) X dL_holds_199 (by decide) ?_
        exact hA () trivial
    intro _ _
    refine mm_cut (pc := 290) (fun U => QS S U) (fun _ => [(0, .ref (n0 + 0)), (1, .int 0), (2, .int (nI (cnN (ttV v) q))), (3, .int (smV v q)), (4, .int (-1)), (5, .int (nI (kV v))), (6, .int 1), (7, .int (nI q)), (8, .int (sgV v q)), (9, .int (nI m)), (10, .int (rkV v q)), (11, .int 1)]) (fun _ => [.int 1]) (fun U => U) ?_ ?_
    rotate_left
    · intro hA
      refine tv_istore X dL_holds_203 rfl ?_
      refine tv_iload X dL_holds_205 rfl ?_
      refine tv_if_eq (tgt := 289) X dL_holds_207 (by decide) (fun h8 => ?_) (fun h8 => ?_)
      · exact absurd h8 (by decide)
      refine tv_iload X dL_holds_210 rfl ?_
      refine tv_if_eq (tgt := 285) X dL_holds_212 (by decide) (fun h8 => ?_) (fun h8 => ?_)
      · exact absurd h8 (by decide)
      refine tv_iload X dL_holds_215 rfl ?_
      refine tv_bipush (v := 6) X dL_holds_217 (by decide) ?_
      refine tv_irem X dL_holds_219 (by decide) ?_
      rw [rem6 hq]
      refine tv_iconst (v := 5) X dL_holds_220 (by decide) ?_
      refine tv_icmp_eq (tgt := 285) X dL_holds_221 (by decide) (fun h8 => ?_) (fun h8 => ?_)
      · refine tv_iconst (v := 1) X dL_holds_285 (by decide) ?_
        refine tv_goto (tgt := 290) X dL_holds_286 (by decide) ?_
        exact hA T3 t3
      have h5' : q % 6 < 5 := by
        have h9 : ¬ q % 6 = 5 := fun h9 => h8 (by rw [h9]; rfl)
        omega
      have hadj : adj q (q + 1) := adj_r hq h5'
      have e7 : 6 * (q / 6) + (q % 6 + 1) = q + 1 := by omega
      refine tv_aload_n X dL_holds_224 rfl ?_
      refine tv_iload X dL_holds_225 rfl ?_
      refine tv_bipush (v := 6) X dL_holds_227 (by decide) ?_
      refine tv_idiv X dL_holds_229 (by decide) ?_
      refine tv_iload X dL_holds_230 rfl ?_
      refine tv_bipush (v := 6) X dL_holds_232 (by decide) ?_
      refine tv_irem X dL_holds_234 (by decide) ?_
      refine tv_iconst (v := 1) X dL_holds_235 (by decide) ?_
      refine tv_iadd X dL_holds_236 ?_
      rw [rem6 hq, div6 hq, nI_1]
      refine mm_callVi (q := (RX9, TX9, 8)) X dL_holds_237 (fX9_regionSize (i := q / 6) (j := q % 6 + 1) (by omega) (by omega)) (cwV 2 X.2.2.2.2.1 gL_holds_X9_regionSize rfl rfl rfl (by decide +kernel) ⟨Nat.le_of_ble_eq_true rfl, Nat.le_of_ble_eq_true rfl⟩) rfl rfl gX9 rfl (Nat.le_of_ble_eq_true rfl) ⟨Nat.zero_le _, Nat.zero_le _⟩ (fun r U hq2 => ?_)
      obtain ⟨hQu, hq2⟩ := hq2
      rw [hvT T3 t3, e7] at hq2
      rw [hq2]
      clear hq2
      have tu := t3.trans hQu
      cases ht2 : ttV v (q + 1) with
      | false =>
        rw [(reg_f ht2).1]
        refine tv_if_eq (tgt := 285) X dL_holds_240 (by decide) (fun h9 => ?_) (fun h9 => ?_)
        · refine tv_iconst (v := 1) X dL_holds_285 (by decide) ?_
          refine tv_goto (tgt := 290) X dL_holds_286 (by decide) ?_
          exact hA U tu
        · exact absurd rfl h9
      | true =>
        obtain ⟨r1, r2⟩ := reg_a hadj ht ht2
        rw [r1, e1]
        refine tv_if_eq (tgt := 285) X dL_holds_240 (by decide) (fun h9 => ?_) (fun h9 => ?_)
        · exact absurd h9 (nI_ne0 hm0 (by omega))
        refine tv_aload_n X dL_holds_243 rfl ?_
        refine tv_iload X dL_holds_244 rfl ?_
        refine tv_bipush (v := 6) X dL_holds_246 (by decide) ?_
        refine tv_idiv X dL_holds_248 (by decide) ?_
        refine tv_iload X dL_holds_249 rfl ?_
        refine tv_bipush (v := 6) X dL_holds_251 (by decide) ?_
        refine tv_irem X dL_holds_253 (by decide) ?_
        refine tv_iconst (v := 1) X dL_holds_254 (by decide) ?_
        refine tv_iadd X dL_holds_255 ?_
        rw [rem6 hq, div6 hq, nI_1]
        refine mm_callVi (q := (RX9, TX9, 8)) X dL_holds_256 (fX9_regionSize (i := q / 6) (j := q % 6 + 1) (by omega) (by omega)) (cwV 2 X.2.2.2.2.1 gL_holds_X9_regionSize rfl rfl rfl (by decide +kernel) ⟨Nat.le_of_ble_eq_true rfl, Nat.le_of_ble_eq_true rfl⟩) rfl rfl gX9 rfl (Nat.le_of_ble_eq_true rfl) ⟨Nat.zero_le _, Nat.zero_le _⟩ (fun r U2 hq2 => ?_)
        obtain ⟨hQu2, hq2⟩ := hq2
        rw [hvT U tu, e7, r1, e1] at hq2
        rw [hq2]
        clear hq2
        have tu2 := tu.trans hQu2
        refine tv_iload X dL_holds_259 rfl ?_
        refine tv_icmp_ne (tgt := 289) X dL_holds_261 (by decide) (fun hx => ?_) (fun hx => ?_)
        · exact absurd rfl hx
        refine tv_aload_n X dL_holds_264 rfl ?_
        refine tv_iload X dL_holds_265 rfl ?_
        refine tv_bipush (v := 6) X dL_holds_267 (by decide) ?_
        refine tv_idiv X dL_holds_269 (by decide) ?_
        refine tv_iload X dL_holds_270 rfl ?_
        refine tv_bipush (v := 6) X dL_holds_272 (by decide) ?_
        refine tv_irem X dL_holds_274 (by decide) ?_
        refine tv_iconst (v := 1) X dL_holds_275 (by decide) ?_
        refine tv_iadd X dL_holds_276 ?_
        rw [rem6 hq, div6 hq, nI_1]
        refine mm_callVi (q := (RX9, TX9, 8)) X dL_holds_277 (fX9_regionKind (i := q / 6) (j := q % 6 + 1) (by omega) (by omega)) (cwV 2 X.2.2.2.2.1 gL_holds_X9_regionKind rfl rfl rfl (by decide +kernel) ⟨Nat.le_of_ble_eq_true rfl, Nat.le_of_ble_eq_true rfl⟩) rfl rfl gX9 rfl (Nat.le_of_ble_eq_true rfl) ⟨Nat.zero_le _, Nat.zero_le _⟩ (fun r U3 hq2 => ?_)
        obtain ⟨hQu3, hq2⟩ := hq2
        rw [hvT U2 tu2, e7, r2] at hq2
        rw [hq2]
        clear hq2
        refine tv_iload X dL_holds_280 rfl ?_
        refine tv_icmp_ne (tgt := 289) X dL_holds_282 (by decide) (fun hx => ?_) (fun hx => ?_)
        · exact absurd rfl hx
        refine tv_iconst (v := 1) X dL_holds_285 (by decide) ?_
        refine tv_goto (tgt := 290) X dL_holds_286 (by decide) ?_
        exact hA U3 (tu2.trans hQu3)
    intro U hU
    refine mm_cut (pc := 375) (fun U => QS S U) (fun _ => [(0, .ref (n0 + 0)), (1, .int 0), (2, .int (nI (cnN (ttV v) q))), (3, .int (smV v q)), (4, .int (-1)), (5, .int (nI (kV v))), (6, .int 1), (7, .int (nI q)), (8, .int (sgV v q)), (9, .int (nI m)), (10, .int (rkV v q)), (11, .int 1)]) (fun _ => [.int 1]) (fun U => U) ?_ ?_
    rotate_left
    · intro hA
      refine tv_istore X dL_holds_290 rfl ?_
      refine tv_iload X dL_holds_292 rfl ?_
      refine tv_if_eq (tgt := 374) X dL_holds_294 (by decide) (fun h8 => ?_) (fun h8 => ?_)
      · exact absurd h8 (by decide)
      refine tv_iload X dL_holds_297 rfl ?_
      refine tv_if_eq (tgt := 370) X dL_holds_299 (by decide) (fun h8 => ?_) (fun h8 => ?_)
      · exact absurd h8 (by decide)
      refine tv_iload X dL_holds_302 rfl ?_
      refine tv_bipush (v := 41) X dL_holds_304 (by decide) ?_
      refine tv_icmp_gt (tgt := 370) X dL_holds_306 (by decide) (fun h8 => ?_) (fun h8 => ?_)
      · refine tv_iconst (v := 1) X dL_holds_370 (by decide) ?_
        refine tv_goto (tgt := 375) X dL_holds_371 (by decide) ?_
        exact hA U hU
      have h42 : q < 42 := by
        have := (nI_leI (a := q) (b := 41) (by omega) (by decide)).mp (Int32.not_lt.mp h8)
        omega
      have hadj : adj q (q + 6) := adj_d h42
      have e7 : 6 * (q / 6 + 1) + q % 6 = q + 6 := by omega
      refine tv_aload_n X dL_holds_309 rfl ?_
      refine tv_iload X dL_holds_310 rfl ?_
      refine tv_bipush (v := 6) X dL_holds_312 (by decide) ?_
      refine tv_idiv X dL_holds_314 (by decide) ?_
      refine tv_iconst (v := 1) X dL_holds_315 (by decide) ?_
      refine tv_iadd X dL_holds_316 ?_
      refine tv_iload X dL_holds_317 rfl ?_
      refine tv_bipush (v := 6) X dL_holds_319 (by decide) ?_
      refine tv_irem X dL_holds_321 (by decide) ?_
      rw [rem6 hq, div6 hq, nI_1]
      refine mm_callVi (q := (RX9, TX9, 8)) X dL_holds_322 (fX9_regionSize (i := q / 6 + 1) (j := q % 6) (by omega) (by omega)) (cwV 2 X.2.2.2.2.1 gL_holds_X9_regionSize rfl rfl rfl (by decide +kernel) ⟨Nat.le_of_ble_eq_true rfl, Nat.le_of_ble_eq_true rfl⟩) rfl rfl gX9 rfl (Nat.le_of_ble_eq_true rfl) ⟨Nat.zero_le _, Nat.zero_le _⟩ (fun r U1 hq2 => ?_)
      obtain ⟨hQu, hq2⟩ := hq2
      rw [hvT U hU, e7] at hq2
      rw [hq2]
      clear hq2
      have tu := hU.trans hQu
      cases ht2 : ttV v (q + 6) with
      | false =>
        rw [(reg_f ht2).1]
        refine tv_if_eq (tgt := 370) X dL_holds_325 (by decide) (fun h9 => ?_) (fun h9 => ?_)
        · refine tv_iconst (v := 1) X dL_holds_370 (by decide) ?_
          refine tv_goto (tgt := 375) X dL_holds_371 (by decide) ?_
          exact hA U1 tu
        · exact absurd rfl h9
      | true =>
        obtain ⟨r1, r2⟩ := reg_a hadj ht ht2
        rw [r1, e1]
        refine tv_if_eq (tgt := 370) X dL_holds_325 (by decide) (fun h9 => ?_) (fun h9 => ?_)
        · exact absurd h9 (nI_ne0 hm0 (by omega))
        refine tv_aload_n X dL_holds_328 rfl ?_
        refine tv_iload X dL_holds_329 rfl ?_
        refine tv_bipush (v := 6) X dL_holds_331 (by decide) ?_
        refine tv_idiv X dL_holds_333 (by decide) ?_
        refine tv_iconst (v := 1) X dL_holds_334 (by decide) ?_
        refine tv_iadd X dL_holds_335 ?_
        refine tv_iload X dL_holds_336 rfl ?_
        refine tv_bipush (v := 6) X dL_holds_338 (by decide) ?_
        refine tv_irem X dL_holds_340 (by decide) ?_
        rw [rem6 hq, div6 hq, nI_1]
        refine mm_callVi (q := (RX9, TX9, 8)) X dL_holds_341 (fX9_regionSize (i := q / 6 + 1) (j := q % 6) (by omega) (by omega)) (cwV 2 X.2.2.2.2.1 gL_holds_X9_regionSize rfl rfl rfl (by decide +kernel) ⟨Nat.le_of_ble_eq_true rfl, Nat.le_of_ble_eq_true rfl⟩) rfl rfl gX9 rfl (Nat.le_of_ble_eq_true rfl) ⟨Nat.zero_le _, Nat.zero_le _⟩ (fun r U2 hq2 => ?_)
        obtain ⟨hQu2, hq2⟩ := hq2
        rw [hvT U1 tu, e7, r1, e1] at hq2
        rw [hq2]
        clear hq2
        have tu2 := tu.trans hQu2
        refine tv_iload X dL_holds_344 rfl ?_
        refine tv_icmp_ne (tgt := 374) X dL_holds_346 (by decide) (fun hx => ?_) (fun hx => ?_)
        · exact absurd rfl hx
        refine tv_aload_n X dL_holds_349 rfl ?_
        refine tv_iload X dL_holds_350 rfl ?_
        refine tv_bipush (v := 6) X dL_holds_352 (by decide) ?_
        refine tv_idiv X dL_holds_354 (by decide) ?_
        refine tv_iconst (v := 1) X dL_holds_355 (by decide) ?_
        refine tv_iadd X dL_holds_356 ?_
        refine tv_iload X dL_holds_357 rfl ?_
        refine tv_bipush (v := 6) X dL_holds_359 (by decide) ?_
        refine tv_irem X dL_holds_361 (by decide) ?_
        rw [rem6 hq, div6 hq, nI_1]
        refine mm_callVi (q := (RX9, TX9, 8)) X dL_holds_362 (fX9_regionKind (i := q / 6 + 1) (j := q % 6) (by omega) (by omega)) (cwV 2 X.2.2.2.2.1 gL_holds_X9_regionKind rfl rfl rfl (by decide +kernel) ⟨Nat.le_of_ble_eq_true rfl, Nat.le_of_ble_eq_true rfl⟩) rfl rfl gX9 rfl (Nat.le_of_ble_eq_true rfl) ⟨Nat.zero_le _, Nat.zero_le _⟩ (fun r U3 hq2 => ?_)
        obtain ⟨hQu3, hq2⟩ := hq2
        rw [hvT U2 tu2, e7, r2] at hq2
        rw [hq2]
        clear hq2
        refine tv_iload X dL_holds_365 rfl ?_
        refine tv_icmp_ne (tgt := 374) X dL_holds_367 (by decide) (fun hx => ?_) (fun hx => ?_)
        · exact absurd rfl hx
        refine tv_iconst (v := 1) X dL_holds_370 (by decide) ?_
        refine tv_goto (tgt := 375) X dL_holds_371 (by decide) ?_
        exact hA U3 (tu2.trans hQu3)
    intro U2 hU2
    refine tv_istore X dL_holds_375 rfl ?_
    refine tv_iload_n X dL_holds_377 rfl ?_
    refine tv_iload X dL_holds_378 rfl ?_
    refine tv_if_eq (tgt := 387) X dL_holds_380 (by decide) (fun h8 => ?_) (fun h8 => ?_)
    · exact absurd h8 (by decide)
    refine tv_iconst (v := 1) X dL_holds_383 (by decide) ?_
    refine tv_goto (tgt := 388) X dL_holds_384 (by decide) ?_
    refine tv_iadd X dL_holds_388 ?_
    rw [nI_1]
    refine tv_istore_n X dL_holds_389 rfl ?_
    refine tv_iload_n X dL_holds_390 rfl ?_
    refine tv_iload X dL_holds_391 rfl ?_
    refine tv_if_eq (tgt := 401) X dL_holds_393 (by decide) (fun h8 => ?_) (fun h8 => ?_)
    · exact absurd h8 (by decide)
    refine tv_iload X dL_holds_396 rfl ?_
    refine tv_goto (tgt := 402) X dL_holds_398 (by decide) ?_
    refine tv_iadd X dL_holds_402 ?_
    refine tv_istore_n X dL_holds_403 rfl ?_
    refine tv_iinc X dL_holds_404 rfl (nI_1 q) rfl ?_
    refine tv_goto (tgt := 56) X dL_holds_407 (by decide) ?_
    have hih := ih (q + 1, U2) ⟨by omega, hU2⟩ (by dsimp only; omega)
    dsimp only at hih
    rw [hcn, hsm] at hih
    exact tv_sl [0, 1, 2, 3, 4, 5, 6, 7] rfl hih
end C74

