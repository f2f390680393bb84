def pkMok (S : mS) (c k : Nat) : Bool := !(inI (apI c k) 1 2) || (decide (sgR S k - sgR S c < 0) || (decide (sgR S k - sgR S c = 0) && decide (c < k)))
def pkM (S : mS) (c : Nat) : Nat → Bool
  | 0 => !(decide (S.1 133 c = -1)) && decide (kndM S (S.1 133 c).toNatClampNeg = 0)
  | i + 1 => pkM S c i && pkMok S c i
theorem pkM_false {S : mS} {c i : Nat} (h : pkM S c i = false) : ∀ d, pkM S c (i + d) = false
  | 0 => h
  | d + 1 => by
    show (pkM S c (i + d) && pkMok S c (i + d)) = false
    rw [pkM_false h d]; rfl
def lcs (S : mS) (c k : Nat) : Int32 := if apI c k < 3 then sgR S k else 0
def lcM (S : mS) (c : Nat) : Nat → Int32
  | 0 => 0
  | i + 1 => lcM S c i + lcs S c i
def lcD (S : mS) (c : Nat) : Nat → Int32
  | 0 => 0
  | i + 1 => lcD S c i + lcs S c i * nI (i / 6)
def lcO (S : mS) (c : Nat) : Nat → Int32
  | 0 => 0
  | i + 1 => lcO S c i + lcs S c i * nI (i % 6)
/-- the contact of the peak c laid behind the others -/
def layS (S : mS) (c k : Nat) : mS := mupd (mupd (mupd (mupd (mupd S 136 k (100 * lcD S c 48 / lcM S c 48)) 137 k (100 * lcO S c 48 / lcM S c 48)) 138 k (lcM S c 48)) 139 k (nI c)) 130 17 (nI (k + 1))
/-- the least of the first ones, of several the last -/
def goN (ms : Nat → Int32) : Nat → Nat
  | 0 => 0
  | i + 1 => if ms i ≤ ms (goN ms i) then i else goN ms i
theorem goN_lt {ms : Nat → Int32} : ∀ {i : Nat}, 0 < i → goN ms i < i
  | 0, h => absurd h (Nat.not_lt_zero _)
  | i + 1, _ => by
    unfold goN
    split
    · exact Nat.lt_succ_self i
    · by_cases h0 : i = 0
      · subst h0; exact Nat.zero_lt_succ _
      · exact Nat.lt_succ_of_lt (goN_lt (Nat.pos_of_ne_zero h0))
def dpR (f : Nat → Int32) (g i : Nat) : Nat → Int32 := fun j => if g ≤ j ∧ j < i then f (j + 1) else f j
theorem dpR_s {f : Nat → Int32} {g i : Nat} (h : g ≤ i) : upd (dpR f g i) i (dpR f g i (i + 1)) = dpR f g (i + 1) := by
  have e : dpR f g i (i + 1) = f (i + 1) := if_neg (by omega)
  rw [e]
  funext j
  unfold upd dpR
  by_cases e1 : j = i
  · have e2 : g ≤ j ∧ j < i + 1 := by omega
    rw [if_pos e1, if_pos e2, e1]
  · rw [if_neg e1]
    by_cases e2 : g ≤ j ∧ j < i
    · have e3 : g ≤ j ∧ j < i + 1 := by omega
      rw [if_pos e2, if_pos e3]
    · have e3 : ¬ (g ≤ j ∧ j < i + 1) := by omega
      rw [if_neg e2, if_neg e3]
theorem dpR_0 {f : Nat → Int32} {g : Nat} : dpR f g g = f := funext fun j => if_neg (by omega)
/-- one contact dropped out of k + 1 -/
def drpT (S : mS) (g k i : Nat) : mS := mset (mset (mset (mset (mupd S 130 17 (nI k)) 136 (dpR (S.1 136) g i)) 137 (dpR (S.1 137) g i)) 138 (dpR (S.1 138) g i)) 139 (dpR (S.1 139) g i)
def drpS (S : mS) (k : Nat) : mS := drpT S (goN (S.1 138) (k + 1)) k k
section C29
variable {l : Launch} {D : va_G} {n0 : Nat} {ft : Nat × Nat × Nat} {n : Nat} {S : mS} {b : Nat}
theorem iX10_isPeak_X10 : ∀ w ∈ wsX100, w ∈ wsX10_isPeak := by decide +kernel
theorem kX10_isPeak_16 : Cond.fieldLink RX10 16 (TX10 10).1 (TX10 10).2.1 (TX10 10).2.2.1 ∈ wsX10_isPeak := by decide +kernel
theorem cX10_isPeak_ok (hl : lblR (S.1 133)) {c1 : Nat} (hc : c1 < 48) : mMi l yX10_isPeak wsX10_isPeak rmX10_isPeak D n0 ft [.ref (n0 + 130), .int (nI c1)] n S (fun r S' => S' = S ∧ r = bz (pkM S c1 48)) := by
  refine tv_enter (cc := cX10_isPeak) (maxL := 5) (ret := (some .boolean)) (by decide) rfl (Nat.le_of_ble_eq_true rfl) ?_
  intro p e s m args below meth c X hrt hnm hargs
  refine mm_cut (pc := 28) (fun v : Int32 => v = bz (pkM S c1 0)) (fun _ => [(0, .ref (n0 + 130)), (1, .int (nI c1))]) (fun v => [.int v]) (fun _ => S) ?_ ?_
  · intro v hv
    subst hv
    refine tv_istore_n X dX10_isPeak_28 rfl ?_
    refine tv_iconst (v := 0) X dX10_isPeak_29 (by decide) ?_
    refine tv_istore_n X dX10_isPeak_30 rfl ?_
    refine mm_loop (ι := Nat) (fun i => i ≤ 48) (fun i => 48 - i) (fun i => [(0, .ref (n0 + 130)), (1, .int (nI c1)), (2, .int (bz (pkM S c1 i))), (3, .int (nI i))]) (fun _ => S) 0 (Nat.zero_le _) ?_
    intro i hi ih
    refine tv_iload_n X dX10_isPeak_31 rfl ?_
    refine tv_bipush (v := 48) X dX10_isPeak_32 (by decide) ?_
    refine tv_icmp_ge (tgt := 94) X dX10_isPeak_34 (by decide) (fun h1 => ?_) (fun h1 => ?_)
    · have hik : i = 48 := Nat.le_antisymm hi (Nat.le_of_not_lt fun h => nI_ge (a := i) (b := 48) h (by decide) h1)
      subst hik
      refine tv_iload_n X dX10_isPeak_94 rfl ?_
      exact tv_zret X hrt dX10_isPeak_95 (bz_n _) ⟨_, rfl, rfl, rfl⟩
    have hik : i < 48 := Nat.lt_of_not_le fun h => h1 (nI_le (a := 48) h (by omega))
    refine tv_iload_n X dX10_isPeak_37 rfl ?_
    have hnx : pkM S c1 (i + 1) = (pkM S c1 i && pkMok S c1 i) := rfl
    have ih1 := ih (i + 1) hik (by omega)
    rw [hnx] at ih1
    cases hp : pkM S c1 i with
    | false =>
      refine tv_if_eq (tgt := 94) X dX10_isPeak_38 (by decide) (fun h2 => ?_) (fun h2 => ?_)
      rotate_left
      · exact absurd rfl h2
      refine tv_iload_n X dX10_isPeak_94 rfl ?_
      have h9 := pkM_false hp (48 - i)
      rw [show i + (48 - i) = 48 by omega] at h9
      exact tv_zret X hrt dX10_isPeak_95 (bz_n _) ⟨_, rfl, rfl, by rw [h9]⟩
    | true =>
      rw [hp, Bool.true_and] at ih1
      refine tv_if_eq (tgt := 94) X dX10_isPeak_38 (by decide) (fun h2 => ?_) (fun h2 => ?_)
      · exact absurd h2 (by decide)
      refine tv_aload_n X dX10_isPeak_41 rfl ?_
      refine tv_iload_n X dX10_isPeak_42 rfl ?_
      refine mm_callVi (q := (RX10, TX10, 20)) X dX10_isPeak_43 (cX10_signalOf_ok hik) (cwV 1 X.2.2.2.2.1 gX10_isPeak_X10_signalOf rfl rfl rfl (by decide +kernel) ⟨Nat.le_of_ble_eq_true rfl, Nat.le_of_ble_eq_true rfl⟩) rfl rfl gX10 rfl (Nat.le_of_ble_eq_true rfl) ⟨Nat.zero_le _, Nat.zero_le _⟩ (fun r S1 hq => ?_)
      obtain ⟨hq1, hq2⟩ := hq
      rw [hq1, hq2]
      clear hq1 hq2
      refine tv_aload_n X dX10_isPeak_46 rfl ?_
      refine tv_iload_n X dX10_isPeak_47 rfl ?_
      refine mm_callVi (q := (RX10, TX10, 20)) X dX10_isPeak_48 (cX10_signalOf_ok hc) (cwV 1 X.2.2.2.2.1 gX10_isPeak_X10_signalOf rfl rfl rfl (by decide +kernel) ⟨Nat.le_of_ble_eq_true rfl, Nat.le_of_ble_eq_true rfl⟩) rfl rfl gX10 rfl (Nat.le_of_ble_eq_true rfl) ⟨Nat.zero_le _, Nat.zero_le _⟩ (fun r S1 hq => ?_)
      obtain ⟨hq1, hq2⟩ := hq
      rw [hq1, hq2]
      clear hq1 hq2
      refine tv_isub X dX10_isPeak_51 ?_
      refine tv_istore X dX10_isPeak_52 rfl ?_
      refine tv_iload_n X dX10_isPeak_54 rfl ?_
      refine tv_iload_n X dX10_isPeak_55 rfl ?_
      refine mm_callSi X dX10_isPeak_56 (cX10_apart_ok hc hik) (va_cwS 2 X.2.2.2.2.1 gX10_isPeak_X10_apart rfl rfl rfl (by decide +kernel) ⟨Nat.le_of_ble_eq_true rfl, Nat.le_of_ble_eq_true rfl⟩) rfl rfl (Nat.le_of_ble_eq_true rfl) ⟨Nat.zero_le _, Nat.zero_le _⟩ (fun r S1 hq => ?_)
      obtain ⟨hq1, hq2⟩ := hq
      rw [hq1, hq2]
      clear hq1 hq2
      refine tv_iconst (v := 1) X dX10_isPeak_59 (by decide) ?_
      refine tv_iconst (v := 2) X dX10_isPeak_60 (by decide) ?_
      refine mm_callSi X dX10_isPeak_61 (cX10_in_ok _ _ _) (va_cwS 3 X.2.2.2.2.1 gX10_isPeak_X10_in rfl rfl rfl (by decide +kernel) ⟨Nat.le_of_ble_eq_true rfl, Nat.le_of_ble_eq_true rfl⟩) rfl rfl (Nat.le_of_ble_eq_true rfl) ⟨Nat.zero_le _, Nat.zero_le _⟩ (fun r S1 hq => ?_)
      obtain ⟨hq1, hq2⟩ := hq
      rw [hq1, hq2]
      clear hq1 hq2
      refine mm_cut (pc := 87) (fun v : Int32 => v = bz (pkMok S c1 i)) (fun _ => [(0, .ref (n0 + 130)), (1, .int (nI c1)), (2, .int 1), (3, .int (nI i)), (4, .int (sgR S i - sgR S c1))]) (fun v => [.int v]) (fun _ => S) ?_ ?_
      · intro v hv
        subst hv
        refine tv_istore_n X dX10_isPeak_87 rfl ?_
        refine tv_iinc X dX10_isPeak_88 rfl (nI_1 i) rfl ?_
        refine tv_goto (tgt := 31) X dX10_isPeak_91 (by decide) ?_
        exact tv_sl [0, 1, 2, 3] rfl ih1
      intro hcut
      cases hin : inI (apI c1 i) 1 2 with
      | false =>
        refine tv_if_eq (tgt := 82) X dX10_isPeak_64 (by decide) (fun h3 => ?_) (fun h3 => ?_)
        rotate_left
        · exact absurd rfl h3
        refine tv_iconst (v := 1) X dX10_isPeak_82 (by decide) ?_
        refine tv_goto (tgt := 87) X dX10_isPeak_83 (by decide) ?_
        exact tv_sl [0, 1, 2, 3, 4] rfl (hcut 1 (by unfold pkMok; rw [hin]; rfl))
      | true =>
        refine tv_if_eq (tgt := 82) X dX10_isPeak_64 (by decide) (fun h3 => ?_) (fun h3 => ?_)
        · exact absurd h3 (by decide)
        refine tv_iload X dX10_isPeak_67 rfl ?_
        refine tv_if_lt (tgt := 82) X dX10_isPeak_69 (by decide) (fun h4 => ?_) (fun h4 => ?_)
        · refine tv_iconst (v := 1) X dX10_isPeak_82 (by decide) ?_
          refine tv_goto (tgt := 87) X dX10_isPeak_83 (by decide) ?_
          exact tv_sl [0, 1, 2, 3, 4] rfl (hcut 1 (by unfold pkMok; rw [hin, decide_eq_true h4]; rfl))
        refine tv_iload X dX10_isPeak_72 rfl ?_
        refine tv_if_ne (tgt := 86) X dX10_isPeak_74 (by decide) (fun h5 => ?_) (fun h5 => ?_)
        · refine tv_iconst (v := 0) X dX10_isPeak_86 (by decide) ?_
          exact tv_sl [0, 1, 2, 3, 4] rfl (hcut 0 (by unfold pkMok; rw [hin, decide_eq_false h4, decide_eq_false h5]; rfl))
        refine tv_iload_n X dX10_isPeak_77 rfl ?_
        refine tv_iload_n X dX10_isPeak_78 rfl ?_
        refine tv_icmp_le (tgt := 86) X dX10_isPeak_79 (by decide) (fun h6 => ?_) (fun h6 => ?_)
        · refine tv_iconst (v := 0) X dX10_isPeak_86 (by decide) ?_
          have h7 : ¬ c1 < i := fun h => nI_ge h (by omega) h6
          exact tv_sl [0, 1, 2, 3, 4] rfl (hcut 0 (by unfold pkMok; rw [hin, decide_eq_false h4, decide_eq_false h7, Bool.and_false]; rfl))
        · refine tv_iconst (v := 1) X dX10_isPeak_82 (by decide) ?_
          refine tv_goto (tgt := 87) X dX10_isPeak_83 (by decide) ?_
          have h7 : c1 < i := Nat.lt_of_not_le fun h => h6 (nI_le h (by omega))
          exact tv_sl [0, 1, 2, 3, 4] rfl (hcut 1 (by unfold pkMok; rw [hin, decide_eq_false h4, decide_eq_true h5, decide_eq_true h7]; rfl))
  intro hcut
  refine tv_aload_n X dX10_isPeak_0 rfl ?_
  refine mm_getf X dX10_isPeak_1 gX10 iX10_isPeak_X10 rfl 10 (by decide) kX10_isPeak_16 rfl ?_
  refine tv_iload_n X dX10_isPeak_4 rfl ?_
  refine mm_iald X dX10_isPeak_5 g133 c1 rfl hc (by decide) ?_
  refine tv_iconst (v := -1) X dX10_isPeak_6 (by decide) ?_
  rcases hl c1 hc with hm | ⟨f, hf, he⟩
  · refine tv_icmp_eq (tgt := 27) X dX10_isPeak_7 (by decide) (fun h1 => ?_) (fun h1 => ?_)
    rotate_left
    · exact absurd hm h1
    refine tv_iconst (v := 0) X dX10_isPeak_27 (by decide) ?_
    exact hcut 0 (by show (0 : Int32) = bz (!(decide (S.1 133 c1 = -1)) && _); rw [decide_eq_true hm]; rfl)
  · have hne : ¬ S.1 133 c1 = -1 := by rw [he]; intro h; exact nI_pos (n := f) (by omega) (by rw [h]; decide)
    refine tv_icmp_eq (tgt := 27) X dX10_isPeak_7 (by decide) (fun h1 => ?_) (fun h1 => ?_)
    · exact absurd h1 hne
    refine tv_aload_n X dX10_isPeak_10 rfl ?_
    refine tv_aload_n X dX10_isPeak_11 rfl ?_
    refine mm_getf X dX10_isPeak_12 gX10 iX10_isPeak_X10 rfl 10 (by decide) kX10_isPeak_16 rfl ?_
    refine tv_iload_n X dX10_isPeak_15 rfl ?_
    refine mm_iald X dX10_isPeak_16 g133 c1 rfl hc (by decide) ?_
    rw [he]
    refine mm_callVi (q := (RX10, TX10, 20)) X dX10_isPeak_17 (cX10_kindOf_ok hf) (cwV 1 X.2.2.2.2.1 gX10_isPeak_X10_kindOf rfl rfl rfl (by decide +kernel) ⟨Nat.le_of_ble_eq_true rfl, Nat.le_of_ble_eq_true rfl⟩) rfl rfl gX10 rfl (Nat.le_of_ble_eq_true rfl) ⟨Nat.zero_le _, Nat.zero_le _⟩ (fun r S1 hq => ?_)
    obtain ⟨hq1, hq2⟩ := hq
    rw [hq1, hq2]
    clear hq1 hq2
    have hcl : (S.1 133 c1).toNatClampNeg = f := by rw [he, nI_clamp (by omega)]
    refine tv_if_ne (tgt := 27) X dX10_isPeak_20 (by decide) (fun h2 => ?_) (fun h2 => ?_)
    · refine tv_iconst (v := 0) X dX10_isPeak_27 (by decide) ?_
      exact hcut 0 (by show (0 : Int32) = bz (_ && decide (kndM S (S.1 133 c1).toNatClampNeg = 0)); rw [hcl, decide_eq_false h2, Bool.and_false]; rfl)
    · refine tv_iconst (v := 1) X dX10_isPeak_23 (by decide) ?_
      refine tv_goto (tgt := 28) X dX10_isPeak_24 (by decide) ?_
      exact hcut 1 (by show (1 : Int32) = bz (!(decide (S.1 133 c1 = -1)) && decide (kndM S (S.1 133 c1).toNatClampNeg = 0)); rw [hcl, decide_eq_true h2, decide_eq_false hne]; rfl)
theorem iX10_laysContact_X10 : ∀ w ∈ wsX100, w ∈ wsX10_laysContact := by decide +kernel
theorem kX10_laysContact_25 : Cond.fieldLink RX10 25 (TX10 13).1 (TX10 13).2.1 (TX10 13).2.2.1 ∈ wsX10_laysContact := by decide +kernel
theorem kX10_laysContact_28 : Cond.fieldLink RX10 28 (TX10 14).1 (TX10 14).2.1 (TX10 14).2.2.1 ∈ wsX10_laysContact := by decide +kernel
theorem kX10_laysContact_31 : Cond.fieldLink RX10 31 (TX10 15).1 (TX10 15).2.1 (TX10 15).2.2.1 ∈ wsX10_laysContact := by decide +kernel
theorem kX10_laysContact_34 : Cond.fieldLink RX10 34 (TX10 16).1 (TX10 16).2.1 (TX10 16).2.2.1 ∈ wsX10_laysContact := by decide +kernel
theorem kX10_laysContact_66 : Cond.fieldLink RX10 66 (TX10 17).1 (TX10 17).2.1 (TX10 17).2.2.1 ∈ wsX10_laysContact := by decide +kernel
theorem cX10_laysContact_ok {c1 : Nat} (hc : c1 < 48) {k : Nat} (hk : S.1 130 17 = nI k) (hk24 : k < 24) (hmass : ¬ lcM S c1 48 = 0) : mMv l yX10_laysContact wsX10_laysContact rmX10_laysContact D n0 ft [.ref (n0 + 130), .int (nI c1)] n S (fun S' => S' = layS S c1 k) := by
  refine tv_enter (cc := cX10_laysContact) (maxL := 7) (ret := none) (by decide) rfl (Nat.le_of_ble_eq_true rfl) ?_
  intro p e s m args below meth c X hrt hnm hargs
  refine tv_iconst (v := 0) X dX10_laysContact_0 (by decide) ?_
  refine tv_istore_n X dX10_laysContact_1 rfl ?_
  refine tv_iconst (v := 0) X dX10_laysContact_2 (by decide) ?_
  refine tv_istore_n X dX10_laysContact_3 rfl ?_
  refine tv_iconst (v := 0) X dX10_laysContact_4 (by decide) ?_
  refine tv_istore X dX10_laysContact_5 rfl ?_
  refine tv_iconst (v := 0) X dX10_laysContact_7 (by decide) ?_
  refine tv_istore X dX10_laysContact_8 rfl ?_
  refine mm_for 48 (fun i => [(0, .ref (n0 + 130)), (1, .int (nI c1)), (2, .int (lcM S c1 i)), (3, .int (lcD S c1 i)), (4, .int (lcO S c1 i)), (5, .int (nI i))]) (fun _ => S) ?_ ?_
  · intro i hi ih
    dsimp only at ih
    have e1 : lcM S c1 (i + 1) = lcM S c1 i + lcs S c1 i := rfl
    have e2 : lcD S c1 (i + 1) = lcD S c1 i + lcs S c1 i * nI (i / 6) := rfl
    have e3 : lcO S c1 (i + 1) = lcO S c1 i + lcs S c1 i * nI (i % 6) := rfl
    rw [e1, e2, e3] at ih
    refine tv_iload X dX10_laysContact_10 rfl ?_
    refine tv_bipush (v := 48) X dX10_laysContact_12 (by decide) ?_
    refine tv_icmp_ge (tgt := 74) X dX10_laysContact_14 (by decide) (fun h1 => ?_) (fun h1 => ?_)
    · exact absurd h1 (nI_ge (a := i) (b := 48) hi (by decide))
    refine tv_iload_n X dX10_laysContact_17 rfl ?_
    refine tv_iload X dX10_laysContact_18 rfl ?_
    refine mm_callSi X dX10_laysContact_20 (cX10_apart_ok hc hi) (va_cwS 2 X.2.2.2.2.1 gX10_laysContact_X10_apart rfl rfl rfl (by decide +kernel) ⟨Nat.le_of_ble_eq_true rfl, Nat.le_of_ble_eq_true rfl⟩) rfl rfl (Nat.le_of_ble_eq_true rfl) ⟨Nat.zero_le _, Nat.zero_le _⟩ (fun r S1 hq => ?_)
    obtain ⟨hq1, hq2⟩ := hq
    rw [hq1, hq2]
    clear hq1 hq2
    refine mm_cut (pc := 37) (fun v : Int32 => v = lcs S c1 i) (fun _ => [(0, .ref (n0 + 130)), (1, .int (nI c1)), (2, .int (lcM S c1 i)), (3, .int (lcD S c1 i)), (4, .int (lcO S c1 i)), (5, .int (nI i))]) (fun v => [.int v]) (fun _ => S) ?_ ?_
    · intro v hv
      subst hv
      refine tv_istore X dX10_laysContact_37 rfl ?_
      refine tv_iload_n X dX10_laysContact_39 rfl ?_
      refine tv_iload X dX10_laysContact_40 rfl ?_
      refine tv_iadd X dX10_laysContact_42 ?_
      refine tv_istore_n X dX10_laysContact_43 rfl ?_
      refine tv_iload_n X dX10_laysContact_44 rfl ?_
      refine tv_iload X dX10_laysContact_45 rfl ?_
      refine tv_iload X dX10_laysContact_47 rfl ?_
      refine tv_bipush (v := 6) X dX10_laysContact_49 (by decide) ?_
      refine tv_idiv X dX10_laysContact_51 (by decide) ?_
      rw [div6 hi]
      refine tv_imul X dX10_laysContact_52 ?_
      refine tv_iadd X dX10_laysContact_53 ?_
      refine tv_istore_n X dX10_laysContact_54 rfl ?_
      refine tv_iload X dX10_laysContact_55 rfl ?_
      refine tv_iload X dX10_laysContact_57 rfl ?_
      refine tv_iload X dX10_laysContact_59 rfl ?_
      refine tv_bipush (v := 6) X dX10_laysContact_61 (by decide) ?_
      refine tv_irem X dX10_laysContact_63 (by decide) ?_
      rw [rem6 hi]
      refine tv_imul X dX10_laysContact_64 ?_
      refine tv_iadd X dX10_laysContact_65 ?_
      refine tv_istore X dX10_laysContact_66 rfl ?_
      refine tv_iinc X dX10_laysContact_68 rfl (nI_1 i) rfl ?_
      refine tv_goto (tgt := 10) X dX10_laysContact_71 (by decide) ?_
      exact tv_sl [0, 1, 2, 3, 4, 5] rfl ih
    intro hcut
    refine tv_iconst (v := 3) X dX10_laysContact_23 (by decide) ?_
    refine tv_icmp_ge (tgt := 36) X dX10_laysContact_24 (by decide) (fun h2 => ?_) (fun h2 => ?_)
    · refine tv_iconst (v := 0) X dX10_laysContact_36 (by decide) ?_
      exact hcut 0 (if_neg (Int32.not_lt.mpr h2)).symm
    · refine tv_aload_n X dX10_laysContact_27 rfl ?_
      refine tv_iload X dX10_laysContact_28 rfl ?_
      refine mm_callVi (q := (RX10, TX10, 20)) X dX10_laysContact_30 (cX10_signalOf_ok hi) (cwV 1 X.2.2.2.2.1 gX10_laysContact_X10_signalOf rfl rfl rfl (by decide +kernel) ⟨Nat.le_of_ble_eq_true rfl, Nat.le_of_ble_eq_true rfl⟩) rfl rfl gX10 rfl (Nat.le_of_ble_eq_true rfl) ⟨Nat.zero_le _, Nat.zero_le _⟩ (fun r S1 hq => ?_)
      obtain ⟨hq1, hq2⟩ := hq
      rw [hq1, hq2]
      refine tv_goto (tgt := 37) X dX10_laysContact_33 (by decide) ?_
      exact hcut _ (if_pos (Int32.not_le.mp h2)).symm
  · refine tv_iload X dX10_laysContact_10 rfl ?_
    refine tv_bipush (v := 48) X dX10_laysContact_12 (by decide) ?_
    refine tv_icmp_ge (tgt := 74) X dX10_laysContact_14 (by decide) (fun h1 => ?_) (fun h1 => ?_)
    rotate_left
    · exact absurd (nI_le (Nat.le_refl 48) (by decide)) h1
    unfold layS
    generalize lcM S c1 48 = ma at hmass ⊢
    generalize lcD S c1 48 = dd
    generalize lcO S c1 48 = oo
    refine tv_aload_n X dX10_laysContact_74 rfl ?_
    refine mm_getf X dX10_laysContact_75 gX10 iX10_laysContact_X10 rfl 13 (by decide) kX10_laysContact_25 rfl ?_
    refine tv_aload_n X dX10_laysContact_78 rfl ?_
    refine mm_getf X dX10_laysContact_79 gX10 iX10_laysContact_X10 rfl 17 (by decide) kX10_laysContact_66 rfl ?_
    rw [hk]
    refine tv_bipush (v := 100) X dX10_laysContact_82 (by decide) ?_
    refine tv_iload_n X dX10_laysContact_84 rfl ?_
    refine tv_imul X dX10_laysContact_85 ?_
    refine tv_iload_n X dX10_laysContact_86 rfl ?_
    refine tv_idiv X dX10_laysContact_87 hmass ?_
    refine mm_iast X dX10_laysContact_88 g136 k rfl hk24 (by decide) ?_
    refine tv_aload_n X dX10_laysContact_89 rfl ?_
    refine mm_getf X dX10_laysContact_90 gX10 iX10_laysContact_X10 rfl 14 (by decide) kX10_laysContact_28 rfl ?_
    refine tv_aload_n X dX10_laysContact_93 rfl ?_
    refine mm_getf X dX10_laysContact_94 gX10 iX10_laysContact_X10 rfl 17 (by decide) kX10_laysContact_66 rfl ?_
    have q1 : (mupd S 136 k (100 * dd / ma)).1 130 17 = nI k := by rw [mupd_n (by decide)]; exact hk
    rw [q1]
    generalize hS1 : mupd S 136 k (100 * dd / ma) = S1 at q1 ⊢
    refine tv_bipush (v := 100) X dX10_laysContact_97 (by decide) ?_
    refine tv_iload X dX10_laysContact_99 rfl ?_
    refine tv_imul X dX10_laysContact_101 ?_
    refine tv_iload_n X dX10_laysContact_102 rfl ?_
    refine tv_idiv X dX10_laysContact_103 hmass ?_
    refine mm_iast X dX10_laysContact_104 g137 k rfl hk24 (by decide) ?_
    refine tv_aload_n X dX10_laysContact_105 rfl ?_
    refine mm_getf X dX10_laysContact_106 gX10 iX10_laysContact_X10 rfl 15 (by decide) kX10_laysContact_31 rfl ?_
    refine tv_aload_n X dX10_laysContact_109 rfl ?_
    refine mm_getf X dX10_laysContact_110 gX10 iX10_laysContact_X10 rfl 17 (by decide) kX10_laysContact_66 rfl ?_
    have q2 : (mupd S1 137 k (100 * oo / ma)).1 130 17 = nI k := by rw [mupd_n (by decide)]; exact q1
    rw [q2]
    generalize hS2 : mupd S1 137 k (100 * oo / ma) = S2 at q2 ⊢
    refine tv_iload_n X dX10_laysContact_113 rfl ?_
    refine mm_iast X dX10_laysContact_114 g138 k rfl hk24 (by decide) ?_
    refine tv_aload_n X dX10_laysContact_115 rfl ?_
    refine mm_getf X dX10_laysContact_116 gX10 iX10_laysContact_X10 rfl 16 (by decide) kX10_laysContact_34 rfl ?_
    refine tv_aload_n X dX10_laysContact_119 rfl ?_
    refine mm_getf X dX10_laysContact_120 gX10 iX10_laysContact_X10 rfl 17 (by decide) kX10_laysContact_66 rfl ?_
    have q3 : (mupd S2 138 k ma).1 130 17 = nI k := by rw [mupd_n (by decide)]; exact q2
    rw [q3]
    refine tv_iload_n X dX10_laysContact_123 rfl ?_
    refine mm_iast X dX10_laysContact_124 g139 k rfl hk24 (by decide) ?_
    refine tv_aload_n X dX10_laysContact_125 rfl ?_
    refine tv_dup X dX10_laysContact_126 rfl ?_
    refine mm_getf X dX10_laysContact_127 gX10 iX10_laysContact_X10 rfl 17 (by decide) kX10_laysContact_66 rfl ?_
    have q4 : (mupd (mupd S2 138 k ma) 139 k (nI c1)).1 130 17 = nI k := by rw [mupd_n (by decide)]; exact q3
    rw [q4]
    refine tv_iconst (v := 1) X dX10_laysContact_130 (by decide) ?_
    refine tv_iadd X dX10_laysContact_131 ?_
    rw [nI_1]
    refine mm_put X dX10_laysContact_132 gX10 iX10_laysContact_X10 rfl tyX10 tyX10_ok nmX10 17 (by decide) kX10_laysContact_66 rfl rfl rfl (Nat.le_of_ble_eq_true rfl) rfl ?_
    exact tv_vret X hrt dX10_laysContact_135 ⟨_, rfl, rfl⟩
theorem iX10_dropsContact_X10 : ∀ w ∈ wsX100, w ∈ wsX10_dropsContact := by decide +kernel
theorem kX10_dropsContact_25 : Cond.fieldLink RX10 25 (TX10 13).1 (TX10 13).2.1 (TX10 13).2.2.1 ∈ wsX10_dropsContact := by decide +kernel
theorem kX10_dropsContact_28 : Cond.fieldLink RX10 28 (TX10 14).1 (TX10 14).2.1 (TX10 14).2.2.1 ∈ wsX10_dropsContact := by decide +kernel
theorem kX10_dropsContact_31 : Cond.fieldLink RX10 31 (TX10 15).1 (TX10 15).2.1 (TX10 15).2.2.1 ∈ wsX10_dropsContact := by decide +kernel
theorem kX10_dropsContact_34 : Cond.fieldLink RX10 34 (TX10 16).1 (TX10 16).2.1 (TX10 16).2.2.1 ∈ wsX10_dropsContact := by decide +kernel
theorem kX10_dropsContact_66 : Cond.fieldLink RX10 66 (TX10 17).1 (TX10 17).2.1 (TX10 17).2.2.1 ∈ wsX10_dropsContact := by decide +kernel
theorem cX10_dropsContact_ok {k : Nat} (hk : S.1 130 17 = nI (k + 1)) (hk24 : k < 24) : mMv l yX10_dropsContact wsX10_dropsContact rmX10_dropsContact D n0 ft [.ref (n0 + 130)] n S (fun S' => S' = drpS S k) := by
  refine tv_enter (cc := cX10_dropsContact) (maxL := 3) (ret := none) (by decide) rfl (Nat.le_of_ble_eq_true rfl) ?_
  intro p e s m args below meth c X hrt hnm hargs
  refine tv_iconst (v := 0) X dX10_dropsContact_0 (by decide) ?_
  refine tv_istore_n X dX10_dropsContact_1 rfl ?_
  refine tv_iconst (v := 1) X dX10_dropsContact_2 (by decide) ?_
  refine tv_istore_n X dX10_dropsContact_3 rfl ?_
  refine mm_L (L' := [(0, .ref (n0 + 130)), (1, .int (nI (goN (S.1 138) (0 + 1)))), (2, .int (nI (0 + 1)))]) (by rw [show goN (S.1 138) (0 + 1) = 0 by unfold goN; split <;> rfl]; rfl) ?_
  refine mm_for k (fun i => [(0, .ref (n0 + 130)), (1, .int (nI (goN (S.1 138) (i + 1)))), (2, .int (nI (i + 1)))]) (fun _ => S) ?_ ?_
  · intro i hi ih
    dsimp only at ih
    have hg : goN (S.1 138) (i + 1) < i + 1 := goN_lt (Nat.succ_pos _)
    have e1 : goN (S.1 138) (i + 1 + 1) = if S.1 138 (i + 1) ≤ S.1 138 (goN (S.1 138) (i + 1)) then i + 1 else goN (S.1 138) (i + 1) := rfl
    rw [e1] at ih
    generalize goN (S.1 138) (i + 1) = g at hg ih ⊢
    refine tv_iload_n X dX10_dropsContact_4 rfl ?_
    refine tv_aload_n X dX10_dropsContact_5 rfl ?_
    refine mm_getf X dX10_dropsContact_6 gX10 iX10_dropsContact_X10 rfl 17 (by decide) kX10_dropsContact_66 rfl ?_
    rw [hk]
    refine tv_icmp_ge (tgt := 39) X dX10_dropsContact_9 (by decide) (fun h1 => ?_) (fun h1 => ?_)
    · exact absurd h1 (nI_ge (by omega) (by omega))
    refine tv_aload_n X dX10_dropsContact_12 rfl ?_
    refine mm_getf X dX10_dropsContact_13 gX10 iX10_dropsContact_X10 rfl 15 (by decide) kX10_dropsContact_31 rfl ?_
    refine tv_iload_n X dX10_dropsContact_16 rfl ?_
    refine mm_iald X dX10_dropsContact_17 g138 (i + 1) rfl (by omega) (by decide) ?_
    refine tv_aload_n X dX10_dropsContact_18 rfl ?_
    refine mm_getf X dX10_dropsContact_19 gX10 iX10_dropsContact_X10 rfl 15 (by decide) kX10_dropsContact_31 rfl ?_
    refine tv_iload_n X dX10_dropsContact_22 rfl ?_
    refine mm_iald X dX10_dropsContact_23 g138 g rfl (by omega) (by decide) ?_
    refine tv_icmp_gt (tgt := 31) X dX10_dropsContact_24 (by decide) (fun h2 => ?_) (fun h2 => ?_)
    · rw [if_neg (Int32.not_le.mpr h2)] at ih
      refine tv_iload_n X dX10_dropsContact_31 rfl ?_
      refine tv_istore_n X dX10_dropsContact_32 rfl ?_
      refine tv_iinc X dX10_dropsContact_33 rfl (nI_1 (i + 1)) rfl ?_
      refine tv_goto (tgt := 4) X dX10_dropsContact_36 (by decide) ?_
      exact ih
    · rw [if_pos (Int32.not_lt.mp h2)] at ih
      refine tv_iload_n X dX10_dropsContact_27 rfl ?_
      refine tv_goto (tgt := 32) X dX10_dropsContact_28 (by decide) ?_
      refine tv_istore_n X dX10_dropsContact_32 rfl ?_
      refine tv_iinc X dX10_dropsContact_33 rfl (nI_1 (i + 1)) rfl ?_
      refine tv_goto (tgt := 4) X dX10_dropsContact_36 (by decide) ?_
      exact ih
  · have hg : goN (S.1 138) (k + 1) < k + 1 := goN_lt (Nat.succ_pos _)
    unfold drpS
    generalize goN (S.1 138) (k + 1) = g at hg ⊢
    refine tv_iload_n X dX10_dropsContact_4 rfl ?_
    refine tv_aload_n X dX10_dropsContact_5 rfl ?_
    refine mm_getf X dX10_dropsContact_6 gX10 iX10_dropsContact_X10 rfl 17 (by decide) kX10_dropsContact_66 rfl ?_
    rw [hk]
    refine tv_icmp_ge (tgt := 39) X dX10_dropsContact_9 (by decide) (fun h1 => ?_) (fun h1 => ?_)
    rotate_left
    · exact absurd (nI_le (Nat.le_refl _) (by omega)) h1
    refine tv_aload_n X dX10_dropsContact_39 rfl ?_
    refine tv_dup X dX10_dropsContact_40 rfl ?_
    refine mm_getf X dX10_dropsContact_41 gX10 iX10_dropsContact_X10 rfl 17 (by decide) kX10_dropsContact_66 rfl ?_
    rw [hk]
    refine tv_iconst (v := 1) X dX10_dropsContact_44 (by decide) ?_
    refine tv_isub X dX10_dropsContact_45 ?_
    rw [show nI (k + 1) - 1 = nI k from nI_pred k]
    refine mm_put X dX10_dropsContact_46 gX10 iX10_dropsContact_X10 rfl tyX10 tyX10_ok nmX10 17 (by decide) kX10_dropsContact_66 rfl rfl rfl (Nat.le_of_ble_eq_true rfl) rfl ?_
    refine tv_iload_n X dX10_dropsContact_49 rfl ?_
    refine tv_istore_n X dX10_dropsContact_50 rfl ?_
    refine mm_st (S' := drpT S g k g) ?_ ?_
    · unfold drpT
      rw [dpR_0, dpR_0, dpR_0, dpR_0]
      have e : ∀ q, q ≠ 130 → S.1 q = (mupd S 130 17 (nI k)).1 q := fun q hq => (mupd_n hq).symm
      rw [e 136 (by decide), mset_self, e 137 (by decide), mset_self, e 138 (by decide), mset_self, e 139 (by decide), mset_self]
    refine tv_sl (L' := [(0, .ref (n0 + 130)), (2, .int (nI g))]) [0, 2] rfl ?_
    refine mm_loop (ι := Nat) (fun i => g ≤ i ∧ i ≤ k) (fun i => k - i) (fun i => [(0, .ref (n0 + 130)), (2, .int (nI i))]) (fun i => drpT S g k i) g ⟨Nat.le_refl _, by omega⟩ ?_
    intro i hi ih
    have hcn : (drpT S g k i).1 130 17 = nI k := by
      unfold drpT
      rw [mset_n (by decide), mset_n (by decide), mset_n (by decide), mset_n (by decide), mupd_ss]
    refine tv_iload_n X dX10_dropsContact_51 rfl ?_
    refine tv_aload_n X dX10_dropsContact_52 rfl ?_
    refine mm_getf X dX10_dropsContact_53 gX10 iX10_dropsContact_X10 rfl 17 (by decide) kX10_dropsContact_66 rfl ?_
    rw [hcn]
    refine tv_icmp_ge (tgt := 121) X dX10_dropsContact_56 (by decide) (fun h2 => ?_) (fun h2 => ?_)
    · have hik : i = k := Nat.le_antisymm hi.2 (Nat.le_of_not_lt fun h => nI_ge h (by omega) h2)
      subst hik
      exact tv_vret X hrt dX10_dropsContact_121 ⟨_, rfl, rfl⟩
    have hik : i < k := Nat.lt_of_not_le fun h => h2 (nI_le h (by omega))
    have hT : drpT S g k (i + 1) = mset (mset (mset (mset (mupd S 130 17 (nI k)) 136 (upd (dpR (S.1 136) g i) i (dpR (S.1 136) g i (i + 1)))) 137 (upd (dpR (S.1 137) g i) i (dpR (S.1 137) g i (i + 1)))) 138 (upd (dpR (S.1 138) g i) i (dpR (S.1 138) g i (i + 1)))) 139 (upd (dpR (S.1 139) g i) i (dpR (S.1 139) g i (i + 1))) := by
      unfold drpT
      rw [dpR_s hi.1, dpR_s hi.1, dpR_s hi.1, dpR_s hi.1]
    have ih1 := ih (i + 1) ⟨by omega, hik⟩ (by omega)
    rw [hT] at ih1
    refine mm_st (S' := mset (mset (mset (mset (mupd S 130 17 (nI k)) 136 (dpR (S.1 136) g i)) 137 (dpR (S.1 137) g i)) 138 (dpR (S.1 138) g i)) 139 (dpR (S.1 139) g i)) rfl ?_
    generalize dpR (S.1 136) g i = f6 at ih1 ⊢
    generalize dpR (S.1 137) g i = f7 at ih1 ⊢
    generalize dpR (S.1 138) g i = f8 at ih1 ⊢
    generalize dpR (S.1 139) g i = f9 at ih1 ⊢
    generalize mupd S 130 17 (nI k) = S0 at ih1 ⊢
    have r6 : (mset (mset (mset (mset S0 136 f6) 137 f7) 138 f8) 139 f9).1 136 = f6 := by rw [mset_n (by decide), mset_n (by decide), mset_n (by decide), mset_s]
    have r7 : (mset (mset (mset (mset S0 136 (upd f6 i (f6 (i + 1)))) 137 f7) 138 f8) 139 f9).1 137 = f7 := by rw [mset_n (by decide), mset_n (by decide), mset_s]
    have r8 : (mset (mset (mset (mset S0 136 (upd f6 i (f6 (i + 1)))) 137 (upd f7 i (f7 (i + 1)))) 138 f8) 139 f9).1 138 = f8 := by rw [mset_n (by decide), mset_s]
    have r9 : (mset (mset (mset (mset S0 136 (upd f6 i (f6 (i + 1)))) 137 (upd f7 i (f7 (i + 1)))) 138 (upd f8 i (f8 (i + 1)))) 139 f9).1 139 = f9 := mset_s
    refine tv_aload_n X dX10_dropsContact_59 rfl ?_
    refine mm_getf X dX10_dropsContact_60 gX10 iX10_dropsContact_X10 rfl 13 (by decide) kX10_dropsContact_25 rfl ?_
    refine tv_iload_n X dX10_dropsContact_63 rfl ?_
    refine tv_aload_n X dX10_dropsContact_64 rfl ?_
    refine mm_getf X dX10_dropsContact_65 gX10 iX10_dropsContact_X10 rfl 13 (by decide) kX10_dropsContact_25 rfl ?_
    refine tv_iload_n X dX10_dropsContact_68 rfl ?_
    refine tv_iconst (v := 1) X dX10_dropsContact_69 (by decide) ?_
    refine tv_iadd X dX10_dropsContact_70 ?_
    refine mm_iald X dX10_dropsContact_71 g136 (i + 1) (nI_1 i) (by omega) (by decide) ?_
    rw [r6]
    refine mm_iast X dX10_dropsContact_72 g136 i rfl (by omega) (by decide) ?_
    rw [mupd_out (by decide), mupd_out (by decide), mupd_out (by decide), mupd_in]
    refine tv_aload_n X dX10_dropsContact_73 rfl ?_
    refine mm_getf X dX10_dropsContact_74 gX10 iX10_dropsContact_X10 rfl 14 (by decide) kX10_dropsContact_28 rfl ?_
    refine tv_iload_n X dX10_dropsContact_77 rfl ?_
    refine tv_aload_n X dX10_dropsContact_78 rfl ?_
    refine mm_getf X dX10_dropsContact_79 gX10 iX10_dropsContact_X10 rfl 14 (by decide) kX10_dropsContact_28 rfl ?_
    refine tv_iload_n X dX10_dropsContact_82 rfl ?_
    refine tv_iconst (v := 1) X dX10_dropsContact_83 (by decide) ?_
    refine tv_iadd X dX10_dropsContact_84 ?_
    refine mm_iald X dX10_dropsContact_85 g137 (i + 1) (nI_1 i) (by omega) (by decide) ?_
    rw [r7]
    refine mm_iast X dX10_dropsContact_86 g137 i rfl (by omega) (by decide) ?_
    rw [mupd_out (by decide), mupd_out (by decide), mupd_in]
    refine tv_aload_n X dX10_dropsContact_87 rfl ?_
    refine mm_getf X dX10_dropsContact_88 gX10 iX10_dropsContact_X10 rfl 15 (by decide) kX10_dropsContact_31 rfl ?_
    refine tv_iload_n X dX10_dropsContact_91 rfl ?_
    refine tv_aload_n X dX10_dropsContact_92 rfl ?_
    refine mm_getf X dX10_dropsContact_93 gX10 iX10_dropsContact_X10 rfl 15 (by decide) kX10_dropsContact_31 rfl ?_
    refine tv_iload_n X dX10_dropsContact_96 rfl ?_
    refine tv_iconst (v := 1) X dX10_dropsContact_97 (by decide) ?_
    refine tv_iadd X dX10_dropsContact_98 ?_
    refine mm_iald X dX10_dropsContact_99 g138 (i + 1) (nI_1 i) (by omega) (by decide) ?_
    rw [r8]
    refine mm_iast X dX10_dropsContact_100 g138 i rfl (by omega) (by decide) ?_
    rw [mupd_out (by decide), mupd_in]
    refine tv_aload_n X dX10_dropsContact_101 rfl ?_
    refine mm_getf X dX10_dropsContact_102 gX10 iX10_dropsContact_X10 rfl 16 (by decide) kX10_dropsContact_34 rfl ?_
    refine tv_iload_n X dX10_dropsContact_105 rfl ?_
    refine tv_aload_n X dX10_dropsContact_106 rfl ?_
    refine mm_getf X dX10_dropsContact_107 gX10 iX10_dropsContact_X10 rfl 16 (by decide) kX10_dropsContact_34 rfl ?_
    refine tv_iload_n X dX10_dropsContact_110 rfl ?_
    refine tv_iconst (v := 1) X dX10_dropsContact_111 (by decide) ?_
    refine tv_iadd X dX10_dropsContact_112 ?_
    refine mm_iald X dX10_dropsContact_113 g139 (i + 1) (nI_1 i) (by omega) (by decide) ?_
    rw [r9]
    refine mm_iast X dX10_dropsContact_114 g139 i rfl (by omega) (by decide) ?_
    rw [mupd_in]
    refine tv_iinc X dX10_dropsContact_115 rfl (nI_1 i) rfl ?_
    refine tv_goto (tgt := 51) X dX10_dropsContact_118 (by decide) ?_
    exact ih1
end C29

