/-- one kept state over another -/
def cpI (row : Nat → Int32) (f t i : Nat) : Nat → Int32 := fun q => if 134 * t ≤ q ∧ q < 134 * t + i then row (134 * f + (q - 134 * t)) else row q
def cpR (row : Nat → Int32) (f t : Nat) : Nat → Int32 := cpI row f t 134
theorem cpI_0 {row : Nat → Int32} {f t : Nat} : cpI row f t 0 = row := funext fun k => if_neg (by omega)
theorem cpI_s {row : Nat → Int32} {f t i : Nat} (hft : f ≠ t) (hi : i < 134) : upd (cpI row f t i) (134 * t + i) (cpI row f t i (134 * f + i)) = cpI row f t (i + 1) := by
  have e : cpI row f t i (134 * f + i) = row (134 * f + i) := if_neg (by omega)
  rw [e]
  funext k
  unfold upd cpI
  by_cases e1 : k = 134 * t + i
  · subst e1; rw [if_pos rfl, if_pos (by omega), show 134 * t + i - 134 * t = i by omega]
  · rw [if_neg e1]
    by_cases e2 : 134 * t ≤ k ∧ k < 134 * t + i
    · rw [if_pos e2, if_pos (by omega)]
    · rw [if_neg e2, if_neg (by omega)]
def kpC (row : Nat → Int32) : Nat → Nat → Int32
  | 0 => row
  | j + 1 => cpR (kpC row j) (j + 2) (j + 1)
/-- keeping the state, with k kept before -/
def kpS (S : mS) (k : Nat) : mS := if k < 6 then mset (mupd S 130 2 (nI (k + 1))) 131 (cpR (S.1 131) 0 (k + 1)) else mset (mupd S 130 2 (nI 6)) 131 (cpR (kpC (S.1 131) 5) 0 6)
theorem kpS_131 {S : mS} {k j : Nat} (hj : j < 134) : (kpS S k).1 131 j = S.1 131 j := by
  have hcp : ∀ {row : Nat → Int32} {f t : Nat}, 0 < t → cpR row f t j = row j := fun ht => if_neg (by omega)
  unfold kpS
  split
  · rw [mset_s, hcp (Nat.succ_pos _)]
  · rw [mset_s, hcp (by decide)]
    show kpC (S.1 131) 5 j = _
    show cpR (cpR (cpR (cpR (cpR (S.1 131) 2 1) 3 2) 4 3) 5 4) 6 5 j = _
    rw [hcp (by decide), hcp (by decide), hcp (by decide), hcp (by decide), hcp (by decide)]
/-- pressing -/
def prA (c k : Nat) (f : Int32) : Int32 := if apI c k = 0 then f else if apI c k = 1 then f / 2 else if apI c k = 2 then f / 4 else 0
def pr255 (v : Int32) : Int32 := if 255 < v then 255 else v
def prF (row : Nat → Int32) (c : Nat) (f : Int32) (i : Nat) : Nat → Int32 := fun q => if q < i then pr255 (row q + prA c q f) else row q
theorem prF_0 {row : Nat → Int32} {c : Nat} {f : Int32} : prF row c f 0 = row := funext fun k => if_neg (Nat.not_lt_zero k)
theorem prF_s {row : Nat → Int32} {c i : Nat} {f : Int32} : upd (prF row c f i) i (pr255 (row i + prA c i f)) = prF row c f (i + 1) := by
  funext k
  unfold upd prF
  by_cases e1 : k = i
  · subst e1; rw [if_pos rfl, if_pos (by omega)]
  · rw [if_neg e1]
    by_cases e2 : k < i
    · rw [if_pos e2, if_pos (by omega)]
    · rw [if_neg e2, if_neg (by omega)]
def rlN (row : Nat → Int32) : Nat → Int32
  | 0 => 0
  | i + 1 => rlN row i + bz (!(decide (row i = 0)))
def caN (row : Nat → Int32) : Nat → Int32
  | 0 => 0
  | i + 1 => caN row i + bz (!(decide (row i = row (48 + i))))
def caF (row : Nat → Int32) (i : Nat) : Nat → Int32 := fun q => if 48 ≤ q ∧ q < 48 + i then row (q - 48) else row q
theorem caF_0 {row : Nat → Int32} : caF row 0 = row := funext fun k => if_neg (by omega)
theorem caF_s {row : Nat → Int32} {i : Nat} : upd (caF row i) (48 + i) (row i) = caF row (i + 1) := by
  funext k
  unfold upd caF
  by_cases e1 : k = 48 + i
  · subst e1; rw [if_pos rfl, if_pos (by omega), show 48 + i - 48 = i by omega]
  · rw [if_neg e1]
    by_cases e2 : 48 ≤ k ∧ k < 48 + i
    · rw [if_pos e2, if_pos (by omega)]
    · rw [if_neg e2, if_neg (by omega)]
theorem siI (t k : Nat) : (134 : Int32) * nI t + nI k = nI (134 * t + k) := by
  rw [show (134 : Int32) = nI 134 from rfl, pk_mul, nI_add]
theorem apI_v : ∀ c, c < 48 → ∀ k, k < 48 → apI c k = 0 ∨ apI c k = 1 ∨ apI c k = 2 ∨ apI c k = 3 := by decide +kernel
section C34
variable {l : Launch} {D : va_G} {n0 : Nat} {ft : Nat × Nat × Nat} {n : Nat} {S : mS} {b : Nat}
theorem iX10_copies_X10 : ∀ w ∈ wsX100, w ∈ wsX10_copies := by decide +kernel
theorem kX10_copies_7 : Cond.fieldLink RX10 7 (TX10 1).1 (TX10 1).2.1 (TX10 1).2.2.1 ∈ wsX10_copies := by decide +kernel
theorem cX10_copies_ok {f t : Nat} {f1 t1 : Int32} (hf1 : f1 = nI f) (ht1 : t1 = nI t) (hf : f < 7) (ht : t < 7) (hft : f ≠ t) : mMv l yX10_copies wsX10_copies rmX10_copies D n0 ft [.ref (n0 + 130), .int f1, .int t1] n S (fun S' => S' = mset S 131 (cpR (S.1 131) f t)) := by
  subst hf1 ht1
  refine tv_enter (cc := cX10_copies) (maxL := 4) (ret := none) (by decide) rfl (Nat.le_of_ble_eq_true rfl) ?_
  intro p e s m args below meth c X hrt hnm hargs
  refine tv_iconst (v := 0) X dX10_copies_0 (by decide) ?_
  refine tv_istore_n X dX10_copies_1 rfl ?_
  refine mm_st (S' := mset S 131 (cpI (S.1 131) f t 0)) (by rw [cpI_0, mset_self]) ?_
  refine mm_for 134 (fun i => [(0, .ref (n0 + 130)), (1, .int (nI f)), (2, .int (nI t)), (3, .int (nI i))]) (fun i => mset S 131 (cpI (S.1 131) f t i)) ?_ ?_
  · intro i hi ih
    dsimp only at ih
    rw [← cpI_s hft hi] at ih
    generalize cpI (S.1 131) f t i = g at ih ⊢
    refine tv_iload_n X dX10_copies_2 rfl ?_
    refine tv_sipush (v := 134) X dX10_copies_3 (by decide) ?_
    refine tv_icmp_ge (tgt := 39) X dX10_copies_6 (by decide) (fun h1 => ?_) (fun h1 => ?_)
    · exact absurd h1 (nI_ge (a := i) (b := 134) hi (by decide))
    refine tv_aload_n X dX10_copies_9 rfl ?_
    refine mm_getf X dX10_copies_10 gX10 iX10_copies_X10 rfl 1 (by decide) kX10_copies_7 rfl ?_
    refine tv_sipush (v := 134) X dX10_copies_13 (by decide) ?_
    refine tv_iload_n X dX10_copies_16 rfl ?_
    refine tv_imul X dX10_copies_17 ?_
    refine tv_iload_n X dX10_copies_18 rfl ?_
    refine tv_iadd X dX10_copies_19 ?_
    refine tv_aload_n X dX10_copies_20 rfl ?_
    refine mm_getf X dX10_copies_21 gX10 iX10_copies_X10 rfl 1 (by decide) kX10_copies_7 rfl ?_
    refine tv_sipush (v := 134) X dX10_copies_24 (by decide) ?_
    refine tv_iload_n X dX10_copies_27 rfl ?_
    refine tv_imul X dX10_copies_28 ?_
    refine tv_iload_n X dX10_copies_29 rfl ?_
    refine tv_iadd X dX10_copies_30 ?_
    refine mm_iald X dX10_copies_31 g131 (134 * f + i) (siI f i) (by omega) (by decide) ?_
    rw [mset_s]
    refine mm_iast X dX10_copies_32 g131 (134 * t + i) (siI t i) (by omega) (by decide) ?_
    refine tv_iinc X dX10_copies_33 rfl (nI_1 i) rfl ?_
    refine tv_goto (tgt := 2) X dX10_copies_36 (by decide) ?_
    rw [mupd_in]
    exact ih
  · refine tv_iload_n X dX10_copies_2 rfl ?_
    refine tv_sipush (v := 134) X dX10_copies_3 (by decide) ?_
    refine tv_icmp_ge (tgt := 39) X dX10_copies_6 (by decide) (fun h1 => ?_) (fun h1 => ?_)
    · exact tv_vret X hrt dX10_copies_39 ⟨_, rfl, rfl⟩
    · exact absurd (nI_le (Nat.le_refl 134) (by decide)) h1
theorem iX10_keeps_X10 : ∀ w ∈ wsX100, w ∈ wsX10_keeps := by decide +kernel
theorem kX10_keeps_118 : Cond.fieldLink RX10 118 (TX10 2).1 (TX10 2).2.1 (TX10 2).2.2.1 ∈ wsX10_keeps := by decide +kernel
theorem cX10_keeps_ok {k : Nat} (hk : S.1 130 2 = nI k) (hk6 : k ≤ 6) : mMv l yX10_keeps wsX10_keeps rmX10_keeps D n0 ft [.ref (n0 + 130)] n S (fun S' => S' = kpS S k) := by
  refine tv_enter (cc := cX10_keeps) (maxL := 2) (ret := none) (by decide) rfl (Nat.le_of_ble_eq_true rfl) ?_
  intro p e s m args below meth c X hrt hnm hargs
  refine tv_iconst (v := 1) X dX10_keeps_0 (by decide) ?_
  refine tv_istore_n X dX10_keeps_1 rfl ?_
  by_cases h6 : k < 6
  · have hkp : kpS S k = mset (mupd S 130 2 (nI (k + 1))) 131 (cpR (S.1 131) 0 (k + 1)) := if_pos h6
    refine tv_iload_n X dX10_keeps_2 rfl ?_
    refine tv_bipush (v := 6) X dX10_keeps_3 (by decide) ?_
    refine tv_icmp_ge (tgt := 31) X dX10_keeps_5 (by decide) (fun h1 => ?_) (fun h1 => ?_)
    · exact absurd h1 (by decide)
    refine tv_aload_n X dX10_keeps_8 rfl ?_
    refine mm_getf X dX10_keeps_9 gX10 iX10_keeps_X10 rfl 2 (by decide) kX10_keeps_118 rfl ?_
    refine tv_bipush (v := 6) X dX10_keeps_12 (by decide) ?_
    rw [hk]
    refine tv_icmp_ne (tgt := 31) X dX10_keeps_14 (by decide) (fun h2 => ?_) (fun h2 => ?_)
    rotate_left
    · exact absurd ((nI_eq (a := k) (b := 6) (by omega) (by decide)).mp h2) (by omega)
    refine tv_aload_n X dX10_keeps_31 rfl ?_
    refine tv_dup X dX10_keeps_32 rfl ?_
    refine mm_getf X dX10_keeps_33 gX10 iX10_keeps_X10 rfl 2 (by decide) kX10_keeps_118 rfl ?_
    refine tv_aload_n X dX10_keeps_36 rfl ?_
    refine mm_getf X dX10_keeps_37 gX10 iX10_keeps_X10 rfl 2 (by decide) kX10_keeps_118 rfl ?_
    refine tv_bipush (v := 6) X dX10_keeps_40 (by decide) ?_
    rw [hk]
    refine tv_icmp_ge (tgt := 49) X dX10_keeps_42 (by decide) (fun h3 => ?_) (fun h3 => ?_)
    · exact absurd h3 (nI_ge (a := k) (b := 6) h6 (by decide))
    refine tv_iconst (v := 1) X dX10_keeps_45 (by decide) ?_
    refine tv_goto (tgt := 50) X dX10_keeps_46 (by decide) ?_
    refine tv_iadd X dX10_keeps_50 ?_
    rw [show nI k + 1 = nI (k + 1) from nI_1 k]
    refine mm_put X dX10_keeps_51 gX10 iX10_keeps_X10 rfl tyX10 tyX10_ok nmX10 2 (by decide) kX10_keeps_118 rfl rfl rfl (Nat.le_of_ble_eq_true rfl) rfl ?_
    refine tv_aload_n X dX10_keeps_54 rfl ?_
    refine tv_iconst (v := 0) X dX10_keeps_55 (by decide) ?_
    refine tv_aload_n X dX10_keeps_56 rfl ?_
    refine mm_getf X dX10_keeps_57 gX10 iX10_keeps_X10 rfl 2 (by decide) kX10_keeps_118 rfl ?_
    rw [mupd_ss]
    refine mm_callVv (q := (RX10, TX10, 20)) X dX10_keeps_60 (cX10_copies_ok (f := 0) (t := k + 1) rfl rfl (by decide) (by omega) (by omega)) (cwV 2 X.2.2.2.2.1 gX10_keeps_X10_copies rfl rfl rfl (by decide +kernel) ⟨Nat.le_of_ble_eq_true rfl, Nat.le_of_ble_eq_true rfl⟩) rfl rfl gX10 rfl (Nat.le_of_ble_eq_true rfl) ⟨Nat.zero_le _, Nat.zero_le _⟩ (fun S1 hq => ?_)
    rw [hq, mupd_n (by decide)]
    exact tv_vret X hrt dX10_keeps_63 ⟨_, rfl, hkp.symm⟩
  · have hke : k = 6 := by omega
    subst hke
    have hkp : kpS S 6 = mset (mupd S 130 2 (nI 6)) 131 (cpR (kpC (S.1 131) 5) 0 6) := if_neg h6
    refine mm_L (L' := [(0, .ref (n0 + 130)), (1, .int (nI (0 + 1)))]) rfl ?_
    refine mm_st (S' := mset S 131 (kpC (S.1 131) 0)) (mset_self).symm ?_
    refine mm_for 5 (fun j => [(0, .ref (n0 + 130)), (1, .int (nI (j + 1)))]) (fun j => mset S 131 (kpC (S.1 131) j)) ?_ ?_
    · intro j hj ih
      dsimp only at ih
      have hnx : kpC (S.1 131) (j + 1) = cpR (kpC (S.1 131) j) (j + 2) (j + 1) := rfl
      rw [hnx] at ih
      generalize kpC (S.1 131) j = g at ih ⊢
      have hk2 : (mset S 131 g).1 130 2 = nI 6 := by rw [mset_n (by decide)]; exact hk
      refine tv_iload_n X dX10_keeps_2 rfl ?_
      refine tv_bipush (v := 6) X dX10_keeps_3 (by decide) ?_
      refine tv_icmp_ge (tgt := 31) X dX10_keeps_5 (by decide) (fun h1 => ?_) (fun h1 => ?_)
      · exact absurd h1 (nI_ge (a := j + 1) (b := 6) (by omega) (by decide))
      refine tv_aload_n X dX10_keeps_8 rfl ?_
      refine mm_getf X dX10_keeps_9 gX10 iX10_keeps_X10 rfl 2 (by decide) kX10_keeps_118 rfl ?_
      refine tv_bipush (v := 6) X dX10_keeps_12 (by decide) ?_
      rw [hk2]
      refine tv_icmp_ne (tgt := 31) X dX10_keeps_14 (by decide) (fun h2 => ?_) (fun h2 => ?_)
      · exact absurd rfl h2
      refine tv_aload_n X dX10_keeps_17 rfl ?_
      refine tv_iload_n X dX10_keeps_18 rfl ?_
      refine tv_iconst (v := 1) X dX10_keeps_19 (by decide) ?_
      refine tv_iadd X dX10_keeps_20 ?_
      refine tv_iload_n X dX10_keeps_21 rfl ?_
      refine mm_callVv (q := (RX10, TX10, 20)) X dX10_keeps_22 (cX10_copies_ok (f := j + 2) (t := j + 1) (nI_1 (j + 1)) rfl (by omega) (by omega) (by omega)) (cwV 2 X.2.2.2.2.1 gX10_keeps_X10_copies rfl rfl rfl (by decide +kernel) ⟨Nat.le_of_ble_eq_true rfl, Nat.le_of_ble_eq_true rfl⟩) rfl rfl gX10 rfl (Nat.le_of_ble_eq_true rfl) ⟨Nat.zero_le _, Nat.zero_le _⟩ (fun S1 hq => ?_)
      rw [hq, mset_s, mset_mset]
      refine tv_iinc X dX10_keeps_25 rfl (nI_1 (j + 1)) rfl ?_
      refine tv_goto (tgt := 2) X dX10_keeps_28 (by decide) ?_
      exact ih
    · generalize kpC (S.1 131) 5 = g at hkp ⊢
      have hk2 : (mset S 131 g).1 130 2 = nI 6 := by rw [mset_n (by decide)]; exact hk
      refine tv_iload_n X dX10_keeps_2 rfl ?_
      refine tv_bipush (v := 6) X dX10_keeps_3 (by decide) ?_
      refine tv_icmp_ge (tgt := 31) X dX10_keeps_5 (by decide) (fun h1 => ?_) (fun h1 => ?_)
      rotate_left
      · exact absurd (nI_le (Nat.le_refl 6) (by decide)) h1
      refine tv_aload_n X dX10_keeps_31 rfl ?_
      refine tv_dup X dX10_keeps_32 rfl ?_
      refine mm_getf X dX10_keeps_33 gX10 iX10_keeps_X10 rfl 2 (by decide) kX10_keeps_118 rfl ?_
      refine tv_aload_n X dX10_keeps_36 rfl ?_
      refine mm_getf X dX10_keeps_37 gX10 iX10_keeps_X10 rfl 2 (by decide) kX10_keeps_118 rfl ?_
      refine tv_bipush (v := 6) X dX10_keeps_40 (by decide) ?_
      rw [hk2]
      refine tv_icmp_ge (tgt := 49) X dX10_keeps_42 (by decide) (fun h3 => ?_) (fun h3 => ?_)
      rotate_left
      · exact absurd (nI_le (Nat.le_refl 6) (by decide)) h3
      refine tv_iconst (v := 0) X dX10_keeps_49 (by decide) ?_
      refine tv_iadd X dX10_keeps_50 ?_
      rw [show nI 6 + 0 = nI 6 from Int32.add_zero _]
      refine mm_put X dX10_keeps_51 gX10 iX10_keeps_X10 rfl tyX10 tyX10_ok nmX10 2 (by decide) kX10_keeps_118 rfl rfl rfl (Nat.le_of_ble_eq_true rfl) rfl ?_
      refine tv_aload_n X dX10_keeps_54 rfl ?_
      refine tv_iconst (v := 0) X dX10_keeps_55 (by decide) ?_
      refine tv_aload_n X dX10_keeps_56 rfl ?_
      refine mm_getf X dX10_keeps_57 gX10 iX10_keeps_X10 rfl 2 (by decide) kX10_keeps_118 rfl ?_
      rw [mupd_ss]
      refine mm_callVv (q := (RX10, TX10, 20)) X dX10_keeps_60 (cX10_copies_ok (f := 0) (t := 6) rfl rfl (by decide) (by decide) (by decide)) (cwV 2 X.2.2.2.2.1 gX10_keeps_X10_copies rfl rfl rfl (by decide +kernel) ⟨Nat.le_of_ble_eq_true rfl, Nat.le_of_ble_eq_true rfl⟩) rfl rfl gX10 rfl (Nat.le_of_ble_eq_true rfl) ⟨Nat.zero_le _, Nat.zero_le _⟩ (fun S1 hq => ?_)
      rw [hq, mupd_n (by decide), mset_s, mupd_out (by decide), mset_mset]
      exact tv_vret X hrt dX10_keeps_63 ⟨_, rfl, hkp.symm⟩
theorem iX10_changed_X10 : ∀ w ∈ wsX100, w ∈ wsX10_changed := by decide +kernel
theorem kX10_changed_7 : Cond.fieldLink RX10 7 (TX10 1).1 (TX10 1).2.1 (TX10 1).2.2.1 ∈ wsX10_changed := by decide +kernel
theorem cX10_changed_ok {k : Nat} (hk : S.1 130 2 = nI k) (hk6 : k ≤ 6) {p1 : Int32} (j : Nat) (hp : p1 = nI j) (hj : j < 938) (v : Int32) : mMi l yX10_changed wsX10_changed rmX10_changed D n0 ft [.ref (n0 + 130), .int p1, .int v] n S (fun r S' => S' = mupd (kpS S k) 131 j v ∧ r = (kpS S k).1 131 j) := by
  subst hp
  refine tv_enter (cc := cX10_changed) (maxL := 4) (ret := (some .int)) (by decide) rfl (Nat.le_of_ble_eq_true rfl) ?_
  intro p e s m args below meth c X hrt hnm hargs
  refine tv_aload_n X dX10_changed_0 rfl ?_
  refine mm_callVv (q := (RX10, TX10, 20)) X dX10_changed_1 (cX10_keeps_ok hk hk6) (cwV 0 X.2.2.2.2.1 gX10_changed_X10_keeps rfl rfl rfl (by decide +kernel) ⟨Nat.le_of_ble_eq_true rfl, Nat.le_of_ble_eq_true rfl⟩) rfl rfl gX10 rfl (Nat.le_of_ble_eq_true rfl) ⟨Nat.zero_le _, Nat.zero_le _⟩ (fun S1 hq => ?_)
  rw [hq]
  clear hq
  refine tv_aload_n X dX10_changed_4 rfl ?_
  refine mm_getf X dX10_changed_5 gX10 iX10_changed_X10 rfl 1 (by decide) kX10_changed_7 rfl ?_
  refine tv_iload_n X dX10_changed_8 rfl ?_
  refine mm_iald X dX10_changed_9 g131 j rfl hj (by decide) ?_
  refine tv_istore_n X dX10_changed_10 rfl ?_
  refine tv_aload_n X dX10_changed_11 rfl ?_
  refine mm_getf X dX10_changed_12 gX10 iX10_changed_X10 rfl 1 (by decide) kX10_changed_7 rfl ?_
  refine tv_iload_n X dX10_changed_15 rfl ?_
  refine tv_iload_n X dX10_changed_16 rfl ?_
  refine mm_iast X dX10_changed_17 g131 j rfl hj (by decide) ?_
  refine tv_iload_n X dX10_changed_18 rfl ?_
  exact tv_iret X hrt dX10_changed_19 ⟨_, rfl, rfl, rfl⟩
theorem iX10_presses_X10 : ∀ w ∈ wsX100, w ∈ wsX10_presses := by decide +kernel
theorem kX10_presses_7 : Cond.fieldLink RX10 7 (TX10 1).1 (TX10 1).2.1 (TX10 1).2.2.1 ∈ wsX10_presses := by decide +kernel
theorem cX10_presses_ok {c1 : Nat} {cc1 : Int32} (hcc : cc1 = nI c1) (hc : c1 < 48) (f : Int32) : mMi l yX10_presses wsX10_presses rmX10_presses D n0 ft [.ref (n0 + 130), .int cc1, .int f] n S (fun r S' => S' = mset S 131 (prF (S.1 131) c1 f 48) ∧ r = prF (S.1 131) c1 f 48 c1) := by
  subst hcc
  refine tv_enter (cc := cX10_presses) (maxL := 6) (ret := (some .int)) (by decide) rfl (Nat.le_of_ble_eq_true rfl) ?_
  intro p e s m args below meth c X hrt hnm hargs
  refine tv_iconst (v := 0) X dX10_presses_0 (by decide) ?_
  refine tv_istore_n X dX10_presses_1 rfl ?_
  refine mm_st (S' := mset S 131 (prF (S.1 131) c1 f 0)) (by rw [prF_0, mset_self]) ?_
  refine mm_for 48 (fun i => [(0, .ref (n0 + 130)), (1, .int (nI c1)), (2, .int f), (3, .int (nI i))]) (fun i => mset S 131 (prF (S.1 131) c1 f i)) ?_ ?_
  · intro i hi ih
    dsimp only at ih
    have hrow : prF (S.1 131) c1 f i i = S.1 131 i := if_neg (Nat.lt_irrefl i)
    rw [← prF_s (i := i)] at ih
    generalize prF (S.1 131) c1 f i = g at ih hrow ⊢
    have hv := apI_v c1 hc i hi
    have hpa : prA c1 i f = if apI c1 i = 0 then f else if apI c1 i = 1 then f / 2 else if apI c1 i = 2 then f / 4 else 0 := rfl
    refine tv_iload_n X dX10_presses_2 rfl ?_
    refine tv_bipush (v := 48) X dX10_presses_3 (by decide) ?_
    refine tv_icmp_ge (tgt := 90) X dX10_presses_5 (by decide) (fun h1 => ?_) (fun h1 => ?_)
    · exact absurd h1 (nI_ge (a := i) (b := 48) hi (by decide))
    refine tv_iload_n X dX10_presses_8 rfl ?_
    refine tv_iload_n X dX10_presses_9 rfl ?_
    refine mm_callSi X dX10_presses_10 (cX10_apart_ok hc hi) (va_cwS 2 X.2.2.2.2.1 gX10_presses_X10_apart rfl rfl rfl (by decide +kernel) ⟨Nat.le_of_ble_eq_true rfl, Nat.le_of_ble_eq_true rfl⟩) rfl rfl (Nat.le_of_ble_eq_true rfl) ⟨Nat.zero_le _, Nat.zero_le _⟩ (fun r S1 hq => ?_)
    obtain ⟨hq1, hq2⟩ := hq
    rw [hq1, hq2]
    clear hq1 hq2
    refine tv_istore X dX10_presses_13 rfl ?_
    refine tv_aload_n X dX10_presses_15 rfl ?_
    refine mm_getf X dX10_presses_16 gX10 iX10_presses_X10 rfl 1 (by decide) kX10_presses_7 rfl ?_
    refine tv_iconst (v := 0) X dX10_presses_19 (by decide) ?_
    refine tv_iload_n X dX10_presses_20 rfl ?_
    refine tv_iadd X dX10_presses_21 ?_
    refine mm_iald X dX10_presses_22 g131 i (Int32.zero_add _) (by omega) (by decide) ?_
    refine tv_iload X dX10_presses_23 rfl ?_
    rw [mset_s, hrow]
    generalize apI c1 i = ap at hpa hv ⊢
    refine mm_cut (pc := 57) (fun v : Int32 => v = prA c1 i f) (fun _ => [(0, .ref (n0 + 130)), (1, .int (nI c1)), (2, .int f), (3, .int (nI i)), (4, .int ap)]) (fun v => [.int v, .int (S.1 131 i)]) (fun _ => mset S 131 g) ?_ ?_
    · intro v hv
      subst hv
      have h255 : pr255 (S.1 131 i + prA c1 i f) = if 255 < S.1 131 i + prA c1 i f then 255 else S.1 131 i + prA c1 i f := rfl
      refine tv_iadd X dX10_presses_57 ?_
      refine tv_istore X dX10_presses_58 rfl ?_
      refine tv_aload_n X dX10_presses_60 rfl ?_
      refine mm_getf X dX10_presses_61 gX10 iX10_presses_X10 rfl 1 (by decide) kX10_presses_7 rfl ?_
      refine tv_iconst (v := 0) X dX10_presses_64 (by decide) ?_
      refine tv_iload_n X dX10_presses_65 rfl ?_
      refine tv_iadd X dX10_presses_66 ?_
      refine tv_iload X dX10_presses_67 rfl ?_
      refine tv_sipush (v := 255) X dX10_presses_69 (by decide) ?_
      refine tv_icmp_le (tgt := 81) X dX10_presses_72 (by decide) (fun h2 => ?_) (fun h2 => ?_)
      · rw [h255, if_neg (Int32.not_lt.mpr h2)] at ih
        refine tv_iload X dX10_presses_81 rfl ?_
        refine mm_iast X dX10_presses_83 g131 i (Int32.zero_add _) (by omega) (by decide) ?_
        refine tv_iinc X dX10_presses_84 rfl (nI_1 i) rfl ?_
        refine tv_goto (tgt := 2) X dX10_presses_87 (by decide) ?_
        rw [mupd_in]
        exact tv_sl [0, 1, 2, 3] rfl ih
      · rw [h255, if_pos (Int32.not_le.mp h2)] at ih
        refine tv_sipush (v := 255) X dX10_presses_75 (by decide) ?_
        refine tv_goto (tgt := 83) X dX10_presses_78 (by decide) ?_
        refine mm_iast X dX10_presses_83 g131 i (Int32.zero_add _) (by omega) (by decide) ?_
        refine tv_iinc X dX10_presses_84 rfl (nI_1 i) rfl ?_
        refine tv_goto (tgt := 2) X dX10_presses_87 (by decide) ?_
        rw [mupd_in]
        exact tv_sl [0, 1, 2, 3] rfl ih
    intro hcut
    by_cases a0 : ap = 0
    · refine tv_if_ne (tgt := 32) X dX10_presses_25 (by decide) (fun h2 => ?_) (fun h2 => ?_)
      · exact absurd a0 h2
      refine tv_iload_n X dX10_presses_28 rfl ?_
      refine tv_goto (tgt := 57) X dX10_presses_29 (by decide) ?_
      exact hcut _ (by rw [hpa, if_pos a0])
    · refine tv_if_ne (tgt := 32) X dX10_presses_25 (by decide) (fun h2 => ?_) (fun h2 => ?_)
      rotate_left
      · exact absurd h2 a0
      rw [if_neg a0] at hpa
      refine tv_iload X dX10_presses_32 rfl ?_
      refine tv_iconst (v := 1) X dX10_presses_34 (by decide) ?_
      by_cases a1 : ap = 1
      · refine tv_icmp_ne (tgt := 44) X dX10_presses_35 (by decide) (fun h3 => ?_) (fun h3 => ?_)
        · exact absurd a1 h3
        refine tv_iload_n X dX10_presses_38 rfl ?_
        refine tv_iconst (v := 2) X dX10_presses_39 (by decide) ?_
        refine tv_idiv X dX10_presses_40 (by decide) ?_
        refine tv_goto (tgt := 57) X dX10_presses_41 (by decide) ?_
        exact hcut _ (by rw [hpa, if_pos a1])
      · refine tv_icmp_ne (tgt := 44) X dX10_presses_35 (by decide) (fun h3 => ?_) (fun h3 => ?_)
        rotate_left
        · exact absurd h3 a1
        rw [if_neg a1] at hpa
        refine tv_iload X dX10_presses_44 rfl ?_
        refine tv_iconst (v := 2) X dX10_presses_46 (by decide) ?_
        by_cases a2 : ap = 2
        · refine tv_icmp_ne (tgt := 56) X dX10_presses_47 (by decide) (fun h4 => ?_) (fun h4 => ?_)
          · exact absurd a2 h4
          refine tv_iload_n X dX10_presses_50 rfl ?_
          refine tv_iconst (v := 4) X dX10_presses_51 (by decide) ?_
          refine tv_idiv X dX10_presses_52 (by decide) ?_
          refine tv_goto (tgt := 57) X dX10_presses_53 (by decide) ?_
          exact hcut _ (by rw [hpa, if_pos a2])
        · refine tv_icmp_ne (tgt := 56) X dX10_presses_47 (by decide) (fun h4 => ?_) (fun h4 => ?_)
          rotate_left
          · exact absurd h4 a2
          refine tv_iconst (v := 0) X dX10_presses_56 (by decide) ?_
          exact hcut _ (by rw [hpa, if_neg a2])
  · refine tv_iload_n X dX10_presses_2 rfl ?_
    refine tv_bipush (v := 48) X dX10_presses_3 (by decide) ?_
    refine tv_icmp_ge (tgt := 90) X dX10_presses_5 (by decide) (fun h1 => ?_) (fun h1 => ?_)
    · refine tv_aload_n X dX10_presses_90 rfl ?_
      refine mm_getf X dX10_presses_91 gX10 iX10_presses_X10 rfl 1 (by decide) kX10_presses_7 rfl ?_
      refine tv_iconst (v := 0) X dX10_presses_94 (by decide) ?_
      refine tv_iload_n X dX10_presses_95 rfl ?_
      refine tv_iadd X dX10_presses_96 ?_
      refine mm_iald X dX10_presses_97 g131 c1 (Int32.zero_add _) (by omega) (by decide) ?_
      rw [mset_s]
      exact tv_iret X hrt dX10_presses_98 ⟨_, rfl, rfl, rfl⟩
    · exact absurd (nI_le (Nat.le_refl 48) (by decide)) h1
theorem iX10_releases_X10 : ∀ w ∈ wsX100, w ∈ wsX10_releases := by decide +kernel
theorem kX10_releases_7 : Cond.fieldLink RX10 7 (TX10 1).1 (TX10 1).2.1 (TX10 1).2.2.1 ∈ wsX10_releases := by decide +kernel
theorem cX10_releases_ok : mMi l yX10_releases wsX10_releases rmX10_releases D n0 ft [.ref (n0 + 130)] n S (fun r S' => S' = mset S 131 (zt (S.1 131) 48) ∧ r = rlN (S.1 131) 48) := by
  refine tv_enter (cc := cX10_releases) (maxL := 3) (ret := (some .int)) (by decide) rfl (Nat.le_of_ble_eq_true rfl) ?_
  intro p e s m args below meth c X hrt hnm hargs
  refine tv_iconst (v := 0) X dX10_releases_0 (by decide) ?_
  refine tv_istore_n X dX10_releases_1 rfl ?_
  refine tv_iconst (v := 0) X dX10_releases_2 (by decide) ?_
  refine tv_istore_n X dX10_releases_3 rfl ?_
  refine mm_st (S' := mset S 131 (zt (S.1 131) 0)) (by rw [zt_0, mset_self]) ?_
  refine mm_for 48 (fun i => [(0, .ref (n0 + 130)), (1, .int (rlN (S.1 131) i)), (2, .int (nI i))]) (fun i => mset S 131 (zt (S.1 131) i)) ?_ ?_
  · intro i hi ih
    dsimp only at ih
    have hrow : zt (S.1 131) i i = S.1 131 i := if_neg (Nat.lt_irrefl i)
    have hnx : rlN (S.1 131) (i + 1) = rlN (S.1 131) i + bz (!(decide (S.1 131 i = 0))) := rfl
    rw [hnx, ← zt_s (i := i)] at ih
    generalize zt (S.1 131) i = g at ih hrow ⊢
    refine tv_iload_n X dX10_releases_4 rfl ?_
    refine tv_bipush (v := 48) X dX10_releases_5 (by decide) ?_
    refine tv_icmp_ge (tgt := 44) X dX10_releases_7 (by decide) (fun h1 => ?_) (fun h1 => ?_)
    · exact absurd h1 (nI_ge (a := i) (b := 48) hi (by decide))
    refine tv_iload_n X dX10_releases_10 rfl ?_
    refine tv_aload_n X dX10_releases_11 rfl ?_
    refine mm_getf X dX10_releases_12 gX10 iX10_releases_X10 rfl 1 (by decide) kX10_releases_7 rfl ?_
    refine tv_iconst (v := 0) X dX10_releases_15 (by decide) ?_
    refine tv_iload_n X dX10_releases_16 rfl ?_
    refine tv_iadd X dX10_releases_17 ?_
    refine mm_iald X dX10_releases_18 g131 i (Int32.zero_add _) (by omega) (by decide) ?_
    rw [mset_s, hrow]
    by_cases h0 : S.1 131 i = 0
    · rw [decide_eq_true h0] at ih
      refine tv_if_ne (tgt := 26) X dX10_releases_19 (by decide) (fun h2 => ?_) (fun h2 => ?_)
      · exact absurd h0 h2
      refine tv_iconst (v := 0) X dX10_releases_22 (by decide) ?_
      refine tv_goto (tgt := 27) X dX10_releases_23 (by decide) ?_
      refine tv_iadd X dX10_releases_27 ?_
      refine tv_istore_n X dX10_releases_28 rfl ?_
      refine tv_aload_n X dX10_releases_29 rfl ?_
      refine mm_getf X dX10_releases_30 gX10 iX10_releases_X10 rfl 1 (by decide) kX10_releases_7 rfl ?_
      refine tv_iconst (v := 0) X dX10_releases_33 (by decide) ?_
      refine tv_iload_n X dX10_releases_34 rfl ?_
      refine tv_iadd X dX10_releases_35 ?_
      refine tv_iconst (v := 0) X dX10_releases_36 (by decide) ?_
      refine mm_iast X dX10_releases_37 g131 i (Int32.zero_add _) (by omega) (by decide) ?_
      refine tv_iinc X dX10_releases_38 rfl (nI_1 i) rfl ?_
      refine tv_goto (tgt := 4) X dX10_releases_41 (by decide) ?_
      rw [mupd_in]
      exact ih
    · rw [decide_eq_false h0] at ih
      refine tv_if_ne (tgt := 26) X dX10_releases_19 (by decide) (fun h2 => ?_) (fun h2 => ?_)
      rotate_left
      · exact absurd h2 h0
      refine tv_iconst (v := 1) X dX10_releases_26 (by decide) ?_
      refine tv_iadd X dX10_releases_27 ?_
      refine tv_istore_n X dX10_releases_28 rfl ?_
      refine tv_aload_n X dX10_releases_29 rfl ?_
      refine mm_getf X dX10_releases_30 gX10 iX10_releases_X10 rfl 1 (by decide) kX10_releases_7 rfl ?_
      refine tv_iconst (v := 0) X dX10_releases_33 (by decide) ?_
      refine tv_iload_n X dX10_releases_34 rfl ?_
      refine tv_iadd X dX10_releases_35 ?_
      refine tv_iconst (v := 0) X dX10_releases_36 (by decide) ?_
      refine mm_iast X dX10_releases_37 g131 i (Int32.zero_add _) (by omega) (by decide) ?_
      refine tv_iinc X dX10_releases_38 rfl (nI_1 i) rfl ?_
      refine tv_goto (tgt := 4) X dX10_releases_41 (by decide) ?_
      rw [mupd_in]
      exact ih
  · refine tv_iload_n X dX10_releases_4 rfl ?_
    refine tv_bipush (v := 48) X dX10_releases_5 (by decide) ?_
    refine tv_icmp_ge (tgt := 44) X dX10_releases_7 (by decide) (fun h1 => ?_) (fun h1 => ?_)
    · refine tv_iload_n X dX10_releases_44 rfl ?_
      exact tv_iret X hrt dX10_releases_45 ⟨_, rfl, rfl, rfl⟩
    · exact absurd (nI_le (Nat.le_refl 48) (by decide)) h1
theorem iX10_calibrates_X10 : ∀ w ∈ wsX100, w ∈ wsX10_calibrates := by decide +kernel
theorem kX10_calibrates_7 : Cond.fieldLink RX10 7 (TX10 1).1 (TX10 1).2.1 (TX10 1).2.2.1 ∈ wsX10_calibrates := by decide +kernel
theorem cX10_calibrates_ok : mMi l yX10_calibrates wsX10_calibrates rmX10_calibrates D n0 ft [.ref (n0 + 130)] n S (fun r S' => S' = mset S 131 (caF (S.1 131) 48) ∧ r = caN (S.1 131) 48) := by
  refine tv_enter (cc := cX10_calibrates) (maxL := 3) (ret := (some .int)) (by decide) rfl (Nat.le_of_ble_eq_true rfl) ?_
  intro p e s m args below meth c X hrt hnm hargs
  refine tv_iconst (v := 0) X dX10_calibrates_0 (by decide) ?_
  refine tv_istore_n X dX10_calibrates_1 rfl ?_
  refine tv_iconst (v := 0) X dX10_calibrates_2 (by decide) ?_
  refine tv_istore_n X dX10_calibrates_3 rfl ?_
  refine mm_st (S' := mset S 131 (caF (S.1 131) 0)) (by rw [caF_0, mset_self]) ?_
  refine mm_for 48 (fun i => [(0, .ref (n0 + 130)), (1, .int (caN (S.1 131) i)), (2, .int (nI i))]) (fun i => mset S 131 (caF (S.1 131) i)) ?_ ?_
  · intro i hi ih
    dsimp only at ih
    have hrow1 : caF (S.1 131) i i = S.1 131 i := if_neg (by omega)
    have hrow2 : caF (S.1 131) i (48 + i) = S.1 131 (48 + i) := if_neg (by omega)
    have hnx : caN (S.1 131) (i + 1) = caN (S.1 131) i + bz (!(decide (S.1 131 i = S.1 131 (48 + i)))) := rfl
    have hI : (48 : Int32) + nI i = nI (48 + i) := nI_add 48 i
    rw [hnx, ← caF_s (i := i)] at ih
    generalize caF (S.1 131) i = g at ih hrow1 hrow2 ⊢
    refine tv_iload_n X dX10_calibrates_4 rfl ?_
    refine tv_bipush (v := 48) X dX10_calibrates_5 (by decide) ?_
    refine tv_icmp_ge (tgt := 61) X dX10_calibrates_7 (by decide) (fun h1 => ?_) (fun h1 => ?_)
    · exact absurd h1 (nI_ge (a := i) (b := 48) hi (by decide))
    refine tv_iload_n X dX10_calibrates_10 rfl ?_
    refine tv_aload_n X dX10_calibrates_11 rfl ?_
    refine mm_getf X dX10_calibrates_12 gX10 iX10_calibrates_X10 rfl 1 (by decide) kX10_calibrates_7 rfl ?_
    refine tv_iconst (v := 0) X dX10_calibrates_15 (by decide) ?_
    refine tv_iload_n X dX10_calibrates_16 rfl ?_
    refine tv_iadd X dX10_calibrates_17 ?_
    refine mm_iald X dX10_calibrates_18 g131 i (Int32.zero_add _) (by omega) (by decide) ?_
    refine tv_aload_n X dX10_calibrates_19 rfl ?_
    refine mm_getf X dX10_calibrates_20 gX10 iX10_calibrates_X10 rfl 1 (by decide) kX10_calibrates_7 rfl ?_
    refine tv_bipush (v := 48) X dX10_calibrates_23 (by decide) ?_
    refine tv_iload_n X dX10_calibrates_25 rfl ?_
    refine tv_iadd X dX10_calibrates_26 ?_
    refine mm_iald X dX10_calibrates_27 g131 (48 + i) hI (by omega) (by decide) ?_
    rw [mset_s, hrow1, hrow2]
    by_cases h0 : S.1 131 i = S.1 131 (48 + i)
    · rw [decide_eq_true h0] at ih
      refine tv_icmp_ne (tgt := 35) X dX10_calibrates_28 (by decide) (fun h2 => ?_) (fun h2 => ?_)
      · exact absurd h0 h2
      refine tv_iconst (v := 0) X dX10_calibrates_31 (by decide) ?_
      refine tv_goto (tgt := 36) X dX10_calibrates_32 (by decide) ?_
      refine tv_iadd X dX10_calibrates_36 ?_
      refine tv_istore_n X dX10_calibrates_37 rfl ?_
      refine tv_aload_n X dX10_calibrates_38 rfl ?_
      refine mm_getf X dX10_calibrates_39 gX10 iX10_calibrates_X10 rfl 1 (by decide) kX10_calibrates_7 rfl ?_
      refine tv_bipush (v := 48) X dX10_calibrates_42 (by decide) ?_
      refine tv_iload_n X dX10_calibrates_44 rfl ?_
      refine tv_iadd X dX10_calibrates_45 ?_
      refine tv_aload_n X dX10_calibrates_46 rfl ?_
      refine mm_getf X dX10_calibrates_47 gX10 iX10_calibrates_X10 rfl 1 (by decide) kX10_calibrates_7 rfl ?_
      refine tv_iconst (v := 0) X dX10_calibrates_50 (by decide) ?_
      refine tv_iload_n X dX10_calibrates_51 rfl ?_
      refine tv_iadd X dX10_calibrates_52 ?_
      refine mm_iald X dX10_calibrates_53 g131 i (Int32.zero_add _) (by omega) (by decide) ?_
      rw [mset_s, hrow1]
      refine mm_iast X dX10_calibrates_54 g131 (48 + i) hI (by omega) (by decide) ?_
      refine tv_iinc X dX10_calibrates_55 rfl (nI_1 i) rfl ?_
      refine tv_goto (tgt := 4) X dX10_calibrates_58 (by decide) ?_
      rw [mupd_in]
      exact ih
    · rw [decide_eq_false h0] at ih
      refine tv_icmp_ne (tgt := 35) X dX10_calibrates_28 (by decide) (fun h2 => ?_) (fun h2 => ?_)
      rotate_left
      · exact absurd h2 h0
      refine tv_iconst (v := 1) X dX10_calibrates_35 (by decide) ?_
      refine tv_iadd X dX10_calibrates_36 ?_
      refine tv_istore_n X dX10_calibrates_37 rfl ?_
      refine tv_aload_n X dX10_calibrates_38 rfl ?_
      refine mm_getf X dX10_calibrates_39 gX10 iX10_calibrates_X10 rfl 1 (by decide) kX10_calibrates_7 rfl ?_
      refine tv_bipush (v := 48) X dX10_calibrates_42 (by decide) ?_
      refine tv_iload_n X dX10_calibrates_44 rfl ?_
      refine tv_iadd X dX10_calibrates_45 ?_
      refine tv_aload_n X dX10_calibrates_46 rfl ?_
      refine mm_getf X dX10_calibrates_47 gX10 iX10_calibrates_X10 rfl 1 (by decide) kX10_calibrates_7 rfl ?_
      refine tv_iconst (v := 0) X dX10_calibrates_50 (by decide) ?_
      refine tv_iload_n X dX10_calibrates_51 rfl ?_
      refine tv_iadd X dX10_calibrates_52 ?_
      refine mm_iald X dX10_calibrates_53 g131 i (Int32.zero_add _) (by omega) (by decide) ?_
      rw [mset_s, hrow1]
      refine mm_iast X dX10_calibrates_54 g131 (48 + i) hI (by omega) (by decide) ?_
      refine tv_iinc X dX10_calibrates_55 rfl (nI_1 i) rfl ?_
      refine tv_goto (tgt := 4) X dX10_calibrates_58 (by decide) ?_
      rw [mupd_in]
      exact ih
  · refine tv_iload_n X dX10_calibrates_4 rfl ?_
    refine tv_bipush (v := 48) X dX10_calibrates_5 (by decide) ?_
    refine tv_icmp_ge (tgt := 61) X dX10_calibrates_7 (by decide) (fun h1 => ?_) (fun h1 => ?_)
    · refine tv_iload_n X dX10_calibrates_61 rfl ?_
      exact tv_iret X hrt dX10_calibrates_62 ⟨_, rfl, rfl, rfl⟩
    · exact absurd (nI_le (Nat.le_refl 48) (by decide)) h1
end C34

