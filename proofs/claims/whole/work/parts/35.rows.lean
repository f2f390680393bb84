/-- the character at a place, 0 behind the text -/
def sgA (S : mS) (len a : Nat) : Int32 := if a < len then S.1 132 a else 0
theorem sgA_ag {S T : mS} (h : T.1 132 = S.1 132) (len a : Nat) : sgA T len a = sgA S len a := by
  unfold sgA
  rw [h]
theorem sgA_lt {S : mS} {len a : Nat} (h : ¬ sgA S len a = 0) : a < len := by
  refine Nat.lt_of_not_le fun hh => h ?_
  exact if_neg (Nat.not_lt.mpr hh)
theorem inI_ne {v lo hi : Int32} (h : inI v lo hi = true) {x : Int32} (hx : x < lo) : ¬ v = x := by
  unfold inI at h
  rw [Bool.and_eq_true, decide_eq_true_eq] at h
  intro e
  rw [e] at h
  exact absurd hx (Int32.not_lt.mpr h.1)
theorem inI_sub {v hi : Int32} (h : inI v 48 hi = true) : ¬ v - 48 = -1 := by
  intro e
  refine inI_ne h (x := 47) (by decide) ?_
  have := congrArg (· + 48) e
  simpa [Int32.sub_add_cancel] using this
theorem mupd_id {S : mS} {a k : Nat} {x : Int32} (h : S.1 a k = x) : mupd S a k x = S := by
  unfold mupd
  rw [show upd (S.1 a) k x = S.1 a from funext fun j => by
    unfold upd
    by_cases e : j = k
    · rw [if_pos e, e, h]
    · rw [if_neg e]]
  exact mset_self
theorem mupd_mupd {S : mS} {a k : Nat} {x y : Int32} : mupd (mupd S a k x) a k y = mupd S a k y := by
  unfold mupd
  rw [mset_s, mset_mset]
  rw [show upd (upd (S.1 a) k x) k y = upd (S.1 a) k y from funext fun j => by
    unfold upd
    by_cases e : j = k
    · rw [if_pos e, if_pos e]
    · rw [if_neg e, if_neg e, if_neg e]]
theorem mupd_comm {S : mS} {a k j : Nat} {x y : Int32} (h : k ≠ j) : mupd (mupd S a k x) a j y = mupd (mupd S a j y) a k x := by
  unfold mupd
  rw [mset_s, mset_s, mset_mset, mset_mset]
  rw [show upd (upd (S.1 a) k x) j y = upd (upd (S.1 a) j y) k x from funext fun i => by
    unfold upd
    by_cases e1 : i = j
    · rw [if_pos e1, if_neg (by omega), if_pos e1]
    · rw [if_neg e1]
      by_cases e2 : i = k
      · rw [if_pos e2, if_pos e2]
      · rw [if_neg e2, if_neg e2, if_neg e1]]
/-- reading on in a number -/
def frL (S : mS) (len : Nat) : Nat → Nat → Int32 → Nat × Int32
  | 0, a, v => (a, v)
  | m + 1, a, v => if inI (sgA S len a) 48 57 && decide (10 * v + sgA S len a - 48 ≤ 255) then frL S len m (a + 1) (10 * v + sgA S len a - 48) else (a, v)
theorem frL_ag {S T : mS} (h : T.1 132 = S.1 132) (len : Nat) : ∀ m a v, frL T len m a v = frL S len m a v
  | 0, _, _ => rfl
  | m + 1, a, v => by
    show (if inI (sgA T len a) 48 57 && decide (10 * v + sgA T len a - 48 ≤ 255) then frL T len m (a + 1) (10 * v + sgA T len a - 48) else (a, v)) = (if inI (sgA S len a) 48 57 && decide (10 * v + sgA S len a - 48 ≤ 255) then frL S len m (a + 1) (10 * v + sgA S len a - 48) else (a, v))
    rw [sgA_ag h, frL_ag h len m]
theorem frL_le {S : mS} {len : Nat} : ∀ m a v, a ≤ len → a ≤ (frL S len m a v).1 ∧ (frL S len m a v).1 ≤ len
  | 0, _, _, h => ⟨Nat.le_refl _, h⟩
  | m + 1, a, v, h => by
    show a ≤ (if inI (sgA S len a) 48 57 && decide (10 * v + sgA S len a - 48 ≤ 255) then frL S len m (a + 1) (10 * v + sgA S len a - 48) else (a, v)).1 ∧ (if inI (sgA S len a) 48 57 && decide (10 * v + sgA S len a - 48 ≤ 255) then frL S len m (a + 1) (10 * v + sgA S len a - 48) else (a, v)).1 ≤ len
    split
    · rename_i h1
      rw [Bool.and_eq_true] at h1
      have h2 : a < len := sgA_lt (inI_ne h1.1 (by decide))
      have := frL_le (S := S) m (a + 1) (10 * v + sgA S len a - 48) h2
      omega
    · exact ⟨Nat.le_refl _, h⟩
section C35
variable {l : Launch} {D : va_G} {n0 : Nat} {ft : Nat × Nat × Nat} {n : Nat} {S : mS} {b : Nat} {len a : Nat}
theorem iX10_sign_X10 : ∀ w ∈ wsX100, w ∈ wsX10_sign := by decide +kernel
theorem kX10_sign_13 : Cond.fieldLink RX10 13 (TX10 3).1 (TX10 3).2.1 (TX10 3).2.2.1 ∈ wsX10_sign := by decide +kernel
theorem kX10_sign_156 : Cond.fieldLink RX10 156 (TX10 4).1 (TX10 4).2.1 (TX10 4).2.2.1 ∈ wsX10_sign := by decide +kernel
theorem kX10_sign_159 : Cond.fieldLink RX10 159 (TX10 5).1 (TX10 5).2.1 (TX10 5).2.2.1 ∈ wsX10_sign := by decide +kernel
theorem cX10_sign_ok (hl : S.1 130 4 = nI len) (hl8 : len ≤ 80) (ha : S.1 130 5 = nI a) (hal : a ≤ len) : mMi l yX10_sign wsX10_sign rmX10_sign D n0 ft [.ref (n0 + 130)] n S (fun r S' => S' = S ∧ r = sgA S len a) := by
  refine tv_enter (cc := cX10_sign) (maxL := 1) (ret := (some .int)) (by decide) rfl (Nat.le_of_ble_eq_true rfl) ?_
  intro p e s m args below meth c X hrt hnm hargs
  refine tv_aload_n X dX10_sign_0 rfl ?_
  refine mm_getf X dX10_sign_1 gX10 iX10_sign_X10 rfl 5 (by decide) kX10_sign_159 rfl ?_
  refine tv_aload_n X dX10_sign_4 rfl ?_
  refine mm_getf X dX10_sign_5 gX10 iX10_sign_X10 rfl 4 (by decide) kX10_sign_156 rfl ?_
  rw [hl, ha]
  by_cases hlt : a < len
  · refine tv_icmp_ge (tgt := 23) X dX10_sign_8 (by decide) (fun h1 => ?_) (fun h1 => ?_)
    · exact absurd h1 (nI_ge hlt (by omega))
    refine tv_aload_n X dX10_sign_11 rfl ?_
    refine mm_getf X dX10_sign_12 gX10 iX10_sign_X10 rfl 3 (by decide) kX10_sign_13 rfl ?_
    refine tv_aload_n X dX10_sign_15 rfl ?_
    refine mm_getf X dX10_sign_16 gX10 iX10_sign_X10 rfl 5 (by decide) kX10_sign_159 rfl ?_
    rw [ha]
    refine mm_iald X dX10_sign_19 g132 a rfl (by omega) (by decide) ?_
    refine tv_goto (tgt := 24) X dX10_sign_20 (by decide) ?_
    exact tv_iret X hrt dX10_sign_24 ⟨_, rfl, rfl, (if_pos hlt).symm⟩
  · refine tv_icmp_ge (tgt := 23) X dX10_sign_8 (by decide) (fun h1 => ?_) (fun h1 => ?_)
    rotate_left
    · exact absurd (nI_le (Nat.le_of_not_lt hlt) (by omega)) h1
    refine tv_iconst (v := 0) X dX10_sign_23 (by decide) ?_
    exact tv_iret X hrt dX10_sign_24 ⟨_, rfl, rfl, (if_neg hlt).symm⟩
theorem iX10_takes_X10 : ∀ w ∈ wsX100, w ∈ wsX10_takes := by decide +kernel
theorem kX10_takes_159 : Cond.fieldLink RX10 159 (TX10 5).1 (TX10 5).2.1 (TX10 5).2.2.1 ∈ wsX10_takes := by decide +kernel
theorem cX10_takes_ok (hl : S.1 130 4 = nI len) (hl8 : len ≤ 80) (ha : S.1 130 5 = nI a) (hal : a ≤ len) (c1 : Int32) : mMi l yX10_takes wsX10_takes rmX10_takes D n0 ft [.ref (n0 + 130), .int c1] n S (fun r S' => (sgA S len a = c1 ∧ S' = mupd S 130 5 (nI (a + 1)) ∧ r = 1) ∨ (¬ sgA S len a = c1 ∧ S' = S ∧ r = 0)) := by
  refine tv_enter (cc := cX10_takes) (maxL := 3) (ret := (some .boolean)) (by decide) rfl (Nat.le_of_ble_eq_true rfl) ?_
  intro p e s m args below meth c X hrt hnm hargs
  refine tv_aload_n X dX10_takes_0 rfl ?_
  refine mm_callVi (q := (RX10, TX10, 20)) X dX10_takes_1 (cX10_sign_ok hl hl8 ha hal) (cwV 0 X.2.2.2.2.1 gX10_takes_X10_sign rfl rfl rfl (by decide +kernel) ⟨Nat.le_of_ble_eq_true rfl, Nat.le_of_ble_eq_true rfl⟩) rfl rfl gX10 rfl (Nat.le_of_ble_eq_true rfl) ⟨Nat.zero_le _, Nat.zero_le _⟩ (fun r S1 hq => ?_)
  obtain ⟨hq1, hq2⟩ := hq
  rw [hq1, hq2]
  clear hq1 hq2
  refine tv_iload_n X dX10_takes_4 rfl ?_
  by_cases he : sgA S len a = c1
  · refine tv_icmp_ne (tgt := 12) X dX10_takes_5 (by decide) (fun h1 => ?_) (fun h1 => ?_)
    · exact absurd he h1
    refine tv_iconst (v := 1) X dX10_takes_8 (by decide) ?_
    refine tv_goto (tgt := 13) X dX10_takes_9 (by decide) ?_
    refine tv_istore_n X dX10_takes_13 rfl ?_
    refine tv_aload_n X dX10_takes_14 rfl ?_
    refine tv_dup X dX10_takes_15 rfl ?_
    refine mm_getf X dX10_takes_16 gX10 iX10_takes_X10 rfl 5 (by decide) kX10_takes_159 rfl ?_
    refine tv_iload_n X dX10_takes_19 rfl ?_
    rw [ha]
    refine tv_if_eq (tgt := 27) X dX10_takes_20 (by decide) (fun h2 => ?_) (fun h2 => ?_)
    · exact absurd h2 (by decide)
    refine tv_iconst (v := 1) X dX10_takes_23 (by decide) ?_
    refine tv_goto (tgt := 28) X dX10_takes_24 (by decide) ?_
    refine tv_iadd X dX10_takes_28 ?_
    rw [nI_1]
    refine mm_put X dX10_takes_29 gX10 iX10_takes_X10 rfl tyX10 tyX10_ok nmX10 5 (by decide) kX10_takes_159 rfl rfl rfl (Nat.le_of_ble_eq_true rfl) rfl ?_
    refine tv_iload_n X dX10_takes_32 rfl ?_
    exact tv_zret X hrt dX10_takes_33 rfl ⟨_, rfl, Or.inl ⟨he, rfl, rfl⟩⟩
  · refine tv_icmp_ne (tgt := 12) X dX10_takes_5 (by decide) (fun h1 => ?_) (fun h1 => ?_)
    rotate_left
    · exact absurd h1 he
    refine tv_iconst (v := 0) X dX10_takes_12 (by decide) ?_
    refine tv_istore_n X dX10_takes_13 rfl ?_
    refine tv_aload_n X dX10_takes_14 rfl ?_
    refine tv_dup X dX10_takes_15 rfl ?_
    refine mm_getf X dX10_takes_16 gX10 iX10_takes_X10 rfl 5 (by decide) kX10_takes_159 rfl ?_
    refine tv_iload_n X dX10_takes_19 rfl ?_
    rw [ha]
    refine tv_if_eq (tgt := 27) X dX10_takes_20 (by decide) (fun h2 => ?_) (fun h2 => ?_)
    rotate_left
    · exact absurd rfl h2
    refine tv_iconst (v := 0) X dX10_takes_27 (by decide) ?_
    refine tv_iadd X dX10_takes_28 ?_
    rw [Int32.add_zero]
    refine mm_put X dX10_takes_29 gX10 iX10_takes_X10 rfl tyX10 tyX10_ok nmX10 5 (by decide) kX10_takes_159 rfl rfl rfl (Nat.le_of_ble_eq_true rfl) rfl ?_
    refine tv_iload_n X dX10_takes_32 rfl ?_
    exact tv_zret X hrt dX10_takes_33 rfl ⟨_, rfl, Or.inr ⟨he, mupd_id ha, rfl⟩⟩
theorem iX10_readsForce_X10 : ∀ w ∈ wsX100, w ∈ wsX10_readsForce := by decide +kernel
theorem kX10_readsForce_159 : Cond.fieldLink RX10 159 (TX10 5).1 (TX10 5).2.1 (TX10 5).2.2.1 ∈ wsX10_readsForce := by decide +kernel
theorem kX10_readsForce_165 : Cond.fieldLink RX10 165 (TX10 9).1 (TX10 9).2.1 (TX10 9).2.2.1 ∈ wsX10_readsForce := by decide +kernel
theorem cX10_readsForce_ok (hl : S.1 130 4 = nI len) (hl8 : len ≤ 80) (ha : S.1 130 5 = nI a) (hal : a ≤ len) : mMi l yX10_readsForce wsX10_readsForce rmX10_readsForce D n0 ft [.ref (n0 + 130)] n S (fun r S' => (inI (sgA S len a) 49 57 = true ∧ S' = mupd (mupd S 130 9 (frL S len (len - (a + 1)) (a + 1) (sgA S len a - 48)).2) 130 5 (nI (frL S len (len - (a + 1)) (a + 1) (sgA S len a - 48)).1) ∧ r = 1) ∨ (inI (sgA S len a) 49 57 = false ∧ S' = S ∧ r = 0)) := by
  refine tv_enter (cc := cX10_readsForce) (maxL := 1) (ret := (some .boolean)) (by decide) rfl (Nat.le_of_ble_eq_true rfl) ?_
  intro p e s m args below meth c X hrt hnm hargs
  refine tv_aload_n X dX10_readsForce_0 rfl ?_
  refine mm_callVi (q := (RX10, TX10, 20)) X dX10_readsForce_1 (cX10_sign_ok hl hl8 ha hal) (cwV 0 X.2.2.2.2.1 gX10_readsForce_X10_sign rfl rfl rfl (by decide +kernel) ⟨Nat.le_of_ble_eq_true rfl, Nat.le_of_ble_eq_true rfl⟩) rfl rfl gX10 rfl (Nat.le_of_ble_eq_true rfl) ⟨Nat.zero_le _, Nat.zero_le _⟩ (fun r S1 hq => ?_)
  obtain ⟨hq1, hq2⟩ := hq
  rw [hq1, hq2]
  clear hq1 hq2
  refine tv_bipush (v := 49) X dX10_readsForce_4 (by decide) ?_
  refine tv_bipush (v := 57) X dX10_readsForce_6 (by decide) ?_
  refine mm_callSi X dX10_readsForce_8 (cX10_in_ok _ _ _) (va_cwS 3 X.2.2.2.2.1 gX10_readsForce_X10_in rfl rfl rfl (by decide +kernel) ⟨Nat.le_of_ble_eq_true rfl, Nat.le_of_ble_eq_true rfl⟩) rfl rfl (Nat.le_of_ble_eq_true rfl) ⟨Nat.zero_le _, Nat.zero_le _⟩ (fun r S1 hq => ?_)
  obtain ⟨hq1, hq2⟩ := hq
  rw [hq1, hq2]
  clear hq1 hq2
  cases hi : inI (sgA S len a) 49 57 with
  | false =>
    refine tv_if_ne (tgt := 16) X dX10_readsForce_11 (by decide) (fun h1 => ?_) (fun h1 => ?_)
    · exact absurd rfl h1
    refine tv_iconst (v := 0) X dX10_readsForce_14 (by decide) ?_
    exact tv_zret X hrt dX10_readsForce_15 rfl ⟨_, rfl, Or.inr ⟨rfl, rfl, rfl⟩⟩
  | true =>
    have hlt : a < len := sgA_lt (inI_ne hi (by decide))
    refine tv_if_ne (tgt := 16) X dX10_readsForce_11 (by decide) (fun h1 => ?_) (fun h1 => ?_)
    rotate_left
    · exact absurd h1 (by decide)
    refine tv_aload_n X dX10_readsForce_16 rfl ?_
    refine tv_aload_n X dX10_readsForce_17 rfl ?_
    refine mm_callVi (q := (RX10, TX10, 20)) X dX10_readsForce_18 (cX10_sign_ok hl hl8 ha hal) (cwV 0 X.2.2.2.2.1 gX10_readsForce_X10_sign rfl rfl rfl (by decide +kernel) ⟨Nat.le_of_ble_eq_true rfl, Nat.le_of_ble_eq_true rfl⟩) rfl rfl gX10 rfl (Nat.le_of_ble_eq_true rfl) ⟨Nat.zero_le _, Nat.zero_le _⟩ (fun r S1 hq => ?_)
    obtain ⟨hq1, hq2⟩ := hq
    rw [hq1, hq2]
    clear hq1 hq2
    refine tv_bipush (v := 48) X dX10_readsForce_21 (by decide) ?_
    refine tv_isub X dX10_readsForce_23 ?_
    refine mm_put X dX10_readsForce_24 gX10 iX10_readsForce_X10 rfl tyX10 tyX10_ok nmX10 9 (by decide) kX10_readsForce_165 rfl rfl rfl (Nat.le_of_ble_eq_true rfl) rfl ?_
    refine tv_aload_n X dX10_readsForce_27 rfl ?_
    refine tv_dup X dX10_readsForce_28 rfl ?_
    refine mm_getf X dX10_readsForce_29 gX10 iX10_readsForce_X10 rfl 5 (by decide) kX10_readsForce_159 rfl ?_
    refine tv_iconst (v := 1) X dX10_readsForce_32 (by decide) ?_
    refine tv_iadd X dX10_readsForce_33 ?_
    rw [mupd_sn (by decide), ha, nI_1]
    refine mm_put X dX10_readsForce_34 gX10 iX10_readsForce_X10 rfl tyX10 tyX10_ok nmX10 5 (by decide) kX10_readsForce_159 rfl rfl rfl (Nat.le_of_ble_eq_true rfl) rfl ?_
    generalize hf : frL S len (len - (a + 1)) (a + 1) (sgA S len a - 48) = fin
    refine mm_loop (ι := Nat × Int32) (fun q => a + 1 ≤ q.1 ∧ q.1 ≤ len ∧ frL S len (len - q.1) q.1 q.2 = fin) (fun q => len - q.1) (fun _ => [(0, .ref (n0 + 130))]) (fun q => mupd (mupd S 130 9 q.2) 130 5 (nI q.1)) (a + 1, sgA S len a - 48) ⟨Nat.le_refl _, hlt, hf⟩ ?_
    intro q hq ih
    obtain ⟨a2, v⟩ := q
    obtain ⟨ha2, hl2, hf2⟩ := hq
    dsimp only at ha2 hl2 hf2 ⊢
    have hl' : (mupd (mupd S 130 9 v) 130 5 (nI a2)).1 130 4 = nI len := by rw [mupd_sn (by decide), mupd_sn (by decide)]; exact hl
    have ha' : (mupd (mupd S 130 9 v) 130 5 (nI a2)).1 130 5 = nI a2 := mupd_ss
    have h9 : (mupd (mupd S 130 9 v) 130 5 (nI a2)).1 130 9 = v := by rw [mupd_sn (by decide), mupd_ss]
    have hsg : sgA (mupd (mupd S 130 9 v) 130 5 (nI a2)) len a2 = sgA S len a2 := sgA_ag (by rw [mupd_n (by decide), mupd_n (by decide)]) _ _
    have hst : ∀ v2 : Int32, mupd (mupd (mupd (mupd S 130 9 v) 130 5 (nI a2)) 130 9 v2) 130 5 (nI (a2 + 1)) = mupd (mupd S 130 9 v2) 130 5 (nI (a2 + 1)) := fun v2 => by
      rw [mupd_comm (S := mupd S 130 9 v) (k := 5) (j := 9) (by decide), mupd_mupd, mupd_mupd]
    have hend : ∀ S' : mS, S' = mupd (mupd S 130 9 v) 130 5 (nI a2) → fin = (a2, v) → S' = mupd (mupd S 130 9 fin.2) 130 5 (nI fin.1) := fun S' h1 h2 => by rw [h2]; exact h1
    have hstep : a2 < len → frL S len (len - a2) a2 v = if inI (sgA S len a2) 48 57 && decide (10 * v + sgA S len a2 - 48 ≤ 255) then frL S len (len - (a2 + 1)) (a2 + 1) (10 * v + sgA S len a2 - 48) else (a2, v) := fun h => by
      rw [show len - a2 = len - (a2 + 1) + 1 by omega]; rfl
    have hstay : (¬ inI (sgA S len a2) 48 57 = true ∨ ¬ 10 * v + sgA S len a2 - 48 ≤ 255) → fin = (a2, v) := fun h => by
      rw [← hf2]
      by_cases hlt2 : a2 < len
      · rw [hstep hlt2]
        refine if_neg fun hh => ?_
        rw [Bool.and_eq_true, decide_eq_true_eq] at hh
        exact h.elim (fun h => h hh.1) (fun h => h hh.2)
      · rw [show len - a2 = 0 by omega]; rfl
    generalize mupd (mupd S 130 9 v) 130 5 (nI a2) = T at hl' ha' h9 hsg hst hend ⊢
    refine tv_aload_n X dX10_readsForce_37 rfl ?_
    refine mm_callVi (q := (RX10, TX10, 20)) X dX10_readsForce_38 (cX10_sign_ok hl' hl8 ha' hl2) (cwV 0 X.2.2.2.2.1 gX10_readsForce_X10_sign rfl rfl rfl (by decide +kernel) ⟨Nat.le_of_ble_eq_true rfl, Nat.le_of_ble_eq_true rfl⟩) rfl rfl gX10 rfl (Nat.le_of_ble_eq_true rfl) ⟨Nat.zero_le _, Nat.zero_le _⟩ (fun r S1 hq => ?_)
    obtain ⟨hq1, hq2⟩ := hq
    rw [hq1, hq2, hsg]
    clear hq1 hq2
    refine tv_bipush (v := 48) X dX10_readsForce_41 (by decide) ?_
    refine tv_bipush (v := 57) X dX10_readsForce_43 (by decide) ?_
    refine mm_callSi X dX10_readsForce_45 (cX10_in_ok _ _ _) (va_cwS 3 X.2.2.2.2.1 gX10_readsForce_X10_in rfl rfl rfl (by decide +kernel) ⟨Nat.le_of_ble_eq_true rfl, Nat.le_of_ble_eq_true rfl⟩) rfl rfl (Nat.le_of_ble_eq_true rfl) ⟨Nat.zero_le _, Nat.zero_le _⟩ (fun r S1 hq => ?_)
    obtain ⟨hq1, hq2⟩ := hq
    rw [hq1, hq2]
    clear hq1 hq2
    cases hi2 : inI (sgA S len a2) 48 57 with
    | false =>
      refine tv_if_eq (tgt := 104) X dX10_readsForce_48 (by decide) (fun h2 => ?_) (fun h2 => ?_)
      rotate_left
      · exact absurd rfl h2
      refine tv_iconst (v := 1) X dX10_readsForce_104 (by decide) ?_
      exact tv_zret X hrt dX10_readsForce_105 rfl ⟨_, rfl, Or.inl ⟨rfl, hend _ rfl (hstay (Or.inl (by rw [hi2]; decide))), rfl⟩⟩
    | true =>
      have hlt2 : a2 < len := sgA_lt (inI_ne hi2 (by decide))
      refine tv_if_eq (tgt := 104) X dX10_readsForce_48 (by decide) (fun h2 => ?_) (fun h2 => ?_)
      · exact absurd h2 (by decide)
      refine tv_bipush (v := 10) X dX10_readsForce_51 (by decide) ?_
      refine tv_aload_n X dX10_readsForce_53 rfl ?_
      refine mm_getf X dX10_readsForce_54 gX10 iX10_readsForce_X10 rfl 9 (by decide) kX10_readsForce_165 rfl ?_
      refine tv_imul X dX10_readsForce_57 ?_
      refine tv_aload_n X dX10_readsForce_58 rfl ?_
      rw [h9]
      refine mm_callVi (q := (RX10, TX10, 20)) X dX10_readsForce_59 (cX10_sign_ok hl' hl8 ha' hl2) (cwV 0 X.2.2.2.2.1 gX10_readsForce_X10_sign rfl rfl rfl (by decide +kernel) ⟨Nat.le_of_ble_eq_true rfl, Nat.le_of_ble_eq_true rfl⟩) rfl rfl gX10 rfl (Nat.le_of_ble_eq_true rfl) ⟨Nat.zero_le _, Nat.zero_le _⟩ (fun r S1 hq => ?_)
      obtain ⟨hq1, hq2⟩ := hq
      rw [hq1, hq2, hsg]
      clear hq1 hq2
      refine tv_iadd X dX10_readsForce_62 ?_
      refine tv_bipush (v := 48) X dX10_readsForce_63 (by decide) ?_
      refine tv_isub X dX10_readsForce_65 ?_
      refine tv_sipush (v := 255) X dX10_readsForce_66 (by decide) ?_
      refine tv_icmp_gt (tgt := 104) X dX10_readsForce_69 (by decide) (fun h3 => ?_) (fun h3 => ?_)
      · refine tv_iconst (v := 1) X dX10_readsForce_104 (by decide) ?_
        exact tv_zret X hrt dX10_readsForce_105 rfl ⟨_, rfl, Or.inl ⟨rfl, hend _ rfl (hstay (Or.inr (Int32.not_le.mpr h3))), rfl⟩⟩
      · refine tv_aload_n X dX10_readsForce_72 rfl ?_
        refine tv_bipush (v := 10) X dX10_readsForce_73 (by decide) ?_
        refine tv_aload_n X dX10_readsForce_75 rfl ?_
        refine mm_getf X dX10_readsForce_76 gX10 iX10_readsForce_X10 rfl 9 (by decide) kX10_readsForce_165 rfl ?_
        refine tv_imul X dX10_readsForce_79 ?_
        refine tv_aload_n X dX10_readsForce_80 rfl ?_
        rw [h9]
        refine mm_callVi (q := (RX10, TX10, 20)) X dX10_readsForce_81 (cX10_sign_ok hl' hl8 ha' hl2) (cwV 0 X.2.2.2.2.1 gX10_readsForce_X10_sign rfl rfl rfl (by decide +kernel) ⟨Nat.le_of_ble_eq_true rfl, Nat.le_of_ble_eq_true rfl⟩) rfl rfl gX10 rfl (Nat.le_of_ble_eq_true rfl) ⟨Nat.zero_le _, Nat.zero_le _⟩ (fun r S1 hq => ?_)
        obtain ⟨hq1, hq2⟩ := hq
        rw [hq1, hq2, hsg]
        clear hq1 hq2
        refine tv_iadd X dX10_readsForce_84 ?_
        refine tv_bipush (v := 48) X dX10_readsForce_85 (by decide) ?_
        refine tv_isub X dX10_readsForce_87 ?_
        refine mm_put X dX10_readsForce_88 gX10 iX10_readsForce_X10 rfl tyX10 tyX10_ok nmX10 9 (by decide) kX10_readsForce_165 rfl rfl rfl (Nat.le_of_ble_eq_true rfl) rfl ?_
        refine tv_aload_n X dX10_readsForce_91 rfl ?_
        refine tv_dup X dX10_readsForce_92 rfl ?_
        refine mm_getf X dX10_readsForce_93 gX10 iX10_readsForce_X10 rfl 5 (by decide) kX10_readsForce_159 rfl ?_
        refine tv_iconst (v := 1) X dX10_readsForce_96 (by decide) ?_
        refine tv_iadd X dX10_readsForce_97 ?_
        rw [mupd_sn (by decide), ha', nI_1]
        refine mm_put X dX10_readsForce_98 gX10 iX10_readsForce_X10 rfl tyX10 tyX10_ok nmX10 5 (by decide) kX10_readsForce_159 rfl rfl rfl (Nat.le_of_ble_eq_true rfl) rfl ?_
        refine tv_goto (tgt := 37) X dX10_readsForce_101 (by decide) ?_
        rw [hst]
        refine ih (a2 + 1, 10 * v + sgA S len a2 - 48) ⟨by show a + 1 ≤ a2 + 1; omega, hlt2, ?_⟩ (by show len - (a2 + 1) < len - a2; omega)
        show frL S len (len - (a2 + 1)) (a2 + 1) (10 * v + sgA S len a2 - 48) = fin
        rw [← hf2, hstep hlt2, hi2, decide_eq_true (Int32.not_lt.mp h3)]
        rfl
end C35

