theorem in_ix {x : Int32} {N : Nat} (hN : N + 1 < 2 ^ 31) : (0 ≤ x ∧ x ≤ nI N) ↔ ∃ j, j < N + 1 ∧ x = nI j := by
  constructor
  · rintro ⟨h1, h2⟩
    obtain ⟨j, hj, he⟩ := nI_of2 (M := nI N) (n := N) (nI_toInt (by omega)) (Int32.not_lt.mpr h1) h2
    exact ⟨j, by omega, he⟩
  · rintro ⟨j, hj, rfl⟩
    exact ⟨nI_pos' (by omega), nI_le (by omega) (by omega)⟩
def inI (v lo hi : Int32) : Bool := decide (lo ≤ v) && decide (v ≤ hi)
def bz (q : Bool) : Int32 := if q then 1 else 0
theorem bz_n (q : Bool) : narrow .boolean (.int (bz q)) = .int (bz q) := by cases q <;> rfl
def sgR (S : mS) (j : Nat) : Int32 := if S.1 131 j - S.1 131 (48 + j) < 0 then 0 else S.1 131 j - S.1 131 (48 + j)
/-- how far two cells are from one another -/
def apI (c o : Nat) : Int32 := if inI (nI (c / 6) - nI (o / 6)) (-1) 1 && inI (nI (c % 6) - nI (o % 6)) (-1) 1 then (nI (c / 6) - nI (o / 6)) * (nI (c / 6) - nI (o / 6)) + (nI (c % 6) - nI (o % 6)) * (nI (c % 6) - nI (o % 6)) else 3
section C27
variable {l : Launch} {D : va_G} {n0 : Nat} {ft : Nat × Nat × Nat} {n : Nat} {S : mS} {b : Nat}
theorem iX10_thrown_X10 : ∀ w ∈ wsX100, w ∈ wsX10_thrown := by decide +kernel
theorem kX10_thrown_43 : Cond.fieldLink RX10 43 (TX10 0).1 (TX10 0).2.1 (TX10 0).2.2.1 ∈ wsX10_thrown := by decide +kernel
theorem cX10_thrown_ok : mMi l yX10_thrown wsX10_thrown rmX10_thrown D n0 ft [.ref (n0 + 130)] n S (fun r S' => S' = S ∧ r = S.1 130 0) := by
  refine tv_enter (cc := cX10_thrown) (maxL := 1) (ret := (some .int)) (by decide) rfl (Nat.le_of_ble_eq_true rfl) ?_
  intro p e s m args below meth c X hrt hnm hargs
  refine tv_aload_n X dX10_thrown_0 rfl ?_
  refine mm_getf X dX10_thrown_1 gX10 iX10_thrown_X10 rfl 0 (by decide) kX10_thrown_43 rfl ?_
  exact tv_iret X hrt dX10_thrown_4 ⟨_, rfl, rfl, rfl⟩
theorem cX10_in_ok (v lo hi : Int32) : mMi l yX10_in wsX10_in rmX10_in D n0 ft [.int v, .int lo, .int hi] n S (fun r S' => S' = S ∧ r = bz (inI v lo hi)) := by
  refine tv_enter (cc := cX10_in) (maxL := 3) (ret := (some .boolean)) (by decide) rfl (Nat.le_of_ble_eq_true rfl) ?_
  intro p e s m args below meth c X hrt hnm hargs
  refine tv_iload_n X dX10_in_0 rfl ?_
  refine tv_iload_n X dX10_in_1 rfl ?_
  refine tv_icmp_lt (tgt := 14) X dX10_in_2 (by decide) (fun h1 => ?_) (fun h1 => ?_)
  · refine tv_iconst (v := 0) X dX10_in_14 (by decide) ?_
    refine tv_zret X hrt dX10_in_15 rfl ⟨_, rfl, rfl, ?_⟩
    unfold bz inI
    rw [decide_eq_false (Int32.not_le.mpr h1)]; rfl
  refine tv_iload_n X dX10_in_5 rfl ?_
  refine tv_iload_n X dX10_in_6 rfl ?_
  refine tv_icmp_gt (tgt := 14) X dX10_in_7 (by decide) (fun h2 => ?_) (fun h2 => ?_)
  · refine tv_iconst (v := 0) X dX10_in_14 (by decide) ?_
    refine tv_zret X hrt dX10_in_15 rfl ⟨_, rfl, rfl, ?_⟩
    unfold bz inI
    rw [decide_eq_false (Int32.not_le.mpr h2), Bool.and_false]; rfl
  · refine tv_iconst (v := 1) X dX10_in_10 (by decide) ?_
    refine tv_goto (tgt := 15) X dX10_in_11 (by decide) ?_
    refine tv_zret X hrt dX10_in_15 rfl ⟨_, rfl, rfl, ?_⟩
    unfold bz inI
    rw [decide_eq_true (Int32.not_lt.mp h1), decide_eq_true (Int32.not_lt.mp h2)]; rfl
theorem iX10_holds_X10 : ∀ w ∈ wsX100, w ∈ wsX10_holds := by decide +kernel
theorem kX10_holds_43 : Cond.fieldLink RX10 43 (TX10 0).1 (TX10 0).2.1 (TX10 0).2.2.1 ∈ wsX10_holds := by decide +kernel
theorem cX10_holds_ok (v : Int32) : mMi l yX10_holds wsX10_holds rmX10_holds D n0 ft [.ref (n0 + 130), .int v] n S (fun r S' => S' = mupd S 130 0 v ∧ r = bz (decide (v = 0))) := by
  refine tv_enter (cc := cX10_holds) (maxL := 2) (ret := (some .boolean)) (by decide) rfl (Nat.le_of_ble_eq_true rfl) ?_
  intro p e s m args below meth c X hrt hnm hargs
  refine tv_aload_n X dX10_holds_0 rfl ?_
  refine tv_iload_n X dX10_holds_1 rfl ?_
  refine mm_put X dX10_holds_2 gX10 iX10_holds_X10 rfl tyX10 tyX10_ok nmX10 0 (by decide) kX10_holds_43 rfl rfl rfl (Nat.le_of_ble_eq_true rfl) rfl ?_
  refine tv_iload_n X dX10_holds_5 rfl ?_
  refine tv_if_ne (tgt := 13) X dX10_holds_6 (by decide) (fun h1 => ?_) (fun h1 => ?_)
  · refine tv_iconst (v := 0) X dX10_holds_13 (by decide) ?_
    exact tv_zret X hrt dX10_holds_14 rfl ⟨_, rfl, rfl, by rw [decide_eq_false h1]; rfl⟩
  · refine tv_iconst (v := 1) X dX10_holds_9 (by decide) ?_
    refine tv_goto (tgt := 14) X dX10_holds_10 (by decide) ?_
    exact tv_zret X hrt dX10_holds_14 rfl ⟨_, rfl, rfl, by rw [decide_eq_true h1]; rfl⟩
theorem cX10_isCell_ok (x y : Int32) : mMi l yX10_isCell wsX10_isCell rmX10_isCell D n0 ft [.int x, .int y] n S (fun r S' => S' = S ∧ ((r = 1 ∧ onP x y) ∨ (r = 0 ∧ ¬ onP x y))) := by
  have k1 : inI x 0 7 = true ↔ ∃ j, j < 8 ∧ x = nI j := by
    unfold inI
    rw [Bool.and_eq_true, decide_eq_true_iff, decide_eq_true_iff]
    exact in_ix (N := 7) (by decide)
  have k2 : inI y 0 5 = true ↔ ∃ j, j < 6 ∧ y = nI j := by
    unfold inI
    rw [Bool.and_eq_true, decide_eq_true_iff, decide_eq_true_iff]
    exact in_ix (N := 5) (by decide)
  refine tv_enter (cc := cX10_isCell) (maxL := 2) (ret := (some .boolean)) (by decide) rfl (Nat.le_of_ble_eq_true rfl) ?_
  intro p e s m args below meth c X hrt hnm hargs
  refine tv_iload_n X dX10_isCell_0 rfl ?_
  refine tv_iconst (v := 0) X dX10_isCell_1 (by decide) ?_
  refine tv_bipush (v := 7) X dX10_isCell_2 (by decide) ?_
  refine mm_callSi X dX10_isCell_4 (cX10_in_ok _ _ _) (va_cwS 3 X.2.2.2.2.1 gX10_isCell_X10_in rfl rfl rfl (by decide +kernel) ⟨Nat.le_of_ble_eq_true rfl, Nat.le_of_ble_eq_true rfl⟩) rfl rfl (Nat.le_of_ble_eq_true rfl) ⟨Nat.zero_le _, Nat.zero_le _⟩ (fun r S1 hq => ?_)
  obtain ⟨hq1, hq2⟩ := hq
  rw [hq1, hq2]
  clear hq1 hq2
  cases hx : inI x 0 7 with
  | false =>
    refine tv_if_eq (tgt := 23) X dX10_isCell_7 (by decide) (fun h1 => ?_) (fun h1 => ?_)
    rotate_left
    · exact absurd rfl h1
    refine tv_iconst (v := 0) X dX10_isCell_23 (by decide) ?_
    exact tv_zret X hrt dX10_isCell_24 rfl ⟨_, rfl, rfl, Or.inr ⟨rfl, fun h => by have := k1.mpr h.1; rw [hx] at this; cases this⟩⟩
  | true =>
    refine tv_if_eq (tgt := 23) X dX10_isCell_7 (by decide) (fun h1 => ?_) (fun h1 => ?_)
    · exact absurd h1 (by decide)
    refine tv_iload_n X dX10_isCell_10 rfl ?_
    refine tv_iconst (v := 0) X dX10_isCell_11 (by decide) ?_
    refine tv_iconst (v := 5) X dX10_isCell_12 (by decide) ?_
    refine mm_callSi X dX10_isCell_13 (cX10_in_ok _ _ _) (va_cwS 3 X.2.2.2.2.1 gX10_isCell_X10_in rfl rfl rfl (by decide +kernel) ⟨Nat.le_of_ble_eq_true rfl, Nat.le_of_ble_eq_true rfl⟩) rfl rfl (Nat.le_of_ble_eq_true rfl) ⟨Nat.zero_le _, Nat.zero_le _⟩ (fun r S1 hq => ?_)
    obtain ⟨hq1, hq2⟩ := hq
    rw [hq1, hq2]
    clear hq1 hq2
    cases hy : inI y 0 5 with
    | false =>
      refine tv_if_eq (tgt := 23) X dX10_isCell_16 (by decide) (fun h1 => ?_) (fun h1 => ?_)
      rotate_left
      · exact absurd rfl h1
      refine tv_iconst (v := 0) X dX10_isCell_23 (by decide) ?_
      exact tv_zret X hrt dX10_isCell_24 rfl ⟨_, rfl, rfl, Or.inr ⟨rfl, fun h => by have := k2.mpr h.2; rw [hy] at this; cases this⟩⟩
    | true =>
      refine tv_if_eq (tgt := 23) X dX10_isCell_16 (by decide) (fun h1 => ?_) (fun h1 => ?_)
      · exact absurd h1 (by decide)
      refine tv_iconst (v := 1) X dX10_isCell_19 (by decide) ?_
      refine tv_goto (tgt := 24) X dX10_isCell_20 (by decide) ?_
      exact tv_zret X hrt dX10_isCell_24 rfl ⟨_, rfl, rfl, Or.inl ⟨rfl, k1.mp hx, k2.mp hy⟩⟩
theorem iX10_signalOf_X10 : ∀ w ∈ wsX100, w ∈ wsX10_signalOf := by decide +kernel
theorem kX10_signalOf_7 : Cond.fieldLink RX10 7 (TX10 1).1 (TX10 1).2.1 (TX10 1).2.2.1 ∈ wsX10_signalOf := by decide +kernel
theorem cX10_signalOf_ok {j : Nat} (hj : j < 48) : mMi l yX10_signalOf wsX10_signalOf rmX10_signalOf D n0 ft [.ref (n0 + 130), .int (nI j)] n S (fun r S' => S' = S ∧ r = sgR S j) := by
  refine tv_enter (cc := cX10_signalOf) (maxL := 3) (ret := (some .int)) (by decide) rfl (Nat.le_of_ble_eq_true rfl) ?_
  intro p e s m args below meth c X hrt hnm hargs
  refine tv_aload_n X dX10_signalOf_0 rfl ?_
  refine mm_getf X dX10_signalOf_1 gX10 iX10_signalOf_X10 rfl 1 (by decide) kX10_signalOf_7 rfl ?_
  refine tv_iconst (v := 0) X dX10_signalOf_4 (by decide) ?_
  refine tv_iload_n X dX10_signalOf_5 rfl ?_
  refine tv_iadd X dX10_signalOf_6 ?_
  rw [Int32.zero_add]
  refine mm_iald X dX10_signalOf_7 g131 j rfl (by omega) (by decide) ?_
  refine tv_aload_n X dX10_signalOf_8 rfl ?_
  refine mm_getf X dX10_signalOf_9 gX10 iX10_signalOf_X10 rfl 1 (by decide) kX10_signalOf_7 rfl ?_
  refine tv_bipush (v := 48) X dX10_signalOf_12 (by decide) ?_
  refine tv_iload_n X dX10_signalOf_14 rfl ?_
  refine tv_iadd X dX10_signalOf_15 ?_
  rw [show (48 : Int32) + nI j = nI (48 + j) from nI_add 48 j]
  refine mm_iald X dX10_signalOf_16 g131 (48 + j) rfl (by omega) (by decide) ?_
  refine tv_isub X dX10_signalOf_17 ?_
  refine tv_istore_n X dX10_signalOf_18 rfl ?_
  refine tv_iload_n X dX10_signalOf_19 rfl ?_
  refine tv_if_ge (tgt := 27) X dX10_signalOf_20 (by decide) (fun h1 => ?_) (fun h1 => ?_)
  · refine tv_iload_n X dX10_signalOf_27 rfl ?_
    exact tv_iret X hrt dX10_signalOf_28 ⟨_, rfl, rfl, (if_neg (Int32.not_lt.mpr h1)).symm⟩
  · refine tv_iconst (v := 0) X dX10_signalOf_23 (by decide) ?_
    refine tv_goto (tgt := 28) X dX10_signalOf_24 (by decide) ?_
    exact tv_iret X hrt dX10_signalOf_28 ⟨_, rfl, rfl, (if_pos (Int32.not_le.mp h1)).symm⟩
theorem iX10_isTouched_X10 : ∀ w ∈ wsX100, w ∈ wsX10_isTouched := by decide +kernel
theorem kX10_isTouched_7 : Cond.fieldLink RX10 7 (TX10 1).1 (TX10 1).2.1 (TX10 1).2.2.1 ∈ wsX10_isTouched := by decide +kernel
theorem cX10_isTouched_ok {j : Nat} (hj : j < 48) : mMi l yX10_isTouched wsX10_isTouched rmX10_isTouched D n0 ft [.ref (n0 + 130), .int (nI j)] n S (fun r S' => S' = S ∧ r = bz (decide (S.1 131 96 ≤ sgR S j))) := by
  refine tv_enter (cc := cX10_isTouched) (maxL := 2) (ret := (some .boolean)) (by decide) rfl (Nat.le_of_ble_eq_true rfl) ?_
  intro p e s m args below meth c X hrt hnm hargs
  refine tv_aload_n X dX10_isTouched_0 rfl ?_
  refine tv_iload_n X dX10_isTouched_1 rfl ?_
  refine mm_callVi (q := (RX10, TX10, 20)) X dX10_isTouched_2 (cX10_signalOf_ok hj) (cwV 1 X.2.2.2.2.1 gX10_isTouched_X10_signalOf rfl rfl rfl (by decide +kernel) ⟨Nat.le_of_ble_eq_true rfl, Nat.le_of_ble_eq_true rfl⟩) rfl rfl gX10 rfl (Nat.le_of_ble_eq_true rfl) ⟨Nat.zero_le _, Nat.zero_le _⟩ (fun r S1 hq => ?_)
  obtain ⟨hq1, hq2⟩ := hq
  rw [hq1, hq2]
  refine tv_aload_n X dX10_isTouched_5 rfl ?_
  refine mm_getf X dX10_isTouched_6 gX10 iX10_isTouched_X10 rfl 1 (by decide) kX10_isTouched_7 rfl ?_
  refine tv_bipush (v := 96) X dX10_isTouched_9 (by decide) ?_
  refine mm_iald X dX10_isTouched_11 g131 96 (by decide) (by decide) (by decide) ?_
  refine tv_icmp_lt (tgt := 19) X dX10_isTouched_12 (by decide) (fun h1 => ?_) (fun h1 => ?_)
  · refine tv_iconst (v := 0) X dX10_isTouched_19 (by decide) ?_
    exact tv_zret X hrt dX10_isTouched_20 rfl ⟨_, rfl, rfl, by rw [decide_eq_false (Int32.not_le.mpr h1)]; rfl⟩
  · refine tv_iconst (v := 1) X dX10_isTouched_15 (by decide) ?_
    refine tv_goto (tgt := 20) X dX10_isTouched_16 (by decide) ?_
    exact tv_zret X hrt dX10_isTouched_20 rfl ⟨_, rfl, rfl, by rw [decide_eq_true (Int32.not_lt.mp h1)]; rfl⟩
theorem cX10_apart_ok {c1 o1 : Nat} (hc : c1 < 48) (ho : o1 < 48) : mMi l yX10_apart wsX10_apart rmX10_apart D n0 ft [.int (nI c1), .int (nI o1)] n S (fun r S' => S' = S ∧ r = apI c1 o1) := by
  refine tv_enter (cc := cX10_apart) (maxL := 4) (ret := (some .int)) (by decide) rfl (Nat.le_of_ble_eq_true rfl) ?_
  intro p e s m args below meth c X hrt hnm hargs
  refine tv_iload_n X dX10_apart_0 rfl ?_
  refine tv_bipush (v := 6) X dX10_apart_1 (by decide) ?_
  refine tv_idiv X dX10_apart_3 (by decide) ?_
  refine tv_iload_n X dX10_apart_4 rfl ?_
  refine tv_bipush (v := 6) X dX10_apart_5 (by decide) ?_
  refine tv_idiv X dX10_apart_7 (by decide) ?_
  rw [div6 hc, div6 ho]
  refine tv_isub X dX10_apart_8 ?_
  refine tv_istore_n X dX10_apart_9 rfl ?_
  refine tv_iload_n X dX10_apart_10 rfl ?_
  refine tv_bipush (v := 6) X dX10_apart_11 (by decide) ?_
  refine tv_irem X dX10_apart_13 (by decide) ?_
  refine tv_iload_n X dX10_apart_14 rfl ?_
  refine tv_bipush (v := 6) X dX10_apart_15 (by decide) ?_
  refine tv_irem X dX10_apart_17 (by decide) ?_
  rw [rem6 hc, rem6 ho]
  refine tv_isub X dX10_apart_18 ?_
  refine tv_istore_n X dX10_apart_19 rfl ?_
  refine tv_iload_n X dX10_apart_20 rfl ?_
  refine tv_iconst (v := -1) X dX10_apart_21 (by decide) ?_
  refine tv_iconst (v := 1) X dX10_apart_22 (by decide) ?_
  refine mm_callSi X dX10_apart_23 (cX10_in_ok _ _ _) (va_cwS 3 X.2.2.2.2.1 gX10_apart_X10_in rfl rfl rfl (by decide +kernel) ⟨Nat.le_of_ble_eq_true rfl, Nat.le_of_ble_eq_true rfl⟩) rfl rfl (Nat.le_of_ble_eq_true rfl) ⟨Nat.zero_le _, Nat.zero_le _⟩ (fun r S1 hq => ?_)
  obtain ⟨hq1, hq2⟩ := hq
  rw [hq1, hq2]
  clear hq1 hq2
  cases hx : inI (nI (c1 / 6) - nI (o1 / 6)) (-1) 1 with
  | false =>
    have hA : apI c1 o1 = 3 := by unfold apI; rw [hx]; rfl
    refine tv_if_eq (tgt := 48) X dX10_apart_26 (by decide) (fun h1 => ?_) (fun h1 => ?_)
    rotate_left
    · exact absurd rfl h1
    refine tv_iconst (v := 3) X dX10_apart_48 (by decide) ?_
    exact tv_iret X hrt dX10_apart_49 ⟨_, rfl, rfl, hA.symm⟩
  | true =>
    refine tv_if_eq (tgt := 48) X dX10_apart_26 (by decide) (fun h1 => ?_) (fun h1 => ?_)
    · exact absurd h1 (by decide)
    refine tv_iload_n X dX10_apart_29 rfl ?_
    refine tv_iconst (v := -1) X dX10_apart_30 (by decide) ?_
    refine tv_iconst (v := 1) X dX10_apart_31 (by decide) ?_
    refine mm_callSi X dX10_apart_32 (cX10_in_ok _ _ _) (va_cwS 3 X.2.2.2.2.1 gX10_apart_X10_in rfl rfl rfl (by decide +kernel) ⟨Nat.le_of_ble_eq_true rfl, Nat.le_of_ble_eq_true rfl⟩) rfl rfl (Nat.le_of_ble_eq_true rfl) ⟨Nat.zero_le _, Nat.zero_le _⟩ (fun r S1 hq => ?_)
    obtain ⟨hq1, hq2⟩ := hq
    rw [hq1, hq2]
    clear hq1 hq2
    cases hy : inI (nI (c1 % 6) - nI (o1 % 6)) (-1) 1 with
    | false =>
      have hA : apI c1 o1 = 3 := by unfold apI; rw [hx, hy]; rfl
      refine tv_if_eq (tgt := 48) X dX10_apart_35 (by decide) (fun h1 => ?_) (fun h1 => ?_)
      rotate_left
      · exact absurd rfl h1
      refine tv_iconst (v := 3) X dX10_apart_48 (by decide) ?_
      exact tv_iret X hrt dX10_apart_49 ⟨_, rfl, rfl, hA.symm⟩
    | true =>
      have hA : apI c1 o1 = (nI (c1 / 6) - nI (o1 / 6)) * (nI (c1 / 6) - nI (o1 / 6)) + (nI (c1 % 6) - nI (o1 % 6)) * (nI (c1 % 6) - nI (o1 % 6)) := by unfold apI; rw [hx, hy]; rfl
      refine tv_if_eq (tgt := 48) X dX10_apart_35 (by decide) (fun h1 => ?_) (fun h1 => ?_)
      · exact absurd h1 (by decide)
      refine tv_iload_n X dX10_apart_38 rfl ?_
      refine tv_iload_n X dX10_apart_39 rfl ?_
      refine tv_imul X dX10_apart_40 ?_
      refine tv_iload_n X dX10_apart_41 rfl ?_
      refine tv_iload_n X dX10_apart_42 rfl ?_
      refine tv_imul X dX10_apart_43 ?_
      refine tv_iadd X dX10_apart_44 ?_
      refine tv_goto (tgt := 49) X dX10_apart_45 (by decide) ?_
      exact tv_iret X hrt dX10_apart_49 ⟨_, rfl, rfl, hA.symm⟩
theorem iX10_kindOf_X10 : ∀ w ∈ wsX100, w ∈ wsX10_kindOf := by decide +kernel
theorem kX10_kindOf_7 : Cond.fieldLink RX10 7 (TX10 1).1 (TX10 1).2.1 (TX10 1).2.2.1 ∈ wsX10_kindOf := by decide +kernel
theorem kX10_kindOf_19 : Cond.fieldLink RX10 19 (TX10 11).1 (TX10 11).2.1 (TX10 11).2.2.1 ∈ wsX10_kindOf := by decide +kernel
theorem kX10_kindOf_22 : Cond.fieldLink RX10 22 (TX10 12).1 (TX10 12).2.1 (TX10 12).2.2.1 ∈ wsX10_kindOf := by decide +kernel
def kndM (S : mS) (f : Nat) : Int32 := if S.1 131 97 < S.1 134 f then 1 else if S.1 135 f < S.1 131 98 then 2 else 0
theorem cX10_kindOf_ok {f : Nat} (hf : f < 48) : mMi l yX10_kindOf wsX10_kindOf rmX10_kindOf D n0 ft [.ref (n0 + 130), .int (nI f)] n S (fun r S' => S' = S ∧ r = kndM S f) := by
  refine tv_enter (cc := cX10_kindOf) (maxL := 2) (ret := (some .int)) (by decide) rfl (Nat.le_of_ble_eq_true rfl) ?_
  intro p e s m args below meth c X hrt hnm hargs
  refine tv_aload_n X dX10_kindOf_0 rfl ?_
  refine mm_getf X dX10_kindOf_1 gX10 iX10_kindOf_X10 rfl 11 (by decide) kX10_kindOf_19 rfl ?_
  refine tv_iload_n X dX10_kindOf_4 rfl ?_
  refine mm_iald X dX10_kindOf_5 g134 f rfl hf (by decide) ?_
  refine tv_aload_n X dX10_kindOf_6 rfl ?_
  refine mm_getf X dX10_kindOf_7 gX10 iX10_kindOf_X10 rfl 1 (by decide) kX10_kindOf_7 rfl ?_
  refine tv_bipush (v := 97) X dX10_kindOf_10 (by decide) ?_
  refine mm_iald X dX10_kindOf_12 g131 97 (by decide) (by decide) (by decide) ?_
  refine tv_icmp_le (tgt := 20) X dX10_kindOf_13 (by decide) (fun h1 => ?_) (fun h1 => ?_)
  · refine tv_aload_n X dX10_kindOf_20 rfl ?_
    refine mm_getf X dX10_kindOf_21 gX10 iX10_kindOf_X10 rfl 12 (by decide) kX10_kindOf_22 rfl ?_
    refine tv_iload_n X dX10_kindOf_24 rfl ?_
    refine mm_iald X dX10_kindOf_25 g135 f rfl hf (by decide) ?_
    refine tv_aload_n X dX10_kindOf_26 rfl ?_
    refine mm_getf X dX10_kindOf_27 gX10 iX10_kindOf_X10 rfl 1 (by decide) kX10_kindOf_7 rfl ?_
    refine tv_bipush (v := 98) X dX10_kindOf_30 (by decide) ?_
    refine mm_iald X dX10_kindOf_32 g131 98 (by decide) (by decide) (by decide) ?_
    refine tv_icmp_ge (tgt := 40) X dX10_kindOf_33 (by decide) (fun h2 => ?_) (fun h2 => ?_)
    · refine tv_iconst (v := 0) X dX10_kindOf_40 (by decide) ?_
      refine tv_iret X hrt dX10_kindOf_41 ⟨_, rfl, rfl, ?_⟩
      unfold kndM
      rw [if_neg (Int32.not_lt.mpr h1), if_neg (Int32.not_lt.mpr h2)]
    · refine tv_iconst (v := 2) X dX10_kindOf_36 (by decide) ?_
      refine tv_goto (tgt := 41) X dX10_kindOf_37 (by decide) ?_
      refine tv_iret X hrt dX10_kindOf_41 ⟨_, rfl, rfl, ?_⟩
      unfold kndM
      rw [if_neg (Int32.not_lt.mpr h1), if_pos (Int32.not_le.mp h2)]
  · refine tv_iconst (v := 1) X dX10_kindOf_16 (by decide) ?_
    refine tv_goto (tgt := 41) X dX10_kindOf_17 (by decide) ?_
    refine tv_iret X hrt dX10_kindOf_41 ⟨_, rfl, rfl, ?_⟩
    unfold kndM
    rw [if_pos (Int32.not_le.mp h1)]
end C27

