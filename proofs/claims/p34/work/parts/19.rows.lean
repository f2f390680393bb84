/-- the signal at a row and a column, or 0 beside the panel -/
noncomputable def saG (g : Nat → Int32) (x y : Int32) : Int32 := by
  classical
  exact if onP x y then g (6 * x + y).toNatClampNeg else 0
theorem saG_in {g : Nat → Int32} {i j : Nat} (hi : i < 8) (hj : j < 6) : saG g (nI i) (nI j) = g (6 * i + j) := by
  have h : onP (nI i) (nI j) := ⟨⟨i, hi, rfl⟩, j, hj, rfl⟩
  have h2 : ((6 : Int32) * nI i + nI j).toNatClampNeg = 6 * i + j := by
    rw [show (6 : Int32) = nI 6 from rfl, pk_mul, nI_add, nI_clamp (by omega)]
  unfold saG
  rw [if_pos h, h2]
theorem saG_out {g : Nat → Int32} {x y : Int32} (h : ¬ onP x y) : saG g x y = 0 := by
  unfold saG
  rw [if_neg h]
noncomputable def ms3 (g : Nat → Int32) (x y d a : Int32) : Int32 := a + saG g (x + d) (y + (-1)) + saG g (x + d) (y + 0) + saG g (x + d) (y + 1)
noncomputable def mas9 (g : Nat → Int32) (x y : Int32) : Int32 := ms3 g x y 1 (ms3 g x y 0 (ms3 g x y (-1) 0))
/-- whether a neighbor leaves the cell a peak -/
noncomputable def pkOk (g : Nat → Int32) (own x y d r : Int32) : Bool := !(decide (own < saG g (x + d) (y + r)) || (decide (saG g (x + d) (y + r) = own) && decide (6 * d + r < 0)))
noncomputable def pk9 (g : Nat → Int32) (own x y : Int32) : Bool := pkOk g own x y (-1) (-1) && (pkOk g own x y (-1) 0 && (pkOk g own x y (-1) 1 && (pkOk g own x y 0 (-1) && (pkOk g own x y 0 0 && (pkOk g own x y 0 1 && (pkOk g own x y 1 (-1) && (pkOk g own x y 1 0 && pkOk g own x y 1 1)))))))
noncomputable def wr3 (g : Nat → Int32) (x y d a : Int32) : Int32 := a + saG g (x + d) (y + (-1)) * (x + d) + saG g (x + d) (y + 0) * (x + d) + saG g (x + d) (y + 1) * (x + d)
noncomputable def wc3 (g : Nat → Int32) (x y d a : Int32) : Int32 := a + saG g (x + d) (y + (-1)) * (y + (-1)) + saG g (x + d) (y + 0) * (y + 0) + saG g (x + d) (y + 1) * (y + 1)
noncomputable def wr9 (g : Nat → Int32) (x y : Int32) : Int32 := wr3 g x y 1 (wr3 g x y 0 (wr3 g x y (-1) 0))
noncomputable def wc9 (g : Nat → Int32) (x y : Int32) : Int32 := wc3 g x y 1 (wc3 g x y 0 (wc3 g x y (-1) 0))
theorem div6 {c : Nat} (hc : c < 48) : nI c / 6 = nI (c / 6) := pk_div (d := 6) (by omega) (by decide) (by decide)
theorem rem6 {c : Nat} (hc : c < 48) : nI c - nI c / 6 * 6 = nI (c % 6) := pk_rem (d := 6) (by omega) (by decide) (by decide)
section C19
variable {l : Launch} {D : va_G} {n0 : Nat} {ft : tv_ft} {n : Nat} {S : mS} {b : Nat}
theorem cX4_signalAt_ok (hb : mst b = true) (x y : Int32) : mMi l yX4_signalAt wsX4_signalAt rmX4_signalAt D n0 ft [.ref (n0 + (b + 1)), .int x, .int y] n S (fun r S' => S' = S ∧ r = saG (sgS S b) x y) := by
  by_cases h : onP x y
  · obtain ⟨⟨i, hi, rfl⟩, j, hj, rfl⟩ := h
    rw [saG_in hi hj]
    exact cX4_signalAt_in hb hi hj
  · rw [saG_out h]
    exact cX4_signalAt_out hb h
theorem iX1_isContact_X1 : ∀ w ∈ wsX10, w ∈ wsX1_isContact := by decide +kernel
theorem kX1_isContact_41 : Cond.fieldLink RX1 41 (TX1 5).1 (TX1 5).2.1 (TX1 5).2.2.1 ∈ wsX1_isContact := by decide +kernel
theorem cX1_isContact_ok {k : Nat} (hk : S.1 103 5 = nI k) (hk6 : k ≤ 6) (x : Int32) : mMi l yX1_isContact wsX1_isContact rmX1_isContact D n0 ft [.ref (n0 + 103), .int x] n S (fun r S' => S' = S ∧ ((r = 1 ∧ ∃ j, j < k ∧ x = nI j) ∨ (r = 0 ∧ ¬ ∃ j, j < k ∧ x = nI j))) := by
  refine tv_enter (cc := cX1_isContact) (maxL := 2) (ret := (some .boolean)) (by decide) rfl (Nat.le_of_ble_eq_true rfl) ?_
  intro p e s m args below meth c X hrt hnm hargs
  refine tv_iload_n X dX1_isContact_0 rfl ?_
  refine tv_if_lt (tgt := 22) X dX1_isContact_1 (by decide) (fun h1 => ?_) (fun h1 => ?_)
  · refine tv_iconst (v := 0) X dX1_isContact_22 (by decide) ?_
    exact tv_zret X hrt dX1_isContact_23 rfl ⟨_, rfl, rfl, Or.inr ⟨rfl, ix_no (by omega) (Or.inl h1)⟩⟩
  refine tv_iload_n X dX1_isContact_4 rfl ?_
  refine tv_aload_n X dX1_isContact_5 rfl ?_
  refine mm_getf X dX1_isContact_6 gX1 iX1_isContact_X1 rfl 5 (by decide) kX1_isContact_41 rfl ?_
  rw [hk]
  refine tv_icmp_ge (tgt := 22) X dX1_isContact_9 (by decide) (fun h2 => ?_) (fun h2 => ?_)
  · refine tv_iconst (v := 0) X dX1_isContact_22 (by decide) ?_
    exact tv_zret X hrt dX1_isContact_23 rfl ⟨_, rfl, rfl, Or.inr ⟨rfl, ix_no (by omega) (Or.inr h2)⟩⟩
  obtain ⟨j, hj, rfl⟩ := ix_yes (by omega) h1 h2
  refine tv_iload_n X dX1_isContact_12 rfl ?_
  refine tv_bipush (v := 6) X dX1_isContact_13 (by decide) ?_
  refine tv_icmp_ge (tgt := 22) X dX1_isContact_15 (by decide) (fun h3 => ?_) (fun h3 => ?_)
  · exact absurd h3 (nI_ge (a := j) (b := 6) (by omega) (by decide))
  · refine tv_iconst (v := 1) X dX1_isContact_18 (by decide) ?_
    refine tv_goto (tgt := 23) X dX1_isContact_19 (by decide) ?_
    exact tv_zret X hrt dX1_isContact_23 rfl ⟨_, rfl, rfl, Or.inl ⟨rfl, j, hj, rfl⟩⟩

theorem iX1_rowOf_X1 : ∀ w ∈ wsX10, w ∈ wsX1_rowOf := by decide +kernel
theorem kX1_rowOf_15 : Cond.fieldLink RX1 15 (TX1 1).1 (TX1 1).2.1 (TX1 1).2.2.1 ∈ wsX1_rowOf := by decide +kernel
theorem cX1_rowOf_ok {k : Nat} (hk : S.1 103 5 = nI k) (hk6 : k ≤ 6) {j : Nat} (hj : j < k) : mMi l yX1_rowOf wsX1_rowOf rmX1_rowOf D n0 ft [.ref (n0 + 103), .int (nI j)] n S (fun r S' => S' = S ∧ r = S.1 105 j) := by
  refine tv_enter (cc := cX1_rowOf) (maxL := 2) (ret := (some .int)) (by decide) rfl (Nat.le_of_ble_eq_true rfl) ?_
  intro p e s m args below meth c X hrt hnm hargs
  refine tv_aload_n X dX1_rowOf_0 rfl ?_
  refine tv_iload_n X dX1_rowOf_1 rfl ?_
  refine mm_callVi (q := (RX1, TX1, 6)) X dX1_rowOf_2 (cX1_isContact_ok hk hk6 _) (cwV 1 X.2.2.2.2.1 gX1_rowOf_X1_isContact rfl rfl rfl (by decide +kernel) ⟨Nat.le_of_ble_eq_true rfl, Nat.le_of_ble_eq_true rfl⟩) rfl rfl gX1 rfl (Nat.le_of_ble_eq_true rfl) ⟨Nat.zero_le _, Nat.zero_le _⟩ (fun r S1 hq => ?_)
  obtain ⟨hq1, ⟨hq2, -⟩ | ⟨-, hno⟩⟩ := hq
  rotate_left
  · exact absurd ⟨j, hj, rfl⟩ hno
  rw [hq1, hq2]
  refine tv_if_eq (tgt := 17) X dX1_rowOf_5 (by decide) (fun h1 => ?_) (fun h1 => ?_)
  · exact absurd h1 (by decide)
  refine tv_aload_n X dX1_rowOf_8 rfl ?_
  refine mm_getf X dX1_rowOf_9 gX1 iX1_rowOf_X1 rfl 1 (by decide) kX1_rowOf_15 rfl ?_
  refine tv_iload_n X dX1_rowOf_12 rfl ?_
  refine mm_iald X dX1_rowOf_13 g105 _ rfl (by omega) (by decide) ?_
  refine tv_goto (tgt := 18) X dX1_rowOf_14 (by decide) ?_
  exact tv_iret X hrt dX1_rowOf_18 ⟨_, rfl, rfl, rfl⟩

theorem iX1_columnOf_X1 : ∀ w ∈ wsX10, w ∈ wsX1_columnOf := by decide +kernel
theorem kX1_columnOf_18 : Cond.fieldLink RX1 18 (TX1 2).1 (TX1 2).2.1 (TX1 2).2.2.1 ∈ wsX1_columnOf := by decide +kernel
theorem cX1_columnOf_ok {k : Nat} (hk : S.1 103 5 = nI k) (hk6 : k ≤ 6) {j : Nat} (hj : j < k) : mMi l yX1_columnOf wsX1_columnOf rmX1_columnOf D n0 ft [.ref (n0 + 103), .int (nI j)] n S (fun r S' => S' = S ∧ r = S.1 106 j) := by
  refine tv_enter (cc := cX1_columnOf) (maxL := 2) (ret := (some .int)) (by decide) rfl (Nat.le_of_ble_eq_true rfl) ?_
  intro p e s m args below meth c X hrt hnm hargs
  refine tv_aload_n X dX1_columnOf_0 rfl ?_
  refine tv_iload_n X dX1_columnOf_1 rfl ?_
  refine mm_callVi (q := (RX1, TX1, 6)) X dX1_columnOf_2 (cX1_isContact_ok hk hk6 _) (cwV 1 X.2.2.2.2.1 gX1_columnOf_X1_isContact rfl rfl rfl (by decide +kernel) ⟨Nat.le_of_ble_eq_true rfl, Nat.le_of_ble_eq_true rfl⟩) rfl rfl gX1 rfl (Nat.le_of_ble_eq_true rfl) ⟨Nat.zero_le _, Nat.zero_le _⟩ (fun r S1 hq => ?_)
  obtain ⟨hq1, ⟨hq2, -⟩ | ⟨-, hno⟩⟩ := hq
  rotate_left
  · exact absurd ⟨j, hj, rfl⟩ hno
  rw [hq1, hq2]
  refine tv_if_eq (tgt := 17) X dX1_columnOf_5 (by decide) (fun h1 => ?_) (fun h1 => ?_)
  · exact absurd h1 (by decide)
  refine tv_aload_n X dX1_columnOf_8 rfl ?_
  refine mm_getf X dX1_columnOf_9 gX1 iX1_columnOf_X1 rfl 2 (by decide) kX1_columnOf_18 rfl ?_
  refine tv_iload_n X dX1_columnOf_12 rfl ?_
  refine mm_iald X dX1_columnOf_13 g106 _ rfl (by omega) (by decide) ?_
  refine tv_goto (tgt := 18) X dX1_columnOf_14 (by decide) ?_
  exact tv_iret X hrt dX1_columnOf_18 ⟨_, rfl, rfl, rfl⟩

theorem iX1_partOf_X1 : ∀ w ∈ wsX10, w ∈ wsX1_partOf := by decide +kernel
theorem kX1_partOf_15 : Cond.fieldLink RX1 15 (TX1 1).1 (TX1 1).2.1 (TX1 1).2.2.1 ∈ wsX1_partOf := by decide +kernel
theorem kX1_partOf_18 : Cond.fieldLink RX1 18 (TX1 2).1 (TX1 2).2.1 (TX1 2).2.2.1 ∈ wsX1_partOf := by decide +kernel
theorem kX1_partOf_21 : Cond.fieldLink RX1 21 (TX1 3).1 (TX1 3).2.1 (TX1 3).2.2.1 ∈ wsX1_partOf := by decide +kernel
theorem kX1_partOf_24 : Cond.fieldLink RX1 24 (TX1 4).1 (TX1 4).2.1 (TX1 4).2.2.1 ∈ wsX1_partOf := by decide +kernel
theorem cX1_partOf_ok {k : Nat} (hk : S.1 103 5 = nI k) (hk6 : k ≤ 6) (x : Int32) {q : Nat} (hq4 : q < 4) : mMi l yX1_partOf wsX1_partOf rmX1_partOf D n0 ft [.ref (n0 + 103), .int x, .int (nI q)] n S (fun r S' => S' = S ∧ ((∃ j, j < k ∧ x = nI j ∧ r = S.1 (105 + q) j) ∨ ((¬ ∃ j, j < k ∧ x = nI j) ∧ r = -1))) := by
  refine tv_enter (cc := cX1_partOf) (maxL := 3) (ret := (some .int)) (by decide) rfl (Nat.le_of_ble_eq_true rfl) ?_
  intro p e s m args below meth c X hrt hnm hargs
  refine tv_aload_n X dX1_partOf_0 rfl ?_
  refine tv_iload_n X dX1_partOf_1 rfl ?_
  refine mm_callVi (q := (RX1, TX1, 6)) X dX1_partOf_2 (cX1_isContact_ok hk hk6 _) (cwV 1 X.2.2.2.2.1 gX1_partOf_X1_isContact rfl rfl rfl (by decide +kernel) ⟨Nat.le_of_ble_eq_true rfl, Nat.le_of_ble_eq_true rfl⟩) rfl rfl gX1 rfl (Nat.le_of_ble_eq_true rfl) ⟨Nat.zero_le _, Nat.zero_le _⟩ (fun r S1 hq => ?_)
  obtain ⟨hq1, ⟨hq2, j, hj, rfl⟩ | ⟨hq2, hno⟩⟩ := hq
  rotate_left
  · rw [hq1, hq2]
    refine tv_if_ne (tgt := 10) X dX1_partOf_5 (by decide) (fun h1 => ?_) (fun h1 => ?_)
    · exact absurd rfl h1
    refine tv_iconst (v := -1) X dX1_partOf_8 (by decide) ?_
    exact tv_iret X hrt dX1_partOf_9 ⟨_, rfl, rfl, Or.inr ⟨hno, rfl⟩⟩
  rw [hq1, hq2]
  refine tv_if_ne (tgt := 10) X dX1_partOf_5 (by decide) (fun h1 => ?_) (fun h1 => ?_)
  rotate_left
  · exact absurd h1 (by decide)
  refine tv_iload_n X dX1_partOf_10 rfl ?_
  match q, hq4 with
  | 0, _ =>
    refine tv_tableIn (tgt := 36) X dX1_partOf_11 (by decide) (by decide) rfl (by decide) ?_
    refine tv_aload_n X dX1_partOf_36 rfl ?_
    refine mm_getf X dX1_partOf_37 gX1 iX1_partOf_X1 rfl 1 (by decide) kX1_partOf_15 rfl ?_
    refine tv_iload_n X dX1_partOf_40 rfl ?_
    refine mm_iald X dX1_partOf_41 g105 _ rfl (by omega) (by decide) ?_
    exact tv_iret X hrt dX1_partOf_42 ⟨_, rfl, rfl, Or.inl ⟨j, hj, rfl, rfl⟩⟩
  | 1, _ =>
    refine tv_tableIn (tgt := 43) X dX1_partOf_11 (by decide) (by decide) rfl (by decide) ?_
    refine tv_aload_n X dX1_partOf_43 rfl ?_
    refine mm_getf X dX1_partOf_44 gX1 iX1_partOf_X1 rfl 2 (by decide) kX1_partOf_18 rfl ?_
    refine tv_iload_n X dX1_partOf_47 rfl ?_
    refine mm_iald X dX1_partOf_48 g106 _ rfl (by omega) (by decide) ?_
    exact tv_iret X hrt dX1_partOf_49 ⟨_, rfl, rfl, Or.inl ⟨j, hj, rfl, rfl⟩⟩
  | 2, _ =>
    refine tv_tableIn (tgt := 50) X dX1_partOf_11 (by decide) (by decide) rfl (by decide) ?_
    refine tv_aload_n X dX1_partOf_50 rfl ?_
    refine mm_getf X dX1_partOf_51 gX1 iX1_partOf_X1 rfl 3 (by decide) kX1_partOf_21 rfl ?_
    refine tv_iload_n X dX1_partOf_54 rfl ?_
    refine mm_iald X dX1_partOf_55 g107 _ rfl (by omega) (by decide) ?_
    exact tv_iret X hrt dX1_partOf_56 ⟨_, rfl, rfl, Or.inl ⟨j, hj, rfl, rfl⟩⟩
  | 3, _ =>
    refine tv_tableOut (tgt := 57) X dX1_partOf_11 (by decide) (by decide) ?_
    refine tv_aload_n X dX1_partOf_57 rfl ?_
    refine mm_getf X dX1_partOf_58 gX1 iX1_partOf_X1 rfl 4 (by decide) kX1_partOf_24 rfl ?_
    refine tv_iload_n X dX1_partOf_61 rfl ?_
    refine mm_iald X dX1_partOf_62 g108 _ rfl (by omega) (by decide) ?_
    exact tv_iret X hrt dX1_partOf_63 ⟨_, rfl, rfl, Or.inl ⟨j, hj, rfl, rfl⟩⟩
theorem iX1_heavierThan_X1 : ∀ w ∈ wsX10, w ∈ wsX1_heavierThan := by decide +kernel
theorem kX1_heavierThan_9 : Cond.fieldLink RX1 9 (TX1 0).1 (TX1 0).2.1 (TX1 0).2.2.1 ∈ wsX1_heavierThan := by decide +kernel
theorem zX1_heavierThan_X9 : Cond.initialized RX9 ∈ wsX1_heavierThan ∧ True := ⟨by decide +kernel, trivial⟩
theorem zX1_heavierThan_X9_isCell : Cond.static yX9_isCell ∈ wsX1_heavierThan := by decide +kernel
/-- how many candidates come ahead -/
def hvr (cd : Nat → Int32) (c : Nat) : Nat → Int32 := cntI (fun o => decide (cd c < cd o ∨ (cd o = cd c ∧ o < c)))
theorem cX1_heavierThan_ok {c1 : Nat} (hc : c1 < 48) : mMi l yX1_heavierThan wsX1_heavierThan rmX1_heavierThan D n0 ft [.ref (n0 + 103), .int (nI c1)] n S (fun r S' => S' = S ∧ r = hvr (S.1 104) c1 48) := by
  refine tv_enter (cc := cX1_heavierThan) (maxL := 5) (ret := (some .int)) (by decide) rfl (Nat.le_of_ble_eq_true rfl) ?_
  intro p e s m args below meth c X hrt hnm hargs
  refine tv_iload_n X dX1_heavierThan_0 rfl ?_
  refine mm_callSNi X dX1_heavierThan_1 (cX9_isCell_in hc) ⟨va_cnB 1 X.2.2.2.2.1 gX1_heavierThan_X9_isCell_n64 rfl rfl rfl (tv_nwM X nM11) (X.2.2.2.2.1 _ (zX1_heavierThan_X9).1) (by decide +kernel) ⟨Nat.le_of_ble_eq_true rfl, Nat.le_of_ble_eq_true rfl⟩, X.2.2.2.2.1 _ (zX1_heavierThan_X9_isCell)⟩ rfl rfl (Nat.le_of_ble_eq_true rfl) ⟨Nat.zero_le _, Nat.zero_le _⟩ (fun r S1 hq => ?_)
  obtain ⟨hq1, hq2⟩ := hq
  rw [hq1, hq2]
  refine tv_if_eq (tgt := 16) X dX1_heavierThan_4 (by decide) (fun h1 => ?_) (fun h1 => ?_)
  · exact absurd h1 (by decide)
  refine tv_aload_n X dX1_heavierThan_7 rfl ?_
  refine mm_getf X dX1_heavierThan_8 gX1 iX1_heavierThan_X1 rfl 0 (by decide) kX1_heavierThan_9 rfl ?_
  refine tv_iload_n X dX1_heavierThan_11 rfl ?_
  refine mm_iald X dX1_heavierThan_12 g104 _ rfl (by omega) (by decide) ?_
  refine tv_goto (tgt := 17) X dX1_heavierThan_13 (by decide) ?_
  refine tv_istore_n X dX1_heavierThan_17 rfl ?_
  refine tv_iconst (v := 0) X dX1_heavierThan_18 (by decide) ?_
  refine tv_istore_n X dX1_heavierThan_19 rfl ?_
  refine tv_iconst (v := 0) X dX1_heavierThan_20 (by decide) ?_
  refine tv_istore X dX1_heavierThan_21 rfl ?_
  refine mm_for 48 (fun i => [(0, .ref (n0 + 103)), (1, .int (nI c1)), (2, .int (S.1 104 c1)), (3, .int (hvr (S.1 104) c1 i)), (4, .int (nI i))]) (fun _ => S) ?_ ?_
  · intro i hi ih
    refine tv_iload X dX1_heavierThan_23 rfl ?_
    refine tv_bipush (v := 48) X dX1_heavierThan_25 (by decide) ?_
    refine tv_icmp_ge (tgt := 67) X dX1_heavierThan_27 (by decide) (fun h2 => ?_) (fun h2 => ?_)
    · exact absurd h2 (nI_ge (a := i) (b := 48) hi (by decide))
    dsimp only at ih
    have hy : (S.1 104 c1 < S.1 104 i ∨ (S.1 104 i = S.1 104 c1 ∧ i < c1)) → hvr (S.1 104) c1 (i + 1) = hvr (S.1 104) c1 i + 1 := fun h => by simp [hvr, cntI, h]
    have hn : ¬ (S.1 104 c1 < S.1 104 i ∨ (S.1 104 i = S.1 104 c1 ∧ i < c1)) → hvr (S.1 104) c1 (i + 1) = hvr (S.1 104) c1 i := fun h => cntI_n (decide_eq_false h)
    refine tv_aload_n X dX1_heavierThan_30 rfl ?_
    refine mm_getf X dX1_heavierThan_31 gX1 iX1_heavierThan_X1 rfl 0 (by decide) kX1_heavierThan_9 rfl ?_
    refine tv_iload X dX1_heavierThan_34 rfl ?_
    refine mm_iald X dX1_heavierThan_36 g104 _ rfl (by omega) (by decide) ?_
    refine tv_iload_n X dX1_heavierThan_37 rfl ?_
    refine tv_icmp_gt (tgt := 58) X dX1_heavierThan_38 (by decide) (fun h3 => ?_) (fun h3 => ?_)
    · rw [hy (Or.inl h3)] at ih
      refine tv_iinc X dX1_heavierThan_58 rfl rfl rfl ?_
      refine tv_iinc X dX1_heavierThan_61 rfl (nI_1 i) rfl ?_
      refine tv_goto (tgt := 23) X dX1_heavierThan_64 (by decide) ?_
      exact ih
    refine tv_aload_n X dX1_heavierThan_41 rfl ?_
    refine mm_getf X dX1_heavierThan_42 gX1 iX1_heavierThan_X1 rfl 0 (by decide) kX1_heavierThan_9 rfl ?_
    refine tv_iload X dX1_heavierThan_45 rfl ?_
    refine mm_iald X dX1_heavierThan_47 g104 _ rfl (by omega) (by decide) ?_
    refine tv_iload_n X dX1_heavierThan_48 rfl ?_
    refine tv_icmp_ne (tgt := 61) X dX1_heavierThan_49 (by decide) (fun h4 => ?_) (fun h4 => ?_)
    · rw [hn (fun h => h.elim h3 (fun h => h4 h.1))] at ih
      refine tv_iinc X dX1_heavierThan_61 rfl (nI_1 i) rfl ?_
      refine tv_goto (tgt := 23) X dX1_heavierThan_64 (by decide) ?_
      exact ih
    refine tv_iload X dX1_heavierThan_52 rfl ?_
    refine tv_iload_n X dX1_heavierThan_54 rfl ?_
    refine tv_icmp_ge (tgt := 61) X dX1_heavierThan_55 (by decide) (fun h5 => ?_) (fun h5 => ?_)
    · rw [hn (fun h => h.elim h3 (fun h => nI_ge (a := i) (b := c1) h.2 (by omega) h5))] at ih
      refine tv_iinc X dX1_heavierThan_61 rfl (nI_1 i) rfl ?_
      refine tv_goto (tgt := 23) X dX1_heavierThan_64 (by decide) ?_
      exact ih
    · rw [hy (Or.inr ⟨h4, Nat.lt_of_not_le fun h => h5 (nI_le h (by omega))⟩)] at ih
      refine tv_iinc X dX1_heavierThan_58 rfl rfl rfl ?_
      refine tv_iinc X dX1_heavierThan_61 rfl (nI_1 i) rfl ?_
      refine tv_goto (tgt := 23) X dX1_heavierThan_64 (by decide) ?_
      exact ih
  · refine tv_iload X dX1_heavierThan_23 rfl ?_
    refine tv_bipush (v := 48) X dX1_heavierThan_25 (by decide) ?_
    refine tv_icmp_ge (tgt := 67) X dX1_heavierThan_27 (by decide) (fun h2 => ?_) (fun h2 => ?_)
    · refine tv_iload_n X dX1_heavierThan_67 rfl ?_
      exact tv_iret X hrt dX1_heavierThan_68 ⟨_, rfl, rfl, rfl⟩
    · exact absurd (nI_le (Nat.le_refl 48) (by decide)) h2

set_option maxHeartbeats 4000000 in
theorem cX1_massAround_ok (hb : mst b = true) {c1 : Nat} (hc : c1 < 48) : mMi l yX1_massAround wsX1_massAround rmX1_massAround D n0 ft [.ref (n0 + (b + 1)), .int (nI c1)] n S (fun r S' => S' = S ∧ r = mas9 (sgS S b) (nI (c1 / 6)) (nI (c1 % 6))) := by
  refine tv_enter (cc := cX1_massAround) (maxL := 5) (ret := (some .int)) (by decide) rfl (Nat.le_of_ble_eq_true rfl) ?_
  intro p e s m args below meth c X hrt hnm hargs
  have hd := div6 hc
  have hm := rem6 hc
  refine tv_iconst (v := 0) X dX1_massAround_0 (by decide) ?_
  refine tv_istore_n X dX1_massAround_1 rfl ?_
  refine tv_iconst (v := -1) X dX1_massAround_2 (by decide) ?_
  refine tv_istore_n X dX1_massAround_3 rfl ?_
  refine tv_iload_n X dX1_massAround_4 rfl ?_
  refine tv_iconst (v := 1) X dX1_massAround_5 (by decide) ?_
  refine tv_icmp_gt (tgt := 50) X dX1_massAround_6 (by decide) (fun h1 => ?_) (fun h1 => ?_)
  · exact absurd h1 (by decide)
  refine tv_iconst (v := -1) X dX1_massAround_9 (by decide) ?_
  refine tv_istore X dX1_massAround_10 rfl ?_
  refine mm_L (L' := [(0, .ref (n0 + (b + 1))), (1, .int (nI c1)), (2, .int (0)), (3, .int (-1)), (4, .int (-1))]) rfl ?_
  refine tv_iload X dX1_massAround_12 rfl ?_
  refine tv_iconst (v := 1) X dX1_massAround_14 (by decide) ?_
  refine tv_icmp_gt (tgt := 44) X dX1_massAround_15 (by decide) (fun h2 => ?_) (fun h2 => ?_)
  · exact absurd h2 (by decide)
  refine tv_iload_n X dX1_massAround_18 rfl ?_
  refine tv_aload_n X dX1_massAround_19 rfl ?_
  refine tv_iload_n X dX1_massAround_20 rfl ?_
  refine tv_bipush (v := 6) X dX1_massAround_21 (by decide) ?_
  refine tv_idiv X dX1_massAround_23 (by decide) ?_
  refine tv_iload_n X dX1_massAround_24 rfl ?_
  refine tv_iadd X dX1_massAround_25 ?_
  refine tv_iload_n X dX1_massAround_26 rfl ?_
  refine tv_bipush (v := 6) X dX1_massAround_27 (by decide) ?_
  refine tv_irem X dX1_massAround_29 (by decide) ?_
  refine tv_iload X dX1_massAround_30 rfl ?_
  refine tv_iadd X dX1_massAround_32 ?_
  rw [hm, hd]
  refine mm_callVi (q := (RX4, TX4, 2)) X dX1_massAround_33 (cX4_signalAt_ok hb _ _) (cwV 2 X.2.2.2.2.1 gX1_massAround_X4_signalAt rfl rfl rfl (by decide +kernel) ⟨Nat.le_of_ble_eq_true rfl, Nat.le_of_ble_eq_true rfl⟩) rfl rfl (gX4 hb) rfl (Nat.le_of_ble_eq_true rfl) ⟨Nat.zero_le _, Nat.zero_le _⟩ (fun r S1 hq => ?_)
  obtain ⟨hq1, hq2⟩ := hq
  rw [hq1, hq2]
  clear hq1 hq2 S1 r
  refine tv_iadd X dX1_massAround_36 ?_
  refine tv_istore_n X dX1_massAround_37 rfl ?_
  refine tv_iinc X dX1_massAround_38 rfl (show (-1 : Int32) + Int32.ofInt 1 = 0 by decide) rfl ?_
  refine tv_goto (tgt := 12) X dX1_massAround_41 (by decide) ?_
  refine mm_L (L' := [(0, .ref (n0 + (b + 1))), (1, .int (nI c1)), (2, .int (0 + saG (sgS S b) (nI (c1 / 6) + (-1)) (nI (c1 % 6) + (-1)))), (3, .int (-1)), (4, .int (0))]) rfl ?_
  refine tv_iload X dX1_massAround_12 rfl ?_
  refine tv_iconst (v := 1) X dX1_massAround_14 (by decide) ?_
  refine tv_icmp_gt (tgt := 44) X dX1_massAround_15 (by decide) (fun h2 => ?_) (fun h2 => ?_)
  · exact absurd h2 (by decide)
  refine tv_iload_n X dX1_massAround_18 rfl ?_
  refine tv_aload_n X dX1_massAround_19 rfl ?_
  refine tv_iload_n X dX1_massAround_20 rfl ?_
  refine tv_bipush (v := 6) X dX1_massAround_21 (by decide) ?_
  refine tv_idiv X dX1_massAround_23 (by decide) ?_
  refine tv_iload_n X dX1_massAround_24 rfl ?_
  refine tv_iadd X dX1_massAround_25 ?_
  refine tv_iload_n X dX1_massAround_26 rfl ?_
  refine tv_bipush (v := 6) X dX1_massAround_27 (by decide) ?_
  refine tv_irem X dX1_massAround_29 (by decide) ?_
  refine tv_iload X dX1_massAround_30 rfl ?_
  refine tv_iadd X dX1_massAround_32 ?_
  rw [hm, hd]
  refine mm_callVi (q := (RX4, TX4, 2)) X dX1_massAround_33 (cX4_signalAt_ok hb _ _) (cwV 2 X.2.2.2.2.1 gX1_massAround_X4_signalAt rfl rfl rfl (by decide +kernel) ⟨Nat.le_of_ble_eq_true rfl, Nat.le_of_ble_eq_true rfl⟩) rfl rfl (gX4 hb) rfl (Nat.le_of_ble_eq_true rfl) ⟨Nat.zero_le _, Nat.zero_le _⟩ (fun r S1 hq => ?_)
  obtain ⟨hq1, hq2⟩ := hq
  rw [hq1, hq2]
  clear hq1 hq2 S1 r
  refine tv_iadd X dX1_massAround_36 ?_
  refine tv_istore_n X dX1_massAround_37 rfl ?_
  refine tv_iinc X dX1_massAround_38 rfl (show (0 : Int32) + Int32.ofInt 1 = 1 by decide) rfl ?_
  refine tv_goto (tgt := 12) X dX1_massAround_41 (by decide) ?_
  refine mm_L (L' := [(0, .ref (n0 + (b + 1))), (1, .int (nI c1)), (2, .int (0 + saG (sgS S b) (nI (c1 / 6) + (-1)) (nI (c1 % 6) + (-1)) + saG (sgS S b) (nI (c1 / 6) + (-1)) (nI (c1 % 6) + (0)))), (3, .int (-1)), (4, .int (1))]) rfl ?_
  refine tv_iload X dX1_massAround_12 rfl ?_
  refine tv_iconst (v := 1) X dX1_massAround_14 (by decide) ?_
  refine tv_icmp_gt (tgt := 44) X dX1_massAround_15 (by decide) (fun h2 => ?_) (fun h2 => ?_)
  · exact absurd h2 (by decide)
  refine tv_iload_n X dX1_massAround_18 rfl ?_
  refine tv_aload_n X dX1_massAround_19 rfl ?_
  refine tv_iload_n X dX1_massAround_20 rfl ?_
  refine tv_bipush (v := 6) X dX1_massAround_21 (by decide) ?_
  refine tv_idiv X dX1_massAround_23 (by decide) ?_
  refine tv_iload_n X dX1_massAround_24 rfl ?_
  refine tv_iadd X dX1_massAround_25 ?_
  refine tv_iload_n X dX1_massAround_26 rfl ?_
  refine tv_bipush (v := 6) X dX1_massAround_27 (by decide) ?_
  refine tv_irem X dX1_massAround_29 (by decide) ?_
  refine tv_iload X dX1_massAround_30 rfl ?_
  refine tv_iadd X dX1_massAround_32 ?_
  rw [hm, hd]
  refine mm_callVi (q := (RX4, TX4, 2)) X dX1_massAround_33 (cX4_signalAt_ok hb _ _) (cwV 2 X.2.2.2.2.1 gX1_massAround_X4_signalAt rfl rfl rfl (by decide +kernel) ⟨Nat.le_of_ble_eq_true rfl, Nat.le_of_ble_eq_true rfl⟩) rfl rfl (gX4 hb) rfl (Nat.le_of_ble_eq_true rfl) ⟨Nat.zero_le _, Nat.zero_le _⟩ (fun r S1 hq => ?_)
  obtain ⟨hq1, hq2⟩ := hq
  rw [hq1, hq2]
  clear hq1 hq2 S1 r
  refine tv_iadd X dX1_massAround_36 ?_
  refine tv_istore_n X dX1_massAround_37 rfl ?_
  refine tv_iinc X dX1_massAround_38 rfl (show (1 : Int32) + Int32.ofInt 1 = 2 by decide) rfl ?_
  refine tv_goto (tgt := 12) X dX1_massAround_41 (by decide) ?_
  refine mm_L (L' := [(0, .ref (n0 + (b + 1))), (1, .int (nI c1)), (2, .int (0 + saG (sgS S b) (nI (c1 / 6) + (-1)) (nI (c1 % 6) + (-1)) + saG (sgS S b) (nI (c1 / 6) + (-1)) (nI (c1 % 6) + (0)) + saG (sgS S b) (nI (c1 / 6) + (-1)) (nI (c1 % 6) + (1)))), (3, .int (-1)), (4, .int (2))]) rfl ?_
  refine tv_iload X dX1_massAround_12 rfl ?_
  refine tv_iconst (v := 1) X dX1_massAround_14 (by decide) ?_
  refine tv_icmp_gt (tgt := 44) X dX1_massAround_15 (by decide) (fun h3 => ?_) (fun h3 => ?_)
  rotate_left
  · exact absurd (by decide) h3
  refine tv_iinc X dX1_massAround_44 rfl (show (-1 : Int32) + Int32.ofInt 1 = 0 by decide) rfl ?_
  refine tv_goto (tgt := 4) X dX1_massAround_47 (by decide) ?_
  refine mm_L (L' := [(0, .ref (n0 + (b + 1))), (1, .int (nI c1)), (2, .int (ms3 (sgS S b) (nI (c1 / 6)) (nI (c1 % 6)) (-1) (0))), (3, .int (0)), (4, .int 2)]) rfl ?_
  refine tv_iload_n X dX1_massAround_4 rfl ?_
  refine tv_iconst (v := 1) X dX1_massAround_5 (by decide) ?_
  refine tv_icmp_gt (tgt := 50) X dX1_massAround_6 (by decide) (fun h1 => ?_) (fun h1 => ?_)
  · exact absurd h1 (by decide)
  refine tv_iconst (v := -1) X dX1_massAround_9 (by decide) ?_
  refine tv_istore X dX1_massAround_10 rfl ?_
  refine mm_L (L' := [(0, .ref (n0 + (b + 1))), (1, .int (nI c1)), (2, .int (ms3 (sgS S b) (nI (c1 / 6)) (nI (c1 % 6)) (-1) (0))), (3, .int (0)), (4, .int (-1))]) rfl ?_
  refine tv_iload X dX1_massAround_12 rfl ?_
  refine tv_iconst (v := 1) X dX1_massAround_14 (by decide) ?_
  refine tv_icmp_gt (tgt := 44) X dX1_massAround_15 (by decide) (fun h2 => ?_) (fun h2 => ?_)
  · exact absurd h2 (by decide)
  refine tv_iload_n X dX1_massAround_18 rfl ?_
  refine tv_aload_n X dX1_massAround_19 rfl ?_
  refine tv_iload_n X dX1_massAround_20 rfl ?_
  refine tv_bipush (v := 6) X dX1_massAround_21 (by decide) ?_
  refine tv_idiv X dX1_massAround_23 (by decide) ?_
  refine tv_iload_n X dX1_massAround_24 rfl ?_
  refine tv_iadd X dX1_massAround_25 ?_
  refine tv_iload_n X dX1_massAround_26 rfl ?_
  refine tv_bipush (v := 6) X dX1_massAround_27 (by decide) ?_
  refine tv_irem X dX1_massAround_29 (by decide) ?_
  refine tv_iload X dX1_massAround_30 rfl ?_
  refine tv_iadd X dX1_massAround_32 ?_
  rw [hm, hd]
  refine mm_callVi (q := (RX4, TX4, 2)) X dX1_massAround_33 (cX4_signalAt_ok hb _ _) (cwV 2 X.2.2.2.2.1 gX1_massAround_X4_signalAt rfl rfl rfl (by decide +kernel) ⟨Nat.le_of_ble_eq_true rfl, Nat.le_of_ble_eq_true rfl⟩) rfl rfl (gX4 hb) rfl (Nat.le_of_ble_eq_true rfl) ⟨Nat.zero_le _, Nat.zero_le _⟩ (fun r S1 hq => ?_)
  obtain ⟨hq1, hq2⟩ := hq
  rw [hq1, hq2]
  clear hq1 hq2 S1 r
  refine tv_iadd X dX1_massAround_36 ?_
  refine tv_istore_n X dX1_massAround_37 rfl ?_
  refine tv_iinc X dX1_massAround_38 rfl (show (-1 : Int32) + Int32.ofInt 1 = 0 by decide) rfl ?_
  refine tv_goto (tgt := 12) X dX1_massAround_41 (by decide) ?_
  refine mm_L (L' := [(0, .ref (n0 + (b + 1))), (1, .int (nI c1)), (2, .int (ms3 (sgS S b) (nI (c1 / 6)) (nI (c1 % 6)) (-1) (0) + saG (sgS S b) (nI (c1 / 6) + (0)) (nI (c1 % 6) + (-1)))), (3, .int (0)), (4, .int (0))]) rfl ?_
  refine tv_iload X dX1_massAround_12 rfl ?_
  refine tv_iconst (v := 1) X dX1_massAround_14 (by decide) ?_
  refine tv_icmp_gt (tgt := 44) X dX1_massAround_15 (by decide) (fun h2 => ?_) (fun h2 => ?_)
  · exact absurd h2 (by decide)
  refine tv_iload_n X dX1_massAround_18 rfl ?_
  refine tv_aload_n X dX1_massAround_19 rfl ?_
  refine tv_iload_n X dX1_massAround_20 rfl ?_
  refine tv_bipush (v := 6) X dX1_massAround_21 (by decide) ?_
  refine tv_idiv X dX1_massAround_23 (by decide) ?_
  refine tv_iload_n X dX1_massAround_24 rfl ?_
  refine tv_iadd X dX1_massAround_25 ?_
  refine tv_iload_n X dX1_massAround_26 rfl ?_
  refine tv_bipush (v := 6) X dX1_massAround_27 (by decide) ?_
  refine tv_irem X dX1_massAround_29 (by decide) ?_
  refine tv_iload X dX1_massAround_30 rfl ?_
  refine tv_iadd X dX1_massAround_32 ?_
  rw [hm, hd]
  refine mm_callVi (q := (RX4, TX4, 2)) X dX1_massAround_33 (cX4_signalAt_ok hb _ _) (cwV 2 X.2.2.2.2.1 gX1_massAround_X4_signalAt rfl rfl rfl (by decide +kernel) ⟨Nat.le_of_ble_eq_true rfl, Nat.le_of_ble_eq_true rfl⟩) rfl rfl (gX4 hb) rfl (Nat.le_of_ble_eq_true rfl) ⟨Nat.zero_le _, Nat.zero_le _⟩ (fun r S1 hq => ?_)
  obtain ⟨hq1, hq2⟩ := hq
  rw [hq1, hq2]
  clear hq1 hq2 S1 r
  refine tv_iadd X dX1_massAround_36 ?_
  refine tv_istore_n X dX1_massAround_37 rfl ?_
  refine tv_iinc X dX1_massAround_38 rfl (show (0 : Int32) + Int32.ofInt 1 = 1 by decide) rfl ?_
  refine tv_goto (tgt := 12) X dX1_massAround_41 (by decide) ?_
  refine mm_L (L' := [(0, .ref (n0 + (b + 1))), (1, .int (nI c1)), (2, .int (ms3 (sgS S b) (nI (c1 / 6)) (nI (c1 % 6)) (-1) (0) + saG (sgS S b) (nI (c1 / 6) + (0)) (nI (c1 % 6) + (-1)) + saG (sgS S b) (nI (c1 / 6) + (0)) (nI (c1 % 6) + (0)))), (3, .int (0)), (4, .int (1))]) rfl ?_
  refine tv_iload X dX1_massAround_12 rfl ?_
  refine tv_iconst (v := 1) X dX1_massAround_14 (by decide) ?_
  refine tv_icmp_gt (tgt := 44) X dX1_massAround_15 (by decide) (fun h2 => ?_) (fun h2 => ?_)
  · exact absurd h2 (by decide)
  refine tv_iload_n X dX1_massAround_18 rfl ?_
  refine tv_aload_n X dX1_massAround_19 rfl ?_
  refine tv_iload_n X dX1_massAround_20 rfl ?_
  refine tv_bipush (v := 6) X dX1_massAround_21 (by decide) ?_
  refine tv_idiv X dX1_massAround_23 (by decide) ?_
  refine tv_iload_n X dX1_massAround_24 rfl ?_
  refine tv_iadd X dX1_massAround_25 ?_
  refine tv_iload_n X dX1_massAround_26 rfl ?_
  refine tv_bipush (v := 6) X dX1_massAround_27 (by decide) ?_
  refine tv_irem X dX1_massAround_29 (by decide) ?_
  refine tv_iload X dX1_massAround_30 rfl ?_
  refine tv_iadd X dX1_massAround_32 ?_
  rw [hm, hd]
  refine mm_callVi (q := (RX4, TX4, 2)) X dX1_massAround_33 (cX4_signalAt_ok hb _ _) (cwV 2 X.2.2.2.2.1 gX1_massAround_X4_signalAt rfl rfl rfl (by decide +kernel) ⟨Nat.le_of_ble_eq_true rfl, Nat.le_of_ble_eq_true rfl⟩) rfl rfl (gX4 hb) rfl (Nat.le_of_ble_eq_true rfl) ⟨Nat.zero_le _, Nat.zero_le _⟩ (fun r S1 hq => ?_)
  obtain ⟨hq1, hq2⟩ := hq
  rw [hq1, hq2]
  clear hq1 hq2 S1 r
  refine tv_iadd X dX1_massAround_36 ?_
  refine tv_istore_n X dX1_massAround_37 rfl ?_
  refine tv_iinc X dX1_massAround_38 rfl (show (1 : Int32) + Int32.ofInt 1 = 2 by decide) rfl ?_
  refine tv_goto (tgt := 12) X dX1_massAround_41 (by decide) ?_
  refine mm_L (L' := [(0, .ref (n0 + (b + 1))), (1, .int (nI c1)), (2, .int (ms3 (sgS S b) (nI (c1 / 6)) (nI (c1 % 6)) (-1) (0) + saG (sgS S b) (nI (c1 / 6) + (0)) (nI (c1 % 6) + (-1)) + saG (sgS S b) (nI (c1 / 6) + (0)) (nI (c1 % 6) + (0)) + saG (sgS S b) (nI (c1 / 6) + (0)) (nI (c1 % 6) + (1)))), (3, .int (0)), (4, .int (2))]) rfl ?_
  refine tv_iload X dX1_massAround_12 rfl ?_
  refine tv_iconst (v := 1) X dX1_massAround_14 (by decide) ?_
  refine tv_icmp_gt (tgt := 44) X dX1_massAround_15 (by decide) (fun h3 => ?_) (fun h3 => ?_)
  rotate_left
  · exact absurd (by decide) h3
  refine tv_iinc X dX1_massAround_44 rfl (show (0 : Int32) + Int32.ofInt 1 = 1 by decide) rfl ?_
  refine tv_goto (tgt := 4) X dX1_massAround_47 (by decide) ?_
  refine mm_L (L' := [(0, .ref (n0 + (b + 1))), (1, .int (nI c1)), (2, .int (ms3 (sgS S b) (nI (c1 / 6)) (nI (c1 % 6)) (0) (ms3 (sgS S b) (nI (c1 / 6)) (nI (c1 % 6)) (-1) (0)))), (3, .int (1)), (4, .int 2)]) rfl ?_
  refine tv_iload_n X dX1_massAround_4 rfl ?_
  refine tv_iconst (v := 1) X dX1_massAround_5 (by decide) ?_
  refine tv_icmp_gt (tgt := 50) X dX1_massAround_6 (by decide) (fun h1 => ?_) (fun h1 => ?_)
  · exact absurd h1 (by decide)
  refine tv_iconst (v := -1) X dX1_massAround_9 (by decide) ?_
  refine tv_istore X dX1_massAround_10 rfl ?_
  refine mm_L (L' := [(0, .ref (n0 + (b + 1))), (1, .int (nI c1)), (2, .int (ms3 (sgS S b) (nI (c1 / 6)) (nI (c1 % 6)) (0) (ms3 (sgS S b) (nI (c1 / 6)) (nI (c1 % 6)) (-1) (0)))), (3, .int (1)), (4, .int (-1))]) rfl ?_
  refine tv_iload X dX1_massAround_12 rfl ?_
  refine tv_iconst (v := 1) X dX1_massAround_14 (by decide) ?_
  refine tv_icmp_gt (tgt := 44) X dX1_massAround_15 (by decide) (fun h2 => ?_) (fun h2 => ?_)
  · exact absurd h2 (by decide)
  refine tv_iload_n X dX1_massAround_18 rfl ?_
  refine tv_aload_n X dX1_massAround_19 rfl ?_
  refine tv_iload_n X dX1_massAround_20 rfl ?_
  refine tv_bipush (v := 6) X dX1_massAround_21 (by decide) ?_
  refine tv_idiv X dX1_massAround_23 (by decide) ?_
  refine tv_iload_n X dX1_massAround_24 rfl ?_
  refine tv_iadd X dX1_massAround_25 ?_
  refine tv_iload_n X dX1_massAround_26 rfl ?_
  refine tv_bipush (v := 6) X dX1_massAround_27 (by decide) ?_
  refine tv_irem X dX1_massAround_29 (by decide) ?_
  refine tv_iload X dX1_massAround_30 rfl ?_
  refine tv_iadd X dX1_massAround_32 ?_
  rw [hm, hd]
  refine mm_callVi (q := (RX4, TX4, 2)) X dX1_massAround_33 (cX4_signalAt_ok hb _ _) (cwV 2 X.2.2.2.2.1 gX1_massAround_X4_signalAt rfl rfl rfl (by decide +kernel) ⟨Nat.le_of_ble_eq_true rfl, Nat.le_of_ble_eq_true rfl⟩) rfl rfl (gX4 hb) rfl (Nat.le_of_ble_eq_true rfl) ⟨Nat.zero_le _, Nat.zero_le _⟩ (fun r S1 hq => ?_)
  obtain ⟨hq1, hq2⟩ := hq
  rw [hq1, hq2]
  clear hq1 hq2 S1 r
  refine tv_iadd X dX1_massAround_36 ?_
  refine tv_istore_n X dX1_massAround_37 rfl ?_
  refine tv_iinc X dX1_massAround_38 rfl (show (-1 : Int32) + Int32.ofInt 1 = 0 by decide) rfl ?_
  refine tv_goto (tgt := 12) X dX1_massAround_41 (by decide) ?_
  refine mm_L (L' := [(0, .ref (n0 + (b + 1))), (1, .int (nI c1)), (2, .int (ms3 (sgS S b) (nI (c1 / 6)) (nI (c1 % 6)) (0) (ms3 (sgS S b) (nI (c1 / 6)) (nI (c1 % 6)) (-1) (0)) + saG (sgS S b) (nI (c1 / 6) + (1)) (nI (c1 % 6) + (-1)))), (3, .int (1)), (4, .int (0))]) rfl ?_
  refine tv_iload X dX1_massAround_12 rfl ?_
  refine tv_iconst (v := 1) X dX1_massAround_14 (by decide) ?_
  refine tv_icmp_gt (tgt := 44) X dX1_massAround_15 (by decide) (fun h2 => ?_) (fun h2 => ?_)
  · exact absurd h2 (by decide)
  refine tv_iload_n X dX1_massAround_18 rfl ?_
  refine tv_aload_n X dX1_massAround_19 rfl ?_
  refine tv_iload_n X dX1_massAround_20 rfl ?_
  refine tv_bipush (v := 6) X dX1_massAround_21 (by decide) ?_
  refine tv_idiv X dX1_massAround_23 (by decide) ?_
  refine tv_iload_n X dX1_massAround_24 rfl ?_
  refine tv_iadd X dX1_massAround_25 ?_
  refine tv_iload_n X dX1_massAround_26 rfl ?_
  refine tv_bipush (v := 6) X dX1_massAround_27 (by decide) ?_
  refine tv_irem X dX1_massAround_29 (by decide) ?_
  refine tv_iload X dX1_massAround_30 rfl ?_
  refine tv_iadd X dX1_massAround_32 ?_
  rw [hm, hd]
  refine mm_callVi (q := (RX4, TX4, 2)) X dX1_massAround_33 (cX4_signalAt_ok hb _ _) (cwV 2 X.2.2.2.2.1 gX1_massAround_X4_signalAt rfl rfl rfl (by decide +kernel) ⟨Nat.le_of_ble_eq_true rfl, Nat.le_of_ble_eq_true rfl⟩) rfl rfl (gX4 hb) rfl (Nat.le_of_ble_eq_true rfl) ⟨Nat.zero_le _, Nat.zero_le _⟩ (fun r S1 hq => ?_)
  obtain ⟨hq1, hq2⟩ := hq
  rw [hq1, hq2]
  clear hq1 hq2 S1 r
  refine tv_iadd X dX1_massAround_36 ?_
  refine tv_istore_n X dX1_massAround_37 rfl ?_
  refine tv_iinc X dX1_massAround_38 rfl (show (0 : Int32) + Int32.ofInt 1 = 1 by decide) rfl ?_
  refine tv_goto (tgt := 12) X dX1_massAround_41 (by decide) ?_
  refine mm_L (L' := [(0, .ref (n0 + (b + 1))), (1, .int (nI c1)), (2, .int (ms3 (sgS S b) (nI (c1 / 6)) (nI (c1 % 6)) (0) (ms3 (sgS S b) (nI (c1 / 6)) (nI (c1 % 6)) (-1) (0)) + saG (sgS S b) (nI (c1 / 6) + (1)) (nI (c1 % 6) + (-1)) + saG (sgS S b) (nI (c1 / 6) + (1)) (nI (c1 % 6) + (0)))), (3, .int (1)), (4, .int (1))]) rfl ?_
  refine tv_iload X dX1_massAround_12 rfl ?_
  refine tv_iconst (v := 1) X dX1_massAround_14 (by decide) ?_
  refine tv_icmp_gt (tgt := 44) X dX1_massAround_15 (by decide) (fun h2 => ?_) (fun h2 => ?_)
  · exact absurd h2 (by decide)
  refine tv_iload_n X dX1_massAround_18 rfl ?_
  refine tv_aload_n X dX1_massAround_19 rfl ?_
  refine tv_iload_n X dX1_massAround_20 rfl ?_
  refine tv_bipush (v := 6) X dX1_massAround_21 (by decide) ?_
  refine tv_idiv X dX1_massAround_23 (by decide) ?_
  refine tv_iload_n X dX1_massAround_24 rfl ?_
  refine tv_iadd X dX1_massAround_25 ?_
  refine tv_iload_n X dX1_massAround_26 rfl ?_
  refine tv_bipush (v := 6) X dX1_massAround_27 (by decide) ?_
  refine tv_irem X dX1_massAround_29 (by decide) ?_
  refine tv_iload X dX1_massAround_30 rfl ?_
  refine tv_iadd X dX1_massAround_32 ?_
  rw [hm, hd]
  refine mm_callVi (q := (RX4, TX4, 2)) X dX1_massAround_33 (cX4_signalAt_ok hb _ _) (cwV 2 X.2.2.2.2.1 gX1_massAround_X4_signalAt rfl rfl rfl (by decide +kernel) ⟨Nat.le_of_ble_eq_true rfl, Nat.le_of_ble_eq_true rfl⟩) rfl rfl (gX4 hb) rfl (Nat.le_of_ble_eq_true rfl) ⟨Nat.zero_le _, Nat.zero_le _⟩ (fun r S1 hq => ?_)
  obtain ⟨hq1, hq2⟩ := hq
  rw [hq1, hq2]
  clear hq1 hq2 S1 r
  refine tv_iadd X dX1_massAround_36 ?_
  refine tv_istore_n X dX1_massAround_37 rfl ?_
  refine tv_iinc X dX1_massAround_38 rfl (show (1 : Int32) + Int32.ofInt 1 = 2 by decide) rfl ?_
  refine tv_goto (tgt := 12) X dX1_massAround_41 (by decide) ?_
  refine mm_L (L' := [(0, .ref (n0 + (b + 1))), (1, .int (nI c1)), (2, .int (ms3 (sgS S b) (nI (c1 / 6)) (nI (c1 % 6)) (0) (ms3 (sgS S b) (nI (c1 / 6)) (nI (c1 % 6)) (-1) (0)) + saG (sgS S b) (nI (c1 / 6) + (1)) (nI (c1 % 6) + (-1)) + saG (sgS S b) (nI (c1 / 6) + (1)) (nI (c1 % 6) + (0)) + saG (sgS S b) (nI (c1 / 6) + (1)) (nI (c1 % 6) + (1)))), (3, .int (1)), (4, .int (2))]) rfl ?_
  refine tv_iload X dX1_massAround_12 rfl ?_
  refine tv_iconst (v := 1) X dX1_massAround_14 (by decide) ?_
  refine tv_icmp_gt (tgt := 44) X dX1_massAround_15 (by decide) (fun h3 => ?_) (fun h3 => ?_)
  rotate_left
  · exact absurd (by decide) h3
  refine tv_iinc X dX1_massAround_44 rfl (show (1 : Int32) + Int32.ofInt 1 = 2 by decide) rfl ?_
  refine tv_goto (tgt := 4) X dX1_massAround_47 (by decide) ?_
  refine mm_L (L' := [(0, .ref (n0 + (b + 1))), (1, .int (nI c1)), (2, .int (ms3 (sgS S b) (nI (c1 / 6)) (nI (c1 % 6)) (1) (ms3 (sgS S b) (nI (c1 / 6)) (nI (c1 % 6)) (0) (ms3 (sgS S b) (nI (c1 / 6)) (nI (c1 % 6)) (-1) (0))))), (3, .int (2)), (4, .int 2)]) rfl ?_
  refine tv_iload_n X dX1_massAround_4 rfl ?_
  refine tv_iconst (v := 1) X dX1_massAround_5 (by decide) ?_
  refine tv_icmp_gt (tgt := 50) X dX1_massAround_6 (by decide) (fun h4 => ?_) (fun h4 => ?_)
  rotate_left
  · exact absurd (by decide) h4
  refine tv_iload_n X dX1_massAround_50 rfl ?_
  exact tv_iret X hrt dX1_massAround_51 ⟨_, rfl, rfl, rfl⟩
theorem zX1_isPeak_X9 : Cond.initialized RX9 ∈ wsX1_isPeak ∧ True := ⟨by decide +kernel, trivial⟩
theorem zX1_isPeak_X9_cellAt : Cond.static yX9_cellAt ∈ wsX1_isPeak := by decide +kernel
set_option maxHeartbeats 4000000 in
theorem cX1_isPeak_ok (hb : mst b = true) {c1 : Nat} (hc : c1 < 48) : mMi l yX1_isPeak wsX1_isPeak rmX1_isPeak D n0 ft [.ref (n0 + (b + 1)), .int (nI c1)] n S (fun r S' => S' = S ∧ r = if pk9 (sgS S b) (sgS S b c1) (nI (c1 / 6)) (nI (c1 % 6)) = true then 1 else 0) := by
  refine tv_enter (cc := cX1_isPeak) (maxL := 7) (ret := (some .boolean)) (by decide) rfl (Nat.le_of_ble_eq_true rfl) ?_
  intro p e s m args below meth c X hrt hnm hargs
  have hd := div6 hc
  have hm := rem6 hc
  refine tv_aload_n X dX1_isPeak_0 rfl ?_
  refine tv_iload_n X dX1_isPeak_1 rfl ?_
  refine mm_callVi (q := (RX4, TX4, 2)) X dX1_isPeak_2 (cX4_signalOf_ok hb hc) (cwV 1 X.2.2.2.2.1 gX1_isPeak_X4_signalOf rfl rfl rfl (by decide +kernel) ⟨Nat.le_of_ble_eq_true rfl, Nat.le_of_ble_eq_true rfl⟩) rfl rfl (gX4 hb) rfl (Nat.le_of_ble_eq_true rfl) ⟨Nat.zero_le _, Nat.zero_le _⟩ (fun r S1 hq => ?_)
  obtain ⟨hq1, hq2⟩ := hq
  rw [hq1, hq2]
  clear hq1 hq2 S1 r
  refine tv_istore_n X dX1_isPeak_5 rfl ?_
  refine tv_iconst (v := -1) X dX1_isPeak_6 (by decide) ?_
  refine tv_istore_n X dX1_isPeak_7 rfl ?_
  generalize hown : sgS S b c1 = own
  refine tv_iload_n X dX1_isPeak_8 rfl ?_
  refine tv_iconst (v := 1) X dX1_isPeak_9 (by decide) ?_
  refine tv_icmp_gt (tgt := 88) X dX1_isPeak_10 (by decide) (fun h1 => ?_) (fun h1 => ?_)
  · exact absurd h1 (by decide)
  refine tv_iconst (v := -1) X dX1_isPeak_13 (by decide) ?_
  refine tv_istore X dX1_isPeak_14 rfl ?_
  refine mm_L (L' := [(0, .ref (n0 + (b + 1))), (1, .int (nI c1)), (2, .int own), (3, .int (-1)), (4, .int (-1))]) rfl ?_
  refine tv_iload X dX1_isPeak_16 rfl ?_
  refine tv_iconst (v := 1) X dX1_isPeak_18 (by decide) ?_
  refine tv_icmp_gt (tgt := 82) X dX1_isPeak_19 (by decide) (fun h2 => ?_) (fun h2 => ?_)
  · exact absurd h2 (by decide)
  refine tv_aload_n X dX1_isPeak_22 rfl ?_
  refine tv_iload_n X dX1_isPeak_23 rfl ?_
  refine tv_bipush (v := 6) X dX1_isPeak_24 (by decide) ?_
  refine tv_idiv X dX1_isPeak_26 (by decide) ?_
  refine tv_iload_n X dX1_isPeak_27 rfl ?_
  refine tv_iadd X dX1_isPeak_28 ?_
  refine tv_iload_n X dX1_isPeak_29 rfl ?_
  refine tv_bipush (v := 6) X dX1_isPeak_30 (by decide) ?_
  refine tv_irem X dX1_isPeak_32 (by decide) ?_
  refine tv_iload X dX1_isPeak_33 rfl ?_
  refine tv_iadd X dX1_isPeak_35 ?_
  rw [hm, hd]
  refine mm_callVi (q := (RX4, TX4, 2)) X dX1_isPeak_36 (cX4_signalAt_ok hb _ _) (cwV 2 X.2.2.2.2.1 gX1_isPeak_X4_signalAt rfl rfl rfl (by decide +kernel) ⟨Nat.le_of_ble_eq_true rfl, Nat.le_of_ble_eq_true rfl⟩) rfl rfl (gX4 hb) rfl (Nat.le_of_ble_eq_true rfl) ⟨Nat.zero_le _, Nat.zero_le _⟩ (fun r S1 hq => ?_)
  obtain ⟨hq1, hq2⟩ := hq
  rw [hq1, hq2]
  clear hq1 hq2 S1 r
  refine tv_istore X dX1_isPeak_39 rfl ?_
  refine tv_iload_n X dX1_isPeak_41 rfl ?_
  refine tv_iload X dX1_isPeak_42 rfl ?_
  refine mm_callSNi X dX1_isPeak_44 (cX9_cellAt_ok _ _) ⟨va_cnB 2 X.2.2.2.2.1 gX1_isPeak_X9_cellAt_n61 rfl rfl rfl (tv_nwM X nM10) (X.2.2.2.2.1 _ (zX1_isPeak_X9).1) (by decide +kernel) ⟨Nat.le_of_ble_eq_true rfl, Nat.le_of_ble_eq_true rfl⟩, X.2.2.2.2.1 _ (zX1_isPeak_X9_cellAt)⟩ rfl rfl (Nat.le_of_ble_eq_true rfl) ⟨Nat.zero_le _, Nat.zero_le _⟩ (fun r S1 hq => ?_)
  obtain ⟨hq1, hq2⟩ := hq
  rw [hq1, hq2]
  clear hq1 hq2 S1 r
  refine tv_if_ge (tgt := 54) X dX1_isPeak_47 (by decide) (fun h5 => ?_) (fun h5 => ?_)
  · exact absurd h5 (by decide)
  refine tv_iconst (v := 1) X dX1_isPeak_50 (by decide) ?_
  refine tv_goto (tgt := 55) X dX1_isPeak_51 (by decide) ?_
  refine tv_istore X dX1_isPeak_55 rfl ?_
  refine tv_iload X dX1_isPeak_57 rfl ?_
  refine tv_iload_n X dX1_isPeak_59 rfl ?_
  refine tv_icmp_gt (tgt := 74) X dX1_isPeak_60 (by decide) (fun h6 => ?_) (fun h6 => ?_)
  · refine tv_iconst (v := 0) X dX1_isPeak_74 (by decide) ?_
    have hz : pkOk (sgS S b) own (nI (c1 / 6)) (nI (c1 % 6)) (-1) (-1) = false := by simp only [pkOk, h6, decide_true, Bool.true_or, Bool.not_true]
    refine tv_zret X hrt dX1_isPeak_75 rfl ⟨_, rfl, rfl, ?_⟩
    rw [if_neg]
    unfold pk9
    simp [hz]
  refine tv_iload X dX1_isPeak_63 rfl ?_
  refine tv_iload_n X dX1_isPeak_65 rfl ?_
  refine tv_icmp_ne (tgt := 76) X dX1_isPeak_66 (by decide) (fun h7 => ?_) (fun h7 => ?_)
  rotate_left
  · refine tv_iload X dX1_isPeak_69 rfl ?_
    refine tv_if_eq (tgt := 76) X dX1_isPeak_71 (by decide) (fun h8 => ?_) (fun h8 => ?_)
    · exact absurd h8 (by decide)
    refine tv_iconst (v := 0) X dX1_isPeak_74 (by decide) ?_
    have hz : pkOk (sgS S b) own (nI (c1 / 6)) (nI (c1 % 6)) (-1) (-1) = false := by simp only [pkOk, h7, decide_true, Bool.true_and, show (6 : Int32) * (-1) + (-1) < 0 by decide, Bool.or_true, Bool.not_true]
    refine tv_zret X hrt dX1_isPeak_75 rfl ⟨_, rfl, rfl, ?_⟩
    rw [if_neg]
    unfold pk9
    simp [hz]
  have k1 : pkOk (sgS S b) own (nI (c1 / 6)) (nI (c1 % 6)) (-1) (-1) = true := by simp only [pkOk, h6, h7, decide_false, Bool.false_and, Bool.or_false, Bool.not_false]
  refine tv_iinc X dX1_isPeak_76 rfl (show (-1 : Int32) + Int32.ofInt 1 = 0 by decide) rfl ?_
  refine tv_goto (tgt := 16) X dX1_isPeak_79 (by decide) ?_
  refine tv_sl (L' := [(0, .ref (n0 + (b + 1))), (1, .int (nI c1)), (2, .int own), (3, .int (-1)), (4, .int (0))]) [0, 1, 2, 3, 4] rfl ?_
  refine tv_iload X dX1_isPeak_16 rfl ?_
  refine tv_iconst (v := 1) X dX1_isPeak_18 (by decide) ?_
  refine tv_icmp_gt (tgt := 82) X dX1_isPeak_19 (by decide) (fun h2 => ?_) (fun h2 => ?_)
  · exact absurd h2 (by decide)
  refine tv_aload_n X dX1_isPeak_22 rfl ?_
  refine tv_iload_n X dX1_isPeak_23 rfl ?_
  refine tv_bipush (v := 6) X dX1_isPeak_24 (by decide) ?_
  refine tv_idiv X dX1_isPeak_26 (by decide) ?_
  refine tv_iload_n X dX1_isPeak_27 rfl ?_
  refine tv_iadd X dX1_isPeak_28 ?_
  refine tv_iload_n X dX1_isPeak_29 rfl ?_
  refine tv_bipush (v := 6) X dX1_isPeak_30 (by decide) ?_
  refine tv_irem X dX1_isPeak_32 (by decide) ?_
  refine tv_iload X dX1_isPeak_33 rfl ?_
  refine tv_iadd X dX1_isPeak_35 ?_
  rw [hm, hd]
  refine mm_callVi (q := (RX4, TX4, 2)) X dX1_isPeak_36 (cX4_signalAt_ok hb _ _) (cwV 2 X.2.2.2.2.1 gX1_isPeak_X4_signalAt rfl rfl rfl (by decide +kernel) ⟨Nat.le_of_ble_eq_true rfl, Nat.le_of_ble_eq_true rfl⟩) rfl rfl (gX4 hb) rfl (Nat.le_of_ble_eq_true rfl) ⟨Nat.zero_le _, Nat.zero_le _⟩ (fun r S1 hq => ?_)
  obtain ⟨hq1, hq2⟩ := hq
  rw [hq1, hq2]
  clear hq1 hq2 S1 r
  refine tv_istore X dX1_isPeak_39 rfl ?_
  refine tv_iload_n X dX1_isPeak_41 rfl ?_
  refine tv_iload X dX1_isPeak_42 rfl ?_
  refine mm_callSNi X dX1_isPeak_44 (cX9_cellAt_ok _ _) ⟨va_cnB 2 X.2.2.2.2.1 gX1_isPeak_X9_cellAt_n61 rfl rfl rfl (tv_nwM X nM10) (X.2.2.2.2.1 _ (zX1_isPeak_X9).1) (by decide +kernel) ⟨Nat.le_of_ble_eq_true rfl, Nat.le_of_ble_eq_true rfl⟩, X.2.2.2.2.1 _ (zX1_isPeak_X9_cellAt)⟩ rfl rfl (Nat.le_of_ble_eq_true rfl) ⟨Nat.zero_le _, Nat.zero_le _⟩ (fun r S1 hq => ?_)
  obtain ⟨hq1, hq2⟩ := hq
  rw [hq1, hq2]
  clear hq1 hq2 S1 r
  refine tv_if_ge (tgt := 54) X dX1_isPeak_47 (by decide) (fun h5 => ?_) (fun h5 => ?_)
  · exact absurd h5 (by decide)
  refine tv_iconst (v := 1) X dX1_isPeak_50 (by decide) ?_
  refine tv_goto (tgt := 55) X dX1_isPeak_51 (by decide) ?_
  refine tv_istore X dX1_isPeak_55 rfl ?_
  refine tv_iload X dX1_isPeak_57 rfl ?_
  refine tv_iload_n X dX1_isPeak_59 rfl ?_
  refine tv_icmp_gt (tgt := 74) X dX1_isPeak_60 (by decide) (fun h6 => ?_) (fun h6 => ?_)
  · refine tv_iconst (v := 0) X dX1_isPeak_74 (by decide) ?_
    have hz : pkOk (sgS S b) own (nI (c1 / 6)) (nI (c1 % 6)) (-1) (0) = false := by simp only [pkOk, h6, decide_true, Bool.true_or, Bool.not_true]
    refine tv_zret X hrt dX1_isPeak_75 rfl ⟨_, rfl, rfl, ?_⟩
    rw [if_neg]
    unfold pk9
    simp [k1, hz]
  refine tv_iload X dX1_isPeak_63 rfl ?_
  refine tv_iload_n X dX1_isPeak_65 rfl ?_
  refine tv_icmp_ne (tgt := 76) X dX1_isPeak_66 (by decide) (fun h7 => ?_) (fun h7 => ?_)
  rotate_left
  · refine tv_iload X dX1_isPeak_69 rfl ?_
    refine tv_if_eq (tgt := 76) X dX1_isPeak_71 (by decide) (fun h8 => ?_) (fun h8 => ?_)
    · exact absurd h8 (by decide)
    refine tv_iconst (v := 0) X dX1_isPeak_74 (by decide) ?_
    have hz : pkOk (sgS S b) own (nI (c1 / 6)) (nI (c1 % 6)) (-1) (0) = false := by simp only [pkOk, h7, decide_true, Bool.true_and, show (6 : Int32) * (-1) + (0) < 0 by decide, Bool.or_true, Bool.not_true]
    refine tv_zret X hrt dX1_isPeak_75 rfl ⟨_, rfl, rfl, ?_⟩
    rw [if_neg]
    unfold pk9
    simp [k1, hz]
  have k2 : pkOk (sgS S b) own (nI (c1 / 6)) (nI (c1 % 6)) (-1) (0) = true := by simp only [pkOk, h6, h7, decide_false, Bool.false_and, Bool.or_false, Bool.not_false]
  refine tv_iinc X dX1_isPeak_76 rfl (show (0 : Int32) + Int32.ofInt 1 = 1 by decide) rfl ?_
  refine tv_goto (tgt := 16) X dX1_isPeak_79 (by decide) ?_
  refine tv_sl (L' := [(0, .ref (n0 + (b + 1))), (1, .int (nI c1)), (2, .int own), (3, .int (-1)), (4, .int (1))]) [0, 1, 2, 3, 4] rfl ?_
  refine tv_iload X dX1_isPeak_16 rfl ?_
  refine tv_iconst (v := 1) X dX1_isPeak_18 (by decide) ?_
  refine tv_icmp_gt (tgt := 82) X dX1_isPeak_19 (by decide) (fun h2 => ?_) (fun h2 => ?_)
  · exact absurd h2 (by decide)
  refine tv_aload_n X dX1_isPeak_22 rfl ?_
  refine tv_iload_n X dX1_isPeak_23 rfl ?_
  refine tv_bipush (v := 6) X dX1_isPeak_24 (by decide) ?_
  refine tv_idiv X dX1_isPeak_26 (by decide) ?_
  refine tv_iload_n X dX1_isPeak_27 rfl ?_
  refine tv_iadd X dX1_isPeak_28 ?_
  refine tv_iload_n X dX1_isPeak_29 rfl ?_
  refine tv_bipush (v := 6) X dX1_isPeak_30 (by decide) ?_
  refine tv_irem X dX1_isPeak_32 (by decide) ?_
  refine tv_iload X dX1_isPeak_33 rfl ?_
  refine tv_iadd X dX1_isPeak_35 ?_
  rw [hm, hd]
  refine mm_callVi (q := (RX4, TX4, 2)) X dX1_isPeak_36 (cX4_signalAt_ok hb _ _) (cwV 2 X.2.2.2.2.1 gX1_isPeak_X4_signalAt rfl rfl rfl (by decide +kernel) ⟨Nat.le_of_ble_eq_true rfl, Nat.le_of_ble_eq_true rfl⟩) rfl rfl (gX4 hb) rfl (Nat.le_of_ble_eq_true rfl) ⟨Nat.zero_le _, Nat.zero_le _⟩ (fun r S1 hq => ?_)
  obtain ⟨hq1, hq2⟩ := hq
  rw [hq1, hq2]
  clear hq1 hq2 S1 r
  refine tv_istore X dX1_isPeak_39 rfl ?_
  refine tv_iload_n X dX1_isPeak_41 rfl ?_
  refine tv_iload X dX1_isPeak_42 rfl ?_
  refine mm_callSNi X dX1_isPeak_44 (cX9_cellAt_ok _ _) ⟨va_cnB 2 X.2.2.2.2.1 gX1_isPeak_X9_cellAt_n61 rfl rfl rfl (tv_nwM X nM10) (X.2.2.2.2.1 _ (zX1_isPeak_X9).1) (by decide +kernel) ⟨Nat.le_of_ble_eq_true rfl, Nat.le_of_ble_eq_true rfl⟩, X.2.2.2.2.1 _ (zX1_isPeak_X9_cellAt)⟩ rfl rfl (Nat.le_of_ble_eq_true rfl) ⟨Nat.zero_le _, Nat.zero_le _⟩ (fun r S1 hq => ?_)
  obtain ⟨hq1, hq2⟩ := hq
  rw [hq1, hq2]
  clear hq1 hq2 S1 r
  refine tv_if_ge (tgt := 54) X dX1_isPeak_47 (by decide) (fun h5 => ?_) (fun h5 => ?_)
  · exact absurd h5 (by decide)
  refine tv_iconst (v := 1) X dX1_isPeak_50 (by decide) ?_
  refine tv_goto (tgt := 55) X dX1_isPeak_51 (by decide) ?_
  refine tv_istore X dX1_isPeak_55 rfl ?_
  refine tv_iload X dX1_isPeak_57 rfl ?_
  refine tv_iload_n X dX1_isPeak_59 rfl ?_
  refine tv_icmp_gt (tgt := 74) X dX1_isPeak_60 (by decide) (fun h6 => ?_) (fun h6 => ?_)
  · refine tv_iconst (v := 0) X dX1_isPeak_74 (by decide) ?_
    have hz : pkOk (sgS S b) own (nI (c1 / 6)) (nI (c1 % 6)) (-1) (1) = false := by simp only [pkOk, h6, decide_true, Bool.true_or, Bool.not_true]
    refine tv_zret X hrt dX1_isPeak_75 rfl ⟨_, rfl, rfl, ?_⟩
    rw [if_neg]
    unfold pk9
    simp [k1, k2, hz]
  refine tv_iload X dX1_isPeak_63 rfl ?_
  refine tv_iload_n X dX1_isPeak_65 rfl ?_
  refine tv_icmp_ne (tgt := 76) X dX1_isPeak_66 (by decide) (fun h7 => ?_) (fun h7 => ?_)
  rotate_left
  · refine tv_iload X dX1_isPeak_69 rfl ?_
    refine tv_if_eq (tgt := 76) X dX1_isPeak_71 (by decide) (fun h8 => ?_) (fun h8 => ?_)
    · exact absurd h8 (by decide)
    refine tv_iconst (v := 0) X dX1_isPeak_74 (by decide) ?_
    have hz : pkOk (sgS S b) own (nI (c1 / 6)) (nI (c1 % 6)) (-1) (1) = false := by simp only [pkOk, h7, decide_true, Bool.true_and, show (6 : Int32) * (-1) + (1) < 0 by decide, Bool.or_true, Bool.not_true]
    refine tv_zret X hrt dX1_isPeak_75 rfl ⟨_, rfl, rfl, ?_⟩
    rw [if_neg]
    unfold pk9
    simp [k1, k2, hz]
  have k3 : pkOk (sgS S b) own (nI (c1 / 6)) (nI (c1 % 6)) (-1) (1) = true := by simp only [pkOk, h6, h7, decide_false, Bool.false_and, Bool.or_false, Bool.not_false]
  refine tv_iinc X dX1_isPeak_76 rfl (show (1 : Int32) + Int32.ofInt 1 = 2 by decide) rfl ?_
  refine tv_goto (tgt := 16) X dX1_isPeak_79 (by decide) ?_
  refine tv_sl (L' := [(0, .ref (n0 + (b + 1))), (1, .int (nI c1)), (2, .int own), (3, .int (-1)), (4, .int (2))]) [0, 1, 2, 3, 4] rfl ?_
  refine tv_iload X dX1_isPeak_16 rfl ?_
  refine tv_iconst (v := 1) X dX1_isPeak_18 (by decide) ?_
  refine tv_icmp_gt (tgt := 82) X dX1_isPeak_19 (by decide) (fun h3 => ?_) (fun h3 => ?_)
  rotate_left
  · exact absurd (by decide) h3
  refine tv_iinc X dX1_isPeak_82 rfl (show (-1 : Int32) + Int32.ofInt 1 = 0 by decide) rfl ?_
  refine tv_goto (tgt := 8) X dX1_isPeak_85 (by decide) ?_
  refine mm_L (L' := [(0, .ref (n0 + (b + 1))), (1, .int (nI c1)), (2, .int own), (3, .int (0)), (4, .int 2)]) rfl ?_
  refine tv_iload_n X dX1_isPeak_8 rfl ?_
  refine tv_iconst (v := 1) X dX1_isPeak_9 (by decide) ?_
  refine tv_icmp_gt (tgt := 88) X dX1_isPeak_10 (by decide) (fun h1 => ?_) (fun h1 => ?_)
  · exact absurd h1 (by decide)
  refine tv_iconst (v := -1) X dX1_isPeak_13 (by decide) ?_
  refine tv_istore X dX1_isPeak_14 rfl ?_
  refine mm_L (L' := [(0, .ref (n0 + (b + 1))), (1, .int (nI c1)), (2, .int own), (3, .int (0)), (4, .int (-1))]) rfl ?_
  refine tv_iload X dX1_isPeak_16 rfl ?_
  refine tv_iconst (v := 1) X dX1_isPeak_18 (by decide) ?_
  refine tv_icmp_gt (tgt := 82) X dX1_isPeak_19 (by decide) (fun h2 => ?_) (fun h2 => ?_)
  · exact absurd h2 (by decide)
  refine tv_aload_n X dX1_isPeak_22 rfl ?_
  refine tv_iload_n X dX1_isPeak_23 rfl ?_
  refine tv_bipush (v := 6) X dX1_isPeak_24 (by decide) ?_
  refine tv_idiv X dX1_isPeak_26 (by decide) ?_
  refine tv_iload_n X dX1_isPeak_27 rfl ?_
  refine tv_iadd X dX1_isPeak_28 ?_
  refine tv_iload_n X dX1_isPeak_29 rfl ?_
  refine tv_bipush (v := 6) X dX1_isPeak_30 (by decide) ?_
  refine tv_irem X dX1_isPeak_32 (by decide) ?_
  refine tv_iload X dX1_isPeak_33 rfl ?_
  refine tv_iadd X dX1_isPeak_35 ?_
  rw [hm, hd]
  refine mm_callVi (q := (RX4, TX4, 2)) X dX1_isPeak_36 (cX4_signalAt_ok hb _ _) (cwV 2 X.2.2.2.2.1 gX1_isPeak_X4_signalAt rfl rfl rfl (by decide +kernel) ⟨Nat.le_of_ble_eq_true rfl, Nat.le_of_ble_eq_true rfl⟩) rfl rfl (gX4 hb) rfl (Nat.le_of_ble_eq_true rfl) ⟨Nat.zero_le _, Nat.zero_le _⟩ (fun r S1 hq => ?_)
  obtain ⟨hq1, hq2⟩ := hq
  rw [hq1, hq2]
  clear hq1 hq2 S1 r
  refine tv_istore X dX1_isPeak_39 rfl ?_
  refine tv_iload_n X dX1_isPeak_41 rfl ?_
  refine tv_iload X dX1_isPeak_42 rfl ?_
  refine mm_callSNi X dX1_isPeak_44 (cX9_cellAt_ok _ _) ⟨va_cnB 2 X.2.2.2.2.1 gX1_isPeak_X9_cellAt_n61 rfl rfl rfl (tv_nwM X nM10) (X.2.2.2.2.1 _ (zX1_isPeak_X9).1) (by decide +kernel) ⟨Nat.le_of_ble_eq_true rfl, Nat.le_of_ble_eq_true rfl⟩, X.2.2.2.2.1 _ (zX1_isPeak_X9_cellAt)⟩ rfl rfl (Nat.le_of_ble_eq_true rfl) ⟨Nat.zero_le _, Nat.zero_le _⟩ (fun r S1 hq => ?_)
  obtain ⟨hq1, hq2⟩ := hq
  rw [hq1, hq2]
  clear hq1 hq2 S1 r
  refine tv_if_ge (tgt := 54) X dX1_isPeak_47 (by decide) (fun h5 => ?_) (fun h5 => ?_)
  · exact absurd h5 (by decide)
  refine tv_iconst (v := 1) X dX1_isPeak_50 (by decide) ?_
  refine tv_goto (tgt := 55) X dX1_isPeak_51 (by decide) ?_
  refine tv_istore X dX1_isPeak_55 rfl ?_
  refine tv_iload X dX1_isPeak_57 rfl ?_
  refine tv_iload_n X dX1_isPeak_59 rfl ?_
  refine tv_icmp_gt (tgt := 74) X dX1_isPeak_60 (by decide) (fun h6 => ?_) (fun h6 => ?_)
  · refine tv_iconst (v := 0) X dX1_isPeak_74 (by decide) ?_
    have hz : pkOk (sgS S b) own (nI (c1 / 6)) (nI (c1 % 6)) (0) (-1) = false := by simp only [pkOk, h6, decide_true, Bool.true_or, Bool.not_true]
    refine tv_zret X hrt dX1_isPeak_75 rfl ⟨_, rfl, rfl, ?_⟩
    rw [if_neg]
    unfold pk9
    simp [k1, k2, k3, hz]
  refine tv_iload X dX1_isPeak_63 rfl ?_
  refine tv_iload_n X dX1_isPeak_65 rfl ?_
  refine tv_icmp_ne (tgt := 76) X dX1_isPeak_66 (by decide) (fun h7 => ?_) (fun h7 => ?_)
  rotate_left
  · refine tv_iload X dX1_isPeak_69 rfl ?_
    refine tv_if_eq (tgt := 76) X dX1_isPeak_71 (by decide) (fun h8 => ?_) (fun h8 => ?_)
    · exact absurd h8 (by decide)
    refine tv_iconst (v := 0) X dX1_isPeak_74 (by decide) ?_
    have hz : pkOk (sgS S b) own (nI (c1 / 6)) (nI (c1 % 6)) (0) (-1) = false := by simp only [pkOk, h7, decide_true, Bool.true_and, show (6 : Int32) * (0) + (-1) < 0 by decide, Bool.or_true, Bool.not_true]
    refine tv_zret X hrt dX1_isPeak_75 rfl ⟨_, rfl, rfl, ?_⟩
    rw [if_neg]
    unfold pk9
    simp [k1, k2, k3, hz]
  have k4 : pkOk (sgS S b) own (nI (c1 / 6)) (nI (c1 % 6)) (0) (-1) = true := by simp only [pkOk, h6, h7, decide_false, Bool.false_and, Bool.or_false, Bool.not_false]
  refine tv_iinc X dX1_isPeak_76 rfl (show (-1 : Int32) + Int32.ofInt 1 = 0 by decide) rfl ?_
  refine tv_goto (tgt := 16) X dX1_isPeak_79 (by decide) ?_
  refine tv_sl (L' := [(0, .ref (n0 + (b + 1))), (1, .int (nI c1)), (2, .int own), (3, .int (0)), (4, .int (0))]) [0, 1, 2, 3, 4] rfl ?_
  refine tv_iload X dX1_isPeak_16 rfl ?_
  refine tv_iconst (v := 1) X dX1_isPeak_18 (by decide) ?_
  refine tv_icmp_gt (tgt := 82) X dX1_isPeak_19 (by decide) (fun h2 => ?_) (fun h2 => ?_)
  · exact absurd h2 (by decide)
  refine tv_aload_n X dX1_isPeak_22 rfl ?_
  refine tv_iload_n X dX1_isPeak_23 rfl ?_
  refine tv_bipush (v := 6) X dX1_isPeak_24 (by decide) ?_
  refine tv_idiv X dX1_isPeak_26 (by decide) ?_
  refine tv_iload_n X dX1_isPeak_27 rfl ?_
  refine tv_iadd X dX1_isPeak_28 ?_
  refine tv_iload_n X dX1_isPeak_29 rfl ?_
  refine tv_bipush (v := 6) X dX1_isPeak_30 (by decide) ?_
  refine tv_irem X dX1_isPeak_32 (by decide) ?_
  refine tv_iload X dX1_isPeak_33 rfl ?_
  refine tv_iadd X dX1_isPeak_35 ?_
  rw [hm, hd]
  refine mm_callVi (q := (RX4, TX4, 2)) X dX1_isPeak_36 (cX4_signalAt_ok hb _ _) (cwV 2 X.2.2.2.2.1 gX1_isPeak_X4_signalAt rfl rfl rfl (by decide +kernel) ⟨Nat.le_of_ble_eq_true rfl, Nat.le_of_ble_eq_true rfl⟩) rfl rfl (gX4 hb) rfl (Nat.le_of_ble_eq_true rfl) ⟨Nat.zero_le _, Nat.zero_le _⟩ (fun r S1 hq => ?_)
  obtain ⟨hq1, hq2⟩ := hq
  rw [hq1, hq2]
  clear hq1 hq2 S1 r
  refine tv_istore X dX1_isPeak_39 rfl ?_
  refine tv_iload_n X dX1_isPeak_41 rfl ?_
  refine tv_iload X dX1_isPeak_42 rfl ?_
  refine mm_callSNi X dX1_isPeak_44 (cX9_cellAt_ok _ _) ⟨va_cnB 2 X.2.2.2.2.1 gX1_isPeak_X9_cellAt_n61 rfl rfl rfl (tv_nwM X nM10) (X.2.2.2.2.1 _ (zX1_isPeak_X9).1) (by decide +kernel) ⟨Nat.le_of_ble_eq_true rfl, Nat.le_of_ble_eq_true rfl⟩, X.2.2.2.2.1 _ (zX1_isPeak_X9_cellAt)⟩ rfl rfl (Nat.le_of_ble_eq_true rfl) ⟨Nat.zero_le _, Nat.zero_le _⟩ (fun r S1 hq => ?_)
  obtain ⟨hq1, hq2⟩ := hq
  rw [hq1, hq2]
  clear hq1 hq2 S1 r
  refine tv_if_ge (tgt := 54) X dX1_isPeak_47 (by decide) (fun h5 => ?_) (fun h5 => ?_)
  rotate_left
  · exact absurd (by decide) h5
  refine tv_iconst (v := 0) X dX1_isPeak_54 (by decide) ?_
  refine tv_istore X dX1_isPeak_55 rfl ?_
  refine tv_iload X dX1_isPeak_57 rfl ?_
  refine tv_iload_n X dX1_isPeak_59 rfl ?_
  refine tv_icmp_gt (tgt := 74) X dX1_isPeak_60 (by decide) (fun h6 => ?_) (fun h6 => ?_)
  · refine tv_iconst (v := 0) X dX1_isPeak_74 (by decide) ?_
    have hz : pkOk (sgS S b) own (nI (c1 / 6)) (nI (c1 % 6)) (0) (0) = false := by simp only [pkOk, h6, decide_true, Bool.true_or, Bool.not_true]
    refine tv_zret X hrt dX1_isPeak_75 rfl ⟨_, rfl, rfl, ?_⟩
    rw [if_neg]
    unfold pk9
    simp [k1, k2, k3, k4, hz]
  have k5 : pkOk (sgS S b) own (nI (c1 / 6)) (nI (c1 % 6)) (0) (0) = true := by simp only [pkOk, h6, show ¬ (6 : Int32) * (0) + (0) < 0 by decide, decide_false, Bool.and_false, Bool.or_false, Bool.not_false]
  refine tv_iload X dX1_isPeak_63 rfl ?_
  refine tv_iload_n X dX1_isPeak_65 rfl ?_
  refine mm_cut (pc := 76) (fun _ : Unit => True) (fun _ => [(0, .ref (n0 + (b + 1))), (1, .int (nI c1)), (2, .int own), (3, .int (0)), (4, .int (0))]) (fun _ => []) (fun _ => S) ?_ ?_
  rotate_left
  · intro hcut
    refine tv_icmp_ne (tgt := 76) X dX1_isPeak_66 (by decide) (fun h7 => ?_) (fun h7 => ?_)
    · exact tv_sl [0, 1, 2, 3, 4] rfl (hcut () trivial)
    refine tv_iload X dX1_isPeak_69 rfl ?_
    refine tv_if_eq (tgt := 76) X dX1_isPeak_71 (by decide) (fun h8 => ?_) (fun h8 => ?_)
    · exact tv_sl [0, 1, 2, 3, 4] rfl (hcut () trivial)
    · exact absurd rfl h8
  intro _ _
  refine tv_iinc X dX1_isPeak_76 rfl (show (0 : Int32) + Int32.ofInt 1 = 1 by decide) rfl ?_
  refine tv_goto (tgt := 16) X dX1_isPeak_79 (by decide) ?_
  refine mm_L (L' := [(0, .ref (n0 + (b + 1))), (1, .int (nI c1)), (2, .int own), (3, .int (0)), (4, .int (1))]) rfl ?_
  refine tv_iload X dX1_isPeak_16 rfl ?_
  refine tv_iconst (v := 1) X dX1_isPeak_18 (by decide) ?_
  refine tv_icmp_gt (tgt := 82) X dX1_isPeak_19 (by decide) (fun h2 => ?_) (fun h2 => ?_)
  · exact absurd h2 (by decide)
  refine tv_aload_n X dX1_isPeak_22 rfl ?_
  refine tv_iload_n X dX1_isPeak_23 rfl ?_
  refine tv_bipush (v := 6) X dX1_isPeak_24 (by decide) ?_
  refine tv_idiv X dX1_isPeak_26 (by decide) ?_
  refine tv_iload_n X dX1_isPeak_27 rfl ?_
  refine tv_iadd X dX1_isPeak_28 ?_
  refine tv_iload_n X dX1_isPeak_29 rfl ?_
  refine tv_bipush (v := 6) X dX1_isPeak_30 (by decide) ?_
  refine tv_irem X dX1_isPeak_32 (by decide) ?_
  refine tv_iload X dX1_isPeak_33 rfl ?_
  refine tv_iadd X dX1_isPeak_35 ?_
  rw [hm, hd]
  refine mm_callVi (q := (RX4, TX4, 2)) X dX1_isPeak_36 (cX4_signalAt_ok hb _ _) (cwV 2 X.2.2.2.2.1 gX1_isPeak_X4_signalAt rfl rfl rfl (by decide +kernel) ⟨Nat.le_of_ble_eq_true rfl, Nat.le_of_ble_eq_true rfl⟩) rfl rfl (gX4 hb) rfl (Nat.le_of_ble_eq_true rfl) ⟨Nat.zero_le _, Nat.zero_le _⟩ (fun r S1 hq => ?_)
  obtain ⟨hq1, hq2⟩ := hq
  rw [hq1, hq2]
  clear hq1 hq2 S1 r
  refine tv_istore X dX1_isPeak_39 rfl ?_
  refine tv_iload_n X dX1_isPeak_41 rfl ?_
  refine tv_iload X dX1_isPeak_42 rfl ?_
  refine mm_callSNi X dX1_isPeak_44 (cX9_cellAt_ok _ _) ⟨va_cnB 2 X.2.2.2.2.1 gX1_isPeak_X9_cellAt_n61 rfl rfl rfl (tv_nwM X nM10) (X.2.2.2.2.1 _ (zX1_isPeak_X9).1) (by decide +kernel) ⟨Nat.le_of_ble_eq_true rfl, Nat.le_of_ble_eq_true rfl⟩, X.2.2.2.2.1 _ (zX1_isPeak_X9_cellAt)⟩ rfl rfl (Nat.le_of_ble_eq_true rfl) ⟨Nat.zero_le _, Nat.zero_le _⟩ (fun r S1 hq => ?_)
  obtain ⟨hq1, hq2⟩ := hq
  rw [hq1, hq2]
  clear hq1 hq2 S1 r
  refine tv_if_ge (tgt := 54) X dX1_isPeak_47 (by decide) (fun h5 => ?_) (fun h5 => ?_)
  rotate_left
  · exact absurd (by decide) h5
  refine tv_iconst (v := 0) X dX1_isPeak_54 (by decide) ?_
  refine tv_istore X dX1_isPeak_55 rfl ?_
  refine tv_iload X dX1_isPeak_57 rfl ?_
  refine tv_iload_n X dX1_isPeak_59 rfl ?_
  refine tv_icmp_gt (tgt := 74) X dX1_isPeak_60 (by decide) (fun h6 => ?_) (fun h6 => ?_)
  · refine tv_iconst (v := 0) X dX1_isPeak_74 (by decide) ?_
    have hz : pkOk (sgS S b) own (nI (c1 / 6)) (nI (c1 % 6)) (0) (1) = false := by simp only [pkOk, h6, decide_true, Bool.true_or, Bool.not_true]
    refine tv_zret X hrt dX1_isPeak_75 rfl ⟨_, rfl, rfl, ?_⟩
    rw [if_neg]
    unfold pk9
    simp [k1, k2, k3, k4, k5, hz]
  have k6 : pkOk (sgS S b) own (nI (c1 / 6)) (nI (c1 % 6)) (0) (1) = true := by simp only [pkOk, h6, show ¬ (6 : Int32) * (0) + (1) < 0 by decide, decide_false, Bool.and_false, Bool.or_false, Bool.not_false]
  refine tv_iload X dX1_isPeak_63 rfl ?_
  refine tv_iload_n X dX1_isPeak_65 rfl ?_
  refine mm_cut (pc := 76) (fun _ : Unit => True) (fun _ => [(0, .ref (n0 + (b + 1))), (1, .int (nI c1)), (2, .int own), (3, .int (0)), (4, .int (1))]) (fun _ => []) (fun _ => S) ?_ ?_
  rotate_left
  · intro hcut
    refine tv_icmp_ne (tgt := 76) X dX1_isPeak_66 (by decide) (fun h7 => ?_) (fun h7 => ?_)
    · exact tv_sl [0, 1, 2, 3, 4] rfl (hcut () trivial)
    refine tv_iload X dX1_isPeak_69 rfl ?_
    refine tv_if_eq (tgt := 76) X dX1_isPeak_71 (by decide) (fun h8 => ?_) (fun h8 => ?_)
    · exact tv_sl [0, 1, 2, 3, 4] rfl (hcut () trivial)
    · exact absurd rfl h8
  intro _ _
  refine tv_iinc X dX1_isPeak_76 rfl (show (1 : Int32) + Int32.ofInt 1 = 2 by decide) rfl ?_
  refine tv_goto (tgt := 16) X dX1_isPeak_79 (by decide) ?_
  refine mm_L (L' := [(0, .ref (n0 + (b + 1))), (1, .int (nI c1)), (2, .int own), (3, .int (0)), (4, .int (2))]) rfl ?_
  refine tv_iload X dX1_isPeak_16 rfl ?_
  refine tv_iconst (v := 1) X dX1_isPeak_18 (by decide) ?_
  refine tv_icmp_gt (tgt := 82) X dX1_isPeak_19 (by decide) (fun h3 => ?_) (fun h3 => ?_)
  rotate_left
  · exact absurd (by decide) h3
  refine tv_iinc X dX1_isPeak_82 rfl (show (0 : Int32) + Int32.ofInt 1 = 1 by decide) rfl ?_
  refine tv_goto (tgt := 8) X dX1_isPeak_85 (by decide) ?_
  refine mm_L (L' := [(0, .ref (n0 + (b + 1))), (1, .int (nI c1)), (2, .int own), (3, .int (1)), (4, .int 2)]) rfl ?_
  refine tv_iload_n X dX1_isPeak_8 rfl ?_
  refine tv_iconst (v := 1) X dX1_isPeak_9 (by decide) ?_
  refine tv_icmp_gt (tgt := 88) X dX1_isPeak_10 (by decide) (fun h1 => ?_) (fun h1 => ?_)
  · exact absurd h1 (by decide)
  refine tv_iconst (v := -1) X dX1_isPeak_13 (by decide) ?_
  refine tv_istore X dX1_isPeak_14 rfl ?_
  refine mm_L (L' := [(0, .ref (n0 + (b + 1))), (1, .int (nI c1)), (2, .int own), (3, .int (1)), (4, .int (-1))]) rfl ?_
  refine tv_iload X dX1_isPeak_16 rfl ?_
  refine tv_iconst (v := 1) X dX1_isPeak_18 (by decide) ?_
  refine tv_icmp_gt (tgt := 82) X dX1_isPeak_19 (by decide) (fun h2 => ?_) (fun h2 => ?_)
  · exact absurd h2 (by decide)
  refine tv_aload_n X dX1_isPeak_22 rfl ?_
  refine tv_iload_n X dX1_isPeak_23 rfl ?_
  refine tv_bipush (v := 6) X dX1_isPeak_24 (by decide) ?_
  refine tv_idiv X dX1_isPeak_26 (by decide) ?_
  refine tv_iload_n X dX1_isPeak_27 rfl ?_
  refine tv_iadd X dX1_isPeak_28 ?_
  refine tv_iload_n X dX1_isPeak_29 rfl ?_
  refine tv_bipush (v := 6) X dX1_isPeak_30 (by decide) ?_
  refine tv_irem X dX1_isPeak_32 (by decide) ?_
  refine tv_iload X dX1_isPeak_33 rfl ?_
  refine tv_iadd X dX1_isPeak_35 ?_
  rw [hm, hd]
  refine mm_callVi (q := (RX4, TX4, 2)) X dX1_isPeak_36 (cX4_signalAt_ok hb _ _) (cwV 2 X.2.2.2.2.1 gX1_isPeak_X4_signalAt rfl rfl rfl (by decide +kernel) ⟨Nat.le_of_ble_eq_true rfl, Nat.le_of_ble_eq_true rfl⟩) rfl rfl (gX4 hb) rfl (Nat.le_of_ble_eq_true rfl) ⟨Nat.zero_le _, Nat.zero_le _⟩ (fun r S1 hq => ?_)
  obtain ⟨hq1, hq2⟩ := hq
  rw [hq1, hq2]
  clear hq1 hq2 S1 r
  refine tv_istore X dX1_isPeak_39 rfl ?_
  refine tv_iload_n X dX1_isPeak_41 rfl ?_
  refine tv_iload X dX1_isPeak_42 rfl ?_
  refine mm_callSNi X dX1_isPeak_44 (cX9_cellAt_ok _ _) ⟨va_cnB 2 X.2.2.2.2.1 gX1_isPeak_X9_cellAt_n61 rfl rfl rfl (tv_nwM X nM10) (X.2.2.2.2.1 _ (zX1_isPeak_X9).1) (by decide +kernel) ⟨Nat.le_of_ble_eq_true rfl, Nat.le_of_ble_eq_true rfl⟩, X.2.2.2.2.1 _ (zX1_isPeak_X9_cellAt)⟩ rfl rfl (Nat.le_of_ble_eq_true rfl) ⟨Nat.zero_le _, Nat.zero_le _⟩ (fun r S1 hq => ?_)
  obtain ⟨hq1, hq2⟩ := hq
  rw [hq1, hq2]
  clear hq1 hq2 S1 r
  refine tv_if_ge (tgt := 54) X dX1_isPeak_47 (by decide) (fun h5 => ?_) (fun h5 => ?_)
  rotate_left
  · exact absurd (by decide) h5
  refine tv_iconst (v := 0) X dX1_isPeak_54 (by decide) ?_
  refine tv_istore X dX1_isPeak_55 rfl ?_
  refine tv_iload X dX1_isPeak_57 rfl ?_
  refine tv_iload_n X dX1_isPeak_59 rfl ?_
  refine tv_icmp_gt (tgt := 74) X dX1_isPeak_60 (by decide) (fun h6 => ?_) (fun h6 => ?_)
  · refine tv_iconst (v := 0) X dX1_isPeak_74 (by decide) ?_
    have hz : pkOk (sgS S b) own (nI (c1 / 6)) (nI (c1 % 6)) (1) (-1) = false := by simp only [pkOk, h6, decide_true, Bool.true_or, Bool.not_true]
    refine tv_zret X hrt dX1_isPeak_75 rfl ⟨_, rfl, rfl, ?_⟩
    rw [if_neg]
    unfold pk9
    simp [k1, k2, k3, k4, k5, k6, hz]
  have k7 : pkOk (sgS S b) own (nI (c1 / 6)) (nI (c1 % 6)) (1) (-1) = true := by simp only [pkOk, h6, show ¬ (6 : Int32) * (1) + (-1) < 0 by decide, decide_false, Bool.and_false, Bool.or_false, Bool.not_false]
  refine tv_iload X dX1_isPeak_63 rfl ?_
  refine tv_iload_n X dX1_isPeak_65 rfl ?_
  refine mm_cut (pc := 76) (fun _ : Unit => True) (fun _ => [(0, .ref (n0 + (b + 1))), (1, .int (nI c1)), (2, .int own), (3, .int (1)), (4, .int (-1))]) (fun _ => []) (fun _ => S) ?_ ?_
  rotate_left
  · intro hcut
    refine tv_icmp_ne (tgt := 76) X dX1_isPeak_66 (by decide) (fun h7 => ?_) (fun h7 => ?_)
    · exact tv_sl [0, 1, 2, 3, 4] rfl (hcut () trivial)
    refine tv_iload X dX1_isPeak_69 rfl ?_
    refine tv_if_eq (tgt := 76) X dX1_isPeak_71 (by decide) (fun h8 => ?_) (fun h8 => ?_)
    · exact tv_sl [0, 1, 2, 3, 4] rfl (hcut () trivial)
    · exact absurd rfl h8
  intro _ _
  refine tv_iinc X dX1_isPeak_76 rfl (show (-1 : Int32) + Int32.ofInt 1 = 0 by decide) rfl ?_
  refine tv_goto (tgt := 16) X dX1_isPeak_79 (by decide) ?_
  refine mm_L (L' := [(0, .ref (n0 + (b + 1))), (1, .int (nI c1)), (2, .int own), (3, .int (1)), (4, .int (0))]) rfl ?_
  refine tv_iload X dX1_isPeak_16 rfl ?_
  refine tv_iconst (v := 1) X dX1_isPeak_18 (by decide) ?_
  refine tv_icmp_gt (tgt := 82) X dX1_isPeak_19 (by decide) (fun h2 => ?_) (fun h2 => ?_)
  · exact absurd h2 (by decide)
  refine tv_aload_n X dX1_isPeak_22 rfl ?_
  refine tv_iload_n X dX1_isPeak_23 rfl ?_
  refine tv_bipush (v := 6) X dX1_isPeak_24 (by decide) ?_
  refine tv_idiv X dX1_isPeak_26 (by decide) ?_
  refine tv_iload_n X dX1_isPeak_27 rfl ?_
  refine tv_iadd X dX1_isPeak_28 ?_
  refine tv_iload_n X dX1_isPeak_29 rfl ?_
  refine tv_bipush (v := 6) X dX1_isPeak_30 (by decide) ?_
  refine tv_irem X dX1_isPeak_32 (by decide) ?_
  refine tv_iload X dX1_isPeak_33 rfl ?_
  refine tv_iadd X dX1_isPeak_35 ?_
  rw [hm, hd]
  refine mm_callVi (q := (RX4, TX4, 2)) X dX1_isPeak_36 (cX4_signalAt_ok hb _ _) (cwV 2 X.2.2.2.2.1 gX1_isPeak_X4_signalAt rfl rfl rfl (by decide +kernel) ⟨Nat.le_of_ble_eq_true rfl, Nat.le_of_ble_eq_true rfl⟩) rfl rfl (gX4 hb) rfl (Nat.le_of_ble_eq_true rfl) ⟨Nat.zero_le _, Nat.zero_le _⟩ (fun r S1 hq => ?_)
  obtain ⟨hq1, hq2⟩ := hq
  rw [hq1, hq2]
  clear hq1 hq2 S1 r
  refine tv_istore X dX1_isPeak_39 rfl ?_
  refine tv_iload_n X dX1_isPeak_41 rfl ?_
  refine tv_iload X dX1_isPeak_42 rfl ?_
  refine mm_callSNi X dX1_isPeak_44 (cX9_cellAt_ok _ _) ⟨va_cnB 2 X.2.2.2.2.1 gX1_isPeak_X9_cellAt_n61 rfl rfl rfl (tv_nwM X nM10) (X.2.2.2.2.1 _ (zX1_isPeak_X9).1) (by decide +kernel) ⟨Nat.le_of_ble_eq_true rfl, Nat.le_of_ble_eq_true rfl⟩, X.2.2.2.2.1 _ (zX1_isPeak_X9_cellAt)⟩ rfl rfl (Nat.le_of_ble_eq_true rfl) ⟨Nat.zero_le _, Nat.zero_le _⟩ (fun r S1 hq => ?_)
  obtain ⟨hq1, hq2⟩ := hq
  rw [hq1, hq2]
  clear hq1 hq2 S1 r
  refine tv_if_ge (tgt := 54) X dX1_isPeak_47 (by decide) (fun h5 => ?_) (fun h5 => ?_)
  rotate_left
  · exact absurd (by decide) h5
  refine tv_iconst (v := 0) X dX1_isPeak_54 (by decide) ?_
  refine tv_istore X dX1_isPeak_55 rfl ?_
  refine tv_iload X dX1_isPeak_57 rfl ?_
  refine tv_iload_n X dX1_isPeak_59 rfl ?_
  refine tv_icmp_gt (tgt := 74) X dX1_isPeak_60 (by decide) (fun h6 => ?_) (fun h6 => ?_)
  · refine tv_iconst (v := 0) X dX1_isPeak_74 (by decide) ?_
    have hz : pkOk (sgS S b) own (nI (c1 / 6)) (nI (c1 % 6)) (1) (0) = false := by simp only [pkOk, h6, decide_true, Bool.true_or, Bool.not_true]
    refine tv_zret X hrt dX1_isPeak_75 rfl ⟨_, rfl, rfl, ?_⟩
    rw [if_neg]
    unfold pk9
    simp [k1, k2, k3, k4, k5, k6, k7, hz]
  have k8 : pkOk (sgS S b) own (nI (c1 / 6)) (nI (c1 % 6)) (1) (0) = true := by simp only [pkOk, h6, show ¬ (6 : Int32) * (1) + (0) < 0 by decide, decide_false, Bool.and_false, Bool.or_false, Bool.not_false]
  refine tv_iload X dX1_isPeak_63 rfl ?_
  refine tv_iload_n X dX1_isPeak_65 rfl ?_
  refine mm_cut (pc := 76) (fun _ : Unit => True) (fun _ => [(0, .ref (n0 + (b + 1))), (1, .int (nI c1)), (2, .int own), (3, .int (1)), (4, .int (0))]) (fun _ => []) (fun _ => S) ?_ ?_
  rotate_left
  · intro hcut
    refine tv_icmp_ne (tgt := 76) X dX1_isPeak_66 (by decide) (fun h7 => ?_) (fun h7 => ?_)
    · exact tv_sl [0, 1, 2, 3, 4] rfl (hcut () trivial)
    refine tv_iload X dX1_isPeak_69 rfl ?_
    refine tv_if_eq (tgt := 76) X dX1_isPeak_71 (by decide) (fun h8 => ?_) (fun h8 => ?_)
    · exact tv_sl [0, 1, 2, 3, 4] rfl (hcut () trivial)
    · exact absurd rfl h8
  intro _ _
  refine tv_iinc X dX1_isPeak_76 rfl (show (0 : Int32) + Int32.ofInt 1 = 1 by decide) rfl ?_
  refine tv_goto (tgt := 16) X dX1_isPeak_79 (by decide) ?_
  refine mm_L (L' := [(0, .ref (n0 + (b + 1))), (1, .int (nI c1)), (2, .int own), (3, .int (1)), (4, .int (1))]) rfl ?_
  refine tv_iload X dX1_isPeak_16 rfl ?_
  refine tv_iconst (v := 1) X dX1_isPeak_18 (by decide) ?_
  refine tv_icmp_gt (tgt := 82) X dX1_isPeak_19 (by decide) (fun h2 => ?_) (fun h2 => ?_)
  · exact absurd h2 (by decide)
  refine tv_aload_n X dX1_isPeak_22 rfl ?_
  refine tv_iload_n X dX1_isPeak_23 rfl ?_
  refine tv_bipush (v := 6) X dX1_isPeak_24 (by decide) ?_
  refine tv_idiv X dX1_isPeak_26 (by decide) ?_
  refine tv_iload_n X dX1_isPeak_27 rfl ?_
  refine tv_iadd X dX1_isPeak_28 ?_
  refine tv_iload_n X dX1_isPeak_29 rfl ?_
  refine tv_bipush (v := 6) X dX1_isPeak_30 (by decide) ?_
  refine tv_irem X dX1_isPeak_32 (by decide) ?_
  refine tv_iload X dX1_isPeak_33 rfl ?_
  refine tv_iadd X dX1_isPeak_35 ?_
  rw [hm, hd]
  refine mm_callVi (q := (RX4, TX4, 2)) X dX1_isPeak_36 (cX4_signalAt_ok hb _ _) (cwV 2 X.2.2.2.2.1 gX1_isPeak_X4_signalAt rfl rfl rfl (by decide +kernel) ⟨Nat.le_of_ble_eq_true rfl, Nat.le_of_ble_eq_true rfl⟩) rfl rfl (gX4 hb) rfl (Nat.le_of_ble_eq_true rfl) ⟨Nat.zero_le _, Nat.zero_le _⟩ (fun r S1 hq => ?_)
  obtain ⟨hq1, hq2⟩ := hq
  rw [hq1, hq2]
  clear hq1 hq2 S1 r
  refine tv_istore X dX1_isPeak_39 rfl ?_
  refine tv_iload_n X dX1_isPeak_41 rfl ?_
  refine tv_iload X dX1_isPeak_42 rfl ?_
  refine mm_callSNi X dX1_isPeak_44 (cX9_cellAt_ok _ _) ⟨va_cnB 2 X.2.2.2.2.1 gX1_isPeak_X9_cellAt_n61 rfl rfl rfl (tv_nwM X nM10) (X.2.2.2.2.1 _ (zX1_isPeak_X9).1) (by decide +kernel) ⟨Nat.le_of_ble_eq_true rfl, Nat.le_of_ble_eq_true rfl⟩, X.2.2.2.2.1 _ (zX1_isPeak_X9_cellAt)⟩ rfl rfl (Nat.le_of_ble_eq_true rfl) ⟨Nat.zero_le _, Nat.zero_le _⟩ (fun r S1 hq => ?_)
  obtain ⟨hq1, hq2⟩ := hq
  rw [hq1, hq2]
  clear hq1 hq2 S1 r
  refine tv_if_ge (tgt := 54) X dX1_isPeak_47 (by decide) (fun h5 => ?_) (fun h5 => ?_)
  rotate_left
  · exact absurd (by decide) h5
  refine tv_iconst (v := 0) X dX1_isPeak_54 (by decide) ?_
  refine tv_istore X dX1_isPeak_55 rfl ?_
  refine tv_iload X dX1_isPeak_57 rfl ?_
  refine tv_iload_n X dX1_isPeak_59 rfl ?_
  refine tv_icmp_gt (tgt := 74) X dX1_isPeak_60 (by decide) (fun h6 => ?_) (fun h6 => ?_)
  · refine tv_iconst (v := 0) X dX1_isPeak_74 (by decide) ?_
    have hz : pkOk (sgS S b) own (nI (c1 / 6)) (nI (c1 % 6)) (1) (1) = false := by simp only [pkOk, h6, decide_true, Bool.true_or, Bool.not_true]
    refine tv_zret X hrt dX1_isPeak_75 rfl ⟨_, rfl, rfl, ?_⟩
    rw [if_neg]
    unfold pk9
    simp [k1, k2, k3, k4, k5, k6, k7, k8, hz]
  have k9 : pkOk (sgS S b) own (nI (c1 / 6)) (nI (c1 % 6)) (1) (1) = true := by simp only [pkOk, h6, show ¬ (6 : Int32) * (1) + (1) < 0 by decide, decide_false, Bool.and_false, Bool.or_false, Bool.not_false]
  refine tv_iload X dX1_isPeak_63 rfl ?_
  refine tv_iload_n X dX1_isPeak_65 rfl ?_
  refine mm_cut (pc := 76) (fun _ : Unit => True) (fun _ => [(0, .ref (n0 + (b + 1))), (1, .int (nI c1)), (2, .int own), (3, .int (1)), (4, .int (1))]) (fun _ => []) (fun _ => S) ?_ ?_
  rotate_left
  · intro hcut
    refine tv_icmp_ne (tgt := 76) X dX1_isPeak_66 (by decide) (fun h7 => ?_) (fun h7 => ?_)
    · exact tv_sl [0, 1, 2, 3, 4] rfl (hcut () trivial)
    refine tv_iload X dX1_isPeak_69 rfl ?_
    refine tv_if_eq (tgt := 76) X dX1_isPeak_71 (by decide) (fun h8 => ?_) (fun h8 => ?_)
    · exact tv_sl [0, 1, 2, 3, 4] rfl (hcut () trivial)
    · exact absurd rfl h8
  intro _ _
  refine tv_iinc X dX1_isPeak_76 rfl (show (1 : Int32) + Int32.ofInt 1 = 2 by decide) rfl ?_
  refine tv_goto (tgt := 16) X dX1_isPeak_79 (by decide) ?_
  refine mm_L (L' := [(0, .ref (n0 + (b + 1))), (1, .int (nI c1)), (2, .int own), (3, .int (1)), (4, .int (2))]) rfl ?_
  refine tv_iload X dX1_isPeak_16 rfl ?_
  refine tv_iconst (v := 1) X dX1_isPeak_18 (by decide) ?_
  refine tv_icmp_gt (tgt := 82) X dX1_isPeak_19 (by decide) (fun h3 => ?_) (fun h3 => ?_)
  rotate_left
  · exact absurd (by decide) h3
  refine tv_iinc X dX1_isPeak_82 rfl (show (1 : Int32) + Int32.ofInt 1 = 2 by decide) rfl ?_
  refine tv_goto (tgt := 8) X dX1_isPeak_85 (by decide) ?_
  refine mm_L (L' := [(0, .ref (n0 + (b + 1))), (1, .int (nI c1)), (2, .int own), (3, .int (2)), (4, .int 2)]) rfl ?_
  refine tv_iload_n X dX1_isPeak_8 rfl ?_
  refine tv_iconst (v := 1) X dX1_isPeak_9 (by decide) ?_
  refine tv_icmp_gt (tgt := 88) X dX1_isPeak_10 (by decide) (fun h4 => ?_) (fun h4 => ?_)
  rotate_left
  · exact absurd (by decide) h4
  refine tv_iconst (v := 1) X dX1_isPeak_88 (by decide) ?_
  refine tv_zret X hrt dX1_isPeak_89 rfl ⟨_, rfl, rfl, ?_⟩
  rw [if_pos]
  unfold pk9
  simp [k1, k2, k3, k4, k5, k6, k7, k8, k9]
end C19

