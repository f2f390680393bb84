/-- what a boolean method answers, as a condition -/
def bI (q : Prop) [Decidable q] : Int32 := if q then 1 else 0
def cap255 (v : Int32) : Int32 := if v < 255 then v else 255
/-- the raw values when the cell at row x, column y is raised by f -/
def onP (x y : Int32) : Prop := (∃ j, j < 8 ∧ x = nI j) ∧ ∃ j, j < 6 ∧ y = nI j
noncomputable def rai (row : Nat → Int32) (x y f : Int32) : Nat → Int32 := by
  classical
  exact if onP x y then upd row (6 * x + y).toNatClampNeg (cap255 (row (6 * x + y).toNatClampNeg + f)) else row
theorem rai_in {row : Nat → Int32} {i j : Nat} {f : Int32} (hi : i < 8) (hj : j < 6) : rai row (nI i) (nI j) f = upd row (6 * i + j) (cap255 (row (6 * i + j) + f)) := by
  have h : onP (nI i) (nI j) := ⟨⟨i, hi, rfl⟩, j, hj, rfl⟩
  have h2 : ((6 : Int32) * nI i + nI j).toNatClampNeg = 6 * i + j := by
    rw [show (6 : Int32) = nI 6 from rfl, pk_mul, nI_add, nI_clamp (by omega)]
  unfold rai
  rw [if_pos h, h2]
theorem rai_out {row : Nat → Int32} {x y f : Int32} (h : ¬ onP x y) : rai row x y f = row := by
  unfold rai
  rw [if_neg h]
def sgS (S : mS) (b j : Nat) : Int32 := if 0 < S.1 (b + 2) j - S.1 (b + 3) j then S.1 (b + 2) j - S.1 (b + 3) j else 0
/-- how many of the first are so -/
def cntI (q : Nat → Bool) : Nat → Int32
  | 0 => 0
  | i + 1 => if q i then cntI q i + 1 else cntI q i
theorem cntI_y {q : Nat → Bool} {i : Nat} (h : q i = true) : cntI q (i + 1) = cntI q i + 1 := if_pos h
theorem cntI_n {q : Nat → Bool} {i : Nat} (h : q i = false) : cntI q (i + 1) = cntI q i := if_neg (by rw [h]; decide)
section C13
variable {l : Launch} {D : va_G} {n0 : Nat} {ft : tv_ft} {n : Nat} {S : mS} {b : Nat}
theorem iX4_rawOf_X4 : ∀ w ∈ wsX40, w ∈ wsX4_rawOf := by decide +kernel
theorem kX4_rawOf_9 : Cond.fieldLink RX4 9 (TX4 0).1 (TX4 0).2.1 (TX4 0).2.2.1 ∈ wsX4_rawOf := by decide +kernel
theorem zX4_rawOf_X9 : Cond.initialized RX9 ∈ wsX4_rawOf ∧ True := ⟨by decide +kernel, trivial⟩
theorem zX4_rawOf_X9_isCell : Cond.static yX9_isCell ∈ wsX4_rawOf := by decide +kernel
theorem cX4_rawOf_ok (hb : mst b = true) {j : Nat} (hj : j < 48) : mMi l yX4_rawOf wsX4_rawOf rmX4_rawOf D n0 ft [.ref (n0 + (b + 1)), .int (nI j)] n S (fun r S' => S' = S ∧ r = S.1 (b + 2) j) := by
  refine tv_enter (cc := cX4_rawOf) (maxL := 2) (ret := (some .int)) (by decide) rfl (Nat.le_of_ble_eq_true rfl) ?_
  intro p e s m args below meth c X hrt hnm hargs
  refine tv_iload_n X dX4_rawOf_0 rfl ?_
  refine mm_callSNi X dX4_rawOf_1 (cX9_isCell_ok _) ⟨va_cnB 1 X.2.2.2.2.1 gX4_rawOf_X9_isCell_n18 rfl rfl rfl (tv_nwM X nM12) (X.2.2.2.2.1 _ (zX4_rawOf_X9).1) (by decide +kernel) ⟨Nat.le_of_ble_eq_true rfl, Nat.le_of_ble_eq_true rfl⟩, X.2.2.2.2.1 _ (zX4_rawOf_X9_isCell)⟩ rfl rfl (Nat.le_of_ble_eq_true rfl) ⟨Nat.zero_le _, Nat.zero_le _⟩ (fun r S1 hq => ?_)
  obtain ⟨rfl, ⟨rfl, -⟩ | ⟨-, hno⟩⟩ := hq
  · refine tv_if_eq (tgt := 16) X dX4_rawOf_4 (by decide) (fun h1 => ?_) (fun h1 => ?_)
    · exact absurd h1 (by decide)
    · refine tv_aload_n X dX4_rawOf_7 rfl ?_
      refine mm_getf X dX4_rawOf_8 (gX4 hb) iX4_rawOf_X4 rfl 0 (by decide) kX4_rawOf_9 rfl ?_
      refine tv_iload_n X dX4_rawOf_11 rfl ?_
      refine mm_iald X dX4_rawOf_12 (gRaw hb) _ rfl (by omega) (by decide) ?_
      refine tv_goto (tgt := 17) X dX4_rawOf_13 (by decide) ?_
      exact tv_iret X hrt dX4_rawOf_17 ⟨_, rfl, rfl, rfl⟩
  · exact absurd ⟨j, hj, rfl⟩ hno
theorem iX4_signalOf_X4 : ∀ w ∈ wsX40, w ∈ wsX4_signalOf := by decide +kernel
theorem kX4_signalOf_9 : Cond.fieldLink RX4 9 (TX4 0).1 (TX4 0).2.1 (TX4 0).2.2.1 ∈ wsX4_signalOf := by decide +kernel
theorem kX4_signalOf_15 : Cond.fieldLink RX4 15 (TX4 1).1 (TX4 1).2.1 (TX4 1).2.2.1 ∈ wsX4_signalOf := by decide +kernel
theorem cX4_signalOf_ok (hb : mst b = true) {j : Nat} (hj : j < 48) : mMi l yX4_signalOf wsX4_signalOf rmX4_signalOf D n0 ft [.ref (n0 + (b + 1)), .int (nI j)] n S (fun r S' => S' = S ∧ r = sgS S b j) := by
  refine tv_enter (cc := cX4_signalOf) (maxL := 3) (ret := (some .int)) (by decide) rfl (Nat.le_of_ble_eq_true rfl) ?_
  intro p e s m args below meth c X hrt hnm hargs
  refine tv_iload_n X dX4_signalOf_0 rfl ?_
  refine tv_if_lt (tgt := 26) X dX4_signalOf_1 (by decide) (fun h1 => ?_) (fun h1 => ?_)
  · exact absurd h1 (nI_pos (by omega))
  · refine tv_iload_n X dX4_signalOf_4 rfl ?_
    refine tv_bipush (v := 48) X dX4_signalOf_5 (by decide) ?_
    refine tv_icmp_ge (tgt := 26) X dX4_signalOf_7 (by decide) (fun h2 => ?_) (fun h2 => ?_)
    · exact absurd h2 (nI_ge (a := j) (b := 48) hj (by decide))
    · refine tv_aload_n X dX4_signalOf_10 rfl ?_
      refine mm_getf X dX4_signalOf_11 (gX4 hb) iX4_signalOf_X4 rfl 0 (by decide) kX4_signalOf_9 rfl ?_
      refine tv_iload_n X dX4_signalOf_14 rfl ?_
      refine mm_iald X dX4_signalOf_15 (gRaw hb) _ rfl (by omega) (by decide) ?_
      refine tv_aload_n X dX4_signalOf_16 rfl ?_
      refine mm_getf X dX4_signalOf_17 (gX4 hb) iX4_signalOf_X4 rfl 1 (by decide) kX4_signalOf_15 rfl ?_
      refine tv_iload_n X dX4_signalOf_20 rfl ?_
      refine mm_iald X dX4_signalOf_21 (gBas hb) _ rfl (by omega) (by decide) ?_
      refine tv_isub X dX4_signalOf_22 ?_
      refine tv_goto (tgt := 27) X dX4_signalOf_23 (by decide) ?_
      refine tv_istore_n X dX4_signalOf_27 rfl ?_
      refine tv_iload_n X dX4_signalOf_28 rfl ?_
      refine tv_if_le (tgt := 36) X dX4_signalOf_29 (by decide) (fun h3 => ?_) (fun h3 => ?_)
      · refine tv_iconst (v := 0) X dX4_signalOf_36 (by decide) ?_
        refine tv_iret X hrt dX4_signalOf_37 ⟨_, rfl, rfl, ?_⟩
        unfold sgS
        rw [if_neg (Int32.not_lt.mpr h3)]
      · refine tv_iload_n X dX4_signalOf_32 rfl ?_
        refine tv_goto (tgt := 37) X dX4_signalOf_33 (by decide) ?_
        refine tv_iret X hrt dX4_signalOf_37 ⟨_, rfl, rfl, ?_⟩
        unfold sgS
        rw [if_pos (Int32.not_le.mp h3)]
theorem zX4_signalAt_X9 : Cond.initialized RX9 ∈ wsX4_signalAt ∧ True := ⟨by decide +kernel, trivial⟩
theorem zX4_signalAt_X9_cellAt : Cond.static yX9_cellAt ∈ wsX4_signalAt := by decide +kernel
theorem zX4_signalAt_X9_isOnPanel : Cond.static yX9_isOnPanel ∈ wsX4_signalAt := by decide +kernel
theorem cX4_signalAt_in (hb : mst b = true) {i j : Nat} (hi : i < 8) (hj : j < 6) : mMi l yX4_signalAt wsX4_signalAt rmX4_signalAt D n0 ft [.ref (n0 + (b + 1)), .int (nI i), .int (nI j)] n S (fun r S' => S' = S ∧ r = sgS S b (6 * i + j)) := by
  refine tv_enter (cc := cX4_signalAt) (maxL := 3) (ret := (some .int)) (by decide) rfl (Nat.le_of_ble_eq_true rfl) ?_
  intro p e s m args below meth c X hrt hnm hargs
  refine tv_iload_n X dX4_signalAt_0 rfl ?_
  refine tv_iload_n X dX4_signalAt_1 rfl ?_
  refine mm_callSNi X dX4_signalAt_2 (cX9_isOnPanel_ok _ _) ⟨va_cnB 2 X.2.2.2.2.1 gX4_signalAt_X9_isOnPanel_n22 rfl rfl rfl (tv_nwM X nM8) (X.2.2.2.2.1 _ (zX4_signalAt_X9).1) (by decide +kernel) ⟨Nat.le_of_ble_eq_true rfl, Nat.le_of_ble_eq_true rfl⟩, X.2.2.2.2.1 _ (zX4_signalAt_X9_isOnPanel)⟩ rfl rfl (Nat.le_of_ble_eq_true rfl) ⟨Nat.zero_le _, Nat.zero_le _⟩ (fun r S1 hq => ?_)
  obtain ⟨rfl, ⟨rfl, -⟩ | ⟨-, hno⟩⟩ := hq
  · refine tv_if_eq (tgt := 20) X dX4_signalAt_5 (by decide) (fun h1 => ?_) (fun h1 => ?_)
    · exact absurd h1 (by decide)
    · refine tv_aload_n X dX4_signalAt_8 rfl ?_
      refine tv_iload_n X dX4_signalAt_9 rfl ?_
      refine tv_iload_n X dX4_signalAt_10 rfl ?_
      refine mm_callSNi X dX4_signalAt_11 (cX9_cellAt_ok _ _) ⟨va_cnB 2 X.2.2.2.2.1 gX4_signalAt_X9_cellAt_n26 rfl rfl rfl (tv_nwM X nM9) (X.2.2.2.2.1 _ (zX4_signalAt_X9).1) (by decide +kernel) ⟨Nat.le_of_ble_eq_true rfl, Nat.le_of_ble_eq_true rfl⟩, X.2.2.2.2.1 _ (zX4_signalAt_X9_cellAt)⟩ rfl rfl (Nat.le_of_ble_eq_true rfl) ⟨Nat.zero_le _, Nat.zero_le _⟩ (fun r S1 hq => ?_)
      obtain ⟨rfl, rfl⟩ := hq
      have hc : (6 : Int32) * nI i + nI j = nI (6 * i + j) := by rw [show (6 : Int32) = nI 6 from rfl, pk_mul, nI_add]
      rw [hc]
      refine mm_callVi (q := (RX4, TX4, 2)) X dX4_signalAt_14 (cX4_signalOf_ok hb (j := 6 * i + j) (by omega)) (cwV 1 X.2.2.2.2.1 gX4_signalAt_X4_signalOf rfl rfl rfl (by decide +kernel) ⟨Nat.le_of_ble_eq_true rfl, Nat.le_of_ble_eq_true rfl⟩) rfl rfl (gX4 hb) rfl (Nat.le_of_ble_eq_true rfl) ⟨Nat.zero_le _, Nat.zero_le _⟩ (fun r S1 hq => ?_)
      obtain ⟨rfl, rfl⟩ := hq
      refine tv_goto (tgt := 21) X dX4_signalAt_17 (by decide) ?_
      exact tv_iret X hrt dX4_signalAt_21 ⟨_, rfl, rfl, rfl⟩
  · exact absurd ⟨⟨i, hi, rfl⟩, j, hj, rfl⟩ hno
theorem cX4_signalAt_out (hb : mst b = true) {x y : Int32} (hxy : ¬ onP x y) : mMi l yX4_signalAt wsX4_signalAt rmX4_signalAt D n0 ft [.ref (n0 + (b + 1)), .int x, .int y] n S (fun r S' => S' = S ∧ r = 0) := by
  refine tv_enter (cc := cX4_signalAt) (maxL := 3) (ret := (some .int)) (by decide) rfl (Nat.le_of_ble_eq_true rfl) ?_
  intro p e s m args below meth c X hrt hnm hargs
  refine tv_iload_n X dX4_signalAt_0 rfl ?_
  refine tv_iload_n X dX4_signalAt_1 rfl ?_
  refine mm_callSNi X dX4_signalAt_2 (cX9_isOnPanel_ok _ _) ⟨va_cnB 2 X.2.2.2.2.1 gX4_signalAt_X9_isOnPanel_n22 rfl rfl rfl (tv_nwM X nM8) (X.2.2.2.2.1 _ (zX4_signalAt_X9).1) (by decide +kernel) ⟨Nat.le_of_ble_eq_true rfl, Nat.le_of_ble_eq_true rfl⟩, X.2.2.2.2.1 _ (zX4_signalAt_X9_isOnPanel)⟩ rfl rfl (Nat.le_of_ble_eq_true rfl) ⟨Nat.zero_le _, Nat.zero_le _⟩ (fun r S1 hq => ?_)
  obtain ⟨rfl, ⟨-, h9⟩ | ⟨rfl, -⟩⟩ := hq
  · exact absurd h9 hxy
  · refine tv_if_eq (tgt := 20) X dX4_signalAt_5 (by decide) (fun h1 => ?_) (fun h1 => ?_)
    · refine tv_iconst (v := 0) X dX4_signalAt_20 (by decide) ?_
      exact tv_iret X hrt dX4_signalAt_21 ⟨_, rfl, rfl, rfl⟩
    · exact absurd rfl h1
theorem iX4_replaceRaw_X4 : ∀ w ∈ wsX40, w ∈ wsX4_replaceRaw := by decide +kernel
theorem kX4_replaceRaw_9 : Cond.fieldLink RX4 9 (TX4 0).1 (TX4 0).2.1 (TX4 0).2.2.1 ∈ wsX4_replaceRaw := by decide +kernel
theorem zX4_replaceRaw_X9 : Cond.initialized RX9 ∈ wsX4_replaceRaw ∧ True := ⟨by decide +kernel, trivial⟩
theorem zX4_replaceRaw_X9_isCell : Cond.static yX9_isCell ∈ wsX4_replaceRaw := by decide +kernel
theorem cX4_replaceRaw_ok (hb : mst b = true) {j : Nat} (hj : j < 48) (v : Int32) : mMi l yX4_replaceRaw wsX4_replaceRaw rmX4_replaceRaw D n0 ft [.ref (n0 + (b + 1)), .int (nI j), .int v] n S (fun r S' => S' = mset S (b + 2) (upd (S.1 (b + 2)) j v) ∧ r = S.1 (b + 2) j) := by
  refine tv_enter (cc := cX4_replaceRaw) (maxL := 4) (ret := (some .int)) (by decide) rfl (Nat.le_of_ble_eq_true rfl) ?_
  intro p e s m args below meth c X hrt hnm hargs
  refine tv_iload_n X dX4_replaceRaw_0 rfl ?_
  refine mm_callSNi X dX4_replaceRaw_1 (cX9_isCell_ok _) ⟨va_cnB 1 X.2.2.2.2.1 gX4_replaceRaw_X9_isCell_n18 rfl rfl rfl (tv_nwM X nM12) (X.2.2.2.2.1 _ (zX4_replaceRaw_X9).1) (by decide +kernel) ⟨Nat.le_of_ble_eq_true rfl, Nat.le_of_ble_eq_true rfl⟩, X.2.2.2.2.1 _ (zX4_replaceRaw_X9_isCell)⟩ rfl rfl (Nat.le_of_ble_eq_true rfl) ⟨Nat.zero_le _, Nat.zero_le _⟩ (fun r S1 hq => ?_)
  obtain ⟨rfl, ⟨rfl, -⟩ | ⟨-, hno⟩⟩ := hq
  · refine tv_if_ne (tgt := 9) X dX4_replaceRaw_4 (by decide) (fun h1 => ?_) (fun h1 => ?_)
    · refine tv_aload_n X dX4_replaceRaw_9 rfl ?_
      refine mm_getf X dX4_replaceRaw_10 (gX4 hb) iX4_replaceRaw_X4 rfl 0 (by decide) kX4_replaceRaw_9 rfl ?_
      refine tv_iload_n X dX4_replaceRaw_13 rfl ?_
      refine mm_iald X dX4_replaceRaw_14 (gRaw hb) _ rfl (by omega) (by decide) ?_
      refine tv_istore_n X dX4_replaceRaw_15 rfl ?_
      refine tv_aload_n X dX4_replaceRaw_16 rfl ?_
      refine mm_getf X dX4_replaceRaw_17 (gX4 hb) iX4_replaceRaw_X4 rfl 0 (by decide) kX4_replaceRaw_9 rfl ?_
      refine tv_iload_n X dX4_replaceRaw_20 rfl ?_
      refine tv_iload_n X dX4_replaceRaw_21 rfl ?_
      refine mm_iast X dX4_replaceRaw_22 (gRaw hb) _ rfl (by omega) (by decide) ?_
      refine tv_iload_n X dX4_replaceRaw_23 rfl ?_
      exact tv_iret X hrt dX4_replaceRaw_24 ⟨_, rfl, rfl, rfl⟩
    · exact absurd h1 (by decide)
  · exact absurd ⟨j, hj, rfl⟩ hno
theorem iX4_raise_X4 : ∀ w ∈ wsX40, w ∈ wsX4_raise := by decide +kernel
theorem kX4_raise_9 : Cond.fieldLink RX4 9 (TX4 0).1 (TX4 0).2.1 (TX4 0).2.2.1 ∈ wsX4_raise := by decide +kernel
theorem zX4_raise_X9 : Cond.initialized RX9 ∈ wsX4_raise ∧ True := ⟨by decide +kernel, trivial⟩
theorem zX4_raise_X9_cellAt : Cond.static yX9_cellAt ∈ wsX4_raise := by decide +kernel
theorem zX4_raise_X9_isOnPanel : Cond.static yX9_isOnPanel ∈ wsX4_raise := by decide +kernel
theorem cX4_raise_ok (hb : mst b = true) (x y f : Int32) : mMv l yX4_raise wsX4_raise rmX4_raise D n0 ft [.ref (n0 + (b + 1)), .int x, .int y, .int f] n S (fun S' => S' = mset S (b + 2) (rai (S.1 (b + 2)) x y f)) := by
  refine tv_enter (cc := cX4_raise) (maxL := 6) (ret := none) (by decide) rfl (Nat.le_of_ble_eq_true rfl) ?_
  intro p e s m args below meth c X hrt hnm hargs
  refine tv_iload_n X dX4_raise_0 rfl ?_
  refine tv_iload_n X dX4_raise_1 rfl ?_
  refine mm_callSNi X dX4_raise_2 (cX9_isOnPanel_ok _ _) ⟨va_cnB 2 X.2.2.2.2.1 gX4_raise_X9_isOnPanel_n22 rfl rfl rfl (tv_nwM X nM8) (X.2.2.2.2.1 _ (zX4_raise_X9).1) (by decide +kernel) ⟨Nat.le_of_ble_eq_true rfl, Nat.le_of_ble_eq_true rfl⟩, X.2.2.2.2.1 _ (zX4_raise_X9_isOnPanel)⟩ rfl rfl (Nat.le_of_ble_eq_true rfl) ⟨Nat.zero_le _, Nat.zero_le _⟩ (fun r S1 hq => ?_)
  obtain ⟨rfl, ⟨rfl, ⟨i, hi, rfl⟩, j, hj, rfl⟩ | ⟨rfl, hno⟩⟩ := hq
  · refine tv_if_eq (tgt := 49) X dX4_raise_5 (by decide) (fun h1 => ?_) (fun h1 => ?_)
    · exact absurd h1 (by decide)
    · refine tv_iload_n X dX4_raise_8 rfl ?_
      refine tv_iload_n X dX4_raise_9 rfl ?_
      refine mm_callSNi X dX4_raise_10 (cX9_cellAt_ok _ _) ⟨va_cnB 2 X.2.2.2.2.1 gX4_raise_X9_cellAt_n26 rfl rfl rfl (tv_nwM X nM9) (X.2.2.2.2.1 _ (zX4_raise_X9).1) (by decide +kernel) ⟨Nat.le_of_ble_eq_true rfl, Nat.le_of_ble_eq_true rfl⟩, X.2.2.2.2.1 _ (zX4_raise_X9_cellAt)⟩ rfl rfl (Nat.le_of_ble_eq_true rfl) ⟨Nat.zero_le _, Nat.zero_le _⟩ (fun r S1 hq => ?_)
      obtain ⟨rfl, rfl⟩ := hq
      have hc : (6 : Int32) * nI i + nI j = nI (6 * i + j) := by rw [show (6 : Int32) = nI 6 from rfl, pk_mul, nI_add]
      rw [hc]
      have hij : 6 * i + j < 48 := by omega
      refine tv_istore X dX4_raise_13 rfl ?_
      refine tv_aload_n X dX4_raise_15 rfl ?_
      refine mm_getf X dX4_raise_16 (gX4 hb) iX4_raise_X4 rfl 0 (by decide) kX4_raise_9 rfl ?_
      refine tv_iload X dX4_raise_19 rfl ?_
      refine mm_iald X dX4_raise_21 (gRaw hb) _ rfl (by omega) (by decide) ?_
      refine tv_iload_n X dX4_raise_22 rfl ?_
      refine tv_iadd X dX4_raise_23 ?_
      refine tv_istore X dX4_raise_24 rfl ?_
      refine tv_aload_n X dX4_raise_26 rfl ?_
      refine mm_getf X dX4_raise_27 (gX4 hb) iX4_raise_X4 rfl 0 (by decide) kX4_raise_9 rfl ?_
      refine tv_iload X dX4_raise_30 rfl ?_
      refine tv_iload X dX4_raise_32 rfl ?_
      refine tv_sipush (v := 255) X dX4_raise_34 (by decide) ?_
      refine tv_icmp_ge (tgt := 45) X dX4_raise_37 (by decide) (fun h2 => ?_) (fun h2 => ?_)
      · refine tv_sipush (v := 255) X dX4_raise_45 (by decide) ?_
        refine mm_iast X dX4_raise_48 (gRaw hb) (6 * i + j) rfl hij (by decide) ?_
        refine tv_vret X hrt dX4_raise_49 ⟨_, rfl, ?_⟩
        rw [rai_in hi hj]
        unfold cap255
        rw [if_neg (Int32.not_lt.mpr h2)]
        rfl
      · refine tv_iload X dX4_raise_40 rfl ?_
        refine tv_goto (tgt := 48) X dX4_raise_42 (by decide) ?_
        refine mm_iast X dX4_raise_48 (gRaw hb) (6 * i + j) rfl hij (by decide) ?_
        refine tv_vret X hrt dX4_raise_49 ⟨_, rfl, ?_⟩
        rw [rai_in hi hj]
        unfold cap255
        rw [if_pos (Int32.not_le.mp h2)]
        rfl
  · refine tv_if_eq (tgt := 49) X dX4_raise_5 (by decide) (fun h1 => ?_) (fun h1 => ?_)
    · refine tv_vret X hrt dX4_raise_49 ⟨_, rfl, ?_⟩
      rw [rai_out hno, mset_self]
    · exact absurd rfl h1
theorem iX4_clearRaw_X4 : ∀ w ∈ wsX40, w ∈ wsX4_clearRaw := by decide +kernel
theorem kX4_clearRaw_9 : Cond.fieldLink RX4 9 (TX4 0).1 (TX4 0).2.1 (TX4 0).2.2.1 ∈ wsX4_clearRaw := by decide +kernel
theorem cX4_clearRaw_ok (hb : mst b = true) : mMi l yX4_clearRaw wsX4_clearRaw rmX4_clearRaw D n0 ft [.ref (n0 + (b + 1))] n S (fun r S' => S' = mset S (b + 2) (fun k => if k < 48 then 0 else S.1 (b + 2) k) ∧ r = cntI (fun k => decide (S.1 (b + 2) k ≠ 0)) 48) := by
  refine tv_enter (cc := cX4_clearRaw) (maxL := 3) (ret := (some .int)) (by decide) rfl (Nat.le_of_ble_eq_true rfl) ?_
  intro p e s m args below meth c X hrt hnm hargs
  refine tv_iconst (v := 0) X dX4_clearRaw_0 (by decide) ?_
  refine tv_istore_n X dX4_clearRaw_1 rfl ?_
  refine tv_iconst (v := 0) X dX4_clearRaw_2 (by decide) ?_
  refine tv_istore_n X dX4_clearRaw_3 rfl ?_
  refine mm_st (S' := mset S (b + 2) (fun k => if k < 0 then 0 else S.1 (b + 2) k)) ?_ ?_
  · exact (mset_self (S := S) (k := b + 2)).symm.trans (congrArg (mset S (b + 2)) (funext fun k => by simp))
  refine mm_for 48 (fun i => [(0, .ref (n0 + (b + 1))), (1, .int (cntI (fun k => decide (S.1 (b + 2) k ≠ 0)) i)), (2, .int (nI i))]) (fun i => mset S (b + 2) (fun k => if k < i then 0 else S.1 (b + 2) k)) ?_ ?_
  · intro i hi ih
    refine tv_iload_n X dX4_clearRaw_4 rfl ?_
    refine tv_bipush (v := 48) X dX4_clearRaw_5 (by decide) ?_
    refine tv_icmp_ge (tgt := 35) X dX4_clearRaw_7 (by decide) (fun h1 => ?_) (fun h1 => ?_)
    · exact absurd h1 (nI_ge (a := i) (b := 48) hi (by decide))
    · refine tv_aload_n X dX4_clearRaw_10 rfl ?_
      refine mm_getf X dX4_clearRaw_11 (gX4 hb) iX4_clearRaw_X4 rfl 0 (by decide) kX4_clearRaw_9 rfl ?_
      refine tv_iload_n X dX4_clearRaw_14 rfl ?_
      refine mm_iald X dX4_clearRaw_15 (gRaw hb) _ rfl (by omega) (by decide) ?_
      have hv : (mset S (b + 2) (fun k => if k < i then 0 else S.1 (b + 2) k)).1 (b + 2) i = S.1 (b + 2) i := by
        rw [mset_s]
        exact if_neg (Nat.lt_irrefl i)
      have hT : mset (mset S (b + 2) (fun k => if k < i then 0 else S.1 (b + 2) k)) (b + 2) (upd ((mset S (b + 2) (fun k => if k < i then 0 else S.1 (b + 2) k)).1 (b + 2)) i 0) = mset S (b + 2) (fun k => if k < i + 1 then 0 else S.1 (b + 2) k) := by
        rw [mset_mset, mset_s]
        refine congrArg (mset S (b + 2)) (funext fun k => ?_)
        unfold upd
        by_cases e1 : k = i
        · subst e1; simp
        · simp only [e1, if_false]
          by_cases e2 : k < i
          · simp [e2, Nat.lt_succ_of_lt e2]
          · simp [e2, show ¬ k < i + 1 by omega]
      rw [hv]
      refine tv_if_eq (tgt := 22) X dX4_clearRaw_16 (by decide) (fun h2 => ?_) (fun h2 => ?_)
      · have hc2 : cntI (fun k => decide (S.1 (b + 2) k ≠ 0)) (i + 1) = cntI (fun k => decide (S.1 (b + 2) k ≠ 0)) i := by simp [cntI, h2]
        dsimp only at ih
        rw [hc2] at ih
        refine tv_aload_n X dX4_clearRaw_22 rfl ?_
        refine mm_getf X dX4_clearRaw_23 (gX4 hb) iX4_clearRaw_X4 rfl 0 (by decide) kX4_clearRaw_9 rfl ?_
        refine tv_iload_n X dX4_clearRaw_26 rfl ?_
        refine tv_iconst (v := 0) X dX4_clearRaw_27 (by decide) ?_
        refine mm_iast X dX4_clearRaw_28 (gRaw hb) _ rfl (by omega) (by decide) ?_
        refine tv_iinc X dX4_clearRaw_29 rfl (nI_1 i) rfl ?_
        refine tv_goto (tgt := 4) X dX4_clearRaw_32 (by decide) ?_
        refine mm_st hT ?_
        exact ih
      · have hc2 : cntI (fun k => decide (S.1 (b + 2) k ≠ 0)) (i + 1) = cntI (fun k => decide (S.1 (b + 2) k ≠ 0)) i + 1 := by simp [cntI, h2]
        dsimp only at ih
        rw [hc2] at ih
        refine tv_iinc X dX4_clearRaw_19 rfl rfl rfl ?_
        refine tv_aload_n X dX4_clearRaw_22 rfl ?_
        refine mm_getf X dX4_clearRaw_23 (gX4 hb) iX4_clearRaw_X4 rfl 0 (by decide) kX4_clearRaw_9 rfl ?_
        refine tv_iload_n X dX4_clearRaw_26 rfl ?_
        refine tv_iconst (v := 0) X dX4_clearRaw_27 (by decide) ?_
        refine mm_iast X dX4_clearRaw_28 (gRaw hb) _ rfl (by omega) (by decide) ?_
        refine tv_iinc X dX4_clearRaw_29 rfl (nI_1 i) rfl ?_
        refine tv_goto (tgt := 4) X dX4_clearRaw_32 (by decide) ?_
        refine mm_st hT ?_
        exact ih
  · refine tv_iload_n X dX4_clearRaw_4 rfl ?_
    refine tv_bipush (v := 48) X dX4_clearRaw_5 (by decide) ?_
    refine tv_icmp_ge (tgt := 35) X dX4_clearRaw_7 (by decide) (fun h1 => ?_) (fun h1 => ?_)
    · refine tv_iload_n X dX4_clearRaw_35 rfl ?_
      exact tv_iret X hrt dX4_clearRaw_36 ⟨_, rfl, rfl, rfl⟩
    · exact absurd (nI_le (Nat.le_refl 48) (by decide)) h1
end C13

