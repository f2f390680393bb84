section C16
variable {l : Launch} {D : va_G} {n0 : Nat} {ft : tv_ft} {n : Nat} {S : mS} {b : Nat}
theorem iX5_measure_X5 : ∀ w ∈ wsX50, w ∈ wsX5_measure := by decide +kernel
theorem kX5_measure_9 : Cond.fieldLink RX5 9 (TX5 0).1 (TX5 0).2.1 (TX5 0).2.2.1 ∈ wsX5_measure := by decide +kernel
theorem kX5_measure_15 : Cond.fieldLink RX5 15 (TX5 1).1 (TX5 1).2.1 (TX5 1).2.2.1 ∈ wsX5_measure := by decide +kernel
theorem kX5_measure_18 : Cond.fieldLink RX5 18 (TX5 2).1 (TX5 2).2.1 (TX5 2).2.2.1 ∈ wsX5_measure := by decide +kernel
theorem zX5_measure_X9 : Cond.initialized RX9 ∈ wsX5_measure ∧ True := ⟨by decide +kernel, trivial⟩
theorem zX5_measure_X9_isCell : Cond.static yX9_isCell ∈ wsX5_measure := by decide +kernel
theorem cX5_measure_ok (hb : mst b = true) : mMv l yX5_measure wsX5_measure rmX5_measure D n0 ft [.ref (n0 + 99), .ref (n0 + (b + 1))] n S (fun S' => S' = mset (mset S 101 (mzF (zt (S.1 101) 48, zt (S.1 102) 48) (S.1 100) (sgS S b) 48).1) 102 (mzF (zt (S.1 101) 48, zt (S.1 102) 48) (S.1 100) (sgS S b) 48).2) := by
  have hbl := mst_le hb
  refine tv_enter (cc := cX5_measure) (maxL := 5) (ret := none) (by decide) rfl (Nat.le_of_ble_eq_true rfl) ?_
  intro p e s m args below meth c X hrt hnm hargs
  refine tv_iconst (v := 0) X dX5_measure_0 (by decide) ?_
  refine tv_istore_n X dX5_measure_1 rfl ?_
  refine mm_st (S' := mset (mset S 101 (zt (S.1 101) 0)) 102 (zt (S.1 102) 0)) ?_ ?_
  · rw [zt_0, zt_0, mset_self]
    exact (mset_self (S := S) (k := 102)).symm
  refine mm_cut (pc := 30) (fun _ : Unit => True) (fun _ => [(0, .ref (n0 + 99)), (1, .ref (n0 + (b + 1))), (2, .int (nI 0))]) (fun _ => []) (fun _ => mset (mset S 101 (zt (S.1 101) 48)) 102 (zt (S.1 102) 48)) ?_ ?_
  · intro _ _
    generalize hz : (zt (S.1 101) 48, zt (S.1 102) 48) = z
    have hz1 : zt (S.1 101) 48 = z.1 := by rw [← hz]
    have hz2 : zt (S.1 102) 48 = z.2 := by rw [← hz]
    rw [hz1, hz2]
    refine mm_for 48 (fun i => [(0, .ref (n0 + 99)), (1, .ref (n0 + (b + 1))), (2, .int (nI i))]) (fun i => mset (mset S 101 (mzF z (S.1 100) (sgS S b) i).1) 102 (mzF z (S.1 100) (sgS S b) i).2) ?_ ?_
    · intro i hi ih
      refine tv_iload_n X dX5_measure_30 rfl ?_
      refine tv_bipush (v := 48) X dX5_measure_31 (by decide) ?_
      refine tv_icmp_ge (tgt := 101) X dX5_measure_33 (by decide) (fun h1 => ?_) (fun h1 => ?_)
      · exact absurd h1 (nI_ge (a := i) (b := 48) hi (by decide))
      generalize hq : mzF z (S.1 100) (sgS S b) i = q at ih ⊢
      have hnx : mzF z (S.1 100) (sgS S b) (i + 1) = if S.1 100 i < 0 ∨ 48 ≤ S.1 100 i then q else (upd q.1 (S.1 100 i).toNatClampNeg (q.1 (S.1 100 i).toNatClampNeg + 1), upd q.2 (S.1 100 i).toNatClampNeg (if q.2 (S.1 100 i).toNatClampNeg < sgS S b i then sgS S b i else q.2 (S.1 100 i).toNatClampNeg)) := by rw [← hq]; rfl
      rw [hnx] at ih
      refine tv_aload_n X dX5_measure_36 rfl ?_
      refine mm_getf X dX5_measure_37 gX5 iX5_measure_X5 rfl 0 (by decide) kX5_measure_9 rfl ?_
      refine tv_iload_n X dX5_measure_40 rfl ?_
      have hv : (mset (mset S 101 q.1) 102 q.2).1 100 = S.1 100 := by rw [mset_n (by decide), mset_n (by decide)]
      refine mm_iald X dX5_measure_41 g100 _ rfl (by omega) (by decide) ?_
      rw [hv]
      refine tv_istore_n X dX5_measure_42 rfl ?_
      refine tv_iload_n X dX5_measure_43 rfl ?_
      refine mm_callSNi X dX5_measure_44 (cX9_isCell_ok _) ⟨va_cnB 1 X.2.2.2.2.1 gX5_measure_X9_isCell_n55 rfl rfl rfl (tv_nwM X nM7) (X.2.2.2.2.1 _ (zX5_measure_X9).1) (by decide +kernel) ⟨Nat.le_of_ble_eq_true rfl, Nat.le_of_ble_eq_true rfl⟩, X.2.2.2.2.1 _ (zX5_measure_X9_isCell)⟩ rfl rfl (Nat.le_of_ble_eq_true rfl) ⟨Nat.zero_le _, Nat.zero_le _⟩ (fun r S2 hq2 => ?_)
      obtain ⟨rfl, ⟨rfl, j, hj, hx⟩ | ⟨rfl, hno⟩⟩ := hq2
      · refine tv_if_eq (tgt := 95) X dX5_measure_47 (by decide) (fun h2 => ?_) (fun h2 => ?_)
        · exact absurd h2 (by decide)
        have hcn : ¬ (S.1 100 i < 0 ∨ 48 ≤ S.1 100 i) := fun hh => ix_no (x := S.1 100 i) (N := 48) (by decide) hh ⟨j, hj, hx⟩
        rw [if_neg hcn, hx, nI_clamp (by omega)] at ih
        rw [hx]
        refine tv_aload_n X dX5_measure_50 rfl ?_
        refine tv_iload_n X dX5_measure_51 rfl ?_
        refine mm_callVi (q := (RX4, TX4, 2)) X dX5_measure_52 (cX4_signalOf_ok hb (j := i) hi) (cwV 1 X.2.2.2.2.1 gX5_measure_X4_signalOf rfl rfl rfl (by decide +kernel) ⟨Nat.le_of_ble_eq_true rfl, Nat.le_of_ble_eq_true rfl⟩) rfl rfl (gX4 hb) rfl (Nat.le_of_ble_eq_true rfl) ⟨Nat.zero_le _, Nat.zero_le _⟩ (fun r S2 hq2 => ?_)
        obtain ⟨rfl, rfl⟩ := hq2
        rw [sgS_set (by omega) (by omega), sgS_set (by omega) (by omega)]
        refine tv_istore X dX5_measure_55 rfl ?_
        refine tv_aload_n X dX5_measure_57 rfl ?_
        refine mm_getf X dX5_measure_58 gX5 iX5_measure_X5 rfl 1 (by decide) kX5_measure_15 rfl ?_
        refine tv_iload_n X dX5_measure_61 rfl ?_
        refine tv_dup2 X dX5_measure_62 rfl rfl ?_
        refine mm_iald X dX5_measure_63 g101 j rfl hj (by decide) ?_
        refine tv_iconst (v := 1) X dX5_measure_64 (by decide) ?_
        refine tv_iadd X dX5_measure_65 ?_
        refine mm_iast X dX5_measure_66 g101 j rfl hj (by decide) ?_
        have h101 : (mset (mset S 101 q.1) 102 q.2).1 101 = q.1 := by rw [mset_n (by decide), mset_s]
        rw [h101]
        refine tv_aload_n X dX5_measure_67 rfl ?_
        refine mm_getf X dX5_measure_68 gX5 iX5_measure_X5 rfl 2 (by decide) kX5_measure_18 rfl ?_
        refine tv_iload_n X dX5_measure_71 rfl ?_
        refine tv_iload X dX5_measure_72 rfl ?_
        refine tv_aload_n X dX5_measure_74 rfl ?_
        refine mm_getf X dX5_measure_75 gX5 iX5_measure_X5 rfl 2 (by decide) kX5_measure_18 rfl ?_
        refine tv_iload_n X dX5_measure_78 rfl ?_
        refine mm_iald X dX5_measure_79 g102 j rfl hj (by decide) ?_
        have h102 : (mupd (mset (mset S 101 q.1) 102 q.2) 101 j (q.1 j + 1)).1 102 = q.2 := by rw [mupd_n (by decide), mset_s]
        rw [h102]
        have hT : ∀ w, mupd (mupd (mset (mset S 101 q.1) 102 q.2) 101 j (q.1 j + 1)) 102 j w = mset (mset S 101 (upd q.1 j (q.1 j + 1))) 102 (upd q.2 j w) := by
          intro w
          show mset _ 102 (upd ((mupd (mset (mset S 101 q.1) 102 q.2) 101 j (q.1 j + 1)).1 102) j w) = _
          rw [h102]
          show mset (mset (mset (mset S 101 q.1) 102 q.2) 101 (upd ((mset (mset S 101 q.1) 102 q.2).1 101) j (q.1 j + 1))) 102 _ = _
          rw [h101, mset_comm (k := 102) (q := 101) (by decide), mset_mset, mset_mset]
        refine tv_icmp_le (tgt := 88) X dX5_measure_80 (by decide) (fun h3 => ?_) (fun h3 => ?_)
        · rw [if_neg (Int32.not_lt.mpr h3)] at ih
          refine tv_aload_n X dX5_measure_88 rfl ?_
          refine mm_getf X dX5_measure_89 gX5 iX5_measure_X5 rfl 2 (by decide) kX5_measure_18 rfl ?_
          refine tv_iload_n X dX5_measure_92 rfl ?_
          refine mm_iald X dX5_measure_93 g102 j rfl hj (by decide) ?_
          refine mm_iast X dX5_measure_94 g102 j rfl hj (by decide) ?_
          rw [h102]
          refine tv_iinc X dX5_measure_95 rfl (nI_1 i) rfl ?_
          refine tv_goto (tgt := 30) X dX5_measure_98 (by decide) ?_
          exact tv_sl [0, 1, 2] rfl (mm_st (hT _) ih)
        · rw [if_pos (Int32.not_le.mp h3)] at ih
          refine tv_iload X dX5_measure_83 rfl ?_
          refine tv_goto (tgt := 94) X dX5_measure_85 (by decide) ?_
          refine mm_iast X dX5_measure_94 g102 j rfl hj (by decide) ?_
          refine tv_iinc X dX5_measure_95 rfl (nI_1 i) rfl ?_
          refine tv_goto (tgt := 30) X dX5_measure_98 (by decide) ?_
          exact tv_sl [0, 1, 2] rfl (mm_st (hT _) ih)
      · refine tv_if_eq (tgt := 95) X dX5_measure_47 (by decide) (fun h2 => ?_) (fun h2 => ?_)
        · have hx : S.1 100 i < 0 ∨ 48 ≤ S.1 100 i := by
            rcases pk_ix (S.1 100 i) (n := 48) (by decide) with h | h | h
            · exact Or.inl h
            · exact Or.inr h
            · exact absurd h hno
          rw [if_pos hx] at ih
          refine tv_iinc X dX5_measure_95 rfl (nI_1 i) rfl ?_
          refine tv_goto (tgt := 30) X dX5_measure_98 (by decide) ?_
          exact tv_sl [0, 1, 2] rfl ih
        · exact absurd rfl h2
    · refine tv_iload_n X dX5_measure_30 rfl ?_
      refine tv_bipush (v := 48) X dX5_measure_31 (by decide) ?_
      refine tv_icmp_ge (tgt := 101) X dX5_measure_33 (by decide) (fun h1 => ?_) (fun h1 => ?_)
      · exact tv_vret X hrt dX5_measure_101 ⟨_, rfl, rfl⟩
      · exact absurd (nI_le (Nat.le_refl 48) (by decide)) h1
  · intro hk
    refine mm_for 48 (fun i => [(0, .ref (n0 + 99)), (1, .ref (n0 + (b + 1))), (2, .int (nI i))]) (fun i => mset (mset S 101 (zt (S.1 101) i)) 102 (zt (S.1 102) i)) ?_ ?_
    · intro i hi ih
      refine tv_iload_n X dX5_measure_2 rfl ?_
      refine tv_bipush (v := 48) X dX5_measure_3 (by decide) ?_
      refine tv_icmp_ge (tgt := 28) X dX5_measure_5 (by decide) (fun h1 => ?_) (fun h1 => ?_)
      · exact absurd h1 (nI_ge (a := i) (b := 48) hi (by decide))
      refine tv_aload_n X dX5_measure_8 rfl ?_
      refine mm_getf X dX5_measure_9 gX5 iX5_measure_X5 rfl 1 (by decide) kX5_measure_15 rfl ?_
      refine tv_iload_n X dX5_measure_12 rfl ?_
      refine tv_iconst (v := 0) X dX5_measure_13 (by decide) ?_
      refine mm_iast X dX5_measure_14 g101 _ rfl (by omega) (by decide) ?_
      refine tv_aload_n X dX5_measure_15 rfl ?_
      refine mm_getf X dX5_measure_16 gX5 iX5_measure_X5 rfl 2 (by decide) kX5_measure_18 rfl ?_
      refine tv_iload_n X dX5_measure_19 rfl ?_
      refine tv_iconst (v := 0) X dX5_measure_20 (by decide) ?_
      refine mm_iast X dX5_measure_21 g102 _ rfl (by omega) (by decide) ?_
      refine tv_iinc X dX5_measure_22 rfl (nI_1 i) rfl ?_
      refine tv_goto (tgt := 2) X dX5_measure_25 (by decide) ?_
      refine mm_st ?_ ih
      show mset (mset _ 101 (upd ((mset (mset S 101 (zt (S.1 101) i)) 102 (zt (S.1 102) i)).1 101) i 0)) 102 (upd ((mupd (mset (mset S 101 (zt (S.1 101) i)) 102 (zt (S.1 102) i)) 101 i 0).1 102) i 0) = _
      rw [mupd_n (by decide), mset_s, zt_s, mset_n (by decide), mset_s, zt_s, mset_comm (k := 102) (q := 101) (by decide), mset_mset, mset_mset]
    · refine tv_iload_n X dX5_measure_2 rfl ?_
      refine tv_bipush (v := 48) X dX5_measure_3 (by decide) ?_
      refine tv_icmp_ge (tgt := 28) X dX5_measure_5 (by decide) (fun h1 => ?_) (fun h1 => ?_)
      · refine tv_iconst (v := 0) X dX5_measure_28 (by decide) ?_
        refine tv_istore_n X dX5_measure_29 rfl ?_
        exact hk () trivial
      · exact absurd (nI_le (Nat.le_refl 48) (by decide)) h1
theorem iX5_find_X5 : ∀ w ∈ wsX50, w ∈ wsX5_find := by decide +kernel
theorem iX5_find_X6 : ∀ w ∈ wsX60, w ∈ wsX5_find := by decide +kernel
theorem kX5_find_9 : Cond.fieldLink RX5 9 (TX5 0).1 (TX5 0).2.1 (TX5 0).2.2.1 ∈ wsX5_find := by decide +kernel
theorem kX5_find_26 : Cond.fieldLink RX5 26 (TX5 3).1 (TX5 3).2.1 (TX5 3).2.2.1 ∈ wsX5_find := by decide +kernel
theorem kX5_find_30 : Cond.fieldLink RX5 30 (TX5 4).1 (TX5 4).2.1 (TX5 4).2.2.1 ∈ wsX5_find := by decide +kernel
/-- the labels at first -/
def lab0 (S : mS) (b : Nat) : Nat → Int32 := fun k => if k < 48 then (if S.1 (b + 4) 0 ≤ sgS S b k then nI k else 48) else S.1 100 k
def labI (S : mS) (b i : Nat) : Nat → Int32 := fun k => if k < i then (if S.1 (b + 4) 0 ≤ sgS S b k then nI k else 48) else S.1 100 k
/-- the picture behind Regions.find, with k passes -/
def regS (S : mS) (b k : Nat) : mS := mset (mset (mset (mupd (mupd S 99 3 (S.1 (b + 4) 1)) 99 4 (S.1 (b + 4) 2)) 100 (jPass (labI S b 48) k)) 101 (mzF (zt (S.1 101) 48, zt (S.1 102) 48) (jPass (labI S b 48) k) (sgS S b) 48).1) 102 (mzF (zt (S.1 101) 48, zt (S.1 102) 48) (jPass (labI S b 48) k) (sgS S b) 48).2
theorem cX5_find_ok (hb : mst b = true) : mMv l yX5_find wsX5_find rmX5_find D n0 ft [.ref (n0 + 99), .ref (n0 + b)] n S (fun S' => ∃ k, k ≤ 48 ∧ (jFlag (labI S b 48) k = 0 ∨ k = 48) ∧ S' = regS S b k) := by
  have hbl := mst_le hb
  refine tv_enter (cc := cX5_find) (maxL := 4) (ret := none) (by decide) rfl (Nat.le_of_ble_eq_true rfl) ?_
  intro p e s m args below meth c X hrt hnm hargs
  refine tv_aload_n X dX5_find_0 rfl ?_
  refine tv_aload_n X dX5_find_1 rfl ?_
  refine mm_getfN X dX5_find_2 (gX6 hb) iX5_find_X6 rfl 1 (by decide) nF6 rfl ?_
  refine tv_iconst (v := 1) X dX5_find_5 (by decide) ?_
  refine mm_iald X dX5_find_6 (gSet hb) 1 (by decide) (by decide) (by decide) ?_
  refine mm_put X dX5_find_7 gX5 iX5_find_X5 rfl tyX5 tyX5_ok nmX5 3 (by decide) kX5_find_26 rfl rfl rfl (Nat.le_of_ble_eq_true rfl) rfl ?_
  refine tv_aload_n X dX5_find_10 rfl ?_
  refine tv_aload_n X dX5_find_11 rfl ?_
  generalize hS1 : mupd S 99 3 (S.1 (b + 4) 1) = S1
  have e4 : S1.1 (b + 4) = S.1 (b + 4) := by rw [← hS1]; exact mupd_n (by omega)
  have e2 : S1.1 (b + 2) = S.1 (b + 2) := by rw [← hS1]; exact mupd_n (by omega)
  have e3 : S1.1 (b + 3) = S.1 (b + 3) := by rw [← hS1]; exact mupd_n (by omega)
  have e0 : S1.1 100 = S.1 100 := by rw [← hS1]; exact mupd_n (by omega)
  have e5 : S1.1 101 = S.1 101 := by rw [← hS1]; exact mupd_n (by omega)
  have e6 : S1.1 102 = S.1 102 := by rw [← hS1]; exact mupd_n (by omega)
  refine mm_getfN X dX5_find_12 (gX6 hb) iX5_find_X6 rfl 1 (by decide) nF6 rfl ?_
  refine tv_iconst (v := 2) X dX5_find_15 (by decide) ?_
  refine mm_iald X dX5_find_16 (gSet hb) 2 (by decide) (by decide) (by decide) ?_
  refine mm_put X dX5_find_17 gX5 iX5_find_X5 rfl tyX5 tyX5_ok nmX5 4 (by decide) kX5_find_30 rfl rfl rfl (Nat.le_of_ble_eq_true rfl) rfl ?_
  refine tv_iconst (v := 0) X dX5_find_20 (by decide) ?_
  refine tv_istore_n X dX5_find_21 rfl ?_
  rw [e4]
  generalize hS2 : mupd S1 99 4 (S.1 (b + 4) 2) = S2
  have f4 : S2.1 (b + 4) = S.1 (b + 4) := by rw [← hS2, ← e4]; exact mupd_n (by omega)
  have f2 : S2.1 (b + 2) = S.1 (b + 2) := by rw [← hS2, ← e2]; exact mupd_n (by omega)
  have f3 : S2.1 (b + 3) = S.1 (b + 3) := by rw [← hS2, ← e3]; exact mupd_n (by omega)
  have f0 : S2.1 100 = S.1 100 := by rw [← hS2, ← e0]; exact mupd_n (by omega)
  have f5 : S2.1 101 = S.1 101 := by rw [← hS2, ← e5]; exact mupd_n (by omega)
  have f6 : S2.1 102 = S.1 102 := by rw [← hS2, ← e6]; exact mupd_n (by omega)
  have hsg : ∀ f j, sgS (mset S2 100 f) b j = sgS S b j := fun f j => by
    rw [sgS_set (by omega) (by omega)]
    unfold sgS
    rw [f2, f3]
  refine mm_st (S' := mset S2 100 (labI S b 0)) ?_ ?_
  · rw [show labI S b 0 = S2.1 100 from by rw [f0]; exact funext fun k => if_neg (Nat.not_lt_zero k)]
    exact mset_self.symm
  refine mm_cut (pc := 73) (fun _ : Unit => True) (fun _ => [(0, .ref (n0 + 99)), (1, .ref (n0 + b))]) (fun _ => []) (fun _ => mset S2 100 (labI S b 48)) ?_ ?_
  · intro _ _
    refine tv_iconst (v := 1) X dX5_find_73 (by decide) ?_
    refine tv_istore_n X dX5_find_74 rfl ?_
    refine tv_iconst (v := 0) X dX5_find_75 (by decide) ?_
    refine tv_istore_n X dX5_find_76 rfl ?_
    refine mm_loop (ι := Nat) (fun k => k ≤ 48) (fun k => 48 - k) (fun k => [(0, .ref (n0 + 99)), (1, .ref (n0 + b)), (2, .int (jFlag (labI S b 48) k)), (3, .int (nI k))]) (fun k => mset S2 100 (jPass (labI S b 48) k)) 0 (by omega) ?_
    intro k hk ih
    refine mm_cut (pc := 98) (fun _ : Unit => jFlag (labI S b 48) k = 0 ∨ k = 48) (fun _ => [(0, .ref (n0 + 99)), (1, .ref (n0 + b)), (2, .int (jFlag (labI S b 48) k)), (3, .int (nI k))]) (fun _ => []) (fun _ => mset S2 100 (jPass (labI S b 48) k)) ?_ ?_
    · intro _ hfl
      refine tv_aload_n X dX5_find_98 rfl ?_
      refine tv_aload_n X dX5_find_99 rfl ?_
      refine mm_getfN X dX5_find_100 (gX6 hb) iX5_find_X6 rfl 0 (by decide) nF4 rfl ?_
      refine mm_callVv (q := (RX5, TX5, 5)) X dX5_find_103 (cX5_measure_ok hb) (cwV 1 X.2.2.2.2.1 gX5_find_X5_measure rfl rfl rfl (by decide +kernel) ⟨Nat.le_of_ble_eq_true rfl, Nat.le_of_ble_eq_true rfl⟩) rfl rfl gX5 rfl (Nat.le_of_ble_eq_true rfl) ⟨Nat.zero_le _, Nat.zero_le _⟩ (fun S3 hq => ?_)
      subst hq
      refine tv_vret X hrt dX5_find_106 ⟨_, rfl, k, hk, hfl, ?_⟩
      unfold regS
      rw [hS1, hS2, mset_s, mset_n (by decide), mset_n (by decide), f5, f6]
      rw [show sgS (mset S2 100 (jPass (labI S b 48) k)) b = sgS S b from funext fun j => hsg _ j]
    intro hend
    refine tv_iload_n X dX5_find_77 rfl ?_
    refine tv_if_eq (tgt := 98) X dX5_find_78 (by decide) (fun h1 => ?_) (fun h1 => ?_)
    · exact hend () (Or.inl h1)
    refine tv_iload_n X dX5_find_81 rfl ?_
    refine tv_bipush (v := 48) X dX5_find_82 (by decide) ?_
    refine tv_icmp_ge (tgt := 98) X dX5_find_84 (by decide) (fun h2 => ?_) (fun h2 => ?_)
    · refine hend () (Or.inr ?_)
      have : ¬ k < 48 := fun h => nI_ge (b := 48) h (by decide) h2
      omega
    have hk48 : k < 48 := Nat.lt_of_not_le fun h => h2 (nI_le (a := 48) h (by omega))
    refine tv_aload_n X dX5_find_87 rfl ?_
    refine mm_callVi (q := (RX5, TX5, 5)) X dX5_find_88 (cX5_joinAll_ok) (cwV 0 X.2.2.2.2.1 gX5_find_X5_joinAll rfl rfl rfl (by decide +kernel) ⟨Nat.le_of_ble_eq_true rfl, Nat.le_of_ble_eq_true rfl⟩) rfl rfl gX5 rfl (Nat.le_of_ble_eq_true rfl) ⟨Nat.zero_le _, Nat.zero_le _⟩ (fun r S3 hq => ?_)
    obtain ⟨hq1, hq2⟩ := hq
    rw [hq1, hq2, mset_s, mset_mset]
    refine tv_istore_n X dX5_find_91 rfl ?_
    refine tv_iinc X dX5_find_92 rfl (nI_1 k) rfl ?_
    refine tv_goto (tgt := 77) X dX5_find_95 (by decide) ?_
    exact ih (k + 1) (by omega) (by omega)
  · intro hk
    refine mm_for 48 (fun i => [(0, .ref (n0 + 99)), (1, .ref (n0 + b)), (2, .int (nI i))]) (fun i => mset S2 100 (labI S b i)) ?_ ?_
    · intro i hi ih
      refine tv_iload_n X dX5_find_22 rfl ?_
      refine tv_bipush (v := 48) X dX5_find_23 (by decide) ?_
      refine tv_icmp_ge (tgt := 73) X dX5_find_25 (by decide) (fun h1 => ?_) (fun h1 => ?_)
      · exact absurd h1 (nI_ge (a := i) (b := 48) hi (by decide))
      refine tv_aload_n X dX5_find_28 rfl ?_
      refine mm_getfN X dX5_find_29 (gX6 hb) iX5_find_X6 rfl 0 (by decide) nF4 rfl ?_
      refine tv_iload_n X dX5_find_32 rfl ?_
      refine mm_callVi (q := (RX4, TX4, 2)) X dX5_find_33 (cX4_signalOf_ok hb (j := i) hi) (cwV 1 X.2.2.2.2.1 gX5_find_X4_signalOf rfl rfl rfl (by decide +kernel) ⟨Nat.le_of_ble_eq_true rfl, Nat.le_of_ble_eq_true rfl⟩) rfl rfl (gX4 hb) rfl (Nat.le_of_ble_eq_true rfl) ⟨Nat.zero_le _, Nat.zero_le _⟩ (fun r S3 hq => ?_)
      obtain ⟨hq1, hq2⟩ := hq
      rw [hq1, hq2, hsg]
      refine tv_aload_n X dX5_find_36 rfl ?_
      refine mm_getfN X dX5_find_37 (gX6 hb) iX5_find_X6 rfl 1 (by decide) nF6 rfl ?_
      refine tv_iconst (v := 0) X dX5_find_40 (by decide) ?_
      refine mm_iald X dX5_find_41 (gSet hb) 0 (by decide) (by decide) (by decide) ?_
      have g4 : (mset S2 100 (labI S b i)).1 (b + 4) 0 = S.1 (b + 4) 0 := by rw [mset_n (by omega), f4]
      rw [g4]
      have hT : mset S2 100 (labI S b (i + 1)) = mupd (mset S2 100 (labI S b i)) 100 i (if S.1 (b + 4) 0 ≤ sgS S b i then nI i else 48) := by
        show _ = mset (mset S2 100 (labI S b i)) 100 (upd ((mset S2 100 (labI S b i)).1 100) i _)
        rw [mset_mset, mset_s]
        refine congrArg (mset S2 100) (funext fun k => ?_)
        unfold upd labI
        by_cases e1 : k = i
        · subst e1; rw [if_pos (Nat.lt_succ_self k), if_pos rfl]
        · rw [if_neg e1]
          by_cases e2 : k < i
          · rw [if_pos e2, if_pos (Nat.lt_succ_of_lt e2)]
          · rw [if_neg e2, if_neg (by omega)]
      dsimp only at ih
      rw [hT] at ih
      refine tv_icmp_lt (tgt := 49) X dX5_find_42 (by decide) (fun h2 => ?_) (fun h2 => ?_)
      · rw [if_neg (Int32.not_le.mpr h2)] at ih
        refine tv_iconst (v := 0) X dX5_find_49 (by decide) ?_
        refine tv_istore_n X dX5_find_50 rfl ?_
        refine tv_aload_n X dX5_find_51 rfl ?_
        refine mm_getf X dX5_find_52 gX5 iX5_find_X5 rfl 0 (by decide) kX5_find_9 rfl ?_
        refine tv_iload_n X dX5_find_55 rfl ?_
        refine tv_iload_n X dX5_find_56 rfl ?_
        refine tv_if_eq (tgt := 64) X dX5_find_57 (by decide) (fun h3 => ?_) (fun h3 => ?_)
        · refine tv_bipush (v := 48) X dX5_find_64 (by decide) ?_
          refine mm_iast X dX5_find_66 g100 i rfl hi (by decide) ?_
          refine tv_iinc X dX5_find_67 rfl (nI_1 i) rfl ?_
          refine tv_goto (tgt := 22) X dX5_find_70 (by decide) ?_
          exact tv_sl [0, 1, 2] rfl ih
        · exact absurd rfl h3
      · rw [if_pos (Int32.not_lt.mp h2)] at ih
        refine tv_iconst (v := 1) X dX5_find_45 (by decide) ?_
        refine tv_goto (tgt := 50) X dX5_find_46 (by decide) ?_
        refine tv_istore_n X dX5_find_50 rfl ?_
        refine tv_aload_n X dX5_find_51 rfl ?_
        refine mm_getf X dX5_find_52 gX5 iX5_find_X5 rfl 0 (by decide) kX5_find_9 rfl ?_
        refine tv_iload_n X dX5_find_55 rfl ?_
        refine tv_iload_n X dX5_find_56 rfl ?_
        refine tv_if_eq (tgt := 64) X dX5_find_57 (by decide) (fun h3 => ?_) (fun h3 => ?_)
        · exact absurd h3 (by decide)
        · refine tv_iload_n X dX5_find_60 rfl ?_
          refine tv_goto (tgt := 66) X dX5_find_61 (by decide) ?_
          refine mm_iast X dX5_find_66 g100 i rfl hi (by decide) ?_
          refine tv_iinc X dX5_find_67 rfl (nI_1 i) rfl ?_
          refine tv_goto (tgt := 22) X dX5_find_70 (by decide) ?_
          exact tv_sl [0, 1, 2] rfl ih
    · refine tv_iload_n X dX5_find_22 rfl ?_
      refine tv_bipush (v := 48) X dX5_find_23 (by decide) ?_
      refine tv_icmp_ge (tgt := 73) X dX5_find_25 (by decide) (fun h1 => ?_) (fun h1 => ?_)
      · exact tv_sl [0, 1] rfl (hk () trivial)
      · exact absurd (nI_le (Nat.le_refl 48) (by decide)) h1
theorem iX5_sizeAround_X5 : ∀ w ∈ wsX50, w ∈ wsX5_sizeAround := by decide +kernel
theorem kX5_sizeAround_9 : Cond.fieldLink RX5 9 (TX5 0).1 (TX5 0).2.1 (TX5 0).2.2.1 ∈ wsX5_sizeAround := by decide +kernel
theorem kX5_sizeAround_15 : Cond.fieldLink RX5 15 (TX5 1).1 (TX5 1).2.1 (TX5 1).2.2.1 ∈ wsX5_sizeAround := by decide +kernel
theorem zX5_sizeAround_X9 : Cond.initialized RX9 ∈ wsX5_sizeAround ∧ True := ⟨by decide +kernel, trivial⟩
theorem zX5_sizeAround_X9_isCell : Cond.static yX9_isCell ∈ wsX5_sizeAround := by decide +kernel
/-- the label of a cell, as a region's number -/
theorem cX5_sizeAround_ok {j : Nat} (hj : j < 48) {f : Nat} (hf : S.1 100 j = nI f) (hf48 : f ≤ 48) : mMi l yX5_sizeAround wsX5_sizeAround rmX5_sizeAround D n0 ft [.ref (n0 + 99), .int (nI j)] n S (fun r S' => S' = S ∧ r = if f = 48 then 0 else S.1 101 f) := by
  refine tv_enter (cc := cX5_sizeAround) (maxL := 3) (ret := (some .int)) (by decide) rfl (Nat.le_of_ble_eq_true rfl) ?_
  intro p e s m args below meth c X hrt hnm hargs
  refine tv_iload_n X dX5_sizeAround_0 rfl ?_
  refine mm_callSNi X dX5_sizeAround_1 (cX9_isCell_in hj) ⟨va_cnB 1 X.2.2.2.2.1 gX5_sizeAround_X9_isCell_n55 rfl rfl rfl (tv_nwM X nM7) (X.2.2.2.2.1 _ (zX5_sizeAround_X9).1) (by decide +kernel) ⟨Nat.le_of_ble_eq_true rfl, Nat.le_of_ble_eq_true rfl⟩, X.2.2.2.2.1 _ (zX5_sizeAround_X9_isCell)⟩ rfl rfl (Nat.le_of_ble_eq_true rfl) ⟨Nat.zero_le _, Nat.zero_le _⟩ (fun r S1 hq => ?_)
  obtain ⟨rfl, rfl⟩ := hq
  refine tv_if_eq (tgt := 16) X dX5_sizeAround_4 (by decide) (fun h1 => ?_) (fun h1 => ?_)
  · exact absurd h1 (by decide)
  refine tv_aload_n X dX5_sizeAround_7 rfl ?_
  refine mm_getf X dX5_sizeAround_8 gX5 iX5_sizeAround_X5 rfl 0 (by decide) kX5_sizeAround_9 rfl ?_
  refine tv_iload_n X dX5_sizeAround_11 rfl ?_
  refine mm_iald X dX5_sizeAround_12 g100 _ rfl (by omega) (by decide) ?_
  rw [hf]
  refine tv_goto (tgt := 18) X dX5_sizeAround_13 (by decide) ?_
  refine tv_istore_n X dX5_sizeAround_18 rfl ?_
  refine tv_iload_n X dX5_sizeAround_19 rfl ?_
  refine mm_callSNi X dX5_sizeAround_20 (cX9_isCell_ok _) ⟨va_cnB 1 X.2.2.2.2.1 gX5_sizeAround_X9_isCell_n55 rfl rfl rfl (tv_nwM X nM7) (X.2.2.2.2.1 _ (zX5_sizeAround_X9).1) (by decide +kernel) ⟨Nat.le_of_ble_eq_true rfl, Nat.le_of_ble_eq_true rfl⟩, X.2.2.2.2.1 _ (zX5_sizeAround_X9_isCell)⟩ rfl rfl (Nat.le_of_ble_eq_true rfl) ⟨Nat.zero_le _, Nat.zero_le _⟩ (fun r S2 hq => ?_)
  obtain ⟨rfl, ⟨rfl, k, hk, hfk⟩ | ⟨rfl, hno⟩⟩ := hq
  · have hlt : f < 48 := by
      have := (nI_eq (a := f) (b := k) (by omega) (by omega)).mp hfk
      omega
    refine tv_if_eq (tgt := 35) X dX5_sizeAround_23 (by decide) (fun h2 => ?_) (fun h2 => ?_)
    · exact absurd h2 (by decide)
    · refine tv_aload_n X dX5_sizeAround_26 rfl ?_
      refine mm_getf X dX5_sizeAround_27 gX5 iX5_sizeAround_X5 rfl 1 (by decide) kX5_sizeAround_15 rfl ?_
      refine tv_iload_n X dX5_sizeAround_30 rfl ?_
      refine mm_iald X dX5_sizeAround_31 g101 f rfl hlt (by decide) ?_
      refine tv_goto (tgt := 36) X dX5_sizeAround_32 (by decide) ?_
      exact tv_iret X hrt dX5_sizeAround_36 ⟨_, rfl, rfl, (if_neg (by omega)).symm⟩
  · have hge : f = 48 := by
      rcases Nat.lt_or_ge f 48 with h | h
      · exact absurd ⟨f, h, rfl⟩ hno
      · omega
    refine tv_if_eq (tgt := 35) X dX5_sizeAround_23 (by decide) (fun h2 => ?_) (fun h2 => ?_)
    · refine tv_iconst (v := 0) X dX5_sizeAround_35 (by decide) ?_
      exact tv_iret X hrt dX5_sizeAround_36 ⟨_, rfl, rfl, (if_pos hge).symm⟩
    · exact absurd rfl h2
theorem iX5_kindAround_X5 : ∀ w ∈ wsX50, w ∈ wsX5_kindAround := by decide +kernel
theorem kX5_kindAround_9 : Cond.fieldLink RX5 9 (TX5 0).1 (TX5 0).2.1 (TX5 0).2.2.1 ∈ wsX5_kindAround := by decide +kernel
theorem kX5_kindAround_15 : Cond.fieldLink RX5 15 (TX5 1).1 (TX5 1).2.1 (TX5 1).2.2.1 ∈ wsX5_kindAround := by decide +kernel
theorem kX5_kindAround_18 : Cond.fieldLink RX5 18 (TX5 2).1 (TX5 2).2.1 (TX5 2).2.2.1 ∈ wsX5_kindAround := by decide +kernel
theorem kX5_kindAround_26 : Cond.fieldLink RX5 26 (TX5 3).1 (TX5 3).2.1 (TX5 3).2.2.1 ∈ wsX5_kindAround := by decide +kernel
theorem kX5_kindAround_30 : Cond.fieldLink RX5 30 (TX5 4).1 (TX5 4).2.1 (TX5 4).2.2.1 ∈ wsX5_kindAround := by decide +kernel
theorem zX5_kindAround_X9 : Cond.initialized RX9 ∈ wsX5_kindAround ∧ True := ⟨by decide +kernel, trivial⟩
theorem zX5_kindAround_X9_isCell : Cond.static yX9_isCell ∈ wsX5_kindAround := by decide +kernel
/-- the kind of a region, told by its label -/
def kndR (S : mS) (f : Nat) : Int32 := if S.1 99 3 < S.1 101 f then 1 else if S.1 102 f < S.1 99 4 then 2 else 0
theorem cX5_kindAround_ok {j : Nat} (hj : j < 48) {f : Nat} (hf : S.1 100 j = nI f) (hf48 : f ≤ 48) : mMi l yX5_kindAround wsX5_kindAround rmX5_kindAround D n0 ft [.ref (n0 + 99), .int (nI j)] n S (fun r S' => S' = S ∧ r = if f = 48 then -1 else kndR S f) := by
  refine tv_enter (cc := cX5_kindAround) (maxL := 3) (ret := (some .int)) (by decide) rfl (Nat.le_of_ble_eq_true rfl) ?_
  intro p e s m args below meth c X hrt hnm hargs
  refine tv_iload_n X dX5_kindAround_0 rfl ?_
  refine mm_callSNi X dX5_kindAround_1 (cX9_isCell_in hj) ⟨va_cnB 1 X.2.2.2.2.1 gX5_kindAround_X9_isCell_n55 rfl rfl rfl (tv_nwM X nM7) (X.2.2.2.2.1 _ (zX5_kindAround_X9).1) (by decide +kernel) ⟨Nat.le_of_ble_eq_true rfl, Nat.le_of_ble_eq_true rfl⟩, X.2.2.2.2.1 _ (zX5_kindAround_X9_isCell)⟩ rfl rfl (Nat.le_of_ble_eq_true rfl) ⟨Nat.zero_le _, Nat.zero_le _⟩ (fun r S1 hq => ?_)
  obtain ⟨rfl, rfl⟩ := hq
  refine tv_if_eq (tgt := 16) X dX5_kindAround_4 (by decide) (fun h1 => ?_) (fun h1 => ?_)
  · exact absurd h1 (by decide)
  refine tv_aload_n X dX5_kindAround_7 rfl ?_
  refine mm_getf X dX5_kindAround_8 gX5 iX5_kindAround_X5 rfl 0 (by decide) kX5_kindAround_9 rfl ?_
  refine tv_iload_n X dX5_kindAround_11 rfl ?_
  refine mm_iald X dX5_kindAround_12 g100 _ rfl (by omega) (by decide) ?_
  rw [hf]
  refine tv_goto (tgt := 18) X dX5_kindAround_13 (by decide) ?_
  refine tv_istore_n X dX5_kindAround_18 rfl ?_
  refine tv_iload_n X dX5_kindAround_19 rfl ?_
  refine mm_callSNi X dX5_kindAround_20 (cX9_isCell_ok _) ⟨va_cnB 1 X.2.2.2.2.1 gX5_kindAround_X9_isCell_n55 rfl rfl rfl (tv_nwM X nM7) (X.2.2.2.2.1 _ (zX5_kindAround_X9).1) (by decide +kernel) ⟨Nat.le_of_ble_eq_true rfl, Nat.le_of_ble_eq_true rfl⟩, X.2.2.2.2.1 _ (zX5_kindAround_X9_isCell)⟩ rfl rfl (Nat.le_of_ble_eq_true rfl) ⟨Nat.zero_le _, Nat.zero_le _⟩ (fun r S2 hq => ?_)
  obtain ⟨rfl, ⟨rfl, k, hk, hfk⟩ | ⟨rfl, hno⟩⟩ := hq
  · have hlt : f < 48 := by
      have := (nI_eq (a := f) (b := k) (by omega) (by omega)).mp hfk
      omega
    refine tv_if_ne (tgt := 28) X dX5_kindAround_23 (by decide) (fun h2 => ?_) (fun h2 => ?_)
    · refine tv_aload_n X dX5_kindAround_28 rfl ?_
      refine mm_getf X dX5_kindAround_29 gX5 iX5_kindAround_X5 rfl 1 (by decide) kX5_kindAround_15 rfl ?_
      refine tv_iload_n X dX5_kindAround_32 rfl ?_
      refine mm_iald X dX5_kindAround_33 g101 f rfl hlt (by decide) ?_
      refine tv_aload_n X dX5_kindAround_34 rfl ?_
      refine mm_getf X dX5_kindAround_35 gX5 iX5_kindAround_X5 rfl 3 (by decide) kX5_kindAround_26 rfl ?_
      refine tv_icmp_le (tgt := 43) X dX5_kindAround_38 (by decide) (fun h3 => ?_) (fun h3 => ?_)
      · refine tv_aload_n X dX5_kindAround_43 rfl ?_
        refine mm_getf X dX5_kindAround_44 gX5 iX5_kindAround_X5 rfl 2 (by decide) kX5_kindAround_18 rfl ?_
        refine tv_iload_n X dX5_kindAround_47 rfl ?_
        refine mm_iald X dX5_kindAround_48 g102 f rfl hlt (by decide) ?_
        refine tv_aload_n X dX5_kindAround_49 rfl ?_
        refine mm_getf X dX5_kindAround_50 gX5 iX5_kindAround_X5 rfl 4 (by decide) kX5_kindAround_30 rfl ?_
        refine tv_icmp_ge (tgt := 60) X dX5_kindAround_53 (by decide) (fun h4 => ?_) (fun h4 => ?_)
        · refine tv_iconst (v := 0) X dX5_kindAround_60 (by decide) ?_
          refine tv_iret X hrt dX5_kindAround_61 ⟨_, rfl, rfl, ?_⟩
          unfold kndR
          rw [if_neg (by omega), if_neg (Int32.not_lt.mpr h3), if_neg (Int32.not_lt.mpr h4)]
        · refine tv_iconst (v := 2) X dX5_kindAround_56 (by decide) ?_
          refine tv_goto (tgt := 61) X dX5_kindAround_57 (by decide) ?_
          refine tv_iret X hrt dX5_kindAround_61 ⟨_, rfl, rfl, ?_⟩
          unfold kndR
          rw [if_neg (by omega), if_neg (Int32.not_lt.mpr h3), if_pos (Int32.not_le.mp h4)]
      · refine tv_iconst (v := 1) X dX5_kindAround_41 (by decide) ?_
        refine tv_iret X hrt dX5_kindAround_42 ⟨_, rfl, rfl, ?_⟩
        unfold kndR
        rw [if_neg (by omega), if_pos (Int32.not_le.mp h3)]
    · exact absurd h2 (by decide)
  · have hge : f = 48 := by
      rcases Nat.lt_or_ge f 48 with h | h
      · exact absurd ⟨f, h, rfl⟩ hno
      · omega
    refine tv_if_ne (tgt := 28) X dX5_kindAround_23 (by decide) (fun h2 => ?_) (fun h2 => ?_)
    · exact absurd rfl h2
    · refine tv_iconst (v := -1) X dX5_kindAround_26 (by decide) ?_
      exact tv_iret X hrt dX5_kindAround_27 ⟨_, rfl, rfl, (if_pos hge).symm⟩
theorem iX5_countOf_X5 : ∀ w ∈ wsX50, w ∈ wsX5_countOf := by decide +kernel
theorem kX5_countOf_9 : Cond.fieldLink RX5 9 (TX5 0).1 (TX5 0).2.1 (TX5 0).2.2.1 ∈ wsX5_countOf := by decide +kernel
theorem cX5_countOf_ok {fl : Nat → Nat} (hfl : ∀ j, j < 48 → S.1 100 j = nI (fl j) ∧ fl j ≤ 48) (kd : Int32) : mMi l yX5_countOf wsX5_countOf rmX5_countOf D n0 ft [.ref (n0 + 99), .int kd] n S (fun r S' => S' = S ∧ r = cntI (fun j => decide (fl j = j ∧ kndR S j = kd)) 48) := by
  refine tv_enter (cc := cX5_countOf) (maxL := 4) (ret := (some .int)) (by decide) rfl (Nat.le_of_ble_eq_true rfl) ?_
  intro p e s m args below meth c X hrt hnm hargs
  refine tv_iconst (v := 0) X dX5_countOf_0 (by decide) ?_
  refine tv_istore_n X dX5_countOf_1 rfl ?_
  refine tv_iconst (v := 0) X dX5_countOf_2 (by decide) ?_
  refine tv_istore_n X dX5_countOf_3 rfl ?_
  refine mm_for 48 (fun i => [(0, .ref (n0 + 99)), (1, .int kd), (2, .int (cntI (fun j => decide (fl j = j ∧ kndR S j = kd)) i)), (3, .int (nI i))]) (fun _ => S) ?_ ?_
  · intro i hi ih
    refine tv_iload_n X dX5_countOf_4 rfl ?_
    refine tv_bipush (v := 48) X dX5_countOf_5 (by decide) ?_
    refine tv_icmp_ge (tgt := 38) X dX5_countOf_7 (by decide) (fun h1 => ?_) (fun h1 => ?_)
    · exact absurd h1 (nI_ge (a := i) (b := 48) hi (by decide))
    refine tv_aload_n X dX5_countOf_10 rfl ?_
    refine mm_getf X dX5_countOf_11 gX5 iX5_countOf_X5 rfl 0 (by decide) kX5_countOf_9 rfl ?_
    refine tv_iload_n X dX5_countOf_14 rfl ?_
    refine mm_iald X dX5_countOf_15 g100 _ rfl (by omega) (by decide) ?_
    rw [(hfl i hi).1]
    refine tv_iload_n X dX5_countOf_16 rfl ?_
    dsimp only at ih
    have hle := (hfl i hi).2
    refine tv_icmp_ne (tgt := 32) X dX5_countOf_17 (by decide) (fun h2 => ?_) (fun h2 => ?_)
    · have hne : fl i ≠ i := fun e => h2 (by rw [e])
      have hc2 : cntI (fun j => decide (fl j = j ∧ kndR S j = kd)) (i + 1) = cntI (fun j => decide (fl j = j ∧ kndR S j = kd)) i := by simp [cntI, hne]
      rw [hc2] at ih
      refine tv_iinc X dX5_countOf_32 rfl (nI_1 i) rfl ?_
      refine tv_goto (tgt := 4) X dX5_countOf_35 (by decide) ?_
      exact ih
    · have heq : fl i = i := (nI_eq (by omega) (by omega)).mp h2
      refine tv_aload_n X dX5_countOf_20 rfl ?_
      refine tv_iload_n X dX5_countOf_21 rfl ?_
      refine mm_callVi (q := (RX5, TX5, 5)) X dX5_countOf_22 (cX5_kindAround_ok hi (hfl i hi).1 hle) (cwV 1 X.2.2.2.2.1 gX5_countOf_X5_kindAround rfl rfl rfl (by decide +kernel) ⟨Nat.le_of_ble_eq_true rfl, Nat.le_of_ble_eq_true rfl⟩) rfl rfl gX5 rfl (Nat.le_of_ble_eq_true rfl) ⟨Nat.zero_le _, Nat.zero_le _⟩ (fun r S1 hq => ?_)
      obtain ⟨rfl, rfl⟩ := hq
      rw [heq, if_neg (show ¬ i = 48 by omega)]
      refine tv_iload_n X dX5_countOf_25 rfl ?_
      refine tv_icmp_ne (tgt := 32) X dX5_countOf_26 (by decide) (fun h3 => ?_) (fun h3 => ?_)
      · have hc2 : cntI (fun j => decide (fl j = j ∧ kndR S1 j = kd)) (i + 1) = cntI (fun j => decide (fl j = j ∧ kndR S1 j = kd)) i := by simp [cntI, h3]
        rw [hc2] at ih
        refine tv_iinc X dX5_countOf_32 rfl (nI_1 i) rfl ?_
        refine tv_goto (tgt := 4) X dX5_countOf_35 (by decide) ?_
        exact ih
      · have hc2 : cntI (fun j => decide (fl j = j ∧ kndR S1 j = kd)) (i + 1) = cntI (fun j => decide (fl j = j ∧ kndR S1 j = kd)) i + 1 := by simp [cntI, h3, heq]
        rw [hc2] at ih
        refine tv_iinc X dX5_countOf_29 rfl rfl rfl ?_
        refine tv_iinc X dX5_countOf_32 rfl (nI_1 i) rfl ?_
        refine tv_goto (tgt := 4) X dX5_countOf_35 (by decide) ?_
        exact ih
  · refine tv_iload_n X dX5_countOf_4 rfl ?_
    refine tv_bipush (v := 48) X dX5_countOf_5 (by decide) ?_
    refine tv_icmp_ge (tgt := 38) X dX5_countOf_7 (by decide) (fun h1 => ?_) (fun h1 => ?_)
    · refine tv_iload_n X dX5_countOf_38 rfl ?_
      exact tv_iret X hrt dX5_countOf_39 ⟨_, rfl, rfl, rfl⟩
    · exact absurd (nI_le (Nat.le_refl 48) (by decide)) h1
end C16

