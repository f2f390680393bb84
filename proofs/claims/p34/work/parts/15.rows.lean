/-- the labels of two cells joined -/
def effR (r : Nat → Int32) (c d : Nat) : Bool := !(decide (r c = r d) || decide (r c = 48) || decide (r d = 48))
def jnR (r : Nat → Int32) (c d : Nat) : Nat → Int32 := if effR r c d then upd (upd r c (if r c < r d then r c else r d)) d (if r c < r d then r c else r d) else r
def jStep1 (q : (Nat → Int32) × Int32) (c : Nat) : (Nat → Int32) × Int32 := if c % 6 < 5 then (jnR q.1 c (c + 1), if effR q.1 c (c + 1) then 1 else q.2) else q
def jStep2 (q : (Nat → Int32) × Int32) (c : Nat) : (Nat → Int32) × Int32 := if c < 42 then (jnR q.1 c (c + 6), if effR q.1 c (c + 6) then 1 else q.2) else q
def jUpto (r : Nat → Int32) : Nat → (Nat → Int32) × Int32
  | 0 => (r, 0)
  | i + 1 => jStep2 (jStep1 (jUpto r i) i) i
/-- passes over all pairs -/
def jPass (r : Nat → Int32) : Nat → Nat → Int32
  | 0 => r
  | k + 1 => (jUpto (jPass r k) 48).1
def jFlag (r : Nat → Int32) : Nat → Int32
  | 0 => 1
  | k + 1 => (jUpto (jPass r k) 48).2
/-- sizes and greatest signals by labels, on from z -/
def mzF (z : (Nat → Int32) × (Nat → Int32)) (r sig : Nat → Int32) : Nat → (Nat → Int32) × (Nat → Int32)
  | 0 => z
  | i + 1 => if r i < 0 ∨ 48 ≤ r i then mzF z r sig i else (upd (mzF z r sig i).1 (r i).toNatClampNeg ((mzF z r sig i).1 (r i).toNatClampNeg + 1), upd (mzF z r sig i).2 (r i).toNatClampNeg (if (mzF z r sig i).2 (r i).toNatClampNeg < sig i then sig i else (mzF z r sig i).2 (r i).toNatClampNeg))
/-- a row whose first are 0 -/
def zt (row : Nat → Int32) (i : Nat) : Nat → Int32 := fun k => if k < i then 0 else row k
theorem zt_0 {row : Nat → Int32} : zt row 0 = row := funext fun k => if_neg (Nat.not_lt_zero k)
theorem zt_s {row : Nat → Int32} {i : Nat} : upd (zt row i) i 0 = zt row (i + 1) := by
  funext k
  unfold upd zt
  by_cases e1 : k = i
  · subst e1; simp
  · rw [if_neg e1]
    by_cases e2 : k < i
    · rw [if_pos e2, if_pos (Nat.lt_succ_of_lt e2)]
    · rw [if_neg e2, if_neg (by omega)]
theorem sgS_set {S : mS} {b k j : Nat} {f : Nat → Int32} (h2 : b + 2 ≠ k) (h3 : b + 3 ≠ k) : sgS (mset S k f) b j = sgS S b j := by
  unfold sgS
  rw [mset_n h2, mset_n h3]
section C15
variable {l : Launch} {D : va_G} {n0 : Nat} {ft : tv_ft} {n : Nat} {S : mS} {b : Nat}
theorem iX5_join_X5 : ∀ w ∈ wsX50, w ∈ wsX5_join := by decide +kernel
theorem kX5_join_9 : Cond.fieldLink RX5 9 (TX5 0).1 (TX5 0).2.1 (TX5 0).2.2.1 ∈ wsX5_join := by decide +kernel
theorem zX5_join_X9 : Cond.initialized RX9 ∈ wsX5_join ∧ True := ⟨by decide +kernel, trivial⟩
theorem zX5_join_X9_isCell : Cond.static yX9_isCell ∈ wsX5_join := by decide +kernel
theorem cX5_join_ok {c1 d1 : Nat} (hc : c1 < 48) (hd : d1 < 48) (hne : c1 ≠ d1) : mMi l yX5_join wsX5_join rmX5_join D n0 ft [.ref (n0 + 99), .int (nI c1), .int (nI d1)] n S (fun r S' => S' = mset S 100 (jnR (S.1 100) c1 d1) ∧ r = if effR (S.1 100) c1 d1 then 1 else 0) := by
  refine tv_enter (cc := cX5_join) (maxL := 5) (ret := (some .boolean)) (by decide) rfl (Nat.le_of_ble_eq_true rfl) ?_
  intro p e s m args below meth c X hrt hnm hargs
  refine tv_iload_n X dX5_join_0 rfl ?_
  refine mm_callSNi X dX5_join_1 (cX9_isCell_ok _) ⟨va_cnB 1 X.2.2.2.2.1 gX5_join_X9_isCell_n55 rfl rfl rfl (tv_nwM X nM7) (X.2.2.2.2.1 _ (zX5_join_X9).1) (by decide +kernel) ⟨Nat.le_of_ble_eq_true rfl, Nat.le_of_ble_eq_true rfl⟩, X.2.2.2.2.1 _ (zX5_join_X9_isCell)⟩ rfl rfl (Nat.le_of_ble_eq_true rfl) ⟨Nat.zero_le _, Nat.zero_le _⟩ (fun r S1 hq => ?_)
  obtain ⟨rfl, ⟨rfl, -⟩ | ⟨-, hno⟩⟩ := hq
  rotate_left
  · exact absurd ⟨c1, hc, rfl⟩ hno
  refine tv_if_eq (tgt := 14) X dX5_join_4 (by decide) (fun h1 => ?_) (fun h1 => ?_)
  · exact absurd h1 (by decide)
  refine tv_iload_n X dX5_join_7 rfl ?_
  refine mm_callSNi X dX5_join_8 (cX9_isCell_ok _) ⟨va_cnB 1 X.2.2.2.2.1 gX5_join_X9_isCell_n55 rfl rfl rfl (tv_nwM X nM7) (X.2.2.2.2.1 _ (zX5_join_X9).1) (by decide +kernel) ⟨Nat.le_of_ble_eq_true rfl, Nat.le_of_ble_eq_true rfl⟩, X.2.2.2.2.1 _ (zX5_join_X9_isCell)⟩ rfl rfl (Nat.le_of_ble_eq_true rfl) ⟨Nat.zero_le _, Nat.zero_le _⟩ (fun r S1 hq => ?_)
  obtain ⟨rfl, ⟨rfl, -⟩ | ⟨-, hno⟩⟩ := hq
  rotate_left
  · exact absurd ⟨d1, hd, rfl⟩ hno
  refine tv_if_ne (tgt := 16) X dX5_join_11 (by decide) (fun h1 => ?_) (fun h1 => ?_)
  rotate_left
  · exact absurd h1 (by decide)
  refine tv_aload_n X dX5_join_16 rfl ?_
  refine mm_getf X dX5_join_17 gX5 iX5_join_X5 rfl 0 (by decide) kX5_join_9 rfl ?_
  refine tv_iload_n X dX5_join_20 rfl ?_
  refine mm_iald X dX5_join_21 g100 _ rfl (by omega) (by decide) ?_
  refine tv_istore_n X dX5_join_22 rfl ?_
  refine tv_aload_n X dX5_join_23 rfl ?_
  refine mm_getf X dX5_join_24 gX5 iX5_join_X5 rfl 0 (by decide) kX5_join_9 rfl ?_
  refine tv_iload_n X dX5_join_27 rfl ?_
  refine mm_iald X dX5_join_28 g100 _ rfl (by omega) (by decide) ?_
  refine tv_istore X dX5_join_29 rfl ?_
  refine tv_iload_n X dX5_join_31 rfl ?_
  refine tv_iload X dX5_join_32 rfl ?_
  refine tv_icmp_eq (tgt := 50) X dX5_join_34 (by decide) (fun h2 => ?_) (fun h2 => ?_)
  · refine tv_iconst (v := 0) X dX5_join_50 (by decide) ?_
    have he : effR (S1.1 100) c1 d1 = false := by simp [effR, h2]
    refine tv_zret X hrt dX5_join_51 rfl ⟨_, rfl, ?_, ?_⟩
    · unfold jnR; rw [he]; exact mset_self.symm
    · rw [he]; rfl
  refine tv_iload_n X dX5_join_37 rfl ?_
  refine tv_bipush (v := 48) X dX5_join_38 (by decide) ?_
  refine tv_icmp_eq (tgt := 50) X dX5_join_40 (by decide) (fun h3 => ?_) (fun h3 => ?_)
  · refine tv_iconst (v := 0) X dX5_join_50 (by decide) ?_
    have he : effR (S1.1 100) c1 d1 = false := by simp [effR, h3]
    refine tv_zret X hrt dX5_join_51 rfl ⟨_, rfl, ?_, ?_⟩
    · unfold jnR; rw [he]; exact mset_self.symm
    · rw [he]; rfl
  refine tv_iload X dX5_join_43 rfl ?_
  refine tv_bipush (v := 48) X dX5_join_45 (by decide) ?_
  refine tv_icmp_ne (tgt := 52) X dX5_join_47 (by decide) (fun h4 => ?_) (fun h4 => ?_)
  rotate_left
  · refine tv_iconst (v := 0) X dX5_join_50 (by decide) ?_
    have he : effR (S1.1 100) c1 d1 = false := by simp [effR, h4]
    refine tv_zret X hrt dX5_join_51 rfl ⟨_, rfl, ?_, ?_⟩
    · unfold jnR; rw [he]; exact mset_self.symm
    · rw [he]; rfl
  have he : effR (S1.1 100) c1 d1 = true := by simp [effR, h2, h3, h4]
  refine tv_aload_n X dX5_join_52 rfl ?_
  refine mm_getf X dX5_join_53 gX5 iX5_join_X5 rfl 0 (by decide) kX5_join_9 rfl ?_
  refine tv_iload_n X dX5_join_56 rfl ?_
  refine tv_iload_n X dX5_join_57 rfl ?_
  refine tv_iload X dX5_join_58 rfl ?_
  refine tv_icmp_ge (tgt := 67) X dX5_join_60 (by decide) (fun h5 => ?_) (fun h5 => ?_)
  · refine tv_iload X dX5_join_67 rfl ?_
    refine mm_iast X dX5_join_69 g100 c1 rfl hc (by decide) ?_
    refine tv_aload_n X dX5_join_70 rfl ?_
    refine mm_getf X dX5_join_71 gX5 iX5_join_X5 rfl 0 (by decide) kX5_join_9 rfl ?_
    refine tv_iload_n X dX5_join_74 rfl ?_
    refine tv_aload_n X dX5_join_75 rfl ?_
    refine mm_getf X dX5_join_76 gX5 iX5_join_X5 rfl 0 (by decide) kX5_join_9 rfl ?_
    refine tv_iload_n X dX5_join_79 rfl ?_
    refine mm_iald X dX5_join_80 g100 c1 rfl hc (by decide) ?_
    refine mm_iast X dX5_join_81 g100 d1 rfl hd (by decide) ?_
    refine tv_iconst (v := 1) X dX5_join_82 (by decide) ?_
    refine tv_zret X hrt dX5_join_83 rfl ⟨_, rfl, ?_, ?_⟩
    · unfold jnR; rw [he]
      simp only [mupd, mset_mset, mset_s, if_true]
      rw [if_neg (Int32.not_lt.mpr h5), show upd (S1.1 100) c1 (S1.1 100 d1) c1 = S1.1 100 d1 from pk_us]
    · rw [he]; rfl
  · refine tv_iload_n X dX5_join_63 rfl ?_
    refine tv_goto (tgt := 69) X dX5_join_64 (by decide) ?_
    refine mm_iast X dX5_join_69 g100 c1 rfl hc (by decide) ?_
    refine tv_aload_n X dX5_join_70 rfl ?_
    refine mm_getf X dX5_join_71 gX5 iX5_join_X5 rfl 0 (by decide) kX5_join_9 rfl ?_
    refine tv_iload_n X dX5_join_74 rfl ?_
    refine tv_aload_n X dX5_join_75 rfl ?_
    refine mm_getf X dX5_join_76 gX5 iX5_join_X5 rfl 0 (by decide) kX5_join_9 rfl ?_
    refine tv_iload_n X dX5_join_79 rfl ?_
    refine mm_iald X dX5_join_80 g100 c1 rfl hc (by decide) ?_
    refine mm_iast X dX5_join_81 g100 d1 rfl hd (by decide) ?_
    refine tv_iconst (v := 1) X dX5_join_82 (by decide) ?_
    refine tv_zret X hrt dX5_join_83 rfl ⟨_, rfl, ?_, ?_⟩
    · unfold jnR; rw [he]
      simp only [mupd, mset_mset, mset_s, if_true]
      rw [if_pos (Int32.not_le.mp h5), show upd (S1.1 100) c1 (S1.1 100 c1) c1 = S1.1 100 c1 from pk_us]
    · rw [he]; rfl
theorem cX5_joinAll_ok : mMi l yX5_joinAll wsX5_joinAll rmX5_joinAll D n0 ft [.ref (n0 + 99)] n S (fun r S' => S' = mset S 100 (jUpto (S.1 100) 48).1 ∧ r = (jUpto (S.1 100) 48).2) := by
  have h01 : ∀ i, (jUpto (S.1 100) i).2 = 0 ∨ (jUpto (S.1 100) i).2 = 1 := by
    have s1 : ∀ (q : (Nat → Int32) × Int32) c, (q.2 = 0 ∨ q.2 = 1) → ((jStep1 q c).2 = 0 ∨ (jStep1 q c).2 = 1) := fun q c hq => by
      unfold jStep1
      split
      · dsimp only
        split
        · exact Or.inr rfl
        · exact hq
      · exact hq
    have s2 : ∀ (q : (Nat → Int32) × Int32) c, (q.2 = 0 ∨ q.2 = 1) → ((jStep2 q c).2 = 0 ∨ (jStep2 q c).2 = 1) := fun q c hq => by
      unfold jStep2
      split
      · dsimp only
        split
        · exact Or.inr rfl
        · exact hq
      · exact hq
    intro i
    induction i with
    | zero => exact Or.inl rfl
    | succ i ih => exact s2 _ _ (s1 _ _ ih)
  refine tv_enter (cc := cX5_joinAll) (maxL := 3) (ret := (some .boolean)) (by decide) rfl (Nat.le_of_ble_eq_true rfl) ?_
  intro p e s m args below meth c X hrt hnm hargs
  refine tv_iconst (v := 0) X dX5_joinAll_0 (by decide) ?_
  refine tv_istore_n X dX5_joinAll_1 rfl ?_
  refine tv_iconst (v := 0) X dX5_joinAll_2 (by decide) ?_
  refine tv_istore_n X dX5_joinAll_3 rfl ?_
  refine mm_st (S' := mset S 100 (jUpto (S.1 100) 0).1) mset_self.symm ?_
  refine mm_for 48 (fun i => [(0, .ref (n0 + 99)), (1, .int (jUpto (S.1 100) i).2), (2, .int (nI i))]) (fun i => mset S 100 (jUpto (S.1 100) i).1) ?_ ?_
  · intro i hi ih
    refine tv_iload_n X dX5_joinAll_4 rfl ?_
    refine tv_bipush (v := 48) X dX5_joinAll_5 (by decide) ?_
    refine tv_icmp_ge (tgt := 57) X dX5_joinAll_7 (by decide) (fun h1 => ?_) (fun h1 => ?_)
    · exact absurd h1 (nI_ge (a := i) (b := 48) hi (by decide))
    generalize hq0 : jUpto (S.1 100) i = q0 at ih ⊢
    have hS1 : ∀ f, mset (mset S 100 q0.1) 100 f = mset S 100 f := fun f => mset_mset
    have hnx : jUpto (S.1 100) (i + 1) = jStep2 (jStep1 q0 i) i := by rw [← hq0]; rfl
    rw [hnx] at ih
    refine mm_cut (pc := 31) (fun q : (Nat → Int32) × Int32 => q = jStep1 q0 i) (fun q => [(0, .ref (n0 + 99)), (1, .int q.2), (2, .int (nI i))]) (fun _ => []) (fun q => mset S 100 q.1) ?_ ?_
    · intro q hq
      subst hq
      refine tv_iload_n X dX5_joinAll_31 rfl ?_
      refine tv_bipush (v := 42) X dX5_joinAll_32 (by decide) ?_
      refine tv_icmp_ge (tgt := 51) X dX5_joinAll_34 (by decide) (fun h2 => ?_) (fun h2 => ?_)
      · have h3 : ¬ i < 42 := fun h => nI_ge (a := i) (b := 42) h (by decide) h2
        refine tv_iinc X dX5_joinAll_51 rfl (nI_1 i) rfl ?_
        refine tv_goto (tgt := 4) X dX5_joinAll_54 (by decide) ?_
        unfold jStep2 at ih
        rw [if_neg h3] at ih
        exact ih
      · have h3 : i < 42 := Nat.lt_of_not_le fun h => h2 (nI_le (a := 42) h (by omega))
        unfold jStep2 at ih
        rw [if_pos h3] at ih
        refine tv_aload_n X dX5_joinAll_37 rfl ?_
        refine tv_iload_n X dX5_joinAll_38 rfl ?_
        refine tv_iload_n X dX5_joinAll_39 rfl ?_
        refine tv_bipush (v := 6) X dX5_joinAll_40 (by decide) ?_
        refine tv_iadd X dX5_joinAll_42 ?_
        rw [show nI i + 6 = nI (i + 6) from nI_add i 6]
        refine mm_callVi (q := (RX5, TX5, 5)) X dX5_joinAll_43 (cX5_join_ok (c1 := i) (d1 := i + 6) (by omega) (by omega) (by omega)) (cwV 2 X.2.2.2.2.1 gX5_joinAll_X5_join rfl rfl rfl (by decide +kernel) ⟨Nat.le_of_ble_eq_true rfl, Nat.le_of_ble_eq_true rfl⟩) rfl rfl gX5 rfl (Nat.le_of_ble_eq_true rfl) ⟨Nat.zero_le _, Nat.zero_le _⟩ (fun r S2 hq => ?_)
        obtain ⟨rfl, rfl⟩ := hq
        rw [mset_s, mset_mset]
        refine tv_if_eq (tgt := 51) X dX5_joinAll_46 (by decide) (fun h4 => ?_) (fun h4 => ?_)
        · refine tv_iinc X dX5_joinAll_51 rfl (nI_1 i) rfl ?_
          refine tv_goto (tgt := 4) X dX5_joinAll_54 (by decide) ?_
          have h5 : effR (jStep1 q0 i).1 i (i + 6) = false := by
            cases hx : effR (jStep1 q0 i).1 i (i + 6) with
            | false => rfl
            | true => rw [hx] at h4; exact absurd h4 (by decide)
          rw [h5] at ih
          exact ih
        · refine tv_iconst (v := 1) X dX5_joinAll_49 (by decide) ?_
          refine tv_istore_n X dX5_joinAll_50 rfl ?_
          refine tv_iinc X dX5_joinAll_51 rfl (nI_1 i) rfl ?_
          refine tv_goto (tgt := 4) X dX5_joinAll_54 (by decide) ?_
          have h5 : effR (jStep1 q0 i).1 i (i + 6) = true := by
            cases hx : effR (jStep1 q0 i).1 i (i + 6) with
            | true => rfl
            | false => rw [hx] at h4; exact absurd rfl h4
          rw [h5] at ih
          exact ih
    · intro hk
      refine tv_iload_n X dX5_joinAll_10 rfl ?_
      refine tv_bipush (v := 6) X dX5_joinAll_11 (by decide) ?_
      refine tv_irem X dX5_joinAll_13 (by decide) ?_
      rw [show nI i - nI i / 6 * 6 = nI (i % 6) from pk_rem (d := 6) (by omega) (by decide) (by decide)]
      refine tv_iconst (v := 5) X dX5_joinAll_14 (by decide) ?_
      refine tv_icmp_ge (tgt := 31) X dX5_joinAll_15 (by decide) (fun h2 => ?_) (fun h2 => ?_)
      · have h3 : ¬ i % 6 < 5 := fun h => nI_ge (a := i % 6) (b := 5) h (by decide) h2
        refine hk q0 ?_
        unfold jStep1
        rw [if_neg h3]
      · have h3 : i % 6 < 5 := Nat.lt_of_not_le fun h => h2 (nI_le (a := 5) h (by omega))
        refine tv_aload_n X dX5_joinAll_18 rfl ?_
        refine tv_iload_n X dX5_joinAll_19 rfl ?_
        refine tv_iload_n X dX5_joinAll_20 rfl ?_
        refine tv_iconst (v := 1) X dX5_joinAll_21 (by decide) ?_
        refine tv_iadd X dX5_joinAll_22 ?_
        rw [show nI i + 1 = nI (i + 1) from nI_1 i]
        refine mm_callVi (q := (RX5, TX5, 5)) X dX5_joinAll_23 (cX5_join_ok (c1 := i) (d1 := i + 1) (by omega) (by omega) (by omega)) (cwV 2 X.2.2.2.2.1 gX5_joinAll_X5_join rfl rfl rfl (by decide +kernel) ⟨Nat.le_of_ble_eq_true rfl, Nat.le_of_ble_eq_true rfl⟩) rfl rfl gX5 rfl (Nat.le_of_ble_eq_true rfl) ⟨Nat.zero_le _, Nat.zero_le _⟩ (fun r S2 hq => ?_)
        obtain ⟨rfl, rfl⟩ := hq
        rw [mset_s, mset_mset]
        refine tv_if_eq (tgt := 31) X dX5_joinAll_26 (by decide) (fun h4 => ?_) (fun h4 => ?_)
        · have h5 : effR q0.1 i (i + 1) = false := by
            cases hx : effR q0.1 i (i + 1) with
            | false => rfl
            | true => rw [hx] at h4; exact absurd h4 (by decide)
          have h6 := hk (jnR q0.1 i (i + 1), q0.2) (by unfold jStep1; rw [if_pos h3, h5]; rfl)
          exact h6
        · have h5 : effR q0.1 i (i + 1) = true := by
            cases hx : effR q0.1 i (i + 1) with
            | true => rfl
            | false => rw [hx] at h4; exact absurd rfl h4
          refine tv_iconst (v := 1) X dX5_joinAll_29 (by decide) ?_
          refine tv_istore_n X dX5_joinAll_30 rfl ?_
          have h6 := hk (jnR q0.1 i (i + 1), 1) (by unfold jStep1; rw [if_pos h3, h5]; rfl)
          exact h6
  · refine tv_iload_n X dX5_joinAll_4 rfl ?_
    refine tv_bipush (v := 48) X dX5_joinAll_5 (by decide) ?_
    refine tv_icmp_ge (tgt := 57) X dX5_joinAll_7 (by decide) (fun h1 => ?_) (fun h1 => ?_)
    · refine tv_iload_n X dX5_joinAll_57 rfl ?_
      have hn : narrow .boolean (.int (jUpto (S.1 100) 48).2) = .int (jUpto (S.1 100) 48).2 := by rcases h01 48 with h | h <;> rw [h] <;> rfl
      exact tv_zret X hrt dX5_joinAll_58 hn ⟨_, rfl, rfl, rfl⟩
    · exact absurd (nI_le (Nat.le_refl 48) (by decide)) h1
end C15

