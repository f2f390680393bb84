/-- one pair of the reference's pass -/
def rpE (r : Nat → Int32) (k : Nat) : Bool := !(decide (r (k / 48) = -1)) && (!(decide (r (k % 48) = -1)) && (decide (apI (k / 48) (k % 48) = 1) && decide (r (k % 48) < r (k / 48))))
def rpU (r : Nat → Int32) : Nat → (Nat → Int32) × Int32
  | 0 => (r, 0)
  | k + 1 => (if rpE (rpU r k).1 k then upd (rpU r k).1 (k / 48) ((rpU r k).1 (k % 48)) else (rpU r k).1, if ¬ (rpU r k).2 = 0 ∨ rpE (rpU r k).1 k then 1 else 0)
def rpP (r : Nat → Int32) : Nat → Nat → Int32
  | 0 => r
  | k + 1 => (rpU (rpP r k) 2304).1
def rpF (r : Nat → Int32) : Nat → Int32
  | 0 => 1
  | k + 1 => (rpU (rpP r k) 2304).2
/-- the labels: -1, or numbers of cells -/
def lblR (r : Nat → Int32) : Prop := ∀ j, j < 48 → r j = -1 ∨ ∃ f, f < 48 ∧ r j = nI f
def sumN (f : Nat → Nat) : Nat → Nat
  | 0 => 0
  | k + 1 => sumN f k + f k
theorem sumN_le {f g : Nat → Nat} : ∀ {k : Nat}, (∀ j, j < k → f j ≤ g j) → sumN f k ≤ sumN g k
  | 0, _ => Nat.le_refl _
  | k + 1, h => Nat.add_le_add (sumN_le fun j hj => h j (by omega)) (h k (by omega))
theorem sumN_lt {f g : Nat → Nat} : ∀ {k : Nat} {i : Nat}, i < k → (∀ j, j < k → f j ≤ g j) → f i < g i → sumN f k < sumN g k
  | 0, _, h, _, _ => absurd h (Nat.not_lt_zero _)
  | k + 1, i, hi, h, hlt => by
    show sumN f k + f k < sumN g k + g k
    by_cases hk : i = k
    · subst hk
      have := sumN_le (f := f) (g := g) (k := i) fun j hj => h j (by omega)
      omega
    · have := sumN_lt (f := f) (g := g) (k := k) (i := i) (by omega) (fun j hj => h j (by omega)) hlt
      have := h k (by omega)
      omega
def muR (r : Nat → Int32) : Nat := sumN (fun j => (r j).toNatClampNeg) 48
theorem rpE_spec {r : Nat → Int32} {k : Nat} (h : rpE r k = true) : ¬ r (k / 48) = -1 ∧ ¬ r (k % 48) = -1 ∧ apI (k / 48) (k % 48) = 1 ∧ r (k % 48) < r (k / 48) := by
  unfold rpE at h
  simpa using h
theorem rpU_ok {r : Nat → Int32} (h : lblR r) : ∀ {k : Nat}, k ≤ 2304 → lblR (rpU r k).1 ∧ ((rpU r k).2 = 0 ∨ (rpU r k).2 = 1) ∧ ((rpU r k).2 = 0 → (rpU r k).1 = r) ∧ (¬ (rpU r k).2 = 0 → muR (rpU r k).1 < muR r)
  | 0, _ => ⟨h, Or.inl rfl, fun _ => rfl, fun h => absurd rfl h⟩
  | k + 1, hk => by
    obtain ⟨h1, h2, h3, h4⟩ := rpU_ok h (k := k) (by omega)
    have hc : k / 48 < 48 := by omega
    have ho : k % 48 < 48 := Nat.mod_lt _ (by decide)
    cases he : rpE (rpU r k).1 k with
    | false =>
      have e1 : (rpU r (k + 1)).1 = (rpU r k).1 := by
        show (if rpE (rpU r k).1 k then _ else _) = _
        rw [he]; rfl
      have e2 : (rpU r (k + 1)).2 = (rpU r k).2 := by
        show (if ¬ (rpU r k).2 = 0 ∨ rpE (rpU r k).1 k then (1 : Int32) else 0) = _
        rw [he]
        rcases h2 with h2 | h2 <;> rw [h2] <;> rfl
      rw [e1, e2]
      exact ⟨h1, h2, h3, h4⟩
    | true =>
      obtain ⟨p1, p2, -, p4⟩ := rpE_spec he
      have e1 : (rpU r (k + 1)).1 = upd (rpU r k).1 (k / 48) ((rpU r k).1 (k % 48)) := by
        show (if rpE (rpU r k).1 k then _ else _) = _
        rw [he]; rfl
      have e2 : (rpU r (k + 1)).2 = 1 := by
        show (if ¬ (rpU r k).2 = 0 ∨ rpE (rpU r k).1 k then (1 : Int32) else 0) = _
        rw [if_pos (Or.inr he)]
      rw [e1, e2]
      obtain ⟨fc, hfc, ec⟩ := (h1 _ hc).resolve_left p1
      obtain ⟨fo, hfo, eo⟩ := (h1 _ ho).resolve_left p2
      have hlt : fo < fc := by
        rw [ec, eo] at p4
        exact (nI_ltI (by omega) (by omega)).mp p4
      have hmu : muR (upd (rpU r k).1 (k / 48) ((rpU r k).1 (k % 48))) < muR (rpU r k).1 := by
        refine sumN_lt (i := k / 48) hc (fun j _ => ?_) ?_
        · show ((if j = k / 48 then _ else (rpU r k).1 j) : Int32).toNatClampNeg ≤ _
          by_cases hj : j = k / 48
          · rw [if_pos hj, eo, hj, ec, nI_clamp (by omega), nI_clamp (by omega)]
            omega
          · rw [if_neg hj]
            exact Nat.le_refl _
        · show ((if k / 48 = k / 48 then _ else (rpU r k).1 (k / 48)) : Int32).toNatClampNeg < _
          rw [if_pos rfl, eo, ec, nI_clamp (by omega), nI_clamp (by omega)]
          exact hlt
      refine ⟨fun j hj => ?_, Or.inr rfl, fun h => absurd h (by decide), fun _ => ?_⟩
      · show (if j = k / 48 then _ else (rpU r k).1 j) = -1 ∨ ∃ f, f < 48 ∧ (if j = k / 48 then _ else (rpU r k).1 j) = nI f
        by_cases hj2 : j = k / 48
        · rw [if_pos hj2]; exact h1 _ ho
        · rw [if_neg hj2]; exact h1 j hj
      · by_cases h0 : (rpU r k).2 = 0
        · rw [h3 h0] at hmu ⊢
          exact hmu
        · exact Nat.lt_trans hmu (h4 h0)
theorem rpP_ok {r : Nat → Int32} (h : lblR r) : ∀ k, lblR (rpP r k)
  | 0 => h
  | k + 1 => (rpU_ok (rpP_ok h k) (Nat.le_refl _)).1
/-- the labels at first -/
def labM (S : mS) (i : Nat) : Nat → Int32 := fun k => if k < i then (if S.1 131 96 ≤ sgR S k then nI k else -1) else S.1 133 k
theorem labM_ok {S : mS} : lblR (labM S 48) := fun j hj => by
  show (if j < 48 then (if S.1 131 96 ≤ sgR S j then nI j else (-1 : Int32)) else _) = -1 ∨ ∃ f, f < 48 ∧ (if j < 48 then (if S.1 131 96 ≤ sgR S j then nI j else (-1 : Int32)) else _) = nI f
  rw [if_pos hj]
  split
  · exact Or.inr ⟨j, hj, rfl⟩
  · exact Or.inl rfl
/-- the picture behind findsRegions, with k + 1 passes -/
def frS (S : mS) (k : Nat) : mS := mset (mset (mset S 133 (rpP (labM S 48) k)) 134 (mzF (zt (S.1 134) 48, zt (S.1 135) 48) (rpP (labM S 48) k) (sgR S) 48).1) 135 (mzF (zt (S.1 134) 48, zt (S.1 135) 48) (rpP (labM S 48) k) (sgR S) 48).2
theorem sgR_set {S : mS} {k : Nat} {f : Nat → Int32} (h : k ≠ 131) : sgR (mset S k f) = sgR S := by
  funext j
  unfold sgR
  rw [mset_n (Ne.symm h)]
section C28
variable {l : Launch} {D : va_G} {n0 : Nat} {ft : Nat × Nat × Nat} {n : Nat} {S : mS} {b : Nat}
theorem iX10_findsRegions_X10 : ∀ w ∈ wsX100, w ∈ wsX10_findsRegions := by decide +kernel
theorem kX10_findsRegions_16 : Cond.fieldLink RX10 16 (TX10 10).1 (TX10 10).2.1 (TX10 10).2.2.1 ∈ wsX10_findsRegions := by decide +kernel
theorem kX10_findsRegions_19 : Cond.fieldLink RX10 19 (TX10 11).1 (TX10 11).2.1 (TX10 11).2.2.1 ∈ wsX10_findsRegions := by decide +kernel
theorem kX10_findsRegions_22 : Cond.fieldLink RX10 22 (TX10 12).1 (TX10 12).2.1 (TX10 12).2.2.1 ∈ wsX10_findsRegions := by decide +kernel
set_option maxHeartbeats 4000000 in
set_option maxRecDepth 100000 in
theorem cX10_findsRegions_ok : mMv l yX10_findsRegions wsX10_findsRegions rmX10_findsRegions D n0 ft [.ref (n0 + 130)] n S (fun S' => ∃ k, rpF (labM S 48) k = 0 ∧ S' = frS S k) := by
  refine tv_enter (cc := cX10_findsRegions) (maxL := 6) (ret := none) (by decide) rfl (Nat.le_of_ble_eq_true rfl) ?_
  intro p e s m args below meth c X hrt hnm hargs
  refine tv_iconst (v := 0) X dX10_findsRegions_0 (by decide) ?_
  refine tv_istore_n X dX10_findsRegions_1 rfl ?_
  refine mm_cut (pc := 47) (fun _ : Unit => True) (fun _ => [(0, .ref (n0 + 130)), (1, .int (nI 48))]) (fun _ => []) (fun _ => mset (mset (mset S 133 (labM S 48)) 134 (zt (S.1 134) 48)) 135 (zt (S.1 135) 48)) ?_ ?_
  rotate_left
  · intro hcut
    refine mm_st (S' := mset (mset (mset S 133 (labM S 0)) 134 (zt (S.1 134) 0)) 135 (zt (S.1 135) 0)) ?_ ?_
    · rw [zt_0, zt_0, show labM S 0 = S.1 133 from funext fun k => if_neg (Nat.not_lt_zero k), mset_self, mset_self, mset_self]
    refine mm_for 48 (fun i => [(0, .ref (n0 + 130)), (1, .int (nI i))]) (fun i => mset (mset (mset S 133 (labM S i)) 134 (zt (S.1 134) i)) 135 (zt (S.1 135) i)) ?_ ?_
    · intro i hi ih
      dsimp only at ih
      have hlab : ∀ v, v = (if S.1 131 96 ≤ sgR S i then nI i else (-1 : Int32)) → upd (labM S i) i v = labM S (i + 1) := by
        intro v hv
        subst hv
        funext k
        unfold upd labM
        by_cases e1 : k = i
        · subst e1; rw [if_pos rfl, if_pos (Nat.lt_succ_self k)]
        · rw [if_neg e1]
          by_cases e2 : k < i
          · rw [if_pos e2, if_pos (Nat.lt_succ_of_lt e2)]
          · rw [if_neg e2, if_neg (by omega)]
      have hS : ∀ v, v = (if S.1 131 96 ≤ sgR S i then nI i else (-1 : Int32)) → mupd (mupd (mupd (mset (mset (mset S 133 (labM S i)) 134 (zt (S.1 134) i)) 135 (zt (S.1 135) i)) 133 i v) 134 i 0) 135 i 0 = mset (mset (mset S 133 (labM S (i + 1))) 134 (zt (S.1 134) (i + 1))) 135 (zt (S.1 135) (i + 1)) := by
        intro v hv
        rw [mupd_out (by decide), mupd_out (by decide), mupd_in, mupd_out (by decide), mupd_in, mupd_in, zt_s, zt_s, hlab v hv]
      have hsg : sgR (mset (mset (mset S 133 (labM S i)) 134 (zt (S.1 134) i)) 135 (zt (S.1 135) i)) = sgR S := by
        rw [sgR_set (by decide), sgR_set (by decide), sgR_set (by decide)]
      have h131 : (mset (mset (mset S 133 (labM S i)) 134 (zt (S.1 134) i)) 135 (zt (S.1 135) i)).1 131 = S.1 131 := by
        rw [mset_n (by decide), mset_n (by decide), mset_n (by decide)]
      refine tv_iload_n X dX10_findsRegions_2 rfl ?_
      refine tv_bipush (v := 48) X dX10_findsRegions_3 (by decide) ?_
      refine tv_icmp_ge (tgt := 47) X dX10_findsRegions_5 (by decide) (fun h1 => ?_) (fun h1 => ?_)
      · exact absurd h1 (nI_ge (a := i) (b := 48) hi (by decide))
      refine tv_aload_n X dX10_findsRegions_8 rfl ?_
      refine mm_getf X dX10_findsRegions_9 gX10 iX10_findsRegions_X10 rfl 10 (by decide) kX10_findsRegions_16 rfl ?_
      refine tv_iload_n X dX10_findsRegions_12 rfl ?_
      refine tv_aload_n X dX10_findsRegions_13 rfl ?_
      refine tv_iload_n X dX10_findsRegions_14 rfl ?_
      refine mm_callVi (q := (RX10, TX10, 20)) X dX10_findsRegions_15 (cX10_isTouched_ok hi) (cwV 1 X.2.2.2.2.1 gX10_findsRegions_X10_isTouched rfl rfl rfl (by decide +kernel) ⟨Nat.le_of_ble_eq_true rfl, Nat.le_of_ble_eq_true rfl⟩) rfl rfl gX10 rfl (Nat.le_of_ble_eq_true rfl) ⟨Nat.zero_le _, Nat.zero_le _⟩ (fun r S1 hq => ?_)
      obtain ⟨hq1, hq2⟩ := hq
      rw [hsg, h131] at hq2
      rw [hq1, hq2]
      clear hq1 hq2
      by_cases ht : S.1 131 96 ≤ sgR S i
      · rw [decide_eq_true ht]
        refine tv_if_eq (tgt := 25) X dX10_findsRegions_18 (by decide) (fun h2 => ?_) (fun h2 => ?_)
        · exact absurd h2 (by decide)
        refine tv_iload_n X dX10_findsRegions_21 rfl ?_
        refine tv_goto (tgt := 26) X dX10_findsRegions_22 (by decide) ?_
        refine mm_iast X dX10_findsRegions_26 g133 i rfl hi (by decide) ?_
        refine tv_aload_n X dX10_findsRegions_27 rfl ?_
        refine mm_getf X dX10_findsRegions_28 gX10 iX10_findsRegions_X10 rfl 11 (by decide) kX10_findsRegions_19 rfl ?_
        refine tv_iload_n X dX10_findsRegions_31 rfl ?_
        refine tv_iconst (v := 0) X dX10_findsRegions_32 (by decide) ?_
        refine mm_iast X dX10_findsRegions_33 g134 i rfl hi (by decide) ?_
        refine tv_aload_n X dX10_findsRegions_34 rfl ?_
        refine mm_getf X dX10_findsRegions_35 gX10 iX10_findsRegions_X10 rfl 12 (by decide) kX10_findsRegions_22 rfl ?_
        refine tv_iload_n X dX10_findsRegions_38 rfl ?_
        refine tv_iconst (v := 0) X dX10_findsRegions_39 (by decide) ?_
        refine mm_iast X dX10_findsRegions_40 g135 i rfl hi (by decide) ?_
        refine tv_iinc X dX10_findsRegions_41 rfl (nI_1 i) rfl ?_
        refine tv_goto (tgt := 2) X dX10_findsRegions_44 (by decide) ?_
        exact mm_st (hS _ (if_pos ht).symm) ih
      · rw [decide_eq_false ht]
        refine tv_if_eq (tgt := 25) X dX10_findsRegions_18 (by decide) (fun h2 => ?_) (fun h2 => ?_)
        rotate_left
        · exact absurd rfl h2
        refine tv_iconst (v := -1) X dX10_findsRegions_25 (by decide) ?_
        refine mm_iast X dX10_findsRegions_26 g133 i rfl hi (by decide) ?_
        refine tv_aload_n X dX10_findsRegions_27 rfl ?_
        refine mm_getf X dX10_findsRegions_28 gX10 iX10_findsRegions_X10 rfl 11 (by decide) kX10_findsRegions_19 rfl ?_
        refine tv_iload_n X dX10_findsRegions_31 rfl ?_
        refine tv_iconst (v := 0) X dX10_findsRegions_32 (by decide) ?_
        refine mm_iast X dX10_findsRegions_33 g134 i rfl hi (by decide) ?_
        refine tv_aload_n X dX10_findsRegions_34 rfl ?_
        refine mm_getf X dX10_findsRegions_35 gX10 iX10_findsRegions_X10 rfl 12 (by decide) kX10_findsRegions_22 rfl ?_
        refine tv_iload_n X dX10_findsRegions_38 rfl ?_
        refine tv_iconst (v := 0) X dX10_findsRegions_39 (by decide) ?_
        refine mm_iast X dX10_findsRegions_40 g135 i rfl hi (by decide) ?_
        refine tv_iinc X dX10_findsRegions_41 rfl (nI_1 i) rfl ?_
        refine tv_goto (tgt := 2) X dX10_findsRegions_44 (by decide) ?_
        exact mm_st (hS _ (if_neg ht).symm) ih
    · refine tv_iload_n X dX10_findsRegions_2 rfl ?_
      refine tv_bipush (v := 48) X dX10_findsRegions_3 (by decide) ?_
      refine tv_icmp_ge (tgt := 47) X dX10_findsRegions_5 (by decide) (fun h1 => ?_) (fun h1 => ?_)
      · exact hcut () trivial
      · exact absurd (nI_le (Nat.le_refl 48) (by decide)) h1
  intro _ _
  have hl0 := labM_ok (S := S)
  generalize hl9 : labM S 48 = r0 at hl0 ⊢
  generalize hz1 : zt (S.1 134) 48 = z1
  generalize hz2 : zt (S.1 135) 48 = z2
  have hfr : ∀ k, frS S k = mset (mset (mset S 133 (rpP r0 k)) 134 (mzF (z1, z2) (rpP r0 k) (sgR S) 48).1) 135 (mzF (z1, z2) (rpP r0 k) (sgR S) 48).2 := fun k => by
    unfold frS
    rw [hl9, hz1, hz2]
  refine mm_cut (pc := 180) (fun k : Nat => rpF r0 k = 0) (fun k => [(0, .ref (n0 + 130)), (1, .int (rpF r0 k))]) (fun _ => []) (fun k => mset (mset (mset S 133 (rpP r0 k)) 134 z1) 135 z2) ?_ ?_
  · intro k hk0
    have hlk := rpP_ok hl0 k
    have hs3 : ∀ q, mset (mset (mset S 133 (rpP r0 k)) 134 q) 135 = mset (mset (mset S 133 (rpP r0 k)) 134 q) 135 := fun _ => rfl
    refine tv_iconst (v := 0) X dX10_findsRegions_180 (by decide) ?_
    refine tv_istore_n X dX10_findsRegions_181 rfl ?_
    refine mm_L (L' := [(0, .ref (n0 + 130)), (1, .int (rpF r0 k)), (2, .int (nI 0))]) rfl ?_
    refine tv_sl (L' := [(0, .ref (n0 + 130)), (2, .int (nI 0))]) [0, 2] rfl ?_
    refine mm_for 48 (fun i => [(0, .ref (n0 + 130)), (2, .int (nI i))]) (fun i => mset (mset (mset S 133 (rpP r0 k)) 134 (mzF (z1, z2) (rpP r0 k) (sgR S) i).1) 135 (mzF (z1, z2) (rpP r0 k) (sgR S) i).2) ?_ ?_
    · intro i hi ih
      dsimp only at ih
      have hnx : mzF (z1, z2) (rpP r0 k) (sgR S) (i + 1) = if rpP r0 k i < 0 ∨ 48 ≤ rpP r0 k i then mzF (z1, z2) (rpP r0 k) (sgR S) i else (upd (mzF (z1, z2) (rpP r0 k) (sgR S) i).1 (rpP r0 k i).toNatClampNeg ((mzF (z1, z2) (rpP r0 k) (sgR S) i).1 (rpP r0 k i).toNatClampNeg + 1), upd (mzF (z1, z2) (rpP r0 k) (sgR S) i).2 (rpP r0 k i).toNatClampNeg (if (mzF (z1, z2) (rpP r0 k) (sgR S) i).2 (rpP r0 k i).toNatClampNeg < sgR S i then sgR S i else (mzF (z1, z2) (rpP r0 k) (sgR S) i).2 (rpP r0 k i).toNatClampNeg)) := rfl
      rw [hnx] at ih
      generalize mzF (z1, z2) (rpP r0 k) (sgR S) i = q at ih ⊢
      have h133 : (mset (mset (mset S 133 (rpP r0 k)) 134 q.1) 135 q.2).1 133 = rpP r0 k := by rw [mset_n (by decide), mset_n (by decide), mset_s]
      have hsg : sgR (mset (mset (mset S 133 (rpP r0 k)) 134 q.1) 135 q.2) = sgR S := by
        rw [sgR_set (by decide), sgR_set (by decide), sgR_set (by decide)]
      refine tv_iload_n X dX10_findsRegions_182 rfl ?_
      refine tv_bipush (v := 48) X dX10_findsRegions_183 (by decide) ?_
      refine tv_icmp_ge (tgt := 255) X dX10_findsRegions_185 (by decide) (fun h1 => ?_) (fun h1 => ?_)
      · exact absurd h1 (nI_ge (a := i) (b := 48) hi (by decide))
      refine tv_aload_n X dX10_findsRegions_188 rfl ?_
      refine mm_getf X dX10_findsRegions_189 gX10 iX10_findsRegions_X10 rfl 10 (by decide) kX10_findsRegions_16 rfl ?_
      refine tv_iload_n X dX10_findsRegions_192 rfl ?_
      refine mm_iald X dX10_findsRegions_193 g133 i rfl hi (by decide) ?_
      refine tv_iconst (v := -1) X dX10_findsRegions_194 (by decide) ?_
      rw [h133]
      rcases hlk i hi with hm1 | ⟨f, hf, he⟩
      · rw [hm1]
        refine tv_icmp_eq (tgt := 249) X dX10_findsRegions_195 (by decide) (fun h2 => ?_) (fun h2 => ?_)
        rotate_left
        · exact absurd rfl h2
        rw [hm1, if_pos (Or.inl (by decide))] at ih
        refine tv_iinc X dX10_findsRegions_249 rfl (nI_1 i) rfl ?_
        refine tv_goto (tgt := 182) X dX10_findsRegions_252 (by decide) ?_
        exact ih
      · rw [he]
        have hpos : ¬ (nI f < 0 ∨ 48 ≤ nI f) := fun hh => ix_no (x := nI f) (N := 48) (by decide) hh ⟨f, hf, rfl⟩
        rw [he, if_neg hpos, nI_clamp (by omega)] at ih
        refine tv_icmp_eq (tgt := 249) X dX10_findsRegions_195 (by decide) (fun h2 => ?_) (fun h2 => ?_)
        · exact absurd h2 (by show ¬ nI f = -1; intro h; exact nI_pos (n := f) (by omega) (by rw [h]; decide))
        refine tv_aload_n X dX10_findsRegions_198 rfl ?_
        refine mm_getf X dX10_findsRegions_199 gX10 iX10_findsRegions_X10 rfl 10 (by decide) kX10_findsRegions_16 rfl ?_
        refine tv_iload_n X dX10_findsRegions_202 rfl ?_
        refine mm_iald X dX10_findsRegions_203 g133 i rfl hi (by decide) ?_
        rw [h133, he]
        refine tv_istore_n X dX10_findsRegions_204 rfl ?_
        refine tv_aload_n X dX10_findsRegions_205 rfl ?_
        refine mm_getf X dX10_findsRegions_206 gX10 iX10_findsRegions_X10 rfl 11 (by decide) kX10_findsRegions_19 rfl ?_
        refine tv_iload_n X dX10_findsRegions_209 rfl ?_
        refine tv_dup2 X dX10_findsRegions_210 rfl rfl ?_
        refine mm_iald X dX10_findsRegions_211 g134 f rfl hf (by decide) ?_
        refine tv_iconst (v := 1) X dX10_findsRegions_212 (by decide) ?_
        refine tv_iadd X dX10_findsRegions_213 ?_
        refine mm_iast X dX10_findsRegions_214 g134 f rfl hf (by decide) ?_
        refine tv_aload_n X dX10_findsRegions_215 rfl ?_
        refine mm_getf X dX10_findsRegions_216 gX10 iX10_findsRegions_X10 rfl 12 (by decide) kX10_findsRegions_22 rfl ?_
        refine tv_iload_n X dX10_findsRegions_219 rfl ?_
        refine tv_aload_n X dX10_findsRegions_220 rfl ?_
        refine tv_iload_n X dX10_findsRegions_221 rfl ?_
        have h134 : (mset (mset (mset S 133 (rpP r0 k)) 134 q.1) 135 q.2).1 134 = q.1 := by rw [mset_n (by decide), mset_s]
        rw [h134]
        have hA : mupd (mset (mset (mset S 133 (rpP r0 k)) 134 q.1) 135 q.2) 134 f (q.1 f + 1) = mset (mset (mset S 133 (rpP r0 k)) 134 (upd q.1 f (q.1 f + 1))) 135 q.2 := by
          rw [mupd_out (by decide), mupd_in]
        refine mm_st hA ?_
        have hsg2 : sgR (mset (mset (mset S 133 (rpP r0 k)) 134 (upd q.1 f (q.1 f + 1))) 135 q.2) = sgR S := by
          rw [sgR_set (by decide), sgR_set (by decide), sgR_set (by decide)]
        refine mm_callVi (q := (RX10, TX10, 20)) X dX10_findsRegions_222 (cX10_signalOf_ok hi) (cwV 1 X.2.2.2.2.1 gX10_findsRegions_X10_signalOf rfl rfl rfl (by decide +kernel) ⟨Nat.le_of_ble_eq_true rfl, Nat.le_of_ble_eq_true rfl⟩) rfl rfl gX10 rfl (Nat.le_of_ble_eq_true rfl) ⟨Nat.zero_le _, Nat.zero_le _⟩ (fun r S1 hq => ?_)
        obtain ⟨hq1, hq2⟩ := hq
        rw [hq1, hq2, hsg2]
        clear hq1 hq2
        refine tv_aload_n X dX10_findsRegions_225 rfl ?_
        refine mm_getf X dX10_findsRegions_226 gX10 iX10_findsRegions_X10 rfl 12 (by decide) kX10_findsRegions_22 rfl ?_
        refine tv_iload_n X dX10_findsRegions_229 rfl ?_
        refine mm_iald X dX10_findsRegions_230 g135 f rfl hf (by decide) ?_
        have h135 : (mset (mset (mset S 133 (rpP r0 k)) 134 (upd q.1 f (q.1 f + 1))) 135 q.2).1 135 = q.2 := by rw [mset_s]
        rw [h135]
        refine tv_icmp_le (tgt := 242) X dX10_findsRegions_231 (by decide) (fun h3 => ?_) (fun h3 => ?_)
        · rw [if_neg (Int32.not_lt.mpr h3)] at ih
          refine tv_aload_n X dX10_findsRegions_242 rfl ?_
          refine mm_getf X dX10_findsRegions_243 gX10 iX10_findsRegions_X10 rfl 12 (by decide) kX10_findsRegions_22 rfl ?_
          refine tv_iload_n X dX10_findsRegions_246 rfl ?_
          refine mm_iald X dX10_findsRegions_247 g135 f rfl hf (by decide) ?_
          rw [h135]
          refine mm_iast X dX10_findsRegions_248 g135 f rfl hf (by decide) ?_
          refine tv_iinc X dX10_findsRegions_249 rfl (nI_1 i) rfl ?_
          refine tv_goto (tgt := 182) X dX10_findsRegions_252 (by decide) ?_
          refine mm_st (mupd_in (S := mset (mset S 133 (rpP r0 k)) 134 (upd q.1 f (q.1 f + 1)))) ?_
          exact tv_sl [0, 1] rfl ih
        · rw [if_pos (Int32.not_le.mp h3)] at ih
          refine tv_aload_n X dX10_findsRegions_234 rfl ?_
          refine tv_iload_n X dX10_findsRegions_235 rfl ?_
          refine mm_callVi (q := (RX10, TX10, 20)) X dX10_findsRegions_236 (cX10_signalOf_ok hi) (cwV 1 X.2.2.2.2.1 gX10_findsRegions_X10_signalOf rfl rfl rfl (by decide +kernel) ⟨Nat.le_of_ble_eq_true rfl, Nat.le_of_ble_eq_true rfl⟩) rfl rfl gX10 rfl (Nat.le_of_ble_eq_true rfl) ⟨Nat.zero_le _, Nat.zero_le _⟩ (fun r S1 hq => ?_)
          obtain ⟨hq1, hq2⟩ := hq
          rw [hq1, hq2, hsg2]
          clear hq1 hq2
          refine tv_goto (tgt := 248) X dX10_findsRegions_239 (by decide) ?_
          refine mm_iast X dX10_findsRegions_248 g135 f rfl hf (by decide) ?_
          refine tv_iinc X dX10_findsRegions_249 rfl (nI_1 i) rfl ?_
          refine tv_goto (tgt := 182) X dX10_findsRegions_252 (by decide) ?_
          refine mm_st (mupd_in (S := mset (mset S 133 (rpP r0 k)) 134 (upd q.1 f (q.1 f + 1)))) ?_
          exact tv_sl [0, 1] rfl ih
    · refine tv_iload_n X dX10_findsRegions_182 rfl ?_
      refine tv_bipush (v := 48) X dX10_findsRegions_183 (by decide) ?_
      refine tv_icmp_ge (tgt := 255) X dX10_findsRegions_185 (by decide) (fun h1 => ?_) (fun h1 => ?_)
      · exact tv_vret X hrt dX10_findsRegions_255 ⟨_, rfl, k, hk0, (hfr k).symm⟩
      · exact absurd (nI_le (Nat.le_refl 48) (by decide)) h1
  intro hcut
  refine tv_iconst (v := 1) X dX10_findsRegions_47 (by decide) ?_
  refine tv_istore_n X dX10_findsRegions_48 rfl ?_
  refine mm_loop (ι := Nat) (fun _ => True) (fun k => 2 * muR (rpP r0 k) + (if rpF r0 k = 0 then 0 else 1)) (fun k => [(0, .ref (n0 + 130)), (1, .int (rpF r0 k))]) (fun k => mset (mset (mset S 133 (rpP r0 k)) 134 z1) 135 z2) 0 trivial ?_
  intro k _ ih
  refine tv_iload_n X dX10_findsRegions_49 rfl ?_
  refine tv_if_eq (tgt := 180) X dX10_findsRegions_50 (by decide) (fun h1 => ?_) (fun h1 => ?_)
  · exact hcut k h1
  have hlk := rpP_ok hl0 k
  have hend := rpU_ok hlk (Nat.le_refl 2304)
  have ih1 := ih (k + 1) trivial (by
    show 2 * muR (rpU (rpP r0 k) 2304).1 + (if (rpU (rpP r0 k) 2304).2 = 0 then 0 else 1) < 2 * muR (rpP r0 k) + (if rpF r0 k = 0 then 0 else 1)
    rw [if_neg h1]
    by_cases h0 : (rpU (rpP r0 k) 2304).2 = 0
    · rw [if_pos h0, hend.2.2.1 h0]; omega
    · have := hend.2.2.2 h0
      rw [if_neg h0]; omega)
  have e1 : rpF r0 (k + 1) = (rpU (rpP r0 k) 2304).2 := rfl
  have e2 : rpP r0 (k + 1) = (rpU (rpP r0 k) 2304).1 := rfl
  rw [e1, e2] at ih1
  clear ih e1 e2
  generalize rpP r0 k = r1 at hlk hend ih1 ⊢
  refine tv_iconst (v := 0) X dX10_findsRegions_53 (by decide) ?_
  refine tv_istore_n X dX10_findsRegions_54 rfl ?_
  refine tv_iconst (v := 0) X dX10_findsRegions_55 (by decide) ?_
  refine tv_istore_n X dX10_findsRegions_56 rfl ?_
  refine mm_for 2304 (fun i => [(0, .ref (n0 + 130)), (1, .int (rpU r1 i).2), (2, .int (nI i))]) (fun i => mset (mset (mset S 133 (rpU r1 i).1) 134 z1) 135 z2) ?_ ?_
  · intro i hi ih
    dsimp only at ih
    have hc : i / 48 < 48 := by omega
    have ho : i % 48 < 48 := Nat.mod_lt _ (by decide)
    have hnx1 : (rpU r1 (i + 1)).1 = if rpE (rpU r1 i).1 i then upd (rpU r1 i).1 (i / 48) ((rpU r1 i).1 (i % 48)) else (rpU r1 i).1 := rfl
    have hnx2 : (rpU r1 (i + 1)).2 = if ¬ (rpU r1 i).2 = 0 ∨ rpE (rpU r1 i).1 i then 1 else 0 := rfl
    rw [hnx1, hnx2] at ih
    generalize rpU r1 i = q at ih ⊢
    have h133 : (mset (mset (mset S 133 q.1) 134 z1) 135 z2).1 133 = q.1 := by rw [mset_n (by decide), mset_n (by decide), mset_s]
    refine tv_iload_n X dX10_findsRegions_57 rfl ?_
    refine tv_sipush (v := 2304) X dX10_findsRegions_58 (by decide) ?_
    refine tv_icmp_ge (tgt := 177) X dX10_findsRegions_61 (by decide) (fun h2 => ?_) (fun h2 => ?_)
    · exact absurd h2 (nI_ge (a := i) (b := 2304) hi (by decide))
    refine tv_iload_n X dX10_findsRegions_64 rfl ?_
    refine tv_bipush (v := 48) X dX10_findsRegions_65 (by decide) ?_
    refine tv_idiv X dX10_findsRegions_67 (by decide) ?_
    rw [show nI i / 48 = nI (i / 48) from pk_div (d := 48) (by omega) (by decide) (by decide)]
    refine tv_istore_n X dX10_findsRegions_68 rfl ?_
    refine tv_iload_n X dX10_findsRegions_69 rfl ?_
    refine tv_bipush (v := 48) X dX10_findsRegions_70 (by decide) ?_
    refine tv_irem X dX10_findsRegions_72 (by decide) ?_
    rw [show nI i - nI i / 48 * 48 = nI (i % 48) from pk_rem (d := 48) (by omega) (by decide) (by decide)]
    refine tv_istore X dX10_findsRegions_73 rfl ?_
    refine mm_cut (pc := 127) (fun v : Int32 => v = bz (rpE q.1 i)) (fun _ => [(0, .ref (n0 + 130)), (1, .int q.2), (2, .int (nI i)), (3, .int (nI (i / 48))), (4, .int (nI (i % 48)))]) (fun v => [.int v]) (fun _ => mset (mset (mset S 133 q.1) 134 z1) 135 z2) ?_ ?_
    · intro v hv
      subst hv
      refine tv_istore X dX10_findsRegions_127 rfl ?_
      refine tv_aload_n X dX10_findsRegions_129 rfl ?_
      refine mm_getf X dX10_findsRegions_130 gX10 iX10_findsRegions_X10 rfl 10 (by decide) kX10_findsRegions_16 rfl ?_
      refine tv_iload_n X dX10_findsRegions_133 rfl ?_
      refine tv_iload X dX10_findsRegions_134 rfl ?_
      refine mm_cut (pc := 156) (fun _ : Unit => True) (fun _ => [(0, .ref (n0 + 130)), (1, .int q.2), (2, .int (nI i)), (3, .int (nI (i / 48))), (4, .int (nI (i % 48))), (5, .int (bz (rpE q.1 i)))]) (fun _ => []) (fun _ => mset (mset (mset S 133 (if rpE q.1 i then upd q.1 (i / 48) (q.1 (i % 48)) else q.1)) 134 z1) 135 z2) ?_ ?_
      · intro _ _
        refine tv_iload_n X dX10_findsRegions_156 rfl ?_
        have hfin : ∀ v, v = (if ¬ q.2 = 0 ∨ rpE q.1 i then (1 : Int32) else 0) → tv_V p l e rmX10_findsRegions s m args below meth c (MQ below (va_Qv (fun u => ∃ S', u = (n, mH n0 S') ∧ (fun S' => ∃ k, rpF r0 k = 0 ∧ S' = frS S k) S') (tv_B D vwCl n0) (tv_A n0)) args s 0 0 (tv_A n0)) D vwCl n0 0 0 6 170 [(0, .ref (n0 + 130)), (1, .int q.2), (2, .int (nI i)), (3, .int (nI (i / 48))), (4, .int (nI (i % 48))), (5, .int (bz (rpE q.1 i)))] [.int v] n (mH n0 (mset (mset (mset S 133 (if rpE q.1 i then upd q.1 (i / 48) (q.1 (i % 48)) else q.1)) 134 z1) 135 z2)) := by
          intro v hv
          subst hv
          refine tv_istore_n X dX10_findsRegions_170 rfl ?_
          refine tv_iinc X dX10_findsRegions_171 rfl (nI_1 i) rfl ?_
          refine tv_goto (tgt := 57) X dX10_findsRegions_174 (by decide) ?_
          exact tv_sl [0, 1, 2] rfl ih
        by_cases hg : q.2 = 0
        · refine tv_if_ne (tgt := 165) X dX10_findsRegions_157 (by decide) (fun h3 => ?_) (fun h3 => ?_)
          · exact absurd hg h3
          refine tv_iload X dX10_findsRegions_160 rfl ?_
          cases hE : rpE q.1 i with
          | false =>
            rw [hE] at hfin
            refine tv_if_eq (tgt := 169) X dX10_findsRegions_162 (by decide) (fun h4 => ?_) (fun h4 => ?_)
            rotate_left
            · exact absurd rfl h4
            refine tv_iconst (v := 0) X dX10_findsRegions_169 (by decide) ?_
            exact hfin 0 (if_neg (fun h => h.elim (fun h => h hg) (fun h => by cases h))).symm
          | true =>
            rw [hE] at hfin
            refine tv_if_eq (tgt := 169) X dX10_findsRegions_162 (by decide) (fun h4 => ?_) (fun h4 => ?_)
            · exact absurd h4 (by decide)
            refine tv_iconst (v := 1) X dX10_findsRegions_165 (by decide) ?_
            refine tv_goto (tgt := 170) X dX10_findsRegions_166 (by decide) ?_
            exact hfin 1 (if_pos (Or.inr rfl)).symm
        · refine tv_if_ne (tgt := 165) X dX10_findsRegions_157 (by decide) (fun h3 => ?_) (fun h3 => ?_)
          rotate_left
          · exact absurd h3 hg
          refine tv_iconst (v := 1) X dX10_findsRegions_165 (by decide) ?_
          refine tv_goto (tgt := 170) X dX10_findsRegions_166 (by decide) ?_
          exact hfin 1 (if_pos (Or.inl hg)).symm
      · intro hc2
        cases hE : rpE q.1 i with
        | false =>
          rw [hE] at hc2
          refine tv_if_eq (tgt := 149) X dX10_findsRegions_136 (by decide) (fun h3 => ?_) (fun h3 => ?_)
          rotate_left
          · exact absurd rfl h3
          refine tv_aload_n X dX10_findsRegions_149 rfl ?_
          refine mm_getf X dX10_findsRegions_150 gX10 iX10_findsRegions_X10 rfl 10 (by decide) kX10_findsRegions_16 rfl ?_
          refine tv_iload_n X dX10_findsRegions_153 rfl ?_
          refine mm_iald X dX10_findsRegions_154 g133 (i / 48) rfl hc (by decide) ?_
          rw [h133]
          refine mm_iast X dX10_findsRegions_155 g133 (i / 48) rfl hc (by decide) ?_
          refine mm_st ?_ (hc2 () trivial)
          rw [mupd_out (by decide), mupd_out (by decide), mupd_in]
          rw [show upd q.1 (i / 48) (q.1 (i / 48)) = q.1 from funext fun j => by
            unfold upd
            by_cases e1 : j = i / 48
            · rw [if_pos e1, e1]
            · rw [if_neg e1]]
          rfl
        | true =>
          rw [hE] at hc2
          refine tv_if_eq (tgt := 149) X dX10_findsRegions_136 (by decide) (fun h3 => ?_) (fun h3 => ?_)
          · exact absurd h3 (by decide)
          refine tv_aload_n X dX10_findsRegions_139 rfl ?_
          refine mm_getf X dX10_findsRegions_140 gX10 iX10_findsRegions_X10 rfl 10 (by decide) kX10_findsRegions_16 rfl ?_
          refine tv_iload X dX10_findsRegions_143 rfl ?_
          refine mm_iald X dX10_findsRegions_145 g133 (i % 48) rfl ho (by decide) ?_
          rw [h133]
          refine tv_goto (tgt := 155) X dX10_findsRegions_146 (by decide) ?_
          refine mm_iast X dX10_findsRegions_155 g133 (i / 48) rfl hc (by decide) ?_
          refine mm_st ?_ (hc2 () trivial)
          rw [mupd_out (by decide), mupd_out (by decide), mupd_in]
          rfl
    · intro hc2
      refine tv_aload_n X dX10_findsRegions_75 rfl ?_
      refine mm_getf X dX10_findsRegions_76 gX10 iX10_findsRegions_X10 rfl 10 (by decide) kX10_findsRegions_16 rfl ?_
      refine tv_iload_n X dX10_findsRegions_79 rfl ?_
      refine mm_iald X dX10_findsRegions_80 g133 (i / 48) rfl hc (by decide) ?_
      refine tv_iconst (v := -1) X dX10_findsRegions_81 (by decide) ?_
      rw [h133]
      by_cases a1 : q.1 (i / 48) = -1
      · refine tv_icmp_eq (tgt := 126) X dX10_findsRegions_82 (by decide) (fun h3 => ?_) (fun h3 => ?_)
        rotate_left
        · exact absurd a1 h3
        refine tv_iconst (v := 0) X dX10_findsRegions_126 (by decide) ?_
        exact hc2 0 (by unfold rpE; rw [decide_eq_true a1]; rfl)
      refine tv_icmp_eq (tgt := 126) X dX10_findsRegions_82 (by decide) (fun h3 => ?_) (fun h3 => ?_)
      · exact absurd h3 a1
      refine tv_aload_n X dX10_findsRegions_85 rfl ?_
      refine mm_getf X dX10_findsRegions_86 gX10 iX10_findsRegions_X10 rfl 10 (by decide) kX10_findsRegions_16 rfl ?_
      refine tv_iload X dX10_findsRegions_89 rfl ?_
      refine mm_iald X dX10_findsRegions_91 g133 (i % 48) rfl ho (by decide) ?_
      refine tv_iconst (v := -1) X dX10_findsRegions_92 (by decide) ?_
      rw [h133]
      by_cases a2 : q.1 (i % 48) = -1
      · refine tv_icmp_eq (tgt := 126) X dX10_findsRegions_93 (by decide) (fun h4 => ?_) (fun h4 => ?_)
        rotate_left
        · exact absurd a2 h4
        refine tv_iconst (v := 0) X dX10_findsRegions_126 (by decide) ?_
        exact hc2 0 (by unfold rpE; rw [decide_eq_true a2, Bool.not_true, Bool.false_and, Bool.and_false]; rfl)
      refine tv_icmp_eq (tgt := 126) X dX10_findsRegions_93 (by decide) (fun h4 => ?_) (fun h4 => ?_)
      · exact absurd h4 a2
      refine tv_iload_n X dX10_findsRegions_96 rfl ?_
      refine tv_iload X dX10_findsRegions_97 rfl ?_
      refine mm_callSi X dX10_findsRegions_99 (cX10_apart_ok hc ho) (va_cwS 2 X.2.2.2.2.1 gX10_findsRegions_X10_apart rfl rfl rfl (by decide +kernel) ⟨Nat.le_of_ble_eq_true rfl, Nat.le_of_ble_eq_true rfl⟩) rfl rfl (Nat.le_of_ble_eq_true rfl) ⟨Nat.zero_le _, Nat.zero_le _⟩ (fun r S1 hq => ?_)
      obtain ⟨hq1, hq2⟩ := hq
      rw [hq1, hq2]
      clear hq1 hq2
      refine tv_iconst (v := 1) X dX10_findsRegions_102 (by decide) ?_
      by_cases a3 : apI (i / 48) (i % 48) = 1
      · refine tv_icmp_ne (tgt := 126) X dX10_findsRegions_103 (by decide) (fun h5 => ?_) (fun h5 => ?_)
        · exact absurd a3 h5
        refine tv_aload_n X dX10_findsRegions_106 rfl ?_
        refine mm_getf X dX10_findsRegions_107 gX10 iX10_findsRegions_X10 rfl 10 (by decide) kX10_findsRegions_16 rfl ?_
        refine tv_iload X dX10_findsRegions_110 rfl ?_
        refine mm_iald X dX10_findsRegions_112 g133 (i % 48) rfl ho (by decide) ?_
        refine tv_aload_n X dX10_findsRegions_113 rfl ?_
        refine mm_getf X dX10_findsRegions_114 gX10 iX10_findsRegions_X10 rfl 10 (by decide) kX10_findsRegions_16 rfl ?_
        refine tv_iload_n X dX10_findsRegions_117 rfl ?_
        refine mm_iald X dX10_findsRegions_118 g133 (i / 48) rfl hc (by decide) ?_
        rw [h133]
        refine tv_icmp_ge (tgt := 126) X dX10_findsRegions_119 (by decide) (fun h6 => ?_) (fun h6 => ?_)
        · refine tv_iconst (v := 0) X dX10_findsRegions_126 (by decide) ?_
          exact hc2 0 (by unfold rpE; rw [decide_eq_false (Int32.not_lt.mpr h6), Bool.and_false, Bool.and_false, Bool.and_false]; rfl)
        · refine tv_iconst (v := 1) X dX10_findsRegions_122 (by decide) ?_
          refine tv_goto (tgt := 127) X dX10_findsRegions_123 (by decide) ?_
          exact hc2 1 (by unfold rpE; rw [decide_eq_false a1, decide_eq_false a2, decide_eq_true a3, decide_eq_true (Int32.not_le.mp h6)]; rfl)
      · refine tv_icmp_ne (tgt := 126) X dX10_findsRegions_103 (by decide) (fun h5 => ?_) (fun h5 => ?_)
        rotate_left
        · exact absurd h5 a3
        refine tv_iconst (v := 0) X dX10_findsRegions_126 (by decide) ?_
        exact hc2 0 (by unfold rpE; rw [decide_eq_false a3, Bool.false_and, Bool.and_false, Bool.and_false]; rfl)
  · refine tv_iload_n X dX10_findsRegions_57 rfl ?_
    refine tv_sipush (v := 2304) X dX10_findsRegions_58 (by decide) ?_
    refine tv_icmp_ge (tgt := 177) X dX10_findsRegions_61 (by decide) (fun h2 => ?_) (fun h2 => ?_)
    · refine tv_goto (tgt := 49) X dX10_findsRegions_177 (by decide) ?_
      exact tv_sl [0, 1] rfl ih1
    · exact absurd (nI_le (Nat.le_refl 2304) (by decide)) h2
end C28

