/-! the contacts of both sides are the same: sums around a cell -/
def nbI (i j D E : Nat) : Option Nat := if 1 ≤ i + D ∧ i + D ≤ 8 ∧ 1 ≤ j + E ∧ j + E ≤ 6 then some (6 * (i + D - 1) + (j + E - 1)) else none
def nbD : List (Nat × Nat) := [(0, 0), (0, 1), (0, 2), (1, 0), (1, 1), (1, 2), (2, 0), (2, 1), (2, 2)]
def nbL (c : Nat) : List Nat := nbD.filterMap (fun q => nbI (c / 6) (c % 6) q.1 q.2)
theorem nbL_eq : ∀ c, c < 48 → nbL c = (List.range 48).filter (fun k => decide (apI c k < 3)) := by decide +kernel
theorem nbX : ∀ i, i < 8 → ∀ D, D < 3 → nI i + (nI D + -1) = if 1 ≤ i + D then nI (i + D - 1) else -1 := by decide +kernel
/-- at a neighbor: the place, or none -/
theorem saG_nb {g : Nat → Int32} {i j D E : Nat} {d e : Int32} (hi : i < 8) (hj : j < 6) (hD : D < 3) (hE : E < 3) (hd : d = nI D + -1) (he : e = nI E + -1) : saG g (nI i + d) (nI j + e) = (match nbI i j D E with | some k => g k | none => 0) ∧ (∀ k, nbI i j D E = some k → k < 48 ∧ nI i + d = nI (k / 6) ∧ nI j + e = nI (k % 6)) := by
  have h1 := nbX i hi D hD
  have h2 := nbX j (by omega) E hE
  rw [← hd] at h1
  rw [← he] at h2
  by_cases hc : 1 ≤ i + D ∧ i + D ≤ 8 ∧ 1 ≤ j + E ∧ j + E ≤ 6
  · have hn : nbI i j D E = some (6 * (i + D - 1) + (j + E - 1)) := if_pos hc
    rw [if_pos hc.1] at h1
    rw [if_pos hc.2.2.1] at h2
    rw [hn, h1, h2]
    refine ⟨saG_in (by omega) (by omega), fun k hk => ?_⟩
    cases hk
    exact ⟨by omega, congrArg nI (by omega), congrArg nI (by omega)⟩
  · have hn : nbI i j D E = none := if_neg hc
    rw [hn]
    refine ⟨saG_out fun ho => hc ?_, fun k hk => by cases hk⟩
    obtain ⟨⟨a, ha, ea⟩, b, hb, eb⟩ := ho
    rw [h1] at ea
    rw [h2] at eb
    have k1 : 1 ≤ i + D := Decidable.byContradiction fun hh => by
      rw [if_neg hh] at ea
      exact nI_nm1 (f := a) (by omega) ea.symm
    have k2 : 1 ≤ j + E := Decidable.byContradiction fun hh => by
      rw [if_neg hh] at eb
      exact nI_nm1 (f := b) (by omega) eb.symm
    rw [if_pos k1] at ea
    rw [if_pos k2] at eb
    have e1 := nI_inj6 (by omega) (by omega) ea
    have e2 := nI_inj6 (by omega) (by omega) eb
    omega
def sumL (h : Nat → Int32) (L : List Nat) : Int32 := L.foldl (fun a k => a + h k) 0
theorem fold_fm {α : Type} {f : α → Option Nat} {h : Nat → Int32} {t : α → Int32} : ∀ (l : List α), (∀ q, q ∈ l → t q = match f q with | some k => h k | none => 0) → ∀ a : Int32, l.foldl (fun a q => a + t q) a = (l.filterMap f).foldl (fun a k => a + h k) a
  | [], _, _ => rfl
  | q :: l, ht, a => by
    have h1 := ht q List.mem_cons_self
    rw [List.foldl_cons, fold_fm l (fun q hq => ht q (List.mem_cons_of_mem _ hq))]
    cases hf : f q with
    | none =>
      rw [hf] at h1
      rw [List.filterMap_cons_none hf, h1, Int32.add_zero]
    | some k =>
      rw [hf] at h1
      rw [List.filterMap_cons_some hf, List.foldl_cons, h1]
theorem sumL_range {f h : Nat → Int32} {p : Nat → Bool} (f0 : f 0 = 0) (fs : ∀ i, f (i + 1) = f i + if p i then h i else 0) : ∀ n, f n = sumL h ((List.range n).filter p)
  | 0 => f0
  | n + 1 => by
    rw [fs n, sumL_range f0 fs n, List.range_succ, List.filter_append]
    unfold sumL
    rw [List.foldl_append]
    cases hp : p n with
    | true =>
      rw [List.filter_cons_of_pos hp]
      rfl
    | false =>
      rw [List.filter_cons_of_neg (by rw [hp]; decide)]
      exact Int32.add_zero _
theorem sumL_cg {h h' : Nat → Int32} {L : List Nat} (e : ∀ k, k ∈ L → h k = h' k) : sumL h L = sumL h' L := by
  unfold sumL
  have key : ∀ (L : List Nat), (∀ k, k ∈ L → h k = h' k) → ∀ a : Int32, L.foldl (fun a k => a + h k) a = L.foldl (fun a k => a + h' k) a := by
    intro L
    induction L with
    | nil => intro _ _; rfl
    | cons k L ih =>
      intro e a
      rw [List.foldl_cons, List.foldl_cons, e k List.mem_cons_self, ih fun k hk => e k (List.mem_cons_of_mem _ hk)]
  exact key L e 0
theorem nbL_lt {c k : Nat} (hc : c < 48) (hk : k ∈ nbL c) : k < 48 := by
  rw [nbL_eq c hc, List.mem_filter, List.mem_range] at hk
  exact hk.1
noncomputable def nbT (g : Nat → Int32) (x y : Int32) (q : Nat × Nat) : Int32 := saG g (x + (nI q.1 + -1)) (y + (nI q.2 + -1))
theorem nbK : nI 0 + -1 = (-1 : Int32) ∧ nI 1 + -1 = (0 : Int32) ∧ nI 2 + -1 = (1 : Int32) := by decide
theorem nbD_lt {q : Nat × Nat} (hq : q ∈ nbD) : q.1 < 3 ∧ q.2 < 3 := by
  have : ∀ q ∈ nbD, q.1 < 3 ∧ q.2 < 3 := by decide
  exact this q hq
theorem mas9_L {g : Nat → Int32} {c : Nat} (hc : c < 48) : mas9 g (nI (c / 6)) (nI (c % 6)) = sumL g (nbL c) := by
  have e : mas9 g (nI (c / 6)) (nI (c % 6)) = nbD.foldl (fun a q => a + nbT g (nI (c / 6)) (nI (c % 6)) q) 0 := by
    unfold mas9 ms3 nbD nbT
    simp only [List.foldl_cons, List.foldl_nil, nbK.1, nbK.2.1, nbK.2.2]
  rw [e]
  refine fold_fm nbD (fun q hq => ?_) 0
  exact (saG_nb (g := g) (by omega) (by omega) (nbD_lt hq).1 (nbD_lt hq).2 rfl rfl).1
theorem wr9_L {g : Nat → Int32} {c : Nat} (hc : c < 48) : wr9 g (nI (c / 6)) (nI (c % 6)) = sumL (fun k => g k * nI (k / 6)) (nbL c) := by
  have e : wr9 g (nI (c / 6)) (nI (c % 6)) = nbD.foldl (fun a q => a + nbT g (nI (c / 6)) (nI (c % 6)) q * (nI (c / 6) + (nI q.1 + -1))) 0 := by
    unfold wr9 wr3 nbD nbT
    simp only [List.foldl_cons, List.foldl_nil, nbK.1, nbK.2.1, nbK.2.2]
  rw [e]
  refine fold_fm nbD (fun q hq => ?_) 0
  obtain ⟨h1, h2⟩ := saG_nb (g := g) (i := c / 6) (j := c % 6) (by omega) (by omega) (nbD_lt hq).1 (nbD_lt hq).2 rfl rfl
  unfold nbT
  rw [h1]
  cases hn : nbI (c / 6) (c % 6) q.1 q.2 with
  | none => exact Int32.zero_mul
  | some k =>
    show g k * _ = g k * _
    rw [(h2 k hn).2.1]
theorem wc9_L {g : Nat → Int32} {c : Nat} (hc : c < 48) : wc9 g (nI (c / 6)) (nI (c % 6)) = sumL (fun k => g k * nI (k % 6)) (nbL c) := by
  have e : wc9 g (nI (c / 6)) (nI (c % 6)) = nbD.foldl (fun a q => a + nbT g (nI (c / 6)) (nI (c % 6)) q * (nI (c % 6) + (nI q.2 + -1))) 0 := by
    unfold wc9 wc3 nbD nbT
    simp only [List.foldl_cons, List.foldl_nil, nbK.1, nbK.2.1, nbK.2.2]
  rw [e]
  refine fold_fm nbD (fun q hq => ?_) 0
  obtain ⟨h1, h2⟩ := saG_nb (g := g) (i := c / 6) (j := c % 6) (by omega) (by omega) (nbD_lt hq).1 (nbD_lt hq).2 rfl rfl
  unfold nbT
  rw [h1]
  cases hn : nbI (c / 6) (c % 6) q.1 q.2 with
  | none => exact Int32.zero_mul
  | some k =>
    show g k * _ = g k * _
    rw [(h2 k hn).2.2]
theorem lcM_L {S : mS} {c : Nat} (hc : c < 48) : lcM S c 48 = sumL (sgR S) (nbL c) := by
  rw [nbL_eq c hc]
  refine sumL_range (f := lcM S c) rfl (fun i => ?_) 48
  show lcM S c i + (if apI c i < 3 then sgR S i else 0) = _
  by_cases h : apI c i < 3
  · rw [if_pos h, if_pos (decide_eq_true h)]
  · rw [if_neg h, if_neg (by rw [decide_eq_false h]; decide)]
theorem lcD_L {S : mS} {c : Nat} (hc : c < 48) : lcD S c 48 = sumL (fun k => sgR S k * nI (k / 6)) (nbL c) := by
  rw [nbL_eq c hc]
  refine sumL_range (f := lcD S c) rfl (fun i => ?_) 48
  show lcD S c i + (if apI c i < 3 then sgR S i else 0) * nI (i / 6) = _
  by_cases h : apI c i < 3
  · rw [if_pos h, if_pos (decide_eq_true h)]
  · rw [if_neg h, if_neg (by rw [decide_eq_false h]; decide), Int32.zero_mul]
theorem lcO_L {S : mS} {c : Nat} (hc : c < 48) : lcO S c 48 = sumL (fun k => sgR S k * nI (k % 6)) (nbL c) := by
  rw [nbL_eq c hc]
  refine sumL_range (f := lcO S c) rfl (fun i => ?_) 48
  show lcO S c i + (if apI c i < 3 then sgR S i else 0) * nI (i % 6) = _
  by_cases h : apI c i < 3
  · rw [if_pos h, if_pos (decide_eq_true h)]
  · rw [if_neg h, if_neg (by rw [decide_eq_false h]; decide), Int32.zero_mul]
theorem mas_eq {A B : mS} {b c : Nat} (hI : EQ A b B) (hc : c < 48) : mas9 (sgS A b) (nI (c / 6)) (nI (c % 6)) = lcM B c 48 := by
  rw [mas9_L hc, lcM_L hc]
  exact sumL_cg fun k hk => EQ_sg hI (nbL_lt hc hk)
theorem wr_eq {A B : mS} {b c : Nat} (hI : EQ A b B) (hc : c < 48) : wr9 (sgS A b) (nI (c / 6)) (nI (c % 6)) = lcD B c 48 := by
  rw [wr9_L hc, lcD_L hc]
  exact sumL_cg fun k hk => by rw [EQ_sg hI (nbL_lt hc hk)]
theorem wc_eq {A B : mS} {b c : Nat} (hI : EQ A b B) (hc : c < 48) : wc9 (sgS A b) (nI (c / 6)) (nI (c % 6)) = lcO B c 48 := by
  rw [wc9_L hc, lcO_L hc]
  exact sumL_cg fun k hk => by rw [EQ_sg hI (nbL_lt hc hk)]
/-! peaks -/
def pkT (g : Nat → Int32) (c k : Nat) : Bool := !(decide (g c < g k) || (decide (g k = g c) && decide (k < c)))
noncomputable def pkN (g : Nat → Int32) (c : Nat) (q : Nat × Nat) : Bool := pkOk g (g c) (nI (c / 6)) (nI (c % 6)) (nI q.1 + -1) (nI q.2 + -1)
theorem nbC : ∀ c, c < 48 → ∀ q, q ∈ nbD → ∀ k, nbI (c / 6) (c % 6) q.1 q.2 = some k → (6 * (nI q.1 + -1) + (nI q.2 + -1) < 0 ↔ k < c) := by decide +kernel
theorem pk9_L {g : Nat → Int32} {c : Nat} (hc : c < 48) (h0 : 0 < g c) : pk9 g (g c) (nI (c / 6)) (nI (c % 6)) = (nbL c).all (pkT g c) := by
  have e : pk9 g (g c) (nI (c / 6)) (nI (c % 6)) = nbD.all (pkN g c) := by
    unfold pk9 nbD pkN
    simp only [List.all_cons, List.all_nil, nbK.1, nbK.2.1, nbK.2.2, Bool.and_true]
  rw [e]
  have key : ∀ l : List (Nat × Nat), (∀ q, q ∈ l → q ∈ nbD) → l.all (pkN g c) = (l.filterMap (fun q => nbI (c / 6) (c % 6) q.1 q.2)).all (pkT g c) := by
    intro l
    induction l with
    | nil => intro _; rfl
    | cons q l ih =>
      intro hl
      have hq := hl q List.mem_cons_self
      obtain ⟨h1, h2⟩ := saG_nb (g := g) (i := c / 6) (j := c % 6) (by omega) (by omega) (nbD_lt hq).1 (nbD_lt hq).2 rfl rfl
      rw [List.all_cons, ih fun q hq => hl q (List.mem_cons_of_mem _ hq)]
      cases hn : nbI (c / 6) (c % 6) q.1 q.2 with
      | none =>
        rw [List.filterMap_cons_none (f := fun q : Nat × Nat => nbI (c / 6) (c % 6) q.1 q.2) hn]
        rw [hn] at h1
        have e1 : pkN g c q = true := by
          unfold pkN pkOk
          rw [h1]
          show (!(decide (g c < 0) || (decide ((0 : Int32) = g c) && _))) = true
          rw [decide_eq_false (fun h => Int32.lt_irrefl (Int32.lt_trans h h0)), decide_eq_false (fun h => by rw [← h] at h0; exact Int32.lt_irrefl h0)]
          rfl
        rw [e1, Bool.true_and]
      | some k =>
        rw [List.filterMap_cons_some (f := fun q : Nat × Nat => nbI (c / 6) (c % 6) q.1 q.2) hn, List.all_cons]
        rw [hn] at h1
        have e1 : pkN g c q = pkT g c k := by
          unfold pkN pkOk pkT
          rw [h1]
          show (!(decide (g c < g k) || (decide (g k = g c) && decide _))) = _
          rw [decide_eq_decide.mpr (nbC c hc q hq k hn)]
        rw [e1]
  exact key nbD fun _ h => h
theorem apI_ne : ∀ c, c < 48 → ∀ k, k < 48 → (inI (apI c k) 1 2 = (decide (apI c k < 3) && decide (k ≠ c))) := by decide +kernel
theorem pkM_iff {S : mS} {c : Nat} : ∀ i, pkM S c i = true ↔ (¬ S.1 133 c = -1 ∧ kndM S (S.1 133 c).toNatClampNeg = 0) ∧ ∀ k, k < i → pkMok S c k = true
  | 0 => by
    show (!(decide (S.1 133 c = -1)) && decide (kndM S (S.1 133 c).toNatClampNeg = 0)) = true ↔ _
    rw [Bool.and_eq_true, Bool.not_eq_true', decide_eq_false_iff_not, decide_eq_true_eq]
    exact ⟨fun h => ⟨h, fun k hk => absurd hk (Nat.not_lt_zero k)⟩, fun h => h.1⟩
  | i + 1 => by
    show (pkM S c i && pkMok S c i) = true ↔ _
    rw [Bool.and_eq_true, pkM_iff i]
    constructor
    · intro ⟨⟨h1, h2⟩, h3⟩
      refine ⟨h1, fun k hk => ?_⟩
      by_cases e : k = i
      · rw [e]; exact h3
      · exact h2 k (by omega)
    · intro ⟨h1, h2⟩
      exact ⟨⟨h1, fun k hk => h2 k (by omega)⟩, h2 i (by omega)⟩
theorem pkMok_T {S : mS} (hS : rgR S) {c k : Nat} (hc : c < 48) (hk : k < 48) : pkMok S c k = (!(decide (apI c k < 3)) || pkT (sgR S) c k) := by
  obtain ⟨e1, l1⟩ := sgR_N hS hc
  obtain ⟨e2, l2⟩ := sgR_N hS hk
  unfold pkMok pkT
  rw [apI_ne c hc k hk, e1, e2]
  by_cases hkc : k = c
  · subst hkc
    have f1 : ¬ nI (sgN S k) < nI (sgN S k) := Int32.lt_irrefl
    rw [decide_eq_false (fun h : k ≠ k => h rfl), decide_eq_false f1, decide_eq_false (Nat.lt_irrefl k), Bool.and_false, Bool.and_false]
    simp
  · rw [decide_eq_true (show k ≠ c from hkc), Bool.and_true]
    cases ha : decide (apI c k < 3) with
    | false => rfl
    | true =>
      show (decide (nI (sgN S k) - nI (sgN S c) < 0) || (decide (nI (sgN S k) - nI (sgN S c) = 0) && decide (c < k))) = !(decide (nI (sgN S c) < nI (sgN S k)) || (decide (nI (sgN S k) = nI (sgN S c)) && decide (k < c)))
      rcases Nat.lt_trichotomy (sgN S k) (sgN S c) with h | h | h
      · have A1 : decide (nI (sgN S k) - nI (sgN S c) < 0) = true := decide_eq_true (nI_subl (by omega) h)
        have A3 : decide (nI (sgN S c) < nI (sgN S k)) = false := decide_eq_false fun h2 => by
          have := (nI_ltI (a := sgN S c) (b := sgN S k) (by omega) (by omega)).mp h2
          omega
        have A4 : decide (nI (sgN S k) = nI (sgN S c)) = false := decide_eq_false fun h2 => by
          have := nI_clamp (n := sgN S k) (by omega)
          rw [h2, nI_clamp (by omega)] at this
          omega
        rw [A1, A3, A4]
        rfl
      · rw [h, decide_eq_false (show ¬ nI (sgN S c) < nI (sgN S c) from Int32.lt_irrefl), decide_eq_true (rfl : nI (sgN S c) = nI (sgN S c)), Int32.sub_self, decide_eq_false (show ¬ (0 : Int32) < 0 by decide), decide_eq_true (rfl : (0 : Int32) = 0), Bool.false_or, Bool.false_or, Bool.true_and, Bool.true_and, ← decide_not]
        exact decide_eq_decide.mpr ⟨fun h => by omega, fun h => by omega⟩
      · rw [nI_subg (Nat.le_of_lt h), decide_eq_false (nI_pos (n := sgN S k - sgN S c) (by omega)), decide_eq_false (nI_ne0 (n := sgN S k - sgN S c) (by omega) (by omega)), decide_eq_true (nI_lt h (by omega))]
        rfl
/-- the peaks that make contacts -/
noncomputable def pkB (B : mS) (c : Nat) : Bool := pkM (frD B) c 48
theorem agD_sg {B : mS} : sgR (frD B) = sgR B := by
  funext j
  unfold sgR
  rw [frD_n (by omega)]
theorem agD_lc {B : mS} {c : Nat} : lcM (frD B) c 48 = lcM B c 48 ∧ lcD (frD B) c 48 = lcD B c 48 ∧ lcO (frD B) c 48 = lcO B c 48 := by
  have e : lcs (frD B) c = lcs B c := by
    funext k
    unfold lcs
    rw [agD_sg]
  have h1 : ∀ i, lcM (frD B) c i = lcM B c i := fun i => by
    induction i with
    | zero => rfl
    | succ i ih => show lcM (frD B) c i + lcs (frD B) c i = lcM B c i + lcs B c i; rw [ih, e]
  have h2 : ∀ i, lcD (frD B) c i = lcD B c i := fun i => by
    induction i with
    | zero => rfl
    | succ i ih => show lcD (frD B) c i + lcs (frD B) c i * nI (i / 6) = lcD B c i + lcs B c i * nI (i / 6); rw [ih, e]
  have h3 : ∀ i, lcO (frD B) c i = lcO B c i := fun i => by
    induction i with
    | zero => rfl
    | succ i ih => show lcO (frD B) c i + lcs (frD B) c i * nI (i % 6) = lcO B c i + lcs B c i * nI (i % 6); rw [ih, e]
  exact ⟨h1 48, h2 48, h3 48⟩
theorem regS_sg {A : mS} {b : Nat} (hb : b + 4 < 99) : sgS (regS A b 48) b = sgS A b := by
  funext j
  unfold sgS
  rw [regSn (by omega), regSn (by omega)]
theorem can_eq {A B : mS} {b c : Nat} (hb : b + 4 < 99) (hI : EQ A b B) (hc : c < 48) : canS (regS A b 48) b (flS A b 48) c = if pkB B c then lcM B c 48 else 0 := by
  have hS := rgE hI
  have hD : rgR (frD B) := ⟨by rw [frD_n (by omega)]; exact hS.1, by rw [frD_n (by omega)]; exact hS.2⟩
  unfold canS
  rw [flS_R hI hc, regS_sg hb, mas_eq hI hc]
  have hp : pkB B c = true ↔ ((if (if ttR B c = true then gR B c else 48) = 48 then (-1 : Int32) else kndR (regS A b 48) (if ttR B c = true then gR B c else 48)) = 0 ∧ pk9 (sgS A b) (sgS A b c) (nI (c / 6)) (nI (c % 6)) = true) := by
    unfold pkB
    rw [pkM_iff, frD_133 hc]
    cases ht : ttR B c with
    | false =>
      constructor
      · intro h; exact absurd rfl h.1.1
      · intro h
        have := h.1
        exact absurd this (by show ¬ ((-1 : Int32) = 0); decide)
    | true =>
      have hg := gR_lt hc ht
      show (¬ nI (gR B c) = -1 ∧ kndM (frD B) (nI (gR B c)).toNatClampNeg = 0) ∧ _ ↔ (if gR B c = 48 then (-1 : Int32) else kndR (regS A b 48) (gR B c)) = 0 ∧ _
      rw [nI_clamp (by omega), if_neg (show ¬ gR B c = 48 by omega), knd_eq hI hg]
      have h0 : 0 < sgS A b c := by
        rw [EQ_sg hI hc]
        unfold ttR at ht
        rw [decide_eq_true_eq] at ht
        obtain ⟨v, v0, v1, ev⟩ := hS.2
        rw [ev] at ht
        exact Int32.lt_of_lt_of_le (nI_lt (a := 0) v0 (by omega)) ht
      rw [pk9_L hc h0]
      refine Iff.trans (and_congr ⟨fun h => h.2, fun h => ⟨nI_nm1 (by omega), h⟩⟩ ?_) Iff.rfl
      rw [nbL_eq c hc, List.all_eq_true]
      constructor
      · intro h k hk
        rw [List.mem_filter, List.mem_range] at hk
        have := h k hk.1
        rw [pkMok_T hD hc hk.1, hk.2, agD_sg] at this
        unfold pkT at this ⊢
        rw [EQ_sg hI hc, EQ_sg hI hk.1]
        exact this
      · intro h k hk
        rw [pkMok_T hD hc hk, agD_sg]
        cases ha : decide (apI c k < 3) with
        | false => rfl
        | true =>
          have := h k (List.mem_filter.mpr ⟨List.mem_range.mpr hk, ha⟩)
          unfold pkT at this ⊢
          rw [EQ_sg hI hc, EQ_sg hI hk] at this
          exact this
  cases hq : pkB B c with
  | true => exact if_pos (hp.mp hq)
  | false => exact if_neg fun h => by rw [hp.mpr h] at hq; cases hq

