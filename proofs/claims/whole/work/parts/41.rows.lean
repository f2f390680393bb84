/-! labels: least cells of the regions -/
def adj (c d : Nat) : Prop := c < 48 ∧ d < 48 ∧ ((d = c + 1 ∧ c % 6 < 5) ∨ d = c + 6 ∨ (c = d + 1 ∧ d % 6 < 5) ∨ c = d + 6)
theorem adj.symm {c d : Nat} (h : adj c d) : adj d c := ⟨h.2.1, h.1, by rcases h.2.2 with h | h | h | h <;> simp [h]⟩
theorem apI_adj : ∀ c, c < 48 → ∀ d, d < 48 → (apI c d = 1 ↔ ((d = c + 1 ∧ c % 6 < 5) ∨ d = c + 6 ∨ (c = d + 1 ∧ d % 6 < 5) ∨ c = d + 6)) := by decide +kernel
def rch (tt : Nat → Bool) : Nat → Nat → Nat → Prop
  | 0, c, d => c = d
  | k + 1, c, d => ∃ e, rch tt k c e ∧ adj e d ∧ tt e = true ∧ tt d = true
def con (tt : Nat → Bool) (c d : Nat) : Prop := ∃ k, rch tt k c d
theorem con_refl {tt : Nat → Bool} {c : Nat} : con tt c c := ⟨0, rfl⟩
theorem con_step {tt : Nat → Bool} {c e d : Nat} (h : con tt c e) (ha : adj e d) (he : tt e = true) (hd : tt d = true) : con tt c d := by
  obtain ⟨k, hk⟩ := h
  exact ⟨k + 1, e, hk, ha, he, hd⟩
/-- what labels by their region's cells are: of the region, not above the cell -/
def GG (tt : Nat → Bool) (g : Nat → Nat) : Prop := ∀ c, c < 48 → tt c = true → g c < 48 ∧ con tt (g c) c ∧ g c ≤ c
def GC (tt : Nat → Bool) (g : Nat → Nat) : Prop := ∀ c d, adj c d → tt c = true → tt d = true → g c = g d
theorem rch_ends {tt : Nat → Bool} {c : Nat} : ∀ {k d : Nat}, rch tt k c d → c < 48 → tt c = true → d < 48 ∧ tt d = true
  | 0, d, h, hc, ht => by
    have h' : c = d := h
    rw [← h']; exact ⟨hc, ht⟩
  | k + 1, d, h, _, _ => by
    obtain ⟨e, -, ha, -, hd⟩ := h
    exact ⟨ha.2.1, hd⟩
theorem rch_start {tt : Nat → Bool} {c : Nat} : ∀ {k d : Nat}, rch tt k c d → d < 48 → tt d = true → c < 48 ∧ tt c = true
  | 0, d, h, hd, ht => by
    have h' : c = d := h
    rw [h']; exact ⟨hd, ht⟩
  | k + 1, d, h, _, _ => by
    obtain ⟨e, hk, ha, he, -⟩ := h
    exact rch_start hk ha.1 he
theorem GC_con {tt : Nat → Bool} {g : Nat → Nat} (h : GC tt g) {c : Nat} : ∀ {k d : Nat}, rch tt k c d → g c = g d
  | 0, d, hk => by
    have h' : c = d := hk
    rw [h']
  | k + 1, d, hk => by
    obtain ⟨e, hk, ha, he, hd⟩ := hk
    exact (GC_con h hk).trans (h e d ha he hd)
/-- labels that are alike along a region are the only ones -/
theorem lab_uniq {tt : Nat → Bool} {f g : Nat → Nat} (hf : GG tt f) (hf2 : GC tt f) (hg : GG tt g) (hg2 : GC tt g) {c : Nat} (hc : c < 48) (ht : tt c = true) : f c = g c := by
  have key : ∀ {f g : Nat → Nat}, GG tt f → GC tt f → GG tt g → f c ≤ g c := by
    intro f g hf hf2 hg
    obtain ⟨h1, ⟨k, hk⟩, h3⟩ := hg c hc ht
    obtain ⟨h4, h5⟩ := rch_start hk hc ht
    have := (hf (g c) h4 h5).2.2
    rw [GC_con hf2 hk] at this
    exact this
  exact Nat.le_antisymm (key hf hf2 hg) (key hg hg2 hf)
theorem lab_low {tt : Nat → Bool} {f g : Nat → Nat} (hg : GG tt g) (hg2 : GC tt g) {c : Nat} (hf : f c < 48 ∧ con tt (f c) c ∧ f c ≤ c) (hc : c < 48) (ht : tt c = true) : g c ≤ f c := by
  obtain ⟨h1, ⟨k, hk⟩, h3⟩ := hf
  obtain ⟨h4, h5⟩ := rch_start hk hc ht
  have := (hg (f c) h4 h5).2.2
  rw [GC_con hg2 hk] at this
  exact this
/-! the reference's labels -/
def lbN (r : Nat → Int32) (c : Nat) : Nat := (r c).toNatClampNeg
def crT (tt : Nat → Bool) (c : Nat) : Int32 := if tt c then nI c else -1
/-- the reference's labels on their way -/
def RP (tt : Nat → Bool) (r : Nat → Int32) : Prop := ∀ c, c < 48 → (tt c = true → r c = nI (lbN r c) ∧ lbN r c < 48 ∧ con tt (lbN r c) c ∧ lbN r c ≤ c) ∧ (tt c = false → r c = -1)
theorem nI_nm1 {f : Nat} (h : f < 2 ^ 31) : ¬ nI f = -1 := fun e => nI_pos h (by rw [e]; decide)
theorem RP.lbl {tt : Nat → Bool} {r : Nat → Int32} (h : RP tt r) : lblR r := fun j hj => by
  cases ht : tt j with
  | false => exact Or.inl ((h j hj).2 ht)
  | true => exact Or.inr ⟨_, ((h j hj).1 ht).2.1, ((h j hj).1 ht).1⟩
theorem RP.tt {tt : Nat → Bool} {r : Nat → Int32} (h : RP tt r) {c : Nat} (hc : c < 48) (hn : ¬ r c = -1) : tt c = true := by
  cases ht : tt c with
  | true => rfl
  | false => exact absurd ((h c hc).2 ht) hn
theorem RP.up {tt : Nat → Bool} {r : Nat → Int32} (h : RP tt r) : ∀ {k : Nat}, k ≤ 2304 → RP tt (rpU r k).1
  | 0, _ => h
  | k + 1, hk => by
    have ih := RP.up h (k := k) (by omega)
    have hc : k / 48 < 48 := by omega
    have ho : k % 48 < 48 := Nat.mod_lt _ (by decide)
    cases he : rpE (rpU r k).1 k with
    | false =>
      have e1 : (rpU r (k + 1)).1 = (rpU r k).1 := by
        show (if rpE (rpU r k).1 k then _ else _) = _
        rw [he]; rfl
      rw [e1]; exact ih
    | true =>
      obtain ⟨p1, p2, p3, p4⟩ := rpE_spec he
      have e1 : (rpU r (k + 1)).1 = upd (rpU r k).1 (k / 48) ((rpU r k).1 (k % 48)) := by
        show (if rpE (rpU r k).1 k then _ else _) = _
        rw [he]; rfl
      rw [e1]
      have tc := ih.tt hc p1
      have to := ih.tt ho p2
      have had : adj (k % 48) (k / 48) := adj.symm ⟨hc, ho, (apI_adj _ hc _ ho).mp p3⟩
      obtain ⟨a1, a2, a3, a4⟩ := (ih _ ho).1 to
      obtain ⟨b1, b2, b3, b4⟩ := (ih _ hc).1 tc
      have hlt : lbN (rpU r k).1 (k % 48) < lbN (rpU r k).1 (k / 48) := by
        rw [a1, b1] at p4
        exact (nI_ltI (by omega) (by omega)).mp p4
      intro c hcc
      by_cases e : c = k / 48
      · rw [e]
        refine ⟨fun _ => ?_, fun hf => by rw [hf] at tc; cases tc⟩
        have e2 : lbN (upd (rpU r k).1 (k / 48) ((rpU r k).1 (k % 48))) (k / 48) = lbN (rpU r k).1 (k % 48) := by
          unfold lbN
          rw [pk_us]
        rw [e2, pk_us]
        exact ⟨a1, a2, con_step a3 had to tc, by omega⟩
      · have e2 : lbN (upd (rpU r k).1 (k / 48) ((rpU r k).1 (k % 48))) c = lbN (rpU r k).1 c := by
          unfold lbN
          rw [pk_un e]
        rw [e2, pk_un e]
        exact ih c hcc
theorem RP.pass {tt : Nat → Bool} {r : Nat → Int32} (h : RP tt r) : ∀ k, RP tt (rpP r k)
  | 0 => h
  | k + 1 => by rw [rpP_s]; exact (RP.pass h k).up (Nat.le_refl _)
/-- flag 0: nothing was done -/
theorem rpU_0 {r : Nat → Int32} : ∀ {k : Nat}, (rpU r k).2 = 0 → (rpU r k).1 = r ∧ ∀ j, j < k → rpE r j = false
  | 0, _ => ⟨rfl, fun j hj => absurd hj (Nat.not_lt_zero j)⟩
  | k + 1, h => by
    have h' : (if ¬ (rpU r k).2 = 0 ∨ rpE (rpU r k).1 k then (1 : Int32) else 0) = 0 := h
    by_cases hc : ¬ (rpU r k).2 = 0 ∨ rpE (rpU r k).1 k
    · rw [if_pos hc] at h'
      exact absurd h' (by decide)
    · have h0 : (rpU r k).2 = 0 := Decidable.byContradiction fun hn => hc (Or.inl hn)
      obtain ⟨h1, h2⟩ := rpU_0 h0
      have h3 : rpE (rpU r k).1 k = false := by
        cases hx : rpE (rpU r k).1 k with
        | false => rfl
        | true => exact absurd (Or.inr hx) hc
      refine ⟨?_, fun j hj => ?_⟩
      · show (if rpE (rpU r k).1 k then _ else (rpU r k).1) = r
        rw [h3]; exact h1
      · by_cases e : j = k
        · rw [e, ← h1]; rw [h1] at h3 ⊢; exact h3
        · exact h2 j (by omega)
theorem RP.fix {tt : Nat → Bool} {r : Nat → Int32} (h : RP tt r) (hE : ∀ j, j < 2304 → rpE r j = false) : GC tt (lbN r) := by
  have key : ∀ c d, adj c d → tt c = true → tt d = true → lbN r c ≤ lbN r d := by
    intro c d ha hc hd
    have h1 := hE (c * 48 + d) (by have := ha.1; have := ha.2.1; omega)
    have e1 : (c * 48 + d) / 48 = c := by have := ha.2.1; omega
    have e2 : (c * 48 + d) % 48 = d := by have := ha.2.1; omega
    unfold rpE at h1
    rw [e1, e2] at h1
    obtain ⟨a1, a2, -, -⟩ := (h c ha.1).1 hc
    obtain ⟨b1, b2, -, -⟩ := (h d ha.2.1).1 hd
    rw [(apI_adj c ha.1 d ha.2.1).mpr ha.2.2, a1, b1, decide_eq_false (nI_nm1 (by omega)), decide_eq_false (nI_nm1 (by omega))] at h1
    refine Nat.le_of_not_lt fun hlt => ?_
    rw [decide_eq_true (nI_lt hlt (by omega))] at h1
    revert h1
    decide
  exact fun c d ha hc hd => Nat.le_antisymm (key c d ha hc hd) (key d c ha.symm hd hc)
theorem RP.GG {tt : Nat → Bool} {r : Nat → Int32} (h : RP tt r) : GG tt (lbN r) := fun c hc ht => ((h c hc).1 ht).2
theorem crT_RP {tt : Nat → Bool} {r : Nat → Int32} (h : ∀ c, c < 48 → r c = crT tt c) : RP tt r := fun c hc => by
  refine ⟨fun ht => ?_, fun ht => ?_⟩
  · have e : r c = nI c := by rw [h c hc]; unfold crT; rw [ht]; rfl
    have e2 : lbN r c = c := by unfold lbN; rw [e, nI_clamp (by omega)]
    rw [e2]
    exact ⟨e, hc, con_refl, Nat.le_refl _⟩
  · rw [h c hc]; unfold crT; rw [ht]; rfl
/-- the reference's loop comes to an end -/
theorem rp_ends {r : Nat → Int32} (h : lblR r) : ∃ k, rpF r k = 0 := by
  have key : ∀ m k, muR (rpP r k) < m → ∃ k, rpF r k = 0 := by
    intro m
    induction m with
    | zero => intro k hk; exact absurd hk (Nat.not_lt_zero _)
    | succ m ih =>
      intro k hk
      by_cases h0 : (rpU (rpP r k) 2304).2 = 0
      · exact ⟨k + 1, by rw [rpF_s]; exact h0⟩
      · have := (rpU_ok (rpP_ok h k) (Nat.le_refl 2304)).2.2.2 h0
        refine ih (k + 1) ?_
        rw [rpP_s]
        omega
  exact key (muR (rpP r 0) + 1) 0 (Nat.lt_succ_self _)
/-- the label of a touched cell: its region's least cell -/
noncomputable def gL (tt : Nat → Bool) : Nat → Nat := lbN (rpP (crT tt) (rpZ (crT tt)))
theorem rpZ_0 {r : Nat → Int32} (h : lblR r) : rpF r (rpZ r) = 0 := by
  have hex := rp_ends h
  unfold rpZ
  rw [dif_pos hex]
  exact hex.choose_spec
theorem rpF_fix {tt : Nat → Bool} {r : Nat → Int32} (h : RP tt r) {k : Nat} (hk : rpF r k = 0) : GC tt (lbN (rpP r k)) := by
  have h0 : k ≠ 0 := fun e => by
    rw [e] at hk
    exact absurd hk (by show ¬ (1 : Int32) = 0; decide)
  obtain ⟨j, rfl⟩ : ∃ j, k = j + 1 := ⟨k - 1, by omega⟩
  rw [rpF_s] at hk
  obtain ⟨h1, h2⟩ := rpU_0 hk
  rw [rpP_s, h1]
  exact (h.pass j).fix h2
theorem gL_GG (tt : Nat → Bool) : GG tt (gL tt) := ((crT_RP fun _ _ => rfl).pass _).GG
theorem gL_GC (tt : Nat → Bool) : GC tt (gL tt) := rpF_fix (crT_RP fun _ _ => rfl) (rpZ_0 (crT_RP (tt := tt) fun _ _ => rfl).lbl)
theorem rp_gL {tt : Nat → Bool} {r : Nat → Int32} (h : ∀ c, c < 48 → r c = crT tt c) {k : Nat} (hk : rpF r k = 0) {c : Nat} (hc : c < 48) : rpP r k c = if tt c then nI (gL tt c) else -1 := by
  have hr := (crT_RP h).pass k
  cases ht : tt c with
  | false => exact (hr c hc).2 ht
  | true =>
    have e := lab_uniq hr.GG (rpF_fix (crT_RP h) hk) (gL_GG tt) (gL_GC tt) hc ht
    show rpP r k c = nI (gL tt c)
    rw [((hr c hc).1 ht).1, e]

