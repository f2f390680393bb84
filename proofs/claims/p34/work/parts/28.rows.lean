def sumN (f : Nat → Nat) : Nat → Nat
  | 0 => 0
  | k + 1 => sumN f k + f k
theorem sumN_le {f g : Nat → Nat} : ∀ {k : Nat}, (∀ j, j < k → f j ≤ g j) → sumN f k ≤ sumN g k
  | 0, _ => Nat.le_refl _
  | k + 1, h => Nat.add_le_add (sumN_le fun j hj => h j (by omega)) (h k (by omega))
theorem sumN_lt {f g : Nat → Nat} : ∀ {k : Nat} {i : Nat}, i < k → (∀ j, j < k → f j ≤ g j) → f i < g i → sumN f k < sumN g k
  | 0, _, h, _, _ => absurd h (Nat.not_lt_zero _)
  | k + 1, i, hi, h, hlt => by
    show sumN f k + f k < sumN g k + g k
    by_cases hk : i = k
    · subst hk
      have := sumN_le (f := f) (g := g) (k := i) fun j hj => h j (by omega)
      omega
    · have := sumN_lt (f := f) (g := g) (k := k) (i := i) (by omega) (fun j hj => h j (by omega)) hlt
      have := h k (by omega)
      omega
theorem sumN_ge {f : Nat → Nat} : ∀ {k i : Nat}, i < k → f i ≤ sumN f k
  | 0, _, h => absurd h (Nat.not_lt_zero _)
  | k + 1, i, h => by
    show f i ≤ sumN f k + f k
    by_cases e : i = k
    · rw [e]; omega
    · have := sumN_ge (f := f) (k := k) (i := i) (by omega)
      omega
/-! labels: least cells of the regions -/
def adj (c d : Nat) : Prop := c < 48 ∧ d < 48 ∧ ((d = c + 1 ∧ c % 6 < 5) ∨ d = c + 6 ∨ (c = d + 1 ∧ d % 6 < 5) ∨ c = d + 6)
theorem adj.symm {c d : Nat} (h : adj c d) : adj d c := ⟨h.2.1, h.1, by rcases h.2.2 with h | h | h | h <;> simp [h]⟩
def rch (tt : Nat → Bool) : Nat → Nat → Nat → Prop
  | 0, c, d => c = d
  | k + 1, c, d => ∃ e, rch tt k c e ∧ adj e d ∧ tt e = true ∧ tt d = true
def con (tt : Nat → Bool) (c d : Nat) : Prop := ∃ k, rch tt k c d
theorem con_refl {tt : Nat → Bool} {c : Nat} : con tt c c := ⟨0, rfl⟩
theorem con_step {tt : Nat → Bool} {c e d : Nat} (h : con tt c e) (ha : adj e d) (he : tt e = true) (hd : tt d = true) : con tt c d := by
  obtain ⟨k, hk⟩ := h
  exact ⟨k + 1, e, hk, ha, he, hd⟩
/-- what labels by their region's cells are: of the region, not above the cell -/
def GG (tt : Nat → Bool) (g : Nat → Nat) : Prop := ∀ c, c < 48 → tt c = true → g c < 48 ∧ con tt (g c) c ∧ g c ≤ c
def GC (tt : Nat → Bool) (g : Nat → Nat) : Prop := ∀ c d, adj c d → tt c = true → tt d = true → g c = g d
theorem rch_ends {tt : Nat → Bool} {c : Nat} : ∀ {k d : Nat}, rch tt k c d → c < 48 → tt c = true → d < 48 ∧ tt d = true
  | 0, d, h, hc, ht => by
    have h' : c = d := h
    rw [← h']; exact ⟨hc, ht⟩
  | k + 1, d, h, _, _ => by
    obtain ⟨e, -, ha, -, hd⟩ := h
    exact ⟨ha.2.1, hd⟩
theorem rch_start {tt : Nat → Bool} {c : Nat} : ∀ {k d : Nat}, rch tt k c d → d < 48 → tt d = true → c < 48 ∧ tt c = true
  | 0, d, h, hd, ht => by
    have h' : c = d := h
    rw [h']; exact ⟨hd, ht⟩
  | k + 1, d, h, _, _ => by
    obtain ⟨e, hk, ha, he, -⟩ := h
    exact rch_start hk ha.1 he
theorem GC_con {tt : Nat → Bool} {g : Nat → Nat} (h : GC tt g) {c : Nat} : ∀ {k d : Nat}, rch tt k c d → g c = g d
  | 0, d, hk => by
    have h' : c = d := hk
    rw [h']
  | k + 1, d, hk => by
    obtain ⟨e, hk, ha, he, hd⟩ := hk
    exact (GC_con h hk).trans (h e d ha he hd)
/-- labels that are alike along a region are the only ones -/
theorem lab_uniq {tt : Nat → Bool} {f g : Nat → Nat} (hf : GG tt f) (hf2 : GC tt f) (hg : GG tt g) (hg2 : GC tt g) {c : Nat} (hc : c < 48) (ht : tt c = true) : f c = g c := by
  have key : ∀ {f g : Nat → Nat}, GG tt f → GC tt f → GG tt g → f c ≤ g c := by
    intro f g hf hf2 hg
    obtain ⟨h1, ⟨k, hk⟩, h3⟩ := hg c hc ht
    obtain ⟨h4, h5⟩ := rch_start hk hc ht
    have := (hf (g c) h4 h5).2.2
    rw [GC_con hf2 hk] at this
    exact this
  exact Nat.le_antisymm (key hf hf2 hg) (key hg hg2 hf)
theorem lab_low {tt : Nat → Bool} {f g : Nat → Nat} (hg : GG tt g) (hg2 : GC tt g) {c : Nat} (hf : f c < 48 ∧ con tt (f c) c ∧ f c ≤ c) (hc : c < 48) (ht : tt c = true) : g c ≤ f c := by
  obtain ⟨h1, ⟨k, hk⟩, h3⟩ := hf
  obtain ⟨h4, h5⟩ := rch_start hk hc ht
  have := (hg (f c) h4 h5).2.2
  rw [GC_con hg2 hk] at this
  exact this
def lbN (r : Nat → Int32) (c : Nat) : Nat := (r c).toNatClampNeg
/-- the label of a touched cell: its region's least cell -/
noncomputable def gL (tt : Nat → Bool) (c : Nat) : Nat := by
  classical
  exact ((List.range 48).find? (fun f => decide (con tt f c))).getD c
theorem gL_spec {tt : Nat → Bool} {c : Nat} (hc : c < 48) (_ht : tt c = true) : gL tt c < 48 ∧ con tt (gL tt c) c ∧ ∀ f, f < 48 → con tt f c → gL tt c ≤ f := by
  classical
  have e : gL tt c = ((List.range 48).find? (fun f => decide (con tt f c))).getD c := by
    unfold gL
    congr
  cases hf : (List.range 48).find? (fun f => decide (con tt f c)) with
  | none =>
    have := List.find?_eq_none.mp hf c (List.mem_range.mpr hc)
    exact absurd (decide_eq_true con_refl) this
  | some f =>
    have h1 := List.find?_some hf
    have h2 := List.mem_range.mp (List.mem_of_find?_eq_some hf)
    rw [e, hf]
    refine ⟨h2, of_decide_eq_true h1, fun g hg hcg => ?_⟩
    obtain ⟨-, as, bs, hab, hno⟩ := List.find?_eq_some_iff_append.mp hf
    refine Nat.le_of_not_lt fun hlt => ?_
    have hl : as.length = f := by
      have h3 : (List.range 48)[as.length]? = some f := by rw [hab, List.getElem?_append_right (Nat.le_refl _), Nat.sub_self]; rfl
      have h4 := List.getElem?_range (n := 48) (i := as.length) (by
        have := congrArg List.length hab
        simp at this
        omega)
      rw [h4] at h3
      exact Option.some.inj h3
    have hm : g ∈ as := by
      have h3 : (List.range 48)[g]? = some g := List.getElem?_range hg
      rw [hab] at h3
      have hlt' : g < f := hlt
      rw [List.getElem?_append_left (by omega)] at h3
      exact List.mem_of_getElem? h3
    have := hno g hm
    rw [decide_eq_true hcg] at this
    exact absurd this (by decide)
theorem gL_GG (tt : Nat → Bool) : GG tt (gL tt) := fun c hc ht => ⟨(gL_spec hc ht).1, (gL_spec hc ht).2.1, (gL_spec hc ht).2.2 c hc con_refl⟩
theorem gL_GC (tt : Nat → Bool) : GC tt (gL tt) := by
  have key : ∀ c d, adj c d → tt c = true → tt d = true → gL tt c ≤ gL tt d := fun c d ha hc hd => (gL_spec ha.1 hc).2.2 _ (gL_spec ha.2.1 hd).1 (con_step (gL_spec ha.2.1 hd).2.1 ha.symm hd hc)
  exact fun c d ha hc hd => Nat.le_antisymm (key c d ha hc hd) (key d c ha.symm hd hc)
theorem nI_nm1 {f : Nat} (h : f < 2 ^ 31) : ¬ nI f = -1 := fun e => nI_pos h (by rw [e]; decide)
/-! the class's labels -/
def ciT (tt : Nat → Bool) (c : Nat) : Int32 := if tt c then nI c else 48
def PP (tt : Nat → Bool) (r : Nat → Int32) : Prop := ∀ c, c < 48 → (tt c = true → r c = nI (lbN r c) ∧ lbN r c < 48 ∧ con tt (lbN r c) c ∧ lbN r c ≤ c) ∧ (tt c = false → r c = 48)
theorem PP.tt {tt : Nat → Bool} {r : Nat → Int32} (h : PP tt r) {c : Nat} (hc : c < 48) (hn : ¬ r c = 48) : tt c = true := by
  cases ht : tt c with
  | true => rfl
  | false => exact absurd ((h c hc).2 ht) hn
theorem PP.ne {tt : Nat → Bool} {r : Nat → Int32} (h : PP tt r) {c : Nat} (hc : c < 48) (ht : tt c = true) : ¬ r c = 48 := by
  obtain ⟨a1, a2, -, -⟩ := (h c hc).1 ht
  rw [a1]
  intro e
  have := (nI_eq (b := 48) (by omega) (by decide)).mp e
  omega
theorem PP.GG {tt : Nat → Bool} {r : Nat → Int32} (h : PP tt r) : GG tt (lbN r) := fun c hc ht => ((h c hc).1 ht).2
theorem effR_iff {r : Nat → Int32} {c d : Nat} : effR r c d = true ↔ ¬ r c = r d ∧ ¬ r c = 48 ∧ ¬ r d = 48 := by
  unfold effR
  simp [and_assoc]
/-- joining two neighbors -/
theorem PP.jn {tt : Nat → Bool} {r : Nat → Int32} (h : PP tt r) {c d : Nat} (ha : adj c d) : PP tt (jnR r c d) ∧ (∀ x, x < 48 → tt x = true → lbN (jnR r c d) x ≤ lbN r x) ∧ (tt c = true → tt d = true → lbN (jnR r c d) c = lbN (jnR r c d) d) := by
  cases he : effR r c d with
  | false =>
    have e1 : jnR r c d = r := by unfold jnR; rw [he]; rfl
    rw [e1]
    refine ⟨h, fun x _ _ => Nat.le_refl _, fun hc hd => ?_⟩
    by_cases e : r c = r d
    · unfold lbN; rw [e]
    · have h3 := effR_iff.mpr ⟨e, h.ne ha.1 hc, h.ne ha.2.1 hd⟩
      rw [he] at h3
      cases h3
  | true =>
    obtain ⟨n1, n2, n3⟩ := effR_iff.mp he
    have tc := h.tt ha.1 n2
    have td := h.tt ha.2.1 n3
    obtain ⟨a1, a2, a3, a4⟩ := (h c ha.1).1 tc
    obtain ⟨b1, b2, b3, b4⟩ := (h d ha.2.1).1 td
    obtain ⟨m, hm, hm48, hmc, hmd, hl1, hl2⟩ : ∃ m, (if r c < r d then r c else r d) = nI m ∧ m < 48 ∧ con tt m c ∧ con tt m d ∧ m ≤ lbN r c ∧ m ≤ lbN r d := by
      by_cases hlt : lbN r c < lbN r d
      · have h1 : r c < r d := by rw [a1, b1]; exact nI_lt hlt (by omega)
        rw [if_pos h1]
        exact ⟨_, a1, a2, a3, con_step a3 ha tc td, Nat.le_refl _, Nat.le_of_lt hlt⟩
      · have h1 : ¬ r c < r d := by rw [a1, b1]; exact nI_nlt (Nat.le_of_not_lt hlt) (by omega)
        rw [if_neg h1]
        exact ⟨_, b1, b2, con_step b3 ha.symm td tc, b3, Nat.le_of_not_lt hlt, Nat.le_refl _⟩
    have e1 : jnR r c d = upd (upd r c (nI m)) d (nI m) := by
      unfold jnR
      rw [he, hm]; rfl
    have hx : ∀ x, (x = c ∨ x = d) → jnR r c d x = nI m ∧ lbN (jnR r c d) x = m := by
      intro x hx
      have e2 : jnR r c d x = nI m := by
        rw [e1]
        show (if x = d then nI m else if x = c then nI m else r x) = nI m
        rcases hx with hx | hx
        · by_cases hxd : x = d
          · rw [if_pos hxd]
          · rw [if_neg hxd, if_pos hx]
        · rw [if_pos hx]
      refine ⟨e2, ?_⟩
      unfold lbN
      rw [e2, nI_clamp (by omega)]
    have hy : ∀ x, ¬ (x = c ∨ x = d) → jnR r c d x = r x ∧ lbN (jnR r c d) x = lbN r x := by
      intro x hx
      have e2 : jnR r c d x = r x := by
        rw [e1]
        show (if x = d then nI m else if x = c then nI m else r x) = r x
        rw [if_neg (fun e => hx (Or.inr e)), if_neg (fun e => hx (Or.inl e))]
      refine ⟨e2, ?_⟩
      unfold lbN
      rw [e2]
    refine ⟨fun x hx48 => ?_, fun x hx48 htx => ?_, fun _ _ => ?_⟩
    · by_cases hxx : x = c ∨ x = d
      · rw [(hx x hxx).1, (hx x hxx).2]
        refine ⟨fun _ => ⟨rfl, hm48, ?_, ?_⟩, fun hf => ?_⟩
        · rcases hxx with e | e
          · rw [e]; exact hmc
          · rw [e]; exact hmd
        · rcases hxx with e | e
          · rw [e]; omega
          · rw [e]; omega
        · rcases hxx with e | e
          · rw [e, tc] at hf; cases hf
          · rw [e, td] at hf; cases hf
      · rw [(hy x hxx).1, (hy x hxx).2]
        exact h x hx48
    · by_cases hxx : x = c ∨ x = d
      · rw [(hx x hxx).2]
        rcases hxx with e | e
        · rw [e]; exact hl1
        · rw [e]; exact hl2
      · rw [(hy x hxx).2]
        exact Nat.le_refl _
    · rw [(hx c (Or.inl rfl)).2, (hx d (Or.inr rfl)).2]
/-- a cell whose label is the last one -/
def FF (tt : Nat → Bool) (r : Nat → Int32) (x : Nat) : Prop := lbN r x = gL tt x
theorem FF.keep {tt : Nat → Bool} {r r2 : Nat → Int32} (h2 : PP tt r2) {x : Nat} (hx : x < 48) (ht : tt x = true) (hle : lbN r2 x ≤ lbN r x) (h : FF tt r x) : FF tt r2 x := by
  have := lab_low (gL_GG tt) (gL_GC tt) (h2.GG x hx ht) hx ht
  unfold FF at h ⊢
  omega
/-- what a part of a pass does -/
def UP (tt : Nat → Bool) (r r2 : Nat → Int32) : Prop := PP tt r2 ∧ ∀ x, x < 48 → tt x = true → lbN r2 x ≤ lbN r x
theorem UP.trans {tt : Nat → Bool} {r r2 r3 : Nat → Int32} (h : UP tt r r2) (h2 : UP tt r2 r3) : UP tt r r3 := ⟨h2.1, fun x hx ht => Nat.le_trans (h2.2 x hx ht) (h.2 x hx ht)⟩
def ED (tt : Nat → Bool) (r r2 : Nat → Int32) (c d : Nat) : Prop := tt c = true → tt d = true → (FF tt r c ∨ FF tt r d) → FF tt r2 c ∧ FF tt r2 d
theorem jn_UP {tt : Nat → Bool} {r : Nat → Int32} (h : PP tt r) {c d : Nat} (ha : adj c d) : UP tt r (jnR r c d) ∧ ED tt r (jnR r c d) c d := by
  obtain ⟨h1, h2, h3⟩ := h.jn ha
  refine ⟨⟨h1, h2⟩, fun tc td hf => ?_⟩
  have e := h3 tc td
  have eg := gL_GC tt c d ha tc td
  rcases hf with hf | hf
  · have f1 := hf.keep h1 ha.1 tc (h2 c ha.1 tc)
    exact ⟨f1, by unfold FF at f1 ⊢; omega⟩
  · have f1 := hf.keep h1 ha.2.1 td (h2 d ha.2.1 td)
    exact ⟨by unfold FF at f1 ⊢; omega, f1⟩
theorem ED.keep {tt : Nat → Bool} {r r2 r3 : Nat → Int32} {c d : Nat} (ha : adj c d) (h : ED tt r r2 c d) (hU : UP tt r2 r3) : ED tt r r3 c d := fun tc td hf => by
  obtain ⟨h1, h2⟩ := h tc td hf
  exact ⟨h1.keep hU.1 ha.1 tc (hU.2 c ha.1 tc), h2.keep hU.1 ha.2.1 td (hU.2 d ha.2.1 td)⟩
theorem ED.later {tt : Nat → Bool} {r r1 r2 : Nat → Int32} {c d : Nat} (ha : adj c d) (hU : UP tt r r1) (h : ED tt r1 r2 c d) : ED tt r r2 c d := fun tc td hf =>
  h tc td (hf.imp (fun f => f.keep hU.1 ha.1 tc (hU.2 c ha.1 tc)) (fun f => f.keep hU.1 ha.2.1 td (hU.2 d ha.2.1 td)))
theorem UP.refl {tt : Nat → Bool} {r : Nat → Int32} (h : PP tt r) : UP tt r r := ⟨h, fun _ _ _ => Nat.le_refl _⟩
theorem adj_r {c : Nat} (hc : c < 48) (h : c % 6 < 5) : adj c (c + 1) := ⟨hc, by omega, Or.inl ⟨rfl, h⟩⟩
theorem adj_d {c : Nat} (h : c < 42) : adj c (c + 6) := ⟨by omega, by omega, Or.inr (Or.inl rfl)⟩
theorem jStep1_ok {tt : Nat → Bool} {q : (Nat → Int32) × Int32} (h : PP tt q.1) {c : Nat} (hc : c < 48) : UP tt q.1 (jStep1 q c).1 ∧ (c % 6 < 5 → ED tt q.1 (jStep1 q c).1 c (c + 1)) := by
  by_cases h5 : c % 6 < 5
  · have e : (jStep1 q c).1 = jnR q.1 c (c + 1) := by unfold jStep1; rw [if_pos h5]
    rw [e]
    exact ⟨(jn_UP h (adj_r hc h5)).1, fun _ => (jn_UP h (adj_r hc h5)).2⟩
  · have e : (jStep1 q c).1 = q.1 := by unfold jStep1; rw [if_neg h5]
    rw [e]
    exact ⟨UP.refl h, fun hh => absurd hh h5⟩
theorem jStep2_ok {tt : Nat → Bool} {q : (Nat → Int32) × Int32} (h : PP tt q.1) {c : Nat} : UP tt q.1 (jStep2 q c).1 ∧ (c < 42 → ED tt q.1 (jStep2 q c).1 c (c + 6)) := by
  by_cases h5 : c < 42
  · have e : (jStep2 q c).1 = jnR q.1 c (c + 6) := by unfold jStep2; rw [if_pos h5]
    rw [e]
    exact ⟨(jn_UP h (adj_d h5)).1, fun _ => (jn_UP h (adj_d h5)).2⟩
  · have e : (jStep2 q c).1 = q.1 := by unfold jStep2; rw [if_neg h5]
    rw [e]
    exact ⟨UP.refl h, fun hh => absurd hh h5⟩
theorem jUpto_ok {tt : Nat → Bool} {r : Nat → Int32} (h : PP tt r) : ∀ {i : Nat}, i ≤ 48 → UP tt r (jUpto r i).1 ∧ ∀ c, c < i → (c % 6 < 5 → ED tt r (jUpto r i).1 c (c + 1)) ∧ (c < 42 → ED tt r (jUpto r i).1 c (c + 6))
  | 0, _ => ⟨UP.refl h, fun c hc => absurd hc (Nat.not_lt_zero c)⟩
  | i + 1, hi => by
    obtain ⟨h1, h2⟩ := jUpto_ok h (i := i) (by omega)
    have e : (jUpto r (i + 1)) = jStep2 (jStep1 (jUpto r i) i) i := rfl
    rw [e]
    obtain ⟨h3, h4⟩ := jStep1_ok h1.1 (c := i) (by omega)
    obtain ⟨h5, h6⟩ := jStep2_ok h3.1 (c := i)
    refine ⟨(h1.trans h3).trans h5, fun c hc => ?_⟩
    by_cases ec : c = i
    · rw [ec]
      refine ⟨fun hm => ?_, fun hm => ?_⟩
      · exact ((h4 hm).later (adj_r (by omega) hm) h1).keep (adj_r (by omega) hm) h5
      · exact (h6 hm).later (adj_d hm) (h1.trans h3)
    · obtain ⟨h7, h8⟩ := h2 c (by omega)
      exact ⟨fun hm => (h7 hm).keep (adj_r (by omega) hm) (h3.trans h5), fun hm => (h8 hm).keep (adj_d hm) (h3.trans h5)⟩
theorem pass_ED {tt : Nat → Bool} {r : Nat → Int32} (h : PP tt r) {c d : Nat} (ha : adj c d) : ED tt r (jUpto r 48).1 c d := by
  obtain ⟨-, h2⟩ := jUpto_ok h (Nat.le_refl 48)
  rcases ha.2.2 with ⟨e, hm⟩ | e | ⟨e, hm⟩ | e
  · rw [e]; exact (h2 c ha.1).1 hm
  · rw [e]; exact (h2 c ha.1).2 (by have := ha.2.1; omega)
  · intro tc td hf
    rw [e] at tc hf ⊢
    exact ((h2 d ha.2.1).1 hm td tc hf.symm).symm
  · intro tc td hf
    rw [e] at tc hf ⊢
    exact ((h2 d ha.2.1).2 (by have := ha.1; omega) td tc hf.symm).symm
/-- where a label isn't the last one, a pass makes one more so -/
theorem pass_more {tt : Nat → Bool} {r : Nat → Int32} (h : PP tt r) {c : Nat} (hc : c < 48) (ht : tt c = true) (hn : ¬ FF tt r c) : ∃ d, d < 48 ∧ tt d = true ∧ ¬ FF tt r d ∧ FF tt (jUpto r 48).1 d := by
  obtain ⟨g1, ⟨k, hk⟩, g3⟩ := gL_GG tt c hc ht
  obtain ⟨s1, s2⟩ := rch_start hk hc ht
  have hroot : FF tt r (gL tt c) := by
    have e1 := GC_con (gL_GC tt) hk
    have h1 := (h.GG (gL tt c) s1 s2).2.2
    have h2 := lab_low (gL_GG tt) (gL_GC tt) (h.GG (gL tt c) s1 s2) s1 s2
    unfold FF
    omega
  have key : ∀ k d, rch tt k (gL tt c) d → ¬ FF tt r d → ∃ d, d < 48 ∧ tt d = true ∧ ¬ FF tt r d ∧ FF tt (jUpto r 48).1 d := by
    intro k
    induction k with
    | zero =>
      intro d hk hnd
      have h' : gL tt c = d := hk
      rw [← h'] at hnd
      exact absurd hroot hnd
    | succ k ih =>
      intro d hk hnd
      obtain ⟨e, hk, ha, he, hd⟩ := hk
      by_cases hfe : FF tt r e
      · exact ⟨d, ha.2.1, hd, hnd, (pass_ED h ha he hd (Or.inl hfe)).2⟩
      · exact ih e hk hfe
  exact key k c hk hn
theorem PP.pass {tt : Nat → Bool} {r : Nat → Int32} (h : PP tt r) : ∀ k, PP tt (jPass r k)
  | 0 => h
  | k + 1 => (jUpto_ok (PP.pass h k) (Nat.le_refl 48)).1.1
noncomputable def ffN (tt : Nat → Bool) (r : Nat → Int32) (x : Nat) : Nat := by
  classical
  exact if tt x = true ∧ FF tt r x then 1 else 0
theorem ffN_1 {tt : Nat → Bool} {r : Nat → Int32} {x : Nat} (h : tt x = true ∧ FF tt r x) : ffN tt r x = 1 := if_pos h
theorem ffN_0 {tt : Nat → Bool} {r : Nat → Int32} {x : Nat} (h : ¬ (tt x = true ∧ FF tt r x)) : ffN tt r x = 0 := if_neg h
theorem ffN_le {tt : Nat → Bool} {r : Nat → Int32} {x : Nat} : ffN tt r x ≤ 1 := by
  by_cases h : tt x = true ∧ FF tt r x
  · rw [ffN_1 h]; exact Nat.le_refl _
  · rw [ffN_0 h]; exact Nat.zero_le _
theorem sumN_k {f : Nat → Nat} : ∀ {k : Nat}, (∀ j, j < k → f j ≤ 1) → sumN f k ≤ k
  | 0, _ => Nat.le_refl _
  | k + 1, h => by
    have h1 := sumN_k (f := f) (k := k) fun j hj => h j (by omega)
    have h2 := h k (Nat.lt_succ_self k)
    show sumN f k + f k ≤ k + 1
    omega
theorem sumN_full {f : Nat → Nat} : ∀ {k : Nat}, (∀ j, j < k → f j ≤ 1) → k ≤ sumN f k → ∀ j, j < k → f j = 1
  | 0, _, _, j, hj => absurd hj (Nat.not_lt_zero j)
  | k + 1, h, hs, j, hj => by
    have h1 := sumN_k (f := f) (k := k) fun j hj => h j (by omega)
    have h2 := h k (Nat.lt_succ_self k)
    have hs' : k + 1 ≤ sumN f k + f k := hs
    by_cases e : j = k
    · rw [e]; omega
    · exact sumN_full (f := f) (k := k) (fun j hj => h j (by omega)) (by omega) j (by omega)
theorem pass_all {tt : Nat → Bool} {r : Nat → Int32} (h : PP tt r) : ∀ k, (∀ c, c < 48 → tt c = true → FF tt (jPass r k) c) ∨ k ≤ sumN (ffN tt (jPass r k)) 48
  | 0 => Or.inr (Nat.zero_le _)
  | k + 1 => by
    have hp := h.pass k
    have hU := (jUpto_ok hp (Nat.le_refl 48)).1
    have e : jPass r (k + 1) = (jUpto (jPass r k) 48).1 := rfl
    rw [e]
    have hkeep : ∀ c, c < 48 → tt c = true → FF tt (jPass r k) c → FF tt (jUpto (jPass r k) 48).1 c := fun c hc ht hf => hf.keep hU.1 hc ht (hU.2 c hc ht)
    rcases pass_all h k with hall | hcnt
    · exact Or.inl fun c hc ht => hkeep c hc ht (hall c hc ht)
    · by_cases hall : ∀ c, c < 48 → tt c = true → FF tt (jPass r k) c
      · exact Or.inl fun c hc ht => hkeep c hc ht (hall c hc ht)
      · obtain ⟨c, hc⟩ := Classical.not_forall.mp hall
        obtain ⟨hc48, hc⟩ := Classical.not_imp.mp hc
        obtain ⟨ht, hn⟩ := Classical.not_imp.mp hc
        obtain ⟨d, hd, htd, hnd, hfd⟩ := pass_more hp hc48 ht hn
        refine Or.inr ?_
        have hlt : sumN (ffN tt (jPass r k)) 48 < sumN (ffN tt (jUpto (jPass r k) 48).1) 48 := by
          refine sumN_lt hd (fun j hj => ?_) ?_
          · by_cases hj2 : tt j = true ∧ FF tt (jPass r k) j
            · rw [ffN_1 hj2, ffN_1 ⟨hj2.1, hkeep j hj hj2.1 hj2.2⟩]
              exact Nat.le_refl _
            · rw [ffN_0 hj2]; exact Nat.zero_le _
          · rw [ffN_0 (fun q => hnd q.2), ffN_1 ⟨htd, hfd⟩]
            exact Nat.one_pos
        omega
theorem pass_48 {tt : Nat → Bool} {r : Nat → Int32} (h : PP tt r) {c : Nat} (hc : c < 48) (ht : tt c = true) : FF tt (jPass r 48) c := by
  rcases pass_all h 48 with hall | hcnt
  · exact hall c hc ht
  · have h1 := sumN_full (f := ffN tt (jPass r 48)) (fun j _ => ffN_le) hcnt c hc
    by_cases h2 : tt c = true ∧ FF tt (jPass r 48) c
    · exact h2.2
    · rw [ffN_0 h2] at h1
      exact absurd h1 (by decide)
/-- flag 0: nothing was joined -/
theorem jUpto_0 {r : Nat → Int32} : ∀ {i : Nat}, (jUpto r i).2 = 0 → (jUpto r i).1 = r ∧ ∀ c, c < i → (c % 6 < 5 → effR r c (c + 1) = false) ∧ (c < 42 → effR r c (c + 6) = false)
  | 0, _ => ⟨rfl, fun c hc => absurd hc (Nat.not_lt_zero c)⟩
  | i + 1, h => by
    have e : (jUpto r (i + 1)) = jStep2 (jStep1 (jUpto r i) i) i := rfl
    rw [e] at h
    have hj : ∀ {q : Nat → Int32} {c d : Nat}, effR q c d = false → jnR q c d = q := fun hq => by unfold jnR; rw [hq]; rfl
    have h2 : (jStep1 (jUpto r i) i).2 = 0 ∧ (i < 42 → effR (jStep1 (jUpto r i) i).1 i (i + 6) = false) ∧ (jStep2 (jStep1 (jUpto r i) i) i).1 = (jStep1 (jUpto r i) i).1 := by
      generalize jStep1 (jUpto r i) i = q at h ⊢
      by_cases h42 : i < 42
      · have e2 : jStep2 q i = (jnR q.1 i (i + 6), if effR q.1 i (i + 6) then 1 else q.2) := if_pos h42
        rw [e2] at h ⊢
        cases he : effR q.1 i (i + 6) with
        | true => rw [he] at h; exact absurd h (by show ¬ (1 : Int32) = 0; decide)
        | false => rw [he] at h; exact ⟨h, fun _ => rfl, hj he⟩
      · have e2 : jStep2 q i = q := if_neg h42
        rw [e2] at h ⊢
        exact ⟨h, fun hh => absurd hh h42, rfl⟩
    have h1 : (jUpto r i).2 = 0 ∧ (i % 6 < 5 → effR (jUpto r i).1 i (i + 1) = false) ∧ (jStep1 (jUpto r i) i).1 = (jUpto r i).1 := by
      have h := h2.1
      clear h2
      generalize jUpto r i = q at h ⊢
      by_cases h5 : i % 6 < 5
      · have e2 : jStep1 q i = (jnR q.1 i (i + 1), if effR q.1 i (i + 1) then 1 else q.2) := if_pos h5
        rw [e2] at h ⊢
        cases he : effR q.1 i (i + 1) with
        | true => rw [he] at h; exact absurd h (by show ¬ (1 : Int32) = 0; decide)
        | false => rw [he] at h; exact ⟨h, fun _ => rfl, hj he⟩
      · have e2 : jStep1 q i = q := if_neg h5
        rw [e2] at h ⊢
        exact ⟨h, fun hh => absurd hh h5, rfl⟩
    obtain ⟨h3, h4⟩ := jUpto_0 h1.1
    rw [e]
    have e5 : (jStep1 (jUpto r i) i).1 = r := h1.2.2.trans h3
    refine ⟨h2.2.2.trans e5, fun c hc => ?_⟩
    by_cases ec : c = i
    · rw [ec]
      have h6 := h1.2.1
      rw [h3] at h6
      have h7 := h2.2.1
      rw [e5] at h7
      exact ⟨h6, h7⟩
    · exact h4 c (by omega)
theorem jn_fix {tt : Nat → Bool} {r : Nat → Int32} (h : PP tt r) (hE : ∀ c, c < 48 → (c % 6 < 5 → effR r c (c + 1) = false) ∧ (c < 42 → effR r c (c + 6) = false)) : GC tt (lbN r) := by
  have key : ∀ c d, adj c d → tt c = true → tt d = true → effR r c d = false → lbN r c = lbN r d := by
    intro c d ha tc td he
    by_cases e : r c = r d
    · unfold lbN; rw [e]
    · have h3 := effR_iff.mpr ⟨e, h.ne ha.1 tc, h.ne ha.2.1 td⟩
      rw [he] at h3
      cases h3
  intro c d ha tc td
  rcases ha.2.2 with ⟨e, hm⟩ | e | ⟨e, hm⟩ | e
  · exact key c d ha tc td (by rw [e]; exact (hE c ha.1).1 hm)
  · exact key c d ha tc td (by rw [e]; exact (hE c ha.1).2 (by have := ha.2.1; omega))
  · exact (key d c ha.symm td tc (by rw [e]; exact (hE d ha.2.1).1 hm)).symm
  · exact (key d c ha.symm td tc (by rw [e]; exact (hE d ha.2.1).2 (by have := ha.1; omega))).symm
theorem ciT_PP {tt : Nat → Bool} {r : Nat → Int32} (h : ∀ c, c < 48 → r c = ciT tt c) : PP tt r := fun c hc => by
  refine ⟨fun ht => ?_, fun ht => ?_⟩
  · have e : r c = nI c := by rw [h c hc]; unfold ciT; rw [ht]; rfl
    have e2 : lbN r c = c := by unfold lbN; rw [e, nI_clamp (by omega)]
    rw [e2]
    exact ⟨e, hc, con_refl, Nat.le_refl _⟩
  · rw [h c hc]; unfold ciT; rw [ht]; rfl
/-- the class's labels, settled or behind 48 passes -/
theorem jp_gL {tt : Nat → Bool} {r : Nat → Int32} (h : ∀ c, c < 48 → r c = ciT tt c) {k : Nat} (hk : jFlag r k = 0 ∨ k = 48) {c : Nat} (hc : c < 48) : jPass r k c = if tt c then nI (gL tt c) else 48 := by
  have hP := ciT_PP h
  have hr := hP.pass k
  cases ht : tt c with
  | false => exact (hr c hc).2 ht
  | true =>
    show jPass r k c = nI (gL tt c)
    rw [((hr c hc).1 ht).1]
    refine congrArg nI ?_
    rcases hk with hk | hk
    · have h0 : k ≠ 0 := fun e => by
        rw [e] at hk
        exact absurd hk (by show ¬ (1 : Int32) = 0; decide)
      obtain ⟨j, rfl⟩ : ∃ j, k = j + 1 := ⟨k - 1, by omega⟩
      have hk' : (jUpto (jPass r j) 48).2 = 0 := hk
      obtain ⟨h1, h2⟩ := jUpto_0 hk'
      have e : jPass r (j + 1) = jPass r j := h1
      rw [e] at hr ⊢
      exact lab_uniq hr.GG (jn_fix hr h2) (gL_GG tt) (gL_GC tt) hc ht
    · rw [hk]
      exact pass_48 hP hc ht

