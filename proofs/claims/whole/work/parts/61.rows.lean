/-! the six heaviest: by rank, and by dropping the least -/
def bt (m : Nat → Int32) (c o : Nat) : Bool := decide (m c < m o ∨ (m o = m c ∧ o < c))
def rkL (m : Nat → Int32) (L : List Nat) (c : Nat) : Nat := L.countP (bt m c)
theorem bt_self {m : Nat → Int32} {c : Nat} : bt m c c = false := decide_eq_false fun h => by
  rcases h with h | h
  · exact Int32.lt_irrefl h
  · exact Nat.lt_irrefl c h.2
theorem bt_or {m : Nat → Int32} {c o : Nat} (hne : c ≠ o) : bt m c o = true ∨ bt m o c = true := by
  unfold bt
  rw [decide_eq_true_eq, decide_eq_true_eq]
  by_cases h1 : m c < m o
  · exact Or.inl (Or.inl h1)
  · by_cases h2 : m o < m c
    · exact Or.inr (Or.inl h2)
    · have e : m c = m o := Int32.le_antisymm (Int32.not_lt.mp h2) (Int32.not_lt.mp h1)
      rcases Nat.lt_or_gt_of_ne hne with h | h
      · exact Or.inr (Or.inr ⟨e, h⟩)
      · exact Or.inl (Or.inr ⟨e.symm, h⟩)
theorem bt_as {m : Nat → Int32} {c o : Nat} (h : bt m c o = true) : bt m o c = false := by
  unfold bt at h ⊢
  rw [decide_eq_true_eq] at h
  refine decide_eq_false fun h2 => ?_
  rcases h with h | ⟨h, h3⟩
  · rcases h2 with h2 | ⟨h2, -⟩
    · exact Int32.lt_irrefl (Int32.lt_trans h h2)
    · rw [h2] at h; exact Int32.lt_irrefl h
  · rcases h2 with h2 | ⟨h2, h4⟩
    · rw [h] at h2; exact Int32.lt_irrefl h2
    · omega
theorem goN_spec {f : Nat → Int32} : ∀ {n : Nat}, 0 < n → goN f n < n ∧ ∀ j, j < n → f (goN f n) ≤ f j ∧ (f j = f (goN f n) → j ≤ goN f n)
  | 0, h => absurd h (Nat.lt_irrefl 0)
  | n + 1, _ => by
    show (if f n ≤ f (goN f n) then n else goN f n) < n + 1 ∧ ∀ j, j < n + 1 → f (if f n ≤ f (goN f n) then n else goN f n) ≤ f j ∧ (f j = f (if f n ≤ f (goN f n) then n else goN f n) → j ≤ (if f n ≤ f (goN f n) then n else goN f n))
    rcases Nat.eq_zero_or_pos n with h0 | h0
    · subst h0
      have e : goN f 0 = 0 := rfl
      rw [e, if_pos (Int32.le_refl _)]
      refine ⟨by omega, fun j hj => ?_⟩
      have : j = 0 := by omega
      subst this
      exact ⟨Int32.le_refl _, fun _ => Nat.le_refl _⟩
    · obtain ⟨h1, h2⟩ := goN_spec (f := f) h0
      by_cases h : f n ≤ f (goN f n)
      · rw [if_pos h]
        refine ⟨by omega, fun j hj => ⟨?_, fun _ => by omega⟩⟩
        by_cases e : j = n
        · rw [e]; exact Int32.le_refl _
        · exact Int32.le_trans h (h2 j (by omega)).1
      · rw [if_neg h]
        refine ⟨by omega, fun j hj => ?_⟩
        by_cases e : j = n
        · rw [e]
          have hl := Int32.not_le.mp h
          exact ⟨Int32.le_of_lt hl, fun he => by rw [he] at hl; exact absurd hl Int32.lt_irrefl⟩
        · exact h2 j (by omega)
theorem cp_lt {p : Nat → Bool} : ∀ {L : List Nat} {c : Nat}, c ∈ L → p c = false → L.countP p < L.length
  | [], _, h, _ => by cases h
  | x :: L, c, h, hp => by
    rw [List.countP_cons, List.length_cons]
    rcases List.mem_cons.mp h with e | h
    · subst e
      rw [hp]
      have := List.countP_le_length (p := p) (l := L)
      simp
      omega
    · have := cp_lt h hp
      split <;> omega
theorem er_cp {p : Nat → Bool} : ∀ {L : List Nat} {g w : Nat}, L[g]? = some w → L.countP p = (L.eraseIdx g).countP p + if p w then 1 else 0
  | [], g, w, h => by cases h
  | x :: L, 0, w, h => by
    cases h
    rw [List.eraseIdx_cons_zero, List.countP_cons]
  | x :: L, g + 1, w, h => by
    have ih := er_cp (p := p) (L := L) (g := g) (w := w) h
    rw [List.eraseIdx_cons_succ, List.countP_cons, List.countP_cons, ih]
    omega
theorem er_fl {p : Nat → Bool} : ∀ {L : List Nat} {g w : Nat}, L[g]? = some w → p w = false → (L.eraseIdx g).filter p = L.filter p
  | [], g, w, h, _ => by cases h
  | x :: L, 0, w, h, hp => by
    cases h
    rw [List.eraseIdx_cons_zero, List.filter_cons_of_neg (by rw [hp]; decide)]
  | x :: L, g + 1, w, h, hp => by
    have ih := er_fl (p := p) (L := L) (g := g) (w := w) h hp
    rw [List.eraseIdx_cons_succ]
    cases hx : p x with
    | true => rw [List.filter_cons_of_pos hx, List.filter_cons_of_pos hx, ih]
    | false => rw [List.filter_cons_of_neg (by rw [hx]; decide), List.filter_cons_of_neg (by rw [hx]; decide), ih]
theorem er_mem : ∀ {L : List Nat} {g w c : Nat}, L[g]? = some w → c ∈ L → c ≠ w → c ∈ L.eraseIdx g
  | [], g, w, c, h, _, _ => by cases h
  | x :: L, 0, w, c, h, hc, hn => by
    cases h
    rw [List.eraseIdx_cons_zero]
    rcases List.mem_cons.mp hc with e | hc
    · exact absurd e hn
    · exact hc
  | x :: L, g + 1, w, c, h, hc, hn => by
    rw [List.eraseIdx_cons_succ]
    rcases List.mem_cons.mp hc with e | hc
    · rw [e]; exact List.mem_cons_self
    · exact List.mem_cons_of_mem _ (er_mem (L := L) (g := g) h hc hn)
/-- the list of contacts, the worst dropped till six are left; v: the masses by the place in the list -/
def drL (m : Nat → Int32) : Nat → List Nat → List Nat
  | 0, L => L
  | k + 1, L => if k + 1 ≤ 6 then L else drL m k (L.eraseIdx (goN (fun j => m (L.getD j 0)) (k + 1)))
theorem srt_er {L : List Nat} {g : Nat} (h : L.Pairwise (· < ·)) : (L.eraseIdx g).Pairwise (· < ·) := h.sublist (List.eraseIdx_sublist L g)
theorem getD_of {L : List Nat} {j c : Nat} (h : L[j]? = some c) : L.getD j 0 = c := by
  rw [List.getD_eq_getElem?_getD, h]; rfl
theorem srt_inj {L : List Nat} (h : L.Pairwise (· < ·)) {i j c d : Nat} (hi : L[i]? = some c) (hj : L[j]? = some d) : (i < j ↔ c < d) ∧ (i = j ↔ c = d) := by
  have key : ∀ i j c d : Nat, L[i]? = some c → L[j]? = some d → i < j → c < d := by
    intro i j c d hi hj hij
    obtain ⟨h1, e1⟩ := List.getElem?_eq_some_iff.mp hi
    obtain ⟨h2, e2⟩ := List.getElem?_eq_some_iff.mp hj
    have := List.pairwise_iff_getElem.mp h i j h1 h2 hij
    rw [e1, e2] at this
    exact this
  rcases Nat.lt_trichotomy i j with h1 | h1 | h1
  · have := key i j c d hi hj h1
    exact ⟨⟨fun _ => this, fun _ => h1⟩, ⟨fun e => by omega, fun e => by omega⟩⟩
  · subst h1
    rw [hi] at hj
    cases hj
    exact ⟨⟨fun e => absurd e (Nat.lt_irrefl _), fun e => absurd e (Nat.lt_irrefl _)⟩, ⟨fun _ => rfl, fun _ => rfl⟩⟩
  · have := key j i d c hj hi h1
    exact ⟨⟨fun e => by omega, fun e => by omega⟩, ⟨fun e => by omega, fun e => by omega⟩⟩
/-- the worst one: all others are better -/
theorem worst {m : Nat → Int32} {L : List Nat} {k : Nat} (hk : L.length = k + 1) (hs : L.Pairwise (· < ·)) : ∃ w, L[goN (fun j => m (L.getD j 0)) (k + 1)]? = some w ∧ ∀ o, o ∈ L → o ≠ w → bt m w o = true := by
  obtain ⟨h1, h2⟩ := goN_spec (f := fun j => m (L.getD j 0)) (n := k + 1) (by omega)
  generalize goN (fun j => m (L.getD j 0)) (k + 1) = g at h1 h2
  have hg : L[g]? = some (L.getD g 0) := by
    rw [List.getD_eq_getElem?_getD, List.getElem?_eq_getElem (by omega)]
    rfl
  refine ⟨_, hg, fun o ho hne => ?_⟩
  obtain ⟨j, hj, ej⟩ := List.getElem_of_mem ho
  have hj2 : L[j]? = some o := by rw [List.getElem?_eq_getElem hj, ej]
  have h3 := h2 j (by omega)
  rw [getD_of hj2] at h3
  unfold bt
  rw [decide_eq_true_eq]
  by_cases hlt : m (L.getD g 0) < m o
  · exact Or.inl hlt
  · have e : m o = m (L.getD g 0) := Int32.le_antisymm (Int32.not_lt.mp hlt) h3.1
    refine Or.inr ⟨e, ?_⟩
    have h4 := h3.2 e
    have h5 := srt_inj hs hj2 hg
    have : j ≠ g := fun h => hne (h5.2.mp h)
    exact h5.1.mp (by omega)
theorem drL_eq {m : Nat → Int32} : ∀ {k : Nat} {L : List Nat}, L.length = k → L.Pairwise (· < ·) → drL m k L = L.filter (fun c => decide (rkL m L c < 6)) ∧ (drL m k L).length = min k 6
  | 0, L, hk, hs => by
    have e : L = [] := List.length_eq_zero_iff.mp hk
    subst e
    exact ⟨rfl, rfl⟩
  | k + 1, L, hk, hs => by
    by_cases h6 : k + 1 ≤ 6
    · have e : drL m (k + 1) L = L := if_pos h6
      rw [e]
      refine ⟨(List.filter_eq_self.mpr fun c hc => decide_eq_true ?_).symm, by omega⟩
      have := cp_lt (p := bt m c) hc bt_self
      unfold rkL
      omega
    · have e : drL m (k + 1) L = drL m k (L.eraseIdx (goN (fun j => m (L.getD j 0)) (k + 1))) := if_neg h6
      obtain ⟨w, hw, hb⟩ := worst (m := m) hk hs
      rw [e]
      generalize goN (fun j => m (L.getD j 0)) (k + 1) = g at hw
      have hg := (List.getElem?_eq_some_iff.mp hw).1
      have hl : (L.eraseIdx g).length = k := by rw [List.length_eraseIdx_of_lt hg]; omega
      obtain ⟨ih, ih2⟩ := drL_eq (m := m) hl (srt_er (g := g) hs)
      refine ⟨?_, by rw [ih2]; omega⟩
      have hrw : rkL m L w = k := by
        unfold rkL
        have h1 := er_cp (p := bt m w) hw
        rw [bt_self] at h1
        rw [h1]
        have h2 : (L.eraseIdx g).countP (bt m w) = (L.eraseIdx g).length := List.countP_eq_length.mpr fun o ho => by
          refine hb o (List.mem_of_mem_eraseIdx ho) fun h => ?_
          obtain ⟨j, hj, ej⟩ := List.getElem_of_mem ho
          have hj2 : (L.eraseIdx g)[j]? = some o := by rw [List.getElem?_eq_getElem hj, ej]
          rw [List.getElem?_eraseIdx] at hj2
          by_cases hjg : j < g
          · rw [if_pos hjg] at hj2
            have := (srt_inj hs hj2 hw).2.mpr h
            omega
          · rw [if_neg hjg] at hj2
            have := (srt_inj hs hj2 hw).2.mpr h
            omega
        rw [h2, hl]
        rfl
      rw [ih, ← er_fl (p := fun c => decide (rkL m L c < 6)) hw (decide_eq_false (by rw [hrw]; omega))]
      refine List.filter_congr fun c hc => ?_
      have hcL : c ∈ L := List.mem_of_mem_eraseIdx hc
      have hcw : c ≠ w := by
        intro h
        obtain ⟨j, hj, ej⟩ := List.getElem_of_mem hc
        have hj2 : (L.eraseIdx g)[j]? = some c := by rw [List.getElem?_eq_getElem hj, ej]
        rw [List.getElem?_eraseIdx] at hj2
        by_cases hjg : j < g
        · rw [if_pos hjg] at hj2
          have := (srt_inj hs hj2 hw).2.mpr h
          omega
        · rw [if_neg hjg] at hj2
          have := (srt_inj hs hj2 hw).2.mpr h
          omega
      have h1 := er_cp (p := bt m c) hw
      rw [bt_as (hb c hcL hcw)] at h1
      have e9 : rkL m (L.eraseIdx g) c = rkL m L c := by
        unfold rkL
        rw [h1]
        rfl
      rw [e9]
/-- the peaks, in their order -/
noncomputable def pkL (B : mS) (i : Nat) : List Nat := (List.range i).filter (pkB B)
theorem srt_range {p : Nat → Bool} {n : Nat} : ((List.range n).filter p).Pairwise (· < ·) := List.Pairwise.filter _ List.pairwise_lt_range
/-- the contacts -/
noncomputable def ctL (B : mS) : List Nat := drL (fun c => lcM B c 48) (pkL B 48).length (pkL B 48)
theorem ctL_eq {B : mS} : ctL B = (pkL B 48).filter (fun c => decide (rkL (fun c => lcM B c 48) (pkL B 48) c < 6)) ∧ (ctL B).length ≤ 6 := by
  obtain ⟨h1, h2⟩ := drL_eq (m := fun c => lcM B c 48) (k := (pkL B 48).length) (L := pkL B 48) rfl srt_range
  exact ⟨h1, by unfold ctL; rw [h2]; omega⟩
theorem ctL_mem {B : mS} {c : Nat} (h : c ∈ ctL B) : c < 48 ∧ pkB B c = true := by
  rw [ctL_eq.1, List.mem_filter] at h
  have h2 := h.1
  unfold pkL at h2
  rw [List.mem_filter, List.mem_range] at h2
  exact h2
/-- the rows of contacts hold the list L -/
def hoC (T : mS) (q : Nat) (RR CC MM : Nat → Int32) (L : List Nat) : Prop := ∀ j c, L[j]? = some c → T.1 q j = RR c ∧ T.1 (q + 1) j = CC c ∧ T.1 (q + 2) j = MM c ∧ T.1 (q + 3) j = nI c
def rrB (B : mS) (c : Nat) : Int32 := 100 * lcD B c 48 / lcM B c 48
def ccB (B : mS) (c : Nat) : Int32 := 100 * lcO B c 48 / lcM B c 48
def mmB (B : mS) (c : Nat) : Int32 := lcM B c 48
theorem cntI_c {q : Nat → Bool} : ∀ n, cntI q n = nI ((List.range n).countP q)
  | 0 => rfl
  | n + 1 => by
    rw [List.range_succ, List.countP_append]
    cases hq : q n with
    | true =>
      rw [cntI_y hq, cntI_c n, nI_1]
      exact congrArg nI (by rw [List.countP_cons_of_pos hq]; rfl)
    | false =>
      rw [cntI_n hq, cntI_c n]
      exact congrArg nI (by rw [List.countP_cons_of_neg (by rw [hq]; decide)]; rfl)
theorem pk_mass {B : mS} (hB : rgR B) {c : Nat} (hc : c < 48) (hp : pkB B c = true) : 0 < lcM B c 48 := by
  have h1 := (pkM_iff 48).mp hp
  have h2 := lcM_ne (frD_ok hB) hc h1.1.1
  rw [agD_lc.1] at h2
  obtain ⟨h3, h4⟩ := lcM_N hB (c := c) (Nat.le_refl 48)
  rw [h3] at h2 ⊢
  refine nI_lt (a := 0) ?_ (by omega)
  rcases Nat.eq_zero_or_pos (sumN (lcsN B c) 48) with h | h
  · rw [h] at h2; exact absurd rfl h2
  · exact h
/-- the class takes the same contacts -/
theorem sel_eq {B : mS} (hB : rgR B) {cd : Nat → Int32} (hcd : ∀ c, c < 48 → cd c = if pkB B c then lcM B c 48 else 0) {c : Nat} (hc : c < 48) : (0 < cd c ∧ hvr cd c 48 < 6) ↔ (pkB B c = true ∧ rkL (fun c => lcM B c 48) (pkL B 48) c < 6) := by
  rw [hcd c hc]
  cases hp : pkB B c with
  | false => exact ⟨fun h => absurd h.1 (by show ¬ ((0 : Int32) < 0); decide), fun h => by cases h.1⟩
  | true =>
    have h0 := pk_mass hB hc hp
    have e1 : hvr cd c 48 = nI (rkL (fun c => lcM B c 48) (pkL B 48) c) := by
      unfold hvr
      rw [cntI_c]
      refine congrArg nI ?_
      unfold rkL pkL
      rw [List.countP_filter]
      refine List.countP_congr fun o ho => ?_
      rw [List.mem_range] at ho
      rw [hcd c hc, hcd o ho, hp, Bool.and_eq_true]
      unfold bt
      rw [decide_eq_true_eq, decide_eq_true_eq]
      cases hpo : pkB B o with
      | true => exact ⟨fun h => ⟨h, rfl⟩, fun h => h.1⟩
      | false =>
        refine ⟨fun h => ?_, fun h => by cases h.2⟩
        rcases h with h | h
        · have h' : lcM B c 48 < 0 := h
          exact absurd h' fun h => Int32.lt_irrefl (Int32.lt_trans h h0)
        · have h' : (0 : Int32) = lcM B c 48 := h.1
          rw [← h'] at h0
          exact absurd h0 Int32.lt_irrefl
    have hle : rkL (fun c => lcM B c 48) (pkL B 48) c ≤ 48 := by
      unfold rkL
      refine Nat.le_trans List.countP_le_length ?_
      unfold pkL
      exact Nat.le_trans (List.length_filter_le _ _) (Nat.le_of_eq List.length_range)
    rw [e1]
    have e2 : nI (rkL (fun c => lcM B c 48) (pkL B 48) c) < 6 ↔ rkL (fun c => lcM B c 48) (pkL B 48) c < 6 := nI_ltI (b := 6) (by omega) (by decide)
    rw [e2]
    exact ⟨fun h => ⟨rfl, h.2⟩, fun h => ⟨h0, h.2⟩⟩

