/-! the matchings of both sides are the same -/
theorem nI_sq {a b : Nat} (ha : a < 701) (hb : b < 701) : ∃ n, n ≤ 490000 ∧ (nI a - nI b) * (nI a - nI b) = nI n := by
  rcases Nat.le_total b a with h | h
  · exact ⟨(a - b) * (a - b), Nat.mul_le_mul (show a - b ≤ 700 by omega) (show a - b ≤ 700 by omega), by rw [nI_subg h, pk_mul]⟩
  · refine ⟨(b - a) * (b - a), Nat.mul_le_mul (show b - a ≤ 700 by omega) (show b - a ≤ 700 by omega), ?_⟩
    have e : nI a - nI b = -(nI b - nI a) := Int32.neg_sub.symm
    rw [e, Int32.neg_mul, Int32.mul_neg, Int32.neg_neg, nI_subg h, pk_mul]
theorem lcD_N {S : mS} (h : rgR S) {c : Nat} : ∀ {i : Nat}, i ≤ 48 → (lcD S c i = nI (sumN (fun k => lcsN S c k * (k / 6)) i) ∧ lcO S c i = nI (sumN (fun k => lcsN S c k * (k % 6)) i)) ∧ sumN (fun k => lcsN S c k * (k / 6)) i ≤ 7 * sumN (lcsN S c) i ∧ sumN (fun k => lcsN S c k * (k % 6)) i ≤ 7 * sumN (lcsN S c) i
  | 0, _ => ⟨⟨rfl, rfl⟩, Nat.le_refl _, Nat.le_refl _⟩
  | i + 1, hi => by
    obtain ⟨⟨h1, h2⟩, h3, h4⟩ := lcD_N h (c := c) (i := i) (by omega)
    obtain ⟨e1, e2⟩ := lcs_N h (c := c) (k := i) (by omega)
    have m1 : lcsN S c i * (i / 6) ≤ lcsN S c i * 7 := Nat.mul_le_mul_left _ (by omega)
    have m2 : lcsN S c i * (i % 6) ≤ lcsN S c i * 7 := Nat.mul_le_mul_left _ (by omega)
    refine ⟨⟨?_, ?_⟩, ?_, ?_⟩
    · show lcD S c i + lcs S c i * nI (i / 6) = nI (sumN (fun k => lcsN S c k * (k / 6)) i + lcsN S c i * (i / 6))
      rw [h1, e1, pk_mul, nI_add]
    · show lcO S c i + lcs S c i * nI (i % 6) = nI (sumN (fun k => lcsN S c k * (k % 6)) i + lcsN S c i * (i % 6))
      rw [h2, e1, pk_mul, nI_add]
    · show sumN (fun k => lcsN S c k * (k / 6)) i + lcsN S c i * (i / 6) ≤ 7 * (sumN (lcsN S c) i + lcsN S c i)
      omega
    · show sumN (fun k => lcsN S c k * (k % 6)) i + lcsN S c i * (i % 6) ≤ 7 * (sumN (lcsN S c) i + lcsN S c i)
      omega
/-- a contact's place is in its range -/
theorem rr_nI {B : mS} (hB : rgR B) {c : Nat} (hc : c < 48) (hp : pkB B c = true) : (∃ v, v < 701 ∧ rrB B c = nI v) ∧ ∃ v, v < 701 ∧ ccB B c = nI v := by
  obtain ⟨⟨d1, d2⟩, d3, d4⟩ := lcD_N hB (c := c) (Nat.le_refl 48)
  obtain ⟨m1, m2⟩ := lcM_N hB (c := c) (Nat.le_refl 48)
  have h0 := pk_mass hB hc hp
  rw [m1] at h0
  have h0' : 0 < sumN (lcsN B c) 48 := (nI_ltI (a := 0) (by omega) (by omega)).mp h0
  unfold rrB ccB
  rw [d1, d2, m1, show (100 : Int32) = nI 100 from rfl, pk_mul, pk_mul]
  generalize sumN (lcsN B c) 48 = m at *
  generalize sumN (fun k => lcsN B c k * (k / 6)) 48 = a at *
  generalize sumN (fun k => lcsN B c k * (k % 6)) 48 = e at *
  have k1 : 100 * a / m < 701 := by
    refine (Nat.div_lt_iff_lt_mul h0').mpr ?_
    omega
  have k2 : 100 * e / m < 701 := by
    refine (Nat.div_lt_iff_lt_mul h0').mpr ?_
    omega
  exact ⟨⟨_, k1, pk_div (by omega) (by omega) (by omega)⟩, ⟨_, k2, pk_div (by omega) (by omega) (by omega)⟩⟩
theorem nI_ifmin {n m : Nat} (hn : n < 2 ^ 31) (hm : m < 2 ^ 31) : (if nI n < nI m then nI n else nI m) = nI (min n m) := by
  by_cases h : n < m
  · rw [if_pos (nI_lt h hm), Nat.min_eq_left (by omega)]
  · rw [if_neg (fun h2 => h ((nI_ltI hn hm).mp h2)), Nat.min_eq_right (by omega)]
theorem lc_min {pr nx f : Nat → Int32} {s k b N : Nat} (hN : N < 2 ^ 30) (hb : b ≤ N) (hf : ∀ c, c < k → (ctB pr s c = true → f c = pr c + nx (s ||| 1 <<< c) ∧ ∃ n, n ≤ N ∧ f c = nI n) ∧ (ctB pr s c = false → f c = -1)) : ∀ c, c ≤ k → (lsM f c = -1 ∧ lcF pr nx s (nI b) c = nI b) ∨ ∃ m, m ≤ N ∧ lsM f c = nI m ∧ lcF pr nx s (nI b) c = nI (min b m)
  | 0, _ => Or.inl ⟨rfl, rfl⟩
  | c + 1, hc => by
    have ih := lc_min hN hb hf c (by omega)
    have hu : lsM f (c + 1) = if ¬ f c = -1 ∧ (lsM f c = -1 ∨ f c < lsM f c) then f c else lsM f c := rfl
    have hv : lcF pr nx s (nI b) (c + 1) = if ctB pr s c then (if pr c + nx (s ||| 1 <<< c) < lcF pr nx s (nI b) c then pr c + nx (s ||| 1 <<< c) else lcF pr nx s (nI b) c) else lcF pr nx s (nI b) c := rfl
    cases hB : ctB pr s c with
    | false =>
      have e := (hf c (by omega)).2 hB
      rw [hu, hv, hB, if_neg (fun h => h.1 e)]
      exact ih
    | true =>
      obtain ⟨e1, n, hn, e2⟩ := (hf c (by omega)).1 hB
      rw [hu, hv, hB, ← e1, e2]
      have hne : ¬ nI n = -1 := nI_nm1 (by omega)
      rcases ih with ⟨i1, i2⟩ | ⟨m, hm, i1, i2⟩
      · refine Or.inr ⟨n, hn, if_pos ⟨hne, Or.inl i1⟩, ?_⟩
        rw [if_pos rfl, i2, nI_ifmin (by omega) (by omega), Nat.min_comm]
      · refine Or.inr ⟨min n m, by omega, ?_, ?_⟩
        · rw [i1, ← nI_ifmin (n := n) (m := m) (by omega) (by omega)]
          by_cases h : nI n < nI m
          · rw [if_pos h, if_pos ⟨hne, Or.inr h⟩]
          · rw [if_neg h, if_neg]
            intro h2
            rcases h2.2 with h3 | h3
            · exact nI_nm1 (f := m) (by omega) h3
            · exact h h3
        · rw [if_pos rfl, i2, nI_ifmin (by omega) (by omega)]
          exact congrArg nI (by omega)
theorem lsM_skip {f : Nat → Int32} {k : Nat} : ∀ d, (∀ c, k ≤ c → c < k + d → f c = -1) → lsM f (k + d) = lsM f k
  | 0, _ => rfl
  | d + 1, h => by
    have ih := lsM_skip (f := f) (k := k) d fun c h1 h2 => h c h1 (by omega)
    show (if ¬ f (k + d) = -1 ∧ (lsM f (k + d) = -1 ∨ f (k + d) < lsM f (k + d)) then f (k + d) else lsM f (k + d)) = _
    rw [if_neg (fun q => q.1 (h (k + d) (by omega) (by omega))), ih]
theorem lsM_7 {pr nx f : Nat → Int32} {s k b N : Nat} (hN : N < 2 ^ 30) (hb : b ≤ N) (hk : k ≤ 6) (hf : ∀ c, c < k → (ctB pr s c = true → f c = pr c + nx (s ||| 1 <<< c) ∧ ∃ n, n ≤ N ∧ f c = nI n) ∧ (ctB pr s c = false → f c = -1)) (h9 : ∀ c, k ≤ c → c < 6 → f c = -1) (h6 : f 6 = nI b) : lsM f 7 = lcF pr nx s (nI b) k ∧ ∃ n, n ≤ N ∧ lsM f 7 = nI n := by
  have e6 : lsM f 6 = lsM f k := by
    have := lsM_skip (f := f) (k := k) (6 - k) fun c h1 h2 => h9 c h1 (by omega)
    rw [show k + (6 - k) = 6 by omega] at this
    exact this
  have hu : lsM f 7 = if ¬ f 6 = -1 ∧ (lsM f 6 = -1 ∨ f 6 < lsM f 6) then f 6 else lsM f 6 := rfl
  have hne : ¬ nI b = -1 := nI_nm1 (by omega)
  rw [hu, e6, h6]
  rcases lc_min hN hb hf k (Nat.le_refl k) with ⟨i1, i2⟩ | ⟨m, hm, i1, i2⟩
  · rw [i2, if_pos ⟨hne, Or.inl i1⟩]
    exact ⟨rfl, b, hb, rfl⟩
  · have e : (if ¬ nI b = -1 ∧ (lsM f k = -1 ∨ nI b < lsM f k) then nI b else lsM f k) = nI (min b m) := by
      rw [i1, ← nI_ifmin (n := b) (m := m) (by omega) (by omega)]
      by_cases h : nI b < nI m
      · rw [if_pos h, if_pos ⟨hne, Or.inr h⟩]
      · rw [if_neg h, if_neg]
        intro h2
        rcases h2.2 with h3 | h3
        · exact nI_nm1 (f := m) (by omega) h3
        · exact h h3
    rw [e, i2]
    exact ⟨rfl, min b m, by omega, rfl⟩
theorem lcF_no {pr nx : Nat → Int32} {s : Nat} {base : Int32} : ∀ {k : Nat}, (∀ c, c < k → ctB pr s c = false) → lcF pr nx s base k = base
  | 0, _ => rfl
  | k + 1, h => by
    show (if ctB pr s k then _ else lcF pr nx s base k) = base
    rw [h k (by omega)]
    exact lcF_no fun c hc => h c (by omega)
theorem or_lt {s c k : Nat} (hs : s < 2 ^ k) (hc : c < k) : (s ||| 1 <<< c) < 2 ^ k := by
  refine Nat.or_lt_two_pow hs ?_
  rw [Nat.one_shiftLeft]
  exact Nat.pow_lt_pow_right (by decide) hc
theorem two6 {k s : Nat} (hk : k ≤ 6) (hs : s < 2 ^ k) : s < 64 := Nat.lt_of_lt_of_le hs (show 2 ^ k ≤ 64 from Nat.pow_le_pow_right (n := 2) (by decide) hk)
/-- what the costs of the matching are made of, on both sides -/
def MTx (M R : mS) (K : Nat → Int32) (k g : Nat) : Prop := k ≤ 6 ∧ R.1 130 17 = nI k ∧ g ≤ 1000000 ∧ gtR R = nI g ∧ (∀ s, s < 64 → M.1 125 s = 0) ∧ (∀ s, s < 64 → K (384 + s) = 0) ∧ (∀ i, i < 384 → K i = kV R K i) ∧ (∀ t, t < 6 → dwR R t = false → M.1 117 t = 0 ∧ ∀ c, c < k → M.1 (111 + t) c = -1) ∧ ∀ t, t < 6 → dwR R t = true → M.1 117 t = nI g ∧ ∀ c, c < k → (∃ n, n ≤ 1000000 ∧ sqR R t c = nI n) ∧ M.1 (111 + t) c = if sqR R t c ≤ nI g then sqR R t c else -1
/-- the costs of one track's choices -/
theorem mt_f {M R : mS} {K : Nat → Int32} {k g d : Nat} (hx : MTx M R K k g) (hd : d ≤ 5) {nx : Nat → Int32} (hn : ∀ s, s < 2 ^ k → nx s = K (64 * (5 - d + 1) + s) ∧ ∃ n, n ≤ 1000000 * d ∧ nx s = nI n) {s : Nat} (hs : s < 2 ^ k) (hw : dwR R (5 - d) = true) : (∀ c, c < k → (ctB (M.1 (111 + (5 - d))) s c = true → cwR R K (5 - d) c s = M.1 (111 + (5 - d)) c + nx (s ||| 1 <<< c) ∧ ∃ n, n ≤ 1000000 * (d + 1) ∧ cwR R K (5 - d) c s = nI n) ∧ (ctB (M.1 (111 + (5 - d))) s c = false → cwR R K (5 - d) c s = -1)) ∧ (∀ c, k ≤ c → c < 6 → cwR R K (5 - d) c s = -1) ∧ ∃ b, b ≤ 1000000 * (d + 1) ∧ cwR R K (5 - d) 6 s = nI b ∧ M.1 117 (5 - d) + nx s = nI b := by
  obtain ⟨hk, h17, hg, hgt, -, -, -, -, hq⟩ := hx
  obtain ⟨q1, q2⟩ := hq (5 - d) (by omega) hw
  refine ⟨fun c hc => ?_, fun c h1 h2 => ?_, ?_⟩
  · obtain ⟨⟨n, hn1, en⟩, ep⟩ := q2 c hc
    have hcw : cwR R K (5 - d) c s = if nI c < nI k ∧ s.testBit c = false ∧ nI n ≤ nI g then nI n + K (64 * (5 - d + 1) + (s ||| 1 <<< c)) else -1 := by
      unfold cwR
      rw [if_neg (by omega), h17, hgt, en]
    rw [en] at ep
    have hlt : nI c < nI k := nI_lt hc (by omega)
    rw [hcw]
    unfold ctB
    rw [ep]
    by_cases hng : nI n ≤ nI g
    · rw [if_pos hng, decide_eq_true (nI_nm1 (f := n) (by omega) : nI n ≠ -1), Bool.true_and]
      cases hb : s.testBit c with
      | true => exact ⟨fun h => (by cases h), fun _ => if_neg fun h => by cases h.2.1⟩
      | false =>
        obtain ⟨e1, n2, hn2, e2⟩ := hn _ (or_lt hs hc)
        refine ⟨fun _ => ?_, fun h => (by cases h)⟩
        rw [if_pos ⟨hlt, rfl, hng⟩, ← e1, e2, nI_add]
        exact ⟨rfl, n + n2, by omega, rfl⟩
    · rw [if_neg hng, decide_eq_false (fun h : (-1 : Int32) ≠ -1 => h rfl), Bool.false_and]
      exact ⟨fun h => (by cases h), fun _ => if_neg fun h => hng h.2.2⟩
  · unfold cwR
    rw [if_neg (by omega), h17, if_neg]
    intro h
    have := (nI_ltI (a := c) (b := k) (by omega) (by omega)).mp h.1
    omega
  · obtain ⟨e1, n2, hn2, e2⟩ := hn s hs
    refine ⟨g + n2, by omega, ?_, ?_⟩
    · unfold cwR
      rw [if_pos rfl, hgt, ← e1, e2, nI_add]
    · rw [q1, e2, nI_add]
theorem mt_tab {M R : mS} {K : Nat → Int32} {k g : Nat} (hx : MTx M R K k g) : ∀ d, d ≤ 6 → ∀ s, s < 2 ^ k → lsR M k d s = K (64 * (6 - d) + s) ∧ ∃ n, n ≤ 1000000 * d ∧ lsR M k d s = nI n
  | 0, _, s, hs => by
    have h64 := two6 hx.1 hs
    have e1 : lsR M k 0 s = 0 := hx.2.2.2.2.1 s h64
    rw [e1]
    exact ⟨(hx.2.2.2.2.2.1 s h64).symm, 0, by omega, rfl⟩
  | d + 1, hd, s, hs => by
    have h64 := two6 hx.1 hs
    have ih := mt_tab hx d (by omega)
    have hn : ∀ s, s < 2 ^ k → lsR M k d s = K (64 * (5 - d + 1) + s) ∧ ∃ n, n ≤ 1000000 * d ∧ lsR M k d s = nI n := fun s hs => by
      rw [show 5 - d + 1 = 6 - d by omega]
      exact ih s hs
    have hl : lsR M k (d + 1) s = lcF (M.1 (111 + (5 - d))) (lsR M k d) s (M.1 117 (5 - d) + lsR M k d s) k := if_pos hs
    have hKi : K (64 * (6 - (d + 1)) + s) = kV R K (64 * (5 - d) + s) := by
      rw [show 6 - (d + 1) = 5 - d by omega]
      exact hx.2.2.2.2.2.2.1 _ (by omega)
    rw [hl, hKi]
    unfold kV
    rw [show (64 * (5 - d) + s) / 64 = 5 - d by omega, show (64 * (5 - d) + s) % 64 = s by omega]
    cases hw : dwR R (5 - d) with
    | false =>
      obtain ⟨p1, p2⟩ := hx.2.2.2.2.2.2.2.1 (5 - d) (by omega) hw
      rw [lcF_no fun c hc => by unfold ctB; rw [p2 c hc, decide_eq_false (fun h : (-1 : Int32) ≠ -1 => h rfl), Bool.false_and], p1, Int32.zero_add]
      obtain ⟨e1, n, hn1, e2⟩ := hn s hs
      refine ⟨?_, n, by omega, e2⟩
      rw [e1]
      show K _ = K _
      exact congrArg K (by omega)
    | true =>
      obtain ⟨f1, f2, b, hb, f3, f4⟩ := mt_f hx (by omega) hn hs hw
      rw [f4]
      obtain ⟨g1, n, hn1, g2⟩ := lsM_7 (N := 1000000 * (d + 1)) (by omega) hb hx.1 f1 f2 f3
      rw [if_pos rfl, g1]
      rw [g1] at g2
      exact ⟨rfl, n, hn1, g2⟩
theorem fbN_spec {q : Nat → Bool} : ∀ {n : Nat}, (∀ c, fbN q n = some c → c < n ∧ q c = true ∧ ∀ j, j < c → q j = false) ∧ (fbN q n = none → ∀ j, j < n → q j = false)
  | 0 => ⟨fun c h => (by cases h), fun _ j hj => absurd hj (Nat.not_lt_zero j)⟩
  | n + 1 => by
    obtain ⟨h1, h2⟩ := fbN_spec (q := q) (n := n)
    have hu : fbN q (n + 1) = match fbN q n with | some c => some c | none => if q n then some n else none := rfl
    cases hf : fbN q n with
    | some c =>
      rw [hf] at hu
      have hu2 : fbN q (n + 1) = some c := hu
      rw [hu2]
      refine ⟨fun d hd => ?_, fun h => (by cases h)⟩
      cases hd
      obtain ⟨a1, a2, a3⟩ := h1 c hf
      exact ⟨by omega, a2, a3⟩
    | none =>
      rw [hf] at hu
      have hu2 : fbN q (n + 1) = if q n then some n else none := hu
      rw [hu2]
      cases hq : q n with
      | true =>
        refine ⟨fun d hd => ?_, fun h => (by cases h)⟩
        cases hd
        exact ⟨by omega, hq, h2 hf⟩
      | false =>
        refine ⟨fun d hd => (by cases hd), fun _ j hj => ?_⟩
        by_cases e : j = n
        · rw [e]; exact hq
        · exact h2 hf j (by omega)
theorem fiM_spec {f : Nat → Int32} {v : Int32} : ∀ {m c : Nat}, c ≤ fiM f v c m ∧ fiM f v c m ≤ c + m ∧ (∀ j, c ≤ j → j < fiM f v c m → ¬ f j = v) ∧ (fiM f v c m < c + m → f (fiM f v c m) = v)
  | 0, c => ⟨Nat.le_refl _, Nat.le_refl _, fun j h1 h2 => absurd h2 (Nat.not_lt.mpr h1), fun h => absurd h (Nat.lt_irrefl _)⟩
  | m + 1, c => by
    have hu : fiM f v c (m + 1) = if f c = v then c else fiM f v (c + 1) m := rfl
    rw [hu]
    by_cases h : f c = v
    · rw [if_pos h]
      exact ⟨Nat.le_refl _, by omega, fun j h1 h2 => absurd h2 (Nat.not_lt.mpr h1), fun _ => h⟩
    · rw [if_neg h]
      obtain ⟨a1, a2, a3, a4⟩ := fiM_spec (f := f) (v := v) (m := m) (c := c + 1)
      refine ⟨by omega, by omega, fun j h1 h2 => ?_, fun h2 => a4 (by omega)⟩
      by_cases e : j = c
      · rw [e]; exact h
      · exact a3 j (by omega) h2
/-- one track's contact -/
theorem mt_as1 {M M' R : mS} {K : Nat → Int32} {k g t tk : Nat} (hx : MTx M R K k g) (h1 : ∀ t, t < 6 → M'.1 (111 + t) = M.1 (111 + t)) (h2 : ∀ t, t ≤ 6 → M'.1 (119 + t) = lsR M k (6 - t)) (ht : t < 6) (htk : tk < 2 ^ k) : fbN (asP M' tk t) k = if mtQ R K t tk then some (ctR R K t tk) else none := by
  have hd : t = 5 - (5 - t) := by omega
  have h64 := two6 hx.1 htk
  have hP : ∀ c, asP M' tk t c = (ctB (M.1 (111 + t)) tk c && decide (M.1 (111 + t) c + lsR M k (5 - t) (tk ||| 1 <<< c) = lsR M k (6 - t) tk)) := fun c => by
    unfold asP
    rw [h1 t ht, h2 (t + 1) (by omega), h2 t (by omega), show 6 - (t + 1) = 5 - t by omega]
  cases hw : dwR R t with
  | false =>
    have hm : mtQ R K t tk = false := by unfold mtQ; rw [hw]; rfl
    rw [hm]
    obtain ⟨p1, p2⟩ := hx.2.2.2.2.2.2.2.1 t ht hw
    cases hf : fbN (asP M' tk t) k with
    | none => rfl
    | some c =>
      obtain ⟨a1, a2, -⟩ := (fbN_spec (q := asP M' tk t) (n := k)).1 c hf
      rw [hP c] at a2
      unfold ctB at a2
      rw [p2 c a1, decide_eq_false (fun h : (-1 : Int32) ≠ -1 => h rfl), Bool.false_and, Bool.false_and] at a2
      cases a2
  | true =>
    have hn : ∀ s, s < 2 ^ k → lsR M k (5 - t) s = K (64 * (5 - (5 - t) + 1) + s) ∧ ∃ n, n ≤ 1000000 * (5 - t) ∧ lsR M k (5 - t) s = nI n := fun s hs => by
      have := mt_tab hx (5 - t) (by omega) s hs
      rw [show 5 - (5 - t) + 1 = 6 - (5 - t) by omega]
      exact this
    obtain ⟨f1, f2, b, hb, f3, f4⟩ := mt_f hx (by omega) hn htk (by rw [← hd]; exact hw)
    rw [← hd] at f1 f2 f3 f4
    obtain ⟨t1, n, hn1, t2⟩ := mt_tab hx (6 - t) (by omega) tk htk
    rw [show 6 - (6 - t) = t by omega] at t1
    have hne : ¬ K (64 * t + tk) = -1 := by rw [← t1, t2]; exact nI_nm1 (by omega)
    have hq : ∀ c, c < k → (asP M' tk t c = true ↔ cwR R K t c tk = K (64 * t + tk)) := fun c hc => by
      rw [hP c, Bool.and_eq_true, decide_eq_true_eq, t1]
      obtain ⟨g1, g2⟩ := f1 c hc
      cases hB : ctB (M.1 (111 + t)) tk c with
      | true =>
        rw [(g1 hB).1]
        exact ⟨fun h => h.2, fun h => ⟨rfl, h⟩⟩
      | false =>
        rw [g2 hB]
        exact ⟨fun h => (by cases h.1), fun h => absurd h.symm hne⟩
    have hc : ctR R K t tk = fiM (fun c => cwR R K t c tk) (K (64 * t + tk)) 0 6 := by unfold ctR; rw [hw]; rfl
    obtain ⟨r1, r2, r3, r4⟩ := fiM_spec (f := fun c => cwR R K t c tk) (v := K (64 * t + tk)) (m := 6) (c := 0)
    rw [← hc] at r1 r2 r3 r4
    cases hf : fbN (asP M' tk t) k with
    | some c =>
      obtain ⟨a1, a2, a3⟩ := (fbN_spec (q := asP M' tk t) (n := k)).1 c hf
      have hk := hx.1
      have e : ctR R K t tk = c := by
        rcases Nat.lt_trichotomy (ctR R K t tk) c with h | h | h
        · have h5 := a3 _ h
          have h6 := (hq _ (by omega)).mpr (r4 (by omega))
          rw [h5] at h6
          cases h6
        · exact h
        · exact absurd ((hq c a1).mp a2) (r3 c (by omega) h)
      have hm : mtQ R K t tk = true := by
        unfold mtQ
        rw [hw, e, decide_eq_true (show c < 6 by omega)]
        rfl
      rw [hm, e]
      rfl
    | none =>
      have a1 := (fbN_spec (q := asP M' tk t) (n := k)).2 hf
      have e : ¬ ctR R K t tk < 6 := fun h => by
        have h3 := r4 (by omega)
        by_cases hk : ctR R K t tk < k
        · have h5 := a1 _ hk
          rw [(hq _ hk).mpr h3] at h5
          cases h5
        · rw [f2 _ (by omega) h] at h3
          exact hne h3.symm
      have hm : mtQ R K t tk = false := by
        unfold mtQ
        rw [hw, decide_eq_false e]
        rfl
      rw [hm]
      rfl
theorem mt_as {M M' R : mS} {K : Nat → Int32} {k g : Nat} (hx : MTx M R K k g) (h1 : ∀ t, t < 6 → M'.1 (111 + t) = M.1 (111 + t)) (h2 : ∀ t, t ≤ 6 → M'.1 (119 + t) = lsR M k (6 - t)) : ∀ t, t ≤ 6 → tkA M' k t = (asM R K t).2 ∧ tkA M' k t < 2 ^ k
  | 0, _ => ⟨rfl, Nat.pow_pos (by decide)⟩
  | t + 1, ht => by
    obtain ⟨i1, i2⟩ := mt_as hx h1 h2 t (by omega)
    have ha := mt_as1 hx h1 h2 (t := t) (by omega) i2
    have hu : tkA M' k (t + 1) = match fbN (asP M' (tkA M' k t) t) k with | some c => tkA M' k t ||| 1 <<< c | none => tkA M' k t := rfl
    have hv : (asM R K (t + 1)).2 = if mtQ R K t (asM R K t).2 then (asM R K t).2 ||| 1 <<< ctR R K t (asM R K t).2 else (asM R K t).2 := rfl
    rw [hu, hv, ← i1]
    cases hm : mtQ R K t (tkA M' k t) with
    | true =>
      rw [hm] at ha
      have ha2 : fbN (asP M' (tkA M' k t) t) k = some (ctR R K t (tkA M' k t)) := ha
      have hc := ((fbN_spec (q := asP M' (tkA M' k t) t) (n := k)).1 _ ha2).1
      rw [ha2]
      exact ⟨rfl, or_lt i2 hc⟩
    | false =>
      rw [hm] at ha
      have ha2 : fbN (asP M' (tkA M' k t) t) k = none := ha
      rw [ha2]
      exact ⟨rfl, i2⟩
theorem mt_asA {M M' R : mS} {K : Nat → Int32} {k g t : Nat} (hx : MTx M R K k g) (h1 : ∀ t, t < 6 → M'.1 (111 + t) = M.1 (111 + t)) (h2 : ∀ t, t ≤ 6 → M'.1 (119 + t) = lsR M k (6 - t)) (ht : t < 6) : asA M' k t = if mtQ R K t (asM R K t).2 then some (ctR R K t (asM R K t).2) else none := by
  obtain ⟨i1, i2⟩ := mt_as hx h1 h2 t (by omega)
  unfold asA
  rw [mt_as1 hx h1 h2 ht i2, i1]

