/-! the best matching costs least -/
def dnB (v : Nat → Int32) (t : Nat) : Bool := !decide (v (101 + 5 * t + 0) = 0)
noncomputable def wyN (v : Nat → Int32) (t c : Nat) : Nat := (wyV v t c).toNatClampNeg
def gaN (v : Nat → Int32) : Nat := (v 99 * v 99).toNatClampNeg
theorem ga_n {v : Nat → Int32} (hG : GV v) : v 99 * v 99 = nI (gaN v) ∧ gaN v ≤ 1000000 := by
  obtain ⟨a, h0, h1, e⟩ := hG.2.2.2.2.1
  have h2 : a * a ≤ 1000 * 1000 := Nat.mul_le_mul (by omega) (by omega)
  unfold gaN
  rw [e, pk_mul, nI_clamp (by omega)]
  exact ⟨rfl, by omega⟩
theorem rp_n {v : Nat → Int32} (hG : GV v) {c : Nat} (hc : c < kV v) : (∃ a, a < 701 ∧ rpV v c = nI a) ∧ ∃ b, b < 701 ∧ cpV v c = nI b := by
  obtain ⟨-, h1, h2⟩ := ct_at hc
  obtain ⟨-, M, a, b, -, ⟨ea, ha, -⟩, eb, hb, -⟩ := pos_v hG h1 h2
  exact ⟨⟨a, by omega, ea⟩, b, by omega, eb⟩
theorem wy_n {v : Nat → Int32} (hG : GV v) {t c : Nat} (ht : t < 6) (hc : c < kV v) : wyV v t c = nI (wyN v t c) ∧ wyN v t c ≤ 980000 := by
  obtain ⟨⟨a, ha, ea⟩, b, hb, eb⟩ := rp_n hG hc
  obtain ⟨-, ⟨x, hx, ex⟩, y, hy, ey⟩ := hG.2.2.2.2.2.2.1 t ht
  have key : ∃ n, n ≤ 980000 ∧ wyV v t c = nI n := by
    unfold wyV
    rw [ea, eb, ex, ey]
    obtain ⟨n1, h1, e1⟩ := nI_sq hx ha
    obtain ⟨n2, h2, e2⟩ := nI_sq hy hb
    rw [e1, e2, nI_add]
    exact ⟨n1 + n2, by omega, rfl⟩
  obtain ⟨n, hn, e⟩ := key
  unfold wyN
  rw [e, nI_clamp (by omega)]
  exact ⟨rfl, hn⟩
noncomputable def okN (v : Nat → Int32) (t c : Nat) : Bool := dnB v t && decide (wyN v t c ≤ gaN v)
theorem pc_n {v : Nat → Int32} (hG : GV v) {t c : Nat} (ht : t < 6) (hc : c < kV v) : pcV v t c = if okN v t c then nI (wyN v t c) else -1 := by
  obtain ⟨e1, b1⟩ := wy_n hG ht hc
  obtain ⟨e2, b2⟩ := ga_n hG
  unfold pcV okN dnB
  rw [e1, e2]
  by_cases h : v (101 + 5 * t + 0) = 0
  · rw [if_pos h, decide_eq_true h]
    rfl
  · rw [if_neg h, decide_eq_false h]
    by_cases h2 : wyN v t c ≤ gaN v
    · rw [if_pos (nI_le h2 (by omega)), decide_eq_true h2]
      rfl
    · rw [if_neg (nI_ge (by omega) (by omega)), decide_eq_false h2]
      rfl
def nnN (v : Nat → Int32) (t : Nat) : Nat := if dnB v t then gaN v else 0
theorem nn_n {v : Nat → Int32} (hG : GV v) {t : Nat} : nnV v t = nI (nnN v t) ∧ nnN v t ≤ 1000000 := by
  obtain ⟨e2, b2⟩ := ga_n hG
  unfold nnV nnN dnB
  rw [e2]
  by_cases h : v (101 + 5 * t + 0) = 0
  · rw [if_pos h, decide_eq_true h]
    exact ⟨rfl, Nat.zero_le _⟩
  · rw [if_neg h, decide_eq_false h]
    exact ⟨rfl, b2⟩
def mnF (w : Nat → Nat) (ok : Nat → Bool) (nx : Nat → Nat) (s base : Nat) : Nat → Nat
  | 0 => base
  | c + 1 => if ok c && !s.testBit c then min (w c + nx (s ||| 1 <<< c)) (mnF w ok nx s base c) else mnF w ok nx s base c
theorem mn_le {w : Nat → Nat} {ok : Nat → Bool} {nx : Nat → Nat} {s base : Nat} : ∀ i, mnF w ok nx s base i ≤ base ∧ ∀ c, c < i → ok c = true → s.testBit c = false → mnF w ok nx s base i ≤ w c + nx (s ||| 1 <<< c)
  | 0 => ⟨Nat.le_refl _, fun c hc => absurd hc (Nat.not_lt_zero c)⟩
  | i + 1 => by
    obtain ⟨h1, h2⟩ := mn_le (w := w) (ok := ok) (nx := nx) (s := s) (base := base) i
    unfold mnF
    by_cases h : (ok i && !s.testBit i) = true
    · rw [if_pos h]
      refine ⟨Nat.le_trans (Nat.min_le_right _ _) h1, fun c hc ho hb => ?_⟩
      by_cases e : c = i
      · rw [e]; exact Nat.min_le_left _ _
      · exact Nat.le_trans (Nat.min_le_right _ _) (h2 c (by omega) ho hb)
    · rw [if_neg h]
      refine ⟨h1, fun c hc ho hb => ?_⟩
      by_cases e : c = i
      · rw [← e, ho, hb] at h
        exact absurd rfl h
      · exact h2 c (by omega) ho hb
theorem mn_at {w : Nat → Nat} {ok : Nat → Bool} {nx : Nat → Nat} {s base : Nat} : ∀ i, mnF w ok nx s base i = base ∨ ∃ c, c < i ∧ ok c = true ∧ s.testBit c = false ∧ mnF w ok nx s base i = w c + nx (s ||| 1 <<< c)
  | 0 => Or.inl rfl
  | i + 1 => by
    have ih := mn_at (w := w) (ok := ok) (nx := nx) (s := s) (base := base) i
    unfold mnF
    by_cases h : (ok i && !s.testBit i) = true
    · rw [if_pos h]
      by_cases hm : w i + nx (s ||| 1 <<< i) ≤ mnF w ok nx s base i
      · rw [Nat.min_eq_left hm]
        rw [Bool.and_eq_true, Bool.not_eq_true'] at h
        exact Or.inr ⟨i, by omega, h.1, h.2, rfl⟩
      · rw [Nat.min_eq_right (by omega)]
        rcases ih with e | ⟨c, h1, h2⟩
        · exact Or.inl e
        · exact Or.inr ⟨c, by omega, h2⟩
    · rw [if_neg h]
      rcases ih with e | ⟨c, h1, h2⟩
      · exact Or.inl e
      · exact Or.inr ⟨c, by omega, h2⟩
theorem lc_n {pr nxI : Nat → Int32} {w : Nat → Nat} {ok : Nat → Bool} {nx : Nat → Nat} {s b k B : Nat} (hB : B ≤ 7000000) (hb : b ≤ B) (hs : s < 2 ^ k) (hp : ∀ c, c < k → pr c = (if ok c then nI (w c) else -1) ∧ w c ≤ 1000000) (hn : ∀ s', s' < 2 ^ k → nxI s' = nI (nx s') ∧ nx s' ≤ B) : ∀ i, i ≤ k → lcF pr nxI s (nI b) i = nI (mnF w ok nx s b i)
  | 0, _ => rfl
  | i + 1, hi => by
    have ih := lc_n hB hb hs hp hn i (by omega)
    obtain ⟨p1, p2⟩ := hp i (by omega)
    obtain ⟨n1, n2⟩ := hn (s ||| 1 <<< i) (or_lt hs (by omega))
    have hm := (mn_le (w := w) (ok := ok) (nx := nx) (s := s) (base := b) i).1
    have hc : ctB pr s i = (ok i && !s.testBit i) := by
      unfold ctB
      rw [p1]
      cases ho : ok i with
      | true =>
        rw [if_pos rfl, decide_eq_true (show nI (w i) ≠ -1 from nI_nm1 (by omega))]
      | false => rfl
    unfold lcF mnF
    rw [hc, ih, n1]
    by_cases h : (ok i && !s.testBit i) = true
    · rw [if_pos h, if_pos h, p1]
      rw [Bool.and_eq_true] at h
      rw [h.1, if_pos rfl, nI_add]
      by_cases hlt : w i + nx (s ||| 1 <<< i) < mnF w ok nx s b i
      · rw [if_pos (nI_lt hlt (by omega)), Nat.min_eq_left (by omega)]
      · rw [if_neg (nI_nlt (by omega) (by omega)), Nat.min_eq_right (by omega)]
    · rw [if_neg h, if_neg h]
noncomputable def lsN (v : Nat → Int32) : Nat → Nat → Nat
  | 0 => fun _ => 0
  | d + 1 => fun s => mnF (wyN v (5 - d)) (okN v (5 - d)) (lsN v d) s (nnN v (5 - d) + lsN v d s) (kV v)
theorem ls_n {v : Nat → Int32} (hG : GV v) : ∀ d, d ≤ 6 → ∀ s, s < 2 ^ kV v → lsV v d s = nI (lsN v d s) ∧ lsN v d s ≤ 1000000 * d
  | 0, _, s, _ => ⟨rfl, Nat.zero_le _⟩
  | d + 1, hd, s, hs => by
    have ih := ls_n hG d (by omega)
    obtain ⟨n1, n2⟩ := nn_n hG (t := 5 - d)
    have hb := (ih s hs).2
    refine ⟨?_, ?_⟩
    · show lcF (pcV v (5 - d)) (lsV v d) s (nnV v (5 - d) + lsV v d s) (kV v) = nI (mnF (wyN v (5 - d)) (okN v (5 - d)) (lsN v d) s (nnN v (5 - d) + lsN v d s) (kV v))
      rw [n1, (ih s hs).1, nI_add]
      refine lc_n (B := 7000000) (Nat.le_refl _) (by omega) hs (fun c hc => ⟨pc_n hG (by omega) hc, ?_⟩) (fun s' hs' => ⟨(ih s' hs').1, ?_⟩) (kV v) (Nat.le_refl _)
      · have := (wy_n hG (t := 5 - d) (by omega) hc).2
        omega
      · have := (ih s' hs').2
        omega
    · have h := (mn_le (w := wyN v (5 - d)) (ok := okN v (5 - d)) (nx := lsN v d) (s := s) (base := nnN v (5 - d) + lsN v d s) (kV v)).1
      show mnF _ _ _ _ _ _ ≤ _
      omega
noncomputable def cst (v : Nat → Int32) (t : Nat) (o : Option Nat) : Nat := match o with
  | some c => wyN v t c
  | none => nnN v t
noncomputable def tot (v : Nat → Int32) (σ : Nat → Option Nat) : Nat → Nat
  | 0 => 0
  | d + 1 => cst v (5 - d) (σ (5 - d)) + tot v σ d
theorem bit_or (s c e : Nat) : (s ||| 1 <<< c).testBit e = (s.testBit e || decide (c = e)) := by
  rw [Nat.testBit_or, Nat.one_shiftLeft, Nat.testBit_two_pow]
/-- what may be assigned, from a track on -/
def vdM (v : Nat → Int32) (σ : Nat → Option Nat) (s d : Nat) : Prop := (∀ t, 6 - d ≤ t → t < 6 → ∀ c, σ t = some c → c < kV v ∧ okN v t c = true ∧ s.testBit c = false) ∧ ∀ t t', 6 - d ≤ t → t < 6 → 6 - d ≤ t' → t' < 6 → t ≠ t' → ∀ c, σ t = some c → σ t' ≠ some c
theorem low {v : Nat → Int32} {σ : Nat → Option Nat} : ∀ d, d ≤ 6 → ∀ s, s < 2 ^ kV v → vdM v σ s d → lsN v d s ≤ tot v σ d
  | 0, _, _, _, _ => Nat.le_refl _
  | d + 1, hd, s, hs, hv => by
    obtain ⟨h1, h2⟩ := mn_le (w := wyN v (5 - d)) (ok := okN v (5 - d)) (nx := lsN v d) (s := s) (base := nnN v (5 - d) + lsN v d s) (kV v)
    show mnF (wyN v (5 - d)) (okN v (5 - d)) (lsN v d) s (nnN v (5 - d) + lsN v d s) (kV v) ≤ cst v (5 - d) (σ (5 - d)) + tot v σ d
    cases hσ : σ (5 - d) with
    | none =>
      have ih := low (v := v) (σ := σ) d (by omega) s hs ⟨fun t ht ht6 => hv.1 t (by omega) ht6, fun t t' a1 a2 a3 a4 => hv.2 t t' (by omega) a2 (by omega) a4⟩
      show _ ≤ nnN v (5 - d) + tot v σ d
      omega
    | some c =>
      obtain ⟨c1, c2, c3⟩ := hv.1 (5 - d) (by omega) (by omega) c hσ
      have ih := low (v := v) (σ := σ) d (by omega) (s ||| 1 <<< c) (or_lt hs c1) ⟨fun t ht ht6 e he => by
        obtain ⟨e1, e2, e3⟩ := hv.1 t (by omega) ht6 e he
        refine ⟨e1, e2, ?_⟩
        rw [bit_or, e3, decide_eq_false (fun hce => hv.2 (5 - d) t (by omega) (by omega) (by omega) ht6 (by omega) c hσ (by rw [hce]; exact he))]
        rfl, fun t t' a1 a2 a3 a4 => hv.2 t t' (by omega) a2 (by omega) a4⟩
      have := h2 c c1 c2 c3
      show _ ≤ wyN v (5 - d) c + tot v σ d
      omega
theorem tk_lt {v : Nat → Int32} (t : Nat) : tkV v t < 2 ^ kV v := by
  have h0 := Nat.two_pow_pos (kV v)
  generalize hB : 2 ^ kV v = B at h0 ⊢
  induction t with
  | zero => exact h0
  | succ t ih =>
    rw [tk_s]
    cases hf : asV v t with
    | none => exact ih
    | some c =>
      rw [← hB] at ih ⊢
      exact or_lt ih (fbN_lt hf).1
theorem as_ok {v : Nat → Int32} (hG : GV v) {t c : Nat} (ht : t < 6) (h : asV v t = some c) : c < kV v ∧ okN v t c = true ∧ (tkV v t).testBit c = false ∧ wyN v t c + lsN v (5 - t) (tkV v t ||| 1 <<< c) = lsN v (6 - t) (tkV v t) := by
  obtain ⟨h1, h2⟩ := fbN_lt h
  unfold asPV ctB at h2
  rw [Bool.and_eq_true, Bool.and_eq_true] at h2
  obtain ⟨⟨a1, a2⟩, a3⟩ := h2
  have hp := pc_n hG ht h1
  have ho : okN v t c = true := by
    cases ho : okN v t c with
    | true => rfl
    | false =>
      rw [ho, if_neg (by decide)] at hp
      exact absurd hp (of_decide_eq_true a1)
  rw [ho, if_pos rfl] at hp
  have a4 := of_decide_eq_true a3
  have htk := tk_lt (v := v) t
  obtain ⟨l1, l2⟩ := ls_n hG (5 - t) (by omega) _ (or_lt htk h1)
  obtain ⟨l3, l4⟩ := ls_n hG (6 - t) (by omega) _ htk
  rw [hp, l1, l3, nI_add] at a4
  have hw := (wy_n hG ht h1).2
  exact ⟨h1, ho, by rw [Bool.not_eq_true'] at a2; exact a2, (nI_eq (by omega) (by omega)).mp a4⟩
theorem as_cost {v : Nat → Int32} (hG : GV v) {t : Nat} (ht : t < 6) : lsN v (6 - t) (tkV v t) = cst v t (asV v t) + lsN v (5 - t) (tkV v (t + 1)) := by
  rw [tk_s]
  cases ha : asV v t with
  | some c => exact (as_ok hG ht ha).2.2.2.symm
  | none =>
    show _ = nnN v t + lsN v (5 - t) (tkV v t)
    have hu : lsN v (6 - t) (tkV v t) = mnF (wyN v t) (okN v t) (lsN v (5 - t)) (tkV v t) (nnN v t + lsN v (5 - t) (tkV v t)) (kV v) := by
      have e : 6 - t = (5 - t) + 1 := by omega
      rw [e]
      show mnF (wyN v (5 - (5 - t))) _ _ _ _ _ = _
      rw [show 5 - (5 - t) = t by omega]
    rw [hu]
    rcases mn_at (w := wyN v t) (ok := okN v t) (nx := lsN v (5 - t)) (s := tkV v t) (base := nnN v t + lsN v (5 - t) (tkV v t)) (kV v) with e | ⟨c, c1, c2, c3, c4⟩
    · exact e
    · exfalso
      have hno := (fbN_spec (q := asPV v (tkV v t) t) (n := kV v)).2 ha c c1
      have htk := tk_lt (v := v) t
      have hp := pc_n hG ht c1
      rw [c2, if_pos rfl] at hp
      have hw := (wy_n hG ht c1).2
      obtain ⟨l1, l2⟩ := ls_n hG (5 - t) (by omega) _ (or_lt htk c1)
      obtain ⟨l3, l4⟩ := ls_n hG (6 - t) (by omega) _ htk
      unfold asPV ctB at hno
      rw [hp, l1, l3, c3, nI_add, hu, c4, decide_eq_true (show nI (wyN v t c) ≠ -1 from nI_nm1 (by omega)), decide_eq_true rfl] at hno
      cases hno
theorem as_tot {v : Nat → Int32} (hG : GV v) : ∀ d, d ≤ 6 → lsN v d (tkV v (6 - d)) = tot v (asV v) d
  | 0, _ => rfl
  | d + 1, hd => by
    have ih := as_tot hG d (by omega)
    have h := as_cost hG (t := 5 - d) (by omega)
    rw [show 6 - (5 - d) = d + 1 by omega, show 5 - (5 - d) = d by omega, show 5 - d + 1 = 6 - d by omega, ih] at h
    rw [show 6 - (d + 1) = 5 - d by omega]
    exact h
theorem tk_bit {v : Nat → Int32} {c : Nat} (n : Nat) : (tkV v n).testBit c = true ↔ ∃ t, t < n ∧ asV v t = some c := by
  induction n with
  | zero =>
    refine ⟨fun h => ?_, fun ⟨t, ht, _⟩ => absurd ht (Nat.not_lt_zero t)⟩
    rw [show tkV v 0 = 0 from rfl, Nat.zero_testBit] at h
    cases h
  | succ n ih =>
    rw [tk_s]
    cases ha : asV v n with
    | none =>
      show (tkV v n).testBit c = true ↔ _
      rw [ih]
      refine ⟨fun ⟨t, h1, h2⟩ => ⟨t, by omega, h2⟩, fun ⟨t, h1, h2⟩ => ⟨t, ?_, h2⟩⟩
      have : t ≠ n := fun e => by rw [e, ha] at h2; cases h2
      omega
    | some e =>
      show (tkV v n ||| 1 <<< e).testBit c = true ↔ _
      rw [bit_or, Bool.or_eq_true, ih, decide_eq_true_eq]
      constructor
      · rintro (⟨t, h1, h2⟩ | h)
        · exact ⟨t, by omega, h2⟩
        · exact ⟨n, by omega, by rw [ha, h]⟩
      · rintro ⟨t, h1, h2⟩
        by_cases e1 : t = n
        · rw [e1, ha] at h2
          exact Or.inr (Option.some.inj h2)
        · exact Or.inl ⟨t, by omega, h2⟩
theorem as_inj {v : Nat → Int32} (hG : GV v) {t t' c : Nat} (ht : t < 6) (ht' : t' < 6) (h : asV v t = some c) (h' : asV v t' = some c) : t = t' := by
  rcases Nat.lt_trichotomy t t' with hlt | e | hlt
  · have := (as_ok hG ht' h').2.2.1
    rw [(tk_bit t').mpr ⟨t, hlt, h⟩] at this
    cases this
  · exact e
  · have := (as_ok hG ht h).2.2.1
    rw [(tk_bit t).mpr ⟨t', hlt, h'⟩] at this
    cases this
theorem tot_sum {v : Nat → Int32} {σ : Nat → Option Nat} : tot v σ 6 = sumN (fun t => cst v t (σ t)) 6 := by
  show cst v 0 (σ 0) + (cst v 1 (σ 1) + (cst v 2 (σ 2) + (cst v 3 (σ 3) + (cst v 4 (σ 4) + (cst v 5 (σ 5) + 0))))) = 0 + cst v 0 (σ 0) + cst v 1 (σ 1) + cst v 2 (σ 2) + cst v 3 (σ 3) + cst v 4 (σ 4) + cst v 5 (σ 5)
  omega
theorem opt {v : Nat → Int32} (hG : GV v) {σ : Nat → Option Nat} (h1 : ∀ t, t < 6 → ∀ c, σ t = some c → c < kV v ∧ okN v t c = true) (h2 : ∀ t t', t < 6 → t' < 6 → t ≠ t' → ∀ c, σ t = some c → σ t' ≠ some c) : sumN (fun t => cst v t (asV v t)) 6 ≤ sumN (fun t => cst v t (σ t)) 6 := by
  rw [← tot_sum, ← tot_sum, ← as_tot hG 6 (Nat.le_refl 6)]
  refine low 6 (Nat.le_refl 6) (tkV v (6 - 6)) (tk_lt _) ⟨fun t _ ht c hc => ⟨(h1 t ht c hc).1, (h1 t ht c hc).2, ?_⟩, fun t t' _ ht _ ht' => h2 t t' ht ht'⟩
  show (0 : Nat).testBit c = false
  exact Nat.zero_testBit c
theorem sumN_upd {f : Nat → Nat} {i x : Nat} : ∀ n, i < n → sumN (fun t => if t = i then x else f t) n + f i = sumN f n + x
  | 0, h => absurd h (Nat.not_lt_zero _)
  | n + 1, h => by
    show sumN (fun t => if t = i then x else f t) n + (if n = i then x else f n) + f i = sumN f n + f n + x
    by_cases e : n = i
    · have hs : ∀ m, m ≤ i → sumN (fun t => if t = i then x else f t) m = sumN f m := by
        intro m
        induction m with
        | zero => intro _; rfl
        | succ m ih =>
          intro hm
          show sumN (fun t => if t = i then x else f t) m + (if m = i then x else f m) = sumN f m + f m
          rw [ih (by omega), if_neg (by omega)]
      rw [hs n (by omega), if_pos e, e]
      omega
    · have ih := sumN_upd (f := f) (i := i) (x := x) n (by omega)
      rw [if_neg e]
      omega
/-- two pairs exchanged cost no less -/
theorem exch2 {v : Nat → Int32} (hG : GV v) {one other a b : Nat} (h1 : one < 6) (h2 : other < 6) (hne : one ≠ other) (ha : asV v one = some a) (hb : asV v other = some b) (ho1 : okN v one b = true) (ho2 : okN v other a = true) : wyN v one a + wyN v other b ≤ wyN v one b + wyN v other a := by
  have hab : a ≠ b := fun e => hne (as_inj hG h1 h2 ha (by rw [e]; exact hb))
  have ka := (as_ok hG h1 ha).1
  have kb := (as_ok hG h2 hb).1
  have hσ : ∀ t c, (if t = one then some b else if t = other then some a else asV v t) = some c → (t = one ∧ c = b) ∨ (t = other ∧ c = a) ∨ (t ≠ one ∧ t ≠ other ∧ asV v t = some c) := by
    intro t c h
    by_cases e1 : t = one
    · rw [if_pos e1] at h
      exact Or.inl ⟨e1, (Option.some.inj h).symm⟩
    · rw [if_neg e1] at h
      by_cases e2 : t = other
      · rw [if_pos e2] at h
        exact Or.inr (Or.inl ⟨e2, (Option.some.inj h).symm⟩)
      · rw [if_neg e2] at h
        exact Or.inr (Or.inr ⟨e1, e2, h⟩)
  have ho := opt hG (σ := fun t => if t = one then some b else if t = other then some a else asV v t) (fun t ht c hc => by
    rcases hσ t c hc with ⟨e1, e2⟩ | ⟨e1, e2⟩ | ⟨-, -, e⟩
    · rw [e1, e2]; exact ⟨kb, ho1⟩
    · rw [e1, e2]; exact ⟨ka, ho2⟩
    · exact ⟨(as_ok hG ht e).1, (as_ok hG ht e).2.1⟩) (fun t t' ht ht' htt c hc hc' => by
    rcases hσ t c hc with ⟨e1, e2⟩ | ⟨e1, e2⟩ | ⟨n1, n2, e⟩
    · rcases hσ t' c hc' with ⟨f1, f2⟩ | ⟨f1, f2⟩ | ⟨m1, m2, f⟩
      · exact htt (e1.trans f1.symm)
      · exact hab (f2.symm.trans e2)
      · exact m2 (as_inj hG ht' h2 f (by rw [e2]; exact hb))
    · rcases hσ t' c hc' with ⟨f1, f2⟩ | ⟨f1, f2⟩ | ⟨m1, m2, f⟩
      · exact hab (e2.symm.trans f2)
      · exact htt (e1.trans f1.symm)
      · exact m1 (as_inj hG ht' h1 f (by rw [e2]; exact ha))
    · rcases hσ t' c hc' with ⟨f1, f2⟩ | ⟨f1, f2⟩ | ⟨m1, m2, f⟩
      · exact n2 (as_inj hG ht h2 e (by rw [f2]; exact hb))
      · exact n1 (as_inj hG ht h1 e (by rw [f2]; exact ha))
      · exact htt (as_inj hG ht ht' e f))
  have hf : (fun t => cst v t (if t = one then some b else if t = other then some a else asV v t)) = fun t => if t = one then wyN v one b else (fun t => if t = other then wyN v other a else cst v t (asV v t)) t := by
    funext t
    by_cases e1 : t = one
    · rw [if_pos e1, if_pos e1, e1]; rfl
    · rw [if_neg e1, if_neg e1]
      by_cases e2 : t = other
      · rw [if_pos e2]
        show _ = if t = other then _ else _
        rw [if_pos e2, e2]; rfl
      · rw [if_neg e2]
        show _ = if t = other then _ else _
        rw [if_neg e2]
  rw [hf] at ho
  have u1 := sumN_upd (f := fun t => if t = other then wyN v other a else cst v t (asV v t)) (i := one) (x := wyN v one b) 6 h1
  have u2 := sumN_upd (f := fun t => cst v t (asV v t)) (i := other) (x := wyN v other a) 6 h2
  have g1 : (if one = other then wyN v other a else cst v one (asV v one)) = wyN v one a := by rw [if_neg hne, ha]; rfl
  have g2 : cst v other (asV v other) = wyN v other b := by rw [hb]; rfl
  rw [g1] at u1
  rw [g2] at u2
  dsimp only at ho
  omega
/-- a free contact taken costs no less -/
theorem exch1 {v : Nat → Int32} (hG : GV v) {one c : Nat} (h1 : one < 6) (hc : c < kV v) (hfree : ∀ t, t < 6 → asV v t ≠ some c) (ho1 : okN v one c = true) : cst v one (asV v one) ≤ wyN v one c := by
  have hσ : ∀ t e, (if t = one then some c else asV v t) = some e → (t = one ∧ e = c) ∨ (t ≠ one ∧ asV v t = some e) := by
    intro t e h
    by_cases e1 : t = one
    · rw [if_pos e1] at h
      exact Or.inl ⟨e1, (Option.some.inj h).symm⟩
    · rw [if_neg e1] at h
      exact Or.inr ⟨e1, h⟩
  have ho := opt hG (σ := fun t => if t = one then some c else asV v t) (fun t ht e he => by
    rcases hσ t e he with ⟨e1, e2⟩ | ⟨-, h⟩
    · rw [e1, e2]; exact ⟨hc, ho1⟩
    · exact ⟨(as_ok hG ht h).1, (as_ok hG ht h).2.1⟩) (fun t t' ht ht' htt e he he' => by
    rcases hσ t e he with ⟨e1, e2⟩ | ⟨n1, h⟩
    · rcases hσ t' e he' with ⟨f1, f2⟩ | ⟨m1, f⟩
      · exact htt (e1.trans f1.symm)
      · exact hfree t' ht' (by rw [← e2]; exact f)
    · rcases hσ t' e he' with ⟨f1, f2⟩ | ⟨m1, f⟩
      · exact hfree t ht (by rw [← f2]; exact h)
      · exact htt (as_inj hG ht ht' h f))
  have hf : (fun t => cst v t (if t = one then some c else asV v t)) = fun t => if t = one then wyN v one c else (fun t => cst v t (asV v t)) t := by
    funext t
    by_cases e1 : t = one
    · rw [if_pos e1, if_pos e1, e1]; rfl
    · rw [if_neg e1, if_neg e1]
  rw [hf] at ho
  have u1 := sumN_upd (f := fun t => cst v t (asV v t)) (i := one) (x := wyN v one c) 6 h1
  dsimp only at ho
  omega
/-- the cost of the first tracks -/
theorem cost_le {v : Nat → Int32} (hG : GV v) : ∀ n, n ≤ 6 → sumN (fun t => cst v t (asV v t)) n ≤ gaN v * dcV v n
  | 0, _ => Nat.zero_le _
  | n + 1, hn => by
    have ih := cost_le hG n (by omega)
    show sumN (fun t => cst v t (asV v t)) n + cst v n (asV v n) ≤ gaN v * dcV v (n + 1)
    have hc : cst v n (asV v n) ≤ if dnB v n then gaN v else 0 := by
      cases ha : asV v n with
      | none => exact Nat.le_refl _
      | some c =>
        have ho := (as_ok hG (by omega) ha).2.1
        unfold okN at ho
        rw [Bool.and_eq_true] at ho
        rw [ho.1, if_pos rfl]
        exact of_decide_eq_true ho.2
    unfold dcV
    unfold dnB at hc
    by_cases h : v (101 + 5 * n + 0) = 0
    · rw [decide_eq_true h] at hc
      rw [if_pos h]
      have : cst v n (asV v n) ≤ 0 := hc
      omega
    · rw [decide_eq_false h] at hc
      rw [if_neg h, Nat.mul_add, Nat.mul_one]
      have : cst v n (asV v n) ≤ gaN v := hc
      omega
theorem dcV_le {v : Nat → Int32} : ∀ n, dcV v n ≤ n
  | 0 => Nat.le_refl _
  | n + 1 => by
    have := dcV_le (v := v) n
    unfold dcV
    split <;> omega
theorem cost_v {v : Nat → Int32} (hG : GV v) : lsV v 6 0 = nI (sumN (fun t => cst v t (asV v t)) 6) := by
  rw [(ls_n hG 6 (Nat.le_refl 6) 0 (Nat.two_pow_pos _)).1, ← tot_sum, ← as_tot hG 6 (Nat.le_refl 6)]
  rfl

