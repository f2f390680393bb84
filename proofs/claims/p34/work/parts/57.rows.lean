/-! matchings in closed form -/
theorem nI_subg {a b : Nat} (h : b ≤ a) : nI a - nI b = nI (a - b) := by
  have e : nI a = nI (a - b) + nI b := by rw [nI_add, Nat.sub_add_cancel h]
  rw [e, Int32.add_sub_cancel]
theorem nI_sq {a b : Nat} (ha : a < 701) (hb : b < 701) : ∃ n, n ≤ 490000 ∧ (nI a - nI b) * (nI a - nI b) = nI n := by
  rcases Nat.le_total b a with h | h
  · exact ⟨(a - b) * (a - b), Nat.mul_le_mul (show a - b ≤ 700 by omega) (show a - b ≤ 700 by omega), by rw [nI_subg h, pk_mul]⟩
  · refine ⟨(b - a) * (b - a), Nat.mul_le_mul (show b - a ≤ 700 by omega) (show b - a ≤ 700 by omega), ?_⟩
    have e : nI a - nI b = -(nI b - nI a) := Int32.neg_sub.symm
    rw [e, Int32.neg_mul, Int32.mul_neg, Int32.neg_neg, nI_subg h, pk_mul]
theorem or_lt {s c k : Nat} (hs : s < 2 ^ k) (hc : c < k) : (s ||| 1 <<< c) < 2 ^ k := by
  refine Nat.or_lt_two_pow hs ?_
  rw [Nat.one_shiftLeft]
  exact Nat.pow_lt_pow_right (by decide) hc
theorem two6 {k s : Nat} (hk : k ≤ 6) (hs : s < 2 ^ k) : s < 64 := Nat.lt_of_lt_of_le hs (show 2 ^ k ≤ 64 from Nat.pow_le_pow_right (n := 2) (by decide) hk)
theorem mfB_t {A : mS} {b k t : Nat} (ht : t ≤ 6) : (mfB A b k).1 (119 + t) = lsR (mfA A b k) k (6 - t) := by
  unfold mfB
  show (if 119 ≤ 119 + t ∧ 119 + t ≤ 124 then (if 125 - (119 + t) ≤ 6 then lsR (mfA A b k) k (125 - (119 + t)) else _) else (mfA A b k).1 (119 + t)) = _
  by_cases h : t = 6
  · subst h
    rw [if_neg (by omega)]
    rfl
  · rw [if_pos (by omega), if_pos (by omega), show 125 - (119 + t) = 6 - t by omega]
theorem mfB_p {A : mS} {b k t : Nat} (ht : t < 6) : (mfB A b k).1 (111 + t) = (mfA A b k).1 (111 + t) := by
  unfold mfB
  exact gqS_n (by omega)
theorem fqS_117 {S : mS} {b k t u i : Nat} {lim : Int32} : (fqS S b k lim t u i).1 117 = (fun j => if j < u then ncS S b lim j else S.1 117 j) := by
  unfold fqS
  simp
theorem fbN_spec {q : Nat → Bool} : ∀ {n : Nat}, (∀ c, fbN q n = some c → c < n ∧ q c = true ∧ ∀ j, j < c → q j = false) ∧ (fbN q n = none → ∀ j, j < n → q j = false)
  | 0 => ⟨fun c h => (by cases h), fun _ j hj => absurd hj (Nat.not_lt_zero j)⟩
  | n + 1 => by
    obtain ⟨h1, h2⟩ := fbN_spec (q := q) (n := n)
    have hu : fbN q (n + 1) = match fbN q n with | some c => some c | none => if q n then some n else none := rfl
    cases hf : fbN q n with
    | some c =>
      rw [hf] at hu
      have hu2 : fbN q (n + 1) = some c := hu
      rw [hu2]
      refine ⟨fun d hd => ?_, fun h => (by cases h)⟩
      cases hd
      obtain ⟨a1, a2, a3⟩ := h1 c hf
      exact ⟨by omega, a2, a3⟩
    | none =>
      rw [hf] at hu
      have hu2 : fbN q (n + 1) = if q n then some n else none := hu
      rw [hu2]
      cases hq : q n with
      | true =>
        refine ⟨fun d hd => ?_, fun h => (by cases h)⟩
        cases hd
        exact ⟨by omega, hq, h2 hf⟩
      | false =>
        refine ⟨fun d hd => (by cases hd), fun _ j hj => ?_⟩
        by_cases e : j = n
        · rw [e]; exact hq
        · exact h2 hf j (by omega)
theorem mfS_out {A : mS} {b k q : Nat} (h : q < 109 ∨ q = 125 ∨ 126 < q) : (mfS A b k).1 q = A.1 q := by
  unfold mfS asgT
  rw [mset_n (by omega), mupd_n (by omega)]
  unfold mfB mfA
  rw [gqS_n (by omega), fqS_n (by omega), mupd_n (by omega)]
noncomputable def kV (v : Nat → Int32) : Nat := (ctV v).length
noncomputable def rpV (v : Nat → Int32) (j : Nat) : Int32 := rwV v ((ctV v).getD j 0)
noncomputable def cpV (v : Nat → Int32) (j : Nat) : Int32 := clV v ((ctV v).getD j 0)
noncomputable def wyV (v : Nat → Int32) (t j : Nat) : Int32 := (v (101 + 5 * t + 1) - rpV v j) * (v (101 + 5 * t + 1) - rpV v j) + (v (101 + 5 * t + 2) - cpV v j) * (v (101 + 5 * t + 2) - cpV v j)
noncomputable def pcV (v : Nat → Int32) (t j : Nat) : Int32 := if v (101 + 5 * t + 0) = 0 then -1 else if wyV v t j ≤ v 99 * v 99 then wyV v t j else -1
def nnV (v : Nat → Int32) (t : Nat) : Int32 := if v (101 + 5 * t + 0) = 0 then 0 else v 99 * v 99
noncomputable def lsV (v : Nat → Int32) : Nat → Nat → Int32
  | 0 => fun _ => 0
  | d + 1 => fun s => lcF (pcV v (5 - d)) (lsV v d) s (nnV v (5 - d) + lsV v d s) (kV v)
noncomputable def asPV (v : Nat → Int32) (tk t c : Nat) : Bool := ctB (pcV v t) tk c && decide (pcV v t c + lsV v (5 - t) (tk ||| 1 <<< c) = lsV v (6 - t) tk)
def tkS (tk : Nat) (o : Option Nat) : Nat := match o with
  | some c => tk ||| 1 <<< c
  | none => tk
noncomputable def tkV (v : Nat → Int32) : Nat → Nat
  | 0 => 0
  | t + 1 => tkS (tkV v t) (fbN (asPV v (tkV v t) t) (kV v))
noncomputable def asV (v : Nat → Int32) (t : Nat) : Option Nat := fbN (asPV v (tkV v t) t) (kV v)
theorem tk_s {v : Nat → Int32} {t : Nat} : tkV v (t + 1) = tkS (tkV v t) (asV v t) := by
  unfold asV
  rw [tkV]
theorem lcF_cg {pr pr' nx nx' : Nat → Int32} {s k : Nat} {base base' : Int32} (hb : base = base') (hp : ∀ c, c < k → pr c = pr' c) (hn : ∀ c, c < k → nx (s ||| 1 <<< c) = nx' (s ||| 1 <<< c)) : ∀ i, i ≤ k → lcF pr nx s base i = lcF pr' nx' s base' i
  | 0, _ => hb
  | i + 1, hi => by
    have ih := lcF_cg hb hp hn i (by omega)
    have e : ctB pr s i = ctB pr' s i := by
      unfold ctB
      rw [hp i (by omega)]
    unfold lcF
    rw [e, hp i (by omega), hn i (by omega), ih]
theorem fbN_cg {q q' : Nat → Bool} : ∀ {n : Nat}, (∀ c, c < n → q c = q' c) → fbN q n = fbN q' n
  | 0, _ => rfl
  | n + 1, h => by
    have ih := fbN_cg (q := q) (q' := q') (n := n) fun c hc => h c (by omega)
    unfold fbN
    rw [ih, h n (by omega)]
/-- what a matching is made of -/
def mtX (T : mS) (b k : Nat) (v : Nat → Int32) : Prop := k = kV v ∧ k ≤ 6 ∧ b + 12 ≤ 99 ∧ (∀ t, t < 6 → ∀ w, w < 5 → T.1 (b + 6 + t) w = v (101 + 5 * t + w)) ∧ T.1 (b + 4) 3 = v 99 ∧ (∀ c, c < k → T.1 105 c = rpV v c ∧ T.1 106 c = cpV v c) ∧ ∀ s, s < 64 → T.1 125 s = 0
theorem mt_row {T : mS} {b k : Nat} {v : Nat → Int32} (hx : mtX T b k v) {t : Nat} (ht : t < 6) : (∀ c, c < k → (mfA T b k).1 (111 + t) c = pcV v t c) ∧ (mfA T b k).1 117 t = nnV v t := by
  obtain ⟨hk, hk6, hb, h1, h2, h3, hz⟩ := hx
  have et : (mupd T 109 5 (nI k)).1 (b + 6 + t) = T.1 (b + 6 + t) := mupd_n (by omega)
  have e5 : (mupd T 109 5 (nI k)).1 105 = T.1 105 := mupd_n (by decide)
  have e6 : (mupd T 109 5 (nI k)).1 106 = T.1 106 := mupd_n (by decide)
  constructor
  · intro c hc
    unfold mfA
    rw [fqS_p ht]
    show (if (t < 6 ∧ c < k) ∨ (t = 6 ∧ c < 0) then _ else _) = _
    rw [if_pos (Or.inl ⟨ht, hc⟩)]
    unfold pcS wayS pcV wyV
    rw [et, e5, e6, h1 t ht 0 (by omega), h1 t ht 1 (by omega), h1 t ht 2 (by omega), (h3 c hc).1, (h3 c hc).2, h2]
  · unfold mfA
    rw [fqS_117]
    show (if t < 6 then _ else _) = _
    rw [if_pos ht]
    unfold ncS nnV
    rw [et, h1 t ht 0 (by omega), h2]
theorem mt_ls {T : mS} {b k : Nat} {v : Nat → Int32} (hx : mtX T b k v) : ∀ d, d ≤ 6 → ∀ s, s < 2 ^ k → lsR (mfA T b k) k d s = lsV v d s
  | 0, _, s, hs => by
    show (mfA T b k).1 125 s = 0
    unfold mfA
    rw [fqS_n (by omega), mupd_n (by omega)]
    exact hx.2.2.2.2.2.2 s (Nat.lt_of_lt_of_le hs (show 2 ^ k ≤ 64 from Nat.pow_le_pow_right (n := 2) (by decide) hx.2.1))
  | d + 1, hd, s, hs => by
    have ih := mt_ls hx d (by omega)
    obtain ⟨r1, r2⟩ := mt_row hx (t := 5 - d) (by omega)
    show (if s < 2 ^ k then lcF ((mfA T b k).1 (111 + (5 - d))) (lsR (mfA T b k) k d) s ((mfA T b k).1 117 (5 - d) + lsR (mfA T b k) k d s) k else _) = lcF (pcV v (5 - d)) (lsV v d) s (nnV v (5 - d) + lsV v d s) (kV v)
    rw [if_pos hs, ← hx.1]
    exact lcF_cg (by rw [r2, ih s hs]) r1 (fun c hc => ih _ (or_lt hs hc)) k (Nat.le_refl k)
theorem mt_asP {T : mS} {b k : Nat} {v : Nat → Int32} (hx : mtX T b k v) {t tk c : Nat} (ht : t < 6) (htk : tk < 2 ^ k) (hc : c < k) : asP (mfB T b k) tk t c = asPV v tk t c := by
  obtain ⟨r1, -⟩ := mt_row hx ht
  unfold asP asPV ctB
  rw [mfB_p ht, r1 c hc, mfB_t (t := t + 1) (by omega), mfB_t (t := t) (by omega), mt_ls hx _ (by omega) _ (or_lt htk hc), mt_ls hx _ (by omega) _ htk, show 6 - (t + 1) = 5 - t by omega]
theorem mt_tk {T : mS} {b k : Nat} {v : Nat → Int32} (hx : mtX T b k v) : ∀ t, t ≤ 6 → tkA (mfB T b k) k t = tkV v t ∧ tkV v t < 2 ^ k
  | 0, _ => ⟨rfl, Nat.two_pow_pos k⟩
  | t + 1, ht => by
    obtain ⟨ih1, ih2⟩ := mt_tk hx t (by omega)
    have e : fbN (asP (mfB T b k) (tkV v t) t) k = fbN (asPV v (tkV v t) t) k := fbN_cg fun c hc => mt_asP hx (by omega) ih2 hc
    have u1 : tkA (mfB T b k) k (t + 1) = tkS (tkA (mfB T b k) k t) (fbN (asP (mfB T b k) (tkA (mfB T b k) k t) t) k) := by
      unfold tkS
      rw [tkA]
      generalize fbN (asP (mfB T b k) (tkA (mfB T b k) k t) t) k = o
      cases o with
      | none => rfl
      | some c => rfl
    rw [u1, tk_s, ih1, e]
    unfold asV
    rw [← hx.1]
    refine ⟨rfl, ?_⟩
    cases hf : fbN (asPV v (tkV v t) t) k with
    | none => exact ih2
    | some c => exact or_lt ih2 (fbN_lt hf).1
theorem mt_as {T : mS} {b k : Nat} {v : Nat → Int32} (hx : mtX T b k v) {t : Nat} (ht : t < 6) : asA (mfB T b k) k t = asV v t := by
  obtain ⟨h1, h2⟩ := mt_tk hx t (by omega)
  unfold asA asV
  rw [h1, ← hx.1]
  exact fbN_cg fun c hc => mt_asP hx ht h2 hc
theorem mtX_P {S : mS} {P : mS × Nat} {b : Nat} {v : Nat → Int32} (hv : vw S b = v) (h1 : P.2 = (ctV v).length) (h2 : ∀ j c, (ctV v)[j]? = some c → c < 48 ∧ 0 < cdV v c ∧ ∀ q, q < 4 → P.1.1 (105 + q) j = prV v q c) (hn : ∀ q, q < 99 ∨ 108 < q → P.1.1 q = S.1 q) (h6 : P.2 ≤ 6) (hb : b + 12 ≤ 99) (hz : ∀ s, s < 64 → S.1 125 s = 0) : mtX P.1 b P.2 v := by
  refine ⟨h1, h6, hb, fun t ht w hw => ?_, ?_, fun c hc => ?_, fun s hs => ?_⟩
  · rw [hn _ (by omega), ← hv, vw_trk ht hw]
  · rw [hn _ (by omega), ← hv]
    exact (vw_set (q := 3) (by decide)).symm
  · have hc2 : (ctV v)[c]? = some ((ctV v).getD c 0) := by
      rw [List.getD_eq_getElem?_getD]
      rw [h1] at hc
      rw [List.getElem?_eq_getElem hc]
      rfl
    obtain ⟨-, -, a3⟩ := h2 c _ hc2
    refine ⟨?_, ?_⟩
    · have := a3 0 (by decide)
      rw [prV_0] at this
      exact this
    · have := a3 1 (by decide)
      rw [prV_1] at this
      exact this
  · rw [hn _ (by omega)]; exact hz s hs
theorem mtX_of {S : mS} {b : Nat} (hb : b + 12 ≤ 99) (hz : ∀ s, s < 64 → S.1 125 s = 0) : mtX (ctP S b 48).1 b (ctP S b 48).2 (vw S b) :=
  mtX_P rfl (ct_v (by omega)).1 (ct_v (by omega)).2 (fun q hq => ctP_n hq) ctP_k.2 hb hz
theorem mt_ans {T : mS} {b k : Nat} {v : Nat → Int32} (hx : mtX T b k v) : (∀ t, t < 6 → (mfS T b k).1 126 t = oI (asV v t)) ∧ (mfS T b k).1 119 0 = lsV v 6 0 := by
  refine ⟨fun t ht => ?_, ?_⟩
  · rw [mfS_126 ht, mt_as hx ht]
  · have e : (mfS T b k).1 119 = (mfB T b k).1 119 := by
      unfold mfS asgT
      rw [mset_n (by decide), mupd_n (by decide)]
    rw [e]
    have h := mfB_t (A := T) (b := b) (k := k) (t := 0) (by decide)
    rw [show 119 + 0 = 119 from rfl] at h
    rw [h]
    exact mt_ls hx 6 (by decide) 0 (Nat.two_pow_pos k)
theorem mt_v {S : mS} (hz : ∀ s, s < 64 → S.1 125 s = 0) : (∀ t, t < 6 → (mtP S 1 48).1 126 t = oI (asV (vw S 1) t)) ∧ (mtP S 1 48).1 119 0 = lsV (vw S 1) 6 0 := by
  unfold mtP
  exact mt_ans (mtX_of (by decide) hz)

