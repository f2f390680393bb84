/-! the regions of both sides are the same -/
def EQ (A : mS) (b : Nat) (B : mS) : Prop := (∀ j, j < 134 → cb A b j = B.1 131 j) ∧ RG (B.1 131)
theorem INV_EQ {A B : mS} {h k : Nat} (hI : INV A B h k) : EQ A 1 B := ⟨INV_row hI, hI.2.2.2.2.1⟩
theorem EQ_raw {A B : mS} {b : Nat} (hI : EQ A b B) {j : Nat} (hj : j < 48) : A.1 (b + 2) j = B.1 131 j := (cb_raw hj).symm.trans (hI.1 j (by omega))
theorem EQ_bas {A B : mS} {b : Nat} (hI : EQ A b B) {j : Nat} (hj : j < 48) : A.1 (b + 3) j = B.1 131 (48 + j) := (cb_bas hj).symm.trans (hI.1 _ (by omega))
theorem EQ_set {A B : mS} {b : Nat} (hI : EQ A b B) {j : Nat} (hj : j < 5) : A.1 (b + 4) j = B.1 131 (96 + j) := (cb_set hj).symm.trans (hI.1 _ (by omega))
theorem EQ_trk {A B : mS} {b : Nat} (hI : EQ A b B) {t w : Nat} (ht : t < 6) (hw : w < 5) : A.1 (b + 6 + t) w = B.1 131 (101 + 5 * t + w) := (cb_trk ht hw).symm.trans (hI.1 _ (by omega))
theorem EQ_cnt {A B : mS} {b : Nat} (hI : EQ A b B) {w : Nat} (h3 : 3 ≤ w) (h6 : w < 6) : A.1 b w = B.1 131 (128 + w) := (cb_cnt h3 h6).symm.trans (hI.1 _ (by omega))
theorem EQ_sg {A B : mS} {b : Nat} (hI : EQ A b B) {j : Nat} (hj : j < 48) : sgS A b j = sgR B j := by
  obtain ⟨v, hv, ev⟩ := hI.2.1 j (by omega)
  obtain ⟨w, hw, ew⟩ := hI.2.1 (48 + j) (by omega)
  unfold sgS sgR
  rw [EQ_raw hI hj, EQ_bas hI hj, ev, ew]
  by_cases hl : w ≤ v
  · rw [nI_subg hl]
    by_cases h0 : 0 < nI (v - w)
    · rw [if_pos h0, if_neg (fun h => Int32.lt_irrefl (Int32.lt_trans h h0))]
    · rw [if_neg h0, if_neg (nI_pos (by omega))]
      have h9 : v - w = 0 := by
        rcases Nat.eq_zero_or_pos (v - w) with h | h
        · exact h
        · exact absurd (nI_lt (a := 0) h (by omega)) h0
      rw [h9]
      rfl
  · have h9 := nI_subl (a := v) (b := w) (by omega) (by omega)
    rw [if_neg (fun h => Int32.lt_irrefl (Int32.lt_trans h h9)), if_pos h9]
/-- which cells are touched, by the model -/
def ttR (B : mS) (c : Nat) : Bool := decide (B.1 131 96 ≤ sgR B c)
theorem rgE {A B : mS} {b : Nat} (hI : EQ A b B) : rgR B := ⟨hI.2.1, hI.2.2.1⟩
noncomputable def gR (B : mS) : Nat → Nat := gL (ttR B)
theorem gR_lt {B : mS} {c : Nat} (hc : c < 48) (ht : ttR B c = true) : gR B c < 48 := (gL_GG (ttR B) c hc ht).1
theorem frD_133 {B : mS} {c : Nat} (hc : c < 48) : (frD B).1 133 c = if ttR B c then nI (gR B c) else -1 := by
  have e : ∀ c, c < 48 → labM B 48 c = crT (ttR B) c := fun c hc => by
    show (if c < 48 then (if B.1 131 96 ≤ sgR B c then nI c else (-1 : Int32)) else _) = if ttR B c then nI c else -1
    rw [if_pos hc]
    unfold ttR
    by_cases h : B.1 131 96 ≤ sgR B c
    · rw [if_pos h, decide_eq_true h]; rfl
    · rw [if_neg h, decide_eq_false h]; rfl
  have h0 : (frD B).1 133 = rpP (labM B 48) (rpZ (labM B 48)) := by
    unfold frD frS
    rw [mset_n (by decide), mset_n (by decide), mset_s]
  rw [h0]
  exact rp_gL e (rpZ_0 labM_ok) hc
theorem jP_R {A B : mS} {b : Nat} (hI : EQ A b B) {c : Nat} (hc : c < 48) : jPass (labI A b 48) 48 c = if ttR B c then nI (gR B c) else 48 := by
  refine jp_gL (tt := ttR B) (fun c hc => ?_) (Or.inr rfl) hc
  show (if c < 48 then (if A.1 (b + 4) 0 ≤ sgS A b c then nI c else (48 : Int32)) else _) = if ttR B c then nI c else 48
  rw [if_pos hc, EQ_sg hI hc, EQ_set hI (by decide)]
  unfold ttR
  by_cases h : B.1 131 96 ≤ sgR B c
  · rw [if_pos h, decide_eq_true h]; rfl
  · rw [if_neg h, decide_eq_false h]; rfl
theorem flS_R {A B : mS} {b : Nat} (hI : EQ A b B) {c : Nat} (hc : c < 48) : flS A b 48 c = if ttR B c then gR B c else 48 := by
  unfold flS
  rw [jP_R hI hc]
  cases ht : ttR B c with
  | true =>
    have := gR_lt hc ht
    exact nI_clamp (n := gR B c) (by omega)
  | false => rfl
/-- how many of the first i cells have the label f -/
def szN (tt : Nat → Bool) (g : Nat → Nat) (f : Nat) : Nat → Nat
  | 0 => 0
  | i + 1 => if tt i = true ∧ g i = f then szN tt g f i + 1 else szN tt g f i
theorem szN_s {tt : Nat → Bool} {g : Nat → Nat} {f i : Nat} : szN tt g f (i + 1) = if tt i = true ∧ g i = f then szN tt g f i + 1 else szN tt g f i := rfl
theorem szN_le {tt : Nat → Bool} {g : Nat → Nat} {f : Nat} : ∀ i, szN tt g f i ≤ i
  | 0 => Nat.le_refl _
  | i + 1 => by
    have := szN_le (tt := tt) (g := g) (f := f) i
    unfold szN
    split <;> omega
theorem szN_pos {tt : Nat → Bool} {g : Nat → Nat} {f : Nat} : ∀ i, 0 < szN tt g f i ↔ ∃ j, j < i ∧ tt j = true ∧ g j = f
  | 0 => ⟨fun h => absurd h (Nat.lt_irrefl 0), fun ⟨j, hj, _⟩ => absurd hj (Nat.not_lt_zero j)⟩
  | i + 1 => by
    have ih := szN_pos (tt := tt) (g := g) (f := f) i
    unfold szN
    by_cases h : tt i = true ∧ g i = f
    · rw [if_pos h]
      exact ⟨fun _ => ⟨i, by omega, h⟩, fun _ => by omega⟩
    · rw [if_neg h, ih]
      constructor
      · intro ⟨j, hj, h2⟩
        exact ⟨j, by omega, h2⟩
      · intro ⟨j, hj, h2⟩
        refine ⟨j, ?_, h2⟩
        have : j ≠ i := fun e => h (by rw [← e]; exact h2)
        omega
def rok (tt : Nat → Bool) (g : Nat → Nat) (r : Nat → Int32) : Prop := ∀ i, i < 48 → (tt i = true → r i = nI (g i) ∧ g i < 48) ∧ (tt i = false → r i < 0 ∨ 48 ≤ r i)
theorem mz_t {z : (Nat → Int32) × (Nat → Int32)} {r sig : Nat → Int32} {tt : Nat → Bool} {g : Nat → Nat} (hr : rok tt g r) {i : Nat} (hi : i < 48) (ht : tt i = true) : mzF z r sig (i + 1) = (upd (mzF z r sig i).1 (g i) ((mzF z r sig i).1 (g i) + 1), upd (mzF z r sig i).2 (g i) (if (mzF z r sig i).2 (g i) < sig i then sig i else (mzF z r sig i).2 (g i))) := by
  obtain ⟨e, hg⟩ := (hr i hi).1 ht
  show (if r i < 0 ∨ 48 ≤ r i then _ else _) = _
  rw [e, if_neg, nI_clamp (by omega)]
  intro h
  rcases h with h | h
  · exact nI_pos (by omega) h
  · exact nI_ge (a := g i) (b := 48) hg (by decide) h
theorem mz_f {z : (Nat → Int32) × (Nat → Int32)} {r sig : Nat → Int32} {tt : Nat → Bool} {g : Nat → Nat} (hr : rok tt g r) {i : Nat} (hi : i < 48) (ht : tt i = false) : mzF z r sig (i + 1) = mzF z r sig i := if_pos ((hr i hi).2 ht)
theorem mz_same {z z' : (Nat → Int32) × (Nat → Int32)} {r r' sig sig' : Nat → Int32} {tt : Nat → Bool} {g : Nat → Nat} (hz : ∀ f, f < 48 → z.1 f = z'.1 f ∧ z.2 f = z'.2 f) (hr : rok tt g r) (hr' : rok tt g r') (hs : ∀ i, i < 48 → sig i = sig' i) : ∀ i, i ≤ 48 → ∀ f, f < 48 → (mzF z r sig i).1 f = (mzF z' r' sig' i).1 f ∧ (mzF z r sig i).2 f = (mzF z' r' sig' i).2 f
  | 0, _ => hz
  | i + 1, hi => by
    have ih := mz_same hz hr hr' hs i (by omega)
    cases ht : tt i with
    | false =>
      rw [mz_f hr (by omega) ht, mz_f hr' (by omega) ht]
      exact ih
    | true =>
      have hg := ((hr i (by omega)).1 ht).2
      rw [mz_t hr (by omega) ht, mz_t hr' (by omega) ht, (ih _ hg).1, (ih _ hg).2, hs i (by omega)]
      intro f hf
      unfold upd
      dsimp only
      by_cases e : f = g i
      · exact ⟨by rw [if_pos e, if_pos e], by rw [if_pos e, if_pos e]⟩
      · exact ⟨by rw [if_neg e, if_neg e]; exact (ih f hf).1, by rw [if_neg e, if_neg e]; exact (ih f hf).2⟩
theorem mz_sz {z : (Nat → Int32) × (Nat → Int32)} {r sig : Nat → Int32} {tt : Nat → Bool} {g : Nat → Nat} (hz : ∀ f, f < 48 → z.1 f = 0) (hr : rok tt g r) : ∀ i, i ≤ 48 → ∀ f, f < 48 → (mzF z r sig i).1 f = nI (szN tt g f i)
  | 0, _ => hz
  | i + 1, hi => by
    have ih := mz_sz (sig := sig) hz hr i (by omega)
    intro f hf
    cases ht : tt i with
    | false =>
      rw [mz_f hr (by omega) ht, ih f hf, szN_s, if_neg (by rw [ht]; simp)]
    | true =>
      rw [mz_t hr (by omega) ht]
      show upd (mzF z r sig i).1 (g i) ((mzF z r sig i).1 (g i) + 1) f = _
      rw [szN_s]
      unfold upd
      by_cases e : f = g i
      · rw [if_pos e, if_pos ⟨ht, e.symm⟩, ← e, ih f hf, nI_1]
      · rw [if_neg e, if_neg (fun h => e h.2.symm), ih f hf]
theorem rok_A {A B : mS} {b : Nat} (hI : EQ A b B) : rok (ttR B) (gR B) (jPass (labI A b 48) 48) := fun i hi => by
  rw [jP_R hI hi]
  refine ⟨fun ht => ?_, fun ht => ?_⟩
  · rw [ht]; exact ⟨rfl, gR_lt hi ht⟩
  · rw [ht]; exact Or.inr (Int32.le_refl _)
theorem rok_B {B : mS} : rok (ttR B) (gR B) ((frD B).1 133) := fun i hi => by
  rw [frD_133 hi]
  refine ⟨fun ht => ?_, fun ht => ?_⟩
  · rw [ht]; exact ⟨rfl, gR_lt hi ht⟩
  · rw [ht]; exact Or.inl (show (-1 : Int32) < 0 by decide)
theorem frD_r {B : mS} : (frD B).1 134 = (mzF (zt (B.1 134) 48, zt (B.1 135) 48) ((frD B).1 133) (sgR B) 48).1 ∧ (frD B).1 135 = (mzF (zt (B.1 134) 48, zt (B.1 135) 48) ((frD B).1 133) (sgR B) 48).2 := by
  have h0 : (frD B).1 133 = rpP (labM B 48) (rpZ (labM B 48)) := by
    unfold frD frS
    rw [mset_n (by decide), mset_n (by decide), mset_s]
  rw [h0]
  unfold frD frS
  exact ⟨by rw [mset_n (by decide), mset_s], by rw [mset_s]⟩
theorem regS_r {A : mS} {b : Nat} : (regS A b 48).1 101 = (mzF (zt (A.1 101) 48, zt (A.1 102) 48) (jPass (labI A b 48) 48) (sgS A b) 48).1 ∧ (regS A b 48).1 102 = (mzF (zt (A.1 101) 48, zt (A.1 102) 48) (jPass (labI A b 48) 48) (sgS A b) 48).2 := by
  unfold regS
  exact ⟨by rw [mset_n (by decide), mset_s], by rw [mset_s]⟩
theorem zt_z {row : Nat → Int32} {f : Nat} (hf : f < 48) : zt row 48 f = 0 := if_pos hf
/-- sizes and greatest signals -/
theorem sz_eq {A B : mS} {b : Nat} (hI : EQ A b B) {f : Nat} (hf : f < 48) : (regS A b 48).1 101 f = (frD B).1 134 f ∧ (regS A b 48).1 102 f = (frD B).1 135 f := by
  rw [frD_r.1, frD_r.2, regS_r.1, regS_r.2]
  have h := mz_same (z := (zt (A.1 101) 48, zt (A.1 102) 48)) (z' := (zt (B.1 134) 48, zt (B.1 135) 48)) (sig := sgS A b) (sig' := sgR B) (fun f hf => ⟨(zt_z hf).trans (zt_z hf).symm, (zt_z hf).trans (zt_z hf).symm⟩) (rok_A hI) (rok_B (B := B)) (fun i hi => EQ_sg hI hi) 48 (Nat.le_refl _) f hf
  exact h
theorem sz_pos {B : mS} {f : Nat} (hf : f < 48) : 0 < (frD B).1 134 f ↔ (ttR B f = true ∧ gR B f = f) := by
  rw [frD_r.1, mz_sz (fun f hf => zt_z hf) rok_B 48 (Nat.le_refl _) f hf]
  have h1 := szN_le (tt := ttR B) (g := gR B) (f := f) 48
  have h2 : 0 < nI (szN (ttR B) (gR B) f 48) ↔ 0 < szN (ttR B) (gR B) f 48 := nI_ltI (a := 0) (by omega) (by omega)
  rw [h2, szN_pos]
  constructor
  · intro ⟨j, hj, ht, hg⟩
    obtain ⟨a1, ⟨q, hq⟩, a3⟩ := gL_GG (ttR B) j hj ht
    have e : gL (ttR B) j = f := hg
    rw [e] at hq
    obtain ⟨a4, a5⟩ := rch_start hq hj ht
    refine ⟨a5, ?_⟩
    show gL (ttR B) f = f
    rw [GC_con (gL_GC (ttR B)) hq]
    exact e
  · intro ⟨ht, hg⟩
    exact ⟨f, hf, ht, hg⟩
theorem knd_eq {A B : mS} {b : Nat} (hI : EQ A b B) {f : Nat} (hf : f < 48) : kndR (regS A b 48) f = kndM (frD B) f := by
  unfold kndR kndM
  obtain ⟨e1, e2⟩ := sz_eq hI hf
  have e3 : (regS A b 48).1 99 3 = B.1 131 97 := by
    unfold regS
    rw [mset_n (by decide), mset_n (by decide), mset_n (by decide), mupd_sn (by decide), mupd_ss]
    exact EQ_set hI (by decide)
  have e4 : (regS A b 48).1 99 4 = B.1 131 98 := by
    unfold regS
    rw [mset_n (by decide), mset_n (by decide), mset_n (by decide), mupd_ss]
    exact EQ_set hI (by decide)
  rw [e1, e2, e3, e4, frD_n (q := 131) (by omega)]
theorem regSn {A : mS} {b k q : Nat} (h : q < 99 ∨ 102 < q) : (regS A b k).1 q = A.1 q := by
  unfold regS
  rw [mset_n (by omega), mset_n (by omega), mset_n (by omega), mupd_n (by omega), mupd_n (by omega)]
theorem regS_CW {A : mS} {b k : Nat} : CW A (regS A b k) := ⟨fun q h1 _ => regSn (by omega), regSn (by omega), regSn (by omega), rfl⟩
theorem frD_RW {B : mS} {x : Int32} : RW B (frD (mupd B 130 0 x)) := by
  refine ⟨?_, ?_, ?_, ?_⟩
  · rw [frD_n (by omega)]; exact mupd_n (by decide)
  · rw [frD_n (by omega)]; exact mupd_n (by decide)
  · rw [frD_n (by omega)]; exact mupd_sn (by decide)
  · rw [frD_n (by omega)]; exact mupd_sn (by decide)
theorem frD_2 {B : mS} : (frD B).2 = B.2 := rfl
theorem EQ_cg {A A' B B' : mS} {b : Nat} (hI : EQ A b B) (ha : ∀ q, b ≤ q → q < b + 12 → A'.1 q = A.1 q) (hb : B'.1 131 = B.1 131) : EQ A' b B' := ⟨fun j hj => by rw [hb, cb_rows ha j hj]; exact hI.1 j hj, by rw [hb]; exact hI.2⟩
section LCR
variable {S S1 : mS} {h k : Nat} {x y v r1 : Int32}
/-- a call that only looks: the class's side in S1, the model's in S2 -/
theorem LC_look {S S1 S2 : mS} {h k : Nat} {w r2 : Int32} (hI : INV S S h k) (hA : CW S S1) (hR : RLs S (S1.1, (S1.2.1, w.toInt64))) (hB : RW (S1.1, (S1.2.1, w.toInt64)) S2) (e : S2.2 = (S1.2.1, w.toInt64)) (c : ∀ q, q < 130 → S2.1 q = (S1.1, (S1.2.1, w.toInt64)).1 q) (h0 : S2.1 130 0 = 0) (hr : w = r2) : LCok S2 0 r2 :=
  LC_mk (S1 := (S1.1, (S1.2.1, w.toInt64))) (h := h) (k := k) e c (INV_cg hI ⟨hA.1, hA.2.1, hA.2.2.1, hA.2.2.2⟩ (RW.trans hR.rw hB)) h0 (fun _ => congrArg Int32.toInt64 hr)
theorem LP_look {S S1 S2 : mS} {h k : Nat} {w r2 : Int32} (hI : INV S S h k) (hA : CW S S1) (hR : RLs S S1) (hB : RW S1 S2) (e : S2.2 = S1.2) (c : ∀ q, q < 130 → S2.1 q = S1.1 q) (hr : w = r2) : LPok S2 w r2 :=
  LP_mk (S1 := S1) (h := h) (k := k) e c (INV_cg hI hA (RW.trans hR.rw hB)) hr
theorem lc_regionSize (hI : INV S S h k) (h1 : hlP (pC_regionSize S h k x y v) (pX_regionSize S h k x y v) cdI r1 S1) : RLs S S1 ∧ ∀ r2 S2, pR_regionSize S1 h k x y v r2 S2 → LCok S2 r1 r2 := by
  rcases h1 with ⟨rfl, w, T, hp, rfl⟩ | ⟨E, hp, hc⟩
  · obtain ⟨i, j, hi, hj, ex, ey, rfl, hw⟩ := hp
    have hR : RLs S ((regS S 1 48).1, ((regS S 1 48).2.1, w.toInt64)) := fun q hq => regSn (by omega)
    refine ⟨hR, fun r2 S2 h2 => ?_⟩
    rcases h2 with ⟨hn, -⟩ | ⟨i2, j2, hi2, hj2, ex2, ey2, rfl, hr2⟩
    · exact absurd ⟨⟨i, hi, ex⟩, j, hj, ey⟩ hn
    · obtain ⟨rfl, rfl⟩ := ij_uniq hi hj hi2 hj2 (ex.symm.trans ex2) (ey.symm.trans ey2)
      refine LC_look hI regS_CW hR frD_RW rfl (fun q hq => (frD_n (by omega)).trans (mupd_n (by omega))) ((congrFun (frD_n (by omega)) 0).trans mupd_ss) (hw.trans (Eq.trans ?_ hr2.symm))
      have hE : EQ S 1 (mupd ((regS S 1 48).1, ((regS S 1 48).2.1, w.toInt64)) 130 0 0) := EQ_cg (INV_EQ hI) (fun q _ _ => rfl) ((mupd_n (by decide)).trans (regSn (A := S) (b := 1) (k := 48) (q := 131) (by omega)))
      rw [flS_R hE (by omega), frD_133 (by omega)]
      by_cases ht : ttR (mupd ((regS S 1 48).1, ((regS S 1 48).2.1, w.toInt64)) 130 0 0) (6 * i2 + j2) = true
      · have hg := gR_lt (by omega) ht
        rw [if_pos ht, if_pos ht, if_neg (Nat.ne_of_lt hg), if_neg (nI_nm1 (Nat.lt_trans hg (by decide))), nI_clamp (Nat.lt_trans hg (by decide))]
        exact (sz_eq hE hg).1
      · rw [if_neg ht, if_neg ht, if_pos rfl, if_pos rfl]
  · obtain ⟨rfl, rfl, hn⟩ := hp
    obtain ⟨-, rfl⟩ := hc
    refine ⟨RLs.refl, fun r2 S2 h2 => ?_⟩
    rcases h2 with ⟨-, rfl⟩ | ⟨i2, j2, hi2, hj2, ex2, ey2, -, -⟩
    · exact LC_thr hI (by decide)
    · exact absurd ⟨⟨i2, hi2, ex2⟩, j2, hj2, ey2⟩ hn
theorem lc_regionKind (hI : INV S S h k) (h1 : hlP (pC_regionKind S h k x y v) (pX_regionKind S h k x y v) cdI r1 S1) : RLs S S1 ∧ ∀ r2 S2, pR_regionKind S1 h k x y v r2 S2 → LCok S2 r1 r2 := by
  rcases h1 with ⟨rfl, w, T, hp, rfl⟩ | ⟨E, hp, hc⟩
  · obtain ⟨i, j, hi, hj, ex, ey, rfl, hw⟩ := hp
    have hR : RLs S ((regS S 1 48).1, ((regS S 1 48).2.1, w.toInt64)) := fun q hq => regSn (by omega)
    refine ⟨hR, fun r2 S2 h2 => ?_⟩
    rcases h2 with ⟨hn, -⟩ | ⟨i2, j2, hi2, hj2, ex2, ey2, rfl, hr2⟩
    · exact absurd ⟨⟨i, hi, ex⟩, j, hj, ey⟩ hn
    · obtain ⟨rfl, rfl⟩ := ij_uniq hi hj hi2 hj2 (ex.symm.trans ex2) (ey.symm.trans ey2)
      refine LC_look hI regS_CW hR frD_RW rfl (fun q hq => (frD_n (by omega)).trans (mupd_n (by omega))) ((congrFun (frD_n (by omega)) 0).trans mupd_ss) (hw.trans (Eq.trans ?_ hr2.symm))
      have hE : EQ S 1 (mupd ((regS S 1 48).1, ((regS S 1 48).2.1, w.toInt64)) 130 0 0) := EQ_cg (INV_EQ hI) (fun q _ _ => rfl) ((mupd_n (by decide)).trans (regSn (A := S) (b := 1) (k := 48) (q := 131) (by omega)))
      rw [flS_R hE (by omega), frD_133 (by omega)]
      by_cases ht : ttR (mupd ((regS S 1 48).1, ((regS S 1 48).2.1, w.toInt64)) 130 0 0) (6 * i2 + j2) = true
      · have hg := gR_lt (by omega) ht
        rw [if_pos ht, if_pos ht, if_neg (Nat.ne_of_lt hg), if_neg (nI_nm1 (Nat.lt_trans hg (by decide))), nI_clamp (Nat.lt_trans hg (by decide))]
        exact knd_eq hE hg
      · rw [if_neg ht, if_neg ht, if_pos rfl, if_pos rfl]
  · obtain ⟨rfl, rfl, hn⟩ := hp
    obtain ⟨-, rfl⟩ := hc
    refine ⟨RLs.refl, fun r2 S2 h2 => ?_⟩
    rcases h2 with ⟨-, rfl⟩ | ⟨i2, j2, hi2, hj2, ex2, ey2, -, -⟩
    · exact LC_thr hI (by decide)
    · exact absurd ⟨⟨i2, hi2, ex2⟩, j2, hj2, ey2⟩ hn
theorem lc_regions (hI : INV S S h k) (h1 : hlP (pC_regions S h k x y v) (pX_regions S h k x y v) cdA r1 S1) : RLs S S1 ∧ ∀ r2 S2, pR_regions S1 h k x y v r2 S2 → LCok S2 r1 r2 := by
  rcases h1 with ⟨rfl, w, T, hp, rfl⟩ | ⟨E, hp, hc⟩
  · obtain ⟨hv, rfl, hw⟩ := hp
    have hR : RLs S ((regS S 1 48).1, ((regS S 1 48).2.1, w.toInt64)) := fun q hq => regSn (by omega)
    refine ⟨hR, fun r2 S2 h2 => ?_⟩
    rcases h2 with ⟨hn, -⟩ | ⟨-, rfl, hr2⟩
    · rw [hv] at hn; cases hn
    · refine LC_look hI regS_CW hR frD_RW rfl (fun q hq => (frD_n (by omega)).trans (mupd_n (by omega))) ((congrFun (frD_n (by omega)) 0).trans mupd_ss) (hw.trans (Eq.trans ?_ hr2.symm))
      have hE : EQ S 1 (mupd ((regS S 1 48).1, ((regS S 1 48).2.1, w.toInt64)) 130 0 0) := EQ_cg (INV_EQ hI) (fun q _ _ => rfl) ((mupd_n (by decide)).trans (regSn (A := S) (b := 1) (k := 48) (q := 131) (by omega)))
      generalize mupd ((regS S 1 48).1, ((regS S 1 48).2.1, w.toInt64)) 130 0 0 = B at hE
      refine (cnt_cg 48 fun j hj => ?_).trans (cnt_bz (q := fun i => decide (0 < (frD B).1 134 i) && decide (kndM (frD B) i = v)) (f := rgN (frD B) v) (N := 48) rfl (fun i hi => rfl) 48 (by omega))
      rw [flS_R hE hj, ← Bool.decide_and]
      refine decide_eq_decide.mpr ?_
      rw [sz_pos hj, knd_eq hE hj]
      cases ht : ttR B j with
      | false => exact ⟨fun h => absurd h.1 (by show ¬ (48 = j); omega), fun h => by have := h.1.1; cases this⟩
      | true => exact ⟨fun h => ⟨⟨rfl, h.1⟩, h.2⟩, fun h => ⟨h.1.2, h.2⟩⟩
  · obtain ⟨rfl, rfl, hn⟩ := hp
    obtain ⟨-, rfl⟩ := hc
    refine ⟨RLs.refl, fun r2 S2 h2 => ?_⟩
    rcases h2 with ⟨-, rfl⟩ | ⟨hv, -⟩
    · exact LC_thr hI (by decide)
    · rw [hv] at hn; cases hn
end LCR

