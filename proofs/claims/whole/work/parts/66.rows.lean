/-! the scan on both sides -/
theorem umA : ∀ k, k < 7 → ((1 : Int32) <<< (nI k &&& 31)) - 1 = nI (2 ^ k - 1) ∧ 2 ^ k - 1 < 64 ∧ ∀ e, e < 6 → (2 ^ k - 1).testBit e = decide (e < k) := by decide +kernel
def clrN (u c : Nat) : Nat := u &&& (63 ^^^ (1 <<< c))
theorem umB : ∀ u, u < 64 → ∀ c, c < 6 → (nI u &&& (((1 : Int32) <<< (nI c &&& 31)) ^^^ (-1))) = nI (clrN u c) ∧ clrN u c < 64 ∧ (∀ e, e < 6 → (clrN u c).testBit e = (u.testBit e && !(decide (e = c)))) ∧ (∀ e, e < 6 → (u ||| 1 <<< c).testBit e = (u.testBit e || decide (e = c))) ∧ ((nI u >>> (nI c &&& 31)) &&& 1 = 0 ↔ u.testBit c = false) := by decide +kernel
theorem um_bits {F M' : mS} {k : Nat} (hk : k ≤ 6) (h17 : F.1 130 17 = nI k) (h141 : ∀ t, t < 6 → F.1 141 t = oI (asA M' k t)) : ∀ t, t ≤ 6 → ∃ u, u < 64 ∧ umR F t = nI u ∧ ∀ e, e < 6 → u.testBit e = (decide (e < k) && !((tkA M' k t).testBit e))
  | 0, _ => by
    obtain ⟨e1, e2, e3⟩ := umA k (by omega)
    refine ⟨2 ^ k - 1, e2, ?_, fun e he => ?_⟩
    · show ((1 : Int32) <<< (F.1 130 17 &&& 31)) - 1 = _
      rw [h17]
      exact e1
    · rw [e3 e he]
      show _ = (decide (e < k) && !((0 : Nat).testBit e))
      rw [Nat.zero_testBit]
      simp
  | t + 1, ht => by
    obtain ⟨u, hu, e1, e2⟩ := um_bits hk h17 h141 t (by omega)
    have h4 := h141 t (by omega)
    have hU : umR F (t + 1) = if F.1 141 t = -1 then umR F t else umR F t &&& (((1 : Int32) <<< (F.1 141 t &&& 31)) ^^^ (-1)) := rfl
    have hT : tkA M' k (t + 1) = match asA M' k t with | some c => tkA M' k t ||| 1 <<< c | none => tkA M' k t := rfl
    rw [hU, hT, h4, e1]
    cases ha : asA M' k t with
    | none => exact ⟨u, hu, if_pos rfl, e2⟩
    | some c =>
      have hc : c < k := ((fbN_spec (q := asP M' (tkA M' k t) t) (n := k)).1 c ha).1
      obtain ⟨b1, b2, b3, -, -⟩ := umB u hu c (by omega)
      obtain ⟨-, -, -, b4, -⟩ := umB (tkA M' k t) (tkA_lt hk t) c (by omega)
      refine ⟨clrN u c, b2, ?_, fun e he => ?_⟩
      · rw [if_neg (show ¬ oI (some c) = -1 from nI_nm1 (f := c) (by omega))]
        exact b1
      · show _ = (decide (e < k) && !((tkA M' k t ||| 1 <<< c).testBit e))
        rw [b3 e he, b4 e he, e2 e he, Bool.not_or, Bool.and_assoc]
theorem nx_eq {left : Int32} {u tk k : Nat} (hk : k ≤ 6) (hu : u < 64) (hl : left = nI u) (hb : ∀ e, e < 6 → u.testBit e = (decide (e < k) && !(tk.testBit e))) : ∀ m i, i + m ≤ k → nxM left i m = nxU tk k m i
  | 0, i, _ => rfl
  | m + 1, i, h => by
    obtain ⟨-, -, -, -, b5⟩ := umB u hu i (by omega)
    show (if (left >>> (nI i &&& 31)) &&& 1 = 0 then nxM left (i + 1) m else i) = (if tk.testBit i then nxU tk k m (i + 1) else i)
    have h2 := hb i (by omega)
    rw [decide_eq_true (show i < k by omega), Bool.true_and] at h2
    rw [hl]
    cases ht : tk.testBit i with
    | true =>
      rw [ht] at h2
      rw [if_pos (b5.mpr h2), if_pos rfl, ← hl]
      exact nx_eq hk hu hl hb m (i + 1) (by omega)
    | false =>
      rw [ht] at h2
      rw [if_neg (fun h => by rw [b5.mp h] at h2; cases h2), if_neg (by decide)]
/-- the set of the tracks that are down -/
theorem dsN_bit {S : mS} {b : Nat} : ∀ {n : Nat}, n ≤ 6 → ∀ t, t < 6 → (dsN S b n).testBit t = (decide (t < n) && !(decide (S.1 (b + 6 + t) 0 = 0)))
  | 0, _, t, _ => by
    show (0 : Nat).testBit t = _
    rw [Nat.zero_testBit]
    rfl
  | n + 1, hn, t, ht => by
    have ih := dsN_bit (S := S) (b := b) (n := n) (by omega) t ht
    have hl := dsN_lt (S := S) (b := b) (t := n) (by omega)
    have hu : dsN S b (n + 1) = if S.1 (b + 6 + n) 0 = 0 then dsN S b n else dsN S b n ||| 1 <<< n := rfl
    rw [hu]
    by_cases h : S.1 (b + 6 + n) 0 = 0
    · rw [if_pos h, ih]
      by_cases e : t = n
      · rw [e, h]; simp
      · rw [decide_eq_decide.mpr (show t < n ↔ t < n + 1 by omega)]
    · rw [if_neg h]
      obtain ⟨-, -, -, b4, -⟩ := umB _ hl n (by omega)
      rw [b4 t ht, ih]
      by_cases e : t = n
      · rw [e, decide_eq_false h]; simp
      · rw [decide_eq_decide.mpr (show t < n ↔ t < n + 1 by omega), decide_eq_false e, Bool.or_false]
def V5 (v0 v1 v2 v3 v4 : Int32) (w : Nat) : Int32 := if w = 0 then v0 else if w = 1 then v1 else if w = 2 then v2 else if w = 3 then v3 else v4
theorem upd5c {r : Nat → Int32} {v0 v1 v2 v3 v4 : Int32} {w : Nat} (hw : w < 5) : (upd (upd (upd (upd (upd r 0 v0) 1 v1) 2 v2) 3 v3) 4 v4) w = V5 v0 v1 v2 v3 v4 w := by
  match w, hw with
  | 0, _ | 1, _ | 2, _ | 3, _ | 4, _ => rfl
theorem upd5a {r : Nat → Int32} {a : Nat} {v0 v1 v2 v3 v4 : Int32} : (∀ w, w < 5 → (upd (upd (upd (upd (upd r (a + 0) v0) (a + 1) v1) (a + 2) v2) (a + 3) v3) (a + 4) v4) (a + w) = V5 v0 v1 v2 v3 v4 w) ∧ ∀ j, j < a ∨ a + 5 ≤ j → (upd (upd (upd (upd (upd r (a + 0) v0) (a + 1) v1) (a + 2) v2) (a + 3) v3) (a + 4) v4) j = r j := by
  refine ⟨fun w hw => ?_, fun j hj => ?_⟩
  · match w, hw with
    | 0, _ => rw [pk_un (by omega), pk_un (by omega), pk_un (by omega), pk_un (by omega), pk_us]; rfl
    | 1, _ => rw [pk_un (by omega), pk_un (by omega), pk_un (by omega), pk_us]; rfl
    | 2, _ => rw [pk_un (by omega), pk_un (by omega), pk_us]; rfl
    | 3, _ => rw [pk_un (by omega), pk_us]; rfl
    | 4, _ => rw [pk_us]; rfl
  · rw [pk_un (by omega), pk_un (by omega), pk_un (by omega), pk_un (by omega), pk_un (by omega)]
theorem mupd_row {S : mS} {a k : Nat} {x : Int32} : (mupd S a k x).1 a = upd (S.1 a) k x := mset_s
theorem ptS_row {S : mS} {t c : Nat} {g : Int32} : (ptS S t c g).1 131 = upd (upd (upd (upd (upd (S.1 131) (101 + 5 * t + 0) 1) (101 + 5 * t + 1) (S.1 136 c)) (101 + 5 * t + 2) (S.1 137 c)) (101 + 5 * t + 3) g) (101 + 5 * t + 4) 0 := by
  unfold ptS
  rw [mupd_row, mupd_row, mupd_row, mupd_row, mupd_row]
theorem msS_row {S : mS} {t : Nat} (ht : t < 6) : (msS S t).1 131 = upd (upd (upd (S.1 131) (101 + 5 * t + 4) (ofR S t 4 + 1)) (101 + 5 * t + 0) (bz (sdM S t))) 133 (S.1 131 133 + bz (!(sdM S t))) := by
  unfold msS msT
  rw [mupd_row, mupd_row, mupd_row, pk_un (by omega), pk_un (by omega)]
theorem gdS_row {S : mS} {t c : Nat} (ht : t < 6) : (gdS S t c).1 131 = upd ((ptS S t c 0).1 131) 132 (S.1 131 132 + 1) := by
  unfold gdS
  rw [mupd_row]
  refine congrArg (fun z => upd ((ptS S t c 0).1 131) 132 (z + 1)) ?_
  rw [ptS_row]
  exact upd5a.2 132 (by omega)
/-- a track's row behind the frame, on the class's side -/
def Xr (S : mS) (b : Nat) (as : Nat → Option Nat) (d tk k t : Nat) : Nat → Int32 := match gvN d tk k t with
  | some c => upd (upd (upd (upd (upd (mvR S b as t) 0 1) 1 (S.1 105 c)) 2 (S.1 106 c)) 3 0) 4 0
  | none => mvR S b as t
/-- what the frame of both sides stands on -/
def SCx (S F : mS) (b : Nat) (as : Nat → Option Nat) (d tk k : Nat) (left : Int32) : Prop := (k ≤ 6 ∧ b + 12 < 99) ∧ (∀ t, t < 6 → ∀ w, w < 5 → S.1 (b + 6 + t) w = F.1 131 (101 + 5 * t + w)) ∧ S.1 (b + 4) 4 = F.1 131 100 ∧ (S.1 b 4 = F.1 131 132 ∧ S.1 b 5 = F.1 131 133) ∧ (∀ c, c < k → S.1 105 c = F.1 136 c ∧ S.1 106 c = F.1 137 c) ∧ (∀ t, t < 6 → F.1 141 t = oI (as t) ∧ ∀ c, as t = some c → c < k) ∧ (∀ t, t < 6 → dwR F t = false → as t = none) ∧ (∀ t, t < 6 → RGt (F.1 131) t) ∧ (∃ v, v < 6 ∧ F.1 131 100 = nI v) ∧ (∀ t, t < 6 → d.testBit t = dwR F t) ∧ ∀ m i, i + m ≤ k → nxM left i m = nxU tk k m i
theorem SC_dw {F : mS} {t : Nat} (h : RGt (F.1 131) t) : (dwR F t = true ↔ F.1 131 (101 + 5 * t) = 1) ∧ (dwR F t = false ↔ F.1 131 (101 + 5 * t) = 0) := by
  unfold dwR ofR
  rw [Nat.add_zero]
  rcases h.1 with e | e
  · rw [e]; exact ⟨by decide, by decide⟩
  · rw [e]; exact ⟨by decide, by decide⟩
/-- downs and ups of the class so far -/
def dnX (S : mS) (b d tk k : Nat) : Nat → Int32
  | 0 => S.1 b 4
  | t + 1 => match gvN d tk k t with
    | some _ => dnX S b d tk k t + 1
    | none => dnX S b d tk k t
def SCp (S F : mS) (b : Nat) (as : Nat → Option Nat) (d tk k : Nat) (q : mS × Nat × Int32) (t : Nat) : Prop := (∀ s, s < t → ∀ w, w < 5 → q.1.1 131 (101 + 5 * s + w) = Xr S b as d tk k s w) ∧ (∀ j, j < 101 ∨ (101 + 5 * t ≤ j ∧ j < 132) ∨ 134 ≤ j → q.1.1 131 j = F.1 131 j) ∧ q.1.1 131 132 = dnX S b d tk k t ∧ q.1.1 131 133 = upU S b as t ∧ q.2.1 = scN d tk k t ∧ q.2.2 + (F.1 131 132 + F.1 131 133) = q.1.1 131 132 + q.1.1 131 133
theorem i32_a {a x y : Int32} : a + 1 + (x + y) = a + (x + y) + 1 := by rw [Int32.add_assoc, Int32.add_comm 1 (x + y), ← Int32.add_assoc]
theorem i32_b {p q z : Int32} : p + q + z = p + z + q := by rw [Int32.add_assoc, Int32.add_comm q z, ← Int32.add_assoc]
theorem sc_ind {S F : mS} {b : Nat} {as : Nat → Option Nat} {d tk k : Nat} {left : Int32} (hx : SCx S F b as d tk k left) : ∀ t, t ≤ 6 → SCp S F b as d tk k (scT F left k t) t
  | 0, _ => ⟨fun s hs => absurd hs (Nat.not_lt_zero s), fun j _ => rfl, hx.2.2.2.1.1.symm, hx.2.2.2.1.2.symm, rfl, Int32.zero_add _⟩
  | t + 1, ht1 => by
    have ht : t < 6 := by omega
    have ih := sc_ind hx t (by omega)
    have hoth := (scT_ok (S := F) (left := left) (k := k) t).2
    have hle := (scT_ok (S := F) (left := left) (k := k) t).1
    have hstep : scT F left k (t + 1) = scF left k (scT F left k t) t := rfl
    rw [hstep]
    generalize scT F left k t = q at ih hoth hle
    obtain ⟨i1, i2, i3, i4, i5, i6⟩ := ih
    obtain ⟨⟨hk, hb⟩, h1, h2, -, h5, h6, h7, h8, ⟨lf, hlf, elf⟩, h9, h10⟩ := hx
    have hrow : ∀ w, w < 5 → q.1.1 131 (101 + 5 * t + w) = F.1 131 (101 + 5 * t + w) := fun w hw => i2 _ (by omega)
    have hdq : dwR q.1 t = dwR F t := by
      unfold dwR ofR
      rw [hrow 0 (by decide)]
    have hdw := SC_dw (h8 t ht)
    have hS0 : S.1 (b + 6 + t) 0 = F.1 131 (101 + 5 * t) := h1 t ht 0 (by decide)
    have h141 := (h6 t ht).1
    have hasl := (h6 t ht).2
    have e141 : q.1.1 141 t = oI (as t) := by rw [hoth 141 (by decide)]; exact h141
    have e5 : ∀ s, s < t → ∀ w, w < 5 → (101 + 5 * s + w < 101 + 5 * t ∨ 101 + 5 * t + 5 ≤ 101 + 5 * s + w) ∧ 101 + 5 * s + w < 132 := fun s hs w hw => by omega
    cases hd : dwR F t with
    | true =>
      have hbit : d.testBit t = true := (h9 t ht).trans hd
      have hgv : gvN d tk k t = none := by unfold gvN; rw [hbit]; rfl
      have hsc : scN d tk k (t + 1) = scN d tk k t := by
        show (if d.testBit t then scN d tk k t else _) = _
        rw [hbit]; rfl
      have hdn : dnX S b d tk k (t + 1) = dnX S b d tk k t := by
        show (match gvN d tk k t with | some _ => _ | none => dnX S b d tk k t) = _
        rw [hgv]
      have hX : Xr S b as d tk k t = mvR S b as t := by unfold Xr; rw [hgv]
      have h0 : ¬ S.1 (b + 6 + t) 0 = 0 := by rw [hS0, hdw.1.mp hd]; decide
      cases ha : as t with
      | some c =>
        have hck := hasl c ha
        have e1 : q.1.1 141 t = nI c := by rw [e141, ha]; rfl
        have hF : scF left k q t = (ptS q.1 t c (ofR q.1 t 3 + 1), q.2.1, q.2.2) := by
          unfold scF
          rw [hdq, hd, if_pos rfl, e1, if_neg (nI_nm1 (f := c) (by omega)), nI_clamp (by omega)]
        have hup : upU S b as (t + 1) = upU S b as t := by
          show (if as t = none ∧ _ then _ else upU S b as t) = _
          rw [ha, if_neg (fun h => by cases h.1)]
        have hmv : ∀ w, w < 5 → mvR S b as t w = V5 1 (q.1.1 136 c) (q.1.1 137 c) (ofR q.1 t 3 + 1) 0 w := fun w hw => by
          unfold mvR
          rw [ha, hoth 136 (by decide), hoth 137 (by decide), ← (h5 c hck).1, ← (h5 c hck).2]
          have e3 : ofR q.1 t 3 = S.1 (b + 6 + t) 3 := (hrow 3 (by decide)).trans (h1 t ht 3 (by decide)).symm
          rw [e3]
          have e0 : S.1 (b + 6 + t) 0 = 1 := hS0.trans (hdw.1.mp hd)
          match w, hw with
          | 0, _ => exact e0
          | 1, _ | 2, _ | 3, _ | 4, _ => rfl
        rw [hF]
        unfold SCp
        rw [hsc, hdn, hup]
        dsimp only
        rw [ptS_row]
        have ha1 := upd5a (r := q.1.1 131) (a := 101 + 5 * t) (v0 := 1) (v1 := q.1.1 136 c) (v2 := q.1.1 137 c) (v3 := ofR q.1 t 3 + 1) (v4 := 0)
        refine ⟨fun s hs w hw => ?_, fun j hj => ?_, ?_, ?_, i5, ?_⟩
        · by_cases e : s = t
          · subst e
            rw [ha1.1 w hw, hX]
            exact (hmv w hw).symm
          · rw [ha1.2 _ (e5 s (by omega) w hw).1]
            exact i1 s (by omega) w hw
        · rw [ha1.2 j (by omega)]
          exact i2 j (by omega)
        · rw [ha1.2 132 (by omega)]; exact i3
        · rw [ha1.2 133 (by omega)]; exact i4
        · rw [ha1.2 132 (by omega), ha1.2 133 (by omega)]; exact i6
      | none =>
        have e1 : q.1.1 141 t = -1 := by rw [e141, ha]; rfl
        have hF : scF left k q t = (msS q.1 t, q.2.1, q.2.2 + bz (!(sdM q.1 t))) := by
          unfold scF
          rw [hdq, hd, if_pos rfl, if_pos e1]
        obtain ⟨m, hm7, hm6, em⟩ := (h8 t ht).2.2.2
        have hm := hm6 (hdw.1.mp hd)
        have e4 : ofR q.1 t 4 = nI m := (hrow 4 (by decide)).trans em
        have hsd : sdM q.1 t = decide (m < lf) := by
          unfold sdM
          rw [hdq, hd, e1, e4, i2 100 (by omega), elf, Bool.true_and]
          show (false || decide (nI m < nI lf)) = _
          rw [Bool.false_or]
          exact decide_eq_decide.mpr (nI_ltI (by omega) (by omega))
        have e4S : S.1 (b + 6 + t) 4 = nI m := (h1 t ht 4 (by decide)).trans em
        have hlift : (S.1 (b + 4) 4 < S.1 (b + 6 + t) 4 + 1) ↔ ¬ m < lf := by
          rw [h2, elf, e4S, nI_1]
          exact (nI_ltI (a := lf) (b := m + 1) (by omega) (by omega)).trans ⟨fun h => by omega, fun h => by omega⟩
        have hup : upU S b as (t + 1) = upU S b as t + bz (!(decide (m < lf))) := by
          show (if as t = none ∧ ¬ S.1 (b + 6 + t) 0 = 0 ∧ S.1 (b + 4) 4 < S.1 (b + 6 + t) 4 + 1 then upU S b as t + 1 else upU S b as t) = _
          by_cases hl : m < lf
          · rw [if_neg (fun h => hlift.mp h.2.2 hl), decide_eq_true hl]
            exact (Int32.add_zero _).symm
          · rw [if_pos ⟨ha, h0, hlift.mpr hl⟩, decide_eq_false hl]
            rfl
        have hmv : ∀ w, w < 5 → mvR S b as t w = V5 (bz (decide (m < lf))) (F.1 131 (101 + 5 * t + 1)) (F.1 131 (101 + 5 * t + 2)) (F.1 131 (101 + 5 * t + 3)) (nI m + 1) w := fun w hw => by
          unfold mvR
          rw [ha]
          dsimp only
          rw [if_neg h0, e4S]
          match w, hw with
          | 0, _ =>
            show (if S.1 (b + 4) 4 < nI m + 1 then (0 : Int32) else 1) = bz (decide (m < lf))
            rw [e4S] at hlift
            by_cases hl : m < lf
            · rw [if_neg (fun h => hlift.mp h hl), decide_eq_true hl]; rfl
            · rw [if_pos (hlift.mpr hl), decide_eq_false hl]; rfl
          | 1, _ => exact h1 t ht 1 (by decide)
          | 2, _ => exact h1 t ht 2 (by decide)
          | 3, _ => exact h1 t ht 3 (by decide)
          | 4, _ => rfl
        rw [hF]
        unfold SCp
        rw [hsc, hdn, hup]
        dsimp only
        rw [msS_row ht, hsd, e4]
        refine ⟨fun s hs w hw => ?_, fun j hj => ?_, ?_, ?_, i5, ?_⟩
        · by_cases e : s = t
          · subst e
            rw [hX, hmv w hw, pk_un (by omega)]
            match w, hw with
            | 0, _ => rw [pk_us]; rfl
            | 1, _ => rw [pk_un (by omega), pk_un (by omega)]; exact hrow 1 (by decide)
            | 2, _ => rw [pk_un (by omega), pk_un (by omega)]; exact hrow 2 (by decide)
            | 3, _ => rw [pk_un (by omega), pk_un (by omega)]; exact hrow 3 (by decide)
            | 4, _ => rw [pk_un (by omega), pk_us]; rfl
          · have := e5 s (by omega) w hw
            rw [pk_un (by omega), pk_un (by omega), pk_un (by omega)]
            exact i1 s (by omega) w hw
        · rw [pk_un (by omega), pk_un (by omega), pk_un (by omega)]
          exact i2 j (by omega)
        · rw [pk_un (by omega), pk_un (by omega), pk_un (by omega)]; exact i3
        · rw [pk_us, i4]
        · rw [pk_us, pk_un (by omega), pk_un (by omega), pk_un (by omega), i32_b, i6, Int32.add_assoc]
    | false =>
      have hbit : d.testBit t = false := (h9 t ht).trans hd
      have ha := h7 t ht hd
      have hS00 : S.1 (b + 6 + t) 0 = 0 := hS0.trans (hdw.2.mp hd)
      have hmv : mvR S b as t = S.1 (b + 6 + t) := by
        unfold mvR
        rw [ha]
        dsimp only
        rw [if_pos hS00]
      have hup : upU S b as (t + 1) = upU S b as t := by
        show (if as t = none ∧ ¬ S.1 (b + 6 + t) 0 = 0 ∧ _ then _ else upU S b as t) = _
        rw [if_neg (fun h => h.2.1 hS00)]
      have hnx : nxM left q.2.1 (k - q.2.1) = nxU tk k (k - scN d tk k t) (scN d tk k t) := by
        rw [← i5]
        exact h10 _ _ (by omega)
      have hsc : scN d tk k (t + 1) = if nxU tk k (k - scN d tk k t) (scN d tk k t) < k then nxU tk k (k - scN d tk k t) (scN d tk k t) + 1 else nxU tk k (k - scN d tk k t) (scN d tk k t) := by
        show (if d.testBit t then scN d tk k t else _) = _
        rw [hbit]; rfl
      have hgv : gvN d tk k t = if nxU tk k (k - scN d tk k t) (scN d tk k t) < k then some (nxU tk k (k - scN d tk k t) (scN d tk k t)) else none := by
        unfold gvN
        rw [hbit]; rfl
      have hF0 : scF left k q t = if nxM left q.2.1 (k - q.2.1) < k then (gdS q.1 t (nxM left q.2.1 (k - q.2.1)), nxM left q.2.1 (k - q.2.1) + 1, q.2.2 + 1) else (q.1, nxM left q.2.1 (k - q.2.1), q.2.2) := by
        unfold scF
        rw [hdq, hd]
        rfl
      rw [hnx] at hF0
      generalize nxU tk k (k - scN d tk k t) (scN d tk k t) = c at hF0 hsc hgv
      by_cases hc : c < k
      · rw [if_pos hc] at hF0 hsc hgv
        have hdn : dnX S b d tk k (t + 1) = dnX S b d tk k t + 1 := by
          show (match gvN d tk k t with | some _ => dnX S b d tk k t + 1 | none => _) = _
          rw [hgv]
        have hX : ∀ w, w < 5 → Xr S b as d tk k t w = V5 1 (q.1.1 136 c) (q.1.1 137 c) 0 0 w := fun w hw => by
          unfold Xr
          rw [hgv, hoth 136 (by decide), hoth 137 (by decide), ← (h5 c hc).1, ← (h5 c hc).2]
          exact upd5c hw
        rw [hF0]
        unfold SCp
        rw [hsc, hdn, hup]
        dsimp only
        rw [gdS_row ht, ptS_row]
        have ha1 := upd5a (r := q.1.1 131) (a := 101 + 5 * t) (v0 := 1) (v1 := q.1.1 136 c) (v2 := q.1.1 137 c) (v3 := 0) (v4 := 0)
        refine ⟨fun s hs w hw => ?_, fun j hj => ?_, ?_, ?_, rfl, ?_⟩
        · rw [pk_un (by omega)]
          by_cases e : s = t
          · subst e
            rw [ha1.1 w hw]
            exact (hX w hw).symm
          · rw [ha1.2 _ (e5 s (by omega) w hw).1]
            exact i1 s (by omega) w hw
        · rw [pk_un (by omega), ha1.2 j (by omega)]
          exact i2 j (by omega)
        · rw [pk_us, i3]
        · rw [pk_un (by omega), ha1.2 133 (by omega)]; exact i4
        · rw [pk_us, pk_un (by omega), ha1.2 133 (by omega), i32_a, i6, i32_b]
      · rw [if_neg hc] at hF0 hsc hgv
        have hdn : dnX S b d tk k (t + 1) = dnX S b d tk k t := by
          show (match gvN d tk k t with | some _ => _ | none => dnX S b d tk k t) = _
          rw [hgv]
        have hX : Xr S b as d tk k t = mvR S b as t := by unfold Xr; rw [hgv]
        rw [hF0]
        unfold SCp
        rw [hsc, hdn, hup]
        dsimp only
        refine ⟨fun s hs w hw => ?_, fun j hj => i2 j (by omega), i3, i4, rfl, i6⟩
        by_cases e : s = t
        · subst e
          rw [hX, hmv, h1 s ht w hw]
          exact hrow w hw
        · exact i1 s (by omega) w hw

