/-! a press -/
theorem rai_at {row : Nat → Int32} {X Y g : Int32} {a b : Nat} (ha : a < 8) (hb : b < 6) : rai row X Y g (6 * a + b) = if X = nI a ∧ Y = nI b then cap255 (row (6 * a + b) + g) else row (6 * a + b) := by
  by_cases h : onP X Y
  · obtain ⟨⟨i, hi, rfl⟩, j, hj, rfl⟩ := h
    rw [rai_in hi hj]
    unfold upd
    by_cases e : 6 * a + b = 6 * i + j
    · have e1 : a = i := by omega
      have e2 : b = j := by omega
      subst e1
      subst e2
      rw [if_pos rfl, if_pos ⟨rfl, rfl⟩]
    · rw [if_neg e, if_neg]
      intro ⟨h1, h2⟩
      have := nI_inj6 (a := i) (b := a) (by omega) (by omega) h1
      have := nI_inj6 (a := j) (b := b) (by omega) (by omega) h2
      omega
  · rw [rai_out h, if_neg]
    intro ⟨h1, h2⟩
    exact h ⟨⟨a, ha, h1⟩, b, hb, h2⟩
theorem prD : ∀ i, i < 8 → ∀ a, a < 8 → (nI i + (-1) = nI a ↔ a + 1 = i) ∧ (nI i + 0 = nI a ↔ a = i) ∧ (nI i + 1 = nI a ↔ a = i + 1) := by decide +kernel
theorem prSh : ∀ v, v < 256 → nI v >>> 0 = nI v ∧ nI v >>> 1 = nI (v / 2) ∧ nI v >>> 2 = nI (v / 4) := by decide +kernel
theorem prK : ((-1 : Int32) * -1 + -1 * -1) &&& 31 = 2 ∧ ((-1 : Int32) * -1 + 0 * 0) &&& 31 = 1 ∧ ((-1 : Int32) * -1 + 1 * 1) &&& 31 = 2 ∧ ((0 : Int32) * 0 + -1 * -1) &&& 31 = 1 ∧ ((0 : Int32) * 0 + 0 * 0) &&& 31 = 0 ∧ ((0 : Int32) * 0 + 1 * 1) &&& 31 = 1 ∧ ((1 : Int32) * 1 + -1 * -1) &&& 31 = 2 ∧ ((1 : Int32) * 1 + 0 * 0) &&& 31 = 1 ∧ ((1 : Int32) * 1 + 1 * 1) &&& 31 = 2 := by decide +kernel
/-- how much a cell gains -/
def mrN (i j a b f : Nat) : Nat := if (a + 1 = i ∨ a = i ∨ a = i + 1) ∧ (b + 1 = j ∨ b = j ∨ b = j + 1) then (if a = i then (if b = j then f else f / 2) else if b = j then f / 2 else f / 4) else 0
def cpN (x : Nat) : Nat := if x < 255 then x else 255
theorem cap_n {x : Nat} (h : x < 2 ^ 30) : cap255 (nI x) = nI (cpN x) := by
  unfold cap255 cpN
  by_cases e : x < 255
  · rw [if_pos (show nI x < 255 from nI_lt (b := 255) e (by decide)), if_pos e]
  · rw [if_neg (show ¬ nI x < 255 from nI_nlt (b := 255) (by omega) (by omega)), if_neg e]
    rfl
theorem prs9_at {row : Nat → Int32} {i j a b v w : Nat} (hi : i < 8) (hj : j < 6) (ha : a < 8) (hb : b < 6) (hv : v < 256) (hw : w < 256) (ew : row (6 * a + b) = nI w) : prs9 row (nI i) (nI j) (nI v) (6 * a + b) = nI (cpN (w + mrN i j a b v)) := by
  obtain ⟨k1, k2, k3, k4, k5, k6, k7, k8, k9⟩ := prK
  obtain ⟨s0, s1, s2⟩ := prSh v hv
  unfold prs9 prs3
  rw [k1, k2, k3, k4, k5, k6, k7, k8, k9, s0, s1, s2]
  simp only [rai_at ha hb]
  obtain ⟨p1, p2, p3⟩ := prD i hi a ha
  obtain ⟨q1, q2, q3⟩ := prD j (by omega) b (by omega)
  simp only [p1, p2, p3, q1, q2, q3]
  unfold mrN
  have hid : row (6 * a + b) = nI (cpN (w + 0)) := by
    rw [ew]
    unfold cpN
    by_cases e : w < 255
    · rw [Nat.add_zero, if_pos e]
    · rw [Nat.add_zero, if_neg e]
      exact congrArg nI (by omega)
  have hx : ∀ x, x < 256 → cap255 (row (6 * a + b) + nI x) = nI (cpN (w + x)) := fun x hx => by
    rw [ew, nI_add]
    exact cap_n (by omega)
  by_cases a1 : a + 1 = i
  · skip
    have a2 : ¬ a = i := by omega
    have a3 : ¬ a = i + 1 := by omega
    by_cases b1 : b + 1 = j
    · skip
      have b2 : ¬ b = j := by omega
      have b3 : ¬ b = j + 1 := by omega
      simp only [eq_true a1, eq_false a2, eq_false a3, eq_true b1, eq_false b2, eq_false b3, and_true, and_false, true_and, false_and, or_true, or_false, true_or, false_or, and_self, or_self, if_true, if_false]
      exact hx (v / 4) (by omega)
    · skip
      by_cases b2 : b = j
      · skip
        have b3 : ¬ b = j + 1 := by omega
        simp only [eq_true a1, eq_false a2, eq_false a3, eq_false b1, eq_true b2, eq_false b3, and_true, and_false, true_and, false_and, or_true, or_false, true_or, false_or, and_self, or_self, if_true, if_false]
        exact hx (v / 2) (by omega)
      · skip
        by_cases b3 : b = j + 1
        · skip
          simp only [eq_true a1, eq_false a2, eq_false a3, eq_false b1, eq_false b2, eq_true b3, and_true, and_false, true_and, false_and, or_true, or_false, true_or, false_or, and_self, or_self, if_true, if_false]
          exact hx (v / 4) (by omega)
        · skip
          simp only [eq_true a1, eq_false a2, eq_false a3, eq_false b1, eq_false b2, eq_false b3, and_true, and_false, true_and, false_and, or_true, or_false, true_or, false_or, and_self, or_self, if_true, if_false]
          exact hid
  · skip
    by_cases a2 : a = i
    · skip
      have a3 : ¬ a = i + 1 := by omega
      by_cases b1 : b + 1 = j
      · skip
        have b2 : ¬ b = j := by omega
        have b3 : ¬ b = j + 1 := by omega
        simp only [eq_false a1, eq_true a2, eq_false a3, eq_true b1, eq_false b2, eq_false b3, and_true, and_false, true_and, false_and, or_true, or_false, true_or, false_or, and_self, or_self, if_true, if_false]
        exact hx (v / 2) (by omega)
      · skip
        by_cases b2 : b = j
        · skip
          have b3 : ¬ b = j + 1 := by omega
          simp only [eq_false a1, eq_true a2, eq_false a3, eq_false b1, eq_true b2, eq_false b3, and_true, and_false, true_and, false_and, or_true, or_false, true_or, false_or, and_self, or_self, if_true, if_false]
          exact hx (v) (by omega)
        · skip
          by_cases b3 : b = j + 1
          · skip
            simp only [eq_false a1, eq_true a2, eq_false a3, eq_false b1, eq_false b2, eq_true b3, and_true, and_false, true_and, false_and, or_true, or_false, true_or, false_or, and_self, or_self, if_true, if_false]
            exact hx (v / 2) (by omega)
          · skip
            simp only [eq_false a1, eq_true a2, eq_false a3, eq_false b1, eq_false b2, eq_false b3, and_true, and_false, true_and, false_and, or_true, or_false, true_or, false_or, and_self, or_self, if_true, if_false]
            exact hid
    · skip
      by_cases a3 : a = i + 1
      · skip
        by_cases b1 : b + 1 = j
        · skip
          have b2 : ¬ b = j := by omega
          have b3 : ¬ b = j + 1 := by omega
          simp only [eq_false a1, eq_false a2, eq_true a3, eq_true b1, eq_false b2, eq_false b3, and_true, and_false, true_and, false_and, or_true, or_false, true_or, false_or, and_self, or_self, if_true, if_false]
          exact hx (v / 4) (by omega)
        · skip
          by_cases b2 : b = j
          · skip
            have b3 : ¬ b = j + 1 := by omega
            simp only [eq_false a1, eq_false a2, eq_true a3, eq_false b1, eq_true b2, eq_false b3, and_true, and_false, true_and, false_and, or_true, or_false, true_or, false_or, and_self, or_self, if_true, if_false]
            exact hx (v / 2) (by omega)
          · skip
            by_cases b3 : b = j + 1
            · skip
              simp only [eq_false a1, eq_false a2, eq_true a3, eq_false b1, eq_false b2, eq_true b3, and_true, and_false, true_and, false_and, or_true, or_false, true_or, false_or, and_self, or_self, if_true, if_false]
              exact hx (v / 4) (by omega)
            · skip
              simp only [eq_false a1, eq_false a2, eq_true a3, eq_false b1, eq_false b2, eq_false b3, and_true, and_false, true_and, false_and, or_true, or_false, true_or, false_or, and_self, or_self, if_true, if_false]
              exact hid
      · skip
        simp only [eq_false a1, eq_false a2, eq_false a3, and_true, and_false, true_and, false_and, or_true, or_false, true_or, false_or, and_self, or_self, if_true, if_false]
        exact hid
def prsV (v : Nat → Int32) (i j f : Nat) : Nat → Int32 := fun q => if q < 48 then nI (cpN ((v q).toNatClampNeg + mrN i j (q / 6) (q % 6) f)) else v q
theorem rw_n {v : Nat → Int32} (h : GV v) {q : Nat} (hq : q < 48) : v q = nI (v q).toNatClampNeg ∧ (v q).toNatClampNeg < 256 := by
  obtain ⟨a, ha, e⟩ := h.1 q (by omega)
  rw [e, nI_clamp (by omega)]
  exact ⟨rfl, ha⟩
theorem vw_prs {S : mS} (h : GV (vw S 1)) {i j f : Nat} (hi : i < 8) (hj : j < 6) (hf : f < 256) : vw (mset S 3 (prs9 (S.1 3) (nI i) (nI j) (nI f))) 1 = prsV (vw S 1) i j f := by
  rw [vw_raws]
  funext q
  unfold prsV
  by_cases hq : q < 48
  · rw [if_pos hq, if_pos hq]
    obtain ⟨e1, e2⟩ := rw_n h hq
    have h3 := prs9_at (row := S.1 3) (i := i) (j := j) (a := q / 6) (b := q % 6) (v := f) hi hj (by omega) (by omega) hf e2 (by
      rw [show 6 * (q / 6) + q % 6 = q by omega, ← e1, vw_raw hq])
    rw [show 6 * (q / 6) + q % 6 = q by omega] at h3
    exact h3
  · rw [if_neg hq, if_neg hq]
theorem cpN_le {x : Nat} : cpN x < 256 := by
  unfold cpN
  split <;> omega
theorem GV_prs {v : Nat → Int32} (h : GV v) {i j f : Nat} : GV (prsV v i j f) := by
  refine GV_lo h (fun q hq => ?_) (fun q hq => if_neg (by omega))
  unfold prsV
  by_cases e : q < 48
  · rw [if_pos e]; exact ⟨_, cpN_le, rfl⟩
  · rw [if_neg e]; exact h.1 q hq
/-! a frame -/
theorem ds_bit {v : Nat → Int32} {t : Nat} (n : Nat) : (dsV v n).testBit t = (decide (t < n) && dnB v t) := by
  induction n with
  | zero => rw [show dsV v 0 = 0 from rfl, Nat.zero_testBit]; rfl
  | succ n ih =>
    unfold dsV
    by_cases h : v (101 + 5 * n + 0) = 0
    · rw [if_pos h, ih]
      by_cases e : t = n
      · subst e
        unfold dnB
        rw [decide_eq_true h, Bool.not_true, Bool.and_false, Bool.and_false]
      · rw [decide_eq_decide.mpr (show t < n ↔ t < n + 1 by omega)]
    · rw [if_neg h, bit_or, ih]
      by_cases e : t = n
      · subst e
        unfold dnB
        rw [decide_eq_false h, decide_eq_true rfl, decide_eq_true (Nat.lt_succ_self t), Bool.or_true]
        rfl
      · rw [show decide (n = t) = false from decide_eq_false (fun h => e h.symm), Bool.or_false, decide_eq_decide.mpr (show t < n ↔ t < n + 1 by omega)]
theorem ds_lt {v : Nat → Int32} : ∀ n, n ≤ 6 → dsV v n < 64
  | 0, _ => Nat.zero_lt_succ 63
  | n + 1, hn => by
    have ih := ds_lt (v := v) n (by omega)
    unfold dsV
    split
    · exact ih
    · exact or_lt (k := 6) ih (by omega)
theorem gv_up {v : Nat → Int32} {t c : Nat} (ht : t < 6) (h : gvV v t = some c) : dnB v t = false := by
  unfold gvV gvN at h
  by_cases h1 : (dsV v 6).testBit t
  · rw [if_pos h1] at h; cases h
  · rw [ds_bit, decide_eq_true ht, Bool.true_and] at h1
    cases hd : dnB v t with
    | false => rfl
    | true => exact absurd hd h1
theorem as_dn {v : Nat → Int32} (hG : GV v) {t c : Nat} (ht : t < 6) (h : asV v t = some c) : dnB v t = true := by
  have ho := (as_ok hG ht h).2.1
  unfold okN at ho
  rw [Bool.and_eq_true] at ho
  exact ho.1
theorem dn_iff {v : Nat → Int32} {t : Nat} : dnB v t = true ↔ ¬ v (101 + 5 * t + 0) = 0 := by
  unfold dnB
  rw [Bool.not_eq_true', decide_eq_false_iff_not]
theorem up_iff {v : Nat → Int32} {t : Nat} : dnB v t = false ↔ v (101 + 5 * t + 0) = 0 := by
  unfold dnB
  rw [Bool.not_eq_false', decide_eq_true_eq]
/-- a track behind a frame -/
theorem fr_cases {v : Nat → Int32} (hG : GV v) {t : Nat} (ht : t < 6) : (∃ c, gvV v t = some c ∧ c < kV v ∧ dnB v t = false ∧ dnB (frV v) t = true ∧ ∀ w, w < 5 → frV v (101 + 5 * t + w) = V5 1 (rpV v c) (cpV v c) 0 0 w) ∨ (∃ c, gvV v t = none ∧ asV v t = some c ∧ c < kV v ∧ dnB v t = true ∧ dnB (frV v) t = true ∧ ∀ w, w < 5 → frV v (101 + 5 * t + w) = V5 (v (101 + 5 * t + 0)) (rpV v c) (cpV v c) (v (101 + 5 * t + 3) + 1) 0 w) ∨ (gvV v t = none ∧ asV v t = none ∧ dnB v t = false ∧ dnB (frV v) t = false ∧ ∀ w, w < 5 → frV v (101 + 5 * t + w) = v (101 + 5 * t + w)) ∨ (gvV v t = none ∧ asV v t = none ∧ dnB v t = true ∧ (dnB (frV v) t = false ↔ v 100 < v (101 + 5 * t + 4) + 1) ∧ ∀ w, w < 5 → frV v (101 + 5 * t + w) = V5 (if v 100 < v (101 + 5 * t + 4) + 1 then 0 else 1) (v (101 + 5 * t + 1)) (v (101 + 5 * t + 2)) (v (101 + 5 * t + 3)) (v (101 + 5 * t + 4) + 1) w) := by
  have hF : ∀ w, w < 5 → frV v (101 + 5 * t + w) = trF v t w := fun w hw => frV_trk ht hw
  cases hg : gvV v t with
  | some c =>
    have hk : c < kV v := gvN_lt hg
    have e : ∀ w, w < 5 → frV v (101 + 5 * t + w) = V5 1 (rpV v c) (cpV v c) 0 0 w := fun w hw => by
      rw [hF w hw]
      unfold trF
      rw [hg]
    refine Or.inl ⟨c, rfl, hk, gv_up ht hg, ?_, e⟩
    rw [dn_iff, e 0 (by decide)]
    show ¬ (1 : Int32) = 0
    decide
  | none =>
    have hM : ∀ w, w < 5 → frV v (101 + 5 * t + w) = trM v t w := fun w hw => by
      rw [hF w hw]
      unfold trF
      rw [hg]
    cases ha : asV v t with
    | some c =>
      have hk : c < kV v := (as_ok hG ht ha).1
      have hd := as_dn hG ht ha
      have e : ∀ w, w < 5 → frV v (101 + 5 * t + w) = V5 (v (101 + 5 * t + 0)) (rpV v c) (cpV v c) (v (101 + 5 * t + 3) + 1) 0 w := fun w hw => by
        rw [hM w hw]
        unfold trM
        rw [ha]
      refine Or.inr (Or.inl ⟨c, rfl, rfl, hk, hd, ?_, e⟩)
      rw [dn_iff] at hd ⊢
      rw [e 0 (by decide)]
      exact hd
    | none =>
      cases hd : dnB v t with
      | false =>
        have h0 := up_iff.mp hd
        have e : ∀ w, w < 5 → frV v (101 + 5 * t + w) = v (101 + 5 * t + w) := fun w hw => by
          rw [hM w hw]
          unfold trM
          rw [ha]
          exact if_pos h0
        refine Or.inr (Or.inr (Or.inl ⟨rfl, rfl, rfl, ?_, e⟩))
        rw [up_iff, e 0 (by decide)]
        exact h0
      | true =>
        have h0 := dn_iff.mp hd
        have e : ∀ w, w < 5 → frV v (101 + 5 * t + w) = V5 (if v 100 < v (101 + 5 * t + 4) + 1 then 0 else 1) (v (101 + 5 * t + 1)) (v (101 + 5 * t + 2)) (v (101 + 5 * t + 3)) (v (101 + 5 * t + 4) + 1) w := fun w hw => by
          rw [hM w hw]
          unfold trM
          rw [ha]
          exact if_neg h0
        refine Or.inr (Or.inr (Or.inr ⟨rfl, rfl, rfl, ?_, e⟩))
        rw [up_iff, e 0 (by decide)]
        show (if v 100 < v (101 + 5 * t + 4) + 1 then (0 : Int32) else 1) = 0 ↔ _
        by_cases hc : v 100 < v (101 + 5 * t + 4) + 1
        · rw [if_pos hc]; exact ⟨fun _ => hc, fun _ => rfl⟩
        · rw [if_neg hc]; exact ⟨fun h => absurd h (by decide), fun h => absurd h hc⟩
noncomputable def nwN (v : Nat → Int32) (n : Nat) : Nat := cnN (fun t => dnB (frV v) t && !dnB v t) n
noncomputable def lsD (v : Nat → Int32) (n : Nat) : Nat := cnN (fun t => dnB v t && !dnB (frV v) t) n
theorem fr_counts {v : Nat → Int32} (hG : GV v) : ∀ n, n ≤ 6 → dnV v n = v 132 + nI (nwN v n) ∧ upV v n = v 133 + nI (lsD v n) ∧ dcV v n + nwN v n = dcV (frV v) n + lsD v n := by
  intro n
  induction n with
  | zero => exact fun _ => ⟨(Int32.add_zero _).symm, (Int32.add_zero _).symm, rfl⟩
  | succ n ih =>
    intro hn
    obtain ⟨i1, i2, i3⟩ := ih (by omega)
    have e1 : dnV v (n + 1) = match gvV v n with | some _ => dnV v n + 1 | none => dnV v n := by
      rw [dnV]
      cases gvV v n <;> rfl
    have e2 : upV v (n + 1) = if asV v n = none ∧ ¬ v (101 + 5 * n + 0) = 0 ∧ v 100 < v (101 + 5 * n + 4) + 1 then upV v n + 1 else upV v n := by rw [upV]
    have e3 : nwN v (n + 1) = if (dnB (frV v) n && !dnB v n) then nwN v n + 1 else nwN v n := rfl
    have e4 : lsD v (n + 1) = if (dnB v n && !dnB (frV v) n) then lsD v n + 1 else lsD v n := rfl
    have e5 : dcV v (n + 1) = if dnB v n then dcV v n + 1 else dcV v n := by
      rw [dcV]
      cases hd : dnB v n with
      | true => rw [if_neg (dn_iff.mp hd), if_pos rfl]
      | false => rw [if_pos (up_iff.mp hd), if_neg (by decide)]
    have e6 : dcV (frV v) (n + 1) = if dnB (frV v) n then dcV (frV v) n + 1 else dcV (frV v) n := by
      rw [dcV]
      cases hd : dnB (frV v) n with
      | true => rw [if_neg (dn_iff.mp hd), if_pos rfl]
      | false => rw [if_pos (up_iff.mp hd), if_neg (by decide)]
    rcases fr_cases hG (t := n) (by omega) with ⟨c, hg, -, h1, h2, -⟩ | ⟨c, hg, ha, -, h1, h2, -⟩ | ⟨hg, ha, h1, h2, -⟩ | ⟨hg, ha, h1, h2, -⟩
    · have f1 : dnV v (n + 1) = dnV v n + 1 := by rw [e1, hg]
      have f2 : upV v (n + 1) = upV v n := e2.trans (if_neg (fun h => h.2.1 (up_iff.mp h1)))
      have f3 : nwN v (n + 1) = nwN v n + 1 := e3.trans (if_pos (by rw [h1, h2]; rfl))
      have f4 : lsD v (n + 1) = lsD v n := e4.trans (if_neg (by rw [h1, h2]; decide))
      have f5 : dcV v (n + 1) = dcV v n := e5.trans (if_neg (by rw [h1]; decide))
      have f6 : dcV (frV v) (n + 1) = dcV (frV v) n + 1 := e6.trans (if_pos h2)
      rw [f1, f2, f3, f4, f5, f6]
      exact ⟨by rw [i1, Int32.add_assoc, nI_1], i2, by omega⟩
    · have f1 : dnV v (n + 1) = dnV v n := by rw [e1, hg]
      have f2 : upV v (n + 1) = upV v n := e2.trans (if_neg (fun h => by rw [ha] at h; cases h.1))
      have f3 : nwN v (n + 1) = nwN v n := e3.trans (if_neg (by rw [h1, h2]; decide))
      have f4 : lsD v (n + 1) = lsD v n := e4.trans (if_neg (by rw [h1, h2]; decide))
      have f5 : dcV v (n + 1) = dcV v n + 1 := e5.trans (if_pos h1)
      have f6 : dcV (frV v) (n + 1) = dcV (frV v) n + 1 := e6.trans (if_pos h2)
      rw [f1, f2, f3, f4, f5, f6]
      exact ⟨i1, i2, by omega⟩
    · have f1 : dnV v (n + 1) = dnV v n := by rw [e1, hg]
      have f2 : upV v (n + 1) = upV v n := e2.trans (if_neg (fun h => h.2.1 (up_iff.mp h1)))
      have f3 : nwN v (n + 1) = nwN v n := e3.trans (if_neg (by rw [h1, h2]; decide))
      have f4 : lsD v (n + 1) = lsD v n := e4.trans (if_neg (by rw [h1, h2]; decide))
      have f5 : dcV v (n + 1) = dcV v n := e5.trans (if_neg (by rw [h1]; decide))
      have f6 : dcV (frV v) (n + 1) = dcV (frV v) n := e6.trans (if_neg (by rw [h2]; decide))
      rw [f1, f2, f3, f4, f5, f6]
      exact ⟨i1, i2, i3⟩
    · have f1 : dnV v (n + 1) = dnV v n := by rw [e1, hg]
      have f5 : dcV v (n + 1) = dcV v n + 1 := e5.trans (if_pos h1)
      have f3 : nwN v (n + 1) = nwN v n := e3.trans (if_neg (by rw [h1]; cases dnB (frV v) n <;> decide))
      cases hd : dnB (frV v) n with
      | false =>
        have f2 : upV v (n + 1) = upV v n + 1 := e2.trans (if_pos ⟨ha, dn_iff.mp h1, h2.mp hd⟩)
        have f4 : lsD v (n + 1) = lsD v n + 1 := e4.trans (if_pos (by rw [h1, hd]; rfl))
        have f6 : dcV (frV v) (n + 1) = dcV (frV v) n := e6.trans (if_neg (by rw [hd]; decide))
        rw [f1, f2, f3, f4, f5, f6]
        exact ⟨i1, by rw [i2, Int32.add_assoc, nI_1], by omega⟩
      | true =>
        have f2 : upV v (n + 1) = upV v n := e2.trans (if_neg (fun h => by rw [h2.mpr h.2.2] at hd; cases hd))
        have f4 : lsD v (n + 1) = lsD v n := e4.trans (if_neg (by rw [h1, hd]; decide))
        have f6 : dcV (frV v) (n + 1) = dcV (frV v) n + 1 := e6.trans (if_pos hd)
        rw [f1, f2, f3, f4, f5, f6]
        exact ⟨i1, i2, by omega⟩
theorem GV_fr {v : Nat → Int32} (hG : GV v) : GV (frV v) := by
  obtain ⟨a0, a1, a2, a3, a4, a5, a6, a7⟩ := id hG
  refine ⟨fun j hj => by rw [frV_lo (by omega)]; exact a0 j hj, ?_, ?_, ?_, ?_, ?_, fun t ht => ?_, ?_⟩
  · rw [frV_lo (by omega)]; exact a1
  · rw [frV_lo (by omega)]; exact a2
  · rw [frV_lo (by omega)]; exact a3
  · rw [frV_lo (by omega)]; exact a4
  · rw [frV_lo (by omega)]; exact a5
  · obtain ⟨b0, b1, b2⟩ := a6 t ht
    unfold GVt
    rcases fr_cases hG ht with ⟨c, -, hk, -, -, e⟩ | ⟨c, -, -, hk, -, -, e⟩ | ⟨-, -, -, -, e⟩ | ⟨-, -, -, -, e⟩
    · obtain ⟨⟨x, hx, ex⟩, y, hy, ey⟩ := rp_n hG hk
      rw [e 0 (by decide), e 1 (by decide), e 2 (by decide)]
      exact ⟨Or.inr rfl, ⟨x, hx, ex⟩, y, hy, ey⟩
    · obtain ⟨⟨x, hx, ex⟩, y, hy, ey⟩ := rp_n hG hk
      rw [e 0 (by decide), e 1 (by decide), e 2 (by decide)]
      exact ⟨b0, ⟨x, hx, ex⟩, y, hy, ey⟩
    · rw [e 0 (by decide), e 1 (by decide), e 2 (by decide)]
      exact ⟨b0, b1, b2⟩
    · rw [e 0 (by decide), e 1 (by decide), e 2 (by decide)]
      refine ⟨?_, b1, b2⟩
      show (if v 100 < v (101 + 5 * t + 4) + 1 then (0 : Int32) else 1) = 0 ∨ (if v 100 < v (101 + 5 * t + 4) + 1 then (0 : Int32) else 1) = 1
      split
      · exact Or.inl rfl
      · exact Or.inr rfl
  · obtain ⟨c1, c2, c3⟩ := fr_counts hG 6 (Nat.le_refl 6)
    rw [frV_132, frV_133, c1, c2, a7, Int32.add_assoc, Int32.add_assoc, nI_add, nI_add]
    exact congrArg (fun z => v 133 + nI z) (by omega)
/-! sets of tracks as numbers -/
def btI (s : Int32) : Nat → Int32
  | 0 => 0
  | k + 1 => btI s k + ((s >>> (nI k &&& 31)) &&& 1)
theorem bw1 : ∀ n, n < 64 → ∀ w, w < 64 → nI n &&& (nI w ^^^ -1) = nI (n &&& (63 ^^^ w)) := by decide +kernel
theorem bw2 : ∀ n, n < 64 → ∀ w, w < 64 → nI n ^^^ nI w = nI (n ^^^ w) := by decide +kernel
theorem bw3 : ∀ n, n < 64 → ∀ k, k < 6 → ((nI n >>> (nI k &&& 31)) &&& 1) = (if n.testBit k then 1 else 0) ∧ (63 : Nat).testBit k = true := by decide +kernel
theorem bt_n {n : Nat} (hn : n < 64) : ∀ k, k ≤ 6 → btI (nI n) k = nI (cnN (fun t => n.testBit t) k)
  | 0, _ => rfl
  | k + 1, hk => by
    have ih := bt_n hn k (by omega)
    unfold btI cnN
    rw [ih, (bw3 n hn k (by omega)).1]
    by_cases h : n.testBit k = true
    · rw [if_pos h, if_pos h, nI_1]
    · rw [if_neg h, if_neg h, Int32.add_zero]
theorem cnN_cg {q q' : Nat → Bool} : ∀ i, (∀ j, j < i → q j = q' j) → cnN q i = cnN q' i
  | 0, _ => rfl
  | i + 1, h => by
    have ih := cnN_cg (q := q) (q' := q') i fun j hj => h j (by omega)
    unfold cnN
    rw [ih, h i (by omega)]
theorem bt_new {v : Nat → Int32} : btI (nI (dsV (frV v) 6) &&& (nI (dsV v 6) ^^^ -1)) 6 = nI (nwN v 6) ∧ btI (nI (dsV v 6) &&& (nI (dsV (frV v) 6) ^^^ -1)) 6 = nI (lsD v 6) ∧ btI (nI (dsV (frV v) 6) ^^^ nI (dsV v 6)) 6 = nI (nwN v 6 + lsD v 6) := by
  have h1 := ds_lt (v := v) 6 (Nat.le_refl 6)
  have h2 := ds_lt (v := frV v) 6 (Nat.le_refl 6)
  have hb : ∀ n w, n < 64 → w < 64 → n &&& (63 ^^^ w) < 64 := fun n w hn hw => Nat.lt_of_le_of_lt Nat.and_le_left hn
  have hx : dsV (frV v) 6 ^^^ dsV v 6 < 64 := Nat.xor_lt_two_pow (n := 6) h2 h1
  rw [bw1 _ h2 _ h1, bw1 _ h1 _ h2, bw2 _ h2 _ h1, bt_n (hb _ _ h2 h1) 6 (Nat.le_refl 6), bt_n (hb _ _ h1 h2) 6 (Nat.le_refl 6), bt_n hx 6 (Nat.le_refl 6)]
  have e : ∀ t, t < 6 → (dsV v 6).testBit t = dnB v t := fun t ht => by rw [ds_bit, decide_eq_true ht, Bool.true_and]
  have e' : ∀ t, t < 6 → (dsV (frV v) 6).testBit t = dnB (frV v) t := fun t ht => by rw [ds_bit, decide_eq_true ht, Bool.true_and]
  refine ⟨congrArg nI (cnN_cg 6 fun t ht => ?_), congrArg nI (cnN_cg 6 fun t ht => ?_), congrArg nI ?_⟩
  · rw [Nat.testBit_and, Nat.testBit_xor, (bw3 0 (by decide) t ht).2, e t ht, e' t ht, Bool.true_xor]
  · rw [Nat.testBit_and, Nat.testBit_xor, (bw3 0 (by decide) t ht).2, e t ht, e' t ht, Bool.true_xor]
  · have key : ∀ n, n ≤ 6 → cnN (fun t => (dsV (frV v) 6 ^^^ dsV v 6).testBit t) n = nwN v n + lsD v n := by
      intro n
      induction n with
      | zero => exact fun _ => rfl
      | succ n ih =>
        intro hn
        have e3 : nwN v (n + 1) = if (dnB (frV v) n && !dnB v n) then nwN v n + 1 else nwN v n := rfl
        have e4 : lsD v (n + 1) = if (dnB v n && !dnB (frV v) n) then lsD v n + 1 else lsD v n := rfl
        rw [e3, e4]
        unfold cnN
        rw [ih (by omega), Nat.testBit_xor, e n (by omega), e' n (by omega)]
        cases dnB (frV v) n <;> cases dnB v n <;> simp <;> omega
    exact key 6 (Nat.le_refl 6)

