/-! a press -/
theorem rai_at {row : Nat → Int32} {X Y g : Int32} {a b : Nat} (ha : a < 8) (hb : b < 6) : rai row X Y g (6 * a + b) = if X = nI a ∧ Y = nI b then pr255 (row (6 * a + b) + g) else row (6 * a + b) := by
  by_cases h : onP X Y
  · obtain ⟨⟨i, hi, rfl⟩, j, hj, rfl⟩ := h
    rw [rai_in hi hj]
    unfold upd
    by_cases e : 6 * a + b = 6 * i + j
    · have e1 : a = i := by omega
      have e2 : b = j := by omega
      subst e1
      subst e2
      rw [if_pos rfl, if_pos ⟨rfl, rfl⟩, cap_pr]
    · rw [if_neg e, if_neg]
      intro ⟨h1, h2⟩
      have := nI_inj6 (a := i) (b := a) (by omega) (by omega) h1
      have := nI_inj6 (a := j) (b := b) (by omega) (by omega) h2
      omega
  · rw [rai_out h, if_neg]
    intro ⟨h1, h2⟩
    exact h ⟨⟨a, ha, h1⟩, b, hb, h2⟩
theorem prD : ∀ i, i < 8 → ∀ a, a < 8 → (nI i + (-1) = nI a ↔ a + 1 = i) ∧ (nI i + 0 = nI a ↔ a = i) ∧ (nI i + 1 = nI a ↔ a = i + 1) ∧ inI (nI i - nI a) (-1) 1 = decide (a + 1 = i ∨ a = i ∨ a = i + 1) ∧ (a + 1 = i → nI i - nI a = 1) ∧ (a = i → nI i - nI a = 0) ∧ (a = i + 1 → nI i - nI a = -1) := by decide +kernel
theorem prSh : ∀ v, v < 256 → nI v >>> 0 = nI v ∧ nI v >>> 1 = nI v / 2 ∧ nI v >>> 2 = nI v / 4 ∧ nI v / 2 = nI (v / 2) ∧ nI v / 4 = nI (v / 4) := by decide +kernel
theorem prK : ((-1 : Int32) * -1 + -1 * -1) &&& 31 = 2 ∧ ((-1 : Int32) * -1 + 0 * 0) &&& 31 = 1 ∧ ((-1 : Int32) * -1 + 1 * 1) &&& 31 = 2 ∧ ((0 : Int32) * 0 + -1 * -1) &&& 31 = 1 ∧ ((0 : Int32) * 0 + 0 * 0) &&& 31 = 0 ∧ ((0 : Int32) * 0 + 1 * 1) &&& 31 = 1 ∧ ((1 : Int32) * 1 + -1 * -1) &&& 31 = 2 ∧ ((1 : Int32) * 1 + 0 * 0) &&& 31 = 1 ∧ ((1 : Int32) * 1 + 1 * 1) &&& 31 = 2 := by decide +kernel
theorem apI_at {i j a b : Nat} (hi : i < 8) (hj : j < 6) (ha : a < 8) (hb : b < 6) : apI (6 * i + j) (6 * a + b) = if (a + 1 = i ∨ a = i ∨ a = i + 1) ∧ (b + 1 = j ∨ b = j ∨ b = j + 1) then (if a = i then 0 else 1) + (if b = j then 0 else 1) else 3 := by
  unfold apI
  rw [show (6 * i + j) / 6 = i by omega, show (6 * a + b) / 6 = a by omega, show (6 * i + j) % 6 = j by omega, show (6 * a + b) % 6 = b by omega]
  obtain ⟨-, -, -, p4, p5, p6, p7⟩ := prD i hi a ha
  obtain ⟨-, -, -, q4, q5, q6, q7⟩ := prD j (by omega) b (by omega)
  rw [p4, q4]
  by_cases h1 : a + 1 = i ∨ a = i ∨ a = i + 1
  · by_cases h2 : b + 1 = j ∨ b = j ∨ b = j + 1
    · rw [if_pos (by rw [decide_eq_true h1, decide_eq_true h2]; rfl), if_pos ⟨h1, h2⟩]
      rcases h1 with e1 | e1 | e1 <;> rcases h2 with e2 | e2 | e2
      · rw [p5 e1, q5 e2, if_neg (by omega), if_neg (by omega)]; rfl
      · rw [p5 e1, q6 e2, if_neg (by omega), if_pos e2]; rfl
      · rw [p5 e1, q7 e2, if_neg (by omega), if_neg (by omega)]; rfl
      · rw [p6 e1, q5 e2, if_pos e1, if_neg (by omega)]; rfl
      · rw [p6 e1, q6 e2, if_pos e1, if_pos e2]; rfl
      · rw [p6 e1, q7 e2, if_pos e1, if_neg (by omega)]; rfl
      · rw [p7 e1, q5 e2, if_neg (by omega), if_neg (by omega)]; rfl
      · rw [p7 e1, q6 e2, if_neg (by omega), if_pos e2]; rfl
      · rw [p7 e1, q7 e2, if_neg (by omega), if_neg (by omega)]; rfl
    · rw [if_neg (by rw [decide_eq_false h2, Bool.and_false]; decide), if_neg (fun h => h2 h.2)]
  · rw [if_neg (by rw [decide_eq_false h1, Bool.false_and]; decide), if_neg (fun h => h1 h.1)]
theorem prs9_at {row : Nat → Int32} {i j a b v : Nat} (hi : i < 8) (hj : j < 6) (ha : a < 8) (hb : b < 6) (hv : v < 256) (hr : ∃ w, w < 256 ∧ row (6 * a + b) = nI w) : prs9 row (nI i) (nI j) (nI v) (6 * a + b) = prF row (6 * i + j) (nI v) 48 (6 * a + b) := by
  have hF : prF row (6 * i + j) (nI v) 48 (6 * a + b) = pr255 (row (6 * a + b) + prA (6 * i + j) (6 * a + b) (nI v)) := if_pos (by omega)
  rw [hF]
  obtain ⟨k1, k2, k3, k4, k5, k6, k7, k8, k9⟩ := prK
  obtain ⟨s0, s1, s2, -, -⟩ := prSh v hv
  unfold prs9 prs3
  rw [k1, k2, k3, k4, k5, k6, k7, k8, k9, s0, s1, s2]
  simp only [rai_at ha hb]
  obtain ⟨p1, p2, p3, -⟩ := prD i hi a ha
  obtain ⟨q1, q2, q3, -⟩ := prD j (by omega) b (by omega)
  simp only [p1, p2, p3, q1, q2, q3]
  unfold prA
  rw [apI_at hi hj ha hb]
  obtain ⟨w, hw, ew⟩ := hr
  have hid : pr255 (row (6 * a + b) + 0) = row (6 * a + b) := by rw [Int32.add_zero, ew]; exact pr_id hw
  by_cases a1 : a + 1 = i
  · skip
    have a2 : ¬ a = i := by omega
    have a3 : ¬ a = i + 1 := by omega
    by_cases b1 : b + 1 = j
    · skip
      have b2 : ¬ b = j := by omega
      have b3 : ¬ b = j + 1 := by omega
      simp only [eq_true a1, eq_false a2, eq_false a3, eq_true b1, eq_false b2, eq_false b3, and_true, and_false, true_and, false_and, or_true, or_false, true_or, false_or, and_self, or_self, if_true, if_false]
      rfl
    · skip
      by_cases b2 : b = j
      · skip
        have b3 : ¬ b = j + 1 := by omega
        simp only [eq_true a1, eq_false a2, eq_false a3, eq_false b1, eq_true b2, eq_false b3, and_true, and_false, true_and, false_and, or_true, or_false, true_or, false_or, and_self, or_self, if_true, if_false]
        rfl
      · skip
        by_cases b3 : b = j + 1
        · skip
          simp only [eq_true a1, eq_false a2, eq_false a3, eq_false b1, eq_false b2, eq_true b3, and_true, and_false, true_and, false_and, or_true, or_false, true_or, false_or, and_self, or_self, if_true, if_false]
          rfl
        · skip
          simp only [eq_true a1, eq_false a2, eq_false a3, eq_false b1, eq_false b2, eq_false b3, and_true, and_false, true_and, false_and, or_true, or_false, true_or, false_or, and_self, or_self, if_true, if_false]
          exact hid.symm
  · skip
    by_cases a2 : a = i
    · skip
      have a3 : ¬ a = i + 1 := by omega
      by_cases b1 : b + 1 = j
      · skip
        have b2 : ¬ b = j := by omega
        have b3 : ¬ b = j + 1 := by omega
        simp only [eq_false a1, eq_true a2, eq_false a3, eq_true b1, eq_false b2, eq_false b3, and_true, and_false, true_and, false_and, or_true, or_false, true_or, false_or, and_self, or_self, if_true, if_false]
        rfl
      · skip
        by_cases b2 : b = j
        · skip
          have b3 : ¬ b = j + 1 := by omega
          simp only [eq_false a1, eq_true a2, eq_false a3, eq_false b1, eq_true b2, eq_false b3, and_true, and_false, true_and, false_and, or_true, or_false, true_or, false_or, and_self, or_self, if_true, if_false]
          rfl
        · skip
          by_cases b3 : b = j + 1
          · skip
            simp only [eq_false a1, eq_true a2, eq_false a3, eq_false b1, eq_false b2, eq_true b3, and_true, and_false, true_and, false_and, or_true, or_false, true_or, false_or, and_self, or_self, if_true, if_false]
            rfl
          · skip
            simp only [eq_false a1, eq_true a2, eq_false a3, eq_false b1, eq_false b2, eq_false b3, and_true, and_false, true_and, false_and, or_true, or_false, true_or, false_or, and_self, or_self, if_true, if_false]
            exact hid.symm
    · skip
      by_cases a3 : a = i + 1
      · skip
        by_cases b1 : b + 1 = j
        · skip
          have b2 : ¬ b = j := by omega
          have b3 : ¬ b = j + 1 := by omega
          simp only [eq_false a1, eq_false a2, eq_true a3, eq_true b1, eq_false b2, eq_false b3, and_true, and_false, true_and, false_and, or_true, or_false, true_or, false_or, and_self, or_self, if_true, if_false]
          rfl
        · skip
          by_cases b2 : b = j
          · skip
            have b3 : ¬ b = j + 1 := by omega
            simp only [eq_false a1, eq_false a2, eq_true a3, eq_false b1, eq_true b2, eq_false b3, and_true, and_false, true_and, false_and, or_true, or_false, true_or, false_or, and_self, or_self, if_true, if_false]
            rfl
          · skip
            by_cases b3 : b = j + 1
            · skip
              simp only [eq_false a1, eq_false a2, eq_true a3, eq_false b1, eq_false b2, eq_true b3, and_true, and_false, true_and, false_and, or_true, or_false, true_or, false_or, and_self, or_self, if_true, if_false]
              rfl
            · skip
              simp only [eq_false a1, eq_false a2, eq_true a3, eq_false b1, eq_false b2, eq_false b3, and_true, and_false, true_and, false_and, or_true, or_false, true_or, false_or, and_self, or_self, if_true, if_false]
              exact hid.symm
      · skip
        simp only [eq_false a1, eq_false a2, eq_false a3, and_true, and_false, true_and, false_and, or_true, or_false, true_or, false_or, and_self, or_self, if_true, if_false]
        exact hid.symm
theorem prA_nI {c k v : Nat} (hv : v < 256) : ∃ u, u < 256 ∧ prA c k (nI v) = nI u := by
  obtain ⟨-, -, -, s3, s4⟩ := prSh v hv
  unfold prA
  by_cases h1 : apI c k = 0
  · exact ⟨v, hv, if_pos h1⟩
  · rw [if_neg h1]
    by_cases h2 : apI c k = 1
    · exact ⟨v / 2, by omega, (if_pos h2).trans s3⟩
    · rw [if_neg h2]
      by_cases h3 : apI c k = 2
      · exact ⟨v / 4, by omega, (if_pos h3).trans s4⟩
      · exact ⟨0, by omega, if_neg h3⟩
theorem prF_nI {row : Nat → Int32} {c v q : Nat} (hv : v < 256) (hr : ∃ w, w < 256 ∧ row q = nI w) : ∃ u, u < 256 ∧ prF row c (nI v) 48 q = nI u := by
  obtain ⟨w, hw, ew⟩ := hr
  unfold prF
  by_cases h : q < 48
  · rw [if_pos h]
    obtain ⟨u, hu, eu⟩ := prA_nI (c := c) (k := q) hv
    rw [ew, eu, nI_add]
    exact pr_nI (by omega)
  · rw [if_neg h]
    exact ⟨w, hw, ew⟩
section LCP
variable {S S1 : mS} {h k : Nat} {x y v r1 : Int32}
theorem prs9_cell {A1 : mS} {row : Nat → Int32} {i j d q : Nat} (hi : i < 8) (hj : j < 6) (hd : d < 256) (hq : q < 48) (e : ∀ j, j < 48 → A1.1 3 j = row j) (hr : ∃ w, w < 256 ∧ row q = nI w) : prs9 (A1.1 3) (nI i) (nI j) (nI d) q = prF row (6 * i + j) (nI d) 48 q := by
  have h6 : q = 6 * (q / 6) + q % 6 := by omega
  have hr2 : ∃ w, w < 256 ∧ A1.1 3 (6 * (q / 6) + q % 6) = nI w := by rw [← h6, e q hq]; exact hr
  have := prs9_at (row := A1.1 3) (i := i) (j := j) (a := q / 6) (b := q % 6) (v := d) hi hj (by omega) (by omega) hd hr2
  rw [← h6] at this
  rw [this]
  unfold prF
  rw [if_pos hq, if_pos hq, e q hq]
theorem lc_press (hI : INV S S h k) (h1 : hlP (pC_press S h k x y v) (pX_press S h k x y v) cdIA r1 S1) : RLs S S1 ∧ ∀ r2 S2, pR_press S1 h k x y v r2 S2 → LCok S2 r1 r2 := by
  rcases h1 with ⟨rfl, w, T, hp, rfl⟩ | ⟨E, hp, hc⟩
  · obtain ⟨i, j, A1, hi, hj, ex, ey, hv, hs, rfl, hw⟩ := hp
    have hR : RLs S ((mset A1 3 (prs9 (A1.1 3) x y v)).1, ((mset A1 3 (prs9 (A1.1 3) x y v)).2.1, w.toInt64)) := fun q hq => (mset_n (by omega)).trans (sv_RL hI hs q (by omega))
    refine ⟨hR, fun r2 S2 h2 => ?_⟩
    rcases h2 with ⟨hn, -⟩ | ⟨-, hn, -⟩ | ⟨i2, j2, hi2, hj2, ex2, ey2, -, rfl, hr2⟩
    · exact absurd ⟨⟨i, hi, ex⟩, j, hj, ey⟩ hn
    · rw [hv] at hn; cases hn
    · obtain ⟨rfl, rfl⟩ := ij_uniq hi hj hi2 hj2 (ex.symm.trans ex2) (ey.symm.trans ey2)
      obtain ⟨g1, g2⟩ := kp_row hI hs hR
      obtain ⟨d, -, hd, ed⟩ := inI_n (lo := 1) (hi := 255) (by decide) hv (by decide)
      subst ed
      have e3 : ∀ q, q < 48 → A1.1 3 q = (kpS (mupd ((mset A1 3 (prs9 (A1.1 3) x y (nI d))).1, ((mset A1 3 (prs9 (A1.1 3) x y (nI d))).2.1, w.toInt64)) 130 0 0) h).1 131 q := fun q hq => by rw [← g1 q (by omega), cb_raw hq]
      have key : ∀ q, q < 48 → prs9 (A1.1 3) x y (nI d) q = prF ((kpS (mupd ((mset A1 3 (prs9 (A1.1 3) x y (nI d))).1, ((mset A1 3 (prs9 (A1.1 3) x y (nI d))).2.1, w.toInt64)) 130 0 0) h).1 131) (6 * i2 + j2) (nI d) 48 q := fun q hq => by
        have := prs9_cell (A1 := A1) (i := i2) (j := j2) (d := d) hi hj (by omega) hq e3 (g2.1 q (by omega))
        rw [← ex2, ← ey2] at this
        exact this
      refine (LP_blk (r1 := 0) (r2 := r2) hI hs hR (fun q hq => mset_n (by omega)) rfl (by exact kpS_2) (fun q hq => mset_n hq) (fun j hj => ?_) (fun j hj => ?_) (RG_lo g2 (fun j hj => ?_) (fun j hj _ => ?_))).2.1 ?_
      · rw [mset_s]; exact if_neg (by omega)
      · refine (cb_3 (A := A1)).trans ?_
        rw [mset_s]
        by_cases h48 : j < 48
        · rw [if_pos h48]; exact key j h48
        · rw [if_neg h48]; exact (g1 j hj).trans (if_neg h48).symm
      · rw [mset_s]
        exact prF_nI (by omega) (g2.1 j hj)
      · rw [mset_s]; exact if_neg (by omega)
      · exact congrArg Int32.toInt64 (hw.trans ((key _ (by omega)).trans hr2.symm))
  · obtain ⟨rfl, hn⟩ := hp
    refine ⟨RLs.refl, fun r2 S2 h2 => ?_⟩
    rcases hc with ⟨hE, rfl⟩ | ⟨hE, rfl⟩
    · rcases hn with ⟨-, hn⟩ | ⟨hE2, -⟩
      · rcases h2 with ⟨-, rfl⟩ | ⟨hn2, -, -⟩ | ⟨i2, j2, hi2, hj2, ex2, ey2, -⟩
        · exact LC_thr hI (by decide)
        · exact absurd hn2 hn
        · exact absurd ⟨⟨i2, hi2, ex2⟩, j2, hj2, ey2⟩ hn
      · exact absurd (hE.symm.trans hE2) (by decide)
    · rcases hn with ⟨hE2, -⟩ | ⟨-, hn1, hn⟩
      · exact absurd (hE2.symm.trans hE) (by decide)
      · rcases h2 with ⟨hn2, -⟩ | ⟨-, -, rfl⟩ | ⟨i2, j2, hi2, hj2, ex2, ey2, hv, -⟩
        · exact absurd hn1 hn2
        · exact LC_thr hI (by decide)
        · rw [hv] at hn; cases hn
end LCP

