/-! the calls that change the block -/
theorem INV_blk {A B A' B' : mS} {h k : Nat} (hI : INV A B h k) (ha : ∀ q, (25 ≤ q ∧ q < 99) ∨ q = 125 ∨ q = 127 ∨ q = 128 → A'.1 q = A.1 q) (ha2 : A'.2.1 = A.2.1) (hb : B'.1 132 = B.1 132 ∧ B'.1 130 2 = B.1 130 2 ∧ B'.1 130 4 = B.1 130 4) (hb1 : ∀ j, 134 ≤ j → B'.1 131 j = B.1 131 j) (hcb : ∀ j, j < 134 → cb A' 1 j = B'.1 131 j) (hrg : RG (B'.1 131)) : INV A' B' h k := by
  obtain ⟨h1, ⟨h2, h3, h4⟩, ⟨h5, h6, h7, h8⟩, h9, h10, h11, hz⟩ := hI
  refine ⟨?_, ⟨by rw [ha 25 (Or.inl (by omega))]; exact h2, h3, by rw [hb.2.1]; exact h4⟩, ⟨by rw [ha 127 (by omega)]; exact h5, by rw [hb.2.2]; exact h6, h7, by rw [ha 128 (by omega), hb.1]; exact h8⟩, hcb, hrg, fun i hi => ?_, fun s hs => by rw [ha 125 (by omega)]; exact hz s hs⟩
  · unfold pmOk at h1 ⊢
    rw [ha2]
    exact h1
  · have hp := h1.1 i (by omega)
    have hc := mst_cases hp.1
    rw [ha2]
    refine ⟨fun j hj => ?_, RG_cg (h11 i hi).2 fun j hj => hb1 _ (by omega)⟩
    rw [hb1 _ (by omega), cb_rows (S := A) (fun q g1 g2 => ha q (Or.inl (by omega))) j hj]
    exact (h11 i hi).1 j hj
theorem RG_lo {g g' : Nat → Int32} (h : RG g) (h1 : ∀ j, j < 96 → ∃ v, v < 256 ∧ g' j = nI v) (h2 : ∀ j, 96 ≤ j → j < 131 → g' j = g j) : RG g' := by
  obtain ⟨-, a2, a3, a4, a5, a6, a7⟩ := h
  refine ⟨h1, by rw [h2 96 (by omega) (by omega)]; exact a2, by rw [h2 97 (by omega) (by omega)]; exact a3, by rw [h2 98 (by omega) (by omega)]; exact a4, by rw [h2 99 (by omega) (by omega)]; exact a5, by rw [h2 100 (by omega) (by omega)]; exact a6, fun t ht => ?_⟩
  unfold RGt
  rw [h2 _ (by omega) (by omega), h2 _ (by omega) (by omega), h2 _ (by omega) (by omega), h2 _ (by omega) (by omega)]
  exact a7 t ht
theorem cb_3 {A : mS} {f : Nat → Int32} {j : Nat} : cb (mset A 3 f) 1 j = if j < 48 then f j else cb A 1 j := by
  unfold cb
  by_cases h : j < 48
  · rw [if_pos h, if_pos h]
    exact congrFun mset_s j
  · rw [if_neg h, if_neg h]
    rw [mset_n (k := 3) (q := 1 + 3) (by omega), mset_n (k := 3) (q := 1 + 4) (by omega), mset_n (k := 3) (q := 1 + 6 + (j - 101) / 5) (by omega), mset_n (k := 3) (q := 1) (by omega), if_neg h]
theorem cb_4 {A : mS} {f : Nat → Int32} {j : Nat} : cb (mset A 4 f) 1 j = if 48 ≤ j ∧ j < 96 then f (j - 48) else cb A 1 j := by
  unfold cb
  rw [mset_n (k := 4) (q := 1 + 2) (by omega), mset_n (k := 4) (q := 1 + 4) (by omega), mset_n (k := 4) (q := 1 + 6 + (j - 101) / 5) (by omega), mset_n (k := 4) (q := 1) (by omega)]
  by_cases h : j < 48
  · rw [if_pos h, if_neg (by omega), if_pos h]
  · by_cases h2 : j < 96
    · rw [if_neg h, if_pos h2, if_pos (by omega)]
      exact congrFun mset_s _
    · rw [if_neg h, if_neg h2, if_neg (show ¬ (48 ≤ j ∧ j < 96) by omega), if_neg h, if_neg h2]
theorem cb_5 {A : mS} {f : Nat → Int32} {j : Nat} : cb (mset A 5 f) 1 j = if 96 ≤ j ∧ j < 101 then f (j - 96) else cb A 1 j := by
  unfold cb
  rw [mset_n (k := 5) (q := 1 + 2) (by omega), mset_n (k := 5) (q := 1 + 3) (by omega), mset_n (k := 5) (q := 1 + 6 + (j - 101) / 5) (by omega), mset_n (k := 5) (q := 1) (by omega)]
  by_cases h : j < 48
  · rw [if_pos h, if_neg (by omega), if_pos h]
  · by_cases h2 : j < 96
    · rw [if_neg h, if_pos h2, if_neg (by omega), if_neg h, if_pos h2]
    · by_cases h3 : j < 101
      · rw [if_neg h, if_neg h2, if_pos h3, if_pos (by omega)]
        exact congrFun mset_s _
      · rw [if_neg h, if_neg h2, if_neg h3, if_neg (show ¬ (96 ≤ j ∧ j < 101) by omega), if_neg h, if_neg h2, if_neg h3]
theorem kpS_0 {B : mS} {h : Nat} : (kpS (mupd B 130 0 0) h).1 130 0 = 0 := by
  unfold kpS
  by_cases hh : h < 6
  · rw [if_pos hh, mset_n (by decide), mupd_sn (by decide), mupd_ss]
  · rw [if_neg hh, mset_n (by decide), mupd_sn (by decide), mupd_ss]
/-- behind a save the model's rows are where they were -/
theorem sv_RL {A A' B : mS} {h k : Nat} (hI : INV A B h k) (hs : svR A h A') : ∀ q, 99 ≤ q → A'.1 q = A.1 q := by
  intro q hq
  have hpm : pmOk (A.1, (svP A h, A.2.2)) := by
    unfold svP
    by_cases hh : h = 6
    · rw [if_pos hh]; exact rot_ok hI.1
    · rw [if_neg hh]; exact hI.1
  have hvi : svI h < 6 := by
    have := hI.2.1.2.1
    unfold svI
    by_cases hh : h = 6
    · rw [if_pos hh]; omega
    · rw [if_neg hh]; omega
  have hc := mst_cases (hpm.1 (svI h) hvi).1
  dsimp only at hc
  exact hs.2.1 q (by omega) (by omega)
/-- both sides have saved: the state A1 of the class and the model's rows K -/
theorem sv_both {S A1 : mS} {h k : Nat} (hI : INV S S h k) (hs : svR S h A1) {S1 : mS} (h1 : RLs S S1) : INV A1 (kpS (mupd S1 130 0 0) h) (svI h + 1) k := (sv_INV (INV_cg hI CW.refl h1.rw) hs).1
/-- a change of the block behind the save, on both sides -/
theorem LP_blk {S A1 S1 S2 : mS} {h k : Nat} {r1 r2 : Int32} (hI : INV S S h k) (hs : svR S h A1) (hr : RLs S S1) (ha : ∀ q, (25 ≤ q ∧ q < 99) ∨ q = 125 ∨ q = 127 ∨ q = 128 → S1.1 q = A1.1 q) (ha2 : S1.2.1 = A1.2.1) (e : S2.2 = S1.2) (c : ∀ q, q ≠ 131 → S2.1 q = (kpS (mupd S1 130 0 0) h).1 q) (hb1 : ∀ j, 134 ≤ j → S2.1 131 j = (kpS (mupd S1 130 0 0) h).1 131 j) (hcb : ∀ j, j < 134 → cb S1 1 j = S2.1 131 j) (hrg : RG (S2.1 131)) : S2.1 130 0 = 0 ∧ ((S1.2.2 = r2.toInt64) → LCok S2 0 r2) ∧ (r1 = r2 → LPok S2 r1 r2) := by
  have hJ := sv_both hI hs hr
  have hK := INV_blk hJ (A' := S1) (B' := S2) ha ha2 ⟨c 132 (by decide), congrFun (c 130 (by decide)) 2, congrFun (c 130 (by decide)) 4⟩ hb1 hcb hrg
  have h0 : S2.1 130 0 = 0 := (congrFun (c 130 (by decide)) 0).trans kpS_0
  have hc : ∀ q, q < 130 → S2.1 q = S1.1 q := fun q hq => (c q (by omega)).trans (kpSn (by omega) (by omega))
  exact ⟨h0, fun ho => LC_mk e hc hK h0 (fun _ => ho), fun hr => LP_mk e hc hK hr⟩
theorem kp_cur {B : mS} {h j : Nat} (h6 : h ≤ 6) (hj : j < 134) : (kpS (mupd B 130 0 0) h).1 131 j = B.1 131 j := by
  have := kpS_row (B := B) h6 0 j hj (by omega)
  rw [Nat.mul_zero, Nat.zero_add] at this
  rw [this]
  by_cases hh : h < 6
  · rw [if_pos hh, if_neg (by omega)]
  · rw [if_neg hh, if_pos rfl]
/-- what the class's block and the model's are, behind the save -/
theorem kp_row {S A1 S1 : mS} {h k : Nat} (hI : INV S S h k) (hs : svR S h A1) (hr : RLs S S1) : (∀ j, j < 134 → cb A1 1 j = (kpS (mupd S1 130 0 0) h).1 131 j) ∧ RG ((kpS (mupd S1 130 0 0) h).1 131) := by
  have hJ := sv_both hI hs hr
  exact ⟨INV_row hJ, hJ.2.2.2.2.1⟩
theorem cap_pr {v : Int32} : cap255 v = pr255 v := by
  unfold cap255 pr255
  by_cases h1 : v < 255
  · rw [if_pos h1, if_neg (fun h => Int32.lt_irrefl (Int32.lt_trans h h1))]
  · rw [if_neg h1]
    by_cases h2 : 255 < v
    · rw [if_pos h2]
    · rw [if_neg h2]
      exact Int32.le_antisymm (Int32.not_lt.mp h1) (Int32.not_lt.mp h2)
theorem pr_nI {w : Nat} (hw : w < 2 ^ 30) : ∃ u, u < 256 ∧ pr255 (nI w) = nI u := by
  unfold pr255
  by_cases h : 255 < nI w
  · exact ⟨255, by omega, if_pos h⟩
  · rw [if_neg h]
    refine ⟨w, ?_, rfl⟩
    have h2 : ¬ 255 < w := fun h3 => h (nI_lt (a := 255) h3 (by omega))
    omega
theorem pr_id {w : Nat} (hw : w < 256) : pr255 (nI w) = nI w := if_neg fun h => by
  have := (nI_ltI (a := 255) (b := w) (by omega) (by omega)).mp h
  omega
section LCB
variable {S S1 : mS} {h k : Nat} {x y v r1 : Int32}
theorem lc_setRaw (hI : INV S S h k) (h1 : hlP (pC_setRaw S h k x y v) (pX_setRaw S h k x y v) cdIA r1 S1) : RLs S S1 ∧ ∀ r2 S2, pR_setRaw S1 h k x y v r2 S2 → LCok S2 r1 r2 := by
  rcases h1 with ⟨rfl, w, T, hp, rfl⟩ | ⟨E, hp, hc⟩
  · obtain ⟨i, j, A1, hi, hj, ex, ey, hv, hs, rfl, hw⟩ := hp
    have hR : RLs S ((mset A1 3 (upd (A1.1 3) (6 * i + j) v)).1, ((mset A1 3 (upd (A1.1 3) (6 * i + j) v)).2.1, w.toInt64)) := fun q hq => (mset_n (by omega)).trans (sv_RL hI hs q (by omega))
    refine ⟨hR, fun r2 S2 h2 => ?_⟩
    rcases h2 with ⟨hn, -⟩ | ⟨-, hn, -⟩ | ⟨i2, j2, hi2, hj2, ex2, ey2, -, rfl, hr2⟩
    · exact absurd ⟨⟨i, hi, ex⟩, j, hj, ey⟩ hn
    · rw [hv] at hn; cases hn
    · obtain ⟨rfl, rfl⟩ := ij_uniq hi hj hi2 hj2 (ex.symm.trans ex2) (ey.symm.trans ey2)
      obtain ⟨g1, g2⟩ := kp_row hI hs hR
      obtain ⟨d, -, hd, ed⟩ := inI_n (lo := 0) (hi := 255) (by decide) hv (by decide)
      refine (LP_blk (r1 := 0) (r2 := r2) hI hs hR (fun q hq => mset_n (by omega)) rfl (by exact kpS_2) (fun q hq => mupd_n hq) (fun j hj => mupd_sn (by omega)) (fun j hj => ?_) (RG_lo g2 (fun j hj => ?_) (fun j hj _ => mupd_sn (by omega)))).2.1 ?_
      · refine (cb_3 (A := A1)).trans ?_
        by_cases e : j = 6 * i2 + j2
        · rw [e, mupd_ss, if_pos (by omega)]
          exact if_pos rfl
        · rw [mupd_sn e, ← g1 j hj]
          by_cases h48 : j < 48
          · rw [if_pos h48, cb_raw h48]
            exact if_neg e
          · rw [if_neg h48]
      · by_cases e : j = 6 * i2 + j2
        · rw [e, mupd_ss]
          exact ⟨d, by omega, ed⟩
        · rw [mupd_sn e]
          exact g2.1 j hj
      · refine congrArg Int32.toInt64 (hw.trans (Eq.trans ?_ hr2.symm))
        rw [← g1 _ (by omega), cb_raw (by omega)]
  · obtain ⟨rfl, hn⟩ := hp
    refine ⟨RLs.refl, fun r2 S2 h2 => ?_⟩
    rcases hc with ⟨hE, rfl⟩ | ⟨hE, rfl⟩
    · rcases hn with ⟨-, hn⟩ | ⟨hE2, -⟩
      · rcases h2 with ⟨-, rfl⟩ | ⟨hn2, -, -⟩ | ⟨i2, j2, hi2, hj2, ex2, ey2, -⟩
        · exact LC_thr hI (by decide)
        · exact absurd hn2 hn
        · exact absurd ⟨⟨i2, hi2, ex2⟩, j2, hj2, ey2⟩ hn
      · exact absurd (hE.symm.trans hE2) (by decide)
    · rcases hn with ⟨hE2, -⟩ | ⟨-, hn1, hn⟩
      · exact absurd (hE2.symm.trans hE) (by decide)
      · rcases h2 with ⟨hn2, -⟩ | ⟨-, -, rfl⟩ | ⟨i2, j2, hi2, hj2, ex2, ey2, hv, -⟩
        · exact absurd hn1 hn2
        · exact LC_thr hI (by decide)
        · rw [hv] at hn; cases hn
theorem cnt_bz {q : Nat → Bool} {f : Nat → Int32} (f0 : f 0 = 0) {N : Nat} (fs : ∀ i, i < N → f (i + 1) = f i + bz (q i)) : ∀ i, i ≤ N → cntI q i = f i
  | 0, _ => f0.symm
  | i + 1, hi => by
    rw [fs i (by omega), ← cnt_bz f0 fs i (by omega)]
    cases hq : q i with
    | true => rw [cntI_y hq]; rfl
    | false => rw [cntI_n hq]; exact (Int32.add_zero _).symm
theorem cnt_cg {q q' : Nat → Bool} : ∀ i, (∀ j, j < i → q j = q' j) → cntI q i = cntI q' i
  | 0, _ => rfl
  | i + 1, h => by
    have e := cnt_cg i (fun j hj => h j (by omega))
    cases hq : q i with
    | true => rw [cntI_y hq, cntI_y ((h i (by omega)).symm.trans hq), e]
    | false => rw [cntI_n hq, cntI_n ((h i (by omega)).symm.trans hq), e]
theorem lc_release (hI : INV S S h k) (h1 : pC_release S h k x y v r1 S1) : RLs S S1 ∧ ∀ r2 S2, pR_release S1 h k x y v r2 S2 → LPok S2 r1 r2 := by
  obtain ⟨A1, hs, rfl, hr⟩ := h1
  have hR : RLs S (mset A1 3 (fun k => if k < 48 then 0 else A1.1 3 k)) := fun q hq => (mset_n (by omega)).trans (sv_RL hI hs q (by omega))
  refine ⟨hR, fun r2 S2 h2 => ?_⟩
  obtain ⟨rfl, hr2⟩ := h2
  obtain ⟨g1, g2⟩ := kp_row hI hs hR
  refine (LP_blk (r1 := r1) (r2 := r2) hI hs hR (fun q hq => mset_n (by omega)) rfl (by exact kpS_2) (fun q hq => mset_n hq) (fun j hj => ?_) (fun j hj => ?_) (RG_lo g2 (fun j hj => ?_) (fun j hj _ => ?_))).2.2 ?_
  · rw [mset_s]; exact if_neg (by omega)
  · refine (cb_3 (A := A1)).trans ?_
    rw [mset_s]
    unfold zt
    by_cases h48 : j < 48
    · rw [if_pos h48, if_pos h48, if_pos h48]
    · rw [if_neg h48, if_neg h48]; exact g1 j hj
  · rw [mset_s]
    unfold zt
    by_cases h48 : j < 48
    · rw [if_pos h48]; exact ⟨0, by omega, rfl⟩
    · rw [if_neg h48]; exact g2.1 j hj
  · rw [mset_s]; exact if_neg (by omega)
  · rw [hr, hr2]
    refine (cnt_cg 48 fun j hj => ?_).trans (cnt_bz (f := rlN ((kpS (mupd (mset A1 3 (fun k => if k < 48 then 0 else A1.1 3 k)) 130 0 0) h).1 131)) (N := 48) rfl (fun i hi => rfl) 48 (by omega))
    show decide (A1.1 3 j ≠ 0) = !(decide _)
    rw [← g1 j (by omega), cb_raw hj]
    exact decide_not
theorem lc_calibrate (hI : INV S S h k) (h1 : pC_calibrate S h k x y v r1 S1) : RLs S S1 ∧ ∀ r2 S2, pR_calibrate S1 h k x y v r2 S2 → LPok S2 r1 r2 := by
  obtain ⟨A1, hs, rfl, hr⟩ := h1
  have hR : RLs S (mset A1 4 (fun k => if k < 48 then A1.1 3 k else A1.1 4 k)) := fun q hq => (mset_n (by omega)).trans (sv_RL hI hs q (by omega))
  refine ⟨hR, fun r2 S2 h2 => ?_⟩
  obtain ⟨rfl, hr2⟩ := h2
  obtain ⟨g1, g2⟩ := kp_row hI hs hR
  refine (LP_blk (r1 := r1) (r2 := r2) hI hs hR (fun q hq => mset_n (by omega)) rfl (by exact kpS_2) (fun q hq => mset_n hq) (fun j hj => ?_) (fun j hj => ?_) (RG_lo g2 (fun j hj => ?_) (fun j hj _ => ?_))).2.2 ?_
  · rw [mset_s]; exact if_neg (by omega)
  · refine (cb_4 (A := A1)).trans ?_
    rw [mset_s]
    unfold caF
    by_cases h48 : 48 ≤ j ∧ j < 96
    · rw [if_pos h48, if_pos (by omega), if_pos (by omega), ← g1 _ (by omega), cb_raw (by omega)]
    · rw [if_neg h48, if_neg (by omega)]; exact g1 j hj
  · rw [mset_s]
    unfold caF
    by_cases h48 : 48 ≤ j ∧ j < 48 + 48
    · rw [if_pos h48]; exact g2.1 _ (by omega)
    · rw [if_neg h48]; exact g2.1 j hj
  · rw [mset_s]; exact if_neg (by omega)
  · rw [hr, hr2]
    refine (cnt_cg 48 fun j hj => ?_).trans (cnt_bz (f := caN ((kpS (mupd (mset A1 4 (fun k => if k < 48 then A1.1 3 k else A1.1 4 k)) 130 0 0) h).1 131)) (N := 48) rfl (fun i hi => rfl) 48 (by omega))
    show decide (A1.1 4 j ≠ A1.1 3 j) = !(decide (_ = _))
    rw [← g1 j (by omega), ← g1 (48 + j) (by omega), cb_raw hj, cb_bas hj]
    rw [← decide_not]
    exact decide_eq_decide.mpr ⟨fun h e => h e.symm, fun h e => h e.symm⟩
theorem lc_set (hI : INV S S h k) (h1 : hlP (pC_set S h k x y v) (pX_set S h k x y v) cdIA r1 S1) : RLs S S1 ∧ ∀ r2 S2, pR_set S1 h k x y v r2 S2 → LCok S2 r1 r2 := by
  rcases h1 with ⟨rfl, w, T, hp, rfl⟩ | ⟨E, hp, hc⟩
  · obtain ⟨q, A1, hq, ex, hv, hs, rfl, hw⟩ := hp
    have hR : RLs S ((mupd A1 5 q v).1, ((mupd A1 5 q v).2.1, w.toInt64)) := fun q hq => (mset_n (by omega)).trans (sv_RL hI hs q (by omega))
    refine ⟨hR, fun r2 S2 h2 => ?_⟩
    rcases h2 with ⟨hn, -⟩ | ⟨q2, hq2, ex2, ⟨hn, -⟩ | ⟨-, rfl, hr2⟩⟩
    · exact absurd ⟨q, hq, ex⟩ ((inI_nex (N := 4) (by decide)).mp hn)
    · have e : q2 = q := nI_inj6 (by omega) (by omega) (ex2.symm.trans ex)
      subst e
      have hv2 : inI v (if q2 = 4 then 0 else 1) (mostN q2) = true := hv
      rw [hv2] at hn; cases hn
    · have e : q2 = q := nI_inj6 (by omega) (by omega) (ex2.symm.trans ex)
      subst e
      obtain ⟨g1, g2⟩ := kp_row hI hs hR
      have hcbj : ∀ j, j < 134 → cb (mupd A1 5 q2 v) 1 j = (mupd (kpS (mupd ((mupd A1 5 q2 v).1, ((mupd A1 5 q2 v).2.1, w.toInt64)) 130 0 0) h) 131 (96 + q2) v).1 131 j := fun j hj => by
        refine (cb_5 (A := A1)).trans ?_
        by_cases e : j = 96 + q2
        · rw [e, mupd_ss, if_pos (by omega), Nat.add_sub_cancel_left]
          exact if_pos rfl
        · rw [mupd_sn e, ← g1 j hj]
          by_cases h5 : 96 ≤ j ∧ j < 101
          · rw [if_pos h5]
            obtain ⟨d, rfl⟩ : ∃ d, j = 96 + d := ⟨j - 96, by omega⟩
            rw [Nat.add_sub_cancel_left, cb_set (by omega)]
            exact if_neg (by omega)
          · rw [if_neg h5]
      refine (LP_blk (r1 := 0) (r2 := r2) hI hs hR (fun q hq => mset_n (by omega)) rfl (by exact kpS_2) (fun q hq => mupd_n hq) (fun j hj => mupd_sn (by omega)) hcbj ?_).2.1 ?_
      · obtain ⟨b1, b2, b3, b4, b5, b6, b7⟩ := g2
        generalize kpS (mupd ((mupd A1 5 q2 v).1, ((mupd A1 5 q2 v).2.1, w.toInt64)) 130 0 0) h = K at *
        have up : ∀ j, j ≠ 96 + q2 → (mupd K 131 (96 + q2) v).1 131 j = K.1 131 j := fun j hj => mupd_sn hj
        have us : (mupd K 131 (96 + q2) v).1 131 (96 + q2) = v := mupd_ss
        refine ⟨fun j hj => by rw [up j (by omega)]; exact b1 j hj, ?_, ?_, ?_, ?_, ?_, fun t ht => ?_⟩
        · by_cases e : q2 = 0
          · subst e
            obtain ⟨d, d1, d2, ed⟩ := inI_n (lo := 1) (hi := 100) (by decide) hv (by decide)
            exact ⟨d, by omega, by omega, us.trans ed⟩
          · rw [up 96 (by omega)]; exact b2
        · by_cases e : q2 = 1
          · subst e
            obtain ⟨d, d1, d2, ed⟩ := inI_n (lo := 1) (hi := 48) (by decide) hv (by decide)
            exact ⟨d, by omega, by omega, us.trans ed⟩
          · rw [up 97 (by omega)]; exact b3
        · by_cases e : q2 = 2
          · subst e
            obtain ⟨d, d1, d2, ed⟩ := inI_n (lo := 1) (hi := 255) (by decide) hv (by decide)
            exact ⟨d, by omega, by omega, us.trans ed⟩
          · rw [up 98 (by omega)]; exact b4
        · by_cases e : q2 = 3
          · subst e
            obtain ⟨d, d1, d2, ed⟩ := inI_n (lo := 1) (hi := 1000) (by decide) hv (by decide)
            exact ⟨d, by omega, by omega, us.trans ed⟩
          · rw [up 99 (by omega)]; exact b5
        · by_cases e : q2 = 4
          · subst e
            obtain ⟨d, d1, d2, ed⟩ := inI_n (lo := 0) (hi := 5) (by decide) hv (by decide)
            exact ⟨d, by omega, us.trans ed⟩
          · rw [up 100 (by omega)]; exact b6
        · unfold RGt
          rw [up _ (by omega), up _ (by omega), up _ (by omega), up _ (by omega)]
          exact b7 t ht
      · refine congrArg Int32.toInt64 (hw.trans (Eq.trans ?_ hr2.symm))
        rw [← g1 _ (by omega), cb_set hq]
  · obtain ⟨rfl, hn⟩ := hp
    refine ⟨RLs.refl, fun r2 S2 h2 => ?_⟩
    rcases hc with ⟨hE, rfl⟩ | ⟨hE, rfl⟩
    · rcases hn with ⟨-, hn⟩ | ⟨hE2, -⟩
      · rcases h2 with ⟨-, rfl⟩ | ⟨q2, hq2, ex2, -⟩
        · exact LC_thr hI (by decide)
        · exact absurd ⟨q2, hq2, ex2⟩ hn
      · exact absurd (hE.symm.trans hE2) (by decide)
    · rcases hn with ⟨hE2, -⟩ | ⟨-, q, hq, ex, hn⟩
      · exact absurd (hE2.symm.trans hE) (by decide)
      · rcases h2 with ⟨hn2, -⟩ | ⟨q2, hq2, ex2, ⟨-, rfl⟩ | ⟨hv, -⟩⟩
        · exact absurd ⟨q, hq, ex⟩ ((inI_nex (N := 4) (by decide)).mp hn2)
        · exact LC_thr hI (by decide)
        · have e : q2 = q := nI_inj6 (by omega) (by omega) (ex2.symm.trans ex)
          subst e
          have hv2 : inI v (leastN q2) (mostN q2) = true := hv
          rw [hv2] at hn; cases hn
theorem lc_undo (hI : INV S S h k) (h1 : hlP (pC_undo S h k x y v) (pX_undo S h k x y v) cdS r1 S1) : RLs S S1 ∧ ∀ r2 S2, pR_undo S1 h k x y v r2 S2 → LCok S2 r1 r2 := by
  rcases h1 with ⟨rfl, w, T, hp, rfl⟩ | ⟨E, hp, hc⟩
  · obtain ⟨h0, hs, hw⟩ := hp
    have hR : RLs S (T.1, (T.2.1, w.toInt64)) := fun q hq => hs.2.1 q (by omega) (by omega)
    refine ⟨hR, fun r2 S2 h2 => ?_⟩
    rcases h2 with ⟨hn, -⟩ | ⟨j, ej, rfl, hr2⟩
    · exact absurd hn (by omega)
    · subst ej
      have hJ := un_INV (INV_cg hI CW.refl hR.rw) hs
      refine LC_mk (S1 := (T.1, (T.2.1, w.toInt64))) rfl (fun q hq => ?_) (INV_cg hJ ⟨fun _ _ _ => rfl, rfl, rfl, rfl⟩ RW.refl) ?_ (fun _ => congrArg Int32.toInt64 (hw.trans hr2.symm))
      · rw [mupd_n (by omega), mset_n (by omega), mupd_n (by omega)]
      · rw [mupd_sn (by decide), mset_n (by decide), mupd_ss]
  · obtain ⟨rfl, rfl, hn⟩ := hp
    obtain ⟨-, rfl⟩ := hc
    refine ⟨RLs.refl, fun r2 S2 h2 => ?_⟩
    rcases h2 with ⟨-, rfl⟩ | ⟨j, ej, -⟩
    · exact LC_thr hI (by decide)
    · omega
theorem ch_id : ∀ d, d < 127 → vp_nar .char ((nI d).toUInt32 % 65536).toInt32 = nI d := by decide +kernel
theorem lc_appendText (hI : INV S S h k) (h1 : hlP (pC_appendText S h k x y v) (pX_appendText S h k x y v) cdAS r1 S1) : RLs S S1 ∧ ∀ r2 S2, pR_appendText S1 h k x y v r2 S2 → LCok S2 r1 r2 := by
  rcases h1 with ⟨rfl, w, T, hp, rfl⟩ | ⟨E, hp, hc⟩
  · obtain ⟨hv, hk, rfl, hw⟩ := hp
    obtain ⟨d, d1, d2, ed⟩ := inI_n (lo := 32) (hi := 126) (by decide) hv (by decide)
    have hch : vp_nar .char (v.toUInt32 % 65536).toInt32 = v := by rw [ed]; exact ch_id d (by omega)
    rw [hch]
    refine ⟨fun q hq => (mset_n (by omega)).trans (mset_n (by omega)), fun r2 S2 h2 => ?_⟩
    rcases h2 with ⟨hn, -⟩ | ⟨-, hn, -⟩ | ⟨-, -, rfl, hr2⟩
    · rw [hv] at hn; cases hn
    · omega
    · have e1 : ∀ q, q ≠ 127 → q ≠ 128 → (mset (mset S 128 (upd (S.1 128) k v)) 127 (upd (S.1 127) 1 (nI (k + 1)))).1 q = S.1 q := fun q h1 h2 => (mset_n h1).trans (mset_n h2)
      obtain ⟨h1, ⟨h2, h3, h4⟩, ⟨h5, h6, h7, h8⟩, h9, h10, h11, hz⟩ := hI
      refine LC_mk (S1 := ((mset (mset S 128 (upd (S.1 128) k v)) 127 (upd (S.1 127) 1 (nI (k + 1)))).1, ((mset (mset S 128 (upd (S.1 128) k v)) 127 (upd (S.1 127) 1 (nI (k + 1)))).2.1, w.toInt64))) (h := h) (k := k + 1) rfl (fun q hq => ?_) ?_ ?_ (fun _ => congrArg Int32.toInt64 (hw.trans hr2.symm))
      · rw [mupd_n (by omega), mupd_n (by omega), mupd_n (by omega)]
      · refine ⟨h1, ⟨(congrFun (e1 25 (by decide) (by decide)) 1).trans h2, h3, ?_⟩, ⟨?_, mupd_ss, by omega, fun j hj => ?_⟩, fun j hj => ?_, ?_, fun i hi => ?_, fun s hs => (congrFun (e1 125 (by decide) (by decide)) s).trans (hz s hs)⟩
        · rw [mupd_sn (by decide), mupd_n (by decide), mupd_sn (by decide)]
          exact (congrFun (e1 130 (by decide) (by decide)) 2).trans h4
        · refine (congrFun (mset_s (S := mset S 128 (upd (S.1 128) k v)) (k := 127) (f := upd (S.1 127) 1 (nI (k + 1)))) 1).trans ?_
          exact if_pos rfl
        · have r128 : (mset (mset S 128 (upd (S.1 128) k v)) 127 (upd (S.1 127) 1 (nI (k + 1)))).1 128 = upd (S.1 128) k v := (mset_n (by decide)).trans mset_s
          have r132 : (mset (mset S 128 (upd (S.1 128) k v)) 127 (upd (S.1 127) 1 (nI (k + 1)))).1 132 = S.1 132 := e1 132 (by decide) (by decide)
          rw [mupd_n (by decide)]
          show (mset (mset S 128 (upd (S.1 128) k v)) 127 (upd (S.1 127) 1 (nI (k + 1)))).1 128 j = _ ∧ _
          rw [r128]
          by_cases e : j = k
          · subst e
            rw [mupd_ss]
            exact ⟨if_pos rfl, d, by omega, by omega, ed⟩
          · rw [mupd_sn e, mupd_n (by decide)]
            show _ = (mset (mset S 128 (upd (S.1 128) k v)) 127 (upd (S.1 127) 1 (nI (k + 1)))).1 132 j ∧ ∃ v', 32 ≤ v' ∧ v' < 127 ∧ (mset (mset S 128 (upd (S.1 128) k v)) 127 (upd (S.1 127) 1 (nI (k + 1)))).1 132 j = nI v'
            rw [r132]
            have := h8 j (by omega)
            exact ⟨(if_neg e).trans this.1, this.2⟩
        · rw [mupd_n (by decide), mupd_n (by decide), mupd_n (by decide)]
          refine Eq.trans ?_ (congrFun (e1 131 (by decide) (by decide)) j).symm
          refine Eq.trans ?_ (h9 j hj)
          exact cb_rows (S := S) (b := 1) (fun q g1 g2 => e1 q (by omega) (by omega)) j hj
        · rw [mupd_n (by decide), mupd_n (by decide), mupd_n (by decide)]
          have := e1 131 (by decide) (by decide)
          show RG ((mset (mset S 128 (upd (S.1 128) k v)) 127 (upd (S.1 127) 1 (nI (k + 1)))).1 131)
          rw [this]
          exact h10
        · have hp := mst_cases (h1.1 i (by omega)).1
          rw [mupd_n (by decide), mupd_n (by decide), mupd_n (by decide)]
          have e9 := e1 131 (by decide) (by decide)
          show (∀ j, j < 134 → cb _ (S.2.1 i) j = (mset (mset S 128 (upd (S.1 128) k v)) 127 (upd (S.1 127) 1 (nI (k + 1)))).1 131 (134 * (i + 1) + j)) ∧ RG (fun j => (mset (mset S 128 (upd (S.1 128) k v)) 127 (upd (S.1 127) 1 (nI (k + 1)))).1 131 (134 * (i + 1) + j))
          rw [e9]
          refine ⟨fun j hj => ?_, (h11 i hi).2⟩
          refine Eq.trans ?_ ((h11 i hi).1 j hj)
          exact cb_rows (S := S) (b := S.2.1 i) (fun q g1 g2 => e1 q (by omega) (by omega)) j hj
      · rw [mupd_sn (by decide), mupd_n (by decide), mupd_ss]
  · obtain ⟨rfl, hn⟩ := hp
    refine ⟨RLs.refl, fun r2 S2 h2 => ?_⟩
    rcases hc with ⟨hE, rfl⟩ | ⟨hE, rfl⟩
    · rcases hn with ⟨-, hn⟩ | ⟨hE2, -⟩
      · rcases h2 with ⟨-, rfl⟩ | ⟨hn2, -, -⟩ | ⟨hn2, -⟩
        · exact LC_thr hI (by decide)
        · rw [hn2] at hn; cases hn
        · rw [hn2] at hn; cases hn
      · exact absurd (hE.symm.trans hE2) (by decide)
    · rcases hn with ⟨hE2, -⟩ | ⟨-, hn1, hn⟩
      · exact absurd (hE2.symm.trans hE) (by decide)
      · rcases h2 with ⟨hn2, -⟩ | ⟨-, -, rfl⟩ | ⟨-, hk2, -⟩
        · rw [hn2] at hn1; cases hn1
        · exact LC_thr hI (by decide)
        · omega
end LCB

