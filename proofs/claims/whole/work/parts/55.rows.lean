/-! the two sides hold the same -/
/-- a state's block, as the model lays it -/
def cb (S : mS) (b j : Nat) : Int32 := if j < 48 then S.1 (b + 2) j else if j < 96 then S.1 (b + 3) (j - 48) else if j < 101 then S.1 (b + 4) (j - 96) else if j < 131 then S.1 (b + 6 + (j - 101) / 5) ((j - 101) % 5) else S.1 b (j - 128)
theorem cb_raw {S : mS} {b j : Nat} (h : j < 48) : cb S b j = S.1 (b + 2) j := if_pos h
theorem cb_bas {S : mS} {b j : Nat} (h : j < 48) : cb S b (48 + j) = S.1 (b + 3) j := by
  unfold cb
  rw [if_neg (by omega), if_pos (by omega), Nat.add_sub_cancel_left]
theorem cb_set {S : mS} {b q : Nat} (h : q < 5) : cb S b (96 + q) = S.1 (b + 4) q := by
  unfold cb
  rw [if_neg (by omega), if_neg (by omega), if_pos (by omega), Nat.add_sub_cancel_left]
theorem cb_trk {S : mS} {b t w : Nat} (ht : t < 6) (hw : w < 5) : cb S b (101 + 5 * t + w) = S.1 (b + 6 + t) w := by
  unfold cb
  rw [if_neg (by omega), if_neg (by omega), if_neg (by omega), if_pos (by omega), show (101 + 5 * t + w - 101) / 5 = t by omega, show (101 + 5 * t + w - 101) % 5 = w by omega]
theorem cb_cnt {S : mS} {b w : Nat} (h3 : 3 ≤ w) (h6 : w < 6) : cb S b (128 + w) = S.1 b w := by
  unfold cb
  rw [if_neg (by omega), if_neg (by omega), if_neg (by omega), if_neg (by omega), Nat.add_sub_cancel_left]
theorem cb_ext {S S' : mS} {b b' : Nat} (h1 : ∀ k, k < 48 → S.1 (b + 2) k = S'.1 (b' + 2) k) (h2 : ∀ k, k < 48 → S.1 (b + 3) k = S'.1 (b' + 3) k) (h3 : ∀ k, k < 5 → S.1 (b + 4) k = S'.1 (b' + 4) k) (h4 : ∀ j, j < 6 → ∀ k, k < 5 → S.1 (b + 6 + j) k = S'.1 (b' + 6 + j) k) (h5 : ∀ k, 3 ≤ k → k < 6 → S.1 b k = S'.1 b' k) : ∀ j, j < 134 → cb S b j = cb S' b' j := by
  intro j hj
  unfold cb
  by_cases a1 : j < 48
  · rw [if_pos a1, if_pos a1]; exact h1 j a1
  rw [if_neg a1, if_neg a1]
  by_cases a2 : j < 96
  · rw [if_pos a2, if_pos a2]; exact h2 _ (by omega)
  rw [if_neg a2, if_neg a2]
  by_cases a3 : j < 101
  · rw [if_pos a3, if_pos a3]; exact h3 _ (by omega)
  rw [if_neg a3, if_neg a3]
  by_cases a4 : j < 131
  · rw [if_pos a4, if_pos a4]; exact h4 _ (by omega) _ (by omega)
  rw [if_neg a4, if_neg a4]
  exact h5 _ (by omega) (by omega)
theorem stEq_cb {S S' : mS} {b b2 : Nat} (h : stEq S' b S b2) : ∀ j, j < 134 → cb S' b j = cb S b2 j := cb_ext h.1 h.2.1 h.2.2.1 h.2.2.2.1 h.2.2.2.2
theorem cb_rows {S S' : mS} {b : Nat} (h : ∀ q, b ≤ q → q < b + 12 → S'.1 q = S.1 q) : ∀ j, j < 134 → cb S' b j = cb S b j := by
  have e : ∀ i, i < 12 → S'.1 (b + i) = S.1 (b + i) := fun i hi => h _ (by omega) (by omega)
  refine cb_ext (fun k _ => ?_) (fun k _ => ?_) (fun k _ => ?_) (fun j hj k _ => ?_) (fun k _ _ => ?_)
  · rw [e 2 (by omega)]
  · rw [e 3 (by omega)]
  · rw [e 4 (by omega)]
  · rw [show b + 6 + j = b + (6 + j) by omega, e _ (by omega)]
  · exact congrFun (e 0 (by omega)) k
/-- a track's numbers are in their ranges -/
def RGt (g : Nat → Int32) (t : Nat) : Prop := (g (101 + 5 * t) = 0 ∨ g (101 + 5 * t) = 1) ∧ (∃ v, v < 701 ∧ g (101 + 5 * t + 1) = nI v) ∧ (∃ v, v < 701 ∧ g (101 + 5 * t + 2) = nI v) ∧ ∃ v, v < 7 ∧ (g (101 + 5 * t) = 1 → v < 6) ∧ g (101 + 5 * t + 4) = nI v
/-- a block's numbers are in their ranges -/
def RG (g : Nat → Int32) : Prop := (∀ j, j < 96 → ∃ v, v < 256 ∧ g j = nI v) ∧ (∃ v, 0 < v ∧ v < 101 ∧ g 96 = nI v) ∧ (∃ v, 0 < v ∧ v < 49 ∧ g 97 = nI v) ∧ (∃ v, 0 < v ∧ v < 256 ∧ g 98 = nI v) ∧ (∃ v, 0 < v ∧ v < 1001 ∧ g 99 = nI v) ∧ (∃ v, v < 6 ∧ g 100 = nI v) ∧ ∀ t, t < 6 → RGt g t
theorem RG_cg {g g' : Nat → Int32} (h : RG g) (e : ∀ j, j < 131 → g' j = g j) : RG g' := by
  obtain ⟨h1, h2, h3, h4, h5, h6, h7⟩ := h
  refine ⟨fun j hj => by rw [e j (by omega)]; exact h1 j hj, by rw [e 96 (by omega)]; exact h2, by rw [e 97 (by omega)]; exact h3, by rw [e 98 (by omega)]; exact h4, by rw [e 99 (by omega)]; exact h5, by rw [e 100 (by omega)]; exact h6, fun t ht => ?_⟩
  unfold RGt
  rw [e _ (by omega), e _ (by omega), e _ (by omega), e _ (by omega)]
  exact h7 t ht
/-- the class's side in A and the model's in B hold the same: h saved states, a text of k characters -/
def INV (A B : mS) (h k : Nat) : Prop := pmOk A ∧ (A.1 25 1 = nI h ∧ h ≤ 6 ∧ B.1 130 2 = nI h) ∧ (A.1 127 1 = nI k ∧ B.1 130 4 = nI k ∧ k ≤ 80 ∧ ∀ j, j < k → A.1 128 j = B.1 132 j ∧ ∃ v, 32 ≤ v ∧ v < 127 ∧ B.1 132 j = nI v) ∧ (∀ j, j < 134 → cb A 1 j = B.1 131 j) ∧ RG (B.1 131) ∧ (∀ i, i < h → (∀ j, j < 134 → cb A (A.2.1 i) j = B.1 131 (134 * (i + 1) + j)) ∧ RG (fun j => B.1 131 (134 * (i + 1) + j))) ∧ ∀ s, s < 64 → A.1 125 s = 0
/-- work behind which the class's side is as it was -/
def CW (A A' : mS) : Prop := (∀ q, (q < 99 ∨ q = 125) → ¬ (13 ≤ q ∧ q < 25) → A'.1 q = A.1 q) ∧ A'.1 127 = A.1 127 ∧ A'.1 128 = A.1 128 ∧ A'.2.1 = A.2.1
def RW (B B' : mS) : Prop := B'.1 131 = B.1 131 ∧ B'.1 132 = B.1 132 ∧ B'.1 130 2 = B.1 130 2 ∧ B'.1 130 4 = B.1 130 4
def CL (A A' : mS) : Prop := (∀ q, q < 130 → A'.1 q = A.1 q) ∧ A'.2.1 = A.2.1
def RLs (B B' : mS) : Prop := ∀ q, 130 ≤ q → B'.1 q = B.1 q
theorem CL.cw {A A' : mS} (h : CL A A') : CW A A' := ⟨fun q hq _ => h.1 q (by omega), h.1 127 (by omega), h.1 128 (by omega), h.2⟩
theorem RLs.rw {B B' : mS} (h : RLs B B') : RW B B' := ⟨h 131 (by omega), h 132 (by omega), by rw [h 130 (by omega)], by rw [h 130 (by omega)]⟩
theorem CW.refl {A : mS} : CW A A := ⟨fun _ _ _ => rfl, rfl, rfl, rfl⟩
theorem RW.refl {A : mS} : RW A A := ⟨rfl, rfl, rfl, rfl⟩
theorem CW.trans {A A' A'' : mS} (h : CW A A') (h' : CW A' A'') : CW A A'' := ⟨fun q h1 h2 => (h'.1 q h1 h2).trans (h.1 q h1 h2), h'.2.1.trans h.2.1, h'.2.2.1.trans h.2.2.1, h'.2.2.2.trans h.2.2.2⟩
theorem RW.trans {B B' B'' : mS} (h : RW B B') (h' : RW B' B'') : RW B B'' := ⟨h'.1.trans h.1, h'.2.1.trans h.2.1, h'.2.2.1.trans h.2.2.1, h'.2.2.2.trans h.2.2.2⟩
theorem INV_cg {A B A' B' : mS} {h k : Nat} (hI : INV A B h k) (hA : CW A A') (hB : RW B B') : INV A' B' h k := by
  obtain ⟨h1, ⟨h2, h3, h4⟩, ⟨h5, h6, h7, h8⟩, h9, h10, h11, hz⟩ := hI
  obtain ⟨a1, a2, a3, a4⟩ := hA
  obtain ⟨b1, b2, b3, b4⟩ := hB
  have e1 : ∀ b, mst b = true → b ≠ 13 → ∀ j, j < 134 → cb A' b j = cb A b j := fun b hb h13 => cb_rows fun q h1 h2 => by
    have := mst_cases hb
    exact a1 q (by omega) (by omega)
  refine ⟨?_, ⟨by rw [a1 25 (by omega) (by omega)]; exact h2, h3, by rw [b3]; exact h4⟩, ⟨by rw [a2]; exact h5, by rw [b4]; exact h6, h7, by rw [a3, b2]; exact h8⟩, fun j hj => by rw [e1 1 rfl (by decide) j hj, b1]; exact h9 j hj, by rw [b1]; exact h10, fun i hi => ?_, fun s hs => by rw [a1 125 (by omega) (by omega)]; exact hz s hs⟩
  · unfold pmOk at h1 ⊢
    rw [a4]
    exact h1
  · rw [a4, b1]
    have hp := h1.1 i (by omega)
    exact ⟨fun j hj => by rw [e1 _ hp.1 (by omega) j hj]; exact (h11 i hi).1 j hj, (h11 i hi).2⟩
theorem cpR_at {row : Nat → Int32} {f t j : Nat} (h : j < 134) : cpR row f t (134 * t + j) = row (134 * f + j) := by
  unfold cpR cpI
  rw [if_pos (by omega), Nat.add_sub_cancel_left]
theorem cpR_ne {row : Nat → Int32} {f t q : Nat} (h : q < 134 * t ∨ 134 * t + 134 ≤ q) : cpR row f t q = row q := if_neg (by omega)
theorem kpC_at {row : Nat → Int32} {t j : Nat} (hj : j < 134) : ∀ J, kpC row J (134 * t + j) = if 1 ≤ t ∧ t ≤ J then row (134 * (t + 1) + j) else row (134 * t + j)
  | 0 => by rw [if_neg (by omega)]; rfl
  | J + 1 => by
    show cpR (kpC row J) (J + 2) (J + 1) (134 * t + j) = _
    by_cases ht : t = J + 1
    · rw [ht, cpR_at hj, kpC_at hj J, if_neg (by omega), if_pos (by omega)]
    · rw [cpR_ne (by omega), kpC_at hj J]
      by_cases h2 : 1 ≤ t ∧ t ≤ J
      · rw [if_pos h2, if_pos (by omega)]
      · rw [if_neg h2, if_neg (by omega)]
theorem nI_inj6 {a b : Nat} (ha : a ≤ 80) (hb : b ≤ 80) (h : nI a = nI b) : a = b := by
  have h1 := congrArg Int32.toNatClampNeg h
  rw [nI_clamp (by omega), nI_clamp (by omega)] at h1
  exact h1
theorem kpS_row {B : mS} {h : Nat} (h6 : h ≤ 6) (t j : Nat) (hj : j < 134) (ht : t ≤ 6) : (kpS (mupd B 130 0 0) h).1 131 (134 * t + j) = if h < 6 then (if t = h + 1 then B.1 131 j else B.1 131 (134 * t + j)) else if t = 0 then B.1 131 j else if t = 6 then B.1 131 j else B.1 131 (134 * (t + 1) + j) := by
  unfold kpS
  by_cases hh : h < 6
  · rw [if_pos hh, if_pos hh, mset_s, mupd_n (by decide)]
    by_cases e : t = h + 1
    · rw [if_pos e, e, cpR_at hj, Nat.mul_zero, Nat.zero_add]
    · rw [if_neg e, cpR_ne (by omega)]
  · rw [if_neg hh, if_neg hh, mset_s, mupd_n (by decide)]
    by_cases e0 : t = 0
    · rw [if_pos e0, cpR_ne (by omega), kpC_at hj, if_neg (by omega), e0, Nat.mul_zero, Nat.zero_add]
    rw [if_neg e0]
    by_cases e6 : t = 6
    · rw [if_pos e6, e6, cpR_at hj, kpC_at hj, if_neg (by omega), Nat.mul_zero, Nat.zero_add]
    · rw [if_neg e6, cpR_ne (by omega), kpC_at hj, if_pos (by omega)]
theorem kp130 {B : mS} {h j : Nat} (h6 : h ≤ 6) (hj : j ≠ 0) : (kpS (mupd B 130 0 0) h).1 130 j = if j = 2 then nI (svI h + 1) else B.1 130 j := by
  unfold kpS svI
  by_cases hh : h < 6
  · rw [if_pos hh, mset_n (by decide), if_neg (show ¬ h = 6 by omega)]
    by_cases h2 : j = 2
    · rw [h2, mupd_ss, if_pos rfl]
    · rw [if_neg h2, mupd_sn h2, mupd_sn hj]
  · rw [if_neg hh, mset_n (by decide), if_pos (show h = 6 by omega)]
    by_cases h2 : j = 2
    · rw [h2, mupd_ss, if_pos rfl]
    · rw [if_neg h2, mupd_sn h2, mupd_sn hj]
theorem kpSn {B : mS} {h q : Nat} (h1 : q ≠ 130) (h2 : q ≠ 131) : (kpS (mupd B 130 0 0) h).1 q = B.1 q := by
  unfold kpS
  by_cases hh : h < 6
  · rw [if_pos hh, mset_n h2, mupd_n h1, mupd_n h1]
  · rw [if_neg hh, mset_n h2, mupd_n h1, mupd_n h1]
theorem kpS_2 {B : mS} {h : Nat} : (kpS (mupd B 130 0 0) h).2 = B.2 := by
  unfold kpS
  by_cases hh : h < 6
  · rw [if_pos hh]; rfl
  · rw [if_neg hh]; rfl
/-- both sides save -/
theorem sv_INV {A A' B : mS} {h k : Nat} (hI : INV A B h k) (hs : svR A h A') : INV A' (kpS (mupd B 130 0 0) h) (svI h + 1) k ∧ CL (kpS (mupd B 130 0 0) h) (kpS (mupd B 130 0 0) h) := by
  refine ⟨?_, fun _ _ => rfl, rfl⟩
  obtain ⟨h1, ⟨h2, h3, h4⟩, ⟨h5, h6, h7, h8⟩, h9, h10, h11, hz⟩ := hI
  obtain ⟨s1, s2, s3, s4⟩ := hs
  have hpm : pmOk (A.1, (svP A h, A.2.2)) := by
    unfold svP
    by_cases hh : h = 6
    · rw [if_pos hh]; exact rot_ok h1
    · rw [if_neg hh]; exact h1
  have hpm' : pmOk A' := by
    unfold pmOk at hpm ⊢
    rw [s1]
    exact hpm
  have hvi : svI h < 6 := by
    unfold svI
    by_cases hh : h = 6
    · rw [if_pos hh]; omega
    · rw [if_neg hh]; omega
  have hpv := hpm.1 (svI h) hvi
  have hcv := mst_cases hpv.1
  dsimp only at hcv hpv
  have rw1 : ∀ q, q ≠ 25 → (q < svP A h (svI h) ∨ svP A h (svI h) + 12 ≤ q) → A'.1 q = A.1 q := s2
  have hpI : A'.2.1 = svP A h := by rw [s1]
  have key0 : ∀ j, j < 134 → (kpS (mupd B 130 0 0) h).1 131 j = B.1 131 j := fun j hj => by
    have := kpS_row (B := B) h3 0 j hj (by omega)
    rw [Nat.mul_zero, Nat.zero_add] at this
    rw [this]
    by_cases hh : h < 6
    · rw [if_pos hh, if_neg (by omega)]
    · rw [if_neg hh, if_pos rfl]
  have blk : ∀ b, mst b = true → b ≠ svP A h (svI h) → ∀ j, j < 134 → cb A' b j = cb A b j := fun b hb hne => cb_rows fun q g1 g2 => by
    have := mst_cases hb
    exact rw1 q (by omega) (by omega)
  refine ⟨hpm', ⟨s3, by omega, by rw [kp130 h3 (by decide), if_pos rfl]⟩, ⟨?_, ?_, h7, ?_⟩, fun j hj => ?_, RG_cg h10 fun j hj => key0 j (by omega), fun i hi => ?_, fun s hs => by rw [rw1 125 (by omega) (by omega)]; exact hz s hs⟩
  · rw [rw1 127 (by omega) (by omega)]; exact h5
  · rw [kp130 h3 (by decide), if_neg (by decide)]; exact h6
  · rw [rw1 128 (by omega) (by omega), kpSn (by decide) (by decide)]; exact h8
  · rw [key0 j hj, blk 1 rfl (by omega) j hj]; exact h9 j hj
  · rw [hpI]
    have hrow : ∀ j, j < 134 → (kpS (mupd B 130 0 0) h).1 131 (134 * (i + 1) + j) = if i = svI h then B.1 131 j else B.1 131 (134 * ((if h = 6 then i + 1 else i) + 1) + j) := fun j hj => by
      rw [kpS_row h3 (i + 1) j hj (by omega)]
      unfold svI
      by_cases hh : h = 6
      · rw [if_neg (by omega), if_neg (by omega), if_pos hh, if_pos hh]
        by_cases e : i = 5
        · rw [if_pos e, if_pos (by omega)]
        · rw [if_neg e, if_neg (by omega)]
      · rw [if_pos (by omega), if_neg hh, if_neg hh]
        by_cases e : i = h
        · rw [if_pos e, if_pos (by omega)]
        · rw [if_neg e, if_neg (by omega)]
    by_cases e : i = svI h
    · refine ⟨fun j hj => ?_, RG_cg h10 fun j hj => by rw [hrow j (by omega), if_pos e]⟩
      rw [hrow j hj, if_pos e, e, stEq_cb s4 j hj]
      exact h9 j hj
    · have hi' : i < svI h := by omega
      have hold : svP A h i = A.2.1 (if h = 6 then i + 1 else i) ∧ (if h = 6 then i + 1 else i) < h := by
        unfold svP
        unfold svI at hi'
        by_cases hh : h = 6
        · rw [if_pos hh] at hi' ⊢
          rw [if_pos hh]
          refine ⟨?_, by omega⟩
          unfold rot
          rw [if_pos hi']
        · rw [if_neg hh] at hi' ⊢
          rw [if_neg hh]
          exact ⟨rfl, hi'⟩
      obtain ⟨g1, g2⟩ := h11 _ hold.2
      refine ⟨fun j hj => ?_, RG_cg g2 fun j hj => by rw [hrow j (by omega), if_neg e]⟩
      rw [hrow j hj, if_neg e, blk (svP A h i) (hpm.1 i (by omega)).1 (fun z => e (hpm.2 i _ (by omega) hvi z)) j hj, hold.1]
      exact g1 j hj
/-- both sides go back -/
theorem un_INV {A A' B : mS} {h k : Nat} (hI : INV A B (h + 1) k) (hs : rsR A (h + 1) A') : INV A' (mupd (mset (mupd B 130 0 0) 131 (cpR (B.1 131) (h + 1) 0)) 130 2 (nI h)) h k := by
  obtain ⟨h1, ⟨h2, h3, h4⟩, ⟨h5, h6, h7, h8⟩, h9, h10, h11, hz⟩ := hI
  obtain ⟨s1, s2, s3, s4⟩ := hs
  generalize hB' : mupd (mset (mupd B 130 0 0) 131 (cpR (B.1 131) (h + 1) 0)) 130 2 (nI h) = B'
  have r131 : B'.1 131 = cpR (B.1 131) (h + 1) 0 := by rw [← hB', mupd_n (by decide), mset_s]
  have r0 : ∀ j, j < 134 → B'.1 131 j = B.1 131 (134 * (h + 1) + j) := fun j hj => by
    have := cpR_at (row := B.1 131) (f := h + 1) (t := 0) hj
    rw [Nat.mul_zero, Nat.zero_add] at this
    rw [r131, this]
  have blk : ∀ b, mst b = true → b ≠ 1 → ∀ j, j < 134 → cb A' b j = cb A b j := fun b hb hne => cb_rows fun q g1 g2 => by
    have := mst_cases hb
    exact s2 q (by omega) (by omega)
  obtain ⟨g1, g2⟩ := h11 h (by omega)
  rw [show h + 1 - 1 = h by omega] at s3 s4
  refine ⟨?_, ⟨s3, by omega, by rw [← hB', mupd_ss]⟩, ⟨?_, ?_, h7, ?_⟩, fun j hj => ?_, RG_cg g2 fun j hj => r0 j (by omega), fun i hi => ?_, fun s hs => by rw [s2 125 (by omega) (by omega)]; exact hz s hs⟩
  · unfold pmOk at h1 ⊢
    rw [s1]
    exact h1
  · rw [s2 127 (by omega) (by omega)]; exact h5
  · rw [← hB', mupd_sn (by decide), mset_n (by decide), mupd_sn (by decide)]; exact h6
  · rw [s2 128 (by omega) (by omega), ← hB', mupd_n (by decide), mset_n (by decide), mupd_n (by decide)]; exact h8
  · rw [r0 j hj, stEq_cb s4 j hj]
    exact g1 j hj
  · have hp := h1.1 i (by omega)
    have hne : A'.2.1 = A.2.1 := by rw [s1]
    obtain ⟨f1, f2⟩ := h11 i (by omega)
    rw [hne]
    refine ⟨fun j hj => ?_, RG_cg f2 fun j hj => by rw [r131, cpR_ne (by omega)]⟩
    rw [blk _ hp.1 (by omega) j hj, r131, cpR_ne (by omega)]
    exact f1 j hj

