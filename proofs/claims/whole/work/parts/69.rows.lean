/-! texts: the reader of the class and that of the model -/
theorem chA1 : ∀ d, d < 127 → 32 ≤ d → (decide (0 ≤ nI d - 48 ∧ nI d - 48 < 8) = inI (nI d) 48 55) ∧ (decide (0 ≤ nI d - 48 ∧ nI d - 48 < 6) = inI (nI d) 48 53) ∧ (decide (1 ≤ nI d - 48 ∧ nI d - 48 ≤ 9) = inI (nI d) 49 57) := by decide +kernel
theorem chA2 : ∀ d, d < 127 → 32 ≤ d → (inI (nI d) 48 57 = true → ¬ nI d = 59) ∧ ¬ nI d = 0 ∧ (accOk0 (nI d) = decide ((nI d = 120 ∨ nI d = 98 ∨ nI d = 115) ∨ nI d = 112)) := by decide +kernel
theorem chA3 : ∀ d, d < 127 → 32 ≤ d → (inI (nI d) 48 55 = true → ¬ nI d = 59) ∧ (inI (nI d) 48 53 = true → ¬ nI d = 59) ∧ (inI (nI d) 49 57 = true → ¬ nI d = 59) := by decide +kernel
theorem chA (d : Nat) (h1 : d < 127) (h2 : 32 ≤ d) : (decide (0 ≤ nI d - 48 ∧ nI d - 48 < 8) = inI (nI d) 48 55) ∧ (decide (0 ≤ nI d - 48 ∧ nI d - 48 < 6) = inI (nI d) 48 53) ∧ (decide (1 ≤ nI d - 48 ∧ nI d - 48 ≤ 9) = inI (nI d) 49 57) ∧ (inI (nI d) 48 57 = true → ¬ nI d = 59) ∧ ¬ nI d = 0 ∧ (accOk0 (nI d) = decide ((nI d = 120 ∨ nI d = 98 ∨ nI d = 115) ∨ nI d = 112)) ∧ (inI (nI d) 48 55 = true → ¬ nI d = 59) ∧ (inI (nI d) 48 53 = true → ¬ nI d = 59) ∧ (inI (nI d) 49 57 = true → ¬ nI d = 59) :=
  ⟨(chA1 d h1 h2).1, (chA1 d h1 h2).2.1, (chA1 d h1 h2).2.2, (chA2 d h1 h2).1, (chA2 d h1 h2).2.1, (chA2 d h1 h2).2.2, (chA3 d h1 h2).1, (chA3 d h1 h2).2.1, (chA3 d h1 h2).2.2⟩
/-- the characters of a text -/
def txOk (ch : Nat → Int32) (len : Nat) (T : mS) : Prop := ∀ j, j < len → T.1 132 j = ch j ∧ ∃ d, 32 ≤ d ∧ d < 127 ∧ ch j = nI d
theorem sgA_in {T : mS} {ch : Nat → Int32} {len j : Nat} (h : txOk ch len T) (hj : j < len) : sgA T len j = ch j := (if_pos hj).trans (h j hj).1
theorem sgA_out {T : mS} {len j : Nat} (hj : ¬ j < len) : sgA T len j = 0 := if_neg hj
def okC (w0 ch : Nat → Int32) (i : Nat) : Bool := (accR (rdW w0 ch i) (ch i)).2
theorem rdW_s {w0 ch : Nat → Int32} {i : Nat} : rdW w0 ch (i + 1) = (accR (rdW w0 ch i) (ch i)).1 := rfl
theorem ac0 {w : Nat → Int32} {x : Int32} (h : w 0 = 0) : accR w x = (accCmd w x, accOk0 x) := if_pos h
theorem ac1 {w : Nat → Int32} {x : Int32} (h : w 0 = 1) : accR w x = (upd (upd w 2 (x - 48)) 0 2, decide (0 ≤ x - 48 ∧ x - 48 < 8)) := by
  unfold accR
  rw [h, if_neg (by decide), if_pos rfl]
theorem ac2 {w : Nat → Int32} {x : Int32} (h : w 0 = 2) : accR w x = (upd (upd w 3 (x - 48)) 0 3, decide (0 ≤ x - 48 ∧ x - 48 < 6)) := by
  unfold accR
  rw [h, if_neg (by decide), if_neg (by decide), if_pos rfl]
theorem ac3 {w : Nat → Int32} {x : Int32} (h : w 0 = 3) : accR w x = (upd w 0 4, decide (x = 44)) := by
  unfold accR
  rw [h, if_neg (by decide), if_neg (by decide), if_neg (by decide), if_pos rfl]
theorem ac4 {w : Nat → Int32} {x : Int32} (h : w 0 = 4) : accR w x = (upd (upd w 4 (x - 48)) 0 5, decide (1 ≤ x - 48 ∧ x - 48 ≤ 9)) := by
  unfold accR
  rw [h, if_neg (by decide), if_neg (by decide), if_neg (by decide), if_neg (by decide), if_pos rfl]
theorem ac56 {w : Nat → Int32} {x : Int32} (h : w 0 = 5 ∨ w 0 = 6) : accR w x = accBeh w x := by
  unfold accR
  rcases h with h | h
  · rw [h, if_neg (by decide), if_neg (by decide), if_neg (by decide), if_neg (by decide), if_neg (by decide)]
  · rw [h, if_neg (by decide), if_neg (by decide), if_neg (by decide), if_neg (by decide), if_neg (by decide)]
theorem ac_59 {w : Nat → Int32} (h : w 0 = 5 ∨ w 0 = 6) : accR w 59 = (upd w 0 0, true) := by
  rw [ac56 h]
  exact if_pos rfl
/-- the digits of a force -/
theorem frL_run {w0 ch : Nat → Int32} {len : Nat} {T : mS} (ht : txOk ch len T) : ∀ (m j : Nat) (v : Int32), j ≤ len → len ≤ j + m → rdW w0 ch j 0 = 5 → rdW w0 ch j 4 = v → j ≤ (frL T len m j v).1 ∧ (frL T len m j v).1 ≤ len ∧ (∀ i, j ≤ i → i < (frL T len m j v).1 → okC w0 ch i = true ∧ ¬ ch i = 59) ∧ rdW w0 ch (frL T len m j v).1 0 = 5 ∧ rdW w0 ch (frL T len m j v).1 4 = (frL T len m j v).2 ∧ (∀ q, q = 1 ∨ q = 2 ∨ q = 3 → rdW w0 ch (frL T len m j v).1 q = rdW w0 ch j q) ∧ ((frL T len m j v).1 < len → ¬ ch (frL T len m j v).1 = 59 → okC w0 ch (frL T len m j v).1 = false)
  | 0, j, v, hj, hm, h5, h4 => ⟨Nat.le_refl _, hj, fun i h1 h2 => absurd h2 (Nat.not_lt.mpr h1), h5, h4, fun _ _ => rfl, fun h => absurd h (by show ¬ j < len; omega)⟩
  | m + 1, j, v, hj, hm, h5, h4 => by
    have hu : frL T len (m + 1) j v = if inI (sgA T len j) 48 57 && decide (10 * v + sgA T len j - 48 ≤ 255) then frL T len m (j + 1) (10 * v + sgA T len j - 48) else (j, v) := rfl
    by_cases hc : (inI (sgA T len j) 48 57 && decide (10 * v + sgA T len j - 48 ≤ 255)) = true
    · rw [if_pos hc] at hu
      rw [Bool.and_eq_true, decide_eq_true_eq] at hc
      have hjl : j < len := Decidable.byContradiction fun hh => by
        rw [sgA_out hh] at hc
        exact absurd hc.1 (by decide)
      rw [sgA_in ht hjl] at hu hc
      obtain ⟨-, d, d1, d2, ed⟩ := ht j hjl
      have h59 : ¬ ch j = 59 := by rw [ed]; exact (chA d d2 d1).2.2.2.1 (by rw [← ed]; exact hc.1)
      have hb : 48 ≤ ch j ∧ ch j ≤ 57 := by
        have := hc.1
        unfold inI at this
        rw [Bool.and_eq_true, decide_eq_true_eq, decide_eq_true_eq] at this
        exact this
      have ha : accR (rdW w0 ch j) (ch j) = (upd (rdW w0 ch j) 4 (10 * v + ch j - 48), decide (10 * v + ch j - 48 ≤ 255)) := by
        rw [ac56 (Or.inl h5)]
        unfold accBeh
        rw [if_neg h59, if_pos ⟨h5, hb.1, hb.2⟩, h4]
      have hs : rdW w0 ch (j + 1) = upd (rdW w0 ch j) 4 (10 * v + ch j - 48) := by rw [rdW_s, ha]
      obtain ⟨i1, i2, i3, i4, i5, i6, i7⟩ := frL_run ht m (j + 1) (10 * v + ch j - 48) (by omega) (by omega) (by rw [hs]; exact h5) (by rw [hs]; exact pk_us)
      rw [hu]
      refine ⟨by omega, i2, fun i h1 h2 => ?_, i4, i5, fun q hq => ?_, i7⟩
      · by_cases e : i = j
        · rw [e]
          refine ⟨?_, h59⟩
          unfold okC
          rw [ha]
          exact decide_eq_true hc.2
        · exact i3 i (by omega) h2
      · rw [i6 q hq, hs, pk_un (by omega)]
    · rw [if_neg hc] at hu
      rw [hu]
      refine ⟨Nat.le_refl _, hj, fun i h1 h2 => absurd h2 (Nat.not_lt.mpr h1), h5, h4, fun _ _ => rfl, fun hjl h59 => ?_⟩
      have hjl2 : j < len := hjl
      have h592 : ¬ ch j = 59 := h59
      rw [sgA_in ht hjl2] at hc
      show (accR (rdW w0 ch j) (ch j)).2 = false
      rw [ac56 (Or.inl h5)]
      unfold accBeh
      rw [if_neg h592]
      by_cases hb : 48 ≤ ch j ∧ ch j ≤ 57
      · rw [if_pos ⟨h5, hb.1, hb.2⟩, h4]
        refine decide_eq_false fun hh => hc ?_
        unfold inI
        rw [decide_eq_true hb.1, decide_eq_true hb.2, decide_eq_true hh]
        rfl
      · rw [if_neg fun h => hb h.2]
/-- one command, as both sides read it -/
def CMD (w0 ch : Nat → Int32) (len : Nat) (T : mS) (a : Nat) (q : Bool × Nat × mS) : Prop :=
  (q.1 = true → a < q.2.1 ∧ q.2.1 ≤ len ∧ (∀ i, a ≤ i → i < q.2.1 → okC w0 ch i = true ∧ ¬ ch i = 59) ∧ (rdW w0 ch q.2.1 0 = 5 ∨ rdW w0 ch q.2.1 0 = 6) ∧ rdW w0 ch q.2.1 1 = q.2.2.1 130 6 ∧ (q.2.2.1 130 6 = 112 → rdW w0 ch q.2.1 2 = q.2.2.1 130 7 ∧ rdW w0 ch q.2.1 3 = q.2.2.1 130 8 ∧ rdW w0 ch q.2.1 4 = q.2.2.1 130 9) ∧ (q.2.1 < len → ¬ ch q.2.1 = 59 → okC w0 ch q.2.1 = false)) ∧
  (q.1 = false → a ≤ q.2.1 ∧ q.2.1 ≤ len ∧ (∀ i, a ≤ i → i < q.2.1 → okC w0 ch i = true) ∧ (q.2.1 < len → okC w0 ch q.2.1 = false) ∧ (q.2.1 = len → ¬ (rdW w0 ch q.2.1 0 = 5 ∨ rdW w0 ch q.2.1 0 = 6)))
theorem cmd_run {w0 ch : Nat → Int32} {len a : Nat} {T : mS} (ht : txOk ch len T) (ha : a ≤ len) (h0 : rdW w0 ch a 0 = 0) : CMD w0 ch len T a (rcQ T len a) := by
  have hin : ∀ j, ¬ sgA T len j = 0 → j < len := fun j hj => Decidable.byContradiction fun hh => hj (sgA_out hh)
  have hs1 : rdW w0 ch (a + 1) = accCmd (rdW w0 ch a) (ch a) := by rw [rdW_s, ac0 h0]
  have hok0 : okC w0 ch a = accOk0 (ch a) := by unfold okC; rw [ac0 h0]
  by_cases hA : sgA T len a = 120 ∨ sgA T len a = 98 ∨ sgA T len a = 115
  · have hal : a < len := hin a (by rcases hA with h | h | h <;> (rw [h]; decide))
    rw [rcQ_1 hA]
    rw [sgA_in ht hal] at hA
    obtain ⟨-, d, d1, d2, ed⟩ := ht a hal
    have hn112 : ¬ ch a = 112 := by rcases hA with h | h | h <;> (rw [h]; decide)
    have h59 : ¬ ch a = 59 := by rcases hA with h | h | h <;> (rw [h]; decide)
    have hst : rdW w0 ch (a + 1) 0 = 6 := by
      rw [hs1]
      show (if ch a = 112 then (1 : Int32) else 6) = 6
      rw [if_neg hn112]
    refine ⟨fun _ => ⟨Nat.lt_succ_self a, hal, fun i h1 h2 => ?_, Or.inr hst, ?_, fun h => ?_, fun h1 h2 => ?_⟩, fun h => (by cases h)⟩
    · have h2' : i < a + 1 := h2
      have e : i = a := by omega
      rw [e, hok0]
      refine ⟨?_, h59⟩
      unfold accOk0
      exact decide_eq_true (Or.inr hA)
    · show rdW w0 ch (a + 1) 1 = (mupd (rc6 T len a) 130 5 (nI (a + 1))).1 130 6
      rw [hs1, mupd_sn (by decide)]
      unfold rc6
      rw [mupd_ss, sgA_in ht hal]
      rfl
    · have h' : (mupd (rc6 T len a) 130 5 (nI (a + 1))).1 130 6 = 112 := h
      rw [mupd_sn (by decide)] at h'
      unfold rc6 at h'
      rw [mupd_ss, sgA_in ht hal] at h'
      exact absurd h' hn112
    · show (accR (rdW w0 ch (a + 1)) (ch (a + 1))).2 = false
      have h2' : ¬ ch (a + 1) = 59 := h2
      rw [ac56 (Or.inr hst)]
      unfold accBeh
      rw [if_neg h2', if_neg (fun h => by rw [hst] at h; exact absurd h.1 (by decide))]
  by_cases hB : sgA T len a = 112
  rotate_left
  · rw [rcQ_2 hA hB]
    refine ⟨fun h => (by cases h), fun _ => ⟨Nat.le_refl a, ha, fun i h1 h2 => absurd h2 (Nat.not_lt.mpr h1), fun hal => ?_, fun _ h => ?_⟩⟩
    · have hal' : a < len := hal
      show okC w0 ch a = false
      rw [sgA_in ht hal'] at hA hB
      obtain ⟨-, d, d1, d2, ed⟩ := ht a hal'
      rw [hok0, ed, (chA d d2 d1).2.2.2.2.2.1, ← ed]
      exact decide_eq_false fun h => h.elim hA hB
    · have h' : rdW w0 ch a 0 = 5 ∨ rdW w0 ch a 0 = 6 := h
      rw [h0] at h'
      exact absurd h' (by decide)
  have hal : a < len := hin a (by rw [hB]; decide)
  have hB' : ch a = 112 := (sgA_in ht hal).symm.trans hB
  have hst1 : rdW w0 ch (a + 1) 0 = 1 := by rw [hs1, hB']; rfl
  have hl1 : rdW w0 ch (a + 1) 1 = 112 := by rw [hs1, hB']; rfl
  have hok : okC w0 ch a = true := by rw [hok0, hB']; decide
  have h59a : ¬ ch a = 59 := by rw [hB']; decide
  have hs2 : rdW w0 ch (a + 2) = upd (upd (rdW w0 ch (a + 1)) 2 (ch (a + 1) - 48)) 0 2 := by rw [show a + 2 = a + 1 + 1 from rfl, rdW_s, ac1 hst1]
  have hok1 : okC w0 ch (a + 1) = decide (0 ≤ ch (a + 1) - 48 ∧ ch (a + 1) - 48 < 8) := by unfold okC; rw [ac1 hst1]
  by_cases hC : inI (sgA T len (a + 1)) 48 55 = false
  · rw [rcQ_3 hB hC]
    refine ⟨fun h => (by cases h), fun _ => ⟨Nat.le_succ a, hal, fun i h1 h2 => ?_, fun hal1 => ?_, fun he h => ?_⟩⟩
    · have h2' : i < a + 1 := h2
      have e : i = a := by omega
      rw [e]; exact hok
    · have hal1' : a + 1 < len := hal1
      show okC w0 ch (a + 1) = false
      rw [sgA_in ht hal1'] at hC
      obtain ⟨-, d, d1, d2, ed⟩ := ht (a + 1) hal1'
      rw [hok1, ed, (chA d d2 d1).1, ← ed]
      exact hC
    · have h' : rdW w0 ch (a + 1) 0 = 5 ∨ rdW w0 ch (a + 1) 0 = 6 := h
      rw [hst1] at h'
      exact absurd h' (by decide)
  have hal1 : a + 1 < len := hin _ fun e => by rw [e] at hC; exact hC (by decide)
  have hCt : inI (ch (a + 1)) 48 55 = true := by
    rw [sgA_in ht hal1] at hC
    exact Bool.not_eq_false _ ▸ hC
  obtain ⟨-, dc, dc1, dc2, edc⟩ := ht (a + 1) hal1
  have hok1t : okC w0 ch (a + 1) = true := by rw [hok1, edc, (chA dc dc2 dc1).1, ← edc]; exact hCt
  have h59b : ¬ ch (a + 1) = 59 := by rw [edc]; exact (chA dc dc2 dc1).2.2.2.2.2.2.1 (by rw [← edc]; exact hCt)
  have hst2 : rdW w0 ch (a + 2) 0 = 2 := by rw [hs2]; exact pk_us
  have hs3 : rdW w0 ch (a + 3) = upd (upd (rdW w0 ch (a + 2)) 3 (ch (a + 2) - 48)) 0 3 := by rw [show a + 3 = a + 2 + 1 from rfl, rdW_s, ac2 hst2]
  have hok2 : okC w0 ch (a + 2) = decide (0 ≤ ch (a + 2) - 48 ∧ ch (a + 2) - 48 < 6) := by unfold okC; rw [ac2 hst2]
  have up2 : ∀ i, a ≤ i → i < a + 2 → okC w0 ch i = true ∧ ¬ ch i = 59 := fun i h1 h2 => by
    rcases (by omega : i = a ∨ i = a + 1) with e | e
    · rw [e]; exact ⟨hok, h59a⟩
    · rw [e]; exact ⟨hok1t, h59b⟩
  by_cases hD : inI (sgA T len (a + 2)) 48 53 = false
  · rw [rcQ_4 hB hC hD]
    refine ⟨fun h => (by cases h), fun _ => ⟨(by show a ≤ a + 2; omega), hal1, fun i h1 h2 => (up2 i h1 h2).1, fun hal2 => ?_, fun he h => ?_⟩⟩
    · have hal2' : a + 2 < len := hal2
      show okC w0 ch (a + 2) = false
      rw [sgA_in ht hal2'] at hD
      obtain ⟨-, d, d1, d2, ed⟩ := ht (a + 2) hal2'
      rw [hok2, ed, (chA d d2 d1).2.1, ← ed]
      exact hD
    · have h' : rdW w0 ch (a + 2) 0 = 5 ∨ rdW w0 ch (a + 2) 0 = 6 := h
      rw [hst2] at h'
      exact absurd h' (by decide)
  have hal2 : a + 2 < len := hin _ fun e => by rw [e] at hD; exact hD (by decide)
  have hDt : inI (ch (a + 2)) 48 53 = true := by
    rw [sgA_in ht hal2] at hD
    exact Bool.not_eq_false _ ▸ hD
  obtain ⟨-, dd, dd1, dd2, edd⟩ := ht (a + 2) hal2
  have hok2t : okC w0 ch (a + 2) = true := by rw [hok2, edd, (chA dd dd2 dd1).2.1, ← edd]; exact hDt
  have h59c : ¬ ch (a + 2) = 59 := by rw [edd]; exact (chA dd dd2 dd1).2.2.2.2.2.2.2.1 (by rw [← edd]; exact hDt)
  have hst3 : rdW w0 ch (a + 3) 0 = 3 := by rw [hs3]; exact pk_us
  have hs4 : rdW w0 ch (a + 4) = upd (rdW w0 ch (a + 3)) 0 4 := by rw [show a + 4 = a + 3 + 1 from rfl, rdW_s, ac3 hst3]
  have hok3 : okC w0 ch (a + 3) = decide (ch (a + 3) = 44) := by unfold okC; rw [ac3 hst3]
  have up3 : ∀ i, a ≤ i → i < a + 3 → okC w0 ch i = true ∧ ¬ ch i = 59 := fun i h1 h2 => by
    by_cases e : i = a + 2
    · rw [e]; exact ⟨hok2t, h59c⟩
    · exact up2 i h1 (by omega)
  by_cases hE : sgA T len (a + 3) = 44
  rotate_left
  · rw [rcQ_5 hB hC hD hE]
    refine ⟨fun h => (by cases h), fun _ => ⟨(by show a ≤ a + 3; omega), hal2, fun i h1 h2 => (up3 i h1 h2).1, fun hal3 => ?_, fun he h => ?_⟩⟩
    · have hal3' : a + 3 < len := hal3
      show okC w0 ch (a + 3) = false
      rw [sgA_in ht hal3'] at hE
      rw [hok3]
      exact decide_eq_false hE
    · have h' : rdW w0 ch (a + 3) 0 = 5 ∨ rdW w0 ch (a + 3) 0 = 6 := h
      rw [hst3] at h'
      exact absurd h' (by decide)
  have hal3 : a + 3 < len := hin _ (by rw [hE]; decide)
  have hE' : ch (a + 3) = 44 := (sgA_in ht hal3).symm.trans hE
  have hok3t : okC w0 ch (a + 3) = true := by rw [hok3, hE']; decide
  have h59d : ¬ ch (a + 3) = 59 := by rw [hE']; decide
  have hst4 : rdW w0 ch (a + 4) 0 = 4 := by rw [hs4]; exact pk_us
  have hs5 : rdW w0 ch (a + 5) = upd (upd (rdW w0 ch (a + 4)) 4 (ch (a + 4) - 48)) 0 5 := by rw [show a + 5 = a + 4 + 1 from rfl, rdW_s, ac4 hst4]
  have hok4 : okC w0 ch (a + 4) = decide (1 ≤ ch (a + 4) - 48 ∧ ch (a + 4) - 48 ≤ 9) := by unfold okC; rw [ac4 hst4]
  have up4 : ∀ i, a ≤ i → i < a + 4 → okC w0 ch i = true ∧ ¬ ch i = 59 := fun i h1 h2 => by
    by_cases e : i = a + 3
    · rw [e]; exact ⟨hok3t, h59d⟩
    · exact up3 i h1 (by omega)
  by_cases hF : inI (sgA T len (a + 4)) 49 57 = false
  · rw [rcQ_6 hB hC hD hE hF]
    refine ⟨fun h => (by cases h), fun _ => ⟨(by show a ≤ a + 4; omega), hal3, fun i h1 h2 => (up4 i h1 h2).1, fun hal4 => ?_, fun he h => ?_⟩⟩
    · have hal4' : a + 4 < len := hal4
      show okC w0 ch (a + 4) = false
      rw [sgA_in ht hal4'] at hF
      obtain ⟨-, d, d1, d2, ed⟩ := ht (a + 4) hal4'
      rw [hok4, ed, (chA d d2 d1).2.2.1, ← ed]
      exact hF
    · have h' : rdW w0 ch (a + 4) 0 = 5 ∨ rdW w0 ch (a + 4) 0 = 6 := h
      rw [hst4] at h'
      exact absurd h' (by decide)
  have hal4 : a + 4 < len := hin _ fun e => by rw [e] at hF; exact hF (by decide)
  have hFt : inI (ch (a + 4)) 49 57 = true := by
    rw [sgA_in ht hal4] at hF
    exact Bool.not_eq_false _ ▸ hF
  obtain ⟨-, df, df1, df2, edf⟩ := ht (a + 4) hal4
  have hok4t : okC w0 ch (a + 4) = true := by rw [hok4, edf, (chA df df2 df1).2.2.1, ← edf]; exact hFt
  have h59e : ¬ ch (a + 4) = 59 := by rw [edf]; exact (chA df df2 df1).2.2.2.2.2.2.2.2 (by rw [← edf]; exact hFt)
  have hst5 : rdW w0 ch (a + 5) 0 = 5 := by rw [hs5]; exact pk_us
  have h54 : rdW w0 ch (a + 5) 4 = sgA T len (a + 4) - 48 := by
    rw [hs5, pk_un (by decide), pk_us, sgA_in ht hal4]
  rw [rcQ_7 hB hC hD hE hF]
  obtain ⟨i1, i2, i3, i4, i5, i6, i7⟩ := frL_run ht (len - (a + 5)) (a + 5) (sgA T len (a + 4) - 48) hal4 (by omega) hst5 h54
  have h51 : rdW w0 ch (a + 5) 1 = 112 := by
    rw [hs5, pk_un (by decide), pk_un (by decide), hs4, pk_un (by decide), hs3, pk_un (by decide), pk_un (by decide), hs2, pk_un (by decide), pk_un (by decide)]
    exact hl1
  have h52 : rdW w0 ch (a + 5) 2 = sgA T len (a + 1) - 48 := by
    rw [hs5, pk_un (by decide), pk_un (by decide), hs4, pk_un (by decide), hs3, pk_un (by decide), pk_un (by decide), hs2, pk_un (by decide), pk_us, sgA_in ht hal1]
  have h53 : rdW w0 ch (a + 5) 3 = sgA T len (a + 2) - 48 := by
    rw [hs5, pk_un (by decide), pk_un (by decide), hs4, pk_un (by decide), hs3, pk_un (by decide), pk_us, sgA_in ht hal2]
  refine ⟨fun _ => ⟨?_, i2, fun i h1 h2 => ?_, Or.inl i4, ?_, fun _ => ⟨?_, ?_, ?_⟩, i7⟩, fun h => (by cases h)⟩
  · show a < (rcF T len a).1
    have : a + 5 ≤ (rcF T len a).1 := i1
    omega
  · by_cases e : i = a + 4
    · rw [e]; exact ⟨hok4t, h59e⟩
    · by_cases e2 : i < a + 4
      · exact up4 i h1 e2
      · exact i3 i (by omega) h2
  · show rdW w0 ch (rcF T len a).1 1 = (mupd (mupd (mupd (rc9 T len a) 130 5 (nI (a + 4))) 130 9 (rcF T len a).2) 130 5 (nI (rcF T len a).1)).1 130 6
    rw [mupd_sn (by decide), mupd_sn (by decide), mupd_sn (by decide)]
    unfold rc9 rc8 rc7 rc6
    rw [mupd_sn (by decide), mupd_sn (by decide), mupd_sn (by decide), mupd_sn (by decide), mupd_sn (by decide), mupd_ss, hB]
    exact (i6 1 (Or.inl rfl)).trans h51
  · show rdW w0 ch (rcF T len a).1 2 = (mupd (mupd (mupd (rc9 T len a) 130 5 (nI (a + 4))) 130 9 (rcF T len a).2) 130 5 (nI (rcF T len a).1)).1 130 7
    rw [mupd_sn (by decide), mupd_sn (by decide), mupd_sn (by decide)]
    unfold rc9 rc8 rc7
    rw [mupd_sn (by decide), mupd_sn (by decide), mupd_sn (by decide), mupd_ss]
    exact (i6 2 (Or.inr (Or.inl rfl))).trans h52
  · show rdW w0 ch (rcF T len a).1 3 = (mupd (mupd (mupd (rc9 T len a) 130 5 (nI (a + 4))) 130 9 (rcF T len a).2) 130 5 (nI (rcF T len a).1)).1 130 8
    rw [mupd_sn (by decide), mupd_sn (by decide), mupd_sn (by decide)]
    unfold rc9 rc8
    rw [mupd_sn (by decide), mupd_ss]
    exact (i6 3 (Or.inr (Or.inr rfl))).trans h53
  · show rdW w0 ch (rcF T len a).1 4 = (mupd (mupd (mupd (rc9 T len a) 130 5 (nI (a + 4))) 130 9 (rcF T len a).2) 130 5 (nI (rcF T len a).1)).1 130 9
    rw [mupd_sn (by decide), mupd_ss]
    exact i5
theorem fe_err {w0 ch : Nat → Int32} {len p : Nat} (h1 : ∀ i, i < p → okC w0 ch i = true) (hp : p < len) (h2 : okC w0 ch p = false) : feR w0 ch len = nI p := by
  have hs := fbN_spec (q := fun i => !(accR (rdW w0 ch i) (ch i)).2) (n := len)
  unfold feR feN
  cases hf : fbN (fun i => !(accR (rdW w0 ch i) (ch i)).2) len with
  | none =>
    have := hs.2 hf p hp
    rw [show (accR (rdW w0 ch p) (ch p)).2 = false from h2] at this
    cases this
  | some c =>
    obtain ⟨a1, a2, a3⟩ := hs.1 c hf
    have e : c = p := by
      rcases Nat.lt_trichotomy c p with h | h | h
      · rw [show (accR (rdW w0 ch c) (ch c)).2 = true from h1 c h] at a2
        cases a2
      · exact h
      · have := a3 p h
        rw [show (accR (rdW w0 ch p) (ch p)).2 = false from h2] at this
        cases this
    rw [e]
theorem fe_end {w0 ch : Nat → Int32} {len : Nat} (h1 : ∀ i, i < len → okC w0 ch i = true) : feR w0 ch len = if rdW w0 ch len 0 = 5 ∨ rdW w0 ch len 0 = 6 then -1 else nI len := by
  have hs := fbN_spec (q := fun i => !(accR (rdW w0 ch i) (ch i)).2) (n := len)
  unfold feR feN
  cases hf : fbN (fun i => !(accR (rdW w0 ch i) (ch i)).2) len with
  | none => rfl
  | some c =>
    obtain ⟨a1, a2, a3⟩ := hs.1 c hf
    rw [show (accR (rdW w0 ch c) (ch c)).2 = true from h1 c a1] at a2
    cases a2
/-- what a call leaves that only reads -/
def RD9 (T T' : mS) : Prop := (∀ q, q ≠ 130 → T'.1 q = T.1 q) ∧ (∀ i, i < 5 ∨ 9 < i → T'.1 130 i = T.1 130 i) ∧ T'.2 = T.2
theorem RD9.trans {A B C : mS} (h : RD9 A B) (g : RD9 B C) : RD9 A C := ⟨fun q hq => (g.1 q hq).trans (h.1 q hq), fun i hi => (g.2.1 i hi).trans (h.2.1 i hi), g.2.2.trans h.2.2⟩
theorem RD9_5 {T : mS} {v : Int32} : RD9 T (mupd T 130 5 v) := ⟨fun q hq => mupd_n hq, fun i hi => mupd_sn (by omega), rfl⟩
theorem RD9.rw {T T' : mS} (h : RD9 T T') : RW T T' := ⟨h.1 131 (by decide), h.1 132 (by decide), h.2.1 2 (by omega), h.2.1 4 (by omega)⟩
theorem rcQ_9 {T : mS} {len a : Nat} (h : rdA T T len a) : RD9 T (rcQ T len a).2.2 := by
  obtain ⟨-, -, -, h1, h2, h3, -⟩ := rcQ_ok h
  exact ⟨h1, h2, h3⟩
theorem vd_fe {w0 ch : Nat → Int32} {len : Nat} : ∀ (m a : Nat) (T : mS), txOk ch len T → rdA T T len a → len + 1 ≤ a + m → (∀ i, i < a → okC w0 ch i = true) → rdW w0 ch a 0 = 0 → (feR w0 ch len = if (vdQ len m a T).1 then -1 else nI (vdQ len m a T).2.1) ∧ RD9 T (vdQ len m a T).2.2 ∧ ((vdQ len m a T).1 = true → (∀ i, i < len → okC w0 ch i = true) ∧ (rdW w0 ch len 0 = 5 ∨ rdW w0 ch len 0 = 6)) ∧ (vdQ len m a T).2.1 ≤ len
  | 0, a, T, _, hr, hm, _, _ => absurd hm (by have := hr.2.2.2; omega)
  | m + 1, a, T, ht, hr, hm, hp, h0 => by
    have hal := hr.2.2.2
    obtain ⟨c1, c2⟩ := cmd_run ht hal h0
    have h9 := rcQ_9 hr
    have hok := rcQ_ok hr
    have hu : vdQ len (m + 1) a T = if (rcQ T len a).1 = false then (false, (rcQ T len a).2.1, (rcQ T len a).2.2) else if (rcQ T len a).2.1 = len then (true, (rcQ T len a).2.1, (rcQ T len a).2.2) else if sgA T len (rcQ T len a).2.1 = 59 then vdQ len m ((rcQ T len a).2.1 + 1) (mupd (rcQ T len a).2.2 130 5 (nI ((rcQ T len a).2.1 + 1))) else (false, (rcQ T len a).2.1, (rcQ T len a).2.2) := rfl
    rw [hu]
    cases hq : (rcQ T len a).1 with
    | false =>
      obtain ⟨d1, d2, d3, d4, d5⟩ := c2 hq
      rw [if_pos rfl]
      refine ⟨?_, h9, fun h => (by cases h), d2⟩
      show feR w0 ch len = nI (rcQ T len a).2.1
      have hall : ∀ i, i < (rcQ T len a).2.1 → okC w0 ch i = true := fun i hi => by
        by_cases e : i < a
        · exact hp i e
        · exact d3 i (by omega) hi
      by_cases hl : (rcQ T len a).2.1 < len
      · exact fe_err hall hl (d4 hl)
      · have e : (rcQ T len a).2.1 = len := by omega
        have hall2 : ∀ i, i < len → okC w0 ch i = true := by rw [e] at hall; exact hall
        rw [e] at d5
        rw [fe_end hall2, if_neg (d5 rfl), e]
    | true =>
      obtain ⟨d1, d2, d3, d4, d5, d6, d7⟩ := c1 hq
      rw [if_neg (show ¬ (true = false) by decide)]
      have hall : ∀ i, i < (rcQ T len a).2.1 → okC w0 ch i = true := fun i hi => by
        by_cases e : i < a
        · exact hp i e
        · exact (d3 i (by omega) hi).1
      by_cases hl : (rcQ T len a).2.1 = len
      · rw [if_pos hl]
        have hall2 : ∀ i, i < len → okC w0 ch i = true := by rw [hl] at hall; exact hall
        rw [hl] at d4
        refine ⟨?_, h9, fun _ => ⟨hall2, d4⟩, d2⟩
        show feR w0 ch len = -1
        rw [fe_end hall2, if_pos d4]
      · rw [if_neg hl]
        have hlt : (rcQ T len a).2.1 < len := by omega
        by_cases h59 : sgA T len (rcQ T len a).2.1 = 59
        · rw [if_pos h59]
          have hc59 : ch (rcQ T len a).2.1 = 59 := (sgA_in ht hlt).symm.trans h59
          have ha59 := ac_59 d4
          have ht2 : txOk ch len (mupd (rcQ T len a).2.2 130 5 (nI ((rcQ T len a).2.1 + 1))) := fun j hj => by
            rw [mupd_n (by decide), h9.1 132 (by decide)]
            exact ht j hj
          have hr2 : rdA (mupd (rcQ T len a).2.2 130 5 (nI ((rcQ T len a).2.1 + 1))) (mupd (rcQ T len a).2.2 130 5 (nI ((rcQ T len a).2.1 + 1))) len ((rcQ T len a).2.1 + 1) := rdA_self (rdA_5 hok.1 hlt)
          obtain ⟨e1, e2, e3, e4⟩ := vd_fe (w0 := w0) m ((rcQ T len a).2.1 + 1) _ ht2 hr2 (by omega) (fun i hi => by
            by_cases e : i = (rcQ T len a).2.1
            · rw [e]
              unfold okC
              rw [hc59, ha59]
            · exact hall i (by omega)) (by
              rw [rdW_s, hc59, ha59]
              show upd (rdW w0 ch (rcQ T len a).2.1) 0 0 0 = 0
              exact pk_us)
          exact ⟨e1, (h9.trans RD9_5).trans e2, e3, e4⟩
        · rw [if_neg h59]
          have hc59 : ¬ ch (rcQ T len a).2.1 = 59 := fun e => h59 ((sgA_in ht hlt).trans e)
          refine ⟨?_, h9, fun h => (by cases h), d2⟩
          show feR w0 ch len = nI (rcQ T len a).2.1
          exact fe_err hall hlt (d7 hlt hc59)

