theorem rpP_s {r : Nat → Int32} {j : Nat} : rpP r (j + 1) = (rpU (rpP r j) 2304).1 := by rw [rpP]
theorem rpF_s {r : Nat → Int32} {j : Nat} : rpF r (j + 1) = (rpU (rpP r j) 2304).2 := by rw [rpF]
/-- the labels are settled: more passes change nothing -/
theorem rp_fix {r : Nat → Int32} (h : lblR r) {k : Nat} (hk : rpF r k = 0) : ∀ d, rpP r (k + d) = rpP r k := by
  have h0 : k ≠ 0 := fun e => by
    rw [e] at hk
    exact absurd hk (by show ¬ (1 : Int32) = 0; decide)
  obtain ⟨j, rfl⟩ : ∃ j, k = j + 1 := ⟨k - 1, by omega⟩
  have e1 : rpP r (j + 1) = (rpU (rpP r j) 2304).1 := rpP_s
  have e2 : rpF r (j + 1) = (rpU (rpP r j) 2304).2 := rpF_s
  rw [e2] at hk
  have h1 := rpU_ok (rpP_ok h j) (Nat.le_refl 2304)
  have h2 : rpP r (j + 1) = rpP r j := e1.trans (h1.2.2.1 hk)
  have h3 : (rpU (rpP r (j + 1)) 2304).1 = rpP r (j + 1) := by rw [h2]; exact h1.2.2.1 hk
  intro d
  induction d with
  | zero => rfl
  | succ d ih =>
    have e3 : rpP r (j + 1 + (d + 1)) = (rpU (rpP r (j + 1 + d)) 2304).1 := rpP_s
    rw [e3, ih, h3]
theorem rp_uniq {r : Nat → Int32} (h : lblR r) {k k2 : Nat} (hk : rpF r k = 0) (hk2 : rpF r k2 = 0) : rpP r k = rpP r k2 := by
  rcases Nat.le_total k k2 with hh | hh
  · have := rp_fix h hk (k2 - k)
    rw [show k + (k2 - k) = k2 by omega] at this
    exact this.symm
  · have := rp_fix h hk2 (k - k2)
    rw [show k2 + (k - k2) = k by omega] at this
    exact this
noncomputable def rpZ (r : Nat → Int32) : Nat := by
  classical
  exact if h : ∃ k, rpF r k = 0 then h.choose else 0
/-- the picture behind findsRegions -/
noncomputable def frD (S : mS) : mS := frS S (rpZ (labM S 48))
theorem frS_D {S : mS} {k : Nat} (hk : rpF (labM S 48) k = 0) : frS S k = frD S := by
  have h2 : rpF (labM S 48) (rpZ (labM S 48)) = 0 := by
    have hex : ∃ k, rpF (labM S 48) k = 0 := ⟨k, hk⟩
    unfold rpZ
    rw [dif_pos hex]
    exact hex.choose_spec
  unfold frD frS
  rw [rp_uniq labM_ok hk h2]
theorem frD_n {S : mS} {q : Nat} (h : q ≠ 133 ∧ q ≠ 134 ∧ q ≠ 135) : (frD S).1 q = S.1 q := frS_n h
theorem frD_ok {S : mS} (h : rgR S) : okR (frD S) := frS_ok h _
theorem inI_n {v : Int32} {lo hi : Nat} (hh : hi < 2 ^ 30) (h : inI v (nI lo) (nI hi) = true) (hlo : lo < 2 ^ 30) : ∃ d, lo ≤ d ∧ d ≤ hi ∧ v = nI d := by
  unfold inI at h
  rw [Bool.and_eq_true, decide_eq_true_eq, decide_eq_true_eq] at h
  have h0 : ¬ v < 0 := fun hv => by
    have h3 := Int32.lt_of_le_of_lt h.1 hv
    exact nI_pos (n := lo) (by omega) h3
  obtain ⟨d, hd, e⟩ := nI_of2 (M := nI hi) (n := hi) (nI_toInt (by omega)) h0 h.2
  refine ⟨d, ?_, hd, e⟩
  rw [e] at h
  exact (nI_leI (by omega) (by omega)).mp h.1
theorem frL_v {S : mS} {len : Nat} : ∀ m a x, 0 < x → x < 256 → ∃ y, 0 < y ∧ y < 256 ∧ (frL S len m a (nI x)).2 = nI y
  | 0, _, x, h0, h => ⟨x, h0, h, rfl⟩
  | m + 1, a, x, h0, h => by
    show ∃ y, 0 < y ∧ y < 256 ∧ (if inI (sgA S len a) 48 57 && decide (10 * nI x + sgA S len a - 48 ≤ 255) then frL S len m (a + 1) (10 * nI x + sgA S len a - 48) else (a, nI x)).2 = nI y
    by_cases hc : (inI (sgA S len a) 48 57 && decide (10 * nI x + sgA S len a - 48 ≤ 255)) = true
    · rw [if_pos hc]
      rw [Bool.and_eq_true, decide_eq_true_eq] at hc
      obtain ⟨d, h1, h2, e⟩ := inI_n (lo := 48) (hi := 57) (by decide) hc.1 (by decide)
      have e2 : (10 : Int32) * nI x + sgA S len a - 48 = nI (10 * x + d - 48) := by
        rw [e, show (10 : Int32) = nI 10 from rfl, pk_mul, nI_add]
        exact nI_subg (b := 48) (by omega)
      rw [e2] at hc ⊢
      have h3 := (nI_leI (a := 10 * x + d - 48) (b := 255) (by omega) (by decide)).mp hc.2
      exact frL_v m (a + 1) _ (by omega) (by omega)
    · rw [if_neg hc]
      exact ⟨x, h0, h, rfl⟩
theorem rdA_self {S T : mS} {len a : Nat} (h : rdA S T len a) : rdA T T len a := ⟨h.1, h.2.1, rfl, h.2.2.2⟩
/-- what is known of a command that was read -/
def rcK (T : mS) : Prop := (T.1 130 6 = 112 → ∃ r c f, r < 8 ∧ c < 6 ∧ 0 < f ∧ f < 256 ∧ T.1 130 7 = nI r ∧ T.1 130 8 = nI c ∧ T.1 130 9 = nI f)
theorem rcQ_ok {T : mS} {len a : Nat} (h : rdA T T len a) : rdA T (rcQ T len a).2.2 len (rcQ T len a).2.1 ∧ a ≤ (rcQ T len a).2.1 ∧ ((rcQ T len a).1 = true → a < (rcQ T len a).2.1) ∧ (∀ q, q ≠ 130 → (rcQ T len a).2.2.1 q = T.1 q) ∧ (∀ i, i < 5 ∨ 9 < i → (rcQ T len a).2.2.1 130 i = T.1 130 i) ∧ (rcQ T len a).2.2.2 = T.2 ∧ ((rcQ T len a).1 = true → (rcQ T len a).2.2.1 130 6 = sgA T len a ∧ rcK (rcQ T len a).2.2) := by
  have h6 : rdA T (rc6 T len a) len a := rdA_k h (by decide)
  have s6 : (rc6 T len a).1 130 6 = sgA T len a := mupd_ss
  have q6 : ∀ q, q ≠ 130 → (rc6 T len a).1 q = T.1 q := fun q hq => mupd_n hq
  have i6 : ∀ i, i < 5 ∨ 9 < i → (rc6 T len a).1 130 i = T.1 130 i := fun i hi => mupd_sn (by omega)
  by_cases hA : sgA T len a = 120 ∨ sgA T len a = 98 ∨ sgA T len a = 115
  · have hlt : a < len := sgA_lt (fun e => by rw [e] at hA; revert hA; decide)
    rw [rcQ_1 hA]
    refine ⟨rdA_5 h6 hlt, Nat.le_succ _, fun _ => Nat.lt_succ_self _, fun q hq => (mupd_n hq).trans (q6 q hq), fun i hi => (mupd_sn (by omega)).trans (i6 i hi), rfl, fun _ => ⟨(mupd_sn (by decide)).trans s6, fun e => ?_⟩⟩
    have e2 : sgA T len a = 112 := by rw [← s6]; exact (mupd_sn (by decide)).symm.trans e
    rw [e2] at hA
    exact absurd hA (by decide)
  by_cases hp : sgA T len a = 112
  rotate_left
  · rw [rcQ_2 hA hp]
    exact ⟨h6, Nat.le_refl _, fun e => (by cases e), q6, i6, rfl, fun e => (by cases e)⟩
  have hl1 : a < len := sgA_lt (by rw [hp]; decide)
  have h7 : ∀ v, rdA T (rc7 T len a v) len (a + 1) := fun v => rdA_k (rdA_5 h6 hl1) (by decide)
  have s7 : ∀ v, (rc7 T len a v).1 130 6 = sgA T len a := fun v => by
    unfold rc7
    rw [mupd_sn (by decide), mupd_sn (by decide), s6]
  have q7 : ∀ v q, q ≠ 130 → (rc7 T len a v).1 q = T.1 q := fun v q hq => by
    unfold rc7
    rw [mupd_n hq, mupd_n hq, q6 q hq]
  have i7 : ∀ v i, i < 5 ∨ 9 < i → (rc7 T len a v).1 130 i = T.1 130 i := fun v i hi => by
    unfold rc7
    rw [mupd_sn (by omega), mupd_sn (by omega), i6 i hi]
  cases hi1 : inI (sgA T len (a + 1)) 48 55 with
  | false =>
    rw [rcQ_3 hp hi1]
    exact ⟨h7 _, Nat.le_succ _, fun e => (by cases e), q7 _, i7 _, rfl, fun e => (by cases e)⟩
  | true =>
  have hi1' : ¬ inI (sgA T len (a + 1)) 48 55 = false := by rw [hi1]; decide
  have hl2 : a + 1 < len := sgA_lt (inI_ne hi1 (by decide))
  have h8 : ∀ v, rdA T (rc8 T len a v) len (a + 2) := fun v => rdA_k (rdA_5 (h7 _) hl2) (by decide)
  have s8 : ∀ v, (rc8 T len a v).1 130 6 = sgA T len a := fun v => by
    unfold rc8
    rw [mupd_sn (by decide), mupd_sn (by decide), s7]
  have q8 : ∀ v q, q ≠ 130 → (rc8 T len a v).1 q = T.1 q := fun v q hq => by
    unfold rc8
    rw [mupd_n hq, mupd_n hq, q7 _ q hq]
  have i8 : ∀ v i, i < 5 ∨ 9 < i → (rc8 T len a v).1 130 i = T.1 130 i := fun v i hi => by
    unfold rc8
    rw [mupd_sn (by omega), mupd_sn (by omega), i7 _ i hi]
  have r8 : ∀ v, (rc8 T len a v).1 130 7 = sgA T len (a + 1) - 48 := fun v => by
    unfold rc8
    rw [mupd_sn (by decide), mupd_sn (by decide)]
    exact mupd_ss
  cases hi2 : inI (sgA T len (a + 2)) 48 53 with
  | false =>
    rw [rcQ_4 hp hi1' hi2]
    exact ⟨h8 _, by show a ≤ a + 2; omega, fun e => (by cases e), q8 _, i8 _, rfl, fun e => (by cases e)⟩
  | true =>
  have hi2' : ¬ inI (sgA T len (a + 2)) 48 53 = false := by rw [hi2]; decide
  have hl3 : a + 2 < len := sgA_lt (inI_ne hi2 (by decide))
  have h9 : rdA T (rc9 T len a) len (a + 3) := rdA_5 (h8 _) hl3
  have s9 : (rc9 T len a).1 130 6 = sgA T len a := by
    unfold rc9
    rw [mupd_sn (by decide), s8]
  have q9 : ∀ q, q ≠ 130 → (rc9 T len a).1 q = T.1 q := fun q hq => by
    unfold rc9
    rw [mupd_n hq, q8 _ q hq]
  have i9 : ∀ i, i < 5 ∨ 9 < i → (rc9 T len a).1 130 i = T.1 130 i := fun i hi => by
    unfold rc9
    rw [mupd_sn (by omega), i8 _ i hi]
  have r9 : (rc9 T len a).1 130 7 = sgA T len (a + 1) - 48 := by
    unfold rc9
    rw [mupd_sn (by decide), r8]
  have c9 : (rc9 T len a).1 130 8 = sgA T len (a + 2) - 48 := by
    unfold rc9
    rw [mupd_sn (by decide)]
    exact mupd_ss
  by_cases hc : sgA T len (a + 3) = 44
  rotate_left
  · rw [rcQ_5 hp hi1' hi2' hc]
    exact ⟨h9, by show a ≤ a + 3; omega, fun e => (by cases e), q9, i9, rfl, fun e => (by cases e)⟩
  have hl4 : a + 3 < len := sgA_lt (by rw [hc]; decide)
  have h10 := rdA_5 h9 (a2 := a + 4) hl4
  cases hf : inI (sgA T len (a + 4)) 49 57 with
  | false =>
    rw [rcQ_6 hp hi1' hi2' hc hf]
    exact ⟨h10, by show a ≤ a + 4; omega, fun e => (by cases e), fun q hq => (mupd_n hq).trans (q9 q hq), fun i hi => (mupd_sn (by omega)).trans (i9 i hi), rfl, fun e => (by cases e)⟩
  | true =>
  have hl5 : a + 4 < len := sgA_lt (inI_ne hf (by decide))
  rw [rcQ_7 hp hi1' hi2' hc (by rw [hf]; decide)]
  have hfl : a + 5 ≤ (rcF T len a).1 ∧ (rcF T len a).1 ≤ len := frL_le _ _ _ hl5
  refine ⟨rdA_5 (rdA_k h10 (by decide)) hfl.2, by show a ≤ (rcF T len a).1; omega, fun _ => by show a < (rcF T len a).1; omega, fun q hq => ?_, fun i hi => ?_, rfl, fun _ => ⟨?_, fun _ => ?_⟩⟩
  · show (mupd (mupd (mupd (rc9 T len a) 130 5 _) 130 9 _) 130 5 _).1 q = _
    rw [mupd_n hq, mupd_n hq, mupd_n hq, q9 q hq]
  · show (mupd (mupd (mupd (rc9 T len a) 130 5 _) 130 9 _) 130 5 _).1 130 i = _
    rw [mupd_sn (by omega), mupd_sn (by omega), mupd_sn (by omega), i9 i hi]
  · show (mupd (mupd (mupd (rc9 T len a) 130 5 _) 130 9 _) 130 5 _).1 130 6 = _
    rw [mupd_sn (by decide), mupd_sn (by decide), mupd_sn (by decide), s9]
  · obtain ⟨d1, a1, b1, e1⟩ := inI_n (lo := 48) (hi := 55) (by decide) hi1 (by decide)
    obtain ⟨d2, a2, b2, e2⟩ := inI_n (lo := 48) (hi := 53) (by decide) hi2 (by decide)
    obtain ⟨d3, a3, b3, e3⟩ := inI_n (lo := 49) (hi := 57) (by decide) hf (by decide)
    have e3' : sgA T len (a + 4) - 48 = nI (d3 - 48) := by rw [e3]; exact nI_subg (b := 48) (by omega)
    obtain ⟨y, y0, y1, ey⟩ := frL_v (S := T) (len := len) (len - (a + 5)) (a + 5) (d3 - 48) (by omega) (by omega)
    refine ⟨d1 - 48, d2 - 48, y, by omega, by omega, y0, y1, ?_, ?_, ?_⟩
    · show (mupd (mupd (mupd (rc9 T len a) 130 5 _) 130 9 _) 130 5 _).1 130 7 = _
      rw [mupd_sn (by decide), mupd_sn (by decide), mupd_sn (by decide), r9, e1]
      exact nI_subg (b := 48) (by omega)
    · show (mupd (mupd (mupd (rc9 T len a) 130 5 _) 130 9 _) 130 5 _).1 130 8 = _
      rw [mupd_sn (by decide), mupd_sn (by decide), mupd_sn (by decide), c9, e2]
      exact nI_subg (b := 48) (by omega)
    · show (mupd (mupd (mupd (rc9 T len a) 130 5 _) 130 9 _) 130 5 _).1 130 9 = _
      rw [mupd_sn (by decide), mupd_ss]
      unfold rcF
      rw [e3']
      exact ey
/-- reading a whole text -/
def vdQ (len : Nat) : Nat → Nat → mS → Bool × Nat × mS
  | 0, a, T => (false, a, T)
  | m + 1, a, T => if (rcQ T len a).1 = false then (false, (rcQ T len a).2.1, (rcQ T len a).2.2) else if (rcQ T len a).2.1 = len then (true, (rcQ T len a).2.1, (rcQ T len a).2.2) else if sgA T len (rcQ T len a).2.1 = 59 then vdQ len m ((rcQ T len a).2.1 + 1) (mupd (rcQ T len a).2.2 130 5 (nI ((rcQ T len a).2.1 + 1))) else (false, (rcQ T len a).2.1, (rcQ T len a).2.2)
def vdS (S : mS) (len : Nat) : Bool × Nat × mS := vdQ len (len + 1) 0 (mupd S 130 5 0)
section C37
variable {l : Launch} {D : va_G} {n0 : Nat} {ft : Nat × Nat × Nat} {n : Nat} {S : mS} {b : Nat} {len a : Nat}
theorem iX10_isValid_X10 : ∀ w ∈ wsX100, w ∈ wsX10_isValid := by decide +kernel
theorem kX10_isValid_156 : Cond.fieldLink RX10 156 (TX10 4).1 (TX10 4).2.1 (TX10 4).2.2.1 ∈ wsX10_isValid := by decide +kernel
theorem kX10_isValid_159 : Cond.fieldLink RX10 159 (TX10 5).1 (TX10 5).2.1 (TX10 5).2.2.1 ∈ wsX10_isValid := by decide +kernel
theorem cX10_isValid_ok (hl : S.1 130 4 = nI len) (hl8 : len ≤ 80) : mMi l yX10_isValid wsX10_isValid rmX10_isValid D n0 ft [.ref (n0 + 130)] n S (fun r S' => S' = (vdS S len).2.2 ∧ r = bz (vdS S len).1 ∧ S'.1 130 5 = nI (vdS S len).2.1) := by
  refine tv_enter (cc := cX10_isValid) (maxL := 1) (ret := (some .boolean)) (by decide) rfl (Nat.le_of_ble_eq_true rfl) ?_
  intro p e s m args below meth c X hrt hnm hargs
  refine tv_aload_n X dX10_isValid_0 rfl ?_
  refine tv_iconst (v := 0) X dX10_isValid_1 (by decide) ?_
  refine mm_put X dX10_isValid_2 gX10 iX10_isValid_X10 rfl tyX10 tyX10_ok nmX10 5 (by decide) kX10_isValid_159 rfl rfl rfl (Nat.le_of_ble_eq_true rfl) rfl ?_
  have h0 : rdA (mupd S 130 5 0) (mupd S 130 5 0) len 0 := ⟨by rw [mupd_sn (by decide)]; exact hl, mupd_ss, rfl, Nat.zero_le _⟩
  generalize hfin : vdS S len = fin
  have hfin2 : vdQ len (len + 1) 0 (mupd S 130 5 0) = fin := hfin
  clear hfin
  generalize mupd S 130 5 0 = S2 at h0 hfin2 ⊢
  refine mm_loop (ι := Nat × Nat × mS) (fun q => rdA q.2.2 q.2.2 len q.2.1 ∧ len - q.2.1 < q.1 ∧ vdQ len q.1 q.2.1 q.2.2 = fin) (fun q => q.1) (fun _ => [(0, .ref (n0 + 130))]) (fun q => q.2.2) (len + 1, 0, S2) ⟨h0, Nat.lt_succ_self _, hfin2⟩ ?_
  intro q hq ih
  obtain ⟨m1, a1, T⟩ := q
  obtain ⟨hrd, hm, hf⟩ := hq
  dsimp only at hrd hm hf ⊢
  obtain ⟨m2, rfl⟩ : ∃ m2, m1 = m2 + 1 := ⟨m1 - 1, by omega⟩
  have hf2 : vdQ len (m2 + 1) a1 T = if (rcQ T len a1).1 = false then (false, (rcQ T len a1).2.1, (rcQ T len a1).2.2) else if (rcQ T len a1).2.1 = len then (true, (rcQ T len a1).2.1, (rcQ T len a1).2.2) else if sgA T len (rcQ T len a1).2.1 = 59 then vdQ len m2 ((rcQ T len a1).2.1 + 1) (mupd (rcQ T len a1).2.2 130 5 (nI ((rcQ T len a1).2.1 + 1))) else (false, (rcQ T len a1).2.1, (rcQ T len a1).2.2) := rfl
  rw [hf] at hf2
  obtain ⟨k1, k2, k3, -⟩ := rcQ_ok hrd
  refine tv_aload_n X dX10_isValid_5 rfl ?_
  refine mm_callVi (q := (RX10, TX10, 20)) X dX10_isValid_6 (cX10_readsCommand_ok hl8 hrd) (cwV 0 X.2.2.2.2.1 gX10_isValid_X10_readsCommand rfl rfl rfl (by decide +kernel) ⟨Nat.le_of_ble_eq_true rfl, Nat.le_of_ble_eq_true rfl⟩) rfl rfl gX10 rfl (Nat.le_of_ble_eq_true rfl) ⟨Nat.zero_le _, Nat.zero_le _⟩ (fun r S1 hq => ?_)
  obtain ⟨hq1, hq2⟩ := hq
  rw [hq1, hq2]
  clear hq1 hq2
  generalize rcQ T len a1 = w at hf2 k1 k2 k3 ⊢
  obtain ⟨w1, w2, w3⟩ := w
  dsimp only at hf2 k1 k2 k3 ⊢
  cases w1 with
  | false =>
    refine tv_if_eq (tgt := 36) X dX10_isValid_9 (by decide) (fun h1 => ?_) (fun h1 => ?_)
    rotate_left
    · exact absurd rfl h1
    rw [if_pos rfl] at hf2
    refine tv_iconst (v := 0) X dX10_isValid_36 (by decide) ?_
    exact tv_zret X hrt dX10_isValid_37 rfl ⟨_, rfl, by rw [hf2]; exact ⟨rfl, rfl, k1.2.1⟩⟩
  | true =>
    rw [if_neg (by decide)] at hf2
    refine tv_if_eq (tgt := 36) X dX10_isValid_9 (by decide) (fun h1 => ?_) (fun h1 => ?_)
    · exact absurd h1 (by decide)
    refine tv_aload_n X dX10_isValid_12 rfl ?_
    refine mm_getf X dX10_isValid_13 gX10 iX10_isValid_X10 rfl 5 (by decide) kX10_isValid_159 rfl ?_
    refine tv_aload_n X dX10_isValid_16 rfl ?_
    refine mm_getf X dX10_isValid_17 gX10 iX10_isValid_X10 rfl 4 (by decide) kX10_isValid_156 rfl ?_
    rw [k1.1, k1.2.1]
    by_cases he : w2 = len
    · rw [if_pos he] at hf2
      refine tv_icmp_ne (tgt := 25) X dX10_isValid_20 (by decide) (fun h2 => ?_) (fun h2 => ?_)
      · exact absurd (by rw [he]) h2
      refine tv_iconst (v := 1) X dX10_isValid_23 (by decide) ?_
      exact tv_zret X hrt dX10_isValid_24 rfl ⟨_, rfl, by rw [hf2]; exact ⟨rfl, rfl, k1.2.1⟩⟩
    · have hlt : w2 < len := Nat.lt_of_le_of_ne k1.2.2.2 he
      rw [if_neg he] at hf2
      refine tv_icmp_ne (tgt := 25) X dX10_isValid_20 (by decide) (fun h2 => ?_) (fun h2 => ?_)
      rotate_left
      · exact absurd ((nI_eq (by omega) (by omega)).mp h2) he
      refine tv_aload_n X dX10_isValid_25 rfl ?_
      refine tv_bipush (v := 59) X dX10_isValid_26 (by decide) ?_
      refine mm_callVi (q := (RX10, TX10, 20)) X dX10_isValid_28 (cX10_takes_rd hl8 k1 59) (cwV 1 X.2.2.2.2.1 gX10_isValid_X10_takes rfl rfl rfl (by decide +kernel) ⟨Nat.le_of_ble_eq_true rfl, Nat.le_of_ble_eq_true rfl⟩) rfl rfl gX10 rfl (Nat.le_of_ble_eq_true rfl) ⟨Nat.zero_le _, Nat.zero_le _⟩ (fun r S1 hq => ?_)
      rcases hq with ⟨hc, hq1, hq2⟩ | ⟨hc, hq1, hq2⟩
      · rw [hq1, hq2]
        rw [if_pos hc] at hf2
        refine tv_if_ne (tgt := 5) X dX10_isValid_31 (by decide) (fun h3 => ?_) (fun h3 => ?_)
        rotate_left
        · exact absurd h3 (by decide)
        have k3' := k3 rfl
        exact ih (m2, w2 + 1, mupd w3 130 5 (nI (w2 + 1))) ⟨rdA_self (rdA_5 k1 hlt), by show len - (w2 + 1) < m2; omega, hf2.symm⟩ (Nat.lt_succ_self m2)
      · rw [hq1, hq2]
        rw [if_neg hc] at hf2
        refine tv_if_ne (tgt := 5) X dX10_isValid_31 (by decide) (fun h3 => ?_) (fun h3 => ?_)
        · exact absurd rfl h3
        refine tv_iconst (v := 0) X dX10_isValid_34 (by decide) ?_
        exact tv_zret X hrt dX10_isValid_35 rfl ⟨_, rfl, by rw [hf2]; exact ⟨rfl, rfl, k1.2.1⟩⟩
theorem iX10_errorPosition_X10 : ∀ w ∈ wsX100, w ∈ wsX10_errorPosition := by decide +kernel
theorem kX10_errorPosition_43 : Cond.fieldLink RX10 43 (TX10 0).1 (TX10 0).2.1 (TX10 0).2.2.1 ∈ wsX10_errorPosition := by decide +kernel
theorem kX10_errorPosition_159 : Cond.fieldLink RX10 159 (TX10 5).1 (TX10 5).2.1 (TX10 5).2.2.1 ∈ wsX10_errorPosition := by decide +kernel
theorem cX10_errorPosition_ok (hl : S.1 130 4 = nI len) (hl8 : len ≤ 80) : mMi l yX10_errorPosition wsX10_errorPosition rmX10_errorPosition D n0 ft [.ref (n0 + 130)] n S (fun r S' => S' = (vdS (mupd S 130 0 0) len).2.2 ∧ r = if (vdS (mupd S 130 0 0) len).1 then -1 else nI (vdS (mupd S 130 0 0) len).2.1) := by
  refine tv_enter (cc := cX10_errorPosition) (maxL := 1) (ret := (some .int)) (by decide) rfl (Nat.le_of_ble_eq_true rfl) ?_
  intro p e s m args below meth c X hrt hnm hargs
  refine tv_aload_n X dX10_errorPosition_0 rfl ?_
  refine tv_iconst (v := 0) X dX10_errorPosition_1 (by decide) ?_
  refine mm_put X dX10_errorPosition_2 gX10 iX10_errorPosition_X10 rfl tyX10 tyX10_ok nmX10 0 (by decide) kX10_errorPosition_43 rfl rfl rfl (Nat.le_of_ble_eq_true rfl) rfl ?_
  refine tv_aload_n X dX10_errorPosition_5 rfl ?_
  have hl' : (mupd S 130 0 0).1 130 4 = nI len := by rw [mupd_sn (by decide)]; exact hl
  refine mm_callVi (q := (RX10, TX10, 20)) X dX10_errorPosition_6 (cX10_isValid_ok hl' hl8) (cwV 0 X.2.2.2.2.1 gX10_errorPosition_X10_isValid rfl rfl rfl (by decide +kernel) ⟨Nat.le_of_ble_eq_true rfl, Nat.le_of_ble_eq_true rfl⟩) rfl rfl gX10 rfl (Nat.le_of_ble_eq_true rfl) ⟨Nat.zero_le _, Nat.zero_le _⟩ (fun r S1 hq => ?_)
  obtain ⟨hq1, hq2, hq3⟩ := hq
  rw [hq1] at hq3
  rw [hq1, hq2]
  clear hq1 hq2
  generalize vdS (mupd S 130 0 0) len = w at hq3 ⊢
  obtain ⟨w1, w2, w3⟩ := w
  dsimp only at hq3 ⊢
  cases w1 with
  | false =>
    refine tv_if_eq (tgt := 16) X dX10_errorPosition_9 (by decide) (fun h1 => ?_) (fun h1 => ?_)
    rotate_left
    · exact absurd rfl h1
    refine tv_aload_n X dX10_errorPosition_16 rfl ?_
    refine mm_getf X dX10_errorPosition_17 gX10 iX10_errorPosition_X10 rfl 5 (by decide) kX10_errorPosition_159 rfl ?_
    rw [hq3]
    exact tv_iret X hrt dX10_errorPosition_20 ⟨_, rfl, rfl, rfl⟩
  | true =>
    refine tv_if_eq (tgt := 16) X dX10_errorPosition_9 (by decide) (fun h1 => ?_) (fun h1 => ?_)
    · exact absurd h1 (by decide)
    refine tv_iconst (v := -1) X dX10_errorPosition_12 (by decide) ?_
    refine tv_goto (tgt := 20) X dX10_errorPosition_13 (by decide) ?_
    exact tv_iret X hrt dX10_errorPosition_20 ⟨_, rfl, rfl, rfl⟩
end C37

