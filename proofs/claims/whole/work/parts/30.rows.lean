theorem nI_subn {a b : Nat} (ha : a < 2 ^ 30) (hb : b < 2 ^ 30) : (nI a - nI b).toInt = (a : Int) - b := by
  rw [Int32.toInt_sub, nI_toInt (by omega), nI_toInt (by omega)]
  exact Int.bmod_eq_of_le_mul_two (by omega) (by omega)
theorem nI_subg {a b : Nat} (h : b ≤ a) : nI a - nI b = nI (a - b) := by
  have e : nI a = nI (a - b) + nI b := by rw [nI_add, Nat.sub_add_cancel h]
  rw [e, Int32.add_sub_cancel]
theorem nI_subl {a b : Nat} (hb : b < 2 ^ 30) (h : a < b) : nI a - nI b < 0 := by
  rw [Int32.lt_iff_toInt_lt, nI_subn (by omega) hb]
  show (a : Int) - b < 0
  omega
/-- the reference's numbers in their ranges -/
def rgR (S : mS) : Prop := (∀ j, j < 96 → ∃ v, v < 256 ∧ S.1 131 j = nI v) ∧ ∃ v, 0 < v ∧ v < 101 ∧ S.1 131 96 = nI v
def sgN (S : mS) (j : Nat) : Nat := (sgR S j).toNatClampNeg
theorem sgR_N {S : mS} (h : rgR S) {j : Nat} (hj : j < 48) : sgR S j = nI (sgN S j) ∧ sgN S j < 256 := by
  obtain ⟨v, hv, ev⟩ := h.1 j (by omega)
  obtain ⟨w, hw, ew⟩ := h.1 (48 + j) (by omega)
  have key : ∃ q, q < 256 ∧ sgR S j = nI q := by
    unfold sgR
    rw [ev, ew]
    by_cases hlt : v < w
    · rw [if_pos (nI_subl (by omega) hlt)]
      exact ⟨0, by decide, rfl⟩
    · rw [nI_subg (Nat.le_of_not_lt hlt), if_neg (nI_pos (by omega))]
      exact ⟨v - w, by omega, rfl⟩
  obtain ⟨q, hq, e⟩ := key
  unfold sgN
  rw [e, nI_clamp (by omega)]
  exact ⟨rfl, hq⟩
/-- what the labels say of the cells -/
def okR (S : mS) : Prop := rgR S ∧ lblR (S.1 133) ∧ ∀ j, j < 48 → ¬ S.1 133 j = -1 → S.1 131 96 ≤ sgR S j
theorem rpU_m1 {r : Nat → Int32} : ∀ {k : Nat} (j : Nat), ((rpU r k).1 j = -1 ↔ r j = -1)
  | 0, _ => Iff.rfl
  | k + 1, j => by
    refine Iff.trans ?_ (rpU_m1 (k := k) j)
    cases he : rpE (rpU r k).1 k with
    | false =>
      have e1 : (rpU r (k + 1)).1 = (rpU r k).1 := by
        show (if rpE (rpU r k).1 k then _ else _) = _
        rw [he]; rfl
      rw [e1]
    | true =>
      obtain ⟨p1, p2, -, -⟩ := rpE_spec he
      have e1 : (rpU r (k + 1)).1 = upd (rpU r k).1 (k / 48) ((rpU r k).1 (k % 48)) := by
        show (if rpE (rpU r k).1 k then _ else _) = _
        rw [he]; rfl
      rw [e1]
      show (if j = k / 48 then _ else (rpU r k).1 j) = -1 ↔ _
      by_cases hj : j = k / 48
      · rw [if_pos hj, hj]
        exact ⟨fun h => absurd h p2, fun h => absurd h p1⟩
      · rw [if_neg hj]
theorem rpP_m1 {r : Nat → Int32} : ∀ (k j : Nat), (rpP r k j = -1 ↔ r j = -1)
  | 0, _ => Iff.rfl
  | k + 1, j => (rpU_m1 j).trans (rpP_m1 k j)
theorem frS_n {S : mS} {k q : Nat} (h : q ≠ 133 ∧ q ≠ 134 ∧ q ≠ 135) : (frS S k).1 q = S.1 q := by
  unfold frS
  rw [mset_n h.2.2, mset_n h.2.1, mset_n h.1]
theorem frS_133 {S : mS} {k : Nat} : (frS S k).1 133 = rpP (labM S 48) k := by
  unfold frS
  rw [mset_n (by decide), mset_n (by decide), mset_s]
theorem sgR_ag {S T : mS} (h : T.1 131 = S.1 131) : sgR T = sgR S := by
  funext j
  unfold sgR
  rw [h]
theorem frS_ok {S : mS} (h : rgR S) (k : Nat) : okR (frS S k) := by
  have e : (frS S k).1 131 = S.1 131 := frS_n (by decide)
  refine ⟨?_, ?_, fun j hj hn => ?_⟩
  · unfold rgR; rw [e]; exact h
  · rw [frS_133]; exact rpP_ok labM_ok k
  · rw [e, sgR_ag e]
    rw [frS_133, rpP_m1] at hn
    by_cases ht : S.1 131 96 ≤ sgR S j
    · exact ht
    · refine absurd ?_ hn
      show (if j < 48 then (if S.1 131 96 ≤ sgR S j then nI j else (-1 : Int32)) else _) = -1
      rw [if_pos hj, if_neg ht]
/-- rows 131, 133, 134, 135 alike -/
def agR (S T : mS) : Prop := T.1 131 = S.1 131 ∧ T.1 133 = S.1 133 ∧ T.1 134 = S.1 134 ∧ T.1 135 = S.1 135
theorem pkM_ag {S T : mS} (h : agR S T) (c : Nat) : ∀ i, pkM T c i = pkM S c i
  | 0 => by
    show (!(decide (T.1 133 c = -1)) && decide (kndM T (T.1 133 c).toNatClampNeg = 0)) = (!(decide (S.1 133 c = -1)) && decide (kndM S (S.1 133 c).toNatClampNeg = 0))
    unfold kndM
    rw [h.1, h.2.1, h.2.2.1, h.2.2.2]
  | i + 1 => by
    show (pkM T c i && pkMok T c i) = (pkM S c i && pkMok S c i)
    rw [pkM_ag h c i]
    unfold pkMok
    rw [sgR_ag h.1]
theorem lcs_ag {S T : mS} (h : T.1 131 = S.1 131) (c : Nat) : lcs T c = lcs S c := by
  funext k
  unfold lcs
  rw [sgR_ag h]
theorem lcM_ag {S T : mS} (h : T.1 131 = S.1 131) (c : Nat) : ∀ i, lcM T c i = lcM S c i ∧ lcD T c i = lcD S c i ∧ lcO T c i = lcO S c i
  | 0 => ⟨rfl, rfl, rfl⟩
  | i + 1 => by
    obtain ⟨h1, h2, h3⟩ := lcM_ag h c i
    show lcM T c i + lcs T c i = lcM S c i + lcs S c i ∧ lcD T c i + lcs T c i * nI (i / 6) = lcD S c i + lcs S c i * nI (i / 6) ∧ lcO T c i + lcs T c i * nI (i % 6) = lcO S c i + lcs S c i * nI (i % 6)
    rw [h1, h2, h3, lcs_ag h]
    exact ⟨rfl, rfl, rfl⟩
theorem pkM_all {S : mS} {c : Nat} : ∀ {i : Nat}, pkM S c i = true → ¬ S.1 133 c = -1 ∧ kndM S (S.1 133 c).toNatClampNeg = 0 ∧ ∀ k, k < i → pkMok S c k = true
  | 0, h => by
    have h' : (!(decide (S.1 133 c = -1)) && decide (kndM S (S.1 133 c).toNatClampNeg = 0)) = true := h
    simp only [Bool.and_eq_true, Bool.not_eq_true', decide_eq_false_iff_not, decide_eq_true_eq] at h'
    exact ⟨h'.1, h'.2, fun k hk => absurd hk (Nat.not_lt_zero k)⟩
  | i + 1, h => by
    have h' : (pkM S c i && pkMok S c i) = true := h
    rw [Bool.and_eq_true] at h'
    obtain ⟨p1, p2, p3⟩ := pkM_all h'.1
    refine ⟨p1, p2, fun k hk => ?_⟩
    by_cases e : k = i
    · rw [e]; exact h'.2
    · exact p3 k (by omega)
def lcsN (S : mS) (c k : Nat) : Nat := if apI c k < 3 then sgN S k else 0
theorem lcs_N {S : mS} (h : rgR S) {c k : Nat} (hk : k < 48) : lcs S c k = nI (lcsN S c k) ∧ lcsN S c k < 256 := by
  obtain ⟨h1, h2⟩ := sgR_N h hk
  unfold lcs lcsN
  split
  · exact ⟨h1, h2⟩
  · exact ⟨rfl, by decide⟩
theorem lcM_N {S : mS} (h : rgR S) {c : Nat} : ∀ {i : Nat}, i ≤ 48 → lcM S c i = nI (sumN (lcsN S c) i) ∧ sumN (lcsN S c) i ≤ 255 * i
  | 0, _ => ⟨rfl, Nat.le_refl _⟩
  | i + 1, hi => by
    obtain ⟨h1, h2⟩ := lcM_N h (c := c) (i := i) (by omega)
    obtain ⟨h3, h4⟩ := lcs_N h (c := c) (k := i) (by omega)
    refine ⟨?_, ?_⟩
    · show lcM S c i + lcs S c i = nI (sumN (lcsN S c) i + lcsN S c i)
      rw [h1, h3, nI_add]
    · show sumN (lcsN S c) i + lcsN S c i ≤ _
      omega
theorem sumN_ge {f : Nat → Nat} : ∀ {k i : Nat}, i < k → f i ≤ sumN f k
  | 0, _, h => absurd h (Nat.not_lt_zero _)
  | k + 1, i, h => by
    show f i ≤ sumN f k + f k
    by_cases e : i = k
    · rw [e]; omega
    · have := sumN_ge (f := f) (k := k) (i := i) (by omega)
      omega
theorem apI_self : ∀ c, c < 48 → apI c c = 0 := by decide +kernel
theorem sgN_pk {S : mS} (h : okR S) {c : Nat} (hc : c < 48) (hn : ¬ S.1 133 c = -1) : 0 < sgN S c := by
  obtain ⟨v, hv, hv2, ev⟩ := h.1.2
  have h3 := h.2.2 c hc hn
  obtain ⟨e1, e2⟩ := sgR_N h.1 hc
  rw [ev, e1] at h3
  have := (nI_leI (by omega) (by omega)).mp h3
  omega
theorem lcM_ne {S : mS} (h : okR S) {c : Nat} (hc : c < 48) (hn : ¬ S.1 133 c = -1) : ¬ lcM S c 48 = 0 := by
  obtain ⟨h1, h2⟩ := lcM_N h.1 (c := c) (Nat.le_refl 48)
  rw [h1]
  have h3 : lcsN S c c ≤ sumN (lcsN S c) 48 := sumN_ge hc
  have h4 : lcsN S c c = sgN S c := by unfold lcsN; rw [apI_self c hc, if_pos (by decide)]
  have h5 := sgN_pk h hc hn
  exact nI_ne0 (by omega) (by omega)
theorem apI_pair : ∀ j, j < 24 → apI (2 * j) (2 * j + 1) = 1 ∧ apI (2 * j + 1) (2 * j) = 1 := by decide +kernel
theorem pk_pair {S : mS} (h : rgR S) {j : Nat} (hj : j < 24) (h1 : pkM S (2 * j) 48 = true) : pkM S (2 * j + 1) 48 = false := by
  cases h2 : pkM S (2 * j + 1) 48 with
  | false => rfl
  | true =>
    obtain ⟨a1, a2⟩ := apI_pair j hj
    have b1 := (pkM_all h1).2.2 (2 * j + 1) (by omega)
    have b2 := (pkM_all h2).2.2 (2 * j) (by omega)
    unfold pkMok at b1 b2
    rw [a1] at b1
    rw [a2] at b2
    obtain ⟨e1, l1⟩ := sgR_N h (j := 2 * j) (by omega)
    obtain ⟨e2, l2⟩ := sgR_N h (j := 2 * j + 1) (by omega)
    rw [e1, e2] at b1 b2
    have c0 : inI 1 1 2 = true := by decide
    rw [c0] at b1 b2
    simp only [Bool.not_true, Bool.false_or, Bool.or_eq_true, Bool.and_eq_true, decide_eq_true_eq] at b1 b2
    have d2 : sgN S (2 * j) < sgN S (2 * j + 1) := by
      rcases b2 with b2 | ⟨-, b2⟩
      · refine Nat.lt_of_not_le fun hh => ?_
        rw [nI_subg hh] at b2
        exact nI_pos (by omega) b2
      · omega
    rcases b1 with b1 | ⟨b1, -⟩
    · rw [nI_subg (by omega)] at b1
      exact absurd b1 (nI_pos (by omega))
    · rw [nI_subg (by omega)] at b1
      exact absurd b1 (nI_ne0 (by omega) (by omega))
/-- how many peaks there are below -/
def fcN (S : mS) : Nat → Nat
  | 0 => 0
  | i + 1 => if pkM S i 48 then fcN S i + 1 else fcN S i
theorem fcN_2 {S : mS} (h : rgR S) : ∀ {j : Nat}, j ≤ 24 → fcN S (2 * j) ≤ j
  | 0, _ => Nat.le_refl _
  | j + 1, hj => by
    have h1 := fcN_2 h (j := j) (by omega)
    have e2 : fcN S (2 * (j + 1)) = if pkM S (2 * j + 1) 48 then fcN S (2 * j + 1) + 1 else fcN S (2 * j + 1) := rfl
    have e1 : fcN S (2 * j + 1) = if pkM S (2 * j) 48 then fcN S (2 * j) + 1 else fcN S (2 * j) := rfl
    rw [e2, e1]
    cases hp : pkM S (2 * j) 48 with
    | true =>
      rw [pk_pair h (by omega) hp]
      show fcN S (2 * j) + 1 ≤ j + 1
      omega
    | false =>
      show (if pkM S (2 * j + 1) 48 then fcN S (2 * j) + 1 else fcN S (2 * j)) ≤ j + 1
      split <;> omega
theorem fcN_lt {S : mS} (h : rgR S) {i : Nat} (hi : i < 48) (hp : pkM S i 48 = true) : fcN S i < 24 := by
  rcases Nat.mod_two_eq_zero_or_one i with hm | hm
  · obtain ⟨j, rfl⟩ : ∃ j, i = 2 * j := ⟨i / 2, by omega⟩
    have := fcN_2 h (j := j) (by omega)
    omega
  · obtain ⟨j, rfl⟩ : ∃ j, i = 2 * j + 1 := ⟨i / 2, by omega⟩
    have h1 := fcN_2 h (j := j) (by omega)
    have e1 : fcN S (2 * j + 1) = if pkM S (2 * j) 48 then fcN S (2 * j) + 1 else fcN S (2 * j) := rfl
    cases hq : pkM S (2 * j) 48 with
    | true => rw [pk_pair h (by omega) hq] at hp; cases hp
    | false => rw [hq] at e1; rw [e1]; show fcN S (2 * j) < 24; omega
/-- the picture when the peaks below i have been laid -/
def fcT (S : mS) : Nat → mS
  | 0 => mupd S 130 17 0
  | i + 1 => if pkM S i 48 then layS (fcT S i) i (fcN S i) else fcT S i
theorem layS_n {S : mS} {c k q : Nat} (h : q ≠ 130 ∧ q ≠ 136 ∧ q ≠ 137 ∧ q ≠ 138 ∧ q ≠ 139) : (layS S c k).1 q = S.1 q := by
  unfold layS
  rw [mupd_n h.1, mupd_n h.2.2.2.2, mupd_n h.2.2.2.1, mupd_n h.2.2.1, mupd_n h.2.1]
theorem fcT_n {S : mS} {q : Nat} (h : q ≠ 130 ∧ q ≠ 136 ∧ q ≠ 137 ∧ q ≠ 138 ∧ q ≠ 139) : ∀ i, (fcT S i).1 q = S.1 q
  | 0 => mupd_n h.1
  | i + 1 => by
    show (if pkM S i 48 then layS (fcT S i) i (fcN S i) else fcT S i).1 q = _
    split
    · rw [layS_n h]; exact fcT_n h i
    · exact fcT_n h i
theorem fcT_c {S : mS} : ∀ i, (fcT S i).1 130 17 = nI (fcN S i)
  | 0 => mupd_ss
  | i + 1 => by
    show (if pkM S i 48 then layS (fcT S i) i (fcN S i) else fcT S i).1 130 17 = nI (if pkM S i 48 then fcN S i + 1 else fcN S i)
    split
    · exact mupd_ss
    · exact fcT_c i
theorem fcT_ag {S : mS} (i : Nat) : agR S (fcT S i) := ⟨fcT_n (by decide) i, fcT_n (by decide) i, fcT_n (by decide) i, fcT_n (by decide) i⟩
/-- dropping down to six -/
def fdS : Nat → mS → mS
  | 0, S => S
  | k + 1, S => if k + 1 ≤ 6 then S else fdS k (drpS S k)
def fcE (S : mS) : mS := fdS (fcN S 48) (fcT S 48)
theorem drpT_n {S : mS} {g k i q : Nat} (h : q ≠ 130 ∧ q ≠ 136 ∧ q ≠ 137 ∧ q ≠ 138 ∧ q ≠ 139) : (drpT S g k i).1 q = S.1 q := by
  unfold drpT
  rw [mset_n h.2.2.2.2, mset_n h.2.2.2.1, mset_n h.2.2.1, mset_n h.2.1, mupd_n h.1]
theorem drpS_c {S : mS} {k : Nat} : (drpS S k).1 130 17 = nI k := by
  unfold drpS drpT
  rw [mset_n (by decide), mset_n (by decide), mset_n (by decide), mset_n (by decide), mupd_ss]
section C30
variable {l : Launch} {D : va_G} {n0 : Nat} {ft : Nat × Nat × Nat} {n : Nat} {S : mS} {b : Nat}
theorem iX10_findsContacts_X10 : ∀ w ∈ wsX100, w ∈ wsX10_findsContacts := by decide +kernel
theorem kX10_findsContacts_66 : Cond.fieldLink RX10 66 (TX10 17).1 (TX10 17).2.1 (TX10 17).2.2.1 ∈ wsX10_findsContacts := by decide +kernel
theorem cX10_findsContacts_ok (hS : rgR S) : mMv l yX10_findsContacts wsX10_findsContacts rmX10_findsContacts D n0 ft [.ref (n0 + 130)] n S (fun S' => ∃ k, rpF (labM S 48) k = 0 ∧ S' = fcE (frS S k)) := by
  refine tv_enter (cc := cX10_findsContacts) (maxL := 2) (ret := none) (by decide) rfl (Nat.le_of_ble_eq_true rfl) ?_
  intro p e s m args below meth c X hrt hnm hargs
  refine tv_aload_n X dX10_findsContacts_0 rfl ?_
  refine mm_callVv (q := (RX10, TX10, 20)) X dX10_findsContacts_1 (cX10_findsRegions_ok) (cwV 0 X.2.2.2.2.1 gX10_findsContacts_X10_findsRegions rfl rfl rfl (by decide +kernel) ⟨Nat.le_of_ble_eq_true rfl, Nat.le_of_ble_eq_true rfl⟩) rfl rfl gX10 rfl (Nat.le_of_ble_eq_true rfl) ⟨Nat.zero_le _, Nat.zero_le _⟩ (fun S1 hq => ?_)
  obtain ⟨k0, hk0, hq1⟩ := hq
  rw [hq1]
  clear hq1
  have hok := frS_ok hS k0
  have hpost : ∀ S' : mS, S' = fcE (frS S k0) → ∃ k, rpF (labM S 48) k = 0 ∧ S' = fcE (frS S k) := fun S' h => ⟨k0, hk0, h⟩
  generalize frS S k0 = S2 at hok hpost ⊢
  refine tv_aload_n X dX10_findsContacts_4 rfl ?_
  refine tv_iconst (v := 0) X dX10_findsContacts_5 (by decide) ?_
  refine mm_put X dX10_findsContacts_6 gX10 iX10_findsContacts_X10 rfl tyX10 tyX10_ok nmX10 17 (by decide) kX10_findsContacts_66 rfl rfl rfl (Nat.le_of_ble_eq_true rfl) rfl ?_
  refine tv_iconst (v := 0) X dX10_findsContacts_9 (by decide) ?_
  refine tv_istore_n X dX10_findsContacts_10 rfl ?_
  refine mm_for 48 (fun i => [(0, .ref (n0 + 130)), (1, .int (nI i))]) (fun i => fcT S2 i) ?_ ?_
  · intro i hi ih
    dsimp only at ih
    have hnx : fcT S2 (i + 1) = if pkM S2 i 48 then layS (fcT S2 i) i (fcN S2 i) else fcT S2 i := rfl
    rw [hnx] at ih
    have hag := fcT_ag (S := S2) i
    have hpk := pkM_ag hag i 48
    have hcn := fcT_c (S := S2) i
    have hlm := (lcM_ag hag.1 i 48).1
    have hlt := fcN_lt hok.1 hi
    have hlb : lblR ((fcT S2 i).1 133) := by rw [hag.2.1]; exact hok.2.1
    generalize fcT S2 i = S3 at ih hag hpk hcn hlm hlb ⊢
    refine tv_iload_n X dX10_findsContacts_11 rfl ?_
    refine tv_bipush (v := 48) X dX10_findsContacts_12 (by decide) ?_
    refine tv_icmp_ge (tgt := 36) X dX10_findsContacts_14 (by decide) (fun h1 => ?_) (fun h1 => ?_)
    · exact absurd h1 (nI_ge (a := i) (b := 48) hi (by decide))
    refine tv_aload_n X dX10_findsContacts_17 rfl ?_
    refine tv_iload_n X dX10_findsContacts_18 rfl ?_
    refine mm_callVi (q := (RX10, TX10, 20)) X dX10_findsContacts_19 (cX10_isPeak_ok hlb hi) (cwV 1 X.2.2.2.2.1 gX10_findsContacts_X10_isPeak rfl rfl rfl (by decide +kernel) ⟨Nat.le_of_ble_eq_true rfl, Nat.le_of_ble_eq_true rfl⟩) rfl rfl gX10 rfl (Nat.le_of_ble_eq_true rfl) ⟨Nat.zero_le _, Nat.zero_le _⟩ (fun r S1 hq => ?_)
    obtain ⟨hq1, hq2⟩ := hq
    rw [hq1, hq2, hpk]
    clear hq1 hq2
    cases hp : pkM S2 i 48 with
    | false =>
      rw [hp] at ih
      refine tv_if_eq (tgt := 30) X dX10_findsContacts_22 (by decide) (fun h2 => ?_) (fun h2 => ?_)
      rotate_left
      · exact absurd rfl h2
      refine tv_iinc X dX10_findsContacts_30 rfl (nI_1 i) rfl ?_
      refine tv_goto (tgt := 11) X dX10_findsContacts_33 (by decide) ?_
      exact ih
    | true =>
      rw [hp] at ih
      refine tv_if_eq (tgt := 30) X dX10_findsContacts_22 (by decide) (fun h2 => ?_) (fun h2 => ?_)
      · exact absurd h2 (by decide)
      refine tv_aload_n X dX10_findsContacts_25 rfl ?_
      refine tv_iload_n X dX10_findsContacts_26 rfl ?_
      refine mm_callVv (q := (RX10, TX10, 20)) X dX10_findsContacts_27 (cX10_laysContact_ok hi hcn (hlt hp) (by rw [hlm]; exact lcM_ne hok hi (pkM_all hp).1)) (cwV 1 X.2.2.2.2.1 gX10_findsContacts_X10_laysContact rfl rfl rfl (by decide +kernel) ⟨Nat.le_of_ble_eq_true rfl, Nat.le_of_ble_eq_true rfl⟩) rfl rfl gX10 rfl (Nat.le_of_ble_eq_true rfl) ⟨Nat.zero_le _, Nat.zero_le _⟩ (fun S1 hq => ?_)
      rw [hq]
      refine tv_iinc X dX10_findsContacts_30 rfl (nI_1 i) rfl ?_
      refine tv_goto (tgt := 11) X dX10_findsContacts_33 (by decide) ?_
      exact ih
  · refine tv_iload_n X dX10_findsContacts_11 rfl ?_
    refine tv_bipush (v := 48) X dX10_findsContacts_12 (by decide) ?_
    refine tv_icmp_ge (tgt := 36) X dX10_findsContacts_14 (by decide) (fun h1 => ?_) (fun h1 => ?_)
    rotate_left
    · exact absurd (nI_le (Nat.le_refl 48) (by decide)) h1
    refine tv_sl (L' := [(0, .ref (n0 + 130))]) [0] rfl ?_
    have h24 : fcN S2 48 ≤ 24 := fcN_2 hok.1 (j := 24) (Nat.le_refl _)
    refine mm_loop (ι := Nat × mS) (fun q => q.2.1 130 17 = nI q.1 ∧ q.1 ≤ 24 ∧ fdS q.1 q.2 = fcE S2) (fun q => q.1) (fun _ => [(0, .ref (n0 + 130))]) (fun q => q.2) (fcN S2 48, fcT S2 48) ⟨fcT_c 48, h24, rfl⟩ ?_
    intro q hq ih
    obtain ⟨m1, S3⟩ := q
    obtain ⟨hc1, hm1, hf1⟩ := hq
    dsimp only at hc1 hm1 hf1 ⊢
    refine tv_aload_n X dX10_findsContacts_36 rfl ?_
    refine mm_getf X dX10_findsContacts_37 gX10 iX10_findsContacts_X10 rfl 17 (by decide) kX10_findsContacts_66 rfl ?_
    refine tv_bipush (v := 6) X dX10_findsContacts_40 (by decide) ?_
    rw [hc1]
    refine tv_icmp_le (tgt := 52) X dX10_findsContacts_42 (by decide) (fun h2 => ?_) (fun h2 => ?_)
    · have h3 : m1 ≤ 6 := Nat.le_of_not_lt fun h => nI_ge (a := 6) (b := m1) h (by omega) h2
      refine tv_vret X hrt dX10_findsContacts_52 ⟨_, rfl, hpost _ ?_⟩
      rw [← hf1]
      match m1, h3 with
      | 0, _ => rfl
      | m2 + 1, h3 => exact (if_pos h3).symm
    · have h3 : ¬ m1 ≤ 6 := fun h => h2 (nI_le h (by decide))
      obtain ⟨m2, rfl⟩ : ∃ m2, m1 = m2 + 1 := ⟨m1 - 1, by omega⟩
      refine tv_aload_n X dX10_findsContacts_45 rfl ?_
      refine mm_callVv (q := (RX10, TX10, 20)) X dX10_findsContacts_46 (cX10_dropsContact_ok hc1 (by omega)) (cwV 0 X.2.2.2.2.1 gX10_findsContacts_X10_dropsContact rfl rfl rfl (by decide +kernel) ⟨Nat.le_of_ble_eq_true rfl, Nat.le_of_ble_eq_true rfl⟩) rfl rfl gX10 rfl (Nat.le_of_ble_eq_true rfl) ⟨Nat.zero_le _, Nat.zero_le _⟩ (fun S1 hq => ?_)
      rw [hq]
      refine tv_goto (tgt := 36) X dX10_findsContacts_49 (by decide) ?_
      refine ih (m2, drpS S3 m2) ⟨drpS_c, by show m2 ≤ 24; omega, ?_⟩ (Nat.lt_succ_self m2)
      rw [← hf1]
      exact (if_neg h3).symm
end C30

