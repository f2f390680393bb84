/-! the contacts of both sides -/
theorem hoC_add {T T' : mS} {q : Nat} {RR CC MM : Nat → Int32} {L : List Nat} {c : Nat} (h : hoC T q RR CC MM L) (ho : ∀ j, j ≠ L.length → T'.1 q j = T.1 q j ∧ T'.1 (q + 1) j = T.1 (q + 1) j ∧ T'.1 (q + 2) j = T.1 (q + 2) j ∧ T'.1 (q + 3) j = T.1 (q + 3) j) (hn : T'.1 q L.length = RR c ∧ T'.1 (q + 1) L.length = CC c ∧ T'.1 (q + 2) L.length = MM c ∧ T'.1 (q + 3) L.length = nI c) : hoC T' q RR CC MM (L ++ [c]) := by
  intro j d hj
  rw [List.getElem?_append] at hj
  by_cases hl : j < L.length
  · rw [if_pos hl] at hj
    obtain ⟨o1, o2, o3, o4⟩ := ho j (by omega)
    rw [o1, o2, o3, o4]
    exact h j d hj
  · rw [if_neg hl] at hj
    have e : j = L.length := by
      have := (List.getElem?_eq_some_iff.mp hj).1
      rw [List.length_singleton] at this
      omega
    rw [e, Nat.sub_self] at hj
    cases hj
    rw [e]
    exact hn
theorem range_f {p : Nat → Bool} {i : Nat} : (List.range (i + 1)).filter p = if p i then (List.range i).filter p ++ [i] else (List.range i).filter p := by
  rw [List.range_succ, List.filter_append]
  cases hp : p i with
  | true => rw [List.filter_cons_of_pos hp]; rfl
  | false => rw [List.filter_cons_of_neg (by rw [hp]; decide), List.filter_nil, List.append_nil]; rfl
theorem range_fl {p : Nat → Bool} {i n : Nat} (h : i ≤ n) : ((List.range i).filter p).length ≤ ((List.range n).filter p).length := ((List.range_sublist.mpr h).filter p).length_le
noncomputable def selB (B : mS) (c : Nat) : Bool := pkB B c && decide (rkL (fun c => lcM B c 48) (pkL B 48) c < 6)
theorem sel_L {B : mS} : (List.range 48).filter (selB B) = ctL B := by
  rw [ctL_eq.1]
  unfold pkL
  rw [List.filter_filter]
  refine List.filter_congr fun c hc => ?_
  rw [Bool.and_comm]
  rfl
theorem cos_L {T B : mS} {b : Nat} (hB : rgR B) (hb : b + 4 < 99) (hcd : ∀ c, c < 48 → T.1 104 c = if pkB B c then lcM B c 48 else 0) (hr : ∀ c, c < 48 → 100 * wr9 (sgS T b) (nI (c / 6)) (nI (c % 6)) / T.1 104 c = if pkB B c then rrB B c else 100 * wr9 (sgS T b) (nI (c / 6)) (nI (c % 6)) / T.1 104 c) (hc : ∀ c, c < 48 → 100 * wc9 (sgS T b) (nI (c / 6)) (nI (c % 6)) / T.1 104 c = if pkB B c then ccB B c else 100 * wc9 (sgS T b) (nI (c / 6)) (nI (c % 6)) / T.1 104 c) : ∀ i, i ≤ 48 → (cosU T b i).2 = ((List.range i).filter (selB B)).length ∧ hoC (cosU T b i).1 105 (rrB B) (ccB B) (mmB B) ((List.range i).filter (selB B))
  | 0, _ => ⟨rfl, fun j c h => by cases h⟩
  | i + 1, hi => by
    obtain ⟨ih1, ih2⟩ := cos_L hB hb hcd hr hc i (by omega)
    have hs := sel_eq hB (cd := T.1 104) hcd (c := i) (by omega)
    have hu : cosU T b (i + 1) = if 0 < T.1 104 i ∧ hvr (T.1 104) i 48 < 6 ∧ (cosU T b i).2 < 6 then (addS (cosU T b i).1 b i (cosU T b i).2, (cosU T b i).2 + 1) else cosU T b i := rfl
    rw [range_f]
    cases hsel : selB B i with
    | false =>
      have hn : ¬ (0 < T.1 104 i ∧ hvr (T.1 104) i 48 < 6 ∧ (cosU T b i).2 < 6) := fun h => by
        have := hs.mp ⟨h.1, h.2.1⟩
        unfold selB at hsel
        rw [this.1, decide_eq_true this.2] at hsel
        cases hsel
      rw [hu, if_neg hn]
      exact ⟨ih1, ih2⟩
    | true =>
      have hsp : pkB B i = true ∧ rkL (fun c => lcM B c 48) (pkL B 48) i < 6 := by
        unfold selB at hsel
        rw [Bool.and_eq_true, decide_eq_true_eq] at hsel
        exact hsel
      have hlt : (cosU T b i).2 < 6 := by
        have h1 := range_fl (p := selB B) (i := i + 1) (n := 48) (by omega)
        rw [sel_L, range_f, hsel] at h1
        have h2 := (ctL_eq (B := B)).2
        have h3 : ((List.range i).filter (selB B) ++ [i]).length ≤ 6 := Nat.le_trans h1 h2
        rw [List.length_append, List.length_singleton] at h3
        omega
      have h0 := hs.mpr hsp
      rw [hu, if_pos ⟨h0.1, h0.2, hlt⟩]
      refine ⟨?_, ?_⟩
      · show (cosU T b i).2 + 1 = ((List.range i).filter (selB B) ++ [i]).length
        rw [List.length_append, List.length_singleton, ih1]
      · show hoC (addS (cosU T b i).1 b i (cosU T b i).2) 105 _ _ _ ((List.range i).filter (selB B) ++ [i])
        have e104 : (cosU T b i).1.1 104 = T.1 104 := cosU_n (by omega)
        have esg : sgS (cosU T b i).1 b = sgS T b := by
          funext j
          unfold sgS
          rw [cosU_n (by omega), cosU_n (by omega)]
        have hr1 := hr i (by omega)
        have hc1 := hc i (by omega)
        rw [hsp.1] at hr1 hc1
        have hm1 := hcd i (by omega)
        rw [hsp.1] at hm1
        rw [ih1]
        unfold addS
        rw [esg, e104, hr1, hc1, hm1]
        refine hoC_add ih2 (fun j hj => ?_) ?_
        · refine ⟨?_, ?_, ?_, ?_⟩
          · rw [mupd_n (by decide), mupd_n (by decide), mupd_n (by decide), mupd_n (by decide), mupd_sn hj]
          · rw [mupd_n (by decide), mupd_n (by decide), mupd_n (by decide), mupd_sn hj, mupd_n (by decide)]
          · rw [mupd_n (by decide), mupd_n (by decide), mupd_sn hj, mupd_n (by decide), mupd_n (by decide)]
          · rw [mupd_n (by decide), mupd_sn hj, mupd_n (by decide), mupd_n (by decide), mupd_n (by decide)]
        · refine ⟨?_, ?_, ?_, ?_⟩
          · rw [mupd_n (by decide), mupd_n (by decide), mupd_n (by decide), mupd_n (by decide), mupd_ss]; rfl
          · rw [mupd_n (by decide), mupd_n (by decide), mupd_n (by decide), mupd_ss]; rfl
          · rw [mupd_n (by decide), mupd_n (by decide), mupd_ss]; rfl
          · rw [mupd_n (by decide), mupd_ss]
theorem cls_ct {A B : mS} {b : Nat} (hb : b + 12 < 99) (hI : EQ A b B) : (ctP A b 48).2 = (ctL B).length ∧ hoC (ctP A b 48).1 105 (rrB B) (ccB B) (mmB B) (ctL B) := by
  have hcd : ∀ c, c < 48 → (mset (regS A b 48) 104 (canI (regS A b 48) b (flS A b 48) 48)).1 104 c = if pkB B c then lcM B c 48 else 0 := fun c hc => by
    rw [mset_s]
    show (if c < 48 then canS (regS A b 48) b (flS A b 48) c else _) = _
    rw [if_pos hc]
    exact can_eq (by omega) hI hc
  have hsg : sgS (mset (regS A b 48) 104 (canI (regS A b 48) b (flS A b 48) 48)) b = sgS A b := by
    funext j
    unfold sgS
    rw [mset_n (by omega), mset_n (by omega), regSn (by omega), regSn (by omega)]
  have h := cos_L (T := mset (regS A b 48) 104 (canI (regS A b 48) b (flS A b 48) 48)) (b := b) (rgE hI) (by omega) hcd (fun c hc => ?_) (fun c hc => ?_) 48 (Nat.le_refl _)
  · rw [sel_L] at h
    exact h
  · cases hp : pkB B c with
    | false => rfl
    | true =>
      rw [hcd c hc, hp, hsg, wr_eq hI hc]
      rfl
  · cases hp : pkB B c with
    | false => rfl
    | true =>
      rw [hcd c hc, hp, hsg, wc_eq hI hc]
      rfl
theorem lc_cg {S T : mS} (h : T.1 131 = S.1 131) {c : Nat} : lcM T c 48 = lcM S c 48 ∧ lcD T c 48 = lcD S c 48 ∧ lcO T c 48 = lcO S c 48 := by
  have e : lcs T c = lcs S c := by
    funext k
    unfold lcs sgR
    rw [h]
  have h1 : ∀ i, lcM T c i = lcM S c i := fun i => by
    induction i with
    | zero => rfl
    | succ i ih => show lcM T c i + lcs T c i = lcM S c i + lcs S c i; rw [ih, e]
  have h2 : ∀ i, lcD T c i = lcD S c i := fun i => by
    induction i with
    | zero => rfl
    | succ i ih => show lcD T c i + lcs T c i * nI (i / 6) = lcD S c i + lcs S c i * nI (i / 6); rw [ih, e]
  have h3 : ∀ i, lcO T c i = lcO S c i := fun i => by
    induction i with
    | zero => rfl
    | succ i ih => show lcO T c i + lcs T c i * nI (i % 6) = lcO S c i + lcs S c i * nI (i % 6); rw [ih, e]
  exact ⟨h1 48, h2 48, h3 48⟩
theorem fcN_L {B : mS} : ∀ i, fcN (frD B) i = (pkL B i).length
  | 0 => rfl
  | i + 1 => by
    have ih := fcN_L (B := B) i
    unfold pkL at ih ⊢
    rw [range_f]
    show (if pkM (frD B) i 48 = true then fcN (frD B) i + 1 else fcN (frD B) i) = _
    rw [ih]
    cases hp : pkB B i with
    | true =>
      rw [if_pos (show pkM (frD B) i 48 = true from hp)]
      show _ = ((List.range i).filter (pkB B) ++ [i]).length
      rw [List.length_append, List.length_singleton]
    | false =>
      rw [if_neg (show ¬ pkM (frD B) i 48 = true from fun h => by rw [show pkB B i = true from h] at hp; cases hp)]
      rfl
theorem fcT_L {B : mS} : ∀ i, hoC (fcT (frD B) i) 136 (rrB B) (ccB B) (mmB B) (pkL B i)
  | 0 => fun j c h => by cases h
  | i + 1 => by
    have ih := fcT_L (B := B) i
    have hN := fcN_L (B := B) i
    have hT : fcT (frD B) (i + 1) = if pkM (frD B) i 48 then layS (fcT (frD B) i) i (fcN (frD B) i) else fcT (frD B) i := rfl
    have hP : pkL B (i + 1) = if pkB B i then pkL B i ++ [i] else pkL B i := range_f
    rw [hT, hP]
    cases hp : pkB B i with
    | false =>
      rw [if_neg (show ¬ pkM (frD B) i 48 = true from fun h => by rw [show pkB B i = true from h] at hp; cases hp)]
      exact ih
    | true =>
      rw [if_pos (show pkM (frD B) i 48 = true from hp), hN]
      have e131 : (fcT (frD B) i).1 131 = B.1 131 := (fcT_n (by omega) i).trans (frD_n (by omega))
      obtain ⟨l1, l2, l3⟩ := lc_cg e131 (c := i)
      show hoC (layS (fcT (frD B) i) i (pkL B i).length) 136 _ _ _ (pkL B i ++ [i])
      unfold layS
      rw [l1, l2, l3]
      refine hoC_add ih (fun j hj => ?_) ?_
      · refine ⟨?_, ?_, ?_, ?_⟩
        · rw [mupd_n (by decide), mupd_n (by decide), mupd_n (by decide), mupd_n (by decide), mupd_sn hj]
        · rw [mupd_n (by decide), mupd_n (by decide), mupd_n (by decide), mupd_sn hj, mupd_n (by decide)]
        · rw [mupd_n (by decide), mupd_n (by decide), mupd_sn hj, mupd_n (by decide), mupd_n (by decide)]
        · rw [mupd_n (by decide), mupd_sn hj, mupd_n (by decide), mupd_n (by decide), mupd_n (by decide)]
      · refine ⟨?_, ?_, ?_, ?_⟩
        · rw [mupd_n (by decide), mupd_n (by decide), mupd_n (by decide), mupd_n (by decide), mupd_ss]; rfl
        · rw [mupd_n (by decide), mupd_n (by decide), mupd_n (by decide), mupd_ss]; rfl
        · rw [mupd_n (by decide), mupd_n (by decide), mupd_ss]; rfl
        · rw [mupd_n (by decide), mupd_ss]
theorem goN_cg {f g : Nat → Int32} : ∀ {n : Nat}, (∀ j, j < n → f j = g j) → goN f n = goN g n
  | 0, _ => rfl
  | n + 1, h => by
    have ih := goN_cg (n := n) fun j hj => h j (by omega)
    show (if f n ≤ f (goN f n) then n else goN f n) = (if g n ≤ g (goN g n) then n else goN g n)
    rcases Nat.eq_zero_or_pos n with h0 | h0
    · subst h0
      have e1 : goN f 0 = 0 := rfl
      have e2 : goN g 0 = 0 := rfl
      rw [e1, e2, h 0 (by omega)]
    · rw [ih, h n (by omega), h (goN g n) (by have := (goN_spec (f := g) h0).1; omega)]
theorem drp_L {T : mS} {RR CC MM : Nat → Int32} {L : List Nat} {k : Nat} (h : hoC T 136 RR CC MM L) (hk : L.length = k + 1) : hoC (drpS T k) 136 RR CC MM (L.eraseIdx (goN (fun j => MM (L.getD j 0)) (k + 1))) := by
  have e : goN (T.1 138) (k + 1) = goN (fun j => MM (L.getD j 0)) (k + 1) := goN_cg fun j hj => by
    have hj2 : L[j]? = some (L.getD j 0) := by
      rw [List.getD_eq_getElem?_getD, List.getElem?_eq_getElem (by omega)]
      rfl
    exact (h j _ hj2).2.2.1
  unfold drpS
  rw [e]
  generalize goN (fun j => MM (L.getD j 0)) (k + 1) = g
  intro j c hj
  have hjl : j < (L.eraseIdx g).length := (List.getElem?_eq_some_iff.mp hj).1
  rw [List.getElem?_eraseIdx] at hj
  have key : ∀ f : Nat → Int32, dpR f g k j = if j < g then f j else f (j + 1) := fun f => by
    unfold dpR
    by_cases hjg : j < g
    · rw [if_pos hjg, if_neg (by omega)]
    · rw [if_neg hjg, if_pos]
      rw [if_neg hjg] at hj
      have := (List.getElem?_eq_some_iff.mp hj).1
      omega
  unfold drpT
  have r1 : (mset (mset (mset (mset (mupd T 130 17 (nI k)) 136 (dpR (T.1 136) g k)) 137 (dpR (T.1 137) g k)) 138 (dpR (T.1 138) g k)) 139 (dpR (T.1 139) g k)).1 136 = dpR (T.1 136) g k := by
    rw [mset_n (by decide), mset_n (by decide), mset_n (by decide), mset_s]
  have r2 : (mset (mset (mset (mset (mupd T 130 17 (nI k)) 136 (dpR (T.1 136) g k)) 137 (dpR (T.1 137) g k)) 138 (dpR (T.1 138) g k)) 139 (dpR (T.1 139) g k)).1 (136 + 1) = dpR (T.1 137) g k := by
    rw [mset_n (by decide), mset_n (by decide)]
    exact mset_s
  have r3 : (mset (mset (mset (mset (mupd T 130 17 (nI k)) 136 (dpR (T.1 136) g k)) 137 (dpR (T.1 137) g k)) 138 (dpR (T.1 138) g k)) 139 (dpR (T.1 139) g k)).1 (136 + 2) = dpR (T.1 138) g k := by
    rw [mset_n (by decide)]
    exact mset_s
  have r4 : (mset (mset (mset (mset (mupd T 130 17 (nI k)) 136 (dpR (T.1 136) g k)) 137 (dpR (T.1 137) g k)) 138 (dpR (T.1 138) g k)) 139 (dpR (T.1 139) g k)).1 (136 + 3) = dpR (T.1 139) g k := mset_s
  rw [r1, r2, r3, r4, key, key, key, key]
  by_cases hjg : j < g
  · rw [if_pos hjg] at hj
    rw [if_pos hjg, if_pos hjg, if_pos hjg, if_pos hjg]
    exact h j c hj
  · rw [if_neg hjg] at hj
    rw [if_neg hjg, if_neg hjg, if_neg hjg, if_neg hjg]
    exact h (j + 1) c hj
theorem fds_L {RR CC MM : Nat → Int32} : ∀ {m : Nat} {T : mS} {L : List Nat}, hoC T 136 RR CC MM L → L.length = m → hoC (fdS m T) 136 RR CC MM (drL MM m L)
  | 0, T, L, h, _ => h
  | k + 1, T, L, h, hk => by
    show hoC (if k + 1 ≤ 6 then T else fdS k (drpS T k)) 136 RR CC MM (if k + 1 ≤ 6 then L else _)
    by_cases h6 : k + 1 ≤ 6
    · rw [if_pos h6, if_pos h6]; exact h
    · rw [if_neg h6, if_neg h6]
      refine fds_L (drp_L h hk) ?_
      have := (goN_spec (f := fun j => MM (L.getD j 0)) (n := k + 1) (by omega)).1
      rw [List.length_eraseIdx_of_lt (by omega)]
      omega
theorem ref_ct {B : mS} : (fcE (frD B)).1 130 17 = nI (ctL B).length ∧ hoC (fcE (frD B)) 136 (rrB B) (ccB B) (mmB B) (ctL B) := by
  refine ⟨?_, ?_⟩
  · rw [fcE_c, fcN_L]
    have := (drL_eq (m := fun c => lcM B c 48) (k := (pkL B 48).length) (L := pkL B 48) rfl srt_range).2
    unfold ctL
    rw [this]
  · unfold fcE
    rw [fcN_L]
    exact fds_L (fcT_L 48) rfl
theorem fcE_RW {B : mS} : RW B (fcE (frD (mupd B 130 0 0))) := by
  obtain ⟨h1, h2, h3, h4⟩ := frD_RW (B := B) (x := 0)
  exact ⟨(fcE_n (by omega)).trans h1, (fcE_n (by omega)).trans h2, (fcE_130 (by decide)).trans h3, (fcE_130 (by decide)).trans h4⟩
theorem fcE_lo {B : mS} {q : Nat} (hq : q < 130) : (fcE (frD (mupd B 130 0 0))).1 q = B.1 q := (fcE_n (by omega)).trans ((frD_n (by omega)).trans (mupd_n (by omega)))
theorem fcE_0 {B : mS} : (fcE (frD (mupd B 130 0 0))).1 130 0 = 0 := (fcE_130 (by decide)).trans ((congrFun (frD_n (by omega)) 0).trans mupd_ss)
theorem ctP_CW {A : mS} {b k : Nat} : CW A (ctP A b k).1 := ⟨fun q h1 _ => ctP_n (by omega), ctP_n (by omega), ctP_n (by omega), by
  unfold ctP
  rw [ctP_2 (k := k)]
  rfl⟩

