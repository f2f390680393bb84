/-- giving the contacts out, track by track -/
def asP (S : mS) (tk t c : Nat) : Bool := ctB (S.1 (111 + t)) tk c && decide (S.1 (111 + t) c + S.1 (119 + (t + 1)) (tk ||| 1 <<< c) = S.1 (119 + t) tk)
def tkA (S : mS) (k : Nat) : Nat → Nat
  | 0 => 0
  | t + 1 => match fbN (asP S (tkA S k t) t) k with
    | some c => tkA S k t ||| 1 <<< c
    | none => tkA S k t
def asA (S : mS) (k t : Nat) : Option Nat := fbN (asP S (tkA S k t) t) k
def asgT (S : mS) (k t : Nat) : mS := mset (mupd S 109 4 (nI (tkA S k t))) 126 (fun j => if j < t then oI (asA S k j) else S.1 126 j)
theorem tkA_lt {S : mS} {k : Nat} (hk6 : k ≤ 6) : ∀ t, tkA S k t < 64
  | 0 => Nat.zero_lt_succ _
  | t + 1 => by
    unfold tkA
    cases h : fbN (asP S (tkA S k t) t) k with
    | none => exact tkA_lt hk6 t
    | some c => exact (or6 _ (tkA_lt hk6 t) c (by have := (fbN_lt h).1; omega)).2
section C22
variable {l : Launch} {D : va_G} {n0 : Nat} {ft : tv_ft} {n : Nat} {S : mS} {b : Nat}
theorem iX3_assign_X3 : ∀ w ∈ wsX30, w ∈ wsX3_assign := by decide +kernel
theorem kX3_assign_23 : Cond.fieldLink RX3 23 (TX3 3).1 (TX3 3).2.1 (TX3 3).2.2.1 ∈ wsX3_assign := by decide +kernel
theorem kX3_assign_77 : Cond.fieldLink RX3 77 (TX3 4).1 (TX3 4).2.1 (TX3 4).2.2.1 ∈ wsX3_assign := by decide +kernel
theorem cX3_assign_ok {k : Nat} (hk : S.1 109 5 = nI k) (hk6 : k ≤ 6) : mMv l yX3_assign wsX3_assign rmX3_assign D n0 ft [.ref (n0 + 109)] n S (fun S' => S' = asgT S k 6) := by
  refine tv_enter (cc := cX3_assign) (maxL := 2) (ret := none) (by decide) rfl (Nat.le_of_ble_eq_true rfl) ?_
  intro p e s m args below meth c X hrt hnm hargs
  refine tv_aload_n X dX3_assign_0 rfl ?_
  refine tv_iconst (v := 0) X dX3_assign_1 (by decide) ?_
  refine mm_put X dX3_assign_2 gX3 iX3_assign_X3 rfl tyX3 tyX3_ok nmX3 4 (by decide) kX3_assign_77 rfl rfl rfl (Nat.le_of_ble_eq_true rfl) rfl ?_
  refine tv_iconst (v := 0) X dX3_assign_5 (by decide) ?_
  refine tv_istore_n X dX3_assign_6 rfl ?_
  refine mm_st (S' := asgT S k 0) ?_ ?_
  · unfold asgT
    rw [show (fun j => if j < 0 then oI (asA S k j) else S.1 126 j) = (mupd S 109 4 (nI (tkA S k 0))).1 126 from ?_]
    · exact mset_self.symm
    · rw [mupd_n (by decide)]
      exact funext fun j => if_neg (Nat.not_lt_zero j)
  refine mm_for 6 (fun i => [(0, .ref (n0 + 109)), (1, .int (nI i))]) (fun i => asgT S k i) ?_ ?_
  · intro t ht ih
    dsimp only at ih
    have r4 : (asgT S k t).1 109 4 = nI (tkA S k t) := by
      unfold asgT
      rw [mset_n (by decide), mupd_ss]
    have r5 : (asgT S k t).1 109 5 = nI k := by
      unfold asgT
      rw [mset_n (by decide), mupd_sn (by decide)]; exact hk
    have rq : ∀ q, q ≠ 109 → q ≠ 126 → (asgT S k t).1 q = S.1 q := fun q h1 h2 => by
      unfold asgT
      rw [mset_n h2, mupd_n h1]
    refine tv_iload_n X dX3_assign_7 rfl ?_
    refine tv_bipush (v := 6) X dX3_assign_8 (by decide) ?_
    refine tv_icmp_ge (tgt := 61) X dX3_assign_10 (by decide) (fun h1 => ?_) (fun h1 => ?_)
    · exact absurd h1 (nI_ge (a := t) (b := 6) ht (by decide))
    refine tv_aload_n X dX3_assign_13 rfl ?_
    refine mm_getf X dX3_assign_14 gX3 iX3_assign_X3 rfl 3 (by decide) kX3_assign_23 rfl ?_
    refine tv_iload_n X dX3_assign_17 rfl ?_
    refine tv_aload_n X dX3_assign_18 rfl ?_
    refine tv_iload_n X dX3_assign_19 rfl ?_
    refine tv_aload_n X dX3_assign_20 rfl ?_
    refine mm_getf X dX3_assign_21 gX3 iX3_assign_X3 rfl 4 (by decide) kX3_assign_77 rfl ?_
    rw [r4]
    refine mm_callVi (q := (RX3, TX3, 6)) X dX3_assign_24 (cX3_firstBest_ok ht (tkA_lt hk6 t) r5 hk6) (cwV 2 X.2.2.2.2.1 gX3_assign_X3_firstBest rfl rfl rfl (by decide +kernel) ⟨Nat.le_of_ble_eq_true rfl, Nat.le_of_ble_eq_true rfl⟩) rfl rfl gX3 rfl (Nat.le_of_ble_eq_true rfl) ⟨Nat.zero_le _, Nat.zero_le _⟩ (fun r S1 hq => ?_)
    obtain ⟨hq1, hq2⟩ := hq
    rw [rq (111 + t) (by omega) (by omega), rq (119 + (t + 1)) (by omega) (by omega), rq (119 + t) (by omega) (by omega)] at hq2
    rw [hq1, show r = oI (asA S k t) from hq2]
    clear hq1 hq2 r S1
    refine mm_iast X dX3_assign_27 g126 t rfl ht (by decide) ?_
    refine tv_aload_n X dX3_assign_28 rfl ?_
    refine mm_getf X dX3_assign_29 gX3 iX3_assign_X3 rfl 3 (by decide) kX3_assign_23 rfl ?_
    refine tv_iload_n X dX3_assign_32 rfl ?_
    refine mm_iald X dX3_assign_33 g126 t rfl ht (by decide) ?_
    rw [mupd_ss]
    refine tv_iconst (v := -1) X dX3_assign_34 (by decide) ?_
    have hT1 : mupd (asgT S k t) 126 t (oI (asA S k t)) = mset (mupd S 109 4 (nI (tkA S k t))) 126 (fun j => if j < t + 1 then oI (asA S k j) else S.1 126 j) := by
      show mset (mset _ _ _) _ (upd ((mset _ _ _).1 _) _ _) = _
      rw [mset_mset, mset_s]
      refine congrArg (mset _ 126) (funext fun j => ?_)
      show (if j = t then oI (asA S k t) else if j < t then oI (asA S k j) else S.1 126 j) = if j < t + 1 then oI (asA S k j) else S.1 126 j
      by_cases e1 : j = t
      · subst e1; rw [if_pos rfl, if_pos (Nat.lt_succ_self j)]
      · rw [if_neg e1]
        by_cases e2 : j < t
        · rw [if_pos e2, if_pos (Nat.lt_succ_of_lt e2)]
        · rw [if_neg e2, if_neg (by omega)]
    rw [hT1]
    cases has : asA S k t with
    | none =>
      have htk : tkA S k (t + 1) = tkA S k t := by
        show (match fbN (asP S (tkA S k t) t) k with | some c => _ | none => _) = _
        rw [show fbN (asP S (tkA S k t) t) k = none from has]
      refine tv_icmp_eq (tgt := 55) X dX3_assign_35 (by decide) (fun h2 => ?_) (fun h2 => ?_)
      · refine tv_iinc X dX3_assign_55 rfl (nI_1 t) rfl ?_
        refine tv_goto (tgt := 7) X dX3_assign_58 (by decide) ?_
        have : asgT S k (t + 1) = mset (mupd S 109 4 (nI (tkA S k t))) 126 (fun j => if j < t + 1 then oI (asA S k j) else S.1 126 j) := by
          unfold asgT; rw [htk]
        rw [this] at ih
        exact ih
      · exact absurd rfl h2
    | some c1 =>
      have hc1 : c1 < 6 := by have := (fbN_lt has).1; omega
      have htk : tkA S k (t + 1) = tkA S k t ||| 1 <<< c1 := by
        show (match fbN (asP S (tkA S k t) t) k with | some c => _ | none => _) = _
        rw [show fbN (asP S (tkA S k t) t) k = some c1 from has]
      refine tv_icmp_eq (tgt := 55) X dX3_assign_35 (by decide) (fun h2 => ?_) (fun h2 => ?_)
      · exact absurd h2 (by show ¬ nI c1 = -1; intro h; exact nI_pos (n := c1) (by omega) (by rw [h]; decide))
      refine tv_aload_n X dX3_assign_38 rfl ?_
      refine tv_dup X dX3_assign_39 rfl ?_
      refine mm_getf X dX3_assign_40 gX3 iX3_assign_X3 rfl 4 (by decide) kX3_assign_77 rfl ?_
      refine tv_iconst (v := 1) X dX3_assign_43 (by decide) ?_
      refine tv_aload_n X dX3_assign_44 rfl ?_
      refine mm_getf X dX3_assign_45 gX3 iX3_assign_X3 rfl 3 (by decide) kX3_assign_23 rfl ?_
      refine tv_iload_n X dX3_assign_48 rfl ?_
      refine mm_iald X dX3_assign_49 g126 t rfl ht (by decide) ?_
      have e1 : (mset (mupd S 109 4 (nI (tkA S k t))) 126 (fun j => if j < t + 1 then oI (asA S k j) else S.1 126 j)).1 126 t = nI c1 := by
        rw [mset_s]
        show (if t < t + 1 then oI (asA S k t) else _) = _
        rw [if_pos (Nat.lt_succ_self t), has]; rfl
      have e2 : (mset (mupd S 109 4 (nI (tkA S k t))) 126 (fun j => if j < t + 1 then oI (asA S k j) else S.1 126 j)).1 109 4 = nI (tkA S k t) := by
        rw [mset_n (by decide), mupd_ss]
      rw [e1, e2]
      refine tv_ishl X dX3_assign_50 ?_
      refine tv_ior X dX3_assign_51 ?_
      rw [(or6 _ (tkA_lt hk6 t) c1 hc1).1]
      refine mm_put X dX3_assign_52 gX3 iX3_assign_X3 rfl tyX3 tyX3_ok nmX3 4 (by decide) kX3_assign_77 rfl rfl rfl (Nat.le_of_ble_eq_true rfl) rfl ?_
      refine tv_iinc X dX3_assign_55 rfl (nI_1 t) rfl ?_
      refine tv_goto (tgt := 7) X dX3_assign_58 (by decide) ?_
      refine mm_st ?_ ih
      unfold asgT
      rw [htk]
      show mset (mset (mupd S 109 4 _) 126 _) 109 (upd ((mset (mupd S 109 4 _) 126 _).1 109) 4 _) = _
      rw [mset_n (q := 109) (k := 126) (by decide), mset_comm (k := 126) (q := 109) (by decide)]
      refine congrArg (fun z => mset z 126 _) ?_
      show mset (mset _ _ _) _ (upd ((mset _ _ _).1 _) _ _) = mset _ _ _
      rw [mset_mset, mset_s]
      refine congrArg (mset S 109) (funext fun j => ?_)
      unfold upd
      by_cases e3 : j = 4
      · subst e3; simp
      · simp [e3]
  · refine tv_iload_n X dX3_assign_7 rfl ?_
    refine tv_bipush (v := 6) X dX3_assign_8 (by decide) ?_
    refine tv_icmp_ge (tgt := 61) X dX3_assign_10 (by decide) (fun h1 => ?_) (fun h1 => ?_)
    · exact tv_vret X hrt dX3_assign_61 ⟨_, rfl, rfl⟩
    · exact absurd (nI_le (Nat.le_refl 6) (by decide)) h1
theorem iX3_find_X1 : ∀ w ∈ wsX10, w ∈ wsX3_find := by decide +kernel
theorem iX3_find_X3 : ∀ w ∈ wsX30, w ∈ wsX3_find := by decide +kernel
theorem iX3_find_X6 : ∀ w ∈ wsX60, w ∈ wsX3_find := by decide +kernel
theorem iX3_find_X8 : ∀ w ∈ wsX80, w ∈ wsX3_find := by decide +kernel
theorem kX3_find_11 : Cond.fieldLink RX3 11 (TX3 0).1 (TX3 0).2.1 (TX3 0).2.2.1 ∈ wsX3_find := by decide +kernel
theorem kX3_find_16 : Cond.fieldLink RX3 16 (TX3 1).1 (TX3 1).2.1 (TX3 1).2.2.1 ∈ wsX3_find := by decide +kernel
theorem kX3_find_20 : Cond.fieldLink RX3 20 (TX3 2).1 (TX3 2).2.1 (TX3 2).2.2.1 ∈ wsX3_find := by decide +kernel
theorem kX3_find_32 : Cond.fieldLink RX3 32 (TX3 5).1 (TX3 5).2.1 (TX3 5).2.2.1 ∈ wsX3_find := by decide +kernel
def ncS (S : mS) (b : Nat) (lim : Int32) (t : Nat) : Int32 := if S.1 (b + 6 + t) 0 = 0 then 0 else lim
/-- the rows of costs, so far -/
def fqS (S : mS) (b k : Nat) (lim : Int32) (t u i : Nat) : mS := (fun q => if q = 117 then (fun j => if j < u then ncS S b lim j else S.1 117 j) else if 111 ≤ q ∧ q < 117 then (fun c => if (q - 111 < t ∧ c < k) ∨ (q - 111 = t ∧ c < i) then pcS S b lim (q - 111) c else S.1 q c) else S.1 q, S.2)
theorem fqS_n {S : mS} {b k t u i q : Nat} {lim : Int32} (h : q < 111 ∨ 117 < q) : (fqS S b k lim t u i).1 q = S.1 q := by
  show (if q = 117 then _ else if 111 ≤ q ∧ q < 117 then _ else S.1 q) = _
  rw [if_neg (by omega), if_neg (by omega)]
theorem fqS_u {S : mS} {b k t i : Nat} {lim : Int32} : mupd (fqS S b k lim t t i) 117 t (ncS S b lim t) = fqS S b k lim t (t + 1) i := by
  refine mS_ext (fun q => ?_) rfl
  show (if q = 117 then upd ((fqS S b k lim t t i).1 117) t _ else (fqS S b k lim t t i).1 q) = (fqS S b k lim t (t + 1) i).1 q
  by_cases h : q = 117
  · subst h
    rw [if_pos rfl]
    funext j
    show (if j = t then ncS S b lim t else if j < t then ncS S b lim j else S.1 117 j) = if j < t + 1 then ncS S b lim j else S.1 117 j
    by_cases e1 : j = t
    · subst e1; rw [if_pos rfl, if_pos (Nat.lt_succ_self j)]
    · rw [if_neg e1]
      by_cases e2 : j < t
      · rw [if_pos e2, if_pos (Nat.lt_succ_of_lt e2)]
      · rw [if_neg e2, if_neg (by omega)]
  · rw [if_neg h]
    show (if q = 117 then _ else _) = (if q = 117 then _ else _)
    rw [if_neg h, if_neg h]
theorem fqS_p {S : mS} {b k t u i t1 : Nat} {lim : Int32} (h1 : t1 < 6) : (fqS S b k lim t u i).1 (111 + t1) = fun c => if (t1 < t ∧ c < k) ∨ (t1 = t ∧ c < i) then pcS S b lim t1 c else S.1 (111 + t1) c := by
  have h2 : ¬ 111 + t1 = 117 := by omega
  have h3 : 111 ≤ 111 + t1 ∧ 111 + t1 < 117 := by omega
  show (if 111 + t1 = 117 then _ else if 111 ≤ 111 + t1 ∧ 111 + t1 < 117 then (fun c => if (111 + t1 - 111 < t ∧ c < k) ∨ (111 + t1 - 111 = t ∧ c < i) then pcS S b lim (111 + t1 - 111) c else S.1 (111 + t1) c) else _) = _
  rw [if_neg h2, if_pos h3, show 111 + t1 - 111 = t1 by omega]
theorem fqS_o {S : mS} {b k t u i j q : Nat} {lim : Int32} (h : q ≠ 111 + t) : (fqS S b k lim t u i).1 q = (fqS S b k lim t u j).1 q := by
  show (if q = 117 then _ else if 111 ≤ q ∧ q < 117 then (fun c => if (q - 111 < t ∧ c < k) ∨ (q - 111 = t ∧ c < i) then pcS S b lim (q - 111) c else S.1 q c) else S.1 q) = (if q = 117 then _ else if 111 ≤ q ∧ q < 117 then (fun c => if (q - 111 < t ∧ c < k) ∨ (q - 111 = t ∧ c < j) then pcS S b lim (q - 111) c else S.1 q c) else S.1 q)
  by_cases h2 : q = 117
  · rw [if_pos h2, if_pos h2]
  · rw [if_neg h2, if_neg h2]
    by_cases h3 : 111 ≤ q ∧ q < 117
    · rw [if_pos h3, if_pos h3]
      funext c
      have h4 : ¬ q - 111 = t := by omega
      simp [h4]
    · rw [if_neg h3, if_neg h3]
theorem fqS_i {S : mS} {b k t u i : Nat} {lim : Int32} (ht : t < 6) : mupd (fqS S b k lim t u i) (111 + t) i (pcS S b lim t i) = fqS S b k lim t u (i + 1) := by
  refine mS_ext (fun q => ?_) rfl
  show (if q = 111 + t then upd ((fqS S b k lim t u i).1 (111 + t)) i _ else (fqS S b k lim t u i).1 q) = (fqS S b k lim t u (i + 1)).1 q
  by_cases h : q = 111 + t
  · subst h
    rw [if_pos rfl, fqS_p ht, fqS_p ht]
    funext c
    show (if c = i then pcS S b lim t i else if (t < t ∧ c < k) ∨ (t = t ∧ c < i) then pcS S b lim t c else S.1 (111 + t) c) = if (t < t ∧ c < k) ∨ (t = t ∧ c < i + 1) then pcS S b lim t c else S.1 (111 + t) c
    by_cases e1 : c = i
    · subst e1; rw [if_pos rfl, if_pos (Or.inr ⟨rfl, Nat.lt_succ_self c⟩)]
    · rw [if_neg e1]
      by_cases e2 : c < i
      · rw [if_pos (Or.inr ⟨rfl, e2⟩), if_pos (Or.inr ⟨rfl, Nat.lt_succ_of_lt e2⟩)]
      · have e3 : ¬ ((t < t ∧ c < k) ∨ (t = t ∧ c < i)) := by omega
        have e4 : ¬ ((t < t ∧ c < k) ∨ (t = t ∧ c < i + 1)) := by omega
        rw [if_neg e3, if_neg e4]
  · rw [if_neg h]
    exact fqS_o h
theorem fqS_t {S : mS} {b k t u : Nat} {lim : Int32} : fqS S b k lim t u k = fqS S b k lim (t + 1) u 0 := by
  refine mS_ext (fun q => ?_) rfl
  show (if q = 117 then _ else if 111 ≤ q ∧ q < 117 then (fun c => if (q - 111 < t ∧ c < k) ∨ (q - 111 = t ∧ c < k) then pcS S b lim (q - 111) c else S.1 q c) else S.1 q) = (if q = 117 then _ else if 111 ≤ q ∧ q < 117 then (fun c => if (q - 111 < t + 1 ∧ c < k) ∨ (q - 111 = t + 1 ∧ c < 0) then pcS S b lim (q - 111) c else S.1 q c) else S.1 q)
  by_cases h2 : q = 117
  · rw [if_pos h2, if_pos h2]
  · rw [if_neg h2, if_neg h2]
    by_cases h3 : 111 ≤ q ∧ q < 117
    · rw [if_pos h3, if_pos h3]
      funext c
      by_cases h4 : (q - 111 < t ∧ c < k) ∨ (q - 111 = t ∧ c < k)
      · rw [if_pos h4, if_pos (by omega)]
      · rw [if_neg h4, if_neg (by omega)]
    · rw [if_neg h3, if_neg h3]
/-- the rows of least costs, from the last track -/
def lsR (S : mS) (k : Nat) : Nat → Nat → Int32
  | 0 => S.1 125
  | d + 1 => fun s => if s < 2 ^ k then lcF (S.1 (111 + (5 - d))) (lsR S k d) s (S.1 117 (5 - d) + lsR S k d s) k else S.1 (119 + (5 - d)) s
/-- d tracks done, and i sets of the next -/
def gqS (S : mS) (k d i : Nat) : mS := (fun q => if 119 ≤ q ∧ q ≤ 124 then (if 125 - q ≤ d then lsR S k (125 - q) else if 125 - q = d + 1 then (fun s => if s < i then lsR S k (d + 1) s else S.1 q s) else S.1 q) else S.1 q, S.2)
theorem gqS_n {S : mS} {k d i q : Nat} (h : q < 119 ∨ 124 < q) : (gqS S k d i).1 q = S.1 q := by
  show (if 119 ≤ q ∧ q ≤ 124 then _ else S.1 q) = _
  rw [if_neg (by omega)]
theorem gqS_r {S : mS} {k d i : Nat} (hd : d ≤ 5) : (gqS S k d i).1 (119 + (5 - d + 1)) = lsR S k d := by
  show (if 119 ≤ 119 + (5 - d + 1) ∧ 119 + (5 - d + 1) ≤ 124 then (if 125 - (119 + (5 - d + 1)) ≤ d then lsR S k (125 - (119 + (5 - d + 1))) else _) else S.1 (119 + (5 - d + 1))) = _
  by_cases h0 : d = 0
  · subst h0
    rw [if_neg (by omega)]; rfl
  · rw [if_pos (by omega), if_pos (by omega), show 125 - (119 + (5 - d + 1)) = d by omega]
theorem gqS_p {S : mS} {k d i : Nat} (hd : d ≤ 5) : (gqS S k d i).1 (119 + (5 - d)) = fun s => if s < i then lsR S k (d + 1) s else S.1 (119 + (5 - d)) s := by
  have h1 : 119 ≤ 119 + (5 - d) ∧ 119 + (5 - d) ≤ 124 := by omega
  have h2 : ¬ 125 - (119 + (5 - d)) ≤ d := by omega
  have h3 : 125 - (119 + (5 - d)) = d + 1 := by omega
  show (if 119 ≤ 119 + (5 - d) ∧ 119 + (5 - d) ≤ 124 then (if 125 - (119 + (5 - d)) ≤ d then _ else if 125 - (119 + (5 - d)) = d + 1 then (fun s => if s < i then lsR S k (d + 1) s else S.1 (119 + (5 - d)) s) else S.1 (119 + (5 - d))) else S.1 (119 + (5 - d))) = _
  rw [if_pos h1, if_neg h2, if_pos h3]
theorem gqS_i {S : mS} {k d i : Nat} (hd : d ≤ 5) : mupd (gqS S k d i) (119 + (5 - d)) i (lsR S k (d + 1) i) = gqS S k d (i + 1) := by
  refine mS_ext (fun q => ?_) rfl
  show (if q = 119 + (5 - d) then upd ((gqS S k d i).1 (119 + (5 - d))) i _ else (gqS S k d i).1 q) = (gqS S k d (i + 1)).1 q
  by_cases h : q = 119 + (5 - d)
  · rw [if_pos h, h, gqS_p hd, gqS_p hd]
    funext s
    show (if s = i then lsR S k (d + 1) i else if s < i then lsR S k (d + 1) s else S.1 (119 + (5 - d)) s) = if s < i + 1 then lsR S k (d + 1) s else S.1 (119 + (5 - d)) s
    by_cases e1 : s = i
    · subst e1; rw [if_pos rfl, if_pos (Nat.lt_succ_self s)]
    · rw [if_neg e1]
      by_cases e2 : s < i
      · rw [if_pos e2, if_pos (Nat.lt_succ_of_lt e2)]
      · rw [if_neg e2, if_neg (by omega)]
  · rw [if_neg h]
    show (if 119 ≤ q ∧ q ≤ 124 then (if 125 - q ≤ d then lsR S k (125 - q) else if 125 - q = d + 1 then (fun s => if s < i then lsR S k (d + 1) s else S.1 q s) else S.1 q) else S.1 q) = (if 119 ≤ q ∧ q ≤ 124 then (if 125 - q ≤ d then lsR S k (125 - q) else if 125 - q = d + 1 then (fun s => if s < i + 1 then lsR S k (d + 1) s else S.1 q s) else S.1 q) else S.1 q)
    by_cases h1 : 119 ≤ q ∧ q ≤ 124
    · rw [if_pos h1, if_pos h1]
      by_cases h2 : 125 - q ≤ d
      · rw [if_pos h2, if_pos h2]
      · have h3 : ¬ 125 - q = d + 1 := by omega
        rw [if_neg h2, if_neg h2, if_neg h3, if_neg h3]
    · rw [if_neg h1, if_neg h1]
theorem gqS_d {S : mS} {k d : Nat} (hd : d ≤ 5) : gqS S k d (2 ^ k) = gqS S k (d + 1) 0 := by
  refine mS_ext (fun q => ?_) rfl
  show (if 119 ≤ q ∧ q ≤ 124 then (if 125 - q ≤ d then lsR S k (125 - q) else if 125 - q = d + 1 then (fun s => if s < 2 ^ k then lsR S k (d + 1) s else S.1 q s) else S.1 q) else S.1 q) = (if 119 ≤ q ∧ q ≤ 124 then (if 125 - q ≤ d + 1 then lsR S k (125 - q) else if 125 - q = d + 1 + 1 then (fun s => if s < 0 then lsR S k (d + 1 + 1) s else S.1 q s) else S.1 q) else S.1 q)
  by_cases h1 : 119 ≤ q ∧ q ≤ 124
  · rw [if_pos h1, if_pos h1]
    by_cases h2 : 125 - q ≤ d
    · rw [if_pos h2, if_pos (by omega)]
    · rw [if_neg h2]
      by_cases h3 : 125 - q = d + 1
      · rw [if_pos h3, if_pos (by omega), h3]
        funext s
        by_cases h4 : s < 2 ^ k
        · rw [if_pos h4]
        · rw [if_neg h4]
          show _ = if s < 2 ^ k then _ else _
          rw [if_neg h4, show q = 119 + (5 - d) by omega]
      · rw [if_neg h3, if_neg (by omega)]
        by_cases h5 : 125 - q = d + 1 + 1
        · rw [if_pos h5]
          exact funext fun s => (if_neg (Nat.not_lt_zero s)).symm
        · rw [if_neg h5]
  · rw [if_neg h1, if_neg h1]
theorem fqS_0 {S : mS} {b k : Nat} {lim : Int32} : fqS S b k lim 0 0 0 = S := by
  refine mS_ext (fun q => ?_) rfl
  show (if q = 117 then (fun j => if j < 0 then ncS S b lim j else S.1 117 j) else if 111 ≤ q ∧ q < 117 then (fun c => if (q - 111 < 0 ∧ c < k) ∨ (q - 111 = 0 ∧ c < 0) then pcS S b lim (q - 111) c else S.1 q c) else S.1 q) = S.1 q
  by_cases h2 : q = 117
  · rw [if_pos h2, h2]
    exact funext fun j => if_neg (Nat.not_lt_zero j)
  · rw [if_neg h2]
    by_cases h3 : 111 ≤ q ∧ q < 117
    · rw [if_pos h3]
      exact funext fun c => if_neg (by omega)
    · rw [if_neg h3]
theorem gqS_0 {S : mS} {k : Nat} : gqS S k 0 0 = S := by
  refine mS_ext (fun q => ?_) rfl
  show (if 119 ≤ q ∧ q ≤ 124 then (if 125 - q ≤ 0 then lsR S k (125 - q) else if 125 - q = 0 + 1 then (fun s => if s < 0 then lsR S k (0 + 1) s else S.1 q s) else S.1 q) else S.1 q) = S.1 q
  by_cases h1 : 119 ≤ q ∧ q ≤ 124
  · rw [if_pos h1, if_neg (by omega)]
    by_cases h3 : 125 - q = 0 + 1
    · rw [if_pos h3]
      exact funext fun s => if_neg (Nat.not_lt_zero s)
    · rw [if_neg h3]
  · rw [if_neg h1]
/-- the picture behind Matching.find -/
def mfA (S : mS) (b k : Nat) : mS := fqS (mupd S 109 5 (nI k)) b k (S.1 (b + 4) 3 * S.1 (b + 4) 3) 6 6 0
def mfB (S : mS) (b k : Nat) : mS := gqS (mfA S b k) k 6 0
def mfS (S : mS) (b k : Nat) : mS := asgT (mfB S b k) k 6
theorem d5a : ∀ d, d < 6 → nI 6 - nI (d + 1) = nI (5 - d) := by decide
theorem d5b : ∀ d, d < 6 → nI 6 - nI (d + 1) + Int32.ofInt (-1) = nI 6 - nI (d + 1 + 1) := by decide
theorem cX3_find_ok (hb : mst b = true) {k : Nat} (hk : S.1 103 5 = nI k) (hk6 : k ≤ 6) : mMv l yX3_find wsX3_find rmX3_find D n0 ft [.ref (n0 + 109), .ref (n0 + b), .ref (n0 + 103)] n S (fun S' => S' = mfS S b k) := by
  have hbl := mst_le hb
  have hbc := mst_cases hb
  have hp2 : 2 ^ k ≤ 64 := Nat.le_trans (Nat.pow_le_pow_right (by decide) hk6) (by decide)
  refine tv_enter (cc := cX3_find) (maxL := 7) (ret := none) (by decide) rfl (Nat.le_of_ble_eq_true rfl) ?_
  intro p e s m args below meth c X hrt hnm hargs
  refine tv_aload_n X dX3_find_0 rfl ?_
  refine tv_aload_n X dX3_find_1 rfl ?_
  refine mm_getfN X dX3_find_2 gX1 iX3_find_X1 rfl 5 (by decide) nF15 rfl ?_
  rw [hk]
  refine tv_bipush (v := 6) X dX3_find_5 (by decide) ?_
  refine mm_cut (pc := 22) (fun _ : Unit => True) (fun _ => [(0, .ref (n0 + 109)), (1, .ref (n0 + b)), (2, .ref (n0 + 103))]) (fun _ => []) (fun _ => mupd S 109 5 (nI k)) ?_ ?_
  rotate_left
  · intro hcut
    refine tv_icmp_ge (tgt := 17) X dX3_find_7 (by decide) (fun h1 => ?_) (fun h1 => ?_)
    · have : k = 6 := by
        have : ¬ k < 6 := fun h => nI_ge (b := 6) h (by decide) h1
        omega
      subst this
      refine tv_bipush (v := 6) X dX3_find_17 (by decide) ?_
      refine mm_put X dX3_find_19 gX3 iX3_find_X3 rfl tyX3 tyX3_ok nmX3 5 (by decide) kX3_find_32 rfl rfl rfl (Nat.le_of_ble_eq_true rfl) rfl ?_
      exact hcut () trivial
    · refine tv_aload_n X dX3_find_10 rfl ?_
      refine mm_getfN X dX3_find_11 gX1 iX3_find_X1 rfl 5 (by decide) nF15 rfl ?_
      rw [hk]
      refine tv_goto (tgt := 19) X dX3_find_14 (by decide) ?_
      refine mm_put X dX3_find_19 gX3 iX3_find_X3 rfl tyX3 tyX3_ok nmX3 5 (by decide) kX3_find_32 rfl rfl rfl (Nat.le_of_ble_eq_true rfl) rfl ?_
      exact hcut () trivial
  intro _ _
  generalize hS1 : mupd S 109 5 (nI k) = S1
  have e4 : S1.1 (b + 4) 3 = S.1 (b + 4) 3 := by rw [← hS1, mupd_n (by omega)]
  have e5 : S1.1 109 5 = nI k := by rw [← hS1]; exact mupd_ss
  have e6 : S1.1 103 5 = nI k := by rw [← hS1, mupd_n (by decide)]; exact hk
  have hA : mfA S b k = fqS S1 b k (S.1 (b + 4) 3 * S.1 (b + 4) 3) 6 6 0 := by unfold mfA; rw [hS1]
  refine tv_aload_n X dX3_find_22 rfl ?_
  refine mm_getfN X dX3_find_23 (gX6 hb) iX3_find_X6 rfl 1 (by decide) nF7 rfl ?_
  refine tv_iconst (v := 3) X dX3_find_26 (by decide) ?_
  refine mm_iald X dX3_find_27 (gSet hb) 3 (by decide) (by decide) (by decide) ?_
  refine tv_aload_n X dX3_find_28 rfl ?_
  refine mm_getfN X dX3_find_29 (gX6 hb) iX3_find_X6 rfl 1 (by decide) nF7 rfl ?_
  refine tv_iconst (v := 3) X dX3_find_32 (by decide) ?_
  refine mm_iald X dX3_find_33 (gSet hb) 3 (by decide) (by decide) (by decide) ?_
  refine tv_imul X dX3_find_34 ?_
  refine tv_istore_n X dX3_find_35 rfl ?_
  refine tv_iconst (v := 0) X dX3_find_36 (by decide) ?_
  refine tv_istore X dX3_find_37 rfl ?_
  rw [e4]
  generalize hlim : S.1 (b + 4) 3 * S.1 (b + 4) 3 = lim at hA ⊢
  refine mm_cut (pc := 119) (fun _ : Unit => True) (fun _ => [(0, .ref (n0 + 109)), (1, .ref (n0 + b)), (2, .ref (n0 + 103)), (3, .int lim), (4, .int (nI 6))]) (fun _ => []) (fun _ => fqS S1 b k lim 6 6 0) ?_ ?_
  rotate_left
  · intro hcut
    refine mm_st (fqS_0 (b := b) (k := k) (lim := lim)).symm ?_
    refine mm_for 6 (fun i => [(0, .ref (n0 + 109)), (1, .ref (n0 + b)), (2, .ref (n0 + 103)), (3, .int lim), (4, .int (nI i))]) (fun i => fqS S1 b k lim i i 0) ?_ ?_
    · intro t ht ih
      dsimp only at ih
      refine tv_iload X dX3_find_39 rfl ?_
      refine tv_bipush (v := 6) X dX3_find_41 (by decide) ?_
      refine tv_icmp_ge (tgt := 119) X dX3_find_43 (by decide) (fun h1 => ?_) (fun h1 => ?_)
      · exact absurd h1 (nI_ge (a := t) (b := 6) ht (by decide))
      have hdn : (fqS S1 b k lim t t 0).1 (b + 6 + t) 0 = S1.1 (b + 6 + t) 0 := by rw [fqS_n (by omega)]
      refine tv_aload_n X dX3_find_46 rfl ?_
      refine mm_getf X dX3_find_47 gX3 iX3_find_X3 rfl 1 (by decide) kX3_find_16 rfl ?_
      refine tv_iload X dX3_find_50 rfl ?_
      refine tv_aload_n X dX3_find_52 rfl ?_
      refine mm_getfN X dX3_find_53 (gX6 hb) iX3_find_X6 rfl 2 (by decide) nF9 rfl ?_
      refine tv_iload X dX3_find_56 rfl ?_
      refine mm_aald X dX3_find_58 (gTrs hb) rfl t rfl ht rfl (by decide) ?_
      refine mm_getfN X dX3_find_59 (gX8 hb ht) iX3_find_X8 rfl 0 (by decide) nF1 rfl ?_
      rw [hdn]
      refine mm_cut (pc := 71) (fun _ : Unit => True) (fun _ => [(0, .ref (n0 + 109)), (1, .ref (n0 + b)), (2, .ref (n0 + 103)), (3, .int lim), (4, .int (nI t))]) (fun _ => []) (fun _ => fqS S1 b k lim t (t + 1) 0) ?_ ?_
      · intro _ _
        refine tv_iconst (v := 0) X dX3_find_71 (by decide) ?_
        refine tv_istore X dX3_find_72 rfl ?_
        refine mm_for k (fun i => [(0, .ref (n0 + 109)), (1, .ref (n0 + b)), (2, .ref (n0 + 103)), (3, .int lim), (4, .int (nI t)), (5, .int (nI i))]) (fun i => fqS S1 b k lim t (t + 1) i) ?_ ?_
        · intro i hi ih2
          dsimp only at ih2
          have f5 : (fqS S1 b k lim t (t + 1) i).1 109 5 = nI k := by rw [fqS_n (by omega)]; exact e5
          refine tv_iload X dX3_find_74 rfl ?_
          refine tv_aload_n X dX3_find_76 rfl ?_
          refine mm_getf X dX3_find_77 gX3 iX3_find_X3 rfl 5 (by decide) kX3_find_32 rfl ?_
          rw [f5]
          refine tv_icmp_ge (tgt := 113) X dX3_find_80 (by decide) (fun h2 => ?_) (fun h2 => ?_)
          · exact absurd h2 (nI_ge hi (by omega))
          refine tv_aload_n X dX3_find_83 rfl ?_
          refine mm_getf X dX3_find_84 gX3 iX3_find_X3 rfl 0 (by decide) kX3_find_11 rfl ?_
          refine tv_iload X dX3_find_87 rfl ?_
          refine mm_aald X dX3_find_89 g110 rfl t rfl ht (if_pos ht) (by decide) ?_
          refine tv_iload X dX3_find_90 rfl ?_
          refine tv_aload_n X dX3_find_92 rfl ?_
          refine mm_getfN X dX3_find_93 (gX6 hb) iX3_find_X6 rfl 2 (by decide) nF9 rfl ?_
          refine tv_iload X dX3_find_96 rfl ?_
          refine mm_aald X dX3_find_98 (gTrs hb) rfl t rfl ht rfl (by decide) ?_
          refine tv_aload_n X dX3_find_99 rfl ?_
          refine tv_iload X dX3_find_100 rfl ?_
          refine tv_iload_n X dX3_find_102 rfl ?_
          have f6 : (fqS S1 b k lim t (t + 1) i).1 103 5 = nI k := by rw [fqS_n (by omega)]; exact e6
          refine mm_callSi X dX3_find_103 (cX3_pairCost_ok hb ht f6 hk6 hi lim) (va_cwS 4 X.2.2.2.2.1 gX3_find_X3_pairCost rfl rfl rfl (by decide +kernel) ⟨Nat.le_of_ble_eq_true rfl, Nat.le_of_ble_eq_true rfl⟩) rfl rfl (Nat.le_of_ble_eq_true rfl) ⟨Nat.zero_le _, Nat.zero_le _⟩ (fun r S2 hq => ?_)
          obtain ⟨hq1, hq2⟩ := hq
          have hpc : pcS (fqS S1 b k lim t (t + 1) i) b lim t i = pcS S1 b lim t i := by
            unfold pcS wayS
            rw [fqS_n (q := b + 6 + t) (by omega), fqS_n (q := 105) (by omega), fqS_n (q := 106) (by omega)]
          rw [hq1, hq2, hpc]
          refine mm_iast X dX3_find_106 (g111 ht) i rfl (by omega) (by decide) ?_
          refine tv_iinc X dX3_find_107 rfl (nI_1 i) rfl ?_
          refine tv_goto (tgt := 74) X dX3_find_110 (by decide) ?_
          exact mm_st (fqS_i ht) ih2
        · have f5 : (fqS S1 b k lim t (t + 1) k).1 109 5 = nI k := by rw [fqS_n (by omega)]; exact e5
          refine tv_iload X dX3_find_74 rfl ?_
          refine tv_aload_n X dX3_find_76 rfl ?_
          refine mm_getf X dX3_find_77 gX3 iX3_find_X3 rfl 5 (by decide) kX3_find_32 rfl ?_
          rw [f5]
          refine tv_icmp_ge (tgt := 113) X dX3_find_80 (by decide) (fun h2 => ?_) (fun h2 => ?_)
          rotate_left
          · exact absurd (nI_le (Nat.le_refl k) (by omega)) h2
          refine tv_iinc X dX3_find_113 rfl (nI_1 t) rfl ?_
          refine tv_goto (tgt := 39) X dX3_find_116 (by decide) ?_
          exact mm_st fqS_t (tv_sl [0, 1, 2, 3, 4] rfl ih)
      · intro hc2
        by_cases hd : S1.1 (b + 6 + t) 0 = 0
        · refine tv_if_eq (tgt := 69) X dX3_find_62 (by decide) (fun h2 => ?_) (fun h2 => ?_)
          rotate_left
          · exact absurd hd h2
          refine tv_iconst (v := 0) X dX3_find_69 (by decide) ?_
          refine mm_iast X dX3_find_70 g117 t rfl ht (by decide) ?_
          refine mm_st ?_ (hc2 () trivial)
          have : ncS S1 b lim t = 0 := if_pos hd
          rw [← this]
          exact fqS_u
        · refine tv_if_eq (tgt := 69) X dX3_find_62 (by decide) (fun h2 => ?_) (fun h2 => ?_)
          · exact absurd h2 hd
          refine tv_iload_n X dX3_find_65 rfl ?_
          refine tv_goto (tgt := 70) X dX3_find_66 (by decide) ?_
          refine mm_iast X dX3_find_70 g117 t rfl ht (by decide) ?_
          refine mm_st ?_ (hc2 () trivial)
          have h9 : ncS S1 b lim t = lim := if_neg hd
          exact (congrArg (mupd (fqS S1 b k lim t t 0) 117 t) h9.symm).trans fqS_u
    · refine tv_iload X dX3_find_39 rfl ?_
      refine tv_bipush (v := 6) X dX3_find_41 (by decide) ?_
      refine tv_icmp_ge (tgt := 119) X dX3_find_43 (by decide) (fun h1 => ?_) (fun h1 => ?_)
      · exact hcut () trivial
      · exact absurd (nI_le (Nat.le_refl 6) (by decide)) h1
  intro _ _
  have hB : mfS S b k = asgT (gqS (fqS S1 b k lim 6 6 0) k 6 0) k 6 := by unfold mfS mfB; rw [hA]
  have e7 : (fqS S1 b k lim 6 6 0).1 109 5 = nI k := by rw [fqS_n (by omega)]; exact e5
  generalize fqS S1 b k lim 6 6 0 = S2 at hB e7 ⊢
  refine tv_iconst (v := 1) X dX3_find_119 (by decide) ?_
  refine tv_aload_n X dX3_find_120 rfl ?_
  refine mm_getf X dX3_find_121 gX3 iX3_find_X3 rfl 5 (by decide) kX3_find_32 rfl ?_
  rw [e7]
  refine tv_ishl X dX3_find_124 ?_
  rw [shl6 k hk6]
  refine tv_istore X dX3_find_125 rfl ?_
  refine tv_iconst (v := 5) X dX3_find_127 (by decide) ?_
  refine tv_istore X dX3_find_128 rfl ?_
  refine mm_st (gqS_0 (k := k)).symm ?_
  refine mm_L (L' := [(0, .ref (n0 + 109)), (1, .ref (n0 + b)), (2, .ref (n0 + 103)), (3, .int lim), (4, .int (nI (2 ^ k))), (5, .int (nI 6 - nI (0 + 1)))]) rfl ?_
  refine mm_for 6 (fun d => [(0, .ref (n0 + 109)), (1, .ref (n0 + b)), (2, .ref (n0 + 103)), (3, .int lim), (4, .int (nI (2 ^ k))), (5, .int (nI 6 - nI (d + 1)))]) (fun d => gqS S2 k d 0) ?_ ?_
  · intro d hd ih
    dsimp only at ih
    have hd5 : d ≤ 5 := by omega
    rw [d5a d hd]
    refine tv_iload X dX3_find_130 rfl ?_
    refine tv_if_lt (tgt := 175) X dX3_find_132 (by decide) (fun h1 => ?_) (fun h1 => ?_)
    · exact absurd h1 (nI_pos (by omega))
    refine tv_iconst (v := 0) X dX3_find_135 (by decide) ?_
    refine tv_istore X dX3_find_136 rfl ?_
    refine mm_for (2 ^ k) (fun i => [(0, .ref (n0 + 109)), (1, .ref (n0 + b)), (2, .ref (n0 + 103)), (3, .int lim), (4, .int (nI (2 ^ k))), (5, .int (nI (5 - d))), (6, .int (nI i))]) (fun i => gqS S2 k d i) ?_ ?_
    · intro i hi ih2
      dsimp only at ih2
      refine tv_iload X dX3_find_138 rfl ?_
      refine tv_iload X dX3_find_140 rfl ?_
      refine tv_icmp_ge (tgt := 169) X dX3_find_142 (by decide) (fun h2 => ?_) (fun h2 => ?_)
      · exact absurd h2 (nI_ge hi (by omega))
      refine tv_aload_n X dX3_find_145 rfl ?_
      refine mm_getf X dX3_find_146 gX3 iX3_find_X3 rfl 2 (by decide) kX3_find_20 rfl ?_
      refine tv_iload X dX3_find_149 rfl ?_
      refine mm_aald X dX3_find_151 g118 rfl (5 - d) rfl (by omega) (if_pos (by omega)) (by decide) ?_
      refine tv_iload X dX3_find_152 rfl ?_
      refine tv_aload_n X dX3_find_154 rfl ?_
      refine tv_iload X dX3_find_155 rfl ?_
      refine tv_iload X dX3_find_157 rfl ?_
      have g5 : (gqS S2 k d i).1 109 5 = nI k := by rw [gqS_n (by omega)]; exact e7
      refine mm_callVi (q := (RX3, TX3, 6)) X dX3_find_159 (cX3_leastCost_ok (t := 5 - d) (by omega) (s1 := i) (by omega) g5 hk6) (cwV 2 X.2.2.2.2.1 gX3_find_X3_leastCost rfl rfl rfl (by decide +kernel) ⟨Nat.le_of_ble_eq_true rfl, Nat.le_of_ble_eq_true rfl⟩) rfl rfl gX3 rfl (Nat.le_of_ble_eq_true rfl) ⟨Nat.zero_le _, Nat.zero_le _⟩ (fun r S3 hq => ?_)
      obtain ⟨hq1, hq2⟩ := hq
      have hls : r = lsR S2 k (d + 1) i := by
        rw [hq2, gqS_n (q := 111 + (5 - d)) (by omega), gqS_n (q := 117) (by omega), gqS_r hd5]
        exact (if_pos hi).symm
      rw [hq1, hls]
      clear hq1 hq2 hls
      refine mm_iast X dX3_find_162 (g119 (by omega)) i rfl (by omega) (by decide) ?_
      refine tv_iinc X dX3_find_163 rfl (nI_1 i) rfl ?_
      refine tv_goto (tgt := 138) X dX3_find_166 (by decide) ?_
      exact mm_st (gqS_i hd5) ih2
    · refine tv_iload X dX3_find_138 rfl ?_
      refine tv_iload X dX3_find_140 rfl ?_
      refine tv_icmp_ge (tgt := 169) X dX3_find_142 (by decide) (fun h2 => ?_) (fun h2 => ?_)
      rotate_left
      · exact absurd (nI_le (Nat.le_refl (2 ^ k)) (by omega)) h2
      rw [← d5a d hd]
      refine tv_iinc X dX3_find_169 rfl (d5b d hd) rfl ?_
      refine tv_goto (tgt := 130) X dX3_find_172 (by decide) ?_
      exact mm_st (gqS_d hd5) (tv_sl [0, 1, 2, 3, 4, 5] rfl ih)
  · refine tv_iload X dX3_find_130 rfl ?_
    refine tv_if_lt (tgt := 175) X dX3_find_132 (by decide) (fun h1 => ?_) (fun h1 => ?_)
    rotate_left
    · exact absurd (by decide) h1
    refine tv_aload_n X dX3_find_175 rfl ?_
    have g5 : (gqS S2 k 6 0).1 109 5 = nI k := by rw [gqS_n (by omega)]; exact e7
    refine mm_callVv (q := (RX3, TX3, 6)) X dX3_find_176 (cX3_assign_ok g5 hk6) (cwV 0 X.2.2.2.2.1 gX3_find_X3_assign rfl rfl rfl (by decide +kernel) ⟨Nat.le_of_ble_eq_true rfl, Nat.le_of_ble_eq_true rfl⟩) rfl rfl gX3 rfl (Nat.le_of_ble_eq_true rfl) ⟨Nat.zero_le _, Nat.zero_le _⟩ (fun S3 hq => ?_)
    exact tv_vret X hrt dX3_find_179 ⟨_, rfl, by rw [hq, hB]⟩
end C22

