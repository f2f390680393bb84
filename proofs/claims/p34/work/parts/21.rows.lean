theorem or6 : ∀ s, s < 64 → ∀ c, c < 6 → (nI s ||| ((1 : Int32) <<< (nI c &&& 31)) = nI (s ||| 1 <<< c) ∧ (s ||| 1 <<< c) < 64) := by decide +kernel
theorem and6 : ∀ s, s < 64 → ∀ c, c < 6 → (nI s &&& ((1 : Int32) <<< (nI c &&& 31)) = 0 ↔ s.testBit c = false) := by decide +kernel
theorem shl6 : ∀ k, k ≤ 6 → ((1 : Int32) <<< (nI k &&& 31)) = nI (2 ^ k) := by
  intro k hk
  have h : ∀ k, k < 7 → ((1 : Int32) <<< (nI k &&& 31)) = nI (2 ^ k) := by decide +kernel
  exact h k (by omega)
/-- whether a contact can be taken, by a track's row of costs -/
def ctB (pr : Nat → Int32) (s c : Nat) : Bool := decide (pr c ≠ -1) && !s.testBit c
def lcF (pr nx : Nat → Int32) (s : Nat) (base : Int32) : Nat → Int32
  | 0 => base
  | c + 1 => if ctB pr s c then (if pr c + nx (s ||| 1 <<< c) < lcF pr nx s base c then pr c + nx (s ||| 1 <<< c) else lcF pr nx s base c) else lcF pr nx s base c
/-- the first place that is so -/
def fbN (q : Nat → Bool) : Nat → Option Nat
  | 0 => none
  | k + 1 => match fbN q k with
    | some c => some c
    | none => if q k then some k else none
def oI (o : Option Nat) : Int32 := match o with
  | some c => nI c
  | none => -1
theorem fbN_at {q : Nat → Bool} {i : Nat} (h : fbN q i = none) (hq : q i = true) : ∀ d, fbN q (i + 1 + d) = some i
  | 0 => by
    show (match fbN q i with | some c => some c | none => if q i then some i else none) = some i
    rw [h, hq]; rfl
  | d + 1 => by
    show (match fbN q (i + 1 + d) with | some c => some c | none => if q (i + 1 + d) then some (i + 1 + d) else none) = some i
    rw [fbN_at h hq d]
theorem fbN_n {q : Nat → Bool} {i : Nat} (h : fbN q i = none) (hq : q i = false) : fbN q (i + 1) = none := by
  show (match fbN q i with | some c => some c | none => if q i then some i else none) = none
  rw [h, hq]; rfl
theorem fbN_lt {q : Nat → Bool} : ∀ {k c : Nat}, fbN q k = some c → c < k ∧ q c = true
  | 0, c, h => by cases h
  | k + 1, c, h => by
    unfold fbN at h
    cases hk : fbN q k with
    | some c2 => rw [hk] at h; cases h; exact ⟨Nat.lt_succ_of_lt (fbN_lt hk).1, (fbN_lt hk).2⟩
    | none =>
      rw [hk] at h
      by_cases hq : q k = true
      · rw [if_pos hq] at h; cases h; exact ⟨Nat.lt_succ_self _, hq⟩
      · rw [if_neg hq] at h; cases h
section C21
variable {l : Launch} {D : va_G} {n0 : Nat} {ft : tv_ft} {n : Nat} {S : mS} {b : Nat}
theorem iX3_canTake_X3 : ∀ w ∈ wsX30, w ∈ wsX3_canTake := by decide +kernel
theorem kX3_canTake_11 : Cond.fieldLink RX3 11 (TX3 0).1 (TX3 0).2.1 (TX3 0).2.2.1 ∈ wsX3_canTake := by decide +kernel
theorem cX3_canTake_ok {t c1 s1 : Nat} (ht : t < 6) (hc : c1 < 6) (hs : s1 < 64) : mMi l yX3_canTake wsX3_canTake rmX3_canTake D n0 ft [.ref (n0 + 109), .int (nI t), .int (nI c1), .int (nI s1)] n S (fun r S' => S' = S ∧ r = if ctB (S.1 (111 + t)) s1 c1 = true then 1 else 0) := by
  refine tv_enter (cc := cX3_canTake) (maxL := 4) (ret := (some .boolean)) (by decide) rfl (Nat.le_of_ble_eq_true rfl) ?_
  intro p e s m args below meth c X hrt hnm hargs
  refine tv_aload_n X dX3_canTake_0 rfl ?_
  refine mm_getf X dX3_canTake_1 gX3 iX3_canTake_X3 rfl 0 (by decide) kX3_canTake_11 rfl ?_
  refine tv_iload_n X dX3_canTake_4 rfl ?_
  refine mm_aald X dX3_canTake_5 g110 rfl t rfl ht (if_pos ht) (by decide) ?_
  refine tv_iload_n X dX3_canTake_6 rfl ?_
  refine mm_iald X dX3_canTake_7 (g111 ht) c1 rfl hc (by decide) ?_
  refine tv_iconst (v := -1) X dX3_canTake_8 (by decide) ?_
  refine tv_icmp_eq (tgt := 24) X dX3_canTake_9 (by decide) (fun h1 => ?_) (fun h1 => ?_)
  · refine tv_iconst (v := 0) X dX3_canTake_24 (by decide) ?_
    exact tv_zret X hrt dX3_canTake_25 rfl ⟨_, rfl, rfl, by simp [ctB, h1]⟩
  refine tv_iload_n X dX3_canTake_12 rfl ?_
  refine tv_iconst (v := 1) X dX3_canTake_13 (by decide) ?_
  refine tv_iload_n X dX3_canTake_14 rfl ?_
  refine tv_ishl X dX3_canTake_15 ?_
  refine tv_iand X dX3_canTake_16 ?_
  refine tv_if_ne (tgt := 24) X dX3_canTake_17 (by decide) (fun h2 => ?_) (fun h2 => ?_)
  · refine tv_iconst (v := 0) X dX3_canTake_24 (by decide) ?_
    refine tv_zret X hrt dX3_canTake_25 rfl ⟨_, rfl, rfl, ?_⟩
    have hb1 : s1.testBit c1 = true := by
      cases hx : s1.testBit c1 with
      | true => rfl
      | false => exact absurd ((and6 s1 hs c1 hc).mpr hx) h2
    simp [ctB, hb1]
  · refine tv_iconst (v := 1) X dX3_canTake_20 (by decide) ?_
    refine tv_goto (tgt := 25) X dX3_canTake_21 (by decide) ?_
    refine tv_zret X hrt dX3_canTake_25 rfl ⟨_, rfl, rfl, ?_⟩
    have hb1 : s1.testBit c1 = false := (and6 s1 hs c1 hc).mp h2
    simp [ctB, hb1, h1]
theorem iX3_costWith_X3 : ∀ w ∈ wsX30, w ∈ wsX3_costWith := by decide +kernel
theorem kX3_costWith_11 : Cond.fieldLink RX3 11 (TX3 0).1 (TX3 0).2.1 (TX3 0).2.2.1 ∈ wsX3_costWith := by decide +kernel
theorem kX3_costWith_20 : Cond.fieldLink RX3 20 (TX3 2).1 (TX3 2).2.1 (TX3 2).2.2.1 ∈ wsX3_costWith := by decide +kernel
theorem cX3_costWith_ok {t c1 s1 : Nat} (ht : t < 6) (hc : c1 < 6) (hs : s1 < 64) : mMi l yX3_costWith wsX3_costWith rmX3_costWith D n0 ft [.ref (n0 + 109), .int (nI t), .int (nI c1), .int (nI s1)] n S (fun r S' => S' = S ∧ r = S.1 (111 + t) c1 + S.1 (119 + (t + 1)) (s1 ||| 1 <<< c1)) := by
  refine tv_enter (cc := cX3_costWith) (maxL := 4) (ret := (some .int)) (by decide) rfl (Nat.le_of_ble_eq_true rfl) ?_
  intro p e s m args below meth c X hrt hnm hargs
  refine tv_aload_n X dX3_costWith_0 rfl ?_
  refine mm_getf X dX3_costWith_1 gX3 iX3_costWith_X3 rfl 0 (by decide) kX3_costWith_11 rfl ?_
  refine tv_iload_n X dX3_costWith_4 rfl ?_
  refine mm_aald X dX3_costWith_5 g110 rfl t rfl ht (if_pos ht) (by decide) ?_
  refine tv_iload_n X dX3_costWith_6 rfl ?_
  refine mm_iald X dX3_costWith_7 (g111 ht) c1 rfl hc (by decide) ?_
  refine tv_aload_n X dX3_costWith_8 rfl ?_
  refine mm_getf X dX3_costWith_9 gX3 iX3_costWith_X3 rfl 2 (by decide) kX3_costWith_20 rfl ?_
  refine tv_iload_n X dX3_costWith_12 rfl ?_
  refine tv_iconst (v := 1) X dX3_costWith_13 (by decide) ?_
  refine tv_iadd X dX3_costWith_14 ?_
  refine mm_aald X dX3_costWith_15 g118 rfl (t + 1) (nI_1 t) (by omega) (if_pos (by omega)) (by decide) ?_
  refine tv_iload_n X dX3_costWith_16 rfl ?_
  refine tv_iconst (v := 1) X dX3_costWith_17 (by decide) ?_
  refine tv_iload_n X dX3_costWith_18 rfl ?_
  refine tv_ishl X dX3_costWith_19 ?_
  refine tv_ior X dX3_costWith_20 ?_
  rw [(or6 s1 hs c1 hc).1]
  refine mm_iald X dX3_costWith_21 (g119 (by omega)) (s1 ||| 1 <<< c1) rfl (or6 s1 hs c1 hc).2 (by decide) ?_
  refine tv_iadd X dX3_costWith_22 ?_
  exact tv_iret X hrt dX3_costWith_23 ⟨_, rfl, rfl, rfl⟩
theorem iX3_leastCost_X3 : ∀ w ∈ wsX30, w ∈ wsX3_leastCost := by decide +kernel
theorem kX3_leastCost_16 : Cond.fieldLink RX3 16 (TX3 1).1 (TX3 1).2.1 (TX3 1).2.2.1 ∈ wsX3_leastCost := by decide +kernel
theorem kX3_leastCost_20 : Cond.fieldLink RX3 20 (TX3 2).1 (TX3 2).2.1 (TX3 2).2.2.1 ∈ wsX3_leastCost := by decide +kernel
theorem kX3_leastCost_32 : Cond.fieldLink RX3 32 (TX3 5).1 (TX3 5).2.1 (TX3 5).2.2.1 ∈ wsX3_leastCost := by decide +kernel
theorem cX3_leastCost_ok {t s1 k : Nat} (ht : t < 6) (hs : s1 < 64) (hk : S.1 109 5 = nI k) (hk6 : k ≤ 6) : mMi l yX3_leastCost wsX3_leastCost rmX3_leastCost D n0 ft [.ref (n0 + 109), .int (nI t), .int (nI s1)] n S (fun r S' => S' = S ∧ r = lcF (S.1 (111 + t)) (S.1 (119 + (t + 1))) s1 (S.1 117 t + S.1 (119 + (t + 1)) s1) k) := by
  refine tv_enter (cc := cX3_leastCost) (maxL := 6) (ret := (some .int)) (by decide) rfl (Nat.le_of_ble_eq_true rfl) ?_
  intro p e s m args below meth c X hrt hnm hargs
  refine tv_aload_n X dX3_leastCost_0 rfl ?_
  refine mm_getf X dX3_leastCost_1 gX3 iX3_leastCost_X3 rfl 1 (by decide) kX3_leastCost_16 rfl ?_
  refine tv_iload_n X dX3_leastCost_4 rfl ?_
  refine mm_iald X dX3_leastCost_5 g117 t rfl ht (by decide) ?_
  refine tv_aload_n X dX3_leastCost_6 rfl ?_
  refine mm_getf X dX3_leastCost_7 gX3 iX3_leastCost_X3 rfl 2 (by decide) kX3_leastCost_20 rfl ?_
  refine tv_iload_n X dX3_leastCost_10 rfl ?_
  refine tv_iconst (v := 1) X dX3_leastCost_11 (by decide) ?_
  refine tv_iadd X dX3_leastCost_12 ?_
  refine mm_aald X dX3_leastCost_13 g118 rfl (t + 1) (nI_1 t) (by omega) (if_pos (by omega)) (by decide) ?_
  refine tv_iload_n X dX3_leastCost_14 rfl ?_
  refine mm_iald X dX3_leastCost_15 (g119 (by omega)) s1 rfl hs (by decide) ?_
  refine tv_iadd X dX3_leastCost_16 ?_
  refine tv_istore_n X dX3_leastCost_17 rfl ?_
  refine tv_iconst (v := 0) X dX3_leastCost_18 (by decide) ?_
  refine tv_istore X dX3_leastCost_19 rfl ?_
  refine mm_for k (fun i => [(0, .ref (n0 + 109)), (1, .int (nI t)), (2, .int (nI s1)), (3, .int (lcF (S.1 (111 + t)) (S.1 (119 + (t + 1))) s1 (S.1 117 t + S.1 (119 + (t + 1)) s1) i)), (4, .int (nI i))]) (fun _ => S) ?_ ?_
  · intro i hi ih
    dsimp only at ih
    generalize hA : lcF (S.1 (111 + t)) (S.1 (119 + (t + 1))) s1 (S.1 117 t + S.1 (119 + (t + 1)) s1) i = A
    have hnx : lcF (S.1 (111 + t)) (S.1 (119 + (t + 1))) s1 (S.1 117 t + S.1 (119 + (t + 1)) s1) (i + 1) = if ctB (S.1 (111 + t)) s1 i then (if S.1 (111 + t) i + S.1 (119 + (t + 1)) (s1 ||| 1 <<< i) < A then S.1 (111 + t) i + S.1 (119 + (t + 1)) (s1 ||| 1 <<< i) else A) else A := by rw [← hA]; rfl
    rw [hnx] at ih
    refine tv_iload X dX3_leastCost_21 rfl ?_
    refine tv_aload_n X dX3_leastCost_23 rfl ?_
    refine mm_getf X dX3_leastCost_24 gX3 iX3_leastCost_X3 rfl 5 (by decide) kX3_leastCost_32 rfl ?_
    rw [hk]
    refine tv_icmp_ge (tgt := 70) X dX3_leastCost_27 (by decide) (fun h1 => ?_) (fun h1 => ?_)
    · exact absurd h1 (nI_ge hi (by omega))
    refine tv_aload_n X dX3_leastCost_30 rfl ?_
    refine tv_iload_n X dX3_leastCost_31 rfl ?_
    refine tv_iload X dX3_leastCost_32 rfl ?_
    refine tv_iload_n X dX3_leastCost_34 rfl ?_
    refine mm_callVi (q := (RX3, TX3, 6)) X dX3_leastCost_35 (cX3_canTake_ok ht (c1 := i) (by omega) hs) (cwV 3 X.2.2.2.2.1 gX3_leastCost_X3_canTake rfl rfl rfl (by decide +kernel) ⟨Nat.le_of_ble_eq_true rfl, Nat.le_of_ble_eq_true rfl⟩) rfl rfl gX3 rfl (Nat.le_of_ble_eq_true rfl) ⟨Nat.zero_le _, Nat.zero_le _⟩ (fun r S1 hq => ?_)
    obtain ⟨hq1, hq2⟩ := hq
    rw [hq1, hq2]
    cases hct : ctB (S.1 (111 + t)) s1 i with
    | false =>
      rw [hct] at ih
      refine tv_if_eq (tgt := 64) X dX3_leastCost_38 (by decide) (fun h2 => ?_) (fun h2 => ?_)
      rotate_left
      · exact absurd rfl h2
      refine tv_iinc X dX3_leastCost_64 rfl (nI_1 i) rfl ?_
      refine tv_goto (tgt := 21) X dX3_leastCost_67 (by decide) ?_
      exact ih
    | true =>
      rw [hct] at ih
      refine tv_if_eq (tgt := 64) X dX3_leastCost_38 (by decide) (fun h2 => ?_) (fun h2 => ?_)
      · exact absurd h2 (by decide)
      refine tv_aload_n X dX3_leastCost_41 rfl ?_
      refine tv_iload_n X dX3_leastCost_42 rfl ?_
      refine tv_iload X dX3_leastCost_43 rfl ?_
      refine tv_iload_n X dX3_leastCost_45 rfl ?_
      refine mm_callVi (q := (RX3, TX3, 6)) X dX3_leastCost_46 (cX3_costWith_ok ht (c1 := i) (by omega) hs) (cwV 3 X.2.2.2.2.1 gX3_leastCost_X3_costWith rfl rfl rfl (by decide +kernel) ⟨Nat.le_of_ble_eq_true rfl, Nat.le_of_ble_eq_true rfl⟩) rfl rfl gX3 rfl (Nat.le_of_ble_eq_true rfl) ⟨Nat.zero_le _, Nat.zero_le _⟩ (fun r S1 hq => ?_)
      obtain ⟨hq1, hq2⟩ := hq
      rw [hq1, hq2]
      refine tv_istore X dX3_leastCost_49 rfl ?_
      refine tv_iload X dX3_leastCost_51 rfl ?_
      refine tv_iload_n X dX3_leastCost_53 rfl ?_
      refine tv_icmp_ge (tgt := 62) X dX3_leastCost_54 (by decide) (fun h3 => ?_) (fun h3 => ?_)
      · rw [if_neg (Int32.not_lt.mpr h3)] at ih
        refine tv_iload_n X dX3_leastCost_62 rfl ?_
        refine tv_istore_n X dX3_leastCost_63 rfl ?_
        refine tv_iinc X dX3_leastCost_64 rfl (nI_1 i) rfl ?_
        refine tv_goto (tgt := 21) X dX3_leastCost_67 (by decide) ?_
        exact tv_sl [0, 1, 2, 3, 4] rfl ih
      · rw [if_pos (Int32.not_le.mp h3)] at ih
        refine tv_iload X dX3_leastCost_57 rfl ?_
        refine tv_goto (tgt := 63) X dX3_leastCost_59 (by decide) ?_
        refine tv_istore_n X dX3_leastCost_63 rfl ?_
        refine tv_iinc X dX3_leastCost_64 rfl (nI_1 i) rfl ?_
        refine tv_goto (tgt := 21) X dX3_leastCost_67 (by decide) ?_
        exact tv_sl [0, 1, 2, 3, 4] rfl ih
  · refine tv_iload X dX3_leastCost_21 rfl ?_
    refine tv_aload_n X dX3_leastCost_23 rfl ?_
    refine mm_getf X dX3_leastCost_24 gX3 iX3_leastCost_X3 rfl 5 (by decide) kX3_leastCost_32 rfl ?_
    rw [hk]
    refine tv_icmp_ge (tgt := 70) X dX3_leastCost_27 (by decide) (fun h1 => ?_) (fun h1 => ?_)
    · refine tv_iload_n X dX3_leastCost_70 rfl ?_
      exact tv_iret X hrt dX3_leastCost_71 ⟨_, rfl, rfl, rfl⟩
    · exact absurd (nI_le (Nat.le_refl k) (by omega)) h1
theorem iX3_firstBest_X3 : ∀ w ∈ wsX30, w ∈ wsX3_firstBest := by decide +kernel
theorem kX3_firstBest_20 : Cond.fieldLink RX3 20 (TX3 2).1 (TX3 2).2.1 (TX3 2).2.2.1 ∈ wsX3_firstBest := by decide +kernel
theorem kX3_firstBest_32 : Cond.fieldLink RX3 32 (TX3 5).1 (TX3 5).2.1 (TX3 5).2.2.1 ∈ wsX3_firstBest := by decide +kernel
theorem cX3_firstBest_ok {t s1 k : Nat} (ht : t < 6) (hs : s1 < 64) (hk : S.1 109 5 = nI k) (hk6 : k ≤ 6) : mMi l yX3_firstBest wsX3_firstBest rmX3_firstBest D n0 ft [.ref (n0 + 109), .int (nI t), .int (nI s1)] n S (fun r S' => S' = S ∧ r = oI (fbN (fun c => ctB (S.1 (111 + t)) s1 c && decide (S.1 (111 + t) c + S.1 (119 + (t + 1)) (s1 ||| 1 <<< c) = S.1 (119 + t) s1)) k)) := by
  generalize hq0 : (fun c => ctB (S.1 (111 + t)) s1 c && decide (S.1 (111 + t) c + S.1 (119 + (t + 1)) (s1 ||| 1 <<< c) = S.1 (119 + t) s1)) = q
  have hqa : ∀ c, q c = (ctB (S.1 (111 + t)) s1 c && decide (S.1 (111 + t) c + S.1 (119 + (t + 1)) (s1 ||| 1 <<< c) = S.1 (119 + t) s1)) := fun c => by rw [← hq0]
  refine tv_enter (cc := cX3_firstBest) (maxL := 4) (ret := (some .int)) (by decide) rfl (Nat.le_of_ble_eq_true rfl) ?_
  intro p e s m args below meth c X hrt hnm hargs
  refine tv_iconst (v := 0) X dX3_firstBest_0 (by decide) ?_
  refine tv_istore_n X dX3_firstBest_1 rfl ?_
  refine mm_loop (ι := Nat) (fun i => i ≤ k ∧ fbN q i = none) (fun i => k - i) (fun i => [(0, .ref (n0 + 109)), (1, .int (nI t)), (2, .int (nI s1)), (3, .int (nI i))]) (fun _ => S) 0 ⟨Nat.zero_le _, rfl⟩ ?_
  intro i hi ih
  refine tv_iload_n X dX3_firstBest_2 rfl ?_
  refine tv_aload_n X dX3_firstBest_3 rfl ?_
  refine mm_getf X dX3_firstBest_4 gX3 iX3_firstBest_X3 rfl 5 (by decide) kX3_firstBest_32 rfl ?_
  rw [hk]
  refine tv_icmp_ge (tgt := 46) X dX3_firstBest_7 (by decide) (fun h1 => ?_) (fun h1 => ?_)
  · refine tv_iconst (v := -1) X dX3_firstBest_46 (by decide) ?_
    have hik : i = k := Nat.le_antisymm hi.1 (Nat.le_of_not_lt fun h => nI_ge h (by omega) h1)
    exact tv_iret X hrt dX3_firstBest_47 ⟨_, rfl, rfl, by rw [← hik, hi.2]; rfl⟩
  have hik : i < k := Nat.lt_of_not_le fun h => h1 (nI_le h (by omega))
  refine tv_aload_n X dX3_firstBest_10 rfl ?_
  refine tv_iload_n X dX3_firstBest_11 rfl ?_
  refine tv_iload_n X dX3_firstBest_12 rfl ?_
  refine tv_iload_n X dX3_firstBest_13 rfl ?_
  refine mm_callVi (q := (RX3, TX3, 6)) X dX3_firstBest_14 (cX3_canTake_ok ht (c1 := i) (by omega) hs) (cwV 3 X.2.2.2.2.1 gX3_firstBest_X3_canTake rfl rfl rfl (by decide +kernel) ⟨Nat.le_of_ble_eq_true rfl, Nat.le_of_ble_eq_true rfl⟩) rfl rfl gX3 rfl (Nat.le_of_ble_eq_true rfl) ⟨Nat.zero_le _, Nat.zero_le _⟩ (fun r S1 hq => ?_)
  obtain ⟨hq1, hq2⟩ := hq
  rw [hq1, hq2]
  cases hct : ctB (S.1 (111 + t)) s1 i with
  | false =>
    refine tv_if_eq (tgt := 40) X dX3_firstBest_17 (by decide) (fun h2 => ?_) (fun h2 => ?_)
    rotate_left
    · exact absurd rfl h2
    refine tv_iinc X dX3_firstBest_40 rfl (nI_1 i) rfl ?_
    refine tv_goto (tgt := 2) X dX3_firstBest_43 (by decide) ?_
    exact ih (i + 1) ⟨hik, fbN_n hi.2 (by rw [hqa, hct]; rfl)⟩ (by omega)
  | true =>
    refine tv_if_eq (tgt := 40) X dX3_firstBest_17 (by decide) (fun h2 => ?_) (fun h2 => ?_)
    · exact absurd h2 (by decide)
    refine tv_aload_n X dX3_firstBest_20 rfl ?_
    refine tv_iload_n X dX3_firstBest_21 rfl ?_
    refine tv_iload_n X dX3_firstBest_22 rfl ?_
    refine tv_iload_n X dX3_firstBest_23 rfl ?_
    refine mm_callVi (q := (RX3, TX3, 6)) X dX3_firstBest_24 (cX3_costWith_ok ht (c1 := i) (by omega) hs) (cwV 3 X.2.2.2.2.1 gX3_firstBest_X3_costWith rfl rfl rfl (by decide +kernel) ⟨Nat.le_of_ble_eq_true rfl, Nat.le_of_ble_eq_true rfl⟩) rfl rfl gX3 rfl (Nat.le_of_ble_eq_true rfl) ⟨Nat.zero_le _, Nat.zero_le _⟩ (fun r S1 hq => ?_)
    obtain ⟨hq1, hq2⟩ := hq
    rw [hq1, hq2]
    refine tv_aload_n X dX3_firstBest_27 rfl ?_
    refine mm_getf X dX3_firstBest_28 gX3 iX3_firstBest_X3 rfl 2 (by decide) kX3_firstBest_20 rfl ?_
    refine tv_iload_n X dX3_firstBest_31 rfl ?_
    refine mm_aald X dX3_firstBest_32 g118 rfl t rfl (by omega) (if_pos (by omega)) (by decide) ?_
    refine tv_iload_n X dX3_firstBest_33 rfl ?_
    refine mm_iald X dX3_firstBest_34 (g119 (by omega)) s1 rfl hs (by decide) ?_
    refine tv_icmp_ne (tgt := 40) X dX3_firstBest_35 (by decide) (fun h3 => ?_) (fun h3 => ?_)
    · refine tv_iinc X dX3_firstBest_40 rfl (nI_1 i) rfl ?_
      refine tv_goto (tgt := 2) X dX3_firstBest_43 (by decide) ?_
      exact ih (i + 1) ⟨hik, fbN_n hi.2 (by rw [hqa, hct, decide_eq_false h3]; rfl)⟩ (by omega)
    · refine tv_iload_n X dX3_firstBest_38 rfl ?_
      refine tv_iret X hrt dX3_firstBest_39 ⟨_, rfl, rfl, ?_⟩
      have h9 := fbN_at hi.2 (by rw [hqa, hct, decide_eq_true h3]; rfl) (k - (i + 1))
      rw [show i + 1 + (k - (i + 1)) = k by omega] at h9
      rw [h9]
      rfl
theorem iX3_contactOf_X3 : ∀ w ∈ wsX30, w ∈ wsX3_contactOf := by decide +kernel
theorem kX3_contactOf_23 : Cond.fieldLink RX3 23 (TX3 3).1 (TX3 3).2.1 (TX3 3).2.2.1 ∈ wsX3_contactOf := by decide +kernel
theorem cX3_contactOf_ok {t : Nat} (ht : t < 6) : mMi l yX3_contactOf wsX3_contactOf rmX3_contactOf D n0 ft [.ref (n0 + 109), .int (nI t)] n S (fun r S' => S' = S ∧ r = S.1 126 t) := by
  refine tv_enter (cc := cX3_contactOf) (maxL := 2) (ret := (some .int)) (by decide) rfl (Nat.le_of_ble_eq_true rfl) ?_
  intro p e s m args below meth c X hrt hnm hargs
  refine tv_iload_n X dX3_contactOf_0 rfl ?_
  refine tv_if_lt (tgt := 19) X dX3_contactOf_1 (by decide) (fun h1 => ?_) (fun h1 => ?_)
  · exact absurd h1 (nI_pos (by omega))
  refine tv_iload_n X dX3_contactOf_4 rfl ?_
  refine tv_bipush (v := 6) X dX3_contactOf_5 (by decide) ?_
  refine tv_icmp_ge (tgt := 19) X dX3_contactOf_7 (by decide) (fun h2 => ?_) (fun h2 => ?_)
  · exact absurd h2 (nI_ge (a := t) (b := 6) ht (by decide))
  refine tv_aload_n X dX3_contactOf_10 rfl ?_
  refine mm_getf X dX3_contactOf_11 gX3 iX3_contactOf_X3 rfl 3 (by decide) kX3_contactOf_23 rfl ?_
  refine tv_iload_n X dX3_contactOf_14 rfl ?_
  refine mm_iald X dX3_contactOf_15 g126 _ rfl (by omega) (by decide) ?_
  refine tv_goto (tgt := 20) X dX3_contactOf_16 (by decide) ?_
  exact tv_iret X hrt dX3_contactOf_20 ⟨_, rfl, rfl, rfl⟩
theorem iX3_wholeCost_X3 : ∀ w ∈ wsX30, w ∈ wsX3_wholeCost := by decide +kernel
theorem kX3_wholeCost_20 : Cond.fieldLink RX3 20 (TX3 2).1 (TX3 2).2.1 (TX3 2).2.2.1 ∈ wsX3_wholeCost := by decide +kernel
theorem cX3_wholeCost_ok : mMi l yX3_wholeCost wsX3_wholeCost rmX3_wholeCost D n0 ft [.ref (n0 + 109)] n S (fun r S' => S' = S ∧ r = S.1 119 0) := by
  refine tv_enter (cc := cX3_wholeCost) (maxL := 1) (ret := (some .int)) (by decide) rfl (Nat.le_of_ble_eq_true rfl) ?_
  intro p e s m args below meth c X hrt hnm hargs
  refine tv_aload_n X dX3_wholeCost_0 rfl ?_
  refine mm_getf X dX3_wholeCost_1 gX3 iX3_wholeCost_X3 rfl 2 (by decide) kX3_wholeCost_20 rfl ?_
  refine tv_iconst (v := 0) X dX3_wholeCost_4 (by decide) ?_
  refine mm_aald X dX3_wholeCost_5 g118 rfl 0 rfl (by decide) (if_pos (by decide)) (by decide) ?_
  refine tv_iconst (v := 0) X dX3_wholeCost_6 (by decide) ?_
  refine mm_iald X dX3_wholeCost_7 (g119 (by decide)) 0 rfl (by decide) (by decide) ?_
  exact tv_iret X hrt dX3_wholeCost_8 ⟨_, rfl, rfl, rfl⟩
theorem iX3_nextUnassigned_X3 : ∀ w ∈ wsX30, w ∈ wsX3_nextUnassigned := by decide +kernel
theorem kX3_nextUnassigned_77 : Cond.fieldLink RX3 77 (TX3 4).1 (TX3 4).2.1 (TX3 4).2.2.1 ∈ wsX3_nextUnassigned := by decide +kernel
theorem kX3_nextUnassigned_32 : Cond.fieldLink RX3 32 (TX3 5).1 (TX3 5).2.1 (TX3 5).2.2.1 ∈ wsX3_nextUnassigned := by decide +kernel
/-- the first of the contacts from i on that is not taken; k if there is none -/
def nxU (tk k : Nat) : Nat → Nat → Nat
  | 0, i => i
  | d + 1, i => if tk.testBit i then nxU tk k d (i + 1) else i
theorem cX3_nextUnassigned_ok {k tk i0 : Nat} (hk : S.1 109 5 = nI k) (hk6 : k ≤ 6) (htk : S.1 109 4 = nI tk) (htk6 : tk < 64) (hi0 : i0 ≤ k) : mMi l yX3_nextUnassigned wsX3_nextUnassigned rmX3_nextUnassigned D n0 ft [.ref (n0 + 109), .int (nI i0)] n S (fun r S' => S' = S ∧ r = nI (nxU tk k (k - i0) i0)) := by
  refine tv_enter (cc := cX3_nextUnassigned) (maxL := 3) (ret := (some .int)) (by decide) rfl (Nat.le_of_ble_eq_true rfl) ?_
  intro p e s m args below meth c X hrt hnm hargs
  refine tv_iload_n X dX3_nextUnassigned_0 rfl ?_
  refine tv_istore_n X dX3_nextUnassigned_1 rfl ?_
  refine mm_loop (ι := Nat) (fun i => i ≤ k ∧ nxU tk k (k - i) i = nxU tk k (k - i0) i0) (fun i => k - i) (fun i => [(0, .ref (n0 + 109)), (1, .int (nI i0)), (2, .int (nI i))]) (fun _ => S) i0 ⟨hi0, rfl⟩ ?_
  intro i hi ih
  refine tv_iload_n X dX3_nextUnassigned_2 rfl ?_
  refine tv_aload_n X dX3_nextUnassigned_3 rfl ?_
  refine mm_getf X dX3_nextUnassigned_4 gX3 iX3_nextUnassigned_X3 rfl 5 (by decide) kX3_nextUnassigned_32 rfl ?_
  rw [hk]
  refine tv_icmp_ge (tgt := 29) X dX3_nextUnassigned_7 (by decide) (fun h1 => ?_) (fun h1 => ?_)
  · refine tv_aload_n X dX3_nextUnassigned_29 rfl ?_
    refine mm_getf X dX3_nextUnassigned_30 gX3 iX3_nextUnassigned_X3 rfl 5 (by decide) kX3_nextUnassigned_32 rfl ?_
    have hik : i = k := Nat.le_antisymm hi.1 (Nat.le_of_not_lt fun h => nI_ge h (by omega) h1)
    refine tv_iret X hrt dX3_nextUnassigned_33 ⟨_, rfl, rfl, ?_⟩
    rw [hk, ← hi.2, hik, Nat.sub_self]
    rfl
  have hik : i < k := Nat.lt_of_not_le fun h => h1 (nI_le h (by omega))
  have hs : nxU tk k (k - i) i = if tk.testBit i then nxU tk k (k - (i + 1)) (i + 1) else i := by
    rw [show k - i = (k - (i + 1)) + 1 by omega]; rfl
  refine tv_aload_n X dX3_nextUnassigned_10 rfl ?_
  refine mm_getf X dX3_nextUnassigned_11 gX3 iX3_nextUnassigned_X3 rfl 4 (by decide) kX3_nextUnassigned_77 rfl ?_
  refine tv_iconst (v := 1) X dX3_nextUnassigned_14 (by decide) ?_
  refine tv_iload_n X dX3_nextUnassigned_15 rfl ?_
  refine tv_ishl X dX3_nextUnassigned_16 ?_
  refine tv_iand X dX3_nextUnassigned_17 ?_
  rw [htk]
  refine tv_if_ne (tgt := 23) X dX3_nextUnassigned_18 (by decide) (fun h2 => ?_) (fun h2 => ?_)
  · have hb1 : tk.testBit i = true := by
      cases hx : tk.testBit i with
      | true => rfl
      | false => exact absurd ((and6 tk htk6 i (by omega)).mpr hx) h2
    rw [hb1, if_pos rfl] at hs
    refine tv_iinc X dX3_nextUnassigned_23 rfl (nI_1 i) rfl ?_
    refine tv_goto (tgt := 2) X dX3_nextUnassigned_26 (by decide) ?_
    exact ih (i + 1) ⟨hik, by rw [← hs]; exact hi.2⟩ (by omega)
  · have hb1 : tk.testBit i = false := (and6 tk htk6 i (by omega)).mp h2
    rw [hb1, if_neg (by decide)] at hs
    refine tv_iload_n X dX3_nextUnassigned_21 rfl ?_
    exact tv_iret X hrt dX3_nextUnassigned_22 ⟨_, rfl, rfl, by rw [← hi.2, hs]⟩
theorem iX3_pairCost_X8 : ∀ w ∈ wsX80, w ∈ wsX3_pairCost := by decide +kernel
/-- the cost of a track with a contact, by the rows of the picture -/
def wayS (S : mS) (b t c : Nat) : Int32 := (S.1 (b + 6 + t) 1 - S.1 105 c) * (S.1 (b + 6 + t) 1 - S.1 105 c) + (S.1 (b + 6 + t) 2 - S.1 106 c) * (S.1 (b + 6 + t) 2 - S.1 106 c)
def pcS (S : mS) (b : Nat) (lim : Int32) (t c : Nat) : Int32 := if S.1 (b + 6 + t) 0 = 0 then -1 else if wayS S b t c ≤ lim then wayS S b t c else -1
theorem cX3_pairCost_ok (hb : mst b = true) {t c1 k : Nat} (ht : t < 6) (hk : S.1 103 5 = nI k) (hk6 : k ≤ 6) (hc : c1 < k) (lim : Int32) : mMi l yX3_pairCost wsX3_pairCost rmX3_pairCost D n0 ft [.ref (n0 + (b + 6 + t)), .ref (n0 + 103), .int (nI c1), .int lim] n S (fun r S' => S' = S ∧ r = pcS S b lim t c1) := by
  refine tv_enter (cc := cX3_pairCost) (maxL := 5) (ret := (some .int)) (by decide) rfl (Nat.le_of_ble_eq_true rfl) ?_
  intro p e s m args below meth c X hrt hnm hargs
  refine tv_aload_n X dX3_pairCost_0 rfl ?_
  refine mm_getfN X dX3_pairCost_1 (gX8 hb ht) iX3_pairCost_X8 rfl 0 (by decide) nF1 rfl ?_
  refine tv_if_ne (tgt := 9) X dX3_pairCost_4 (by decide) (fun h1 => ?_) (fun h1 => ?_)
  rotate_left
  · refine tv_iconst (v := -1) X dX3_pairCost_7 (by decide) ?_
    exact tv_iret X hrt dX3_pairCost_8 ⟨_, rfl, rfl, (if_pos h1).symm⟩
  refine tv_aload_n X dX3_pairCost_9 rfl ?_
  refine tv_aload_n X dX3_pairCost_10 rfl ?_
  refine tv_iload_n X dX3_pairCost_11 rfl ?_
  refine mm_callVi (q := (RX1, TX1, 6)) X dX3_pairCost_12 (cX1_rowOf_ok hk hk6 hc) (cwV 1 X.2.2.2.2.1 gX3_pairCost_X1_rowOf rfl rfl rfl (by decide +kernel) ⟨Nat.le_of_ble_eq_true rfl, Nat.le_of_ble_eq_true rfl⟩) rfl rfl gX1 rfl (Nat.le_of_ble_eq_true rfl) ⟨Nat.zero_le _, Nat.zero_le _⟩ (fun r S1 hq => ?_)
  obtain ⟨hq1, hq2⟩ := hq
  rw [hq1, hq2]
  refine tv_aload_n X dX3_pairCost_15 rfl ?_
  refine tv_iload_n X dX3_pairCost_16 rfl ?_
  refine mm_callVi (q := (RX1, TX1, 6)) X dX3_pairCost_17 (cX1_columnOf_ok hk hk6 hc) (cwV 1 X.2.2.2.2.1 gX3_pairCost_X1_columnOf rfl rfl rfl (by decide +kernel) ⟨Nat.le_of_ble_eq_true rfl, Nat.le_of_ble_eq_true rfl⟩) rfl rfl gX1 rfl (Nat.le_of_ble_eq_true rfl) ⟨Nat.zero_le _, Nat.zero_le _⟩ (fun r S1 hq => ?_)
  obtain ⟨hq1, hq2⟩ := hq
  rw [hq1, hq2]
  refine mm_callVi (q := (RX8, TX8, 5)) X dX3_pairCost_20 (cX8_squaredWayTo_ok hb ht _ _) (cwV 2 X.2.2.2.2.1 gX3_pairCost_X8_squaredWayTo rfl rfl rfl (by decide +kernel) ⟨Nat.le_of_ble_eq_true rfl, Nat.le_of_ble_eq_true rfl⟩) rfl rfl (gX8 hb ht) rfl (Nat.le_of_ble_eq_true rfl) ⟨Nat.zero_le _, Nat.zero_le _⟩ (fun r S1 hq => ?_)
  obtain ⟨hq1, hq2⟩ := hq
  rw [hq1, hq2]
  refine tv_istore X dX3_pairCost_23 rfl ?_
  refine tv_iload X dX3_pairCost_25 rfl ?_
  refine tv_iload_n X dX3_pairCost_27 rfl ?_
  have hw : (S.1 (b + 6 + t) 1 - S.1 105 c1) * (S.1 (b + 6 + t) 1 - S.1 105 c1) + (S.1 (b + 6 + t) 2 - S.1 106 c1) * (S.1 (b + 6 + t) 2 - S.1 106 c1) = wayS S b t c1 := rfl
  rw [hw]
  refine tv_icmp_gt (tgt := 36) X dX3_pairCost_28 (by decide) (fun h2 => ?_) (fun h2 => ?_)
  · refine tv_iconst (v := -1) X dX3_pairCost_36 (by decide) ?_
    refine tv_iret X hrt dX3_pairCost_37 ⟨_, rfl, rfl, ?_⟩
    unfold pcS
    rw [if_neg h1, if_neg (Int32.not_le.mpr h2)]
  · refine tv_iload X dX3_pairCost_31 rfl ?_
    refine tv_goto (tgt := 37) X dX3_pairCost_33 (by decide) ?_
    refine tv_iret X hrt dX3_pairCost_37 ⟨_, rfl, rfl, ?_⟩
    unfold pcS
    rw [if_neg h1, if_pos (Int32.not_lt.mp h2)]
end C21

