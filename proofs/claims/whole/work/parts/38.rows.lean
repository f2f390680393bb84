theorem kpS_n {S : mS} {k q : Nat} (h : q ≠ 130 ∧ q ≠ 131) : (kpS S k).1 q = S.1 q := by
  unfold kpS
  split <;> rw [mset_n h.2, mupd_n h.1]
theorem kpS_130 {S : mS} {k i : Nat} (h : i ≠ 2) : (kpS S k).1 130 i = S.1 130 i := by
  unfold kpS
  split <;> rw [mset_n (by decide), mupd_sn h]
theorem kpS_k {S : mS} {k : Nat} (h : k ≤ 6) : (kpS S k).1 130 2 = nI (min (k + 1) 6) := by
  unfold kpS
  split
  · rw [mset_n (by decide), mupd_ss, Nat.min_eq_left (by omega)]
  · rw [mset_n (by decide), mupd_ss, Nat.min_eq_right (by omega)]
theorem rgR_of {S T : mS} (h : rgR S) (he : ∀ j, j < 97 → T.1 131 j = S.1 131 j) : rgR T := by
  refine ⟨fun j hj => ?_, ?_⟩
  · rw [he j (by omega)]; exact h.1 j hj
  · rw [he 96 (by decide)]; exact h.2
theorem rgR_kp {S : mS} {k : Nat} (h : rgR S) : rgR (kpS S k) := rgR_of h fun _ hj => kpS_131 (by omega)
theorem rgR_ag {S T : mS} (h : rgR S) (he : T.1 131 = S.1 131) : rgR T := rgR_of h fun j _ => by rw [he]
/-- scanning changes what it may -/
noncomputable def scD (S : mS) : mS := scE (fmE (fcE (frD S)))
noncomputable def scV (S : mS) : Int32 := (scQ (fmE (fcE (frD S)))).2.2
theorem mupd_lo {S : mS} {k j : Nat} {v : Int32} (h : j < 101) (hk : 101 ≤ k) : (mupd S 131 k v).1 131 j = S.1 131 j := mupd_sn (by omega)
theorem scF_lo {left : Int32} {k : Nat} {q : mS × Nat × Int32} {t j : Nat} (h : j < 101) : (scF left k q t).1.1 131 j = q.1.1 131 j := by
  unfold scF
  split
  · split
    · show (msS q.1 t).1 131 j = _
      unfold msS msT
      rw [mupd_lo h (by omega), mupd_lo h (by omega), mupd_lo h (by omega)]
    · show (ptS q.1 t _ _).1 131 j = _
      unfold ptS
      rw [mupd_lo h (by omega), mupd_lo h (by omega), mupd_lo h (by omega), mupd_lo h (by omega), mupd_lo h (by omega)]
  · split
    · show (gdS q.1 t _).1 131 j = _
      unfold gdS ptS
      rw [mupd_lo h (by omega), mupd_lo h (by omega), mupd_lo h (by omega), mupd_lo h (by omega), mupd_lo h (by omega), mupd_lo h (by omega)]
    · rfl
theorem scT_lo {S : mS} {left : Int32} {k j : Nat} (h : j < 101) : ∀ t, (scT S left k t).1.1 131 j = S.1 131 j
  | 0 => rfl
  | t + 1 => (scF_lo h).trans (scT_lo h t)
theorem scE_lo {S : mS} {j : Nat} (h : j < 101) : (scE S).1 131 j = S.1 131 j := by
  unfold scE scQ
  rw [mupd_lo h (by decide), scT_lo h]
theorem scE_n {S : mS} {q : Nat} (h : q ≠ 131) : (scE S).1 q = S.1 q := by
  unfold scE scQ
  rw [mupd_n h]
  exact (scT_ok 6).2 q h
theorem fmE_n {S : mS} {q : Nat} (h : q ≠ 140 ∧ q ≠ 141) : (fmE S).1 q = S.1 q := by
  unfold fmE
  rw [mset_n h.2, mset_n h.1]
theorem fcE_130 {S : mS} {i : Nat} (h : i ≠ 17) : (fcE S).1 130 i = S.1 130 i := by
  have h1 : ∀ m T, (fdS m T).1 130 i = T.1 130 i := by
    intro m
    induction m with
    | zero => intro T; rfl
    | succ m ih =>
      intro T
      show (if m + 1 ≤ 6 then T else fdS m (drpS T m)).1 130 i = _
      split
      · rfl
      · rw [ih]
        unfold drpS drpT
        rw [mset_n (by decide), mset_n (by decide), mset_n (by decide), mset_n (by decide), mupd_sn h]
  have h2 : ∀ j, (fcT S j).1 130 i = S.1 130 i := by
    intro j
    induction j with
    | zero => exact mupd_sn h
    | succ j ih =>
      show (if pkM S j 48 then layS (fcT S j) j (fcN S j) else fcT S j).1 130 i = _
      split
      · unfold layS
        rw [mupd_sn h, mupd_n (by decide), mupd_n (by decide), mupd_n (by decide), mupd_n (by decide), ih]
      · exact ih
  exact (h1 _ _).trans (h2 48)
theorem scD_lo {S : mS} {j : Nat} (h : j < 101) : (scD S).1 131 j = S.1 131 j := by
  unfold scD
  rw [scE_lo h, fmE_n (by decide), fcE_n (by decide), frD_n (by decide)]
theorem scD_130 {S : mS} {i : Nat} (h : i ≠ 17) : (scD S).1 130 i = S.1 130 i := by
  unfold scD
  rw [scE_n (by decide), fmE_n (by decide), fcE_130 h, frD_n (by decide)]
theorem scD_n {S : mS} {q : Nat} (h : q < 130 ∨ q = 132) : (scD S).1 q = S.1 q := by
  unfold scD
  rw [scE_n (by omega), fmE_n (by omega), fcE_n (by omega), frD_n (by omega)]
/-- the numbers that a press adds -/
theorem prA_N (c k : Nat) {f : Nat} (hf : f < 256) : ∃ w, w < 256 ∧ prA c k (nI f) = nI w := by
  unfold prA
  split
  · exact ⟨f, hf, rfl⟩
  · split
    · exact ⟨f / 2, by omega, pk_div (d := 2) (by omega) (by decide) (by decide)⟩
    · split
      · exact ⟨f / 4, by omega, pk_div (d := 4) (by omega) (by decide) (by decide)⟩
      · exact ⟨0, by decide, rfl⟩
theorem pr255_N {a : Nat} (h : a < 1024) : ∃ w, w < 256 ∧ pr255 (nI a) = nI w := by
  unfold pr255
  by_cases h2 : 255 < a
  · rw [if_pos (show (255 : Int32) < nI a from nI_lt (a := 255) h2 (by omega))]; exact ⟨255, by decide, rfl⟩
  · rw [if_neg (show ¬ (255 : Int32) < nI a from nI_nlt (a := 255) (b := a) (by omega) (by decide))]; exact ⟨a, by omega, rfl⟩
theorem rgR_pr {S : mS} {c f : Nat} (h : rgR S) (hf : f < 256) : rgR (mset S 131 (prF (S.1 131) c (nI f) 48)) := by
  refine ⟨fun j hj => ?_, ?_⟩
  · rw [mset_s]
    show ∃ v, v < 256 ∧ (if j < 48 then pr255 (S.1 131 j + prA c j (nI f)) else S.1 131 j) = nI v
    obtain ⟨v, hv, ev⟩ := h.1 j hj
    split
    · obtain ⟨w, hw, ew⟩ := prA_N c j hf
      rw [ev, ew, nI_add]
      exact pr255_N (by omega)
    · exact ⟨v, hv, ev⟩
  · rw [mset_s]; exact h.2
theorem rgR_zt {S : mS} (h : rgR S) : rgR (mset S 131 (zt (S.1 131) 48)) := by
  refine ⟨fun j hj => ?_, ?_⟩
  · rw [mset_s]
    show ∃ v, v < 256 ∧ (if j < 48 then 0 else S.1 131 j) = nI v
    split
    · exact ⟨0, by decide, rfl⟩
    · exact h.1 j hj
  · rw [mset_s]; exact h.2
theorem rgR_ca {S : mS} (h : rgR S) : rgR (mset S 131 (caF (S.1 131) 48)) := by
  refine ⟨fun j hj => ?_, ?_⟩
  · rw [mset_s]
    show ∃ v, v < 256 ∧ (if 48 ≤ j ∧ j < 48 + 48 then S.1 131 (j - 48) else S.1 131 j) = nI v
    split
    · exact h.1 _ (by omega)
    · exact h.1 j hj
  · rw [mset_s]; exact h.2
/-- one command carried out -/
noncomputable def exM (T : mS) (ev : Int32) : mS × Int32 :=
  if T.1 130 6 = 112 then (mset T 131 (prF (T.1 131) (6 * T.1 130 7 + T.1 130 8).toNatClampNeg (T.1 130 9) 48), ev)
  else if T.1 130 6 = 120 then (mset T 131 (zt (T.1 131) 48), ev)
  else if T.1 130 6 = 98 then (mset T 131 (caF (T.1 131) 48), ev)
  else (scD T, ev + scV T)
theorem cellI (i j : Nat) : (6 : Int32) * nI i + nI j = nI (6 * i + j) := by
  rw [show (6 : Int32) = nI 6 from rfl, pk_mul, nI_add]
theorem exM_ok {T : mS} {ev : Int32} (h : rgR T) (hk : rcK T) : rgR (exM T ev).1 ∧ (∀ q, q < 130 ∨ q = 132 → (exM T ev).1.1 q = T.1 q) ∧ (∀ i, i ≠ 17 → (exM T ev).1.1 130 i = T.1 130 i) := by
  unfold exM
  split
  · rename_i h1
    obtain ⟨r, c, f, hr, hc, hf0, hf, e1, e2, e3⟩ := hk h1
    rw [e1, e2, e3]
    exact ⟨rgR_pr h hf, fun q hq => mset_n (by omega), fun i _ => by rw [mset_n (by decide)]⟩
  · split
    · exact ⟨rgR_zt h, fun q hq => mset_n (by omega), fun i _ => by rw [mset_n (by decide)]⟩
    · split
      · exact ⟨rgR_ca h, fun q hq => mset_n (by omega), fun i _ => by rw [mset_n (by decide)]⟩
      · exact ⟨rgR_of h fun j hj => scD_lo (by omega), fun q hq => scD_n hq, fun i hi => scD_130 hi⟩
/-- carrying out a text -/
noncomputable def rtL (len : Nat) : Nat → Nat → mS → Int32 → mS × Int32
  | 0, _, T, ev => (T, ev)
  | m + 1, a, T, ev => if (rcQ T len a).1 = false then ((rcQ T len a).2.2, ev) else if sgA T len (rcQ T len a).2.1 = 59 then rtL len m ((rcQ T len a).2.1 + 1) (mupd (exM (rcQ T len a).2.2 ev).1 130 5 (nI ((rcQ T len a).2.1 + 1))) (exM (rcQ T len a).2.2 ev).2 else rtL len m (rcQ T len a).2.1 (exM (rcQ T len a).2.2 ev).1 (exM (rcQ T len a).2.2 ev).2
noncomputable def rtS (S : mS) (len k : Nat) : mS × Int32 := rtL len (len + 1) 0 (mupd (kpS (mupd (vdS S len).2.2 130 0 0) k) 130 5 0) 0
section C38
variable {l : Launch} {D : va_G} {n0 : Nat} {ft : Nat × Nat × Nat} {n : Nat} {S : mS} {b : Nat} {len a k : Nat}
theorem cX10_setRaw_ok (hk : S.1 130 2 = nI k) (hk6 : k ≤ 6) (x y v : Int32) : mMi l yX10_setRaw wsX10_setRaw rmX10_setRaw D n0 ft [.ref (n0 + 130), .int x, .int y, .int v] n S (fun r S' => (¬ onP x y ∧ S' = mupd S 130 0 1) ∨ (onP x y ∧ inI v 0 255 = false ∧ S' = mupd S 130 0 2) ∨ ∃ i j, i < 8 ∧ j < 6 ∧ x = nI i ∧ y = nI j ∧ inI v 0 255 = true ∧ S' = mupd (kpS (mupd S 130 0 0) k) 131 (6 * i + j) v ∧ r = (kpS (mupd S 130 0 0) k).1 131 (6 * i + j)) := by
  refine tv_enter (cc := cX10_setRaw) (maxL := 4) (ret := (some .int)) (by decide) rfl (Nat.le_of_ble_eq_true rfl) ?_
  intro p e s m args below meth c X hrt hnm hargs
  refine tv_aload_n X dX10_setRaw_0 rfl ?_
  refine tv_iload_n X dX10_setRaw_1 rfl ?_
  refine tv_iload_n X dX10_setRaw_2 rfl ?_
  refine mm_callSi X dX10_setRaw_3 (cX10_isCell_ok x y) (va_cwS 2 X.2.2.2.2.1 gX10_setRaw_X10_isCell rfl rfl rfl (by decide +kernel) ⟨Nat.le_of_ble_eq_true rfl, Nat.le_of_ble_eq_true rfl⟩) rfl rfl (Nat.le_of_ble_eq_true rfl) ⟨Nat.zero_le _, Nat.zero_le _⟩ (fun r S1 hq => ?_)
  obtain ⟨hq1, ⟨hq2, hon⟩ | ⟨hq2, hon⟩⟩ := hq
  rotate_left
  · rw [hq1, hq2]
    clear hq1 hq2
    refine tv_if_ne (tgt := 13) X dX10_setRaw_6 (by decide) (fun h1 => ?_) (fun h1 => ?_)
    · exact absurd rfl h1
    refine tv_iconst (v := 1) X dX10_setRaw_9 (by decide) ?_
    refine tv_goto (tgt := 29) X dX10_setRaw_10 (by decide) ?_
    refine mm_callVi (q := (RX10, TX10, 20)) X dX10_setRaw_29 (cX10_holds_ok 1) (cwV 1 X.2.2.2.2.1 gX10_setRaw_X10_holds rfl rfl rfl (by decide +kernel) ⟨Nat.le_of_ble_eq_true rfl, Nat.le_of_ble_eq_true rfl⟩) rfl rfl gX10 rfl (Nat.le_of_ble_eq_true rfl) ⟨Nat.zero_le _, Nat.zero_le _⟩ (fun r S1 hq => ?_)
    obtain ⟨hq1, hq2⟩ := hq
    rw [hq1, hq2]
    refine tv_if_eq (tgt := 51) X dX10_setRaw_32 (by decide) (fun h2 => ?_) (fun h2 => ?_)
    rotate_left
    · exact absurd (show bz (decide ((1 : Int32) = 0)) = 0 by decide) h2
    refine tv_iconst (v := 0) X dX10_setRaw_51 (by decide) ?_
    exact tv_iret X hrt dX10_setRaw_52 ⟨_, rfl, Or.inl ⟨hon, rfl⟩⟩
  rw [hq1, hq2]
  clear hq1 hq2
  refine tv_if_ne (tgt := 13) X dX10_setRaw_6 (by decide) (fun h1 => ?_) (fun h1 => ?_)
  rotate_left
  · exact absurd h1 (by decide)
  refine tv_iload_n X dX10_setRaw_13 rfl ?_
  refine tv_iconst (v := 0) X dX10_setRaw_14 (by decide) ?_
  refine tv_sipush (v := 255) X dX10_setRaw_15 (by decide) ?_
  refine mm_callSi X dX10_setRaw_18 (cX10_in_ok _ _ _) (va_cwS 3 X.2.2.2.2.1 gX10_setRaw_X10_in rfl rfl rfl (by decide +kernel) ⟨Nat.le_of_ble_eq_true rfl, Nat.le_of_ble_eq_true rfl⟩) rfl rfl (Nat.le_of_ble_eq_true rfl) ⟨Nat.zero_le _, Nat.zero_le _⟩ (fun r S1 hq => ?_)
  obtain ⟨hq1, hq2⟩ := hq
  rw [hq1, hq2]
  clear hq1 hq2
  cases hv : inI v 0 255 with
  | false =>
    refine tv_if_ne (tgt := 28) X dX10_setRaw_21 (by decide) (fun h2 => ?_) (fun h2 => ?_)
    · exact absurd rfl h2
    refine tv_iconst (v := 2) X dX10_setRaw_24 (by decide) ?_
    refine tv_goto (tgt := 29) X dX10_setRaw_25 (by decide) ?_
    refine mm_callVi (q := (RX10, TX10, 20)) X dX10_setRaw_29 (cX10_holds_ok 2) (cwV 1 X.2.2.2.2.1 gX10_setRaw_X10_holds rfl rfl rfl (by decide +kernel) ⟨Nat.le_of_ble_eq_true rfl, Nat.le_of_ble_eq_true rfl⟩) rfl rfl gX10 rfl (Nat.le_of_ble_eq_true rfl) ⟨Nat.zero_le _, Nat.zero_le _⟩ (fun r S1 hq => ?_)
    obtain ⟨hq1, hq2⟩ := hq
    rw [hq1, hq2]
    refine tv_if_eq (tgt := 51) X dX10_setRaw_32 (by decide) (fun h2 => ?_) (fun h2 => ?_)
    rotate_left
    · exact absurd (show bz (decide ((2 : Int32) = 0)) = 0 by decide) h2
    refine tv_iconst (v := 0) X dX10_setRaw_51 (by decide) ?_
    exact tv_iret X hrt dX10_setRaw_52 ⟨_, rfl, Or.inr (Or.inl ⟨hon, rfl, rfl⟩)⟩
  | true =>
    refine tv_if_ne (tgt := 28) X dX10_setRaw_21 (by decide) (fun h2 => ?_) (fun h2 => ?_)
    rotate_left
    · exact absurd h2 (by decide)
    refine tv_iconst (v := 0) X dX10_setRaw_28 (by decide) ?_
    refine mm_callVi (q := (RX10, TX10, 20)) X dX10_setRaw_29 (cX10_holds_ok 0) (cwV 1 X.2.2.2.2.1 gX10_setRaw_X10_holds rfl rfl rfl (by decide +kernel) ⟨Nat.le_of_ble_eq_true rfl, Nat.le_of_ble_eq_true rfl⟩) rfl rfl gX10 rfl (Nat.le_of_ble_eq_true rfl) ⟨Nat.zero_le _, Nat.zero_le _⟩ (fun r S1 hq => ?_)
    obtain ⟨hq1, hq2⟩ := hq
    rw [hq1, hq2]
    clear hq1 hq2
    refine tv_if_eq (tgt := 51) X dX10_setRaw_32 (by decide) (fun h2 => ?_) (fun h2 => ?_)
    · exact absurd h2 (by decide)
    obtain ⟨⟨i, hi, rfl⟩, j, hj, rfl⟩ := hon
    have hk' : (mupd S 130 0 0).1 130 2 = nI k := by rw [mupd_sn (by decide)]; exact hk
    refine tv_aload_n X dX10_setRaw_35 rfl ?_
    refine tv_iconst (v := 0) X dX10_setRaw_36 (by decide) ?_
    refine tv_bipush (v := 6) X dX10_setRaw_37 (by decide) ?_
    refine tv_iload_n X dX10_setRaw_39 rfl ?_
    refine tv_imul X dX10_setRaw_40 ?_
    refine tv_iadd X dX10_setRaw_41 ?_
    refine tv_iload_n X dX10_setRaw_42 rfl ?_
    refine tv_iadd X dX10_setRaw_43 ?_
    refine tv_iload_n X dX10_setRaw_44 rfl ?_
    refine mm_callVi (q := (RX10, TX10, 20)) X dX10_setRaw_45 (cX10_changed_ok hk' hk6 (6 * i + j) (by rw [Int32.zero_add, cellI]) (by omega) v) (cwV 2 X.2.2.2.2.1 gX10_setRaw_X10_changed rfl rfl rfl (by decide +kernel) ⟨Nat.le_of_ble_eq_true rfl, Nat.le_of_ble_eq_true rfl⟩) rfl rfl gX10 rfl (Nat.le_of_ble_eq_true rfl) ⟨Nat.zero_le _, Nat.zero_le _⟩ (fun r S1 hq => ?_)
    obtain ⟨hq1, hq2⟩ := hq
    rw [hq1, hq2]
    refine tv_goto (tgt := 52) X dX10_setRaw_48 (by decide) ?_
    exact tv_iret X hrt dX10_setRaw_52 ⟨_, rfl, Or.inr (Or.inr ⟨i, j, hi, hj, rfl, rfl, rfl, rfl, rfl⟩)⟩
theorem cX10_press_ok (hk : S.1 130 2 = nI k) (hk6 : k ≤ 6) (x y v : Int32) : mMi l yX10_press wsX10_press rmX10_press D n0 ft [.ref (n0 + 130), .int x, .int y, .int v] n S (fun r S' => (¬ onP x y ∧ S' = mupd S 130 0 1) ∨ (onP x y ∧ inI v 1 255 = false ∧ S' = mupd S 130 0 2) ∨ ∃ i j, i < 8 ∧ j < 6 ∧ x = nI i ∧ y = nI j ∧ inI v 1 255 = true ∧ S' = mset (kpS (mupd S 130 0 0) k) 131 (prF ((kpS (mupd S 130 0 0) k).1 131) (6 * i + j) v 48) ∧ r = prF ((kpS (mupd S 130 0 0) k).1 131) (6 * i + j) v 48 (6 * i + j)) := by
  refine tv_enter (cc := cX10_press) (maxL := 4) (ret := (some .int)) (by decide) rfl (Nat.le_of_ble_eq_true rfl) ?_
  intro p e s m args below meth c X hrt hnm hargs
  refine tv_aload_n X dX10_press_0 rfl ?_
  refine tv_iload_n X dX10_press_1 rfl ?_
  refine tv_iload_n X dX10_press_2 rfl ?_
  refine mm_callSi X dX10_press_3 (cX10_isCell_ok x y) (va_cwS 2 X.2.2.2.2.1 gX10_press_X10_isCell rfl rfl rfl (by decide +kernel) ⟨Nat.le_of_ble_eq_true rfl, Nat.le_of_ble_eq_true rfl⟩) rfl rfl (Nat.le_of_ble_eq_true rfl) ⟨Nat.zero_le _, Nat.zero_le _⟩ (fun r S1 hq => ?_)
  obtain ⟨hq1, ⟨hq2, hon⟩ | ⟨hq2, hon⟩⟩ := hq
  rotate_left
  · rw [hq1, hq2]
    clear hq1 hq2
    refine tv_if_ne (tgt := 13) X dX10_press_6 (by decide) (fun h1 => ?_) (fun h1 => ?_)
    · exact absurd rfl h1
    refine tv_iconst (v := 1) X dX10_press_9 (by decide) ?_
    refine tv_goto (tgt := 29) X dX10_press_10 (by decide) ?_
    refine mm_callVi (q := (RX10, TX10, 20)) X dX10_press_29 (cX10_holds_ok 1) (cwV 1 X.2.2.2.2.1 gX10_press_X10_holds rfl rfl rfl (by decide +kernel) ⟨Nat.le_of_ble_eq_true rfl, Nat.le_of_ble_eq_true rfl⟩) rfl rfl gX10 rfl (Nat.le_of_ble_eq_true rfl) ⟨Nat.zero_le _, Nat.zero_le _⟩ (fun r S1 hq => ?_)
    obtain ⟨hq1, hq2⟩ := hq
    rw [hq1, hq2]
    refine tv_if_ne (tgt := 37) X dX10_press_32 (by decide) (fun h2 => ?_) (fun h2 => ?_)
    · exact absurd (show bz (decide ((1 : Int32) = 0)) = 0 by decide) h2
    refine tv_iconst (v := 0) X dX10_press_35 (by decide) ?_
    exact tv_iret X hrt dX10_press_36 ⟨_, rfl, Or.inl ⟨hon, rfl⟩⟩
  rw [hq1, hq2]
  clear hq1 hq2
  refine tv_if_ne (tgt := 13) X dX10_press_6 (by decide) (fun h1 => ?_) (fun h1 => ?_)
  rotate_left
  · exact absurd h1 (by decide)
  refine tv_iload_n X dX10_press_13 rfl ?_
  refine tv_iconst (v := 1) X dX10_press_14 (by decide) ?_
  refine tv_sipush (v := 255) X dX10_press_15 (by decide) ?_
  refine mm_callSi X dX10_press_18 (cX10_in_ok _ _ _) (va_cwS 3 X.2.2.2.2.1 gX10_press_X10_in rfl rfl rfl (by decide +kernel) ⟨Nat.le_of_ble_eq_true rfl, Nat.le_of_ble_eq_true rfl⟩) rfl rfl (Nat.le_of_ble_eq_true rfl) ⟨Nat.zero_le _, Nat.zero_le _⟩ (fun r S1 hq => ?_)
  obtain ⟨hq1, hq2⟩ := hq
  rw [hq1, hq2]
  clear hq1 hq2
  cases hv : inI v 1 255 with
  | false =>
    refine tv_if_ne (tgt := 28) X dX10_press_21 (by decide) (fun h2 => ?_) (fun h2 => ?_)
    · exact absurd rfl h2
    refine tv_iconst (v := 2) X dX10_press_24 (by decide) ?_
    refine tv_goto (tgt := 29) X dX10_press_25 (by decide) ?_
    refine mm_callVi (q := (RX10, TX10, 20)) X dX10_press_29 (cX10_holds_ok 2) (cwV 1 X.2.2.2.2.1 gX10_press_X10_holds rfl rfl rfl (by decide +kernel) ⟨Nat.le_of_ble_eq_true rfl, Nat.le_of_ble_eq_true rfl⟩) rfl rfl gX10 rfl (Nat.le_of_ble_eq_true rfl) ⟨Nat.zero_le _, Nat.zero_le _⟩ (fun r S1 hq => ?_)
    obtain ⟨hq1, hq2⟩ := hq
    rw [hq1, hq2]
    refine tv_if_ne (tgt := 37) X dX10_press_32 (by decide) (fun h2 => ?_) (fun h2 => ?_)
    · exact absurd (show bz (decide ((2 : Int32) = 0)) = 0 by decide) h2
    refine tv_iconst (v := 0) X dX10_press_35 (by decide) ?_
    exact tv_iret X hrt dX10_press_36 ⟨_, rfl, Or.inr (Or.inl ⟨hon, rfl, rfl⟩)⟩
  | true =>
    refine tv_if_ne (tgt := 28) X dX10_press_21 (by decide) (fun h2 => ?_) (fun h2 => ?_)
    rotate_left
    · exact absurd h2 (by decide)
    refine tv_iconst (v := 0) X dX10_press_28 (by decide) ?_
    refine mm_callVi (q := (RX10, TX10, 20)) X dX10_press_29 (cX10_holds_ok 0) (cwV 1 X.2.2.2.2.1 gX10_press_X10_holds rfl rfl rfl (by decide +kernel) ⟨Nat.le_of_ble_eq_true rfl, Nat.le_of_ble_eq_true rfl⟩) rfl rfl gX10 rfl (Nat.le_of_ble_eq_true rfl) ⟨Nat.zero_le _, Nat.zero_le _⟩ (fun r S1 hq => ?_)
    obtain ⟨hq1, hq2⟩ := hq
    rw [hq1, hq2]
    clear hq1 hq2
    refine tv_if_ne (tgt := 37) X dX10_press_32 (by decide) (fun h2 => ?_) (fun h2 => ?_)
    rotate_left
    · exact absurd h2 (by decide)
    obtain ⟨⟨i, hi, rfl⟩, j, hj, rfl⟩ := hon
    have hk' : (mupd S 130 0 0).1 130 2 = nI k := by rw [mupd_sn (by decide)]; exact hk
    refine tv_aload_n X dX10_press_37 rfl ?_
    refine mm_callVv (q := (RX10, TX10, 20)) X dX10_press_38 (cX10_keeps_ok hk' hk6) (cwV 0 X.2.2.2.2.1 gX10_press_X10_keeps rfl rfl rfl (by decide +kernel) ⟨Nat.le_of_ble_eq_true rfl, Nat.le_of_ble_eq_true rfl⟩) rfl rfl gX10 rfl (Nat.le_of_ble_eq_true rfl) ⟨Nat.zero_le _, Nat.zero_le _⟩ (fun S1 hq => ?_)
    rw [hq]
    clear hq
    refine tv_aload_n X dX10_press_41 rfl ?_
    refine tv_bipush (v := 6) X dX10_press_42 (by decide) ?_
    refine tv_iload_n X dX10_press_44 rfl ?_
    refine tv_imul X dX10_press_45 ?_
    refine tv_iload_n X dX10_press_46 rfl ?_
    refine tv_iadd X dX10_press_47 ?_
    refine tv_iload_n X dX10_press_48 rfl ?_
    refine mm_callVi (q := (RX10, TX10, 20)) X dX10_press_49 (cX10_presses_ok (cellI i j) (by omega) v) (cwV 2 X.2.2.2.2.1 gX10_press_X10_presses rfl rfl rfl (by decide +kernel) ⟨Nat.le_of_ble_eq_true rfl, Nat.le_of_ble_eq_true rfl⟩) rfl rfl gX10 rfl (Nat.le_of_ble_eq_true rfl) ⟨Nat.zero_le _, Nat.zero_le _⟩ (fun r S1 hq => ?_)
    obtain ⟨hq1, hq2⟩ := hq
    rw [hq1, hq2]
    exact tv_iret X hrt dX10_press_52 ⟨_, rfl, Or.inr (Or.inr ⟨i, j, hi, hj, rfl, rfl, rfl, rfl, rfl⟩)⟩
theorem iX10_release_X10 : ∀ w ∈ wsX100, w ∈ wsX10_release := by decide +kernel
theorem kX10_release_43 : Cond.fieldLink RX10 43 (TX10 0).1 (TX10 0).2.1 (TX10 0).2.2.1 ∈ wsX10_release := by decide +kernel
theorem cX10_release_ok (hk : S.1 130 2 = nI k) (hk6 : k ≤ 6) : mMi l yX10_release wsX10_release rmX10_release D n0 ft [.ref (n0 + 130)] n S (fun r S' => S' = mset (kpS (mupd S 130 0 0) k) 131 (zt ((kpS (mupd S 130 0 0) k).1 131) 48) ∧ r = rlN ((kpS (mupd S 130 0 0) k).1 131) 48) := by
  refine tv_enter (cc := cX10_release) (maxL := 1) (ret := (some .int)) (by decide) rfl (Nat.le_of_ble_eq_true rfl) ?_
  intro p e s m args below meth c X hrt hnm hargs
  refine tv_aload_n X dX10_release_0 rfl ?_
  refine tv_iconst (v := 0) X dX10_release_1 (by decide) ?_
  refine mm_put X dX10_release_2 gX10 iX10_release_X10 rfl tyX10 tyX10_ok nmX10 0 (by decide) kX10_release_43 rfl rfl rfl (Nat.le_of_ble_eq_true rfl) rfl ?_
  refine tv_aload_n X dX10_release_5 rfl ?_
  have hk' : (mupd S 130 0 0).1 130 2 = nI k := by rw [mupd_sn (by decide)]; exact hk
  refine mm_callVv (q := (RX10, TX10, 20)) X dX10_release_6 (cX10_keeps_ok hk' hk6) (cwV 0 X.2.2.2.2.1 gX10_release_X10_keeps rfl rfl rfl (by decide +kernel) ⟨Nat.le_of_ble_eq_true rfl, Nat.le_of_ble_eq_true rfl⟩) rfl rfl gX10 rfl (Nat.le_of_ble_eq_true rfl) ⟨Nat.zero_le _, Nat.zero_le _⟩ (fun S1 hq => ?_)
  rw [hq]
  clear hq
  refine tv_aload_n X dX10_release_9 rfl ?_
  refine mm_callVi (q := (RX10, TX10, 20)) X dX10_release_10 (cX10_releases_ok) (cwV 0 X.2.2.2.2.1 gX10_release_X10_releases rfl rfl rfl (by decide +kernel) ⟨Nat.le_of_ble_eq_true rfl, Nat.le_of_ble_eq_true rfl⟩) rfl rfl gX10 rfl (Nat.le_of_ble_eq_true rfl) ⟨Nat.zero_le _, Nat.zero_le _⟩ (fun r S1 hq => ?_)
  obtain ⟨hq1, hq2⟩ := hq
  rw [hq1, hq2]
  exact tv_iret X hrt dX10_release_13 ⟨_, rfl, rfl, rfl⟩
theorem iX10_calibrate_X10 : ∀ w ∈ wsX100, w ∈ wsX10_calibrate := by decide +kernel
theorem kX10_calibrate_43 : Cond.fieldLink RX10 43 (TX10 0).1 (TX10 0).2.1 (TX10 0).2.2.1 ∈ wsX10_calibrate := by decide +kernel
theorem cX10_calibrate_ok (hk : S.1 130 2 = nI k) (hk6 : k ≤ 6) : mMi l yX10_calibrate wsX10_calibrate rmX10_calibrate D n0 ft [.ref (n0 + 130)] n S (fun r S' => S' = mset (kpS (mupd S 130 0 0) k) 131 (caF ((kpS (mupd S 130 0 0) k).1 131) 48) ∧ r = caN ((kpS (mupd S 130 0 0) k).1 131) 48) := by
  refine tv_enter (cc := cX10_calibrate) (maxL := 1) (ret := (some .int)) (by decide) rfl (Nat.le_of_ble_eq_true rfl) ?_
  intro p e s m args below meth c X hrt hnm hargs
  refine tv_aload_n X dX10_calibrate_0 rfl ?_
  refine tv_iconst (v := 0) X dX10_calibrate_1 (by decide) ?_
  refine mm_put X dX10_calibrate_2 gX10 iX10_calibrate_X10 rfl tyX10 tyX10_ok nmX10 0 (by decide) kX10_calibrate_43 rfl rfl rfl (Nat.le_of_ble_eq_true rfl) rfl ?_
  refine tv_aload_n X dX10_calibrate_5 rfl ?_
  have hk' : (mupd S 130 0 0).1 130 2 = nI k := by rw [mupd_sn (by decide)]; exact hk
  refine mm_callVv (q := (RX10, TX10, 20)) X dX10_calibrate_6 (cX10_keeps_ok hk' hk6) (cwV 0 X.2.2.2.2.1 gX10_calibrate_X10_keeps rfl rfl rfl (by decide +kernel) ⟨Nat.le_of_ble_eq_true rfl, Nat.le_of_ble_eq_true rfl⟩) rfl rfl gX10 rfl (Nat.le_of_ble_eq_true rfl) ⟨Nat.zero_le _, Nat.zero_le _⟩ (fun S1 hq => ?_)
  rw [hq]
  clear hq
  refine tv_aload_n X dX10_calibrate_9 rfl ?_
  refine mm_callVi (q := (RX10, TX10, 20)) X dX10_calibrate_10 (cX10_calibrates_ok) (cwV 0 X.2.2.2.2.1 gX10_calibrate_X10_calibrates rfl rfl rfl (by decide +kernel) ⟨Nat.le_of_ble_eq_true rfl, Nat.le_of_ble_eq_true rfl⟩) rfl rfl gX10 rfl (Nat.le_of_ble_eq_true rfl) ⟨Nat.zero_le _, Nat.zero_le _⟩ (fun r S1 hq => ?_)
  obtain ⟨hq1, hq2⟩ := hq
  rw [hq1, hq2]
  exact tv_iret X hrt dX10_calibrate_13 ⟨_, rfl, rfl, rfl⟩
theorem cX10_isSetting_ok (x : Int32) : mMi l yX10_isSetting wsX10_isSetting rmX10_isSetting D n0 ft [.int x] n S (fun r S' => S' = S ∧ r = bz (inI x 0 4)) := by
  refine tv_enter (cc := cX10_isSetting) (maxL := 1) (ret := (some .boolean)) (by decide) rfl (Nat.le_of_ble_eq_true rfl) ?_
  intro p e s m args below meth c X hrt hnm hargs
  refine tv_iload_n X dX10_isSetting_0 rfl ?_
  refine tv_iconst (v := 0) X dX10_isSetting_1 (by decide) ?_
  refine tv_iconst (v := 4) X dX10_isSetting_2 (by decide) ?_
  refine mm_callSi X dX10_isSetting_3 (cX10_in_ok _ _ _) (va_cwS 3 X.2.2.2.2.1 gX10_isSetting_X10_in rfl rfl rfl (by decide +kernel) ⟨Nat.le_of_ble_eq_true rfl, Nat.le_of_ble_eq_true rfl⟩) rfl rfl (Nat.le_of_ble_eq_true rfl) ⟨Nat.zero_le _, Nat.zero_le _⟩ (fun r S1 hq => ?_)
  obtain ⟨hq1, hq2⟩ := hq
  rw [hq1, hq2]
  exact tv_zret X hrt dX10_isSetting_6 (bz_n _) ⟨_, rfl, rfl, rfl⟩
theorem cX10_isTrack_ok (x : Int32) : mMi l yX10_isTrack wsX10_isTrack rmX10_isTrack D n0 ft [.int x] n S (fun r S' => S' = S ∧ r = bz (inI x 0 5)) := by
  refine tv_enter (cc := cX10_isTrack) (maxL := 1) (ret := (some .boolean)) (by decide) rfl (Nat.le_of_ble_eq_true rfl) ?_
  intro p e s m args below meth c X hrt hnm hargs
  refine tv_iload_n X dX10_isTrack_0 rfl ?_
  refine tv_iconst (v := 0) X dX10_isTrack_1 (by decide) ?_
  refine tv_iconst (v := 5) X dX10_isTrack_2 (by decide) ?_
  refine mm_callSi X dX10_isTrack_3 (cX10_in_ok _ _ _) (va_cwS 3 X.2.2.2.2.1 gX10_isTrack_X10_in rfl rfl rfl (by decide +kernel) ⟨Nat.le_of_ble_eq_true rfl, Nat.le_of_ble_eq_true rfl⟩) rfl rfl (Nat.le_of_ble_eq_true rfl) ⟨Nat.zero_le _, Nat.zero_le _⟩ (fun r S1 hq => ?_)
  obtain ⟨hq1, hq2⟩ := hq
  rw [hq1, hq2]
  exact tv_zret X hrt dX10_isTrack_6 (bz_n _) ⟨_, rfl, rfl, rfl⟩
def mostN : Nat → Int32
  | 0 => 100
  | 1 => 48
  | 2 => 255
  | 3 => 1000
  | _ => 5
theorem cX10_most_ok {q : Nat} (hq5 : q < 5) : mMi l yX10_most wsX10_most rmX10_most D n0 ft [.int (nI q)] n S (fun r S' => S' = S ∧ r = mostN q) := by
  refine tv_enter (cc := cX10_most) (maxL := 1) (ret := (some .int)) (by decide) rfl (Nat.le_of_ble_eq_true rfl) ?_
  intro p e s m args below meth c X hrt hnm hargs
  refine tv_iload_n X dX10_most_0 rfl ?_
  match q, hq5 with
  | 0, _ =>
    refine tv_tableIn (tgt := 32) X dX10_most_1 (by decide) (by decide) rfl (by decide) ?_
    refine tv_bipush (v := 100) X dX10_most_32 (by decide) ?_
    exact tv_iret X hrt dX10_most_34 ⟨_, rfl, rfl, rfl⟩
  | 1, _ =>
    refine tv_tableIn (tgt := 35) X dX10_most_1 (by decide) (by decide) rfl (by decide) ?_
    refine tv_bipush (v := 48) X dX10_most_35 (by decide) ?_
    exact tv_iret X hrt dX10_most_37 ⟨_, rfl, rfl, rfl⟩
  | 2, _ =>
    refine tv_tableIn (tgt := 38) X dX10_most_1 (by decide) (by decide) rfl (by decide) ?_
    refine tv_sipush (v := 255) X dX10_most_38 (by decide) ?_
    exact tv_iret X hrt dX10_most_41 ⟨_, rfl, rfl, rfl⟩
  | 3, _ =>
    refine tv_tableIn (tgt := 42) X dX10_most_1 (by decide) (by decide) rfl (by decide) ?_
    refine tv_sipush (v := 1000) X dX10_most_42 (by decide) ?_
    exact tv_iret X hrt dX10_most_45 ⟨_, rfl, rfl, rfl⟩
  | 4, _ =>
    refine tv_tableOut (tgt := 46) X dX10_most_1 (by decide) (by decide) ?_
    refine tv_iconst (v := 5) X dX10_most_46 (by decide) ?_
    exact tv_iret X hrt dX10_most_47 ⟨_, rfl, rfl, rfl⟩
theorem cX10_set_ok (hk : S.1 130 2 = nI k) (hk6 : k ≤ 6) (x v : Int32) : mMi l yX10_set wsX10_set rmX10_set D n0 ft [.ref (n0 + 130), .int x, .int v] n S (fun r S' => (inI x 0 4 = false ∧ S' = mupd S 130 0 1) ∨ ∃ q, q < 5 ∧ x = nI q ∧ ((inI v (if q = 4 then 0 else 1) (mostN q) = false ∧ S' = mupd S 130 0 2) ∨ (inI v (if q = 4 then 0 else 1) (mostN q) = true ∧ S' = mupd (kpS (mupd S 130 0 0) k) 131 (96 + q) v ∧ r = (kpS (mupd S 130 0 0) k).1 131 (96 + q)))) := by
  refine tv_enter (cc := cX10_set) (maxL := 4) (ret := (some .int)) (by decide) rfl (Nat.le_of_ble_eq_true rfl) ?_
  intro p e s m args below meth c X hrt hnm hargs
  refine tv_iload_n X dX10_set_0 rfl ?_
  refine mm_callSi X dX10_set_1 (cX10_isSetting_ok x) (va_cwS 1 X.2.2.2.2.1 gX10_set_X10_isSetting rfl rfl rfl (by decide +kernel) ⟨Nat.le_of_ble_eq_true rfl, Nat.le_of_ble_eq_true rfl⟩) rfl rfl (Nat.le_of_ble_eq_true rfl) ⟨Nat.zero_le _, Nat.zero_le _⟩ (fun r S1 hq => ?_)
  obtain ⟨hq1, hq2⟩ := hq
  rw [hq1, hq2]
  clear hq1 hq2
  refine tv_istore_n X dX10_set_4 rfl ?_
  refine tv_aload_n X dX10_set_5 rfl ?_
  refine tv_iload_n X dX10_set_6 rfl ?_
  cases hx : inI x 0 4 with
  | false =>
    refine tv_if_ne (tgt := 14) X dX10_set_7 (by decide) (fun h1 => ?_) (fun h1 => ?_)
    · exact absurd rfl h1
    refine tv_iconst (v := 1) X dX10_set_10 (by decide) ?_
    refine tv_goto (tgt := 40) X dX10_set_11 (by decide) ?_
    refine mm_callVi (q := (RX10, TX10, 20)) X dX10_set_40 (cX10_holds_ok 1) (cwV 1 X.2.2.2.2.1 gX10_set_X10_holds rfl rfl rfl (by decide +kernel) ⟨Nat.le_of_ble_eq_true rfl, Nat.le_of_ble_eq_true rfl⟩) rfl rfl gX10 rfl (Nat.le_of_ble_eq_true rfl) ⟨Nat.zero_le _, Nat.zero_le _⟩ (fun r S1 hq => ?_)
    obtain ⟨hq1, hq2⟩ := hq
    rw [hq1, hq2]
    refine tv_if_eq (tgt := 58) X dX10_set_43 (by decide) (fun h2 => ?_) (fun h2 => ?_)
    rotate_left
    · exact absurd (show bz (decide ((1 : Int32) = 0)) = 0 by decide) h2
    refine tv_iconst (v := 0) X dX10_set_58 (by decide) ?_
    exact tv_iret X hrt dX10_set_59 ⟨_, rfl, Or.inl ⟨rfl, rfl⟩⟩
  | true =>
    obtain ⟨q, -, hq4, rfl⟩ := inI_n (lo := 0) (hi := 4) (by decide) hx (by decide)
    refine tv_if_ne (tgt := 14) X dX10_set_7 (by decide) (fun h1 => ?_) (fun h1 => ?_)
    rotate_left
    · exact absurd h1 (by decide)
    refine mm_cut (pc := 25) (fun w : Int32 => w = if q = 4 then 0 else 1) (fun _ => [(0, .ref (n0 + 130)), (1, .int (nI q)), (2, .int v), (3, .int 1)]) (fun w => [.int w, .int v, .ref (n0 + 130)]) (fun _ => S) ?_ ?_
    · intro w hw
      refine tv_iload_n X dX10_set_25 rfl ?_
      refine mm_callSi X dX10_set_26 (cX10_most_ok (q := q) (by omega)) (va_cwS 1 X.2.2.2.2.1 gX10_set_X10_most rfl rfl rfl (by decide +kernel) ⟨Nat.le_of_ble_eq_true rfl, Nat.le_of_ble_eq_true rfl⟩) rfl rfl (Nat.le_of_ble_eq_true rfl) ⟨Nat.zero_le _, Nat.zero_le _⟩ (fun r S1 hq => ?_)
      obtain ⟨hq1, hq2⟩ := hq
      rw [hq1, hq2]
      clear hq1 hq2
      refine mm_callSi X dX10_set_29 (cX10_in_ok _ _ _) (va_cwS 3 X.2.2.2.2.1 gX10_set_X10_in rfl rfl rfl (by decide +kernel) ⟨Nat.le_of_ble_eq_true rfl, Nat.le_of_ble_eq_true rfl⟩) rfl rfl (Nat.le_of_ble_eq_true rfl) ⟨Nat.zero_le _, Nat.zero_le _⟩ (fun r S1 hq => ?_)
      obtain ⟨hq1, hq2⟩ := hq
      rw [hq1, hq2, hw]
      clear hq1 hq2
      cases hv : inI v (if q = 4 then 0 else 1) (mostN q) with
      | false =>
        refine tv_if_ne (tgt := 39) X dX10_set_32 (by decide) (fun h2 => ?_) (fun h2 => ?_)
        · exact absurd rfl h2
        refine tv_iconst (v := 2) X dX10_set_35 (by decide) ?_
        refine tv_goto (tgt := 40) X dX10_set_36 (by decide) ?_
        refine mm_callVi (q := (RX10, TX10, 20)) X dX10_set_40 (cX10_holds_ok 2) (cwV 1 X.2.2.2.2.1 gX10_set_X10_holds rfl rfl rfl (by decide +kernel) ⟨Nat.le_of_ble_eq_true rfl, Nat.le_of_ble_eq_true rfl⟩) rfl rfl gX10 rfl (Nat.le_of_ble_eq_true rfl) ⟨Nat.zero_le _, Nat.zero_le _⟩ (fun r S1 hq => ?_)
        obtain ⟨hq1, hq2⟩ := hq
        rw [hq1, hq2]
        refine tv_if_eq (tgt := 58) X dX10_set_43 (by decide) (fun h3 => ?_) (fun h3 => ?_)
        rotate_left
        · exact absurd (show bz (decide ((2 : Int32) = 0)) = 0 by decide) h3
        refine tv_iconst (v := 0) X dX10_set_58 (by decide) ?_
        exact tv_iret X hrt dX10_set_59 ⟨_, rfl, Or.inr ⟨q, by omega, rfl, Or.inl ⟨hv, rfl⟩⟩⟩
      | true =>
        refine tv_if_ne (tgt := 39) X dX10_set_32 (by decide) (fun h2 => ?_) (fun h2 => ?_)
        rotate_left
        · exact absurd h2 (by decide)
        refine tv_iconst (v := 0) X dX10_set_39 (by decide) ?_
        refine mm_callVi (q := (RX10, TX10, 20)) X dX10_set_40 (cX10_holds_ok 0) (cwV 1 X.2.2.2.2.1 gX10_set_X10_holds rfl rfl rfl (by decide +kernel) ⟨Nat.le_of_ble_eq_true rfl, Nat.le_of_ble_eq_true rfl⟩) rfl rfl gX10 rfl (Nat.le_of_ble_eq_true rfl) ⟨Nat.zero_le _, Nat.zero_le _⟩ (fun r S1 hq => ?_)
        obtain ⟨hq1, hq2⟩ := hq
        rw [hq1, hq2]
        clear hq1 hq2
        refine tv_if_eq (tgt := 58) X dX10_set_43 (by decide) (fun h3 => ?_) (fun h3 => ?_)
        · exact absurd h3 (by decide)
        have hk' : (mupd S 130 0 0).1 130 2 = nI k := by rw [mupd_sn (by decide)]; exact hk
        refine tv_aload_n X dX10_set_46 rfl ?_
        refine tv_bipush (v := 96) X dX10_set_47 (by decide) ?_
        refine tv_iload_n X dX10_set_49 rfl ?_
        refine tv_iadd X dX10_set_50 ?_
        refine tv_iload_n X dX10_set_51 rfl ?_
        refine mm_callVi (q := (RX10, TX10, 20)) X dX10_set_52 (cX10_changed_ok hk' hk6 (96 + q) (nI_add 96 q) (by omega) v) (cwV 2 X.2.2.2.2.1 gX10_set_X10_changed rfl rfl rfl (by decide +kernel) ⟨Nat.le_of_ble_eq_true rfl, Nat.le_of_ble_eq_true rfl⟩) rfl rfl gX10 rfl (Nat.le_of_ble_eq_true rfl) ⟨Nat.zero_le _, Nat.zero_le _⟩ (fun r S1 hq => ?_)
        obtain ⟨hq1, hq2⟩ := hq
        rw [hq1, hq2]
        refine tv_goto (tgt := 59) X dX10_set_55 (by decide) ?_
        exact tv_iret X hrt dX10_set_59 ⟨_, rfl, Or.inr ⟨q, by omega, rfl, Or.inr ⟨hv, rfl, rfl⟩⟩⟩
    intro hcut
    refine tv_iload_n X dX10_set_14 rfl ?_
    refine tv_iload_n X dX10_set_15 rfl ?_
    refine tv_iconst (v := 4) X dX10_set_16 (by decide) ?_
    by_cases h4 : q = 4
    · refine tv_icmp_ne (tgt := 24) X dX10_set_17 (by decide) (fun h2 => ?_) (fun h2 => ?_)
      · exact absurd (by rw [h4]; rfl) h2
      refine tv_iconst (v := 0) X dX10_set_20 (by decide) ?_
      refine tv_goto (tgt := 25) X dX10_set_21 (by decide) ?_
      exact hcut 0 (by rw [if_pos h4])
    · refine tv_icmp_ne (tgt := 24) X dX10_set_17 (by decide) (fun h2 => ?_) (fun h2 => ?_)
      rotate_left
      · exact absurd ((nI_eq (b := 4) (by omega) (by decide)).mp h2) h4
      refine tv_iconst (v := 1) X dX10_set_24 (by decide) ?_
      exact hcut 1 (by rw [if_neg h4])
theorem iX10_scan_X10 : ∀ w ∈ wsX100, w ∈ wsX10_scan := by decide +kernel
theorem kX10_scan_43 : Cond.fieldLink RX10 43 (TX10 0).1 (TX10 0).2.1 (TX10 0).2.2.1 ∈ wsX10_scan := by decide +kernel
theorem cX10_scan_ok (hk : S.1 130 2 = nI k) (hk6 : k ≤ 6) (hS : rgR S) : mMi l yX10_scan wsX10_scan rmX10_scan D n0 ft [.ref (n0 + 130)] n S (fun r S' => S' = scD (kpS (mupd S 130 0 0) k) ∧ r = scV (kpS (mupd S 130 0 0) k)) := by
  refine tv_enter (cc := cX10_scan) (maxL := 1) (ret := (some .int)) (by decide) rfl (Nat.le_of_ble_eq_true rfl) ?_
  intro p e s m args below meth c X hrt hnm hargs
  refine tv_aload_n X dX10_scan_0 rfl ?_
  refine tv_iconst (v := 0) X dX10_scan_1 (by decide) ?_
  refine mm_put X dX10_scan_2 gX10 iX10_scan_X10 rfl tyX10 tyX10_ok nmX10 0 (by decide) kX10_scan_43 rfl rfl rfl (Nat.le_of_ble_eq_true rfl) rfl ?_
  refine tv_aload_n X dX10_scan_5 rfl ?_
  have hk' : (mupd S 130 0 0).1 130 2 = nI k := by rw [mupd_sn (by decide)]; exact hk
  have hr : rgR (kpS (mupd S 130 0 0) k) := rgR_kp (rgR_ag hS (mupd_n (by decide)))
  refine mm_callVv (q := (RX10, TX10, 20)) X dX10_scan_6 (cX10_keeps_ok hk' hk6) (cwV 0 X.2.2.2.2.1 gX10_scan_X10_keeps rfl rfl rfl (by decide +kernel) ⟨Nat.le_of_ble_eq_true rfl, Nat.le_of_ble_eq_true rfl⟩) rfl rfl gX10 rfl (Nat.le_of_ble_eq_true rfl) ⟨Nat.zero_le _, Nat.zero_le _⟩ (fun S1 hq => ?_)
  rw [hq]
  clear hq
  refine tv_aload_n X dX10_scan_9 rfl ?_
  refine mm_callVi (q := (RX10, TX10, 20)) X dX10_scan_10 (cX10_scans_ok hr) (cwV 0 X.2.2.2.2.1 gX10_scan_X10_scans rfl rfl rfl (by decide +kernel) ⟨Nat.le_of_ble_eq_true rfl, Nat.le_of_ble_eq_true rfl⟩) rfl rfl gX10 rfl (Nat.le_of_ble_eq_true rfl) ⟨Nat.zero_le _, Nat.zero_le _⟩ (fun r S1 hq => ?_)
  obtain ⟨k1, hk1, hq1, hq2⟩ := hq
  rw [frS_D hk1] at hq1 hq2
  rw [hq1, hq2]
  exact tv_iret X hrt dX10_scan_13 ⟨_, rfl, rfl, rfl⟩
theorem iX10_appendText_X10 : ∀ w ∈ wsX100, w ∈ wsX10_appendText := by decide +kernel
theorem kX10_appendText_13 : Cond.fieldLink RX10 13 (TX10 3).1 (TX10 3).2.1 (TX10 3).2.2.1 ∈ wsX10_appendText := by decide +kernel
theorem kX10_appendText_156 : Cond.fieldLink RX10 156 (TX10 4).1 (TX10 4).2.1 (TX10 4).2.2.1 ∈ wsX10_appendText := by decide +kernel
theorem cX10_appendText_ok (hl : S.1 130 4 = nI len) (hl8 : len ≤ 80) (v : Int32) : mMi l yX10_appendText wsX10_appendText rmX10_appendText D n0 ft [.ref (n0 + 130), .int v] n S (fun r S' => (inI v 32 126 = false ∧ S' = mupd S 130 0 1) ∨ (inI v 32 126 = true ∧ len = 80 ∧ S' = mupd S 130 0 2) ∨ (inI v 32 126 = true ∧ len < 80 ∧ S' = mupd (mupd (mupd S 130 0 0) 132 len v) 130 4 (nI (len + 1)) ∧ r = nI (len + 1))) := by
  refine tv_enter (cc := cX10_appendText) (maxL := 2) (ret := (some .int)) (by decide) rfl (Nat.le_of_ble_eq_true rfl) ?_
  intro p e s m args below meth c X hrt hnm hargs
  refine tv_aload_n X dX10_appendText_0 rfl ?_
  refine tv_iload_n X dX10_appendText_1 rfl ?_
  refine tv_bipush (v := 32) X dX10_appendText_2 (by decide) ?_
  refine tv_bipush (v := 126) X dX10_appendText_4 (by decide) ?_
  refine mm_callSi X dX10_appendText_6 (cX10_in_ok _ _ _) (va_cwS 3 X.2.2.2.2.1 gX10_appendText_X10_in rfl rfl rfl (by decide +kernel) ⟨Nat.le_of_ble_eq_true rfl, Nat.le_of_ble_eq_true rfl⟩) rfl rfl (Nat.le_of_ble_eq_true rfl) ⟨Nat.zero_le _, Nat.zero_le _⟩ (fun r S1 hq => ?_)
  obtain ⟨hq1, hq2⟩ := hq
  rw [hq1, hq2]
  clear hq1 hq2
  cases hv : inI v 32 126 with
  | false =>
    refine tv_if_ne (tgt := 16) X dX10_appendText_9 (by decide) (fun h1 => ?_) (fun h1 => ?_)
    · exact absurd rfl h1
    refine tv_iconst (v := 1) X dX10_appendText_12 (by decide) ?_
    refine tv_goto (tgt := 30) X dX10_appendText_13 (by decide) ?_
    refine mm_callVi (q := (RX10, TX10, 20)) X dX10_appendText_30 (cX10_holds_ok 1) (cwV 1 X.2.2.2.2.1 gX10_appendText_X10_holds rfl rfl rfl (by decide +kernel) ⟨Nat.le_of_ble_eq_true rfl, Nat.le_of_ble_eq_true rfl⟩) rfl rfl gX10 rfl (Nat.le_of_ble_eq_true rfl) ⟨Nat.zero_le _, Nat.zero_le _⟩ (fun r S1 hq => ?_)
    obtain ⟨hq1, hq2⟩ := hq
    rw [hq1, hq2]
    refine tv_if_ne (tgt := 38) X dX10_appendText_33 (by decide) (fun h2 => ?_) (fun h2 => ?_)
    · exact absurd (show bz (decide ((1 : Int32) = 0)) = 0 by decide) h2
    refine tv_iconst (v := 0) X dX10_appendText_36 (by decide) ?_
    exact tv_iret X hrt dX10_appendText_37 ⟨_, rfl, Or.inl ⟨rfl, rfl⟩⟩
  | true =>
    refine tv_if_ne (tgt := 16) X dX10_appendText_9 (by decide) (fun h1 => ?_) (fun h1 => ?_)
    rotate_left
    · exact absurd h1 (by decide)
    refine tv_aload_n X dX10_appendText_16 rfl ?_
    refine mm_getf X dX10_appendText_17 gX10 iX10_appendText_X10 rfl 4 (by decide) kX10_appendText_156 rfl ?_
    refine tv_bipush (v := 80) X dX10_appendText_20 (by decide) ?_
    rw [hl]
    by_cases h8 : len = 80
    · refine tv_icmp_ne (tgt := 29) X dX10_appendText_22 (by decide) (fun h2 => ?_) (fun h2 => ?_)
      · exact absurd (by rw [h8]; rfl) h2
      refine tv_iconst (v := 2) X dX10_appendText_25 (by decide) ?_
      refine tv_goto (tgt := 30) X dX10_appendText_26 (by decide) ?_
      refine mm_callVi (q := (RX10, TX10, 20)) X dX10_appendText_30 (cX10_holds_ok 2) (cwV 1 X.2.2.2.2.1 gX10_appendText_X10_holds rfl rfl rfl (by decide +kernel) ⟨Nat.le_of_ble_eq_true rfl, Nat.le_of_ble_eq_true rfl⟩) rfl rfl gX10 rfl (Nat.le_of_ble_eq_true rfl) ⟨Nat.zero_le _, Nat.zero_le _⟩ (fun r S1 hq => ?_)
      obtain ⟨hq1, hq2⟩ := hq
      rw [hq1, hq2]
      refine tv_if_ne (tgt := 38) X dX10_appendText_33 (by decide) (fun h3 => ?_) (fun h3 => ?_)
      · exact absurd (show bz (decide ((2 : Int32) = 0)) = 0 by decide) h3
      refine tv_iconst (v := 0) X dX10_appendText_36 (by decide) ?_
      exact tv_iret X hrt dX10_appendText_37 ⟨_, rfl, Or.inr (Or.inl ⟨rfl, h8, rfl⟩)⟩
    · refine tv_icmp_ne (tgt := 29) X dX10_appendText_22 (by decide) (fun h2 => ?_) (fun h2 => ?_)
      rotate_left
      · exact absurd ((nI_eq (b := 80) (by omega) (by decide)).mp h2) h8
      refine tv_iconst (v := 0) X dX10_appendText_29 (by decide) ?_
      refine mm_callVi (q := (RX10, TX10, 20)) X dX10_appendText_30 (cX10_holds_ok 0) (cwV 1 X.2.2.2.2.1 gX10_appendText_X10_holds rfl rfl rfl (by decide +kernel) ⟨Nat.le_of_ble_eq_true rfl, Nat.le_of_ble_eq_true rfl⟩) rfl rfl gX10 rfl (Nat.le_of_ble_eq_true rfl) ⟨Nat.zero_le _, Nat.zero_le _⟩ (fun r S1 hq => ?_)
      obtain ⟨hq1, hq2⟩ := hq
      rw [hq1, hq2]
      clear hq1 hq2
      refine tv_if_ne (tgt := 38) X dX10_appendText_33 (by decide) (fun h3 => ?_) (fun h3 => ?_)
      rotate_left
      · exact absurd h3 (by decide)
      have hl' : (mupd S 130 0 0).1 130 4 = nI len := by rw [mupd_sn (by decide)]; exact hl
      refine tv_aload_n X dX10_appendText_38 rfl ?_
      refine mm_getf X dX10_appendText_39 gX10 iX10_appendText_X10 rfl 3 (by decide) kX10_appendText_13 rfl ?_
      refine tv_aload_n X dX10_appendText_42 rfl ?_
      refine mm_getf X dX10_appendText_43 gX10 iX10_appendText_X10 rfl 4 (by decide) kX10_appendText_156 rfl ?_
      rw [hl']
      refine tv_iload_n X dX10_appendText_46 rfl ?_
      refine mm_iast X dX10_appendText_47 g132 len rfl (by omega) (by decide) ?_
      refine tv_aload_n X dX10_appendText_48 rfl ?_
      refine tv_dup X dX10_appendText_49 rfl ?_
      refine mm_getf X dX10_appendText_50 gX10 iX10_appendText_X10 rfl 4 (by decide) kX10_appendText_156 rfl ?_
      rw [mupd_n (by decide), hl']
      refine tv_iconst (v := 1) X dX10_appendText_53 (by decide) ?_
      refine tv_iadd X dX10_appendText_54 ?_
      rw [nI_1]
      refine mm_put X dX10_appendText_55 gX10 iX10_appendText_X10 rfl tyX10 tyX10_ok nmX10 4 (by decide) kX10_appendText_156 rfl rfl rfl (Nat.le_of_ble_eq_true rfl) rfl ?_
      refine tv_aload_n X dX10_appendText_58 rfl ?_
      refine mm_getf X dX10_appendText_59 gX10 iX10_appendText_X10 rfl 4 (by decide) kX10_appendText_156 rfl ?_
      rw [mupd_ss]
      exact tv_iret X hrt dX10_appendText_62 ⟨_, rfl, Or.inr (Or.inr ⟨rfl, by omega, rfl, rfl⟩)⟩
theorem iX10_clearText_X10 : ∀ w ∈ wsX100, w ∈ wsX10_clearText := by decide +kernel
theorem kX10_clearText_43 : Cond.fieldLink RX10 43 (TX10 0).1 (TX10 0).2.1 (TX10 0).2.2.1 ∈ wsX10_clearText := by decide +kernel
theorem kX10_clearText_156 : Cond.fieldLink RX10 156 (TX10 4).1 (TX10 4).2.1 (TX10 4).2.2.1 ∈ wsX10_clearText := by decide +kernel
theorem cX10_clearText_ok : mMi l yX10_clearText wsX10_clearText rmX10_clearText D n0 ft [.ref (n0 + 130)] n S (fun r S' => S' = mupd (mupd S 130 0 0) 130 4 0 ∧ r = S.1 130 4) := by
  refine tv_enter (cc := cX10_clearText) (maxL := 2) (ret := (some .int)) (by decide) rfl (Nat.le_of_ble_eq_true rfl) ?_
  intro p e s m args below meth c X hrt hnm hargs
  refine tv_aload_n X dX10_clearText_0 rfl ?_
  refine tv_iconst (v := 0) X dX10_clearText_1 (by decide) ?_
  refine mm_put X dX10_clearText_2 gX10 iX10_clearText_X10 rfl tyX10 tyX10_ok nmX10 0 (by decide) kX10_clearText_43 rfl rfl rfl (Nat.le_of_ble_eq_true rfl) rfl ?_
  refine tv_aload_n X dX10_clearText_5 rfl ?_
  refine mm_getf X dX10_clearText_6 gX10 iX10_clearText_X10 rfl 4 (by decide) kX10_clearText_156 rfl ?_
  rw [mupd_sn (by decide)]
  refine tv_istore_n X dX10_clearText_9 rfl ?_
  refine tv_aload_n X dX10_clearText_10 rfl ?_
  refine tv_iconst (v := 0) X dX10_clearText_11 (by decide) ?_
  refine mm_put X dX10_clearText_12 gX10 iX10_clearText_X10 rfl tyX10 tyX10_ok nmX10 4 (by decide) kX10_clearText_156 rfl rfl rfl (Nat.le_of_ble_eq_true rfl) rfl ?_
  refine tv_iload_n X dX10_clearText_15 rfl ?_
  exact tv_iret X hrt dX10_clearText_16 ⟨_, rfl, rfl, rfl⟩
theorem iX10_undo_X10 : ∀ w ∈ wsX100, w ∈ wsX10_undo := by decide +kernel
theorem kX10_undo_118 : Cond.fieldLink RX10 118 (TX10 2).1 (TX10 2).2.1 (TX10 2).2.2.1 ∈ wsX10_undo := by decide +kernel
theorem cX10_undo_ok (hk : S.1 130 2 = nI k) (hk6 : k ≤ 6) : mMi l yX10_undo wsX10_undo rmX10_undo D n0 ft [.ref (n0 + 130)] n S (fun r S' => (k = 0 ∧ S' = mupd S 130 0 1) ∨ ∃ j, k = j + 1 ∧ S' = mupd (mset (mupd S 130 0 0) 131 (cpR (S.1 131) k 0)) 130 2 (nI j) ∧ r = nI j) := by
  refine tv_enter (cc := cX10_undo) (maxL := 1) (ret := (some .int)) (by decide) rfl (Nat.le_of_ble_eq_true rfl) ?_
  intro p e s m args below meth c X hrt hnm hargs
  refine tv_aload_n X dX10_undo_0 rfl ?_
  refine tv_aload_n X dX10_undo_1 rfl ?_
  refine mm_getf X dX10_undo_2 gX10 iX10_undo_X10 rfl 2 (by decide) kX10_undo_118 rfl ?_
  rw [hk]
  by_cases h0 : k = 0
  · refine tv_if_le (tgt := 12) X dX10_undo_5 (by decide) (fun h1 => ?_) (fun h1 => ?_)
    rotate_left
    · exact absurd (by rw [h0]; exact Int32.le_refl _) h1
    refine tv_iconst (v := 1) X dX10_undo_12 (by decide) ?_
    refine mm_callVi (q := (RX10, TX10, 20)) X dX10_undo_13 (cX10_holds_ok 1) (cwV 1 X.2.2.2.2.1 gX10_undo_X10_holds rfl rfl rfl (by decide +kernel) ⟨Nat.le_of_ble_eq_true rfl, Nat.le_of_ble_eq_true rfl⟩) rfl rfl gX10 rfl (Nat.le_of_ble_eq_true rfl) ⟨Nat.zero_le _, Nat.zero_le _⟩ (fun r S1 hq => ?_)
    obtain ⟨hq1, hq2⟩ := hq
    rw [hq1, hq2]
    refine tv_if_ne (tgt := 21) X dX10_undo_16 (by decide) (fun h3 => ?_) (fun h3 => ?_)
    · exact absurd (show bz (decide ((1 : Int32) = 0)) = 0 by decide) h3
    refine tv_iconst (v := 0) X dX10_undo_19 (by decide) ?_
    exact tv_iret X hrt dX10_undo_20 ⟨_, rfl, Or.inl ⟨h0, rfl⟩⟩
  · refine tv_if_le (tgt := 12) X dX10_undo_5 (by decide) (fun h1 => ?_) (fun h1 => ?_)
    · exact absurd h1 (nI_nle (by omega) (by omega))
    obtain ⟨j, rfl⟩ : ∃ j, k = j + 1 := ⟨k - 1, by omega⟩
    refine tv_iconst (v := 0) X dX10_undo_8 (by decide) ?_
    refine tv_goto (tgt := 13) X dX10_undo_9 (by decide) ?_
    refine mm_callVi (q := (RX10, TX10, 20)) X dX10_undo_13 (cX10_holds_ok 0) (cwV 1 X.2.2.2.2.1 gX10_undo_X10_holds rfl rfl rfl (by decide +kernel) ⟨Nat.le_of_ble_eq_true rfl, Nat.le_of_ble_eq_true rfl⟩) rfl rfl gX10 rfl (Nat.le_of_ble_eq_true rfl) ⟨Nat.zero_le _, Nat.zero_le _⟩ (fun r S1 hq => ?_)
    obtain ⟨hq1, hq2⟩ := hq
    rw [hq1, hq2]
    clear hq1 hq2
    refine tv_if_ne (tgt := 21) X dX10_undo_16 (by decide) (fun h3 => ?_) (fun h3 => ?_)
    rotate_left
    · exact absurd h3 (by decide)
    have hk' : (mupd S 130 0 0).1 130 2 = nI (j + 1) := by rw [mupd_sn (by decide)]; exact hk
    refine tv_aload_n X dX10_undo_21 rfl ?_
    refine tv_aload_n X dX10_undo_22 rfl ?_
    refine mm_getf X dX10_undo_23 gX10 iX10_undo_X10 rfl 2 (by decide) kX10_undo_118 rfl ?_
    refine tv_iconst (v := 0) X dX10_undo_26 (by decide) ?_
    rw [hk']
    refine mm_callVv (q := (RX10, TX10, 20)) X dX10_undo_27 (cX10_copies_ok (f := j + 1) (t := 0) rfl rfl (by omega) (by decide) (by omega)) (cwV 2 X.2.2.2.2.1 gX10_undo_X10_copies rfl rfl rfl (by decide +kernel) ⟨Nat.le_of_ble_eq_true rfl, Nat.le_of_ble_eq_true rfl⟩) rfl rfl gX10 rfl (Nat.le_of_ble_eq_true rfl) ⟨Nat.zero_le _, Nat.zero_le _⟩ (fun S1 hq => ?_)
    rw [hq, mupd_n (by decide)]
    clear hq
    refine tv_aload_n X dX10_undo_30 rfl ?_
    refine tv_dup X dX10_undo_31 rfl ?_
    refine mm_getf X dX10_undo_32 gX10 iX10_undo_X10 rfl 2 (by decide) kX10_undo_118 rfl ?_
    rw [mset_n (by decide), hk']
    refine tv_iconst (v := 1) X dX10_undo_35 (by decide) ?_
    refine tv_isub X dX10_undo_36 ?_
    rw [nI_pred]
    refine mm_put X dX10_undo_37 gX10 iX10_undo_X10 rfl tyX10 tyX10_ok nmX10 2 (by decide) kX10_undo_118 rfl rfl rfl (Nat.le_of_ble_eq_true rfl) rfl ?_
    refine tv_aload_n X dX10_undo_40 rfl ?_
    refine mm_getf X dX10_undo_41 gX10 iX10_undo_X10 rfl 2 (by decide) kX10_undo_118 rfl ?_
    rw [mupd_ss]
    exact tv_iret X hrt dX10_undo_44 ⟨_, rfl, Or.inr ⟨j, rfl, rfl, rfl⟩⟩
theorem iX10_runText_X10 : ∀ w ∈ wsX100, w ∈ wsX10_runText := by decide +kernel
theorem kX10_runText_159 : Cond.fieldLink RX10 159 (TX10 5).1 (TX10 5).2.1 (TX10 5).2.2.1 ∈ wsX10_runText := by decide +kernel
theorem kX10_runText_168 : Cond.fieldLink RX10 168 (TX10 6).1 (TX10 6).2.1 (TX10 6).2.2.1 ∈ wsX10_runText := by decide +kernel
theorem kX10_runText_174 : Cond.fieldLink RX10 174 (TX10 7).1 (TX10 7).2.1 (TX10 7).2.2.1 ∈ wsX10_runText := by decide +kernel
theorem kX10_runText_177 : Cond.fieldLink RX10 177 (TX10 8).1 (TX10 8).2.1 (TX10 8).2.2.1 ∈ wsX10_runText := by decide +kernel
theorem kX10_runText_165 : Cond.fieldLink RX10 165 (TX10 9).1 (TX10 9).2.1 (TX10 9).2.2.1 ∈ wsX10_runText := by decide +kernel
theorem cX10_runText_ok (hk : S.1 130 2 = nI k) (hk6 : k ≤ 6) (hl : S.1 130 4 = nI len) (hl8 : len ≤ 80) (hS : rgR S) (hv0 : (vdS S len).2.2.1 131 = S.1 131 ∧ (vdS S len).2.2.1 130 2 = nI k ∧ (vdS S len).2.2.1 130 4 = nI len) : mMi l yX10_runText wsX10_runText rmX10_runText D n0 ft [.ref (n0 + 130)] n S (fun r S' => ((vdS S len).1 = false ∧ S' = mupd (vdS S len).2.2 130 0 1) ∨ ((vdS S len).1 = true ∧ S' = (rtS S len k).1 ∧ r = (rtS S len k).2)) := by
  refine tv_enter (cc := cX10_runText) (maxL := 2) (ret := (some .int)) (by decide) rfl (Nat.le_of_ble_eq_true rfl) ?_
  intro p e s m args below meth c X hrt hnm hargs
  refine tv_aload_n X dX10_runText_0 rfl ?_
  refine tv_aload_n X dX10_runText_1 rfl ?_
  refine mm_callVi (q := (RX10, TX10, 20)) X dX10_runText_2 (cX10_isValid_ok hl hl8) (cwV 0 X.2.2.2.2.1 gX10_runText_X10_isValid rfl rfl rfl (by decide +kernel) ⟨Nat.le_of_ble_eq_true rfl, Nat.le_of_ble_eq_true rfl⟩) rfl rfl gX10 rfl (Nat.le_of_ble_eq_true rfl) ⟨Nat.zero_le _, Nat.zero_le _⟩ (fun r S1 hq => ?_)
  obtain ⟨hq1, hq2, -⟩ := hq
  rw [hq1, hq2]
  clear hq1 hq2
  have hrt2 : rtS S len k = rtL len (len + 1) 0 (mupd (kpS (mupd (vdS S len).2.2 130 0 0) k) 130 5 0) 0 := rfl
  cases hv : (vdS S len).1 with
  | false =>
    refine tv_if_eq (tgt := 12) X dX10_runText_5 (by decide) (fun h1 => ?_) (fun h1 => ?_)
    rotate_left
    · exact absurd rfl h1
    refine tv_iconst (v := 1) X dX10_runText_12 (by decide) ?_
    refine mm_callVi (q := (RX10, TX10, 20)) X dX10_runText_13 (cX10_holds_ok 1) (cwV 1 X.2.2.2.2.1 gX10_runText_X10_holds rfl rfl rfl (by decide +kernel) ⟨Nat.le_of_ble_eq_true rfl, Nat.le_of_ble_eq_true rfl⟩) rfl rfl gX10 rfl (Nat.le_of_ble_eq_true rfl) ⟨Nat.zero_le _, Nat.zero_le _⟩ (fun r S1 hq => ?_)
    obtain ⟨hq1, hq2⟩ := hq
    rw [hq1, hq2]
    refine tv_if_ne (tgt := 21) X dX10_runText_16 (by decide) (fun h3 => ?_) (fun h3 => ?_)
    · exact absurd (show bz (decide ((1 : Int32) = 0)) = 0 by decide) h3
    refine tv_iconst (v := 0) X dX10_runText_19 (by decide) ?_
    exact tv_iret X hrt dX10_runText_20 ⟨_, rfl, Or.inl ⟨rfl, rfl⟩⟩
  | true =>
    refine tv_if_eq (tgt := 12) X dX10_runText_5 (by decide) (fun h1 => ?_) (fun h1 => ?_)
    · exact absurd h1 (by decide)
    refine tv_iconst (v := 0) X dX10_runText_8 (by decide) ?_
    refine tv_goto (tgt := 13) X dX10_runText_9 (by decide) ?_
    refine mm_callVi (q := (RX10, TX10, 20)) X dX10_runText_13 (cX10_holds_ok 0) (cwV 1 X.2.2.2.2.1 gX10_runText_X10_holds rfl rfl rfl (by decide +kernel) ⟨Nat.le_of_ble_eq_true rfl, Nat.le_of_ble_eq_true rfl⟩) rfl rfl gX10 rfl (Nat.le_of_ble_eq_true rfl) ⟨Nat.zero_le _, Nat.zero_le _⟩ (fun r S1 hq => ?_)
    obtain ⟨hq1, hq2⟩ := hq
    rw [hq1, hq2]
    clear hq1 hq2
    refine tv_if_ne (tgt := 21) X dX10_runText_16 (by decide) (fun h3 => ?_) (fun h3 => ?_)
    rotate_left
    · exact absurd h3 (by decide)
    generalize (vdS S len).2.2 = V at hv0 hrt2 ⊢
    have hk' : (mupd V 130 0 0).1 130 2 = nI k := by rw [mupd_sn (by decide)]; exact hv0.2.1
    refine tv_aload_n X dX10_runText_21 rfl ?_
    refine mm_callVv (q := (RX10, TX10, 20)) X dX10_runText_22 (cX10_keeps_ok hk' hk6) (cwV 0 X.2.2.2.2.1 gX10_runText_X10_keeps rfl rfl rfl (by decide +kernel) ⟨Nat.le_of_ble_eq_true rfl, Nat.le_of_ble_eq_true rfl⟩) rfl rfl gX10 rfl (Nat.le_of_ble_eq_true rfl) ⟨Nat.zero_le _, Nat.zero_le _⟩ (fun S1 hq => ?_)
    rw [hq]
    clear hq
    refine tv_aload_n X dX10_runText_25 rfl ?_
    refine tv_iconst (v := 0) X dX10_runText_26 (by decide) ?_
    refine mm_put X dX10_runText_27 gX10 iX10_runText_X10 rfl tyX10 tyX10_ok nmX10 5 (by decide) kX10_runText_159 rfl rfl rfl (Nat.le_of_ble_eq_true rfl) rfl ?_
    refine tv_iconst (v := 0) X dX10_runText_30 (by decide) ?_
    refine tv_istore_n X dX10_runText_31 rfl ?_
    have hrg : rgR (mupd (kpS (mupd V 130 0 0) k) 130 5 0) := rgR_ag (rgR_kp (rgR_ag (rgR_ag hS hv0.1) (mupd_n (by decide)))) (mupd_n (by decide))
    have hrd : rdA (mupd (kpS (mupd V 130 0 0) k) 130 5 0) (mupd (kpS (mupd V 130 0 0) k) 130 5 0) len 0 := ⟨by rw [mupd_sn (by decide), kpS_130 (by decide), mupd_sn (by decide)]; exact hv0.2.2, mupd_ss, rfl, Nat.zero_le _⟩
    generalize mupd (kpS (mupd V 130 0 0) k) 130 5 0 = S2 at hrt2 hrg hrd ⊢
    generalize rtS S len k = fin at hrt2 ⊢
    refine mm_loop (ι := Nat × Nat × mS × Int32) (fun q => rdA q.2.2.1 q.2.2.1 len q.2.1 ∧ rgR q.2.2.1 ∧ len - q.2.1 < q.1 ∧ fin = rtL len q.1 q.2.1 q.2.2.1 q.2.2.2) (fun q => q.1) (fun q => [(0, .ref (n0 + 130)), (1, .int q.2.2.2)]) (fun q => q.2.2.1) (len + 1, 0, S2, 0) ⟨hrd, hrg, Nat.lt_succ_self _, hrt2⟩ ?_
    intro q hq ih
    obtain ⟨m1, a1, T, ev⟩ := q
    obtain ⟨hrd, hrg, hm, hf⟩ := hq
    dsimp only at hrd hrg hm hf ⊢
    obtain ⟨m2, rfl⟩ : ∃ m2, m1 = m2 + 1 := ⟨m1 - 1, by omega⟩
    have hf2 : rtL len (m2 + 1) a1 T ev = if (rcQ T len a1).1 = false then ((rcQ T len a1).2.2, ev) else if sgA T len (rcQ T len a1).2.1 = 59 then rtL len m2 ((rcQ T len a1).2.1 + 1) (mupd (exM (rcQ T len a1).2.2 ev).1 130 5 (nI ((rcQ T len a1).2.1 + 1))) (exM (rcQ T len a1).2.2 ev).2 else rtL len m2 (rcQ T len a1).2.1 (exM (rcQ T len a1).2.2 ev).1 (exM (rcQ T len a1).2.2 ev).2 := rfl
    rw [← hf] at hf2
    obtain ⟨k1, k2, k3, k4, -, -, k5⟩ := rcQ_ok hrd
    refine tv_aload_n X dX10_runText_32 rfl ?_
    refine mm_callVi (q := (RX10, TX10, 20)) X dX10_runText_33 (cX10_readsCommand_ok hl8 hrd) (cwV 0 X.2.2.2.2.1 gX10_runText_X10_readsCommand rfl rfl rfl (by decide +kernel) ⟨Nat.le_of_ble_eq_true rfl, Nat.le_of_ble_eq_true rfl⟩) rfl rfl gX10 rfl (Nat.le_of_ble_eq_true rfl) ⟨Nat.zero_le _, Nat.zero_le _⟩ (fun r S1 hq => ?_)
    obtain ⟨hq1, hq2⟩ := hq
    rw [hq1, hq2]
    clear hq1 hq2
    generalize rcQ T len a1 = w at hf2 k1 k2 k3 k4 k5 ⊢
    obtain ⟨w1, w2, w3⟩ := w
    dsimp only at hf2 k1 k2 k3 k4 k5 ⊢
    cases w1 with
    | false =>
      refine tv_if_eq (tgt := 133) X dX10_runText_36 (by decide) (fun h4 => ?_) (fun h4 => ?_)
      rotate_left
      · exact absurd rfl h4
      rw [if_pos rfl] at hf2
      refine tv_iload_n X dX10_runText_133 rfl ?_
      exact tv_iret X hrt dX10_runText_134 ⟨_, rfl, Or.inr ⟨rfl, by rw [hf2], by rw [hf2]⟩⟩
    | true =>
      rw [if_neg (by decide)] at hf2
      have k3' := k3 rfl
      obtain ⟨-, k6⟩ := k5 rfl
      have hrg3 : rgR w3 := rgR_ag hrg (k4 131 (by decide))
      obtain ⟨x1, x2, x3⟩ := exM_ok (ev := ev) hrg3 k6
      have hrd3 : rdA T (exM w3 ev).1 len w2 := ⟨(x3 4 (by decide)).trans k1.1, (x3 5 (by decide)).trans k1.2.1, (x2 132 (by decide)).trans k1.2.2.1, k1.2.2.2⟩
      refine tv_if_eq (tgt := 133) X dX10_runText_36 (by decide) (fun h4 => ?_) (fun h4 => ?_)
      · exact absurd h4 (by decide)
      refine tv_aload_n X dX10_runText_39 rfl ?_
      refine mm_getf X dX10_runText_40 gX10 iX10_runText_X10 rfl 6 (by decide) kX10_runText_168 rfl ?_
      refine mm_cut (pc := 123) (fun _ : Unit => True) (fun _ => [(0, .ref (n0 + 130)), (1, .int (exM w3 ev).2)]) (fun _ => []) (fun _ => (exM w3 ev).1) ?_ ?_
      · intro _ _
        generalize exM w3 ev = xx at hf2 x1 hrd3 ⊢
        refine tv_aload_n X dX10_runText_123 rfl ?_
        refine tv_bipush (v := 59) X dX10_runText_124 (by decide) ?_
        refine mm_callVi (q := (RX10, TX10, 20)) X dX10_runText_126 (cX10_takes_rd hl8 hrd3 59) (cwV 1 X.2.2.2.2.1 gX10_runText_X10_takes rfl rfl rfl (by decide +kernel) ⟨Nat.le_of_ble_eq_true rfl, Nat.le_of_ble_eq_true rfl⟩) rfl rfl gX10 rfl (Nat.le_of_ble_eq_true rfl) ⟨Nat.zero_le _, Nat.zero_le _⟩ (fun r S1 hq => ?_)
        rcases hq with ⟨hc, hq1, hq2⟩ | ⟨hc, hq1, hq2⟩
        · rw [hq1, hq2]
          rw [if_pos hc] at hf2
          refine tv_pop X dX10_runText_129 rfl ?_
          refine tv_goto (tgt := 32) X dX10_runText_130 (by decide) ?_
          have hlt : w2 < len := sgA_lt (by rw [hc]; decide)
          exact ih (m2, w2 + 1, mupd xx.1 130 5 (nI (w2 + 1)), xx.2) ⟨rdA_self (rdA_5 hrd3 hlt), rgR_ag x1 (mupd_n (by decide)), by show len - (w2 + 1) < m2; omega, hf2⟩ (Nat.lt_succ_self m2)
        · rw [hq1, hq2]
          rw [if_neg hc] at hf2
          refine tv_pop X dX10_runText_129 rfl ?_
          refine tv_goto (tgt := 32) X dX10_runText_130 (by decide) ?_
          have hle := k1.2.2.2
          exact ih (m2, w2, xx.1, xx.2) ⟨rdA_self hrd3, x1, by show len - w2 < m2; omega, hf2⟩ (Nat.lt_succ_self m2)
      intro hcut
      have hcut1 := hcut () trivial
      clear hcut
      have hex : exM w3 ev = if w3.1 130 6 = 112 then (mset w3 131 (prF (w3.1 131) (6 * w3.1 130 7 + w3.1 130 8).toNatClampNeg (w3.1 130 9) 48), ev) else if w3.1 130 6 = 120 then (mset w3 131 (zt (w3.1 131) 48), ev) else if w3.1 130 6 = 98 then (mset w3 131 (caF (w3.1 131) 48), ev) else (scD w3, ev + scV w3) := rfl
      rw [hex] at hcut1
      by_cases c2 : w3.1 130 6 = 112
      · rw [if_pos c2] at hcut1
        obtain ⟨r1, cc1, f1, hr1, hcc1, hf0, hf1, e1, e2, e3⟩ := k6 c2
        rw [e1, e2, e3, cellI, nI_clamp (by omega)] at hcut1
        rw [c2]
        refine tv_lookup (tgt := 76) X dX10_runText_43 (by decide) rfl (by decide) ?_
        refine tv_aload_n X dX10_runText_76 rfl ?_
        refine tv_bipush (v := 6) X dX10_runText_77 (by decide) ?_
        refine tv_aload_n X dX10_runText_79 rfl ?_
        refine mm_getf X dX10_runText_80 gX10 iX10_runText_X10 rfl 7 (by decide) kX10_runText_174 rfl ?_
        refine tv_imul X dX10_runText_83 ?_
        refine tv_aload_n X dX10_runText_84 rfl ?_
        refine mm_getf X dX10_runText_85 gX10 iX10_runText_X10 rfl 8 (by decide) kX10_runText_177 rfl ?_
        refine tv_iadd X dX10_runText_88 ?_
        refine tv_aload_n X dX10_runText_89 rfl ?_
        refine mm_getf X dX10_runText_90 gX10 iX10_runText_X10 rfl 9 (by decide) kX10_runText_165 rfl ?_
        rw [e1, e2, e3]
        refine mm_callVi (q := (RX10, TX10, 20)) X dX10_runText_93 (cX10_presses_ok (cellI r1 cc1) (by omega) _) (cwV 2 X.2.2.2.2.1 gX10_runText_X10_presses rfl rfl rfl (by decide +kernel) ⟨Nat.le_of_ble_eq_true rfl, Nat.le_of_ble_eq_true rfl⟩) rfl rfl gX10 rfl (Nat.le_of_ble_eq_true rfl) ⟨Nat.zero_le _, Nat.zero_le _⟩ (fun r S1 hq => ?_)
        obtain ⟨hq1, hq2⟩ := hq
        rw [hq1]
        refine tv_pop X dX10_runText_96 rfl ?_
        refine tv_goto (tgt := 123) X dX10_runText_97 (by decide) ?_
        exact hcut1
      rw [if_neg c2] at hcut1
      by_cases c3 : w3.1 130 6 = 120
      · rw [if_pos c3] at hcut1
        rw [c3]
        refine tv_lookup (tgt := 100) X dX10_runText_43 (by decide) rfl (by decide) ?_
        refine tv_aload_n X dX10_runText_100 rfl ?_
        refine mm_callVi (q := (RX10, TX10, 20)) X dX10_runText_101 (cX10_releases_ok) (cwV 0 X.2.2.2.2.1 gX10_runText_X10_releases rfl rfl rfl (by decide +kernel) ⟨Nat.le_of_ble_eq_true rfl, Nat.le_of_ble_eq_true rfl⟩) rfl rfl gX10 rfl (Nat.le_of_ble_eq_true rfl) ⟨Nat.zero_le _, Nat.zero_le _⟩ (fun r S1 hq => ?_)
        obtain ⟨hq1, hq2⟩ := hq
        rw [hq1]
        refine tv_pop X dX10_runText_104 rfl ?_
        refine tv_goto (tgt := 123) X dX10_runText_105 (by decide) ?_
        exact hcut1
      rw [if_neg c3] at hcut1
      by_cases c1 : w3.1 130 6 = 98
      · rw [if_pos c1] at hcut1
        rw [c1]
        refine tv_lookup (tgt := 108) X dX10_runText_43 (by decide) rfl (by decide) ?_
        refine tv_aload_n X dX10_runText_108 rfl ?_
        refine mm_callVi (q := (RX10, TX10, 20)) X dX10_runText_109 (cX10_calibrates_ok) (cwV 0 X.2.2.2.2.1 gX10_runText_X10_calibrates rfl rfl rfl (by decide +kernel) ⟨Nat.le_of_ble_eq_true rfl, Nat.le_of_ble_eq_true rfl⟩) rfl rfl gX10 rfl (Nat.le_of_ble_eq_true rfl) ⟨Nat.zero_le _, Nat.zero_le _⟩ (fun r S1 hq => ?_)
        obtain ⟨hq1, hq2⟩ := hq
        rw [hq1]
        refine tv_pop X dX10_runText_112 rfl ?_
        refine tv_goto (tgt := 123) X dX10_runText_113 (by decide) ?_
        exact hcut1
      rw [if_neg c1] at hcut1
      refine tv_lookup (tgt := 116) (off := 73) X dX10_runText_43 (by decide) ((lv_osw c1 rfl).trans ((lv_osw c2 rfl).trans ((lv_osw c3 rfl).trans rfl))) (by decide) ?_
      refine tv_iload_n X dX10_runText_116 rfl ?_
      refine tv_aload_n X dX10_runText_117 rfl ?_
      refine mm_callVi (q := (RX10, TX10, 20)) X dX10_runText_118 (cX10_scans_ok hrg3) (cwV 0 X.2.2.2.2.1 gX10_runText_X10_scans rfl rfl rfl (by decide +kernel) ⟨Nat.le_of_ble_eq_true rfl, Nat.le_of_ble_eq_true rfl⟩) rfl rfl gX10 rfl (Nat.le_of_ble_eq_true rfl) ⟨Nat.zero_le _, Nat.zero_le _⟩ (fun r S1 hq => ?_)
      obtain ⟨kk1, hkk1, hq1, hq2⟩ := hq
      rw [frS_D hkk1] at hq1 hq2
      rw [hq1, hq2]
      refine tv_iadd X dX10_runText_121 ?_
      refine tv_istore_n X dX10_runText_122 rfl ?_
      exact hcut1
end C38

