theorem asM_v {S : mS} {K : Nat → Int32} : ∀ T t, t < T → ((asM S K T).1 t = -1 ∨ ∃ c, c < 6 ∧ (asM S K T).1 t = nI c)
  | 0, t, h => absurd h (Nat.not_lt_zero t)
  | T + 1, t, h => by
    show upd (asM S K T).1 T (if mtQ S K T (asM S K T).2 then nI (ctR S K T (asM S K T).2) else -1) t = -1 ∨ ∃ c, c < 6 ∧ upd (asM S K T).1 T (if mtQ S K T (asM S K T).2 then nI (ctR S K T (asM S K T).2) else -1) t = nI c
    by_cases e : t = T
    · rw [e, pk_us]
      cases hm : mtQ S K T (asM S K T).2 with
      | false => exact Or.inl rfl
      | true => exact Or.inr ⟨_, mtQ_lt hm, rfl⟩
    · rw [pk_un e]
      exact asM_v T t (by omega)
/-- the contacts without a track, as bits -/
def umR (S : mS) : Nat → Int32
  | 0 => ((1 : Int32) <<< (S.1 130 17 &&& 31)) - 1
  | t + 1 => if S.1 141 t = -1 then umR S t else umR S t &&& (((1 : Int32) <<< (S.1 141 t &&& 31)) ^^^ (-1))
def sdM (S : mS) (t : Nat) : Bool := dwR S t && (!(decide (S.1 141 t = -1)) || decide (ofR S t 4 < S.1 131 100))
def ptS (S : mS) (t c : Nat) (age : Int32) : mS := mupd (mupd (mupd (mupd (mupd S 131 (101 + 5 * t + 0) 1) 131 (101 + 5 * t + 1) (S.1 136 c)) 131 (101 + 5 * t + 2) (S.1 137 c)) 131 (101 + 5 * t + 3) age) 131 (101 + 5 * t + 4) 0
def nxM (left : Int32) : Nat → Nat → Nat
  | c, 0 => c
  | c, m + 1 => if (left >>> (nI c &&& 31)) &&& 1 = 0 then nxM left (c + 1) m else c
theorem nxM_le {left : Int32} : ∀ {m c : Nat}, nxM left c m ≤ c + m
  | 0, c => Nat.le_refl _
  | m + 1, c => by
    show (if (left >>> (nI c &&& 31)) &&& 1 = 0 then nxM left (c + 1) m else c) ≤ _
    split
    · have := nxM_le (left := left) (m := m) (c := c + 1)
      omega
    · omega
/-- a track that is missed -/
def msT (S : mS) (t : Nat) : mS := mupd (mupd S 131 (101 + 5 * t + 4) (ofR S t 4 + 1)) 131 (101 + 5 * t + 0) (bz (sdM S t))
def msS (S : mS) (t : Nat) : mS := mupd (msT S t) 131 133 ((msT S t).1 131 133 + bz (!(sdM S t)))
/-- a track that goes down -/
def gdS (S : mS) (t c : Nat) : mS := mupd (ptS S t c 0) 131 132 ((ptS S t c 0).1 131 132 + 1)
def scF (left : Int32) (k : Nat) (q : mS × Nat × Int32) (t : Nat) : mS × Nat × Int32 :=
  if dwR q.1 t then (if q.1.1 141 t = -1 then (msS q.1 t, q.2.1, q.2.2 + bz (!(sdM q.1 t))) else (ptS q.1 t (q.1.1 141 t).toNatClampNeg (ofR q.1 t 3 + 1), q.2.1, q.2.2))
  else if nxM left q.2.1 (k - q.2.1) < k then (gdS q.1 t (nxM left q.2.1 (k - q.2.1)), nxM left q.2.1 (k - q.2.1) + 1, q.2.2 + 1) else (q.1, nxM left q.2.1 (k - q.2.1), q.2.2)
def scT (S : mS) (left : Int32) (k : Nat) : Nat → mS × Nat × Int32
  | 0 => (S, 0, 0)
  | t + 1 => scF left k (scT S left k t) t
theorem ptS_n {S : mS} {t c q : Nat} {a : Int32} (h : q ≠ 131) : (ptS S t c a).1 q = S.1 q := by
  unfold ptS
  rw [mupd_n h, mupd_n h, mupd_n h, mupd_n h, mupd_n h]
theorem msS_n {S : mS} {t q : Nat} (h : q ≠ 131) : (msS S t).1 q = S.1 q := by
  unfold msS msT
  rw [mupd_n h, mupd_n h, mupd_n h]
theorem gdS_n {S : mS} {t c q : Nat} (h : q ≠ 131) : (gdS S t c).1 q = S.1 q := by
  unfold gdS
  rw [mupd_n h, ptS_n h]
theorem scF_ok {left : Int32} {k : Nat} {q : mS × Nat × Int32} {t : Nat} (hq : q.2.1 ≤ k) : (scF left k q t).2.1 ≤ k ∧ ∀ r, r ≠ 131 → (scF left k q t).1.1 r = q.1.1 r := by
  have h1 := nxM_le (left := left) (m := k - q.2.1) (c := q.2.1)
  unfold scF
  split
  · split
    · exact ⟨hq, fun r hr => msS_n hr⟩
    · exact ⟨hq, fun r hr => ptS_n hr⟩
  · split
    · exact ⟨by assumption, fun r hr => gdS_n hr⟩
    · exact ⟨by show nxM left q.2.1 (k - q.2.1) ≤ k; omega, fun r _ => rfl⟩
theorem scT_ok {S : mS} {left : Int32} {k : Nat} : ∀ t, (scT S left k t).2.1 ≤ k ∧ ∀ r, r ≠ 131 → (scT S left k t).1.1 r = S.1 r
  | 0 => ⟨Nat.zero_le _, fun _ _ => rfl⟩
  | t + 1 => by
    obtain ⟨h1, h2⟩ := scT_ok (S := S) (left := left) (k := k) t
    obtain ⟨h3, h4⟩ := scF_ok (left := left) (t := t) h1
    exact ⟨h3, fun r hr => (h4 r hr).trans (h2 r hr)⟩
def scnM (S : mS) : Nat := (S.1 130 17).toNatClampNeg
def scQ (S : mS) : mS × Nat × Int32 := scT S (umR S 6) (scnM S) 6
def scE (S : mS) : mS := mupd (scQ S).1 131 131 ((scQ S).1.1 131 131 + 1)
section C33
variable {l : Launch} {D : va_G} {n0 : Nat} {ft : Nat × Nat × Nat} {n : Nat} {S : mS} {b : Nat}
theorem iX10_unmatched_X10 : ∀ w ∈ wsX100, w ∈ wsX10_unmatched := by decide +kernel
theorem kX10_unmatched_66 : Cond.fieldLink RX10 66 (TX10 17).1 (TX10 17).2.1 (TX10 17).2.2.1 ∈ wsX10_unmatched := by decide +kernel
theorem kX10_unmatched_40 : Cond.fieldLink RX10 40 (TX10 19).1 (TX10 19).2.1 (TX10 19).2.2.1 ∈ wsX10_unmatched := by decide +kernel
theorem cX10_unmatched_ok : mMi l yX10_unmatched wsX10_unmatched rmX10_unmatched D n0 ft [.ref (n0 + 130)] n S (fun r S' => S' = S ∧ r = umR S 6) := by
  refine tv_enter (cc := cX10_unmatched) (maxL := 3) (ret := (some .int)) (by decide) rfl (Nat.le_of_ble_eq_true rfl) ?_
  intro p e s m args below meth c X hrt hnm hargs
  refine tv_iconst (v := 1) X dX10_unmatched_0 (by decide) ?_
  refine tv_aload_n X dX10_unmatched_1 rfl ?_
  refine mm_getf X dX10_unmatched_2 gX10 iX10_unmatched_X10 rfl 17 (by decide) kX10_unmatched_66 rfl ?_
  refine tv_ishl X dX10_unmatched_5 ?_
  refine tv_iconst (v := 1) X dX10_unmatched_6 (by decide) ?_
  refine tv_isub X dX10_unmatched_7 ?_
  refine tv_istore_n X dX10_unmatched_8 rfl ?_
  refine tv_iconst (v := 0) X dX10_unmatched_9 (by decide) ?_
  refine tv_istore_n X dX10_unmatched_10 rfl ?_
  refine mm_for 6 (fun t => [(0, .ref (n0 + 130)), (1, .int (umR S t)), (2, .int (nI t))]) (fun _ => S) ?_ ?_
  · intro t ht ih
    dsimp only at ih
    have hnx : umR S (t + 1) = if S.1 141 t = -1 then umR S t else umR S t &&& (((1 : Int32) <<< (S.1 141 t &&& 31)) ^^^ (-1)) := rfl
    rw [hnx] at ih
    generalize umR S t = u at ih ⊢
    refine tv_iload_n X dX10_unmatched_11 rfl ?_
    refine tv_bipush (v := 6) X dX10_unmatched_12 (by decide) ?_
    refine tv_icmp_ge (tgt := 50) X dX10_unmatched_14 (by decide) (fun h1 => ?_) (fun h1 => ?_)
    · exact absurd h1 (nI_ge (a := t) (b := 6) ht (by decide))
    refine tv_iload_n X dX10_unmatched_17 rfl ?_
    refine tv_aload_n X dX10_unmatched_18 rfl ?_
    refine mm_getf X dX10_unmatched_19 gX10 iX10_unmatched_X10 rfl 19 (by decide) kX10_unmatched_40 rfl ?_
    refine tv_iload_n X dX10_unmatched_22 rfl ?_
    refine mm_iald X dX10_unmatched_23 g141 t rfl ht (by decide) ?_
    refine tv_iconst (v := -1) X dX10_unmatched_24 (by decide) ?_
    refine tv_icmp_ne (tgt := 32) X dX10_unmatched_25 (by decide) (fun h2 => ?_) (fun h2 => ?_)
    · rw [if_neg h2] at ih
      refine tv_iconst (v := 1) X dX10_unmatched_32 (by decide) ?_
      refine tv_aload_n X dX10_unmatched_33 rfl ?_
      refine mm_getf X dX10_unmatched_34 gX10 iX10_unmatched_X10 rfl 19 (by decide) kX10_unmatched_40 rfl ?_
      refine tv_iload_n X dX10_unmatched_37 rfl ?_
      refine mm_iald X dX10_unmatched_38 g141 t rfl ht (by decide) ?_
      refine tv_ishl X dX10_unmatched_39 ?_
      refine tv_iconst (v := -1) X dX10_unmatched_40 (by decide) ?_
      refine tv_ixor X dX10_unmatched_41 ?_
      refine tv_iand X dX10_unmatched_42 ?_
      refine tv_istore_n X dX10_unmatched_43 rfl ?_
      refine tv_iinc X dX10_unmatched_44 rfl (nI_1 t) rfl ?_
      refine tv_goto (tgt := 11) X dX10_unmatched_47 (by decide) ?_
      exact ih
    · rw [if_pos h2] at ih
      refine tv_iload_n X dX10_unmatched_28 rfl ?_
      refine tv_goto (tgt := 42) X dX10_unmatched_29 (by decide) ?_
      refine tv_iand X dX10_unmatched_42 ?_
      rw [Int32.and_self]
      refine tv_istore_n X dX10_unmatched_43 rfl ?_
      refine tv_iinc X dX10_unmatched_44 rfl (nI_1 t) rfl ?_
      refine tv_goto (tgt := 11) X dX10_unmatched_47 (by decide) ?_
      exact ih
  · refine tv_iload_n X dX10_unmatched_11 rfl ?_
    refine tv_bipush (v := 6) X dX10_unmatched_12 (by decide) ?_
    refine tv_icmp_ge (tgt := 50) X dX10_unmatched_14 (by decide) (fun h1 => ?_) (fun h1 => ?_)
    · refine tv_iload_n X dX10_unmatched_50 rfl ?_
      exact tv_iret X hrt dX10_unmatched_51 ⟨_, rfl, rfl, rfl⟩
    · exact absurd (nI_le (Nat.le_refl 6) (by decide)) h1
theorem iX10_staysDown_X10 : ∀ w ∈ wsX100, w ∈ wsX10_staysDown := by decide +kernel
theorem kX10_staysDown_7 : Cond.fieldLink RX10 7 (TX10 1).1 (TX10 1).2.1 (TX10 1).2.2.1 ∈ wsX10_staysDown := by decide +kernel
theorem kX10_staysDown_40 : Cond.fieldLink RX10 40 (TX10 19).1 (TX10 19).2.1 (TX10 19).2.2.1 ∈ wsX10_staysDown := by decide +kernel
theorem cX10_staysDown_ok {t : Nat} (ht : t < 6) : mMi l yX10_staysDown wsX10_staysDown rmX10_staysDown D n0 ft [.ref (n0 + 130), .int (nI t)] n S (fun r S' => S' = S ∧ r = bz (sdM S t)) := by
  have hsd : sdM S t = (dwR S t && (!(decide (S.1 141 t = -1)) || decide (ofR S t 4 < S.1 131 100))) := rfl
  refine tv_enter (cc := cX10_staysDown) (maxL := 2) (ret := (some .boolean)) (by decide) rfl (Nat.le_of_ble_eq_true rfl) ?_
  intro p e s m args below meth c X hrt hnm hargs
  refine tv_aload_n X dX10_staysDown_0 rfl ?_
  refine tv_iload_n X dX10_staysDown_1 rfl ?_
  refine mm_callVi (q := (RX10, TX10, 20)) X dX10_staysDown_2 (cX10_isDownNow_ok ht) (cwV 1 X.2.2.2.2.1 gX10_staysDown_X10_isDownNow rfl rfl rfl (by decide +kernel) ⟨Nat.le_of_ble_eq_true rfl, Nat.le_of_ble_eq_true rfl⟩) rfl rfl gX10 rfl (Nat.le_of_ble_eq_true rfl) ⟨Nat.zero_le _, Nat.zero_le _⟩ (fun r S1 hq => ?_)
  obtain ⟨hq1, hq2⟩ := hq
  rw [hq1, hq2]
  clear hq1 hq2
  cases hd : dwR S t with
  | false =>
    refine tv_if_eq (tgt := 38) X dX10_staysDown_5 (by decide) (fun h1 => ?_) (fun h1 => ?_)
    rotate_left
    · exact absurd rfl h1
    refine tv_iconst (v := 0) X dX10_staysDown_38 (by decide) ?_
    exact tv_zret X hrt dX10_staysDown_39 rfl ⟨_, rfl, rfl, by rw [hsd, hd]; rfl⟩
  | true =>
    refine tv_if_eq (tgt := 38) X dX10_staysDown_5 (by decide) (fun h1 => ?_) (fun h1 => ?_)
    · exact absurd h1 (by decide)
    refine tv_aload_n X dX10_staysDown_8 rfl ?_
    refine mm_getf X dX10_staysDown_9 gX10 iX10_staysDown_X10 rfl 19 (by decide) kX10_staysDown_40 rfl ?_
    refine tv_iload_n X dX10_staysDown_12 rfl ?_
    refine mm_iald X dX10_staysDown_13 g141 t rfl ht (by decide) ?_
    refine tv_iconst (v := -1) X dX10_staysDown_14 (by decide) ?_
    refine tv_icmp_ne (tgt := 34) X dX10_staysDown_15 (by decide) (fun h2 => ?_) (fun h2 => ?_)
    · refine tv_iconst (v := 1) X dX10_staysDown_34 (by decide) ?_
      refine tv_goto (tgt := 39) X dX10_staysDown_35 (by decide) ?_
      exact tv_zret X hrt dX10_staysDown_39 rfl ⟨_, rfl, rfl, by rw [hsd, hd, decide_eq_false h2]; rfl⟩
    refine tv_aload_n X dX10_staysDown_18 rfl ?_
    refine tv_iload_n X dX10_staysDown_19 rfl ?_
    refine tv_iconst (v := 4) X dX10_staysDown_20 (by decide) ?_
    refine mm_callVi (q := (RX10, TX10, 20)) X dX10_staysDown_21 (cX10_of_ok ht 4 rfl (by decide)) (cwV 2 X.2.2.2.2.1 gX10_staysDown_X10_of rfl rfl rfl (by decide +kernel) ⟨Nat.le_of_ble_eq_true rfl, Nat.le_of_ble_eq_true rfl⟩) rfl rfl gX10 rfl (Nat.le_of_ble_eq_true rfl) ⟨Nat.zero_le _, Nat.zero_le _⟩ (fun r S1 hq => ?_)
    obtain ⟨hq1, hq2⟩ := hq
    rw [hq1, hq2]
    clear hq1 hq2
    refine tv_aload_n X dX10_staysDown_24 rfl ?_
    refine mm_getf X dX10_staysDown_25 gX10 iX10_staysDown_X10 rfl 1 (by decide) kX10_staysDown_7 rfl ?_
    refine tv_bipush (v := 100) X dX10_staysDown_28 (by decide) ?_
    refine mm_iald X dX10_staysDown_30 g131 100 (by decide) (by decide) (by decide) ?_
    refine tv_icmp_ge (tgt := 38) X dX10_staysDown_31 (by decide) (fun h3 => ?_) (fun h3 => ?_)
    · refine tv_iconst (v := 0) X dX10_staysDown_38 (by decide) ?_
      exact tv_zret X hrt dX10_staysDown_39 rfl ⟨_, rfl, rfl, by rw [hsd, hd, decide_eq_true h2, decide_eq_false (Int32.not_lt.mpr h3)]; rfl⟩
    · refine tv_iconst (v := 1) X dX10_staysDown_34 (by decide) ?_
      refine tv_goto (tgt := 39) X dX10_staysDown_35 (by decide) ?_
      exact tv_zret X hrt dX10_staysDown_39 rfl ⟨_, rfl, rfl, by rw [hsd, hd, decide_eq_true h2, decide_eq_true (Int32.not_le.mp h3)]; rfl⟩
theorem iX10_puts_X10 : ∀ w ∈ wsX100, w ∈ wsX10_puts := by decide +kernel
theorem kX10_puts_25 : Cond.fieldLink RX10 25 (TX10 13).1 (TX10 13).2.1 (TX10 13).2.2.1 ∈ wsX10_puts := by decide +kernel
theorem kX10_puts_28 : Cond.fieldLink RX10 28 (TX10 14).1 (TX10 14).2.1 (TX10 14).2.2.1 ∈ wsX10_puts := by decide +kernel
theorem cX10_puts_ok {t : Nat} (ht : t < 6) {c1 : Nat} (hc : c1 < 24) (a : Int32) : mMv l yX10_puts wsX10_puts rmX10_puts D n0 ft [.ref (n0 + 130), .int (nI t), .int (nI c1), .int a] n S (fun S' => S' = ptS S t c1 a) := by
  refine tv_enter (cc := cX10_puts) (maxL := 4) (ret := none) (by decide) rfl (Nat.le_of_ble_eq_true rfl) ?_
  intro p e s m args below meth c X hrt hnm hargs
  refine tv_aload_n X dX10_puts_0 rfl ?_
  refine tv_iload_n X dX10_puts_1 rfl ?_
  refine tv_iconst (v := 0) X dX10_puts_2 (by decide) ?_
  refine tv_iconst (v := 1) X dX10_puts_3 (by decide) ?_
  refine mm_callVv (q := (RX10, TX10, 20)) X dX10_puts_4 (cX10_lay_ok ht 0 rfl (by decide) _) (cwV 3 X.2.2.2.2.1 gX10_puts_X10_lay rfl rfl rfl (by decide +kernel) ⟨Nat.le_of_ble_eq_true rfl, Nat.le_of_ble_eq_true rfl⟩) rfl rfl gX10 rfl (Nat.le_of_ble_eq_true rfl) ⟨Nat.zero_le _, Nat.zero_le _⟩ (fun S1 hq => ?_)
  rw [hq]
  clear hq
  refine tv_aload_n X dX10_puts_7 rfl ?_
  refine tv_iload_n X dX10_puts_8 rfl ?_
  refine tv_iconst (v := 1) X dX10_puts_9 (by decide) ?_
  refine tv_aload_n X dX10_puts_10 rfl ?_
  refine mm_getf X dX10_puts_11 gX10 iX10_puts_X10 rfl 13 (by decide) kX10_puts_25 rfl ?_
  refine tv_iload_n X dX10_puts_14 rfl ?_
  refine mm_iald X dX10_puts_15 g136 c1 rfl hc (by decide) ?_
  rw [mupd_n (by decide)]
  refine mm_callVv (q := (RX10, TX10, 20)) X dX10_puts_16 (cX10_lay_ok ht 1 rfl (by decide) _) (cwV 3 X.2.2.2.2.1 gX10_puts_X10_lay rfl rfl rfl (by decide +kernel) ⟨Nat.le_of_ble_eq_true rfl, Nat.le_of_ble_eq_true rfl⟩) rfl rfl gX10 rfl (Nat.le_of_ble_eq_true rfl) ⟨Nat.zero_le _, Nat.zero_le _⟩ (fun S1 hq => ?_)
  rw [hq]
  clear hq
  refine tv_aload_n X dX10_puts_19 rfl ?_
  refine tv_iload_n X dX10_puts_20 rfl ?_
  refine tv_iconst (v := 2) X dX10_puts_21 (by decide) ?_
  refine tv_aload_n X dX10_puts_22 rfl ?_
  refine mm_getf X dX10_puts_23 gX10 iX10_puts_X10 rfl 14 (by decide) kX10_puts_28 rfl ?_
  refine tv_iload_n X dX10_puts_26 rfl ?_
  refine mm_iald X dX10_puts_27 g137 c1 rfl hc (by decide) ?_
  rw [mupd_n (by decide), mupd_n (by decide)]
  refine mm_callVv (q := (RX10, TX10, 20)) X dX10_puts_28 (cX10_lay_ok ht 2 rfl (by decide) _) (cwV 3 X.2.2.2.2.1 gX10_puts_X10_lay rfl rfl rfl (by decide +kernel) ⟨Nat.le_of_ble_eq_true rfl, Nat.le_of_ble_eq_true rfl⟩) rfl rfl gX10 rfl (Nat.le_of_ble_eq_true rfl) ⟨Nat.zero_le _, Nat.zero_le _⟩ (fun S1 hq => ?_)
  rw [hq]
  clear hq
  refine tv_aload_n X dX10_puts_31 rfl ?_
  refine tv_iload_n X dX10_puts_32 rfl ?_
  refine tv_iconst (v := 3) X dX10_puts_33 (by decide) ?_
  refine tv_iload_n X dX10_puts_34 rfl ?_
  refine mm_callVv (q := (RX10, TX10, 20)) X dX10_puts_35 (cX10_lay_ok ht 3 rfl (by decide) _) (cwV 3 X.2.2.2.2.1 gX10_puts_X10_lay rfl rfl rfl (by decide +kernel) ⟨Nat.le_of_ble_eq_true rfl, Nat.le_of_ble_eq_true rfl⟩) rfl rfl gX10 rfl (Nat.le_of_ble_eq_true rfl) ⟨Nat.zero_le _, Nat.zero_le _⟩ (fun S1 hq => ?_)
  rw [hq]
  clear hq
  refine tv_aload_n X dX10_puts_38 rfl ?_
  refine tv_iload_n X dX10_puts_39 rfl ?_
  refine tv_iconst (v := 4) X dX10_puts_40 (by decide) ?_
  refine tv_iconst (v := 0) X dX10_puts_41 (by decide) ?_
  refine mm_callVv (q := (RX10, TX10, 20)) X dX10_puts_42 (cX10_lay_ok ht 4 rfl (by decide) _) (cwV 3 X.2.2.2.2.1 gX10_puts_X10_lay rfl rfl rfl (by decide +kernel) ⟨Nat.le_of_ble_eq_true rfl, Nat.le_of_ble_eq_true rfl⟩) rfl rfl gX10 rfl (Nat.le_of_ble_eq_true rfl) ⟨Nat.zero_le _, Nat.zero_le _⟩ (fun S1 hq => ?_)
  rw [hq]
  exact tv_vret X hrt dX10_puts_45 ⟨_, rfl, rfl⟩
theorem iX10_scans_X10 : ∀ w ∈ wsX100, w ∈ wsX10_scans := by decide +kernel
theorem kX10_scans_7 : Cond.fieldLink RX10 7 (TX10 1).1 (TX10 1).2.1 (TX10 1).2.2.1 ∈ wsX10_scans := by decide +kernel
theorem kX10_scans_66 : Cond.fieldLink RX10 66 (TX10 17).1 (TX10 17).2.1 (TX10 17).2.2.1 ∈ wsX10_scans := by decide +kernel
theorem kX10_scans_40 : Cond.fieldLink RX10 40 (TX10 19).1 (TX10 19).2.1 (TX10 19).2.2.1 ∈ wsX10_scans := by decide +kernel
set_option maxHeartbeats 4000000 in
theorem cX10_scans_ok (hS : rgR S) : mMi l yX10_scans wsX10_scans rmX10_scans D n0 ft [.ref (n0 + 130)] n S (fun r S' => ∃ k, rpF (labM S 48) k = 0 ∧ S' = scE (fmE (fcE (frS S k))) ∧ r = (scQ (fmE (fcE (frS S k)))).2.2) := by
  refine tv_enter (cc := cX10_scans) (maxL := 6) (ret := (some .int)) (by decide) rfl (Nat.le_of_ble_eq_true rfl) ?_
  intro p e s m args below meth c X hrt hnm hargs
  refine tv_aload_n X dX10_scans_0 rfl ?_
  refine mm_callVv (q := (RX10, TX10, 20)) X dX10_scans_1 (cX10_findsMatching_ok hS) (cwV 0 X.2.2.2.2.1 gX10_scans_X10_findsMatching rfl rfl rfl (by decide +kernel) ⟨Nat.le_of_ble_eq_true rfl, Nat.le_of_ble_eq_true rfl⟩) rfl rfl gX10 rfl (Nat.le_of_ble_eq_true rfl) ⟨Nat.zero_le _, Nat.zero_le _⟩ (fun S1 hq => ?_)
  obtain ⟨k0, hk0, hq1⟩ := hq
  rw [hq1]
  clear hq1
  have hpost : ∀ (S' : mS) (r : Int32), S' = scE (fmE (fcE (frS S k0))) ∧ r = (scQ (fmE (fcE (frS S k0)))).2.2 → ∃ k, rpF (labM S 48) k = 0 ∧ S' = scE (fmE (fcE (frS S k))) ∧ r = (scQ (fmE (fcE (frS S k)))).2.2 := fun S' r h => ⟨k0, hk0, h.1, h.2⟩
  have hM : ∀ t, t < 6 → ((fmE (fcE (frS S k0))).1 141 t = -1 ∨ ∃ c, c < 6 ∧ (fmE (fcE (frS S k0))).1 141 t = nI c) := fun t ht => by
    unfold fmE
    rw [mset_s]
    exact asM_v 6 t ht
  have hk : ∃ k, k ≤ 6 ∧ (fmE (fcE (frS S k0))).1 130 17 = nI k := by
    refine ⟨min (fcN (frS S k0) 48) 6, Nat.min_le_right _ _, ?_⟩
    unfold fmE
    rw [mset_n (by decide), mset_n (by decide)]
    exact fcE_c
  generalize fmE (fcE (frS S k0)) = S2 at hpost hM hk ⊢
  clear hk0
  obtain ⟨k, hk6, hkc⟩ := hk
  have hscQ : scQ S2 = scT S2 (umR S2 6) k 6 := by
    unfold scQ scnM
    rw [hkc, nI_clamp (by omega)]
  refine tv_aload_n X dX10_scans_4 rfl ?_
  refine mm_callVi (q := (RX10, TX10, 20)) X dX10_scans_5 (cX10_unmatched_ok) (cwV 0 X.2.2.2.2.1 gX10_scans_X10_unmatched rfl rfl rfl (by decide +kernel) ⟨Nat.le_of_ble_eq_true rfl, Nat.le_of_ble_eq_true rfl⟩) rfl rfl gX10 rfl (Nat.le_of_ble_eq_true rfl) ⟨Nat.zero_le _, Nat.zero_le _⟩ (fun r S1 hq => ?_)
  obtain ⟨hq1, hq2⟩ := hq
  rw [hq1, hq2]
  clear hq1 hq2
  generalize umR S2 6 = left at hscQ ⊢
  refine tv_istore_n X dX10_scans_8 rfl ?_
  refine tv_iconst (v := 0) X dX10_scans_9 (by decide) ?_
  refine tv_istore_n X dX10_scans_10 rfl ?_
  refine tv_iconst (v := 0) X dX10_scans_11 (by decide) ?_
  refine tv_istore_n X dX10_scans_12 rfl ?_
  refine tv_iconst (v := 0) X dX10_scans_13 (by decide) ?_
  refine tv_istore X dX10_scans_14 rfl ?_
  refine mm_L (L' := [(0, .ref (n0 + 130)), (1, .int left), (2, .int (nI (scT S2 left k 0).2.1)), (3, .int (scT S2 left k 0).2.2), (4, .int (nI 0))]) rfl ?_
  refine mm_st (S' := (scT S2 left k 0).1) rfl ?_
  refine mm_for 6 (fun t => [(0, .ref (n0 + 130)), (1, .int left), (2, .int (nI (scT S2 left k t).2.1)), (3, .int (scT S2 left k t).2.2), (4, .int (nI t))]) (fun t => (scT S2 left k t).1) ?_ ?_
  · intro t ht ih
    dsimp only at ih
    have hnx : scT S2 left k (t + 1) = scF left k (scT S2 left k t) t := rfl
    rw [hnx] at ih
    obtain ⟨hc, hrow⟩ := scT_ok (S := S2) (left := left) (k := k) t
    generalize scT S2 left k t = q at ih hc hrow ⊢
    obtain ⟨S3, c, ev⟩ := q
    dsimp only at hc hrow ⊢
    have hcn : S3.1 130 17 = nI k := by rw [hrow 130 (by decide)]; exact hkc
    have h141 := hM t ht
    rw [← hrow 141 (by decide)] at h141
    clear hrow hnx
    unfold scF at ih
    dsimp only at ih
    refine tv_iload X dX10_scans_16 rfl ?_
    refine tv_bipush (v := 6) X dX10_scans_18 (by decide) ?_
    refine tv_icmp_ge (tgt := 208) X dX10_scans_20 (by decide) (fun h1 => ?_) (fun h1 => ?_)
    · exact absurd h1 (nI_ge (a := t) (b := 6) ht (by decide))
    refine tv_aload_n X dX10_scans_23 rfl ?_
    refine tv_iload X dX10_scans_24 rfl ?_
    refine mm_callVi (q := (RX10, TX10, 20)) X dX10_scans_26 (cX10_isDownNow_ok ht) (cwV 1 X.2.2.2.2.1 gX10_scans_X10_isDownNow rfl rfl rfl (by decide +kernel) ⟨Nat.le_of_ble_eq_true rfl, Nat.le_of_ble_eq_true rfl⟩) rfl rfl gX10 rfl (Nat.le_of_ble_eq_true rfl) ⟨Nat.zero_le _, Nat.zero_le _⟩ (fun r S1 hq => ?_)
    obtain ⟨hq1, hq2⟩ := hq
    rw [hq1, hq2]
    clear hq1 hq2
    cases hd : dwR S3 t with
    | false =>
      rw [hd] at ih
      refine tv_if_ne (tgt := 91) X dX10_scans_29 (by decide) (fun h2 => ?_) (fun h2 => ?_)
      · exact absurd rfl h2
      have hcx : nxM left c (k - c) ≤ c + (k - c) := nxM_le
      generalize hnxc : nxM left c (k - c) = cx at ih hcx
      refine mm_cut (pc := 54) (fun _ : Unit => True) (fun _ => [(0, .ref (n0 + 130)), (1, .int left), (2, .int (nI cx)), (3, .int ev), (4, .int (nI t))]) (fun _ => []) (fun _ => S3) ?_ ?_
      · intro _ _
        refine tv_iload_n X dX10_scans_54 rfl ?_
        refine tv_aload_n X dX10_scans_55 rfl ?_
        refine mm_getf X dX10_scans_56 gX10 iX10_scans_X10 rfl 17 (by decide) kX10_scans_66 rfl ?_
        rw [hcn]
        by_cases hlt : cx < k
        · refine tv_icmp_ge (tgt := 202) X dX10_scans_59 (by decide) (fun h3 => ?_) (fun h3 => ?_)
          · exact absurd h3 (nI_ge hlt (by omega))
          rw [if_pos hlt] at ih
          refine tv_aload_n X dX10_scans_62 rfl ?_
          refine tv_iload X dX10_scans_63 rfl ?_
          refine tv_iload_n X dX10_scans_65 rfl ?_
          refine tv_iconst (v := 0) X dX10_scans_66 (by decide) ?_
          refine mm_callVv (q := (RX10, TX10, 20)) X dX10_scans_67 (cX10_puts_ok ht (by omega) 0) (cwV 3 X.2.2.2.2.1 gX10_scans_X10_puts rfl rfl rfl (by decide +kernel) ⟨Nat.le_of_ble_eq_true rfl, Nat.le_of_ble_eq_true rfl⟩) rfl rfl gX10 rfl (Nat.le_of_ble_eq_true rfl) ⟨Nat.zero_le _, Nat.zero_le _⟩ (fun S1 hq => ?_)
          rw [hq]
          clear hq
          refine tv_iinc X dX10_scans_70 rfl (nI_1 cx) rfl ?_
          refine tv_aload_n X dX10_scans_73 rfl ?_
          refine mm_getf X dX10_scans_74 gX10 iX10_scans_X10 rfl 1 (by decide) kX10_scans_7 rfl ?_
          refine tv_sipush (v := 132) X dX10_scans_77 (by decide) ?_
          refine tv_dup2 X dX10_scans_80 rfl rfl ?_
          refine mm_iald X dX10_scans_81 g131 132 rfl (by decide) (by decide) ?_
          refine tv_iconst (v := 1) X dX10_scans_82 (by decide) ?_
          refine tv_iadd X dX10_scans_83 ?_
          refine mm_iast X dX10_scans_84 g131 132 rfl (by decide) (by decide) ?_
          refine tv_iinc X dX10_scans_85 rfl rfl rfl ?_
          refine tv_goto (tgt := 202) X dX10_scans_88 (by decide) ?_
          refine tv_iinc X dX10_scans_202 rfl (nI_1 t) rfl ?_
          refine tv_goto (tgt := 16) X dX10_scans_205 (by decide) ?_
          exact ih
        · refine tv_icmp_ge (tgt := 202) X dX10_scans_59 (by decide) (fun h3 => ?_) (fun h3 => ?_)
          rotate_left
          · exact absurd (nI_le (Nat.le_of_not_lt hlt) (by omega)) h3
          rw [if_neg hlt] at ih
          refine tv_iinc X dX10_scans_202 rfl (nI_1 t) rfl ?_
          refine tv_goto (tgt := 16) X dX10_scans_205 (by decide) ?_
          exact ih
      intro hcut
      refine mm_loop (ι := Nat) (fun c => c ≤ k ∧ nxM left c (k - c) = cx) (fun c => k - c) (fun c => [(0, .ref (n0 + 130)), (1, .int left), (2, .int (nI c)), (3, .int ev), (4, .int (nI t))]) (fun _ => S3) c ⟨hc, hnxc⟩ ?_
      intro c1 hc1 ih2
      obtain ⟨hc1, hc2⟩ := hc1
      refine tv_iload_n X dX10_scans_32 rfl ?_
      refine tv_aload_n X dX10_scans_33 rfl ?_
      refine mm_getf X dX10_scans_34 gX10 iX10_scans_X10 rfl 17 (by decide) kX10_scans_66 rfl ?_
      rw [hcn]
      by_cases hlt : c1 < k
      · refine tv_icmp_ge (tgt := 54) X dX10_scans_37 (by decide) (fun h3 => ?_) (fun h3 => ?_)
        · exact absurd h3 (nI_ge hlt (by omega))
        have hn1 : nxM left c1 (k - c1) = if (left >>> (nI c1 &&& 31)) &&& 1 = 0 then nxM left (c1 + 1) (k - (c1 + 1)) else c1 := by
          rw [show k - c1 = k - (c1 + 1) + 1 by omega]; rfl
        refine tv_iload_n X dX10_scans_40 rfl ?_
        refine tv_iload_n X dX10_scans_41 rfl ?_
        refine tv_ishr X dX10_scans_42 ?_
        refine tv_iconst (v := 1) X dX10_scans_43 (by decide) ?_
        refine tv_iand X dX10_scans_44 ?_
        refine tv_if_ne (tgt := 54) X dX10_scans_45 (by decide) (fun h4 => ?_) (fun h4 => ?_)
        · have e : c1 = cx := by rw [← hc2, hn1, if_neg h4]
          rw [e]
          exact hcut () trivial
        · refine tv_iinc X dX10_scans_48 rfl (nI_1 c1) rfl ?_
          refine tv_goto (tgt := 32) X dX10_scans_51 (by decide) ?_
          refine ih2 (c1 + 1) ⟨hlt, ?_⟩ (by omega)
          rw [← hc2, hn1, if_pos h4]
      · refine tv_icmp_ge (tgt := 54) X dX10_scans_37 (by decide) (fun h3 => ?_) (fun h3 => ?_)
        rotate_left
        · exact absurd (nI_le (Nat.le_of_not_lt hlt) (by omega)) h3
        have e : c1 = cx := by
          rw [← hc2, show k - c1 = 0 by omega]; rfl
        rw [e]
        exact hcut () trivial
    | true =>
      rw [hd] at ih
      refine tv_if_ne (tgt := 91) X dX10_scans_29 (by decide) (fun h2 => ?_) (fun h2 => ?_)
      rotate_left
      · exact absurd h2 (by decide)
      refine tv_aload_n X dX10_scans_91 rfl ?_
      refine mm_getf X dX10_scans_92 gX10 iX10_scans_X10 rfl 19 (by decide) kX10_scans_40 rfl ?_
      refine tv_iload X dX10_scans_95 rfl ?_
      refine mm_iald X dX10_scans_97 g141 t rfl ht (by decide) ?_
      refine tv_iconst (v := -1) X dX10_scans_98 (by decide) ?_
      by_cases hm : S3.1 141 t = -1
      · refine tv_icmp_eq (tgt := 127) X dX10_scans_99 (by decide) (fun h3 => ?_) (fun h3 => ?_)
        rotate_left
        · exact absurd hm h3
        rw [if_pos rfl, if_pos hm] at ih
        refine tv_aload_n X dX10_scans_127 rfl ?_
        refine tv_iload X dX10_scans_128 rfl ?_
        refine mm_callVi (q := (RX10, TX10, 20)) X dX10_scans_130 (cX10_staysDown_ok ht) (cwV 1 X.2.2.2.2.1 gX10_scans_X10_staysDown rfl rfl rfl (by decide +kernel) ⟨Nat.le_of_ble_eq_true rfl, Nat.le_of_ble_eq_true rfl⟩) rfl rfl gX10 rfl (Nat.le_of_ble_eq_true rfl) ⟨Nat.zero_le _, Nat.zero_le _⟩ (fun r S1 hq => ?_)
        obtain ⟨hq1, hq2⟩ := hq
        rw [hq1, hq2]
        clear hq1 hq2
        refine tv_istore X dX10_scans_133 rfl ?_
        refine tv_aload_n X dX10_scans_135 rfl ?_
        refine tv_iload X dX10_scans_136 rfl ?_
        refine tv_iconst (v := 4) X dX10_scans_138 (by decide) ?_
        refine tv_aload_n X dX10_scans_139 rfl ?_
        refine tv_iload X dX10_scans_140 rfl ?_
        refine tv_iconst (v := 4) X dX10_scans_142 (by decide) ?_
        refine mm_callVi (q := (RX10, TX10, 20)) X dX10_scans_143 (cX10_of_ok ht 4 rfl (by decide)) (cwV 2 X.2.2.2.2.1 gX10_scans_X10_of rfl rfl rfl (by decide +kernel) ⟨Nat.le_of_ble_eq_true rfl, Nat.le_of_ble_eq_true rfl⟩) rfl rfl gX10 rfl (Nat.le_of_ble_eq_true rfl) ⟨Nat.zero_le _, Nat.zero_le _⟩ (fun r S1 hq => ?_)
        obtain ⟨hq1, hq2⟩ := hq
        rw [hq1, hq2]
        clear hq1 hq2
        refine tv_iconst (v := 1) X dX10_scans_146 (by decide) ?_
        refine tv_iadd X dX10_scans_147 ?_
        refine mm_callVv (q := (RX10, TX10, 20)) X dX10_scans_148 (cX10_lay_ok ht 4 rfl (by decide) _) (cwV 3 X.2.2.2.2.1 gX10_scans_X10_lay rfl rfl rfl (by decide +kernel) ⟨Nat.le_of_ble_eq_true rfl, Nat.le_of_ble_eq_true rfl⟩) rfl rfl gX10 rfl (Nat.le_of_ble_eq_true rfl) ⟨Nat.zero_le _, Nat.zero_le _⟩ (fun S1 hq => ?_)
        rw [hq]
        clear hq
        have hms : msS S3 t = mupd (msT S3 t) 131 133 ((msT S3 t).1 131 133 + bz (!(sdM S3 t))) := rfl
        have hmt : msT S3 t = mupd (mupd S3 131 (101 + 5 * t + 4) (ofR S3 t 4 + 1)) 131 (101 + 5 * t + 0) (bz (sdM S3 t)) := rfl
        cases hs : sdM S3 t with
        | false =>
          rw [hs] at ih hms hmt
          refine tv_aload_n X dX10_scans_151 rfl ?_
          refine tv_iload X dX10_scans_152 rfl ?_
          refine tv_iconst (v := 0) X dX10_scans_154 (by decide) ?_
          refine tv_iload X dX10_scans_155 rfl ?_
          refine tv_if_eq (tgt := 164) X dX10_scans_157 (by decide) (fun h4 => ?_) (fun h4 => ?_)
          rotate_left
          · exact absurd rfl h4
          refine tv_iconst (v := 0) X dX10_scans_164 (by decide) ?_
          refine mm_callVv (q := (RX10, TX10, 20)) X dX10_scans_165 (cX10_lay_ok ht 0 rfl (by decide) _) (cwV 3 X.2.2.2.2.1 gX10_scans_X10_lay rfl rfl rfl (by decide +kernel) ⟨Nat.le_of_ble_eq_true rfl, Nat.le_of_ble_eq_true rfl⟩) rfl rfl gX10 rfl (Nat.le_of_ble_eq_true rfl) ⟨Nat.zero_le _, Nat.zero_le _⟩ (fun S1 hq => ?_)
          rw [hq]
          clear hq
          refine mm_st hmt.symm ?_
          rw [hms] at ih
          generalize msT S3 t = S4 at ih ⊢
          refine tv_aload_n X dX10_scans_168 rfl ?_
          refine mm_getf X dX10_scans_169 gX10 iX10_scans_X10 rfl 1 (by decide) kX10_scans_7 rfl ?_
          refine tv_sipush (v := 133) X dX10_scans_172 (by decide) ?_
          refine tv_dup2 X dX10_scans_175 rfl rfl ?_
          refine mm_iald X dX10_scans_176 g131 133 rfl (by decide) (by decide) ?_
          refine tv_iload X dX10_scans_177 rfl ?_
          refine tv_if_eq (tgt := 186) X dX10_scans_179 (by decide) (fun h5 => ?_) (fun h5 => ?_)
          rotate_left
          · exact absurd rfl h5
          refine tv_iconst (v := 1) X dX10_scans_186 (by decide) ?_
          refine tv_iadd X dX10_scans_187 ?_
          refine mm_iast X dX10_scans_188 g131 133 rfl (by decide) (by decide) ?_
          refine tv_iload_n X dX10_scans_189 rfl ?_
          refine tv_iload X dX10_scans_190 rfl ?_
          refine tv_if_eq (tgt := 199) X dX10_scans_192 (by decide) (fun h6 => ?_) (fun h6 => ?_)
          rotate_left
          · exact absurd rfl h6
          refine tv_iconst (v := 1) X dX10_scans_199 (by decide) ?_
          refine tv_iadd X dX10_scans_200 ?_
          refine tv_istore_n X dX10_scans_201 rfl ?_
          refine tv_iinc X dX10_scans_202 rfl (nI_1 t) rfl ?_
          refine tv_goto (tgt := 16) X dX10_scans_205 (by decide) ?_
          exact tv_sl [0, 1, 2, 3, 4] rfl ih
        | true =>
          rw [hs] at ih hms hmt
          refine tv_aload_n X dX10_scans_151 rfl ?_
          refine tv_iload X dX10_scans_152 rfl ?_
          refine tv_iconst (v := 0) X dX10_scans_154 (by decide) ?_
          refine tv_iload X dX10_scans_155 rfl ?_
          refine tv_if_eq (tgt := 164) X dX10_scans_157 (by decide) (fun h4 => ?_) (fun h4 => ?_)
          · exact absurd h4 (by decide)
          refine tv_iconst (v := 1) X dX10_scans_160 (by decide) ?_
          refine tv_goto (tgt := 165) X dX10_scans_161 (by decide) ?_
          refine mm_callVv (q := (RX10, TX10, 20)) X dX10_scans_165 (cX10_lay_ok ht 0 rfl (by decide) _) (cwV 3 X.2.2.2.2.1 gX10_scans_X10_lay rfl rfl rfl (by decide +kernel) ⟨Nat.le_of_ble_eq_true rfl, Nat.le_of_ble_eq_true rfl⟩) rfl rfl gX10 rfl (Nat.le_of_ble_eq_true rfl) ⟨Nat.zero_le _, Nat.zero_le _⟩ (fun S1 hq => ?_)
          rw [hq]
          clear hq
          refine mm_st hmt.symm ?_
          rw [hms] at ih
          generalize msT S3 t = S4 at ih ⊢
          refine tv_aload_n X dX10_scans_168 rfl ?_
          refine mm_getf X dX10_scans_169 gX10 iX10_scans_X10 rfl 1 (by decide) kX10_scans_7 rfl ?_
          refine tv_sipush (v := 133) X dX10_scans_172 (by decide) ?_
          refine tv_dup2 X dX10_scans_175 rfl rfl ?_
          refine mm_iald X dX10_scans_176 g131 133 rfl (by decide) (by decide) ?_
          refine tv_iload X dX10_scans_177 rfl ?_
          refine tv_if_eq (tgt := 186) X dX10_scans_179 (by decide) (fun h5 => ?_) (fun h5 => ?_)
          · exact absurd h5 (by decide)
          refine tv_iconst (v := 0) X dX10_scans_182 (by decide) ?_
          refine tv_goto (tgt := 187) X dX10_scans_183 (by decide) ?_
          refine tv_iadd X dX10_scans_187 ?_
          refine mm_iast X dX10_scans_188 g131 133 rfl (by decide) (by decide) ?_
          refine tv_iload_n X dX10_scans_189 rfl ?_
          refine tv_iload X dX10_scans_190 rfl ?_
          refine tv_if_eq (tgt := 199) X dX10_scans_192 (by decide) (fun h6 => ?_) (fun h6 => ?_)
          · exact absurd h6 (by decide)
          refine tv_iconst (v := 0) X dX10_scans_195 (by decide) ?_
          refine tv_goto (tgt := 200) X dX10_scans_196 (by decide) ?_
          refine tv_iadd X dX10_scans_200 ?_
          refine tv_istore_n X dX10_scans_201 rfl ?_
          refine tv_iinc X dX10_scans_202 rfl (nI_1 t) rfl ?_
          refine tv_goto (tgt := 16) X dX10_scans_205 (by decide) ?_
          exact tv_sl [0, 1, 2, 3, 4] rfl ih
      · refine tv_icmp_eq (tgt := 127) X dX10_scans_99 (by decide) (fun h3 => ?_) (fun h3 => ?_)
        · exact absurd h3 hm
        rw [if_pos rfl, if_neg hm] at ih
        obtain ⟨cm, hcm6, hcm⟩ := h141.resolve_left hm
        refine tv_aload_n X dX10_scans_102 rfl ?_
        refine tv_iload X dX10_scans_103 rfl ?_
        refine tv_aload_n X dX10_scans_105 rfl ?_
        refine mm_getf X dX10_scans_106 gX10 iX10_scans_X10 rfl 19 (by decide) kX10_scans_40 rfl ?_
        refine tv_iload X dX10_scans_109 rfl ?_
        refine mm_iald X dX10_scans_111 g141 t rfl ht (by decide) ?_
        refine tv_aload_n X dX10_scans_112 rfl ?_
        refine tv_iload X dX10_scans_113 rfl ?_
        refine tv_iconst (v := 3) X dX10_scans_115 (by decide) ?_
        rw [hcm]
        rw [hcm, nI_clamp (by omega)] at ih
        refine mm_callVi (q := (RX10, TX10, 20)) X dX10_scans_116 (cX10_of_ok ht 3 rfl (by decide)) (cwV 2 X.2.2.2.2.1 gX10_scans_X10_of rfl rfl rfl (by decide +kernel) ⟨Nat.le_of_ble_eq_true rfl, Nat.le_of_ble_eq_true rfl⟩) rfl rfl gX10 rfl (Nat.le_of_ble_eq_true rfl) ⟨Nat.zero_le _, Nat.zero_le _⟩ (fun r S1 hq => ?_)
        obtain ⟨hq1, hq2⟩ := hq
        rw [hq1, hq2]
        clear hq1 hq2
        refine tv_iconst (v := 1) X dX10_scans_119 (by decide) ?_
        refine tv_iadd X dX10_scans_120 ?_
        refine mm_callVv (q := (RX10, TX10, 20)) X dX10_scans_121 (cX10_puts_ok ht (by omega) _) (cwV 3 X.2.2.2.2.1 gX10_scans_X10_puts rfl rfl rfl (by decide +kernel) ⟨Nat.le_of_ble_eq_true rfl, Nat.le_of_ble_eq_true rfl⟩) rfl rfl gX10 rfl (Nat.le_of_ble_eq_true rfl) ⟨Nat.zero_le _, Nat.zero_le _⟩ (fun S1 hq => ?_)
        rw [hq]
        clear hq
        refine tv_goto (tgt := 202) X dX10_scans_124 (by decide) ?_
        refine tv_iinc X dX10_scans_202 rfl (nI_1 t) rfl ?_
        refine tv_goto (tgt := 16) X dX10_scans_205 (by decide) ?_
        exact ih
  · refine tv_iload X dX10_scans_16 rfl ?_
    refine tv_bipush (v := 6) X dX10_scans_18 (by decide) ?_
    refine tv_icmp_ge (tgt := 208) X dX10_scans_20 (by decide) (fun h1 => ?_) (fun h1 => ?_)
    rotate_left
    · exact absurd (nI_le (Nat.le_refl 6) (by decide)) h1
    rw [← hscQ]
    have hsc : scE S2 = mupd (scQ S2).1 131 131 ((scQ S2).1.1 131 131 + 1) := rfl
    rw [hsc] at hpost
    generalize scQ S2 = q at hpost ⊢
    refine tv_aload_n X dX10_scans_208 rfl ?_
    refine mm_getf X dX10_scans_209 gX10 iX10_scans_X10 rfl 1 (by decide) kX10_scans_7 rfl ?_
    refine tv_sipush (v := 131) X dX10_scans_212 (by decide) ?_
    refine tv_dup2 X dX10_scans_215 rfl rfl ?_
    refine mm_iald X dX10_scans_216 g131 131 rfl (by decide) (by decide) ?_
    refine tv_iconst (v := 1) X dX10_scans_217 (by decide) ?_
    refine tv_iadd X dX10_scans_218 ?_
    refine mm_iast X dX10_scans_219 g131 131 rfl (by decide) (by decide) ?_
    refine tv_iload_n X dX10_scans_220 rfl ?_
    exact tv_iret X hrt dX10_scans_221 ⟨_, rfl, hpost _ _ ⟨rfl, rfl⟩⟩
end C33

