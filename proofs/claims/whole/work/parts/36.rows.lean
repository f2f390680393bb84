def rc6 (S : mS) (len a : Nat) : mS := mupd S 130 6 (sgA S len a)
def rc7 (S : mS) (len a : Nat) (v : Int32) : mS := mupd (mupd (rc6 S len a) 130 5 (nI (a + 1))) 130 7 v
def rc8 (S : mS) (len a : Nat) (v : Int32) : mS := mupd (mupd (rc7 S len a (sgA S len (a + 1) - 48)) 130 5 (nI (a + 2))) 130 8 v
def rc9 (S : mS) (len a : Nat) : mS := mupd (rc8 S len a (sgA S len (a + 2) - 48)) 130 5 (nI (a + 3))
def rcF (S : mS) (len a : Nat) : Nat × Int32 := frL S len (len - (a + 5)) (a + 5) (sgA S len (a + 4) - 48)
/-- one command read from a on -/
def rcQ (S : mS) (len a : Nat) : Bool × Nat × mS :=
  if sgA S len a = 120 ∨ sgA S len a = 98 ∨ sgA S len a = 115 then (true, a + 1, mupd (rc6 S len a) 130 5 (nI (a + 1)))
  else if ¬ sgA S len a = 112 then (false, a, rc6 S len a)
  else if inI (sgA S len (a + 1)) 48 55 = false then (false, a + 1, rc7 S len a (-1))
  else if inI (sgA S len (a + 2)) 48 53 = false then (false, a + 2, rc8 S len a (-1))
  else if ¬ sgA S len (a + 3) = 44 then (false, a + 3, rc9 S len a)
  else if inI (sgA S len (a + 4)) 49 57 = false then (false, a + 4, mupd (rc9 S len a) 130 5 (nI (a + 4)))
  else (true, (rcF S len a).1, mupd (mupd (mupd (rc9 S len a) 130 5 (nI (a + 4))) 130 9 (rcF S len a).2) 130 5 (nI (rcF S len a).1))
theorem rcQ_1 {S : mS} {len a : Nat} (h : sgA S len a = 120 ∨ sgA S len a = 98 ∨ sgA S len a = 115) : rcQ S len a = (true, a + 1, mupd (rc6 S len a) 130 5 (nI (a + 1))) := if_pos h
theorem rcQ_2 {S : mS} {len a : Nat} (h : ¬ (sgA S len a = 120 ∨ sgA S len a = 98 ∨ sgA S len a = 115)) (h2 : ¬ sgA S len a = 112) : rcQ S len a = (false, a, rc6 S len a) := by
  unfold rcQ
  rw [if_neg h, if_pos h2]
theorem rcQ_p {S : mS} {len a : Nat} (h : sgA S len a = 112) : ¬ (sgA S len a = 120 ∨ sgA S len a = 98 ∨ sgA S len a = 115) ∧ ¬ ¬ sgA S len a = 112 := by
  rw [h]
  decide
theorem rcQ_3 {S : mS} {len a : Nat} (h : sgA S len a = 112) (h1 : inI (sgA S len (a + 1)) 48 55 = false) : rcQ S len a = (false, a + 1, rc7 S len a (-1)) := by
  unfold rcQ
  rw [if_neg (rcQ_p h).1, if_neg (rcQ_p h).2, if_pos h1]
theorem rcQ_4 {S : mS} {len a : Nat} (h : sgA S len a = 112) (h1 : ¬ inI (sgA S len (a + 1)) 48 55 = false) (h2 : inI (sgA S len (a + 2)) 48 53 = false) : rcQ S len a = (false, a + 2, rc8 S len a (-1)) := by
  unfold rcQ
  rw [if_neg (rcQ_p h).1, if_neg (rcQ_p h).2, if_neg h1, if_pos h2]
theorem rcQ_5 {S : mS} {len a : Nat} (h : sgA S len a = 112) (h1 : ¬ inI (sgA S len (a + 1)) 48 55 = false) (h2 : ¬ inI (sgA S len (a + 2)) 48 53 = false) (h3 : ¬ sgA S len (a + 3) = 44) : rcQ S len a = (false, a + 3, rc9 S len a) := by
  unfold rcQ
  rw [if_neg (rcQ_p h).1, if_neg (rcQ_p h).2, if_neg h1, if_neg h2, if_pos h3]
theorem rcQ_6 {S : mS} {len a : Nat} (h : sgA S len a = 112) (h1 : ¬ inI (sgA S len (a + 1)) 48 55 = false) (h2 : ¬ inI (sgA S len (a + 2)) 48 53 = false) (h3 : sgA S len (a + 3) = 44) (h4 : inI (sgA S len (a + 4)) 49 57 = false) : rcQ S len a = (false, a + 4, mupd (rc9 S len a) 130 5 (nI (a + 4))) := by
  unfold rcQ
  rw [if_neg (rcQ_p h).1, if_neg (rcQ_p h).2, if_neg h1, if_neg h2, if_neg (fun q => q h3), if_pos h4]
theorem rcQ_7 {S : mS} {len a : Nat} (h : sgA S len a = 112) (h1 : ¬ inI (sgA S len (a + 1)) 48 55 = false) (h2 : ¬ inI (sgA S len (a + 2)) 48 53 = false) (h3 : sgA S len (a + 3) = 44) (h4 : ¬ inI (sgA S len (a + 4)) 49 57 = false) : rcQ S len a = (true, (rcF S len a).1, mupd (mupd (mupd (rc9 S len a) 130 5 (nI (a + 4))) 130 9 (rcF S len a).2) 130 5 (nI (rcF S len a).1)) := by
  unfold rcQ
  rw [if_neg (rcQ_p h).1, if_neg (rcQ_p h).2, if_neg h1, if_neg h2, if_neg (fun q => q h3), if_neg h4]
/-- a state that reads on at a -/
def rdA (S T : mS) (len a : Nat) : Prop := T.1 130 4 = nI len ∧ T.1 130 5 = nI a ∧ T.1 132 = S.1 132 ∧ a ≤ len
theorem rdA_5 {S T : mS} {len a a2 : Nat} (h : rdA S T len a) (h2 : a2 ≤ len) : rdA S (mupd T 130 5 (nI a2)) len a2 := ⟨by rw [mupd_sn (by decide)]; exact h.1, mupd_ss, by rw [mupd_n (by decide)]; exact h.2.2.1, h2⟩
theorem rdA_k {S T : mS} {len a k : Nat} {v : Int32} (h : rdA S T len a) (hk : k ≠ 4 ∧ k ≠ 5) : rdA S (mupd T 130 k v) len a := ⟨by rw [mupd_sn (Ne.symm hk.1)]; exact h.1, by rw [mupd_sn (Ne.symm hk.2)]; exact h.2.1, by rw [mupd_n (by decide)]; exact h.2.2.1, h.2.2.2⟩
theorem rdA_sg {S T : mS} {len a : Nat} (h : rdA S T len a) (a2 : Nat) : sgA T len a2 = sgA S len a2 := sgA_ag h.2.2.1 _ _
section C36
variable {l : Launch} {D : va_G} {n0 : Nat} {ft : Nat × Nat × Nat} {n : Nat} {S : mS} {b : Nat} {len a : Nat}
theorem cX10_sign_rd {T : mS} (hl8 : len ≤ 80) (h : rdA S T len a) : mMi l yX10_sign wsX10_sign rmX10_sign D n0 ft [.ref (n0 + 130)] n T (fun r S' => S' = T ∧ r = sgA S len a) := by
  rw [← rdA_sg h a]
  exact cX10_sign_ok h.1 hl8 h.2.1 h.2.2.2
theorem cX10_takes_rd {T : mS} (hl8 : len ≤ 80) (h : rdA S T len a) (c1 : Int32) : mMi l yX10_takes wsX10_takes rmX10_takes D n0 ft [.ref (n0 + 130), .int c1] n T (fun r S' => (sgA S len a = c1 ∧ S' = mupd T 130 5 (nI (a + 1)) ∧ r = 1) ∨ (¬ sgA S len a = c1 ∧ S' = T ∧ r = 0)) := by
  rw [← rdA_sg h a]
  exact cX10_takes_ok h.1 hl8 h.2.1 h.2.2.2 c1
theorem cX10_readsForce_rd {T : mS} (hl8 : len ≤ 80) (h : rdA S T len a) : mMi l yX10_readsForce wsX10_readsForce rmX10_readsForce D n0 ft [.ref (n0 + 130)] n T (fun r S' => (inI (sgA S len a) 49 57 = true ∧ S' = mupd (mupd T 130 9 (frL S len (len - (a + 1)) (a + 1) (sgA S len a - 48)).2) 130 5 (nI (frL S len (len - (a + 1)) (a + 1) (sgA S len a - 48)).1) ∧ r = 1) ∨ (inI (sgA S len a) 49 57 = false ∧ S' = T ∧ r = 0)) := by
  rw [← rdA_sg h a, ← frL_ag h.2.2.1]
  exact cX10_readsForce_ok h.1 hl8 h.2.1 h.2.2.2
theorem iX10_readsCommand_X10 : ∀ w ∈ wsX100, w ∈ wsX10_readsCommand := by decide +kernel
theorem kX10_readsCommand_159 : Cond.fieldLink RX10 159 (TX10 5).1 (TX10 5).2.1 (TX10 5).2.2.1 ∈ wsX10_readsCommand := by decide +kernel
theorem kX10_readsCommand_168 : Cond.fieldLink RX10 168 (TX10 6).1 (TX10 6).2.1 (TX10 6).2.2.1 ∈ wsX10_readsCommand := by decide +kernel
theorem kX10_readsCommand_174 : Cond.fieldLink RX10 174 (TX10 7).1 (TX10 7).2.1 (TX10 7).2.2.1 ∈ wsX10_readsCommand := by decide +kernel
theorem kX10_readsCommand_177 : Cond.fieldLink RX10 177 (TX10 8).1 (TX10 8).2.1 (TX10 8).2.2.1 ∈ wsX10_readsCommand := by decide +kernel
set_option maxHeartbeats 4000000 in
theorem cX10_readsCommand_ok (hl8 : len ≤ 80) (hS : rdA S S len a) : mMi l yX10_readsCommand wsX10_readsCommand rmX10_readsCommand D n0 ft [.ref (n0 + 130)] n S (fun r S' => S' = (rcQ S len a).2.2 ∧ r = bz (rcQ S len a).1) := by
  have hal := hS.2.2.2
  refine tv_enter (cc := cX10_readsCommand) (maxL := 1) (ret := (some .boolean)) (by decide) rfl (Nat.le_of_ble_eq_true rfl) ?_
  intro p e s m args below meth c X hrt hnm hargs
  refine tv_aload_n X dX10_readsCommand_0 rfl ?_
  refine tv_aload_n X dX10_readsCommand_1 rfl ?_
  refine mm_callVi (q := (RX10, TX10, 20)) X dX10_readsCommand_2 (cX10_sign_rd hl8 hS) (cwV 0 X.2.2.2.2.1 gX10_readsCommand_X10_sign rfl rfl rfl (by decide +kernel) ⟨Nat.le_of_ble_eq_true rfl, Nat.le_of_ble_eq_true rfl⟩) rfl rfl gX10 rfl (Nat.le_of_ble_eq_true rfl) ⟨Nat.zero_le _, Nat.zero_le _⟩ (fun r S1 hq => ?_)
  obtain ⟨hq1, hq2⟩ := hq
  rw [hq1, hq2]
  clear hq1 hq2
  refine mm_put X dX10_readsCommand_5 gX10 iX10_readsCommand_X10 rfl tyX10 tyX10_ok nmX10 6 (by decide) kX10_readsCommand_168 rfl rfl rfl (Nat.le_of_ble_eq_true rfl) rfl ?_
  refine tv_aload_n X dX10_readsCommand_8 rfl ?_
  refine tv_bipush (v := 120) X dX10_readsCommand_9 (by decide) ?_
  have h6 : rdA S (rc6 S len a) len a := rdA_k hS (by decide)
  refine mm_st (S' := rc6 S len a) rfl ?_
  have hyes : (sgA S len a = 120 ∨ sgA S len a = 98 ∨ sgA S len a = 115) → ∀ S' : mS, S' = mupd (rc6 S len a) 130 5 (nI (a + 1)) → S' = (rcQ S len a).2.2 ∧ (1 : Int32) = bz (rcQ S len a).1 := fun h S' e => by
    rw [rcQ_1 h]; exact ⟨e, rfl⟩
  have h2n : ¬ (sgA S len a = 120 ∨ sgA S len a = 98 ∨ sgA S len a = 115) → ¬ sgA S len a = 112 → ∀ S' : mS, S' = rc6 S len a → S' = (rcQ S len a).2.2 ∧ (0 : Int32) = bz (rcQ S len a).1 := fun h h2 S' e => by
    rw [rcQ_2 h h2]; exact ⟨e, rfl⟩
  refine mm_callVi (q := (RX10, TX10, 20)) X dX10_readsCommand_11 (cX10_takes_rd hl8 h6 120) (cwV 1 X.2.2.2.2.1 gX10_readsCommand_X10_takes rfl rfl rfl (by decide +kernel) ⟨Nat.le_of_ble_eq_true rfl, Nat.le_of_ble_eq_true rfl⟩) rfl rfl gX10 rfl (Nat.le_of_ble_eq_true rfl) ⟨Nat.zero_le _, Nat.zero_le _⟩ (fun r S1 hq => ?_)
  rcases hq with ⟨he, hq1, hq2⟩ | ⟨hn1, hq1, hq2⟩
  · rw [hq1, hq2]
    refine tv_if_ne (tgt := 35) X dX10_readsCommand_14 (by decide) (fun h1 => ?_) (fun h1 => ?_)
    rotate_left
    · exact absurd h1 (by decide)
    refine tv_iconst (v := 1) X dX10_readsCommand_35 (by decide) ?_
    exact tv_zret X hrt dX10_readsCommand_36 rfl ⟨_, rfl, hyes (Or.inl he) _ rfl⟩
  rw [hq1, hq2]
  clear hq1 hq2
  refine tv_if_ne (tgt := 35) X dX10_readsCommand_14 (by decide) (fun h1 => ?_) (fun h1 => ?_)
  · exact absurd rfl h1
  refine tv_aload_n X dX10_readsCommand_17 rfl ?_
  refine tv_bipush (v := 98) X dX10_readsCommand_18 (by decide) ?_
  refine mm_callVi (q := (RX10, TX10, 20)) X dX10_readsCommand_20 (cX10_takes_rd hl8 h6 98) (cwV 1 X.2.2.2.2.1 gX10_readsCommand_X10_takes rfl rfl rfl (by decide +kernel) ⟨Nat.le_of_ble_eq_true rfl, Nat.le_of_ble_eq_true rfl⟩) rfl rfl gX10 rfl (Nat.le_of_ble_eq_true rfl) ⟨Nat.zero_le _, Nat.zero_le _⟩ (fun r S1 hq => ?_)
  rcases hq with ⟨he, hq1, hq2⟩ | ⟨hn2, hq1, hq2⟩
  · rw [hq1, hq2]
    refine tv_if_ne (tgt := 35) X dX10_readsCommand_23 (by decide) (fun h1 => ?_) (fun h1 => ?_)
    rotate_left
    · exact absurd h1 (by decide)
    refine tv_iconst (v := 1) X dX10_readsCommand_35 (by decide) ?_
    exact tv_zret X hrt dX10_readsCommand_36 rfl ⟨_, rfl, hyes (Or.inr (Or.inl he)) _ rfl⟩
  rw [hq1, hq2]
  clear hq1 hq2
  refine tv_if_ne (tgt := 35) X dX10_readsCommand_23 (by decide) (fun h1 => ?_) (fun h1 => ?_)
  · exact absurd rfl h1
  refine tv_aload_n X dX10_readsCommand_26 rfl ?_
  refine tv_bipush (v := 115) X dX10_readsCommand_27 (by decide) ?_
  refine mm_callVi (q := (RX10, TX10, 20)) X dX10_readsCommand_29 (cX10_takes_rd hl8 h6 115) (cwV 1 X.2.2.2.2.1 gX10_readsCommand_X10_takes rfl rfl rfl (by decide +kernel) ⟨Nat.le_of_ble_eq_true rfl, Nat.le_of_ble_eq_true rfl⟩) rfl rfl gX10 rfl (Nat.le_of_ble_eq_true rfl) ⟨Nat.zero_le _, Nat.zero_le _⟩ (fun r S1 hq => ?_)
  rcases hq with ⟨he, hq1, hq2⟩ | ⟨hn3, hq1, hq2⟩
  · rw [hq1, hq2]
    refine tv_if_eq (tgt := 37) X dX10_readsCommand_32 (by decide) (fun h1 => ?_) (fun h1 => ?_)
    · exact absurd h1 (by decide)
    refine tv_iconst (v := 1) X dX10_readsCommand_35 (by decide) ?_
    exact tv_zret X hrt dX10_readsCommand_36 rfl ⟨_, rfl, hyes (Or.inr (Or.inr he)) _ rfl⟩
  rw [hq1, hq2]
  clear hq1 hq2
  refine tv_if_eq (tgt := 37) X dX10_readsCommand_32 (by decide) (fun h1 => ?_) (fun h1 => ?_)
  rotate_left
  · exact absurd rfl h1
  refine tv_aload_n X dX10_readsCommand_37 rfl ?_
  refine tv_bipush (v := 112) X dX10_readsCommand_38 (by decide) ?_
  have hno : ¬ (sgA S len a = 120 ∨ sgA S len a = 98 ∨ sgA S len a = 115) := fun h => h.elim hn1 fun h => h.elim hn2 hn3
  refine mm_callVi (q := (RX10, TX10, 20)) X dX10_readsCommand_40 (cX10_takes_rd hl8 h6 112) (cwV 1 X.2.2.2.2.1 gX10_readsCommand_X10_takes rfl rfl rfl (by decide +kernel) ⟨Nat.le_of_ble_eq_true rfl, Nat.le_of_ble_eq_true rfl⟩) rfl rfl gX10 rfl (Nat.le_of_ble_eq_true rfl) ⟨Nat.zero_le _, Nat.zero_le _⟩ (fun r S1 hq => ?_)
  rcases hq with ⟨hp, hq1, hq2⟩ | ⟨hn4, hq1, hq2⟩
  rotate_left
  · rw [hq1, hq2]
    refine tv_if_ne (tgt := 48) X dX10_readsCommand_43 (by decide) (fun h1 => ?_) (fun h1 => ?_)
    · exact absurd rfl h1
    refine tv_iconst (v := 0) X dX10_readsCommand_46 (by decide) ?_
    exact tv_zret X hrt dX10_readsCommand_47 rfl ⟨_, rfl, h2n hno hn4 _ rfl⟩
  rw [hq1, hq2]
  clear hq1 hq2 hyes h2n hn1 hn2 hn3
  refine tv_if_ne (tgt := 48) X dX10_readsCommand_43 (by decide) (fun h1 => ?_) (fun h1 => ?_)
  rotate_left
  · exact absurd h1 (by decide)
  have hl1 : a < len := sgA_lt (by rw [hp]; decide)
  have h5 := rdA_5 h6 (a2 := a + 1) hl1
  refine tv_aload_n X dX10_readsCommand_48 rfl ?_
  refine tv_aload_n X dX10_readsCommand_49 rfl ?_
  refine mm_callVi (q := (RX10, TX10, 20)) X dX10_readsCommand_50 (cX10_sign_rd hl8 h5) (cwV 0 X.2.2.2.2.1 gX10_readsCommand_X10_sign rfl rfl rfl (by decide +kernel) ⟨Nat.le_of_ble_eq_true rfl, Nat.le_of_ble_eq_true rfl⟩) rfl rfl gX10 rfl (Nat.le_of_ble_eq_true rfl) ⟨Nat.zero_le _, Nat.zero_le _⟩ (fun r S1 hq => ?_)
  obtain ⟨hq1, hq2⟩ := hq
  rw [hq1, hq2]
  clear hq1 hq2
  refine tv_bipush (v := 48) X dX10_readsCommand_53 (by decide) ?_
  refine tv_bipush (v := 55) X dX10_readsCommand_55 (by decide) ?_
  refine mm_callSi X dX10_readsCommand_57 (cX10_in_ok _ _ _) (va_cwS 3 X.2.2.2.2.1 gX10_readsCommand_X10_in rfl rfl rfl (by decide +kernel) ⟨Nat.le_of_ble_eq_true rfl, Nat.le_of_ble_eq_true rfl⟩) rfl rfl (Nat.le_of_ble_eq_true rfl) ⟨Nat.zero_le _, Nat.zero_le _⟩ (fun r S1 hq => ?_)
  obtain ⟨hq1, hq2⟩ := hq
  rw [hq1, hq2]
  clear hq1 hq2
  have h7 : ∀ v, rdA S (rc7 S len a v) len (a + 1) := fun v => rdA_k h5 (by decide)
  have h7r : ∀ v, (rc7 S len a v).1 130 7 = v := fun v => mupd_ss
  cases hi1 : inI (sgA S len (a + 1)) 48 55 with
  | false =>
    refine tv_if_eq (tgt := 73) X dX10_readsCommand_60 (by decide) (fun h1 => ?_) (fun h1 => ?_)
    rotate_left
    · exact absurd rfl h1
    refine tv_iconst (v := -1) X dX10_readsCommand_73 (by decide) ?_
    refine mm_put X dX10_readsCommand_74 gX10 iX10_readsCommand_X10 rfl tyX10 tyX10_ok nmX10 7 (by decide) kX10_readsCommand_174 rfl rfl rfl (Nat.le_of_ble_eq_true rfl) rfl ?_
    refine mm_st (S' := rc7 S len a (-1)) rfl ?_
    refine tv_aload_n X dX10_readsCommand_77 rfl ?_
    refine tv_dup X dX10_readsCommand_78 rfl ?_
    refine mm_getf X dX10_readsCommand_79 gX10 iX10_readsCommand_X10 rfl 5 (by decide) kX10_readsCommand_159 rfl ?_
    refine tv_aload_n X dX10_readsCommand_82 rfl ?_
    refine mm_getf X dX10_readsCommand_83 gX10 iX10_readsCommand_X10 rfl 7 (by decide) kX10_readsCommand_174 rfl ?_
    refine tv_iconst (v := -1) X dX10_readsCommand_86 (by decide) ?_
    rw [(h7 (-1)).2.1, h7r]
    refine tv_icmp_ne (tgt := 94) X dX10_readsCommand_87 (by decide) (fun h1 => ?_) (fun h1 => ?_)
    · exact absurd rfl h1
    refine tv_iconst (v := 0) X dX10_readsCommand_90 (by decide) ?_
    refine tv_goto (tgt := 95) X dX10_readsCommand_91 (by decide) ?_
    refine tv_iadd X dX10_readsCommand_95 ?_
    rw [Int32.add_zero]
    refine mm_put X dX10_readsCommand_96 gX10 iX10_readsCommand_X10 rfl tyX10 tyX10_ok nmX10 5 (by decide) kX10_readsCommand_159 rfl rfl rfl (Nat.le_of_ble_eq_true rfl) rfl ?_
    rw [mupd_id (h7 (-1)).2.1]
    refine tv_aload_n X dX10_readsCommand_99 rfl ?_
    refine mm_getf X dX10_readsCommand_100 gX10 iX10_readsCommand_X10 rfl 7 (by decide) kX10_readsCommand_174 rfl ?_
    refine tv_iconst (v := -1) X dX10_readsCommand_103 (by decide) ?_
    rw [h7r]
    refine tv_icmp_ne (tgt := 109) X dX10_readsCommand_104 (by decide) (fun h1 => ?_) (fun h1 => ?_)
    · exact absurd rfl h1
    refine tv_iconst (v := 0) X dX10_readsCommand_107 (by decide) ?_
    exact tv_zret X hrt dX10_readsCommand_108 rfl ⟨_, rfl, by rw [rcQ_3 hp hi1]; exact ⟨rfl, rfl⟩⟩
  | true =>
    have hi1' : ¬ inI (sgA S len (a + 1)) 48 55 = false := by rw [hi1]; decide
    have hl2 : a + 1 < len := sgA_lt (inI_ne hi1 (by decide))
    refine tv_if_eq (tgt := 73) X dX10_readsCommand_60 (by decide) (fun h1 => ?_) (fun h1 => ?_)
    · exact absurd h1 (by decide)
    refine tv_aload_n X dX10_readsCommand_63 rfl ?_
    refine mm_callVi (q := (RX10, TX10, 20)) X dX10_readsCommand_64 (cX10_sign_rd hl8 h5) (cwV 0 X.2.2.2.2.1 gX10_readsCommand_X10_sign rfl rfl rfl (by decide +kernel) ⟨Nat.le_of_ble_eq_true rfl, Nat.le_of_ble_eq_true rfl⟩) rfl rfl gX10 rfl (Nat.le_of_ble_eq_true rfl) ⟨Nat.zero_le _, Nat.zero_le _⟩ (fun r S1 hq => ?_)
    obtain ⟨hq1, hq2⟩ := hq
    rw [hq1, hq2]
    clear hq1 hq2
    refine tv_bipush (v := 48) X dX10_readsCommand_67 (by decide) ?_
    refine tv_isub X dX10_readsCommand_69 ?_
    refine tv_goto (tgt := 74) X dX10_readsCommand_70 (by decide) ?_
    refine mm_put X dX10_readsCommand_74 gX10 iX10_readsCommand_X10 rfl tyX10 tyX10_ok nmX10 7 (by decide) kX10_readsCommand_174 rfl rfl rfl (Nat.le_of_ble_eq_true rfl) rfl ?_
    refine mm_st (S' := rc7 S len a (sgA S len (a + 1) - 48)) rfl ?_
    have hne := inI_sub hi1
    refine tv_aload_n X dX10_readsCommand_77 rfl ?_
    refine tv_dup X dX10_readsCommand_78 rfl ?_
    refine mm_getf X dX10_readsCommand_79 gX10 iX10_readsCommand_X10 rfl 5 (by decide) kX10_readsCommand_159 rfl ?_
    refine tv_aload_n X dX10_readsCommand_82 rfl ?_
    refine mm_getf X dX10_readsCommand_83 gX10 iX10_readsCommand_X10 rfl 7 (by decide) kX10_readsCommand_174 rfl ?_
    refine tv_iconst (v := -1) X dX10_readsCommand_86 (by decide) ?_
    rw [(h7 _).2.1, h7r]
    refine tv_icmp_ne (tgt := 94) X dX10_readsCommand_87 (by decide) (fun h1 => ?_) (fun h1 => ?_)
    rotate_left
    · exact absurd h1 hne
    refine tv_iconst (v := 1) X dX10_readsCommand_94 (by decide) ?_
    refine tv_iadd X dX10_readsCommand_95 ?_
    rw [nI_1]
    refine mm_put X dX10_readsCommand_96 gX10 iX10_readsCommand_X10 rfl tyX10 tyX10_ok nmX10 5 (by decide) kX10_readsCommand_159 rfl rfl rfl (Nat.le_of_ble_eq_true rfl) rfl ?_
    have h8 := rdA_5 (h7 (sgA S len (a + 1) - 48)) (a2 := a + 2) hl2
    refine tv_aload_n X dX10_readsCommand_99 rfl ?_
    refine mm_getf X dX10_readsCommand_100 gX10 iX10_readsCommand_X10 rfl 7 (by decide) kX10_readsCommand_174 rfl ?_
    refine tv_iconst (v := -1) X dX10_readsCommand_103 (by decide) ?_
    rw [mupd_sn (by decide), h7r]
    refine tv_icmp_ne (tgt := 109) X dX10_readsCommand_104 (by decide) (fun h1 => ?_) (fun h1 => ?_)
    rotate_left
    · exact absurd h1 hne
    refine tv_aload_n X dX10_readsCommand_109 rfl ?_
    refine tv_aload_n X dX10_readsCommand_110 rfl ?_
    refine mm_callVi (q := (RX10, TX10, 20)) X dX10_readsCommand_111 (cX10_sign_rd hl8 h8) (cwV 0 X.2.2.2.2.1 gX10_readsCommand_X10_sign rfl rfl rfl (by decide +kernel) ⟨Nat.le_of_ble_eq_true rfl, Nat.le_of_ble_eq_true rfl⟩) rfl rfl gX10 rfl (Nat.le_of_ble_eq_true rfl) ⟨Nat.zero_le _, Nat.zero_le _⟩ (fun r S1 hq => ?_)
    obtain ⟨hq1, hq2⟩ := hq
    rw [hq1, hq2]
    clear hq1 hq2
    refine tv_bipush (v := 48) X dX10_readsCommand_114 (by decide) ?_
    refine tv_bipush (v := 53) X dX10_readsCommand_116 (by decide) ?_
    refine mm_callSi X dX10_readsCommand_118 (cX10_in_ok _ _ _) (va_cwS 3 X.2.2.2.2.1 gX10_readsCommand_X10_in rfl rfl rfl (by decide +kernel) ⟨Nat.le_of_ble_eq_true rfl, Nat.le_of_ble_eq_true rfl⟩) rfl rfl (Nat.le_of_ble_eq_true rfl) ⟨Nat.zero_le _, Nat.zero_le _⟩ (fun r S1 hq => ?_)
    obtain ⟨hq1, hq2⟩ := hq
    rw [hq1, hq2]
    clear hq1 hq2
    have h8' : ∀ v, rdA S (rc8 S len a v) len (a + 2) := fun v => rdA_k h8 (by decide)
    have h8r : ∀ v, (rc8 S len a v).1 130 8 = v := fun v => mupd_ss
    cases hi2 : inI (sgA S len (a + 2)) 48 53 with
    | false =>
      refine tv_if_eq (tgt := 134) X dX10_readsCommand_121 (by decide) (fun h1 => ?_) (fun h1 => ?_)
      rotate_left
      · exact absurd rfl h1
      refine tv_iconst (v := -1) X dX10_readsCommand_134 (by decide) ?_
      refine mm_put X dX10_readsCommand_135 gX10 iX10_readsCommand_X10 rfl tyX10 tyX10_ok nmX10 8 (by decide) kX10_readsCommand_177 rfl rfl rfl (Nat.le_of_ble_eq_true rfl) rfl ?_
      refine mm_st (S' := rc8 S len a (-1)) rfl ?_
      refine tv_aload_n X dX10_readsCommand_138 rfl ?_
      refine tv_dup X dX10_readsCommand_139 rfl ?_
      refine mm_getf X dX10_readsCommand_140 gX10 iX10_readsCommand_X10 rfl 5 (by decide) kX10_readsCommand_159 rfl ?_
      refine tv_aload_n X dX10_readsCommand_143 rfl ?_
      refine mm_getf X dX10_readsCommand_144 gX10 iX10_readsCommand_X10 rfl 8 (by decide) kX10_readsCommand_177 rfl ?_
      refine tv_iconst (v := -1) X dX10_readsCommand_147 (by decide) ?_
      rw [(h8' (-1)).2.1, h8r]
      refine tv_icmp_ne (tgt := 155) X dX10_readsCommand_148 (by decide) (fun h1 => ?_) (fun h1 => ?_)
      · exact absurd rfl h1
      refine tv_iconst (v := 0) X dX10_readsCommand_151 (by decide) ?_
      refine tv_goto (tgt := 156) X dX10_readsCommand_152 (by decide) ?_
      refine tv_iadd X dX10_readsCommand_156 ?_
      rw [Int32.add_zero]
      refine mm_put X dX10_readsCommand_157 gX10 iX10_readsCommand_X10 rfl tyX10 tyX10_ok nmX10 5 (by decide) kX10_readsCommand_159 rfl rfl rfl (Nat.le_of_ble_eq_true rfl) rfl ?_
      rw [mupd_id (h8' (-1)).2.1]
      refine tv_aload_n X dX10_readsCommand_160 rfl ?_
      refine mm_getf X dX10_readsCommand_161 gX10 iX10_readsCommand_X10 rfl 8 (by decide) kX10_readsCommand_177 rfl ?_
      refine tv_iconst (v := -1) X dX10_readsCommand_164 (by decide) ?_
      rw [h8r]
      refine tv_icmp_eq (tgt := 188) X dX10_readsCommand_165 (by decide) (fun h1 => ?_) (fun h1 => ?_)
      rotate_left
      · exact absurd rfl h1
      refine tv_iconst (v := 0) X dX10_readsCommand_188 (by decide) ?_
      exact tv_zret X hrt dX10_readsCommand_189 rfl ⟨_, rfl, by rw [rcQ_4 hp hi1' hi2]; exact ⟨rfl, rfl⟩⟩
    | true =>
      have hi2' : ¬ inI (sgA S len (a + 2)) 48 53 = false := by rw [hi2]; decide
      have hl3 : a + 2 < len := sgA_lt (inI_ne hi2 (by decide))
      refine tv_if_eq (tgt := 134) X dX10_readsCommand_121 (by decide) (fun h1 => ?_) (fun h1 => ?_)
      · exact absurd h1 (by decide)
      refine tv_aload_n X dX10_readsCommand_124 rfl ?_
      refine mm_callVi (q := (RX10, TX10, 20)) X dX10_readsCommand_125 (cX10_sign_rd hl8 h8) (cwV 0 X.2.2.2.2.1 gX10_readsCommand_X10_sign rfl rfl rfl (by decide +kernel) ⟨Nat.le_of_ble_eq_true rfl, Nat.le_of_ble_eq_true rfl⟩) rfl rfl gX10 rfl (Nat.le_of_ble_eq_true rfl) ⟨Nat.zero_le _, Nat.zero_le _⟩ (fun r S1 hq => ?_)
      obtain ⟨hq1, hq2⟩ := hq
      rw [hq1, hq2]
      clear hq1 hq2
      refine tv_bipush (v := 48) X dX10_readsCommand_128 (by decide) ?_
      refine tv_isub X dX10_readsCommand_130 ?_
      refine tv_goto (tgt := 135) X dX10_readsCommand_131 (by decide) ?_
      refine mm_put X dX10_readsCommand_135 gX10 iX10_readsCommand_X10 rfl tyX10 tyX10_ok nmX10 8 (by decide) kX10_readsCommand_177 rfl rfl rfl (Nat.le_of_ble_eq_true rfl) rfl ?_
      refine mm_st (S' := rc8 S len a (sgA S len (a + 2) - 48)) rfl ?_
      have hne2 := inI_sub hi2
      refine tv_aload_n X dX10_readsCommand_138 rfl ?_
      refine tv_dup X dX10_readsCommand_139 rfl ?_
      refine mm_getf X dX10_readsCommand_140 gX10 iX10_readsCommand_X10 rfl 5 (by decide) kX10_readsCommand_159 rfl ?_
      refine tv_aload_n X dX10_readsCommand_143 rfl ?_
      refine mm_getf X dX10_readsCommand_144 gX10 iX10_readsCommand_X10 rfl 8 (by decide) kX10_readsCommand_177 rfl ?_
      refine tv_iconst (v := -1) X dX10_readsCommand_147 (by decide) ?_
      rw [(h8' _).2.1, h8r]
      refine tv_icmp_ne (tgt := 155) X dX10_readsCommand_148 (by decide) (fun h1 => ?_) (fun h1 => ?_)
      rotate_left
      · exact absurd h1 hne2
      refine tv_iconst (v := 1) X dX10_readsCommand_155 (by decide) ?_
      refine tv_iadd X dX10_readsCommand_156 ?_
      rw [nI_1]
      refine mm_put X dX10_readsCommand_157 gX10 iX10_readsCommand_X10 rfl tyX10 tyX10_ok nmX10 5 (by decide) kX10_readsCommand_159 rfl rfl rfl (Nat.le_of_ble_eq_true rfl) rfl ?_
      refine mm_st (S' := rc9 S len a) rfl ?_
      have h9 : rdA S (rc9 S len a) len (a + 3) := rdA_5 (h8' _) hl3
      have h9r : (rc9 S len a).1 130 8 = sgA S len (a + 2) - 48 := by
        show (mupd (rc8 S len a (sgA S len (a + 2) - 48)) 130 5 (nI (a + 3))).1 130 8 = _
        rw [mupd_sn (by decide), h8r]
      refine tv_aload_n X dX10_readsCommand_160 rfl ?_
      refine mm_getf X dX10_readsCommand_161 gX10 iX10_readsCommand_X10 rfl 8 (by decide) kX10_readsCommand_177 rfl ?_
      refine tv_iconst (v := -1) X dX10_readsCommand_164 (by decide) ?_
      rw [h9r]
      refine tv_icmp_eq (tgt := 188) X dX10_readsCommand_165 (by decide) (fun h1 => ?_) (fun h1 => ?_)
      · exact absurd h1 hne2
      refine tv_aload_n X dX10_readsCommand_168 rfl ?_
      refine tv_bipush (v := 44) X dX10_readsCommand_169 (by decide) ?_
      refine mm_callVi (q := (RX10, TX10, 20)) X dX10_readsCommand_171 (cX10_takes_rd hl8 h9 44) (cwV 1 X.2.2.2.2.1 gX10_readsCommand_X10_takes rfl rfl rfl (by decide +kernel) ⟨Nat.le_of_ble_eq_true rfl, Nat.le_of_ble_eq_true rfl⟩) rfl rfl gX10 rfl (Nat.le_of_ble_eq_true rfl) ⟨Nat.zero_le _, Nat.zero_le _⟩ (fun r S1 hq => ?_)
      rcases hq with ⟨hc, hq1, hq2⟩ | ⟨hcn, hq1, hq2⟩
      rotate_left
      · rw [hq1, hq2]
        refine tv_if_eq (tgt := 188) X dX10_readsCommand_174 (by decide) (fun h1 => ?_) (fun h1 => ?_)
        rotate_left
        · exact absurd rfl h1
        refine tv_iconst (v := 0) X dX10_readsCommand_188 (by decide) ?_
        exact tv_zret X hrt dX10_readsCommand_189 rfl ⟨_, rfl, by rw [rcQ_5 hp hi1' hi2' hcn]; exact ⟨rfl, rfl⟩⟩
      rw [hq1, hq2]
      clear hq1 hq2
      have hl4 : a + 3 < len := sgA_lt (by rw [hc]; decide)
      have h10 := rdA_5 h9 (a2 := a + 4) hl4
      refine tv_if_eq (tgt := 188) X dX10_readsCommand_174 (by decide) (fun h1 => ?_) (fun h1 => ?_)
      · exact absurd h1 (by decide)
      refine tv_aload_n X dX10_readsCommand_177 rfl ?_
      refine mm_callVi (q := (RX10, TX10, 20)) X dX10_readsCommand_178 (cX10_readsForce_rd hl8 h10) (cwV 0 X.2.2.2.2.1 gX10_readsCommand_X10_readsForce rfl rfl rfl (by decide +kernel) ⟨Nat.le_of_ble_eq_true rfl, Nat.le_of_ble_eq_true rfl⟩) rfl rfl gX10 rfl (Nat.le_of_ble_eq_true rfl) ⟨Nat.zero_le _, Nat.zero_le _⟩ (fun r S1 hq => ?_)
      rcases hq with ⟨hf, hq1, hq2⟩ | ⟨hf, hq1, hq2⟩
      · rw [hq1, hq2]
        refine tv_if_eq (tgt := 188) X dX10_readsCommand_181 (by decide) (fun h1 => ?_) (fun h1 => ?_)
        · exact absurd h1 (by decide)
        refine tv_iconst (v := 1) X dX10_readsCommand_184 (by decide) ?_
        refine tv_goto (tgt := 189) X dX10_readsCommand_185 (by decide) ?_
        exact tv_zret X hrt dX10_readsCommand_189 rfl ⟨_, rfl, by rw [rcQ_7 hp hi1' hi2' hc (by rw [hf]; decide)]; exact ⟨rfl, rfl⟩⟩
      · rw [hq1, hq2]
        refine tv_if_eq (tgt := 188) X dX10_readsCommand_181 (by decide) (fun h1 => ?_) (fun h1 => ?_)
        rotate_left
        · exact absurd rfl h1
        refine tv_iconst (v := 0) X dX10_readsCommand_188 (by decide) ?_
        exact tv_zret X hrt dX10_readsCommand_189 rfl ⟨_, rfl, by rw [rcQ_6 hp hi1' hi2' hc hf]; exact ⟨rfl, rfl⟩⟩
end C36

