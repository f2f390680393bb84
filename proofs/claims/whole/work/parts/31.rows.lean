theorem fdS_c : ∀ {m : Nat} {S : mS}, S.1 130 17 = nI m → (fdS m S).1 130 17 = nI (min m 6)
  | 0, _, h => h
  | m + 1, S, h => by
    show (if m + 1 ≤ 6 then S else fdS m (drpS S m)).1 130 17 = _
    by_cases h6 : m + 1 ≤ 6
    · rw [if_pos h6, Nat.min_eq_left h6]; exact h
    · rw [if_neg h6, fdS_c drpS_c, Nat.min_eq_right (by omega), Nat.min_eq_right (by omega)]
theorem fcE_c {S : mS} : (fcE S).1 130 17 = nI (min (fcN S 48) 6) := fdS_c (fcT_c 48)
theorem fdS_n {q : Nat} (h : q ≠ 130 ∧ q ≠ 136 ∧ q ≠ 137 ∧ q ≠ 138 ∧ q ≠ 139) : ∀ {m : Nat} {S : mS}, (fdS m S).1 q = S.1 q
  | 0, _ => rfl
  | m + 1, S => by
    show (if m + 1 ≤ 6 then S else fdS m (drpS S m)).1 q = _
    split
    · rfl
    · rw [fdS_n h]; exact drpT_n h
theorem fcE_n {S : mS} {q : Nat} (h : q ≠ 130 ∧ q ≠ 136 ∧ q ≠ 137 ∧ q ≠ 138 ∧ q ≠ 139) : (fcE S).1 q = S.1 q := (fdS_n h).trans (fcT_n h 48)
/-- the tracks of the reference -/
def ofR (S : mS) (t w : Nat) : Int32 := S.1 131 (101 + 5 * t + w)
def dwR (S : mS) (t : Nat) : Bool := decide (ofR S t 0 = 1)
def sqR (S : mS) (t c : Nat) : Int32 := (ofR S t 1 - S.1 136 c) * (ofR S t 1 - S.1 136 c) + (ofR S t 2 - S.1 137 c) * (ofR S t 2 - S.1 137 c)
def gtR (S : mS) : Int32 := S.1 131 99 * S.1 131 99
def cwR (S : mS) (K : Nat → Int32) (t c tk : Nat) : Int32 := if c = 6 then gtR S + K (64 * (t + 1) + tk) else if nI c < S.1 130 17 ∧ tk.testBit c = false ∧ sqR S t c ≤ gtR S then sqR S t c + K (64 * (t + 1) + (tk ||| 1 <<< c)) else -1
theorem trI (t w : Nat) : (101 : Int32) + 5 * nI t + nI w = nI (101 + 5 * t + w) := by
  rw [show (5 : Int32) = nI 5 from rfl, pk_mul, show (101 : Int32) = nI 101 from rfl, nI_add, nI_add]
theorem ctI (t k : Nat) : (64 : Int32) * (nI t + 1) + nI k = nI (64 * (t + 1) + k) := by
  rw [nI_1, show (64 : Int32) = nI 64 from rfl, pk_mul, nI_add]
theorem sh6 : ∀ s, s < 64 → ∀ c, c < 6 → ((nI s >>> (nI c &&& 31)) &&& 1 = 0 ↔ s.testBit c = false) := by decide +kernel
section C31
variable {l : Launch} {D : va_G} {n0 : Nat} {ft : Nat × Nat × Nat} {n : Nat} {S : mS} {b : Nat}
theorem iX10_of_X10 : ∀ w ∈ wsX100, w ∈ wsX10_of := by decide +kernel
theorem kX10_of_7 : Cond.fieldLink RX10 7 (TX10 1).1 (TX10 1).2.1 (TX10 1).2.2.1 ∈ wsX10_of := by decide +kernel
theorem cX10_of_ok {t : Nat} (ht : t < 6) {w : Int32} (w1 : Nat) (hw1 : w = nI w1) (hw : w1 < 5) : mMi l yX10_of wsX10_of rmX10_of D n0 ft [.ref (n0 + 130), .int (nI t), .int w] n S (fun r S' => S' = S ∧ r = ofR S t w1) := by
  refine tv_enter (cc := cX10_of) (maxL := 3) (ret := (some .int)) (by decide) rfl (Nat.le_of_ble_eq_true rfl) ?_
  intro p e s m args below meth c X hrt hnm hargs
  refine tv_aload_n X dX10_of_0 rfl ?_
  refine mm_getf X dX10_of_1 gX10 iX10_of_X10 rfl 1 (by decide) kX10_of_7 rfl ?_
  refine tv_bipush (v := 101) X dX10_of_4 (by decide) ?_
  refine tv_iconst (v := 5) X dX10_of_6 (by decide) ?_
  refine tv_iload_n X dX10_of_7 rfl ?_
  refine tv_imul X dX10_of_8 ?_
  refine tv_iadd X dX10_of_9 ?_
  refine tv_iload_n X dX10_of_10 rfl ?_
  refine tv_iadd X dX10_of_11 ?_
  refine mm_iald X dX10_of_12 g131 (101 + 5 * t + w1) (by rw [hw1]; exact trI t w1) (by omega) (by decide) ?_
  exact tv_iret X hrt dX10_of_13 ⟨_, rfl, rfl, rfl⟩
theorem iX10_lay_X10 : ∀ w ∈ wsX100, w ∈ wsX10_lay := by decide +kernel
theorem kX10_lay_7 : Cond.fieldLink RX10 7 (TX10 1).1 (TX10 1).2.1 (TX10 1).2.2.1 ∈ wsX10_lay := by decide +kernel
theorem cX10_lay_ok {t : Nat} (ht : t < 6) {w : Int32} (w1 : Nat) (hw1 : w = nI w1) (hw : w1 < 5) (v : Int32) : mMv l yX10_lay wsX10_lay rmX10_lay D n0 ft [.ref (n0 + 130), .int (nI t), .int w, .int v] n S (fun S' => S' = mupd S 131 (101 + 5 * t + w1) v) := by
  refine tv_enter (cc := cX10_lay) (maxL := 4) (ret := none) (by decide) rfl (Nat.le_of_ble_eq_true rfl) ?_
  intro p e s m args below meth c X hrt hnm hargs
  refine tv_aload_n X dX10_lay_0 rfl ?_
  refine mm_getf X dX10_lay_1 gX10 iX10_lay_X10 rfl 1 (by decide) kX10_lay_7 rfl ?_
  refine tv_bipush (v := 101) X dX10_lay_4 (by decide) ?_
  refine tv_iconst (v := 5) X dX10_lay_6 (by decide) ?_
  refine tv_iload_n X dX10_lay_7 rfl ?_
  refine tv_imul X dX10_lay_8 ?_
  refine tv_iadd X dX10_lay_9 ?_
  refine tv_iload_n X dX10_lay_10 rfl ?_
  refine tv_iadd X dX10_lay_11 ?_
  refine tv_iload_n X dX10_lay_12 rfl ?_
  refine mm_iast X dX10_lay_13 g131 (101 + 5 * t + w1) (by rw [hw1]; exact trI t w1) (by omega) (by decide) ?_
  exact tv_vret X hrt dX10_lay_14 ⟨_, rfl, rfl⟩
theorem cX10_isDownNow_ok {t : Nat} (ht : t < 6) : mMi l yX10_isDownNow wsX10_isDownNow rmX10_isDownNow D n0 ft [.ref (n0 + 130), .int (nI t)] n S (fun r S' => S' = S ∧ r = bz (dwR S t)) := by
  refine tv_enter (cc := cX10_isDownNow) (maxL := 2) (ret := (some .boolean)) (by decide) rfl (Nat.le_of_ble_eq_true rfl) ?_
  intro p e s m args below meth c X hrt hnm hargs
  refine tv_aload_n X dX10_isDownNow_0 rfl ?_
  refine tv_iload_n X dX10_isDownNow_1 rfl ?_
  refine tv_iconst (v := 0) X dX10_isDownNow_2 (by decide) ?_
  refine mm_callVi (q := (RX10, TX10, 20)) X dX10_isDownNow_3 (cX10_of_ok ht 0 rfl (by decide)) (cwV 2 X.2.2.2.2.1 gX10_isDownNow_X10_of rfl rfl rfl (by decide +kernel) ⟨Nat.le_of_ble_eq_true rfl, Nat.le_of_ble_eq_true rfl⟩) rfl rfl gX10 rfl (Nat.le_of_ble_eq_true rfl) ⟨Nat.zero_le _, Nat.zero_le _⟩ (fun r S1 hq => ?_)
  obtain ⟨hq1, hq2⟩ := hq
  rw [hq1, hq2]
  clear hq1 hq2
  refine tv_iconst (v := 1) X dX10_isDownNow_6 (by decide) ?_
  refine tv_icmp_ne (tgt := 14) X dX10_isDownNow_7 (by decide) (fun h1 => ?_) (fun h1 => ?_)
  · refine tv_iconst (v := 0) X dX10_isDownNow_14 (by decide) ?_
    exact tv_zret X hrt dX10_isDownNow_15 rfl ⟨_, rfl, rfl, by unfold dwR; rw [decide_eq_false h1]; rfl⟩
  · refine tv_iconst (v := 1) X dX10_isDownNow_10 (by decide) ?_
    refine tv_goto (tgt := 15) X dX10_isDownNow_11 (by decide) ?_
    exact tv_zret X hrt dX10_isDownNow_15 rfl ⟨_, rfl, rfl, by unfold dwR; rw [decide_eq_true h1]; rfl⟩
theorem iX10_square_X10 : ∀ w ∈ wsX100, w ∈ wsX10_square := by decide +kernel
theorem kX10_square_25 : Cond.fieldLink RX10 25 (TX10 13).1 (TX10 13).2.1 (TX10 13).2.2.1 ∈ wsX10_square := by decide +kernel
theorem kX10_square_28 : Cond.fieldLink RX10 28 (TX10 14).1 (TX10 14).2.1 (TX10 14).2.2.1 ∈ wsX10_square := by decide +kernel
theorem cX10_square_ok {t : Nat} (ht : t < 6) {c1 : Nat} (hc : c1 < 24) : mMi l yX10_square wsX10_square rmX10_square D n0 ft [.ref (n0 + 130), .int (nI t), .int (nI c1)] n S (fun r S' => S' = S ∧ r = sqR S t c1) := by
  refine tv_enter (cc := cX10_square) (maxL := 5) (ret := (some .int)) (by decide) rfl (Nat.le_of_ble_eq_true rfl) ?_
  intro p e s m args below meth c X hrt hnm hargs
  refine tv_aload_n X dX10_square_0 rfl ?_
  refine tv_iload_n X dX10_square_1 rfl ?_
  refine tv_iconst (v := 1) X dX10_square_2 (by decide) ?_
  refine mm_callVi (q := (RX10, TX10, 20)) X dX10_square_3 (cX10_of_ok ht 1 rfl (by decide)) (cwV 2 X.2.2.2.2.1 gX10_square_X10_of rfl rfl rfl (by decide +kernel) ⟨Nat.le_of_ble_eq_true rfl, Nat.le_of_ble_eq_true rfl⟩) rfl rfl gX10 rfl (Nat.le_of_ble_eq_true rfl) ⟨Nat.zero_le _, Nat.zero_le _⟩ (fun r S1 hq => ?_)
  obtain ⟨hq1, hq2⟩ := hq
  rw [hq1, hq2]
  clear hq1 hq2
  refine tv_aload_n X dX10_square_6 rfl ?_
  refine mm_getf X dX10_square_7 gX10 iX10_square_X10 rfl 13 (by decide) kX10_square_25 rfl ?_
  refine tv_iload_n X dX10_square_10 rfl ?_
  refine mm_iald X dX10_square_11 g136 c1 rfl hc (by decide) ?_
  refine tv_isub X dX10_square_12 ?_
  refine tv_istore_n X dX10_square_13 rfl ?_
  refine tv_aload_n X dX10_square_14 rfl ?_
  refine tv_iload_n X dX10_square_15 rfl ?_
  refine tv_iconst (v := 2) X dX10_square_16 (by decide) ?_
  refine mm_callVi (q := (RX10, TX10, 20)) X dX10_square_17 (cX10_of_ok ht 2 rfl (by decide)) (cwV 2 X.2.2.2.2.1 gX10_square_X10_of rfl rfl rfl (by decide +kernel) ⟨Nat.le_of_ble_eq_true rfl, Nat.le_of_ble_eq_true rfl⟩) rfl rfl gX10 rfl (Nat.le_of_ble_eq_true rfl) ⟨Nat.zero_le _, Nat.zero_le _⟩ (fun r S1 hq => ?_)
  obtain ⟨hq1, hq2⟩ := hq
  rw [hq1, hq2]
  clear hq1 hq2
  refine tv_aload_n X dX10_square_20 rfl ?_
  refine mm_getf X dX10_square_21 gX10 iX10_square_X10 rfl 14 (by decide) kX10_square_28 rfl ?_
  refine tv_iload_n X dX10_square_24 rfl ?_
  refine mm_iald X dX10_square_25 g137 c1 rfl hc (by decide) ?_
  refine tv_isub X dX10_square_26 ?_
  refine tv_istore X dX10_square_27 rfl ?_
  refine tv_iload_n X dX10_square_29 rfl ?_
  refine tv_iload_n X dX10_square_30 rfl ?_
  refine tv_imul X dX10_square_31 ?_
  refine tv_iload X dX10_square_32 rfl ?_
  refine tv_iload X dX10_square_34 rfl ?_
  refine tv_imul X dX10_square_36 ?_
  refine tv_iadd X dX10_square_37 ?_
  exact tv_iret X hrt dX10_square_38 ⟨_, rfl, rfl, rfl⟩
theorem iX10_gate_X10 : ∀ w ∈ wsX100, w ∈ wsX10_gate := by decide +kernel
theorem kX10_gate_7 : Cond.fieldLink RX10 7 (TX10 1).1 (TX10 1).2.1 (TX10 1).2.2.1 ∈ wsX10_gate := by decide +kernel
theorem cX10_gate_ok : mMi l yX10_gate wsX10_gate rmX10_gate D n0 ft [.ref (n0 + 130)] n S (fun r S' => S' = S ∧ r = gtR S) := by
  refine tv_enter (cc := cX10_gate) (maxL := 1) (ret := (some .int)) (by decide) rfl (Nat.le_of_ble_eq_true rfl) ?_
  intro p e s m args below meth c X hrt hnm hargs
  refine tv_aload_n X dX10_gate_0 rfl ?_
  refine mm_getf X dX10_gate_1 gX10 iX10_gate_X10 rfl 1 (by decide) kX10_gate_7 rfl ?_
  refine tv_bipush (v := 99) X dX10_gate_4 (by decide) ?_
  refine mm_iald X dX10_gate_6 g131 99 (by decide) (by decide) (by decide) ?_
  refine tv_aload_n X dX10_gate_7 rfl ?_
  refine mm_getf X dX10_gate_8 gX10 iX10_gate_X10 rfl 1 (by decide) kX10_gate_7 rfl ?_
  refine tv_bipush (v := 99) X dX10_gate_11 (by decide) ?_
  refine mm_iald X dX10_gate_13 g131 99 (by decide) (by decide) (by decide) ?_
  refine tv_imul X dX10_gate_14 ?_
  exact tv_iret X hrt dX10_gate_15 ⟨_, rfl, rfl, rfl⟩
theorem iX10_costWith_X10 : ∀ w ∈ wsX100, w ∈ wsX10_costWith := by decide +kernel
theorem kX10_costWith_66 : Cond.fieldLink RX10 66 (TX10 17).1 (TX10 17).2.1 (TX10 17).2.2.1 ∈ wsX10_costWith := by decide +kernel
theorem kX10_costWith_37 : Cond.fieldLink RX10 37 (TX10 18).1 (TX10 18).2.1 (TX10 18).2.2.1 ∈ wsX10_costWith := by decide +kernel
theorem cX10_costWith_ok {t : Nat} (ht : t < 6) {c1 : Nat} (hc : c1 ≤ 6) {tk : Nat} (htk : tk < 64) : mMi l yX10_costWith wsX10_costWith rmX10_costWith D n0 ft [.ref (n0 + 130), .int (nI t), .int (nI c1), .int (nI tk)] n S (fun r S' => S' = S ∧ r = cwR S (S.1 140) t c1 tk) := by
  refine tv_enter (cc := cX10_costWith) (maxL := 5) (ret := (some .int)) (by decide) rfl (Nat.le_of_ble_eq_true rfl) ?_
  intro p e s m args below meth c X hrt hnm hargs
  refine tv_iload_n X dX10_costWith_0 rfl ?_
  refine tv_bipush (v := 6) X dX10_costWith_1 (by decide) ?_
  by_cases h6 : c1 = 6
  · subst h6
    refine tv_icmp_ne (tgt := 25) X dX10_costWith_3 (by decide) (fun h1 => ?_) (fun h1 => ?_)
    · exact absurd rfl h1
    refine tv_aload_n X dX10_costWith_6 rfl ?_
    refine mm_callVi (q := (RX10, TX10, 20)) X dX10_costWith_7 (cX10_gate_ok) (cwV 0 X.2.2.2.2.1 gX10_costWith_X10_gate rfl rfl rfl (by decide +kernel) ⟨Nat.le_of_ble_eq_true rfl, Nat.le_of_ble_eq_true rfl⟩) rfl rfl gX10 rfl (Nat.le_of_ble_eq_true rfl) ⟨Nat.zero_le _, Nat.zero_le _⟩ (fun r S1 hq => ?_)
    obtain ⟨hq1, hq2⟩ := hq
    rw [hq1, hq2]
    clear hq1 hq2
    refine tv_aload_n X dX10_costWith_10 rfl ?_
    refine mm_getf X dX10_costWith_11 gX10 iX10_costWith_X10 rfl 18 (by decide) kX10_costWith_37 rfl ?_
    refine tv_bipush (v := 64) X dX10_costWith_14 (by decide) ?_
    refine tv_iload_n X dX10_costWith_16 rfl ?_
    refine tv_iconst (v := 1) X dX10_costWith_17 (by decide) ?_
    refine tv_iadd X dX10_costWith_18 ?_
    refine tv_imul X dX10_costWith_19 ?_
    refine tv_iload_n X dX10_costWith_20 rfl ?_
    refine tv_iadd X dX10_costWith_21 ?_
    refine mm_iald X dX10_costWith_22 g140 (64 * (t + 1) + tk) (ctI t tk) (by omega) (by decide) ?_
    refine tv_iadd X dX10_costWith_23 ?_
    exact tv_iret X hrt dX10_costWith_24 ⟨_, rfl, rfl, (if_pos rfl).symm⟩
  have hc6 : c1 < 6 := by omega
  refine tv_icmp_ne (tgt := 25) X dX10_costWith_3 (by decide) (fun h1 => ?_) (fun h1 => ?_)
  rotate_left
  · exact absurd ((nI_eq (by omega) (by decide)).mp h1) h6
  refine mm_cut (pc := 59) (fun v : Int32 => (v = 1 ∧ (nI c1 < S.1 130 17 ∧ tk.testBit c1 = false ∧ sqR S t c1 ≤ gtR S)) ∨ (v = 0 ∧ ¬ (nI c1 < S.1 130 17 ∧ tk.testBit c1 = false ∧ sqR S t c1 ≤ gtR S))) (fun _ => [(0, .ref (n0 + 130)), (1, .int (nI t)), (2, .int (nI c1)), (3, .int (nI tk))]) (fun v => [.int v]) (fun _ => S) ?_ ?_
  · intro v hv
    refine tv_istore X dX10_costWith_59 rfl ?_
    refine tv_iload X dX10_costWith_61 rfl ?_
    rcases hv with ⟨rfl, hv⟩ | ⟨rfl, hv⟩
    · refine tv_if_eq (tgt := 93) X dX10_costWith_63 (by decide) (fun h2 => ?_) (fun h2 => ?_)
      · exact absurd h2 (by decide)
      refine tv_aload_n X dX10_costWith_66 rfl ?_
      refine tv_iload_n X dX10_costWith_67 rfl ?_
      refine tv_iload_n X dX10_costWith_68 rfl ?_
      refine mm_callVi (q := (RX10, TX10, 20)) X dX10_costWith_69 (cX10_square_ok ht (by omega)) (cwV 2 X.2.2.2.2.1 gX10_costWith_X10_square rfl rfl rfl (by decide +kernel) ⟨Nat.le_of_ble_eq_true rfl, Nat.le_of_ble_eq_true rfl⟩) rfl rfl gX10 rfl (Nat.le_of_ble_eq_true rfl) ⟨Nat.zero_le _, Nat.zero_le _⟩ (fun r S1 hq => ?_)
      obtain ⟨hq1, hq2⟩ := hq
      rw [hq1, hq2]
      clear hq1 hq2
      have h9 := or6 tk htk c1 hc6
      refine tv_aload_n X dX10_costWith_72 rfl ?_
      refine mm_getf X dX10_costWith_73 gX10 iX10_costWith_X10 rfl 18 (by decide) kX10_costWith_37 rfl ?_
      refine tv_bipush (v := 64) X dX10_costWith_76 (by decide) ?_
      refine tv_iload_n X dX10_costWith_78 rfl ?_
      refine tv_iconst (v := 1) X dX10_costWith_79 (by decide) ?_
      refine tv_iadd X dX10_costWith_80 ?_
      refine tv_imul X dX10_costWith_81 ?_
      refine tv_iload_n X dX10_costWith_82 rfl ?_
      refine tv_iconst (v := 1) X dX10_costWith_83 (by decide) ?_
      refine tv_iload_n X dX10_costWith_84 rfl ?_
      refine tv_ishl X dX10_costWith_85 ?_
      refine tv_ior X dX10_costWith_86 ?_
      rw [h9.1]
      refine tv_iadd X dX10_costWith_87 ?_
      refine mm_iald X dX10_costWith_88 g140 (64 * (t + 1) + (tk ||| 1 <<< c1)) (ctI t _) (by have := h9.2; omega) (by decide) ?_
      refine tv_iadd X dX10_costWith_89 ?_
      refine tv_goto (tgt := 94) X dX10_costWith_90 (by decide) ?_
      exact tv_iret X hrt dX10_costWith_94 ⟨_, rfl, rfl, by unfold cwR; rw [if_neg h6, if_pos hv]⟩
    · refine tv_if_eq (tgt := 93) X dX10_costWith_63 (by decide) (fun h2 => ?_) (fun h2 => ?_)
      rotate_left
      · exact absurd rfl h2
      refine tv_iconst (v := -1) X dX10_costWith_93 (by decide) ?_
      exact tv_iret X hrt dX10_costWith_94 ⟨_, rfl, rfl, by unfold cwR; rw [if_neg h6, if_neg hv]⟩
  intro hcut
  refine tv_iload_n X dX10_costWith_25 rfl ?_
  refine tv_aload_n X dX10_costWith_26 rfl ?_
  refine mm_getf X dX10_costWith_27 gX10 iX10_costWith_X10 rfl 17 (by decide) kX10_costWith_66 rfl ?_
  refine tv_icmp_ge (tgt := 58) X dX10_costWith_30 (by decide) (fun h2 => ?_) (fun h2 => ?_)
  · refine tv_iconst (v := 0) X dX10_costWith_58 (by decide) ?_
    exact hcut 0 (Or.inr ⟨rfl, fun h => absurd h.1 (Int32.not_lt.mpr h2)⟩)
  refine tv_iload_n X dX10_costWith_33 rfl ?_
  refine tv_iload_n X dX10_costWith_34 rfl ?_
  refine tv_ishr X dX10_costWith_35 ?_
  refine tv_iconst (v := 1) X dX10_costWith_36 (by decide) ?_
  refine tv_iand X dX10_costWith_37 ?_
  have h3 := sh6 tk htk c1 hc6
  refine tv_if_ne (tgt := 58) X dX10_costWith_38 (by decide) (fun h4 => ?_) (fun h4 => ?_)
  · refine tv_iconst (v := 0) X dX10_costWith_58 (by decide) ?_
    exact hcut 0 (Or.inr ⟨rfl, fun h => h4 (h3.mpr h.2.1)⟩)
  refine tv_aload_n X dX10_costWith_41 rfl ?_
  refine tv_iload_n X dX10_costWith_42 rfl ?_
  refine tv_iload_n X dX10_costWith_43 rfl ?_
  refine mm_callVi (q := (RX10, TX10, 20)) X dX10_costWith_44 (cX10_square_ok ht (by omega)) (cwV 2 X.2.2.2.2.1 gX10_costWith_X10_square rfl rfl rfl (by decide +kernel) ⟨Nat.le_of_ble_eq_true rfl, Nat.le_of_ble_eq_true rfl⟩) rfl rfl gX10 rfl (Nat.le_of_ble_eq_true rfl) ⟨Nat.zero_le _, Nat.zero_le _⟩ (fun r S1 hq => ?_)
  obtain ⟨hq1, hq2⟩ := hq
  rw [hq1, hq2]
  clear hq1 hq2
  refine tv_aload_n X dX10_costWith_47 rfl ?_
  refine mm_callVi (q := (RX10, TX10, 20)) X dX10_costWith_48 (cX10_gate_ok) (cwV 0 X.2.2.2.2.1 gX10_costWith_X10_gate rfl rfl rfl (by decide +kernel) ⟨Nat.le_of_ble_eq_true rfl, Nat.le_of_ble_eq_true rfl⟩) rfl rfl gX10 rfl (Nat.le_of_ble_eq_true rfl) ⟨Nat.zero_le _, Nat.zero_le _⟩ (fun r S1 hq => ?_)
  obtain ⟨hq1, hq2⟩ := hq
  rw [hq1, hq2]
  clear hq1 hq2
  refine tv_icmp_gt (tgt := 58) X dX10_costWith_51 (by decide) (fun h5 => ?_) (fun h5 => ?_)
  · refine tv_iconst (v := 0) X dX10_costWith_58 (by decide) ?_
    exact hcut 0 (Or.inr ⟨rfl, fun h => absurd h.2.2 (Int32.not_le.mpr h5)⟩)
  · refine tv_iconst (v := 1) X dX10_costWith_54 (by decide) ?_
    refine tv_goto (tgt := 59) X dX10_costWith_55 (by decide) ?_
    exact hcut 1 (Or.inl ⟨rfl, Int32.not_le.mp h2, h3.mp h4, Int32.not_lt.mp h5⟩)
end C31

