/-- the least of the first costs that are not -1; -1 where all are -1 -/
def lsM (f : Nat → Int32) : Nat → Int32
  | 0 => -1
  | c + 1 => if ¬ f c = -1 ∧ (lsM f c = -1 ∨ f c < lsM f c) then f c else lsM f c
theorem lsM_m1 {f : Nat → Int32} : ∀ {k : Nat}, lsM f k = -1 → ∀ c, c < k → f c = -1
  | 0, _, c, hc => absurd hc (Nat.not_lt_zero c)
  | k + 1, h, c, hc => by
    have h' : (if ¬ f k = -1 ∧ (lsM f k = -1 ∨ f k < lsM f k) then f k else lsM f k) = -1 := h
    by_cases h1 : f k = -1
    · rw [if_neg (fun q => q.1 h1)] at h'
      by_cases e : c = k
      · rw [e]; exact h1
      · exact lsM_m1 h' c (by omega)
    · by_cases h2 : lsM f k = -1 ∨ f k < lsM f k
      · rw [if_pos ⟨h1, h2⟩] at h'
        exact absurd h' h1
      · rw [if_neg (fun q => h2 q.2)] at h'
        exact absurd (Or.inl h') h2
theorem lsM_ex {f : Nat → Int32} : ∀ {k : Nat}, lsM f k = -1 ∨ ∃ c, c < k ∧ f c = lsM f k
  | 0 => Or.inl rfl
  | k + 1 => by
    show (if ¬ f k = -1 ∧ (lsM f k = -1 ∨ f k < lsM f k) then f k else lsM f k) = -1 ∨ ∃ c, c < k + 1 ∧ f c = (if ¬ f k = -1 ∧ (lsM f k = -1 ∨ f k < lsM f k) then f k else lsM f k)
    split
    · exact Or.inr ⟨k, Nat.lt_succ_self k, rfl⟩
    · rcases lsM_ex (f := f) (k := k) with h | ⟨c, hc, h⟩
      · exact Or.inl h
      · exact Or.inr ⟨c, by omega, h⟩
theorem lsM_at (f : Nat → Int32) {k : Nat} (hk : 0 < k) : ∃ c, c < k ∧ f c = lsM f k := by
  rcases lsM_ex (f := f) (k := k) with h | h
  · exact ⟨0, hk, by rw [h]; exact lsM_m1 h 0 hk⟩
  · exact h
/-- one place of the costs -/
def kV (S : mS) (K : Nat → Int32) (k : Nat) : Int32 := if dwR S (k / 64) then lsM (fun c => cwR S K (k / 64) c (k % 64)) 7 else K (k + 64)
def kR (S : mS) (K : Nat → Int32) : Nat → Nat → Int32
  | 0 => K
  | i + 1 => upd (kR S K i) (383 - i) (kV S (kR S K i) (383 - i))
/-- zeros from a on -/
def zf (K : Nat → Int32) (a i : Nat) : Nat → Int32 := fun k => if a ≤ k ∧ k < a + i then 0 else K k
theorem zf_0 {K : Nat → Int32} {a : Nat} : zf K a 0 = K := funext fun k => if_neg (by omega)
theorem zf_s {K : Nat → Int32} {a i : Nat} : upd (zf K a i) (a + i) 0 = zf K a (i + 1) := by
  funext k
  unfold upd zf
  by_cases e1 : k = a + i
  · subst e1; rw [if_pos rfl, if_pos (by omega)]
  · rw [if_neg e1]
    by_cases e2 : a ≤ k ∧ k < a + i
    · rw [if_pos e2, if_pos (by omega)]
    · rw [if_neg e2, if_neg (by omega)]
theorem cwR_K {S : mS} {K K2 : Nat → Int32} {t c tk : Nat} (htk : tk < 64) (hc7 : c < 7) (h : ∀ j, 64 * (t + 1) ≤ j → j < 64 * (t + 2) → K j = K2 j) : cwR S K t c tk = cwR S K2 t c tk := by
  unfold cwR
  rw [h (64 * (t + 1) + tk) (by omega) (by omega)]
  by_cases h6 : c = 6
  · rw [if_pos h6, if_pos h6]
  · rw [if_neg h6, if_neg h6]
    by_cases hc : nI c < S.1 130 17 ∧ tk.testBit c = false ∧ sqR S t c ≤ gtR S
    · rw [if_pos hc, if_pos hc]
      have h9 := (or6 tk htk c (by omega)).2
      rw [h _ (by omega) (by omega)]
    · rw [if_neg hc, if_neg hc]
theorem ii_m1 (x : Int32) : x + Int32.ofInt (-1) = x - 1 := (Int32.sub_eq_add_neg (a := x) (b := 1)).symm
theorem lsM_cg {f g : Nat → Int32} : ∀ {k : Nat}, (∀ c, c < k → f c = g c) → lsM f k = lsM g k
  | 0, _ => rfl
  | k + 1, h => by
    have e := lsM_cg (k := k) fun c hc => h c (by omega)
    show (if ¬ f k = -1 ∧ (lsM f k = -1 ∨ f k < lsM f k) then f k else lsM f k) = (if ¬ g k = -1 ∧ (lsM g k = -1 ∨ g k < lsM g k) then g k else lsM g k)
    rw [e, h k (Nat.lt_succ_self k)]
theorem kV_cg {S : mS} {K K2 : Nat → Int32} {k : Nat} (h : ∀ j, k < j → K j = K2 j) : kV S K k = kV S K2 k := by
  unfold kV
  have hm : k % 64 < 64 := Nat.mod_lt _ (by decide)
  split
  · exact lsM_cg fun c hc => cwR_K hm hc fun j h1 _ => h j (by omega)
  · exact h _ (by omega)
theorem kR_hi {S : mS} {K : Nat → Int32} : ∀ (d i j : Nat), i + d ≤ 384 → 384 - i ≤ j → kR S K (i + d) j = kR S K i j
  | 0, _, _, _, _ => rfl
  | d + 1, i, j, hd, hj => by
    show upd (kR S K (i + d)) (383 - (i + d)) _ j = _
    rw [pk_un (by omega)]
    exact kR_hi d i j (by omega) hj
/-- what holds of the costs at the end -/
theorem kR_eq {S : mS} {K : Nat → Int32} {k : Nat} (hk : k < 384) : kR S K 384 k = kV S (kR S K 384) k := by
  have e1 : kR S K (383 - k + 1) k = kV S (kR S K (383 - k)) k := by
    have e : (383 - (383 - k)) = k := by omega
    show upd (kR S K (383 - k)) (383 - (383 - k)) (kV S (kR S K (383 - k)) (383 - (383 - k))) k = _
    rw [e, pk_us]
  have e2 : kR S K 384 k = kR S K (383 - k + 1) k := by
    have := kR_hi (S := S) (K := K) k (383 - k + 1) k (by omega) (by omega)
    rw [show 383 - k + 1 + k = 384 by omega] at this
    exact this
  have e3 : kV S (kR S K (383 - k)) k = kV S (kR S K 384) k := kV_cg fun j hj => by
    have := kR_hi (S := S) (K := K) (k + 1) (383 - k) j (by omega) (by omega)
    rw [show 383 - k + (k + 1) = 384 by omega] at this
    exact this.symm
  rw [e2, e1, e3]
/-- the first from c on, of at most m, that is v -/
def fiM (f : Nat → Int32) (v : Int32) : Nat → Nat → Nat
  | c, 0 => c
  | c, m + 1 => if f c = v then c else fiM f v (c + 1) m
def ctR (S : mS) (K : Nat → Int32) (t tk : Nat) : Nat := if dwR S t then fiM (fun c => cwR S K t c tk) (K (64 * t + tk)) 0 6 else 0
theorem fiM_le {f : Nat → Int32} {v : Int32} : ∀ {m c : Nat}, fiM f v c m ≤ c + m
  | 0, c => Nat.le_refl _
  | m + 1, c => by
    show (if f c = v then c else fiM f v (c + 1) m) ≤ _
    split
    · omega
    · have := fiM_le (f := f) (v := v) (m := m) (c := c + 1)
      omega
def mtQ (S : mS) (K : Nat → Int32) (t tk : Nat) : Bool := dwR S t && decide (ctR S K t tk < 6)
def asM (S : mS) (K : Nat → Int32) : Nat → (Nat → Int32) × Nat
  | 0 => (S.1 141, 0)
  | t + 1 => (upd (asM S K t).1 t (if mtQ S K t (asM S K t).2 then nI (ctR S K t (asM S K t).2) else -1), if mtQ S K t (asM S K t).2 then (asM S K t).2 ||| 1 <<< ctR S K t (asM S K t).2 else (asM S K t).2)
theorem mtQ_lt {S : mS} {K : Nat → Int32} {t tk : Nat} (h : mtQ S K t tk = true) : ctR S K t tk < 6 := by
  unfold mtQ at h
  rw [Bool.and_eq_true, decide_eq_true_eq] at h
  exact h.2
theorem asM_lt {S : mS} {K : Nat → Int32} : ∀ t, (asM S K t).2 < 64
  | 0 => Nat.le_of_ble_eq_true rfl
  | t + 1 => by
    show (if mtQ S K t (asM S K t).2 then (asM S K t).2 ||| 1 <<< ctR S K t (asM S K t).2 else (asM S K t).2) < 64
    cases h : mtQ S K t (asM S K t).2 with
    | false => exact asM_lt t
    | true => exact (or6 _ (asM_lt t) _ (mtQ_lt h)).2
/-- the picture behind findsMatching, on from that behind findsContacts -/
def fmK (S : mS) : Nat → Int32 := kR S (zf (S.1 140) 384 64) 384
def fmE (S : mS) : mS := mset (mset S 140 (fmK S)) 141 (asM S (fmK S) 6).1
theorem dwR_ag {S T : mS} (h : T.1 131 = S.1 131) (t : Nat) : dwR T t = dwR S t := by
  unfold dwR ofR
  rw [h]
theorem cwR_ag {S T : mS} (h : T.1 131 = S.1 131) (h6 : T.1 136 = S.1 136) (h7 : T.1 137 = S.1 137) (h0 : T.1 130 = S.1 130) (K : Nat → Int32) (t c tk : Nat) : cwR T K t c tk = cwR S K t c tk := by
  unfold cwR gtR sqR ofR
  rw [h, h6, h7, h0]
section C32
variable {l : Launch} {D : va_G} {n0 : Nat} {ft : Nat × Nat × Nat} {n : Nat} {S : mS} {b : Nat}
theorem iX10_findsMatching_X10 : ∀ w ∈ wsX100, w ∈ wsX10_findsMatching := by decide +kernel
theorem kX10_findsMatching_37 : Cond.fieldLink RX10 37 (TX10 18).1 (TX10 18).2.1 (TX10 18).2.2.1 ∈ wsX10_findsMatching := by decide +kernel
theorem kX10_findsMatching_40 : Cond.fieldLink RX10 40 (TX10 19).1 (TX10 19).2.1 (TX10 19).2.2.1 ∈ wsX10_findsMatching := by decide +kernel
set_option maxHeartbeats 4000000 in
theorem cX10_findsMatching_ok (hS : rgR S) : mMv l yX10_findsMatching wsX10_findsMatching rmX10_findsMatching D n0 ft [.ref (n0 + 130)] n S (fun S' => ∃ k, rpF (labM S 48) k = 0 ∧ S' = fmE (fcE (frS S k))) := by
  refine tv_enter (cc := cX10_findsMatching) (maxL := 6) (ret := none) (by decide) rfl (Nat.le_of_ble_eq_true rfl) ?_
  intro p e s m args below meth c X hrt hnm hargs
  refine tv_aload_n X dX10_findsMatching_0 rfl ?_
  refine mm_callVv (q := (RX10, TX10, 20)) X dX10_findsMatching_1 (cX10_findsContacts_ok hS) (cwV 0 X.2.2.2.2.1 gX10_findsMatching_X10_findsContacts rfl rfl rfl (by decide +kernel) ⟨Nat.le_of_ble_eq_true rfl, Nat.le_of_ble_eq_true rfl⟩) rfl rfl gX10 rfl (Nat.le_of_ble_eq_true rfl) ⟨Nat.zero_le _, Nat.zero_le _⟩ (fun S1 hq => ?_)
  obtain ⟨k0, hk0, hq1⟩ := hq
  rw [hq1]
  clear hq1
  have hpost : ∀ S' : mS, S' = fmE (fcE (frS S k0)) → ∃ k, rpF (labM S 48) k = 0 ∧ S' = fmE (fcE (frS S k)) := fun S' h => ⟨k0, hk0, h⟩
  generalize fcE (frS S k0) = S2 at hpost ⊢
  clear hk0
  refine tv_iconst (v := 0) X dX10_findsMatching_4 (by decide) ?_
  refine tv_istore_n X dX10_findsMatching_5 rfl ?_
  refine mm_st (S' := mset S2 140 (zf (S2.1 140) 384 0)) (by rw [zf_0, mset_self]) ?_
  refine mm_for 64 (fun i => [(0, .ref (n0 + 130)), (1, .int (nI i))]) (fun i => mset S2 140 (zf (S2.1 140) 384 i)) ?_ ?_
  · intro i hi ih
    dsimp only at ih
    refine tv_iload_n X dX10_findsMatching_6 rfl ?_
    refine tv_bipush (v := 64) X dX10_findsMatching_7 (by decide) ?_
    refine tv_icmp_ge (tgt := 29) X dX10_findsMatching_9 (by decide) (fun h1 => ?_) (fun h1 => ?_)
    · exact absurd h1 (nI_ge (a := i) (b := 64) hi (by decide))
    refine tv_aload_n X dX10_findsMatching_12 rfl ?_
    refine mm_getf X dX10_findsMatching_13 gX10 iX10_findsMatching_X10 rfl 18 (by decide) kX10_findsMatching_37 rfl ?_
    refine tv_sipush (v := 384) X dX10_findsMatching_16 (by decide) ?_
    refine tv_iload_n X dX10_findsMatching_19 rfl ?_
    refine tv_iadd X dX10_findsMatching_20 ?_
    refine tv_iconst (v := 0) X dX10_findsMatching_21 (by decide) ?_
    refine mm_iast X dX10_findsMatching_22 g140 (384 + i) (nI_add 384 i) (by omega) (by decide) ?_
    refine tv_iinc X dX10_findsMatching_23 rfl (nI_1 i) rfl ?_
    refine tv_goto (tgt := 6) X dX10_findsMatching_26 (by decide) ?_
    refine mm_st ?_ ih
    rw [mupd_in, zf_s]
  refine tv_iload_n X dX10_findsMatching_6 rfl ?_
  refine tv_bipush (v := 64) X dX10_findsMatching_7 (by decide) ?_
  refine tv_icmp_ge (tgt := 29) X dX10_findsMatching_9 (by decide) (fun h1 => ?_) (fun h1 => ?_)
  rotate_left
  · exact absurd (nI_le (Nat.le_refl 64) (by decide)) h1
  refine tv_sipush (v := 383) X dX10_findsMatching_29 (by decide) ?_
  refine tv_istore_n X dX10_findsMatching_32 rfl ?_
  have hK : fmK S2 = kR S2 (zf (S2.1 140) 384 64) 384 := rfl
  have hend : ∀ S' : mS, S' = mset (mset S2 140 (kR S2 (zf (S2.1 140) 384 64) 384)) 141 (asM S2 (kR S2 (zf (S2.1 140) 384 64) 384) 6).1 → S' = fmE S2 := fun S' h => h
  clear hK
  generalize zf (S2.1 140) 384 64 = K0 at hend ⊢
  have e383 : (383 : Int32) = nI (384 - 0) - 1 := by decide +kernel
  refine mm_L (L' := [(0, .ref (n0 + 130)), (1, .int (nI (384 - 0) - 1))]) (congrArg (fun v => [(0, Value.ref (n0 + 130)), (1, Value.int v)]) e383) ?_
  refine mm_for 384 (fun i => [(0, .ref (n0 + 130)), (1, .int (nI (384 - i) - 1))]) (fun i => mset S2 140 (kR S2 K0 i)) ?_ ?_
  · intro i hi ih
    dsimp only at ih
    have hnx : kR S2 K0 (i + 1) = upd (kR S2 K0 i) (383 - i) (kV S2 (kR S2 K0 i) (383 - i)) := rfl
    rw [hnx] at ih
    generalize kR S2 K0 i = K at ih ⊢
    have e1 : nI (384 - i) - 1 = nI (383 - i) := by
      rw [show 384 - i = 383 - i + 1 by omega]; exact nI_pred _
    have e2 : nI (384 - (i + 1)) - 1 = nI (383 - i) - 1 := by rw [show 384 - (i + 1) = 383 - i by omega]
    rw [e2] at ih
    rw [e1]
    generalize hk : 383 - i = k at ih ⊢
    have hk2 : k < 384 := by omega
    have ht : k / 64 < 6 := by omega
    have hm : k % 64 < 64 := Nat.mod_lt _ (by decide)
    have hdw : dwR (mset S2 140 K) (k / 64) = dwR S2 (k / 64) := dwR_ag (mset_n (by decide)) _
    have hcw : ∀ c, cwR (mset S2 140 K) ((mset S2 140 K).1 140) (k / 64) c (k % 64) = cwR S2 K (k / 64) c (k % 64) := fun c => by
      rw [mset_s]
      exact cwR_ag (mset_n (by decide)) (mset_n (by decide)) (mset_n (by decide)) (mset_n (by decide)) _ _ _ _
    refine tv_iload_n X dX10_findsMatching_33 rfl ?_
    refine tv_if_lt (tgt := 138) X dX10_findsMatching_34 (by decide) (fun h2 => ?_) (fun h2 => ?_)
    · exact absurd h2 (nI_pos (by omega))
    refine tv_iload_n X dX10_findsMatching_37 rfl ?_
    refine tv_bipush (v := 64) X dX10_findsMatching_38 (by decide) ?_
    refine tv_idiv X dX10_findsMatching_40 (by decide) ?_
    rw [show nI k / 64 = nI (k / 64) from pk_div (d := 64) (by omega) (by decide) (by decide)]
    refine tv_istore_n X dX10_findsMatching_41 rfl ?_
    refine tv_aload_n X dX10_findsMatching_42 rfl ?_
    refine tv_iload_n X dX10_findsMatching_43 rfl ?_
    refine mm_cut (pc := 125) (fun v : Int32 => v = kV S2 K k) (fun v => [(0, .ref (n0 + 130)), (1, .int (nI k)), (2, .int (nI (k / 64))), (3, .int v)]) (fun _ => []) (fun _ => mset S2 140 K) ?_ ?_
    · intro v hv
      subst hv
      refine tv_aload_n X dX10_findsMatching_125 rfl ?_
      refine mm_getf X dX10_findsMatching_126 gX10 iX10_findsMatching_X10 rfl 18 (by decide) kX10_findsMatching_37 rfl ?_
      refine tv_iload_n X dX10_findsMatching_129 rfl ?_
      refine tv_iload_n X dX10_findsMatching_130 rfl ?_
      refine mm_iast X dX10_findsMatching_131 g140 k rfl (by omega) (by decide) ?_
      refine tv_iinc X dX10_findsMatching_132 rfl (ii_m1 _) rfl ?_
      refine tv_goto (tgt := 33) X dX10_findsMatching_135 (by decide) ?_
      rw [mupd_in]
      exact tv_sl [0, 1] rfl ih
    intro hcut
    refine mm_callVi (q := (RX10, TX10, 20)) X dX10_findsMatching_44 (cX10_isDownNow_ok ht) (cwV 1 X.2.2.2.2.1 gX10_findsMatching_X10_isDownNow rfl rfl rfl (by decide +kernel) ⟨Nat.le_of_ble_eq_true rfl, Nat.le_of_ble_eq_true rfl⟩) rfl rfl gX10 rfl (Nat.le_of_ble_eq_true rfl) ⟨Nat.zero_le _, Nat.zero_le _⟩ (fun r S1 hq => ?_)
    obtain ⟨hq1, hq2⟩ := hq
    rw [hq1, hq2, hdw]
    clear hq1 hq2
    cases hd : dwR S2 (k / 64) with
    | false =>
      refine tv_if_eq (tgt := 54) X dX10_findsMatching_47 (by decide) (fun h3 => ?_) (fun h3 => ?_)
      rotate_left
      · exact absurd rfl h3
      refine tv_aload_n X dX10_findsMatching_54 rfl ?_
      refine mm_getf X dX10_findsMatching_55 gX10 iX10_findsMatching_X10 rfl 18 (by decide) kX10_findsMatching_37 rfl ?_
      refine tv_iload_n X dX10_findsMatching_58 rfl ?_
      refine tv_bipush (v := 64) X dX10_findsMatching_59 (by decide) ?_
      refine tv_iadd X dX10_findsMatching_61 ?_
      rw [show nI k + 64 = nI (k + 64) from nI_add k 64]
      refine mm_iald X dX10_findsMatching_62 g140 (k + 64) rfl (by omega) (by decide) ?_
      rw [mset_s]
      refine tv_istore_n X dX10_findsMatching_63 rfl ?_
      refine tv_iconst (v := 0) X dX10_findsMatching_64 (by decide) ?_
      refine tv_istore X dX10_findsMatching_65 rfl ?_
      refine tv_iload X dX10_findsMatching_67 rfl ?_
      refine tv_bipush (v := 6) X dX10_findsMatching_69 (by decide) ?_
      refine tv_icmp_gt (tgt := 125) X dX10_findsMatching_71 (by decide) (fun h4 => ?_) (fun h4 => ?_)
      · exact absurd h4 (by decide)
      refine tv_aload_n X dX10_findsMatching_74 rfl ?_
      refine tv_iload_n X dX10_findsMatching_75 rfl ?_
      refine mm_callVi (q := (RX10, TX10, 20)) X dX10_findsMatching_76 (cX10_isDownNow_ok ht) (cwV 1 X.2.2.2.2.1 gX10_findsMatching_X10_isDownNow rfl rfl rfl (by decide +kernel) ⟨Nat.le_of_ble_eq_true rfl, Nat.le_of_ble_eq_true rfl⟩) rfl rfl gX10 rfl (Nat.le_of_ble_eq_true rfl) ⟨Nat.zero_le _, Nat.zero_le _⟩ (fun r S1 hq => ?_)
      obtain ⟨hq1, hq2⟩ := hq
      rw [hq1, hq2, hdw, hd]
      clear hq1 hq2
      refine tv_if_eq (tgt := 125) X dX10_findsMatching_79 (by decide) (fun h5 => ?_) (fun h5 => ?_)
      rotate_left
      · exact absurd rfl h5
      exact tv_sl [0, 1, 2, 3] rfl (hcut _ (by unfold kV; rw [hd]; rfl))
    | true =>
      refine tv_if_eq (tgt := 54) X dX10_findsMatching_47 (by decide) (fun h3 => ?_) (fun h3 => ?_)
      · exact absurd h3 (by decide)
      refine tv_iconst (v := -1) X dX10_findsMatching_50 (by decide) ?_
      refine tv_goto (tgt := 63) X dX10_findsMatching_51 (by decide) ?_
      refine tv_istore_n X dX10_findsMatching_63 rfl ?_
      refine tv_iconst (v := 0) X dX10_findsMatching_64 (by decide) ?_
      refine tv_istore X dX10_findsMatching_65 rfl ?_
      refine mm_for 7 (fun c => [(0, .ref (n0 + 130)), (1, .int (nI k)), (2, .int (nI (k / 64))), (3, .int (lsM (fun c => cwR S2 K (k / 64) c (k % 64)) c)), (4, .int (nI c))]) (fun _ => mset S2 140 K) ?_ ?_
      · intro c hc ih2
        dsimp only at ih2
        have hn2 : lsM (fun c => cwR S2 K (k / 64) c (k % 64)) (c + 1) = if ¬ cwR S2 K (k / 64) c (k % 64) = -1 ∧ (lsM (fun c => cwR S2 K (k / 64) c (k % 64)) c = -1 ∨ cwR S2 K (k / 64) c (k % 64) < lsM (fun c => cwR S2 K (k / 64) c (k % 64)) c) then cwR S2 K (k / 64) c (k % 64) else lsM (fun c => cwR S2 K (k / 64) c (k % 64)) c := rfl
        rw [hn2] at ih2
        generalize lsM (fun c => cwR S2 K (k / 64) c (k % 64)) c = lv at ih2 ⊢
        refine tv_iload X dX10_findsMatching_67 rfl ?_
        refine tv_bipush (v := 6) X dX10_findsMatching_69 (by decide) ?_
        refine tv_icmp_gt (tgt := 125) X dX10_findsMatching_71 (by decide) (fun h4 => ?_) (fun h4 => ?_)
        · exact absurd h4 (Int32.not_lt.mpr (nI_le (a := c) (b := 6) (by omega) (by decide)))
        refine tv_aload_n X dX10_findsMatching_74 rfl ?_
        refine tv_iload_n X dX10_findsMatching_75 rfl ?_
        refine mm_callVi (q := (RX10, TX10, 20)) X dX10_findsMatching_76 (cX10_isDownNow_ok ht) (cwV 1 X.2.2.2.2.1 gX10_findsMatching_X10_isDownNow rfl rfl rfl (by decide +kernel) ⟨Nat.le_of_ble_eq_true rfl, Nat.le_of_ble_eq_true rfl⟩) rfl rfl gX10 rfl (Nat.le_of_ble_eq_true rfl) ⟨Nat.zero_le _, Nat.zero_le _⟩ (fun r S1 hq => ?_)
        obtain ⟨hq1, hq2⟩ := hq
        rw [hq1, hq2, hdw, hd]
        clear hq1 hq2
        refine tv_if_eq (tgt := 125) X dX10_findsMatching_79 (by decide) (fun h5 => ?_) (fun h5 => ?_)
        · exact absurd h5 (by decide)
        refine tv_aload_n X dX10_findsMatching_82 rfl ?_
        refine tv_iload_n X dX10_findsMatching_83 rfl ?_
        refine tv_iload X dX10_findsMatching_84 rfl ?_
        refine tv_iload_n X dX10_findsMatching_86 rfl ?_
        refine tv_bipush (v := 64) X dX10_findsMatching_87 (by decide) ?_
        refine tv_irem X dX10_findsMatching_89 (by decide) ?_
        rw [show nI k - nI k / 64 * 64 = nI (k % 64) from pk_rem (d := 64) (by omega) (by decide) (by decide)]
        refine mm_callVi (q := (RX10, TX10, 20)) X dX10_findsMatching_90 (cX10_costWith_ok ht (by omega) hm) (cwV 3 X.2.2.2.2.1 gX10_findsMatching_X10_costWith rfl rfl rfl (by decide +kernel) ⟨Nat.le_of_ble_eq_true rfl, Nat.le_of_ble_eq_true rfl⟩) rfl rfl gX10 rfl (Nat.le_of_ble_eq_true rfl) ⟨Nat.zero_le _, Nat.zero_le _⟩ (fun r S1 hq => ?_)
        obtain ⟨hq1, hq2⟩ := hq
        rw [hcw] at hq2
        rw [hq1, hq2]
        clear hq1 hq2
        generalize cwR S2 K (k / 64) c (k % 64) = cv at ih2 ⊢
        refine tv_istore X dX10_findsMatching_93 rfl ?_
        refine tv_iload X dX10_findsMatching_95 rfl ?_
        refine tv_iconst (v := -1) X dX10_findsMatching_97 (by decide) ?_
        refine mm_cut (pc := 118) (fun v : Int32 => v = if ¬ cv = -1 ∧ (lv = -1 ∨ cv < lv) then cv else lv) (fun _ => [(0, .ref (n0 + 130)), (1, .int (nI k)), (2, .int (nI (k / 64))), (3, .int lv), (4, .int (nI c)), (5, .int cv)]) (fun v => [.int v]) (fun _ => mset S2 140 K) ?_ ?_
        · intro v hv
          rw [← hv] at ih2
          refine tv_istore_n X dX10_findsMatching_118 rfl ?_
          refine tv_iinc X dX10_findsMatching_119 rfl (nI_1 c) rfl ?_
          refine tv_goto (tgt := 67) X dX10_findsMatching_122 (by decide) ?_
          exact tv_sl [0, 1, 2, 3, 4] rfl ih2
        intro hc2
        refine tv_icmp_eq (tgt := 117) X dX10_findsMatching_98 (by decide) (fun h6 => ?_) (fun h6 => ?_)
        · refine tv_iload_n X dX10_findsMatching_117 rfl ?_
          exact hc2 lv (if_neg fun q => q.1 h6).symm
        refine tv_iload_n X dX10_findsMatching_101 rfl ?_
        refine tv_iconst (v := -1) X dX10_findsMatching_102 (by decide) ?_
        refine tv_icmp_eq (tgt := 112) X dX10_findsMatching_103 (by decide) (fun h7 => ?_) (fun h7 => ?_)
        · refine tv_iload X dX10_findsMatching_112 rfl ?_
          refine tv_goto (tgt := 118) X dX10_findsMatching_114 (by decide) ?_
          exact hc2 cv (if_pos ⟨h6, Or.inl h7⟩).symm
        refine tv_iload X dX10_findsMatching_106 rfl ?_
        refine tv_iload_n X dX10_findsMatching_108 rfl ?_
        refine tv_icmp_ge (tgt := 117) X dX10_findsMatching_109 (by decide) (fun h8 => ?_) (fun h8 => ?_)
        · refine tv_iload_n X dX10_findsMatching_117 rfl ?_
          exact hc2 lv (if_neg fun q => q.2.elim h7 (Int32.not_lt.mpr h8)).symm
        · refine tv_iload X dX10_findsMatching_112 rfl ?_
          refine tv_goto (tgt := 118) X dX10_findsMatching_114 (by decide) ?_
          exact hc2 cv (if_pos ⟨h6, Or.inr (Int32.not_le.mp h8)⟩).symm
      · refine tv_iload X dX10_findsMatching_67 rfl ?_
        refine tv_bipush (v := 6) X dX10_findsMatching_69 (by decide) ?_
        refine tv_icmp_gt (tgt := 125) X dX10_findsMatching_71 (by decide) (fun h4 => ?_) (fun h4 => ?_)
        rotate_left
        · exact absurd (show (6 : Int32) < nI 7 by decide) h4
        exact tv_sl [0, 1, 2, 3] rfl (hcut _ (by unfold kV; rw [hd]; rfl))
  · refine tv_iload_n X dX10_findsMatching_33 rfl ?_
    refine tv_if_lt (tgt := 138) X dX10_findsMatching_34 (by decide) (fun h2 => ?_) (fun h2 => ?_)
    rotate_left
    · exact absurd (show nI (384 - 384) - 1 < 0 by decide) h2
    refine tv_iconst (v := 0) X dX10_findsMatching_138 (by decide) ?_
    refine tv_istore_n X dX10_findsMatching_139 rfl ?_
    refine tv_iconst (v := 0) X dX10_findsMatching_140 (by decide) ?_
    refine tv_istore_n X dX10_findsMatching_141 rfl ?_
    have hfx : ∀ k, k < 384 → kR S2 K0 384 k = kV S2 (kR S2 K0 384) k := fun k hk => kR_eq hk
    generalize kR S2 K0 384 = K at hend hfx ⊢
    refine mm_st (S' := mset (mset S2 140 K) 141 (asM S2 K 0).1) ?_ ?_
    · rw [show (asM S2 K 0).1 = (mset S2 140 K).1 141 from (mset_n (by decide)).symm, mset_self]
    refine tv_sl (L' := [(0, .ref (n0 + 130)), (1, .int (nI (asM S2 K 0).2)), (2, .int (nI 0))]) [0, 1, 2] rfl ?_
    refine mm_for 6 (fun t => [(0, .ref (n0 + 130)), (1, .int (nI (asM S2 K t).2)), (2, .int (nI t))]) (fun t => mset (mset S2 140 K) 141 (asM S2 K t).1) ?_ ?_
    · intro t ht ih
      dsimp only at ih
      have hnx : (asM S2 K (t + 1)) = (upd (asM S2 K t).1 t (if mtQ S2 K t (asM S2 K t).2 then nI (ctR S2 K t (asM S2 K t).2) else -1), if mtQ S2 K t (asM S2 K t).2 then (asM S2 K t).2 ||| 1 <<< ctR S2 K t (asM S2 K t).2 else (asM S2 K t).2) := rfl
      rw [hnx] at ih
      have htk := asM_lt (S := S2) (K := K) t
      generalize (asM S2 K t).1 = M at ih ⊢
      generalize (asM S2 K t).2 = tk at ih htk ⊢
      generalize hT : mset (mset S2 140 K) 141 M = T at *
      have h140 : T.1 140 = K := by rw [← hT, mset_n (by decide), mset_s]
      have h131 : T.1 131 = S2.1 131 := by rw [← hT, mset_n (by decide), mset_n (by decide)]
      have hdw : dwR T t = dwR S2 t := dwR_ag h131 _
      have hcw : ∀ c, cwR T (T.1 140) t c tk = cwR S2 K t c tk := fun c => by
        rw [h140]
        exact cwR_ag h131 (by rw [← hT, mset_n (by decide), mset_n (by decide)]) (by rw [← hT, mset_n (by decide), mset_n (by decide)]) (by rw [← hT, mset_n (by decide), mset_n (by decide)]) _ _ _ _
      refine tv_iload_n X dX10_findsMatching_142 rfl ?_
      refine tv_bipush (v := 6) X dX10_findsMatching_143 (by decide) ?_
      refine tv_icmp_ge (tgt := 236) X dX10_findsMatching_145 (by decide) (fun h3 => ?_) (fun h3 => ?_)
      · exact absurd h3 (nI_ge (a := t) (b := 6) ht (by decide))
      refine tv_iconst (v := 0) X dX10_findsMatching_148 (by decide) ?_
      refine tv_istore_n X dX10_findsMatching_149 rfl ?_
      have hex : dwR S2 t = true → ∃ c, c < 7 ∧ cwR S2 K t c tk = K (64 * t + tk) := fun hd => by
        obtain ⟨c, hc, he⟩ := lsM_at (fun c => cwR S2 K t c tk) (k := 7) (by decide)
        refine ⟨c, hc, ?_⟩
        rw [hfx (64 * t + tk) (by omega)]
        unfold kV
        rw [show (64 * t + tk) / 64 = t by omega, show (64 * t + tk) % 64 = tk by omega, hd]
        exact he
      refine mm_cut (pc := 185) (fun _ : Unit => True) (fun _ => [(0, .ref (n0 + 130)), (1, .int (nI tk)), (2, .int (nI t)), (3, .int (nI (ctR S2 K t tk)))]) (fun _ => []) (fun _ => T) ?_ ?_
      · intro _ _
        refine tv_aload_n X dX10_findsMatching_185 rfl ?_
        refine mm_getf X dX10_findsMatching_186 gX10 iX10_findsMatching_X10 rfl 19 (by decide) kX10_findsMatching_40 rfl ?_
        refine tv_iload_n X dX10_findsMatching_189 rfl ?_
        refine tv_aload_n X dX10_findsMatching_190 rfl ?_
        refine tv_iload_n X dX10_findsMatching_191 rfl ?_
        refine mm_callVi (q := (RX10, TX10, 20)) X dX10_findsMatching_192 (cX10_isDownNow_ok ht) (cwV 1 X.2.2.2.2.1 gX10_findsMatching_X10_isDownNow rfl rfl rfl (by decide +kernel) ⟨Nat.le_of_ble_eq_true rfl, Nat.le_of_ble_eq_true rfl⟩) rfl rfl gX10 rfl (Nat.le_of_ble_eq_true rfl) ⟨Nat.zero_le _, Nat.zero_le _⟩ (fun r S1 hq => ?_)
        obtain ⟨hq1, hq2⟩ := hq
        rw [hq1, hq2, hdw]
        clear hq1 hq2
        have hml : mtQ S2 K t tk = true → ctR S2 K t tk < 6 := mtQ_lt
        have hmB : mtQ S2 K t tk = (dwR S2 t && decide (ctR S2 K t tk < 6)) := rfl
        have hcl : ctR S2 K t tk ≤ 6 := by
          unfold ctR
          split
          · exact fiM_le
          · decide
        refine mm_cut (pc := 209) (fun v : Int32 => v = if mtQ S2 K t tk then nI (ctR S2 K t tk) else -1) (fun _ => [(0, .ref (n0 + 130)), (1, .int (nI tk)), (2, .int (nI t)), (3, .int (nI (ctR S2 K t tk)))]) (fun v => [.int v, .int (nI t), .ref (n0 + 141)]) (fun _ => T) ?_ ?_
        · intro v hv
          refine mm_iast X dX10_findsMatching_209 g141 t rfl ht (by decide) ?_
          refine tv_iload_n X dX10_findsMatching_210 rfl ?_
          refine tv_aload_n X dX10_findsMatching_211 rfl ?_
          refine mm_getf X dX10_findsMatching_212 gX10 iX10_findsMatching_X10 rfl 19 (by decide) kX10_findsMatching_40 rfl ?_
          refine tv_iload_n X dX10_findsMatching_215 rfl ?_
          refine mm_iald X dX10_findsMatching_216 g141 t rfl ht (by decide) ?_
          rw [mupd_ss]
          have hT2 : mupd T 141 t v = mset (mset S2 140 K) 141 (upd M t v) := by rw [← hT, mupd_in]
          rw [hT2]
          rw [← hv] at ih
          cases hb1 : mtQ S2 K t tk with
          | false =>
            rw [hb1] at ih hv
            have hv2 : v = -1 := hv
            refine tv_iconst (v := -1) X dX10_findsMatching_217 (by decide) ?_
            refine tv_icmp_ne (tgt := 225) X dX10_findsMatching_218 (by decide) (fun h5 => ?_) (fun h5 => ?_)
            · exact absurd hv2 h5
            refine tv_iconst (v := 0) X dX10_findsMatching_221 (by decide) ?_
            refine tv_goto (tgt := 228) X dX10_findsMatching_222 (by decide) ?_
            refine tv_ior X dX10_findsMatching_228 ?_
            rw [show nI tk ||| 0 = nI tk from Int32.or_zero]
            refine tv_istore_n X dX10_findsMatching_229 rfl ?_
            refine tv_iinc X dX10_findsMatching_230 rfl (nI_1 t) rfl ?_
            refine tv_goto (tgt := 142) X dX10_findsMatching_233 (by decide) ?_
            exact tv_sl [0, 1, 2] rfl ih
          | true =>
            rw [hb1] at ih hv
            have hv2 : v = nI (ctR S2 K t tk) := hv
            have hlt := hml hb1
            refine tv_iconst (v := -1) X dX10_findsMatching_217 (by decide) ?_
            refine tv_icmp_ne (tgt := 225) X dX10_findsMatching_218 (by decide) (fun h5 => ?_) (fun h5 => ?_)
            rotate_left
            · exact absurd h5 (by rw [hv2]; intro h; exact nI_pos (n := ctR S2 K t tk) (by omega) (by rw [h]; decide))
            refine tv_iconst (v := 1) X dX10_findsMatching_225 (by decide) ?_
            refine tv_iload_n X dX10_findsMatching_226 rfl ?_
            refine tv_ishl X dX10_findsMatching_227 ?_
            refine tv_ior X dX10_findsMatching_228 ?_
            rw [(or6 tk htk _ hlt).1]
            refine tv_istore_n X dX10_findsMatching_229 rfl ?_
            refine tv_iinc X dX10_findsMatching_230 rfl (nI_1 t) rfl ?_
            refine tv_goto (tgt := 142) X dX10_findsMatching_233 (by decide) ?_
            exact tv_sl [0, 1, 2] rfl ih
        intro hc2
        cases hd : dwR S2 t with
        | false =>
          refine tv_if_eq (tgt := 208) X dX10_findsMatching_195 (by decide) (fun h5 => ?_) (fun h5 => ?_)
          rotate_left
          · exact absurd rfl h5
          refine tv_iconst (v := -1) X dX10_findsMatching_208 (by decide) ?_
          exact hc2 _ (by rw [hmB, hd]; rfl)
        | true =>
          refine tv_if_eq (tgt := 208) X dX10_findsMatching_195 (by decide) (fun h5 => ?_) (fun h5 => ?_)
          · exact absurd h5 (by decide)
          refine tv_iload_n X dX10_findsMatching_198 rfl ?_
          refine tv_bipush (v := 6) X dX10_findsMatching_199 (by decide) ?_
          refine tv_icmp_ge (tgt := 208) X dX10_findsMatching_201 (by decide) (fun h6 => ?_) (fun h6 => ?_)
          · have h7 : ¬ ctR S2 K t tk < 6 := fun h => nI_ge (b := 6) h (by decide) h6
            refine tv_iconst (v := -1) X dX10_findsMatching_208 (by decide) ?_
            exact hc2 _ (by rw [hmB, hd, decide_eq_false h7]; rfl)
          · have h7 : ctR S2 K t tk < 6 := Nat.lt_of_not_le fun h => h6 (nI_le (a := 6) h (by omega))
            refine tv_iload_n X dX10_findsMatching_204 rfl ?_
            refine tv_goto (tgt := 209) X dX10_findsMatching_205 (by decide) ?_
            exact hc2 _ (by rw [hmB, hd, decide_eq_true h7]; rfl)
      intro hcut
      refine mm_L (L' := [(0, .ref (n0 + 130)), (1, .int (nI tk)), (2, .int (nI t)), (3, .int (nI 0))]) rfl ?_
      cases hd : dwR S2 t with
      | false =>
        rw [hd] at hdw
        refine tv_aload_n X dX10_findsMatching_150 rfl ?_
        refine tv_iload_n X dX10_findsMatching_151 rfl ?_
        refine mm_callVi (q := (RX10, TX10, 20)) X dX10_findsMatching_152 (cX10_isDownNow_ok ht) (cwV 1 X.2.2.2.2.1 gX10_findsMatching_X10_isDownNow rfl rfl rfl (by decide +kernel) ⟨Nat.le_of_ble_eq_true rfl, Nat.le_of_ble_eq_true rfl⟩) rfl rfl gX10 rfl (Nat.le_of_ble_eq_true rfl) ⟨Nat.zero_le _, Nat.zero_le _⟩ (fun r S1 hq => ?_)
        obtain ⟨hq1, hq2⟩ := hq
        rw [hq1, hq2, hdw]
        clear hq1 hq2
        refine tv_if_eq (tgt := 185) X dX10_findsMatching_155 (by decide) (fun h5 => ?_) (fun h5 => ?_)
        rotate_left
        · exact absurd rfl h5
        have := hcut () trivial
        unfold ctR at this
        rw [hd] at this
        exact this
      | true =>
        rw [hd] at hdw
        have hct : ctR S2 K t tk = fiM (fun c => cwR S2 K t c tk) (K (64 * t + tk)) 0 6 := by unfold ctR; rw [hd]; rfl
        refine mm_loop (ι := Nat) (fun c => c ≤ 6 ∧ (∀ c', c' < c → ¬ cwR S2 K t c' tk = K (64 * t + tk)) ∧ fiM (fun c => cwR S2 K t c tk) (K (64 * t + tk)) c (6 - c) = ctR S2 K t tk) (fun c => 6 - c) (fun c => [(0, .ref (n0 + 130)), (1, .int (nI tk)), (2, .int (nI t)), (3, .int (nI c))]) (fun _ => T) 0 ⟨by decide, fun c' h => absurd h (Nat.not_lt_zero c'), hct.symm⟩ ?_
        intro c hc ih2
        obtain ⟨hc6, hno, hfi⟩ := hc
        refine tv_aload_n X dX10_findsMatching_150 rfl ?_
        refine tv_iload_n X dX10_findsMatching_151 rfl ?_
        refine mm_callVi (q := (RX10, TX10, 20)) X dX10_findsMatching_152 (cX10_isDownNow_ok ht) (cwV 1 X.2.2.2.2.1 gX10_findsMatching_X10_isDownNow rfl rfl rfl (by decide +kernel) ⟨Nat.le_of_ble_eq_true rfl, Nat.le_of_ble_eq_true rfl⟩) rfl rfl gX10 rfl (Nat.le_of_ble_eq_true rfl) ⟨Nat.zero_le _, Nat.zero_le _⟩ (fun r S1 hq => ?_)
        obtain ⟨hq1, hq2⟩ := hq
        rw [hq1, hq2, hdw]
        clear hq1 hq2
        refine tv_if_eq (tgt := 185) X dX10_findsMatching_155 (by decide) (fun h5 => ?_) (fun h5 => ?_)
        · exact absurd h5 (by decide)
        refine tv_aload_n X dX10_findsMatching_158 rfl ?_
        refine tv_iload_n X dX10_findsMatching_159 rfl ?_
        refine tv_iload_n X dX10_findsMatching_160 rfl ?_
        refine tv_iload_n X dX10_findsMatching_161 rfl ?_
        refine mm_callVi (q := (RX10, TX10, 20)) X dX10_findsMatching_162 (cX10_costWith_ok ht hc6 htk) (cwV 3 X.2.2.2.2.1 gX10_findsMatching_X10_costWith rfl rfl rfl (by decide +kernel) ⟨Nat.le_of_ble_eq_true rfl, Nat.le_of_ble_eq_true rfl⟩) rfl rfl gX10 rfl (Nat.le_of_ble_eq_true rfl) ⟨Nat.zero_le _, Nat.zero_le _⟩ (fun r S1 hq => ?_)
        obtain ⟨hq1, hq2⟩ := hq
        rw [hcw] at hq2
        rw [hq1, hq2]
        clear hq1 hq2
        refine tv_aload_n X dX10_findsMatching_165 rfl ?_
        refine mm_getf X dX10_findsMatching_166 gX10 iX10_findsMatching_X10 rfl 18 (by decide) kX10_findsMatching_37 rfl ?_
        refine tv_bipush (v := 64) X dX10_findsMatching_169 (by decide) ?_
        refine tv_iload_n X dX10_findsMatching_171 rfl ?_
        refine tv_imul X dX10_findsMatching_172 ?_
        refine tv_iload_n X dX10_findsMatching_173 rfl ?_
        refine tv_iadd X dX10_findsMatching_174 ?_
        rw [show (64 : Int32) * nI t = nI (64 * t) from pk_mul 64 t, show nI (64 * t) + nI tk = nI (64 * t + tk) from nI_add _ _]
        refine mm_iald X dX10_findsMatching_175 g140 (64 * t + tk) rfl (by omega) (by decide) ?_
        rw [h140]
        by_cases he : cwR S2 K t c tk = K (64 * t + tk)
        · refine tv_icmp_eq (tgt := 185) X dX10_findsMatching_176 (by decide) (fun h6 => ?_) (fun h6 => ?_)
          rotate_left
          · exact absurd he h6
          have e : c = ctR S2 K t tk := by
            rw [← hfi]
            cases 6 - c with
            | zero => rfl
            | succ m => exact (if_pos he).symm
          rw [e]
          exact hcut () trivial
        · refine tv_icmp_eq (tgt := 185) X dX10_findsMatching_176 (by decide) (fun h6 => ?_) (fun h6 => ?_)
          · exact absurd h6 he
          have hlt : c < 6 := by
            refine Nat.lt_of_not_le fun hge => ?_
            obtain ⟨c', hc', he'⟩ := hex hd
            by_cases h1 : c' < c
            · exact hno c' h1 he'
            · exact he (by rw [show c = c' by omega]; exact he')
          refine tv_iinc X dX10_findsMatching_179 rfl (nI_1 c) rfl ?_
          refine tv_goto (tgt := 150) X dX10_findsMatching_182 (by decide) ?_
          refine ih2 (c + 1) ⟨hlt, fun c' h => ?_, ?_⟩ (by omega)
          · by_cases e : c' = c
            · rw [e]; exact he
            · exact hno c' (by omega)
          · rw [← hfi, show 6 - c = 6 - (c + 1) + 1 by omega]
            exact (if_neg he).symm
    · refine tv_iload_n X dX10_findsMatching_142 rfl ?_
      refine tv_bipush (v := 6) X dX10_findsMatching_143 (by decide) ?_
      refine tv_icmp_ge (tgt := 236) X dX10_findsMatching_145 (by decide) (fun h3 => ?_) (fun h3 => ?_)
      · exact tv_vret X hrt dX10_findsMatching_236 ⟨_, rfl, hpost _ (hend _ rfl)⟩
      · exact absurd (nI_le (Nat.le_refl 6) (by decide)) h3
end C32

