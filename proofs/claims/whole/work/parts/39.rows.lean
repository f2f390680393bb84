theorem n32_of {r : UInt32} (h : FP.Core.fIsNaN r = false) : vf_n32 r := by
  unfold vf_n32
  rw [UInt32.le_iff_toNat_le, UInt32.toNat_and]
  have h1 : ¬ FP.Core.fIsNaN r = true := by rw [h]; decide
  rw [FP.Core.isNaN_bits32] at h1
  have h2 : r.toNat &&& (0x7fffffff : UInt32).toNat = r.toNat % 2 ^ 31 := Nat.and_two_pow_sub_one_eq_mod r.toNat 31
  rw [h2]
  exact Nat.le_of_not_lt h1
theorem fdiv_num {x y : Int32} (h : ¬ y = 0) : FP.Core.fIsNaN (FP.fdiv (FP.i2f x) (FP.i2f y)) = false := by
  refine FP.Core.fdiv_out (FP.Core.i2f_fin x).notNaN (FP.Core.i2f_fin y) ?_
  rw [FP.Core.zero_bits232]
  exact FP.Core.i2f_ne_zero h
section MLF
variable {p : Program} {l : Launch} {e : Env} {R : Room} {s : State} {m : MethodId} {args : Array Value} {below : List Frame} {meth : Method} {c : Code} {Q : State → Prop} {D : va_G} {cl : List vw_C} {n0 cells slots nL pc : Nat} {L : List (Nat × Value)} {st : List Value} {n : Nat} {h : tv_H} {cc : ByteArray} {own : String} {Ts : List Cond} {ft : Nat × Nat × Nat}
theorem tv_i2f (X : tv_X p s m args meth c cc nL own Ts D cl n0 ft) {x : Int32} (d : decode cc pc = .ok (.i2f, 1)) (k : tv_V p l e R s m args below meth c Q D cl n0 cells slots nL (pc + 1) L (.float (FP.i2f x) :: st) n h) : tv_V p l e R s m args below meth c Q D cl n0 cells slots nL pc L (.int x :: st) n h := fun H locs ls hr hS hh => lv_i2f X.1 X.2.1 d (k H locs ls hr hS hh)
theorem tv_fconst0 (X : tv_X p s m args meth c cc nL own Ts D cl n0 ft) (d : decode cc pc = .ok (.fconst 0, 1)) (k : tv_V p l e R s m args below meth c Q D cl n0 cells slots nL (pc + 1) L (.float FP.fconst0 :: st) n h) : tv_V p l e R s m args below meth c Q D cl n0 cells slots nL pc L st n h := fun H locs ls hr hS hh => lv_fconst0 X.1 X.2.1 d (k H locs ls hr hS hh)
theorem tv_fdiv (X : tv_X p s m args meth c cc nL own Ts D cl n0 ft) {x y : UInt32} (d : decode cc pc = .ok (.fdiv, 1)) (hne : vf_n32 (FP.fdiv x y)) (k : tv_V p l e R s m args below meth c Q D cl n0 cells slots nL (pc + 1) L (.float (FP.fdiv x y) :: st) n h) : tv_V p l e R s m args below meth c Q D cl n0 cells slots nL pc L (.float y :: .float x :: st) n h := fun H locs ls hr hS hh => lv_fdiv X.1 X.2.1 d hne (k H locs ls hr hS hh)
theorem tv_fret (X : tv_X p s m args meth c cc nL own Ts D cl n0 ft) (hrt : meth.sig.returnType = some .float) {v : UInt32} {post : UInt32 → Nat × tv_H → Prop} (d : decode cc pc = .ok (.freturn, 1)) (hp : post v (n, h)) :
    tv_V p l e R s m args below meth c (MQ below (va_Qf post (tv_B D cl n0) (tv_A n0)) args s cells slots (tv_A n0)) D cl n0 cells slots nL pc L [.float v] n h := fun H locs ls hr hS hh =>
  W.fret X.1 X.2.1 hrt (fun t ht hW => ⟨⟨v, (n, h), rfl, hp, tv_end X hr hS ht hW⟩, hS.F ht⟩) hS.2.2 d X.2.2.2.2.2.2
def tv_Mf (l : Launch) (y : MethodName) (ws : List Cond) (rm : Room) (mc ms : Nat) (D : va_G) (cl : List vw_C) (n0 : Nat) (ft : Nat × Nat × Nat) (As : List Value) (n : Nat) (h : tv_H) (post : UInt32 → Nat × tv_H → Prop) : Prop :=
  Met l y ws rm (tv_Pc D cl n0 ft As n h) (va_Qf post (tv_B D cl n0) (tv_A n0)) mc ms (tv_A n0)
theorem tv_callVf (X : tv_X p s m args meth c cc nL own Ts D cl n0 ft) {y : MethodName} {ws : List Cond} {rm : Room} {mc ms index b kn : Nat} {As rest st0 : List Value} {post : UInt32 → Nat × tv_H → Prop} {bytes : ByteArray} {maxL ci : Nat} {ret : Option FieldType} {fs : List Value} {q : vw_C} (d : decode cc pc = .ok (.invokevirtual index, 3)) (hM : tv_Mf l y ws rm mc ms D cl n0 ft (.ref b :: As) n h post) (cw : CallW R s args own q.1 index y bytes maxL ret ws rm mc ms kn) (hn : As.length = kn) (hst : st0 = As.reverse ++ .ref b :: rest) (he : h b = some (.inr (ci, fs))) (hc : cl[ci]? = some q) (hw : (rest.map fun v => v.category).sum ≤ 8) (hR : cells + mc ≤ R.cells ∧ slots + ms ≤ R.slots)
    (kk : ∀ (r : UInt32) (n1 : Nat) (h1 : tv_H), post r (n1, h1) → tv_V p l e R s m args below meth c Q D cl n0 (cells + mc) (slots + ms) nL (pc + 3) L (.float r :: rest) n1 h1) : tv_V p l e R s m args below meth c Q D cl n0 cells slots nL pc L st0 n h := fun H locs ls hr hS hh => by
  subst hst
  refine va_callf (va_runV (As := As) (rest := rest) ⟨X.1, X.2.1, X.2.2.1, X.2.2.2.1, X.2.2.2.2.1⟩ hM cw ⟨tv_blind, tv_recv X hr he hc, tv_pre X hr hS⟩ rfl hn hh.1 rfl (lv_room hw) d hR) hS (fun q _ h => h) (fun q h => h) (fun r u t H1 locs1 ht hvm hp hB hz1 hk1 hS1 => ?_)
  subst ht
  exact kk r u.1 u.2 hp _ _ ls (tv_rep.moved hvm.symm hB) hS1 hh
end MLF
def mMf (l : Launch) (y : MethodName) (ws : List Cond) (rm : Room) (D : va_G) (n0 : Nat) (ft : Nat × Nat × Nat) (As : List Value) (n : Nat) (S : mS) (post : UInt32 → mS → Prop) : Prop := tv_Mf l y ws rm 0 0 D vwCl n0 ft As n (mH n0 S) (fun r u => ∃ S', u = (n, mH n0 S') ∧ post r S')
/-- sums over the touched cells -/
def mnS (S : mS) : Nat → Int32
  | 0 => 0
  | i + 1 => mnS S i + (if S.1 131 96 ≤ sgR S i then sgR S i else 0)
def mnN (S : mS) : Nat → Int32
  | 0 => 0
  | i + 1 => mnN S i + (if S.1 131 96 ≤ sgR S i then 1 else 0)
def mnV (S : mS) : UInt32 := if mnN S 48 = 0 then FP.fconst0 else FP.fdiv (FP.i2f (mnS S 48)) (FP.i2f (mnN S 48))
/-- regions of a kind -/
def rgN (S : mS) (v : Int32) : Nat → Int32
  | 0 => 0
  | i + 1 => rgN S v i + bz (decide (0 < S.1 134 i) && decide (kndM S i = v))
/-- downIfScanned -/
def moN (S : mS) (left : Int32) : Nat → Int32
  | 0 => 0
  | i + 1 => moN S left i + ((left >>> (nI i &&& 31)) &&& 1)
def dsF (S : mS) (q : Int32 × Int32) (t : Nat) : Int32 × Int32 := (q.1 - bz (!(dwR S t) && decide (0 < q.1)), q.2 ||| (if (!(dwR S t) && decide (0 < q.1)) || sdM S t then ((1 : Int32) <<< (nI t &&& 31)) else 0))
def dsT (S : mS) (m0 : Int32) : Nat → Int32 × Int32
  | 0 => (m0, 0)
  | t + 1 => dsF S (dsT S m0 t) t
section C39
variable {l : Launch} {D : va_G} {n0 : Nat} {ft : Nat × Nat × Nat} {n : Nat} {S : mS} {b : Nat} {len a k : Nat}
theorem iX10_raw_X10 : ∀ w ∈ wsX100, w ∈ wsX10_raw := by decide +kernel
theorem kX10_raw_7 : Cond.fieldLink RX10 7 (TX10 1).1 (TX10 1).2.1 (TX10 1).2.2.1 ∈ wsX10_raw := by decide +kernel
theorem cX10_raw_ok (x y : Int32) : mMi l yX10_raw wsX10_raw rmX10_raw D n0 ft [.ref (n0 + 130), .int x, .int y] n S (fun r S' => (¬ onP x y ∧ S' = mupd S 130 0 1) ∨ ∃ i j, i < 8 ∧ j < 6 ∧ x = nI i ∧ y = nI j ∧ S' = mupd S 130 0 0 ∧ r = S.1 131 (6 * i + j)) := by
  refine tv_enter (cc := cX10_raw) (maxL := 3) (ret := (some .int)) (by decide) rfl (Nat.le_of_ble_eq_true rfl) ?_
  intro p e s m args below meth c X hrt hnm hargs
  refine tv_aload_n X dX10_raw_0 rfl ?_
  refine tv_iload_n X dX10_raw_1 rfl ?_
  refine tv_iload_n X dX10_raw_2 rfl ?_
  refine mm_callSi X dX10_raw_3 (cX10_isCell_ok x y) (va_cwS 2 X.2.2.2.2.1 gX10_raw_X10_isCell rfl rfl rfl (by decide +kernel) ⟨Nat.le_of_ble_eq_true rfl, Nat.le_of_ble_eq_true rfl⟩) rfl rfl (Nat.le_of_ble_eq_true rfl) ⟨Nat.zero_le _, Nat.zero_le _⟩ (fun r S1 hq => ?_)
  obtain ⟨hq1, ⟨hq2, hon⟩ | ⟨hq2, hon⟩⟩ := hq
  rotate_left
  · rw [hq1, hq2]
    clear hq1 hq2
    refine tv_if_eq (tgt := 13) X dX10_raw_6 (by decide) (fun h1 => ?_) (fun h1 => ?_)
    rotate_left
    · exact absurd rfl h1
    refine tv_iconst (v := 1) X dX10_raw_13 (by decide) ?_
    refine mm_callVi (q := (RX10, TX10, 20)) X dX10_raw_14 (cX10_holds_ok 1) (cwV 1 X.2.2.2.2.1 gX10_raw_X10_holds rfl rfl rfl (by decide +kernel) ⟨Nat.le_of_ble_eq_true rfl, Nat.le_of_ble_eq_true rfl⟩) rfl rfl gX10 rfl (Nat.le_of_ble_eq_true rfl) ⟨Nat.zero_le _, Nat.zero_le _⟩ (fun r S1 hq => ?_)
    obtain ⟨hq1, hq2⟩ := hq
    rw [hq1, hq2]
    refine tv_if_eq (tgt := 36) X dX10_raw_17 (by decide) (fun h2 => ?_) (fun h2 => ?_)
    rotate_left
    · exact absurd (show bz (decide ((1 : Int32) = 0)) = 0 by decide) h2
    refine tv_iconst (v := 0) X dX10_raw_36 (by decide) ?_
    exact tv_iret X hrt dX10_raw_37 ⟨_, rfl, Or.inl ⟨hon, rfl⟩⟩
  rw [hq1, hq2]
  clear hq1 hq2
  refine tv_if_eq (tgt := 13) X dX10_raw_6 (by decide) (fun h1 => ?_) (fun h1 => ?_)
  · exact absurd h1 (by decide)
  refine tv_iconst (v := 0) X dX10_raw_9 (by decide) ?_
  refine tv_goto (tgt := 14) X dX10_raw_10 (by decide) ?_
  refine mm_callVi (q := (RX10, TX10, 20)) X dX10_raw_14 (cX10_holds_ok 0) (cwV 1 X.2.2.2.2.1 gX10_raw_X10_holds rfl rfl rfl (by decide +kernel) ⟨Nat.le_of_ble_eq_true rfl, Nat.le_of_ble_eq_true rfl⟩) rfl rfl gX10 rfl (Nat.le_of_ble_eq_true rfl) ⟨Nat.zero_le _, Nat.zero_le _⟩ (fun r S1 hq => ?_)
  obtain ⟨hq1, hq2⟩ := hq
  rw [hq1, hq2]
  clear hq1 hq2
  refine tv_if_eq (tgt := 36) X dX10_raw_17 (by decide) (fun h2 => ?_) (fun h2 => ?_)
  · exact absurd h2 (by decide)
  obtain ⟨⟨i, hi, rfl⟩, j, hj, rfl⟩ := hon
  refine tv_aload_n X dX10_raw_20 rfl ?_
  refine mm_getf X dX10_raw_21 gX10 iX10_raw_X10 rfl 1 (by decide) kX10_raw_7 rfl ?_
  refine tv_iconst (v := 0) X dX10_raw_24 (by decide) ?_
  refine tv_bipush (v := 6) X dX10_raw_25 (by decide) ?_
  refine tv_iload_n X dX10_raw_27 rfl ?_
  refine tv_imul X dX10_raw_28 ?_
  refine tv_iadd X dX10_raw_29 ?_
  refine tv_iload_n X dX10_raw_30 rfl ?_
  refine tv_iadd X dX10_raw_31 ?_
  refine mm_iald X dX10_raw_32 g131 (6 * i + j) (by rw [Int32.zero_add, cellI]) (by omega) (by decide) ?_
  refine tv_goto (tgt := 37) X dX10_raw_33 (by decide) ?_
  rw [mupd_n (by decide)]
  exact tv_iret X hrt dX10_raw_37 ⟨_, rfl, Or.inr ⟨i, j, hi, hj, rfl, rfl, rfl, rfl⟩⟩
theorem cX10_signal_ok (x y : Int32) : mMi l yX10_signal wsX10_signal rmX10_signal D n0 ft [.ref (n0 + 130), .int x, .int y] n S (fun r S' => (¬ onP x y ∧ S' = mupd S 130 0 1) ∨ ∃ i j, i < 8 ∧ j < 6 ∧ x = nI i ∧ y = nI j ∧ S' = mupd S 130 0 0 ∧ r = sgR S (6 * i + j)) := by
  refine tv_enter (cc := cX10_signal) (maxL := 3) (ret := (some .int)) (by decide) rfl (Nat.le_of_ble_eq_true rfl) ?_
  intro p e s m args below meth c X hrt hnm hargs
  refine tv_aload_n X dX10_signal_0 rfl ?_
  refine tv_iload_n X dX10_signal_1 rfl ?_
  refine tv_iload_n X dX10_signal_2 rfl ?_
  refine mm_callSi X dX10_signal_3 (cX10_isCell_ok x y) (va_cwS 2 X.2.2.2.2.1 gX10_signal_X10_isCell rfl rfl rfl (by decide +kernel) ⟨Nat.le_of_ble_eq_true rfl, Nat.le_of_ble_eq_true rfl⟩) rfl rfl (Nat.le_of_ble_eq_true rfl) ⟨Nat.zero_le _, Nat.zero_le _⟩ (fun r S1 hq => ?_)
  obtain ⟨hq1, ⟨hq2, hon⟩ | ⟨hq2, hon⟩⟩ := hq
  rotate_left
  · rw [hq1, hq2]
    clear hq1 hq2
    refine tv_if_eq (tgt := 13) X dX10_signal_6 (by decide) (fun h1 => ?_) (fun h1 => ?_)
    rotate_left
    · exact absurd rfl h1
    refine tv_iconst (v := 1) X dX10_signal_13 (by decide) ?_
    refine mm_callVi (q := (RX10, TX10, 20)) X dX10_signal_14 (cX10_holds_ok 1) (cwV 1 X.2.2.2.2.1 gX10_signal_X10_holds rfl rfl rfl (by decide +kernel) ⟨Nat.le_of_ble_eq_true rfl, Nat.le_of_ble_eq_true rfl⟩) rfl rfl gX10 rfl (Nat.le_of_ble_eq_true rfl) ⟨Nat.zero_le _, Nat.zero_le _⟩ (fun r S1 hq => ?_)
    obtain ⟨hq1, hq2⟩ := hq
    rw [hq1, hq2]
    refine tv_if_eq (tgt := 33) X dX10_signal_17 (by decide) (fun h2 => ?_) (fun h2 => ?_)
    rotate_left
    · exact absurd (show bz (decide ((1 : Int32) = 0)) = 0 by decide) h2
    refine tv_iconst (v := 0) X dX10_signal_33 (by decide) ?_
    exact tv_iret X hrt dX10_signal_34 ⟨_, rfl, Or.inl ⟨hon, rfl⟩⟩
  rw [hq1, hq2]
  clear hq1 hq2
  refine tv_if_eq (tgt := 13) X dX10_signal_6 (by decide) (fun h1 => ?_) (fun h1 => ?_)
  · exact absurd h1 (by decide)
  refine tv_iconst (v := 0) X dX10_signal_9 (by decide) ?_
  refine tv_goto (tgt := 14) X dX10_signal_10 (by decide) ?_
  refine mm_callVi (q := (RX10, TX10, 20)) X dX10_signal_14 (cX10_holds_ok 0) (cwV 1 X.2.2.2.2.1 gX10_signal_X10_holds rfl rfl rfl (by decide +kernel) ⟨Nat.le_of_ble_eq_true rfl, Nat.le_of_ble_eq_true rfl⟩) rfl rfl gX10 rfl (Nat.le_of_ble_eq_true rfl) ⟨Nat.zero_le _, Nat.zero_le _⟩ (fun r S1 hq => ?_)
  obtain ⟨hq1, hq2⟩ := hq
  rw [hq1, hq2]
  clear hq1 hq2
  refine tv_if_eq (tgt := 33) X dX10_signal_17 (by decide) (fun h2 => ?_) (fun h2 => ?_)
  · exact absurd h2 (by decide)
  obtain ⟨⟨i, hi, rfl⟩, j, hj, rfl⟩ := hon
  refine tv_aload_n X dX10_signal_20 rfl ?_
  refine tv_bipush (v := 6) X dX10_signal_21 (by decide) ?_
  refine tv_iload_n X dX10_signal_23 rfl ?_
  refine tv_imul X dX10_signal_24 ?_
  refine tv_iload_n X dX10_signal_25 rfl ?_
  refine tv_iadd X dX10_signal_26 ?_
  rw [cellI]
  refine mm_callVi (q := (RX10, TX10, 20)) X dX10_signal_27 (cX10_signalOf_ok (j := 6 * i + j) (by omega)) (cwV 1 X.2.2.2.2.1 gX10_signal_X10_signalOf rfl rfl rfl (by decide +kernel) ⟨Nat.le_of_ble_eq_true rfl, Nat.le_of_ble_eq_true rfl⟩) rfl rfl gX10 rfl (Nat.le_of_ble_eq_true rfl) ⟨Nat.zero_le _, Nat.zero_le _⟩ (fun r S1 hq => ?_)
  obtain ⟨hq1, hq2⟩ := hq
  rw [sgR_ag (S := S) (mupd_n (by decide))] at hq2
  rw [hq1, hq2]
  refine tv_goto (tgt := 34) X dX10_signal_30 (by decide) ?_
  exact tv_iret X hrt dX10_signal_34 ⟨_, rfl, Or.inr ⟨i, j, hi, hj, rfl, rfl, rfl, rfl⟩⟩
theorem iX10_regionSize_X10 : ∀ w ∈ wsX100, w ∈ wsX10_regionSize := by decide +kernel
theorem kX10_regionSize_16 : Cond.fieldLink RX10 16 (TX10 10).1 (TX10 10).2.1 (TX10 10).2.2.1 ∈ wsX10_regionSize := by decide +kernel
theorem kX10_regionSize_19 : Cond.fieldLink RX10 19 (TX10 11).1 (TX10 11).2.1 (TX10 11).2.2.1 ∈ wsX10_regionSize := by decide +kernel
theorem cX10_regionSize_ok (x y : Int32) : mMi l yX10_regionSize wsX10_regionSize rmX10_regionSize D n0 ft [.ref (n0 + 130), .int x, .int y] n S (fun r S' => (¬ onP x y ∧ S' = mupd S 130 0 1) ∨ ∃ i j, i < 8 ∧ j < 6 ∧ x = nI i ∧ y = nI j ∧ S' = frD (mupd S 130 0 0) ∧ r = if (frD (mupd S 130 0 0)).1 133 (6 * i + j) = -1 then 0 else (frD (mupd S 130 0 0)).1 134 ((frD (mupd S 130 0 0)).1 133 (6 * i + j)).toNatClampNeg) := by
  refine tv_enter (cc := cX10_regionSize) (maxL := 4) (ret := (some .int)) (by decide) rfl (Nat.le_of_ble_eq_true rfl) ?_
  intro p e s m args below meth c X hrt hnm hargs
  refine tv_aload_n X dX10_regionSize_0 rfl ?_
  refine tv_iload_n X dX10_regionSize_1 rfl ?_
  refine tv_iload_n X dX10_regionSize_2 rfl ?_
  refine mm_callSi X dX10_regionSize_3 (cX10_isCell_ok x y) (va_cwS 2 X.2.2.2.2.1 gX10_regionSize_X10_isCell rfl rfl rfl (by decide +kernel) ⟨Nat.le_of_ble_eq_true rfl, Nat.le_of_ble_eq_true rfl⟩) rfl rfl (Nat.le_of_ble_eq_true rfl) ⟨Nat.zero_le _, Nat.zero_le _⟩ (fun r S1 hq => ?_)
  obtain ⟨hq1, ⟨hq2, hon⟩ | ⟨hq2, hon⟩⟩ := hq
  rotate_left
  · rw [hq1, hq2]
    clear hq1 hq2
    refine tv_if_eq (tgt := 13) X dX10_regionSize_6 (by decide) (fun h1 => ?_) (fun h1 => ?_)
    rotate_left
    · exact absurd rfl h1
    refine tv_iconst (v := 1) X dX10_regionSize_13 (by decide) ?_
    refine mm_callVi (q := (RX10, TX10, 20)) X dX10_regionSize_14 (cX10_holds_ok 1) (cwV 1 X.2.2.2.2.1 gX10_regionSize_X10_holds rfl rfl rfl (by decide +kernel) ⟨Nat.le_of_ble_eq_true rfl, Nat.le_of_ble_eq_true rfl⟩) rfl rfl gX10 rfl (Nat.le_of_ble_eq_true rfl) ⟨Nat.zero_le _, Nat.zero_le _⟩ (fun r S1 hq => ?_)
    obtain ⟨hq1, hq2⟩ := hq
    rw [hq1, hq2]
    refine tv_if_ne (tgt := 22) X dX10_regionSize_17 (by decide) (fun h2 => ?_) (fun h2 => ?_)
    · exact absurd (show bz (decide ((1 : Int32) = 0)) = 0 by decide) h2
    refine tv_iconst (v := 0) X dX10_regionSize_20 (by decide) ?_
    exact tv_iret X hrt dX10_regionSize_21 ⟨_, rfl, Or.inl ⟨hon, rfl⟩⟩
  rw [hq1, hq2]
  clear hq1 hq2
  refine tv_if_eq (tgt := 13) X dX10_regionSize_6 (by decide) (fun h1 => ?_) (fun h1 => ?_)
  · exact absurd h1 (by decide)
  refine tv_iconst (v := 0) X dX10_regionSize_9 (by decide) ?_
  refine tv_goto (tgt := 14) X dX10_regionSize_10 (by decide) ?_
  refine mm_callVi (q := (RX10, TX10, 20)) X dX10_regionSize_14 (cX10_holds_ok 0) (cwV 1 X.2.2.2.2.1 gX10_regionSize_X10_holds rfl rfl rfl (by decide +kernel) ⟨Nat.le_of_ble_eq_true rfl, Nat.le_of_ble_eq_true rfl⟩) rfl rfl gX10 rfl (Nat.le_of_ble_eq_true rfl) ⟨Nat.zero_le _, Nat.zero_le _⟩ (fun r S1 hq => ?_)
  obtain ⟨hq1, hq2⟩ := hq
  rw [hq1, hq2]
  clear hq1 hq2
  refine tv_if_ne (tgt := 22) X dX10_regionSize_17 (by decide) (fun h2 => ?_) (fun h2 => ?_)
  rotate_left
  · exact absurd h2 (by decide)
  obtain ⟨⟨i, hi, rfl⟩, j, hj, rfl⟩ := hon
  refine tv_aload_n X dX10_regionSize_22 rfl ?_
  refine mm_callVv (q := (RX10, TX10, 20)) X dX10_regionSize_23 (cX10_findsRegions_ok) (cwV 0 X.2.2.2.2.1 gX10_regionSize_X10_findsRegions rfl rfl rfl (by decide +kernel) ⟨Nat.le_of_ble_eq_true rfl, Nat.le_of_ble_eq_true rfl⟩) rfl rfl gX10 rfl (Nat.le_of_ble_eq_true rfl) ⟨Nat.zero_le _, Nat.zero_le _⟩ (fun S1 hq => ?_)
  obtain ⟨k1, hk1, hq1⟩ := hq
  have hlb : lblR ((frS (mupd S 130 0 0) k1).1 133) := by rw [frS_133]; exact rpP_ok labM_ok _
  rw [frS_D hk1] at hq1 hlb
  rw [hq1]
  clear hq1
  generalize frD (mupd S 130 0 0) = T at hlb ⊢
  refine tv_aload_n X dX10_regionSize_26 rfl ?_
  refine mm_getf X dX10_regionSize_27 gX10 iX10_regionSize_X10 rfl 10 (by decide) kX10_regionSize_16 rfl ?_
  refine tv_bipush (v := 6) X dX10_regionSize_30 (by decide) ?_
  refine tv_iload_n X dX10_regionSize_32 rfl ?_
  refine tv_imul X dX10_regionSize_33 ?_
  refine tv_iload_n X dX10_regionSize_34 rfl ?_
  refine tv_iadd X dX10_regionSize_35 ?_
  refine mm_iald X dX10_regionSize_36 g133 (6 * i + j) (cellI i j) (by omega) (by decide) ?_
  refine tv_istore_n X dX10_regionSize_37 rfl ?_
  refine tv_iload_n X dX10_regionSize_38 rfl ?_
  refine tv_iconst (v := -1) X dX10_regionSize_39 (by decide) ?_
  rcases hlb (6 * i + j) (by omega) with hm | ⟨f, hf, he⟩
  · refine tv_icmp_ne (tgt := 47) X dX10_regionSize_40 (by decide) (fun h3 => ?_) (fun h3 => ?_)
    · exact absurd hm h3
    refine tv_iconst (v := 0) X dX10_regionSize_43 (by decide) ?_
    refine tv_goto (tgt := 53) X dX10_regionSize_44 (by decide) ?_
    exact tv_iret X hrt dX10_regionSize_53 ⟨_, rfl, Or.inr ⟨i, j, hi, hj, rfl, rfl, rfl, by rw [if_pos hm]⟩⟩
  · have hne : ¬ T.1 133 (6 * i + j) = -1 := by rw [he]; intro h; exact nI_pos (n := f) (by omega) (by rw [h]; decide)
    refine tv_icmp_ne (tgt := 47) X dX10_regionSize_40 (by decide) (fun h3 => ?_) (fun h3 => ?_)
    rotate_left
    · exact absurd h3 hne
    refine tv_aload_n X dX10_regionSize_47 rfl ?_
    refine mm_getf X dX10_regionSize_48 gX10 iX10_regionSize_X10 rfl 11 (by decide) kX10_regionSize_19 rfl ?_
    refine tv_iload_n X dX10_regionSize_51 rfl ?_
    refine mm_iald X dX10_regionSize_52 g134 f he hf (by decide) ?_
    exact tv_iret X hrt dX10_regionSize_53 ⟨_, rfl, Or.inr ⟨i, j, hi, hj, rfl, rfl, rfl, by rw [if_neg hne, he, nI_clamp (by omega)]⟩⟩
theorem iX10_regionKind_X10 : ∀ w ∈ wsX100, w ∈ wsX10_regionKind := by decide +kernel
theorem kX10_regionKind_16 : Cond.fieldLink RX10 16 (TX10 10).1 (TX10 10).2.1 (TX10 10).2.2.1 ∈ wsX10_regionKind := by decide +kernel
theorem cX10_regionKind_ok (x y : Int32) : mMi l yX10_regionKind wsX10_regionKind rmX10_regionKind D n0 ft [.ref (n0 + 130), .int x, .int y] n S (fun r S' => (¬ onP x y ∧ S' = mupd S 130 0 1) ∨ ∃ i j, i < 8 ∧ j < 6 ∧ x = nI i ∧ y = nI j ∧ S' = frD (mupd S 130 0 0) ∧ r = if (frD (mupd S 130 0 0)).1 133 (6 * i + j) = -1 then -1 else kndM (frD (mupd S 130 0 0)) ((frD (mupd S 130 0 0)).1 133 (6 * i + j)).toNatClampNeg) := by
  refine tv_enter (cc := cX10_regionKind) (maxL := 4) (ret := (some .int)) (by decide) rfl (Nat.le_of_ble_eq_true rfl) ?_
  intro p e s m args below meth c X hrt hnm hargs
  refine tv_aload_n X dX10_regionKind_0 rfl ?_
  refine tv_iload_n X dX10_regionKind_1 rfl ?_
  refine tv_iload_n X dX10_regionKind_2 rfl ?_
  refine mm_callSi X dX10_regionKind_3 (cX10_isCell_ok x y) (va_cwS 2 X.2.2.2.2.1 gX10_regionKind_X10_isCell rfl rfl rfl (by decide +kernel) ⟨Nat.le_of_ble_eq_true rfl, Nat.le_of_ble_eq_true rfl⟩) rfl rfl (Nat.le_of_ble_eq_true rfl) ⟨Nat.zero_le _, Nat.zero_le _⟩ (fun r S1 hq => ?_)
  obtain ⟨hq1, ⟨hq2, hon⟩ | ⟨hq2, hon⟩⟩ := hq
  rotate_left
  · rw [hq1, hq2]
    clear hq1 hq2
    refine tv_if_eq (tgt := 13) X dX10_regionKind_6 (by decide) (fun h1 => ?_) (fun h1 => ?_)
    rotate_left
    · exact absurd rfl h1
    refine tv_iconst (v := 1) X dX10_regionKind_13 (by decide) ?_
    refine mm_callVi (q := (RX10, TX10, 20)) X dX10_regionKind_14 (cX10_holds_ok 1) (cwV 1 X.2.2.2.2.1 gX10_regionKind_X10_holds rfl rfl rfl (by decide +kernel) ⟨Nat.le_of_ble_eq_true rfl, Nat.le_of_ble_eq_true rfl⟩) rfl rfl gX10 rfl (Nat.le_of_ble_eq_true rfl) ⟨Nat.zero_le _, Nat.zero_le _⟩ (fun r S1 hq => ?_)
    obtain ⟨hq1, hq2⟩ := hq
    rw [hq1, hq2]
    refine tv_if_ne (tgt := 22) X dX10_regionKind_17 (by decide) (fun h2 => ?_) (fun h2 => ?_)
    · exact absurd (show bz (decide ((1 : Int32) = 0)) = 0 by decide) h2
    refine tv_iconst (v := 0) X dX10_regionKind_20 (by decide) ?_
    exact tv_iret X hrt dX10_regionKind_21 ⟨_, rfl, Or.inl ⟨hon, rfl⟩⟩
  rw [hq1, hq2]
  clear hq1 hq2
  refine tv_if_eq (tgt := 13) X dX10_regionKind_6 (by decide) (fun h1 => ?_) (fun h1 => ?_)
  · exact absurd h1 (by decide)
  refine tv_iconst (v := 0) X dX10_regionKind_9 (by decide) ?_
  refine tv_goto (tgt := 14) X dX10_regionKind_10 (by decide) ?_
  refine mm_callVi (q := (RX10, TX10, 20)) X dX10_regionKind_14 (cX10_holds_ok 0) (cwV 1 X.2.2.2.2.1 gX10_regionKind_X10_holds rfl rfl rfl (by decide +kernel) ⟨Nat.le_of_ble_eq_true rfl, Nat.le_of_ble_eq_true rfl⟩) rfl rfl gX10 rfl (Nat.le_of_ble_eq_true rfl) ⟨Nat.zero_le _, Nat.zero_le _⟩ (fun r S1 hq => ?_)
  obtain ⟨hq1, hq2⟩ := hq
  rw [hq1, hq2]
  clear hq1 hq2
  refine tv_if_ne (tgt := 22) X dX10_regionKind_17 (by decide) (fun h2 => ?_) (fun h2 => ?_)
  rotate_left
  · exact absurd h2 (by decide)
  obtain ⟨⟨i, hi, rfl⟩, j, hj, rfl⟩ := hon
  refine tv_aload_n X dX10_regionKind_22 rfl ?_
  refine mm_callVv (q := (RX10, TX10, 20)) X dX10_regionKind_23 (cX10_findsRegions_ok) (cwV 0 X.2.2.2.2.1 gX10_regionKind_X10_findsRegions rfl rfl rfl (by decide +kernel) ⟨Nat.le_of_ble_eq_true rfl, Nat.le_of_ble_eq_true rfl⟩) rfl rfl gX10 rfl (Nat.le_of_ble_eq_true rfl) ⟨Nat.zero_le _, Nat.zero_le _⟩ (fun S1 hq => ?_)
  obtain ⟨k1, hk1, hq1⟩ := hq
  have hlb : lblR ((frS (mupd S 130 0 0) k1).1 133) := by rw [frS_133]; exact rpP_ok labM_ok _
  rw [frS_D hk1] at hq1 hlb
  rw [hq1]
  clear hq1
  generalize frD (mupd S 130 0 0) = T at hlb ⊢
  refine tv_aload_n X dX10_regionKind_26 rfl ?_
  refine mm_getf X dX10_regionKind_27 gX10 iX10_regionKind_X10 rfl 10 (by decide) kX10_regionKind_16 rfl ?_
  refine tv_bipush (v := 6) X dX10_regionKind_30 (by decide) ?_
  refine tv_iload_n X dX10_regionKind_32 rfl ?_
  refine tv_imul X dX10_regionKind_33 ?_
  refine tv_iload_n X dX10_regionKind_34 rfl ?_
  refine tv_iadd X dX10_regionKind_35 ?_
  refine mm_iald X dX10_regionKind_36 g133 (6 * i + j) (cellI i j) (by omega) (by decide) ?_
  refine tv_istore_n X dX10_regionKind_37 rfl ?_
  refine tv_iload_n X dX10_regionKind_38 rfl ?_
  refine tv_iconst (v := -1) X dX10_regionKind_39 (by decide) ?_
  rcases hlb (6 * i + j) (by omega) with hm | ⟨f, hf, he⟩
  · refine tv_icmp_ne (tgt := 47) X dX10_regionKind_40 (by decide) (fun h3 => ?_) (fun h3 => ?_)
    · exact absurd hm h3
    refine tv_iconst (v := -1) X dX10_regionKind_43 (by decide) ?_
    refine tv_goto (tgt := 52) X dX10_regionKind_44 (by decide) ?_
    exact tv_iret X hrt dX10_regionKind_52 ⟨_, rfl, Or.inr ⟨i, j, hi, hj, rfl, rfl, rfl, by rw [if_pos hm]⟩⟩
  · have hne : ¬ T.1 133 (6 * i + j) = -1 := by rw [he]; intro h; exact nI_pos (n := f) (by omega) (by rw [h]; decide)
    refine tv_icmp_ne (tgt := 47) X dX10_regionKind_40 (by decide) (fun h3 => ?_) (fun h3 => ?_)
    rotate_left
    · exact absurd h3 hne
    refine tv_aload_n X dX10_regionKind_47 rfl ?_
    refine tv_iload_n X dX10_regionKind_48 rfl ?_
    rw [he]
    refine mm_callVi (q := (RX10, TX10, 20)) X dX10_regionKind_49 (cX10_kindOf_ok hf) (cwV 1 X.2.2.2.2.1 gX10_regionKind_X10_kindOf rfl rfl rfl (by decide +kernel) ⟨Nat.le_of_ble_eq_true rfl, Nat.le_of_ble_eq_true rfl⟩) rfl rfl gX10 rfl (Nat.le_of_ble_eq_true rfl) ⟨Nat.zero_le _, Nat.zero_le _⟩ (fun r S1 hq => ?_)
    obtain ⟨hq1, hq2⟩ := hq
    rw [hq1, hq2]
    exact tv_iret X hrt dX10_regionKind_52 ⟨_, rfl, Or.inr ⟨i, j, hi, hj, rfl, rfl, rfl, by rw [if_neg hne, he, nI_clamp (by omega)]⟩⟩
theorem iX10_regions_X10 : ∀ w ∈ wsX100, w ∈ wsX10_regions := by decide +kernel
theorem kX10_regions_19 : Cond.fieldLink RX10 19 (TX10 11).1 (TX10 11).2.1 (TX10 11).2.2.1 ∈ wsX10_regions := by decide +kernel
theorem cX10_regions_ok (v : Int32) : mMi l yX10_regions wsX10_regions rmX10_regions D n0 ft [.ref (n0 + 130), .int v] n S (fun r S' => (inI v 0 2 = false ∧ S' = mupd S 130 0 1) ∨ (inI v 0 2 = true ∧ S' = frD (mupd S 130 0 0) ∧ r = rgN (frD (mupd S 130 0 0)) v 48)) := by
  refine tv_enter (cc := cX10_regions) (maxL := 4) (ret := (some .int)) (by decide) rfl (Nat.le_of_ble_eq_true rfl) ?_
  intro p e s m args below meth c X hrt hnm hargs
  refine tv_aload_n X dX10_regions_0 rfl ?_
  refine tv_iload_n X dX10_regions_1 rfl ?_
  refine tv_iconst (v := 0) X dX10_regions_2 (by decide) ?_
  refine tv_iconst (v := 2) X dX10_regions_3 (by decide) ?_
  refine mm_callSi X dX10_regions_4 (cX10_in_ok _ _ _) (va_cwS 3 X.2.2.2.2.1 gX10_regions_X10_in rfl rfl rfl (by decide +kernel) ⟨Nat.le_of_ble_eq_true rfl, Nat.le_of_ble_eq_true rfl⟩) rfl rfl (Nat.le_of_ble_eq_true rfl) ⟨Nat.zero_le _, Nat.zero_le _⟩ (fun r S1 hq => ?_)
  obtain ⟨hq1, hq2⟩ := hq
  rw [hq1, hq2]
  clear hq1 hq2
  cases hv : inI v 0 2 with
  | false =>
    refine tv_if_eq (tgt := 14) X dX10_regions_7 (by decide) (fun h1 => ?_) (fun h1 => ?_)
    rotate_left
    · exact absurd rfl h1
    refine tv_iconst (v := 1) X dX10_regions_14 (by decide) ?_
    refine mm_callVi (q := (RX10, TX10, 20)) X dX10_regions_15 (cX10_holds_ok 1) (cwV 1 X.2.2.2.2.1 gX10_regions_X10_holds rfl rfl rfl (by decide +kernel) ⟨Nat.le_of_ble_eq_true rfl, Nat.le_of_ble_eq_true rfl⟩) rfl rfl gX10 rfl (Nat.le_of_ble_eq_true rfl) ⟨Nat.zero_le _, Nat.zero_le _⟩ (fun r S1 hq => ?_)
    obtain ⟨hq1, hq2⟩ := hq
    rw [hq1, hq2]
    refine tv_if_ne (tgt := 23) X dX10_regions_18 (by decide) (fun h2 => ?_) (fun h2 => ?_)
    · exact absurd (show bz (decide ((1 : Int32) = 0)) = 0 by decide) h2
    refine tv_iconst (v := 0) X dX10_regions_21 (by decide) ?_
    exact tv_iret X hrt dX10_regions_22 ⟨_, rfl, Or.inl ⟨rfl, rfl⟩⟩
  | true =>
    refine tv_if_eq (tgt := 14) X dX10_regions_7 (by decide) (fun h1 => ?_) (fun h1 => ?_)
    · exact absurd h1 (by decide)
    refine tv_iconst (v := 0) X dX10_regions_10 (by decide) ?_
    refine tv_goto (tgt := 15) X dX10_regions_11 (by decide) ?_
    refine mm_callVi (q := (RX10, TX10, 20)) X dX10_regions_15 (cX10_holds_ok 0) (cwV 1 X.2.2.2.2.1 gX10_regions_X10_holds rfl rfl rfl (by decide +kernel) ⟨Nat.le_of_ble_eq_true rfl, Nat.le_of_ble_eq_true rfl⟩) rfl rfl gX10 rfl (Nat.le_of_ble_eq_true rfl) ⟨Nat.zero_le _, Nat.zero_le _⟩ (fun r S1 hq => ?_)
    obtain ⟨hq1, hq2⟩ := hq
    rw [hq1, hq2]
    clear hq1 hq2
    refine tv_if_ne (tgt := 23) X dX10_regions_18 (by decide) (fun h2 => ?_) (fun h2 => ?_)
    rotate_left
    · exact absurd h2 (by decide)
    refine tv_aload_n X dX10_regions_23 rfl ?_
    refine mm_callVv (q := (RX10, TX10, 20)) X dX10_regions_24 (cX10_findsRegions_ok) (cwV 0 X.2.2.2.2.1 gX10_regions_X10_findsRegions rfl rfl rfl (by decide +kernel) ⟨Nat.le_of_ble_eq_true rfl, Nat.le_of_ble_eq_true rfl⟩) rfl rfl gX10 rfl (Nat.le_of_ble_eq_true rfl) ⟨Nat.zero_le _, Nat.zero_le _⟩ (fun S1 hq => ?_)
    obtain ⟨k1, hk1, hq1⟩ := hq
    rw [frS_D hk1] at hq1
    rw [hq1]
    clear hq1
    generalize frD (mupd S 130 0 0) = T
    refine tv_iconst (v := 0) X dX10_regions_27 (by decide) ?_
    refine tv_istore_n X dX10_regions_28 rfl ?_
    refine tv_iconst (v := 0) X dX10_regions_29 (by decide) ?_
    refine tv_istore_n X dX10_regions_30 rfl ?_
    refine mm_for 48 (fun i => [(0, .ref (n0 + 130)), (1, .int v), (2, .int (rgN T v i)), (3, .int (nI i))]) (fun _ => T) ?_ ?_
    · intro i hi ih
      dsimp only at ih
      have hnx : rgN T v (i + 1) = rgN T v i + bz (decide (0 < T.1 134 i) && decide (kndM T i = v)) := rfl
      rw [hnx] at ih
      generalize rgN T v i = w at ih ⊢
      refine tv_iload_n X dX10_regions_31 rfl ?_
      refine tv_bipush (v := 48) X dX10_regions_32 (by decide) ?_
      refine tv_icmp_ge (tgt := 69) X dX10_regions_34 (by decide) (fun h3 => ?_) (fun h3 => ?_)
      · exact absurd h3 (nI_ge (a := i) (b := 48) hi (by decide))
      refine tv_iload_n X dX10_regions_37 rfl ?_
      refine tv_aload_n X dX10_regions_38 rfl ?_
      refine mm_getf X dX10_regions_39 gX10 iX10_regions_X10 rfl 11 (by decide) kX10_regions_19 rfl ?_
      refine tv_iload_n X dX10_regions_42 rfl ?_
      refine mm_iald X dX10_regions_43 g134 i rfl hi (by decide) ?_
      refine tv_if_le (tgt := 60) X dX10_regions_44 (by decide) (fun h4 => ?_) (fun h4 => ?_)
      · rw [decide_eq_false (Int32.not_lt.mpr h4)] at ih
        refine tv_iconst (v := 0) X dX10_regions_60 (by decide) ?_
        refine tv_iadd X dX10_regions_61 ?_
        refine tv_istore_n X dX10_regions_62 rfl ?_
        refine tv_iinc X dX10_regions_63 rfl (nI_1 i) rfl ?_
        refine tv_goto (tgt := 31) X dX10_regions_66 (by decide) ?_
        exact ih
      · rw [decide_eq_true (Int32.not_le.mp h4)] at ih
        refine tv_aload_n X dX10_regions_47 rfl ?_
        refine tv_iload_n X dX10_regions_48 rfl ?_
        refine mm_callVi (q := (RX10, TX10, 20)) X dX10_regions_49 (cX10_kindOf_ok hi) (cwV 1 X.2.2.2.2.1 gX10_regions_X10_kindOf rfl rfl rfl (by decide +kernel) ⟨Nat.le_of_ble_eq_true rfl, Nat.le_of_ble_eq_true rfl⟩) rfl rfl gX10 rfl (Nat.le_of_ble_eq_true rfl) ⟨Nat.zero_le _, Nat.zero_le _⟩ (fun r S1 hq => ?_)
        obtain ⟨hq1, hq2⟩ := hq
        rw [hq1, hq2]
        clear hq1 hq2
        refine tv_iload_n X dX10_regions_52 rfl ?_
        refine tv_icmp_ne (tgt := 60) X dX10_regions_53 (by decide) (fun h5 => ?_) (fun h5 => ?_)
        · rw [decide_eq_false h5] at ih
          refine tv_iconst (v := 0) X dX10_regions_60 (by decide) ?_
          refine tv_iadd X dX10_regions_61 ?_
          refine tv_istore_n X dX10_regions_62 rfl ?_
          refine tv_iinc X dX10_regions_63 rfl (nI_1 i) rfl ?_
          refine tv_goto (tgt := 31) X dX10_regions_66 (by decide) ?_
          exact ih
        · rw [decide_eq_true h5] at ih
          refine tv_iconst (v := 1) X dX10_regions_56 (by decide) ?_
          refine tv_goto (tgt := 61) X dX10_regions_57 (by decide) ?_
          refine tv_iadd X dX10_regions_61 ?_
          refine tv_istore_n X dX10_regions_62 rfl ?_
          refine tv_iinc X dX10_regions_63 rfl (nI_1 i) rfl ?_
          refine tv_goto (tgt := 31) X dX10_regions_66 (by decide) ?_
          exact ih
    · refine tv_iload_n X dX10_regions_31 rfl ?_
      refine tv_bipush (v := 48) X dX10_regions_32 (by decide) ?_
      refine tv_icmp_ge (tgt := 69) X dX10_regions_34 (by decide) (fun h3 => ?_) (fun h3 => ?_)
      · refine tv_iload_n X dX10_regions_69 rfl ?_
        exact tv_iret X hrt dX10_regions_70 ⟨_, rfl, Or.inr ⟨rfl, rfl, rfl⟩⟩
      · exact absurd (nI_le (Nat.le_refl 48) (by decide)) h3
theorem iX10_setting_X10 : ∀ w ∈ wsX100, w ∈ wsX10_setting := by decide +kernel
theorem kX10_setting_7 : Cond.fieldLink RX10 7 (TX10 1).1 (TX10 1).2.1 (TX10 1).2.2.1 ∈ wsX10_setting := by decide +kernel
theorem cX10_setting_ok (v : Int32) : mMi l yX10_setting wsX10_setting rmX10_setting D n0 ft [.ref (n0 + 130), .int v] n S (fun r S' => (inI v 0 4 = false ∧ S' = mupd S 130 0 1) ∨ ∃ q, q < 5 ∧ v = nI q ∧ S' = mupd S 130 0 0 ∧ r = S.1 131 (96 + q)) := by
  refine tv_enter (cc := cX10_setting) (maxL := 2) (ret := (some .int)) (by decide) rfl (Nat.le_of_ble_eq_true rfl) ?_
  intro p e s m args below meth c X hrt hnm hargs
  refine tv_aload_n X dX10_setting_0 rfl ?_
  refine tv_iload_n X dX10_setting_1 rfl ?_
  refine mm_callSi X dX10_setting_2 (cX10_isSetting_ok v) (va_cwS 1 X.2.2.2.2.1 gX10_setting_X10_isSetting rfl rfl rfl (by decide +kernel) ⟨Nat.le_of_ble_eq_true rfl, Nat.le_of_ble_eq_true rfl⟩) rfl rfl (Nat.le_of_ble_eq_true rfl) ⟨Nat.zero_le _, Nat.zero_le _⟩ (fun r S1 hq => ?_)
  obtain ⟨hq1, hq2⟩ := hq
  rw [hq1, hq2]
  clear hq1 hq2
  cases hv : inI v 0 4 with
  | false =>
    refine tv_if_eq (tgt := 12) X dX10_setting_5 (by decide) (fun h1 => ?_) (fun h1 => ?_)
    rotate_left
    · exact absurd rfl h1
    refine tv_iconst (v := 1) X dX10_setting_12 (by decide) ?_
    refine mm_callVi (q := (RX10, TX10, 20)) X dX10_setting_13 (cX10_holds_ok 1) (cwV 1 X.2.2.2.2.1 gX10_setting_X10_holds rfl rfl rfl (by decide +kernel) ⟨Nat.le_of_ble_eq_true rfl, Nat.le_of_ble_eq_true rfl⟩) rfl rfl gX10 rfl (Nat.le_of_ble_eq_true rfl) ⟨Nat.zero_le _, Nat.zero_le _⟩ (fun r S1 hq => ?_)
    obtain ⟨hq1, hq2⟩ := hq
    rw [hq1, hq2]
    refine tv_if_eq (tgt := 31) X dX10_setting_16 (by decide) (fun h2 => ?_) (fun h2 => ?_)
    rotate_left
    · exact absurd (show bz (decide ((1 : Int32) = 0)) = 0 by decide) h2
    refine tv_iconst (v := 0) X dX10_setting_31 (by decide) ?_
    exact tv_iret X hrt dX10_setting_32 ⟨_, rfl, Or.inl ⟨rfl, rfl⟩⟩
  | true =>
    obtain ⟨q, -, hq4, rfl⟩ := inI_n (lo := 0) (hi := 4) (by decide) hv (by decide)
    refine tv_if_eq (tgt := 12) X dX10_setting_5 (by decide) (fun h1 => ?_) (fun h1 => ?_)
    · exact absurd h1 (by decide)
    refine tv_iconst (v := 0) X dX10_setting_8 (by decide) ?_
    refine tv_goto (tgt := 13) X dX10_setting_9 (by decide) ?_
    refine mm_callVi (q := (RX10, TX10, 20)) X dX10_setting_13 (cX10_holds_ok 0) (cwV 1 X.2.2.2.2.1 gX10_setting_X10_holds rfl rfl rfl (by decide +kernel) ⟨Nat.le_of_ble_eq_true rfl, Nat.le_of_ble_eq_true rfl⟩) rfl rfl gX10 rfl (Nat.le_of_ble_eq_true rfl) ⟨Nat.zero_le _, Nat.zero_le _⟩ (fun r S1 hq => ?_)
    obtain ⟨hq1, hq2⟩ := hq
    rw [hq1, hq2]
    clear hq1 hq2
    refine tv_if_eq (tgt := 31) X dX10_setting_16 (by decide) (fun h2 => ?_) (fun h2 => ?_)
    · exact absurd h2 (by decide)
    refine tv_aload_n X dX10_setting_19 rfl ?_
    refine mm_getf X dX10_setting_20 gX10 iX10_setting_X10 rfl 1 (by decide) kX10_setting_7 rfl ?_
    refine tv_bipush (v := 96) X dX10_setting_23 (by decide) ?_
    refine tv_iload_n X dX10_setting_25 rfl ?_
    refine tv_iadd X dX10_setting_26 ?_
    refine mm_iald X dX10_setting_27 g131 (96 + q) (nI_add 96 q) (by omega) (by decide) ?_
    refine tv_goto (tgt := 32) X dX10_setting_28 (by decide) ?_
    rw [mupd_n (by decide)]
    exact tv_iret X hrt dX10_setting_32 ⟨_, rfl, Or.inr ⟨q, by omega, rfl, rfl, rfl⟩⟩
theorem iX10_contacts_X10 : ∀ w ∈ wsX100, w ∈ wsX10_contacts := by decide +kernel
theorem kX10_contacts_43 : Cond.fieldLink RX10 43 (TX10 0).1 (TX10 0).2.1 (TX10 0).2.2.1 ∈ wsX10_contacts := by decide +kernel
theorem kX10_contacts_66 : Cond.fieldLink RX10 66 (TX10 17).1 (TX10 17).2.1 (TX10 17).2.2.1 ∈ wsX10_contacts := by decide +kernel
theorem cX10_contacts_ok (hS : rgR S) : mMi l yX10_contacts wsX10_contacts rmX10_contacts D n0 ft [.ref (n0 + 130)] n S (fun r S' => S' = fcE (frD (mupd S 130 0 0)) ∧ r = (fcE (frD (mupd S 130 0 0))).1 130 17) := by
  refine tv_enter (cc := cX10_contacts) (maxL := 1) (ret := (some .int)) (by decide) rfl (Nat.le_of_ble_eq_true rfl) ?_
  intro p e s m args below meth c X hrt hnm hargs
  refine tv_aload_n X dX10_contacts_0 rfl ?_
  refine tv_iconst (v := 0) X dX10_contacts_1 (by decide) ?_
  refine mm_put X dX10_contacts_2 gX10 iX10_contacts_X10 rfl tyX10 tyX10_ok nmX10 0 (by decide) kX10_contacts_43 rfl rfl rfl (Nat.le_of_ble_eq_true rfl) rfl ?_
  refine tv_aload_n X dX10_contacts_5 rfl ?_
  refine mm_callVv (q := (RX10, TX10, 20)) X dX10_contacts_6 (cX10_findsContacts_ok (rgR_ag hS (mupd_n (by decide)))) (cwV 0 X.2.2.2.2.1 gX10_contacts_X10_findsContacts rfl rfl rfl (by decide +kernel) ⟨Nat.le_of_ble_eq_true rfl, Nat.le_of_ble_eq_true rfl⟩) rfl rfl gX10 rfl (Nat.le_of_ble_eq_true rfl) ⟨Nat.zero_le _, Nat.zero_le _⟩ (fun S1 hq => ?_)
  obtain ⟨k1, hk1, hq1⟩ := hq
  rw [frS_D hk1] at hq1
  rw [hq1]
  refine tv_aload_n X dX10_contacts_9 rfl ?_
  refine mm_getf X dX10_contacts_10 gX10 iX10_contacts_X10 rfl 17 (by decide) kX10_contacts_66 rfl ?_
  exact tv_iret X hrt dX10_contacts_13 ⟨_, rfl, rfl, rfl⟩
theorem iX10_contact_X10 : ∀ w ∈ wsX100, w ∈ wsX10_contact := by decide +kernel
theorem kX10_contact_25 : Cond.fieldLink RX10 25 (TX10 13).1 (TX10 13).2.1 (TX10 13).2.2.1 ∈ wsX10_contact := by decide +kernel
theorem kX10_contact_28 : Cond.fieldLink RX10 28 (TX10 14).1 (TX10 14).2.1 (TX10 14).2.2.1 ∈ wsX10_contact := by decide +kernel
theorem kX10_contact_31 : Cond.fieldLink RX10 31 (TX10 15).1 (TX10 15).2.1 (TX10 15).2.2.1 ∈ wsX10_contact := by decide +kernel
theorem kX10_contact_34 : Cond.fieldLink RX10 34 (TX10 16).1 (TX10 16).2.1 (TX10 16).2.2.1 ∈ wsX10_contact := by decide +kernel
theorem kX10_contact_66 : Cond.fieldLink RX10 66 (TX10 17).1 (TX10 17).2.1 (TX10 17).2.2.1 ∈ wsX10_contact := by decide +kernel
theorem cX10_contact_ok (hS : rgR S) (x v : Int32) : mMi l yX10_contact wsX10_contact rmX10_contact D n0 ft [.ref (n0 + 130), .int x, .int v] n S (fun r S' => (x < 0 ∧ S' = mupd S 130 0 1) ∨ (¬ x < 0 ∧ inI v 0 3 = false ∧ S' = mupd S 130 0 2) ∨ (¬ x < 0 ∧ S' = fcE (frD (mupd S 130 0 0)) ∧ ∃ q, q < 4 ∧ v = nI q ∧ r = if (fcE (frD (mupd S 130 0 0))).1 130 17 ≤ x then -1 else (fcE (frD (mupd S 130 0 0))).1 (136 + q) x.toNatClampNeg)) := by
  refine tv_enter (cc := cX10_contact) (maxL := 3) (ret := (some .int)) (by decide) rfl (Nat.le_of_ble_eq_true rfl) ?_
  intro p e s m args below meth c X hrt hnm hargs
  refine tv_aload_n X dX10_contact_0 rfl ?_
  refine tv_iload_n X dX10_contact_1 rfl ?_
  by_cases hx : x < 0
  · refine tv_if_ge (tgt := 9) X dX10_contact_2 (by decide) (fun h1 => ?_) (fun h1 => ?_)
    · exact absurd hx (Int32.not_lt.mpr h1)
    refine tv_iconst (v := 1) X dX10_contact_5 (by decide) ?_
    refine tv_goto (tgt := 23) X dX10_contact_6 (by decide) ?_
    refine mm_callVi (q := (RX10, TX10, 20)) X dX10_contact_23 (cX10_holds_ok 1) (cwV 1 X.2.2.2.2.1 gX10_contact_X10_holds rfl rfl rfl (by decide +kernel) ⟨Nat.le_of_ble_eq_true rfl, Nat.le_of_ble_eq_true rfl⟩) rfl rfl gX10 rfl (Nat.le_of_ble_eq_true rfl) ⟨Nat.zero_le _, Nat.zero_le _⟩ (fun r S1 hq => ?_)
    obtain ⟨hq1, hq2⟩ := hq
    rw [hq1, hq2]
    refine tv_if_ne (tgt := 31) X dX10_contact_26 (by decide) (fun h2 => ?_) (fun h2 => ?_)
    · exact absurd (show bz (decide ((1 : Int32) = 0)) = 0 by decide) h2
    refine tv_iconst (v := 0) X dX10_contact_29 (by decide) ?_
    exact tv_iret X hrt dX10_contact_30 ⟨_, rfl, Or.inl ⟨hx, rfl⟩⟩
  refine tv_if_ge (tgt := 9) X dX10_contact_2 (by decide) (fun h1 => ?_) (fun h1 => ?_)
  rotate_left
  · exact absurd (Int32.not_lt.mp hx) h1
  refine tv_iload_n X dX10_contact_9 rfl ?_
  refine tv_iconst (v := 0) X dX10_contact_10 (by decide) ?_
  refine tv_iconst (v := 3) X dX10_contact_11 (by decide) ?_
  refine mm_callSi X dX10_contact_12 (cX10_in_ok _ _ _) (va_cwS 3 X.2.2.2.2.1 gX10_contact_X10_in rfl rfl rfl (by decide +kernel) ⟨Nat.le_of_ble_eq_true rfl, Nat.le_of_ble_eq_true rfl⟩) rfl rfl (Nat.le_of_ble_eq_true rfl) ⟨Nat.zero_le _, Nat.zero_le _⟩ (fun r S1 hq => ?_)
  obtain ⟨hq1, hq2⟩ := hq
  rw [hq1, hq2]
  clear hq1 hq2
  cases hv : inI v 0 3 with
  | false =>
    refine tv_if_ne (tgt := 22) X dX10_contact_15 (by decide) (fun h2 => ?_) (fun h2 => ?_)
    · exact absurd rfl h2
    refine tv_iconst (v := 2) X dX10_contact_18 (by decide) ?_
    refine tv_goto (tgt := 23) X dX10_contact_19 (by decide) ?_
    refine mm_callVi (q := (RX10, TX10, 20)) X dX10_contact_23 (cX10_holds_ok 2) (cwV 1 X.2.2.2.2.1 gX10_contact_X10_holds rfl rfl rfl (by decide +kernel) ⟨Nat.le_of_ble_eq_true rfl, Nat.le_of_ble_eq_true rfl⟩) rfl rfl gX10 rfl (Nat.le_of_ble_eq_true rfl) ⟨Nat.zero_le _, Nat.zero_le _⟩ (fun r S1 hq => ?_)
    obtain ⟨hq1, hq2⟩ := hq
    rw [hq1, hq2]
    refine tv_if_ne (tgt := 31) X dX10_contact_26 (by decide) (fun h3 => ?_) (fun h3 => ?_)
    · exact absurd (show bz (decide ((2 : Int32) = 0)) = 0 by decide) h3
    refine tv_iconst (v := 0) X dX10_contact_29 (by decide) ?_
    exact tv_iret X hrt dX10_contact_30 ⟨_, rfl, Or.inr (Or.inl ⟨hx, rfl, rfl⟩)⟩
  | true =>
    obtain ⟨q, -, hq3, rfl⟩ := inI_n (lo := 0) (hi := 3) (by decide) hv (by decide)
    refine tv_if_ne (tgt := 22) X dX10_contact_15 (by decide) (fun h2 => ?_) (fun h2 => ?_)
    rotate_left
    · exact absurd h2 (by decide)
    refine tv_iconst (v := 0) X dX10_contact_22 (by decide) ?_
    refine mm_callVi (q := (RX10, TX10, 20)) X dX10_contact_23 (cX10_holds_ok 0) (cwV 1 X.2.2.2.2.1 gX10_contact_X10_holds rfl rfl rfl (by decide +kernel) ⟨Nat.le_of_ble_eq_true rfl, Nat.le_of_ble_eq_true rfl⟩) rfl rfl gX10 rfl (Nat.le_of_ble_eq_true rfl) ⟨Nat.zero_le _, Nat.zero_le _⟩ (fun r S1 hq => ?_)
    obtain ⟨hq1, hq2⟩ := hq
    rw [hq1, hq2]
    clear hq1 hq2
    refine tv_if_ne (tgt := 31) X dX10_contact_26 (by decide) (fun h3 => ?_) (fun h3 => ?_)
    rotate_left
    · exact absurd h3 (by decide)
    refine tv_aload_n X dX10_contact_31 rfl ?_
    refine mm_callVv (q := (RX10, TX10, 20)) X dX10_contact_32 (cX10_findsContacts_ok (rgR_ag hS (mupd_n (by decide)))) (cwV 0 X.2.2.2.2.1 gX10_contact_X10_findsContacts rfl rfl rfl (by decide +kernel) ⟨Nat.le_of_ble_eq_true rfl, Nat.le_of_ble_eq_true rfl⟩) rfl rfl gX10 rfl (Nat.le_of_ble_eq_true rfl) ⟨Nat.zero_le _, Nat.zero_le _⟩ (fun S1 hq => ?_)
    obtain ⟨k1, hk1, hq1⟩ := hq
    rw [frS_D hk1] at hq1
    rw [hq1]
    clear hq1
    have hc := fcE_c (S := frD (mupd S 130 0 0))
    have hkk : min (fcN (frD (mupd S 130 0 0)) 48) 6 ≤ 6 := Nat.min_le_right _ _
    generalize min (fcN (frD (mupd S 130 0 0)) 48) 6 = kk at hc hkk
    generalize fcE (frD (mupd S 130 0 0)) = T at hc ⊢
    refine tv_iload_n X dX10_contact_35 rfl ?_
    refine tv_aload_n X dX10_contact_36 rfl ?_
    refine mm_getf X dX10_contact_37 gX10 iX10_contact_X10 rfl 17 (by decide) kX10_contact_66 rfl ?_
    refine tv_icmp_lt (tgt := 45) X dX10_contact_40 (by decide) (fun h4 => ?_) (fun h4 => ?_)
    rotate_left
    · refine tv_iconst (v := -1) X dX10_contact_43 (by decide) ?_
      exact tv_iret X hrt dX10_contact_44 ⟨_, rfl, Or.inr (Or.inr ⟨hx, rfl, q, by omega, rfl, (if_pos (Int32.not_lt.mp h4)).symm⟩)⟩
    obtain ⟨j, hj, rfl⟩ : ∃ j, j < kk ∧ x = nI j := by
      obtain ⟨j, hj, e⟩ := nI_of hx
      rw [hc, e] at h4
      exact ⟨j, (nI_ltI hj (by omega)).mp h4, e⟩
    have hpost : ∀ r, r = T.1 (136 + q) j → r = if T.1 130 17 ≤ nI j then -1 else T.1 (136 + q) (nI j).toNatClampNeg := fun r hr => by
      rw [if_neg (Int32.not_le.mpr h4), nI_clamp (by omega)]
      exact hr
    refine tv_iload_n X dX10_contact_45 rfl ?_
    match q, hq3, hpost with
    | 0, _, hpost =>
      refine tv_if_ne (tgt := 58) X dX10_contact_46 (by decide) (fun h5 => ?_) (fun h5 => ?_)
      · exact absurd rfl h5
      refine tv_aload_n X dX10_contact_49 rfl ?_
      refine mm_getf X dX10_contact_50 gX10 iX10_contact_X10 rfl 13 (by decide) kX10_contact_25 rfl ?_
      refine tv_iload_n X dX10_contact_53 rfl ?_
      refine mm_iald X dX10_contact_54 g136 j rfl (by omega) (by decide) ?_
      refine tv_goto (tgt := 92) X dX10_contact_55 (by decide) ?_
      exact tv_iret X hrt dX10_contact_92 ⟨_, rfl, Or.inr (Or.inr ⟨hx, rfl, 0, by decide, rfl, hpost _ rfl⟩)⟩
    | 1, _, hpost =>
      refine tv_if_ne (tgt := 58) X dX10_contact_46 (by decide) (fun h5 => ?_) (fun h5 => ?_)
      rotate_left
      · exact absurd h5 (by decide)
      refine tv_iload_n X dX10_contact_58 rfl ?_
      refine tv_iconst (v := 1) X dX10_contact_59 (by decide) ?_
      refine tv_icmp_ne (tgt := 72) X dX10_contact_60 (by decide) (fun h6 => ?_) (fun h6 => ?_)
      · exact absurd rfl h6
      refine tv_aload_n X dX10_contact_63 rfl ?_
      refine mm_getf X dX10_contact_64 gX10 iX10_contact_X10 rfl 14 (by decide) kX10_contact_28 rfl ?_
      refine tv_iload_n X dX10_contact_67 rfl ?_
      refine mm_iald X dX10_contact_68 g137 j rfl (by omega) (by decide) ?_
      refine tv_goto (tgt := 92) X dX10_contact_69 (by decide) ?_
      exact tv_iret X hrt dX10_contact_92 ⟨_, rfl, Or.inr (Or.inr ⟨hx, rfl, 1, by decide, rfl, hpost _ rfl⟩)⟩
    | 2, _, hpost =>
      refine tv_if_ne (tgt := 58) X dX10_contact_46 (by decide) (fun h5 => ?_) (fun h5 => ?_)
      rotate_left
      · exact absurd h5 (by decide)
      refine tv_iload_n X dX10_contact_58 rfl ?_
      refine tv_iconst (v := 1) X dX10_contact_59 (by decide) ?_
      refine tv_icmp_ne (tgt := 72) X dX10_contact_60 (by decide) (fun h6 => ?_) (fun h6 => ?_)
      rotate_left
      · exact absurd h6 (by decide)
      refine tv_iload_n X dX10_contact_72 rfl ?_
      refine tv_iconst (v := 2) X dX10_contact_73 (by decide) ?_
      refine tv_icmp_ne (tgt := 86) X dX10_contact_74 (by decide) (fun h7 => ?_) (fun h7 => ?_)
      · exact absurd rfl h7
      refine tv_aload_n X dX10_contact_77 rfl ?_
      refine mm_getf X dX10_contact_78 gX10 iX10_contact_X10 rfl 15 (by decide) kX10_contact_31 rfl ?_
      refine tv_iload_n X dX10_contact_81 rfl ?_
      refine mm_iald X dX10_contact_82 g138 j rfl (by omega) (by decide) ?_
      refine tv_goto (tgt := 92) X dX10_contact_83 (by decide) ?_
      exact tv_iret X hrt dX10_contact_92 ⟨_, rfl, Or.inr (Or.inr ⟨hx, rfl, 2, by decide, rfl, hpost _ rfl⟩)⟩
    | 3, _, hpost =>
      refine tv_if_ne (tgt := 58) X dX10_contact_46 (by decide) (fun h5 => ?_) (fun h5 => ?_)
      rotate_left
      · exact absurd h5 (by decide)
      refine tv_iload_n X dX10_contact_58 rfl ?_
      refine tv_iconst (v := 1) X dX10_contact_59 (by decide) ?_
      refine tv_icmp_ne (tgt := 72) X dX10_contact_60 (by decide) (fun h6 => ?_) (fun h6 => ?_)
      rotate_left
      · exact absurd h6 (by decide)
      refine tv_iload_n X dX10_contact_72 rfl ?_
      refine tv_iconst (v := 2) X dX10_contact_73 (by decide) ?_
      refine tv_icmp_ne (tgt := 86) X dX10_contact_74 (by decide) (fun h7 => ?_) (fun h7 => ?_)
      rotate_left
      · exact absurd h7 (by decide)
      refine tv_aload_n X dX10_contact_86 rfl ?_
      refine mm_getf X dX10_contact_87 gX10 iX10_contact_X10 rfl 16 (by decide) kX10_contact_34 rfl ?_
      refine tv_iload_n X dX10_contact_90 rfl ?_
      refine mm_iald X dX10_contact_91 g139 j rfl (by omega) (by decide) ?_
      exact tv_iret X hrt dX10_contact_92 ⟨_, rfl, Or.inr (Or.inr ⟨hx, rfl, 3, by decide, rfl, hpost _ rfl⟩)⟩
theorem cX10_isDown_ok (x : Int32) : mMi l yX10_isDown wsX10_isDown rmX10_isDown D n0 ft [.ref (n0 + 130), .int x] n S (fun r S' => (inI x 0 5 = false ∧ S' = mupd S 130 0 1) ∨ ∃ t, t < 6 ∧ x = nI t ∧ S' = mupd S 130 0 0 ∧ r = bz (dwR S t)) := by
  refine tv_enter (cc := cX10_isDown) (maxL := 2) (ret := (some .boolean)) (by decide) rfl (Nat.le_of_ble_eq_true rfl) ?_
  intro p e s m args below meth c X hrt hnm hargs
  refine tv_aload_n X dX10_isDown_0 rfl ?_
  refine tv_iload_n X dX10_isDown_1 rfl ?_
  refine mm_callSi X dX10_isDown_2 (cX10_isTrack_ok x) (va_cwS 1 X.2.2.2.2.1 gX10_isDown_X10_isTrack rfl rfl rfl (by decide +kernel) ⟨Nat.le_of_ble_eq_true rfl, Nat.le_of_ble_eq_true rfl⟩) rfl rfl (Nat.le_of_ble_eq_true rfl) ⟨Nat.zero_le _, Nat.zero_le _⟩ (fun r S1 hq => ?_)
  obtain ⟨hq1, hq2⟩ := hq
  rw [hq1, hq2]
  clear hq1 hq2
  cases hv : inI x 0 5 with
  | false =>
    refine tv_if_eq (tgt := 12) X dX10_isDown_5 (by decide) (fun h1 => ?_) (fun h1 => ?_)
    rotate_left
    · exact absurd rfl h1
    refine tv_iconst (v := 1) X dX10_isDown_12 (by decide) ?_
    refine mm_callVi (q := (RX10, TX10, 20)) X dX10_isDown_13 (cX10_holds_ok 1) (cwV 1 X.2.2.2.2.1 gX10_isDown_X10_holds rfl rfl rfl (by decide +kernel) ⟨Nat.le_of_ble_eq_true rfl, Nat.le_of_ble_eq_true rfl⟩) rfl rfl gX10 rfl (Nat.le_of_ble_eq_true rfl) ⟨Nat.zero_le _, Nat.zero_le _⟩ (fun r S1 hq => ?_)
    obtain ⟨hq1, hq2⟩ := hq
    rw [hq1, hq2]
    refine tv_if_eq (tgt := 31) X dX10_isDown_16 (by decide) (fun h2 => ?_) (fun h2 => ?_)
    rotate_left
    · exact absurd (show bz (decide ((1 : Int32) = 0)) = 0 by decide) h2
    refine tv_iconst (v := 0) X dX10_isDown_31 (by decide) ?_
    exact tv_zret X hrt dX10_isDown_32 rfl ⟨_, rfl, Or.inl ⟨rfl, rfl⟩⟩
  | true =>
    obtain ⟨t, -, ht, rfl⟩ := inI_n (lo := 0) (hi := 5) (by decide) hv (by decide)
    refine tv_if_eq (tgt := 12) X dX10_isDown_5 (by decide) (fun h1 => ?_) (fun h1 => ?_)
    · exact absurd h1 (by decide)
    refine tv_iconst (v := 0) X dX10_isDown_8 (by decide) ?_
    refine tv_goto (tgt := 13) X dX10_isDown_9 (by decide) ?_
    refine mm_callVi (q := (RX10, TX10, 20)) X dX10_isDown_13 (cX10_holds_ok 0) (cwV 1 X.2.2.2.2.1 gX10_isDown_X10_holds rfl rfl rfl (by decide +kernel) ⟨Nat.le_of_ble_eq_true rfl, Nat.le_of_ble_eq_true rfl⟩) rfl rfl gX10 rfl (Nat.le_of_ble_eq_true rfl) ⟨Nat.zero_le _, Nat.zero_le _⟩ (fun r S1 hq => ?_)
    obtain ⟨hq1, hq2⟩ := hq
    rw [hq1, hq2]
    clear hq1 hq2
    refine tv_if_eq (tgt := 31) X dX10_isDown_16 (by decide) (fun h2 => ?_) (fun h2 => ?_)
    · exact absurd h2 (by decide)
    refine tv_aload_n X dX10_isDown_19 rfl ?_
    refine tv_iload_n X dX10_isDown_20 rfl ?_
    refine mm_callVi (q := (RX10, TX10, 20)) X dX10_isDown_21 (cX10_isDownNow_ok (t := t) (by omega)) (cwV 1 X.2.2.2.2.1 gX10_isDown_X10_isDownNow rfl rfl rfl (by decide +kernel) ⟨Nat.le_of_ble_eq_true rfl, Nat.le_of_ble_eq_true rfl⟩) rfl rfl gX10 rfl (Nat.le_of_ble_eq_true rfl) ⟨Nat.zero_le _, Nat.zero_le _⟩ (fun r S1 hq => ?_)
    obtain ⟨hq1, hq2⟩ := hq
    rw [dwR_ag (S := S) (mupd_n (by decide))] at hq2
    rw [hq1, hq2]
    clear hq1 hq2
    cases hd : dwR S t with
    | false =>
      refine tv_if_eq (tgt := 31) X dX10_isDown_24 (by decide) (fun h3 => ?_) (fun h3 => ?_)
      rotate_left
      · exact absurd rfl h3
      refine tv_iconst (v := 0) X dX10_isDown_31 (by decide) ?_
      exact tv_zret X hrt dX10_isDown_32 rfl ⟨_, rfl, Or.inr ⟨t, by omega, rfl, rfl, by rw [hd]; rfl⟩⟩
    | true =>
      refine tv_if_eq (tgt := 31) X dX10_isDown_24 (by decide) (fun h3 => ?_) (fun h3 => ?_)
      · exact absurd h3 (by decide)
      refine tv_iconst (v := 1) X dX10_isDown_27 (by decide) ?_
      refine tv_goto (tgt := 32) X dX10_isDown_28 (by decide) ?_
      exact tv_zret X hrt dX10_isDown_32 rfl ⟨_, rfl, Or.inr ⟨t, by omega, rfl, rfl, by rw [hd]; rfl⟩⟩
theorem cX10_track_ok (x v : Int32) : mMi l yX10_track wsX10_track rmX10_track D n0 ft [.ref (n0 + 130), .int x, .int v] n S (fun r S' => (inI x 0 5 = false ∧ S' = mupd S 130 0 1) ∨ (inI x 0 5 = true ∧ inI v 0 3 = false ∧ S' = mupd S 130 0 2) ∨ ∃ t q, t < 6 ∧ q < 4 ∧ x = nI t ∧ v = nI q ∧ S' = mupd S 130 0 0 ∧ r = if dwR S t then ofR S t (1 + q) else -1) := by
  refine tv_enter (cc := cX10_track) (maxL := 3) (ret := (some .int)) (by decide) rfl (Nat.le_of_ble_eq_true rfl) ?_
  intro p e s m args below meth c X hrt hnm hargs
  refine tv_aload_n X dX10_track_0 rfl ?_
  refine tv_iload_n X dX10_track_1 rfl ?_
  refine mm_callSi X dX10_track_2 (cX10_isTrack_ok x) (va_cwS 1 X.2.2.2.2.1 gX10_track_X10_isTrack rfl rfl rfl (by decide +kernel) ⟨Nat.le_of_ble_eq_true rfl, Nat.le_of_ble_eq_true rfl⟩) rfl rfl (Nat.le_of_ble_eq_true rfl) ⟨Nat.zero_le _, Nat.zero_le _⟩ (fun r S1 hq => ?_)
  obtain ⟨hq1, hq2⟩ := hq
  rw [hq1, hq2]
  clear hq1 hq2
  cases hx : inI x 0 5 with
  | false =>
    refine tv_if_ne (tgt := 12) X dX10_track_5 (by decide) (fun h1 => ?_) (fun h1 => ?_)
    · exact absurd rfl h1
    refine tv_iconst (v := 1) X dX10_track_8 (by decide) ?_
    refine tv_goto (tgt := 26) X dX10_track_9 (by decide) ?_
    refine mm_callVi (q := (RX10, TX10, 20)) X dX10_track_26 (cX10_holds_ok 1) (cwV 1 X.2.2.2.2.1 gX10_track_X10_holds rfl rfl rfl (by decide +kernel) ⟨Nat.le_of_ble_eq_true rfl, Nat.le_of_ble_eq_true rfl⟩) rfl rfl gX10 rfl (Nat.le_of_ble_eq_true rfl) ⟨Nat.zero_le _, Nat.zero_le _⟩ (fun r S1 hq => ?_)
    obtain ⟨hq1, hq2⟩ := hq
    rw [hq1, hq2]
    refine tv_if_ne (tgt := 34) X dX10_track_29 (by decide) (fun h2 => ?_) (fun h2 => ?_)
    · exact absurd (show bz (decide ((1 : Int32) = 0)) = 0 by decide) h2
    refine tv_iconst (v := 0) X dX10_track_32 (by decide) ?_
    exact tv_iret X hrt dX10_track_33 ⟨_, rfl, Or.inl ⟨rfl, rfl⟩⟩
  | true =>
    obtain ⟨t, -, ht, rfl⟩ := inI_n (lo := 0) (hi := 5) (by decide) hx (by decide)
    refine tv_if_ne (tgt := 12) X dX10_track_5 (by decide) (fun h1 => ?_) (fun h1 => ?_)
    rotate_left
    · exact absurd h1 (by decide)
    refine tv_iload_n X dX10_track_12 rfl ?_
    refine tv_iconst (v := 0) X dX10_track_13 (by decide) ?_
    refine tv_iconst (v := 3) X dX10_track_14 (by decide) ?_
    refine mm_callSi X dX10_track_15 (cX10_in_ok _ _ _) (va_cwS 3 X.2.2.2.2.1 gX10_track_X10_in rfl rfl rfl (by decide +kernel) ⟨Nat.le_of_ble_eq_true rfl, Nat.le_of_ble_eq_true rfl⟩) rfl rfl (Nat.le_of_ble_eq_true rfl) ⟨Nat.zero_le _, Nat.zero_le _⟩ (fun r S1 hq => ?_)
    obtain ⟨hq1, hq2⟩ := hq
    rw [hq1, hq2]
    clear hq1 hq2
    cases hv : inI v 0 3 with
    | false =>
      refine tv_if_ne (tgt := 25) X dX10_track_18 (by decide) (fun h2 => ?_) (fun h2 => ?_)
      · exact absurd rfl h2
      refine tv_iconst (v := 2) X dX10_track_21 (by decide) ?_
      refine tv_goto (tgt := 26) X dX10_track_22 (by decide) ?_
      refine mm_callVi (q := (RX10, TX10, 20)) X dX10_track_26 (cX10_holds_ok 2) (cwV 1 X.2.2.2.2.1 gX10_track_X10_holds rfl rfl rfl (by decide +kernel) ⟨Nat.le_of_ble_eq_true rfl, Nat.le_of_ble_eq_true rfl⟩) rfl rfl gX10 rfl (Nat.le_of_ble_eq_true rfl) ⟨Nat.zero_le _, Nat.zero_le _⟩ (fun r S1 hq => ?_)
      obtain ⟨hq1, hq2⟩ := hq
      rw [hq1, hq2]
      refine tv_if_ne (tgt := 34) X dX10_track_29 (by decide) (fun h3 => ?_) (fun h3 => ?_)
      · exact absurd (show bz (decide ((2 : Int32) = 0)) = 0 by decide) h3
      refine tv_iconst (v := 0) X dX10_track_32 (by decide) ?_
      exact tv_iret X hrt dX10_track_33 ⟨_, rfl, Or.inr (Or.inl ⟨rfl, rfl, rfl⟩)⟩
    | true =>
      obtain ⟨q, -, hq3, rfl⟩ := inI_n (lo := 0) (hi := 3) (by decide) hv (by decide)
      refine tv_if_ne (tgt := 25) X dX10_track_18 (by decide) (fun h2 => ?_) (fun h2 => ?_)
      rotate_left
      · exact absurd h2 (by decide)
      refine tv_iconst (v := 0) X dX10_track_25 (by decide) ?_
      refine mm_callVi (q := (RX10, TX10, 20)) X dX10_track_26 (cX10_holds_ok 0) (cwV 1 X.2.2.2.2.1 gX10_track_X10_holds rfl rfl rfl (by decide +kernel) ⟨Nat.le_of_ble_eq_true rfl, Nat.le_of_ble_eq_true rfl⟩) rfl rfl gX10 rfl (Nat.le_of_ble_eq_true rfl) ⟨Nat.zero_le _, Nat.zero_le _⟩ (fun r S1 hq => ?_)
      obtain ⟨hq1, hq2⟩ := hq
      rw [hq1, hq2]
      clear hq1 hq2
      refine tv_if_ne (tgt := 34) X dX10_track_29 (by decide) (fun h3 => ?_) (fun h3 => ?_)
      rotate_left
      · exact absurd h3 (by decide)
      refine tv_aload_n X dX10_track_34 rfl ?_
      refine tv_iload_n X dX10_track_35 rfl ?_
      refine mm_callVi (q := (RX10, TX10, 20)) X dX10_track_36 (cX10_isDownNow_ok (t := t) (by omega)) (cwV 1 X.2.2.2.2.1 gX10_track_X10_isDownNow rfl rfl rfl (by decide +kernel) ⟨Nat.le_of_ble_eq_true rfl, Nat.le_of_ble_eq_true rfl⟩) rfl rfl gX10 rfl (Nat.le_of_ble_eq_true rfl) ⟨Nat.zero_le _, Nat.zero_le _⟩ (fun r S1 hq => ?_)
      obtain ⟨hq1, hq2⟩ := hq
      rw [dwR_ag (S := S) (mupd_n (by decide))] at hq2
      rw [hq1, hq2]
      clear hq1 hq2
      cases hd : dwR S t with
      | false =>
        refine tv_if_eq (tgt := 53) X dX10_track_39 (by decide) (fun h4 => ?_) (fun h4 => ?_)
        rotate_left
        · exact absurd rfl h4
        refine tv_iconst (v := -1) X dX10_track_53 (by decide) ?_
        exact tv_iret X hrt dX10_track_54 ⟨_, rfl, Or.inr (Or.inr ⟨t, q, by omega, by omega, rfl, rfl, rfl, by rw [hd]; rfl⟩)⟩
      | true =>
        refine tv_if_eq (tgt := 53) X dX10_track_39 (by decide) (fun h4 => ?_) (fun h4 => ?_)
        · exact absurd h4 (by decide)
        refine tv_aload_n X dX10_track_42 rfl ?_
        refine tv_iload_n X dX10_track_43 rfl ?_
        refine tv_iconst (v := 1) X dX10_track_44 (by decide) ?_
        refine tv_iload_n X dX10_track_45 rfl ?_
        refine tv_iadd X dX10_track_46 ?_
        refine mm_callVi (q := (RX10, TX10, 20)) X dX10_track_47 (cX10_of_ok (t := t) (by omega) (1 + q) (nI_add 1 q) (by omega)) (cwV 2 X.2.2.2.2.1 gX10_track_X10_of rfl rfl rfl (by decide +kernel) ⟨Nat.le_of_ble_eq_true rfl, Nat.le_of_ble_eq_true rfl⟩) rfl rfl gX10 rfl (Nat.le_of_ble_eq_true rfl) ⟨Nat.zero_le _, Nat.zero_le _⟩ (fun r S1 hq => ?_)
        obtain ⟨hq1, hq2⟩ := hq
        have hof : ofR (mupd S 130 0 0) t (1 + q) = ofR S t (1 + q) := by
          unfold ofR
          rw [mupd_n (by decide)]
        rw [hof] at hq2
        rw [hq1, hq2]
        refine tv_goto (tgt := 54) X dX10_track_50 (by decide) ?_
        exact tv_iret X hrt dX10_track_54 ⟨_, rfl, Or.inr (Or.inr ⟨t, q, by omega, by omega, rfl, rfl, rfl, by rw [hd]; rfl⟩)⟩
theorem iX10_squaredDistance_X10 : ∀ w ∈ wsX100, w ∈ wsX10_squaredDistance := by decide +kernel
theorem kX10_squaredDistance_66 : Cond.fieldLink RX10 66 (TX10 17).1 (TX10 17).2.1 (TX10 17).2.2.1 ∈ wsX10_squaredDistance := by decide +kernel
theorem cX10_squaredDistance_ok (hS : rgR S) (x v : Int32) : mMi l yX10_squaredDistance wsX10_squaredDistance rmX10_squaredDistance D n0 ft [.ref (n0 + 130), .int x, .int v] n S (fun r S' => ((inI x 0 5 = false ∨ v < 0) ∧ S' = mupd S 130 0 1) ∨ ∃ t, t < 6 ∧ x = nI t ∧ ¬ v < 0 ∧ S' = fcE (frD (mupd S 130 0 0)) ∧ r = if dwR S t = true ∧ v < (fcE (frD (mupd S 130 0 0))).1 130 17 then sqR (fcE (frD (mupd S 130 0 0))) t v.toNatClampNeg else -1) := by
  refine tv_enter (cc := cX10_squaredDistance) (maxL := 3) (ret := (some .int)) (by decide) rfl (Nat.le_of_ble_eq_true rfl) ?_
  intro p e s m args below meth c X hrt hnm hargs
  refine tv_aload_n X dX10_squaredDistance_0 rfl ?_
  refine tv_iload_n X dX10_squaredDistance_1 rfl ?_
  refine mm_callSi X dX10_squaredDistance_2 (cX10_isTrack_ok x) (va_cwS 1 X.2.2.2.2.1 gX10_squaredDistance_X10_isTrack rfl rfl rfl (by decide +kernel) ⟨Nat.le_of_ble_eq_true rfl, Nat.le_of_ble_eq_true rfl⟩) rfl rfl (Nat.le_of_ble_eq_true rfl) ⟨Nat.zero_le _, Nat.zero_le _⟩ (fun r S1 hq => ?_)
  obtain ⟨hq1, hq2⟩ := hq
  rw [hq1, hq2]
  clear hq1 hq2
  cases hx : inI x 0 5 with
  | false =>
    refine tv_if_eq (tgt := 16) X dX10_squaredDistance_5 (by decide) (fun h1 => ?_) (fun h1 => ?_)
    rotate_left
    · exact absurd rfl h1
    refine tv_iconst (v := 1) X dX10_squaredDistance_16 (by decide) ?_
    refine mm_callVi (q := (RX10, TX10, 20)) X dX10_squaredDistance_17 (cX10_holds_ok 1) (cwV 1 X.2.2.2.2.1 gX10_squaredDistance_X10_holds rfl rfl rfl (by decide +kernel) ⟨Nat.le_of_ble_eq_true rfl, Nat.le_of_ble_eq_true rfl⟩) rfl rfl gX10 rfl (Nat.le_of_ble_eq_true rfl) ⟨Nat.zero_le _, Nat.zero_le _⟩ (fun r S1 hq => ?_)
    obtain ⟨hq1, hq2⟩ := hq
    rw [hq1, hq2]
    refine tv_if_ne (tgt := 25) X dX10_squaredDistance_20 (by decide) (fun h2 => ?_) (fun h2 => ?_)
    · exact absurd (show bz (decide ((1 : Int32) = 0)) = 0 by decide) h2
    refine tv_iconst (v := 0) X dX10_squaredDistance_23 (by decide) ?_
    exact tv_iret X hrt dX10_squaredDistance_24 ⟨_, rfl, Or.inl ⟨Or.inl rfl, rfl⟩⟩
  | true =>
    obtain ⟨t, -, ht, rfl⟩ := inI_n (lo := 0) (hi := 5) (by decide) hx (by decide)
    refine tv_if_eq (tgt := 16) X dX10_squaredDistance_5 (by decide) (fun h1 => ?_) (fun h1 => ?_)
    · exact absurd h1 (by decide)
    refine tv_iload_n X dX10_squaredDistance_8 rfl ?_
    refine tv_if_lt (tgt := 16) X dX10_squaredDistance_9 (by decide) (fun h2 => ?_) (fun h2 => ?_)
    · refine tv_iconst (v := 1) X dX10_squaredDistance_16 (by decide) ?_
      refine mm_callVi (q := (RX10, TX10, 20)) X dX10_squaredDistance_17 (cX10_holds_ok 1) (cwV 1 X.2.2.2.2.1 gX10_squaredDistance_X10_holds rfl rfl rfl (by decide +kernel) ⟨Nat.le_of_ble_eq_true rfl, Nat.le_of_ble_eq_true rfl⟩) rfl rfl gX10 rfl (Nat.le_of_ble_eq_true rfl) ⟨Nat.zero_le _, Nat.zero_le _⟩ (fun r S1 hq => ?_)
      obtain ⟨hq1, hq2⟩ := hq
      rw [hq1, hq2]
      refine tv_if_ne (tgt := 25) X dX10_squaredDistance_20 (by decide) (fun h3 => ?_) (fun h3 => ?_)
      · exact absurd (show bz (decide ((1 : Int32) = 0)) = 0 by decide) h3
      refine tv_iconst (v := 0) X dX10_squaredDistance_23 (by decide) ?_
      exact tv_iret X hrt dX10_squaredDistance_24 ⟨_, rfl, Or.inl ⟨Or.inr h2, rfl⟩⟩
    refine tv_iconst (v := 0) X dX10_squaredDistance_12 (by decide) ?_
    refine tv_goto (tgt := 17) X dX10_squaredDistance_13 (by decide) ?_
    refine mm_callVi (q := (RX10, TX10, 20)) X dX10_squaredDistance_17 (cX10_holds_ok 0) (cwV 1 X.2.2.2.2.1 gX10_squaredDistance_X10_holds rfl rfl rfl (by decide +kernel) ⟨Nat.le_of_ble_eq_true rfl, Nat.le_of_ble_eq_true rfl⟩) rfl rfl gX10 rfl (Nat.le_of_ble_eq_true rfl) ⟨Nat.zero_le _, Nat.zero_le _⟩ (fun r S1 hq => ?_)
    obtain ⟨hq1, hq2⟩ := hq
    rw [hq1, hq2]
    clear hq1 hq2
    refine tv_if_ne (tgt := 25) X dX10_squaredDistance_20 (by decide) (fun h3 => ?_) (fun h3 => ?_)
    rotate_left
    · exact absurd h3 (by decide)
    refine tv_aload_n X dX10_squaredDistance_25 rfl ?_
    refine mm_callVv (q := (RX10, TX10, 20)) X dX10_squaredDistance_26 (cX10_findsContacts_ok (rgR_ag hS (mupd_n (by decide)))) (cwV 0 X.2.2.2.2.1 gX10_squaredDistance_X10_findsContacts rfl rfl rfl (by decide +kernel) ⟨Nat.le_of_ble_eq_true rfl, Nat.le_of_ble_eq_true rfl⟩) rfl rfl gX10 rfl (Nat.le_of_ble_eq_true rfl) ⟨Nat.zero_le _, Nat.zero_le _⟩ (fun S1 hq => ?_)
    obtain ⟨k1, hk1, hq1⟩ := hq
    rw [frS_D hk1] at hq1
    rw [hq1]
    clear hq1
    have hc := fcE_c (S := frD (mupd S 130 0 0))
    have hkk : min (fcN (frD (mupd S 130 0 0)) 48) 6 ≤ 6 := Nat.min_le_right _ _
    have hdw : dwR (fcE (frD (mupd S 130 0 0))) t = dwR S t := dwR_ag (by rw [fcE_n (by decide), frD_n (by decide), mupd_n (by decide)]) t
    generalize min (fcN (frD (mupd S 130 0 0)) 48) 6 = kk at hc hkk
    generalize fcE (frD (mupd S 130 0 0)) = T at hc hdw ⊢
    refine tv_aload_n X dX10_squaredDistance_29 rfl ?_
    refine tv_iload_n X dX10_squaredDistance_30 rfl ?_
    refine mm_callVi (q := (RX10, TX10, 20)) X dX10_squaredDistance_31 (cX10_isDownNow_ok (t := t) (by omega)) (cwV 1 X.2.2.2.2.1 gX10_squaredDistance_X10_isDownNow rfl rfl rfl (by decide +kernel) ⟨Nat.le_of_ble_eq_true rfl, Nat.le_of_ble_eq_true rfl⟩) rfl rfl gX10 rfl (Nat.le_of_ble_eq_true rfl) ⟨Nat.zero_le _, Nat.zero_le _⟩ (fun r S1 hq => ?_)
    obtain ⟨hq1, hq2⟩ := hq
    rw [hdw] at hq2
    rw [hq1, hq2]
    clear hq1 hq2
    cases hd : dwR S t with
    | false =>
      refine tv_if_eq (tgt := 54) X dX10_squaredDistance_34 (by decide) (fun h4 => ?_) (fun h4 => ?_)
      rotate_left
      · exact absurd rfl h4
      refine tv_iconst (v := -1) X dX10_squaredDistance_54 (by decide) ?_
      exact tv_iret X hrt dX10_squaredDistance_55 ⟨_, rfl, Or.inr ⟨t, by omega, rfl, h2, rfl, by rw [if_neg]; intro h; rw [hd] at h; exact absurd h.1 (by decide)⟩⟩
    | true =>
      refine tv_if_eq (tgt := 54) X dX10_squaredDistance_34 (by decide) (fun h4 => ?_) (fun h4 => ?_)
      · exact absurd h4 (by decide)
      refine tv_iload_n X dX10_squaredDistance_37 rfl ?_
      refine tv_aload_n X dX10_squaredDistance_38 rfl ?_
      refine mm_getf X dX10_squaredDistance_39 gX10 iX10_squaredDistance_X10 rfl 17 (by decide) kX10_squaredDistance_66 rfl ?_
      refine tv_icmp_ge (tgt := 54) X dX10_squaredDistance_42 (by decide) (fun h5 => ?_) (fun h5 => ?_)
      · refine tv_iconst (v := -1) X dX10_squaredDistance_54 (by decide) ?_
        exact tv_iret X hrt dX10_squaredDistance_55 ⟨_, rfl, Or.inr ⟨t, by omega, rfl, h2, rfl, (if_neg fun h => absurd h.2 (Int32.not_lt.mpr h5)).symm⟩⟩
      obtain ⟨j, hj, rfl⟩ : ∃ j, j < kk ∧ v = nI j := by
        obtain ⟨j, hj, e⟩ := nI_of h2
        have h6 := Int32.not_le.mp h5
        rw [hc, e] at h6
        exact ⟨j, (nI_ltI hj (by omega)).mp h6, e⟩
      refine tv_aload_n X dX10_squaredDistance_45 rfl ?_
      refine tv_iload_n X dX10_squaredDistance_46 rfl ?_
      refine tv_iload_n X dX10_squaredDistance_47 rfl ?_
      refine mm_callVi (q := (RX10, TX10, 20)) X dX10_squaredDistance_48 (cX10_square_ok (t := t) (by omega) (c1 := j) (by omega)) (cwV 2 X.2.2.2.2.1 gX10_squaredDistance_X10_square rfl rfl rfl (by decide +kernel) ⟨Nat.le_of_ble_eq_true rfl, Nat.le_of_ble_eq_true rfl⟩) rfl rfl gX10 rfl (Nat.le_of_ble_eq_true rfl) ⟨Nat.zero_le _, Nat.zero_le _⟩ (fun r S1 hq => ?_)
      obtain ⟨hq1, hq2⟩ := hq
      rw [hq1, hq2]
      refine tv_goto (tgt := 55) X dX10_squaredDistance_51 (by decide) ?_
      exact tv_iret X hrt dX10_squaredDistance_55 ⟨_, rfl, Or.inr ⟨t, by omega, rfl, h2, rfl, by rw [if_pos ⟨hd, Int32.not_le.mp h5⟩, nI_clamp (by omega)]⟩⟩
theorem iX10_match_X10 : ∀ w ∈ wsX100, w ∈ wsX10_match := by decide +kernel
theorem kX10_match_40 : Cond.fieldLink RX10 40 (TX10 19).1 (TX10 19).2.1 (TX10 19).2.2.1 ∈ wsX10_match := by decide +kernel
theorem cX10_match_ok (hS : rgR S) (x : Int32) : mMi l yX10_match wsX10_match rmX10_match D n0 ft [.ref (n0 + 130), .int x] n S (fun r S' => (inI x 0 5 = false ∧ S' = mupd S 130 0 1) ∨ ∃ t, t < 6 ∧ x = nI t ∧ S' = fmE (fcE (frD (mupd S 130 0 0))) ∧ r = (fmE (fcE (frD (mupd S 130 0 0)))).1 141 t) := by
  refine tv_enter (cc := cX10_match) (maxL := 2) (ret := (some .int)) (by decide) rfl (Nat.le_of_ble_eq_true rfl) ?_
  intro p e s m args below meth c X hrt hnm hargs
  refine tv_aload_n X dX10_match_0 rfl ?_
  refine tv_iload_n X dX10_match_1 rfl ?_
  refine mm_callSi X dX10_match_2 (cX10_isTrack_ok x) (va_cwS 1 X.2.2.2.2.1 gX10_match_X10_isTrack rfl rfl rfl (by decide +kernel) ⟨Nat.le_of_ble_eq_true rfl, Nat.le_of_ble_eq_true rfl⟩) rfl rfl (Nat.le_of_ble_eq_true rfl) ⟨Nat.zero_le _, Nat.zero_le _⟩ (fun r S1 hq => ?_)
  obtain ⟨hq1, hq2⟩ := hq
  rw [hq1, hq2]
  clear hq1 hq2
  cases hv : inI x 0 5 with
  | false =>
    refine tv_if_eq (tgt := 12) X dX10_match_5 (by decide) (fun h1 => ?_) (fun h1 => ?_)
    rotate_left
    · exact absurd rfl h1
    refine tv_iconst (v := 1) X dX10_match_12 (by decide) ?_
    refine mm_callVi (q := (RX10, TX10, 20)) X dX10_match_13 (cX10_holds_ok 1) (cwV 1 X.2.2.2.2.1 gX10_match_X10_holds rfl rfl rfl (by decide +kernel) ⟨Nat.le_of_ble_eq_true rfl, Nat.le_of_ble_eq_true rfl⟩) rfl rfl gX10 rfl (Nat.le_of_ble_eq_true rfl) ⟨Nat.zero_le _, Nat.zero_le _⟩ (fun r S1 hq => ?_)
    obtain ⟨hq1, hq2⟩ := hq
    rw [hq1, hq2]
    refine tv_if_ne (tgt := 21) X dX10_match_16 (by decide) (fun h2 => ?_) (fun h2 => ?_)
    · exact absurd (show bz (decide ((1 : Int32) = 0)) = 0 by decide) h2
    refine tv_iconst (v := 0) X dX10_match_19 (by decide) ?_
    exact tv_iret X hrt dX10_match_20 ⟨_, rfl, Or.inl ⟨rfl, rfl⟩⟩
  | true =>
    obtain ⟨t, -, ht, rfl⟩ := inI_n (lo := 0) (hi := 5) (by decide) hv (by decide)
    refine tv_if_eq (tgt := 12) X dX10_match_5 (by decide) (fun h1 => ?_) (fun h1 => ?_)
    · exact absurd h1 (by decide)
    refine tv_iconst (v := 0) X dX10_match_8 (by decide) ?_
    refine tv_goto (tgt := 13) X dX10_match_9 (by decide) ?_
    refine mm_callVi (q := (RX10, TX10, 20)) X dX10_match_13 (cX10_holds_ok 0) (cwV 1 X.2.2.2.2.1 gX10_match_X10_holds rfl rfl rfl (by decide +kernel) ⟨Nat.le_of_ble_eq_true rfl, Nat.le_of_ble_eq_true rfl⟩) rfl rfl gX10 rfl (Nat.le_of_ble_eq_true rfl) ⟨Nat.zero_le _, Nat.zero_le _⟩ (fun r S1 hq => ?_)
    obtain ⟨hq1, hq2⟩ := hq
    rw [hq1, hq2]
    clear hq1 hq2
    refine tv_if_ne (tgt := 21) X dX10_match_16 (by decide) (fun h2 => ?_) (fun h2 => ?_)
    rotate_left
    · exact absurd h2 (by decide)
    refine tv_aload_n X dX10_match_21 rfl ?_
    refine mm_callVv (q := (RX10, TX10, 20)) X dX10_match_22 (cX10_findsMatching_ok (rgR_ag hS (mupd_n (by decide)))) (cwV 0 X.2.2.2.2.1 gX10_match_X10_findsMatching rfl rfl rfl (by decide +kernel) ⟨Nat.le_of_ble_eq_true rfl, Nat.le_of_ble_eq_true rfl⟩) rfl rfl gX10 rfl (Nat.le_of_ble_eq_true rfl) ⟨Nat.zero_le _, Nat.zero_le _⟩ (fun S1 hq => ?_)
    obtain ⟨k1, hk1, hq1⟩ := hq
    rw [frS_D hk1] at hq1
    rw [hq1]
    refine tv_aload_n X dX10_match_25 rfl ?_
    refine mm_getf X dX10_match_26 gX10 iX10_match_X10 rfl 19 (by decide) kX10_match_40 rfl ?_
    refine tv_iload_n X dX10_match_29 rfl ?_
    refine mm_iald X dX10_match_30 g141 t rfl (by omega) (by decide) ?_
    exact tv_iret X hrt dX10_match_31 ⟨_, rfl, Or.inr ⟨t, by omega, rfl, rfl, rfl⟩⟩
theorem iX10_matchingCost_X10 : ∀ w ∈ wsX100, w ∈ wsX10_matchingCost := by decide +kernel
theorem kX10_matchingCost_43 : Cond.fieldLink RX10 43 (TX10 0).1 (TX10 0).2.1 (TX10 0).2.2.1 ∈ wsX10_matchingCost := by decide +kernel
theorem kX10_matchingCost_37 : Cond.fieldLink RX10 37 (TX10 18).1 (TX10 18).2.1 (TX10 18).2.2.1 ∈ wsX10_matchingCost := by decide +kernel
theorem cX10_matchingCost_ok (hS : rgR S) : mMi l yX10_matchingCost wsX10_matchingCost rmX10_matchingCost D n0 ft [.ref (n0 + 130)] n S (fun r S' => S' = fmE (fcE (frD (mupd S 130 0 0))) ∧ r = (fmE (fcE (frD (mupd S 130 0 0)))).1 140 0) := by
  refine tv_enter (cc := cX10_matchingCost) (maxL := 1) (ret := (some .int)) (by decide) rfl (Nat.le_of_ble_eq_true rfl) ?_
  intro p e s m args below meth c X hrt hnm hargs
  refine tv_aload_n X dX10_matchingCost_0 rfl ?_
  refine tv_iconst (v := 0) X dX10_matchingCost_1 (by decide) ?_
  refine mm_put X dX10_matchingCost_2 gX10 iX10_matchingCost_X10 rfl tyX10 tyX10_ok nmX10 0 (by decide) kX10_matchingCost_43 rfl rfl rfl (Nat.le_of_ble_eq_true rfl) rfl ?_
  refine tv_aload_n X dX10_matchingCost_5 rfl ?_
  refine mm_callVv (q := (RX10, TX10, 20)) X dX10_matchingCost_6 (cX10_findsMatching_ok (rgR_ag hS (mupd_n (by decide)))) (cwV 0 X.2.2.2.2.1 gX10_matchingCost_X10_findsMatching rfl rfl rfl (by decide +kernel) ⟨Nat.le_of_ble_eq_true rfl, Nat.le_of_ble_eq_true rfl⟩) rfl rfl gX10 rfl (Nat.le_of_ble_eq_true rfl) ⟨Nat.zero_le _, Nat.zero_le _⟩ (fun S1 hq => ?_)
  obtain ⟨k1, hk1, hq1⟩ := hq
  rw [frS_D hk1] at hq1
  rw [hq1]
  refine tv_aload_n X dX10_matchingCost_9 rfl ?_
  refine mm_getf X dX10_matchingCost_10 gX10 iX10_matchingCost_X10 rfl 18 (by decide) kX10_matchingCost_37 rfl ?_
  refine tv_iconst (v := 0) X dX10_matchingCost_13 (by decide) ?_
  refine mm_iald X dX10_matchingCost_14 g140 0 (by decide) (by decide) (by decide) ?_
  exact tv_iret X hrt dX10_matchingCost_15 ⟨_, rfl, rfl, rfl⟩
theorem iX10_downIfScanned_X10 : ∀ w ∈ wsX100, w ∈ wsX10_downIfScanned := by decide +kernel
theorem kX10_downIfScanned_43 : Cond.fieldLink RX10 43 (TX10 0).1 (TX10 0).2.1 (TX10 0).2.2.1 ∈ wsX10_downIfScanned := by decide +kernel
theorem kX10_downIfScanned_66 : Cond.fieldLink RX10 66 (TX10 17).1 (TX10 17).2.1 (TX10 17).2.2.1 ∈ wsX10_downIfScanned := by decide +kernel
theorem cX10_downIfScanned_ok (hS : rgR S) : mMi l yX10_downIfScanned wsX10_downIfScanned rmX10_downIfScanned D n0 ft [.ref (n0 + 130)] n S (fun r S' => S' = fmE (fcE (frD (mupd S 130 0 0))) ∧ r = (dsT S' (moN S' (umR S' 6) (scnM S')) 6).2) := by
  refine tv_enter (cc := cX10_downIfScanned) (maxL := 6) (ret := (some .int)) (by decide) rfl (Nat.le_of_ble_eq_true rfl) ?_
  intro p e s m args below meth c X hrt hnm hargs
  refine tv_aload_n X dX10_downIfScanned_0 rfl ?_
  refine tv_iconst (v := 0) X dX10_downIfScanned_1 (by decide) ?_
  refine mm_put X dX10_downIfScanned_2 gX10 iX10_downIfScanned_X10 rfl tyX10 tyX10_ok nmX10 0 (by decide) kX10_downIfScanned_43 rfl rfl rfl (Nat.le_of_ble_eq_true rfl) rfl ?_
  refine tv_aload_n X dX10_downIfScanned_5 rfl ?_
  refine mm_callVv (q := (RX10, TX10, 20)) X dX10_downIfScanned_6 (cX10_findsMatching_ok (rgR_ag hS (mupd_n (by decide)))) (cwV 0 X.2.2.2.2.1 gX10_downIfScanned_X10_findsMatching rfl rfl rfl (by decide +kernel) ⟨Nat.le_of_ble_eq_true rfl, Nat.le_of_ble_eq_true rfl⟩) rfl rfl gX10 rfl (Nat.le_of_ble_eq_true rfl) ⟨Nat.zero_le _, Nat.zero_le _⟩ (fun S1 hq => ?_)
  obtain ⟨k1, hk1, hq1⟩ := hq
  rw [frS_D hk1] at hq1
  rw [hq1]
  clear hq1
  have hk : ∃ k, k ≤ 6 ∧ (fmE (fcE (frD (mupd S 130 0 0)))).1 130 17 = nI k := by
    refine ⟨min (fcN (frD (mupd S 130 0 0)) 48) 6, Nat.min_le_right _ _, ?_⟩
    rw [fmE_n (by decide)]
    exact fcE_c
  generalize fmE (fcE (frD (mupd S 130 0 0))) = T at hk ⊢
  obtain ⟨k, hk6, hkc⟩ := hk
  have hsc : scnM T = k := by unfold scnM; rw [hkc, nI_clamp (by omega)]
  have hpost : ∀ r, r = (dsT T (moN T (umR T 6) k) 6).2 → ∀ S' : mS, S' = T → S' = T ∧ r = (dsT S' (moN S' (umR S' 6) (scnM S')) 6).2 := fun r h S' e => by
    subst e
    rw [hsc]
    exact ⟨rfl, h⟩
  refine tv_aload_n X dX10_downIfScanned_9 rfl ?_
  refine mm_callVi (q := (RX10, TX10, 20)) X dX10_downIfScanned_10 (cX10_unmatched_ok) (cwV 0 X.2.2.2.2.1 gX10_downIfScanned_X10_unmatched rfl rfl rfl (by decide +kernel) ⟨Nat.le_of_ble_eq_true rfl, Nat.le_of_ble_eq_true rfl⟩) rfl rfl gX10 rfl (Nat.le_of_ble_eq_true rfl) ⟨Nat.zero_le _, Nat.zero_le _⟩ (fun r S1 hq => ?_)
  obtain ⟨hq1, hq2⟩ := hq
  rw [hq1, hq2]
  clear hq1 hq2
  generalize umR T 6 = left at hpost ⊢
  refine tv_istore_n X dX10_downIfScanned_13 rfl ?_
  refine tv_iconst (v := 0) X dX10_downIfScanned_14 (by decide) ?_
  refine tv_istore_n X dX10_downIfScanned_15 rfl ?_
  refine tv_iconst (v := 0) X dX10_downIfScanned_16 (by decide) ?_
  refine tv_istore_n X dX10_downIfScanned_17 rfl ?_
  refine mm_for k (fun i => [(0, .ref (n0 + 130)), (1, .int left), (2, .int (moN T left i)), (3, .int (nI i))]) (fun _ => T) ?_ ?_
  · intro i hi ih
    dsimp only at ih
    have hnx : moN T left (i + 1) = moN T left i + ((left >>> (nI i &&& 31)) &&& 1) := rfl
    rw [hnx] at ih
    refine tv_iload_n X dX10_downIfScanned_18 rfl ?_
    refine tv_aload_n X dX10_downIfScanned_19 rfl ?_
    refine mm_getf X dX10_downIfScanned_20 gX10 iX10_downIfScanned_X10 rfl 17 (by decide) kX10_downIfScanned_66 rfl ?_
    rw [hkc]
    refine tv_icmp_ge (tgt := 40) X dX10_downIfScanned_23 (by decide) (fun h3 => ?_) (fun h3 => ?_)
    · exact absurd h3 (nI_ge hi (by omega))
    refine tv_iload_n X dX10_downIfScanned_26 rfl ?_
    refine tv_iload_n X dX10_downIfScanned_27 rfl ?_
    refine tv_iload_n X dX10_downIfScanned_28 rfl ?_
    refine tv_ishr X dX10_downIfScanned_29 ?_
    refine tv_iconst (v := 1) X dX10_downIfScanned_30 (by decide) ?_
    refine tv_iand X dX10_downIfScanned_31 ?_
    refine tv_iadd X dX10_downIfScanned_32 ?_
    refine tv_istore_n X dX10_downIfScanned_33 rfl ?_
    refine tv_iinc X dX10_downIfScanned_34 rfl (nI_1 i) rfl ?_
    refine tv_goto (tgt := 18) X dX10_downIfScanned_37 (by decide) ?_
    exact ih
  refine tv_iload_n X dX10_downIfScanned_18 rfl ?_
  refine tv_aload_n X dX10_downIfScanned_19 rfl ?_
  refine mm_getf X dX10_downIfScanned_20 gX10 iX10_downIfScanned_X10 rfl 17 (by decide) kX10_downIfScanned_66 rfl ?_
  rw [hkc]
  refine tv_icmp_ge (tgt := 40) X dX10_downIfScanned_23 (by decide) (fun h3 => ?_) (fun h3 => ?_)
  rotate_left
  · exact absurd (nI_le (Nat.le_refl _) (by omega)) h3
  generalize moN T left k = m0 at hpost ⊢
  refine tv_iconst (v := 0) X dX10_downIfScanned_40 (by decide) ?_
  refine tv_istore_n X dX10_downIfScanned_41 rfl ?_
  refine tv_iconst (v := 0) X dX10_downIfScanned_42 (by decide) ?_
  refine tv_istore X dX10_downIfScanned_43 rfl ?_
  refine mm_L (L' := [(0, .ref (n0 + 130)), (1, .int left), (2, .int (dsT T m0 0).1), (3, .int (dsT T m0 0).2), (4, .int (nI 0))]) rfl ?_
  refine mm_for 6 (fun t => [(0, .ref (n0 + 130)), (1, .int left), (2, .int (dsT T m0 t).1), (3, .int (dsT T m0 t).2), (4, .int (nI t))]) (fun _ => T) ?_ ?_
  · intro t ht ih
    dsimp only at ih
    have hnx : dsT T m0 (t + 1) = ((dsT T m0 t).1 - bz (!(dwR T t) && decide (0 < (dsT T m0 t).1)), (dsT T m0 t).2 ||| (if (!(dwR T t) && decide (0 < (dsT T m0 t).1)) || sdM T t then ((1 : Int32) <<< (nI t &&& 31)) else 0)) := rfl
    rw [hnx] at ih
    generalize dsT T m0 t = q at ih ⊢
    obtain ⟨mo, set⟩ := q
    dsimp only at ih ⊢
    refine tv_iload X dX10_downIfScanned_45 rfl ?_
    refine tv_bipush (v := 6) X dX10_downIfScanned_47 (by decide) ?_
    refine tv_icmp_ge (tgt := 116) X dX10_downIfScanned_49 (by decide) (fun h4 => ?_) (fun h4 => ?_)
    · exact absurd h4 (nI_ge (a := t) (b := 6) ht (by decide))
    refine tv_aload_n X dX10_downIfScanned_52 rfl ?_
    refine tv_iload X dX10_downIfScanned_53 rfl ?_
    refine mm_callVi (q := (RX10, TX10, 20)) X dX10_downIfScanned_55 (cX10_isDownNow_ok ht) (cwV 1 X.2.2.2.2.1 gX10_downIfScanned_X10_isDownNow rfl rfl rfl (by decide +kernel) ⟨Nat.le_of_ble_eq_true rfl, Nat.le_of_ble_eq_true rfl⟩) rfl rfl gX10 rfl (Nat.le_of_ble_eq_true rfl) ⟨Nat.zero_le _, Nat.zero_le _⟩ (fun r S1 hq => ?_)
    obtain ⟨hq1, hq2⟩ := hq
    rw [hq1, hq2]
    clear hq1 hq2
    refine mm_cut (pc := 70) (fun v : Int32 => v = bz (!(dwR T t) && decide (0 < mo))) (fun _ => [(0, .ref (n0 + 130)), (1, .int left), (2, .int mo), (3, .int set), (4, .int (nI t))]) (fun v => [.int v]) (fun _ => T) ?_ ?_
    · intro v hv
      rw [hv]
      clear hv
      cases hc : (!(dwR T t) && decide (0 < mo)) with
      | false =>
        rw [hc] at ih
        refine tv_istore X dX10_downIfScanned_70 rfl ?_
        refine tv_iload_n X dX10_downIfScanned_72 rfl ?_
        refine tv_iload X dX10_downIfScanned_73 rfl ?_
        refine tv_if_eq (tgt := 82) X dX10_downIfScanned_75 (by decide) (fun h5 => ?_) (fun h5 => ?_)
        rotate_left
        · exact absurd rfl h5
        refine tv_iconst (v := 0) X dX10_downIfScanned_82 (by decide) ?_
        refine tv_isub X dX10_downIfScanned_83 ?_
        refine tv_istore_n X dX10_downIfScanned_84 rfl ?_
        refine tv_iload_n X dX10_downIfScanned_85 rfl ?_
        refine tv_iload X dX10_downIfScanned_86 rfl ?_
        refine tv_if_ne (tgt := 100) X dX10_downIfScanned_88 (by decide) (fun h6 => ?_) (fun h6 => ?_)
        · exact absurd rfl h6
        refine tv_aload_n X dX10_downIfScanned_91 rfl ?_
        refine tv_iload X dX10_downIfScanned_92 rfl ?_
        refine mm_callVi (q := (RX10, TX10, 20)) X dX10_downIfScanned_94 (cX10_staysDown_ok ht) (cwV 1 X.2.2.2.2.1 gX10_downIfScanned_X10_staysDown rfl rfl rfl (by decide +kernel) ⟨Nat.le_of_ble_eq_true rfl, Nat.le_of_ble_eq_true rfl⟩) rfl rfl gX10 rfl (Nat.le_of_ble_eq_true rfl) ⟨Nat.zero_le _, Nat.zero_le _⟩ (fun r S1 hq => ?_)
        obtain ⟨hq1, hq2⟩ := hq
        rw [hq1, hq2]
        clear hq1 hq2
        cases hs : sdM T t with
        | false =>
          rw [hs] at ih
          refine tv_if_eq (tgt := 107) X dX10_downIfScanned_97 (by decide) (fun h7 => ?_) (fun h7 => ?_)
          rotate_left
          · exact absurd rfl h7
          refine tv_iconst (v := 0) X dX10_downIfScanned_107 (by decide) ?_
          refine tv_ior X dX10_downIfScanned_108 ?_
          refine tv_istore_n X dX10_downIfScanned_109 rfl ?_
          refine tv_iinc X dX10_downIfScanned_110 rfl (nI_1 t) rfl ?_
          refine tv_goto (tgt := 45) X dX10_downIfScanned_113 (by decide) ?_
          exact tv_sl [0, 1, 2, 3, 4] rfl ih
        | true =>
          rw [hs] at ih
          refine tv_if_eq (tgt := 107) X dX10_downIfScanned_97 (by decide) (fun h7 => ?_) (fun h7 => ?_)
          · exact absurd h7 (by decide)
          refine tv_iconst (v := 1) X dX10_downIfScanned_100 (by decide) ?_
          refine tv_iload X dX10_downIfScanned_101 rfl ?_
          refine tv_ishl X dX10_downIfScanned_103 ?_
          refine tv_goto (tgt := 108) X dX10_downIfScanned_104 (by decide) ?_
          refine tv_ior X dX10_downIfScanned_108 ?_
          refine tv_istore_n X dX10_downIfScanned_109 rfl ?_
          refine tv_iinc X dX10_downIfScanned_110 rfl (nI_1 t) rfl ?_
          refine tv_goto (tgt := 45) X dX10_downIfScanned_113 (by decide) ?_
          exact tv_sl [0, 1, 2, 3, 4] rfl ih
      | true =>
        rw [hc] at ih
        refine tv_istore X dX10_downIfScanned_70 rfl ?_
        refine tv_iload_n X dX10_downIfScanned_72 rfl ?_
        refine tv_iload X dX10_downIfScanned_73 rfl ?_
        refine tv_if_eq (tgt := 82) X dX10_downIfScanned_75 (by decide) (fun h5 => ?_) (fun h5 => ?_)
        · exact absurd h5 (by decide)
        refine tv_iconst (v := 1) X dX10_downIfScanned_78 (by decide) ?_
        refine tv_goto (tgt := 83) X dX10_downIfScanned_79 (by decide) ?_
        refine tv_isub X dX10_downIfScanned_83 ?_
        refine tv_istore_n X dX10_downIfScanned_84 rfl ?_
        refine tv_iload_n X dX10_downIfScanned_85 rfl ?_
        refine tv_iload X dX10_downIfScanned_86 rfl ?_
        refine tv_if_ne (tgt := 100) X dX10_downIfScanned_88 (by decide) (fun h6 => ?_) (fun h6 => ?_)
        rotate_left
        · exact absurd h6 (by decide)
        refine tv_iconst (v := 1) X dX10_downIfScanned_100 (by decide) ?_
        refine tv_iload X dX10_downIfScanned_101 rfl ?_
        refine tv_ishl X dX10_downIfScanned_103 ?_
        refine tv_goto (tgt := 108) X dX10_downIfScanned_104 (by decide) ?_
        refine tv_ior X dX10_downIfScanned_108 ?_
        refine tv_istore_n X dX10_downIfScanned_109 rfl ?_
        refine tv_iinc X dX10_downIfScanned_110 rfl (nI_1 t) rfl ?_
        refine tv_goto (tgt := 45) X dX10_downIfScanned_113 (by decide) ?_
        exact tv_sl [0, 1, 2, 3, 4] rfl ih
    intro hcut
    cases hd : dwR T t with
    | true =>
      rw [hd] at hcut
      refine tv_if_ne (tgt := 69) X dX10_downIfScanned_58 (by decide) (fun h5 => ?_) (fun h5 => ?_)
      rotate_left
      · exact absurd h5 (by decide)
      refine tv_iconst (v := 0) X dX10_downIfScanned_69 (by decide) ?_
      exact hcut 0 rfl
    | false =>
      rw [hd] at hcut
      refine tv_if_ne (tgt := 69) X dX10_downIfScanned_58 (by decide) (fun h5 => ?_) (fun h5 => ?_)
      · exact absurd rfl h5
      refine tv_iload_n X dX10_downIfScanned_61 rfl ?_
      refine tv_if_le (tgt := 69) X dX10_downIfScanned_62 (by decide) (fun h6 => ?_) (fun h6 => ?_)
      · refine tv_iconst (v := 0) X dX10_downIfScanned_69 (by decide) ?_
        exact hcut 0 (by rw [decide_eq_false (Int32.not_lt.mpr h6)]; rfl)
      · refine tv_iconst (v := 1) X dX10_downIfScanned_65 (by decide) ?_
        refine tv_goto (tgt := 70) X dX10_downIfScanned_66 (by decide) ?_
        exact hcut 1 (by rw [decide_eq_true (Int32.not_le.mp h6)]; rfl)
  · refine tv_iload X dX10_downIfScanned_45 rfl ?_
    refine tv_bipush (v := 6) X dX10_downIfScanned_47 (by decide) ?_
    refine tv_icmp_ge (tgt := 116) X dX10_downIfScanned_49 (by decide) (fun h4 => ?_) (fun h4 => ?_)
    · refine tv_iload_n X dX10_downIfScanned_116 rfl ?_
      exact tv_iret X hrt dX10_downIfScanned_117 ⟨_, rfl, hpost _ rfl _ rfl⟩
    · exact absurd (nI_le (Nat.le_refl 6) (by decide)) h4
theorem iX10_frames_X10 : ∀ w ∈ wsX100, w ∈ wsX10_frames := by decide +kernel
theorem kX10_frames_43 : Cond.fieldLink RX10 43 (TX10 0).1 (TX10 0).2.1 (TX10 0).2.2.1 ∈ wsX10_frames := by decide +kernel
theorem kX10_frames_7 : Cond.fieldLink RX10 7 (TX10 1).1 (TX10 1).2.1 (TX10 1).2.2.1 ∈ wsX10_frames := by decide +kernel
theorem cX10_frames_ok : mMi l yX10_frames wsX10_frames rmX10_frames D n0 ft [.ref (n0 + 130)] n S (fun r S' => S' = mupd S 130 0 0 ∧ r = S.1 131 131) := by
  refine tv_enter (cc := cX10_frames) (maxL := 1) (ret := (some .int)) (by decide) rfl (Nat.le_of_ble_eq_true rfl) ?_
  intro p e s m args below meth c X hrt hnm hargs
  refine tv_aload_n X dX10_frames_0 rfl ?_
  refine tv_iconst (v := 0) X dX10_frames_1 (by decide) ?_
  refine mm_put X dX10_frames_2 gX10 iX10_frames_X10 rfl tyX10 tyX10_ok nmX10 0 (by decide) kX10_frames_43 rfl rfl rfl (Nat.le_of_ble_eq_true rfl) rfl ?_
  refine tv_aload_n X dX10_frames_5 rfl ?_
  refine mm_getf X dX10_frames_6 gX10 iX10_frames_X10 rfl 1 (by decide) kX10_frames_7 rfl ?_
  refine tv_sipush (v := 131) X dX10_frames_9 (by decide) ?_
  refine mm_iald X dX10_frames_12 g131 131 (by decide) (by decide) (by decide) ?_
  exact tv_iret X hrt dX10_frames_13 ⟨_, rfl, rfl, by rw [mupd_n (by decide)]⟩
theorem iX10_downs_X10 : ∀ w ∈ wsX100, w ∈ wsX10_downs := by decide +kernel
theorem kX10_downs_43 : Cond.fieldLink RX10 43 (TX10 0).1 (TX10 0).2.1 (TX10 0).2.2.1 ∈ wsX10_downs := by decide +kernel
theorem kX10_downs_7 : Cond.fieldLink RX10 7 (TX10 1).1 (TX10 1).2.1 (TX10 1).2.2.1 ∈ wsX10_downs := by decide +kernel
theorem cX10_downs_ok : mMi l yX10_downs wsX10_downs rmX10_downs D n0 ft [.ref (n0 + 130)] n S (fun r S' => S' = mupd S 130 0 0 ∧ r = S.1 131 132) := by
  refine tv_enter (cc := cX10_downs) (maxL := 1) (ret := (some .int)) (by decide) rfl (Nat.le_of_ble_eq_true rfl) ?_
  intro p e s m args below meth c X hrt hnm hargs
  refine tv_aload_n X dX10_downs_0 rfl ?_
  refine tv_iconst (v := 0) X dX10_downs_1 (by decide) ?_
  refine mm_put X dX10_downs_2 gX10 iX10_downs_X10 rfl tyX10 tyX10_ok nmX10 0 (by decide) kX10_downs_43 rfl rfl rfl (Nat.le_of_ble_eq_true rfl) rfl ?_
  refine tv_aload_n X dX10_downs_5 rfl ?_
  refine mm_getf X dX10_downs_6 gX10 iX10_downs_X10 rfl 1 (by decide) kX10_downs_7 rfl ?_
  refine tv_sipush (v := 132) X dX10_downs_9 (by decide) ?_
  refine mm_iald X dX10_downs_12 g131 132 (by decide) (by decide) (by decide) ?_
  exact tv_iret X hrt dX10_downs_13 ⟨_, rfl, rfl, by rw [mupd_n (by decide)]⟩
theorem iX10_ups_X10 : ∀ w ∈ wsX100, w ∈ wsX10_ups := by decide +kernel
theorem kX10_ups_43 : Cond.fieldLink RX10 43 (TX10 0).1 (TX10 0).2.1 (TX10 0).2.2.1 ∈ wsX10_ups := by decide +kernel
theorem kX10_ups_7 : Cond.fieldLink RX10 7 (TX10 1).1 (TX10 1).2.1 (TX10 1).2.2.1 ∈ wsX10_ups := by decide +kernel
theorem cX10_ups_ok : mMi l yX10_ups wsX10_ups rmX10_ups D n0 ft [.ref (n0 + 130)] n S (fun r S' => S' = mupd S 130 0 0 ∧ r = S.1 131 133) := by
  refine tv_enter (cc := cX10_ups) (maxL := 1) (ret := (some .int)) (by decide) rfl (Nat.le_of_ble_eq_true rfl) ?_
  intro p e s m args below meth c X hrt hnm hargs
  refine tv_aload_n X dX10_ups_0 rfl ?_
  refine tv_iconst (v := 0) X dX10_ups_1 (by decide) ?_
  refine mm_put X dX10_ups_2 gX10 iX10_ups_X10 rfl tyX10 tyX10_ok nmX10 0 (by decide) kX10_ups_43 rfl rfl rfl (Nat.le_of_ble_eq_true rfl) rfl ?_
  refine tv_aload_n X dX10_ups_5 rfl ?_
  refine mm_getf X dX10_ups_6 gX10 iX10_ups_X10 rfl 1 (by decide) kX10_ups_7 rfl ?_
  refine tv_sipush (v := 133) X dX10_ups_9 (by decide) ?_
  refine mm_iald X dX10_ups_12 g131 133 (by decide) (by decide) (by decide) ?_
  exact tv_iret X hrt dX10_ups_13 ⟨_, rfl, rfl, by rw [mupd_n (by decide)]⟩
theorem iX10_savedStates_X10 : ∀ w ∈ wsX100, w ∈ wsX10_savedStates := by decide +kernel
theorem kX10_savedStates_43 : Cond.fieldLink RX10 43 (TX10 0).1 (TX10 0).2.1 (TX10 0).2.2.1 ∈ wsX10_savedStates := by decide +kernel
theorem kX10_savedStates_118 : Cond.fieldLink RX10 118 (TX10 2).1 (TX10 2).2.1 (TX10 2).2.2.1 ∈ wsX10_savedStates := by decide +kernel
theorem cX10_savedStates_ok : mMi l yX10_savedStates wsX10_savedStates rmX10_savedStates D n0 ft [.ref (n0 + 130)] n S (fun r S' => S' = mupd S 130 0 0 ∧ r = S.1 130 2) := by
  refine tv_enter (cc := cX10_savedStates) (maxL := 1) (ret := (some .int)) (by decide) rfl (Nat.le_of_ble_eq_true rfl) ?_
  intro p e s m args below meth c X hrt hnm hargs
  refine tv_aload_n X dX10_savedStates_0 rfl ?_
  refine tv_iconst (v := 0) X dX10_savedStates_1 (by decide) ?_
  refine mm_put X dX10_savedStates_2 gX10 iX10_savedStates_X10 rfl tyX10 tyX10_ok nmX10 0 (by decide) kX10_savedStates_43 rfl rfl rfl (Nat.le_of_ble_eq_true rfl) rfl ?_
  refine tv_aload_n X dX10_savedStates_5 rfl ?_
  refine mm_getf X dX10_savedStates_6 gX10 iX10_savedStates_X10 rfl 2 (by decide) kX10_savedStates_118 rfl ?_
  exact tv_iret X hrt dX10_savedStates_9 ⟨_, rfl, rfl, mupd_sn (by decide)⟩
theorem iX10_textLength_X10 : ∀ w ∈ wsX100, w ∈ wsX10_textLength := by decide +kernel
theorem kX10_textLength_43 : Cond.fieldLink RX10 43 (TX10 0).1 (TX10 0).2.1 (TX10 0).2.2.1 ∈ wsX10_textLength := by decide +kernel
theorem kX10_textLength_156 : Cond.fieldLink RX10 156 (TX10 4).1 (TX10 4).2.1 (TX10 4).2.2.1 ∈ wsX10_textLength := by decide +kernel
theorem cX10_textLength_ok : mMi l yX10_textLength wsX10_textLength rmX10_textLength D n0 ft [.ref (n0 + 130)] n S (fun r S' => S' = mupd S 130 0 0 ∧ r = S.1 130 4) := by
  refine tv_enter (cc := cX10_textLength) (maxL := 1) (ret := (some .int)) (by decide) rfl (Nat.le_of_ble_eq_true rfl) ?_
  intro p e s m args below meth c X hrt hnm hargs
  refine tv_aload_n X dX10_textLength_0 rfl ?_
  refine tv_iconst (v := 0) X dX10_textLength_1 (by decide) ?_
  refine mm_put X dX10_textLength_2 gX10 iX10_textLength_X10 rfl tyX10 tyX10_ok nmX10 0 (by decide) kX10_textLength_43 rfl rfl rfl (Nat.le_of_ble_eq_true rfl) rfl ?_
  refine tv_aload_n X dX10_textLength_5 rfl ?_
  refine mm_getf X dX10_textLength_6 gX10 iX10_textLength_X10 rfl 4 (by decide) kX10_textLength_156 rfl ?_
  exact tv_iret X hrt dX10_textLength_9 ⟨_, rfl, rfl, mupd_sn (by decide)⟩
theorem iX10_meanSignal_X10 : ∀ w ∈ wsX100, w ∈ wsX10_meanSignal := by decide +kernel
theorem kX10_meanSignal_43 : Cond.fieldLink RX10 43 (TX10 0).1 (TX10 0).2.1 (TX10 0).2.2.1 ∈ wsX10_meanSignal := by decide +kernel
theorem cX10_meanSignal_ok : mMf l yX10_meanSignal wsX10_meanSignal rmX10_meanSignal D n0 ft [.ref (n0 + 130)] n S (fun r S' => S' = mupd S 130 0 0 ∧ r = mnV S) := by
  refine tv_enter (cc := cX10_meanSignal) (maxL := 4) (ret := (some .float)) (by decide) rfl (Nat.le_of_ble_eq_true rfl) ?_
  intro p e s m args below meth c X hrt hnm hargs
  refine tv_aload_n X dX10_meanSignal_0 rfl ?_
  refine tv_iconst (v := 0) X dX10_meanSignal_1 (by decide) ?_
  refine mm_put X dX10_meanSignal_2 gX10 iX10_meanSignal_X10 rfl tyX10 tyX10_ok nmX10 0 (by decide) kX10_meanSignal_43 rfl rfl rfl (Nat.le_of_ble_eq_true rfl) rfl ?_
  refine tv_iconst (v := 0) X dX10_meanSignal_5 (by decide) ?_
  refine tv_istore_n X dX10_meanSignal_6 rfl ?_
  refine tv_iconst (v := 0) X dX10_meanSignal_7 (by decide) ?_
  refine tv_istore_n X dX10_meanSignal_8 rfl ?_
  refine tv_iconst (v := 0) X dX10_meanSignal_9 (by decide) ?_
  refine tv_istore_n X dX10_meanSignal_10 rfl ?_
  have hsg : sgR (mupd S 130 0 0) = sgR S := sgR_ag (mupd_n (by decide))
  have h131 : (mupd S 130 0 0).1 131 = S.1 131 := mupd_n (by decide)
  generalize mupd S 130 0 0 = T at hsg h131 ⊢
  refine mm_for 48 (fun i => [(0, .ref (n0 + 130)), (1, .int (mnS S i)), (2, .int (mnN S i)), (3, .int (nI i))]) (fun _ => T) ?_ ?_
  · intro i hi ih
    dsimp only at ih
    have hn1 : mnS S (i + 1) = mnS S i + (if S.1 131 96 ≤ sgR S i then sgR S i else 0) := rfl
    have hn2 : mnN S (i + 1) = mnN S i + (if S.1 131 96 ≤ sgR S i then 1 else 0) := rfl
    rw [hn1, hn2] at ih
    refine tv_iload_n X dX10_meanSignal_11 rfl ?_
    refine tv_bipush (v := 48) X dX10_meanSignal_12 (by decide) ?_
    refine tv_icmp_ge (tgt := 59) X dX10_meanSignal_14 (by decide) (fun h1 => ?_) (fun h1 => ?_)
    · exact absurd h1 (nI_ge (a := i) (b := 48) hi (by decide))
    refine tv_iload_n X dX10_meanSignal_17 rfl ?_
    refine tv_aload_n X dX10_meanSignal_18 rfl ?_
    refine tv_iload_n X dX10_meanSignal_19 rfl ?_
    refine mm_callVi (q := (RX10, TX10, 20)) X dX10_meanSignal_20 (cX10_isTouched_ok hi) (cwV 1 X.2.2.2.2.1 gX10_meanSignal_X10_isTouched rfl rfl rfl (by decide +kernel) ⟨Nat.le_of_ble_eq_true rfl, Nat.le_of_ble_eq_true rfl⟩) rfl rfl gX10 rfl (Nat.le_of_ble_eq_true rfl) ⟨Nat.zero_le _, Nat.zero_le _⟩ (fun r S1 hq => ?_)
    obtain ⟨hq1, hq2⟩ := hq
    rw [hsg, h131] at hq2
    rw [hq1, hq2]
    clear hq1 hq2
    by_cases ht : S.1 131 96 ≤ sgR S i
    · rw [if_pos ht, if_pos ht] at ih
      rw [decide_eq_true ht]
      refine tv_if_eq (tgt := 34) X dX10_meanSignal_23 (by decide) (fun h2 => ?_) (fun h2 => ?_)
      · exact absurd h2 (by decide)
      refine tv_aload_n X dX10_meanSignal_26 rfl ?_
      refine tv_iload_n X dX10_meanSignal_27 rfl ?_
      refine mm_callVi (q := (RX10, TX10, 20)) X dX10_meanSignal_28 (cX10_signalOf_ok hi) (cwV 1 X.2.2.2.2.1 gX10_meanSignal_X10_signalOf rfl rfl rfl (by decide +kernel) ⟨Nat.le_of_ble_eq_true rfl, Nat.le_of_ble_eq_true rfl⟩) rfl rfl gX10 rfl (Nat.le_of_ble_eq_true rfl) ⟨Nat.zero_le _, Nat.zero_le _⟩ (fun r S1 hq => ?_)
      obtain ⟨hq1, hq2⟩ := hq
      rw [hsg] at hq2
      rw [hq1, hq2]
      clear hq1 hq2
      refine tv_goto (tgt := 35) X dX10_meanSignal_31 (by decide) ?_
      refine tv_iadd X dX10_meanSignal_35 ?_
      refine tv_istore_n X dX10_meanSignal_36 rfl ?_
      refine tv_iload_n X dX10_meanSignal_37 rfl ?_
      refine tv_aload_n X dX10_meanSignal_38 rfl ?_
      refine tv_iload_n X dX10_meanSignal_39 rfl ?_
      refine mm_callVi (q := (RX10, TX10, 20)) X dX10_meanSignal_40 (cX10_isTouched_ok hi) (cwV 1 X.2.2.2.2.1 gX10_meanSignal_X10_isTouched rfl rfl rfl (by decide +kernel) ⟨Nat.le_of_ble_eq_true rfl, Nat.le_of_ble_eq_true rfl⟩) rfl rfl gX10 rfl (Nat.le_of_ble_eq_true rfl) ⟨Nat.zero_le _, Nat.zero_le _⟩ (fun r S1 hq => ?_)
      obtain ⟨hq1, hq2⟩ := hq
      rw [hsg, h131, decide_eq_true ht] at hq2
      rw [hq1, hq2]
      clear hq1 hq2
      refine tv_if_eq (tgt := 50) X dX10_meanSignal_43 (by decide) (fun h3 => ?_) (fun h3 => ?_)
      · exact absurd h3 (by decide)
      refine tv_iconst (v := 1) X dX10_meanSignal_46 (by decide) ?_
      refine tv_goto (tgt := 51) X dX10_meanSignal_47 (by decide) ?_
      refine tv_iadd X dX10_meanSignal_51 ?_
      refine tv_istore_n X dX10_meanSignal_52 rfl ?_
      refine tv_iinc X dX10_meanSignal_53 rfl (nI_1 i) rfl ?_
      refine tv_goto (tgt := 11) X dX10_meanSignal_56 (by decide) ?_
      exact ih
    · rw [if_neg ht, if_neg ht] at ih
      rw [decide_eq_false ht]
      refine tv_if_eq (tgt := 34) X dX10_meanSignal_23 (by decide) (fun h2 => ?_) (fun h2 => ?_)
      rotate_left
      · exact absurd rfl h2
      refine tv_iconst (v := 0) X dX10_meanSignal_34 (by decide) ?_
      refine tv_iadd X dX10_meanSignal_35 ?_
      refine tv_istore_n X dX10_meanSignal_36 rfl ?_
      refine tv_iload_n X dX10_meanSignal_37 rfl ?_
      refine tv_aload_n X dX10_meanSignal_38 rfl ?_
      refine tv_iload_n X dX10_meanSignal_39 rfl ?_
      refine mm_callVi (q := (RX10, TX10, 20)) X dX10_meanSignal_40 (cX10_isTouched_ok hi) (cwV 1 X.2.2.2.2.1 gX10_meanSignal_X10_isTouched rfl rfl rfl (by decide +kernel) ⟨Nat.le_of_ble_eq_true rfl, Nat.le_of_ble_eq_true rfl⟩) rfl rfl gX10 rfl (Nat.le_of_ble_eq_true rfl) ⟨Nat.zero_le _, Nat.zero_le _⟩ (fun r S1 hq => ?_)
      obtain ⟨hq1, hq2⟩ := hq
      rw [hsg, h131, decide_eq_false ht] at hq2
      rw [hq1, hq2]
      clear hq1 hq2
      refine tv_if_eq (tgt := 50) X dX10_meanSignal_43 (by decide) (fun h3 => ?_) (fun h3 => ?_)
      rotate_left
      · exact absurd rfl h3
      refine tv_iconst (v := 0) X dX10_meanSignal_50 (by decide) ?_
      refine tv_iadd X dX10_meanSignal_51 ?_
      refine tv_istore_n X dX10_meanSignal_52 rfl ?_
      refine tv_iinc X dX10_meanSignal_53 rfl (nI_1 i) rfl ?_
      refine tv_goto (tgt := 11) X dX10_meanSignal_56 (by decide) ?_
      exact ih
  · refine tv_iload_n X dX10_meanSignal_11 rfl ?_
    refine tv_bipush (v := 48) X dX10_meanSignal_12 (by decide) ?_
    refine tv_icmp_ge (tgt := 59) X dX10_meanSignal_14 (by decide) (fun h1 => ?_) (fun h1 => ?_)
    rotate_left
    · exact absurd (nI_le (Nat.le_refl 48) (by decide)) h1
    refine tv_iload_n X dX10_meanSignal_59 rfl ?_
    have hmv : mnV S = if mnN S 48 = 0 then FP.fconst0 else FP.fdiv (FP.i2f (mnS S 48)) (FP.i2f (mnN S 48)) := rfl
    by_cases h0 : mnN S 48 = 0
    · refine tv_if_ne (tgt := 67) X dX10_meanSignal_60 (by decide) (fun h2 => ?_) (fun h2 => ?_)
      · exact absurd h0 h2
      rw [if_pos h0] at hmv
      refine tv_fconst0 X dX10_meanSignal_63 ?_
      refine tv_goto (tgt := 72) X dX10_meanSignal_64 (by decide) ?_
      exact tv_fret X hrt dX10_meanSignal_72 ⟨_, rfl, rfl, hmv.symm⟩
    · refine tv_if_ne (tgt := 67) X dX10_meanSignal_60 (by decide) (fun h2 => ?_) (fun h2 => ?_)
      rotate_left
      · exact absurd h2 h0
      rw [if_neg h0] at hmv
      refine tv_iload_n X dX10_meanSignal_67 rfl ?_
      refine tv_i2f X dX10_meanSignal_68 ?_
      refine tv_iload_n X dX10_meanSignal_69 rfl ?_
      refine tv_i2f X dX10_meanSignal_70 ?_
      refine tv_fdiv X dX10_meanSignal_71 (n32_of (fdiv_num h0)) ?_
      exact tv_fret X hrt dX10_meanSignal_72 ⟨_, rfl, rfl, hmv.symm⟩
end C39

