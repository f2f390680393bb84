theorem n64_of {r : UInt64} (h : FP.Core.dIsNaN r = false) : vf_n64 r := by
  unfold vf_n64
  rw [UInt64.le_iff_toNat_le, UInt64.toNat_and]
  have h1 : ¬ FP.Core.dIsNaN r = true := by rw [h]; decide
  rw [FP.Core.isNaN_bits] at h1
  have h2 : r.toNat &&& (0x7fffffffffffffff : UInt64).toNat = r.toNat % 2 ^ 63 := Nat.and_two_pow_sub_one_eq_mod r.toNat 63
  rw [h2]
  exact Nat.le_of_not_lt h1
theorem cm_num {S : mS} : FP.Core.fIsNaN (cmV S) = false := by
  unfold cmV
  by_cases h : 0 < cmN S 48
  · rw [if_pos h]
    exact fdiv_num (fun e => by rw [e] at h; exact absurd h (by decide))
  · rw [if_neg h]
    decide +kernel
section LWD
variable {p : Program} {l : Launch} {e : Env} {R : Room} {s : State} {m : MethodId} {args : Array Value} {below : List Frame} {meth : Method} {c : Code} {Q : State → Prop} {D : va_G} {n0 cells slots nL pc : Nat} {L : List (Nat × Value)} {st : List Value} {n : Nat} {h : tv_H} {cc : ByteArray} {own : String} {Ts : List Cond} {ft : Nat × Nat × Nat} {S : mS} {b t Ln : Nat} {xs : Nat → Int32}
theorem tv_f2d (X : tv_X p s m args meth c cc nL own Ts D vwCl n0 ft) {x : UInt32} (d : decode cc pc = .ok (.f2d, 1)) (hne : vf_n64 (FP.f2d x)) (kk : tv_V p l e R s m args below meth c Q D vwCl n0 cells slots nL (pc + 1) L (.double (FP.f2d x) :: st) n h) : tv_V p l e R s m args below meth c Q D vwCl n0 cells slots nL pc L (.float x :: st) n h := fun H locs ls hr hS hh => lv_f2d X.1 X.2.1 d hne (kk H locs ls hr hS hh)
theorem tv_dstore (X : tv_X p s m args meth c cc nL own Ts D vwCl n0 ft) {i : Nat} {x : UInt64} {L' : List (Nat × Value)} (d : decode cc pc = .ok (.dstore i, 2)) (hn : i + 1 < nL) (hl : (i, Value.double x) :: L.filter (fun q => !(q.1 == i) && (!(q.1 == i + 1) && !(q.1 + 1 == i && q.2.category == 2))) = L') (kk : tv_V p l e R s m args below meth c Q D vwCl n0 cells slots nL (pc + 2) L' st n h) : tv_V p l e R s m args below meth c Q D vwCl n0 cells slots nL pc L (.double x :: st) n h := fun H locs ls hr hS hh => lv_dstore X.1 X.2.1 d hh hn hl (fun ls' hh' => kk H locs ls' hr hS hh')
theorem tv_dload (X : tv_X p s m args meth c cc nL own Ts D vwCl n0 ft) {i : Nat} {x : UInt64} (d : decode cc pc = .ok (.dload i, 2)) (hl : tv_lk L i = some (.double x)) (kk : tv_V p l e R s m args below meth c Q D vwCl n0 cells slots nL (pc + 2) L (.double x :: st) n h) : tv_V p l e R s m args below meth c Q D vwCl n0 cells slots nL pc L st n h := fun H locs ls hr hS hh => lv_dload X.1 X.2.1 d (tv_lk_at hh hl) (kk H locs ls hr hS hh)
theorem tv_dcmp (X : tv_X p s m args meth c cc nL own Ts D vwCl n0 ft) {x y : UInt64} {op : CmpOp} (d : decode cc pc = .ok (.dcmp op, 1)) (kk : tv_V p l e R s m args below meth c Q D vwCl n0 cells slots nL (pc + 1) L (.int (Op.cmpValue (FP.dcmp x y) op) :: st) n h) : tv_V p l e R s m args below meth c Q D vwCl n0 cells slots nL pc L (.double y :: .double x :: st) n h := fun H locs ls hr hS hh => lv_dcmp X.1 X.2.1 d (kk H locs ls hr hS hh)
end LWD
theorem lwc_28 {p : Program} {l : Launch} {e : Env} {s : State} {m : MethodId} {below : List Frame} {meth : Method} {c : Code} {Q : State → Prop} {D : va_G} {n0 cells slots : Nat} {n : Nat} {ft : Nat × Nat × Nat} {S : mS} {b t Ln h k : Nat} {xs : Nat → Int32} (X : tv_X p s m #[Value.ref b] meth c cL_law 9 RL wsL_law D vwCl n0 ft) (hst : l.stackTraces = false) (hX : va_X b Ln xs s s.heap) (hbl : b < s.heap.size) (hbA : ¬ tv_A n0 b) (ht : 4 * t + 4 ≤ Ln) (hL : Ln ≤ 2048) (hI : INV S S h k) (hC : cells + 2 ≤ 601024 ∧ slots + 12 ≤ 7293034) (tail : ∀ (S' : mS) (n' h' k' : Nat), INV S' S' h' k' → tv_V p l e room_1 s m #[Value.ref b] below meth c Q D vwCl n0 (cells + 2) (slots + 12) 9 1467 [(0, .ref b), (1, .ref (n0 + 0)), (2, .ref (n0 + 130)), (3, .ref (n0 + 142)), (4, .int (nI (4 * t)))] [] n' (mH n0 S')) : tv_V p l e room_1 s m #[Value.ref b] below meth c Q D vwCl n0 cells slots 9 1398 [(0, .ref b), (1, .ref (n0 + 0)), (2, .ref (n0 + 130)), (3, .ref (n0 + 142)), (4, .int (nI (4 * t)))] [] n (mH n0 S) := by
  refine tv_aload_n X dL_law_1398 rfl ?_
  refine tv_callVf (q := (RX9, TX9, 8)) X dL_law_1399 cX9_meanSignal_ok (cwV 0 X.2.2.2.2.1 gL_law_X9_meanSignal rfl rfl rfl (by decide +kernel) ⟨Nat.le_of_ble_eq_true rfl, Nat.le_of_ble_eq_true rfl⟩) rfl rfl (mH_at.trans (gX9 _)) rfl (Nat.le_of_ble_eq_true rfl) ⟨show cells ≤ 601024 by omega, show slots ≤ 7293034 by omega⟩ (fun q1 n1 h1 hp => ?_)
  obtain ⟨S1, hu, h1'⟩ := hp
  cases hu
  have hnum : FP.Core.fIsNaN q1 = false := by
    obtain ⟨-, e⟩ := h1'
    rw [e]
    exact cm_num
  obtain ⟨hR, hB⟩ := lc_meanSignal (x := 0) (y := 0) (v := 0) hI h1'
  refine tv_f2d X dL_law_1402 (n64_of ((FP.f2d_nan q1).trans hnum)) ?_
  refine tv_dstore X dL_law_1403 (by decide) rfl ?_
  refine tv_aload_n X dL_law_1405 rfl ?_
  refine tv_callVf (q := (RX10, TX10, 20)) X dL_law_1406 cX10_meanSignal_ok (cwV 0 X.2.2.2.2.1 gL_law_X10_meanSignal rfl rfl rfl (by decide +kernel) ⟨Nat.le_of_ble_eq_true rfl, Nat.le_of_ble_eq_true rfl⟩) rfl rfl (mH_at.trans (gX10 _)) rfl (Nat.le_of_ble_eq_true rfl) ⟨show cells ≤ 601024 by omega, show slots ≤ 7293034 by omega⟩ (fun q2 n2 h2 hp => ?_)
  obtain ⟨S2, hu, h2'⟩ := hp
  cases hu
  obtain ⟨e12, h9, k9, hI9⟩ := hB q2 S2 h2'
  rw [← e12]
  refine tv_f2d X dL_law_1409 (n64_of ((FP.f2d_nan q1).trans hnum)) ?_
  refine tv_dstore X dL_law_1410 (by decide) rfl ?_
  refine tv_dload X dL_law_1412 (x := FP.f2d q1) rfl ?_
  refine tv_dload X dL_law_1414 (x := FP.f2d q1) rfl ?_
  refine tv_dcmp X dL_law_1416 ?_
  have hend : ∀ (cells' slots' : Nat), cells' ≤ cells + 2 → slots' ≤ slots + 12 → tv_V p l e room_1 s m #[Value.ref b] below meth c Q D vwCl n0 cells' slots' 9 1438 [(7, .double (FP.f2d q1)), (5, .double (FP.f2d q1)), (0, .ref b), (1, .ref (n0 + 0)), (2, .ref (n0 + 130)), (3, .ref (n0 + 142)), (4, .int (nI (4 * t)))] [] n (mH n0 S2) := fun cells' slots' hc1 hc2 => by
    refine tv_goto (tgt := 1467) X dL_law_1438 (by decide) ?_
    refine tv_widen (k0 := cells + 2) (k1 := slots + 12) hc1 hc2 ?_
    refine tv_sl (L' := [(0, .ref b), (1, .ref (n0 + 0)), (2, .ref (n0 + 130)), (3, .ref (n0 + 142)), (4, .int (nI (4 * t)))]) [2, 3, 4, 5, 6] rfl ?_
    exact tail S2 n h9 k9 hI9
  refine tv_if_eq (tgt := 1438) X dL_law_1417 (by decide) (fun z1 => ?_) (fun z1 => ?_)
  · exact hend _ _ (by omega) (by omega)
  refine tv_dload X dL_law_1420 (x := FP.f2d q1) rfl ?_
  refine tv_dload X dL_law_1422 (x := FP.f2d q1) rfl ?_
  refine tv_dcmp X dL_law_1424 ?_
  refine tv_if_eq (tgt := 1436) X dL_law_1425 (by decide) (fun z2 => ?_) (fun z2 => ?_)
  · exact absurd z2 z1
  refine tv_dload X dL_law_1428 (x := FP.f2d q1) rfl ?_
  refine tv_dload X dL_law_1430 (x := FP.f2d q1) rfl ?_
  refine tv_dcmp X dL_law_1432 ?_
  refine tv_if_ne (tgt := 1438) X dL_law_1433 (by decide) (fun z3 => ?_) (fun z3 => ?_)
  · exact hend _ _ (by omega) (by omega)
  · exact absurd z3 z1
theorem and31 (x : Int32) : ∃ v, v < 32 ∧ x &&& 31 = nI v := by
  refine ⟨x.toBitVec.toNat % 32, Nat.mod_lt _ (by decide), ?_⟩
  refine Int32.toBitVec_inj.mp ?_
  refine BitVec.eq_of_toNat_eq ?_
  show (x.toBitVec &&& (31 : Int32).toBitVec).toNat = (BitVec.ofNat 32 (x.toBitVec.toNat % 32)).toNat
  rw [BitVec.toNat_and, BitVec.toNat_ofNat, show ((31 : Int32).toBitVec).toNat = 2 ^ 5 - 1 by decide, Nat.and_two_pow_sub_one_eq_mod]
  have := x.toBitVec.isLt
  omega
theorem lw_cmp {Ln t : Nat} (hL : Ln ≤ 2048) (ht : t ≤ 513) : Int32.ofNat Ln - 4 < nI (4 * t) ↔ Ln < 4 * t + 4 := by
  rw [Int32.lt_iff_toInt_lt]
  have h1 : (Int32.ofNat Ln - 4).toInt = (Ln : Int) - 4 := nI_subn (a := Ln) (b := 4) (by omega) (by omega)
  rw [h1, nI_toInt (by omega)]
  omega
theorem law_loop {p : Program} {l : Launch} {e : Env} {s : State} {m : MethodId} {below : List Frame} {meth : Method} {c : Code} {Q : State → Prop} {D : va_G} {n0 : Nat} {ft : Nat × Nat × Nat} {b Ln : Nat} {xs : Nat → Int32} (X : tv_X p s m #[Value.ref b] meth c cL_law 9 RL wsL_law D vwCl n0 ft) (hst : l.stackTraces = false) (hX : va_X b Ln xs s s.heap) (hbl : b < s.heap.size) (hbA : ¬ tv_A n0 b) (hL : Ln ≤ 2048) (hEnd : ∀ (cells slots n : Nat) (L' : List (Nat × Value)) (hh : tv_H), cells ≤ 601024 → slots ≤ 7293034 → tv_V p l e room_1 s m #[Value.ref b] below meth c Q D vwCl n0 cells slots 9 1474 L' [.int 1] n hh) : ∀ (d t : Nat), Ln < 4 * t + 4 * (d + 1) → t + d ≤ 512 → ∀ (S : mS) (n h k cells slots : Nat), INV S S h k → cells + 2 * (d + 1) ≤ 601024 → slots + 12 * (d + 1) ≤ 7293034 → tv_V p l e room_1 s m #[Value.ref b] below meth c Q D vwCl n0 cells slots 9 23 [(0, .ref b), (1, .ref (n0 + 0)), (2, .ref (n0 + 130)), (3, .ref (n0 + 142)), (4, .int (nI (4 * t)))] [] n (mH n0 S) := by
  intro d
  induction d with
  | zero =>
    intro t hd htd S n h k cells slots hI hC1 hC2
    refine tv_iload X dL_law_23 rfl ?_
    refine tv_aload_n X dL_law_25 rfl ?_
    refine tl_len X hX hbl hbA dL_law_26 ?_
    refine tv_iconst (v := 4) X dL_law_27 (by decide) ?_
    refine tv_isub X dL_law_28 ?_
    refine tv_icmp_gt (tgt := 1473) X dL_law_29 (by decide) (fun z1 => ?_) (fun z1 => ?_)
    · refine tv_iconst (v := 1) X dL_law_1473 (by decide) ?_
      exact hEnd _ _ _ _ _ (by omega) (by omega)
    · exact absurd ((lw_cmp hL (by omega)).mpr (by omega)) z1
  | succ d ih =>
    intro t hd htd S n h k cells slots hI hC1 hC2
    refine tv_iload X dL_law_23 rfl ?_
    refine tv_aload_n X dL_law_25 rfl ?_
    refine tl_len X hX hbl hbA dL_law_26 ?_
    refine tv_iconst (v := 4) X dL_law_27 (by decide) ?_
    refine tv_isub X dL_law_28 ?_
    refine tv_icmp_gt (tgt := 1473) X dL_law_29 (by decide) (fun z1 => ?_) (fun z1 => ?_)
    · refine tv_iconst (v := 1) X dL_law_1473 (by decide) ?_
      exact hEnd _ _ _ _ _ (by omega) (by omega)
    have ht : 4 * t + 4 ≤ Ln := Nat.not_lt.mp fun hh => z1 ((lw_cmp hL (by omega)).mpr hh)
    have hC : cells + 2 ≤ 601024 ∧ slots + 12 ≤ 7293034 := ⟨by omega, by omega⟩
    have tail : ∀ (S' : mS) (n' h' k' : Nat), INV S' S' h' k' → tv_V p l e room_1 s m #[Value.ref b] below meth c Q D vwCl n0 (cells + 2) (slots + 12) 9 1467 [(0, .ref b), (1, .ref (n0 + 0)), (2, .ref (n0 + 130)), (3, .ref (n0 + 142)), (4, .int (nI (4 * t)))] [] n' (mH n0 S') := fun S' n' h' k' hI' => by
      refine tv_iinc X dL_law_1467 rfl (show nI (4 * t) + nI 4 = nI (4 * (t + 1)) by rw [nI_add, show 4 * t + 4 = 4 * (t + 1) by omega]) rfl ?_
      refine tv_goto (tgt := 23) X dL_law_1470 (by decide) ?_
      exact ih (t + 1) (by omega) (by omega) S' n' h' k' (cells + 2) (slots + 12) hI' (by omega) (by omega)
    refine tv_aload_n X dL_law_32 rfl ?_
    refine tv_iload X dL_law_33 rfl ?_
    refine tl_sld X hX hbl hbA dL_law_35 (vp_in_nI (by omega) (by omega)) ?_
    refine tv_bipush (v := 31) X dL_law_36 (by decide) ?_
    refine tv_iand X dL_law_38 ?_
    obtain ⟨v, hv, ev⟩ := and31 (xs (nI (4 * t)).toNatClampNeg)
    rw [ev]
    rcases (by omega : v = 0 ∨ v = 1 ∨ v = 2 ∨ v = 3 ∨ v = 4 ∨ v = 5 ∨ v = 6 ∨ v = 7 ∨ v = 8 ∨ v = 9 ∨ v = 10 ∨ v = 11 ∨ v = 12 ∨ v = 13 ∨ v = 14 ∨ v = 15 ∨ v = 16 ∨ v = 17 ∨ v = 18 ∨ v = 19 ∨ v = 20 ∨ v = 21 ∨ v = 22 ∨ v = 23 ∨ v = 24 ∨ v = 25 ∨ v = 26 ∨ v = 27 ∨ v = 28 ∨ v = 29 ∨ v = 30 ∨ v = 31) with z | z | z | z | z | z | z | z | z | z | z | z | z | z | z | z | z | z | z | z | z | z | z | z | z | z | z | z | z | z | z | z
    · subst z
      refine tv_tableIn (tgt := 176) (off := 137) X dL_law_39 (by decide) (by decide) rfl (by decide) ?_
      exact lwc_0 X hst hX hbl hbA ht hL hI hC tail
    · subst z
      refine tv_tableIn (tgt := 256) (off := 217) X dL_law_39 (by decide) (by decide) rfl (by decide) ?_
      exact lwc_1 X hst hX hbl hbA ht hL hI hC tail
    · subst z
      refine tv_tableIn (tgt := 336) (off := 297) X dL_law_39 (by decide) (by decide) rfl (by decide) ?_
      exact lwc_2 X hst hX hbl hbA ht hL hI hC tail
    · subst z
      refine tv_tableIn (tgt := 349) (off := 310) X dL_law_39 (by decide) (by decide) rfl (by decide) ?_
      exact lwc_3 X hst hX hbl hbA ht hL hI hC tail
    · subst z
      refine tv_tableIn (tgt := 362) (off := 323) X dL_law_39 (by decide) (by decide) rfl (by decide) ?_
      exact lwc_4 X hst hX hbl hbA ht hL hI hC tail
    · subst z
      refine tv_tableIn (tgt := 430) (off := 391) X dL_law_39 (by decide) (by decide) rfl (by decide) ?_
      exact lwc_5 X hst hX hbl hbA ht hL hI hC tail
    · subst z
      refine tv_tableIn (tgt := 443) (off := 404) X dL_law_39 (by decide) (by decide) rfl (by decide) ?_
      exact lwc_6 X hst hX hbl hbA ht hL hI hC tail
    · subst z
      refine tv_tableIn (tgt := 499) (off := 460) X dL_law_39 (by decide) (by decide) rfl (by decide) ?_
      exact lwc_7 X hst hX hbl hbA ht hL hI hC tail
    · subst z
      refine tv_tableIn (tgt := 512) (off := 473) X dL_law_39 (by decide) (by decide) rfl (by decide) ?_
      exact lwc_8 X hst hX hbl hbA ht hL hI hC tail
    · subst z
      refine tv_tableIn (tgt := 525) (off := 486) X dL_law_39 (by decide) (by decide) rfl (by decide) ?_
      exact lwc_9 X hst hX hbl hbA ht hL hI hC tail
    · subst z
      refine tv_tableIn (tgt := 569) (off := 530) X dL_law_39 (by decide) (by decide) rfl (by decide) ?_
      exact lwc_10 X hst hX hbl hbA ht hL hI hC tail
    · subst z
      refine tv_tableIn (tgt := 613) (off := 574) X dL_law_39 (by decide) (by decide) rfl (by decide) ?_
      exact lwc_11 X hst hX hbl hbA ht hL hI hC tail
    · subst z
      refine tv_tableIn (tgt := 681) (off := 642) X dL_law_39 (by decide) (by decide) rfl (by decide) ?_
      exact lwc_12 X hst hX hbl hbA ht hL hI hC tail
    · subst z
      refine tv_tableIn (tgt := 749) (off := 710) X dL_law_39 (by decide) (by decide) rfl (by decide) ?_
      exact lwc_13 X hst hX hbl hbA ht hL hI hC tail
    · subst z
      refine tv_tableIn (tgt := 817) (off := 778) X dL_law_39 (by decide) (by decide) rfl (by decide) ?_
      exact lwc_14 X hst hX hbl hbA ht hL hI hC tail
    · subst z
      refine tv_tableIn (tgt := 885) (off := 846) X dL_law_39 (by decide) (by decide) rfl (by decide) ?_
      exact lwc_15 X hst hX hbl hbA ht hL hI hC tail
    · subst z
      refine tv_tableIn (tgt := 941) (off := 902) X dL_law_39 (by decide) (by decide) rfl (by decide) ?_
      exact lwc_16 X hst hX hbl hbA ht hL hI hC tail
    · subst z
      refine tv_tableIn (tgt := 997) (off := 958) X dL_law_39 (by decide) (by decide) rfl (by decide) ?_
      exact lwc_17 X hst hX hbl hbA ht hL hI hC tail
    · subst z
      refine tv_tableIn (tgt := 1010) (off := 971) X dL_law_39 (by decide) (by decide) rfl (by decide) ?_
      exact lwc_18 X hst hX hbl hbA ht hL hI hC tail
    · subst z
      refine tv_tableIn (tgt := 1078) (off := 1039) X dL_law_39 (by decide) (by decide) rfl (by decide) ?_
      exact lwc_19 X hst hX hbl hbA ht hL hI hC tail
    · subst z
      refine tv_tableIn (tgt := 1141) (off := 1102) X dL_law_39 (by decide) (by decide) rfl (by decide) ?_
      exact lwc_20 X hst hX hbl hbA ht hL hI hC tail
    · subst z
      refine tv_tableIn (tgt := 1209) (off := 1170) X dL_law_39 (by decide) (by decide) rfl (by decide) ?_
      exact lwc_21 X hst hX hbl hbA ht hL hI hC tail
    · subst z
      refine tv_tableIn (tgt := 1277) (off := 1238) X dL_law_39 (by decide) (by decide) rfl (by decide) ?_
      exact lwc_22 X hst hX hbl hbA ht hL hI hC tail
    · subst z
      refine tv_tableIn (tgt := 1333) (off := 1294) X dL_law_39 (by decide) (by decide) rfl (by decide) ?_
      exact lwc_23 X hst hX hbl hbA ht hL hI hC tail
    · subst z
      refine tv_tableIn (tgt := 1346) (off := 1307) X dL_law_39 (by decide) (by decide) rfl (by decide) ?_
      exact lwc_24 X hst hX hbl hbA ht hL hI hC tail
    · subst z
      refine tv_tableIn (tgt := 1359) (off := 1320) X dL_law_39 (by decide) (by decide) rfl (by decide) ?_
      exact lwc_25 X hst hX hbl hbA ht hL hI hC tail
    · subst z
      refine tv_tableIn (tgt := 1372) (off := 1333) X dL_law_39 (by decide) (by decide) rfl (by decide) ?_
      exact lwc_26 X hst hX hbl hbA ht hL hI hC tail
    · subst z
      refine tv_tableIn (tgt := 1385) (off := 1346) X dL_law_39 (by decide) (by decide) rfl (by decide) ?_
      exact lwc_27 X hst hX hbl hbA ht hL hI hC tail
    · subst z
      refine tv_tableIn (tgt := 1398) (off := 1359) X dL_law_39 (by decide) (by decide) rfl (by decide) ?_
      exact lwc_28 X hst hX hbl hbA ht hL hI hC tail
    · subst z
      refine tv_tableIn (tgt := 1441) (off := 1402) X dL_law_39 (by decide) (by decide) rfl (by decide) ?_
      exact lwc_29 X hst hX hbl hbA ht hL hI hC tail
    · subst z
      refine tv_tableIn (tgt := 1454) (off := 1415) X dL_law_39 (by decide) (by decide) rfl (by decide) ?_
      exact lwc_30 X hst hX hbl hbA ht hL hI hC tail
    · subst z
      refine tv_tableOut (tgt := 1467) X dL_law_39 (by decide) (by decide) ?_
      refine tv_widen (k0 := cells + 2) (k1 := slots + 12) (by omega) (by omega) ?_
      exact tail S n h k hI
def S0 : mS := (row0, pm0)
theorem S0_cb : ∀ j, j < 134 → cb S0 1 j = S0.1 131 j := by decide +kernel
theorem S0_z : (∀ j, j < 96 → S0.1 131 j = nI 0) ∧ (∀ t, t < 6 → S0.1 131 (101 + 5 * t) = 0 ∧ S0.1 131 (101 + 5 * t + 1) = nI 0 ∧ S0.1 131 (101 + 5 * t + 2) = nI 0 ∧ S0.1 131 (101 + 5 * t + 4) = nI 0) ∧ ∀ s, s < 64 → S0.1 125 s = 0 := by decide +kernel
theorem INV_0 : INV S0 S0 0 0 := by
  obtain ⟨z1, z2, z3⟩ := S0_z
  refine ⟨⟨fun i hi => ⟨?_, ?_⟩, fun i j _ _ h => ?_⟩, ⟨rfl, Nat.zero_le _, rfl⟩, ⟨rfl, rfl, Nat.zero_le _, fun j hj => absurd hj (Nat.not_lt_zero j)⟩, S0_cb, ⟨fun j hj => ⟨0, by omega, z1 j hj⟩, ⟨20, by omega, by omega, rfl⟩, ⟨12, by omega, by omega, rfl⟩, ⟨30, by omega, by omega, rfl⟩, ⟨250, by omega, by omega, rfl⟩, ⟨1, by omega, rfl⟩, fun t ht => ?_⟩, fun i hi => absurd hi (Nat.not_lt_zero i), z3⟩
  · show mst (27 + 12 * i) = true
    match i, hi with
    | 0, _ | 1, _ | 2, _ | 3, _ | 4, _ | 5, _ => rfl
  · show 27 ≤ 27 + 12 * i
    omega
  · have h' : 27 + 12 * i = 27 + 12 * j := h
    omega
  · obtain ⟨y1, y2, y3, y4⟩ := z2 t ht
    exact ⟨Or.inl y1, ⟨0, by omega, y2⟩, ⟨0, by omega, y3⟩, 0, by omega, fun _ => by omega, y4⟩
theorem mcell_hi {n0 i : Nat} {pm : (Nat → Nat) × Int64} {row : Nat → Int32} (h : 142 < i) : mcell n0 pm i row = none := by
  obtain ⟨j, rfl⟩ : ∃ j, i = 143 + j := ⟨i - 143, by omega⟩
  have hb : ∀ k, k ≤ 142 → Nat.beq (143 + j) k = false := fun k hk => by
    cases hx : Nat.beq (143 + j) k with
    | false => rfl
    | true => have := Nat.eq_of_beq_eq_true hx; omega
  have hl : ∀ k, k ≤ 142 → Nat.ble (143 + j) k = false := fun k hk => by
    cases hx : Nat.ble (143 + j) k with
    | false => rfl
    | true => have := Nat.le_of_ble_eq_true hx; omega
  unfold mcell
  rw [hb 0 (by decide), hb 25 (by decide), hb 26 (by decide), hb 99 (by decide), hb 103 (by decide), hb 104 (by decide), hb 109 (by decide), hb 110 (by decide), hb 118 (by decide), hb 126 (by decide), hb 127 (by decide), hb 128 (by decide), hb 129 (by decide), hb 130 (by decide), hb 131 (by decide), hb 132 (by decide), hb 140 (by decide), hb 141 (by decide), hb 142 (by decide), hl 24 (by decide), hl 98 (by decide), hl 102 (by decide), hl 108 (by decide), hl 117 (by decide), hl 125 (by decide), hl 135 (by decide), hl 139 (by decide)]
  rfl
/-! the law's start -/
theorem bl_0 {a : Nat} {f : Nat → Option tv_E} : (fun _ => none : tv_H) = tv_bl (fun _ => none) a 0 f := by
  funext q
  unfold tv_bl
  rw [if_neg (by omega)]
def F0c (n0 : Nat) (i : Nat) : Option tv_E := if i < 130 then cell0 n0 i else if i < 142 then mdF (n0 + 130) (i - 130) else some (.inl (.long, (1, .inr (.inl (fun _ => 0)))))
theorem mH_0 {n0 : Nat} : ∀ a e', mH n0 S0 a = some e' → ∃ e, tv_bl (fun _ => none) n0 143 (F0c n0) a = some e ∧ tv_ce e e' := by
  intro a e' he
  unfold mH at he
  cases hb : Nat.ble n0 a with
  | false => rw [hb] at he; cases he
  | true =>
    rw [hb] at he
    have hle := Nat.le_of_ble_eq_true hb
    obtain ⟨i, rfl⟩ : ∃ i, a = n0 + i := ⟨a - n0, by omega⟩
    rw [Nat.add_sub_cancel_left] at he
    have he2 : mcell n0 pm0 i (row0 i) = some e' := he
    by_cases hi : 142 < i
    · rw [mcell_hi hi] at he2
      cases he2
    · refine ⟨e', ?_, tv_ce_refl⟩
      rw [tv_bl_at (by omega)]
      unfold F0c
      by_cases h1 : i < 130
      · rw [if_pos h1]; exact he2
      · rw [if_neg h1]
        by_cases h2 : i < 142
        · rw [if_pos h2]
          obtain ⟨j, rfl⟩ : ∃ j, i = 130 + j := ⟨i - 130, by omega⟩
          rw [Nat.add_sub_cancel_left, md_cell j (by omega)]
          exact he2
        · rw [if_neg h2]
          have e : i = 142 := by omega
          rw [e] at he2
          exact he2
theorem qL_law_8 : Cond.classLink RL 8 RX9 ∈ wsL_law ∧ Cond.instantiable RX9 8 ∈ wsL_law ∧ Cond.initialized RX9 ∈ wsL_law := ⟨by decide +kernel, by decide +kernel, by decide +kernel⟩
theorem qL_law_72 : Cond.classLink RL 72 RX10 ∈ wsL_law ∧ Cond.instantiable RX10 20 ∈ wsL_law ∧ Cond.initialized RX10 ∈ wsL_law := ⟨by decide +kernel, by decide +kernel, by decide +kernel⟩
theorem vL_law_71 : Cond.initialized RX9 ∈ wsL_law ∧ Cond.instanceMethod yX9_init ∈ wsL_law ∧ Cond.methodLink RL 71 yX9_init ∈ wsL_law := ⟨by decide +kernel, by decide +kernel, by decide +kernel⟩
theorem vL_law_74 : Cond.initialized RX10 ∈ wsL_law ∧ Cond.instanceMethod yX10_init ∈ wsL_law ∧ Cond.methodLink RL 74 yX10_init ∈ wsL_law := ⟨by decide +kernel, by decide +kernel, by decide +kernel⟩
theorem wL_law_long : Cond.arrayClass .long ∈ wsL_law := by decide +kernel
theorem law_walk {p : Program} {l : Launch} {e : Env} {s : State} {m : MethodId} {below : List Frame} {meth : Method} {c : Code} {Q : State → Prop} {D : va_G} {ft : Nat × Nat × Nat} {b Ln : Nat} {xs : Nat → Int32} (X : tv_X p s m #[Value.ref b] meth c cL_law 9 RL wsL_law D vwCl s.heap.size ft) (hst : l.stackTraces = false) (hX : va_X b Ln xs s s.heap) (hbl : b < s.heap.size) (hL : Ln ≤ 2048) (hEnd : ∀ (cells slots n : Nat) (L' : List (Nat × Value)) (hh : tv_H), cells ≤ 601024 → slots ≤ 7293034 → tv_V p l e room_1 s m #[Value.ref b] below meth c Q D vwCl s.heap.size cells slots 9 1474 L' [.int 1] n hh) : tv_V p l e room_1 s m #[Value.ref b] below meth c Q D vwCl s.heap.size 0 0 9 0 [(0, .ref b)] [] s.heap.size (fun _ => none) := by
  have hbA : ¬ tv_A s.heap.size b := fun h => Nat.not_le.mpr hbl h
  generalize hn0 : s.heap.size = n0 at *
  refine tv_heap (bl_0 (a := n0) (f := fun _ => none)) ?_
  refine bl_new (k := 0) (ci := 9) X dL_law_0 inlX9 rfl tyX9 tyX9_ok qL_law_8.1 qL_law_8.2.1 qL_law_8.2.2 (fs := [.null, .null, .null, .null, .null, .null, .null, .null]) (fun j hj => by match j, hj with | 0, _ => rfl | 1, _ => rfl | 2, _ => rfl | 3, _ => rfl | 4, _ => rfl | 5, _ => rfl | 6, _ => rfl | 7, _ => rfl) ⟨Nat.le_of_ble_eq_true rfl, Nat.le_of_ble_eq_true rfl⟩ ?_
  refine tv_dup X dL_law_3 rfl ?_
  refine bl_callIv X dL_law_4 (c := 0) (cX9_init_ok ((tv_bl_at (i := 0) (by omega)).trans rfl)) (cwI 0 X.2.2.2.2.1 gL_law_X9_init rfl rfl rfl (X.2.2.2.2.1 _ vL_law_71.1) (X.2.2.2.2.1 _ vL_law_71.2.2) (X.2.2.2.2.1 _ vL_law_71.2.1) rfl (by decide +kernel) ⟨Nat.le_of_ble_eq_true rfl, Nat.le_of_ble_eq_true rfl⟩) (Nat.le_of_ble_eq_true rfl) (Nat.le_of_ble_eq_true rfl) ⟨Nat.le_of_ble_eq_true rfl, Nat.le_of_ble_eq_true rfl⟩ ?_
  refine tv_astore_n X dL_law_7 rfl ?_
  refine bl_new (k := 0 + 130) (ci := 10) X dL_law_8 inlX10 rfl tyX10 tyX10_ok qL_law_72.1 qL_law_72.2.1 qL_law_72.2.2 (fs := [.int 0, .null, .int 0, .null, .int 0, .int 0, .int 0, .int 0, .int 0, .int 0, .null, .null, .null, .null, .null, .null, .null, .int 0, .null, .null]) (fun j hj => by rcases (by omega : j = 0 ∨ j = 1 ∨ j = 2 ∨ j = 3 ∨ j = 4 ∨ j = 5 ∨ j = 6 ∨ j = 7 ∨ j = 8 ∨ j = 9 ∨ j = 10 ∨ j = 11 ∨ j = 12 ∨ j = 13 ∨ j = 14 ∨ j = 15 ∨ j = 16 ∨ j = 17 ∨ j = 18 ∨ j = 19) with z | z | z | z | z | z | z | z | z | z | z | z | z | z | z | z | z | z | z | z <;> (subst z; rfl)) ⟨Nat.le_of_ble_eq_true rfl, Nat.le_of_ble_eq_true rfl⟩ ?_
  refine tv_dup X dL_law_11 rfl ?_
  refine bl_callIv X dL_law_12 (c := 0 + 130) (cX10_init_ok ((tv_bl_at (i := 0 + 130) (by omega)).trans rfl)) (cwI 0 X.2.2.2.2.1 gL_law_X10_init rfl rfl rfl (X.2.2.2.2.1 _ vL_law_74.1) (X.2.2.2.2.1 _ vL_law_74.2.2) (X.2.2.2.2.1 _ vL_law_74.2.1) rfl (by decide +kernel) ⟨Nat.le_of_ble_eq_true rfl, Nat.le_of_ble_eq_true rfl⟩) (Nat.le_of_ble_eq_true rfl) (Nat.le_of_ble_eq_true rfl) ⟨Nat.le_of_ble_eq_true rfl, Nat.le_of_ble_eq_true rfl⟩ ?_
  refine tv_astore_n X dL_law_15 rfl ?_
  refine tv_iconst (v := 1) X dL_law_16 (by decide) ?_
  refine bl_newa (k := 0 + 130 + 12) X dL_law_17 wL_law_long (ty := .long) rfl (fun _ _ h9 => h9) (N := 1) (a0 := (1, .inr (.inl (fun _ => 0)))) (fun _ => rfl) (by decide) (by decide) (by decide) ⟨Nat.le_of_ble_eq_true rfl, Nat.le_of_ble_eq_true rfl⟩ ?_
  refine tv_astore_n X dL_law_19 rfl ?_
  refine tv_iconst (v := 0) X dL_law_20 (by decide) ?_
  refine tv_istore X dL_law_21 rfl ?_
  refine tv_heap (h' := tv_bl (fun _ => none) n0 143 (F0c n0)) ?_ ?_
  · refine tv_bl_cg (k := 143) fun i hi => ?_
    unfold F0c fupd
    dsimp only
    by_cases h1 : i < 130
    · rw [if_pos h1, if_neg (by omega), if_neg (by omega), if_neg (by omega), if_pos (by omega)]
      rfl
    · rw [if_neg h1]
      by_cases h2 : i < 142
      · rw [if_pos h2, if_neg (by omega), if_pos (by omega)]
      · rw [if_neg h2, if_pos (by omega)]
  refine tv_conv (h' := mH n0 S0) mH_0 ?_
  refine tv_sl (L' := [(0, .ref b), (1, .ref (n0 + 0)), (2, .ref (n0 + 130)), (3, .ref (n0 + 142)), (4, .int (nI (4 * 0)))]) [0, 1, 2, 3, 4] rfl ?_
  exact law_loop X hst hX (by rw [hn0]; exact hbl) hbA hL hEnd 512 0 (by omega) (by omega) S0 _ 0 0 _ _ INV_0 (Nat.le_of_ble_eq_true rfl) (Nat.le_of_ble_eq_true rfl)

