theorem n32_of {r : UInt32} (h : FP.Core.fIsNaN r = false) : vf_n32 r := by
  unfold vf_n32
  rw [UInt32.le_iff_toNat_le, UInt32.toNat_and]
  have h1 : ¬ FP.Core.fIsNaN r = true := by rw [h]; decide
  rw [FP.Core.isNaN_bits32] at h1
  have h2 : r.toNat &&& (0x7fffffff : UInt32).toNat = r.toNat % 2 ^ 31 := Nat.and_two_pow_sub_one_eq_mod r.toNat 31
  rw [h2]
  exact Nat.le_of_not_lt h1
theorem fdiv_num {x y : Int32} (h : ¬ y = 0) : FP.Core.fIsNaN (FP.fdiv (FP.i2f x) (FP.i2f y)) = false := by
  refine FP.Core.fdiv_out (FP.Core.i2f_fin x).notNaN (FP.Core.i2f_fin y) ?_
  rw [FP.Core.zero_bits232]
  exact FP.Core.i2f_ne_zero h
section MLF
variable {p : Program} {l : Launch} {e : Env} {R : Room} {s : State} {m : MethodId} {args : Array Value} {below : List Frame} {meth : Method} {c : Code} {Q : State → Prop} {D : va_G} {cl : List vw_C} {n0 cells slots nL pc : Nat} {L : List (Nat × Value)} {st : List Value} {n : Nat} {h : tv_H} {cc : ByteArray} {own : String} {Ts : List Cond} {ft : tv_ft}
theorem tv_i2f (X : tv_X p s m args meth c cc nL own Ts D cl n0 ft) {x : Int32} (d : decode cc pc = .ok (.i2f, 1)) (k : tv_V p l e R s m args below meth c Q D cl n0 cells slots nL (pc + 1) L (.float (FP.i2f x) :: st) n h) : tv_V p l e R s m args below meth c Q D cl n0 cells slots nL pc L (.int x :: st) n h := fun H locs ls hr hS hh => lv_i2f X.1 X.2.1 d (k H locs ls hr hS hh)
theorem tv_fconst0 (X : tv_X p s m args meth c cc nL own Ts D cl n0 ft) (d : decode cc pc = .ok (.fconst 0, 1)) (k : tv_V p l e R s m args below meth c Q D cl n0 cells slots nL (pc + 1) L (.float FP.fconst0 :: st) n h) : tv_V p l e R s m args below meth c Q D cl n0 cells slots nL pc L st n h := fun H locs ls hr hS hh => lv_fconst0 X.1 X.2.1 d (k H locs ls hr hS hh)
theorem tv_fdiv (X : tv_X p s m args meth c cc nL own Ts D cl n0 ft) {x y : UInt32} (d : decode cc pc = .ok (.fdiv, 1)) (hne : vf_n32 (FP.fdiv x y)) (k : tv_V p l e R s m args below meth c Q D cl n0 cells slots nL (pc + 1) L (.float (FP.fdiv x y) :: st) n h) : tv_V p l e R s m args below meth c Q D cl n0 cells slots nL pc L (.float y :: .float x :: st) n h := fun H locs ls hr hS hh => lv_fdiv X.1 X.2.1 d hne (k H locs ls hr hS hh)
theorem tv_fret (X : tv_X p s m args meth c cc nL own Ts D cl n0 ft) (hrt : meth.sig.returnType = some .float) {v : UInt32} {post : UInt32 → Nat × tv_H → Prop} (d : decode cc pc = .ok (.freturn, 1)) (hp : post v (n, h)) :
    tv_V p l e R s m args below meth c (MQ below (va_Qf post (tv_B D cl n0) (tv_A n0)) args s cells slots (tv_A n0)) D cl n0 cells slots nL pc L [.float v] n h := fun H locs ls hr hS hh =>
  W.fret X.1 X.2.1 hrt (fun t ht hW => ⟨⟨v, (n, h), rfl, hp, tv_end X hr hS ht hW⟩, hS.F ht⟩) hS.2.2 d X.2.2.2.2.2.2
def tv_Mf (l : Launch) (y : MethodName) (ws : List Cond) (rm : Room) (mc ms : Nat) (D : va_G) (cl : List vw_C) (n0 : Nat) (ft : tv_ft) (As : List Value) (n : Nat) (h : tv_H) (post : UInt32 → Nat × tv_H → Prop) : Prop :=
  Met l y ws rm (tv_Pc D cl n0 ft As n h) (va_Qf post (tv_B D cl n0) (tv_A n0)) mc ms (tv_A n0)
theorem tv_callVf (X : tv_X p s m args meth c cc nL own Ts D cl n0 ft) {y : MethodName} {ws : List Cond} {rm : Room} {mc ms index b kn : Nat} {As rest st0 : List Value} {post : UInt32 → Nat × tv_H → Prop} {bytes : ByteArray} {maxL ci : Nat} {ret : Option FieldType} {fs : List Value} {q : vw_C} (d : decode cc pc = .ok (.invokevirtual index, 3)) (hM : tv_Mf l y ws rm mc ms D cl n0 ft (.ref b :: As) n h post) (cw : CallW R s args own q.1 index y bytes maxL ret ws rm mc ms kn) (hn : As.length = kn) (hst : st0 = As.reverse ++ .ref b :: rest) (he : h b = some (.inr (ci, fs))) (hc : cl[ci]? = some q) (hw : (rest.map fun v => v.category).sum ≤ 8) (hR : cells + mc ≤ R.cells ∧ slots + ms ≤ R.slots)
    (kk : ∀ (r : UInt32) (n1 : Nat) (h1 : tv_H), post r (n1, h1) → tv_V p l e R s m args below meth c Q D cl n0 (cells + mc) (slots + ms) nL (pc + 3) L (.float r :: rest) n1 h1) : tv_V p l e R s m args below meth c Q D cl n0 cells slots nL pc L st0 n h := fun H locs ls hr hS hh => by
  subst hst
  refine va_callf (va_runV (As := As) (rest := rest) ⟨X.1, X.2.1, X.2.2.1, X.2.2.2.1, X.2.2.2.2.1⟩ hM cw ⟨tv_blind, tv_recv X hr he hc, tv_pre X hr hS⟩ rfl hn hh.1 rfl (lv_room hw) d hR) hS (fun q _ h => h) (fun q h => h) (fun r u t H1 locs1 ht hvm hp hB hz1 hk1 hS1 => ?_)
  subst ht
  exact kk r u.1 u.2 hp _ _ ls (tv_rep.moved hvm.symm hB) hS1 hh
end MLF
def mMf (l : Launch) (y : MethodName) (ws : List Cond) (rm : Room) (D : va_G) (n0 : Nat) (ft : tv_ft) (As : List Value) (n : Nat) (S : mS) (post : UInt32 → mS → Prop) : Prop := tv_Mf l y ws rm 0 0 D vwCl n0 ft As n (mH n0 S) (fun r u => ∃ S', u = (n, mH n0 S') ∧ post r S')
/-- meanSignal's sums -/
def cmS (S : mS) : Nat → Int32
  | 0 => 0
  | i + 1 => if S.1 5 0 ≤ sgS S 1 i then cmS S i + sgS S 1 i else cmS S i
def cmN (S : mS) : Nat → Int32
  | 0 => 0
  | i + 1 => if S.1 5 0 ≤ sgS S 1 i then cmN S i + 1 else cmN S i
def cmV (S : mS) : UInt32 := if 0 < cmN S 48 then FP.fdiv (FP.i2f (cmS S 48)) (FP.i2f (cmN S 48)) else FP.fconst0

