/-! bodies with handlers: the law's own helpers -/
section THL
variable {p : Program} {l : Launch} {e : Env} {R : Room} {s : State} {m : MethodId} {args : Array Value} {below : List Frame} {meth : Method} {c : Code} {Q : State → Prop} {D : va_G} {n0 cells slots nL pc : Nat} {L : List (Nat × Value)} {st : List Value} {n : Nat} {h : tv_H} {cc : ByteArray} {own : String} {Ts : List Cond} {ft : Nat × Nat × Nat} {S : mS}
theorem th_enter {As : List Value} {y : MethodName} {ws ws' : List Cond} {rm : Room} {mc ms maxL : Nat} {ret : Option FieldType} {hh : List (Nat × Nat × Nat × Nat)} {Qc : Array Value → State → Outcome → State → Prop} {XC : String → State → State → Prop} (hy : plainName y.cls = true) (hw : ws = Cond.codeWith y cc maxL ret hh :: ws') (hlen : (lg_sl As).length ≤ maxL)
    (body : ∀ (p : Program) (e : Env) (s : State) (m : MethodId) (args : Array Value) (below : List Frame) (meth : Method) (c : Code), tv_X p s m args meth c cc maxL y.cls ws D vwCl n0 ft → meth.sig.returnType = ret → args = As.toArray → c.exceptionTable.toList = tableOf hh →
      tv_V p l e rm s m args below meth c (vx_MQ below Qc XC args s mc ms (tv_A n0)) D vwCl n0 0 0 maxL 0 (lv_args 0 As) [] n h) : vx_Met l y ws rm (tv_Pc D vwCl n0 ft As n h) Qc XC mc ms (tv_A n0) := by
  refine vx_ofWH (cc := cc) (maxL := maxL) (ret := ret) (hh := hh) hy hw ?_
  intro p e s m args below meth c s₁ B hml hv
  obtain ⟨rfl, hG, hr⟩ := hv
  have hown : s.vm.findClass y.cls = some m.cls := findClass_of_methodNamed B.named
  have hl := lv_entry As (n := maxL) hlen
  have htab := vx_table (x := y) B (atoms_spec (ws := ws) B.pre _ (by rw [hw]; exact List.mem_cons_self))
  rw [lg_entry_eq]
  exact body p e s m As.toArray below meth c ⟨B.exec, B.bytes, hml, hown, atoms_spec (ws := ws) B.pre, hG, B.notSynchronized⟩ B.returns rfl htab s.heap [] _ hr va_S.rf hl
/-- the handler that takes an exception of the class E thrown at pc -/
def th_T (own : String) (args : Array Value) (s : State) (tab : List ExceptionTableEntry) (pc : Nat) (E : String) (hpc : Nat) : Prop := ∃ (pre : List ExceptionTableEntry) (x : ExceptionTableEntry) (suf : List ExceptionTableEntry), tab = pre ++ x :: suf ∧ (∀ z ∈ pre, covers z pc = false ∨ (z.catchType ≠ 0 ∧ ∃ nm : String, (Cond.classLink own z.catchType nm).before args s = true ∧ va_Nc E nm s)) ∧ covers x pc = true ∧ x.catchType ≠ 0 ∧ (Cond.classLink own x.catchType E).before args s = true ∧ (Cond.castable E E).before args s = true ∧ x.handlerPc = hpc
theorem th_t1 (X : tv_X p s m args meth c cc nL own Ts D vwCl n0 ft) {E : String} {tab suf : List ExceptionTableEntry} {x : ExceptionTableEntry} {hpc ct : Nat} (ht : tab = x :: suf) (hc : covers x pc = true) (hi : x.catchType = ct) (h0 : ct ≠ 0) (hl : Cond.classLink own ct E ∈ Ts) (hE : E ∈ tv_nX) (hp : x.handlerPc = hpc) : th_T own args s tab pc E hpc := by
  subst hi
  exact ⟨[], x, suf, ht, (fun z hz => by cases hz), hc, h0, X.2.2.2.2.1 _ hl, va_Nw.use rfl (X.2.2.2.2.2.1.2.2.2.2.2.2.2.1 _ hE), hp⟩
theorem th_t2 (X : tv_X p s m args meth c cc nL own Ts D vwCl n0 ft) {E E1 : String} {tab suf : List ExceptionTableEntry} {x1 x : ExceptionTableEntry} {hpc ct1 ct : Nat} (ht : tab = x1 :: x :: suf) (hi1 : x1.catchType = ct1) (h01 : ct1 ≠ 0) (hl1 : Cond.classLink own ct1 E1 ∈ Ts) (hn : va_Nc E E1 s) (hc : covers x pc = true) (hi : x.catchType = ct) (h0 : ct ≠ 0) (hl : Cond.classLink own ct E ∈ Ts) (hE : E ∈ tv_nX) (hp : x.handlerPc = hpc) : th_T own args s tab pc E hpc := by
  subst hi
  subst hi1
  refine ⟨[x1], x, suf, ht, (fun z hz => ?_), hc, h0, X.2.2.2.2.1 _ hl, va_Nw.use rfl (X.2.2.2.2.2.1.2.2.2.2.2.2.2.1 _ hE), hp⟩
  rw [List.mem_singleton] at hz
  subst hz
  exact Or.inr ⟨h01, E1, X.2.2.2.2.1 _ hl1, hn⟩
theorem th_callVi (X : tv_X p s m args meth c cc nL own Ts D vwCl n0 ft) {tab : List ExceptionTableEntry} (htab : c.exceptionTable.toList = tab) {px : String → Nat × tv_H → Prop} {y : MethodName} {ws : List Cond} {rm : Room} {mc ms index b kn : Nat} {As rest st0 : List Value} {post : Int32 → Nat × tv_H → Prop} {bytes : ByteArray} {maxL ci : Nat} {ret : Option FieldType} {fs : List Value} {q : vw_C} (d : decode cc pc = .ok (.invokevirtual index, 3)) (hM : vx_Met l y ws rm (tv_Pc D vwCl n0 ft (.ref b :: As) n h) (va_Qi post (tv_B D vwCl n0) (tv_A n0)) (tx_X D n0 px) mc ms (tv_A n0)) (cw : CallW R s args own q.1 index y bytes maxL ret ws rm mc ms kn) (hn : As.length = kn) (hst : st0 = As.reverse ++ .ref b :: rest) (he : h b = some (.inr (ci, fs))) (hc : vwCl[ci]? = some q) (hw : (rest.map fun v => v.category).sum ≤ 8) (hR : cells + mc ≤ R.cells ∧ slots + ms ≤ R.slots)
    (kx : ∀ (E : String) (u : Nat × tv_H), px E u → ∃ hpc, th_T own args s tab pc E hpc ∧ ∀ q9 : Nat, tv_V p l e R s m args below meth c Q D vwCl n0 (cells + mc) (slots + ms) nL hpc L [.ref q9] u.1 u.2)
    (kk : ∀ (r : Int32) (n1 : Nat) (h1 : tv_H), post r (n1, h1) → tv_V p l e R s m args below meth c Q D vwCl n0 (cells + mc) (slots + ms) nL (pc + 3) L (.int r :: rest) n1 h1) : tv_V p l e R s m args below meth c Q D vwCl n0 cells slots nL pc L st0 n h := fun H locs ls hr hS hh => by
  subst hst
  refine vx_calli (vx_runV (As := As) (rest := rest) ⟨X.1, X.2.1, X.2.2.1, X.2.2.2.1, X.2.2.2.2.1⟩ hM cw ⟨tv_blind, tv_recv X hr he hc, tv_pre X hr hS⟩ rfl hn hh.1 rfl (lv_room hw) d hR) hS (fun q _ h => h) (fun q h => h) (fun q _ h => h) (fun E ce q9 u t H1 locs1 ht hvm hp hB hz1 hk1 hS1 hce hcv hcl => ?_) (fun r u t H1 locs1 ht hvm hp hB hz1 hk1 hS1 => ?_)
  · subst ht
    obtain ⟨hE, hB⟩ := hB
    rw [← hE] at hp
    obtain ⟨hpc, ⟨pre, x, suf, h1, h2, h3, h4, h5, h6, h7⟩, hk⟩ := kx E u.2 hp
    refine vx_catch X.2.2.2.1 pre x suf (htab.trans h1) h2 h3 h4 h5 h6 hce hcv hcl ?_
    rw [h7]
    exact hk q9 _ _ ls (tv_rep.moved hvm.symm hB) hS1 hh
  · subst ht
    exact kk r u.1 u.2 hp _ _ ls (tv_rep.moved hvm.symm hB) hS1 hh
theorem tv_lconst (X : tv_X p s m args meth c cc nL own Ts D vwCl n0 ft) {k : Fin 2} {v : Int64} (d : decode cc pc = .ok (.lconst k, 1)) (hv : Int64.ofNat (k : Nat) = v) (kk : tv_V p l e R s m args below meth c Q D vwCl n0 cells slots nL (pc + 1) L (.long v :: st) n h) : tv_V p l e R s m args below meth c Q D vwCl n0 cells slots nL pc L st n h := fun H locs ls hr hS hh => lv_lconst X.1 X.2.1 d hv (kk H locs ls hr hS hh)
/-- equal longs -/
theorem tv_lcmpE (X : tv_X p s m args meth c cc nL own Ts D vwCl n0 ft) {x : Int64} (d : decode cc pc = .ok (.lcmp, 1)) (kk : tv_V p l e R s m args below meth c Q D vwCl n0 cells slots nL (pc + 1) L (.int 0 :: st) n h) : tv_V p l e R s m args below meth c Q D vwCl n0 cells slots nL pc L (.long x :: .long x :: st) n h := fun H locs ls hr hS hh => by
  intro T hT Xs
  obtain ⟨t, a, b⟩ := kk H locs ls hr hS hh T hT Xs
  refine ⟨t, ?_, b⟩
  jvm_step Xs.here [Xs.here.top, X.1, X.2.1, d]
  exact a
theorem mcell_out {k : Nat} (hk : k ≠ 142) {g : Nat → Nat} {x y : Int64} {row : Nat → Int32} : mcell n0 (g, x) k row = mcell n0 (g, y) k row := by
  have hb : Nat.beq k 142 = false := by
    cases hx : Nat.beq k 142 with
    | false => rfl
    | true => exact absurd (Nat.eq_of_beq_eq_true hx) hk
  unfold mcell
  rw [hb]
  rfl
/-- the law's cell of out -/
theorem mm_last (X : tv_X p s m args meth c cc nL own Ts D vwCl n0 ft) {x : Int64} (d : decode cc pc = .ok (.lastore, 1)) (kk : tv_V p l e R s m args below meth c Q D vwCl n0 cells slots nL (pc + 1) L st n (mH n0 (S.1, (S.2.1, x)))) : tv_V p l e R s m args below meth c Q D vwCl n0 cells slots nL pc L (.long x :: .int 0 :: .ref (n0 + 142) :: st) n (mH n0 S) := by
  refine tv_last X d (N := 1) (f := fun _ => S.2.2) (mH_at.trans rfl) (show ¬ ((0 : Int32) < 0 ∨ 1 ≤ (0 : Int32).toNatClampNeg) by decide) ?_
  refine tv_conv (fun a e' he => ?_) kk
  by_cases ha : a = n0 + 142
  · rw [ha, mH_at] at he
    rw [ha]
    refine ⟨_, if_pos rfl, ?_⟩
    have he2 : e' = .inl (.long, (1, .inr (.inl (fun _ => x)))) := (Option.some.inj he).symm
    rw [he2]
    refine ⟨rfl, fun cA => (arrV_cg (fun j hj => ?_) : arrV cA 1 (fun j => Value.long (vp_updL (fun _ => S.2.2) 0 x j)) = arrV cA 1 (fun _ => Value.long x))⟩
    have hj0 : j = 0 := by omega
    rw [hj0]
    rfl
  · refine ⟨e', ?_, tv_ce_refl⟩
    refine (if_neg ha).trans ?_
    rw [← he]
    unfold mH
    cases hb : Nat.ble n0 a with
    | false => rfl
    | true =>
      have hle := Nat.le_of_ble_eq_true hb
      exact mcell_out (g := S.2.1) (by omega)
end THL
/-- what a helper of the law answers: 0 with the answer in out, or the number of what was thrown -/
def hlP (post : Int32 → mS → Prop) (px : String → mS → Prop) (code : String → Int32 → Prop) (r : Int32) (S' : mS) : Prop := (r = 0 ∧ ∃ v S1, post v S1 ∧ S' = (S1.1, (S1.2.1, v.toInt64))) ∨ (∃ E, px E S' ∧ code E r)
def cdI (E : String) (r : Int32) : Prop := E = exI ∧ r = 1
def cdA (E : String) (r : Int32) : Prop := E = exA ∧ r = 1
def cdS (E : String) (r : Int32) : Prop := E = exS ∧ r = 1
def cdIA (E : String) (r : Int32) : Prop := (E = exI ∧ r = 1) ∨ (E = exA ∧ r = 2)
def cdAS (E : String) (r : Int32) : Prop := (E = exA ∧ r = 1) ∨ (E = exS ∧ r = 2)
/-- a helper: it never throws -/
def hlM (l : Launch) (y : MethodName) (ws : List Cond) (rm : Room) (mc ms : Nat) (D : va_G) (n0 : Nat) (ft : Nat × Nat × Nat) (As : List Value) (n : Nat) (S : mS) (post : Int32 → mS → Prop) : Prop := vx_Met l y ws rm (tv_Pc D vwCl n0 ft As n (mH n0 S)) (va_Qi (fun r u => n ≤ u.1 ∧ ∃ S', u.2 = mH n0 S' ∧ post r S') (tv_B D vwCl n0) (tv_A n0)) (fun _ _ _ => False) mc ms (tv_A n0)
section C51
variable {l : Launch} {D : va_G} {n0 : Nat} {ft : Nat × Nat × Nat} {n : Nat} {S : mS}
theorem cL_setRaw_ok {x y z : Int32} {post : Int32 → mS → Prop} {px : String → mS → Prop} (hM : mxMi l yX9_setRaw wsX9_setRaw rmX9_setRaw 2 12 D n0 ft [.ref (n0 + 0), .int x, .int y, .int z] n S post px) (hx : ∀ E S1, px E S1 → E = exI ∨ E = exA) : hlM l yL_setRaw wsL_setRaw rmL_setRaw 2 12 D n0 ft [.ref (n0 + 0), .int x, .int y, .int z, .ref (n0 + 142)] n S (hlP post px cdIA) := by
  refine th_enter (cc := cL_setRaw) (maxL := 6) (ret := some .int) (by decide) rfl (Nat.le_of_ble_eq_true rfl) ?_
  intro p e s m args below meth c X hrt hargs htab
  refine tv_aload X dL_setRaw_0 rfl ?_
  refine tv_iconst (v := 0) X dL_setRaw_2 (by decide) ?_
  refine tv_aload_n X dL_setRaw_3 rfl ?_
  refine tv_iload_n X dL_setRaw_4 rfl ?_
  refine tv_iload_n X dL_setRaw_5 rfl ?_
  refine tv_iload_n X dL_setRaw_6 rfl ?_
  refine th_callVi (q := (RX9, TX9, 8)) X htab dL_setRaw_7 hM (cwV 3 X.2.2.2.2.1 gL_setRaw_X9_setRaw rfl rfl rfl (by decide +kernel) ⟨Nat.le_of_ble_eq_true rfl, Nat.le_of_ble_eq_true rfl⟩) rfl rfl (mH_at.trans (gX9 _)) rfl (Nat.le_of_ble_eq_true rfl) ⟨Nat.le_of_ble_eq_true rfl, Nat.le_of_ble_eq_true rfl⟩ (fun E u hu => ?_) (fun r n1 h1 hp => ?_)
  · obtain ⟨hn1, S1, hu2, hpx⟩ := hu
    rw [hu2]
    rcases hx E S1 hpx with hE | hE
    · subst hE
      refine ⟨15, th_t1 X (x := ⟨0, 12, 15, 13⟩) rfl rfl (ct := 13) rfl (by decide) (by decide +kernel) (by decide) rfl, fun q9 => ?_⟩
      refine tv_astore X dL_setRaw_15 rfl ?_
      refine tv_iconst (v := 1) X dL_setRaw_17 (by decide) ?_
      refine tx_ret (Nat.le_of_ble_eq_true rfl) (Nat.le_of_ble_eq_true rfl) ?_
      exact tv_iret X hrt dL_setRaw_18 ⟨hn1, S1, rfl, Or.inr ⟨_, hpx, Or.inl ⟨rfl, rfl⟩⟩⟩
    · subst hE
      refine ⟨19, th_t2 X (x1 := ⟨0, 12, 15, 13⟩) (x := ⟨0, 12, 19, 15⟩) rfl (ct1 := 13) rfl (by decide) (by decide +kernel) X.2.2.2.2.2.1.2.2.2.2.2.2.2.2.1 rfl (ct := 15) rfl (by decide) (by decide +kernel) (by decide) rfl, fun q9 => ?_⟩
      refine tv_astore X dL_setRaw_19 rfl ?_
      refine tv_iconst (v := 2) X dL_setRaw_21 (by decide) ?_
      refine tx_ret (Nat.le_of_ble_eq_true rfl) (Nat.le_of_ble_eq_true rfl) ?_
      exact tv_iret X hrt dL_setRaw_22 ⟨hn1, S1, rfl, Or.inr ⟨_, hpx, Or.inr ⟨rfl, rfl⟩⟩⟩
  · obtain ⟨S1, hu, hp⟩ := hp
    cases hu
    refine tv_i2l X dL_setRaw_10 ?_
    refine mm_last X dL_setRaw_11 ?_
    refine tv_goto (tgt := 23) X dL_setRaw_12 (by decide) ?_
    refine tv_iconst (v := 0) X dL_setRaw_23 (by decide) ?_
    refine tx_ret (Nat.le_of_ble_eq_true rfl) (Nat.le_of_ble_eq_true rfl) ?_
    exact tv_iret X hrt dL_setRaw_24 ⟨Nat.le_refl _, _, rfl, Or.inl ⟨rfl, r, S1, hp, rfl⟩⟩
theorem cL_press_ok {x y z : Int32} {post : Int32 → mS → Prop} {px : String → mS → Prop} (hM : mxMi l yX9_press wsX9_press rmX9_press 2 12 D n0 ft [.ref (n0 + 0), .int x, .int y, .int z] n S post px) (hx : ∀ E S1, px E S1 → E = exI ∨ E = exA) : hlM l yL_press wsL_press rmL_press 2 12 D n0 ft [.ref (n0 + 0), .int x, .int y, .int z, .ref (n0 + 142)] n S (hlP post px cdIA) := by
  refine th_enter (cc := cL_press) (maxL := 6) (ret := some .int) (by decide) rfl (Nat.le_of_ble_eq_true rfl) ?_
  intro p e s m args below meth c X hrt hargs htab
  refine tv_aload X dL_press_0 rfl ?_
  refine tv_iconst (v := 0) X dL_press_2 (by decide) ?_
  refine tv_aload_n X dL_press_3 rfl ?_
  refine tv_iload_n X dL_press_4 rfl ?_
  refine tv_iload_n X dL_press_5 rfl ?_
  refine tv_iload_n X dL_press_6 rfl ?_
  refine th_callVi (q := (RX9, TX9, 8)) X htab dL_press_7 hM (cwV 3 X.2.2.2.2.1 gL_press_X9_press rfl rfl rfl (by decide +kernel) ⟨Nat.le_of_ble_eq_true rfl, Nat.le_of_ble_eq_true rfl⟩) rfl rfl (mH_at.trans (gX9 _)) rfl (Nat.le_of_ble_eq_true rfl) ⟨Nat.le_of_ble_eq_true rfl, Nat.le_of_ble_eq_true rfl⟩ (fun E u hu => ?_) (fun r n1 h1 hp => ?_)
  · obtain ⟨hn1, S1, hu2, hpx⟩ := hu
    rw [hu2]
    rcases hx E S1 hpx with hE | hE
    · subst hE
      refine ⟨15, th_t1 X (x := ⟨0, 12, 15, 13⟩) rfl rfl (ct := 13) rfl (by decide) (by decide +kernel) (by decide) rfl, fun q9 => ?_⟩
      refine tv_astore X dL_press_15 rfl ?_
      refine tv_iconst (v := 1) X dL_press_17 (by decide) ?_
      refine tx_ret (Nat.le_of_ble_eq_true rfl) (Nat.le_of_ble_eq_true rfl) ?_
      exact tv_iret X hrt dL_press_18 ⟨hn1, S1, rfl, Or.inr ⟨_, hpx, Or.inl ⟨rfl, rfl⟩⟩⟩
    · subst hE
      refine ⟨19, th_t2 X (x1 := ⟨0, 12, 15, 13⟩) (x := ⟨0, 12, 19, 15⟩) rfl (ct1 := 13) rfl (by decide) (by decide +kernel) X.2.2.2.2.2.1.2.2.2.2.2.2.2.2.1 rfl (ct := 15) rfl (by decide) (by decide +kernel) (by decide) rfl, fun q9 => ?_⟩
      refine tv_astore X dL_press_19 rfl ?_
      refine tv_iconst (v := 2) X dL_press_21 (by decide) ?_
      refine tx_ret (Nat.le_of_ble_eq_true rfl) (Nat.le_of_ble_eq_true rfl) ?_
      exact tv_iret X hrt dL_press_22 ⟨hn1, S1, rfl, Or.inr ⟨_, hpx, Or.inr ⟨rfl, rfl⟩⟩⟩
  · obtain ⟨S1, hu, hp⟩ := hp
    cases hu
    refine tv_i2l X dL_press_10 ?_
    refine mm_last X dL_press_11 ?_
    refine tv_goto (tgt := 23) X dL_press_12 (by decide) ?_
    refine tv_iconst (v := 0) X dL_press_23 (by decide) ?_
    refine tx_ret (Nat.le_of_ble_eq_true rfl) (Nat.le_of_ble_eq_true rfl) ?_
    exact tv_iret X hrt dL_press_24 ⟨Nat.le_refl _, _, rfl, Or.inl ⟨rfl, r, S1, hp, rfl⟩⟩
theorem cL_set_ok {x y : Int32} {post : Int32 → mS → Prop} {px : String → mS → Prop} (hM : mxMi l yX9_set wsX9_set rmX9_set 2 12 D n0 ft [.ref (n0 + 0), .int x, .int y] n S post px) (hx : ∀ E S1, px E S1 → E = exI ∨ E = exA) : hlM l yL_set wsL_set rmL_set 2 12 D n0 ft [.ref (n0 + 0), .int x, .int y, .ref (n0 + 142)] n S (hlP post px cdIA) := by
  refine th_enter (cc := cL_set) (maxL := 5) (ret := some .int) (by decide) rfl (Nat.le_of_ble_eq_true rfl) ?_
  intro p e s m args below meth c X hrt hargs htab
  refine tv_aload_n X dL_set_0 rfl ?_
  refine tv_iconst (v := 0) X dL_set_1 (by decide) ?_
  refine tv_aload_n X dL_set_2 rfl ?_
  refine tv_iload_n X dL_set_3 rfl ?_
  refine tv_iload_n X dL_set_4 rfl ?_
  refine th_callVi (q := (RX9, TX9, 8)) X htab dL_set_5 hM (cwV 2 X.2.2.2.2.1 gL_set_X9_set rfl rfl rfl (by decide +kernel) ⟨Nat.le_of_ble_eq_true rfl, Nat.le_of_ble_eq_true rfl⟩) rfl rfl (mH_at.trans (gX9 _)) rfl (Nat.le_of_ble_eq_true rfl) ⟨Nat.le_of_ble_eq_true rfl, Nat.le_of_ble_eq_true rfl⟩ (fun E u hu => ?_) (fun r n1 h1 hp => ?_)
  · obtain ⟨hn1, S1, hu2, hpx⟩ := hu
    rw [hu2]
    rcases hx E S1 hpx with hE | hE
    · subst hE
      refine ⟨13, th_t1 X (x := ⟨0, 10, 13, 13⟩) rfl rfl (ct := 13) rfl (by decide) (by decide +kernel) (by decide) rfl, fun q9 => ?_⟩
      refine tv_astore X dL_set_13 rfl ?_
      refine tv_iconst (v := 1) X dL_set_15 (by decide) ?_
      refine tx_ret (Nat.le_of_ble_eq_true rfl) (Nat.le_of_ble_eq_true rfl) ?_
      exact tv_iret X hrt dL_set_16 ⟨hn1, S1, rfl, Or.inr ⟨_, hpx, Or.inl ⟨rfl, rfl⟩⟩⟩
    · subst hE
      refine ⟨17, th_t2 X (x1 := ⟨0, 10, 13, 13⟩) (x := ⟨0, 10, 17, 15⟩) rfl (ct1 := 13) rfl (by decide) (by decide +kernel) X.2.2.2.2.2.1.2.2.2.2.2.2.2.2.1 rfl (ct := 15) rfl (by decide) (by decide +kernel) (by decide) rfl, fun q9 => ?_⟩
      refine tv_astore X dL_set_17 rfl ?_
      refine tv_iconst (v := 2) X dL_set_19 (by decide) ?_
      refine tx_ret (Nat.le_of_ble_eq_true rfl) (Nat.le_of_ble_eq_true rfl) ?_
      exact tv_iret X hrt dL_set_20 ⟨hn1, S1, rfl, Or.inr ⟨_, hpx, Or.inr ⟨rfl, rfl⟩⟩⟩
  · obtain ⟨S1, hu, hp⟩ := hp
    cases hu
    refine tv_i2l X dL_set_8 ?_
    refine mm_last X dL_set_9 ?_
    refine tv_goto (tgt := 21) X dL_set_10 (by decide) ?_
    refine tv_iconst (v := 0) X dL_set_21 (by decide) ?_
    refine tx_ret (Nat.le_of_ble_eq_true rfl) (Nat.le_of_ble_eq_true rfl) ?_
    exact tv_iret X hrt dL_set_22 ⟨Nat.le_refl _, _, rfl, Or.inl ⟨rfl, r, S1, hp, rfl⟩⟩
theorem cL_appendText_ok {x : Int32} {post : Int32 → mS → Prop} {px : String → mS → Prop} (hM : mxMi l yX9_appendText wsX9_appendText rmX9_appendText 1 6 D n0 ft [.ref (n0 + 0), .int x] n S post px) (hx : ∀ E S1, px E S1 → E = exA ∨ E = exS) : hlM l yL_appendText wsL_appendText rmL_appendText 1 6 D n0 ft [.ref (n0 + 0), .int x, .ref (n0 + 142)] n S (hlP post px cdAS) := by
  refine th_enter (cc := cL_appendText) (maxL := 4) (ret := some .int) (by decide) rfl (Nat.le_of_ble_eq_true rfl) ?_
  intro p e s m args below meth c X hrt hargs htab
  refine tv_aload_n X dL_appendText_0 rfl ?_
  refine tv_iconst (v := 0) X dL_appendText_1 (by decide) ?_
  refine tv_aload_n X dL_appendText_2 rfl ?_
  refine tv_iload_n X dL_appendText_3 rfl ?_
  refine th_callVi (q := (RX9, TX9, 8)) X htab dL_appendText_4 hM (cwV 1 X.2.2.2.2.1 gL_appendText_X9_appendText rfl rfl rfl (by decide +kernel) ⟨Nat.le_of_ble_eq_true rfl, Nat.le_of_ble_eq_true rfl⟩) rfl rfl (mH_at.trans (gX9 _)) rfl (Nat.le_of_ble_eq_true rfl) ⟨Nat.le_of_ble_eq_true rfl, Nat.le_of_ble_eq_true rfl⟩ (fun E u hu => ?_) (fun r n1 h1 hp => ?_)
  · obtain ⟨hn1, S1, hu2, hpx⟩ := hu
    rw [hu2]
    rcases hx E S1 hpx with hE | hE
    · subst hE
      refine ⟨12, th_t1 X (x := ⟨0, 9, 12, 15⟩) rfl rfl (ct := 15) rfl (by decide) (by decide +kernel) (by decide) rfl, fun q9 => ?_⟩
      refine tv_astore_n X dL_appendText_12 rfl ?_
      refine tv_iconst (v := 1) X dL_appendText_13 (by decide) ?_
      refine tx_ret (Nat.le_of_ble_eq_true rfl) (Nat.le_of_ble_eq_true rfl) ?_
      exact tv_iret X hrt dL_appendText_14 ⟨hn1, S1, rfl, Or.inr ⟨_, hpx, Or.inl ⟨rfl, rfl⟩⟩⟩
    · subst hE
      refine ⟨15, th_t2 X (x1 := ⟨0, 9, 12, 15⟩) (x := ⟨0, 9, 15, 28⟩) rfl (ct1 := 15) rfl (by decide) (by decide +kernel) X.2.2.2.2.2.1.2.2.2.2.2.2.2.2.2.1 rfl (ct := 28) rfl (by decide) (by decide +kernel) (by decide) rfl, fun q9 => ?_⟩
      refine tv_astore_n X dL_appendText_15 rfl ?_
      refine tv_iconst (v := 2) X dL_appendText_16 (by decide) ?_
      refine tx_ret (Nat.le_of_ble_eq_true rfl) (Nat.le_of_ble_eq_true rfl) ?_
      exact tv_iret X hrt dL_appendText_17 ⟨hn1, S1, rfl, Or.inr ⟨_, hpx, Or.inr ⟨rfl, rfl⟩⟩⟩
  · obtain ⟨S1, hu, hp⟩ := hp
    cases hu
    refine tv_i2l X dL_appendText_7 ?_
    refine mm_last X dL_appendText_8 ?_
    refine tv_goto (tgt := 18) X dL_appendText_9 (by decide) ?_
    refine tv_iconst (v := 0) X dL_appendText_18 (by decide) ?_
    refine tx_ret (Nat.le_of_ble_eq_true rfl) (Nat.le_of_ble_eq_true rfl) ?_
    exact tv_iret X hrt dL_appendText_19 ⟨Nat.le_refl _, _, rfl, Or.inl ⟨rfl, r, S1, hp, rfl⟩⟩
theorem cL_runText_ok {post : Int32 → mS → Prop} {px : String → mS → Prop} (hM : mxMi l yX9_runText wsX9_runText rmX9_runText 1 6 D n0 ft [.ref (n0 + 0)] n S post px) (hx : ∀ E S1, px E S1 → E = exS) : hlM l yL_runText wsL_runText rmL_runText 1 6 D n0 ft [.ref (n0 + 0), .ref (n0 + 142)] n S (hlP post px cdS) := by
  refine th_enter (cc := cL_runText) (maxL := 3) (ret := some .int) (by decide) rfl (Nat.le_of_ble_eq_true rfl) ?_
  intro p e s m args below meth c X hrt hargs htab
  refine tv_aload_n X dL_runText_0 rfl ?_
  refine tv_iconst (v := 0) X dL_runText_1 (by decide) ?_
  refine tv_aload_n X dL_runText_2 rfl ?_
  refine th_callVi (q := (RX9, TX9, 8)) X htab dL_runText_3 hM (cwV 0 X.2.2.2.2.1 gL_runText_X9_runText rfl rfl rfl (by decide +kernel) ⟨Nat.le_of_ble_eq_true rfl, Nat.le_of_ble_eq_true rfl⟩) rfl rfl (mH_at.trans (gX9 _)) rfl (Nat.le_of_ble_eq_true rfl) ⟨Nat.le_of_ble_eq_true rfl, Nat.le_of_ble_eq_true rfl⟩ (fun E u hu => ?_) (fun r n1 h1 hp => ?_)
  · obtain ⟨hn1, S1, hu2, hpx⟩ := hu
    rw [hu2]
    have hE := hx E S1 hpx
    subst hE
    refine ⟨11, th_t1 X (x := ⟨0, 8, 11, 28⟩) rfl rfl (ct := 28) rfl (by decide) (by decide +kernel) (by decide) rfl, fun q9 => ?_⟩
    refine tv_astore_n X dL_runText_11 rfl ?_
    refine tv_iconst (v := 1) X dL_runText_12 (by decide) ?_
    refine tx_ret (Nat.le_of_ble_eq_true rfl) (Nat.le_of_ble_eq_true rfl) ?_
    exact tv_iret X hrt dL_runText_13 ⟨hn1, S1, rfl, Or.inr ⟨_, hpx, ⟨rfl, rfl⟩⟩⟩
  · obtain ⟨S1, hu, hp⟩ := hp
    cases hu
    refine tv_i2l X dL_runText_6 ?_
    refine mm_last X dL_runText_7 ?_
    refine tv_goto (tgt := 14) X dL_runText_8 (by decide) ?_
    refine tv_iconst (v := 0) X dL_runText_14 (by decide) ?_
    refine tx_ret (Nat.le_of_ble_eq_true rfl) (Nat.le_of_ble_eq_true rfl) ?_
    exact tv_iret X hrt dL_runText_15 ⟨Nat.le_refl _, _, rfl, Or.inl ⟨rfl, r, S1, hp, rfl⟩⟩
theorem cL_undo_ok {post : Int32 → mS → Prop} {px : String → mS → Prop} (hM : mxMi l yX9_undo wsX9_undo rmX9_undo 1 6 D n0 ft [.ref (n0 + 0)] n S post px) (hx : ∀ E S1, px E S1 → E = exS) : hlM l yL_undo wsL_undo rmL_undo 1 6 D n0 ft [.ref (n0 + 0), .ref (n0 + 142)] n S (hlP post px cdS) := by
  refine th_enter (cc := cL_undo) (maxL := 3) (ret := some .int) (by decide) rfl (Nat.le_of_ble_eq_true rfl) ?_
  intro p e s m args below meth c X hrt hargs htab
  refine tv_aload_n X dL_undo_0 rfl ?_
  refine tv_iconst (v := 0) X dL_undo_1 (by decide) ?_
  refine tv_aload_n X dL_undo_2 rfl ?_
  refine th_callVi (q := (RX9, TX9, 8)) X htab dL_undo_3 hM (cwV 0 X.2.2.2.2.1 gL_undo_X9_undo rfl rfl rfl (by decide +kernel) ⟨Nat.le_of_ble_eq_true rfl, Nat.le_of_ble_eq_true rfl⟩) rfl rfl (mH_at.trans (gX9 _)) rfl (Nat.le_of_ble_eq_true rfl) ⟨Nat.le_of_ble_eq_true rfl, Nat.le_of_ble_eq_true rfl⟩ (fun E u hu => ?_) (fun r n1 h1 hp => ?_)
  · obtain ⟨hn1, S1, hu2, hpx⟩ := hu
    rw [hu2]
    have hE := hx E S1 hpx
    subst hE
    refine ⟨11, th_t1 X (x := ⟨0, 8, 11, 28⟩) rfl rfl (ct := 28) rfl (by decide) (by decide +kernel) (by decide) rfl, fun q9 => ?_⟩
    refine tv_astore_n X dL_undo_11 rfl ?_
    refine tv_iconst (v := 1) X dL_undo_12 (by decide) ?_
    refine tx_ret (Nat.le_of_ble_eq_true rfl) (Nat.le_of_ble_eq_true rfl) ?_
    exact tv_iret X hrt dL_undo_13 ⟨hn1, S1, rfl, Or.inr ⟨_, hpx, ⟨rfl, rfl⟩⟩⟩
  · obtain ⟨S1, hu, hp⟩ := hp
    cases hu
    refine tv_i2l X dL_undo_6 ?_
    refine mm_last X dL_undo_7 ?_
    refine tv_goto (tgt := 14) X dL_undo_8 (by decide) ?_
    refine tv_iconst (v := 0) X dL_undo_14 (by decide) ?_
    refine tx_ret (Nat.le_of_ble_eq_true rfl) (Nat.le_of_ble_eq_true rfl) ?_
    exact tv_iret X hrt dL_undo_15 ⟨Nat.le_refl _, _, rfl, Or.inl ⟨rfl, r, S1, hp, rfl⟩⟩
theorem cL_raw_ok {x y : Int32} {post : Int32 → mS → Prop} {px : String → mS → Prop} (hM : mxMi l yX9_raw wsX9_raw rmX9_raw 1 6 D n0 ft [.ref (n0 + 0), .int x, .int y] n S post px) (hx : ∀ E S1, px E S1 → E = exI) : hlM l yL_raw wsL_raw rmL_raw 1 6 D n0 ft [.ref (n0 + 0), .int x, .int y, .ref (n0 + 142)] n S (hlP post px cdI) := by
  refine th_enter (cc := cL_raw) (maxL := 5) (ret := some .int) (by decide) rfl (Nat.le_of_ble_eq_true rfl) ?_
  intro p e s m args below meth c X hrt hargs htab
  refine tv_aload_n X dL_raw_0 rfl ?_
  refine tv_iconst (v := 0) X dL_raw_1 (by decide) ?_
  refine tv_aload_n X dL_raw_2 rfl ?_
  refine tv_iload_n X dL_raw_3 rfl ?_
  refine tv_iload_n X dL_raw_4 rfl ?_
  refine th_callVi (q := (RX9, TX9, 8)) X htab dL_raw_5 hM (cwV 2 X.2.2.2.2.1 gL_raw_X9_raw rfl rfl rfl (by decide +kernel) ⟨Nat.le_of_ble_eq_true rfl, Nat.le_of_ble_eq_true rfl⟩) rfl rfl (mH_at.trans (gX9 _)) rfl (Nat.le_of_ble_eq_true rfl) ⟨Nat.le_of_ble_eq_true rfl, Nat.le_of_ble_eq_true rfl⟩ (fun E u hu => ?_) (fun r n1 h1 hp => ?_)
  · obtain ⟨hn1, S1, hu2, hpx⟩ := hu
    rw [hu2]
    have hE := hx E S1 hpx
    subst hE
    refine ⟨13, th_t1 X (x := ⟨0, 10, 13, 13⟩) rfl rfl (ct := 13) rfl (by decide) (by decide +kernel) (by decide) rfl, fun q9 => ?_⟩
    refine tv_astore X dL_raw_13 rfl ?_
    refine tv_iconst (v := 1) X dL_raw_15 (by decide) ?_
    refine tx_ret (Nat.le_of_ble_eq_true rfl) (Nat.le_of_ble_eq_true rfl) ?_
    exact tv_iret X hrt dL_raw_16 ⟨hn1, S1, rfl, Or.inr ⟨_, hpx, ⟨rfl, rfl⟩⟩⟩
  · obtain ⟨S1, hu, hp⟩ := hp
    cases hu
    refine tv_i2l X dL_raw_8 ?_
    refine mm_last X dL_raw_9 ?_
    refine tv_goto (tgt := 17) X dL_raw_10 (by decide) ?_
    refine tv_iconst (v := 0) X dL_raw_17 (by decide) ?_
    refine tx_ret (Nat.le_of_ble_eq_true rfl) (Nat.le_of_ble_eq_true rfl) ?_
    exact tv_iret X hrt dL_raw_18 ⟨Nat.le_refl _, _, rfl, Or.inl ⟨rfl, r, S1, hp, rfl⟩⟩
theorem cL_signal_ok {x y : Int32} {post : Int32 → mS → Prop} {px : String → mS → Prop} (hM : mxMi l yX9_signal wsX9_signal rmX9_signal 1 6 D n0 ft [.ref (n0 + 0), .int x, .int y] n S post px) (hx : ∀ E S1, px E S1 → E = exI) : hlM l yL_signal wsL_signal rmL_signal 1 6 D n0 ft [.ref (n0 + 0), .int x, .int y, .ref (n0 + 142)] n S (hlP post px cdI) := by
  refine th_enter (cc := cL_signal) (maxL := 5) (ret := some .int) (by decide) rfl (Nat.le_of_ble_eq_true rfl) ?_
  intro p e s m args below meth c X hrt hargs htab
  refine tv_aload_n X dL_signal_0 rfl ?_
  refine tv_iconst (v := 0) X dL_signal_1 (by decide) ?_
  refine tv_aload_n X dL_signal_2 rfl ?_
  refine tv_iload_n X dL_signal_3 rfl ?_
  refine tv_iload_n X dL_signal_4 rfl ?_
  refine th_callVi (q := (RX9, TX9, 8)) X htab dL_signal_5 hM (cwV 2 X.2.2.2.2.1 gL_signal_X9_signal rfl rfl rfl (by decide +kernel) ⟨Nat.le_of_ble_eq_true rfl, Nat.le_of_ble_eq_true rfl⟩) rfl rfl (mH_at.trans (gX9 _)) rfl (Nat.le_of_ble_eq_true rfl) ⟨Nat.le_of_ble_eq_true rfl, Nat.le_of_ble_eq_true rfl⟩ (fun E u hu => ?_) (fun r n1 h1 hp => ?_)
  · obtain ⟨hn1, S1, hu2, hpx⟩ := hu
    rw [hu2]
    have hE := hx E S1 hpx
    subst hE
    refine ⟨13, th_t1 X (x := ⟨0, 10, 13, 13⟩) rfl rfl (ct := 13) rfl (by decide) (by decide +kernel) (by decide) rfl, fun q9 => ?_⟩
    refine tv_astore X dL_signal_13 rfl ?_
    refine tv_iconst (v := 1) X dL_signal_15 (by decide) ?_
    refine tx_ret (Nat.le_of_ble_eq_true rfl) (Nat.le_of_ble_eq_true rfl) ?_
    exact tv_iret X hrt dL_signal_16 ⟨hn1, S1, rfl, Or.inr ⟨_, hpx, ⟨rfl, rfl⟩⟩⟩
  · obtain ⟨S1, hu, hp⟩ := hp
    cases hu
    refine tv_i2l X dL_signal_8 ?_
    refine mm_last X dL_signal_9 ?_
    refine tv_goto (tgt := 17) X dL_signal_10 (by decide) ?_
    refine tv_iconst (v := 0) X dL_signal_17 (by decide) ?_
    refine tx_ret (Nat.le_of_ble_eq_true rfl) (Nat.le_of_ble_eq_true rfl) ?_
    exact tv_iret X hrt dL_signal_18 ⟨Nat.le_refl _, _, rfl, Or.inl ⟨rfl, r, S1, hp, rfl⟩⟩
theorem cL_regionSize_ok {x y : Int32} {post : Int32 → mS → Prop} {px : String → mS → Prop} (hM : mxMi l yX9_regionSize wsX9_regionSize rmX9_regionSize 1 6 D n0 ft [.ref (n0 + 0), .int x, .int y] n S post px) (hx : ∀ E S1, px E S1 → E = exI) : hlM l yL_regionSize wsL_regionSize rmL_regionSize 1 6 D n0 ft [.ref (n0 + 0), .int x, .int y, .ref (n0 + 142)] n S (hlP post px cdI) := by
  refine th_enter (cc := cL_regionSize) (maxL := 5) (ret := some .int) (by decide) rfl (Nat.le_of_ble_eq_true rfl) ?_
  intro p e s m args below meth c X hrt hargs htab
  refine tv_aload_n X dL_regionSize_0 rfl ?_
  refine tv_iconst (v := 0) X dL_regionSize_1 (by decide) ?_
  refine tv_aload_n X dL_regionSize_2 rfl ?_
  refine tv_iload_n X dL_regionSize_3 rfl ?_
  refine tv_iload_n X dL_regionSize_4 rfl ?_
  refine th_callVi (q := (RX9, TX9, 8)) X htab dL_regionSize_5 hM (cwV 2 X.2.2.2.2.1 gL_regionSize_X9_regionSize rfl rfl rfl (by decide +kernel) ⟨Nat.le_of_ble_eq_true rfl, Nat.le_of_ble_eq_true rfl⟩) rfl rfl (mH_at.trans (gX9 _)) rfl (Nat.le_of_ble_eq_true rfl) ⟨Nat.le_of_ble_eq_true rfl, Nat.le_of_ble_eq_true rfl⟩ (fun E u hu => ?_) (fun r n1 h1 hp => ?_)
  · obtain ⟨hn1, S1, hu2, hpx⟩ := hu
    rw [hu2]
    have hE := hx E S1 hpx
    subst hE
    refine ⟨13, th_t1 X (x := ⟨0, 10, 13, 13⟩) rfl rfl (ct := 13) rfl (by decide) (by decide +kernel) (by decide) rfl, fun q9 => ?_⟩
    refine tv_astore X dL_regionSize_13 rfl ?_
    refine tv_iconst (v := 1) X dL_regionSize_15 (by decide) ?_
    refine tx_ret (Nat.le_of_ble_eq_true rfl) (Nat.le_of_ble_eq_true rfl) ?_
    exact tv_iret X hrt dL_regionSize_16 ⟨hn1, S1, rfl, Or.inr ⟨_, hpx, ⟨rfl, rfl⟩⟩⟩
  · obtain ⟨S1, hu, hp⟩ := hp
    cases hu
    refine tv_i2l X dL_regionSize_8 ?_
    refine mm_last X dL_regionSize_9 ?_
    refine tv_goto (tgt := 17) X dL_regionSize_10 (by decide) ?_
    refine tv_iconst (v := 0) X dL_regionSize_17 (by decide) ?_
    refine tx_ret (Nat.le_of_ble_eq_true rfl) (Nat.le_of_ble_eq_true rfl) ?_
    exact tv_iret X hrt dL_regionSize_18 ⟨Nat.le_refl _, _, rfl, Or.inl ⟨rfl, r, S1, hp, rfl⟩⟩
theorem cL_regionKind_ok {x y : Int32} {post : Int32 → mS → Prop} {px : String → mS → Prop} (hM : mxMi l yX9_regionKind wsX9_regionKind rmX9_regionKind 1 6 D n0 ft [.ref (n0 + 0), .int x, .int y] n S post px) (hx : ∀ E S1, px E S1 → E = exI) : hlM l yL_regionKind wsL_regionKind rmL_regionKind 1 6 D n0 ft [.ref (n0 + 0), .int x, .int y, .ref (n0 + 142)] n S (hlP post px cdI) := by
  refine th_enter (cc := cL_regionKind) (maxL := 5) (ret := some .int) (by decide) rfl (Nat.le_of_ble_eq_true rfl) ?_
  intro p e s m args below meth c X hrt hargs htab
  refine tv_aload_n X dL_regionKind_0 rfl ?_
  refine tv_iconst (v := 0) X dL_regionKind_1 (by decide) ?_
  refine tv_aload_n X dL_regionKind_2 rfl ?_
  refine tv_iload_n X dL_regionKind_3 rfl ?_
  refine tv_iload_n X dL_regionKind_4 rfl ?_
  refine th_callVi (q := (RX9, TX9, 8)) X htab dL_regionKind_5 hM (cwV 2 X.2.2.2.2.1 gL_regionKind_X9_regionKind rfl rfl rfl (by decide +kernel) ⟨Nat.le_of_ble_eq_true rfl, Nat.le_of_ble_eq_true rfl⟩) rfl rfl (mH_at.trans (gX9 _)) rfl (Nat.le_of_ble_eq_true rfl) ⟨Nat.le_of_ble_eq_true rfl, Nat.le_of_ble_eq_true rfl⟩ (fun E u hu => ?_) (fun r n1 h1 hp => ?_)
  · obtain ⟨hn1, S1, hu2, hpx⟩ := hu
    rw [hu2]
    have hE := hx E S1 hpx
    subst hE
    refine ⟨13, th_t1 X (x := ⟨0, 10, 13, 13⟩) rfl rfl (ct := 13) rfl (by decide) (by decide +kernel) (by decide) rfl, fun q9 => ?_⟩
    refine tv_astore X dL_regionKind_13 rfl ?_
    refine tv_iconst (v := 1) X dL_regionKind_15 (by decide) ?_
    refine tx_ret (Nat.le_of_ble_eq_true rfl) (Nat.le_of_ble_eq_true rfl) ?_
    exact tv_iret X hrt dL_regionKind_16 ⟨hn1, S1, rfl, Or.inr ⟨_, hpx, ⟨rfl, rfl⟩⟩⟩
  · obtain ⟨S1, hu, hp⟩ := hp
    cases hu
    refine tv_i2l X dL_regionKind_8 ?_
    refine mm_last X dL_regionKind_9 ?_
    refine tv_goto (tgt := 17) X dL_regionKind_10 (by decide) ?_
    refine tv_iconst (v := 0) X dL_regionKind_17 (by decide) ?_
    refine tx_ret (Nat.le_of_ble_eq_true rfl) (Nat.le_of_ble_eq_true rfl) ?_
    exact tv_iret X hrt dL_regionKind_18 ⟨Nat.le_refl _, _, rfl, Or.inl ⟨rfl, r, S1, hp, rfl⟩⟩
theorem cL_regions_ok {x : Int32} {post : Int32 → mS → Prop} {px : String → mS → Prop} (hM : mxMi l yX9_regions wsX9_regions rmX9_regions 1 6 D n0 ft [.ref (n0 + 0), .int x] n S post px) (hx : ∀ E S1, px E S1 → E = exA) : hlM l yL_regions wsL_regions rmL_regions 1 6 D n0 ft [.ref (n0 + 0), .int x, .ref (n0 + 142)] n S (hlP post px cdA) := by
  refine th_enter (cc := cL_regions) (maxL := 4) (ret := some .int) (by decide) rfl (Nat.le_of_ble_eq_true rfl) ?_
  intro p e s m args below meth c X hrt hargs htab
  refine tv_aload_n X dL_regions_0 rfl ?_
  refine tv_iconst (v := 0) X dL_regions_1 (by decide) ?_
  refine tv_aload_n X dL_regions_2 rfl ?_
  refine tv_iload_n X dL_regions_3 rfl ?_
  refine th_callVi (q := (RX9, TX9, 8)) X htab dL_regions_4 hM (cwV 1 X.2.2.2.2.1 gL_regions_X9_regions rfl rfl rfl (by decide +kernel) ⟨Nat.le_of_ble_eq_true rfl, Nat.le_of_ble_eq_true rfl⟩) rfl rfl (mH_at.trans (gX9 _)) rfl (Nat.le_of_ble_eq_true rfl) ⟨Nat.le_of_ble_eq_true rfl, Nat.le_of_ble_eq_true rfl⟩ (fun E u hu => ?_) (fun r n1 h1 hp => ?_)
  · obtain ⟨hn1, S1, hu2, hpx⟩ := hu
    rw [hu2]
    have hE := hx E S1 hpx
    subst hE
    refine ⟨12, th_t1 X (x := ⟨0, 9, 12, 15⟩) rfl rfl (ct := 15) rfl (by decide) (by decide +kernel) (by decide) rfl, fun q9 => ?_⟩
    refine tv_astore_n X dL_regions_12 rfl ?_
    refine tv_iconst (v := 1) X dL_regions_13 (by decide) ?_
    refine tx_ret (Nat.le_of_ble_eq_true rfl) (Nat.le_of_ble_eq_true rfl) ?_
    exact tv_iret X hrt dL_regions_14 ⟨hn1, S1, rfl, Or.inr ⟨_, hpx, ⟨rfl, rfl⟩⟩⟩
  · obtain ⟨S1, hu, hp⟩ := hp
    cases hu
    refine tv_i2l X dL_regions_7 ?_
    refine mm_last X dL_regions_8 ?_
    refine tv_goto (tgt := 15) X dL_regions_9 (by decide) ?_
    refine tv_iconst (v := 0) X dL_regions_15 (by decide) ?_
    refine tx_ret (Nat.le_of_ble_eq_true rfl) (Nat.le_of_ble_eq_true rfl) ?_
    exact tv_iret X hrt dL_regions_16 ⟨Nat.le_refl _, _, rfl, Or.inl ⟨rfl, r, S1, hp, rfl⟩⟩
theorem cL_setting_ok {x : Int32} {post : Int32 → mS → Prop} {px : String → mS → Prop} (hM : mxMi l yX9_setting wsX9_setting rmX9_setting 1 6 D n0 ft [.ref (n0 + 0), .int x] n S post px) (hx : ∀ E S1, px E S1 → E = exI) : hlM l yL_setting wsL_setting rmL_setting 1 6 D n0 ft [.ref (n0 + 0), .int x, .ref (n0 + 142)] n S (hlP post px cdI) := by
  refine th_enter (cc := cL_setting) (maxL := 4) (ret := some .int) (by decide) rfl (Nat.le_of_ble_eq_true rfl) ?_
  intro p e s m args below meth c X hrt hargs htab
  refine tv_aload_n X dL_setting_0 rfl ?_
  refine tv_iconst (v := 0) X dL_setting_1 (by decide) ?_
  refine tv_aload_n X dL_setting_2 rfl ?_
  refine tv_iload_n X dL_setting_3 rfl ?_
  refine th_callVi (q := (RX9, TX9, 8)) X htab dL_setting_4 hM (cwV 1 X.2.2.2.2.1 gL_setting_X9_setting rfl rfl rfl (by decide +kernel) ⟨Nat.le_of_ble_eq_true rfl, Nat.le_of_ble_eq_true rfl⟩) rfl rfl (mH_at.trans (gX9 _)) rfl (Nat.le_of_ble_eq_true rfl) ⟨Nat.le_of_ble_eq_true rfl, Nat.le_of_ble_eq_true rfl⟩ (fun E u hu => ?_) (fun r n1 h1 hp => ?_)
  · obtain ⟨hn1, S1, hu2, hpx⟩ := hu
    rw [hu2]
    have hE := hx E S1 hpx
    subst hE
    refine ⟨12, th_t1 X (x := ⟨0, 9, 12, 13⟩) rfl rfl (ct := 13) rfl (by decide) (by decide +kernel) (by decide) rfl, fun q9 => ?_⟩
    refine tv_astore_n X dL_setting_12 rfl ?_
    refine tv_iconst (v := 1) X dL_setting_13 (by decide) ?_
    refine tx_ret (Nat.le_of_ble_eq_true rfl) (Nat.le_of_ble_eq_true rfl) ?_
    exact tv_iret X hrt dL_setting_14 ⟨hn1, S1, rfl, Or.inr ⟨_, hpx, ⟨rfl, rfl⟩⟩⟩
  · obtain ⟨S1, hu, hp⟩ := hp
    cases hu
    refine tv_i2l X dL_setting_7 ?_
    refine mm_last X dL_setting_8 ?_
    refine tv_goto (tgt := 15) X dL_setting_9 (by decide) ?_
    refine tv_iconst (v := 0) X dL_setting_15 (by decide) ?_
    refine tx_ret (Nat.le_of_ble_eq_true rfl) (Nat.le_of_ble_eq_true rfl) ?_
    exact tv_iret X hrt dL_setting_16 ⟨Nat.le_refl _, _, rfl, Or.inl ⟨rfl, r, S1, hp, rfl⟩⟩
theorem cL_contact_ok {x y : Int32} {post : Int32 → mS → Prop} {px : String → mS → Prop} (hM : mxMi l yX9_contact wsX9_contact rmX9_contact 2 12 D n0 ft [.ref (n0 + 0), .int x, .int y] n S post px) (hx : ∀ E S1, px E S1 → E = exI ∨ E = exA) : hlM l yL_contact wsL_contact rmL_contact 2 12 D n0 ft [.ref (n0 + 0), .int x, .int y, .ref (n0 + 142)] n S (hlP post px cdIA) := by
  refine th_enter (cc := cL_contact) (maxL := 5) (ret := some .int) (by decide) rfl (Nat.le_of_ble_eq_true rfl) ?_
  intro p e s m args below meth c X hrt hargs htab
  refine tv_aload_n X dL_contact_0 rfl ?_
  refine tv_iconst (v := 0) X dL_contact_1 (by decide) ?_
  refine tv_aload_n X dL_contact_2 rfl ?_
  refine tv_iload_n X dL_contact_3 rfl ?_
  refine tv_iload_n X dL_contact_4 rfl ?_
  refine th_callVi (q := (RX9, TX9, 8)) X htab dL_contact_5 hM (cwV 2 X.2.2.2.2.1 gL_contact_X9_contact rfl rfl rfl (by decide +kernel) ⟨Nat.le_of_ble_eq_true rfl, Nat.le_of_ble_eq_true rfl⟩) rfl rfl (mH_at.trans (gX9 _)) rfl (Nat.le_of_ble_eq_true rfl) ⟨Nat.le_of_ble_eq_true rfl, Nat.le_of_ble_eq_true rfl⟩ (fun E u hu => ?_) (fun r n1 h1 hp => ?_)
  · obtain ⟨hn1, S1, hu2, hpx⟩ := hu
    rw [hu2]
    rcases hx E S1 hpx with hE | hE
    · subst hE
      refine ⟨13, th_t1 X (x := ⟨0, 10, 13, 13⟩) rfl rfl (ct := 13) rfl (by decide) (by decide +kernel) (by decide) rfl, fun q9 => ?_⟩
      refine tv_astore X dL_contact_13 rfl ?_
      refine tv_iconst (v := 1) X dL_contact_15 (by decide) ?_
      refine tx_ret (Nat.le_of_ble_eq_true rfl) (Nat.le_of_ble_eq_true rfl) ?_
      exact tv_iret X hrt dL_contact_16 ⟨hn1, S1, rfl, Or.inr ⟨_, hpx, Or.inl ⟨rfl, rfl⟩⟩⟩
    · subst hE
      refine ⟨17, th_t2 X (x1 := ⟨0, 10, 13, 13⟩) (x := ⟨0, 10, 17, 15⟩) rfl (ct1 := 13) rfl (by decide) (by decide +kernel) X.2.2.2.2.2.1.2.2.2.2.2.2.2.2.1 rfl (ct := 15) rfl (by decide) (by decide +kernel) (by decide) rfl, fun q9 => ?_⟩
      refine tv_astore X dL_contact_17 rfl ?_
      refine tv_iconst (v := 2) X dL_contact_19 (by decide) ?_
      refine tx_ret (Nat.le_of_ble_eq_true rfl) (Nat.le_of_ble_eq_true rfl) ?_
      exact tv_iret X hrt dL_contact_20 ⟨hn1, S1, rfl, Or.inr ⟨_, hpx, Or.inr ⟨rfl, rfl⟩⟩⟩
  · obtain ⟨S1, hu, hp⟩ := hp
    cases hu
    refine tv_i2l X dL_contact_8 ?_
    refine mm_last X dL_contact_9 ?_
    refine tv_goto (tgt := 21) X dL_contact_10 (by decide) ?_
    refine tv_iconst (v := 0) X dL_contact_21 (by decide) ?_
    refine tx_ret (Nat.le_of_ble_eq_true rfl) (Nat.le_of_ble_eq_true rfl) ?_
    exact tv_iret X hrt dL_contact_22 ⟨Nat.le_refl _, _, rfl, Or.inl ⟨rfl, r, S1, hp, rfl⟩⟩
theorem cL_isDown_ok {x : Int32} {post : Int32 → mS → Prop} {px : String → mS → Prop} (hM : mxMi l yX9_isDown wsX9_isDown rmX9_isDown 1 6 D n0 ft [.ref (n0 + 0), .int x] n S post px) (hx : ∀ E S1, px E S1 → E = exI) (hb : ∀ v S1, post v S1 → v = 0 ∨ v = 1) : hlM l yL_isDown wsL_isDown rmL_isDown 1 6 D n0 ft [.ref (n0 + 0), .int x, .ref (n0 + 142)] n S (hlP post px cdI) := by
  refine th_enter (cc := cL_isDown) (maxL := 4) (ret := some .int) (by decide) rfl (Nat.le_of_ble_eq_true rfl) ?_
  intro p e s m args below meth c X hrt hargs htab
  refine tv_aload_n X dL_isDown_0 rfl ?_
  refine tv_iconst (v := 0) X dL_isDown_1 (by decide) ?_
  refine tv_aload_n X dL_isDown_2 rfl ?_
  refine tv_iload_n X dL_isDown_3 rfl ?_
  refine th_callVi (q := (RX9, TX9, 8)) X htab dL_isDown_4 hM (cwV 1 X.2.2.2.2.1 gL_isDown_X9_isDown rfl rfl rfl (by decide +kernel) ⟨Nat.le_of_ble_eq_true rfl, Nat.le_of_ble_eq_true rfl⟩) rfl rfl (mH_at.trans (gX9 _)) rfl (Nat.le_of_ble_eq_true rfl) ⟨Nat.le_of_ble_eq_true rfl, Nat.le_of_ble_eq_true rfl⟩ (fun E u hu => ?_) (fun r n1 h1 hp => ?_)
  · obtain ⟨hn1, S1, hu2, hpx⟩ := hu
    rw [hu2]
    have hE := hx E S1 hpx
    subst hE
    refine ⟨19, th_t1 X (x := ⟨0, 16, 19, 13⟩) rfl rfl (ct := 13) rfl (by decide) (by decide +kernel) (by decide) rfl, fun q9 => ?_⟩
    refine tv_astore_n X dL_isDown_19 rfl ?_
    refine tv_iconst (v := 1) X dL_isDown_20 (by decide) ?_
    refine tx_ret (Nat.le_of_ble_eq_true rfl) (Nat.le_of_ble_eq_true rfl) ?_
    exact tv_iret X hrt dL_isDown_21 ⟨hn1, S1, rfl, Or.inr ⟨_, hpx, ⟨rfl, rfl⟩⟩⟩
  · obtain ⟨S1, hu, hp⟩ := hp
    cases hu
    rcases hb r S1 hp with hr | hr
    · subst hr
      refine tv_if_eq (tgt := 14) X dL_isDown_7 (by decide) (fun h1 => ?_) (fun h1 => ?_)
      rotate_left
      · exact absurd rfl h1
      refine tv_lconst X dL_isDown_14 rfl ?_
      refine mm_last X dL_isDown_15 ?_
      refine tv_goto (tgt := 22) X dL_isDown_16 (by decide) ?_
      refine tv_iconst (v := 0) X dL_isDown_22 (by decide) ?_
      refine tx_ret (Nat.le_of_ble_eq_true rfl) (Nat.le_of_ble_eq_true rfl) ?_
      exact tv_iret X hrt dL_isDown_23 ⟨Nat.le_refl _, _, rfl, Or.inl ⟨rfl, _, S1, hp, rfl⟩⟩
    · subst hr
      refine tv_if_eq (tgt := 14) X dL_isDown_7 (by decide) (fun h1 => ?_) (fun h1 => ?_)
      · exact absurd h1 (by decide)
      refine tv_lconst X dL_isDown_10 rfl ?_
      refine tv_goto (tgt := 15) X dL_isDown_11 (by decide) ?_
      refine mm_last X dL_isDown_15 ?_
      refine tv_goto (tgt := 22) X dL_isDown_16 (by decide) ?_
      refine tv_iconst (v := 0) X dL_isDown_22 (by decide) ?_
      refine tx_ret (Nat.le_of_ble_eq_true rfl) (Nat.le_of_ble_eq_true rfl) ?_
      exact tv_iret X hrt dL_isDown_23 ⟨Nat.le_refl _, _, rfl, Or.inl ⟨rfl, _, S1, hp, rfl⟩⟩
theorem cL_track_ok {x y : Int32} {post : Int32 → mS → Prop} {px : String → mS → Prop} (hM : mxMi l yX9_track wsX9_track rmX9_track 2 12 D n0 ft [.ref (n0 + 0), .int x, .int y] n S post px) (hx : ∀ E S1, px E S1 → E = exI ∨ E = exA) : hlM l yL_track wsL_track rmL_track 2 12 D n0 ft [.ref (n0 + 0), .int x, .int y, .ref (n0 + 142)] n S (hlP post px cdIA) := by
  refine th_enter (cc := cL_track) (maxL := 5) (ret := some .int) (by decide) rfl (Nat.le_of_ble_eq_true rfl) ?_
  intro p e s m args below meth c X hrt hargs htab
  refine tv_aload_n X dL_track_0 rfl ?_
  refine tv_iconst (v := 0) X dL_track_1 (by decide) ?_
  refine tv_aload_n X dL_track_2 rfl ?_
  refine tv_iload_n X dL_track_3 rfl ?_
  refine tv_iload_n X dL_track_4 rfl ?_
  refine th_callVi (q := (RX9, TX9, 8)) X htab dL_track_5 hM (cwV 2 X.2.2.2.2.1 gL_track_X9_track rfl rfl rfl (by decide +kernel) ⟨Nat.le_of_ble_eq_true rfl, Nat.le_of_ble_eq_true rfl⟩) rfl rfl (mH_at.trans (gX9 _)) rfl (Nat.le_of_ble_eq_true rfl) ⟨Nat.le_of_ble_eq_true rfl, Nat.le_of_ble_eq_true rfl⟩ (fun E u hu => ?_) (fun r n1 h1 hp => ?_)
  · obtain ⟨hn1, S1, hu2, hpx⟩ := hu
    rw [hu2]
    rcases hx E S1 hpx with hE | hE
    · subst hE
      refine ⟨13, th_t1 X (x := ⟨0, 10, 13, 13⟩) rfl rfl (ct := 13) rfl (by decide) (by decide +kernel) (by decide) rfl, fun q9 => ?_⟩
      refine tv_astore X dL_track_13 rfl ?_
      refine tv_iconst (v := 1) X dL_track_15 (by decide) ?_
      refine tx_ret (Nat.le_of_ble_eq_true rfl) (Nat.le_of_ble_eq_true rfl) ?_
      exact tv_iret X hrt dL_track_16 ⟨hn1, S1, rfl, Or.inr ⟨_, hpx, Or.inl ⟨rfl, rfl⟩⟩⟩
    · subst hE
      refine ⟨17, th_t2 X (x1 := ⟨0, 10, 13, 13⟩) (x := ⟨0, 10, 17, 15⟩) rfl (ct1 := 13) rfl (by decide) (by decide +kernel) X.2.2.2.2.2.1.2.2.2.2.2.2.2.2.1 rfl (ct := 15) rfl (by decide) (by decide +kernel) (by decide) rfl, fun q9 => ?_⟩
      refine tv_astore X dL_track_17 rfl ?_
      refine tv_iconst (v := 2) X dL_track_19 (by decide) ?_
      refine tx_ret (Nat.le_of_ble_eq_true rfl) (Nat.le_of_ble_eq_true rfl) ?_
      exact tv_iret X hrt dL_track_20 ⟨hn1, S1, rfl, Or.inr ⟨_, hpx, Or.inr ⟨rfl, rfl⟩⟩⟩
  · obtain ⟨S1, hu, hp⟩ := hp
    cases hu
    refine tv_i2l X dL_track_8 ?_
    refine mm_last X dL_track_9 ?_
    refine tv_goto (tgt := 21) X dL_track_10 (by decide) ?_
    refine tv_iconst (v := 0) X dL_track_21 (by decide) ?_
    refine tx_ret (Nat.le_of_ble_eq_true rfl) (Nat.le_of_ble_eq_true rfl) ?_
    exact tv_iret X hrt dL_track_22 ⟨Nat.le_refl _, _, rfl, Or.inl ⟨rfl, r, S1, hp, rfl⟩⟩
theorem cL_squaredDistance_ok {x y : Int32} {post : Int32 → mS → Prop} {px : String → mS → Prop} (hM : mxMi l yX9_squaredDistance wsX9_squaredDistance rmX9_squaredDistance 2 12 D n0 ft [.ref (n0 + 0), .int x, .int y] n S post px) (hx : ∀ E S1, px E S1 → E = exI) : hlM l yL_squaredDistance wsL_squaredDistance rmL_squaredDistance 2 12 D n0 ft [.ref (n0 + 0), .int x, .int y, .ref (n0 + 142)] n S (hlP post px cdI) := by
  refine th_enter (cc := cL_squaredDistance) (maxL := 5) (ret := some .int) (by decide) rfl (Nat.le_of_ble_eq_true rfl) ?_
  intro p e s m args below meth c X hrt hargs htab
  refine tv_aload_n X dL_squaredDistance_0 rfl ?_
  refine tv_iconst (v := 0) X dL_squaredDistance_1 (by decide) ?_
  refine tv_aload_n X dL_squaredDistance_2 rfl ?_
  refine tv_iload_n X dL_squaredDistance_3 rfl ?_
  refine tv_iload_n X dL_squaredDistance_4 rfl ?_
  refine th_callVi (q := (RX9, TX9, 8)) X htab dL_squaredDistance_5 hM (cwV 2 X.2.2.2.2.1 gL_squaredDistance_X9_squaredDistance rfl rfl rfl (by decide +kernel) ⟨Nat.le_of_ble_eq_true rfl, Nat.le_of_ble_eq_true rfl⟩) rfl rfl (mH_at.trans (gX9 _)) rfl (Nat.le_of_ble_eq_true rfl) ⟨Nat.le_of_ble_eq_true rfl, Nat.le_of_ble_eq_true rfl⟩ (fun E u hu => ?_) (fun r n1 h1 hp => ?_)
  · obtain ⟨hn1, S1, hu2, hpx⟩ := hu
    rw [hu2]
    have hE := hx E S1 hpx
    subst hE
    refine ⟨13, th_t1 X (x := ⟨0, 10, 13, 13⟩) rfl rfl (ct := 13) rfl (by decide) (by decide +kernel) (by decide) rfl, fun q9 => ?_⟩
    refine tv_astore X dL_squaredDistance_13 rfl ?_
    refine tv_iconst (v := 1) X dL_squaredDistance_15 (by decide) ?_
    refine tx_ret (Nat.le_of_ble_eq_true rfl) (Nat.le_of_ble_eq_true rfl) ?_
    exact tv_iret X hrt dL_squaredDistance_16 ⟨hn1, S1, rfl, Or.inr ⟨_, hpx, ⟨rfl, rfl⟩⟩⟩
  · obtain ⟨S1, hu, hp⟩ := hp
    cases hu
    refine tv_i2l X dL_squaredDistance_8 ?_
    refine mm_last X dL_squaredDistance_9 ?_
    refine tv_goto (tgt := 17) X dL_squaredDistance_10 (by decide) ?_
    refine tv_iconst (v := 0) X dL_squaredDistance_17 (by decide) ?_
    refine tx_ret (Nat.le_of_ble_eq_true rfl) (Nat.le_of_ble_eq_true rfl) ?_
    exact tv_iret X hrt dL_squaredDistance_18 ⟨Nat.le_refl _, _, rfl, Or.inl ⟨rfl, r, S1, hp, rfl⟩⟩
theorem cL_match_ok {x : Int32} {post : Int32 → mS → Prop} {px : String → mS → Prop} (hM : mxMi l yX9_match wsX9_match rmX9_match 1 6 D n0 ft [.ref (n0 + 0), .int x] n S post px) (hx : ∀ E S1, px E S1 → E = exI) : hlM l yL_match wsL_match rmL_match 1 6 D n0 ft [.ref (n0 + 0), .int x, .ref (n0 + 142)] n S (hlP post px cdI) := by
  refine th_enter (cc := cL_match) (maxL := 4) (ret := some .int) (by decide) rfl (Nat.le_of_ble_eq_true rfl) ?_
  intro p e s m args below meth c X hrt hargs htab
  refine tv_aload_n X dL_match_0 rfl ?_
  refine tv_iconst (v := 0) X dL_match_1 (by decide) ?_
  refine tv_aload_n X dL_match_2 rfl ?_
  refine tv_iload_n X dL_match_3 rfl ?_
  refine th_callVi (q := (RX9, TX9, 8)) X htab dL_match_4 hM (cwV 1 X.2.2.2.2.1 gL_match_X9_match rfl rfl rfl (by decide +kernel) ⟨Nat.le_of_ble_eq_true rfl, Nat.le_of_ble_eq_true rfl⟩) rfl rfl (mH_at.trans (gX9 _)) rfl (Nat.le_of_ble_eq_true rfl) ⟨Nat.le_of_ble_eq_true rfl, Nat.le_of_ble_eq_true rfl⟩ (fun E u hu => ?_) (fun r n1 h1 hp => ?_)
  · obtain ⟨hn1, S1, hu2, hpx⟩ := hu
    rw [hu2]
    have hE := hx E S1 hpx
    subst hE
    refine ⟨12, th_t1 X (x := ⟨0, 9, 12, 13⟩) rfl rfl (ct := 13) rfl (by decide) (by decide +kernel) (by decide) rfl, fun q9 => ?_⟩
    refine tv_astore_n X dL_match_12 rfl ?_
    refine tv_iconst (v := 1) X dL_match_13 (by decide) ?_
    refine tx_ret (Nat.le_of_ble_eq_true rfl) (Nat.le_of_ble_eq_true rfl) ?_
    exact tv_iret X hrt dL_match_14 ⟨hn1, S1, rfl, Or.inr ⟨_, hpx, ⟨rfl, rfl⟩⟩⟩
  · obtain ⟨S1, hu, hp⟩ := hp
    cases hu
    refine tv_i2l X dL_match_7 ?_
    refine mm_last X dL_match_8 ?_
    refine tv_goto (tgt := 15) X dL_match_9 (by decide) ?_
    refine tv_iconst (v := 0) X dL_match_15 (by decide) ?_
    refine tx_ret (Nat.le_of_ble_eq_true rfl) (Nat.le_of_ble_eq_true rfl) ?_
    exact tv_iret X hrt dL_match_16 ⟨Nat.le_refl _, _, rfl, Or.inl ⟨rfl, r, S1, hp, rfl⟩⟩
end C51

