/-! objects in the making: a block of cells over a heap -/
def tv_bl (h : tv_H) (a N : Nat) (f : Nat → Option tv_E) : tv_H := fun q => if a ≤ q ∧ q < a + N then f (q - a) else h q
def fupd (f : Nat → Option tv_E) (k : Nat) (e : tv_E) : Nat → Option tv_E := fun i => if i = k then some e else f i
theorem tv_bl_at {h : tv_H} {a k i : Nat} {f : Nat → Option tv_E} (hi : i < k) : tv_bl h a k f (a + i) = f i := by
  show (if a ≤ a + i ∧ a + i < a + k then f (a + i - a) else h (a + i)) = f i
  rw [if_pos (by omega), Nat.add_sub_cancel_left]
theorem tv_bl_1 {h : tv_H} {a : Nat} {e : tv_E} (he : h a = some e) : h = tv_bl h a 1 (fun _ => some e) := by
  funext q
  show h q = if a ≤ q ∧ q < a + 1 then some e else h q
  by_cases hq : a ≤ q ∧ q < a + 1
  · rw [if_pos hq, show q = a by omega, he]
  · rw [if_neg hq]
theorem tv_bl_new {h : tv_H} {a k : Nat} {f : Nat → Option tv_E} {e : tv_E} : tv_up (tv_bl h a k f) (a + k) e = tv_bl h a (k + 1) (fupd f k e) := by
  funext q
  show (if q = a + k then some e else if a ≤ q ∧ q < a + k then f (q - a) else h q) = if a ≤ q ∧ q < a + (k + 1) then (if q - a = k then some e else f (q - a)) else h q
  by_cases e1 : q = a + k
  · rw [if_pos e1, if_pos (by omega), if_pos (by omega)]
  · rw [if_neg e1]
    by_cases e2 : a ≤ q ∧ q < a + k
    · rw [if_pos e2, if_pos (by omega), if_neg (by omega)]
    · rw [if_neg e2, if_neg (by omega)]
theorem tv_bl_set {h : tv_H} {a k i : Nat} {f : Nat → Option tv_E} {e : tv_E} (hi : i < k) : tv_up (tv_bl h a k f) (a + i) e = tv_bl h a k (fupd f i e) := by
  funext q
  show (if q = a + i then some e else if a ≤ q ∧ q < a + k then f (q - a) else h q) = if a ≤ q ∧ q < a + k then (if q - a = i then some e else f (q - a)) else h q
  by_cases e1 : q = a + i
  · rw [if_pos e1, if_pos (by omega), if_pos (by omega)]
  · rw [if_neg e1]
    by_cases e2 : a ≤ q ∧ q < a + k
    · rw [if_pos e2, if_pos (by omega), if_neg (by omega)]
    · rw [if_neg e2, if_neg (by omega)]
theorem tv_bl_bl {h : tv_H} {a k c N : Nat} {f g : Nat → Option tv_E} (hk : k ≤ c + N) (hc : c ≤ k) : tv_bl (tv_bl h a k f) (a + c) N g = tv_bl h a (c + N) (fun i => if c ≤ i then g (i - c) else f i) := by
  funext q
  show (if a + c ≤ q ∧ q < a + c + N then g (q - (a + c)) else if a ≤ q ∧ q < a + k then f (q - a) else h q) = if a ≤ q ∧ q < a + (c + N) then (if c ≤ q - a then g (q - a - c) else f (q - a)) else h q
  by_cases e1 : a + c ≤ q ∧ q < a + c + N
  · rw [if_pos e1, if_pos (by omega), if_pos (by omega), show q - (a + c) = q - a - c by omega]
  · rw [if_neg e1]
    by_cases e2 : a ≤ q ∧ q < a + k
    · rw [if_pos e2, if_pos (by omega), if_neg (by omega)]
    · rw [if_neg e2, if_neg (by omega)]
theorem tv_bl_cg {h : tv_H} {a k : Nat} {f g : Nat → Option tv_E} (hfg : ∀ i, i < k → f i = g i) : tv_bl h a k f = tv_bl h a k g := by
  funext q
  show (if a ≤ q ∧ q < a + k then f (q - a) else h q) = if a ≤ q ∧ q < a + k then g (q - a) else h q
  by_cases e2 : a ≤ q ∧ q < a + k
  · rw [if_pos e2, if_pos e2, hfg _ (by omega)]
  · rw [if_neg e2, if_neg e2]
/-- cells that are the same on the machine -/
def tv_ce (e e' : tv_E) : Prop := match e, e' with
  | .inl x, .inl y => x.1 = y.1 ∧ ∀ cA, vp_cell cA x.2 = vp_cell cA y.2
  | .inr o, .inr o' => o = o'
  | _, _ => False
theorem tv_ce_refl {e : tv_E} : tv_ce e e := by
  cases e with
  | inl x => exact ⟨rfl, fun _ => rfl⟩
  | inr o => exact rfl
theorem arrV_cg {cA : ClassId} {N : Nat} {f g : Nat → Value} (h : ∀ j, j < N → f j = g j) : arrV cA N f = arrV cA N g := by
  unfold arrV
  have e : (Array.ofFn fun j : Fin N => f ↑j) = Array.ofFn fun j : Fin N => g ↑j := congrArg Array.ofFn (funext fun j => h j.1 j.2)
  rw [e]
theorem tv_ce_q {ty : FieldType} {N : Nat} {f g : Nat → Option Nat} (h : ∀ j, j < N → f j = g j) : tv_ce (.inl (ty, (N, .inr (.inr (.inr (.inr f)))))) (.inl (ty, (N, .inr (.inr (.inr (.inr g)))))) :=
  ⟨rfl, fun cA => (arrV_cg (fun j hj => congrArg va_rf (h j hj)) : arrV cA N (fun j => va_rf (f j)) = arrV cA N (fun j => va_rf (g j)))⟩
theorem tv_ce_i {ty : FieldType} {N : Nat} {f g : Nat → Int32} (h : ∀ j, j < N → f j = g j) : tv_ce (.inl (ty, (N, .inl f))) (.inl (ty, (N, .inl g))) :=
  ⟨rfl, fun cA => (arrV_cg (fun j hj => congrArg Value.int (h j hj)) : arrV cA N (fun j => .int (f j)) = arrV cA N (fun j => .int (g j)))⟩
theorem tv_at_ce {D : va_G} {cl : List vw_C} {U : State} {a : Nat} {e e' : tv_E} {H : Heap} (hc : tv_ce e e') (h : tv_at D cl U a e H) : tv_at D cl U a e' H := by
  cases e with
  | inl x =>
    cases e' with
    | inl y =>
      obtain ⟨cA, h1, h2, h3⟩ := h
      obtain ⟨c1, c2⟩ := hc
      exact ⟨cA, by rw [← c2 cA]; exact h1, by rw [← c1]; exact h2, by rw [← c1]; exact h3⟩
    | inr o => exact hc.elim
  | inr o =>
    cases e' with
    | inl y => exact hc.elim
    | inr o' =>
      have h9 : o = o' := hc
      rw [← h9]
      exact h
section BLK
variable {p : Program} {l : Launch} {e : Env} {R : Room} {s : State} {m : MethodId} {args : Array Value} {below : List Frame} {meth : Method} {c : Code} {Q : State → Prop} {D : va_G} {n0 cells slots nL pc : Nat} {L : List (Nat × Value)} {st : List Value} {n : Nat} {h : tv_H} {cc : ByteArray} {own : String} {Ts : List Cond} {ft : tv_ft} {a k : Nat} {f : Nat → Option tv_E}
theorem tv_conv {h' : tv_H} (hc : ∀ a e', h' a = some e' → ∃ e, h a = some e ∧ tv_ce e e') (kk : tv_V p l e R s m args below meth c Q D vwCl n0 cells slots nL pc L st n h') : tv_V p l e R s m args below meth c Q D vwCl n0 cells slots nL pc L st n h := fun H locs ls hr hS hh => kk H locs ls ⟨hr.1, hr.2.1, fun a e' he => by
  obtain ⟨e, h1, h2⟩ := hc a e' he
  exact ⟨(hr.2.2 a e h1).1, tv_at_ce h2 (hr.2.2 a e h1).2⟩⟩ hS hh
theorem bl_conv {g : Nat → Option tv_E} (hc : ∀ i, i < k → ∀ e', g i = some e' → ∃ e, f i = some e ∧ tv_ce e e') (kk : tv_V p l e R s m args below meth c Q D vwCl n0 cells slots nL pc L st n (tv_bl h a k g)) : tv_V p l e R s m args below meth c Q D vwCl n0 cells slots nL pc L st n (tv_bl h a k f) := by
  refine tv_conv (h' := tv_bl h a k g) (fun q e' he => ?_) kk
  unfold tv_bl at he ⊢
  by_cases e2 : a ≤ q ∧ q < a + k
  · rw [if_pos e2] at he ⊢
    exact hc _ (by omega) _ he
  · rw [if_neg e2] at he ⊢
    exact ⟨e', he, tv_ce_refl⟩
theorem tv_heap {h' : tv_H} (hh : h = h') (kk : tv_V p l e R s m args below meth c Q D vwCl n0 cells slots nL pc L st n h') : tv_V p l e R s m args below meth c Q D vwCl n0 cells slots nL pc L st n h := hh ▸ kk
theorem bl_newa (X : tv_X p s m args meth c cc nL own Ts D vwCl n0 ft) {atype : ArrayType} (d : decode cc pc = .ok (.newarray atype, 2)) (harr : Cond.arrayClass (newarray.typeOf atype) ∈ Ts) {ty : FieldType} (hty : newarray.typeOf atype = ty) (hra : ∀ (U : State) (cA : ClassId), U.vm.findClass ("[" ++ ty.toString) = some cA → va_RA U cA ty) {z : Int32} {N : Nat} {a0 : vp_A} (ha : ∀ cA : ClassId, vp_cell cA a0 = arrV cA N (fun _ => defaultValue ty)) (hz : ¬ z < 0) (hN : z.toNatClampNeg = N) (hbytes : N * componentBytes ty ≤ 536870912) (hR : cells + 1 ≤ R.cells ∧ slots + N ≤ R.slots)
    (kk : tv_V p l e R s m args below meth c Q D vwCl n0 (cells + 1) (slots + N) nL (pc + 2) L (.ref (a + k) :: st) (a + (k + 1)) (tv_bl h a (k + 1) (fupd f k (.inl (ty, a0))))) : tv_V p l e R s m args below meth c Q D vwCl n0 cells slots nL pc L (.int z :: st) (a + k) (tv_bl h a k f) := by
  refine tv_newa X d harr hty hra ha hz hN hbytes hR ?_
  rw [tv_bl_new]
  exact kk
theorem bl_new (X : tv_X p s m args meth c cc nL own Ts D vwCl n0 ft) {C : String} {T : u_T} {N ci index : Nat} (d : decode cc pc = .ok (.new index, 3)) (hin : ∀ w ∈ u_ws C T N, w ∈ Ts) (hc : vwCl[ci]? = some (C, T, N)) (ty0 : Nat → FieldType) (hty : ∀ k, k < N → parseFieldDescriptor (T k).2.2.1 = some (ty0 k)) (hcl : Cond.classLink own index C ∈ Ts) (hinst : Cond.instantiable C N ∈ Ts) (hini : Cond.initialized C ∈ Ts) {fs : List Value} (hfs : ∀ j, j < N → defaultValue (ty0 j) = vp_V fs j) (hR : cells + 1 ≤ R.cells ∧ slots + N ≤ R.slots)
    (kk : tv_V p l e R s m args below meth c Q D vwCl n0 (cells + 1) (slots + N) nL (pc + 3) L (.ref (a + k) :: st) (a + (k + 1)) (tv_bl h a (k + 1) (fupd f k (.inr (ci, fs))))) : tv_V p l e R s m args below meth c Q D vwCl n0 cells slots nL pc L st (a + k) (tv_bl h a k f) := by
  refine tv_new X d hin hc ty0 hty hcl hinst hini hfs hR ?_
  rw [tv_bl_new]
  exact kk
theorem bl_put (X : tv_X p s m args meth c cc nL own Ts D vwCl n0 ft) {C : String} {T : u_T} {N ci index : Nat} (d : decode cc pc = .ok (.putfield index, 3)) (hin : ∀ w ∈ u_ws C T N, w ∈ Ts) (hc : vwCl[ci]? = some (C, T, N)) (ty0 : Nat → FieldType) (hty : ∀ k, k < N → parseFieldDescriptor (T k).2.2.1 = some (ty0 k)) (hnm : ∀ a, a < N → ∀ b, b < N → a ≠ b → (T a).2.1 ≠ (T b).2.1) (k0 : Nat) (hk : k0 < N) (hlink : Cond.fieldLink own index (T k0).1 (T k0).2.1 (T k0).2.2.1 ∈ Ts) (i : Nat) (hi : i < k) {fs : List Value} (he : f i = some (.inr (ci, fs))) (hfin : (T k0).2.2.2 = false ∨ ((T k0).2.2.2 = true ∧ meth.name = "<init>" ∧ (T k0).1 = own)) {v : Value} (hn : narrow (ty0 k0) v = v) (hfit : fits (ty0 k0) v = true) (hl : k0 < fs.length)
    (kk : tv_V p l e R s m args below meth c Q D vwCl n0 cells slots nL (pc + 3) L st n (tv_bl h a k (fupd f i (.inr (ci, fs.set k0 v))))) : tv_V p l e R s m args below meth c Q D vwCl n0 cells slots nL pc L (v :: .ref (a + i) :: st) n (tv_bl h a k f) := by
  refine tv_put X d hin hc ty0 hty hnm k0 hk hlink ((tv_bl_at hi).trans he) hfin hn hfit hl ?_
  rw [tv_bl_set hi]
  exact kk
theorem bl_getf (X : tv_X p s m args meth c cc nL own Ts D vwCl n0 ft) {C : String} {T : u_T} {N ci index : Nat} (d : decode cc pc = .ok (.getfield index, 3)) (hin : ∀ w ∈ u_ws C T N, w ∈ Ts) (hc : vwCl[ci]? = some (C, T, N)) (k0 : Nat) (hk : k0 < N) (hlink : Cond.fieldLink own index (T k0).1 (T k0).2.1 (T k0).2.2.1 ∈ Ts) (i : Nat) (hi : i < k) {fs : List Value} (he : f i = some (.inr (ci, fs))) {v : Value} (hv : fs[k0]? = some v)
    (kk : tv_V p l e R s m args below meth c Q D vwCl n0 cells slots nL (pc + 3) L (v :: st) n (tv_bl h a k f)) : tv_V p l e R s m args below meth c Q D vwCl n0 cells slots nL pc L (.ref (a + i) :: st) n (tv_bl h a k f) :=
  tv_getf X d hin hc k0 hk hlink ((tv_bl_at hi).trans he) hv kk
end BLK
/-- what a constructor leaves: its cells over the heap -/
def blMv (l : Launch) (y : MethodName) (ws : List Cond) (rm : Room) (mc ms : Nat) (D : va_G) (n0 : Nat) (ft : tv_ft) (a N : Nat) (h : tv_H) (f : Nat → Option tv_E) : Prop := tv_Mv l y ws rm mc ms D vwCl n0 ft [.ref a] (a + 1) h (fun u => u = (a + N, tv_bl h a N f))
def zri (N : Nat) : Option tv_E := some (.inl (.int, (N, .inl (fun _ => 0))))
def pnF (a : Nat) (i : Nat) : Option tv_E := bif Nat.beq i 0 then some (.inr (4, [.ref (a + 1), .ref (a + 2)])) else zri 48
def rgF (a : Nat) (i : Nat) : Option tv_E := bif Nat.beq i 0 then some (.inr (5, [.ref (a + 1), .ref (a + 2), .ref (a + 3), .int 0, .int 0])) else zri 48
def coF (a : Nat) (i : Nat) : Option tv_E := bif Nat.beq i 0 then some (.inr (1, [.ref (a + 1), .ref (a + 2), .ref (a + 3), .ref (a + 4), .ref (a + 5), .int 0])) else bif Nat.beq i 1 then zri 48 else zri 6
def txF (a : Nat) (i : Nat) : Option tv_E := bif Nat.beq i 0 then some (.inr (7, [.ref (a + 1), .int 0])) else some (.inl (.char, (80, .inl (fun _ => 0))))
def rdF (i : Nat) : Option tv_E := some (.inr (0, [.int 0, .int 0, .int 0, .int 0, .int 0]))
def tkF (i : Nat) : Option tv_E := some (.inr (8, [.int 0, .int 0, .int 0, .int 0, .int 0]))
section C46
variable {l : Launch} {D : va_G} {n0 : Nat} {ft : tv_ft} {n a : Nat} {h : tv_H}
theorem oX8_init_3 : Cond.methodLink RX8 3 objectInit ∈ wsX8_init ∧ Cond.instanceMethod objectInit ∈ wsX8_init ∧ Cond.code objectInit ⟨#[0xb1]⟩ 1 none ∈ wsX8_init := ⟨by decide +kernel, by decide +kernel, by decide +kernel⟩
theorem cX8_init_ok (he : h a = some (.inr (8, [.int 0, .int 0, .int 0, .int 0, .int 0]))) : blMv l yX8_init wsX8_init rmX8_init 0 0 D n0 ft a 1 h tkF := by
  unfold blMv
  refine tv_enter (cc := cX8_init) (maxL := 1) (ret := none) (by decide) rfl (Nat.le_of_ble_eq_true rfl) ?_
  intro p e s m args below meth c X hrt hnm hargs
  refine tv_aload_n X dX8_init_0 rfl ?_
  refine tv_objInit X dX8_init_1 oX8_init_3.1 oX8_init_3.2.1 oX8_init_3.2.2 ⟨Nat.le_of_ble_eq_true rfl, Nat.le_of_ble_eq_true rfl⟩ ?_
  refine tv_vret X hrt dX8_init_4 (congrArg (Prod.mk (a + 1)) ?_)
  exact tv_bl_1 he
theorem oX0_init_3 : Cond.methodLink RX0 3 objectInit ∈ wsX0_init ∧ Cond.instanceMethod objectInit ∈ wsX0_init ∧ Cond.code objectInit ⟨#[0xb1]⟩ 1 none ∈ wsX0_init := ⟨by decide +kernel, by decide +kernel, by decide +kernel⟩
theorem cX0_init_ok (he : h a = some (.inr (0, [.int 0, .int 0, .int 0, .int 0, .int 0]))) : blMv l yX0_init wsX0_init rmX0_init 0 0 D n0 ft a 1 h rdF := by
  unfold blMv
  refine tv_enter (cc := cX0_init) (maxL := 1) (ret := none) (by decide) rfl (Nat.le_of_ble_eq_true rfl) ?_
  intro p e s m args below meth c X hrt hnm hargs
  refine tv_aload_n X dX0_init_0 rfl ?_
  refine tv_objInit X dX0_init_1 oX0_init_3.1 oX0_init_3.2.1 oX0_init_3.2.2 ⟨Nat.le_of_ble_eq_true rfl, Nat.le_of_ble_eq_true rfl⟩ ?_
  refine tv_vret X hrt dX0_init_4 (congrArg (Prod.mk (a + 1)) ?_)
  exact tv_bl_1 he
theorem oX4_init_3 : Cond.methodLink RX4 3 objectInit ∈ wsX4_init ∧ Cond.instanceMethod objectInit ∈ wsX4_init ∧ Cond.code objectInit ⟨#[0xb1]⟩ 1 none ∈ wsX4_init := ⟨by decide +kernel, by decide +kernel, by decide +kernel⟩
theorem wX4_init_int : Cond.arrayClass .int ∈ wsX4_init := by decide +kernel
theorem iX4_init_X4 : ∀ w ∈ wsX40, w ∈ wsX4_init := by decide +kernel
theorem kX4_init_9 : Cond.fieldLink RX4 9 (TX4 0).1 (TX4 0).2.1 (TX4 0).2.2.1 ∈ wsX4_init := by decide +kernel
theorem kX4_init_15 : Cond.fieldLink RX4 15 (TX4 1).1 (TX4 1).2.1 (TX4 1).2.2.1 ∈ wsX4_init := by decide +kernel
theorem cX4_init_ok (he : h a = some (.inr (4, [.null, .null]))) : blMv l yX4_init wsX4_init rmX4_init 2 96 D n0 ft a 3 h (pnF a) := by
  unfold blMv
  refine tv_enter (cc := cX4_init) (maxL := 1) (ret := none) (by decide) rfl (Nat.le_of_ble_eq_true rfl) ?_
  intro p e s m args below meth c X hrt hnm hargs
  refine tv_heap (tv_bl_1 he) ?_
  refine tv_aload_n X dX4_init_0 rfl ?_
  refine tv_objInit X dX4_init_1 oX4_init_3.1 oX4_init_3.2.1 oX4_init_3.2.2 ⟨Nat.le_of_ble_eq_true rfl, Nat.le_of_ble_eq_true rfl⟩ ?_
  refine tv_aload_n X dX4_init_4 rfl ?_
  refine tv_bipush (v := 48) X dX4_init_5 (by decide) ?_
  refine bl_newa X dX4_init_7 wX4_init_int (ty := .int) rfl (fun _ _ h9 => h9) (N := 48) (a0 := (48, .inl (fun _ => 0))) (fun _ => rfl) (by decide) (by decide) (by decide) ⟨Nat.le_of_ble_eq_true rfl, Nat.le_of_ble_eq_true rfl⟩ ?_
  refine bl_put X dX4_init_9 iX4_init_X4 rfl tyX4 tyX4_ok nmX4 0 (by decide) kX4_init_9 0 (Nat.le_of_ble_eq_true rfl) rfl (Or.inr ⟨rfl, hnm, rfl⟩) rfl rfl (Nat.le_of_ble_eq_true rfl) ?_
  refine tv_aload_n X dX4_init_12 rfl ?_
  refine tv_bipush (v := 48) X dX4_init_13 (by decide) ?_
  refine bl_newa X dX4_init_15 wX4_init_int (ty := .int) rfl (fun _ _ h9 => h9) (N := 48) (a0 := (48, .inl (fun _ => 0))) (fun _ => rfl) (by decide) (by decide) (by decide) ⟨Nat.le_of_ble_eq_true rfl, Nat.le_of_ble_eq_true rfl⟩ ?_
  refine bl_put X dX4_init_17 iX4_init_X4 rfl tyX4 tyX4_ok nmX4 1 (by decide) kX4_init_15 0 (Nat.le_of_ble_eq_true rfl) rfl (Or.inr ⟨rfl, hnm, rfl⟩) rfl rfl (Nat.le_of_ble_eq_true rfl) ?_
  refine bl_conv (g := pnF a) (fun i hi e' he' => ?_) ?_
  · match i, hi with
    | 0, _ | 1, _ | 2, _ => exact ⟨e', he', tv_ce_refl⟩
  exact tv_vret X hrt dX4_init_20 rfl
end C46

