/-! methods that throw -/
def tx_X (D : va_G) (n0 : Nat) (px : String → Nat × tv_H → Prop) : String → State → State → Prop := vx_X (fun u : String × (Nat × tv_H) => px u.1 u.2) (fun E u t => E = u.1 ∧ tv_B D vwCl n0 u.2 t) (tv_A n0)
theorem tv_rep.grow {D : va_G} {cl : List vw_C} {U : State} {n0 n : Nat} {h : tv_H} {H H1 : Heap} (hr : tv_rep D cl U n0 n h H) (hs : H.size ≤ H1.size) (hq : ∀ q : Nat, q < H.size → H1[q]? = H[q]?) : tv_rep D cl U n0 H1.size h H1 := by
  refine ⟨rfl, ?_, fun a e he => ?_⟩
  · have := hr.1; have := hr.2.1; omega
  · obtain ⟨h1, h2⟩ := hr.2.2 a e he
    exact ⟨h1, h2.kept (hq a h2.lt)⟩
section TXL
variable {p : Program} {l : Launch} {e : Env} {R : Room} {s : State} {m : MethodId} {args : Array Value} {below : List Frame} {meth : Method} {c : Code} {Q : State → Prop} {D : va_G} {n0 cells slots nL pc : Nat} {L : List (Nat × Value)} {st : List Value} {n : Nat} {h : tv_H} {cc : ByteArray} {own : String} {Ts : List Cond} {ft : Nat × Nat × Nat}
theorem tx_enter {As : List Value} {y : MethodName} {ws ws' : List Cond} {rm : Room} {mc ms maxL : Nat} {ret : Option FieldType} {Qc : Array Value → State → Outcome → State → Prop} {XC : String → State → State → Prop} (hy : plainName y.cls = true) (hw : ws = Cond.code y cc maxL ret :: ws') (hlen : (lg_sl As).length ≤ maxL)
    (body : ∀ (p : Program) (e : Env) (s : State) (m : MethodId) (args : Array Value) (below : List Frame) (meth : Method) (c : Code), tv_X p s m args meth c cc maxL y.cls ws D vwCl n0 ft → meth.sig.returnType = ret → meth.name = y.name → args = As.toArray → (∀ x ∈ c.exceptionTable.toList, False) →
      tv_V p l e rm s m args below meth c (vx_MQ below Qc XC args s mc ms (tv_A n0)) D vwCl n0 0 0 maxL 0 (lv_args 0 As) [] n h) : vx_Met l y ws rm (tv_Pc D vwCl n0 ft As n h) Qc XC mc ms (tv_A n0) := by
  refine vx_ofW (cc := cc) (maxL := maxL) (ret := ret) hy hw ?_
  intro p e s m args below meth c s₁ B hml hex hv
  obtain ⟨rfl, hG, hr⟩ := hv
  have hown : s.vm.findClass y.cls = some m.cls := findClass_of_methodNamed B.named
  have hl := lv_entry As (n := maxL) hlen
  rw [lg_entry_eq]
  exact body p e s m As.toArray below meth c ⟨B.exec, B.bytes, hml, hown, atoms_spec (ws := ws) B.pre, hG, B.notSynchronized⟩ B.returns (name_of_methodNamed B.named B.method).1 rfl hex s.heap [] _ hr va_S.rf hl
theorem tx_ret {Qc : Array Value → State → Outcome → State → Prop} {XC : String → State → State → Prop} {mc ms : Nat} (h1 : cells ≤ mc) (h2 : slots ≤ ms) (kk : tv_V p l e R s m args below meth c (MQ below Qc args s mc ms (tv_A n0)) D vwCl n0 mc ms nL pc L st n h) : tv_V p l e R s m args below meth c (vx_MQ below Qc XC args s mc ms (tv_A n0)) D vwCl n0 cells slots nL pc L st n h := fun H locs ls hr hS hh => W.widen h1 h2 (vx_ret (kk H locs ls hr hS hh))
theorem tx_hat (X : tv_X p s m args meth c cc nL own Ts D vwCl n0 ft) {ic : Nat} {cls : String} {names : List String} (hgd : ∀ w ∈ (vx_atS own ic cls names).filter goodWord, w ∈ Ts) (hng : ∀ w ∈ (vx_atS own ic cls names).filter (fun w => !goodWord w), w ∈ (tv_nD.map Cond.declares ++ [Cond.castable cls cls])) (hcx : cls ∈ tv_nX) : ∀ w ∈ vx_atS own ic cls names, w.before args s = true := by
  refine vx_hat (fun w hw => X.2.2.2.2.1 w (hgd w hw)) hng fun w hw => ?_
  have hE := X.2.2.2.2.2.1.2.2.2.2.2
  rcases List.mem_append.mp hw with hw | hw
  · obtain ⟨q, hq, rfl⟩ := List.mem_map.mp hw
    exact va_Nw.use rfl (hE.2.1 q hq)
  · rw [List.mem_singleton] at hw
    rw [hw]
    exact va_Nw.use rfl (hE.2.2.1 cls hcx)
theorem tx_throwS (X : tv_X p s m args meth c cc nL own Ts D vwCl n0 ft) (hex : ∀ x ∈ c.exceptionTable.toList, False) (hl : l.stackTraces = false) {Qc : Array Value → State → Outcome → State → Prop} {px : String → Nat × tv_H → Prop} {mc ms ik is ic : Nat} {cls text : String} {names : List String}
    (d0 : decode cc pc = .ok (.new ik, 3)) (d3 : decode cc (pc + 3) = .ok (.dup, 1)) (d4 : decode cc (pc + 4) = .ok (.ldc is, 2)) (d6 : decode cc (pc + 6) = .ok (.invokespecial ic, 3)) (d9 : decode cc (pc + 9) = .ok (.athrow, 1))
    (hstr : (own, is, text) ∈ tv_nS) (hcx : cls ∈ tv_nX) (hcls : Bundle.fit cls = true) (hnames : ∀ n ∈ names, Bundle.fit n = true) (hk : Cond.classLink own ik cls ∈ Ts) (hini : Cond.initialized cls ∈ Ts) (hgd : ∀ w ∈ (vx_atS own ic cls names).filter goodWord, w ∈ Ts) (hng : ∀ w ∈ (vx_atS own ic cls names).filter (fun w => !goodWord w), w ∈ (tv_nD.map Cond.declares ++ [Cond.castable cls cls])) (hgood : ∀ w ∈ Cond.classLink own ik cls :: Cond.initialized cls :: vx_atS own ic cls names, vx_ot w = true)
    (hR : (names.length + 3 < R.frames ∧ (st.map fun v => v.category).sum + (13 * (names.length + 1) + 43) ≤ R.locals) ∧ cells + 1 ≤ R.cells ∧ slots + 6 ≤ R.slots) (hc : cells + 1 ≤ mc) (hs : slots + 6 ≤ ms)
    (hp : ∀ n1, n ≤ n1 → px cls (n1, h)) : tv_V p l e R s m args below meth c (vx_MQ below Qc (tx_X D n0 px) args s mc ms (tv_A n0)) D vwCl n0 cells slots nL pc L st n h := fun H locs ls hr hS hh => by
  obtain ⟨sa, hsa⟩ := X.2.2.2.2.2.1.2.2.2.2.2.1 _ hstr
  have hSt := X.2.2.2.2.2.1.2.1
  refine vx_throwS (sa := sa) (text := text) X.1 X.2.1 hl X.2.2.2.1 hcls hnames (X.2.2.2.2.1 _ hk) (X.2.2.2.2.1 _ hini) hsa (tx_hat X hgd hng hcx) hgood hSt.2.2.2.1 hSt.2.2.2.2 hS (by rw [X.2.2.1]; exact hh.1) d0 d3 d4 d6 d9 (fun x hx => (hex x hx).elim) hR.1.1 hR.1.2 hR.2.1 hR.2.2 X.2.2.2.2.2.2 ?_ hS.2.2 hc hs
  intro t hA h1 h2
  refine ⟨(cls, (t.heap.size, h)), hp _ (by rw [← hr.1]; exact h1), ⟨rfl, ?_⟩, ?_⟩
  · exact (hr.grow h1 h2).moved hA
  · exact va_S.F (H := t.heap) (locs := locs) ⟨Nat.le_trans hS.1 h1, fun q hq hA => (h2 q (by have := hS.1; omega)).trans (hS.2.1 q hq hA), hS.2.2⟩ rfl
theorem tx_throwSW (X : tv_X p s m args meth c cc nL own Ts D vwCl n0 ft) (hex : ∀ x ∈ c.exceptionTable.toList, False) (hl : l.stackTraces = false) {Qc : Array Value → State → Outcome → State → Prop} {px : String → Nat × tv_H → Prop} {mc ms ik is ic : Nat} {cls text : String} {names : List String}
    (d0 : decode cc pc = .ok (.new ik, 3)) (d3 : decode cc (pc + 3) = .ok (.dup, 1)) (d4 : decode cc (pc + 4) = .ok (.ldc_w is, 3)) (d6 : decode cc (pc + 7) = .ok (.invokespecial ic, 3)) (d9 : decode cc (pc + 10) = .ok (.athrow, 1))
    (hstr : (own, is, text) ∈ tv_nS) (hcx : cls ∈ tv_nX) (hcls : Bundle.fit cls = true) (hnames : ∀ n ∈ names, Bundle.fit n = true) (hk : Cond.classLink own ik cls ∈ Ts) (hini : Cond.initialized cls ∈ Ts) (hgd : ∀ w ∈ (vx_atS own ic cls names).filter goodWord, w ∈ Ts) (hng : ∀ w ∈ (vx_atS own ic cls names).filter (fun w => !goodWord w), w ∈ (tv_nD.map Cond.declares ++ [Cond.castable cls cls])) (hgood : ∀ w ∈ Cond.classLink own ik cls :: Cond.initialized cls :: vx_atS own ic cls names, vx_ot w = true)
    (hR : (names.length + 3 < R.frames ∧ (st.map fun v => v.category).sum + (13 * (names.length + 1) + 43) ≤ R.locals) ∧ cells + 1 ≤ R.cells ∧ slots + 6 ≤ R.slots) (hc : cells + 1 ≤ mc) (hs : slots + 6 ≤ ms)
    (hp : ∀ n1, n ≤ n1 → px cls (n1, h)) : tv_V p l e R s m args below meth c (vx_MQ below Qc (tx_X D n0 px) args s mc ms (tv_A n0)) D vwCl n0 cells slots nL pc L st n h := fun H locs ls hr hS hh => by
  obtain ⟨sa, hsa⟩ := X.2.2.2.2.2.1.2.2.2.2.2.1 _ hstr
  have hSt := X.2.2.2.2.2.1.2.1
  refine vx_throwSW (sa := sa) (text := text) X.1 X.2.1 hl X.2.2.2.1 hcls hnames (X.2.2.2.2.1 _ hk) (X.2.2.2.2.1 _ hini) hsa (tx_hat X hgd hng hcx) hgood hSt.2.2.2.1 hSt.2.2.2.2 hS (by rw [X.2.2.1]; exact hh.1) d0 d3 d4 d6 d9 (fun x hx => (hex x hx).elim) hR.1.1 hR.1.2 hR.2.1 hR.2.2 X.2.2.2.2.2.2 ?_ hS.2.2 hc hs
  intro t hA h1 h2
  refine ⟨(cls, (t.heap.size, h)), hp _ (by rw [← hr.1]; exact h1), ⟨rfl, ?_⟩, ?_⟩
  · exact (hr.grow h1 h2).moved hA
  · exact va_S.F (H := t.heap) (locs := locs) ⟨Nat.le_trans hS.1 h1, fun q hq hA => (h2 q (by have := hS.1; omega)).trans (hS.2.1 q hq hA), hS.2.2⟩ rfl
/-- a call of a static method that returns nothing or throws; what it throws isn't caught -/
theorem tx_callSv (X : tv_X p s m args meth c cc nL own Ts D vwCl n0 ft) (hex : ∀ x ∈ c.exceptionTable.toList, False) {Qc : Array Value → State → Outcome → State → Prop} {px px1 : String → Nat × tv_H → Prop} {mc ms mc1 ms1 : Nat} {y : MethodName} {ws : List Cond} {rm : Room} {index kn : Nat} {As rest st0 : List Value} {post : Nat × tv_H → Prop} {bytes : ByteArray} {maxL : Nat} {ret : Option FieldType} (d : decode cc pc = .ok (.invokestatic index, 3)) (hM : vx_Met l y ws rm (tv_Pc D vwCl n0 ft As n h) (va_Qv post (tv_B D vwCl n0) (tv_A n0)) (tx_X D n0 px1) mc1 ms1 (tv_A n0)) (cw : CallB R s args own index y bytes maxL ret ws rm mc1 ms1 kn ∧ (Cond.static y).before args s = true) (hn : As.length = kn) (hst : st0 = As.reverse ++ rest) (hw : (rest.map fun v => v.category).sum ≤ 8) (hR : cells + mc1 ≤ R.cells ∧ slots + ms1 ≤ R.slots) (hc : cells + mc1 ≤ mc) (hs : slots + ms1 ≤ ms)
    (hx : ∀ (E : String) (u : Nat × tv_H), px1 E u → px E u)
    (kk : ∀ (n1 : Nat) (h1 : tv_H), post (n1, h1) → tv_V p l e R s m args below meth c (vx_MQ below Qc (tx_X D n0 px) args s mc ms (tv_A n0)) D vwCl n0 (cells + mc1) (slots + ms1) nL (pc + 3) L rest n1 h1) : tv_V p l e R s m args below meth c (vx_MQ below Qc (tx_X D n0 px) args s mc ms (tv_A n0)) D vwCl n0 cells slots nL pc L st0 n h := fun H locs ls hr hS hh => by
  subst hst
  refine vx_callv (vx_runS (As := As) (rest := rest) ⟨X.1, X.2.1, X.2.2.1, X.2.2.2.1, X.2.2.2.2.1⟩ hM cw ⟨tv_blind, tv_pre X hr hS⟩ rfl hn hh.1 rfl (lv_room hw) d hR) hS (fun q _ h => h) (fun q h => h) (fun q _ h => h) (fun E ce q9 u t H1 locs1 ht hvm hp hB hz1 hk1 hS1 hce hcv hcl => ?_) (fun u t H1 locs1 ht hvm hp hB hz1 hk1 hS1 => ?_)
  · subst ht
    refine vx_out (fun x hx => (hex x hx).elim) X.2.2.2.2.2.2 hce hcv hcl (fun t2 ht2 hA2 => ?_) hS1.2.2 hc hs
    obtain ⟨hE, hB⟩ := hB
    refine ⟨(E, u.2), hx _ _ (by rw [hE]; exact hp), ⟨rfl, ?_⟩, hS1.F ht2⟩
    unfold tv_B
    rw [ht2]
    exact (tv_rep.moved hvm.symm hB).moved hA2
  · subst ht
    exact kk u.1 u.2 hp _ _ ls (tv_rep.moved hvm.symm hB) hS1 hh
end TXL
def mxX (n n0 : Nat) (px : String → mS → Prop) : String → Nat × tv_H → Prop := fun E u => n ≤ u.1 ∧ ∃ S', u.2 = mH n0 S' ∧ px E S'
def mxMv (l : Launch) (y : MethodName) (ws : List Cond) (rm : Room) (mc ms : Nat) (D : va_G) (n0 : Nat) (ft : Nat × Nat × Nat) (As : List Value) (n : Nat) (S : mS) (post : mS → Prop) (px : String → mS → Prop) : Prop := vx_Met l y ws rm (tv_Pc D vwCl n0 ft As n (mH n0 S)) (va_Qv (fun u => ∃ S', u = (n, mH n0 S') ∧ post S') (tv_B D vwCl n0) (tv_A n0)) (tx_X D n0 (mxX n n0 px)) mc ms (tv_A n0)
def mxMi (l : Launch) (y : MethodName) (ws : List Cond) (rm : Room) (mc ms : Nat) (D : va_G) (n0 : Nat) (ft : Nat × Nat × Nat) (As : List Value) (n : Nat) (S : mS) (post : Int32 → mS → Prop) (px : String → mS → Prop) : Prop := vx_Met l y ws rm (tv_Pc D vwCl n0 ft As n (mH n0 S)) (va_Qi (fun r u => ∃ S', u = (n, mH n0 S') ∧ post r S') (tv_B D vwCl n0) (tv_A n0)) (tx_X D n0 (mxX n n0 px)) mc ms (tv_A n0)
/-- the three exceptions -/
abbrev exI : String := "java/lang/IndexOutOfBoundsException"
abbrev exA : String := "java/lang/IllegalArgumentException"
abbrev exS : String := "java/lang/IllegalStateException"
section C40
variable {l : Launch} {D : va_G} {n0 : Nat} {ft : Nat × Nat × Nat} {n : Nat} {S : mS} {b : Nat} {len a k : Nat}
theorem aX9_requireCell_255 : Cond.classLink RX9 255 "java/lang/IndexOutOfBoundsException" ∈ wsX9_requireCell ∧ Cond.initialized "java/lang/IndexOutOfBoundsException" ∈ wsX9_requireCell ∧ (∀ w ∈ (vx_atS RX9 259 "java/lang/IndexOutOfBoundsException" ["java/lang/RuntimeException", "java/lang/Exception"]).filter goodWord, w ∈ wsX9_requireCell) ∧ (∀ w ∈ (vx_atS RX9 259 "java/lang/IndexOutOfBoundsException" ["java/lang/RuntimeException", "java/lang/Exception"]).filter (fun w => !goodWord w), w ∈ (tv_nD.map Cond.declares ++ [Cond.castable "java/lang/IndexOutOfBoundsException" "java/lang/IndexOutOfBoundsException"])) ∧ (∀ w ∈ Cond.classLink RX9 255 "java/lang/IndexOutOfBoundsException" :: Cond.initialized "java/lang/IndexOutOfBoundsException" :: vx_atS RX9 259 "java/lang/IndexOutOfBoundsException" ["java/lang/RuntimeException", "java/lang/Exception"], vx_ot w = true) := ⟨by decide +kernel, by decide +kernel, by decide +kernel, by decide +kernel, by decide +kernel⟩
theorem cX9_requireCell_ok (hst : l.stackTraces = false) (x y : Int32) : mxMv l yX9_requireCell wsX9_requireCell rmX9_requireCell 1 6 D n0 ft [.int x, .int y] n S (fun S' => S' = S ∧ onP x y) (fun E S' => S' = S ∧ E = exI ∧ ¬ onP x y) := by
  refine tx_enter (cc := cX9_requireCell) (maxL := 2) (ret := none) (by decide) rfl (Nat.le_of_ble_eq_true rfl) ?_
  intro p e s m args below meth c X hrt hnm hargs hex
  refine tv_iload_n X dX9_requireCell_0 rfl ?_
  refine tv_iload_n X dX9_requireCell_1 rfl ?_
  refine mm_callSi X dX9_requireCell_2 (cX9_isOnPanel_ok x y) (va_cwS 2 X.2.2.2.2.1 gX9_requireCell_X9_isOnPanel rfl rfl rfl (by decide +kernel) ⟨Nat.le_of_ble_eq_true rfl, Nat.le_of_ble_eq_true rfl⟩) rfl rfl (Nat.le_of_ble_eq_true rfl) ⟨Nat.le_of_ble_eq_true rfl, Nat.le_of_ble_eq_true rfl⟩ (fun r S1 hq => ?_)
  obtain ⟨hq1, ⟨hq2, hon⟩ | ⟨hq2, hon⟩⟩ := hq
  · rw [hq1, hq2]
    refine tv_if_ne (tgt := 19) X dX9_requireCell_5 (by decide) (fun h1 => ?_) (fun h1 => ?_)
    · refine tx_ret (Nat.le_of_ble_eq_true rfl) (Nat.le_of_ble_eq_true rfl) ?_
      exact tv_vret X hrt dX9_requireCell_19 ⟨_, rfl, rfl, hon⟩
    · exact absurd h1 (by decide)
  · rw [hq1, hq2]
    refine tv_if_ne (tgt := 19) X dX9_requireCell_5 (by decide) (fun h1 => ?_) (fun h1 => ?_)
    · exact absurd rfl h1
    · refine tx_throwSW (cls := "java/lang/IndexOutOfBoundsException") (text := "there is no such row or column") (names := ["java/lang/RuntimeException", "java/lang/Exception"]) X hex hst dX9_requireCell_8 dX9_requireCell_11 dX9_requireCell_12 dX9_requireCell_15 dX9_requireCell_18 (by decide +kernel) (by decide +kernel) (by decide +kernel) (by decide +kernel) aX9_requireCell_255.1 aX9_requireCell_255.2.1 aX9_requireCell_255.2.2.1 aX9_requireCell_255.2.2.2.1 aX9_requireCell_255.2.2.2.2 ⟨⟨Nat.le_of_ble_eq_true rfl, Nat.le_of_ble_eq_true rfl⟩, Nat.le_of_ble_eq_true rfl, Nat.le_of_ble_eq_true rfl⟩ (Nat.le_of_ble_eq_true rfl) (Nat.le_of_ble_eq_true rfl) (fun n1 hn1 => ⟨hn1, _, rfl, rfl, rfl, hon⟩)
theorem aX9_requireSetting_255 : Cond.classLink RX9 255 "java/lang/IndexOutOfBoundsException" ∈ wsX9_requireSetting ∧ Cond.initialized "java/lang/IndexOutOfBoundsException" ∈ wsX9_requireSetting ∧ (∀ w ∈ (vx_atS RX9 259 "java/lang/IndexOutOfBoundsException" ["java/lang/RuntimeException", "java/lang/Exception"]).filter goodWord, w ∈ wsX9_requireSetting) ∧ (∀ w ∈ (vx_atS RX9 259 "java/lang/IndexOutOfBoundsException" ["java/lang/RuntimeException", "java/lang/Exception"]).filter (fun w => !goodWord w), w ∈ (tv_nD.map Cond.declares ++ [Cond.castable "java/lang/IndexOutOfBoundsException" "java/lang/IndexOutOfBoundsException"])) ∧ (∀ w ∈ Cond.classLink RX9 255 "java/lang/IndexOutOfBoundsException" :: Cond.initialized "java/lang/IndexOutOfBoundsException" :: vx_atS RX9 259 "java/lang/IndexOutOfBoundsException" ["java/lang/RuntimeException", "java/lang/Exception"], vx_ot w = true) := ⟨by decide +kernel, by decide +kernel, by decide +kernel, by decide +kernel, by decide +kernel⟩
theorem cX9_requireSetting_ok (hst : l.stackTraces = false) (x : Int32) : mxMv l yX9_requireSetting wsX9_requireSetting rmX9_requireSetting 1 6 D n0 ft [.int x] n S (fun S' => S' = S ∧ ∃ q, q < 5 ∧ x = nI q) (fun E S' => S' = S ∧ E = exI ∧ ¬ ∃ q, q < 5 ∧ x = nI q) := by
  refine tx_enter (cc := cX9_requireSetting) (maxL := 1) (ret := none) (by decide) rfl (Nat.le_of_ble_eq_true rfl) ?_
  intro p e s m args below meth c X hrt hnm hargs hex
  refine tv_iload_n X dX9_requireSetting_0 rfl ?_
  refine tv_if_lt (tgt := 9) X dX9_requireSetting_1 (by decide) (fun h1 => ?_) (fun h1 => ?_)
  · refine tx_throwSW (cls := "java/lang/IndexOutOfBoundsException") (text := "there is no such setting") (names := ["java/lang/RuntimeException", "java/lang/Exception"]) X hex hst dX9_requireSetting_9 dX9_requireSetting_12 dX9_requireSetting_13 dX9_requireSetting_16 dX9_requireSetting_19 (by decide +kernel) (by decide +kernel) (by decide +kernel) (by decide +kernel) aX9_requireSetting_255.1 aX9_requireSetting_255.2.1 aX9_requireSetting_255.2.2.1 aX9_requireSetting_255.2.2.2.1 aX9_requireSetting_255.2.2.2.2 ⟨⟨Nat.le_of_ble_eq_true rfl, Nat.le_of_ble_eq_true rfl⟩, Nat.le_of_ble_eq_true rfl, Nat.le_of_ble_eq_true rfl⟩ (Nat.le_of_ble_eq_true rfl) (Nat.le_of_ble_eq_true rfl) (fun n1 hn1 => ⟨hn1, _, rfl, rfl, rfl, ix_no (N := 5) (by decide) (Or.inl h1)⟩)
  refine tv_iload_n X dX9_requireSetting_4 rfl ?_
  refine tv_iconst (v := 5) X dX9_requireSetting_5 (by decide) ?_
  refine tv_icmp_lt (tgt := 20) X dX9_requireSetting_6 (by decide) (fun h2 => ?_) (fun h2 => ?_)
  · refine tx_ret (Nat.le_of_ble_eq_true rfl) (Nat.le_of_ble_eq_true rfl) ?_
    exact tv_vret X hrt dX9_requireSetting_20 ⟨_, rfl, rfl, ix_yes (N := 5) (by decide) h1 (fun h => Int32.lt_irrefl (Int32.lt_of_le_of_lt h h2))⟩
  · refine tx_throwSW (cls := "java/lang/IndexOutOfBoundsException") (text := "there is no such setting") (names := ["java/lang/RuntimeException", "java/lang/Exception"]) X hex hst dX9_requireSetting_9 dX9_requireSetting_12 dX9_requireSetting_13 dX9_requireSetting_16 dX9_requireSetting_19 (by decide +kernel) (by decide +kernel) (by decide +kernel) (by decide +kernel) aX9_requireSetting_255.1 aX9_requireSetting_255.2.1 aX9_requireSetting_255.2.2.1 aX9_requireSetting_255.2.2.2.1 aX9_requireSetting_255.2.2.2.2 ⟨⟨Nat.le_of_ble_eq_true rfl, Nat.le_of_ble_eq_true rfl⟩, Nat.le_of_ble_eq_true rfl, Nat.le_of_ble_eq_true rfl⟩ (Nat.le_of_ble_eq_true rfl) (Nat.le_of_ble_eq_true rfl) (fun n1 hn1 => ⟨hn1, _, rfl, rfl, rfl, ix_no (N := 5) (by decide) (Or.inr (Int32.not_lt.mp h2))⟩)
end C40

