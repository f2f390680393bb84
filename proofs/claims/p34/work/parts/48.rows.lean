section BLC
variable {p : Program} {l : Launch} {e : Env} {R : Room} {s : State} {m : MethodId} {args : Array Value} {below : List Frame} {meth : Method} {c0 : Code} {Q : State → Prop} {D : va_G} {n0 cells slots nL pc : Nat} {L : List (Nat × Value)} {st : List Value} {n : Nat} {h : tv_H} {cc : ByteArray} {own : String} {Ts : List Cond} {ft : tv_ft} {a k : Nat} {f : Nat → Option tv_E}
theorem bl_callIv (X : tv_X p s m args meth c0 cc nL own Ts D vwCl n0 ft) {y : MethodName} {ws : List Cond} {rm : Room} {mc ms index c N : Nat} {g : Nat → Option tv_E} {bytes : ByteArray} {maxL : Nat} (d : decode cc pc = .ok (.invokespecial index, 3)) (hM : blMv l y ws rm mc ms D n0 ft (a + c) N (tv_bl h a (c + 1) f) g) (cw : CallB R s args own index y bytes maxL none ws rm mc ms 0 ∧ y.name = "<init>" ∧ (Cond.instanceMethod y).before args s = true) (hN : 1 ≤ N) (hw : (st.map fun v => v.category).sum ≤ 8) (hR : cells + mc ≤ R.cells ∧ slots + ms ≤ R.slots)
    (kk : tv_V p l e R s m args below meth c0 Q D vwCl n0 (cells + mc) (slots + ms) nL (pc + 3) L st (a + (c + N)) (tv_bl h a (c + N) (fun i => if c ≤ i then g (i - c) else f i))) : tv_V p l e R s m args below meth c0 Q D vwCl n0 cells slots nL pc L (.ref (a + c) :: st) (a + (c + 1)) (tv_bl h a (c + 1) f) := by
  refine tv_callIv X (As := []) d hM cw rfl rfl hw hR (fun n1 h1 hp => ?_)
  cases hp
  rw [tv_bl_bl (by omega) (by omega), Nat.add_assoc]
  exact kk
theorem bl_callINv (X : tv_X p s m args meth c0 cc nL own Ts D vwCl n0 ft) {y : MethodName} {ws : List Cond} {rm : Room} {mc ms index c N : Nat} {g : Nat → Option tv_E} {bytes : ByteArray} {maxL : Nat} {host : String} (d : decode cc pc = .ok (.invokespecial index, 3)) (hM : blMv l y ws rm mc ms D n0 ft (a + c) N (tv_bl h a (c + 1) f) g) (cw : va_CN R s args own index y host bytes maxL none ws rm mc ms 0 ∧ y.name = "<init>" ∧ (Cond.instanceMethod y).before args s = true) (hN : 1 ≤ N) (hw : (st.map fun v => v.category).sum ≤ 8) (hR : cells + mc ≤ R.cells ∧ slots + ms ≤ R.slots)
    (kk : tv_V p l e R s m args below meth c0 Q D vwCl n0 (cells + mc) (slots + ms) nL (pc + 3) L st (a + (c + N)) (tv_bl h a (c + N) (fun i => if c ≤ i then g (i - c) else f i))) : tv_V p l e R s m args below meth c0 Q D vwCl n0 cells slots nL pc L (.ref (a + c) :: st) (a + (c + 1)) (tv_bl h a (c + 1) f) := by
  refine tv_callINv X (As := []) d hM cw rfl rfl hw hR (fun n1 h1 hp => ?_)
  cases hp
  rw [tv_bl_bl (by omega) (by omega), Nat.add_assoc]
  exact kk
theorem tv_newqE (X : tv_X p s m args meth c0 cc nL own Ts D vwCl n0 ft) {C : String} {index : Nat} (d : decode cc pc = .ok (.anewarray index, 3)) (hcl : Cond.classLink own index C ∈ Ts) (hover : tv_AO (.object C) s) {z : Int32} {N : Nat} (hz : ¬ z < 0) (hN : z.toNatClampNeg = N) (hbytes : N * 4 ≤ 536870912) (hR : cells + 1 ≤ R.cells ∧ slots + N ≤ R.slots)
    (kk : tv_V p l e R s m args below meth c0 Q D vwCl n0 (cells + 1) (slots + N) nL (pc + 3) L (.ref n :: st) (n + 1) (tv_up h n (.inl (.object C, (N, .inr (.inr (.inr (.inr (fun _ => none))))))))) : tv_V p l e R s m args below meth c0 Q D vwCl n0 cells slots nL pc L (.int z :: st) n h := fun H locs ls hr hS hh => by
  subst hN
  refine W.anew X.1 X.2.1 X.2.2.2.1 (X.2.2.2.2.1 _ hcl) (tv_AO.use hover) rfl d rfl hz hbytes hR.1 hR.2 fun cA kA comp f1 f2 f3 f4 => ?_
  generalize hH1 : H.push ({ cls := cA, slots := Array.replicate z.toNatClampNeg .null, vm := .none } : Cell) = H1
  have z1 : H1.size = H.size + 1 := by rw [← hH1, Array.size_push]
  have e1 : H1[H.size]? = some (arrV cA z.toNatClampNeg (fun _ => .null)) := by rw [← hH1, Array.getElem?_push_size, ← arrV_new]
  have o1 : ∀ q, q < H.size → H1[q]? = H[q]? := fun q hq => by
    rw [← hH1, Array.getElem?_push, if_neg (Nat.ne_of_lt hq)]
  have hAr : ArrOfT s cA (.object C) := fun N z => ⟨(fun k h => by cases h), kA, f2, comp, f3⟩
  have hn := hr.1
  subst hn
  refine kk H1 _ ls (hr.push z1 ⟨cA, by rw [vp_cell_q]; exact e1, hAr, kA, comp, f2, f3, f4, f1⟩ o1) ⟨Nat.le_trans hS.1 (by rw [z1]; omega), fun x h1 h2 => (o1 x (by have := hS.1; omega)).trans (hS.2.1 x h1 h2), hS.2.2⟩ hh
theorem bl_newq (X : tv_X p s m args meth c0 cc nL own Ts D vwCl n0 ft) {C : String} {index : Nat} (d : decode cc pc = .ok (.anewarray index, 3)) (hcl : Cond.classLink own index C ∈ Ts) (hover : tv_AO (.object C) s) {z : Int32} {N : Nat} (hz : ¬ z < 0) (hN : z.toNatClampNeg = N) (hbytes : N * 4 ≤ 536870912) (hR : cells + 1 ≤ R.cells ∧ slots + N ≤ R.slots)
    (kk : tv_V p l e R s m args below meth c0 Q D vwCl n0 (cells + 1) (slots + N) nL (pc + 3) L (.ref (a + k) :: st) (a + (k + 1)) (tv_bl h a (k + 1) (fupd f k (.inl (.object C, (N, .inr (.inr (.inr (.inr (fun _ => none)))))))))) : tv_V p l e R s m args below meth c0 Q D vwCl n0 cells slots nL pc L (.int z :: st) (a + k) (tv_bl h a k f) := by
  refine tv_newqE X d hcl hover hz hN hbytes hR ?_
  rw [tv_bl_new]
  exact kk
theorem bl_aast (X : tv_X p s m args meth c0 cc nL own Ts D vwCl n0 ft) (d : decode cc pc = .ok (.aastore, 1)) (r : vw_C) {N ci : Nat} {vs : List Value} {g : Nat → Option Nat} (i iv : Nat) (hi : i < k) (hiv : iv < k) (he : f i = some (.inl (.object r.1, (N, .inr (.inr (.inr (.inr g))))))) (hv : f iv = some (.inr (ci, vs))) (hc : vwCl[ci]? = some r) (j : Nat) (hj : j < N) (hN : N < 2 ^ 31)
    (kk : tv_V p l e R s m args below meth c0 Q D vwCl n0 cells slots nL (pc + 1) L st n (tv_bl h a k (fupd f i (.inl (.object r.1, (N, .inr (.inr (.inr (.inr (va_up g j (some (a + iv))))))))))) ) : tv_V p l e R s m args below meth c0 Q D vwCl n0 cells slots nL pc L (.ref (a + iv) :: .int (nI j) :: .ref (a + i) :: st) n (tv_bl h a k f) := by
  refine tv_aast (r := r) X d ((tv_bl_at hi).trans he) ((tv_bl_at hiv).trans hv) hc (vp_in_nI hj hN) ?_
  rw [nI_clamp (Nat.lt_trans hj hN), tv_bl_set hi]
  exact kk
theorem tv_getsF (X : tv_X p s m args meth c0 cc nL own Ts D vwCl n0 ft) {index i : Nat} {host : String} (d : decode cc pc = .ok (.getstatic index, 3)) (hlink : tv_nF[i]? = some (own, index, "TouchTracker", "FIRST_VALUES", "[I", host)) (kk : tv_V p l e R s m args below meth c0 Q D vwCl n0 cells slots nL (pc + 3) L (.ref ft.1 :: st) n h) : tv_V p l e R s m args below meth c0 Q D vwCl n0 cells slots nL pc L st n h := fun H locs ls hr hS hh => va_getsN X.1 X.2.1 X.2.2.2.2.2.1.2.1.1.1 hS X.2.2.2.1 (tv_nwF X hlink) (fun _ h => h) d (kk H locs ls hr hS hh)
def setI (j : Nat) : Int32 := ([20, 12, 30, 250, 1] : List Int32).getD j 0
/-- copying out of the static row of first values -/
theorem tv_copyT (X : tv_X p s m args meth c0 cc nL own Ts D vwCl n0 ft) {index : Nat} (d : decode cc pc = .ok (.invokestatic index, 3)) (hlink : Cond.methodLink own index arraycopyName ∈ Ts) (hnat : Cond.native arraycopyName ∈ Ts) (hstat : Cond.static arraycopyName ∈ Ts) (hini : Cond.initialized "java/lang/System" ∈ Ts)
    {a1 N1 : Nat} {g : Nat → Int32} (he1 : h a1 = some (.inl (.int, (N1, .inl g))))
    {sp dp z : Int32} (h1 : ¬ sp < 0) (h2 : ¬ dp < 0) (h3 : ¬ z < 0) (h4 : sp.toNatClampNeg + z.toNatClampNeg ≤ 5) (h5 : dp.toNatClampNeg + z.toNatClampNeg ≤ N1)
    (hR : 1 ≤ R.frames ∧ (st.map fun v => v.category).sum + (nativeFrameWords "java/lang/System" "arraycopy" 5 + 11) ≤ R.locals)
    (kk : tv_V p l e R s m args below meth c0 Q D vwCl n0 cells slots nL (pc + 3) L st n (tv_up h a1 (.inl (.int, (N1, .inl (va_cpy setI g sp.toNatClampNeg dp.toNatClampNeg z.toNatClampNeg)))))) : tv_V p l e R s m args below meth c0 Q D vwCl n0 cells slots nL pc L (.int z :: .int dp :: .ref a1 :: .int sp :: .ref ft.1 :: st) n h := fun H locs ls hr hS hh => by
  have nn : ∀ z : Int32, ¬ z < 0 → z.toInt = (z.toNatClampNeg : Int) := by
    intro z hz
    have hz0 : (0 : Int) ≤ z.toInt := by
      have := Int32.not_lt.mp hz
      simpa using Int32.le_iff_toInt_le.mp this
    show z.toInt = ((z.toInt.toNat : Nat) : Int)
    omega
  obtain ⟨hx, hb, hml, hown, hts, hG, -⟩ := X
  have hna := (hr.2.2 a1 _ he1).1
  obtain ⟨scr, hs1, hs2, hs3, hs4, -, hs5, hs7⟩ := hG.2.1.1.2
  obtain ⟨c1, hc1, hA1, hra1⟩ := tv_lg_arr hr he1
  have hc0 : H[ft.1]? = some scr := by rw [hS.2.1 ft.1 (Array.getElem?_eq_some_iff.mp hs1).1 hs7]; exact hs1
  obtain ⟨hs6, k0, hk0, cm0, hkk0⟩ := hs2
  obtain ⟨-, k1, hk1, cm1, hkk1⟩ := hA1 N1 (fun j => .int (g j))
  intro T hT XS
  obtain ⟨vm', X', step⟩ := XS.arraycopy hx hown (hts _ hlink) (hts _ hnat) (hts _ hstat) (hts _ hini) (src := ft.1) (dst := a1) (cs := scr) (cd := vp_cell c1 (N1, .inl g)) (srcPos := sp) (destPos := dp) (n := z) (by rw [hT]; exact hc0) (by rw [hT]; exact hc1)
    hs6 (fun _ h => by cases h) hs3 (fun h => by cases h) hk0 hk1 hkk0 hkk1 (by simp [refKind]) h1 h2 h3
    (by rw [nn sp h1, nn z h3]; omega)
    (by rw [nn dp h2, nn z h3]; show ¬ _ > ((arrV c1 N1 (fun j => .int (g j))).slots.size : Int); rw [arrV_size]; omega)
    (fun vm₁ _ i hi => by
      have e : scr.slots.getD (sp.toNatClampNeg + i) .null = .int (setI (sp.toNatClampNeg + i)) := by
        rw [Array.getD_eq_getD_getElem?, hs5 _ (by omega)]
        rfl
      refine ⟨?_, ?_⟩
      · rw [e]; rfl
      · rw [e]
        exact trivial)
    (g := F0 m pc ls (.int z :: .int dp :: .ref a1 :: .int sp :: .ref ft.1 :: st)) rfl (by rw [hml]; exact hh.1) (rest := st) rfl (by rw [hb]; exact d) hR.1 (by show 2 * 0 + _ + _ ≤ _; have := hR.2; omega)
  have e1 : copied scr (vp_cell c1 (N1, .inl g)) sp dp z = vp_cell c1 (N1, .inl (va_cpy setI g sp.toNatClampNeg dp.toNatClampNeg z.toNatClampNeg)) := va_copiedX (fun z => .int z) scr c1 setI g hs5 h4
  rw [e1] at X' step
  have hl : a1 < H.size := (Array.getElem?_eq_some_iff.mp hc1).1
  have hheap : ((T.setVm vm').setCell a1 (vp_cell c1 (N1, .inl (va_cpy setI g sp.toNatClampNeg dp.toNatClampNeg z.toNatClampNeg)))).heap = H.setIfInBounds a1 (vp_cell c1 (N1, .inl (va_cpy setI g sp.toNatClampNeg dp.toNatClampNeg z.toNatClampNeg))) := by rw [← hT]; rfl
  have oq : ∀ q : Nat, q ≠ a1 → (H.setIfInBounds a1 (vp_cell c1 (N1, .inl (va_cpy setI g sp.toNatClampNeg dp.toNatClampNeg z.toNatClampNeg))))[q]? = H[q]? := fun q hq => by simp [Array.getElem?_setIfInBounds, Ne.symm hq]
  obtain ⟨t, b1, b2⟩ := kk _ _ ls (hr.set hna (by simp) ⟨c1, by simp [Array.getElem?_setIfInBounds, hl], hA1, hra1⟩ oq) ⟨by simp; exact hS.1, fun q g1 g2 => by
      rw [oq q (fun e => g2 (by rw [e]; exact hna))]
      exact hS.2.1 q g1 g2, fun q hq => by
      rcases List.mem_append.mp hq with h | h
      · exact hS.2.2 q h
      · obtain ⟨z, -, hz⟩ := List.mem_map.mp h
        rw [← hz]
        exact hna⟩ hh _ hheap X'
  exact ⟨t, step t b1, b2⟩
theorem tv_for (N : Nat) (cs ss : Nat → Nat) (LL : Nat → List (Nat × Value)) (nn : Nat → Nat) (hh : Nat → tv_H)
    (step : ∀ i, i < N → tv_V p l e R s m args below meth c0 Q D vwCl n0 (cs (i + 1)) (ss (i + 1)) nL pc (LL (i + 1)) st (nn (i + 1)) (hh (i + 1)) → tv_V p l e R s m args below meth c0 Q D vwCl n0 (cs i) (ss i) nL pc (LL i) st (nn i) (hh i))
    (last : tv_V p l e R s m args below meth c0 Q D vwCl n0 (cs N) (ss N) nL pc (LL N) st (nn N) (hh N)) : tv_V p l e R s m args below meth c0 Q D vwCl n0 (cs 0) (ss 0) nL pc (LL 0) st (nn 0) (hh 0) := by
  have key : ∀ k, k ≤ N → tv_V p l e R s m args below meth c0 Q D vwCl n0 (cs (N - k)) (ss (N - k)) nL pc (LL (N - k)) st (nn (N - k)) (hh (N - k)) := by
    intro k
    induction k with
    | zero => intro _; exact last
    | succ k ih =>
      intro hk
      refine step (N - (k + 1)) (by omega) ?_
      rw [show N - (k + 1) + 1 = N - k by omega]
      exact ih (by omega)
  have h := key N (Nat.le_refl N)
  rw [Nat.sub_self] at h
  exact h
end BLC
def arF (a : Nat) (s o : Nat) (j : Nat) : Nat → Option Nat := fun t => if t < j then some (a + o + s * t) else none
def stF (a : Nat) (i : Nat) : Option tv_E := bif Nat.beq i 0 then some (.inr (6, [.ref (a + 1), .ref (a + 4), .ref (a + 5), .int 0, .int 0, .int 0]))
  else bif Nat.beq i 1 then some (.inr (4, [.ref (a + 2), .ref (a + 3)]))
  else bif Nat.ble i 3 then zri 48
  else bif Nat.beq i 4 then some (.inl (.int, (5, .inl setI)))
  else bif Nat.beq i 5 then some (.inl (.object RX8, (6, .inr (.inr (.inr (.inr (arF a 1 6 6)))))))
  else tkF i
/-- a State whose first j tracks are made -/
def stJ (a j : Nat) (i : Nat) : Option tv_E := bif Nat.beq i 5 then some (.inl (.object RX8, (6, .inr (.inr (.inr (.inr (arF a 1 6 j))))))) else stF a i
theorem stJ_n {a j i : Nat} (h : i ≠ 5) : stJ a j i = stF a i := by
  have hb : Nat.beq i 5 = false := by
    cases hx : Nat.beq i 5 with
    | false => rfl
    | true => exact absurd (Nat.eq_of_beq_eq_true hx) h
  unfold stJ
  rw [hb]
  rfl
theorem stF_tk {a i : Nat} (h : 6 ≤ i) : stF a i = tkF i := by
  obtain ⟨k, rfl⟩ : ∃ k, i = k + 6 := ⟨i - 6, by omega⟩
  rfl
theorem arF_s {a s o j v : Nat} (hv : v = a + o + s * j) : va_up (arF a s o j) j (some v) = arF a s o (j + 1) := by
  funext t
  show (if t = j then some v else if t < j then some (a + o + s * t) else none) = if t < j + 1 then some (a + o + s * t) else none
  by_cases h1 : t = j
  · rw [if_pos h1, if_pos (by omega), h1, hv]
  · rw [if_neg h1]
    by_cases h2 : t < j
    · rw [if_pos h2, if_pos (by omega)]
    · rw [if_neg h2, if_neg (by omega)]
section C48
variable {l : Launch} {D : va_G} {n0 : Nat} {ft : tv_ft} {n a : Nat} {h : tv_H}
theorem oX6_init_3 : Cond.methodLink RX6 3 objectInit ∈ wsX6_init ∧ Cond.instanceMethod objectInit ∈ wsX6_init ∧ Cond.code objectInit ⟨#[0xb1]⟩ 1 none ∈ wsX6_init := ⟨by decide +kernel, by decide +kernel, by decide +kernel⟩
theorem qX6_init_9 : Cond.classLink RX6 9 RX4 ∈ wsX6_init ∧ Cond.instantiable RX4 2 ∈ wsX6_init ∧ Cond.initialized RX4 ∈ wsX6_init := ⟨by decide +kernel, by decide +kernel, by decide +kernel⟩
theorem qX6_init_22 : Cond.classLink RX6 22 RX8 ∈ wsX6_init ∧ Cond.instantiable RX8 5 ∈ wsX6_init ∧ Cond.initialized RX8 ∈ wsX6_init := ⟨by decide +kernel, by decide +kernel, by decide +kernel⟩
theorem vX6_init_11 : Cond.initialized RX4 ∈ wsX6_init ∧ Cond.instanceMethod yX4_init ∈ wsX6_init := ⟨by decide +kernel, by decide +kernel⟩
theorem vX6_init_37 : Cond.initialized RX8 ∈ wsX6_init ∧ Cond.instanceMethod yX8_init ∈ wsX6_init := ⟨by decide +kernel, by decide +kernel⟩
theorem wX6_init_int : Cond.arrayClass .int ∈ wsX6_init := by decide +kernel
theorem iX6_init_X4 : ∀ w ∈ wsX40, w ∈ wsX6_init := by decide +kernel
theorem iX6_init_X6 : ∀ w ∈ wsX60, w ∈ wsX6_init := by decide +kernel
theorem iX6_init_X8 : ∀ w ∈ wsX80, w ∈ wsX6_init := by decide +kernel
theorem kX6_init_12 : Cond.fieldLink RX6 12 (TX6 0).1 (TX6 0).2.1 (TX6 0).2.2.1 ∈ wsX6_init := by decide +kernel
theorem kX6_init_18 : Cond.fieldLink RX6 18 (TX6 1).1 (TX6 1).2.1 (TX6 1).2.2.1 ∈ wsX6_init := by decide +kernel
theorem kX6_init_24 : Cond.fieldLink RX6 24 (TX6 2).1 (TX6 2).2.1 (TX6 2).2.2.1 ∈ wsX6_init := by decide +kernel
theorem wX6_init_q : Cond.classLink RX6 22 RX8 ∈ wsX6_init := by decide +kernel
theorem aX6_init_31 : Cond.methodLink RX6 31 arraycopyName ∈ wsX6_init ∧ Cond.native arraycopyName ∈ wsX6_init ∧ Cond.static arraycopyName ∈ wsX6_init ∧ Cond.initialized "java/lang/System" ∈ wsX6_init := ⟨by decide +kernel, by decide +kernel, by decide +kernel, by decide +kernel⟩
theorem cX6_init_ok (he : h a = some (.inr (6, [.null, .null, .null, .int 0, .int 0, .int 0]))) : blMv l yX6_init wsX6_init rmX6_init 11 139 D n0 ft a 12 h (stF a) := by
  unfold blMv
  refine tv_enter (cc := cX6_init) (maxL := 2) (ret := none) (by decide) rfl (Nat.le_of_ble_eq_true rfl) ?_
  intro p e s m args below meth c X hrt hnm hargs
  refine tv_heap (tv_bl_1 he) ?_
  refine tv_aload_n X dX6_init_0 rfl ?_
  refine tv_objInit X dX6_init_1 oX6_init_3.1 oX6_init_3.2.1 oX6_init_3.2.2 ⟨Nat.le_of_ble_eq_true rfl, Nat.le_of_ble_eq_true rfl⟩ ?_
  refine tv_aload_n X dX6_init_4 rfl ?_
  refine bl_new (ci := 4) X dX6_init_5 iX6_init_X4 rfl tyX4 tyX4_ok qX6_init_9.1 qX6_init_9.2.1 qX6_init_9.2.2 (fs := [.null, .null]) (fun j hj => by match j, hj with | 0, _ => rfl | 1, _ => rfl) ⟨Nat.le_of_ble_eq_true rfl, Nat.le_of_ble_eq_true rfl⟩ ?_
  refine tv_dup X dX6_init_8 rfl ?_
  refine bl_callINv X dX6_init_9 (c := 1) (cX4_init_ok ((tv_bl_at (by omega)).trans rfl)) ⟨va_cnB 0 X.2.2.2.2.1 gX6_init_X4_init_n11 rfl rfl rfl (tv_nwM X nM0) (X.2.2.2.2.1 _ vX6_init_11.1) (by decide +kernel) ⟨Nat.le_of_ble_eq_true rfl, Nat.le_of_ble_eq_true rfl⟩, rfl, X.2.2.2.2.1 _ vX6_init_11.2⟩ (Nat.le_of_ble_eq_true rfl) (Nat.le_of_ble_eq_true rfl) ⟨Nat.le_of_ble_eq_true rfl, Nat.le_of_ble_eq_true rfl⟩ ?_
  refine bl_put X dX6_init_12 iX6_init_X6 rfl tyX6 tyX6_ok nmX6 0 (by decide) kX6_init_12 0 (Nat.le_of_ble_eq_true rfl) rfl (Or.inr ⟨rfl, hnm, rfl⟩) rfl rfl (Nat.le_of_ble_eq_true rfl) ?_
  refine tv_aload_n X dX6_init_15 rfl ?_
  refine tv_iconst (v := 5) X dX6_init_16 (by decide) ?_
  refine bl_newa X dX6_init_17 wX6_init_int (ty := .int) rfl (fun _ _ h9 => h9) (N := 5) (a0 := (5, .inl (fun _ => 0))) (fun _ => rfl) (by decide) (by decide) (by decide) ⟨Nat.le_of_ble_eq_true rfl, Nat.le_of_ble_eq_true rfl⟩ ?_
  refine bl_put X dX6_init_19 iX6_init_X6 rfl tyX6 tyX6_ok nmX6 1 (by decide) kX6_init_18 0 (Nat.le_of_ble_eq_true rfl) rfl (Or.inr ⟨rfl, hnm, rfl⟩) rfl rfl (Nat.le_of_ble_eq_true rfl) ?_
  refine tv_aload_n X dX6_init_22 rfl ?_
  refine tv_bipush (v := 6) X dX6_init_23 (by decide) ?_
  refine bl_newq X dX6_init_25 wX6_init_q X.2.2.2.2.2.1.2.2.2.2.2.2.2.2.2.2.2.1 (N := 6) (by decide) (by decide) (by decide) ⟨Nat.le_of_ble_eq_true rfl, Nat.le_of_ble_eq_true rfl⟩ ?_
  refine bl_put X dX6_init_28 iX6_init_X6 rfl tyX6 tyX6_ok nmX6 2 (by decide) kX6_init_24 0 (Nat.le_of_ble_eq_true rfl) rfl (Or.inr ⟨rfl, hnm, rfl⟩) rfl rfl (Nat.le_of_ble_eq_true rfl) ?_
  refine tv_getsF X dX6_init_31 nF0 ?_
  refine tv_iconst (v := 0) X dX6_init_34 (by decide) ?_
  refine tv_aload_n X dX6_init_35 rfl ?_
  refine bl_getf X dX6_init_36 iX6_init_X6 rfl 1 (by decide) kX6_init_18 0 (by omega) rfl rfl ?_
  refine tv_iconst (v := 0) X dX6_init_39 (by decide) ?_
  refine tv_iconst (v := 5) X dX6_init_40 (by decide) ?_
  refine tv_copyT X dX6_init_41 aX6_init_31.1 aX6_init_31.2.1 aX6_init_31.2.2.1 aX6_init_31.2.2.2 (a1 := a + 4) (N1 := 5) (g := fun _ => 0) ((tv_bl_at (by omega)).trans rfl) (by decide) (by decide) (by decide) (by decide) (by decide) ⟨Nat.le_of_ble_eq_true rfl, Nat.le_of_ble_eq_true rfl⟩ ?_
  refine tv_heap (tv_bl_set (by omega)) ?_
  refine tv_iconst (v := 0) X dX6_init_44 (by decide) ?_
  refine tv_istore_n X dX6_init_45 rfl ?_
  refine bl_conv (g := stJ a 0) (fun i hi e' he' => ?_) ?_
  · match i, hi with
    | 0, _ | 1, _ | 2, _ | 3, _ => exact ⟨e', he', tv_ce_refl⟩
    | 4, _ =>
      have h4 : e' = .inl (.int, (5, .inl setI)) := (Option.some.inj he').symm
      rw [h4]
      exact ⟨_, rfl, tv_ce_i fun j hj => by match j, hj with | 0, _ | 1, _ | 2, _ | 3, _ | 4, _ => rfl⟩
    | 5, _ =>
      have h4 : e' = .inl (.object RX8, (6, .inr (.inr (.inr (.inr (arF a 1 6 0)))))) := (Option.some.inj he').symm
      rw [h4]
      exact ⟨_, rfl, tv_ce_q fun j hj => (if_neg (Nat.not_lt_zero j)).symm⟩
  refine tv_for 6 (fun j => 5 + j) (fun j => 109 + 5 * j) (fun j => [(0, .ref a), (1, .int (nI j))]) (fun j => a + (6 + j)) (fun j => tv_bl h a (6 + j) (stJ a j)) ?_ ?_
  · intro j hj ih
    refine tv_iload_n X dX6_init_46 rfl ?_
    refine tv_bipush (v := 6) X dX6_init_47 (by decide) ?_
    refine tv_icmp_ge (tgt := 71) X dX6_init_49 (by decide) (fun h1 => ?_) (fun h1 => ?_)
    · exact absurd h1 (nI_ge (a := j) (b := 6) hj (by decide))
    refine tv_aload_n X dX6_init_52 rfl ?_
    refine bl_getf X dX6_init_53 iX6_init_X6 rfl 2 (by decide) kX6_init_24 0 (by omega) rfl rfl ?_
    refine tv_iload_n X dX6_init_56 rfl ?_
    refine bl_new (ci := 8) X dX6_init_57 iX6_init_X8 rfl tyX8 tyX8_ok qX6_init_22.1 qX6_init_22.2.1 qX6_init_22.2.2 (fs := [.int 0, .int 0, .int 0, .int 0, .int 0]) (fun j hj => by match j, hj with | 0, _ => rfl | 1, _ => rfl | 2, _ => rfl | 3, _ => rfl | 4, _ => rfl) ⟨by show 5 + j + 1 ≤ 11; omega, by show 109 + 5 * j + 5 ≤ 139; omega⟩ ?_
    refine tv_dup X dX6_init_60 rfl ?_
    refine bl_callINv X dX6_init_61 (c := (6+j)) (cX8_init_ok (tv_bl_at (by omega) |>.trans (if_pos rfl))) ⟨va_cnB 0 X.2.2.2.2.1 gX6_init_X8_init_n37 rfl rfl rfl (tv_nwM X nM1) (X.2.2.2.2.1 _ vX6_init_37.1) (by decide +kernel) ⟨Nat.le_of_ble_eq_true rfl, Nat.le_of_ble_eq_true rfl⟩, rfl, X.2.2.2.2.1 _ vX6_init_37.2⟩ (Nat.le_of_ble_eq_true rfl) (Nat.le_of_ble_eq_true rfl) ⟨by show 5 + j + 1 + 0 ≤ 11; omega, by show 109 + 5 * j + 5 + 0 ≤ 139; omega⟩ ?_
    refine bl_aast X dX6_init_64 (RX8, TX8, 5) 5 (6 + j) (by omega) (by omega) (N := 6) (ci := 8) (vs := [.int 0, .int 0, .int 0, .int 0, .int 0]) (g := arF a 1 6 j) ((if_neg (by omega)).trans ((if_neg (by omega)).trans rfl)) ((if_pos (Nat.le_refl _)).trans rfl) rfl j hj (by decide) ?_
    refine tv_iinc X dX6_init_65 rfl (nI_1 j) rfl ?_
    refine tv_goto (tgt := 46) X dX6_init_68 (by decide) ?_
    refine tv_heap (tv_bl_cg (k := 6 + j + 1) (fun i hi => ?_)) ih
    by_cases h5 : i = 5
    · rw [h5]
      refine (if_pos rfl).trans ?_
      exact congrArg (fun g : Nat → Option Nat => some (Sum.inl (FieldType.object RX8, (6, Sum.inr (Sum.inr (Sum.inr (Sum.inr g))))))) (arF_s (a := a) (s := 1) (o := 6) (v := a + (6 + j)) (by omega))
    · refine (if_neg h5).trans ?_
      rw [stJ_n h5]
      dsimp only
      by_cases h6 : 6 + j ≤ i
      · rw [if_pos h6, stF_tk (by omega)]; rfl
      · rw [if_neg h6]
        refine (if_neg (by omega)).trans ?_
        rw [stJ_n h5]
  · refine tv_iload_n X dX6_init_46 rfl ?_
    refine tv_bipush (v := 6) X dX6_init_47 (by decide) ?_
    refine tv_icmp_ge (tgt := 71) X dX6_init_49 (by decide) (fun h1 => ?_) (fun h1 => ?_)
    rotate_left
    · exact absurd (nI_le (Nat.le_refl 6) (by decide)) h1
    refine bl_conv (g := stF a) (fun i hi e' he' => ⟨e', ?_, tv_ce_refl⟩) ?_
    · rw [← he']
      by_cases h5 : i = 5
      · rw [h5]; rfl
      · exact stJ_n h5
    exact tv_vret X hrt dX6_init_71 rfl
end C48

