/-! the law's loop, case by case -/
section LWR
variable {p : Program} {l : Launch} {e : Env} {R : Room} {s : State} {m : MethodId} {args : Array Value} {below : List Frame} {meth : Method} {c : Code} {Q : State → Prop} {D : va_G} {n0 cells slots nL pc : Nat} {L : List (Nat × Value)} {st : List Value} {n : Nat} {h : tv_H} {cc : ByteArray} {own : String} {Ts : List Cond} {ft : Nat × Nat × Nat} {S : mS} {b t Ln : Nat} {xs : Nat → Int32}
theorem tl_sld (X : tv_X p s m args meth c cc nL own Ts D vwCl n0 ft) (hX : va_X b Ln xs s s.heap) (hbl : b < s.heap.size) (hbA : ¬ tv_A n0 b) (d : decode cc pc = .ok (.iaload, 1)) {i : Int32} (hin : vp_in i Ln) (kk : tv_V p l e R s m args below meth c Q D vwCl n0 cells slots nL (pc + 1) L (.int (xs i.toNatClampNeg) :: st) n h) : tv_V p l e R s m args below meth c Q D vwCl n0 cells slots nL pc L (.int i :: .ref b :: st) n h := fun H locs ls hr hS hh => va_sld X.1 X.2.1 hX hbl hbA hS hin d (kk H locs ls hr hS hh)
theorem tl_len (X : tv_X p s m args meth c cc nL own Ts D vwCl n0 ft) (hX : va_X b Ln xs s s.heap) (hbl : b < s.heap.size) (hbA : ¬ tv_A n0 b) (d : decode cc pc = .ok (.arraylength, 1)) (kk : tv_V p l e R s m args below meth c Q D vwCl n0 cells slots nL (pc + 1) L (.int (Int32.ofNat Ln) :: st) n h) : tv_V p l e R s m args below meth c Q D vwCl n0 cells slots nL pc L (.ref b :: st) n h := fun H locs ls hr hS hh => va_slen X.1 X.2.1 hX hbl hbA hS d (kk H locs ls hr hS hh)
/-- one argument out of the script -/
theorem tl_arg (X : tv_X p s m args meth c cc nL own Ts D vwCl n0 ft) (hX : va_X b Ln xs s s.heap) (hbl : b < s.heap.size) (hbA : ¬ tv_A n0 b) (j : Nat) (hj : j < 4) (ht : 4 * t + 4 ≤ Ln) (hL : Ln ≤ 2048) {z : Int} (hz : Int32.ofInt z = nI j) (d0 : decode cc pc = .ok (.aload_n 0, 1)) (d1 : decode cc (pc + 1) = .ok (.iload 4, 2)) (d2 : decode cc (pc + 3) = .ok (.iconst z, 1)) (d3 : decode cc (pc + 4) = .ok (.iadd, 1)) (d4 : decode cc (pc + 5) = .ok (.iaload, 1)) (h0 : tv_lk L 0 = some (.ref b)) (h4 : tv_lk L 4 = some (.int (nI (4 * t)))) (kk : tv_V p l e R s m args below meth c Q D vwCl n0 cells slots nL (pc + 6) L (.int (xs (4 * t + j)) :: st) n h) : tv_V p l e R s m args below meth c Q D vwCl n0 cells slots nL pc L st n h := by
  refine tv_aload_n X d0 h0 ?_
  refine tv_iload X d1 h4 ?_
  refine tv_iconst (v := nI j) X d2 hz ?_
  refine tv_iadd X d3 ?_
  refine tl_sld X hX hbl hbA d4 (i := nI (4 * t) + nI j) ?_ ?_
  · rw [nI_add]
    exact vp_in_nI (by omega) (by omega)
  · rw [nI_add, nI_clamp (by omega)]
    exact kk
theorem hlM_X {y : MethodName} {ws : List Cond} {rm : Room} {mc ms : Nat} {As : List Value} {post : Int32 → mS → Prop} (hM : hlM l y ws rm mc ms D n0 ft As n S post) : vx_Met l y ws rm (tv_Pc D vwCl n0 ft As n (mH n0 S)) (va_Qi (fun r u => n ≤ u.1 ∧ ∃ S', u.2 = mH n0 S' ∧ post r S') (tv_B D vwCl n0) (tv_A n0)) (vx_X (fun _ : Unit => False) (fun _ _ _ => True) (tv_A n0)) mc ms (tv_A n0) := fun p e a1 a2 a3 s m args below h1 h2 h3 h4 => by
  obtain ⟨n, o, b1, b2, b3, b4⟩ := hM p e a1 a2 a3 s m args below h1 h2 h3 h4
  refine ⟨n, o, b1, b2, b3, ?_⟩
  rcases b4 with b4 | ⟨q, h, E, ce, L, hx, -⟩
  · exact Or.inl b4
  · exact hx.elim
/-- a helper called -/
theorem tl_callH (X : tv_X p s m args meth c cc nL own Ts D vwCl n0 ft) {y : MethodName} {ws : List Cond} {rm : Room} {mc ms index kn : Nat} {As rest st0 : List Value} {post : Int32 → mS → Prop} {bytes : ByteArray} {maxL : Nat} {ret : Option FieldType} {hh : List (Nat × Nat × Nat × Nat)} (d : decode cc pc = .ok (.invokestatic index, 3)) (hM : hlM l y ws rm mc ms D n0 ft As n S post) (cw : vx_CSW R s args own index y bytes maxL ret hh ws rm mc ms kn) (hn : As.length = kn) (hst : st0 = As.reverse ++ rest) (hw : (rest.map fun v => v.category).sum ≤ 8) (hR : cells + mc ≤ R.cells ∧ slots + ms ≤ R.slots)
    (kk : ∀ (r : Int32) (S' : mS) (n' : Nat), n ≤ n' → post r S' → tv_V p l e R s m args below meth c Q D vwCl n0 (cells + mc) (slots + ms) nL (pc + 3) L (.int r :: rest) n' (mH n0 S')) : tv_V p l e R s m args below meth c Q D vwCl n0 cells slots nL pc L st0 n (mH n0 S) := fun H locs ls hr hS hh => by
  subst hst
  refine vx_calli (vx_runSX (As := As) (rest := rest) ⟨X.1, X.2.1, X.2.2.1, X.2.2.2.1, X.2.2.2.2.1⟩ (hlM_X hM) cw ⟨tv_blind, tv_pre X hr hS⟩ rfl hn hh.1 rfl (lv_room hw) d hR) hS (fun q _ h => h) (fun q h => h) (fun q _ h => h) (AX := tv_A n0) (px := fun _ : Unit => False) (BX := fun _ _ _ => True) (fun E ce q9 u t H1 locs1 ht hvm hp hB hz1 hk1 hS1 hce hcv hcl => ?_) (fun r u t H1 locs1 ht hvm hp hB hz1 hk1 hS1 => ?_)
  · exact hp.elim
  · subst ht
    obtain ⟨u1, u2⟩ := u
    obtain ⟨h1, S', h2, h3⟩ := hp
    have h2' : u2 = mH n0 S' := h2
    subst h2'
    exact kk r S' u1 h1 h3 _ _ ls (tv_rep.moved hvm.symm hB) hS1 hh
theorem mm_lald (X : tv_X p s m args meth c cc nL own Ts D vwCl n0 ft) (d : decode cc pc = .ok (.laload, 1)) (kk : tv_V p l e R s m args below meth c Q D vwCl n0 cells slots nL (pc + 1) L (.long S.2.2 :: st) n (mH n0 S)) : tv_V p l e R s m args below meth c Q D vwCl n0 cells slots nL pc L (.int 0 :: .ref (n0 + 142) :: st) n (mH n0 S) := tv_lald X d (N := 1) (f := fun _ => S.2.2) (mH_at.trans rfl) (show ¬ ((0 : Int32) < 0 ∨ 1 ≤ (0 : Int32).toNatClampNeg) by decide) kk
end LWR
theorem RG_tr {g : Nat → Int32} (h : RG g) {t : Nat} (ht : t < 6) : g (101 + 5 * t) = 0 ∨ g (101 + 5 * t) = 1 := (h.2.2.2.2.2.2 t ht).1
theorem INV_trok {A B : mS} {h k : Nat} (hI : INV A B h k) : trOk A 1 := fun t ht => by
  rw [INV_trk hI ht (show 0 < 5 by decide), Nat.add_zero]
  exact RG_tr hI.2.2.2.2.1 ht
theorem INV_trs {A B : mS} {h k : Nat} (hI : INV A B h k) (h0 : 0 < h) : trOk A (A.2.1 (h - 1)) := fun t ht => by
  obtain ⟨g1, g2⟩ := hI.2.2.2.2.2.1 (h - 1) (by omega)
  have e := g1 (101 + 5 * t + 0) (by omega)
  rw [cb_trk ht (by decide)] at e
  rw [e]
  exact RG_tr g2 ht

theorem isDown_b {S : mS} {h k : Nat} (hI : INV S S h k) {x : Int32} : ∀ v S1, (∃ t, t < 6 ∧ x = nI t ∧ S1 = S ∧ v = S.1 (1 + 6 + t) 0) → v = 0 ∨ v = 1 := fun v S1 ⟨t, ht, _, _, hv⟩ => by
  rw [hv]
  exact INV_trok hI t ht
theorem isDown_r2 {S1 S2 : mS} {h k : Nat} {x y v r2 : Int32} (h2 : pR_isDown S1 h k x y v r2 S2) (h0 : S2.1 130 0 = 0) : r2 = 0 ∨ r2 = 1 := by
  rcases h2 with ⟨-, e⟩ | ⟨t, -, -, -, e⟩
  · rw [e, mupd_ss] at h0
    exact absurd h0 (by decide)
  · rw [e]
    cases dwR S1 t with
    | false => exact Or.inl rfl
    | true => exact Or.inr rfl
theorem lwc_0 {p : Program} {l : Launch} {e : Env} {s : State} {m : MethodId} {below : List Frame} {meth : Method} {c : Code} {Q : State → Prop} {D : va_G} {n0 cells slots : Nat} {n : Nat} {ft : Nat × Nat × Nat} {S : mS} {b t Ln h k : Nat} {xs : Nat → Int32} (X : tv_X p s m #[Value.ref b] meth c cL_law 9 RL wsL_law D vwCl n0 ft) (hst : l.stackTraces = false) (hX : va_X b Ln xs s s.heap) (hbl : b < s.heap.size) (hbA : ¬ tv_A n0 b) (ht : 4 * t + 4 ≤ Ln) (hL : Ln ≤ 2048) (hI : INV S S h k) (hC : cells + 2 ≤ 601024 ∧ slots + 12 ≤ 7293034) (tail : ∀ (S' : mS) (n' h' k' : Nat), INV S' S' h' k' → tv_V p l e room_1 s m #[Value.ref b] below meth c Q D vwCl n0 (cells + 2) (slots + 12) 9 1467 [(0, .ref b), (1, .ref (n0 + 0)), (2, .ref (n0 + 130)), (3, .ref (n0 + 142)), (4, .int (nI (4 * t)))] [] n' (mH n0 S')) : tv_V p l e room_1 s m #[Value.ref b] below meth c Q D vwCl n0 cells slots 9 176 [(0, .ref b), (1, .ref (n0 + 0)), (2, .ref (n0 + 130)), (3, .ref (n0 + 142)), (4, .int (nI (4 * t)))] [] n (mH n0 S) := by
  refine tv_aload_n X dL_law_176 rfl ?_
  refine tl_arg X hX hbl hbA 1 (by decide) ht hL (by decide) dL_law_177 dL_law_178 dL_law_180 dL_law_181 dL_law_182 rfl rfl ?_
  refine tl_arg X hX hbl hbA 2 (by decide) ht hL (by decide) dL_law_183 dL_law_184 dL_law_186 dL_law_187 dL_law_188 rfl rfl ?_
  refine tl_arg X hX hbl hbA 3 (by decide) ht hL (by decide) dL_law_189 dL_law_190 dL_law_192 dL_law_193 dL_law_194 rfl rfl ?_
  refine tv_aload_n X dL_law_195 rfl ?_
  refine tl_callH X dL_law_196 (cL_setRaw_ok (cX9_setRaw_ok hst hI.1 hI.2.1.1 hI.2.1.2.1 (INV_trok hI) (xs (4 * t + 1)) (xs (4 * t + 2)) (xs (4 * t + 3))) (fun E S1 hp => hp.2.imp And.left And.left)) (vx_cwSW 5 X.2.2.2.2.1 gL_law_L_setRaw rfl rfl rfl (by decide +kernel) ⟨Nat.le_of_ble_eq_true rfl, Nat.le_of_ble_eq_true rfl⟩) rfl rfl (Nat.le_of_ble_eq_true rfl) ⟨show cells + 2 ≤ 601024 by omega, show slots + 12 ≤ 7293034 by omega⟩ (fun r1 S1 n1 hn1 h1 => ?_)
  obtain ⟨hR, hB⟩ := lc_setRaw (x := (xs (4 * t + 1))) (y := (xs (4 * t + 2))) (v := (xs (4 * t + 3))) hI h1
  obtain ⟨p1, p2, p3, p4, p5⟩ := INV_pre hI hR
  refine tv_istore X dL_law_199 rfl ?_
  refine tv_aload_n X dL_law_201 rfl ?_
  refine tl_arg X hX hbl hbA 1 (by decide) ht hL (by decide) dL_law_202 dL_law_203 dL_law_205 dL_law_206 dL_law_207 rfl rfl ?_
  refine tl_arg X hX hbl hbA 2 (by decide) ht hL (by decide) dL_law_208 dL_law_209 dL_law_211 dL_law_212 dL_law_213 rfl rfl ?_
  refine tl_arg X hX hbl hbA 3 (by decide) ht hL (by decide) dL_law_214 dL_law_215 dL_law_217 dL_law_218 dL_law_219 rfl rfl ?_
  refine mm_callVi (q := (RX10, TX10, 20)) X dL_law_220 (cX10_setRaw_ok p1 p2 (xs (4 * t + 1)) (xs (4 * t + 2)) (xs (4 * t + 3))) (cwV 3 X.2.2.2.2.1 gL_law_X10_setRaw rfl rfl rfl (by decide +kernel) ⟨Nat.le_of_ble_eq_true rfl, Nat.le_of_ble_eq_true rfl⟩) rfl rfl gX10 rfl (Nat.le_of_ble_eq_true rfl) ⟨show cells + 2 ≤ 601024 by omega, show slots + 12 ≤ 7293034 by omega⟩ (fun r2 S2 h2 => ?_)
  obtain ⟨q1, q2, h9, k9, hI9⟩ := hB r2 S2 h2
  refine tv_istore X dL_law_223 rfl ?_
  refine tv_aload_n X dL_law_225 rfl ?_
  refine mm_callVi (q := (RX10, TX10, 20)) X dL_law_226 cX10_thrown_ok (cwV 0 X.2.2.2.2.1 gL_law_X10_thrown rfl rfl rfl (by decide +kernel) ⟨Nat.le_of_ble_eq_true rfl, Nat.le_of_ble_eq_true rfl⟩) rfl rfl gX10 rfl (Nat.le_of_ble_eq_true rfl) ⟨show cells + 2 ≤ 601024 by omega, show slots + 12 ≤ 7293034 by omega⟩ (fun r3 S3 h3 => ?_)
  obtain ⟨e3, e4⟩ := h3
  rw [e3, e4, q1]
  refine tv_iload X dL_law_229 rfl ?_
  refine tv_icmp_eq (tgt := 236) X dL_law_231 (by decide) (fun z1 => ?_) (fun z1 => ?_)
  rotate_left
  · exact absurd rfl z1
  refine tv_iload X dL_law_236 rfl ?_
  refine tv_if_ne (tgt := 253) X dL_law_238 (by decide) (fun z2 => ?_) (fun z2 => ?_)
  · refine tv_goto (tgt := 1467) X dL_law_253 (by decide) ?_
    refine tv_widen (k0 := cells + 2) (k1 := slots + 12) (by omega) (by omega) ?_
    refine tv_sl (L' := [(0, .ref b), (1, .ref (n0 + 0)), (2, .ref (n0 + 130)), (3, .ref (n0 + 142)), (4, .int (nI (4 * t)))]) [0, 1, 2, 3, 4] rfl ?_
    exact tail S2 n1 h9 k9 hI9
  have z3 := q2 z2
  refine tv_aload_n X dL_law_241 rfl ?_
  refine tv_iconst (v := 0) X dL_law_242 (by decide) ?_
  refine mm_lald X dL_law_243 ?_
  refine tv_iload X dL_law_244 rfl ?_
  refine tv_i2l X dL_law_246 ?_
  rw [z3]
  refine tv_lcmpE X dL_law_247 ?_
  refine tv_if_eq (tgt := 253) X dL_law_248 (by decide) (fun z4 => ?_) (fun z4 => ?_)
  rotate_left
  · exact absurd rfl z4
  refine tv_goto (tgt := 1467) X dL_law_253 (by decide) ?_
  refine tv_widen (k0 := cells + 2) (k1 := slots + 12) (by omega) (by omega) ?_
  refine tv_sl (L' := [(0, .ref b), (1, .ref (n0 + 0)), (2, .ref (n0 + 130)), (3, .ref (n0 + 142)), (4, .int (nI (4 * t)))]) [0, 1, 2, 3, 4] rfl ?_
  exact tail S2 n1 h9 k9 hI9
theorem lwc_1 {p : Program} {l : Launch} {e : Env} {s : State} {m : MethodId} {below : List Frame} {meth : Method} {c : Code} {Q : State → Prop} {D : va_G} {n0 cells slots : Nat} {n : Nat} {ft : Nat × Nat × Nat} {S : mS} {b t Ln h k : Nat} {xs : Nat → Int32} (X : tv_X p s m #[Value.ref b] meth c cL_law 9 RL wsL_law D vwCl n0 ft) (hst : l.stackTraces = false) (hX : va_X b Ln xs s s.heap) (hbl : b < s.heap.size) (hbA : ¬ tv_A n0 b) (ht : 4 * t + 4 ≤ Ln) (hL : Ln ≤ 2048) (hI : INV S S h k) (hC : cells + 2 ≤ 601024 ∧ slots + 12 ≤ 7293034) (tail : ∀ (S' : mS) (n' h' k' : Nat), INV S' S' h' k' → tv_V p l e room_1 s m #[Value.ref b] below meth c Q D vwCl n0 (cells + 2) (slots + 12) 9 1467 [(0, .ref b), (1, .ref (n0 + 0)), (2, .ref (n0 + 130)), (3, .ref (n0 + 142)), (4, .int (nI (4 * t)))] [] n' (mH n0 S')) : tv_V p l e room_1 s m #[Value.ref b] below meth c Q D vwCl n0 cells slots 9 256 [(0, .ref b), (1, .ref (n0 + 0)), (2, .ref (n0 + 130)), (3, .ref (n0 + 142)), (4, .int (nI (4 * t)))] [] n (mH n0 S) := by
  refine tv_aload_n X dL_law_256 rfl ?_
  refine tl_arg X hX hbl hbA 1 (by decide) ht hL (by decide) dL_law_257 dL_law_258 dL_law_260 dL_law_261 dL_law_262 rfl rfl ?_
  refine tl_arg X hX hbl hbA 2 (by decide) ht hL (by decide) dL_law_263 dL_law_264 dL_law_266 dL_law_267 dL_law_268 rfl rfl ?_
  refine tl_arg X hX hbl hbA 3 (by decide) ht hL (by decide) dL_law_269 dL_law_270 dL_law_272 dL_law_273 dL_law_274 rfl rfl ?_
  refine tv_aload_n X dL_law_275 rfl ?_
  refine tl_callH X dL_law_276 (cL_press_ok (cX9_press_ok hst hI.1 hI.2.1.1 hI.2.1.2.1 (INV_trok hI) (xs (4 * t + 1)) (xs (4 * t + 2)) (xs (4 * t + 3))) (fun E S1 hp => hp.2.imp And.left And.left)) (vx_cwSW 5 X.2.2.2.2.1 gL_law_L_press rfl rfl rfl (by decide +kernel) ⟨Nat.le_of_ble_eq_true rfl, Nat.le_of_ble_eq_true rfl⟩) rfl rfl (Nat.le_of_ble_eq_true rfl) ⟨show cells + 2 ≤ 601024 by omega, show slots + 12 ≤ 7293034 by omega⟩ (fun r1 S1 n1 hn1 h1 => ?_)
  obtain ⟨hR, hB⟩ := lc_press (x := (xs (4 * t + 1))) (y := (xs (4 * t + 2))) (v := (xs (4 * t + 3))) hI h1
  obtain ⟨p1, p2, p3, p4, p5⟩ := INV_pre hI hR
  refine tv_istore X dL_law_279 rfl ?_
  refine tv_aload_n X dL_law_281 rfl ?_
  refine tl_arg X hX hbl hbA 1 (by decide) ht hL (by decide) dL_law_282 dL_law_283 dL_law_285 dL_law_286 dL_law_287 rfl rfl ?_
  refine tl_arg X hX hbl hbA 2 (by decide) ht hL (by decide) dL_law_288 dL_law_289 dL_law_291 dL_law_292 dL_law_293 rfl rfl ?_
  refine tl_arg X hX hbl hbA 3 (by decide) ht hL (by decide) dL_law_294 dL_law_295 dL_law_297 dL_law_298 dL_law_299 rfl rfl ?_
  refine mm_callVi (q := (RX10, TX10, 20)) X dL_law_300 (cX10_press_ok p1 p2 (xs (4 * t + 1)) (xs (4 * t + 2)) (xs (4 * t + 3))) (cwV 3 X.2.2.2.2.1 gL_law_X10_press rfl rfl rfl (by decide +kernel) ⟨Nat.le_of_ble_eq_true rfl, Nat.le_of_ble_eq_true rfl⟩) rfl rfl gX10 rfl (Nat.le_of_ble_eq_true rfl) ⟨show cells + 2 ≤ 601024 by omega, show slots + 12 ≤ 7293034 by omega⟩ (fun r2 S2 h2 => ?_)
  obtain ⟨q1, q2, h9, k9, hI9⟩ := hB r2 S2 h2
  refine tv_istore X dL_law_303 rfl ?_
  refine tv_aload_n X dL_law_305 rfl ?_
  refine mm_callVi (q := (RX10, TX10, 20)) X dL_law_306 cX10_thrown_ok (cwV 0 X.2.2.2.2.1 gL_law_X10_thrown rfl rfl rfl (by decide +kernel) ⟨Nat.le_of_ble_eq_true rfl, Nat.le_of_ble_eq_true rfl⟩) rfl rfl gX10 rfl (Nat.le_of_ble_eq_true rfl) ⟨show cells + 2 ≤ 601024 by omega, show slots + 12 ≤ 7293034 by omega⟩ (fun r3 S3 h3 => ?_)
  obtain ⟨e3, e4⟩ := h3
  rw [e3, e4, q1]
  refine tv_iload X dL_law_309 rfl ?_
  refine tv_icmp_eq (tgt := 316) X dL_law_311 (by decide) (fun z1 => ?_) (fun z1 => ?_)
  rotate_left
  · exact absurd rfl z1
  refine tv_iload X dL_law_316 rfl ?_
  refine tv_if_ne (tgt := 333) X dL_law_318 (by decide) (fun z2 => ?_) (fun z2 => ?_)
  · refine tv_goto (tgt := 1467) X dL_law_333 (by decide) ?_
    refine tv_widen (k0 := cells + 2) (k1 := slots + 12) (by omega) (by omega) ?_
    refine tv_sl (L' := [(0, .ref b), (1, .ref (n0 + 0)), (2, .ref (n0 + 130)), (3, .ref (n0 + 142)), (4, .int (nI (4 * t)))]) [0, 1, 2, 3, 4] rfl ?_
    exact tail S2 n1 h9 k9 hI9
  have z3 := q2 z2
  refine tv_aload_n X dL_law_321 rfl ?_
  refine tv_iconst (v := 0) X dL_law_322 (by decide) ?_
  refine mm_lald X dL_law_323 ?_
  refine tv_iload X dL_law_324 rfl ?_
  refine tv_i2l X dL_law_326 ?_
  rw [z3]
  refine tv_lcmpE X dL_law_327 ?_
  refine tv_if_eq (tgt := 333) X dL_law_328 (by decide) (fun z4 => ?_) (fun z4 => ?_)
  rotate_left
  · exact absurd rfl z4
  refine tv_goto (tgt := 1467) X dL_law_333 (by decide) ?_
  refine tv_widen (k0 := cells + 2) (k1 := slots + 12) (by omega) (by omega) ?_
  refine tv_sl (L' := [(0, .ref b), (1, .ref (n0 + 0)), (2, .ref (n0 + 130)), (3, .ref (n0 + 142)), (4, .int (nI (4 * t)))]) [0, 1, 2, 3, 4] rfl ?_
  exact tail S2 n1 h9 k9 hI9
theorem lwc_2 {p : Program} {l : Launch} {e : Env} {s : State} {m : MethodId} {below : List Frame} {meth : Method} {c : Code} {Q : State → Prop} {D : va_G} {n0 cells slots : Nat} {n : Nat} {ft : Nat × Nat × Nat} {S : mS} {b t Ln h k : Nat} {xs : Nat → Int32} (X : tv_X p s m #[Value.ref b] meth c cL_law 9 RL wsL_law D vwCl n0 ft) (hst : l.stackTraces = false) (hX : va_X b Ln xs s s.heap) (hbl : b < s.heap.size) (hbA : ¬ tv_A n0 b) (ht : 4 * t + 4 ≤ Ln) (hL : Ln ≤ 2048) (hI : INV S S h k) (hC : cells + 2 ≤ 601024 ∧ slots + 12 ≤ 7293034) (tail : ∀ (S' : mS) (n' h' k' : Nat), INV S' S' h' k' → tv_V p l e room_1 s m #[Value.ref b] below meth c Q D vwCl n0 (cells + 2) (slots + 12) 9 1467 [(0, .ref b), (1, .ref (n0 + 0)), (2, .ref (n0 + 130)), (3, .ref (n0 + 142)), (4, .int (nI (4 * t)))] [] n' (mH n0 S')) : tv_V p l e room_1 s m #[Value.ref b] below meth c Q D vwCl n0 cells slots 9 336 [(0, .ref b), (1, .ref (n0 + 0)), (2, .ref (n0 + 130)), (3, .ref (n0 + 142)), (4, .int (nI (4 * t)))] [] n (mH n0 S) := by
  refine tv_aload_n X dL_law_336 rfl ?_
  refine mm_callVi (q := (RX9, TX9, 8)) X dL_law_337 (cX9_release_ok hI.1 hI.2.1.1 hI.2.1.2.1 (INV_trok hI)) (cwV 0 X.2.2.2.2.1 gL_law_X9_release rfl rfl rfl (by decide +kernel) ⟨Nat.le_of_ble_eq_true rfl, Nat.le_of_ble_eq_true rfl⟩) rfl rfl gX9 rfl (Nat.le_of_ble_eq_true rfl) ⟨show cells ≤ 601024 by omega, show slots ≤ 7293034 by omega⟩ (fun r1 S1 h1 => ?_)
  obtain ⟨hR, hB⟩ := lc_release (x := 0) (y := 0) (v := 0) hI h1
  obtain ⟨p1, p2, p3, p4, p5⟩ := INV_pre hI hR
  refine tv_aload_n X dL_law_340 rfl ?_
  refine mm_callVi (q := (RX10, TX10, 20)) X dL_law_341 (cX10_release_ok p1 p2) (cwV 0 X.2.2.2.2.1 gL_law_X10_release rfl rfl rfl (by decide +kernel) ⟨Nat.le_of_ble_eq_true rfl, Nat.le_of_ble_eq_true rfl⟩) rfl rfl gX10 rfl (Nat.le_of_ble_eq_true rfl) ⟨show cells ≤ 601024 by omega, show slots ≤ 7293034 by omega⟩ (fun r2 S2 h2 => ?_)
  obtain ⟨q1, h9, k9, hI9⟩ := hB r2 S2 h2
  refine tv_icmp_eq (tgt := 1467) X dL_law_344 (by decide) (fun z1 => ?_) (fun z1 => ?_)
  rotate_left
  · exact absurd q1 z1
  refine tv_widen (k0 := cells + 2) (k1 := slots + 12) (by omega) (by omega) ?_
  refine tv_sl (L' := [(0, .ref b), (1, .ref (n0 + 0)), (2, .ref (n0 + 130)), (3, .ref (n0 + 142)), (4, .int (nI (4 * t)))]) [0, 1, 2, 3, 4] rfl ?_
  exact tail S2 n h9 k9 hI9
theorem lwc_3 {p : Program} {l : Launch} {e : Env} {s : State} {m : MethodId} {below : List Frame} {meth : Method} {c : Code} {Q : State → Prop} {D : va_G} {n0 cells slots : Nat} {n : Nat} {ft : Nat × Nat × Nat} {S : mS} {b t Ln h k : Nat} {xs : Nat → Int32} (X : tv_X p s m #[Value.ref b] meth c cL_law 9 RL wsL_law D vwCl n0 ft) (hst : l.stackTraces = false) (hX : va_X b Ln xs s s.heap) (hbl : b < s.heap.size) (hbA : ¬ tv_A n0 b) (ht : 4 * t + 4 ≤ Ln) (hL : Ln ≤ 2048) (hI : INV S S h k) (hC : cells + 2 ≤ 601024 ∧ slots + 12 ≤ 7293034) (tail : ∀ (S' : mS) (n' h' k' : Nat), INV S' S' h' k' → tv_V p l e room_1 s m #[Value.ref b] below meth c Q D vwCl n0 (cells + 2) (slots + 12) 9 1467 [(0, .ref b), (1, .ref (n0 + 0)), (2, .ref (n0 + 130)), (3, .ref (n0 + 142)), (4, .int (nI (4 * t)))] [] n' (mH n0 S')) : tv_V p l e room_1 s m #[Value.ref b] below meth c Q D vwCl n0 cells slots 9 349 [(0, .ref b), (1, .ref (n0 + 0)), (2, .ref (n0 + 130)), (3, .ref (n0 + 142)), (4, .int (nI (4 * t)))] [] n (mH n0 S) := by
  refine tv_aload_n X dL_law_349 rfl ?_
  refine mm_callVi (q := (RX9, TX9, 8)) X dL_law_350 (cX9_calibrate_ok hI.1 hI.2.1.1 hI.2.1.2.1 (INV_trok hI)) (cwV 0 X.2.2.2.2.1 gL_law_X9_calibrate rfl rfl rfl (by decide +kernel) ⟨Nat.le_of_ble_eq_true rfl, Nat.le_of_ble_eq_true rfl⟩) rfl rfl gX9 rfl (Nat.le_of_ble_eq_true rfl) ⟨show cells ≤ 601024 by omega, show slots ≤ 7293034 by omega⟩ (fun r1 S1 h1 => ?_)
  obtain ⟨hR, hB⟩ := lc_calibrate (x := 0) (y := 0) (v := 0) hI h1
  obtain ⟨p1, p2, p3, p4, p5⟩ := INV_pre hI hR
  refine tv_aload_n X dL_law_353 rfl ?_
  refine mm_callVi (q := (RX10, TX10, 20)) X dL_law_354 (cX10_calibrate_ok p1 p2) (cwV 0 X.2.2.2.2.1 gL_law_X10_calibrate rfl rfl rfl (by decide +kernel) ⟨Nat.le_of_ble_eq_true rfl, Nat.le_of_ble_eq_true rfl⟩) rfl rfl gX10 rfl (Nat.le_of_ble_eq_true rfl) ⟨show cells ≤ 601024 by omega, show slots ≤ 7293034 by omega⟩ (fun r2 S2 h2 => ?_)
  obtain ⟨q1, h9, k9, hI9⟩ := hB r2 S2 h2
  refine tv_icmp_eq (tgt := 1467) X dL_law_357 (by decide) (fun z1 => ?_) (fun z1 => ?_)
  rotate_left
  · exact absurd q1 z1
  refine tv_widen (k0 := cells + 2) (k1 := slots + 12) (by omega) (by omega) ?_
  refine tv_sl (L' := [(0, .ref b), (1, .ref (n0 + 0)), (2, .ref (n0 + 130)), (3, .ref (n0 + 142)), (4, .int (nI (4 * t)))]) [0, 1, 2, 3, 4] rfl ?_
  exact tail S2 n h9 k9 hI9
theorem lwc_4 {p : Program} {l : Launch} {e : Env} {s : State} {m : MethodId} {below : List Frame} {meth : Method} {c : Code} {Q : State → Prop} {D : va_G} {n0 cells slots : Nat} {n : Nat} {ft : Nat × Nat × Nat} {S : mS} {b t Ln h k : Nat} {xs : Nat → Int32} (X : tv_X p s m #[Value.ref b] meth c cL_law 9 RL wsL_law D vwCl n0 ft) (hst : l.stackTraces = false) (hX : va_X b Ln xs s s.heap) (hbl : b < s.heap.size) (hbA : ¬ tv_A n0 b) (ht : 4 * t + 4 ≤ Ln) (hL : Ln ≤ 2048) (hI : INV S S h k) (hC : cells + 2 ≤ 601024 ∧ slots + 12 ≤ 7293034) (tail : ∀ (S' : mS) (n' h' k' : Nat), INV S' S' h' k' → tv_V p l e room_1 s m #[Value.ref b] below meth c Q D vwCl n0 (cells + 2) (slots + 12) 9 1467 [(0, .ref b), (1, .ref (n0 + 0)), (2, .ref (n0 + 130)), (3, .ref (n0 + 142)), (4, .int (nI (4 * t)))] [] n' (mH n0 S')) : tv_V p l e room_1 s m #[Value.ref b] below meth c Q D vwCl n0 cells slots 9 362 [(0, .ref b), (1, .ref (n0 + 0)), (2, .ref (n0 + 130)), (3, .ref (n0 + 142)), (4, .int (nI (4 * t)))] [] n (mH n0 S) := by
  refine tv_aload_n X dL_law_362 rfl ?_
  refine tl_arg X hX hbl hbA 1 (by decide) ht hL (by decide) dL_law_363 dL_law_364 dL_law_366 dL_law_367 dL_law_368 rfl rfl ?_
  refine tl_arg X hX hbl hbA 2 (by decide) ht hL (by decide) dL_law_369 dL_law_370 dL_law_372 dL_law_373 dL_law_374 rfl rfl ?_
  refine tv_aload_n X dL_law_375 rfl ?_
  refine tl_callH X dL_law_376 (cL_set_ok (cX9_set_ok hst hI.1 hI.2.1.1 hI.2.1.2.1 (INV_trok hI) (xs (4 * t + 1)) (xs (4 * t + 2))) (fun E S1 hp => hp.2.imp And.left And.left)) (vx_cwSW 4 X.2.2.2.2.1 gL_law_L_set rfl rfl rfl (by decide +kernel) ⟨Nat.le_of_ble_eq_true rfl, Nat.le_of_ble_eq_true rfl⟩) rfl rfl (Nat.le_of_ble_eq_true rfl) ⟨show cells + 2 ≤ 601024 by omega, show slots + 12 ≤ 7293034 by omega⟩ (fun r1 S1 n1 hn1 h1 => ?_)
  obtain ⟨hR, hB⟩ := lc_set (x := (xs (4 * t + 1))) (y := 0) (v := (xs (4 * t + 2))) hI h1
  obtain ⟨p1, p2, p3, p4, p5⟩ := INV_pre hI hR
  refine tv_istore X dL_law_379 rfl ?_
  refine tv_aload_n X dL_law_381 rfl ?_
  refine tl_arg X hX hbl hbA 1 (by decide) ht hL (by decide) dL_law_382 dL_law_383 dL_law_385 dL_law_386 dL_law_387 rfl rfl ?_
  refine tl_arg X hX hbl hbA 2 (by decide) ht hL (by decide) dL_law_388 dL_law_389 dL_law_391 dL_law_392 dL_law_393 rfl rfl ?_
  refine mm_callVi (q := (RX10, TX10, 20)) X dL_law_394 (cX10_set_ok p1 p2 (xs (4 * t + 1)) (xs (4 * t + 2))) (cwV 2 X.2.2.2.2.1 gL_law_X10_set rfl rfl rfl (by decide +kernel) ⟨Nat.le_of_ble_eq_true rfl, Nat.le_of_ble_eq_true rfl⟩) rfl rfl gX10 rfl (Nat.le_of_ble_eq_true rfl) ⟨show cells + 2 ≤ 601024 by omega, show slots + 12 ≤ 7293034 by omega⟩ (fun r2 S2 h2 => ?_)
  obtain ⟨q1, q2, h9, k9, hI9⟩ := hB r2 S2 h2
  refine tv_istore X dL_law_397 rfl ?_
  refine tv_aload_n X dL_law_399 rfl ?_
  refine mm_callVi (q := (RX10, TX10, 20)) X dL_law_400 cX10_thrown_ok (cwV 0 X.2.2.2.2.1 gL_law_X10_thrown rfl rfl rfl (by decide +kernel) ⟨Nat.le_of_ble_eq_true rfl, Nat.le_of_ble_eq_true rfl⟩) rfl rfl gX10 rfl (Nat.le_of_ble_eq_true rfl) ⟨show cells + 2 ≤ 601024 by omega, show slots + 12 ≤ 7293034 by omega⟩ (fun r3 S3 h3 => ?_)
  obtain ⟨e3, e4⟩ := h3
  rw [e3, e4, q1]
  refine tv_iload X dL_law_403 rfl ?_
  refine tv_icmp_eq (tgt := 410) X dL_law_405 (by decide) (fun z1 => ?_) (fun z1 => ?_)
  rotate_left
  · exact absurd rfl z1
  refine tv_iload X dL_law_410 rfl ?_
  refine tv_if_ne (tgt := 427) X dL_law_412 (by decide) (fun z2 => ?_) (fun z2 => ?_)
  · refine tv_goto (tgt := 1467) X dL_law_427 (by decide) ?_
    refine tv_widen (k0 := cells + 2) (k1 := slots + 12) (by omega) (by omega) ?_
    refine tv_sl (L' := [(0, .ref b), (1, .ref (n0 + 0)), (2, .ref (n0 + 130)), (3, .ref (n0 + 142)), (4, .int (nI (4 * t)))]) [0, 1, 2, 3, 4] rfl ?_
    exact tail S2 n1 h9 k9 hI9
  have z3 := q2 z2
  refine tv_aload_n X dL_law_415 rfl ?_
  refine tv_iconst (v := 0) X dL_law_416 (by decide) ?_
  refine mm_lald X dL_law_417 ?_
  refine tv_iload X dL_law_418 rfl ?_
  refine tv_i2l X dL_law_420 ?_
  rw [z3]
  refine tv_lcmpE X dL_law_421 ?_
  refine tv_if_eq (tgt := 427) X dL_law_422 (by decide) (fun z4 => ?_) (fun z4 => ?_)
  rotate_left
  · exact absurd rfl z4
  refine tv_goto (tgt := 1467) X dL_law_427 (by decide) ?_
  refine tv_widen (k0 := cells + 2) (k1 := slots + 12) (by omega) (by omega) ?_
  refine tv_sl (L' := [(0, .ref b), (1, .ref (n0 + 0)), (2, .ref (n0 + 130)), (3, .ref (n0 + 142)), (4, .int (nI (4 * t)))]) [0, 1, 2, 3, 4] rfl ?_
  exact tail S2 n1 h9 k9 hI9
theorem lwc_5 {p : Program} {l : Launch} {e : Env} {s : State} {m : MethodId} {below : List Frame} {meth : Method} {c : Code} {Q : State → Prop} {D : va_G} {n0 cells slots : Nat} {n : Nat} {ft : Nat × Nat × Nat} {S : mS} {b t Ln h k : Nat} {xs : Nat → Int32} (X : tv_X p s m #[Value.ref b] meth c cL_law 9 RL wsL_law D vwCl n0 ft) (hst : l.stackTraces = false) (hX : va_X b Ln xs s s.heap) (hbl : b < s.heap.size) (hbA : ¬ tv_A n0 b) (ht : 4 * t + 4 ≤ Ln) (hL : Ln ≤ 2048) (hI : INV S S h k) (hC : cells + 2 ≤ 601024 ∧ slots + 12 ≤ 7293034) (tail : ∀ (S' : mS) (n' h' k' : Nat), INV S' S' h' k' → tv_V p l e room_1 s m #[Value.ref b] below meth c Q D vwCl n0 (cells + 2) (slots + 12) 9 1467 [(0, .ref b), (1, .ref (n0 + 0)), (2, .ref (n0 + 130)), (3, .ref (n0 + 142)), (4, .int (nI (4 * t)))] [] n' (mH n0 S')) : tv_V p l e room_1 s m #[Value.ref b] below meth c Q D vwCl n0 cells slots 9 430 [(0, .ref b), (1, .ref (n0 + 0)), (2, .ref (n0 + 130)), (3, .ref (n0 + 142)), (4, .int (nI (4 * t)))] [] n (mH n0 S) := by
  refine tv_aload_n X dL_law_430 rfl ?_
  refine mm_callVi (q := (RX9, TX9, 8)) X dL_law_431 (cX9_scan_ok hI.1 hI.2.1.1 hI.2.1.2.1 (INV_trok hI)) (cwV 0 X.2.2.2.2.1 gL_law_X9_scan rfl rfl rfl (by decide +kernel) ⟨Nat.le_of_ble_eq_true rfl, Nat.le_of_ble_eq_true rfl⟩) rfl rfl gX9 rfl (Nat.le_of_ble_eq_true rfl) ⟨show cells ≤ 601024 by omega, show slots ≤ 7293034 by omega⟩ (fun r1 S1 h1 => ?_)
  obtain ⟨hR, hB⟩ := lc_scan (x := 0) (y := 0) (v := 0) hI h1
  obtain ⟨p1, p2, p3, p4, p5⟩ := INV_pre hI hR
  refine tv_aload_n X dL_law_434 rfl ?_
  refine mm_callVi (q := (RX10, TX10, 20)) X dL_law_435 (cX10_scan_ok p1 p2 p5) (cwV 0 X.2.2.2.2.1 gL_law_X10_scan rfl rfl rfl (by decide +kernel) ⟨Nat.le_of_ble_eq_true rfl, Nat.le_of_ble_eq_true rfl⟩) rfl rfl gX10 rfl (Nat.le_of_ble_eq_true rfl) ⟨show cells ≤ 601024 by omega, show slots ≤ 7293034 by omega⟩ (fun r2 S2 h2 => ?_)
  obtain ⟨q1, h9, k9, hI9⟩ := hB r2 S2 h2
  refine tv_icmp_eq (tgt := 1467) X dL_law_438 (by decide) (fun z1 => ?_) (fun z1 => ?_)
  rotate_left
  · exact absurd q1 z1
  refine tv_widen (k0 := cells + 2) (k1 := slots + 12) (by omega) (by omega) ?_
  refine tv_sl (L' := [(0, .ref b), (1, .ref (n0 + 0)), (2, .ref (n0 + 130)), (3, .ref (n0 + 142)), (4, .int (nI (4 * t)))]) [0, 1, 2, 3, 4] rfl ?_
  exact tail S2 n h9 k9 hI9
theorem lwc_6 {p : Program} {l : Launch} {e : Env} {s : State} {m : MethodId} {below : List Frame} {meth : Method} {c : Code} {Q : State → Prop} {D : va_G} {n0 cells slots : Nat} {n : Nat} {ft : Nat × Nat × Nat} {S : mS} {b t Ln h k : Nat} {xs : Nat → Int32} (X : tv_X p s m #[Value.ref b] meth c cL_law 9 RL wsL_law D vwCl n0 ft) (hst : l.stackTraces = false) (hX : va_X b Ln xs s s.heap) (hbl : b < s.heap.size) (hbA : ¬ tv_A n0 b) (ht : 4 * t + 4 ≤ Ln) (hL : Ln ≤ 2048) (hI : INV S S h k) (hC : cells + 2 ≤ 601024 ∧ slots + 12 ≤ 7293034) (tail : ∀ (S' : mS) (n' h' k' : Nat), INV S' S' h' k' → tv_V p l e room_1 s m #[Value.ref b] below meth c Q D vwCl n0 (cells + 2) (slots + 12) 9 1467 [(0, .ref b), (1, .ref (n0 + 0)), (2, .ref (n0 + 130)), (3, .ref (n0 + 142)), (4, .int (nI (4 * t)))] [] n' (mH n0 S')) : tv_V p l e room_1 s m #[Value.ref b] below meth c Q D vwCl n0 cells slots 9 443 [(0, .ref b), (1, .ref (n0 + 0)), (2, .ref (n0 + 130)), (3, .ref (n0 + 142)), (4, .int (nI (4 * t)))] [] n (mH n0 S) := by
  refine tv_aload_n X dL_law_443 rfl ?_
  refine tl_arg X hX hbl hbA 1 (by decide) ht hL (by decide) dL_law_444 dL_law_445 dL_law_447 dL_law_448 dL_law_449 rfl rfl ?_
  refine tv_aload_n X dL_law_450 rfl ?_
  refine tl_callH X dL_law_451 (cL_appendText_ok (cX9_appendText_ok hst hI.2.2.1.1 hI.2.2.1.2.2.1 (xs (4 * t + 1))) (fun E S1 hp => hp.2.imp And.left And.left)) (vx_cwSW 3 X.2.2.2.2.1 gL_law_L_appendText rfl rfl rfl (by decide +kernel) ⟨Nat.le_of_ble_eq_true rfl, Nat.le_of_ble_eq_true rfl⟩) rfl rfl (Nat.le_of_ble_eq_true rfl) ⟨show cells + 1 ≤ 601024 by omega, show slots + 6 ≤ 7293034 by omega⟩ (fun r1 S1 n1 hn1 h1 => ?_)
  obtain ⟨hR, hB⟩ := lc_appendText (x := 0) (y := 0) (v := (xs (4 * t + 1))) hI h1
  obtain ⟨p1, p2, p3, p4, p5⟩ := INV_pre hI hR
  refine tv_istore X dL_law_454 rfl ?_
  refine tv_aload_n X dL_law_456 rfl ?_
  refine tl_arg X hX hbl hbA 1 (by decide) ht hL (by decide) dL_law_457 dL_law_458 dL_law_460 dL_law_461 dL_law_462 rfl rfl ?_
  refine mm_callVi (q := (RX10, TX10, 20)) X dL_law_463 (cX10_appendText_ok p3 p4 (xs (4 * t + 1))) (cwV 1 X.2.2.2.2.1 gL_law_X10_appendText rfl rfl rfl (by decide +kernel) ⟨Nat.le_of_ble_eq_true rfl, Nat.le_of_ble_eq_true rfl⟩) rfl rfl gX10 rfl (Nat.le_of_ble_eq_true rfl) ⟨show cells + 1 ≤ 601024 by omega, show slots + 6 ≤ 7293034 by omega⟩ (fun r2 S2 h2 => ?_)
  obtain ⟨q1, q2, h9, k9, hI9⟩ := hB r2 S2 h2
  refine tv_istore X dL_law_466 rfl ?_
  refine tv_aload_n X dL_law_468 rfl ?_
  refine mm_callVi (q := (RX10, TX10, 20)) X dL_law_469 cX10_thrown_ok (cwV 0 X.2.2.2.2.1 gL_law_X10_thrown rfl rfl rfl (by decide +kernel) ⟨Nat.le_of_ble_eq_true rfl, Nat.le_of_ble_eq_true rfl⟩) rfl rfl gX10 rfl (Nat.le_of_ble_eq_true rfl) ⟨show cells + 1 ≤ 601024 by omega, show slots + 6 ≤ 7293034 by omega⟩ (fun r3 S3 h3 => ?_)
  obtain ⟨e3, e4⟩ := h3
  rw [e3, e4, q1]
  refine tv_iload X dL_law_472 rfl ?_
  refine tv_icmp_eq (tgt := 479) X dL_law_474 (by decide) (fun z1 => ?_) (fun z1 => ?_)
  rotate_left
  · exact absurd rfl z1
  refine tv_iload X dL_law_479 rfl ?_
  refine tv_if_ne (tgt := 496) X dL_law_481 (by decide) (fun z2 => ?_) (fun z2 => ?_)
  · refine tv_goto (tgt := 1467) X dL_law_496 (by decide) ?_
    refine tv_widen (k0 := cells + 2) (k1 := slots + 12) (by omega) (by omega) ?_
    refine tv_sl (L' := [(0, .ref b), (1, .ref (n0 + 0)), (2, .ref (n0 + 130)), (3, .ref (n0 + 142)), (4, .int (nI (4 * t)))]) [0, 1, 2, 3, 4] rfl ?_
    exact tail S2 n1 h9 k9 hI9
  have z3 := q2 z2
  refine tv_aload_n X dL_law_484 rfl ?_
  refine tv_iconst (v := 0) X dL_law_485 (by decide) ?_
  refine mm_lald X dL_law_486 ?_
  refine tv_iload X dL_law_487 rfl ?_
  refine tv_i2l X dL_law_489 ?_
  rw [z3]
  refine tv_lcmpE X dL_law_490 ?_
  refine tv_if_eq (tgt := 496) X dL_law_491 (by decide) (fun z4 => ?_) (fun z4 => ?_)
  rotate_left
  · exact absurd rfl z4
  refine tv_goto (tgt := 1467) X dL_law_496 (by decide) ?_
  refine tv_widen (k0 := cells + 2) (k1 := slots + 12) (by omega) (by omega) ?_
  refine tv_sl (L' := [(0, .ref b), (1, .ref (n0 + 0)), (2, .ref (n0 + 130)), (3, .ref (n0 + 142)), (4, .int (nI (4 * t)))]) [0, 1, 2, 3, 4] rfl ?_
  exact tail S2 n1 h9 k9 hI9
theorem lwc_7 {p : Program} {l : Launch} {e : Env} {s : State} {m : MethodId} {below : List Frame} {meth : Method} {c : Code} {Q : State → Prop} {D : va_G} {n0 cells slots : Nat} {n : Nat} {ft : Nat × Nat × Nat} {S : mS} {b t Ln h k : Nat} {xs : Nat → Int32} (X : tv_X p s m #[Value.ref b] meth c cL_law 9 RL wsL_law D vwCl n0 ft) (hst : l.stackTraces = false) (hX : va_X b Ln xs s s.heap) (hbl : b < s.heap.size) (hbA : ¬ tv_A n0 b) (ht : 4 * t + 4 ≤ Ln) (hL : Ln ≤ 2048) (hI : INV S S h k) (hC : cells + 2 ≤ 601024 ∧ slots + 12 ≤ 7293034) (tail : ∀ (S' : mS) (n' h' k' : Nat), INV S' S' h' k' → tv_V p l e room_1 s m #[Value.ref b] below meth c Q D vwCl n0 (cells + 2) (slots + 12) 9 1467 [(0, .ref b), (1, .ref (n0 + 0)), (2, .ref (n0 + 130)), (3, .ref (n0 + 142)), (4, .int (nI (4 * t)))] [] n' (mH n0 S')) : tv_V p l e room_1 s m #[Value.ref b] below meth c Q D vwCl n0 cells slots 9 499 [(0, .ref b), (1, .ref (n0 + 0)), (2, .ref (n0 + 130)), (3, .ref (n0 + 142)), (4, .int (nI (4 * t)))] [] n (mH n0 S) := by
  refine tv_aload_n X dL_law_499 rfl ?_
  refine mm_callVi (q := (RX9, TX9, 8)) X dL_law_500 (cX9_clearText_ok) (cwV 0 X.2.2.2.2.1 gL_law_X9_clearText rfl rfl rfl (by decide +kernel) ⟨Nat.le_of_ble_eq_true rfl, Nat.le_of_ble_eq_true rfl⟩) rfl rfl gX9 rfl (Nat.le_of_ble_eq_true rfl) ⟨show cells ≤ 601024 by omega, show slots ≤ 7293034 by omega⟩ (fun r1 S1 h1 => ?_)
  obtain ⟨hR, hB⟩ := lc_clearText (x := 0) (y := 0) (v := 0) hI h1
  obtain ⟨p1, p2, p3, p4, p5⟩ := INV_pre hI hR
  refine tv_aload_n X dL_law_503 rfl ?_
  refine mm_callVi (q := (RX10, TX10, 20)) X dL_law_504 (cX10_clearText_ok) (cwV 0 X.2.2.2.2.1 gL_law_X10_clearText rfl rfl rfl (by decide +kernel) ⟨Nat.le_of_ble_eq_true rfl, Nat.le_of_ble_eq_true rfl⟩) rfl rfl gX10 rfl (Nat.le_of_ble_eq_true rfl) ⟨show cells ≤ 601024 by omega, show slots ≤ 7293034 by omega⟩ (fun r2 S2 h2 => ?_)
  obtain ⟨q1, h9, k9, hI9⟩ := hB r2 S2 h2
  refine tv_icmp_eq (tgt := 1467) X dL_law_507 (by decide) (fun z1 => ?_) (fun z1 => ?_)
  rotate_left
  · exact absurd q1 z1
  refine tv_widen (k0 := cells + 2) (k1 := slots + 12) (by omega) (by omega) ?_
  refine tv_sl (L' := [(0, .ref b), (1, .ref (n0 + 0)), (2, .ref (n0 + 130)), (3, .ref (n0 + 142)), (4, .int (nI (4 * t)))]) [0, 1, 2, 3, 4] rfl ?_
  exact tail S2 n h9 k9 hI9
theorem lwc_8 {p : Program} {l : Launch} {e : Env} {s : State} {m : MethodId} {below : List Frame} {meth : Method} {c : Code} {Q : State → Prop} {D : va_G} {n0 cells slots : Nat} {n : Nat} {ft : Nat × Nat × Nat} {S : mS} {b t Ln h k : Nat} {xs : Nat → Int32} (X : tv_X p s m #[Value.ref b] meth c cL_law 9 RL wsL_law D vwCl n0 ft) (hst : l.stackTraces = false) (hX : va_X b Ln xs s s.heap) (hbl : b < s.heap.size) (hbA : ¬ tv_A n0 b) (ht : 4 * t + 4 ≤ Ln) (hL : Ln ≤ 2048) (hI : INV S S h k) (hC : cells + 2 ≤ 601024 ∧ slots + 12 ≤ 7293034) (tail : ∀ (S' : mS) (n' h' k' : Nat), INV S' S' h' k' → tv_V p l e room_1 s m #[Value.ref b] below meth c Q D vwCl n0 (cells + 2) (slots + 12) 9 1467 [(0, .ref b), (1, .ref (n0 + 0)), (2, .ref (n0 + 130)), (3, .ref (n0 + 142)), (4, .int (nI (4 * t)))] [] n' (mH n0 S')) : tv_V p l e room_1 s m #[Value.ref b] below meth c Q D vwCl n0 cells slots 9 512 [(0, .ref b), (1, .ref (n0 + 0)), (2, .ref (n0 + 130)), (3, .ref (n0 + 142)), (4, .int (nI (4 * t)))] [] n (mH n0 S) := by
  refine tv_aload_n X dL_law_512 rfl ?_
  refine mm_callVi (q := (RX9, TX9, 8)) X dL_law_513 (cX9_errorPosition_ok hI.2.2.1.1 hI.2.2.1.2.2.1) (cwV 0 X.2.2.2.2.1 gL_law_X9_errorPosition rfl rfl rfl (by decide +kernel) ⟨Nat.le_of_ble_eq_true rfl, Nat.le_of_ble_eq_true rfl⟩) rfl rfl gX9 rfl (Nat.le_of_ble_eq_true rfl) ⟨show cells ≤ 601024 by omega, show slots ≤ 7293034 by omega⟩ (fun r1 S1 h1 => ?_)
  obtain ⟨hR, hB⟩ := lc_errorPosition (x := 0) (y := 0) (v := 0) hI h1
  obtain ⟨p1, p2, p3, p4, p5⟩ := INV_pre hI hR
  refine tv_aload_n X dL_law_516 rfl ?_
  refine mm_callVi (q := (RX10, TX10, 20)) X dL_law_517 (cX10_errorPosition_ok p3 p4) (cwV 0 X.2.2.2.2.1 gL_law_X10_errorPosition rfl rfl rfl (by decide +kernel) ⟨Nat.le_of_ble_eq_true rfl, Nat.le_of_ble_eq_true rfl⟩) rfl rfl gX10 rfl (Nat.le_of_ble_eq_true rfl) ⟨show cells ≤ 601024 by omega, show slots ≤ 7293034 by omega⟩ (fun r2 S2 h2 => ?_)
  obtain ⟨q1, h9, k9, hI9⟩ := hB r2 S2 h2
  refine tv_icmp_eq (tgt := 1467) X dL_law_520 (by decide) (fun z1 => ?_) (fun z1 => ?_)
  rotate_left
  · exact absurd q1 z1
  refine tv_widen (k0 := cells + 2) (k1 := slots + 12) (by omega) (by omega) ?_
  refine tv_sl (L' := [(0, .ref b), (1, .ref (n0 + 0)), (2, .ref (n0 + 130)), (3, .ref (n0 + 142)), (4, .int (nI (4 * t)))]) [0, 1, 2, 3, 4] rfl ?_
  exact tail S2 n h9 k9 hI9
theorem lwc_9 {p : Program} {l : Launch} {e : Env} {s : State} {m : MethodId} {below : List Frame} {meth : Method} {c : Code} {Q : State → Prop} {D : va_G} {n0 cells slots : Nat} {n : Nat} {ft : Nat × Nat × Nat} {S : mS} {b t Ln h k : Nat} {xs : Nat → Int32} (X : tv_X p s m #[Value.ref b] meth c cL_law 9 RL wsL_law D vwCl n0 ft) (hst : l.stackTraces = false) (hX : va_X b Ln xs s s.heap) (hbl : b < s.heap.size) (hbA : ¬ tv_A n0 b) (ht : 4 * t + 4 ≤ Ln) (hL : Ln ≤ 2048) (hI : INV S S h k) (hC : cells + 2 ≤ 601024 ∧ slots + 12 ≤ 7293034) (tail : ∀ (S' : mS) (n' h' k' : Nat), INV S' S' h' k' → tv_V p l e room_1 s m #[Value.ref b] below meth c Q D vwCl n0 (cells + 2) (slots + 12) 9 1467 [(0, .ref b), (1, .ref (n0 + 0)), (2, .ref (n0 + 130)), (3, .ref (n0 + 142)), (4, .int (nI (4 * t)))] [] n' (mH n0 S')) : tv_V p l e room_1 s m #[Value.ref b] below meth c Q D vwCl n0 cells slots 9 525 [(0, .ref b), (1, .ref (n0 + 0)), (2, .ref (n0 + 130)), (3, .ref (n0 + 142)), (4, .int (nI (4 * t)))] [] n (mH n0 S) := by
  refine tv_aload_n X dL_law_525 rfl ?_
  refine tv_aload_n X dL_law_526 rfl ?_
  refine tl_callH X dL_law_527 (cL_runText_ok (cX9_runText_ok hst hI.1 hI.2.1.1 hI.2.1.2.1 (INV_trok hI) hI.2.2.1.1 hI.2.2.1.2.2.1) (fun E S1 hp => hp.2.1)) (vx_cwSW 2 X.2.2.2.2.1 gL_law_L_runText rfl rfl rfl (by decide +kernel) ⟨Nat.le_of_ble_eq_true rfl, Nat.le_of_ble_eq_true rfl⟩) rfl rfl (Nat.le_of_ble_eq_true rfl) ⟨show cells + 1 ≤ 601024 by omega, show slots + 6 ≤ 7293034 by omega⟩ (fun r1 S1 n1 hn1 h1 => ?_)
  obtain ⟨hR, hv, hB⟩ := lc_runText (x := 0) (y := 0) (v := 0) hI h1
  obtain ⟨p1, p2, p3, p4, p5⟩ := INV_pre hI hR
  refine tv_istore X dL_law_530 rfl ?_
  refine tv_aload_n X dL_law_532 rfl ?_
  refine mm_callVi (q := (RX10, TX10, 20)) X dL_law_533 (cX10_runText_ok p1 p2 p3 p4 p5 hv) (cwV 0 X.2.2.2.2.1 gL_law_X10_runText rfl rfl rfl (by decide +kernel) ⟨Nat.le_of_ble_eq_true rfl, Nat.le_of_ble_eq_true rfl⟩) rfl rfl gX10 rfl (Nat.le_of_ble_eq_true rfl) ⟨show cells + 1 ≤ 601024 by omega, show slots + 6 ≤ 7293034 by omega⟩ (fun r2 S2 h2 => ?_)
  obtain ⟨q1, q2, h9, k9, hI9⟩ := hB r2 S2 h2
  refine tv_istore X dL_law_536 rfl ?_
  refine tv_aload_n X dL_law_538 rfl ?_
  refine mm_callVi (q := (RX10, TX10, 20)) X dL_law_539 cX10_thrown_ok (cwV 0 X.2.2.2.2.1 gL_law_X10_thrown rfl rfl rfl (by decide +kernel) ⟨Nat.le_of_ble_eq_true rfl, Nat.le_of_ble_eq_true rfl⟩) rfl rfl gX10 rfl (Nat.le_of_ble_eq_true rfl) ⟨show cells + 1 ≤ 601024 by omega, show slots + 6 ≤ 7293034 by omega⟩ (fun r3 S3 h3 => ?_)
  obtain ⟨e3, e4⟩ := h3
  rw [e3, e4, q1]
  refine tv_iload X dL_law_542 rfl ?_
  refine tv_icmp_eq (tgt := 549) X dL_law_544 (by decide) (fun z1 => ?_) (fun z1 => ?_)
  rotate_left
  · exact absurd rfl z1
  refine tv_iload X dL_law_549 rfl ?_
  refine tv_if_ne (tgt := 566) X dL_law_551 (by decide) (fun z2 => ?_) (fun z2 => ?_)
  · refine tv_goto (tgt := 1467) X dL_law_566 (by decide) ?_
    refine tv_widen (k0 := cells + 2) (k1 := slots + 12) (by omega) (by omega) ?_
    refine tv_sl (L' := [(0, .ref b), (1, .ref (n0 + 0)), (2, .ref (n0 + 130)), (3, .ref (n0 + 142)), (4, .int (nI (4 * t)))]) [0, 1, 2, 3, 4] rfl ?_
    exact tail S2 n1 h9 k9 hI9
  have z3 := q2 z2
  refine tv_aload_n X dL_law_554 rfl ?_
  refine tv_iconst (v := 0) X dL_law_555 (by decide) ?_
  refine mm_lald X dL_law_556 ?_
  refine tv_iload X dL_law_557 rfl ?_
  refine tv_i2l X dL_law_559 ?_
  rw [z3]
  refine tv_lcmpE X dL_law_560 ?_
  refine tv_if_eq (tgt := 566) X dL_law_561 (by decide) (fun z4 => ?_) (fun z4 => ?_)
  rotate_left
  · exact absurd rfl z4
  refine tv_goto (tgt := 1467) X dL_law_566 (by decide) ?_
  refine tv_widen (k0 := cells + 2) (k1 := slots + 12) (by omega) (by omega) ?_
  refine tv_sl (L' := [(0, .ref b), (1, .ref (n0 + 0)), (2, .ref (n0 + 130)), (3, .ref (n0 + 142)), (4, .int (nI (4 * t)))]) [0, 1, 2, 3, 4] rfl ?_
  exact tail S2 n1 h9 k9 hI9
theorem lwc_10 {p : Program} {l : Launch} {e : Env} {s : State} {m : MethodId} {below : List Frame} {meth : Method} {c : Code} {Q : State → Prop} {D : va_G} {n0 cells slots : Nat} {n : Nat} {ft : Nat × Nat × Nat} {S : mS} {b t Ln h k : Nat} {xs : Nat → Int32} (X : tv_X p s m #[Value.ref b] meth c cL_law 9 RL wsL_law D vwCl n0 ft) (hst : l.stackTraces = false) (hX : va_X b Ln xs s s.heap) (hbl : b < s.heap.size) (hbA : ¬ tv_A n0 b) (ht : 4 * t + 4 ≤ Ln) (hL : Ln ≤ 2048) (hI : INV S S h k) (hC : cells + 2 ≤ 601024 ∧ slots + 12 ≤ 7293034) (tail : ∀ (S' : mS) (n' h' k' : Nat), INV S' S' h' k' → tv_V p l e room_1 s m #[Value.ref b] below meth c Q D vwCl n0 (cells + 2) (slots + 12) 9 1467 [(0, .ref b), (1, .ref (n0 + 0)), (2, .ref (n0 + 130)), (3, .ref (n0 + 142)), (4, .int (nI (4 * t)))] [] n' (mH n0 S')) : tv_V p l e room_1 s m #[Value.ref b] below meth c Q D vwCl n0 cells slots 9 569 [(0, .ref b), (1, .ref (n0 + 0)), (2, .ref (n0 + 130)), (3, .ref (n0 + 142)), (4, .int (nI (4 * t)))] [] n (mH n0 S) := by
  refine tv_aload_n X dL_law_569 rfl ?_
  refine tv_aload_n X dL_law_570 rfl ?_
  refine tl_callH X dL_law_571 (cL_undo_ok (cX9_undo_ok hst hI.1 hI.2.1.1 hI.2.1.2.1 (fun h0 => INV_trs hI h0)) (fun E S1 hp => hp.2.1)) (vx_cwSW 2 X.2.2.2.2.1 gL_law_L_undo rfl rfl rfl (by decide +kernel) ⟨Nat.le_of_ble_eq_true rfl, Nat.le_of_ble_eq_true rfl⟩) rfl rfl (Nat.le_of_ble_eq_true rfl) ⟨show cells + 1 ≤ 601024 by omega, show slots + 6 ≤ 7293034 by omega⟩ (fun r1 S1 n1 hn1 h1 => ?_)
  obtain ⟨hR, hB⟩ := lc_undo (x := 0) (y := 0) (v := 0) hI h1
  obtain ⟨p1, p2, p3, p4, p5⟩ := INV_pre hI hR
  refine tv_istore X dL_law_574 rfl ?_
  refine tv_aload_n X dL_law_576 rfl ?_
  refine mm_callVi (q := (RX10, TX10, 20)) X dL_law_577 (cX10_undo_ok p1 p2) (cwV 0 X.2.2.2.2.1 gL_law_X10_undo rfl rfl rfl (by decide +kernel) ⟨Nat.le_of_ble_eq_true rfl, Nat.le_of_ble_eq_true rfl⟩) rfl rfl gX10 rfl (Nat.le_of_ble_eq_true rfl) ⟨show cells + 1 ≤ 601024 by omega, show slots + 6 ≤ 7293034 by omega⟩ (fun r2 S2 h2 => ?_)
  obtain ⟨q1, q2, h9, k9, hI9⟩ := hB r2 S2 h2
  refine tv_istore X dL_law_580 rfl ?_
  refine tv_aload_n X dL_law_582 rfl ?_
  refine mm_callVi (q := (RX10, TX10, 20)) X dL_law_583 cX10_thrown_ok (cwV 0 X.2.2.2.2.1 gL_law_X10_thrown rfl rfl rfl (by decide +kernel) ⟨Nat.le_of_ble_eq_true rfl, Nat.le_of_ble_eq_true rfl⟩) rfl rfl gX10 rfl (Nat.le_of_ble_eq_true rfl) ⟨show cells + 1 ≤ 601024 by omega, show slots + 6 ≤ 7293034 by omega⟩ (fun r3 S3 h3 => ?_)
  obtain ⟨e3, e4⟩ := h3
  rw [e3, e4, q1]
  refine tv_iload X dL_law_586 rfl ?_
  refine tv_icmp_eq (tgt := 593) X dL_law_588 (by decide) (fun z1 => ?_) (fun z1 => ?_)
  rotate_left
  · exact absurd rfl z1
  refine tv_iload X dL_law_593 rfl ?_
  refine tv_if_ne (tgt := 610) X dL_law_595 (by decide) (fun z2 => ?_) (fun z2 => ?_)
  · refine tv_goto (tgt := 1467) X dL_law_610 (by decide) ?_
    refine tv_widen (k0 := cells + 2) (k1 := slots + 12) (by omega) (by omega) ?_
    refine tv_sl (L' := [(0, .ref b), (1, .ref (n0 + 0)), (2, .ref (n0 + 130)), (3, .ref (n0 + 142)), (4, .int (nI (4 * t)))]) [0, 1, 2, 3, 4] rfl ?_
    exact tail S2 n1 h9 k9 hI9
  have z3 := q2 z2
  refine tv_aload_n X dL_law_598 rfl ?_
  refine tv_iconst (v := 0) X dL_law_599 (by decide) ?_
  refine mm_lald X dL_law_600 ?_
  refine tv_iload X dL_law_601 rfl ?_
  refine tv_i2l X dL_law_603 ?_
  rw [z3]
  refine tv_lcmpE X dL_law_604 ?_
  refine tv_if_eq (tgt := 610) X dL_law_605 (by decide) (fun z4 => ?_) (fun z4 => ?_)
  rotate_left
  · exact absurd rfl z4
  refine tv_goto (tgt := 1467) X dL_law_610 (by decide) ?_
  refine tv_widen (k0 := cells + 2) (k1 := slots + 12) (by omega) (by omega) ?_
  refine tv_sl (L' := [(0, .ref b), (1, .ref (n0 + 0)), (2, .ref (n0 + 130)), (3, .ref (n0 + 142)), (4, .int (nI (4 * t)))]) [0, 1, 2, 3, 4] rfl ?_
  exact tail S2 n1 h9 k9 hI9
theorem lwc_11 {p : Program} {l : Launch} {e : Env} {s : State} {m : MethodId} {below : List Frame} {meth : Method} {c : Code} {Q : State → Prop} {D : va_G} {n0 cells slots : Nat} {n : Nat} {ft : Nat × Nat × Nat} {S : mS} {b t Ln h k : Nat} {xs : Nat → Int32} (X : tv_X p s m #[Value.ref b] meth c cL_law 9 RL wsL_law D vwCl n0 ft) (hst : l.stackTraces = false) (hX : va_X b Ln xs s s.heap) (hbl : b < s.heap.size) (hbA : ¬ tv_A n0 b) (ht : 4 * t + 4 ≤ Ln) (hL : Ln ≤ 2048) (hI : INV S S h k) (hC : cells + 2 ≤ 601024 ∧ slots + 12 ≤ 7293034) (tail : ∀ (S' : mS) (n' h' k' : Nat), INV S' S' h' k' → tv_V p l e room_1 s m #[Value.ref b] below meth c Q D vwCl n0 (cells + 2) (slots + 12) 9 1467 [(0, .ref b), (1, .ref (n0 + 0)), (2, .ref (n0 + 130)), (3, .ref (n0 + 142)), (4, .int (nI (4 * t)))] [] n' (mH n0 S')) : tv_V p l e room_1 s m #[Value.ref b] below meth c Q D vwCl n0 cells slots 9 613 [(0, .ref b), (1, .ref (n0 + 0)), (2, .ref (n0 + 130)), (3, .ref (n0 + 142)), (4, .int (nI (4 * t)))] [] n (mH n0 S) := by
  refine tv_aload_n X dL_law_613 rfl ?_
  refine tl_arg X hX hbl hbA 1 (by decide) ht hL (by decide) dL_law_614 dL_law_615 dL_law_617 dL_law_618 dL_law_619 rfl rfl ?_
  refine tl_arg X hX hbl hbA 2 (by decide) ht hL (by decide) dL_law_620 dL_law_621 dL_law_623 dL_law_624 dL_law_625 rfl rfl ?_
  refine tv_aload_n X dL_law_626 rfl ?_
  refine tl_callH X dL_law_627 (cL_raw_ok (cX9_raw_ok hst (xs (4 * t + 1)) (xs (4 * t + 2))) (fun E S1 hp => hp.2.1)) (vx_cwSW 4 X.2.2.2.2.1 gL_law_L_raw rfl rfl rfl (by decide +kernel) ⟨Nat.le_of_ble_eq_true rfl, Nat.le_of_ble_eq_true rfl⟩) rfl rfl (Nat.le_of_ble_eq_true rfl) ⟨show cells + 1 ≤ 601024 by omega, show slots + 6 ≤ 7293034 by omega⟩ (fun r1 S1 n1 hn1 h1 => ?_)
  obtain ⟨hR, hB⟩ := lc_raw (x := (xs (4 * t + 1))) (y := (xs (4 * t + 2))) (v := 0) hI h1
  obtain ⟨p1, p2, p3, p4, p5⟩ := INV_pre hI hR
  refine tv_istore X dL_law_630 rfl ?_
  refine tv_aload_n X dL_law_632 rfl ?_
  refine tl_arg X hX hbl hbA 1 (by decide) ht hL (by decide) dL_law_633 dL_law_634 dL_law_636 dL_law_637 dL_law_638 rfl rfl ?_
  refine tl_arg X hX hbl hbA 2 (by decide) ht hL (by decide) dL_law_639 dL_law_640 dL_law_642 dL_law_643 dL_law_644 rfl rfl ?_
  refine mm_callVi (q := (RX10, TX10, 20)) X dL_law_645 (cX10_raw_ok (xs (4 * t + 1)) (xs (4 * t + 2))) (cwV 2 X.2.2.2.2.1 gL_law_X10_raw rfl rfl rfl (by decide +kernel) ⟨Nat.le_of_ble_eq_true rfl, Nat.le_of_ble_eq_true rfl⟩) rfl rfl gX10 rfl (Nat.le_of_ble_eq_true rfl) ⟨show cells + 1 ≤ 601024 by omega, show slots + 6 ≤ 7293034 by omega⟩ (fun r2 S2 h2 => ?_)
  obtain ⟨q1, q2, h9, k9, hI9⟩ := hB r2 S2 h2
  refine tv_istore X dL_law_648 rfl ?_
  refine tv_aload_n X dL_law_650 rfl ?_
  refine mm_callVi (q := (RX10, TX10, 20)) X dL_law_651 cX10_thrown_ok (cwV 0 X.2.2.2.2.1 gL_law_X10_thrown rfl rfl rfl (by decide +kernel) ⟨Nat.le_of_ble_eq_true rfl, Nat.le_of_ble_eq_true rfl⟩) rfl rfl gX10 rfl (Nat.le_of_ble_eq_true rfl) ⟨show cells + 1 ≤ 601024 by omega, show slots + 6 ≤ 7293034 by omega⟩ (fun r3 S3 h3 => ?_)
  obtain ⟨e3, e4⟩ := h3
  rw [e3, e4, q1]
  refine tv_iload X dL_law_654 rfl ?_
  refine tv_icmp_eq (tgt := 661) X dL_law_656 (by decide) (fun z1 => ?_) (fun z1 => ?_)
  rotate_left
  · exact absurd rfl z1
  refine tv_iload X dL_law_661 rfl ?_
  refine tv_if_ne (tgt := 678) X dL_law_663 (by decide) (fun z2 => ?_) (fun z2 => ?_)
  · refine tv_goto (tgt := 1467) X dL_law_678 (by decide) ?_
    refine tv_widen (k0 := cells + 2) (k1 := slots + 12) (by omega) (by omega) ?_
    refine tv_sl (L' := [(0, .ref b), (1, .ref (n0 + 0)), (2, .ref (n0 + 130)), (3, .ref (n0 + 142)), (4, .int (nI (4 * t)))]) [0, 1, 2, 3, 4] rfl ?_
    exact tail S2 n1 h9 k9 hI9
  have z3 := q2 z2
  refine tv_aload_n X dL_law_666 rfl ?_
  refine tv_iconst (v := 0) X dL_law_667 (by decide) ?_
  refine mm_lald X dL_law_668 ?_
  refine tv_iload X dL_law_669 rfl ?_
  refine tv_i2l X dL_law_671 ?_
  rw [z3]
  refine tv_lcmpE X dL_law_672 ?_
  refine tv_if_eq (tgt := 678) X dL_law_673 (by decide) (fun z4 => ?_) (fun z4 => ?_)
  rotate_left
  · exact absurd rfl z4
  refine tv_goto (tgt := 1467) X dL_law_678 (by decide) ?_
  refine tv_widen (k0 := cells + 2) (k1 := slots + 12) (by omega) (by omega) ?_
  refine tv_sl (L' := [(0, .ref b), (1, .ref (n0 + 0)), (2, .ref (n0 + 130)), (3, .ref (n0 + 142)), (4, .int (nI (4 * t)))]) [0, 1, 2, 3, 4] rfl ?_
  exact tail S2 n1 h9 k9 hI9
theorem lwc_12 {p : Program} {l : Launch} {e : Env} {s : State} {m : MethodId} {below : List Frame} {meth : Method} {c : Code} {Q : State → Prop} {D : va_G} {n0 cells slots : Nat} {n : Nat} {ft : Nat × Nat × Nat} {S : mS} {b t Ln h k : Nat} {xs : Nat → Int32} (X : tv_X p s m #[Value.ref b] meth c cL_law 9 RL wsL_law D vwCl n0 ft) (hst : l.stackTraces = false) (hX : va_X b Ln xs s s.heap) (hbl : b < s.heap.size) (hbA : ¬ tv_A n0 b) (ht : 4 * t + 4 ≤ Ln) (hL : Ln ≤ 2048) (hI : INV S S h k) (hC : cells + 2 ≤ 601024 ∧ slots + 12 ≤ 7293034) (tail : ∀ (S' : mS) (n' h' k' : Nat), INV S' S' h' k' → tv_V p l e room_1 s m #[Value.ref b] below meth c Q D vwCl n0 (cells + 2) (slots + 12) 9 1467 [(0, .ref b), (1, .ref (n0 + 0)), (2, .ref (n0 + 130)), (3, .ref (n0 + 142)), (4, .int (nI (4 * t)))] [] n' (mH n0 S')) : tv_V p l e room_1 s m #[Value.ref b] below meth c Q D vwCl n0 cells slots 9 681 [(0, .ref b), (1, .ref (n0 + 0)), (2, .ref (n0 + 130)), (3, .ref (n0 + 142)), (4, .int (nI (4 * t)))] [] n (mH n0 S) := by
  refine tv_aload_n X dL_law_681 rfl ?_
  refine tl_arg X hX hbl hbA 1 (by decide) ht hL (by decide) dL_law_682 dL_law_683 dL_law_685 dL_law_686 dL_law_687 rfl rfl ?_
  refine tl_arg X hX hbl hbA 2 (by decide) ht hL (by decide) dL_law_688 dL_law_689 dL_law_691 dL_law_692 dL_law_693 rfl rfl ?_
  refine tv_aload_n X dL_law_694 rfl ?_
  refine tl_callH X dL_law_695 (cL_signal_ok (cX9_signal_ok hst (xs (4 * t + 1)) (xs (4 * t + 2))) (fun E S1 hp => hp.2.1)) (vx_cwSW 4 X.2.2.2.2.1 gL_law_L_signal rfl rfl rfl (by decide +kernel) ⟨Nat.le_of_ble_eq_true rfl, Nat.le_of_ble_eq_true rfl⟩) rfl rfl (Nat.le_of_ble_eq_true rfl) ⟨show cells + 1 ≤ 601024 by omega, show slots + 6 ≤ 7293034 by omega⟩ (fun r1 S1 n1 hn1 h1 => ?_)
  obtain ⟨hR, hB⟩ := lc_signal (x := (xs (4 * t + 1))) (y := (xs (4 * t + 2))) (v := 0) hI h1
  obtain ⟨p1, p2, p3, p4, p5⟩ := INV_pre hI hR
  refine tv_istore X dL_law_698 rfl ?_
  refine tv_aload_n X dL_law_700 rfl ?_
  refine tl_arg X hX hbl hbA 1 (by decide) ht hL (by decide) dL_law_701 dL_law_702 dL_law_704 dL_law_705 dL_law_706 rfl rfl ?_
  refine tl_arg X hX hbl hbA 2 (by decide) ht hL (by decide) dL_law_707 dL_law_708 dL_law_710 dL_law_711 dL_law_712 rfl rfl ?_
  refine mm_callVi (q := (RX10, TX10, 20)) X dL_law_713 (cX10_signal_ok (xs (4 * t + 1)) (xs (4 * t + 2))) (cwV 2 X.2.2.2.2.1 gL_law_X10_signal rfl rfl rfl (by decide +kernel) ⟨Nat.le_of_ble_eq_true rfl, Nat.le_of_ble_eq_true rfl⟩) rfl rfl gX10 rfl (Nat.le_of_ble_eq_true rfl) ⟨show cells + 1 ≤ 601024 by omega, show slots + 6 ≤ 7293034 by omega⟩ (fun r2 S2 h2 => ?_)
  obtain ⟨q1, q2, h9, k9, hI9⟩ := hB r2 S2 h2
  refine tv_istore X dL_law_716 rfl ?_
  refine tv_aload_n X dL_law_718 rfl ?_
  refine mm_callVi (q := (RX10, TX10, 20)) X dL_law_719 cX10_thrown_ok (cwV 0 X.2.2.2.2.1 gL_law_X10_thrown rfl rfl rfl (by decide +kernel) ⟨Nat.le_of_ble_eq_true rfl, Nat.le_of_ble_eq_true rfl⟩) rfl rfl gX10 rfl (Nat.le_of_ble_eq_true rfl) ⟨show cells + 1 ≤ 601024 by omega, show slots + 6 ≤ 7293034 by omega⟩ (fun r3 S3 h3 => ?_)
  obtain ⟨e3, e4⟩ := h3
  rw [e3, e4, q1]
  refine tv_iload X dL_law_722 rfl ?_
  refine tv_icmp_eq (tgt := 729) X dL_law_724 (by decide) (fun z1 => ?_) (fun z1 => ?_)
  rotate_left
  · exact absurd rfl z1
  refine tv_iload X dL_law_729 rfl ?_
  refine tv_if_ne (tgt := 746) X dL_law_731 (by decide) (fun z2 => ?_) (fun z2 => ?_)
  · refine tv_goto (tgt := 1467) X dL_law_746 (by decide) ?_
    refine tv_widen (k0 := cells + 2) (k1 := slots + 12) (by omega) (by omega) ?_
    refine tv_sl (L' := [(0, .ref b), (1, .ref (n0 + 0)), (2, .ref (n0 + 130)), (3, .ref (n0 + 142)), (4, .int (nI (4 * t)))]) [0, 1, 2, 3, 4] rfl ?_
    exact tail S2 n1 h9 k9 hI9
  have z3 := q2 z2
  refine tv_aload_n X dL_law_734 rfl ?_
  refine tv_iconst (v := 0) X dL_law_735 (by decide) ?_
  refine mm_lald X dL_law_736 ?_
  refine tv_iload X dL_law_737 rfl ?_
  refine tv_i2l X dL_law_739 ?_
  rw [z3]
  refine tv_lcmpE X dL_law_740 ?_
  refine tv_if_eq (tgt := 746) X dL_law_741 (by decide) (fun z4 => ?_) (fun z4 => ?_)
  rotate_left
  · exact absurd rfl z4
  refine tv_goto (tgt := 1467) X dL_law_746 (by decide) ?_
  refine tv_widen (k0 := cells + 2) (k1 := slots + 12) (by omega) (by omega) ?_
  refine tv_sl (L' := [(0, .ref b), (1, .ref (n0 + 0)), (2, .ref (n0 + 130)), (3, .ref (n0 + 142)), (4, .int (nI (4 * t)))]) [0, 1, 2, 3, 4] rfl ?_
  exact tail S2 n1 h9 k9 hI9
theorem lwc_13 {p : Program} {l : Launch} {e : Env} {s : State} {m : MethodId} {below : List Frame} {meth : Method} {c : Code} {Q : State → Prop} {D : va_G} {n0 cells slots : Nat} {n : Nat} {ft : Nat × Nat × Nat} {S : mS} {b t Ln h k : Nat} {xs : Nat → Int32} (X : tv_X p s m #[Value.ref b] meth c cL_law 9 RL wsL_law D vwCl n0 ft) (hst : l.stackTraces = false) (hX : va_X b Ln xs s s.heap) (hbl : b < s.heap.size) (hbA : ¬ tv_A n0 b) (ht : 4 * t + 4 ≤ Ln) (hL : Ln ≤ 2048) (hI : INV S S h k) (hC : cells + 2 ≤ 601024 ∧ slots + 12 ≤ 7293034) (tail : ∀ (S' : mS) (n' h' k' : Nat), INV S' S' h' k' → tv_V p l e room_1 s m #[Value.ref b] below meth c Q D vwCl n0 (cells + 2) (slots + 12) 9 1467 [(0, .ref b), (1, .ref (n0 + 0)), (2, .ref (n0 + 130)), (3, .ref (n0 + 142)), (4, .int (nI (4 * t)))] [] n' (mH n0 S')) : tv_V p l e room_1 s m #[Value.ref b] below meth c Q D vwCl n0 cells slots 9 749 [(0, .ref b), (1, .ref (n0 + 0)), (2, .ref (n0 + 130)), (3, .ref (n0 + 142)), (4, .int (nI (4 * t)))] [] n (mH n0 S) := by
  refine tv_aload_n X dL_law_749 rfl ?_
  refine tl_arg X hX hbl hbA 1 (by decide) ht hL (by decide) dL_law_750 dL_law_751 dL_law_753 dL_law_754 dL_law_755 rfl rfl ?_
  refine tl_arg X hX hbl hbA 2 (by decide) ht hL (by decide) dL_law_756 dL_law_757 dL_law_759 dL_law_760 dL_law_761 rfl rfl ?_
  refine tv_aload_n X dL_law_762 rfl ?_
  refine tl_callH X dL_law_763 (cL_regionSize_ok (cX9_regionSize_ok hst (xs (4 * t + 1)) (xs (4 * t + 2))) (fun E S1 hp => hp.2.1)) (vx_cwSW 4 X.2.2.2.2.1 gL_law_L_regionSize rfl rfl rfl (by decide +kernel) ⟨Nat.le_of_ble_eq_true rfl, Nat.le_of_ble_eq_true rfl⟩) rfl rfl (Nat.le_of_ble_eq_true rfl) ⟨show cells + 1 ≤ 601024 by omega, show slots + 6 ≤ 7293034 by omega⟩ (fun r1 S1 n1 hn1 h1 => ?_)
  obtain ⟨hR, hB⟩ := lc_regionSize (x := (xs (4 * t + 1))) (y := (xs (4 * t + 2))) (v := 0) hI h1
  obtain ⟨p1, p2, p3, p4, p5⟩ := INV_pre hI hR
  refine tv_istore X dL_law_766 rfl ?_
  refine tv_aload_n X dL_law_768 rfl ?_
  refine tl_arg X hX hbl hbA 1 (by decide) ht hL (by decide) dL_law_769 dL_law_770 dL_law_772 dL_law_773 dL_law_774 rfl rfl ?_
  refine tl_arg X hX hbl hbA 2 (by decide) ht hL (by decide) dL_law_775 dL_law_776 dL_law_778 dL_law_779 dL_law_780 rfl rfl ?_
  refine mm_callVi (q := (RX10, TX10, 20)) X dL_law_781 (cX10_regionSize_ok (xs (4 * t + 1)) (xs (4 * t + 2))) (cwV 2 X.2.2.2.2.1 gL_law_X10_regionSize rfl rfl rfl (by decide +kernel) ⟨Nat.le_of_ble_eq_true rfl, Nat.le_of_ble_eq_true rfl⟩) rfl rfl gX10 rfl (Nat.le_of_ble_eq_true rfl) ⟨show cells + 1 ≤ 601024 by omega, show slots + 6 ≤ 7293034 by omega⟩ (fun r2 S2 h2 => ?_)
  obtain ⟨q1, q2, h9, k9, hI9⟩ := hB r2 S2 h2
  refine tv_istore X dL_law_784 rfl ?_
  refine tv_aload_n X dL_law_786 rfl ?_
  refine mm_callVi (q := (RX10, TX10, 20)) X dL_law_787 cX10_thrown_ok (cwV 0 X.2.2.2.2.1 gL_law_X10_thrown rfl rfl rfl (by decide +kernel) ⟨Nat.le_of_ble_eq_true rfl, Nat.le_of_ble_eq_true rfl⟩) rfl rfl gX10 rfl (Nat.le_of_ble_eq_true rfl) ⟨show cells + 1 ≤ 601024 by omega, show slots + 6 ≤ 7293034 by omega⟩ (fun r3 S3 h3 => ?_)
  obtain ⟨e3, e4⟩ := h3
  rw [e3, e4, q1]
  refine tv_iload X dL_law_790 rfl ?_
  refine tv_icmp_eq (tgt := 797) X dL_law_792 (by decide) (fun z1 => ?_) (fun z1 => ?_)
  rotate_left
  · exact absurd rfl z1
  refine tv_iload X dL_law_797 rfl ?_
  refine tv_if_ne (tgt := 814) X dL_law_799 (by decide) (fun z2 => ?_) (fun z2 => ?_)
  · refine tv_goto (tgt := 1467) X dL_law_814 (by decide) ?_
    refine tv_widen (k0 := cells + 2) (k1 := slots + 12) (by omega) (by omega) ?_
    refine tv_sl (L' := [(0, .ref b), (1, .ref (n0 + 0)), (2, .ref (n0 + 130)), (3, .ref (n0 + 142)), (4, .int (nI (4 * t)))]) [0, 1, 2, 3, 4] rfl ?_
    exact tail S2 n1 h9 k9 hI9
  have z3 := q2 z2
  refine tv_aload_n X dL_law_802 rfl ?_
  refine tv_iconst (v := 0) X dL_law_803 (by decide) ?_
  refine mm_lald X dL_law_804 ?_
  refine tv_iload X dL_law_805 rfl ?_
  refine tv_i2l X dL_law_807 ?_
  rw [z3]
  refine tv_lcmpE X dL_law_808 ?_
  refine tv_if_eq (tgt := 814) X dL_law_809 (by decide) (fun z4 => ?_) (fun z4 => ?_)
  rotate_left
  · exact absurd rfl z4
  refine tv_goto (tgt := 1467) X dL_law_814 (by decide) ?_
  refine tv_widen (k0 := cells + 2) (k1 := slots + 12) (by omega) (by omega) ?_
  refine tv_sl (L' := [(0, .ref b), (1, .ref (n0 + 0)), (2, .ref (n0 + 130)), (3, .ref (n0 + 142)), (4, .int (nI (4 * t)))]) [0, 1, 2, 3, 4] rfl ?_
  exact tail S2 n1 h9 k9 hI9
theorem lwc_14 {p : Program} {l : Launch} {e : Env} {s : State} {m : MethodId} {below : List Frame} {meth : Method} {c : Code} {Q : State → Prop} {D : va_G} {n0 cells slots : Nat} {n : Nat} {ft : Nat × Nat × Nat} {S : mS} {b t Ln h k : Nat} {xs : Nat → Int32} (X : tv_X p s m #[Value.ref b] meth c cL_law 9 RL wsL_law D vwCl n0 ft) (hst : l.stackTraces = false) (hX : va_X b Ln xs s s.heap) (hbl : b < s.heap.size) (hbA : ¬ tv_A n0 b) (ht : 4 * t + 4 ≤ Ln) (hL : Ln ≤ 2048) (hI : INV S S h k) (hC : cells + 2 ≤ 601024 ∧ slots + 12 ≤ 7293034) (tail : ∀ (S' : mS) (n' h' k' : Nat), INV S' S' h' k' → tv_V p l e room_1 s m #[Value.ref b] below meth c Q D vwCl n0 (cells + 2) (slots + 12) 9 1467 [(0, .ref b), (1, .ref (n0 + 0)), (2, .ref (n0 + 130)), (3, .ref (n0 + 142)), (4, .int (nI (4 * t)))] [] n' (mH n0 S')) : tv_V p l e room_1 s m #[Value.ref b] below meth c Q D vwCl n0 cells slots 9 817 [(0, .ref b), (1, .ref (n0 + 0)), (2, .ref (n0 + 130)), (3, .ref (n0 + 142)), (4, .int (nI (4 * t)))] [] n (mH n0 S) := by
  refine tv_aload_n X dL_law_817 rfl ?_
  refine tl_arg X hX hbl hbA 1 (by decide) ht hL (by decide) dL_law_818 dL_law_819 dL_law_821 dL_law_822 dL_law_823 rfl rfl ?_
  refine tl_arg X hX hbl hbA 2 (by decide) ht hL (by decide) dL_law_824 dL_law_825 dL_law_827 dL_law_828 dL_law_829 rfl rfl ?_
  refine tv_aload_n X dL_law_830 rfl ?_
  refine tl_callH X dL_law_831 (cL_regionKind_ok (cX9_regionKind_ok hst (xs (4 * t + 1)) (xs (4 * t + 2))) (fun E S1 hp => hp.2.1)) (vx_cwSW 4 X.2.2.2.2.1 gL_law_L_regionKind rfl rfl rfl (by decide +kernel) ⟨Nat.le_of_ble_eq_true rfl, Nat.le_of_ble_eq_true rfl⟩) rfl rfl (Nat.le_of_ble_eq_true rfl) ⟨show cells + 1 ≤ 601024 by omega, show slots + 6 ≤ 7293034 by omega⟩ (fun r1 S1 n1 hn1 h1 => ?_)
  obtain ⟨hR, hB⟩ := lc_regionKind (x := (xs (4 * t + 1))) (y := (xs (4 * t + 2))) (v := 0) hI h1
  obtain ⟨p1, p2, p3, p4, p5⟩ := INV_pre hI hR
  refine tv_istore X dL_law_834 rfl ?_
  refine tv_aload_n X dL_law_836 rfl ?_
  refine tl_arg X hX hbl hbA 1 (by decide) ht hL (by decide) dL_law_837 dL_law_838 dL_law_840 dL_law_841 dL_law_842 rfl rfl ?_
  refine tl_arg X hX hbl hbA 2 (by decide) ht hL (by decide) dL_law_843 dL_law_844 dL_law_846 dL_law_847 dL_law_848 rfl rfl ?_
  refine mm_callVi (q := (RX10, TX10, 20)) X dL_law_849 (cX10_regionKind_ok (xs (4 * t + 1)) (xs (4 * t + 2))) (cwV 2 X.2.2.2.2.1 gL_law_X10_regionKind rfl rfl rfl (by decide +kernel) ⟨Nat.le_of_ble_eq_true rfl, Nat.le_of_ble_eq_true rfl⟩) rfl rfl gX10 rfl (Nat.le_of_ble_eq_true rfl) ⟨show cells + 1 ≤ 601024 by omega, show slots + 6 ≤ 7293034 by omega⟩ (fun r2 S2 h2 => ?_)
  obtain ⟨q1, q2, h9, k9, hI9⟩ := hB r2 S2 h2
  refine tv_istore X dL_law_852 rfl ?_
  refine tv_aload_n X dL_law_854 rfl ?_
  refine mm_callVi (q := (RX10, TX10, 20)) X dL_law_855 cX10_thrown_ok (cwV 0 X.2.2.2.2.1 gL_law_X10_thrown rfl rfl rfl (by decide +kernel) ⟨Nat.le_of_ble_eq_true rfl, Nat.le_of_ble_eq_true rfl⟩) rfl rfl gX10 rfl (Nat.le_of_ble_eq_true rfl) ⟨show cells + 1 ≤ 601024 by omega, show slots + 6 ≤ 7293034 by omega⟩ (fun r3 S3 h3 => ?_)
  obtain ⟨e3, e4⟩ := h3
  rw [e3, e4, q1]
  refine tv_iload X dL_law_858 rfl ?_
  refine tv_icmp_eq (tgt := 865) X dL_law_860 (by decide) (fun z1 => ?_) (fun z1 => ?_)
  rotate_left
  · exact absurd rfl z1
  refine tv_iload X dL_law_865 rfl ?_
  refine tv_if_ne (tgt := 882) X dL_law_867 (by decide) (fun z2 => ?_) (fun z2 => ?_)
  · refine tv_goto (tgt := 1467) X dL_law_882 (by decide) ?_
    refine tv_widen (k0 := cells + 2) (k1 := slots + 12) (by omega) (by omega) ?_
    refine tv_sl (L' := [(0, .ref b), (1, .ref (n0 + 0)), (2, .ref (n0 + 130)), (3, .ref (n0 + 142)), (4, .int (nI (4 * t)))]) [0, 1, 2, 3, 4] rfl ?_
    exact tail S2 n1 h9 k9 hI9
  have z3 := q2 z2
  refine tv_aload_n X dL_law_870 rfl ?_
  refine tv_iconst (v := 0) X dL_law_871 (by decide) ?_
  refine mm_lald X dL_law_872 ?_
  refine tv_iload X dL_law_873 rfl ?_
  refine tv_i2l X dL_law_875 ?_
  rw [z3]
  refine tv_lcmpE X dL_law_876 ?_
  refine tv_if_eq (tgt := 882) X dL_law_877 (by decide) (fun z4 => ?_) (fun z4 => ?_)
  rotate_left
  · exact absurd rfl z4
  refine tv_goto (tgt := 1467) X dL_law_882 (by decide) ?_
  refine tv_widen (k0 := cells + 2) (k1 := slots + 12) (by omega) (by omega) ?_
  refine tv_sl (L' := [(0, .ref b), (1, .ref (n0 + 0)), (2, .ref (n0 + 130)), (3, .ref (n0 + 142)), (4, .int (nI (4 * t)))]) [0, 1, 2, 3, 4] rfl ?_
  exact tail S2 n1 h9 k9 hI9
theorem lwc_15 {p : Program} {l : Launch} {e : Env} {s : State} {m : MethodId} {below : List Frame} {meth : Method} {c : Code} {Q : State → Prop} {D : va_G} {n0 cells slots : Nat} {n : Nat} {ft : Nat × Nat × Nat} {S : mS} {b t Ln h k : Nat} {xs : Nat → Int32} (X : tv_X p s m #[Value.ref b] meth c cL_law 9 RL wsL_law D vwCl n0 ft) (hst : l.stackTraces = false) (hX : va_X b Ln xs s s.heap) (hbl : b < s.heap.size) (hbA : ¬ tv_A n0 b) (ht : 4 * t + 4 ≤ Ln) (hL : Ln ≤ 2048) (hI : INV S S h k) (hC : cells + 2 ≤ 601024 ∧ slots + 12 ≤ 7293034) (tail : ∀ (S' : mS) (n' h' k' : Nat), INV S' S' h' k' → tv_V p l e room_1 s m #[Value.ref b] below meth c Q D vwCl n0 (cells + 2) (slots + 12) 9 1467 [(0, .ref b), (1, .ref (n0 + 0)), (2, .ref (n0 + 130)), (3, .ref (n0 + 142)), (4, .int (nI (4 * t)))] [] n' (mH n0 S')) : tv_V p l e room_1 s m #[Value.ref b] below meth c Q D vwCl n0 cells slots 9 885 [(0, .ref b), (1, .ref (n0 + 0)), (2, .ref (n0 + 130)), (3, .ref (n0 + 142)), (4, .int (nI (4 * t)))] [] n (mH n0 S) := by
  refine tv_aload_n X dL_law_885 rfl ?_
  refine tl_arg X hX hbl hbA 1 (by decide) ht hL (by decide) dL_law_886 dL_law_887 dL_law_889 dL_law_890 dL_law_891 rfl rfl ?_
  refine tv_aload_n X dL_law_892 rfl ?_
  refine tl_callH X dL_law_893 (cL_regions_ok (cX9_regions_ok hst (xs (4 * t + 1))) (fun E S1 hp => hp.2.1)) (vx_cwSW 3 X.2.2.2.2.1 gL_law_L_regions rfl rfl rfl (by decide +kernel) ⟨Nat.le_of_ble_eq_true rfl, Nat.le_of_ble_eq_true rfl⟩) rfl rfl (Nat.le_of_ble_eq_true rfl) ⟨show cells + 1 ≤ 601024 by omega, show slots + 6 ≤ 7293034 by omega⟩ (fun r1 S1 n1 hn1 h1 => ?_)
  obtain ⟨hR, hB⟩ := lc_regions (x := 0) (y := 0) (v := (xs (4 * t + 1))) hI h1
  obtain ⟨p1, p2, p3, p4, p5⟩ := INV_pre hI hR
  refine tv_istore X dL_law_896 rfl ?_
  refine tv_aload_n X dL_law_898 rfl ?_
  refine tl_arg X hX hbl hbA 1 (by decide) ht hL (by decide) dL_law_899 dL_law_900 dL_law_902 dL_law_903 dL_law_904 rfl rfl ?_
  refine mm_callVi (q := (RX10, TX10, 20)) X dL_law_905 (cX10_regions_ok (xs (4 * t + 1))) (cwV 1 X.2.2.2.2.1 gL_law_X10_regions rfl rfl rfl (by decide +kernel) ⟨Nat.le_of_ble_eq_true rfl, Nat.le_of_ble_eq_true rfl⟩) rfl rfl gX10 rfl (Nat.le_of_ble_eq_true rfl) ⟨show cells + 1 ≤ 601024 by omega, show slots + 6 ≤ 7293034 by omega⟩ (fun r2 S2 h2 => ?_)
  obtain ⟨q1, q2, h9, k9, hI9⟩ := hB r2 S2 h2
  refine tv_istore X dL_law_908 rfl ?_
  refine tv_aload_n X dL_law_910 rfl ?_
  refine mm_callVi (q := (RX10, TX10, 20)) X dL_law_911 cX10_thrown_ok (cwV 0 X.2.2.2.2.1 gL_law_X10_thrown rfl rfl rfl (by decide +kernel) ⟨Nat.le_of_ble_eq_true rfl, Nat.le_of_ble_eq_true rfl⟩) rfl rfl gX10 rfl (Nat.le_of_ble_eq_true rfl) ⟨show cells + 1 ≤ 601024 by omega, show slots + 6 ≤ 7293034 by omega⟩ (fun r3 S3 h3 => ?_)
  obtain ⟨e3, e4⟩ := h3
  rw [e3, e4, q1]
  refine tv_iload X dL_law_914 rfl ?_
  refine tv_icmp_eq (tgt := 921) X dL_law_916 (by decide) (fun z1 => ?_) (fun z1 => ?_)
  rotate_left
  · exact absurd rfl z1
  refine tv_iload X dL_law_921 rfl ?_
  refine tv_if_ne (tgt := 938) X dL_law_923 (by decide) (fun z2 => ?_) (fun z2 => ?_)
  · refine tv_goto (tgt := 1467) X dL_law_938 (by decide) ?_
    refine tv_widen (k0 := cells + 2) (k1 := slots + 12) (by omega) (by omega) ?_
    refine tv_sl (L' := [(0, .ref b), (1, .ref (n0 + 0)), (2, .ref (n0 + 130)), (3, .ref (n0 + 142)), (4, .int (nI (4 * t)))]) [0, 1, 2, 3, 4] rfl ?_
    exact tail S2 n1 h9 k9 hI9
  have z3 := q2 z2
  refine tv_aload_n X dL_law_926 rfl ?_
  refine tv_iconst (v := 0) X dL_law_927 (by decide) ?_
  refine mm_lald X dL_law_928 ?_
  refine tv_iload X dL_law_929 rfl ?_
  refine tv_i2l X dL_law_931 ?_
  rw [z3]
  refine tv_lcmpE X dL_law_932 ?_
  refine tv_if_eq (tgt := 938) X dL_law_933 (by decide) (fun z4 => ?_) (fun z4 => ?_)
  rotate_left
  · exact absurd rfl z4
  refine tv_goto (tgt := 1467) X dL_law_938 (by decide) ?_
  refine tv_widen (k0 := cells + 2) (k1 := slots + 12) (by omega) (by omega) ?_
  refine tv_sl (L' := [(0, .ref b), (1, .ref (n0 + 0)), (2, .ref (n0 + 130)), (3, .ref (n0 + 142)), (4, .int (nI (4 * t)))]) [0, 1, 2, 3, 4] rfl ?_
  exact tail S2 n1 h9 k9 hI9
theorem lwc_16 {p : Program} {l : Launch} {e : Env} {s : State} {m : MethodId} {below : List Frame} {meth : Method} {c : Code} {Q : State → Prop} {D : va_G} {n0 cells slots : Nat} {n : Nat} {ft : Nat × Nat × Nat} {S : mS} {b t Ln h k : Nat} {xs : Nat → Int32} (X : tv_X p s m #[Value.ref b] meth c cL_law 9 RL wsL_law D vwCl n0 ft) (hst : l.stackTraces = false) (hX : va_X b Ln xs s s.heap) (hbl : b < s.heap.size) (hbA : ¬ tv_A n0 b) (ht : 4 * t + 4 ≤ Ln) (hL : Ln ≤ 2048) (hI : INV S S h k) (hC : cells + 2 ≤ 601024 ∧ slots + 12 ≤ 7293034) (tail : ∀ (S' : mS) (n' h' k' : Nat), INV S' S' h' k' → tv_V p l e room_1 s m #[Value.ref b] below meth c Q D vwCl n0 (cells + 2) (slots + 12) 9 1467 [(0, .ref b), (1, .ref (n0 + 0)), (2, .ref (n0 + 130)), (3, .ref (n0 + 142)), (4, .int (nI (4 * t)))] [] n' (mH n0 S')) : tv_V p l e room_1 s m #[Value.ref b] below meth c Q D vwCl n0 cells slots 9 941 [(0, .ref b), (1, .ref (n0 + 0)), (2, .ref (n0 + 130)), (3, .ref (n0 + 142)), (4, .int (nI (4 * t)))] [] n (mH n0 S) := by
  refine tv_aload_n X dL_law_941 rfl ?_
  refine tl_arg X hX hbl hbA 1 (by decide) ht hL (by decide) dL_law_942 dL_law_943 dL_law_945 dL_law_946 dL_law_947 rfl rfl ?_
  refine tv_aload_n X dL_law_948 rfl ?_
  refine tl_callH X dL_law_949 (cL_setting_ok (cX9_setting_ok hst (xs (4 * t + 1))) (fun E S1 hp => hp.2.1)) (vx_cwSW 3 X.2.2.2.2.1 gL_law_L_setting rfl rfl rfl (by decide +kernel) ⟨Nat.le_of_ble_eq_true rfl, Nat.le_of_ble_eq_true rfl⟩) rfl rfl (Nat.le_of_ble_eq_true rfl) ⟨show cells + 1 ≤ 601024 by omega, show slots + 6 ≤ 7293034 by omega⟩ (fun r1 S1 n1 hn1 h1 => ?_)
  obtain ⟨hR, hB⟩ := lc_setting (x := (xs (4 * t + 1))) (y := 0) (v := 0) hI h1
  obtain ⟨p1, p2, p3, p4, p5⟩ := INV_pre hI hR
  refine tv_istore X dL_law_952 rfl ?_
  refine tv_aload_n X dL_law_954 rfl ?_
  refine tl_arg X hX hbl hbA 1 (by decide) ht hL (by decide) dL_law_955 dL_law_956 dL_law_958 dL_law_959 dL_law_960 rfl rfl ?_
  refine mm_callVi (q := (RX10, TX10, 20)) X dL_law_961 (cX10_setting_ok (xs (4 * t + 1))) (cwV 1 X.2.2.2.2.1 gL_law_X10_setting rfl rfl rfl (by decide +kernel) ⟨Nat.le_of_ble_eq_true rfl, Nat.le_of_ble_eq_true rfl⟩) rfl rfl gX10 rfl (Nat.le_of_ble_eq_true rfl) ⟨show cells + 1 ≤ 601024 by omega, show slots + 6 ≤ 7293034 by omega⟩ (fun r2 S2 h2 => ?_)
  obtain ⟨q1, q2, h9, k9, hI9⟩ := hB r2 S2 h2
  refine tv_istore X dL_law_964 rfl ?_
  refine tv_aload_n X dL_law_966 rfl ?_
  refine mm_callVi (q := (RX10, TX10, 20)) X dL_law_967 cX10_thrown_ok (cwV 0 X.2.2.2.2.1 gL_law_X10_thrown rfl rfl rfl (by decide +kernel) ⟨Nat.le_of_ble_eq_true rfl, Nat.le_of_ble_eq_true rfl⟩) rfl rfl gX10 rfl (Nat.le_of_ble_eq_true rfl) ⟨show cells + 1 ≤ 601024 by omega, show slots + 6 ≤ 7293034 by omega⟩ (fun r3 S3 h3 => ?_)
  obtain ⟨e3, e4⟩ := h3
  rw [e3, e4, q1]
  refine tv_iload X dL_law_970 rfl ?_
  refine tv_icmp_eq (tgt := 977) X dL_law_972 (by decide) (fun z1 => ?_) (fun z1 => ?_)
  rotate_left
  · exact absurd rfl z1
  refine tv_iload X dL_law_977 rfl ?_
  refine tv_if_ne (tgt := 994) X dL_law_979 (by decide) (fun z2 => ?_) (fun z2 => ?_)
  · refine tv_goto (tgt := 1467) X dL_law_994 (by decide) ?_
    refine tv_widen (k0 := cells + 2) (k1 := slots + 12) (by omega) (by omega) ?_
    refine tv_sl (L' := [(0, .ref b), (1, .ref (n0 + 0)), (2, .ref (n0 + 130)), (3, .ref (n0 + 142)), (4, .int (nI (4 * t)))]) [0, 1, 2, 3, 4] rfl ?_
    exact tail S2 n1 h9 k9 hI9
  have z3 := q2 z2
  refine tv_aload_n X dL_law_982 rfl ?_
  refine tv_iconst (v := 0) X dL_law_983 (by decide) ?_
  refine mm_lald X dL_law_984 ?_
  refine tv_iload X dL_law_985 rfl ?_
  refine tv_i2l X dL_law_987 ?_
  rw [z3]
  refine tv_lcmpE X dL_law_988 ?_
  refine tv_if_eq (tgt := 994) X dL_law_989 (by decide) (fun z4 => ?_) (fun z4 => ?_)
  rotate_left
  · exact absurd rfl z4
  refine tv_goto (tgt := 1467) X dL_law_994 (by decide) ?_
  refine tv_widen (k0 := cells + 2) (k1 := slots + 12) (by omega) (by omega) ?_
  refine tv_sl (L' := [(0, .ref b), (1, .ref (n0 + 0)), (2, .ref (n0 + 130)), (3, .ref (n0 + 142)), (4, .int (nI (4 * t)))]) [0, 1, 2, 3, 4] rfl ?_
  exact tail S2 n1 h9 k9 hI9
theorem lwc_17 {p : Program} {l : Launch} {e : Env} {s : State} {m : MethodId} {below : List Frame} {meth : Method} {c : Code} {Q : State → Prop} {D : va_G} {n0 cells slots : Nat} {n : Nat} {ft : Nat × Nat × Nat} {S : mS} {b t Ln h k : Nat} {xs : Nat → Int32} (X : tv_X p s m #[Value.ref b] meth c cL_law 9 RL wsL_law D vwCl n0 ft) (hst : l.stackTraces = false) (hX : va_X b Ln xs s s.heap) (hbl : b < s.heap.size) (hbA : ¬ tv_A n0 b) (ht : 4 * t + 4 ≤ Ln) (hL : Ln ≤ 2048) (hI : INV S S h k) (hC : cells + 2 ≤ 601024 ∧ slots + 12 ≤ 7293034) (tail : ∀ (S' : mS) (n' h' k' : Nat), INV S' S' h' k' → tv_V p l e room_1 s m #[Value.ref b] below meth c Q D vwCl n0 (cells + 2) (slots + 12) 9 1467 [(0, .ref b), (1, .ref (n0 + 0)), (2, .ref (n0 + 130)), (3, .ref (n0 + 142)), (4, .int (nI (4 * t)))] [] n' (mH n0 S')) : tv_V p l e room_1 s m #[Value.ref b] below meth c Q D vwCl n0 cells slots 9 997 [(0, .ref b), (1, .ref (n0 + 0)), (2, .ref (n0 + 130)), (3, .ref (n0 + 142)), (4, .int (nI (4 * t)))] [] n (mH n0 S) := by
  refine tv_aload_n X dL_law_997 rfl ?_
  refine mm_callVi (q := (RX9, TX9, 8)) X dL_law_998 (cX9_contacts_ok) (cwV 0 X.2.2.2.2.1 gL_law_X9_contacts rfl rfl rfl (by decide +kernel) ⟨Nat.le_of_ble_eq_true rfl, Nat.le_of_ble_eq_true rfl⟩) rfl rfl gX9 rfl (Nat.le_of_ble_eq_true rfl) ⟨show cells ≤ 601024 by omega, show slots ≤ 7293034 by omega⟩ (fun r1 S1 h1 => ?_)
  obtain ⟨hR, hB⟩ := lc_contacts (x := 0) (y := 0) (v := 0) hI h1
  obtain ⟨p1, p2, p3, p4, p5⟩ := INV_pre hI hR
  refine tv_aload_n X dL_law_1001 rfl ?_
  refine mm_callVi (q := (RX10, TX10, 20)) X dL_law_1002 (cX10_contacts_ok p5) (cwV 0 X.2.2.2.2.1 gL_law_X10_contacts rfl rfl rfl (by decide +kernel) ⟨Nat.le_of_ble_eq_true rfl, Nat.le_of_ble_eq_true rfl⟩) rfl rfl gX10 rfl (Nat.le_of_ble_eq_true rfl) ⟨show cells ≤ 601024 by omega, show slots ≤ 7293034 by omega⟩ (fun r2 S2 h2 => ?_)
  obtain ⟨q1, h9, k9, hI9⟩ := hB r2 S2 h2
  refine tv_icmp_eq (tgt := 1467) X dL_law_1005 (by decide) (fun z1 => ?_) (fun z1 => ?_)
  rotate_left
  · exact absurd q1 z1
  refine tv_widen (k0 := cells + 2) (k1 := slots + 12) (by omega) (by omega) ?_
  refine tv_sl (L' := [(0, .ref b), (1, .ref (n0 + 0)), (2, .ref (n0 + 130)), (3, .ref (n0 + 142)), (4, .int (nI (4 * t)))]) [0, 1, 2, 3, 4] rfl ?_
  exact tail S2 n h9 k9 hI9
theorem lwc_18 {p : Program} {l : Launch} {e : Env} {s : State} {m : MethodId} {below : List Frame} {meth : Method} {c : Code} {Q : State → Prop} {D : va_G} {n0 cells slots : Nat} {n : Nat} {ft : Nat × Nat × Nat} {S : mS} {b t Ln h k : Nat} {xs : Nat → Int32} (X : tv_X p s m #[Value.ref b] meth c cL_law 9 RL wsL_law D vwCl n0 ft) (hst : l.stackTraces = false) (hX : va_X b Ln xs s s.heap) (hbl : b < s.heap.size) (hbA : ¬ tv_A n0 b) (ht : 4 * t + 4 ≤ Ln) (hL : Ln ≤ 2048) (hI : INV S S h k) (hC : cells + 2 ≤ 601024 ∧ slots + 12 ≤ 7293034) (tail : ∀ (S' : mS) (n' h' k' : Nat), INV S' S' h' k' → tv_V p l e room_1 s m #[Value.ref b] below meth c Q D vwCl n0 (cells + 2) (slots + 12) 9 1467 [(0, .ref b), (1, .ref (n0 + 0)), (2, .ref (n0 + 130)), (3, .ref (n0 + 142)), (4, .int (nI (4 * t)))] [] n' (mH n0 S')) : tv_V p l e room_1 s m #[Value.ref b] below meth c Q D vwCl n0 cells slots 9 1010 [(0, .ref b), (1, .ref (n0 + 0)), (2, .ref (n0 + 130)), (3, .ref (n0 + 142)), (4, .int (nI (4 * t)))] [] n (mH n0 S) := by
  refine tv_aload_n X dL_law_1010 rfl ?_
  refine tl_arg X hX hbl hbA 1 (by decide) ht hL (by decide) dL_law_1011 dL_law_1012 dL_law_1014 dL_law_1015 dL_law_1016 rfl rfl ?_
  refine tl_arg X hX hbl hbA 2 (by decide) ht hL (by decide) dL_law_1017 dL_law_1018 dL_law_1020 dL_law_1021 dL_law_1022 rfl rfl ?_
  refine tv_aload_n X dL_law_1023 rfl ?_
  refine tl_callH X dL_law_1024 (cL_contact_ok (cX9_contact_ok hst (xs (4 * t + 1)) (xs (4 * t + 2))) (fun E S1 hp => hp.2.imp And.left And.left)) (vx_cwSW 4 X.2.2.2.2.1 gL_law_L_contact rfl rfl rfl (by decide +kernel) ⟨Nat.le_of_ble_eq_true rfl, Nat.le_of_ble_eq_true rfl⟩) rfl rfl (Nat.le_of_ble_eq_true rfl) ⟨show cells + 2 ≤ 601024 by omega, show slots + 12 ≤ 7293034 by omega⟩ (fun r1 S1 n1 hn1 h1 => ?_)
  obtain ⟨hR, hB⟩ := lc_contact (x := (xs (4 * t + 1))) (y := 0) (v := (xs (4 * t + 2))) hI h1
  obtain ⟨p1, p2, p3, p4, p5⟩ := INV_pre hI hR
  refine tv_istore X dL_law_1027 rfl ?_
  refine tv_aload_n X dL_law_1029 rfl ?_
  refine tl_arg X hX hbl hbA 1 (by decide) ht hL (by decide) dL_law_1030 dL_law_1031 dL_law_1033 dL_law_1034 dL_law_1035 rfl rfl ?_
  refine tl_arg X hX hbl hbA 2 (by decide) ht hL (by decide) dL_law_1036 dL_law_1037 dL_law_1039 dL_law_1040 dL_law_1041 rfl rfl ?_
  refine mm_callVi (q := (RX10, TX10, 20)) X dL_law_1042 (cX10_contact_ok p5 (xs (4 * t + 1)) (xs (4 * t + 2))) (cwV 2 X.2.2.2.2.1 gL_law_X10_contact rfl rfl rfl (by decide +kernel) ⟨Nat.le_of_ble_eq_true rfl, Nat.le_of_ble_eq_true rfl⟩) rfl rfl gX10 rfl (Nat.le_of_ble_eq_true rfl) ⟨show cells + 2 ≤ 601024 by omega, show slots + 12 ≤ 7293034 by omega⟩ (fun r2 S2 h2 => ?_)
  obtain ⟨q1, q2, h9, k9, hI9⟩ := hB r2 S2 h2
  refine tv_istore X dL_law_1045 rfl ?_
  refine tv_aload_n X dL_law_1047 rfl ?_
  refine mm_callVi (q := (RX10, TX10, 20)) X dL_law_1048 cX10_thrown_ok (cwV 0 X.2.2.2.2.1 gL_law_X10_thrown rfl rfl rfl (by decide +kernel) ⟨Nat.le_of_ble_eq_true rfl, Nat.le_of_ble_eq_true rfl⟩) rfl rfl gX10 rfl (Nat.le_of_ble_eq_true rfl) ⟨show cells + 2 ≤ 601024 by omega, show slots + 12 ≤ 7293034 by omega⟩ (fun r3 S3 h3 => ?_)
  obtain ⟨e3, e4⟩ := h3
  rw [e3, e4, q1]
  refine tv_iload X dL_law_1051 rfl ?_
  refine tv_icmp_eq (tgt := 1058) X dL_law_1053 (by decide) (fun z1 => ?_) (fun z1 => ?_)
  rotate_left
  · exact absurd rfl z1
  refine tv_iload X dL_law_1058 rfl ?_
  refine tv_if_ne (tgt := 1075) X dL_law_1060 (by decide) (fun z2 => ?_) (fun z2 => ?_)
  · refine tv_goto (tgt := 1467) X dL_law_1075 (by decide) ?_
    refine tv_widen (k0 := cells + 2) (k1 := slots + 12) (by omega) (by omega) ?_
    refine tv_sl (L' := [(0, .ref b), (1, .ref (n0 + 0)), (2, .ref (n0 + 130)), (3, .ref (n0 + 142)), (4, .int (nI (4 * t)))]) [0, 1, 2, 3, 4] rfl ?_
    exact tail S2 n1 h9 k9 hI9
  have z3 := q2 z2
  refine tv_aload_n X dL_law_1063 rfl ?_
  refine tv_iconst (v := 0) X dL_law_1064 (by decide) ?_
  refine mm_lald X dL_law_1065 ?_
  refine tv_iload X dL_law_1066 rfl ?_
  refine tv_i2l X dL_law_1068 ?_
  rw [z3]
  refine tv_lcmpE X dL_law_1069 ?_
  refine tv_if_eq (tgt := 1075) X dL_law_1070 (by decide) (fun z4 => ?_) (fun z4 => ?_)
  rotate_left
  · exact absurd rfl z4
  refine tv_goto (tgt := 1467) X dL_law_1075 (by decide) ?_
  refine tv_widen (k0 := cells + 2) (k1 := slots + 12) (by omega) (by omega) ?_
  refine tv_sl (L' := [(0, .ref b), (1, .ref (n0 + 0)), (2, .ref (n0 + 130)), (3, .ref (n0 + 142)), (4, .int (nI (4 * t)))]) [0, 1, 2, 3, 4] rfl ?_
  exact tail S2 n1 h9 k9 hI9
theorem lwc_19 {p : Program} {l : Launch} {e : Env} {s : State} {m : MethodId} {below : List Frame} {meth : Method} {c : Code} {Q : State → Prop} {D : va_G} {n0 cells slots : Nat} {n : Nat} {ft : Nat × Nat × Nat} {S : mS} {b t Ln h k : Nat} {xs : Nat → Int32} (X : tv_X p s m #[Value.ref b] meth c cL_law 9 RL wsL_law D vwCl n0 ft) (hst : l.stackTraces = false) (hX : va_X b Ln xs s s.heap) (hbl : b < s.heap.size) (hbA : ¬ tv_A n0 b) (ht : 4 * t + 4 ≤ Ln) (hL : Ln ≤ 2048) (hI : INV S S h k) (hC : cells + 2 ≤ 601024 ∧ slots + 12 ≤ 7293034) (tail : ∀ (S' : mS) (n' h' k' : Nat), INV S' S' h' k' → tv_V p l e room_1 s m #[Value.ref b] below meth c Q D vwCl n0 (cells + 2) (slots + 12) 9 1467 [(0, .ref b), (1, .ref (n0 + 0)), (2, .ref (n0 + 130)), (3, .ref (n0 + 142)), (4, .int (nI (4 * t)))] [] n' (mH n0 S')) : tv_V p l e room_1 s m #[Value.ref b] below meth c Q D vwCl n0 cells slots 9 1078 [(0, .ref b), (1, .ref (n0 + 0)), (2, .ref (n0 + 130)), (3, .ref (n0 + 142)), (4, .int (nI (4 * t)))] [] n (mH n0 S) := by
  refine tv_aload_n X dL_law_1078 rfl ?_
  refine tl_arg X hX hbl hbA 1 (by decide) ht hL (by decide) dL_law_1079 dL_law_1080 dL_law_1082 dL_law_1083 dL_law_1084 rfl rfl ?_
  refine tv_aload_n X dL_law_1085 rfl ?_
  refine tl_callH X dL_law_1086 (cL_isDown_ok (cX9_isDown_ok hst (INV_trok hI) (xs (4 * t + 1))) (fun E S1 hp => hp.2.1) (isDown_b hI)) (vx_cwSW 3 X.2.2.2.2.1 gL_law_L_isDown rfl rfl rfl (by decide +kernel) ⟨Nat.le_of_ble_eq_true rfl, Nat.le_of_ble_eq_true rfl⟩) rfl rfl (Nat.le_of_ble_eq_true rfl) ⟨show cells + 1 ≤ 601024 by omega, show slots + 6 ≤ 7293034 by omega⟩ (fun r1 S1 n1 hn1 h1 => ?_)
  obtain ⟨hR, hB⟩ := lc_isDown (x := (xs (4 * t + 1))) (y := 0) (v := 0) hI h1
  obtain ⟨p1, p2, p3, p4, p5⟩ := INV_pre hI hR
  refine tv_istore X dL_law_1089 rfl ?_
  refine tv_aload_n X dL_law_1091 rfl ?_
  refine tl_arg X hX hbl hbA 1 (by decide) ht hL (by decide) dL_law_1092 dL_law_1093 dL_law_1095 dL_law_1096 dL_law_1097 rfl rfl ?_
  refine mm_callVi (q := (RX10, TX10, 20)) X dL_law_1098 (cX10_isDown_ok (xs (4 * t + 1))) (cwV 1 X.2.2.2.2.1 gL_law_X10_isDown rfl rfl rfl (by decide +kernel) ⟨Nat.le_of_ble_eq_true rfl, Nat.le_of_ble_eq_true rfl⟩) rfl rfl gX10 rfl (Nat.le_of_ble_eq_true rfl) ⟨show cells + 1 ≤ 601024 by omega, show slots + 6 ≤ 7293034 by omega⟩ (fun r2 S2 h2 => ?_)
  obtain ⟨q1, q2, h9, k9, hI9⟩ := hB r2 S2 h2
  refine tv_istore X dL_law_1101 rfl ?_
  refine tv_aload_n X dL_law_1103 rfl ?_
  refine mm_callVi (q := (RX10, TX10, 20)) X dL_law_1104 cX10_thrown_ok (cwV 0 X.2.2.2.2.1 gL_law_X10_thrown rfl rfl rfl (by decide +kernel) ⟨Nat.le_of_ble_eq_true rfl, Nat.le_of_ble_eq_true rfl⟩) rfl rfl gX10 rfl (Nat.le_of_ble_eq_true rfl) ⟨show cells + 1 ≤ 601024 by omega, show slots + 6 ≤ 7293034 by omega⟩ (fun r3 S3 h3 => ?_)
  obtain ⟨e3, e4⟩ := h3
  rw [e3, e4, q1]
  refine tv_iload X dL_law_1107 rfl ?_
  refine tv_icmp_eq (tgt := 1114) X dL_law_1109 (by decide) (fun z1 => ?_) (fun z1 => ?_)
  rotate_left
  · exact absurd rfl z1
  refine tv_iload X dL_law_1114 rfl ?_
  refine tv_if_ne (tgt := 1138) X dL_law_1116 (by decide) (fun z2 => ?_) (fun z2 => ?_)
  · refine tv_goto (tgt := 1467) X dL_law_1138 (by decide) ?_
    refine tv_widen (k0 := cells + 2) (k1 := slots + 12) (by omega) (by omega) ?_
    refine tv_sl (L' := [(0, .ref b), (1, .ref (n0 + 0)), (2, .ref (n0 + 130)), (3, .ref (n0 + 142)), (4, .int (nI (4 * t)))]) [0, 1, 2, 3, 4] rfl ?_
    exact tail S2 n1 h9 k9 hI9
  have z3 := q2 z2
  refine tv_aload_n X dL_law_1119 rfl ?_
  refine tv_iconst (v := 0) X dL_law_1120 (by decide) ?_
  refine mm_lald X dL_law_1121 ?_
  refine tv_iload X dL_law_1122 rfl ?_
  have z9 := isDown_r2 (h := h) (k := k) (x := xs (4 * t + 1)) (y := 0) (v := 0) h2 (q1.trans z2)
  rw [z3]
  rcases z9 with z9 | z9
  · rw [z9]
    refine tv_if_eq (tgt := 1131) X dL_law_1124 (by decide) (fun z5 => ?_) (fun z5 => ?_)
    rotate_left
    · exact absurd rfl z5
    refine tv_lconst (v := (0 : Int32).toInt64) X dL_law_1131 (by decide) ?_
    refine tv_lcmpE X dL_law_1132 ?_
    refine tv_if_eq (tgt := 1138) X dL_law_1133 (by decide) (fun z4 => ?_) (fun z4 => ?_)
    rotate_left
    · exact absurd rfl z4
    refine tv_goto (tgt := 1467) X dL_law_1138 (by decide) ?_
    refine tv_widen (k0 := cells + 2) (k1 := slots + 12) (by omega) (by omega) ?_
    refine tv_sl (L' := [(0, .ref b), (1, .ref (n0 + 0)), (2, .ref (n0 + 130)), (3, .ref (n0 + 142)), (4, .int (nI (4 * t)))]) [0, 1, 2, 3, 4] rfl ?_
    exact tail S2 n1 h9 k9 hI9
  · rw [z9]
    refine tv_if_eq (tgt := 1131) X dL_law_1124 (by decide) (fun z5 => ?_) (fun z5 => ?_)
    · exact absurd z5 (by decide)
    refine tv_lconst (v := (1 : Int32).toInt64) X dL_law_1127 (by decide) ?_
    refine tv_goto (tgt := 1132) X dL_law_1128 (by decide) ?_
    refine tv_lcmpE X dL_law_1132 ?_
    refine tv_if_eq (tgt := 1138) X dL_law_1133 (by decide) (fun z4 => ?_) (fun z4 => ?_)
    rotate_left
    · exact absurd rfl z4
    refine tv_goto (tgt := 1467) X dL_law_1138 (by decide) ?_
    refine tv_widen (k0 := cells + 2) (k1 := slots + 12) (by omega) (by omega) ?_
    refine tv_sl (L' := [(0, .ref b), (1, .ref (n0 + 0)), (2, .ref (n0 + 130)), (3, .ref (n0 + 142)), (4, .int (nI (4 * t)))]) [0, 1, 2, 3, 4] rfl ?_
    exact tail S2 n1 h9 k9 hI9
theorem lwc_20 {p : Program} {l : Launch} {e : Env} {s : State} {m : MethodId} {below : List Frame} {meth : Method} {c : Code} {Q : State → Prop} {D : va_G} {n0 cells slots : Nat} {n : Nat} {ft : Nat × Nat × Nat} {S : mS} {b t Ln h k : Nat} {xs : Nat → Int32} (X : tv_X p s m #[Value.ref b] meth c cL_law 9 RL wsL_law D vwCl n0 ft) (hst : l.stackTraces = false) (hX : va_X b Ln xs s s.heap) (hbl : b < s.heap.size) (hbA : ¬ tv_A n0 b) (ht : 4 * t + 4 ≤ Ln) (hL : Ln ≤ 2048) (hI : INV S S h k) (hC : cells + 2 ≤ 601024 ∧ slots + 12 ≤ 7293034) (tail : ∀ (S' : mS) (n' h' k' : Nat), INV S' S' h' k' → tv_V p l e room_1 s m #[Value.ref b] below meth c Q D vwCl n0 (cells + 2) (slots + 12) 9 1467 [(0, .ref b), (1, .ref (n0 + 0)), (2, .ref (n0 + 130)), (3, .ref (n0 + 142)), (4, .int (nI (4 * t)))] [] n' (mH n0 S')) : tv_V p l e room_1 s m #[Value.ref b] below meth c Q D vwCl n0 cells slots 9 1141 [(0, .ref b), (1, .ref (n0 + 0)), (2, .ref (n0 + 130)), (3, .ref (n0 + 142)), (4, .int (nI (4 * t)))] [] n (mH n0 S) := by
  refine tv_aload_n X dL_law_1141 rfl ?_
  refine tl_arg X hX hbl hbA 1 (by decide) ht hL (by decide) dL_law_1142 dL_law_1143 dL_law_1145 dL_law_1146 dL_law_1147 rfl rfl ?_
  refine tl_arg X hX hbl hbA 2 (by decide) ht hL (by decide) dL_law_1148 dL_law_1149 dL_law_1151 dL_law_1152 dL_law_1153 rfl rfl ?_
  refine tv_aload_n X dL_law_1154 rfl ?_
  refine tl_callH X dL_law_1155 (cL_track_ok (cX9_track_ok hst (xs (4 * t + 1)) (xs (4 * t + 2))) (fun E S1 hp => hp.2.imp And.left And.left)) (vx_cwSW 4 X.2.2.2.2.1 gL_law_L_track rfl rfl rfl (by decide +kernel) ⟨Nat.le_of_ble_eq_true rfl, Nat.le_of_ble_eq_true rfl⟩) rfl rfl (Nat.le_of_ble_eq_true rfl) ⟨show cells + 2 ≤ 601024 by omega, show slots + 12 ≤ 7293034 by omega⟩ (fun r1 S1 n1 hn1 h1 => ?_)
  obtain ⟨hR, hB⟩ := lc_track (x := (xs (4 * t + 1))) (y := 0) (v := (xs (4 * t + 2))) hI h1
  obtain ⟨p1, p2, p3, p4, p5⟩ := INV_pre hI hR
  refine tv_istore X dL_law_1158 rfl ?_
  refine tv_aload_n X dL_law_1160 rfl ?_
  refine tl_arg X hX hbl hbA 1 (by decide) ht hL (by decide) dL_law_1161 dL_law_1162 dL_law_1164 dL_law_1165 dL_law_1166 rfl rfl ?_
  refine tl_arg X hX hbl hbA 2 (by decide) ht hL (by decide) dL_law_1167 dL_law_1168 dL_law_1170 dL_law_1171 dL_law_1172 rfl rfl ?_
  refine mm_callVi (q := (RX10, TX10, 20)) X dL_law_1173 (cX10_track_ok (xs (4 * t + 1)) (xs (4 * t + 2))) (cwV 2 X.2.2.2.2.1 gL_law_X10_track rfl rfl rfl (by decide +kernel) ⟨Nat.le_of_ble_eq_true rfl, Nat.le_of_ble_eq_true rfl⟩) rfl rfl gX10 rfl (Nat.le_of_ble_eq_true rfl) ⟨show cells + 2 ≤ 601024 by omega, show slots + 12 ≤ 7293034 by omega⟩ (fun r2 S2 h2 => ?_)
  obtain ⟨q1, q2, h9, k9, hI9⟩ := hB r2 S2 h2
  refine tv_istore X dL_law_1176 rfl ?_
  refine tv_aload_n X dL_law_1178 rfl ?_
  refine mm_callVi (q := (RX10, TX10, 20)) X dL_law_1179 cX10_thrown_ok (cwV 0 X.2.2.2.2.1 gL_law_X10_thrown rfl rfl rfl (by decide +kernel) ⟨Nat.le_of_ble_eq_true rfl, Nat.le_of_ble_eq_true rfl⟩) rfl rfl gX10 rfl (Nat.le_of_ble_eq_true rfl) ⟨show cells + 2 ≤ 601024 by omega, show slots + 12 ≤ 7293034 by omega⟩ (fun r3 S3 h3 => ?_)
  obtain ⟨e3, e4⟩ := h3
  rw [e3, e4, q1]
  refine tv_iload X dL_law_1182 rfl ?_
  refine tv_icmp_eq (tgt := 1189) X dL_law_1184 (by decide) (fun z1 => ?_) (fun z1 => ?_)
  rotate_left
  · exact absurd rfl z1
  refine tv_iload X dL_law_1189 rfl ?_
  refine tv_if_ne (tgt := 1206) X dL_law_1191 (by decide) (fun z2 => ?_) (fun z2 => ?_)
  · refine tv_goto (tgt := 1467) X dL_law_1206 (by decide) ?_
    refine tv_widen (k0 := cells + 2) (k1 := slots + 12) (by omega) (by omega) ?_
    refine tv_sl (L' := [(0, .ref b), (1, .ref (n0 + 0)), (2, .ref (n0 + 130)), (3, .ref (n0 + 142)), (4, .int (nI (4 * t)))]) [0, 1, 2, 3, 4] rfl ?_
    exact tail S2 n1 h9 k9 hI9
  have z3 := q2 z2
  refine tv_aload_n X dL_law_1194 rfl ?_
  refine tv_iconst (v := 0) X dL_law_1195 (by decide) ?_
  refine mm_lald X dL_law_1196 ?_
  refine tv_iload X dL_law_1197 rfl ?_
  refine tv_i2l X dL_law_1199 ?_
  rw [z3]
  refine tv_lcmpE X dL_law_1200 ?_
  refine tv_if_eq (tgt := 1206) X dL_law_1201 (by decide) (fun z4 => ?_) (fun z4 => ?_)
  rotate_left
  · exact absurd rfl z4
  refine tv_goto (tgt := 1467) X dL_law_1206 (by decide) ?_
  refine tv_widen (k0 := cells + 2) (k1 := slots + 12) (by omega) (by omega) ?_
  refine tv_sl (L' := [(0, .ref b), (1, .ref (n0 + 0)), (2, .ref (n0 + 130)), (3, .ref (n0 + 142)), (4, .int (nI (4 * t)))]) [0, 1, 2, 3, 4] rfl ?_
  exact tail S2 n1 h9 k9 hI9
theorem lwc_21 {p : Program} {l : Launch} {e : Env} {s : State} {m : MethodId} {below : List Frame} {meth : Method} {c : Code} {Q : State → Prop} {D : va_G} {n0 cells slots : Nat} {n : Nat} {ft : Nat × Nat × Nat} {S : mS} {b t Ln h k : Nat} {xs : Nat → Int32} (X : tv_X p s m #[Value.ref b] meth c cL_law 9 RL wsL_law D vwCl n0 ft) (hst : l.stackTraces = false) (hX : va_X b Ln xs s s.heap) (hbl : b < s.heap.size) (hbA : ¬ tv_A n0 b) (ht : 4 * t + 4 ≤ Ln) (hL : Ln ≤ 2048) (hI : INV S S h k) (hC : cells + 2 ≤ 601024 ∧ slots + 12 ≤ 7293034) (tail : ∀ (S' : mS) (n' h' k' : Nat), INV S' S' h' k' → tv_V p l e room_1 s m #[Value.ref b] below meth c Q D vwCl n0 (cells + 2) (slots + 12) 9 1467 [(0, .ref b), (1, .ref (n0 + 0)), (2, .ref (n0 + 130)), (3, .ref (n0 + 142)), (4, .int (nI (4 * t)))] [] n' (mH n0 S')) : tv_V p l e room_1 s m #[Value.ref b] below meth c Q D vwCl n0 cells slots 9 1209 [(0, .ref b), (1, .ref (n0 + 0)), (2, .ref (n0 + 130)), (3, .ref (n0 + 142)), (4, .int (nI (4 * t)))] [] n (mH n0 S) := by
  refine tv_aload_n X dL_law_1209 rfl ?_
  refine tl_arg X hX hbl hbA 1 (by decide) ht hL (by decide) dL_law_1210 dL_law_1211 dL_law_1213 dL_law_1214 dL_law_1215 rfl rfl ?_
  refine tl_arg X hX hbl hbA 2 (by decide) ht hL (by decide) dL_law_1216 dL_law_1217 dL_law_1219 dL_law_1220 dL_law_1221 rfl rfl ?_
  refine tv_aload_n X dL_law_1222 rfl ?_
  refine tl_callH X dL_law_1223 (cL_squaredDistance_ok (cX9_squaredDistance_ok hst (xs (4 * t + 1)) (xs (4 * t + 2))) (fun E S1 hp => hp.2.1)) (vx_cwSW 4 X.2.2.2.2.1 gL_law_L_squaredDistance rfl rfl rfl (by decide +kernel) ⟨Nat.le_of_ble_eq_true rfl, Nat.le_of_ble_eq_true rfl⟩) rfl rfl (Nat.le_of_ble_eq_true rfl) ⟨show cells + 2 ≤ 601024 by omega, show slots + 12 ≤ 7293034 by omega⟩ (fun r1 S1 n1 hn1 h1 => ?_)
  obtain ⟨hR, hB⟩ := lc_squaredDistance (x := (xs (4 * t + 1))) (y := 0) (v := (xs (4 * t + 2))) hI h1
  obtain ⟨p1, p2, p3, p4, p5⟩ := INV_pre hI hR
  refine tv_istore X dL_law_1226 rfl ?_
  refine tv_aload_n X dL_law_1228 rfl ?_
  refine tl_arg X hX hbl hbA 1 (by decide) ht hL (by decide) dL_law_1229 dL_law_1230 dL_law_1232 dL_law_1233 dL_law_1234 rfl rfl ?_
  refine tl_arg X hX hbl hbA 2 (by decide) ht hL (by decide) dL_law_1235 dL_law_1236 dL_law_1238 dL_law_1239 dL_law_1240 rfl rfl ?_
  refine mm_callVi (q := (RX10, TX10, 20)) X dL_law_1241 (cX10_squaredDistance_ok p5 (xs (4 * t + 1)) (xs (4 * t + 2))) (cwV 2 X.2.2.2.2.1 gL_law_X10_squaredDistance rfl rfl rfl (by decide +kernel) ⟨Nat.le_of_ble_eq_true rfl, Nat.le_of_ble_eq_true rfl⟩) rfl rfl gX10 rfl (Nat.le_of_ble_eq_true rfl) ⟨show cells + 2 ≤ 601024 by omega, show slots + 12 ≤ 7293034 by omega⟩ (fun r2 S2 h2 => ?_)
  obtain ⟨q1, q2, h9, k9, hI9⟩ := hB r2 S2 h2
  refine tv_istore X dL_law_1244 rfl ?_
  refine tv_aload_n X dL_law_1246 rfl ?_
  refine mm_callVi (q := (RX10, TX10, 20)) X dL_law_1247 cX10_thrown_ok (cwV 0 X.2.2.2.2.1 gL_law_X10_thrown rfl rfl rfl (by decide +kernel) ⟨Nat.le_of_ble_eq_true rfl, Nat.le_of_ble_eq_true rfl⟩) rfl rfl gX10 rfl (Nat.le_of_ble_eq_true rfl) ⟨show cells + 2 ≤ 601024 by omega, show slots + 12 ≤ 7293034 by omega⟩ (fun r3 S3 h3 => ?_)
  obtain ⟨e3, e4⟩ := h3
  rw [e3, e4, q1]
  refine tv_iload X dL_law_1250 rfl ?_
  refine tv_icmp_eq (tgt := 1257) X dL_law_1252 (by decide) (fun z1 => ?_) (fun z1 => ?_)
  rotate_left
  · exact absurd rfl z1
  refine tv_iload X dL_law_1257 rfl ?_
  refine tv_if_ne (tgt := 1274) X dL_law_1259 (by decide) (fun z2 => ?_) (fun z2 => ?_)
  · refine tv_goto (tgt := 1467) X dL_law_1274 (by decide) ?_
    refine tv_widen (k0 := cells + 2) (k1 := slots + 12) (by omega) (by omega) ?_
    refine tv_sl (L' := [(0, .ref b), (1, .ref (n0 + 0)), (2, .ref (n0 + 130)), (3, .ref (n0 + 142)), (4, .int (nI (4 * t)))]) [0, 1, 2, 3, 4] rfl ?_
    exact tail S2 n1 h9 k9 hI9
  have z3 := q2 z2
  refine tv_aload_n X dL_law_1262 rfl ?_
  refine tv_iconst (v := 0) X dL_law_1263 (by decide) ?_
  refine mm_lald X dL_law_1264 ?_
  refine tv_iload X dL_law_1265 rfl ?_
  refine tv_i2l X dL_law_1267 ?_
  rw [z3]
  refine tv_lcmpE X dL_law_1268 ?_
  refine tv_if_eq (tgt := 1274) X dL_law_1269 (by decide) (fun z4 => ?_) (fun z4 => ?_)
  rotate_left
  · exact absurd rfl z4
  refine tv_goto (tgt := 1467) X dL_law_1274 (by decide) ?_
  refine tv_widen (k0 := cells + 2) (k1 := slots + 12) (by omega) (by omega) ?_
  refine tv_sl (L' := [(0, .ref b), (1, .ref (n0 + 0)), (2, .ref (n0 + 130)), (3, .ref (n0 + 142)), (4, .int (nI (4 * t)))]) [0, 1, 2, 3, 4] rfl ?_
  exact tail S2 n1 h9 k9 hI9
theorem lwc_22 {p : Program} {l : Launch} {e : Env} {s : State} {m : MethodId} {below : List Frame} {meth : Method} {c : Code} {Q : State → Prop} {D : va_G} {n0 cells slots : Nat} {n : Nat} {ft : Nat × Nat × Nat} {S : mS} {b t Ln h k : Nat} {xs : Nat → Int32} (X : tv_X p s m #[Value.ref b] meth c cL_law 9 RL wsL_law D vwCl n0 ft) (hst : l.stackTraces = false) (hX : va_X b Ln xs s s.heap) (hbl : b < s.heap.size) (hbA : ¬ tv_A n0 b) (ht : 4 * t + 4 ≤ Ln) (hL : Ln ≤ 2048) (hI : INV S S h k) (hC : cells + 2 ≤ 601024 ∧ slots + 12 ≤ 7293034) (tail : ∀ (S' : mS) (n' h' k' : Nat), INV S' S' h' k' → tv_V p l e room_1 s m #[Value.ref b] below meth c Q D vwCl n0 (cells + 2) (slots + 12) 9 1467 [(0, .ref b), (1, .ref (n0 + 0)), (2, .ref (n0 + 130)), (3, .ref (n0 + 142)), (4, .int (nI (4 * t)))] [] n' (mH n0 S')) : tv_V p l e room_1 s m #[Value.ref b] below meth c Q D vwCl n0 cells slots 9 1277 [(0, .ref b), (1, .ref (n0 + 0)), (2, .ref (n0 + 130)), (3, .ref (n0 + 142)), (4, .int (nI (4 * t)))] [] n (mH n0 S) := by
  refine tv_aload_n X dL_law_1277 rfl ?_
  refine tl_arg X hX hbl hbA 1 (by decide) ht hL (by decide) dL_law_1278 dL_law_1279 dL_law_1281 dL_law_1282 dL_law_1283 rfl rfl ?_
  refine tv_aload_n X dL_law_1284 rfl ?_
  refine tl_callH X dL_law_1285 (cL_match_ok (cX9_match_ok hst (xs (4 * t + 1))) (fun E S1 hp => hp.2.1)) (vx_cwSW 3 X.2.2.2.2.1 gL_law_L_match rfl rfl rfl (by decide +kernel) ⟨Nat.le_of_ble_eq_true rfl, Nat.le_of_ble_eq_true rfl⟩) rfl rfl (Nat.le_of_ble_eq_true rfl) ⟨show cells + 1 ≤ 601024 by omega, show slots + 6 ≤ 7293034 by omega⟩ (fun r1 S1 n1 hn1 h1 => ?_)
  obtain ⟨hR, hB⟩ := lc_match (x := (xs (4 * t + 1))) (y := 0) (v := 0) hI h1
  obtain ⟨p1, p2, p3, p4, p5⟩ := INV_pre hI hR
  refine tv_istore X dL_law_1288 rfl ?_
  refine tv_aload_n X dL_law_1290 rfl ?_
  refine tl_arg X hX hbl hbA 1 (by decide) ht hL (by decide) dL_law_1291 dL_law_1292 dL_law_1294 dL_law_1295 dL_law_1296 rfl rfl ?_
  refine mm_callVi (q := (RX10, TX10, 20)) X dL_law_1297 (cX10_match_ok p5 (xs (4 * t + 1))) (cwV 1 X.2.2.2.2.1 gL_law_X10_match rfl rfl rfl (by decide +kernel) ⟨Nat.le_of_ble_eq_true rfl, Nat.le_of_ble_eq_true rfl⟩) rfl rfl gX10 rfl (Nat.le_of_ble_eq_true rfl) ⟨show cells + 1 ≤ 601024 by omega, show slots + 6 ≤ 7293034 by omega⟩ (fun r2 S2 h2 => ?_)
  obtain ⟨q1, q2, h9, k9, hI9⟩ := hB r2 S2 h2
  refine tv_istore X dL_law_1300 rfl ?_
  refine tv_aload_n X dL_law_1302 rfl ?_
  refine mm_callVi (q := (RX10, TX10, 20)) X dL_law_1303 cX10_thrown_ok (cwV 0 X.2.2.2.2.1 gL_law_X10_thrown rfl rfl rfl (by decide +kernel) ⟨Nat.le_of_ble_eq_true rfl, Nat.le_of_ble_eq_true rfl⟩) rfl rfl gX10 rfl (Nat.le_of_ble_eq_true rfl) ⟨show cells + 1 ≤ 601024 by omega, show slots + 6 ≤ 7293034 by omega⟩ (fun r3 S3 h3 => ?_)
  obtain ⟨e3, e4⟩ := h3
  rw [e3, e4, q1]
  refine tv_iload X dL_law_1306 rfl ?_
  refine tv_icmp_eq (tgt := 1313) X dL_law_1308 (by decide) (fun z1 => ?_) (fun z1 => ?_)
  rotate_left
  · exact absurd rfl z1
  refine tv_iload X dL_law_1313 rfl ?_
  refine tv_if_ne (tgt := 1330) X dL_law_1315 (by decide) (fun z2 => ?_) (fun z2 => ?_)
  · refine tv_goto (tgt := 1467) X dL_law_1330 (by decide) ?_
    refine tv_widen (k0 := cells + 2) (k1 := slots + 12) (by omega) (by omega) ?_
    refine tv_sl (L' := [(0, .ref b), (1, .ref (n0 + 0)), (2, .ref (n0 + 130)), (3, .ref (n0 + 142)), (4, .int (nI (4 * t)))]) [0, 1, 2, 3, 4] rfl ?_
    exact tail S2 n1 h9 k9 hI9
  have z3 := q2 z2
  refine tv_aload_n X dL_law_1318 rfl ?_
  refine tv_iconst (v := 0) X dL_law_1319 (by decide) ?_
  refine mm_lald X dL_law_1320 ?_
  refine tv_iload X dL_law_1321 rfl ?_
  refine tv_i2l X dL_law_1323 ?_
  rw [z3]
  refine tv_lcmpE X dL_law_1324 ?_
  refine tv_if_eq (tgt := 1330) X dL_law_1325 (by decide) (fun z4 => ?_) (fun z4 => ?_)
  rotate_left
  · exact absurd rfl z4
  refine tv_goto (tgt := 1467) X dL_law_1330 (by decide) ?_
  refine tv_widen (k0 := cells + 2) (k1 := slots + 12) (by omega) (by omega) ?_
  refine tv_sl (L' := [(0, .ref b), (1, .ref (n0 + 0)), (2, .ref (n0 + 130)), (3, .ref (n0 + 142)), (4, .int (nI (4 * t)))]) [0, 1, 2, 3, 4] rfl ?_
  exact tail S2 n1 h9 k9 hI9
theorem lwc_23 {p : Program} {l : Launch} {e : Env} {s : State} {m : MethodId} {below : List Frame} {meth : Method} {c : Code} {Q : State → Prop} {D : va_G} {n0 cells slots : Nat} {n : Nat} {ft : Nat × Nat × Nat} {S : mS} {b t Ln h k : Nat} {xs : Nat → Int32} (X : tv_X p s m #[Value.ref b] meth c cL_law 9 RL wsL_law D vwCl n0 ft) (hst : l.stackTraces = false) (hX : va_X b Ln xs s s.heap) (hbl : b < s.heap.size) (hbA : ¬ tv_A n0 b) (ht : 4 * t + 4 ≤ Ln) (hL : Ln ≤ 2048) (hI : INV S S h k) (hC : cells + 2 ≤ 601024 ∧ slots + 12 ≤ 7293034) (tail : ∀ (S' : mS) (n' h' k' : Nat), INV S' S' h' k' → tv_V p l e room_1 s m #[Value.ref b] below meth c Q D vwCl n0 (cells + 2) (slots + 12) 9 1467 [(0, .ref b), (1, .ref (n0 + 0)), (2, .ref (n0 + 130)), (3, .ref (n0 + 142)), (4, .int (nI (4 * t)))] [] n' (mH n0 S')) : tv_V p l e room_1 s m #[Value.ref b] below meth c Q D vwCl n0 cells slots 9 1333 [(0, .ref b), (1, .ref (n0 + 0)), (2, .ref (n0 + 130)), (3, .ref (n0 + 142)), (4, .int (nI (4 * t)))] [] n (mH n0 S) := by
  refine tv_aload_n X dL_law_1333 rfl ?_
  refine mm_callVi (q := (RX9, TX9, 8)) X dL_law_1334 (cX9_matchingCost_ok) (cwV 0 X.2.2.2.2.1 gL_law_X9_matchingCost rfl rfl rfl (by decide +kernel) ⟨Nat.le_of_ble_eq_true rfl, Nat.le_of_ble_eq_true rfl⟩) rfl rfl gX9 rfl (Nat.le_of_ble_eq_true rfl) ⟨show cells ≤ 601024 by omega, show slots ≤ 7293034 by omega⟩ (fun r1 S1 h1 => ?_)
  obtain ⟨hR, hB⟩ := lc_matchingCost (x := 0) (y := 0) (v := 0) hI h1
  obtain ⟨p1, p2, p3, p4, p5⟩ := INV_pre hI hR
  refine tv_aload_n X dL_law_1337 rfl ?_
  refine mm_callVi (q := (RX10, TX10, 20)) X dL_law_1338 (cX10_matchingCost_ok p5) (cwV 0 X.2.2.2.2.1 gL_law_X10_matchingCost rfl rfl rfl (by decide +kernel) ⟨Nat.le_of_ble_eq_true rfl, Nat.le_of_ble_eq_true rfl⟩) rfl rfl gX10 rfl (Nat.le_of_ble_eq_true rfl) ⟨show cells ≤ 601024 by omega, show slots ≤ 7293034 by omega⟩ (fun r2 S2 h2 => ?_)
  obtain ⟨q1, h9, k9, hI9⟩ := hB r2 S2 h2
  refine tv_icmp_eq (tgt := 1467) X dL_law_1341 (by decide) (fun z1 => ?_) (fun z1 => ?_)
  rotate_left
  · exact absurd q1 z1
  refine tv_widen (k0 := cells + 2) (k1 := slots + 12) (by omega) (by omega) ?_
  refine tv_sl (L' := [(0, .ref b), (1, .ref (n0 + 0)), (2, .ref (n0 + 130)), (3, .ref (n0 + 142)), (4, .int (nI (4 * t)))]) [0, 1, 2, 3, 4] rfl ?_
  exact tail S2 n h9 k9 hI9
theorem lwc_24 {p : Program} {l : Launch} {e : Env} {s : State} {m : MethodId} {below : List Frame} {meth : Method} {c : Code} {Q : State → Prop} {D : va_G} {n0 cells slots : Nat} {n : Nat} {ft : Nat × Nat × Nat} {S : mS} {b t Ln h k : Nat} {xs : Nat → Int32} (X : tv_X p s m #[Value.ref b] meth c cL_law 9 RL wsL_law D vwCl n0 ft) (hst : l.stackTraces = false) (hX : va_X b Ln xs s s.heap) (hbl : b < s.heap.size) (hbA : ¬ tv_A n0 b) (ht : 4 * t + 4 ≤ Ln) (hL : Ln ≤ 2048) (hI : INV S S h k) (hC : cells + 2 ≤ 601024 ∧ slots + 12 ≤ 7293034) (tail : ∀ (S' : mS) (n' h' k' : Nat), INV S' S' h' k' → tv_V p l e room_1 s m #[Value.ref b] below meth c Q D vwCl n0 (cells + 2) (slots + 12) 9 1467 [(0, .ref b), (1, .ref (n0 + 0)), (2, .ref (n0 + 130)), (3, .ref (n0 + 142)), (4, .int (nI (4 * t)))] [] n' (mH n0 S')) : tv_V p l e room_1 s m #[Value.ref b] below meth c Q D vwCl n0 cells slots 9 1346 [(0, .ref b), (1, .ref (n0 + 0)), (2, .ref (n0 + 130)), (3, .ref (n0 + 142)), (4, .int (nI (4 * t)))] [] n (mH n0 S) := by
  refine tv_aload_n X dL_law_1346 rfl ?_
  refine mm_callVi (q := (RX9, TX9, 8)) X dL_law_1347 (cX9_downIfScanned_ok (INV_trok hI)) (cwV 0 X.2.2.2.2.1 gL_law_X9_downIfScanned rfl rfl rfl (by decide +kernel) ⟨Nat.le_of_ble_eq_true rfl, Nat.le_of_ble_eq_true rfl⟩) rfl rfl gX9 rfl (Nat.le_of_ble_eq_true rfl) ⟨show cells ≤ 601024 by omega, show slots ≤ 7293034 by omega⟩ (fun r1 S1 h1 => ?_)
  obtain ⟨hR, hB⟩ := lc_downIfScanned (x := 0) (y := 0) (v := 0) hI h1
  obtain ⟨p1, p2, p3, p4, p5⟩ := INV_pre hI hR
  refine tv_aload_n X dL_law_1350 rfl ?_
  refine mm_callVi (q := (RX10, TX10, 20)) X dL_law_1351 (cX10_downIfScanned_ok p5) (cwV 0 X.2.2.2.2.1 gL_law_X10_downIfScanned rfl rfl rfl (by decide +kernel) ⟨Nat.le_of_ble_eq_true rfl, Nat.le_of_ble_eq_true rfl⟩) rfl rfl gX10 rfl (Nat.le_of_ble_eq_true rfl) ⟨show cells ≤ 601024 by omega, show slots ≤ 7293034 by omega⟩ (fun r2 S2 h2 => ?_)
  obtain ⟨q1, h9, k9, hI9⟩ := hB r2 S2 h2
  refine tv_icmp_eq (tgt := 1467) X dL_law_1354 (by decide) (fun z1 => ?_) (fun z1 => ?_)
  rotate_left
  · exact absurd q1 z1
  refine tv_widen (k0 := cells + 2) (k1 := slots + 12) (by omega) (by omega) ?_
  refine tv_sl (L' := [(0, .ref b), (1, .ref (n0 + 0)), (2, .ref (n0 + 130)), (3, .ref (n0 + 142)), (4, .int (nI (4 * t)))]) [0, 1, 2, 3, 4] rfl ?_
  exact tail S2 n h9 k9 hI9
theorem lwc_25 {p : Program} {l : Launch} {e : Env} {s : State} {m : MethodId} {below : List Frame} {meth : Method} {c : Code} {Q : State → Prop} {D : va_G} {n0 cells slots : Nat} {n : Nat} {ft : Nat × Nat × Nat} {S : mS} {b t Ln h k : Nat} {xs : Nat → Int32} (X : tv_X p s m #[Value.ref b] meth c cL_law 9 RL wsL_law D vwCl n0 ft) (hst : l.stackTraces = false) (hX : va_X b Ln xs s s.heap) (hbl : b < s.heap.size) (hbA : ¬ tv_A n0 b) (ht : 4 * t + 4 ≤ Ln) (hL : Ln ≤ 2048) (hI : INV S S h k) (hC : cells + 2 ≤ 601024 ∧ slots + 12 ≤ 7293034) (tail : ∀ (S' : mS) (n' h' k' : Nat), INV S' S' h' k' → tv_V p l e room_1 s m #[Value.ref b] below meth c Q D vwCl n0 (cells + 2) (slots + 12) 9 1467 [(0, .ref b), (1, .ref (n0 + 0)), (2, .ref (n0 + 130)), (3, .ref (n0 + 142)), (4, .int (nI (4 * t)))] [] n' (mH n0 S')) : tv_V p l e room_1 s m #[Value.ref b] below meth c Q D vwCl n0 cells slots 9 1359 [(0, .ref b), (1, .ref (n0 + 0)), (2, .ref (n0 + 130)), (3, .ref (n0 + 142)), (4, .int (nI (4 * t)))] [] n (mH n0 S) := by
  refine tv_aload_n X dL_law_1359 rfl ?_
  refine mm_callVi (q := (RX9, TX9, 8)) X dL_law_1360 (cX9_frames_ok) (cwV 0 X.2.2.2.2.1 gL_law_X9_frames rfl rfl rfl (by decide +kernel) ⟨Nat.le_of_ble_eq_true rfl, Nat.le_of_ble_eq_true rfl⟩) rfl rfl gX9 rfl (Nat.le_of_ble_eq_true rfl) ⟨show cells ≤ 601024 by omega, show slots ≤ 7293034 by omega⟩ (fun r1 S1 h1 => ?_)
  obtain ⟨hR, hB⟩ := lc_frames (x := 0) (y := 0) (v := 0) hI h1
  obtain ⟨p1, p2, p3, p4, p5⟩ := INV_pre hI hR
  refine tv_aload_n X dL_law_1363 rfl ?_
  refine mm_callVi (q := (RX10, TX10, 20)) X dL_law_1364 (cX10_frames_ok) (cwV 0 X.2.2.2.2.1 gL_law_X10_frames rfl rfl rfl (by decide +kernel) ⟨Nat.le_of_ble_eq_true rfl, Nat.le_of_ble_eq_true rfl⟩) rfl rfl gX10 rfl (Nat.le_of_ble_eq_true rfl) ⟨show cells ≤ 601024 by omega, show slots ≤ 7293034 by omega⟩ (fun r2 S2 h2 => ?_)
  obtain ⟨q1, h9, k9, hI9⟩ := hB r2 S2 h2
  refine tv_icmp_eq (tgt := 1467) X dL_law_1367 (by decide) (fun z1 => ?_) (fun z1 => ?_)
  rotate_left
  · exact absurd q1 z1
  refine tv_widen (k0 := cells + 2) (k1 := slots + 12) (by omega) (by omega) ?_
  refine tv_sl (L' := [(0, .ref b), (1, .ref (n0 + 0)), (2, .ref (n0 + 130)), (3, .ref (n0 + 142)), (4, .int (nI (4 * t)))]) [0, 1, 2, 3, 4] rfl ?_
  exact tail S2 n h9 k9 hI9
theorem lwc_26 {p : Program} {l : Launch} {e : Env} {s : State} {m : MethodId} {below : List Frame} {meth : Method} {c : Code} {Q : State → Prop} {D : va_G} {n0 cells slots : Nat} {n : Nat} {ft : Nat × Nat × Nat} {S : mS} {b t Ln h k : Nat} {xs : Nat → Int32} (X : tv_X p s m #[Value.ref b] meth c cL_law 9 RL wsL_law D vwCl n0 ft) (hst : l.stackTraces = false) (hX : va_X b Ln xs s s.heap) (hbl : b < s.heap.size) (hbA : ¬ tv_A n0 b) (ht : 4 * t + 4 ≤ Ln) (hL : Ln ≤ 2048) (hI : INV S S h k) (hC : cells + 2 ≤ 601024 ∧ slots + 12 ≤ 7293034) (tail : ∀ (S' : mS) (n' h' k' : Nat), INV S' S' h' k' → tv_V p l e room_1 s m #[Value.ref b] below meth c Q D vwCl n0 (cells + 2) (slots + 12) 9 1467 [(0, .ref b), (1, .ref (n0 + 0)), (2, .ref (n0 + 130)), (3, .ref (n0 + 142)), (4, .int (nI (4 * t)))] [] n' (mH n0 S')) : tv_V p l e room_1 s m #[Value.ref b] below meth c Q D vwCl n0 cells slots 9 1372 [(0, .ref b), (1, .ref (n0 + 0)), (2, .ref (n0 + 130)), (3, .ref (n0 + 142)), (4, .int (nI (4 * t)))] [] n (mH n0 S) := by
  refine tv_aload_n X dL_law_1372 rfl ?_
  refine mm_callVi (q := (RX9, TX9, 8)) X dL_law_1373 (cX9_downs_ok) (cwV 0 X.2.2.2.2.1 gL_law_X9_downs rfl rfl rfl (by decide +kernel) ⟨Nat.le_of_ble_eq_true rfl, Nat.le_of_ble_eq_true rfl⟩) rfl rfl gX9 rfl (Nat.le_of_ble_eq_true rfl) ⟨show cells ≤ 601024 by omega, show slots ≤ 7293034 by omega⟩ (fun r1 S1 h1 => ?_)
  obtain ⟨hR, hB⟩ := lc_downs (x := 0) (y := 0) (v := 0) hI h1
  obtain ⟨p1, p2, p3, p4, p5⟩ := INV_pre hI hR
  refine tv_aload_n X dL_law_1376 rfl ?_
  refine mm_callVi (q := (RX10, TX10, 20)) X dL_law_1377 (cX10_downs_ok) (cwV 0 X.2.2.2.2.1 gL_law_X10_downs rfl rfl rfl (by decide +kernel) ⟨Nat.le_of_ble_eq_true rfl, Nat.le_of_ble_eq_true rfl⟩) rfl rfl gX10 rfl (Nat.le_of_ble_eq_true rfl) ⟨show cells ≤ 601024 by omega, show slots ≤ 7293034 by omega⟩ (fun r2 S2 h2 => ?_)
  obtain ⟨q1, h9, k9, hI9⟩ := hB r2 S2 h2
  refine tv_icmp_eq (tgt := 1467) X dL_law_1380 (by decide) (fun z1 => ?_) (fun z1 => ?_)
  rotate_left
  · exact absurd q1 z1
  refine tv_widen (k0 := cells + 2) (k1 := slots + 12) (by omega) (by omega) ?_
  refine tv_sl (L' := [(0, .ref b), (1, .ref (n0 + 0)), (2, .ref (n0 + 130)), (3, .ref (n0 + 142)), (4, .int (nI (4 * t)))]) [0, 1, 2, 3, 4] rfl ?_
  exact tail S2 n h9 k9 hI9
theorem lwc_27 {p : Program} {l : Launch} {e : Env} {s : State} {m : MethodId} {below : List Frame} {meth : Method} {c : Code} {Q : State → Prop} {D : va_G} {n0 cells slots : Nat} {n : Nat} {ft : Nat × Nat × Nat} {S : mS} {b t Ln h k : Nat} {xs : Nat → Int32} (X : tv_X p s m #[Value.ref b] meth c cL_law 9 RL wsL_law D vwCl n0 ft) (hst : l.stackTraces = false) (hX : va_X b Ln xs s s.heap) (hbl : b < s.heap.size) (hbA : ¬ tv_A n0 b) (ht : 4 * t + 4 ≤ Ln) (hL : Ln ≤ 2048) (hI : INV S S h k) (hC : cells + 2 ≤ 601024 ∧ slots + 12 ≤ 7293034) (tail : ∀ (S' : mS) (n' h' k' : Nat), INV S' S' h' k' → tv_V p l e room_1 s m #[Value.ref b] below meth c Q D vwCl n0 (cells + 2) (slots + 12) 9 1467 [(0, .ref b), (1, .ref (n0 + 0)), (2, .ref (n0 + 130)), (3, .ref (n0 + 142)), (4, .int (nI (4 * t)))] [] n' (mH n0 S')) : tv_V p l e room_1 s m #[Value.ref b] below meth c Q D vwCl n0 cells slots 9 1385 [(0, .ref b), (1, .ref (n0 + 0)), (2, .ref (n0 + 130)), (3, .ref (n0 + 142)), (4, .int (nI (4 * t)))] [] n (mH n0 S) := by
  refine tv_aload_n X dL_law_1385 rfl ?_
  refine mm_callVi (q := (RX9, TX9, 8)) X dL_law_1386 (cX9_ups_ok) (cwV 0 X.2.2.2.2.1 gL_law_X9_ups rfl rfl rfl (by decide +kernel) ⟨Nat.le_of_ble_eq_true rfl, Nat.le_of_ble_eq_true rfl⟩) rfl rfl gX9 rfl (Nat.le_of_ble_eq_true rfl) ⟨show cells ≤ 601024 by omega, show slots ≤ 7293034 by omega⟩ (fun r1 S1 h1 => ?_)
  obtain ⟨hR, hB⟩ := lc_ups (x := 0) (y := 0) (v := 0) hI h1
  obtain ⟨p1, p2, p3, p4, p5⟩ := INV_pre hI hR
  refine tv_aload_n X dL_law_1389 rfl ?_
  refine mm_callVi (q := (RX10, TX10, 20)) X dL_law_1390 (cX10_ups_ok) (cwV 0 X.2.2.2.2.1 gL_law_X10_ups rfl rfl rfl (by decide +kernel) ⟨Nat.le_of_ble_eq_true rfl, Nat.le_of_ble_eq_true rfl⟩) rfl rfl gX10 rfl (Nat.le_of_ble_eq_true rfl) ⟨show cells ≤ 601024 by omega, show slots ≤ 7293034 by omega⟩ (fun r2 S2 h2 => ?_)
  obtain ⟨q1, h9, k9, hI9⟩ := hB r2 S2 h2
  refine tv_icmp_eq (tgt := 1467) X dL_law_1393 (by decide) (fun z1 => ?_) (fun z1 => ?_)
  rotate_left
  · exact absurd q1 z1
  refine tv_widen (k0 := cells + 2) (k1 := slots + 12) (by omega) (by omega) ?_
  refine tv_sl (L' := [(0, .ref b), (1, .ref (n0 + 0)), (2, .ref (n0 + 130)), (3, .ref (n0 + 142)), (4, .int (nI (4 * t)))]) [0, 1, 2, 3, 4] rfl ?_
  exact tail S2 n h9 k9 hI9
theorem lwc_29 {p : Program} {l : Launch} {e : Env} {s : State} {m : MethodId} {below : List Frame} {meth : Method} {c : Code} {Q : State → Prop} {D : va_G} {n0 cells slots : Nat} {n : Nat} {ft : Nat × Nat × Nat} {S : mS} {b t Ln h k : Nat} {xs : Nat → Int32} (X : tv_X p s m #[Value.ref b] meth c cL_law 9 RL wsL_law D vwCl n0 ft) (hst : l.stackTraces = false) (hX : va_X b Ln xs s s.heap) (hbl : b < s.heap.size) (hbA : ¬ tv_A n0 b) (ht : 4 * t + 4 ≤ Ln) (hL : Ln ≤ 2048) (hI : INV S S h k) (hC : cells + 2 ≤ 601024 ∧ slots + 12 ≤ 7293034) (tail : ∀ (S' : mS) (n' h' k' : Nat), INV S' S' h' k' → tv_V p l e room_1 s m #[Value.ref b] below meth c Q D vwCl n0 (cells + 2) (slots + 12) 9 1467 [(0, .ref b), (1, .ref (n0 + 0)), (2, .ref (n0 + 130)), (3, .ref (n0 + 142)), (4, .int (nI (4 * t)))] [] n' (mH n0 S')) : tv_V p l e room_1 s m #[Value.ref b] below meth c Q D vwCl n0 cells slots 9 1441 [(0, .ref b), (1, .ref (n0 + 0)), (2, .ref (n0 + 130)), (3, .ref (n0 + 142)), (4, .int (nI (4 * t)))] [] n (mH n0 S) := by
  refine tv_aload_n X dL_law_1441 rfl ?_
  refine mm_callVi (q := (RX9, TX9, 8)) X dL_law_1442 (cX9_savedStates_ok) (cwV 0 X.2.2.2.2.1 gL_law_X9_savedStates rfl rfl rfl (by decide +kernel) ⟨Nat.le_of_ble_eq_true rfl, Nat.le_of_ble_eq_true rfl⟩) rfl rfl gX9 rfl (Nat.le_of_ble_eq_true rfl) ⟨show cells ≤ 601024 by omega, show slots ≤ 7293034 by omega⟩ (fun r1 S1 h1 => ?_)
  obtain ⟨hR, hB⟩ := lc_savedStates (x := 0) (y := 0) (v := 0) hI h1
  obtain ⟨p1, p2, p3, p4, p5⟩ := INV_pre hI hR
  refine tv_aload_n X dL_law_1445 rfl ?_
  refine mm_callVi (q := (RX10, TX10, 20)) X dL_law_1446 (cX10_savedStates_ok) (cwV 0 X.2.2.2.2.1 gL_law_X10_savedStates rfl rfl rfl (by decide +kernel) ⟨Nat.le_of_ble_eq_true rfl, Nat.le_of_ble_eq_true rfl⟩) rfl rfl gX10 rfl (Nat.le_of_ble_eq_true rfl) ⟨show cells ≤ 601024 by omega, show slots ≤ 7293034 by omega⟩ (fun r2 S2 h2 => ?_)
  obtain ⟨q1, h9, k9, hI9⟩ := hB r2 S2 h2
  refine tv_icmp_eq (tgt := 1467) X dL_law_1449 (by decide) (fun z1 => ?_) (fun z1 => ?_)
  rotate_left
  · exact absurd q1 z1
  refine tv_widen (k0 := cells + 2) (k1 := slots + 12) (by omega) (by omega) ?_
  refine tv_sl (L' := [(0, .ref b), (1, .ref (n0 + 0)), (2, .ref (n0 + 130)), (3, .ref (n0 + 142)), (4, .int (nI (4 * t)))]) [0, 1, 2, 3, 4] rfl ?_
  exact tail S2 n h9 k9 hI9
theorem lwc_30 {p : Program} {l : Launch} {e : Env} {s : State} {m : MethodId} {below : List Frame} {meth : Method} {c : Code} {Q : State → Prop} {D : va_G} {n0 cells slots : Nat} {n : Nat} {ft : Nat × Nat × Nat} {S : mS} {b t Ln h k : Nat} {xs : Nat → Int32} (X : tv_X p s m #[Value.ref b] meth c cL_law 9 RL wsL_law D vwCl n0 ft) (hst : l.stackTraces = false) (hX : va_X b Ln xs s s.heap) (hbl : b < s.heap.size) (hbA : ¬ tv_A n0 b) (ht : 4 * t + 4 ≤ Ln) (hL : Ln ≤ 2048) (hI : INV S S h k) (hC : cells + 2 ≤ 601024 ∧ slots + 12 ≤ 7293034) (tail : ∀ (S' : mS) (n' h' k' : Nat), INV S' S' h' k' → tv_V p l e room_1 s m #[Value.ref b] below meth c Q D vwCl n0 (cells + 2) (slots + 12) 9 1467 [(0, .ref b), (1, .ref (n0 + 0)), (2, .ref (n0 + 130)), (3, .ref (n0 + 142)), (4, .int (nI (4 * t)))] [] n' (mH n0 S')) : tv_V p l e room_1 s m #[Value.ref b] below meth c Q D vwCl n0 cells slots 9 1454 [(0, .ref b), (1, .ref (n0 + 0)), (2, .ref (n0 + 130)), (3, .ref (n0 + 142)), (4, .int (nI (4 * t)))] [] n (mH n0 S) := by
  refine tv_aload_n X dL_law_1454 rfl ?_
  refine mm_callVi (q := (RX9, TX9, 8)) X dL_law_1455 (cX9_textLength_ok) (cwV 0 X.2.2.2.2.1 gL_law_X9_textLength rfl rfl rfl (by decide +kernel) ⟨Nat.le_of_ble_eq_true rfl, Nat.le_of_ble_eq_true rfl⟩) rfl rfl gX9 rfl (Nat.le_of_ble_eq_true rfl) ⟨show cells ≤ 601024 by omega, show slots ≤ 7293034 by omega⟩ (fun r1 S1 h1 => ?_)
  obtain ⟨hR, hB⟩ := lc_textLength (x := 0) (y := 0) (v := 0) hI h1
  obtain ⟨p1, p2, p3, p4, p5⟩ := INV_pre hI hR
  refine tv_aload_n X dL_law_1458 rfl ?_
  refine mm_callVi (q := (RX10, TX10, 20)) X dL_law_1459 (cX10_textLength_ok) (cwV 0 X.2.2.2.2.1 gL_law_X10_textLength rfl rfl rfl (by decide +kernel) ⟨Nat.le_of_ble_eq_true rfl, Nat.le_of_ble_eq_true rfl⟩) rfl rfl gX10 rfl (Nat.le_of_ble_eq_true rfl) ⟨show cells ≤ 601024 by omega, show slots ≤ 7293034 by omega⟩ (fun r2 S2 h2 => ?_)
  obtain ⟨q1, h9, k9, hI9⟩ := hB r2 S2 h2
  refine tv_icmp_eq (tgt := 1467) X dL_law_1462 (by decide) (fun z1 => ?_) (fun z1 => ?_)
  rotate_left
  · exact absurd q1 z1
  refine tv_widen (k0 := cells + 2) (k1 := slots + 12) (by omega) (by omega) ?_
  refine tv_sl (L' := [(0, .ref b), (1, .ref (n0 + 0)), (2, .ref (n0 + 130)), (3, .ref (n0 + 142)), (4, .int (nI (4 * t)))]) [0, 1, 2, 3, 4] rfl ?_
  exact tail S2 n h9 k9 hI9

