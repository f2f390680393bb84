/-! rules for the law: longs, floats, one array of its own -/
section RL1
variable {p : Program} {l : Launch} {e : Env} {R : Room} {s : State} {m : MethodId} {args : Array Value} {below : List Frame} {meth : Method} {c : Code} {Q : State → Prop} {D : va_G} {n0 cells slots nL pc : Nat} {L L' : List (Nat × Value)} {st : List Value} {n : Nat} {h : tv_H} {cc : ByteArray} {own : String} {Ts : List Cond} {ft : tv_ft} {S : mS}
theorem tg_istore (X : tv_X p s m args meth c cc nL own Ts D vwCl n0 ft) {i : Nat} {x : Int32} (d : decode cc pc = .ok (.istore i, 2)) (hn : i < nL) (hl : (i, Value.int x) :: L.filter (fun q => !(q.1 == i) && !(q.1 + 1 == i && q.2.category == 2)) = L') (k : tv_V p l e R s m args below meth c Q D vwCl n0 cells slots nL (pc + 2) L' st n h) : tv_V p l e R s m args below meth c Q D vwCl n0 cells slots nL pc L (.int x :: st) n h := fun H locs ls hr hS hh => lv_istore X.1 X.2.1 d hh hn hl (fun ls hh2 => k H locs ls hr hS hh2)
theorem tg_istore_n (X : tv_X p s m args meth c cc nL own Ts D vwCl n0 ft) {k0 : Fin 4} {i : Nat} {x : Int32} (d : decode cc pc = .ok (.istore_n k0, 1)) (hi : (k0 : Nat) = i) (hn : i < nL) (hl : (i, Value.int x) :: L.filter (fun q => !(q.1 == i) && !(q.1 + 1 == i && q.2.category == 2)) = L') (k : tv_V p l e R s m args below meth c Q D vwCl n0 cells slots nL (pc + 1) L' st n h) : tv_V p l e R s m args below meth c Q D vwCl n0 cells slots nL pc L (.int x :: st) n h := fun H locs ls hr hS hh => lv_istore_n X.1 X.2.1 d hi hh hn hl (fun ls hh2 => k H locs ls hr hS hh2)
theorem tg_iinc (X : tv_X p s m args meth c cc nL own Ts D vwCl n0 ft) {i : Nat} {z : Int} {x v : Int32} (d : decode cc pc = .ok (.iinc i z, 3)) (hx : tv_lk L i = some (.int x)) (hv : x + Int32.ofInt z = v) (hn : i < nL) (hl : (i, Value.int v) :: L.filter (fun q => !(q.1 == i) && !(q.1 + 1 == i && q.2.category == 2)) = L') (k : tv_V p l e R s m args below meth c Q D vwCl n0 cells slots nL (pc + 3) L' st n h) : tv_V p l e R s m args below meth c Q D vwCl n0 cells slots nL pc L st n h := fun H locs ls hr hS hh => by
  obtain ⟨k1, hk1⟩ := List.getElem?_of_mem (tv_lk_mem hx)
  exact lv_iinc X.1 X.2.1 d hh hk1 hv hn hl (fun ls hh2 => k H locs ls hr hS hh2)
theorem tg_lstore (X : tv_X p s m args meth c cc nL own Ts D vwCl n0 ft) {i : Nat} {x : Int64} (d : decode cc pc = .ok (.lstore i, 2)) (hn : i + 1 < nL) (hl : (i, Value.long x) :: L.filter (fun q => !(q.1 == i) && (!(q.1 == i + 1) && !(q.1 + 1 == i && q.2.category == 2))) = L') (k : tv_V p l e R s m args below meth c Q D vwCl n0 cells slots nL (pc + 2) L' st n h) : tv_V p l e R s m args below meth c Q D vwCl n0 cells slots nL pc L (.long x :: st) n h := fun H locs ls hr hS hh => lv_lstore X.1 X.2.1 d hh hn hl (fun ls hh2 => k H locs ls hr hS hh2)
theorem tg_lstore_n (X : tv_X p s m args meth c cc nL own Ts D vwCl n0 ft) {k0 : Fin 4} {i : Nat} {x : Int64} (d : decode cc pc = .ok (.lstore_n k0, 1)) (hi : (k0 : Nat) = i) (hn : i + 1 < nL) (hl : (i, Value.long x) :: L.filter (fun q => !(q.1 == i) && (!(q.1 == i + 1) && !(q.1 + 1 == i && q.2.category == 2))) = L') (k : tv_V p l e R s m args below meth c Q D vwCl n0 cells slots nL (pc + 1) L' st n h) : tv_V p l e R s m args below meth c Q D vwCl n0 cells slots nL pc L (.long x :: st) n h := fun H locs ls hr hS hh => lv_lstore_n X.1 X.2.1 d hi hh hn hl (fun ls hh2 => k H locs ls hr hS hh2)
theorem tg_lload (X : tv_X p s m args meth c cc nL own Ts D vwCl n0 ft) {i : Nat} {x : Int64} (d : decode cc pc = .ok (.lload i, 2)) (hl : tv_lk L i = some (.long x)) (k : tv_V p l e R s m args below meth c Q D vwCl n0 cells slots nL (pc + 2) L (.long x :: st) n h) : tv_V p l e R s m args below meth c Q D vwCl n0 cells slots nL pc L st n h := fun H locs ls hr hS hh => lv_lload X.1 X.2.1 d (tv_lk_at hh hl) (k H locs ls hr hS hh)
theorem tg_lload_n (X : tv_X p s m args meth c cc nL own Ts D vwCl n0 ft) {k0 : Fin 4} {x : Int64} (d : decode cc pc = .ok (.lload_n k0, 1)) (hl : tv_lk L k0 = some (.long x)) (k : tv_V p l e R s m args below meth c Q D vwCl n0 cells slots nL (pc + 1) L (.long x :: st) n h) : tv_V p l e R s m args below meth c Q D vwCl n0 cells slots nL pc L st n h := fun H locs ls hr hS hh => lv_lload_n X.1 X.2.1 d rfl (tv_lk_at hh hl) (k H locs ls hr hS hh)
theorem tg_lmul (X : tv_X p s m args meth c cc nL own Ts D vwCl n0 ft) {x y : Int64} (d : decode cc pc = .ok (.lmul, 1)) (k : tv_V p l e R s m args below meth c Q D vwCl n0 cells slots nL (pc + 1) L (.long (x * y) :: st) n h) : tv_V p l e R s m args below meth c Q D vwCl n0 cells slots nL pc L (.long y :: .long x :: st) n h := fun H locs ls hr hS hh => lv_lmul X.1 X.2.1 d (k H locs ls hr hS hh)
theorem tg_ladd (X : tv_X p s m args meth c cc nL own Ts D vwCl n0 ft) {x y : Int64} (d : decode cc pc = .ok (.ladd, 1)) (k : tv_V p l e R s m args below meth c Q D vwCl n0 cells slots nL (pc + 1) L (.long (x + y) :: st) n h) : tv_V p l e R s m args below meth c Q D vwCl n0 cells slots nL pc L (.long y :: .long x :: st) n h := fun H locs ls hr hS hh => lv_ladd X.1 X.2.1 d (k H locs ls hr hS hh)
theorem tg_ldc2 (X : tv_X p s m args meth c cc nL own Ts D vwCl n0 ft) {ix : Nat} {v : Int64} (hc : Cond.constantLong own ix v ∈ Ts) (d : decode cc pc = .ok (.ldc2_w ix, 3)) (k : tv_V p l e R s m args below meth c Q D vwCl n0 cells slots nL (pc + 3) L (.long v :: st) n h) : tv_V p l e R s m args below meth c Q D vwCl n0 cells slots nL pc L st n h := fun H locs ls hr hS hh => lv_ldc2 X.1 X.2.1 X.2.2.2.1 (X.2.2.2.2.1 _ hc) d (k H locs ls hr hS hh)
theorem tg_lcmp (X : tv_X p s m args meth c cc nL own Ts D vwCl n0 ft) {x y : Int64} (d : decode cc pc = .ok (.lcmp, 1)) (k : tv_V p l e R s m args below meth c Q D vwCl n0 cells slots nL (pc + 1) L (.int (lg_cmp x y) :: st) n h) : tv_V p l e R s m args below meth c Q D vwCl n0 cells slots nL pc L (.long y :: .long x :: st) n h := fun H locs ls hr hS hh => W.lcmp X.1 X.2.1 d (k H locs ls hr hS hh)
theorem tg_fcmp (X : tv_X p s m args meth c cc nL own Ts D vwCl n0 ft) {x y : UInt32} {op : CmpOp} (d : decode cc pc = .ok (.fcmp op, 1)) (k : tv_V p l e R s m args below meth c Q D vwCl n0 cells slots nL (pc + 1) L (.int (Op.cmpValue (FP.fcmp x y) op) :: st) n h) : tv_V p l e R s m args below meth c Q D vwCl n0 cells slots nL pc L (.float y :: .float x :: st) n h := fun H locs ls hr hS hh => lv_fcmp X.1 X.2.1 d (k H locs ls hr hS hh)
theorem tg_lret (X : tv_X p s m args meth c cc nL own Ts D vwCl n0 ft) (hrt : meth.sig.returnType = some .long) {v : Int64} {post : Int64 → Nat × tv_H → Prop} (d : decode cc pc = .ok (.lreturn, 1)) (hp : post v (n, h)) :
    tv_V p l e R s m args below meth c (MQ below (va_Ql post (tv_B D vwCl n0) (tv_A n0)) args s cells slots (tv_A n0)) D vwCl n0 cells slots nL pc L [.long v] n h := fun H locs ls hr hS hh =>
  W.lret X.1 X.2.1 hrt (fun t ht hW => ⟨⟨v, (n, h), rfl, hp, tv_end X hr hS ht hW⟩, hS.F ht⟩) hS.2.2 d X.2.2.2.2.2.2
/-- contracts: an answer of 64 bits; a method that makes an array of its own -/
def tv_Ml (l : Launch) (y : MethodName) (ws : List Cond) (rm : Room) (mc ms : Nat) (D : va_G) (n0 : Nat) (ft : tv_ft) (As : List Value) (n : Nat) (h : tv_H) (post : Int64 → Nat × tv_H → Prop) : Prop := Met l y ws rm (tv_Pc D vwCl n0 ft As n h) (va_Ql post (tv_B D vwCl n0) (tv_A n0)) mc ms (tv_A n0)
def mMl (l : Launch) (y : MethodName) (ws : List Cond) (rm : Room) (D : va_G) (n0 : Nat) (ft : tv_ft) (As : List Value) (n : Nat) (S : mS) (post : Int64 → mS → Prop) : Prop := tv_Ml l y ws rm 0 0 D n0 ft As n (mH n0 S) (fun r u => ∃ S', u = (n, mH n0 S') ∧ post r S')
def mAi (l : Launch) (y : MethodName) (ws : List Cond) (rm : Room) (mc ms : Nat) (D : va_G) (n0 : Nat) (ft : tv_ft) (As : List Value) (n : Nat) (S : mS) (post : Int32 → mS → Prop) : Prop := tv_Mi l y ws rm mc ms D vwCl n0 ft As n (mH n0 S) (fun r u => ∃ S', u.2 = mH n0 S' ∧ post r S')
theorem tg_callSl (X : tv_X p s m args meth c cc nL own Ts D vwCl n0 ft) {y : MethodName} {ws : List Cond} {rm : Room} {mc ms index kn : Nat} {As rest st0 : List Value} {post : Int64 → Nat × tv_H → Prop} {bytes : ByteArray} {maxL : Nat} {ret : Option FieldType} (d : decode cc pc = .ok (.invokestatic index, 3)) (hM : tv_Ml l y ws rm mc ms D n0 ft As n h post) (cw : CallB R s args own index y bytes maxL ret ws rm mc ms kn ∧ (Cond.static y).before args s = true) (hn : As.length = kn) (hst : st0 = As.reverse ++ rest) (hw : (rest.map fun v => v.category).sum ≤ 8) (hR : cells + mc ≤ R.cells ∧ slots + ms ≤ R.slots)
    (kk : ∀ (r : Int64) (n1 : Nat) (h1 : tv_H), post r (n1, h1) → tv_V p l e R s m args below meth c Q D vwCl n0 (cells + mc) (slots + ms) nL (pc + 3) L (.long r :: rest) n1 h1) : tv_V p l e R s m args below meth c Q D vwCl n0 cells slots nL pc L st0 n h := fun H locs ls hr hS hh => by
  subst hst
  refine va_calll (va_runS (As := As) (rest := rest) ⟨X.1, X.2.1, X.2.2.1, X.2.2.2.1, X.2.2.2.2.1⟩ hM cw ⟨tv_blind, tv_pre X hr hS⟩ rfl hn hh.1 rfl (lv_room hw) d hR) hS (fun q _ h => h) (fun q h => h) (fun r u t H1 locs1 ht hvm hp hB hz1 hk1 hS1 => ?_)
  subst ht
  exact kk r u.1 u.2 hp _ _ ls (tv_rep.moved hvm.symm hB) hS1 hh
theorem mm_callSl (X : tv_X p s m args meth c cc nL own Ts D vwCl n0 ft) {y : MethodName} {ws : List Cond} {rm : Room} {index kn : Nat} {As rest st0 : List Value} {post : Int64 → mS → Prop} {bytes : ByteArray} {maxL : Nat} {ret : Option FieldType} (d : decode cc pc = .ok (.invokestatic index, 3)) (hM : mMl l y ws rm D n0 ft As n S post) (cw : CallB R s args own index y bytes maxL ret ws rm 0 0 kn ∧ (Cond.static y).before args s = true) (hn : As.length = kn) (hst : st0 = As.reverse ++ rest) (hw : (rest.map fun v => v.category).sum ≤ 8) (hR : cells ≤ R.cells ∧ slots ≤ R.slots)
    (kk : ∀ (r : Int64) (S' : mS), post r S' → tv_V p l e R s m args below meth c Q D vwCl n0 cells slots nL (pc + 3) L (.long r :: rest) n (mH n0 S')) : tv_V p l e R s m args below meth c Q D vwCl n0 cells slots nL pc L st0 n (mH n0 S) := by
  refine tg_callSl X d hM cw hn hst hw hR (fun r n1 h1 hp => ?_)
  obtain ⟨S', hS', hp⟩ := hp
  cases hS'
  exact kk r S' hp
theorem mm_callVf (X : tv_X p s m args meth c cc nL own Ts D vwCl n0 ft) {y : MethodName} {ws : List Cond} {rm : Room} {index b kn : Nat} {As rest st0 : List Value} {post : UInt32 → mS → Prop} {bytes : ByteArray} {maxL ci : Nat} {ret : Option FieldType} {F : (Nat → Int32) → List Value} {q : vw_C} (d : decode cc pc = .ok (.invokevirtual index, 3)) (hM : mMf l y ws rm D n0 ft (.ref (n0 + b) :: As) n S post) (cw : CallW R s args own q.1 index y bytes maxL ret ws rm 0 0 kn) (hn : As.length = kn) (hst : st0 = As.reverse ++ .ref (n0 + b) :: rest) (hg : ∀ row, mcell n0 S.2 b row = some (.inr (ci, F row))) (hc : vwCl[ci]? = some q) (hw : (rest.map fun v => v.category).sum ≤ 8) (hR : cells ≤ R.cells ∧ slots ≤ R.slots)
    (kk : ∀ (r : UInt32) (S' : mS), post r S' → tv_V p l e R s m args below meth c Q D vwCl n0 cells slots nL (pc + 3) L (.float r :: rest) n (mH n0 S')) : tv_V p l e R s m args below meth c Q D vwCl n0 cells slots nL pc L st0 n (mH n0 S) := by
  refine tv_callVf X d hM cw hn hst (mH_at.trans (hg _)) hc hw hR (fun r n1 h1 hp => ?_)
  obtain ⟨S', hS', hp⟩ := hp
  cases hS'
  exact kk r S' hp
/-- a static call of a method that makes an array of its own -/
theorem mm_callSa (X : tv_X p s m args meth c cc nL own Ts D vwCl n0 ft) {y : MethodName} {ws : List Cond} {rm : Room} {mc ms index kn : Nat} {As rest st0 : List Value} {post : Int32 → mS → Prop} {bytes : ByteArray} {maxL : Nat} {ret : Option FieldType} (d : decode cc pc = .ok (.invokestatic index, 3)) (hM : mAi l y ws rm mc ms D n0 ft As n S post) (cw : CallB R s args own index y bytes maxL ret ws rm mc ms kn ∧ (Cond.static y).before args s = true) (hn : As.length = kn) (hst : st0 = As.reverse ++ rest) (hw : (rest.map fun v => v.category).sum ≤ 8) (hR : cells + mc ≤ R.cells ∧ slots + ms ≤ R.slots)
    (kk : ∀ (r : Int32) (n1 : Nat) (S' : mS), post r S' → tv_V p l e R s m args below meth c Q D vwCl n0 (cells + mc) (slots + ms) nL (pc + 3) L (.int r :: rest) n1 (mH n0 S')) : tv_V p l e R s m args below meth c Q D vwCl n0 cells slots nL pc L st0 n (mH n0 S) := by
  refine tv_callSi X d hM cw hn hst hw hR (fun r n1 h1 hp => ?_)
  obtain ⟨S', hS', hp⟩ := hp
  dsimp only at hS'
  rw [hS']
  exact kk r n1 S' hp
end RL1
/-! the array of the law's own -/
theorem mcell_lo {n0 i : Nat} {pm : Nat → Nat} {q q' : Nat × Nat} {row : Nat → Int32} (h : Nat.beq i q.1 = false) (h' : Nat.beq i q'.1 = false) : mcell n0 (pm, q) i row = mcell n0 (pm, q') i row := by
  unfold mcell
  dsimp only
  rw [h, h']
  rfl
theorem mcell_h {n0 i : Nat} {pm : (Nat → Nat) × Nat × Nat} {row : Nat → Int32} (h : 129 < i) : mcell n0 pm i row = bif Nat.beq i pm.2.1 then mia pm.2.2 row else none := by
  obtain ⟨j, rfl⟩ : ∃ j, i = 130 + j := ⟨i - 130, by omega⟩
  have hb : ∀ k, k ≤ 129 → Nat.beq (130 + j) k = false := fun k hk => by
    cases hx : Nat.beq (130 + j) k with
    | false => rfl
    | true => have := Nat.eq_of_beq_eq_true hx; omega
  have hl : ∀ k, k ≤ 129 → Nat.ble (130 + j) k = false := fun k hk => by
    cases hx : Nat.ble (130 + j) k with
    | false => rfl
    | true => have := Nat.le_of_ble_eq_true hx; omega
  unfold mcell
  rw [hb 0 (by decide), hb 25 (by decide), hb 26 (by decide), hb 99 (by decide), hb 103 (by decide), hb 104 (by decide), hb 109 (by decide), hb 110 (by decide), hb 118 (by decide), hb 126 (by decide), hb 127 (by decide), hb 128 (by decide), hb 129 (by decide), hl 24 (by decide), hl 98 (by decide), hl 102 (by decide), hl 108 (by decide), hl 117 (by decide), hl 125 (by decide)]
  rfl
theorem beq_f {i k : Nat} (h : i ≠ k) : Nat.beq i k = false := by
  cases hx : Nat.beq i k with
  | false => rfl
  | true => exact absurd (Nat.eq_of_beq_eq_true hx) h
theorem beq_t (i : Nat) : Nat.beq i i = true := Nat.beq_refl i
theorem g_scr {n0 k N : Nat} {pm : (Nat → Nat) × Nat × Nat} (h : 129 < k) (e : pm.2 = (k, N)) (row : Nat → Int32) : mcell n0 pm k row = some (.inl (.int, (N, .inl row))) := by
  rw [mcell_h h, e]
  show (bif Nat.beq k k then mia N row else none) = _
  rw [beq_t]
  rfl
/-- another array spoken of, or none -/
def mscr (S : mS) (q : Nat × Nat) : mS := (S.1, (S.2.1, q))
theorem mH_new {n0 k N : Nat} {S : mS} (h0 : S.2.2.1 = 0) (hk : 129 < k) {f : Nat → Int32} : tv_up (mH n0 S) (n0 + k) (.inl (.int, (N, .inl f))) = mH n0 (mset (mscr S (k, N)) k f) := by
  funext a
  unfold tv_up
  by_cases ha : a = n0 + k
  · subst ha
    rw [if_pos rfl, mH_at, mset_s]
    exact (g_scr hk rfl f).symm
  · rw [if_neg ha]
    unfold mH
    cases hb : Nat.ble n0 a with
    | false => rfl
    | true =>
      have hle := Nat.le_of_ble_eq_true hb
      show mcell n0 S.2 (a - n0) (S.1 (a - n0)) = mcell n0 (S.2.1, (k, N)) (a - n0) ((mset (mscr S (k, N)) k f).1 (a - n0))
      rw [mset_n (by omega)]
      show mcell n0 (S.2.1, S.2.2) (a - n0) (S.1 (a - n0)) = mcell n0 (S.2.1, (k, N)) (a - n0) (S.1 (a - n0))
      by_cases hz : a - n0 = 0
      · rw [hz]; rfl
      · exact mcell_lo (by rw [h0]; exact beq_f hz) (beq_f (by show a - n0 ≠ k; omega))
theorem mH_drop {n0 : Nat} {S : mS} (hk : 129 < S.2.2.1) : ∀ a e', mH n0 (mscr S (0, 0)) a = some e' → ∃ e, mH n0 S a = some e ∧ tv_ce e e' := by
  intro a e' he
  refine ⟨e', ?_, tv_ce_refl⟩
  unfold mH at he ⊢
  cases hb : Nat.ble n0 a with
  | false => rw [hb] at he; cases he
  | true =>
    rw [hb] at he
    have he2 : mcell n0 (S.2.1, (0, 0)) (a - n0) (S.1 (a - n0)) = some e' := he
    show mcell n0 (S.2.1, S.2.2) (a - n0) (S.1 (a - n0)) = some e'
    by_cases hz : a - n0 = 0
    · rw [hz] at he2 ⊢; exact he2
    · by_cases h1 : 129 < a - n0
      · rw [mcell_h h1] at he2
        have he3 : (bif Nat.beq (a - n0) 0 then mia 0 (S.1 (a - n0)) else none) = some e' := he2
        rw [beq_f hz] at he3
        cases he3
      · rw [← he2]
        exact mcell_lo (beq_f (by omega)) (beq_f hz)
section RL2
variable {p : Program} {l : Launch} {e : Env} {R : Room} {s : State} {m : MethodId} {args : Array Value} {below : List Frame} {meth : Method} {c : Code} {Q : State → Prop} {D : va_G} {n0 cells slots nL pc : Nat} {L : List (Nat × Value)} {st : List Value} {n : Nat} {cc : ByteArray} {own : String} {Ts : List Cond} {ft : tv_ft} {S : mS}
theorem mm_newi (X : tv_X p s m args meth c cc nL own Ts D vwCl n0 ft) {N : Nat} {z : Int32} (d : decode cc pc = .ok (.newarray .int, 2)) (harr : Cond.arrayClass .int ∈ Ts) (h0 : S.2.2.1 = 0) (hz : z = nI N) (hN : N < 100) (hR : cells + 1 ≤ R.cells ∧ slots + N ≤ R.slots)
    (kk : ∀ k : Nat, 129 < k → tv_V p l e R s m args below meth c Q D vwCl n0 (cells + 1) (slots + N) nL (pc + 2) L (.ref (n0 + k) :: st) (n + 1) (mH n0 (mset (mscr S (k, N)) k (fun _ => 0)))) : tv_V p l e R s m args below meth c Q D vwCl n0 cells slots nL pc L (.int z :: st) n (mH n0 S) := fun H locs ls hr hS hh => by
  have h129 : mH n0 S (n0 + 129) = some (.inr (0, [.int (S.1 129 0), .int (S.1 129 1), .int (S.1 129 2), .int (S.1 129 3), .int (S.1 129 4)])) := mH_at.trans (gX0 _)
  have hlt := (hr.2.2 _ _ h129).2.lt
  rw [hr.1] at hlt
  obtain ⟨k, rfl⟩ : ∃ k, n = n0 + k := ⟨n - n0, by omega⟩
  have hk : 129 < k := by omega
  subst hz
  refine tv_newa (ty := .int) (N := N) (a0 := (N, .inl (fun _ => 0))) X d harr rfl (fun _ _ h9 => h9) (fun _ => rfl) (nI_pos (by omega)) (nI_clamp (by omega)) (by show N * 4 ≤ 536870912; omega) hR ?_ H locs ls hr hS hh
  rw [mH_new h0 hk]
  exact kk k hk
theorem mm_drop (hk : 129 < S.2.2.1) (kk : tv_V p l e R s m args below meth c Q D vwCl n0 cells slots nL pc L st n (mH n0 (mscr S (0, 0)))) : tv_V p l e R s m args below meth c Q D vwCl n0 cells slots nL pc L st n (mH n0 S) := tv_conv (mH_drop hk) kk
end RL2
/-! floats -/
theorem fcmp_0 {x : UInt32} {op : CmpOp} (h : FP.Core.fIsNaN x = false) : Op.cmpValue (FP.fcmp x x) op = 0 := by
  have e : FP.fcmp x x = some .eq := FP.Core.fcmp_self ((FP.Core.notNaN_iff32 x).mp h)
  rw [e]
  rfl
theorem mn_num {v : Nat → Int32} : FP.Core.fIsNaN (mnV v) = false := by
  unfold mnV
  by_cases h : 0 < nI (cnN (ttV v) 48)
  · rw [if_pos h]
    exact fdiv_num (fun e => by rw [e] at h; exact absurd h (by decide))
  · rw [if_neg h]
    decide +kernel
theorem lcmp_0 {x : Int64} : lg_cmp x x = 0 := by
  unfold lg_cmp
  rw [if_neg (Int64.lt_irrefl), if_pos rfl]

