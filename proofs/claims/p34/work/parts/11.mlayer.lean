/-! the state as numbers: row k of the picture is the cell n0 + k; which cell is what is fixed once both objects stand -/
abbrev mS : Type := (Nat → Nat → Int32) × (Nat → Nat) × Nat × Nat
def mset (S : mS) (k : Nat) (f : Nat → Int32) : mS := (fun q => if q = k then f else S.1 q, S.2)
theorem mset_s {S : mS} {k : Nat} {f : Nat → Int32} : (mset S k f).1 k = f := if_pos rfl
theorem mset_n {S : mS} {k q : Nat} {f : Nat → Int32} (h : q ≠ k) : (mset S k f).1 q = S.1 q := if_neg h
theorem mset_2 {S : mS} {k : Nat} {f : Nat → Int32} : (mset S k f).2 = S.2 := rfl
/-- one place of one row -/
def mupd (S : mS) (a k : Nat) (x : Int32) : mS := mset S a (upd (S.1 a) k x)
theorem mupd_ss {S : mS} {a k : Nat} {x : Int32} : (mupd S a k x).1 a k = x := by
  unfold mupd
  rw [mset_s]; exact pk_us
theorem mupd_sn {S : mS} {a k j : Nat} {x : Int32} (h : j ≠ k) : (mupd S a k x).1 a j = S.1 a j := by
  unfold mupd
  rw [mset_s]; exact pk_un h
theorem mupd_n {S : mS} {a a2 k : Nat} {x : Int32} (h : a2 ≠ a) : (mupd S a k x).1 a2 = S.1 a2 := mset_n h
theorem mupd_2 {S : mS} {a k : Nat} {x : Int32} : (mupd S a k x).2 = S.2 := rfl
/-- the block of a state: State, Panel, raws, baselines, settings, tracks, six Tracks -/
def mcS (n0 b i : Nat) (row : Nat → Int32) : Option tv_E :=
  bif Nat.beq i 0 then some (.inr (6, [.ref (n0 + (b + 1)), .ref (n0 + (b + 4)), .ref (n0 + (b + 5)), .int (row 3), .int (row 4), .int (row 5)]))
  else bif Nat.beq i 1 then some (.inr (4, [.ref (n0 + (b + 2)), .ref (n0 + (b + 3))]))
  else bif Nat.beq i 2 then some (.inl (.int, (48, .inl row)))
  else bif Nat.beq i 3 then some (.inl (.int, (48, .inl row)))
  else bif Nat.beq i 4 then some (.inl (.int, (5, .inl row)))
  else bif Nat.beq i 5 then some (.inl (.object RX8, (6, .inr (.inr (.inr (.inr (fun j => some (n0 + (b + 6 + j)))))))))
  else some (.inr (8, [.int (row 0), .int (row 1), .int (row 2), .int (row 3), .int (row 4)]))
def mia (N : Nat) (row : Nat → Int32) : Option tv_E := some (.inl (.int, (N, .inl row)))
def mcell (n0 : Nat) (pm : (Nat → Nat) × Nat × Nat) (k : Nat) (row : Nat → Int32) : Option tv_E :=
  bif Nat.beq k 0 then some (.inr (9, [.ref (n0 + 1), .ref (n0 + 13), .ref (n0 + 25), .ref (n0 + 99), .ref (n0 + 103), .ref (n0 + 109), .ref (n0 + 127), .ref (n0 + 129)]))
  else bif Nat.ble k 24 then mcS n0 (1 + 12 * ((k - 1) / 12)) ((k - 1) % 12) row
  else bif Nat.beq k 25 then some (.inr (2, [.ref (n0 + 26), .int (row 1)]))
  else bif Nat.beq k 26 then some (.inl (.object RX6, (6, .inr (.inr (.inr (.inr (fun j => some (n0 + pm.1 j))))))))
  else bif Nat.ble k 98 then mcS n0 (27 + 12 * ((k - 27) / 12)) ((k - 27) % 12) row
  else bif Nat.beq k 99 then some (.inr (5, [.ref (n0 + 100), .ref (n0 + 101), .ref (n0 + 102), .int (row 3), .int (row 4)]))
  else bif Nat.ble k 102 then mia 48 row
  else bif Nat.beq k 103 then some (.inr (1, [.ref (n0 + 104), .ref (n0 + 105), .ref (n0 + 106), .ref (n0 + 107), .ref (n0 + 108), .int (row 5)]))
  else bif Nat.beq k 104 then mia 48 row
  else bif Nat.ble k 108 then mia 6 row
  else bif Nat.beq k 109 then some (.inr (3, [.ref (n0 + 110), .ref (n0 + 117), .ref (n0 + 118), .ref (n0 + 126), .int (row 4), .int (row 5)]))
  else bif Nat.beq k 110 then some (.inl (.array .int, (6, .inr (.inr (.inr (.inr (fun j => if j < 6 then some (n0 + (111 + j)) else none)))))))
  else bif Nat.ble k 117 then mia 6 row
  else bif Nat.beq k 118 then some (.inl (.array .int, (7, .inr (.inr (.inr (.inr (fun j => if j < 7 then some (n0 + (119 + j)) else none)))))))
  else bif Nat.ble k 125 then mia 64 row
  else bif Nat.beq k 126 then mia 6 row
  else bif Nat.beq k 127 then some (.inr (7, [.ref (n0 + 128), .int (row 1)]))
  else bif Nat.beq k 128 then some (.inl (.char, (80, .inl row)))
  else bif Nat.beq k 129 then some (.inr (0, [.int (row 0), .int (row 1), .int (row 2), .int (row 3), .int (row 4)]))
  else bif Nat.beq k pm.2.1 then mia pm.2.2 row
  else none
def mH (n0 : Nat) (S : mS) : tv_H := fun a => bif Nat.ble n0 a then mcell n0 S.2 (a - n0) (S.1 (a - n0)) else none
theorem mH_at {n0 k : Nat} {S : mS} : mH n0 S (n0 + k) = mcell n0 S.2 k (S.1 k) := by
  unfold mH
  have h1 : Nat.ble n0 (n0 + k) = true := by simp
  rw [h1, Nat.add_sub_cancel_left]
  rfl
theorem mH_set {n0 k : Nat} {S : mS} {f : Nat → Int32} {e : tv_E} (he : mcell n0 S.2 k f = some e) : tv_up (mH n0 S) (n0 + k) e = mH n0 (mset S k f) := by
  funext a
  unfold tv_up
  by_cases ha : a = n0 + k
  · subst ha
    rw [if_pos rfl, mH_at, mset_s, mset_2, he]
  · rw [if_neg ha]
    unfold mH
    cases hb : Nat.ble n0 a with
    | false => rfl
    | true =>
      have hle := Nat.le_of_ble_eq_true hb
      show mcell _ _ _ _ = mcell _ _ _ _
      rw [mset_n (by omega), mset_2]
/-- which rows are the blocks of states -/
def mst (b : Nat) : Bool := Nat.beq b 1 || Nat.beq b 13 || Nat.beq b 27 || Nat.beq b 39 || Nat.beq b 51 || Nat.beq b 63 || Nat.beq b 75 || Nat.beq b 87
theorem mst_cases {b : Nat} (h : mst b = true) : b = 1 ∨ b = 13 ∨ b = 27 ∨ b = 39 ∨ b = 51 ∨ b = 63 ∨ b = 75 ∨ b = 87 := by
  simp only [mst, Bool.or_eq_true, Nat.beq_eq] at h
  omega
theorem mst_le {b : Nat} (h : mst b = true) : 1 ≤ b ∧ b ≤ 87 := by
  have := mst_cases h
  omega
theorem mcell_S {n0 b i : Nat} {pm : (Nat → Nat) × Nat × Nat} (h : mst b = true) (hi : i < 12) : mcell n0 pm (b + i) = mcS n0 b i := by
  rcases mst_cases h with rfl | rfl | rfl | rfl | rfl | rfl | rfl | rfl <;>
    (match i, hi with
     | 0, _ | 1, _ | 2, _ | 3, _ | 4, _ | 5, _ | 6, _ | 7, _ | 8, _ | 9, _ | 10, _ | 11, _ => rfl)
theorem gX6 {n0 b : Nat} {pm : (Nat → Nat) × Nat × Nat} (h : mst b = true) (row : Nat → Int32) : mcell n0 pm b row = some (.inr (6, [.ref (n0 + (b + 1)), .ref (n0 + (b + 4)), .ref (n0 + (b + 5)), .int (row 3), .int (row 4), .int (row 5)])) := congrFun (mcell_S (i := 0) h (by decide)) row
theorem gX4 {n0 b : Nat} {pm : (Nat → Nat) × Nat × Nat} (h : mst b = true) (row : Nat → Int32) : mcell n0 pm (b + 1) row = some (.inr (4, [.ref (n0 + (b + 2)), .ref (n0 + (b + 3))])) := congrFun (mcell_S (i := 1) h (by decide)) row
theorem gRaw {n0 b : Nat} {pm : (Nat → Nat) × Nat × Nat} (h : mst b = true) (row : Nat → Int32) : mcell n0 pm (b + 2) row = some (.inl (.int, (48, .inl row))) := congrFun (mcell_S (i := 2) h (by decide)) row
theorem gBas {n0 b : Nat} {pm : (Nat → Nat) × Nat × Nat} (h : mst b = true) (row : Nat → Int32) : mcell n0 pm (b + 3) row = some (.inl (.int, (48, .inl row))) := congrFun (mcell_S (i := 3) h (by decide)) row
theorem gSet {n0 b : Nat} {pm : (Nat → Nat) × Nat × Nat} (h : mst b = true) (row : Nat → Int32) : mcell n0 pm (b + 4) row = some (.inl (.int, (5, .inl row))) := congrFun (mcell_S (i := 4) h (by decide)) row
theorem gTrs {n0 b : Nat} {pm : (Nat → Nat) × Nat × Nat} (h : mst b = true) (row : Nat → Int32) : mcell n0 pm (b + 5) row = some (.inl (.object RX8, (6, .inr (.inr (.inr (.inr (fun j => some (n0 + (b + 6 + j))))))))) := congrFun (mcell_S (i := 5) h (by decide)) row
theorem gX8 {n0 b j : Nat} {pm : (Nat → Nat) × Nat × Nat} (h : mst b = true) (hj : j < 6) (row : Nat → Int32) : mcell n0 pm (b + 6 + j) row = some (.inr (8, [.int (row 0), .int (row 1), .int (row 2), .int (row 3), .int (row 4)])) := by
  rw [Nat.add_assoc]
  rw [mcell_S (i := 6 + j) h (by omega)]
  match j, hj with
  | 0, _ | 1, _ | 2, _ | 3, _ | 4, _ | 5, _ => rfl
section MLR
variable {p : Program} {l : Launch} {e : Env} {R : Room} {s : State} {m : MethodId} {args : Array Value} {below : List Frame} {meth : Method} {c : Code} {Q : State → Prop} {D : va_G} {n0 cells slots nL pc : Nat} {L : List (Nat × Value)} {st : List Value} {n : Nat} {S : mS} {cc : ByteArray} {own : String} {Ts : List Cond} {ft : tv_ft}
theorem mm_getf (X : tv_X p s m args meth c cc nL own Ts D vwCl n0 ft) {C : String} {T : u_T} {N ci index a : Nat} {F : (Nat → Int32) → List Value} (d : decode cc pc = .ok (.getfield index, 3)) (hg : ∀ row, mcell n0 S.2 a row = some (.inr (ci, F row))) (hin : ∀ w ∈ u_ws C T N, w ∈ Ts) (hc : vwCl[ci]? = some (C, T, N)) (k : Nat) (hk : k < N) (hlink : Cond.fieldLink own index (T k).1 (T k).2.1 (T k).2.2.1 ∈ Ts) {v : Value} (hv : (F (S.1 a))[k]? = some v)
    (kk : tv_V p l e R s m args below meth c Q D vwCl n0 cells slots nL (pc + 3) L (v :: st) n (mH n0 S)) : tv_V p l e R s m args below meth c Q D vwCl n0 cells slots nL pc L (.ref (n0 + a) :: st) n (mH n0 S) :=
  tv_getf X d hin hc k hk hlink (mH_at.trans (hg _)) hv kk
theorem mm_getfN (X : tv_X p s m args meth c cc nL own Ts D vwCl n0 ft) {C host : String} {T : u_T} {N ci index a : Nat} {F : (Nat → Int32) → List Value} (d : decode cc pc = .ok (.getfield index, 3)) (hg : ∀ row, mcell n0 S.2 a row = some (.inr (ci, F row))) (hin : ∀ w ∈ u_ws C T N, w ∈ Ts) (hc : vwCl[ci]? = some (C, T, N)) (k : Nat) (hk : k < N) {i : Nat} (hlink : tv_nF[i]? = some (own, index, (T k).1, (T k).2.1, (T k).2.2.1, host)) {v : Value} (hv : (F (S.1 a))[k]? = some v)
    (kk : tv_V p l e R s m args below meth c Q D vwCl n0 cells slots nL (pc + 3) L (v :: st) n (mH n0 S)) : tv_V p l e R s m args below meth c Q D vwCl n0 cells slots nL pc L (.ref (n0 + a) :: st) n (mH n0 S) :=
  tv_getfN X d hin hc k hk hlink (mH_at.trans (hg _)) hv kk
theorem mm_put (X : tv_X p s m args meth c cc nL own Ts D vwCl n0 ft) {C : String} {T : u_T} {N ci index a : Nat} {F : (Nat → Int32) → List Value} (d : decode cc pc = .ok (.putfield index, 3)) (hg : ∀ row, mcell n0 S.2 a row = some (.inr (ci, F row))) (hin : ∀ w ∈ u_ws C T N, w ∈ Ts) (hc : vwCl[ci]? = some (C, T, N)) (ty0 : Nat → FieldType) (hty : ∀ k, k < N → parseFieldDescriptor (T k).2.2.1 = some (ty0 k)) (hnm : ∀ a, a < N → ∀ b, b < N → a ≠ b → (T a).2.1 ≠ (T b).2.1) (k : Nat) (hk : k < N) (hlink : Cond.fieldLink own index (T k).1 (T k).2.1 (T k).2.2.1 ∈ Ts) (hfin : (T k).2.2.2 = false) {x : Int32} (hn : narrow (ty0 k) (.int x) = .int x) (hfit : fits (ty0 k) (.int x) = true) (hl : k < (F (S.1 a)).length) (hF : (F (S.1 a)).set k (.int x) = F (upd (S.1 a) k x))
    (kk : tv_V p l e R s m args below meth c Q D vwCl n0 cells slots nL (pc + 3) L st n (mH n0 (mupd S a k x))) : tv_V p l e R s m args below meth c Q D vwCl n0 cells slots nL pc L (.int x :: .ref (n0 + a) :: st) n (mH n0 S) := by
  refine tv_put X d hin hc ty0 hty hnm k hk hlink (mH_at.trans (hg _)) (Or.inl hfin) hn hfit hl ?_
  rw [hF, mH_set (hg _)]
  exact kk
theorem mm_iald (X : tv_X p s m args meth c cc nL own Ts D vwCl n0 ft) {a N : Nat} (d : decode cc pc = .ok (.iaload, 1)) (hg : ∀ row, mcell n0 S.2 a row = some (.inl (.int, (N, .inl row)))) {i : Int32} (j : Nat) (hi : i = nI j) (hj : j < N) (hN : N < 2 ^ 31 := by decide)
    (kk : tv_V p l e R s m args below meth c Q D vwCl n0 cells slots nL (pc + 1) L (.int (S.1 a j) :: st) n (mH n0 S)) : tv_V p l e R s m args below meth c Q D vwCl n0 cells slots nL pc L (.int i :: .ref (n0 + a) :: st) n (mH n0 S) := by
  subst hi
  refine tv_iald X d (mH_at.trans (hg _)) (vp_in_nI hj hN) ?_
  rw [nI_clamp (Nat.lt_trans hj hN)]
  exact kk
theorem mm_iast (X : tv_X p s m args meth c cc nL own Ts D vwCl n0 ft) {a N : Nat} (d : decode cc pc = .ok (.iastore, 1)) (hg : ∀ row, mcell n0 S.2 a row = some (.inl (.int, (N, .inl row)))) {i x : Int32} (j : Nat) (hi : i = nI j) (hj : j < N) (hN : N < 2 ^ 31 := by decide)
    (kk : tv_V p l e R s m args below meth c Q D vwCl n0 cells slots nL (pc + 1) L st n (mH n0 (mupd S a j x))) : tv_V p l e R s m args below meth c Q D vwCl n0 cells slots nL pc L (.int x :: .int i :: .ref (n0 + a) :: st) n (mH n0 S) := by
  subst hi
  refine tv_iast X d (mH_at.trans (hg _)) (vp_in_nI hj hN) ?_
  rw [nI_clamp (Nat.lt_trans hj hN), mH_set (hg _)]
  exact kk
theorem mm_cald (X : tv_X p s m args meth c cc nL own Ts D vwCl n0 ft) {a N : Nat} (d : decode cc pc = .ok (.caload, 1)) (hg : ∀ row, mcell n0 S.2 a row = some (.inl (.char, (N, .inl row)))) {i : Int32} (j : Nat) (hi : i = nI j) (hj : j < N) (hN : N < 2 ^ 31 := by decide)
    (kk : tv_V p l e R s m args below meth c Q D vwCl n0 cells slots nL (pc + 1) L (.int (S.1 a j) :: st) n (mH n0 S)) : tv_V p l e R s m args below meth c Q D vwCl n0 cells slots nL pc L (.int i :: .ref (n0 + a) :: st) n (mH n0 S) := by
  subst hi
  refine tv_cald X d (mH_at.trans (hg _)) (vp_in_nI hj hN) ?_
  rw [nI_clamp (Nat.lt_trans hj hN)]
  exact kk
theorem mm_cast (X : tv_X p s m args meth c cc nL own Ts D vwCl n0 ft) {a N : Nat} (d : decode cc pc = .ok (.castore, 1)) (hg : ∀ row, mcell n0 S.2 a row = some (.inl (.char, (N, .inl row)))) {i x : Int32} (j : Nat) (hi : i = nI j) (hj : j < N) (hN : N < 2 ^ 31 := by decide)
    (kk : tv_V p l e R s m args below meth c Q D vwCl n0 cells slots nL (pc + 1) L st n (mH n0 (mupd S a j (vp_nar .char x)))) : tv_V p l e R s m args below meth c Q D vwCl n0 cells slots nL pc L (.int x :: .int i :: .ref (n0 + a) :: st) n (mH n0 S) := by
  subst hi
  refine tv_cast X d (mH_at.trans (hg _)) (vp_in_nI hj hN) ?_
  rw [nI_clamp (Nat.lt_trans hj hN), mH_set (hg _)]
  exact kk
theorem mm_aald (X : tv_X p s m args meth c cc nL own Ts D vwCl n0 ft) {a N : Nat} {ty : FieldType} {f : Nat → Option Nat} (d : decode cc pc = .ok (.aaload, 1)) (hg : ∀ row, mcell n0 S.2 a row = some (.inl (ty, (N, .inr (.inr (.inr (.inr f))))))) (hty : ty.isReference = true) {i : Int32} (j : Nat) (hi : i = nI j) (hj : j < N) {b : Nat} (hb : f j = some b) (hN : N < 2 ^ 31 := by decide)
    (kk : tv_V p l e R s m args below meth c Q D vwCl n0 cells slots nL (pc + 1) L (.ref b :: st) n (mH n0 S)) : tv_V p l e R s m args below meth c Q D vwCl n0 cells slots nL pc L (.int i :: .ref (n0 + a) :: st) n (mH n0 S) := by
  subst hi
  refine tv_aald X d (mH_at.trans (hg _)) hty (vp_in_nI hj hN) ?_
  rw [nI_clamp (Nat.lt_trans hj hN), hb]
  exact kk
theorem mm_copyi (X : tv_X p s m args meth c cc nL own Ts D vwCl n0 ft) {index : Nat} (d : decode cc pc = .ok (.invokestatic index, 3)) (hlink : Cond.methodLink own index arraycopyName ∈ Ts) (hnat : Cond.native arraycopyName ∈ Ts) (hstat : Cond.static arraycopyName ∈ Ts) (hini : Cond.initialized "java/lang/System" ∈ Ts)
    {a0 a N : Nat} (hg0 : ∀ row, mcell n0 S.2 a0 row = some (.inl (.int, (N, .inl row)))) (hg1 : ∀ row, mcell n0 S.2 a row = some (.inl (.int, (N, .inl row)))) {z : Int32} (hz : z = nI N) (hN : N < 2 ^ 31)
    (hR : 1 ≤ R.frames ∧ (st.map fun v => v.category).sum + (nativeFrameWords "java/lang/System" "arraycopy" 5 + 11) ≤ R.locals)
    (kk : tv_V p l e R s m args below meth c Q D vwCl n0 cells slots nL (pc + 3) L st n (mH n0 (mset S a (fun k => if k < N then S.1 a0 k else S.1 a k)))) : tv_V p l e R s m args below meth c Q D vwCl n0 cells slots nL pc L (.int z :: .int 0 :: .ref (n0 + a) :: .int 0 :: .ref (n0 + a0) :: st) n (mH n0 S) := by
  subst hz
  have hc : (nI N).toNatClampNeg = N := nI_clamp hN
  have h0 : (0 : Int32).toNatClampNeg = 0 := rfl
  refine tv_copyi X d hlink hnat hstat hini (mH_at.trans (hg0 _)) (mH_at.trans (hg1 _)) rfl (by decide) (by decide) (nI_pos hN) (by rw [hc, h0]; omega) (by rw [hc, h0]; omega) (fun i _ => rfl) hR ?_
  rw [hc, h0, mH_set (hg1 _)]
  have e1 : va_cpy (S.1 a0) (S.1 a) 0 0 N = fun k => if k < N then S.1 a0 k else S.1 a k := by
    funext k
    unfold va_cpy
    by_cases h : k < N
    · rw [if_pos ⟨Nat.zero_le _, by omega⟩, if_pos h, Nat.zero_add, Nat.sub_zero]
    · rw [if_neg (by omega), if_neg h]
  rw [e1]
  exact kk
theorem mm_callVi (X : tv_X p s m args meth c cc nL own Ts D vwCl n0 ft) {y : MethodName} {ws : List Cond} {rm : Room} {index b kn : Nat} {As rest st0 : List Value} {post : Int32 → mS → Prop} {bytes : ByteArray} {maxL ci : Nat} {ret : Option FieldType} {F : (Nat → Int32) → List Value} {q : vw_C} (d : decode cc pc = .ok (.invokevirtual index, 3)) (hM : tv_Mi l y ws rm 0 0 D vwCl n0 ft (.ref (n0 + b) :: As) n (mH n0 S) (fun r u => ∃ S', u = (n, mH n0 S') ∧ post r S')) (cw : CallW R s args own q.1 index y bytes maxL ret ws rm 0 0 kn) (hn : As.length = kn) (hst : st0 = As.reverse ++ .ref (n0 + b) :: rest) (hg : ∀ row, mcell n0 S.2 b row = some (.inr (ci, F row))) (hc : vwCl[ci]? = some q) (hw : (rest.map fun v => v.category).sum ≤ 8) (hR : cells ≤ R.cells ∧ slots ≤ R.slots)
    (kk : ∀ (r : Int32) (S' : mS), post r S' → tv_V p l e R s m args below meth c Q D vwCl n0 cells slots nL (pc + 3) L (.int r :: rest) n (mH n0 S')) : tv_V p l e R s m args below meth c Q D vwCl n0 cells slots nL pc L st0 n (mH n0 S) := by
  refine tv_callVi X d hM cw hn hst (mH_at.trans (hg _)) hc hw hR (fun r n1 h1 hp => ?_)
  obtain ⟨S', hS', hp⟩ := hp
  cases hS'
  exact kk r S' hp
theorem mm_callVv (X : tv_X p s m args meth c cc nL own Ts D vwCl n0 ft) {y : MethodName} {ws : List Cond} {rm : Room} {index b kn : Nat} {As rest st0 : List Value} {post : mS → Prop} {bytes : ByteArray} {maxL ci : Nat} {ret : Option FieldType} {F : (Nat → Int32) → List Value} {q : vw_C} (d : decode cc pc = .ok (.invokevirtual index, 3)) (hM : tv_Mv l y ws rm 0 0 D vwCl n0 ft (.ref (n0 + b) :: As) n (mH n0 S) (fun u => ∃ S', u = (n, mH n0 S') ∧ post S')) (cw : CallW R s args own q.1 index y bytes maxL ret ws rm 0 0 kn) (hn : As.length = kn) (hst : st0 = As.reverse ++ .ref (n0 + b) :: rest) (hg : ∀ row, mcell n0 S.2 b row = some (.inr (ci, F row))) (hc : vwCl[ci]? = some q) (hw : (rest.map fun v => v.category).sum ≤ 8) (hR : cells ≤ R.cells ∧ slots ≤ R.slots)
    (kk : ∀ (S' : mS), post S' → tv_V p l e R s m args below meth c Q D vwCl n0 cells slots nL (pc + 3) L rest n (mH n0 S')) : tv_V p l e R s m args below meth c Q D vwCl n0 cells slots nL pc L st0 n (mH n0 S) := by
  refine tv_callVv X d hM cw hn hst (mH_at.trans (hg _)) hc hw hR (fun n1 h1 hp => ?_)
  obtain ⟨S', hS', hp⟩ := hp
  cases hS'
  exact kk S' hp
theorem mm_callSi (X : tv_X p s m args meth c cc nL own Ts D vwCl n0 ft) {y : MethodName} {ws : List Cond} {rm : Room} {index kn : Nat} {As rest st0 : List Value} {post : Int32 → mS → Prop} {bytes : ByteArray} {maxL : Nat} {ret : Option FieldType} (d : decode cc pc = .ok (.invokestatic index, 3)) (hM : tv_Mi l y ws rm 0 0 D vwCl n0 ft As n (mH n0 S) (fun r u => ∃ S', u = (n, mH n0 S') ∧ post r S')) (cw : CallB R s args own index y bytes maxL ret ws rm 0 0 kn ∧ (Cond.static y).before args s = true) (hn : As.length = kn) (hst : st0 = As.reverse ++ rest) (hw : (rest.map fun v => v.category).sum ≤ 8) (hR : cells ≤ R.cells ∧ slots ≤ R.slots)
    (kk : ∀ (r : Int32) (S' : mS), post r S' → tv_V p l e R s m args below meth c Q D vwCl n0 cells slots nL (pc + 3) L (.int r :: rest) n (mH n0 S')) : tv_V p l e R s m args below meth c Q D vwCl n0 cells slots nL pc L st0 n (mH n0 S) := by
  refine tv_callSi X d hM cw hn hst hw hR (fun r n1 h1 hp => ?_)
  obtain ⟨S', hS', hp⟩ := hp
  cases hS'
  exact kk r S' hp
theorem mm_callSNi (X : tv_X p s m args meth c cc nL own Ts D vwCl n0 ft) {y : MethodName} {ws : List Cond} {rm : Room} {index kn : Nat} {As rest st0 : List Value} {post : Int32 → mS → Prop} {bytes : ByteArray} {maxL : Nat} {ret : Option FieldType} {host : String} (d : decode cc pc = .ok (.invokestatic index, 3)) (hM : tv_Mi l y ws rm 0 0 D vwCl n0 ft As n (mH n0 S) (fun r u => ∃ S', u = (n, mH n0 S') ∧ post r S')) (cw : va_CN R s args own index y host bytes maxL ret ws rm 0 0 kn ∧ (Cond.static y).before args s = true) (hn : As.length = kn) (hst : st0 = As.reverse ++ rest) (hw : (rest.map fun v => v.category).sum ≤ 8) (hR : cells ≤ R.cells ∧ slots ≤ R.slots)
    (kk : ∀ (r : Int32) (S' : mS), post r S' → tv_V p l e R s m args below meth c Q D vwCl n0 cells slots nL (pc + 3) L (.int r :: rest) n (mH n0 S')) : tv_V p l e R s m args below meth c Q D vwCl n0 cells slots nL pc L st0 n (mH n0 S) := by
  refine tv_callSNi X d hM cw hn hst hw hR (fun r n1 h1 hp => ?_)
  obtain ⟨S', hS', hp⟩ := hp
  cases hS'
  exact kk r S' hp
end MLR
/-- contracts in numbers: an int (or boolean) method, a void one -/
def mMi (l : Launch) (y : MethodName) (ws : List Cond) (rm : Room) (D : va_G) (n0 : Nat) (ft : tv_ft) (As : List Value) (n : Nat) (S : mS) (post : Int32 → mS → Prop) : Prop := tv_Mi l y ws rm 0 0 D vwCl n0 ft As n (mH n0 S) (fun r u => ∃ S', u = (n, mH n0 S') ∧ post r S')
def mMv (l : Launch) (y : MethodName) (ws : List Cond) (rm : Room) (D : va_G) (n0 : Nat) (ft : tv_ft) (As : List Value) (n : Nat) (S : mS) (post : mS → Prop) : Prop := tv_Mv l y ws rm 0 0 D vwCl n0 ft As n (mH n0 S) (fun u => ∃ S', u = (n, mH n0 S') ∧ post S')
theorem gX9 {n0 : Nat} {pm : (Nat → Nat) × Nat × Nat} (row : Nat → Int32) : mcell n0 pm 0 row = some (.inr (9, [.ref (n0 + 1), .ref (n0 + 13), .ref (n0 + 25), .ref (n0 + 99), .ref (n0 + 103), .ref (n0 + 109), .ref (n0 + 127), .ref (n0 + 129)])) := rfl
theorem gX2 {n0 : Nat} {pm : (Nat → Nat) × Nat × Nat} (row : Nat → Int32) : mcell n0 pm 25 row = some (.inr (2, [.ref (n0 + 26), .int (row 1)])) := rfl
theorem g26 {n0 : Nat} {pm : (Nat → Nat) × Nat × Nat} (row : Nat → Int32) : mcell n0 pm 26 row = some (.inl (.object RX6, (6, .inr (.inr (.inr (.inr (fun j => some (n0 + pm.1 j)))))))) := rfl
theorem gX5 {n0 : Nat} {pm : (Nat → Nat) × Nat × Nat} (row : Nat → Int32) : mcell n0 pm 99 row = some (.inr (5, [.ref (n0 + 100), .ref (n0 + 101), .ref (n0 + 102), .int (row 3), .int (row 4)])) := rfl
theorem gX1 {n0 : Nat} {pm : (Nat → Nat) × Nat × Nat} (row : Nat → Int32) : mcell n0 pm 103 row = some (.inr (1, [.ref (n0 + 104), .ref (n0 + 105), .ref (n0 + 106), .ref (n0 + 107), .ref (n0 + 108), .int (row 5)])) := rfl
theorem gX3 {n0 : Nat} {pm : (Nat → Nat) × Nat × Nat} (row : Nat → Int32) : mcell n0 pm 109 row = some (.inr (3, [.ref (n0 + 110), .ref (n0 + 117), .ref (n0 + 118), .ref (n0 + 126), .int (row 4), .int (row 5)])) := rfl
theorem g110 {n0 : Nat} {pm : (Nat → Nat) × Nat × Nat} (row : Nat → Int32) : mcell n0 pm 110 row = some (.inl (.array .int, (6, .inr (.inr (.inr (.inr (fun j => if j < 6 then some (n0 + (111 + j)) else none))))))) := rfl
theorem g118 {n0 : Nat} {pm : (Nat → Nat) × Nat × Nat} (row : Nat → Int32) : mcell n0 pm 118 row = some (.inl (.array .int, (7, .inr (.inr (.inr (.inr (fun j => if j < 7 then some (n0 + (119 + j)) else none))))))) := rfl
theorem g111 {n0 j : Nat} {pm : (Nat → Nat) × Nat × Nat} (hj : j < 6) (row : Nat → Int32) : mcell n0 pm (111 + j) row = some (.inl (.int, (6, .inl row))) := by
  match j, hj with
  | 0, _ | 1, _ | 2, _ | 3, _ | 4, _ | 5, _ => rfl
theorem g119 {n0 j : Nat} {pm : (Nat → Nat) × Nat × Nat} (hj : j < 7) (row : Nat → Int32) : mcell n0 pm (119 + j) row = some (.inl (.int, (64, .inl row))) := by
  match j, hj with
  | 0, _ | 1, _ | 2, _ | 3, _ | 4, _ | 5, _ | 6, _ => rfl
theorem gX7 {n0 : Nat} {pm : (Nat → Nat) × Nat × Nat} (row : Nat → Int32) : mcell n0 pm 127 row = some (.inr (7, [.ref (n0 + 128), .int (row 1)])) := rfl
theorem g128 {n0 : Nat} {pm : (Nat → Nat) × Nat × Nat} (row : Nat → Int32) : mcell n0 pm 128 row = some (.inl (.char, (80, .inl row))) := rfl
theorem gX0 {n0 : Nat} {pm : (Nat → Nat) × Nat × Nat} (row : Nat → Int32) : mcell n0 pm 129 row = some (.inr (0, [.int (row 0), .int (row 1), .int (row 2), .int (row 3), .int (row 4)])) := rfl
theorem g100 {n0 : Nat} {pm : (Nat → Nat) × Nat × Nat} (row : Nat → Int32) : mcell n0 pm 100 row = some (.inl (.int, (48, .inl row))) := rfl
theorem g101 {n0 : Nat} {pm : (Nat → Nat) × Nat × Nat} (row : Nat → Int32) : mcell n0 pm 101 row = some (.inl (.int, (48, .inl row))) := rfl
theorem g102 {n0 : Nat} {pm : (Nat → Nat) × Nat × Nat} (row : Nat → Int32) : mcell n0 pm 102 row = some (.inl (.int, (48, .inl row))) := rfl
theorem g104 {n0 : Nat} {pm : (Nat → Nat) × Nat × Nat} (row : Nat → Int32) : mcell n0 pm 104 row = some (.inl (.int, (48, .inl row))) := rfl
theorem g105 {n0 : Nat} {pm : (Nat → Nat) × Nat × Nat} (row : Nat → Int32) : mcell n0 pm 105 row = some (.inl (.int, (6, .inl row))) := rfl
theorem g106 {n0 : Nat} {pm : (Nat → Nat) × Nat × Nat} (row : Nat → Int32) : mcell n0 pm 106 row = some (.inl (.int, (6, .inl row))) := rfl
theorem g107 {n0 : Nat} {pm : (Nat → Nat) × Nat × Nat} (row : Nat → Int32) : mcell n0 pm 107 row = some (.inl (.int, (6, .inl row))) := rfl
theorem g108 {n0 : Nat} {pm : (Nat → Nat) × Nat × Nat} (row : Nat → Int32) : mcell n0 pm 108 row = some (.inl (.int, (6, .inl row))) := rfl
theorem g117 {n0 : Nat} {pm : (Nat → Nat) × Nat × Nat} (row : Nat → Int32) : mcell n0 pm 117 row = some (.inl (.int, (6, .inl row))) := rfl
theorem g126 {n0 : Nat} {pm : (Nat → Nat) × Nat × Nat} (row : Nat → Int32) : mcell n0 pm 126 row = some (.inl (.int, (6, .inl row))) := rfl
theorem mset_mset {S : mS} {k : Nat} {f g : Nat → Int32} : mset (mset S k f) k g = mset S k g := by
  refine Prod.ext (funext fun q => ?_) rfl
  show (if q = k then g else if q = k then f else S.1 q) = if q = k then g else S.1 q
  by_cases h : q = k
  · rw [if_pos h, if_pos h]
  · rw [if_neg h, if_neg h, if_neg h]
theorem mset_self {S : mS} {k : Nat} : mset S k (S.1 k) = S := by
  refine Prod.ext (funext fun q => ?_) rfl
  show (if q = k then S.1 k else S.1 q) = S.1 q
  by_cases h : q = k
  · rw [if_pos h, h]
  · rw [if_neg h]
section MLP
variable {p : Program} {l : Launch} {e : Env} {R : Room} {s : State} {m : MethodId} {args : Array Value} {below : List Frame} {meth : Method} {c : Code} {Q : State → Prop} {D : va_G} {n0 cells slots nL pc : Nat} {st : List Value} {n : Nat}
/-- loops: a family of states, a measure that falls -/
theorem mm_loop {ι : Type} (inv : ι → Prop) (μ : ι → Nat) (L : ι → List (Nat × Value)) (T : ι → mS) (i : ι) (hi : inv i)
    (step : ∀ i, inv i → (∀ j, inv j → μ j < μ i → tv_V p l e R s m args below meth c Q D vwCl n0 cells slots nL pc (L j) st n (mH n0 (T j))) → tv_V p l e R s m args below meth c Q D vwCl n0 cells slots nL pc (L i) st n (mH n0 (T i))) :
    tv_V p l e R s m args below meth c Q D vwCl n0 cells slots nL pc (L i) st n (mH n0 (T i)) := by
  have key : ∀ k i, inv i → μ i < k → tv_V p l e R s m args below meth c Q D vwCl n0 cells slots nL pc (L i) st n (mH n0 (T i)) := by
    intro k
    induction k with
    | zero => intro i _ h; exact absurd h (Nat.not_lt_zero _)
    | succ k ih => exact fun i hi hk => step i hi (fun j hj hlt => ih j hj (by omega))
  exact key (μ i + 1) i hi (Nat.lt_succ_self _)
/-- a count from 0 to N -/
theorem mm_for (N : Nat) (L : Nat → List (Nat × Value)) (T : Nat → mS)
    (step : ∀ i, i < N → tv_V p l e R s m args below meth c Q D vwCl n0 cells slots nL pc (L (i + 1)) st n (mH n0 (T (i + 1))) → tv_V p l e R s m args below meth c Q D vwCl n0 cells slots nL pc (L i) st n (mH n0 (T i)))
    (last : tv_V p l e R s m args below meth c Q D vwCl n0 cells slots nL pc (L N) st n (mH n0 (T N))) :
    tv_V p l e R s m args below meth c Q D vwCl n0 cells slots nL pc (L 0) st n (mH n0 (T 0)) := by
  have key : ∀ k, k ≤ N → tv_V p l e R s m args below meth c Q D vwCl n0 cells slots nL pc (L (N - k)) st n (mH n0 (T (N - k))) := by
    intro k
    induction k with
    | zero => intro _; exact last
    | succ k ih =>
      intro hk
      refine step (N - (k + 1)) (by omega) ?_
      rw [show N - (k + 1) + 1 = N - k by omega]
      exact ih (by omega)
  have h := key N (Nat.le_refl N)
  rw [Nat.sub_self] at h
  exact h
/-- a place where paths meet: what holds there is shown once -/
theorem mm_cut {ι : Type} {pc0 : Nat} {L0 : List (Nat × Value)} {st0 : List Value} {S0 : mS} (inv : ι → Prop) (L : ι → List (Nat × Value)) (st1 : ι → List Value) (T : ι → mS) (h : ∀ i, inv i → tv_V p l e R s m args below meth c Q D vwCl n0 cells slots nL pc (L i) (st1 i) n (mH n0 (T i)))
    (k : (∀ i, inv i → tv_V p l e R s m args below meth c Q D vwCl n0 cells slots nL pc (L i) (st1 i) n (mH n0 (T i))) → tv_V p l e R s m args below meth c Q D vwCl n0 cells slots nL pc0 L0 st0 n (mH n0 S0)) : tv_V p l e R s m args below meth c Q D vwCl n0 cells slots nL pc0 L0 st0 n (mH n0 S0) := k h
theorem mm_st {S S' : mS} {L : List (Nat × Value)} (h : S = S') (k : tv_V p l e R s m args below meth c Q D vwCl n0 cells slots nL pc L st n (mH n0 S')) : tv_V p l e R s m args below meth c Q D vwCl n0 cells slots nL pc L st n (mH n0 S) := h ▸ k
/-- another word for the value on top -/
theorem mm_tos {S : mS} {L : List (Nat × Value)} {v w : Value} (h : w = v) (k : tv_V p l e R s m args below meth c Q D vwCl n0 cells slots nL pc L (v :: st) n (mH n0 S)) : tv_V p l e R s m args below meth c Q D vwCl n0 cells slots nL pc L (w :: st) n (mH n0 S) := h ▸ k
theorem mm_L {S : mS} {L L' : List (Nat × Value)} (h : L = L') (k : tv_V p l e R s m args below meth c Q D vwCl n0 cells slots nL pc L' st n (mH n0 S)) : tv_V p l e R s m args below meth c Q D vwCl n0 cells slots nL pc L st n (mH n0 S) := h ▸ k
end MLP
theorem mS_ext {S S' : mS} (h : ∀ q, S.1 q = S'.1 q) (h2 : S.2 = S'.2) : S = S' := Prod.ext (funext h) h2
theorem mset_comm {S : mS} {k q : Nat} {f g : Nat → Int32} (h : k ≠ q) : mset (mset S k f) q g = mset (mset S q g) k f := by
  refine mS_ext (fun z => ?_) rfl
  show (if z = q then g else if z = k then f else S.1 z) = if z = k then f else if z = q then g else S.1 z
  by_cases h1 : z = q
  · subst h1; rw [if_pos rfl, if_neg (Ne.symm h), if_pos rfl]
  · rw [if_neg h1]
    by_cases h2 : z = k
    · rw [if_pos h2, if_pos h2]
    · rw [if_neg h2, if_neg h2, if_neg h1]
/-- the order of the saved states -/
def mperm (S : mS) (j v : Nat) : mS := (S.1, (fun i => if i = j then v else S.2.1 i, S.2.2))
theorem mcell_pm {n0 k : Nat} {p1 p2 : Nat → Nat} {lo : Nat × Nat} {row : Nat → Int32} (h : k ≠ 26) : mcell n0 (p1, lo) k row = mcell n0 (p2, lo) k row := by
  have hb : Nat.beq k 26 = false := by
    cases hx : Nat.beq k 26 with
    | false => rfl
    | true => exact absurd (Nat.eq_of_beq_eq_true hx) h
  unfold mcell
  rw [hb]
  rfl
theorem mH_perm {n0 j v : Nat} {S : mS} : tv_up (mH n0 S) (n0 + 26) (.inl (.object RX6, (6, .inr (.inr (.inr (.inr (va_up (fun j => some (n0 + S.2.1 j)) j (some (n0 + v))))))))) = mH n0 (mperm S j v) := by
  funext a
  unfold tv_up
  by_cases ha : a = n0 + 26
  · subst ha
    rw [if_pos rfl, mH_at]
    refine congrArg (fun g : Nat → Option Nat => some (Sum.inl (FieldType.object RX6, (6, Sum.inr (Sum.inr (Sum.inr (Sum.inr g))))))) (funext fun i => ?_)
    show (if i = j then some (n0 + v) else some (n0 + S.2.1 i)) = some (n0 + (if i = j then v else S.2.1 i))
    by_cases hi : i = j
    · rw [if_pos hi, if_pos hi]
    · rw [if_neg hi, if_neg hi]
  · rw [if_neg ha]
    unfold mH
    cases hb : Nat.ble n0 a with
    | false => rfl
    | true =>
      have hle := Nat.le_of_ble_eq_true hb
      exact mcell_pm (k := a - n0) (by omega)
theorem mupd_in {S : mS} {a k : Nat} {f : Nat → Int32} {x : Int32} : mupd (mset S a f) a k x = mset S a (upd f k x) := by
  unfold mupd
  rw [mset_mset, mset_s]
theorem mupd_out {S : mS} {a b k : Nat} {f : Nat → Int32} {x : Int32} (h : a ≠ b) : mupd (mset S a f) b k x = mset (mupd S b k x) a f := by
  unfold mupd
  rw [mset_n (Ne.symm h), mset_comm h]
section MLQ
variable {p : Program} {l : Launch} {e : Env} {R : Room} {s : State} {m : MethodId} {args : Array Value} {below : List Frame} {meth : Method} {c : Code} {Q : State → Prop} {D : va_G} {n0 cells slots nL pc : Nat} {L : List (Nat × Value)} {st : List Value} {n : Nat} {S : mS} {cc : ByteArray} {own : String} {Ts : List Cond} {ft : tv_ft}
theorem mm_ast26 (X : tv_X p s m args meth c cc nL own Ts D vwCl n0 ft) (d : decode cc pc = .ok (.aastore, 1)) {v : Nat} (hv : mst v = true) {i : Int32} (j : Nat) (hi : i = nI j) (hj : j < 6)
    (kk : tv_V p l e R s m args below meth c Q D vwCl n0 cells slots nL (pc + 1) L st n (mH n0 (mperm S j v))) : tv_V p l e R s m args below meth c Q D vwCl n0 cells slots nL pc L (.ref (n0 + v) :: .int i :: .ref (n0 + 26) :: st) n (mH n0 S) := by
  subst hi
  refine tv_aast (r := (RX6, TX6, 6)) X d (mH_at.trans (g26 _)) (mH_at.trans (gX6 hv _)) rfl (vp_in_nI hj (by decide)) ?_
  rw [nI_clamp (by omega)]
  show tv_V p l e R s m args below meth c Q D vwCl n0 cells slots nL (pc + 1) L st n (tv_up (mH n0 S) (n0 + 26) (.inl (.object RX6, (6, .inr (.inr (.inr (.inr (va_up (fun j => some (n0 + S.2.1 j)) j (some (n0 + v)))))))))) 
  rw [mH_perm]
  exact kk
end MLQ
