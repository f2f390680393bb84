section MNA
variable {p : Program} {l : Launch} {e : Env} {R : Room} {s : State} {m : MethodId} {args : Array Value} {below : List Frame} {meth : Method} {c : Code} {Q : State → Prop} {D : va_G} {n0 cells slots nL pc : Nat} {L : List (Nat × Value)} {st : List Value} {n : Nat} {h : tv_H} {cc : ByteArray} {own : String} {Ts : List Cond} {ft : tv_ft} {a k : Nat} {f : Nat → Option tv_E}
/-- an array of int arrays, all new -/
theorem bl_mna (X : tv_X p s m args meth c cc nL own Ts D vwCl n0 ft) {index : Nat} (d : decode cc pc = .ok (.multianewarray index 2, 4)) (hcl : Cond.classLink own index "[[I" ∈ Ts) (harr : Cond.arrayClass .int ∈ Ts) {zn zk : Int32} {N K : Nat} (hn : ¬ zn < 0) (hk : ¬ zk < 0) (hN : zn.toNatClampNeg = N) (hK : zk.toNatClampNeg = K) (hb1 : N * 4 ≤ 536870912) (hb2 : K * componentBytes .int ≤ 536870912) (hb3 : K ≤ 536870912) (hR : cells + (1 + N) ≤ R.cells ∧ slots + (N + N * K) ≤ R.slots)
    (kk : tv_V p l e R s m args below meth c Q D vwCl n0 (cells + 1 + N) (slots + N + N * K) nL (pc + 4) L (.ref (a + k) :: st) (a + (k + 1 + N)) (tv_bl h a (k + 1 + N) (fun i => if i < k then f i else if i = k then some (.inl (.array .int, (N, .inr (.inr (.inr (.inr (fun j => if j < N then some (a + k + 1 + j) else none))))))) else some (.inl (.int, (K, .inl (fun _ => 0))))))) : tv_V p l e R s m args below meth c Q D vwCl n0 cells slots nL pc L (.int zk :: .int zn :: st) (a + k) (tv_bl h a k f) := fun H locs ls hr hS hh => by
  subst hN
  subst hK
  obtain ⟨hx, hb, hml, hown, hts, hG, -⟩ := X
  have hover := va_AOA.use (A := args) hG.2.2.2.2.2.2.2.2.2.2.1
  intro T hT Xs
  obtain ⟨vm₁, cA, comp, -, fA, fC, hO, hI, X', step⟩ := Xs.multianewarray2F hx hown (ty := .int) (hts _ hcl) hover (hts _ harr) (g := F0 m pc ls (.int zk :: .int zn :: st)) rfl (by rw [hb]; exact d) rfl hn hk hb1 hb2 hb3 rfl rfl hR.1 hR.2
  generalize hF : Jvm.Free.Multi.fill (T.setVm vm₁) cA comp zn.toNatClampNeg zk.toNatClampNeg (defaultValue .int) zn.toNatClampNeg = F at X' step
  have hTh : (T.setVm vm₁).heap = H := hT
  obtain ⟨f1, f2, -, -⟩ := Jvm.Free.Multi.fill_facts (T.setVm vm₁) cA comp zn.toNatClampNeg zk.toNatClampNeg (defaultValue .int) zn.toNatClampNeg
  rw [hF, hTh] at f1 f2
  have hsz : H.size = a + k := hr.1
  have hold : ∀ x : Nat, x < H.size → F.heap[x]? = H[x]? := fun x hx => by
    have := Jvm.Free.Multi.fill_old (T.setVm vm₁) cA comp zn.toNatClampNeg zk.toNatClampNeg (defaultValue .int) (a := x) (by rw [hTh]; exact hx) zn.toNatClampNeg
    rw [hF, hTh] at this
    exact this
  have hrow : ∀ j : Nat, j < zn.toNatClampNeg → F.heap[H.size + 1 + j]? = some (arrV comp zk.toNatClampNeg (fun _ => .int 0)) := fun j hj => by
    have := Jvm.Free.Multi.fill_inner (T.setVm vm₁) cA comp zn.toNatClampNeg zk.toNatClampNeg (defaultValue .int) zn.toNatClampNeg j hj
    rw [hF, hTh] at this
    rw [this]
    exact congrArg some (arrV_new comp zk.toNatClampNeg (.int 0))
  rw [vr_outer, hsz] at f2
  have hAr : ArrOfT s cA (.array .int) := fun N9 z9 => by
    obtain ⟨-, k9, hk9, cm9, hkk9⟩ := (hO 0 0 0).1
    exact ⟨(fun q hq => by cases hq), k9, hk9, cm9, hkk9⟩
  have hArI : ArrOfT s comp .int := fun N9 z9 => by
    obtain ⟨-, k9, hk9, cm9, hkk9⟩ := (hI 0 .null).1
    exact ⟨(fun q hq => by cases hq), k9, hk9, cm9, hkk9⟩
  have hrep : tv_rep D vwCl s n0 (a + (k + 1 + zn.toNatClampNeg)) (tv_bl h a (k + 1 + zn.toNatClampNeg) (fun i => if i < k then f i else if i = k then some (.inl (.array .int, (zn.toNatClampNeg, .inr (.inr (.inr (.inr (fun j => if j < zn.toNatClampNeg then some (a + k + 1 + j) else none))))))) else some (.inl (.int, (zk.toNatClampNeg, .inl (fun _ => 0)))))) F.heap := by
    have hn0 : n0 ≤ a + k := hr.2.1
    refine ⟨by rw [f1]; omega, by omega, fun q e he => ?_⟩
    have hkeep : ∀ e, tv_bl h a k f q = some e → n0 ≤ q ∧ tv_at D vwCl s q e F.heap := fun e he => by
      obtain ⟨g1, g2⟩ := hr.2.2 q e he
      exact ⟨g1, g2.kept (hold q g2.lt)⟩
    unfold tv_bl at he
    by_cases e1 : a ≤ q ∧ q < a + (k + 1 + zn.toNatClampNeg)
    · rw [if_pos e1] at he
      dsimp only at he
      by_cases e2 : q - a < k
      · rw [if_pos e2] at he
        refine hkeep e ?_
        unfold tv_bl
        rw [if_pos (by omega)]
        exact he
      · rw [if_neg e2] at he
        by_cases e3 : q - a = k
        · rw [if_pos e3] at he
          cases he
          have eq : q = a + k := by omega
          rw [eq]
          exact ⟨hn0, cA, f2, hAr, fA⟩
        · rw [if_neg e3] at he
          cases he
          have h5 := hrow (q - a - k - 1) (by omega)
          rw [show H.size + 1 + (q - a - k - 1) = q by omega] at h5
          exact ⟨by omega, comp, h5, hArI, fC⟩
    · rw [if_neg e1] at he
      refine hkeep e ?_
      unfold tv_bl
      rw [if_neg (by omega)]
      exact he
  obtain ⟨t, a1, b1⟩ := kk F.heap locs ls hrep ⟨by rw [f1]; have := hS.1; omega, fun x h1 h2 => (hold x (Nat.lt_of_lt_of_le h1 hS.1)).trans (hS.2.1 x h1 h2), hS.2.2⟩ hh F rfl X'
  refine ⟨t, step t ?_, b1⟩
  have e : T.heap.size = a + k := by rw [hT]; exact hsz
  rw [e]
  exact a1
end MNA
def mtF (a : Nat) (i : Nat) : Option tv_E := bif Nat.beq i 0 then some (.inr (3, [.ref (a + 1), .ref (a + 8), .ref (a + 9), .ref (a + 17), .int 0, .int 0]))
  else bif Nat.beq i 1 then some (.inl (.array .int, (6, .inr (.inr (.inr (.inr (fun j => if j < 6 then some (a + 1 + 1 + j) else none)))))))
  else bif Nat.ble i 8 then zri 6
  else bif Nat.beq i 9 then some (.inl (.array .int, (7, .inr (.inr (.inr (.inr (fun j => if j < 7 then some (a + 9 + 1 + j) else none)))))))
  else bif Nat.ble i 16 then zri 64
  else zri 6
section C47
variable {l : Launch} {D : va_G} {n0 : Nat} {ft : tv_ft} {n a : Nat} {h : tv_H}
theorem oX5_init_3 : Cond.methodLink RX5 3 objectInit ∈ wsX5_init ∧ Cond.instanceMethod objectInit ∈ wsX5_init ∧ Cond.code objectInit ⟨#[0xb1]⟩ 1 none ∈ wsX5_init := ⟨by decide +kernel, by decide +kernel, by decide +kernel⟩
theorem wX5_init_int : Cond.arrayClass .int ∈ wsX5_init := by decide +kernel
theorem iX5_init_X5 : ∀ w ∈ wsX50, w ∈ wsX5_init := by decide +kernel
theorem kX5_init_9 : Cond.fieldLink RX5 9 (TX5 0).1 (TX5 0).2.1 (TX5 0).2.2.1 ∈ wsX5_init := by decide +kernel
theorem kX5_init_15 : Cond.fieldLink RX5 15 (TX5 1).1 (TX5 1).2.1 (TX5 1).2.2.1 ∈ wsX5_init := by decide +kernel
theorem kX5_init_18 : Cond.fieldLink RX5 18 (TX5 2).1 (TX5 2).2.1 (TX5 2).2.2.1 ∈ wsX5_init := by decide +kernel
theorem cX5_init_ok (he : h a = some (.inr (5, [.null, .null, .null, .int 0, .int 0]))) : blMv l yX5_init wsX5_init rmX5_init 3 144 D n0 ft a 4 h (rgF a) := by
  unfold blMv
  refine tv_enter (cc := cX5_init) (maxL := 1) (ret := none) (by decide) rfl (Nat.le_of_ble_eq_true rfl) ?_
  intro p e s m args below meth c X hrt hnm hargs
  refine tv_heap (tv_bl_1 he) ?_
  refine tv_aload_n X dX5_init_0 rfl ?_
  refine tv_objInit X dX5_init_1 oX5_init_3.1 oX5_init_3.2.1 oX5_init_3.2.2 ⟨Nat.le_of_ble_eq_true rfl, Nat.le_of_ble_eq_true rfl⟩ ?_
  refine tv_aload_n X dX5_init_4 rfl ?_
  refine tv_bipush (v := 48) X dX5_init_5 (by decide) ?_
  refine bl_newa X dX5_init_7 wX5_init_int (ty := .int) rfl (fun _ _ h9 => h9) (N := 48) (a0 := (48, .inl (fun _ => 0))) (fun _ => rfl) (by decide) (by decide) (by decide) ⟨Nat.le_of_ble_eq_true rfl, Nat.le_of_ble_eq_true rfl⟩ ?_
  refine bl_put X dX5_init_9 iX5_init_X5 rfl tyX5 tyX5_ok nmX5 0 (by decide) kX5_init_9 0 (Nat.le_of_ble_eq_true rfl) rfl (Or.inr ⟨rfl, hnm, rfl⟩) rfl rfl (Nat.le_of_ble_eq_true rfl) ?_
  refine tv_aload_n X dX5_init_12 rfl ?_
  refine tv_bipush (v := 48) X dX5_init_13 (by decide) ?_
  refine bl_newa X dX5_init_15 wX5_init_int (ty := .int) rfl (fun _ _ h9 => h9) (N := 48) (a0 := (48, .inl (fun _ => 0))) (fun _ => rfl) (by decide) (by decide) (by decide) ⟨Nat.le_of_ble_eq_true rfl, Nat.le_of_ble_eq_true rfl⟩ ?_
  refine bl_put X dX5_init_17 iX5_init_X5 rfl tyX5 tyX5_ok nmX5 1 (by decide) kX5_init_15 0 (Nat.le_of_ble_eq_true rfl) rfl (Or.inr ⟨rfl, hnm, rfl⟩) rfl rfl (Nat.le_of_ble_eq_true rfl) ?_
  refine tv_aload_n X dX5_init_20 rfl ?_
  refine tv_bipush (v := 48) X dX5_init_21 (by decide) ?_
  refine bl_newa X dX5_init_23 wX5_init_int (ty := .int) rfl (fun _ _ h9 => h9) (N := 48) (a0 := (48, .inl (fun _ => 0))) (fun _ => rfl) (by decide) (by decide) (by decide) ⟨Nat.le_of_ble_eq_true rfl, Nat.le_of_ble_eq_true rfl⟩ ?_
  refine bl_put X dX5_init_25 iX5_init_X5 rfl tyX5 tyX5_ok nmX5 2 (by decide) kX5_init_18 0 (Nat.le_of_ble_eq_true rfl) rfl (Or.inr ⟨rfl, hnm, rfl⟩) rfl rfl (Nat.le_of_ble_eq_true rfl) ?_
  refine bl_conv (g := rgF a) (fun i hi e' he' => ?_) ?_
  · match i, hi with
    | 0, _ | 1, _ | 2, _ | 3, _ => exact ⟨e', he', tv_ce_refl⟩
  exact tv_vret X hrt dX5_init_28 rfl
theorem oX1_init_3 : Cond.methodLink RX1 3 objectInit ∈ wsX1_init ∧ Cond.instanceMethod objectInit ∈ wsX1_init ∧ Cond.code objectInit ⟨#[0xb1]⟩ 1 none ∈ wsX1_init := ⟨by decide +kernel, by decide +kernel, by decide +kernel⟩
theorem wX1_init_int : Cond.arrayClass .int ∈ wsX1_init := by decide +kernel
theorem iX1_init_X1 : ∀ w ∈ wsX10, w ∈ wsX1_init := by decide +kernel
theorem kX1_init_9 : Cond.fieldLink RX1 9 (TX1 0).1 (TX1 0).2.1 (TX1 0).2.2.1 ∈ wsX1_init := by decide +kernel
theorem kX1_init_15 : Cond.fieldLink RX1 15 (TX1 1).1 (TX1 1).2.1 (TX1 1).2.2.1 ∈ wsX1_init := by decide +kernel
theorem kX1_init_18 : Cond.fieldLink RX1 18 (TX1 2).1 (TX1 2).2.1 (TX1 2).2.2.1 ∈ wsX1_init := by decide +kernel
theorem kX1_init_21 : Cond.fieldLink RX1 21 (TX1 3).1 (TX1 3).2.1 (TX1 3).2.2.1 ∈ wsX1_init := by decide +kernel
theorem kX1_init_24 : Cond.fieldLink RX1 24 (TX1 4).1 (TX1 4).2.1 (TX1 4).2.2.1 ∈ wsX1_init := by decide +kernel
theorem cX1_init_ok (he : h a = some (.inr (1, [.null, .null, .null, .null, .null, .int 0]))) : blMv l yX1_init wsX1_init rmX1_init 5 72 D n0 ft a 6 h (coF a) := by
  unfold blMv
  refine tv_enter (cc := cX1_init) (maxL := 1) (ret := none) (by decide) rfl (Nat.le_of_ble_eq_true rfl) ?_
  intro p e s m args below meth c X hrt hnm hargs
  refine tv_heap (tv_bl_1 he) ?_
  refine tv_aload_n X dX1_init_0 rfl ?_
  refine tv_objInit X dX1_init_1 oX1_init_3.1 oX1_init_3.2.1 oX1_init_3.2.2 ⟨Nat.le_of_ble_eq_true rfl, Nat.le_of_ble_eq_true rfl⟩ ?_
  refine tv_aload_n X dX1_init_4 rfl ?_
  refine tv_bipush (v := 48) X dX1_init_5 (by decide) ?_
  refine bl_newa X dX1_init_7 wX1_init_int (ty := .int) rfl (fun _ _ h9 => h9) (N := 48) (a0 := (48, .inl (fun _ => 0))) (fun _ => rfl) (by decide) (by decide) (by decide) ⟨Nat.le_of_ble_eq_true rfl, Nat.le_of_ble_eq_true rfl⟩ ?_
  refine bl_put X dX1_init_9 iX1_init_X1 rfl tyX1 tyX1_ok nmX1 0 (by decide) kX1_init_9 0 (Nat.le_of_ble_eq_true rfl) rfl (Or.inr ⟨rfl, hnm, rfl⟩) rfl rfl (Nat.le_of_ble_eq_true rfl) ?_
  refine tv_aload_n X dX1_init_12 rfl ?_
  refine tv_bipush (v := 6) X dX1_init_13 (by decide) ?_
  refine bl_newa X dX1_init_15 wX1_init_int (ty := .int) rfl (fun _ _ h9 => h9) (N := 6) (a0 := (6, .inl (fun _ => 0))) (fun _ => rfl) (by decide) (by decide) (by decide) ⟨Nat.le_of_ble_eq_true rfl, Nat.le_of_ble_eq_true rfl⟩ ?_
  refine bl_put X dX1_init_17 iX1_init_X1 rfl tyX1 tyX1_ok nmX1 1 (by decide) kX1_init_15 0 (Nat.le_of_ble_eq_true rfl) rfl (Or.inr ⟨rfl, hnm, rfl⟩) rfl rfl (Nat.le_of_ble_eq_true rfl) ?_
  refine tv_aload_n X dX1_init_20 rfl ?_
  refine tv_bipush (v := 6) X dX1_init_21 (by decide) ?_
  refine bl_newa X dX1_init_23 wX1_init_int (ty := .int) rfl (fun _ _ h9 => h9) (N := 6) (a0 := (6, .inl (fun _ => 0))) (fun _ => rfl) (by decide) (by decide) (by decide) ⟨Nat.le_of_ble_eq_true rfl, Nat.le_of_ble_eq_true rfl⟩ ?_
  refine bl_put X dX1_init_25 iX1_init_X1 rfl tyX1 tyX1_ok nmX1 2 (by decide) kX1_init_18 0 (Nat.le_of_ble_eq_true rfl) rfl (Or.inr ⟨rfl, hnm, rfl⟩) rfl rfl (Nat.le_of_ble_eq_true rfl) ?_
  refine tv_aload_n X dX1_init_28 rfl ?_
  refine tv_bipush (v := 6) X dX1_init_29 (by decide) ?_
  refine bl_newa X dX1_init_31 wX1_init_int (ty := .int) rfl (fun _ _ h9 => h9) (N := 6) (a0 := (6, .inl (fun _ => 0))) (fun _ => rfl) (by decide) (by decide) (by decide) ⟨Nat.le_of_ble_eq_true rfl, Nat.le_of_ble_eq_true rfl⟩ ?_
  refine bl_put X dX1_init_33 iX1_init_X1 rfl tyX1 tyX1_ok nmX1 3 (by decide) kX1_init_21 0 (Nat.le_of_ble_eq_true rfl) rfl (Or.inr ⟨rfl, hnm, rfl⟩) rfl rfl (Nat.le_of_ble_eq_true rfl) ?_
  refine tv_aload_n X dX1_init_36 rfl ?_
  refine tv_bipush (v := 6) X dX1_init_37 (by decide) ?_
  refine bl_newa X dX1_init_39 wX1_init_int (ty := .int) rfl (fun _ _ h9 => h9) (N := 6) (a0 := (6, .inl (fun _ => 0))) (fun _ => rfl) (by decide) (by decide) (by decide) ⟨Nat.le_of_ble_eq_true rfl, Nat.le_of_ble_eq_true rfl⟩ ?_
  refine bl_put X dX1_init_41 iX1_init_X1 rfl tyX1 tyX1_ok nmX1 4 (by decide) kX1_init_24 0 (Nat.le_of_ble_eq_true rfl) rfl (Or.inr ⟨rfl, hnm, rfl⟩) rfl rfl (Nat.le_of_ble_eq_true rfl) ?_
  refine bl_conv (g := coF a) (fun i hi e' he' => ?_) ?_
  · match i, hi with
    | 0, _ | 1, _ | 2, _ | 3, _ | 4, _ | 5, _ => exact ⟨e', he', tv_ce_refl⟩
  exact tv_vret X hrt dX1_init_44 rfl
theorem oX7_init_1 : Cond.methodLink RX7 1 objectInit ∈ wsX7_init ∧ Cond.instanceMethod objectInit ∈ wsX7_init ∧ Cond.code objectInit ⟨#[0xb1]⟩ 1 none ∈ wsX7_init := ⟨by decide +kernel, by decide +kernel, by decide +kernel⟩
theorem wX7_init_char : Cond.arrayClass .char ∈ wsX7_init := by decide +kernel
theorem iX7_init_X7 : ∀ w ∈ wsX70, w ∈ wsX7_init := by decide +kernel
theorem kX7_init_9 : Cond.fieldLink RX7 9 (TX7 0).1 (TX7 0).2.1 (TX7 0).2.2.1 ∈ wsX7_init := by decide +kernel
theorem cX7_init_ok (he : h a = some (.inr (7, [.null, .int 0]))) : blMv l yX7_init wsX7_init rmX7_init 1 80 D n0 ft a 2 h (txF a) := by
  unfold blMv
  refine tv_enter (cc := cX7_init) (maxL := 1) (ret := none) (by decide) rfl (Nat.le_of_ble_eq_true rfl) ?_
  intro p e s m args below meth c X hrt hnm hargs
  refine tv_heap (tv_bl_1 he) ?_
  refine tv_aload_n X dX7_init_0 rfl ?_
  refine tv_objInit X dX7_init_1 oX7_init_1.1 oX7_init_1.2.1 oX7_init_1.2.2 ⟨Nat.le_of_ble_eq_true rfl, Nat.le_of_ble_eq_true rfl⟩ ?_
  refine tv_aload_n X dX7_init_4 rfl ?_
  refine tv_bipush (v := 80) X dX7_init_5 (by decide) ?_
  refine bl_newa X dX7_init_7 wX7_init_char (ty := .char) rfl (fun _ _ h9 => h9) (N := 80) (a0 := (80, .inl (fun _ => 0))) (fun _ => rfl) (by decide) (by decide) (by decide) ⟨Nat.le_of_ble_eq_true rfl, Nat.le_of_ble_eq_true rfl⟩ ?_
  refine bl_put X dX7_init_9 iX7_init_X7 rfl tyX7 tyX7_ok nmX7 0 (by decide) kX7_init_9 0 (Nat.le_of_ble_eq_true rfl) rfl (Or.inr ⟨rfl, hnm, rfl⟩) rfl rfl (Nat.le_of_ble_eq_true rfl) ?_
  refine bl_conv (g := txF a) (fun i hi e' he' => ?_) ?_
  · match i, hi with
    | 0, _ | 1, _ => exact ⟨e', he', tv_ce_refl⟩
  exact tv_vret X hrt dX7_init_12 rfl
theorem oX3_init_3 : Cond.methodLink RX3 3 objectInit ∈ wsX3_init ∧ Cond.instanceMethod objectInit ∈ wsX3_init ∧ Cond.code objectInit ⟨#[0xb1]⟩ 1 none ∈ wsX3_init := ⟨by decide +kernel, by decide +kernel, by decide +kernel⟩
theorem wX3_init_int : Cond.arrayClass .int ∈ wsX3_init := by decide +kernel
theorem iX3_init_X3 : ∀ w ∈ wsX30, w ∈ wsX3_init := by decide +kernel
theorem kX3_init_11 : Cond.fieldLink RX3 11 (TX3 0).1 (TX3 0).2.1 (TX3 0).2.2.1 ∈ wsX3_init := by decide +kernel
theorem kX3_init_16 : Cond.fieldLink RX3 16 (TX3 1).1 (TX3 1).2.1 (TX3 1).2.2.1 ∈ wsX3_init := by decide +kernel
theorem kX3_init_20 : Cond.fieldLink RX3 20 (TX3 2).1 (TX3 2).2.1 (TX3 2).2.2.1 ∈ wsX3_init := by decide +kernel
theorem kX3_init_23 : Cond.fieldLink RX3 23 (TX3 3).1 (TX3 3).2.1 (TX3 3).2.2.1 ∈ wsX3_init := by decide +kernel
theorem wX3_init_c : Cond.classLink RX3 9 "[[I" ∈ wsX3_init := by decide +kernel
theorem cX3_init_ok (he : h a = some (.inr (3, [.null, .null, .null, .null, .int 0, .int 0]))) : blMv l yX3_init wsX3_init rmX3_init 17 509 D n0 ft a 18 h (mtF a) := by
  unfold blMv
  refine tv_enter (cc := cX3_init) (maxL := 1) (ret := none) (by decide) rfl (Nat.le_of_ble_eq_true rfl) ?_
  intro p e s m args below meth c X hrt hnm hargs
  refine tv_heap (tv_bl_1 he) ?_
  refine tv_aload_n X dX3_init_0 rfl ?_
  refine tv_objInit X dX3_init_1 oX3_init_3.1 oX3_init_3.2.1 oX3_init_3.2.2 ⟨Nat.le_of_ble_eq_true rfl, Nat.le_of_ble_eq_true rfl⟩ ?_
  refine tv_aload_n X dX3_init_4 rfl ?_
  refine tv_bipush (v := 6) X dX3_init_5 (by decide) ?_
  refine tv_bipush (v := 6) X dX3_init_7 (by decide) ?_
  refine bl_mna X dX3_init_9 wX3_init_c wX3_init_int (N := 6) (K := 6) (by decide) (by decide) (by decide) (by decide) (by decide) (by decide) (by decide) ⟨Nat.le_of_ble_eq_true rfl, Nat.le_of_ble_eq_true rfl⟩ ?_
  refine bl_put X dX3_init_13 iX3_init_X3 rfl tyX3 tyX3_ok nmX3 0 (by decide) kX3_init_11 0 (Nat.le_of_ble_eq_true rfl) rfl (Or.inr ⟨rfl, hnm, rfl⟩) rfl rfl (Nat.le_of_ble_eq_true rfl) ?_
  refine tv_aload_n X dX3_init_16 rfl ?_
  refine tv_bipush (v := 6) X dX3_init_17 (by decide) ?_
  refine bl_newa X dX3_init_19 wX3_init_int (ty := .int) rfl (fun _ _ h9 => h9) (N := 6) (a0 := (6, .inl (fun _ => 0))) (fun _ => rfl) (by decide) (by decide) (by decide) ⟨Nat.le_of_ble_eq_true rfl, Nat.le_of_ble_eq_true rfl⟩ ?_
  refine bl_put X dX3_init_21 iX3_init_X3 rfl tyX3 tyX3_ok nmX3 1 (by decide) kX3_init_16 0 (Nat.le_of_ble_eq_true rfl) rfl (Or.inr ⟨rfl, hnm, rfl⟩) rfl rfl (Nat.le_of_ble_eq_true rfl) ?_
  refine tv_aload_n X dX3_init_24 rfl ?_
  refine tv_bipush (v := 7) X dX3_init_25 (by decide) ?_
  refine tv_bipush (v := 64) X dX3_init_27 (by decide) ?_
  refine bl_mna X dX3_init_29 wX3_init_c wX3_init_int (N := 7) (K := 64) (by decide) (by decide) (by decide) (by decide) (by decide) (by decide) (by decide) ⟨Nat.le_of_ble_eq_true rfl, Nat.le_of_ble_eq_true rfl⟩ ?_
  refine bl_put X dX3_init_33 iX3_init_X3 rfl tyX3 tyX3_ok nmX3 2 (by decide) kX3_init_20 0 (Nat.le_of_ble_eq_true rfl) rfl (Or.inr ⟨rfl, hnm, rfl⟩) rfl rfl (Nat.le_of_ble_eq_true rfl) ?_
  refine tv_aload_n X dX3_init_36 rfl ?_
  refine tv_bipush (v := 6) X dX3_init_37 (by decide) ?_
  refine bl_newa X dX3_init_39 wX3_init_int (ty := .int) rfl (fun _ _ h9 => h9) (N := 6) (a0 := (6, .inl (fun _ => 0))) (fun _ => rfl) (by decide) (by decide) (by decide) ⟨Nat.le_of_ble_eq_true rfl, Nat.le_of_ble_eq_true rfl⟩ ?_
  refine bl_put X dX3_init_41 iX3_init_X3 rfl tyX3 tyX3_ok nmX3 3 (by decide) kX3_init_23 0 (Nat.le_of_ble_eq_true rfl) rfl (Or.inr ⟨rfl, hnm, rfl⟩) rfl rfl (Nat.le_of_ble_eq_true rfl) ?_
  refine bl_conv (g := mtF a) (fun i hi0 e' he' => ?_) ?_
  · have hi : i < 18 := hi0
    clear hi0
    rcases (show i = 0 ∨ i = 1 ∨ i = 2 ∨ i = 3 ∨ i = 4 ∨ i = 5 ∨ i = 6 ∨ i = 7 ∨ i = 8 ∨ i = 9 ∨ i = 10 ∨ i = 11 ∨ i = 12 ∨ i = 13 ∨ i = 14 ∨ i = 15 ∨ i = 16 ∨ i = 17 by omega) with rfl | rfl | rfl | rfl | rfl | rfl | rfl | rfl | rfl | rfl | rfl | rfl | rfl | rfl | rfl | rfl | rfl | rfl <;> exact ⟨e', he', tv_ce_refl⟩
  exact tv_vret X hrt dX3_init_44 rfl
end C47

