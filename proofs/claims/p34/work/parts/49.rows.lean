/-- the first state -/
def row0 (q : Nat) : Nat → Int32 := bif (Nat.beq q 5 || Nat.beq q 17 || Nat.beq q 31 || Nat.beq q 43 || Nat.beq q 55 || Nat.beq q 67 || Nat.beq q 79 || Nat.beq q 91) then setI else fun _ => 0
def pm0 : (Nat → Nat) × Nat × Nat := (fun j => 27 + 12 * j, (0, 0))
def cell0 (n0 i : Nat) : Option tv_E := mcell n0 pm0 i (row0 i)
/-- a History whose first j states are made -/
def hsJ (a j : Nat) (i : Nat) : Option tv_E := bif Nat.beq i 0 then some (.inr (2, [.ref (a + 1), .int 0]))
  else bif Nat.beq i 1 then some (.inl (.object RX6, (6, .inr (.inr (.inr (.inr (arF a 12 2 j)))))))
  else stF (a + (2 + 12 * ((i - 2) / 12))) ((i - 2) % 12)
theorem hsJ_st {a j t q : Nat} (hq : q < 12) : hsJ a j (2 + 12 * t + q) = stF (a + (2 + 12 * t)) q := by
  have h0 : Nat.beq (2 + 12 * t + q) 0 = false := by
    cases hx : Nat.beq (2 + 12 * t + q) 0 with
    | false => rfl
    | true => have := Nat.eq_of_beq_eq_true hx; omega
  have h1 : Nat.beq (2 + 12 * t + q) 1 = false := by
    cases hx : Nat.beq (2 + 12 * t + q) 1 with
    | false => rfl
    | true => have := Nat.eq_of_beq_eq_true hx; omega
  unfold hsJ
  rw [h0, h1, show (2 + 12 * t + q - 2) / 12 = t by omega, show (2 + 12 * t + q - 2) % 12 = q by omega]
  rfl
section C49
variable {l : Launch} {D : va_G} {n0 : Nat} {ft : tv_ft} {n a : Nat} {h : tv_H}
theorem oX2_init_1 : Cond.methodLink RX2 1 objectInit ∈ wsX2_init ∧ Cond.instanceMethod objectInit ∈ wsX2_init ∧ Cond.code objectInit ⟨#[0xb1]⟩ 1 none ∈ wsX2_init := ⟨by decide +kernel, by decide +kernel, by decide +kernel⟩
theorem qX2_init_9 : Cond.classLink RX2 9 RX6 ∈ wsX2_init ∧ Cond.instantiable RX6 6 ∈ wsX2_init ∧ Cond.initialized RX6 ∈ wsX2_init := ⟨by decide +kernel, by decide +kernel, by decide +kernel⟩
theorem vX2_init_15 : Cond.initialized RX6 ∈ wsX2_init ∧ Cond.instanceMethod yX6_init ∈ wsX2_init ∧ Cond.methodLink RX2 15 yX6_init ∈ wsX2_init := ⟨by decide +kernel, by decide +kernel, by decide +kernel⟩
theorem iX2_init_X2 : ∀ w ∈ wsX20, w ∈ wsX2_init := by decide +kernel
theorem iX2_init_X6 : ∀ w ∈ wsX60, w ∈ wsX2_init := by decide +kernel
theorem kX2_init_11 : Cond.fieldLink RX2 11 (TX2 0).1 (TX2 0).2.1 (TX2 0).2.2.1 ∈ wsX2_init := by decide +kernel
theorem wX2_init_q : Cond.classLink RX2 9 RX6 ∈ wsX2_init := by decide +kernel
theorem cX2_init_ok (he : h a = some (.inr (2, [.null, .int 0]))) : blMv l yX2_init wsX2_init rmX2_init 73 876 D n0 ft a 74 h (hsJ a 6) := by
  unfold blMv
  refine tv_enter (cc := cX2_init) (maxL := 2) (ret := none) (by decide) rfl (Nat.le_of_ble_eq_true rfl) ?_
  intro p e s m args below meth c X hrt hnm hargs
  refine tv_heap (tv_bl_1 he) ?_
  refine tv_aload_n X dX2_init_0 rfl ?_
  refine tv_objInit X dX2_init_1 oX2_init_1.1 oX2_init_1.2.1 oX2_init_1.2.2 ⟨Nat.le_of_ble_eq_true rfl, Nat.le_of_ble_eq_true rfl⟩ ?_
  refine tv_aload_n X dX2_init_4 rfl ?_
  refine tv_bipush (v := 6) X dX2_init_5 (by decide) ?_
  refine bl_newq X dX2_init_7 wX2_init_q X.2.2.2.2.2.1.2.2.2.2.2.2.2.2.2.2.2.2 (N := 6) (by decide) (by decide) (by decide) ⟨Nat.le_of_ble_eq_true rfl, Nat.le_of_ble_eq_true rfl⟩ ?_
  refine bl_put X dX2_init_10 iX2_init_X2 rfl tyX2 tyX2_ok nmX2 0 (by decide) kX2_init_11 0 (Nat.le_of_ble_eq_true rfl) rfl (Or.inr ⟨rfl, hnm, rfl⟩) rfl rfl (Nat.le_of_ble_eq_true rfl) ?_
  refine tv_iconst (v := 0) X dX2_init_13 (by decide) ?_
  refine tv_istore_n X dX2_init_14 rfl ?_
  refine bl_conv (g := hsJ a 0) (fun i hi e' he' => ?_) ?_
  · match i, hi with
    | 0, _ => exact ⟨e', he', tv_ce_refl⟩
    | 1, _ =>
      have h4 : e' = .inl (.object RX6, (6, .inr (.inr (.inr (.inr (arF a 12 2 0)))))) := (Option.some.inj he').symm
      rw [h4]
      exact ⟨_, rfl, tv_ce_q fun j hj => (if_neg (Nat.not_lt_zero j)).symm⟩
  refine tv_for 6 (fun j => 1 + 12 * j) (fun j => 6 + 145 * j) (fun j => [(0, .ref a), (1, .int (nI j))]) (fun j => a + (2 + 12 * j)) (fun j => tv_bl h a (2 + 12 * j) (hsJ a j)) ?_ ?_
  · intro j hj ih
    refine tv_iload_n X dX2_init_15 rfl ?_
    refine tv_bipush (v := 6) X dX2_init_16 (by decide) ?_
    refine tv_icmp_ge (tgt := 40) X dX2_init_18 (by decide) (fun h1 => ?_) (fun h1 => ?_)
    · exact absurd h1 (nI_ge (a := j) (b := 6) hj (by decide))
    refine tv_aload_n X dX2_init_21 rfl ?_
    refine bl_getf X dX2_init_22 iX2_init_X2 rfl 0 (by decide) kX2_init_11 0 (by omega) rfl rfl ?_
    refine tv_iload_n X dX2_init_25 rfl ?_
    refine bl_new (ci := 6) X dX2_init_26 iX2_init_X6 rfl tyX6 tyX6_ok qX2_init_9.1 qX2_init_9.2.1 qX2_init_9.2.2 (fs := [.null, .null, .null, .int 0, .int 0, .int 0]) (fun j hj => by match j, hj with | 0, _ => rfl | 1, _ => rfl | 2, _ => rfl | 3, _ => rfl | 4, _ => rfl | 5, _ => rfl) ⟨by show 1 + 12 * j + 1 ≤ 73; omega, by show 6 + 145 * j + 6 ≤ 876; omega⟩ ?_
    refine tv_dup X dX2_init_29 rfl ?_
    refine bl_callIv X dX2_init_30 (c := (2+12*j)) (cX6_init_ok (tv_bl_at (by omega) |>.trans (if_pos rfl))) (cwI 0 X.2.2.2.2.1 gX2_init_X6_init rfl rfl rfl (X.2.2.2.2.1 _ vX2_init_15.1) (X.2.2.2.2.1 _ vX2_init_15.2.2) (X.2.2.2.2.1 _ vX2_init_15.2.1) rfl (by decide +kernel) ⟨Nat.le_of_ble_eq_true rfl, Nat.le_of_ble_eq_true rfl⟩) (Nat.le_of_ble_eq_true rfl) (Nat.le_of_ble_eq_true rfl) ⟨by show 1 + 12 * j + 1 + 11 ≤ 73; omega, by show 6 + 145 * j + 6 + 139 ≤ 876; omega⟩ ?_
    refine bl_aast X dX2_init_33 (RX6, TX6, 6) 1 (2 + 12 * j) (by omega) (by omega) (N := 6) (ci := 6) (vs := [.ref (a + (2 + 12 * j) + 1), .ref (a + (2 + 12 * j) + 4), .ref (a + (2 + 12 * j) + 5), .int 0, .int 0, .int 0]) (g := arF a 12 2 j) ((if_neg (by omega)).trans ((if_neg (by omega)).trans rfl)) ((if_pos (Nat.le_refl _)).trans (by rw [Nat.sub_self]; rfl)) rfl j hj (by decide) ?_
    refine tv_iinc X dX2_init_34 rfl (nI_1 j) rfl ?_
    refine tv_goto (tgt := 15) X dX2_init_37 (by decide) ?_
    refine tv_heap (tv_bl_cg (k := 2 + 12 * j + 12) (fun i hi => ?_)) ih
    by_cases h5 : i = 1
    · rw [h5]
      refine (if_pos rfl).trans ?_
      exact congrArg (fun g : Nat → Option Nat => some (Sum.inl (FieldType.object RX6, (6, Sum.inr (Sum.inr (Sum.inr (Sum.inr g))))))) (arF_s (a := a) (s := 12) (o := 2) (v := a + (2 + 12 * j)) (by omega))
    · refine (if_neg h5).trans ?_
      dsimp only
      by_cases h6 : 2 + 12 * j ≤ i
      · rw [if_pos h6]
        obtain ⟨q, rfl⟩ : ∃ q, i = 2 + 12 * j + q := ⟨i - (2 + 12 * j), by omega⟩
        rw [hsJ_st (by omega), Nat.add_sub_cancel_left]
      · rw [if_neg h6]
        refine (if_neg (by omega)).trans ?_
        by_cases h7 : i = 0
        · rw [h7]; rfl
        · obtain ⟨t, q, hq, rfl⟩ : ∃ t q, q < 12 ∧ i = 2 + 12 * t + q := ⟨(i - 2) / 12, (i - 2) % 12, by omega, by omega⟩
          rw [hsJ_st hq, hsJ_st hq]
  · refine tv_iload_n X dX2_init_15 rfl ?_
    refine tv_bipush (v := 6) X dX2_init_16 (by decide) ?_
    refine tv_icmp_ge (tgt := 40) X dX2_init_18 (by decide) (fun h1 => ?_) (fun h1 => ?_)
    rotate_left
    · exact absurd (nI_le (Nat.le_refl 6) (by decide)) h1
    exact tv_vret X hrt dX2_init_40 rfl
/-- the object in the making: its fields, the cells so far -/
def xF (n0 : Nat) (fs : List Value) (i : Nat) : Option tv_E := if i = 0 then some (.inr (9, fs)) else cell0 n0 i
theorem xF_step {n0 c N : Nat} {fs fs' : List Value} {g : Nat → Option tv_E} {obj : tv_E} (hc : 0 < c) (hg : ∀ j, j < N → ∀ e', cell0 n0 (c + j) = some e' → ∃ e, g j = some e ∧ tv_ce e e') : ∀ i, i < c + N → ∀ e', xF n0 fs' i = some e' → ∃ e, (fupd (fun i => if c ≤ i then g (i - c) else fupd (xF n0 fs) c obj i) 0 (.inr (9, fs'))) i = some e ∧ tv_ce e e' := by
  intro i hi e' he'
  unfold xF at he'
  by_cases h0 : i = 0
  · rw [if_pos h0] at he'
    exact ⟨e', (if_pos h0).trans he', tv_ce_refl⟩
  · rw [if_neg h0] at he'
    by_cases h1 : c ≤ i
    · obtain ⟨j, rfl⟩ : ∃ j, i = c + j := ⟨i - c, by omega⟩
      obtain ⟨e, h2, h3⟩ := hg j (by omega) e' he'
      refine ⟨e, (if_neg h0).trans ((if_pos h1).trans ?_), h3⟩
      rw [Nat.add_sub_cancel_left]
      exact h2
    · refine ⟨e', (if_neg h0).trans ((if_neg h1).trans ((if_neg (by omega)).trans ((if_neg h0).trans he'))), tv_ce_refl⟩
theorem st_cell {n0 c : Nat} (hm : mst c = true) (hr : ∀ i, i < 12 → row0 (c + i) = if i = 4 then setI else fun _ => 0) : ∀ j, j < 12 → ∀ e', cell0 n0 (c + j) = some e' → ∃ e, stF (n0 + c) j = some e ∧ tv_ce e e' := by
  intro j hj e' he'
  unfold cell0 at he'
  rw [mcell_S hm hj, hr j hj] at he'
  match j, hj with
  | 0, _ | 1, _ | 2, _ | 3, _ | 4, _ | 6, _ | 7, _ | 8, _ | 9, _ | 10, _ | 11, _ => exact ⟨e', he', tv_ce_refl⟩
  | 5, _ =>
    have h4 : e' = .inl (.object RX8, (6, .inr (.inr (.inr (.inr (fun j => some (n0 + (c + 6 + j)))))))) := (Option.some.inj he').symm
    rw [h4]
    refine ⟨_, rfl, tv_ce_q fun j hj => ?_⟩
    show (if j < 6 then some (n0 + c + 6 + 1 * j) else none) = some (n0 + (c + 6 + j))
    rw [if_pos hj]
    exact congrArg some (by omega)
theorem row0_st : ∀ i, i < 12 → (row0 (1 + i) = (if i = 4 then setI else fun _ => 0) ∧ row0 (13 + i) = (if i = 4 then setI else fun _ => 0)) := by
  intro i hi
  match i, hi with
  | 0, _ | 1, _ | 2, _ | 3, _ | 4, _ | 5, _ | 6, _ | 7, _ | 8, _ | 9, _ | 10, _ | 11, _ => exact ⟨rfl, rfl⟩
theorem row0_st2 : ∀ t, t < 6 → ∀ i, i < 12 → row0 (27 + 12 * t + i) = (if i = 4 then setI else fun _ => 0) := by
  intro t ht i hi
  match t, ht with
  | 0, _ | 1, _ | 2, _ | 3, _ | 4, _ | 5, _ =>
    match i, hi with
    | 0, _ | 1, _ | 2, _ | 3, _ | 4, _ | 5, _ | 6, _ | 7, _ | 8, _ | 9, _ | 10, _ | 11, _ => rfl
theorem hs_cell {n0 : Nat} : ∀ j, j < 74 → ∀ e', cell0 n0 (25 + j) = some e' → ∃ e, hsJ (n0 + 25) 6 j = some e ∧ tv_ce e e' := by
  intro j hj e' he'
  by_cases h0 : j = 0
  · rw [h0] at he' ⊢
    exact ⟨e', he', tv_ce_refl⟩
  by_cases h1 : j = 1
  · rw [h1] at he' ⊢
    have h4 : e' = .inl (.object RX6, (6, .inr (.inr (.inr (.inr (fun j => some (n0 + (27 + 12 * j)))))))) := (Option.some.inj he').symm
    rw [h4]
    refine ⟨_, rfl, tv_ce_q fun j hj => ?_⟩
    show (if j < 6 then some (n0 + 25 + 2 + 12 * j) else none) = some (n0 + (27 + 12 * j))
    rw [if_pos hj]
    exact congrArg some (by omega)
  obtain ⟨t, q, ht, hq, rfl⟩ : ∃ t q, t < 6 ∧ q < 12 ∧ j = 2 + 12 * t + q := ⟨(j - 2) / 12, (j - 2) % 12, by omega, by omega, by omega⟩
  rw [hsJ_st hq]
  have hm : mst (27 + 12 * t) = true := by
    match t, ht with
    | 0, _ | 1, _ | 2, _ | 3, _ | 4, _ | 5, _ => rfl
  rw [show 25 + (2 + 12 * t + q) = 27 + 12 * t + q by omega] at he'
  obtain ⟨e, h2, h3⟩ := st_cell (n0 := n0) hm (row0_st2 t ht) q hq e' he'
  rw [show n0 + 25 + (2 + 12 * t) = n0 + (27 + 12 * t) by omega]
  exact ⟨e, h2, h3⟩
end C49


