/-! the first state -/
def S0 : mS := (row0, pm0)
def v00 (j : Nat) : Int32 := if 96 ≤ j ∧ j < 101 then setI (j - 96) else 0
theorem v00_z {j : Nat} (h : j < 96 ∨ 100 < j) : v00 j = 0 := if_neg (by omega)
theorem r0_z : ∀ q, q < 13 → q ≠ 5 → S0.1 q = fun _ => 0 := by
  intro q hq h5
  rcases (by omega : q = 0 ∨ q = 1 ∨ q = 2 ∨ q = 3 ∨ q = 4 ∨ q = 6 ∨ q = 7 ∨ q = 8 ∨ q = 9 ∨ q = 10 ∨ q = 11 ∨ q = 12) with rfl | rfl | rfl | rfl | rfl | rfl | rfl | rfl | rfl | rfl | rfl | rfl <;> rfl
theorem vw_0 : vw S0 1 = v00 := by
  refine vw_ext (fun k hk => ?_) (fun k hk => ?_) (fun k hk => ?_) (fun t ht w hw => ?_) (fun w h3 h6 => ?_) (fun j hj => ?_)
  · rw [r0_z (1 + 2) (by decide) (by decide), v00_z (by omega)]
  · rw [r0_z (1 + 3) (by decide) (by decide), v00_z (by omega)]
  · unfold v00
    rw [if_pos (by omega), show 96 + k - 96 = k by omega]
    rfl
  · rw [r0_z (1 + 6 + t) (by omega) (by omega), v00_z (by omega)]
  · rw [r0_z 1 (by decide) (by decide), v00_z (by omega)]
  · exact v00_z (by omega)
theorem GV_0 : GV v00 := by
  refine ⟨fun j hj => ⟨0, by omega, v00_z (by omega)⟩, ⟨20, by omega, by omega, by decide +kernel⟩, ⟨12, by omega, by omega, by decide +kernel⟩, ⟨30, by omega, by omega, by decide +kernel⟩, ⟨250, by omega, by omega, by decide +kernel⟩, ⟨1, by omega, by decide +kernel⟩, fun t ht => ⟨Or.inl (v00_z (by omega)), ⟨0, by omega, v00_z (by omega)⟩, 0, by omega, v00_z (by omega)⟩, by decide +kernel⟩
theorem INV_0 : INV S0 0 := by
  refine ⟨⟨fun i hi => ⟨?_, ?_⟩, fun i j _ _ h => ?_⟩, ⟨rfl, Nat.zero_le _⟩, by rw [vw_0]; exact GV_0, fun i hi => absurd hi (Nat.not_lt_zero i), fun s _ => rfl⟩
  · show mst (27 + 12 * i) = true
    match i, hi with
    | 0, _ | 1, _ | 2, _ | 3, _ | 4, _ | 5, _ => rfl
  · show 27 ≤ 27 + 12 * i
    omega
  · have h' : 27 + 12 * i = 27 + 12 * j := h
    omega
theorem k00 : kV v00 = 0 := by
  refine (quiet fun j hj => qt_sg (a := 20) (by decide) (by decide) (by decide +kernel) ?_).1
  unfold sgV
  rw [v00_z (j := j) (by omega), v00_z (j := 48 + j) (by omega)]
  rfl
theorem ds_0 {v : Nat → Int32} : ∀ n, (∀ t, t < n → dnB v t = false) → dsV v n = 0
  | 0, _ => rfl
  | n + 1, h => by
    have ih := ds_0 (v := v) n fun t ht => h t (by omega)
    unfold dsV
    rw [if_pos (up_iff.mp (h n (by omega))), ih]
theorem fr_00 : dsV (frV v00) 6 = 0 := ds_0 6 fun t ht => by
  have hk := k00
  rcases fr_cases GV_0 ht with ⟨c, -, h, -⟩ | ⟨c, -, -, h, -⟩ | ⟨-, -, -, h, -⟩ | ⟨-, -, h, -⟩
  · omega
  · omega
  · exact h
  · exact absurd (v00_z (j := 101 + 5 * t + 0) (by omega)) (dn_iff.mp h)
/-! the law's start -/
theorem bl_0 {a : Nat} {f : Nat → Option tv_E} : (fun _ => none : tv_H) = tv_bl (fun _ => none) a 0 f := by
  funext q
  unfold tv_bl
  rw [if_neg (by omega)]
theorem mcell_hi {n0 i : Nat} {row : Nat → Int32} (h : 129 < i) : mcell n0 pm0 i row = none := by
  rw [mcell_h h]
  show (bif Nat.beq i 0 then mia 0 row else none) = none
  rw [beq_f (by omega)]
  rfl
theorem mH_0 {n0 : Nat} : ∀ a e', mH n0 S0 a = some e' → ∃ e, tv_bl (fun _ => none) n0 130 (cell0 n0) a = some e ∧ tv_ce e e' := by
  intro a e' he
  unfold mH at he
  cases hb : Nat.ble n0 a with
  | false => rw [hb] at he; cases he
  | true =>
    rw [hb] at he
    have hle := Nat.le_of_ble_eq_true hb
    obtain ⟨i, rfl⟩ : ∃ i, a = n0 + i := ⟨a - n0, by omega⟩
    rw [Nat.add_sub_cancel_left] at he
    have he2 : mcell n0 pm0 i (row0 i) = some e' := he
    by_cases hi : 129 < i
    · rw [mcell_hi hi] at he2
      cases he2
    · refine ⟨e', ?_, tv_ce_refl⟩
      rw [tv_bl_at (by omega)]
      exact he2

