theorem mst_apart {b b2 : Nat} (h : mst b = true) (h2 : mst b2 = true) (hne : b ≠ b2) : b + 12 ≤ b2 ∨ b2 + 12 ≤ b := by
  have := mst_cases h
  have := mst_cases h2
  omega
/-- the block b of S' holds what the block b2 of S holds -/
def stEq (S' : mS) (b : Nat) (S : mS) (b2 : Nat) : Prop := (∀ k, k < 48 → S'.1 (b + 2) k = S.1 (b2 + 2) k) ∧ (∀ k, k < 48 → S'.1 (b + 3) k = S.1 (b2 + 3) k) ∧ (∀ k, k < 5 → S'.1 (b + 4) k = S.1 (b2 + 4) k) ∧ (∀ j, j < 6 → ∀ k, k < 5 → S'.1 (b + 6 + j) k = S.1 (b2 + 6 + j) k) ∧ (∀ k, 3 ≤ k → k < 6 → S'.1 b k = S.1 b2 k)
/-- nothing but the block b has changed -/
def stFr (S' : mS) (b : Nat) (S : mS) : Prop := S'.2 = S.2 ∧ ∀ q, (q < b ∨ b + 12 ≤ q) → S'.1 q = S.1 q
def cp5 (r r2 : Nat → Int32) : Nat → Int32 := upd (upd (upd (upd (upd r 0 (r2 0)) 1 (r2 1)) 2 (r2 2)) 3 (r2 3)) 4 (r2 4)
theorem cp5_at {r r2 : Nat → Int32} {k : Nat} (hk : k < 5) : cp5 r r2 k = r2 k := by
  match k, hk with
  | 0, _ | 1, _ | 2, _ | 3, _ | 4, _ => rfl
/-- the first t tracks by f -/
def trS (S : mS) (b t : Nat) (f : Nat → Nat → Int32) : mS := (fun q => if b + 6 ≤ q ∧ q < b + 6 + t then f (q - (b + 6)) else S.1 q, S.2)
theorem trS_0 {S : mS} {b : Nat} {f : Nat → Nat → Int32} : trS S b 0 f = S := mS_ext (fun q => if_neg (by omega)) rfl
theorem trS_n {S : mS} {b t q : Nat} {f : Nat → Nat → Int32} (h : q < b + 6 ∨ b + 6 + t ≤ q) : (trS S b t f).1 q = S.1 q := if_neg (by omega)
theorem trS_p {S : mS} {b t j : Nat} {f : Nat → Nat → Int32} (h : j < t) : (trS S b t f).1 (b + 6 + j) = f j := by
  have h1 : b + 6 ≤ b + 6 + j ∧ b + 6 + j < b + 6 + t := by omega
  show (if b + 6 ≤ b + 6 + j ∧ b + 6 + j < b + 6 + t then f (b + 6 + j - (b + 6)) else _) = _
  rw [if_pos h1, Nat.add_sub_cancel_left]
theorem trS_s {S : mS} {b t : Nat} {f : Nat → Nat → Int32} {v : Nat → Int32} (hv : v = f t) : mset (trS S b t f) (b + 6 + t) v = trS S b (t + 1) f := by
  refine mS_ext (fun q => ?_) rfl
  show (if q = b + 6 + t then v else if b + 6 ≤ q ∧ q < b + 6 + t then f (q - (b + 6)) else S.1 q) = if b + 6 ≤ q ∧ q < b + 6 + (t + 1) then f (q - (b + 6)) else S.1 q
  by_cases h : q = b + 6 + t
  · have h2 : b + 6 ≤ q ∧ q < b + 6 + (t + 1) := by omega
    rw [if_pos h, if_pos h2, h, Nat.add_sub_cancel_left, hv]
  · rw [if_neg h]
    by_cases h2 : b + 6 ≤ q ∧ q < b + 6 + t
    · have h3 : b + 6 ≤ q ∧ q < b + 6 + (t + 1) := by omega
      rw [if_pos h2, if_pos h3]
    · have h3 : ¬ (b + 6 ≤ q ∧ q < b + 6 + (t + 1)) := by omega
      rw [if_neg h2, if_neg h3]
/-- the tracks are up or down -/
def trOk (S : mS) (b : Nat) : Prop := ∀ j, j < 6 → S.1 (b + 6 + j) 0 = 0 ∨ S.1 (b + 6 + j) 0 = 1
/-- the set of the tracks that are down -/
def dsN (S : mS) (b : Nat) : Nat → Nat
  | 0 => 0
  | t + 1 => if S.1 (b + 6 + t) 0 = 0 then dsN S b t else dsN S b t ||| 1 <<< t
theorem dsN_lt {S : mS} {b : Nat} : ∀ {t : Nat}, t ≤ 6 → dsN S b t < 64
  | 0, _ => Nat.zero_lt_succ _
  | t + 1, h => by
    unfold dsN
    split
    · exact dsN_lt (by omega)
    · exact (or6 _ (dsN_lt (by omega)) t (by omega)).2
section C23
variable {l : Launch} {D : va_G} {n0 : Nat} {ft : tv_ft} {n : Nat} {S : mS} {b : Nat}
theorem iX6_copyFrom_X6 : ∀ w ∈ wsX60, w ∈ wsX6_copyFrom := by decide +kernel
theorem kX6_copyFrom_12 : Cond.fieldLink RX6 12 (TX6 0).1 (TX6 0).2.1 (TX6 0).2.2.1 ∈ wsX6_copyFrom := by decide +kernel
theorem kX6_copyFrom_18 : Cond.fieldLink RX6 18 (TX6 1).1 (TX6 1).2.1 (TX6 1).2.2.1 ∈ wsX6_copyFrom := by decide +kernel
theorem kX6_copyFrom_24 : Cond.fieldLink RX6 24 (TX6 2).1 (TX6 2).2.1 (TX6 2).2.2.1 ∈ wsX6_copyFrom := by decide +kernel
theorem kX6_copyFrom_45 : Cond.fieldLink RX6 45 (TX6 3).1 (TX6 3).2.1 (TX6 3).2.2.1 ∈ wsX6_copyFrom := by decide +kernel
theorem kX6_copyFrom_49 : Cond.fieldLink RX6 49 (TX6 4).1 (TX6 4).2.1 (TX6 4).2.2.1 ∈ wsX6_copyFrom := by decide +kernel
theorem kX6_copyFrom_52 : Cond.fieldLink RX6 52 (TX6 5).1 (TX6 5).2.1 (TX6 5).2.2.1 ∈ wsX6_copyFrom := by decide +kernel
theorem aX6_copyFrom_31 : Cond.methodLink RX6 31 arraycopyName ∈ wsX6_copyFrom ∧ Cond.native arraycopyName ∈ wsX6_copyFrom ∧ Cond.static arraycopyName ∈ wsX6_copyFrom ∧ Cond.initialized "java/lang/System" ∈ wsX6_copyFrom := ⟨by decide +kernel, by decide +kernel, by decide +kernel, by decide +kernel⟩
theorem cX6_copyFrom_ok (hb : mst b = true) {b2 : Nat} (hb2 : mst b2 = true) (hne : b ≠ b2) (hd : trOk S b2) : mMv l yX6_copyFrom wsX6_copyFrom rmX6_copyFrom D n0 ft [.ref (n0 + b), .ref (n0 + b2)] n S (fun S' => stFr S' b S ∧ stEq S' b S b2) := by
  have hap := mst_apart hb hb2 hne
  refine tv_enter (cc := cX6_copyFrom) (maxL := 3) (ret := none) (by decide) rfl (Nat.le_of_ble_eq_true rfl) ?_
  intro p e s m args below meth c X hrt hnm hargs
  refine tv_aload_n X dX6_copyFrom_0 rfl ?_
  refine mm_getf X dX6_copyFrom_1 (gX6 hb) iX6_copyFrom_X6 rfl 0 (by decide) kX6_copyFrom_12 rfl ?_
  refine tv_aload_n X dX6_copyFrom_4 rfl ?_
  refine mm_getf X dX6_copyFrom_5 (gX6 hb2) iX6_copyFrom_X6 rfl 0 (by decide) kX6_copyFrom_12 rfl ?_
  refine mm_callVv (q := (RX4, TX4, 2)) X dX6_copyFrom_8 (cX4_copyFrom_ok hb hb2 hne) (cwV 1 X.2.2.2.2.1 gX6_copyFrom_X4_copyFrom rfl rfl rfl (by decide +kernel) ⟨Nat.le_of_ble_eq_true rfl, Nat.le_of_ble_eq_true rfl⟩) rfl rfl (gX4 hb) rfl (Nat.le_of_ble_eq_true rfl) ⟨Nat.zero_le _, Nat.zero_le _⟩ (fun S1 hq => ?_)
  have fr1 : ∀ q, q ≠ b + 2 → q ≠ b + 3 → S1.1 q = S.1 q := fun q h1 h2 => by rw [hq, mset_n h2, mset_n h1]
  have e12 : ∀ k, k < 48 → S1.1 (b + 2) k = S.1 (b2 + 2) k := fun k hk => by
    rw [hq, mset_n (by omega), mset_s]; exact if_pos hk
  have e13 : ∀ k, k < 48 → S1.1 (b + 3) k = S.1 (b2 + 3) k := fun k hk => by
    rw [hq, mset_s]; exact if_pos hk
  have e1s : S1.2 = S.2 := by rw [hq]; rfl
  clear hq
  refine tv_aload_n X dX6_copyFrom_11 rfl ?_
  refine mm_getf X dX6_copyFrom_12 (gX6 hb2) iX6_copyFrom_X6 rfl 1 (by decide) kX6_copyFrom_18 rfl ?_
  refine tv_iconst (v := 0) X dX6_copyFrom_15 (by decide) ?_
  refine tv_aload_n X dX6_copyFrom_16 rfl ?_
  refine mm_getf X dX6_copyFrom_17 (gX6 hb) iX6_copyFrom_X6 rfl 1 (by decide) kX6_copyFrom_18 rfl ?_
  refine tv_iconst (v := 0) X dX6_copyFrom_20 (by decide) ?_
  refine tv_iconst (v := 5) X dX6_copyFrom_21 (by decide) ?_
  refine mm_copyi X dX6_copyFrom_22 aX6_copyFrom_31.1 aX6_copyFrom_31.2.1 aX6_copyFrom_31.2.2.1 aX6_copyFrom_31.2.2.2 (gSet hb2) (gSet hb) (by decide) (by decide) ⟨Nat.le_of_ble_eq_true rfl, Nat.le_of_ble_eq_true rfl⟩ ?_
  generalize hS2 : mset S1 (b + 4) (fun k => if k < 5 then S1.1 (b2 + 4) k else S1.1 (b + 4) k) = S2
  have fr2 : ∀ q, q ≠ b + 4 → S2.1 q = S1.1 q := fun q h1 => by rw [← hS2, mset_n h1]
  have e24 : ∀ k, k < 5 → S2.1 (b + 4) k = S.1 (b2 + 4) k := fun k hk => by
    rw [← hS2, mset_s, ← fr1 (b2 + 4) (by omega) (by omega)]; exact if_pos hk
  have e2s : S2.2 = S.2 := by rw [← hS2, ← e1s]; rfl
  refine tv_iconst (v := 0) X dX6_copyFrom_25 (by decide) ?_
  refine tv_istore_n X dX6_copyFrom_26 rfl ?_
  refine mm_st (trS_0 (b := b) (f := fun j => cp5 (S2.1 (b + 6 + j)) (S2.1 (b2 + 6 + j)))).symm ?_
  refine mm_for 6 (fun i => [(0, .ref (n0 + b)), (1, .ref (n0 + b2)), (2, .int (nI i))]) (fun i => trS S2 b i (fun j => cp5 (S2.1 (b + 6 + j)) (S2.1 (b2 + 6 + j)))) ?_ ?_
  · intro t ht ih
    dsimp only at ih
    refine tv_iload_n X dX6_copyFrom_27 rfl ?_
    refine tv_bipush (v := 6) X dX6_copyFrom_28 (by decide) ?_
    refine tv_icmp_ge (tgt := 54) X dX6_copyFrom_30 (by decide) (fun h1 => ?_) (fun h1 => ?_)
    · exact absurd h1 (nI_ge (a := t) (b := 6) ht (by decide))
    refine tv_aload_n X dX6_copyFrom_33 rfl ?_
    refine mm_getf X dX6_copyFrom_34 (gX6 hb) iX6_copyFrom_X6 rfl 2 (by decide) kX6_copyFrom_24 rfl ?_
    refine tv_iload_n X dX6_copyFrom_37 rfl ?_
    refine mm_aald X dX6_copyFrom_38 (gTrs hb) rfl _ rfl (by omega) rfl (by decide) ?_
    refine tv_aload_n X dX6_copyFrom_39 rfl ?_
    refine mm_getf X dX6_copyFrom_40 (gX6 hb2) iX6_copyFrom_X6 rfl 2 (by decide) kX6_copyFrom_24 rfl ?_
    refine tv_iload_n X dX6_copyFrom_43 rfl ?_
    refine mm_aald X dX6_copyFrom_44 (gTrs hb2) rfl _ rfl (by omega) rfl (by decide) ?_
    have hr : (trS S2 b t (fun j => cp5 (S2.1 (b + 6 + j)) (S2.1 (b2 + 6 + j)))).1 (b2 + 6 + t) = S2.1 (b2 + 6 + t) := trS_n (by omega)
    have hl : (trS S2 b t (fun j => cp5 (S2.1 (b + 6 + j)) (S2.1 (b2 + 6 + j)))).1 (b + 6 + t) = S2.1 (b + 6 + t) := trS_n (by omega)
    have hdt : (trS S2 b t (fun j => cp5 (S2.1 (b + 6 + j)) (S2.1 (b2 + 6 + j)))).1 (b2 + 6 + t) 0 = 0 ∨ (trS S2 b t (fun j => cp5 (S2.1 (b + 6 + j)) (S2.1 (b2 + 6 + j)))).1 (b2 + 6 + t) 0 = 1 := by
      rw [hr, fr2 _ (by omega), fr1 _ (by omega) (by omega)]
      exact hd t ht
    refine mm_callVv (q := (RX8, TX8, 5)) X dX6_copyFrom_45 (cX8_copyFrom_ok hb ht hb2 ht (by omega) hdt) (cwV 1 X.2.2.2.2.1 gX6_copyFrom_X8_copyFrom rfl rfl rfl (by decide +kernel) ⟨Nat.le_of_ble_eq_true rfl, Nat.le_of_ble_eq_true rfl⟩) rfl rfl (gX8 hb ht) rfl (Nat.le_of_ble_eq_true rfl) ⟨Nat.zero_le _, Nat.zero_le _⟩ (fun S3 hq => ?_)
    rw [hr, hl] at hq
    rw [hq]
    refine tv_iinc X dX6_copyFrom_48 rfl (nI_1 t) rfl ?_
    refine tv_goto (tgt := 27) X dX6_copyFrom_51 (by decide) ?_
    exact mm_st (trS_s rfl) ih
  · refine tv_iload_n X dX6_copyFrom_27 rfl ?_
    refine tv_bipush (v := 6) X dX6_copyFrom_28 (by decide) ?_
    refine tv_icmp_ge (tgt := 54) X dX6_copyFrom_30 (by decide) (fun h1 => ?_) (fun h1 => ?_)
    rotate_left
    · exact absurd (nI_le (Nat.le_refl 6) (by decide)) h1
    generalize hS3 : trS S2 b 6 (fun j => cp5 (S2.1 (b + 6 + j)) (S2.1 (b2 + 6 + j))) = S3
    have fr3 : ∀ q, (q < b ∨ b + 12 ≤ q) → S3.1 q = S.1 q := fun q h => by
      rw [← hS3, trS_n (by omega), fr2 _ (by omega), fr1 _ (by omega) (by omega)]
    have e3t : ∀ j, j < 6 → ∀ k, k < 5 → S3.1 (b + 6 + j) k = S.1 (b2 + 6 + j) k := fun j hj k hk => by
      rw [← hS3, trS_p hj, cp5_at hk, fr2 _ (by omega), fr1 _ (by omega) (by omega)]
    have e3o : ∀ q, b ≤ q → q < b + 6 → S3.1 q = S2.1 q := fun q h1 h2 => by rw [← hS3, trS_n (by omega)]
    have e3s : S3.2 = S.2 := by rw [← hS3]; exact e2s
    refine tv_aload_n X dX6_copyFrom_54 rfl ?_
    refine tv_aload_n X dX6_copyFrom_55 rfl ?_
    refine mm_getf X dX6_copyFrom_56 (gX6 hb2) iX6_copyFrom_X6 rfl 3 (by decide) kX6_copyFrom_45 rfl ?_
    refine mm_put X dX6_copyFrom_59 (gX6 hb) iX6_copyFrom_X6 rfl tyX6 tyX6_ok nmX6 3 (by decide) kX6_copyFrom_45 rfl rfl rfl (Nat.le_of_ble_eq_true rfl) rfl ?_
    refine tv_aload_n X dX6_copyFrom_62 rfl ?_
    refine tv_aload_n X dX6_copyFrom_63 rfl ?_
    refine mm_getf X dX6_copyFrom_64 (gX6 hb2) iX6_copyFrom_X6 rfl 4 (by decide) kX6_copyFrom_49 rfl ?_
    refine mm_put X dX6_copyFrom_67 (gX6 hb) iX6_copyFrom_X6 rfl tyX6 tyX6_ok nmX6 4 (by decide) kX6_copyFrom_49 rfl rfl rfl (Nat.le_of_ble_eq_true rfl) rfl ?_
    refine tv_aload_n X dX6_copyFrom_70 rfl ?_
    refine tv_aload_n X dX6_copyFrom_71 rfl ?_
    refine mm_getf X dX6_copyFrom_72 (gX6 hb2) iX6_copyFrom_X6 rfl 5 (by decide) kX6_copyFrom_52 rfl ?_
    refine mm_put X dX6_copyFrom_75 (gX6 hb) iX6_copyFrom_X6 rfl tyX6 tyX6_ok nmX6 5 (by decide) kX6_copyFrom_52 rfl rfl rfl (Nat.le_of_ble_eq_true rfl) rfl ?_
    refine tv_vret X hrt dX6_copyFrom_78 ⟨_, rfl, ?_, ?_, ?_, ?_, ?_, ?_⟩
    · refine ⟨e3s, fun q h => ?_⟩
      rw [mupd_n (by omega), mupd_n (by omega), mupd_n (by omega)]
      exact fr3 q h
    · intro k hk
      rw [mupd_n (by omega), mupd_n (by omega), mupd_n (by omega), e3o _ (by omega) (by omega), fr2 _ (by omega)]
      exact e12 k hk
    · intro k hk
      rw [mupd_n (by omega), mupd_n (by omega), mupd_n (by omega), e3o _ (by omega) (by omega), fr2 _ (by omega)]
      exact e13 k hk
    · intro k hk
      rw [mupd_n (by omega), mupd_n (by omega), mupd_n (by omega), e3o _ (by omega) (by omega)]
      exact e24 k hk
    · intro j hj k hk
      rw [mupd_n (by omega), mupd_n (by omega), mupd_n (by omega)]
      exact e3t j hj k hk
    · have w2 : S3.1 b2 = S.1 b2 := fr3 _ (by omega)
      have h2b : b2 ≠ b := Ne.symm hne
      intro k h3 h6
      rw [mupd_n h2b, mupd_n h2b, mupd_n h2b, w2]
      rcases (show k = 3 ∨ k = 4 ∨ k = 5 by omega) with rfl | rfl | rfl
      · rw [mupd_sn (by decide), mupd_sn (by decide), mupd_ss]
      · rw [mupd_sn (by decide), mupd_ss]
      · rw [mupd_ss]
theorem iX6_downSet_X6 : ∀ w ∈ wsX60, w ∈ wsX6_downSet := by decide +kernel
theorem iX6_downSet_X8 : ∀ w ∈ wsX80, w ∈ wsX6_downSet := by decide +kernel
theorem kX6_downSet_24 : Cond.fieldLink RX6 24 (TX6 2).1 (TX6 2).2.1 (TX6 2).2.2.1 ∈ wsX6_downSet := by decide +kernel
theorem cX6_downSet_ok (hb : mst b = true) : mMi l yX6_downSet wsX6_downSet rmX6_downSet D n0 ft [.ref (n0 + b)] n S (fun r S' => S' = S ∧ r = nI (dsN S b 6)) := by
  refine tv_enter (cc := cX6_downSet) (maxL := 3) (ret := (some .int)) (by decide) rfl (Nat.le_of_ble_eq_true rfl) ?_
  intro p e s m args below meth c X hrt hnm hargs
  refine tv_iconst (v := 0) X dX6_downSet_0 (by decide) ?_
  refine tv_istore_n X dX6_downSet_1 rfl ?_
  refine tv_iconst (v := 0) X dX6_downSet_2 (by decide) ?_
  refine tv_istore_n X dX6_downSet_3 rfl ?_
  refine mm_for 6 (fun i => [(0, .ref (n0 + b)), (1, .int (nI (dsN S b i))), (2, .int (nI i))]) (fun _ => S) ?_ ?_
  · intro t ht ih
    dsimp only at ih
    refine tv_iload_n X dX6_downSet_4 rfl ?_
    refine tv_bipush (v := 6) X dX6_downSet_5 (by decide) ?_
    refine tv_icmp_ge (tgt := 34) X dX6_downSet_7 (by decide) (fun h1 => ?_) (fun h1 => ?_)
    · exact absurd h1 (nI_ge (a := t) (b := 6) ht (by decide))
    refine tv_aload_n X dX6_downSet_10 rfl ?_
    refine mm_getf X dX6_downSet_11 (gX6 hb) iX6_downSet_X6 rfl 2 (by decide) kX6_downSet_24 rfl ?_
    refine tv_iload_n X dX6_downSet_14 rfl ?_
    refine mm_aald X dX6_downSet_15 (gTrs hb) rfl _ rfl (by omega) rfl (by decide) ?_
    refine mm_getfN X dX6_downSet_16 (gX8 hb ht) iX6_downSet_X8 rfl 0 (by decide) nF2 rfl ?_
    by_cases hd : S.1 (b + 6 + t) 0 = 0
    · have h9 : dsN S b (t + 1) = dsN S b t := if_pos hd
      rw [h9] at ih
      refine tv_if_eq (tgt := 28) X dX6_downSet_19 (by decide) (fun h2 => ?_) (fun h2 => ?_)
      rotate_left
      · exact absurd hd h2
      refine tv_iinc X dX6_downSet_28 rfl (nI_1 t) rfl ?_
      refine tv_goto (tgt := 4) X dX6_downSet_31 (by decide) ?_
      exact ih
    · have h9 : dsN S b (t + 1) = dsN S b t ||| 1 <<< t := if_neg hd
      rw [h9, ← (or6 _ (dsN_lt (t := t) (by omega)) t ht).1] at ih
      refine tv_if_eq (tgt := 28) X dX6_downSet_19 (by decide) (fun h2 => ?_) (fun h2 => ?_)
      · exact absurd h2 hd
      refine tv_iload_n X dX6_downSet_22 rfl ?_
      refine tv_iconst (v := 1) X dX6_downSet_23 (by decide) ?_
      refine tv_iload_n X dX6_downSet_24 rfl ?_
      refine tv_ishl X dX6_downSet_25 ?_
      refine tv_ior X dX6_downSet_26 ?_
      refine tv_istore_n X dX6_downSet_27 rfl ?_
      refine tv_iinc X dX6_downSet_28 rfl (nI_1 t) rfl ?_
      refine tv_goto (tgt := 4) X dX6_downSet_31 (by decide) ?_
      exact ih
  · refine tv_iload_n X dX6_downSet_4 rfl ?_
    refine tv_bipush (v := 6) X dX6_downSet_5 (by decide) ?_
    refine tv_icmp_ge (tgt := 34) X dX6_downSet_7 (by decide) (fun h1 => ?_) (fun h1 => ?_)
    · refine tv_iload_n X dX6_downSet_34 rfl ?_
      exact tv_iret X hrt dX6_downSet_35 ⟨_, rfl, rfl, rfl⟩
    · exact absurd (nI_le (Nat.le_refl 6) (by decide)) h1
theorem iX6_moveTracks_X6 : ∀ w ∈ wsX60, w ∈ wsX6_moveTracks := by decide +kernel
theorem iX6_moveTracks_X8 : ∀ w ∈ wsX80, w ∈ wsX6_moveTracks := by decide +kernel
theorem kX6_moveTracks_18 : Cond.fieldLink RX6 18 (TX6 1).1 (TX6 1).2.1 (TX6 1).2.2.1 ∈ wsX6_moveTracks := by decide +kernel
theorem kX6_moveTracks_24 : Cond.fieldLink RX6 24 (TX6 2).1 (TX6 2).2.1 (TX6 2).2.2.1 ∈ wsX6_moveTracks := by decide +kernel
theorem kX6_moveTracks_52 : Cond.fieldLink RX6 52 (TX6 5).1 (TX6 5).2.1 (TX6 5).2.2.1 ∈ wsX6_moveTracks := by decide +kernel
/-- a track in the next frame, before new ones go down -/
def mvR (S : mS) (b : Nat) (as : Nat → Option Nat) (t : Nat) : Nat → Int32 := match as t with
  | some c => upd (upd (upd (upd (S.1 (b + 6 + t)) 1 (S.1 105 c)) 2 (S.1 106 c)) 3 (S.1 (b + 6 + t) 3 + 1)) 4 0
  | none => if S.1 (b + 6 + t) 0 = 0 then S.1 (b + 6 + t) else upd (upd (S.1 (b + 6 + t)) 4 (S.1 (b + 6 + t) 4 + 1)) 0 (if S.1 (b + 4) 4 < S.1 (b + 6 + t) 4 + 1 then 0 else 1)
/-- the ups so far -/
def upU (S : mS) (b : Nat) (as : Nat → Option Nat) : Nat → Int32
  | 0 => S.1 b 5
  | t + 1 => if as t = none ∧ ¬ S.1 (b + 6 + t) 0 = 0 ∧ S.1 (b + 4) 4 < S.1 (b + 6 + t) 4 + 1 then upU S b as t + 1 else upU S b as t
def mvS (S : mS) (b : Nat) (as : Nat → Option Nat) (t : Nat) : mS := mupd (trS S b t (mvR S b as)) b 5 (upU S b as t)
theorem cX6_moveTracks_ok (hb : mst b = true) {as : Nat → Option Nat} {k : Nat} (hk : S.1 103 5 = nI k) (hk6 : k ≤ 6) (has : ∀ t, t < 6 → S.1 126 t = oI (as t) ∧ ∀ c, as t = some c → c < k) : mMv l yX6_moveTracks wsX6_moveTracks rmX6_moveTracks D n0 ft [.ref (n0 + b), .ref (n0 + 103), .ref (n0 + 109)] n S (fun S' => S' = mvS S b as 6) := by
  have hbl := mst_le hb
  have hbc := mst_cases hb
  refine tv_enter (cc := cX6_moveTracks) (maxL := 6) (ret := none) (by decide) rfl (Nat.le_of_ble_eq_true rfl) ?_
  intro p e s m args below meth c X hrt hnm hargs
  refine tv_iconst (v := 0) X dX6_moveTracks_0 (by decide) ?_
  refine tv_istore_n X dX6_moveTracks_1 rfl ?_
  refine mm_st (S' := mvS S b as 0) ?_ ?_
  · unfold mvS
    rw [trS_0]
    refine mS_ext (fun q => ?_) rfl
    show S.1 q = if q = b then upd (S.1 b) 5 (S.1 b 5) else S.1 q
    by_cases h : q = b
    · rw [if_pos h, h]
      funext j
      show _ = if j = 5 then _ else _
      by_cases h2 : j = 5
      · rw [if_pos h2, h2]
      · rw [if_neg h2]
    · rw [if_neg h]
  refine mm_for 6 (fun i => [(0, .ref (n0 + b)), (1, .ref (n0 + 103)), (2, .ref (n0 + 109)), (3, .int (nI i))]) (fun i => mvS S b as i) ?_ ?_
  · intro t ht ih
    dsimp only at ih
    have rq : ∀ q, q ≠ b → (q < b + 6 ∨ b + 6 + t ≤ q) → (mvS S b as t).1 q = S.1 q := fun q h1 h2 => by
      unfold mvS
      rw [mupd_n h1, trS_n h2]
    have r5 : (mvS S b as t).1 b 5 = upU S b as t := mupd_ss
    have hTs : ∀ v u, v = mvR S b as t → u = upU S b as (t + 1) → mset (mupd (mvS S b as t) b 5 u) (b + 6 + t) v = mvS S b as (t + 1) := by
      intro v u hv hu
      subst hv; subst hu
      unfold mvS
      show mset (mset (mset (trS S b t (mvR S b as)) b _) b (upd ((mset _ _ _).1 b) 5 _)) (b + 6 + t) _ = mset (trS S b (t + 1) (mvR S b as)) b _
      rw [mset_mset, mset_s, mset_comm (k := b) (q := b + 6 + t) (by omega), trS_s rfl, trS_n (q := b) (by omega), trS_n (q := b) (by omega)]
      refine congrArg (mset _ b) (funext fun j => ?_)
      show (if j = 5 then _ else if j = 5 then _ else _) = if j = 5 then _ else _
      by_cases h2 : j = 5
      · rw [if_pos h2, if_pos h2]
      · rw [if_neg h2, if_neg h2, if_neg h2]
    have hsame : mupd (mvS S b as t) b 5 (upU S b as t) = mvS S b as t := by
      unfold mvS
      show mset (mset _ b _) b (upd ((mset _ _ _).1 b) 5 _) = mset _ b _
      rw [mset_mset, mset_s]
      refine congrArg (mset _ b) (funext fun j => ?_)
      show (if j = 5 then _ else if j = 5 then _ else _) = if j = 5 then _ else _
      by_cases h2 : j = 5
      · rw [if_pos h2, if_pos h2]
      · rw [if_neg h2, if_neg h2]
    refine tv_iload_n X dX6_moveTracks_2 rfl ?_
    refine tv_bipush (v := 6) X dX6_moveTracks_3 (by decide) ?_
    refine tv_icmp_ge (tgt := 96) X dX6_moveTracks_5 (by decide) (fun h1 => ?_) (fun h1 => ?_)
    · exact absurd h1 (nI_ge (a := t) (b := 6) ht (by decide))
    refine tv_aload_n X dX6_moveTracks_8 rfl ?_
    refine mm_getf X dX6_moveTracks_9 (gX6 hb) iX6_moveTracks_X6 rfl 2 (by decide) kX6_moveTracks_24 rfl ?_
    refine tv_iload_n X dX6_moveTracks_12 rfl ?_
    refine mm_aald X dX6_moveTracks_13 (gTrs hb) rfl _ rfl (by omega) rfl (by decide) ?_
    refine tv_astore X dX6_moveTracks_14 rfl ?_
    refine tv_aload_n X dX6_moveTracks_16 rfl ?_
    refine tv_iload_n X dX6_moveTracks_17 rfl ?_
    refine mm_callVi (q := (RX3, TX3, 6)) X dX6_moveTracks_18 (cX3_contactOf_ok ht) (cwV 1 X.2.2.2.2.1 gX6_moveTracks_X3_contactOf rfl rfl rfl (by decide +kernel) ⟨Nat.le_of_ble_eq_true rfl, Nat.le_of_ble_eq_true rfl⟩) rfl rfl gX3 rfl (Nat.le_of_ble_eq_true rfl) ⟨Nat.zero_le _, Nat.zero_le _⟩ (fun r S1 hq => ?_)
    obtain ⟨hq1, hq2⟩ := hq
    rw [rq 126 (by omega) (by omega), (has t ht).1] at hq2
    rw [hq1, hq2]
    clear hq1 hq2
    refine tv_istore X dX6_moveTracks_21 rfl ?_
    refine tv_iload X dX6_moveTracks_23 rfl ?_
    refine tv_iconst (v := -1) X dX6_moveTracks_25 (by decide) ?_
    cases hat : as t with
    | some c1 =>
      have hck := (has t ht).2 c1 hat
      refine tv_icmp_eq (tgt := 49) X dX6_moveTracks_26 (by decide) (fun h2 => ?_) (fun h2 => ?_)
      · exact absurd h2 (by show ¬ nI c1 = -1; intro h; exact nI_pos (n := c1) (by omega) (by rw [h]; decide))
      have hmk : (mvS S b as t).1 103 5 = nI k := by rw [rq 103 (by omega) (by omega)]; exact hk
      refine tv_aload X dX6_moveTracks_29 rfl ?_
      refine tv_aload_n X dX6_moveTracks_31 rfl ?_
      refine tv_iload X dX6_moveTracks_32 rfl ?_
      refine mm_callVi (q := (RX1, TX1, 6)) X dX6_moveTracks_34 (cX1_rowOf_ok hmk hk6 hck) (cwV 1 X.2.2.2.2.1 gX6_moveTracks_X1_rowOf rfl rfl rfl (by decide +kernel) ⟨Nat.le_of_ble_eq_true rfl, Nat.le_of_ble_eq_true rfl⟩) rfl rfl gX1 rfl (Nat.le_of_ble_eq_true rfl) ⟨Nat.zero_le _, Nat.zero_le _⟩ (fun r S1 hq => ?_)
      obtain ⟨hq1, hq2⟩ := hq
      rw [hq1, hq2, rq 105 (by omega) (by omega)]
      clear hq1 hq2
      refine tv_aload_n X dX6_moveTracks_37 rfl ?_
      refine tv_iload X dX6_moveTracks_38 rfl ?_
      refine mm_callVi (q := (RX1, TX1, 6)) X dX6_moveTracks_40 (cX1_columnOf_ok hmk hk6 hck) (cwV 1 X.2.2.2.2.1 gX6_moveTracks_X1_columnOf rfl rfl rfl (by decide +kernel) ⟨Nat.le_of_ble_eq_true rfl, Nat.le_of_ble_eq_true rfl⟩) rfl rfl gX1 rfl (Nat.le_of_ble_eq_true rfl) ⟨Nat.zero_le _, Nat.zero_le _⟩ (fun r S1 hq => ?_)
      obtain ⟨hq1, hq2⟩ := hq
      rw [hq1, hq2, rq 106 (by omega) (by omega)]
      clear hq1 hq2
      refine mm_callVv (q := (RX8, TX8, 5)) X dX6_moveTracks_43 (cX8_follow_ok hb ht _ _) (cwV 2 X.2.2.2.2.1 gX6_moveTracks_X8_follow rfl rfl rfl (by decide +kernel) ⟨Nat.le_of_ble_eq_true rfl, Nat.le_of_ble_eq_true rfl⟩) rfl rfl (gX8 hb ht) rfl (Nat.le_of_ble_eq_true rfl) ⟨Nat.zero_le _, Nat.zero_le _⟩ (fun S1 hq => ?_)
      rw [rq (b + 6 + t) (by omega) (by omega)] at hq
      rw [hq]
      refine tv_goto (tgt := 90) X dX6_moveTracks_46 (by decide) ?_
      refine tv_iinc X dX6_moveTracks_90 rfl (nI_1 t) rfl ?_
      refine tv_goto (tgt := 2) X dX6_moveTracks_93 (by decide) ?_
      refine tv_sl [0, 1, 2, 3] rfl (mm_st ?_ ih)
      have h9 := hTs (mvR S b as t) (upU S b as t) rfl (if_neg (by rw [hat]; intro h; cases h.1)).symm
      rw [hsame] at h9
      rw [← h9]
      refine congrArg (mset _ _) ?_
      unfold mvR
      rw [hat]
    | none =>
      refine tv_icmp_eq (tgt := 49) X dX6_moveTracks_26 (by decide) (fun h2 => ?_) (fun h2 => ?_)
      rotate_left
      · exact absurd rfl h2
      refine tv_aload X dX6_moveTracks_49 rfl ?_
      refine mm_getfN X dX6_moveTracks_51 (gX8 hb ht) iX6_moveTracks_X8 rfl 0 (by decide) nF2 rfl ?_
      rw [rq (b + 6 + t) (by omega) (by omega)]
      by_cases hd : S.1 (b + 6 + t) 0 = 0
      · refine tv_if_eq (tgt := 90) X dX6_moveTracks_54 (by decide) (fun h3 => ?_) (fun h3 => ?_)
        rotate_left
        · exact absurd hd h3
        refine tv_iinc X dX6_moveTracks_90 rfl (nI_1 t) rfl ?_
        refine tv_goto (tgt := 2) X dX6_moveTracks_93 (by decide) ?_
        refine tv_sl [0, 1, 2, 3] rfl (mm_st ?_ ih)
        have h9 := hTs (mvR S b as t) (upU S b as t) rfl (if_neg (fun h => h.2.1 hd)).symm
        rw [hsame] at h9
        rw [← h9]
        have hr : mvR S b as t = (mvS S b as t).1 (b + 6 + t) := by
          rw [rq (b + 6 + t) (by omega) (by omega)]
          unfold mvR
          rw [hat]
          exact if_pos hd
        rw [hr]
        exact mset_self.symm
      · refine tv_if_eq (tgt := 90) X dX6_moveTracks_54 (by decide) (fun h3 => ?_) (fun h3 => ?_)
        · exact absurd h3 hd
        refine tv_aload X dX6_moveTracks_57 rfl ?_
        refine tv_aload_n X dX6_moveTracks_59 rfl ?_
        refine mm_getf X dX6_moveTracks_60 (gX6 hb) iX6_moveTracks_X6 rfl 1 (by decide) kX6_moveTracks_18 rfl ?_
        refine tv_iconst (v := 4) X dX6_moveTracks_63 (by decide) ?_
        refine mm_iald X dX6_moveTracks_64 (gSet hb) 4 (by decide) (by decide) (by decide) ?_
        rw [rq (b + 4) (by omega) (by omega)]
        refine mm_callVv (q := (RX8, TX8, 5)) X dX6_moveTracks_65 (cX8_miss_ok hb ht _) (cwV 1 X.2.2.2.2.1 gX6_moveTracks_X8_miss rfl rfl rfl (by decide +kernel) ⟨Nat.le_of_ble_eq_true rfl, Nat.le_of_ble_eq_true rfl⟩) rfl rfl (gX8 hb ht) rfl (Nat.le_of_ble_eq_true rfl) ⟨Nat.zero_le _, Nat.zero_le _⟩ (fun S1 hq => ?_)
        rw [rq (b + 6 + t) (by omega) (by omega)] at hq
        have f5 : S1.1 b 5 = upU S b as t := by rw [hq, mset_n (by omega)]; exact r5
        have f0 : S1.1 (b + 6 + t) 0 = if S.1 (b + 4) 4 < S.1 (b + 6 + t) 4 + 1 then 0 else 1 := by rw [hq, mset_s]; exact pk_us
        refine tv_aload_n X dX6_moveTracks_68 rfl ?_
        refine tv_dup X dX6_moveTracks_69 rfl ?_
        refine mm_getf X dX6_moveTracks_70 (gX6 hb) iX6_moveTracks_X6 rfl 5 (by decide) kX6_moveTracks_52 rfl ?_
        refine tv_aload X dX6_moveTracks_73 rfl ?_
        refine mm_getfN X dX6_moveTracks_75 (gX8 hb ht) iX6_moveTracks_X8 rfl 0 (by decide) nF2 rfl ?_
        rw [f5, f0]
        have hrow : upd (upd (S.1 (b + 6 + t)) 4 (S.1 (b + 6 + t) 4 + 1)) 0 (if S.1 (b + 4) 4 < S.1 (b + 6 + t) 4 + 1 then 0 else 1) = mvR S b as t := by
          unfold mvR
          rw [hat]
          exact (if_neg hd).symm
        have hfin : ∀ u, u = upU S b as (t + 1) → mupd S1 b 5 u = mvS S b as (t + 1) := by
          intro u hu
          rw [← hTs _ u hrow hu, hq]
          show mset (mset _ (b + 6 + t) _) b (upd ((mset _ (b + 6 + t) _).1 b) 5 u) = mset (mset _ b _) (b + 6 + t) _
          rw [mset_n (q := b) (k := b + 6 + t) (by omega), mset_comm (k := b + 6 + t) (q := b) (by omega)]
        by_cases hg : S.1 (b + 4) 4 < S.1 (b + 6 + t) 4 + 1
        · rw [if_pos hg]
          refine tv_if_eq (tgt := 85) X dX6_moveTracks_78 (by decide) (fun h4 => ?_) (fun h4 => ?_)
          rotate_left
          · exact absurd rfl h4
          refine tv_iconst (v := 1) X dX6_moveTracks_85 (by decide) ?_
          refine tv_iadd X dX6_moveTracks_86 ?_
          refine mm_put X dX6_moveTracks_87 (gX6 hb) iX6_moveTracks_X6 rfl tyX6 tyX6_ok nmX6 5 (by decide) kX6_moveTracks_52 rfl rfl rfl (Nat.le_of_ble_eq_true rfl) rfl ?_
          refine tv_iinc X dX6_moveTracks_90 rfl (nI_1 t) rfl ?_
          refine tv_goto (tgt := 2) X dX6_moveTracks_93 (by decide) ?_
          exact tv_sl [0, 1, 2, 3] rfl (mm_st (hfin _ (if_pos ⟨hat, hd, hg⟩).symm) ih)
        · rw [if_neg hg]
          refine tv_if_eq (tgt := 85) X dX6_moveTracks_78 (by decide) (fun h4 => ?_) (fun h4 => ?_)
          · exact absurd h4 (by decide)
          refine tv_iconst (v := 0) X dX6_moveTracks_81 (by decide) ?_
          refine tv_goto (tgt := 86) X dX6_moveTracks_82 (by decide) ?_
          refine tv_iadd X dX6_moveTracks_86 ?_
          rw [Int32.add_zero]
          refine mm_put X dX6_moveTracks_87 (gX6 hb) iX6_moveTracks_X6 rfl tyX6 tyX6_ok nmX6 5 (by decide) kX6_moveTracks_52 rfl rfl rfl (Nat.le_of_ble_eq_true rfl) rfl ?_
          refine tv_iinc X dX6_moveTracks_90 rfl (nI_1 t) rfl ?_
          refine tv_goto (tgt := 2) X dX6_moveTracks_93 (by decide) ?_
          exact tv_sl [0, 1, 2, 3] rfl (mm_st (hfin _ (if_neg (fun h => hg h.2.2)).symm) ih)
  · refine tv_iload_n X dX6_moveTracks_2 rfl ?_
    refine tv_bipush (v := 6) X dX6_moveTracks_3 (by decide) ?_
    refine tv_icmp_ge (tgt := 96) X dX6_moveTracks_5 (by decide) (fun h1 => ?_) (fun h1 => ?_)
    · exact tv_vret X hrt dX6_moveTracks_96 ⟨_, rfl, rfl⟩
    · exact absurd (nI_le (Nat.le_refl 6) (by decide)) h1
end C23

