theorem jn_hi {r : Nat → Int32} {c d x : Nat} (hc : x ≠ c) (hd : x ≠ d) : jnR r c d x = r x := by
  unfold jnR
  split
  · rw [pk_un hd, pk_un hc]
  · rfl
theorem jStep_hi {q : (Nat → Int32) × Int32} {c x : Nat} (hc : c < 48) (hx : 48 ≤ x) : (jStep1 q c).1 x = q.1 x ∧ (jStep2 q c).1 x = q.1 x := by
  constructor
  · unfold jStep1
    split
    · exact jn_hi (by omega) (by omega)
    · rfl
  · unfold jStep2
    split
    · exact jn_hi (by omega) (by omega)
    · rfl
theorem jUpto_hi {r : Nat → Int32} {x : Nat} (hx : 48 ≤ x) : ∀ {i : Nat}, i ≤ 48 → (jUpto r i).1 x = r x
  | 0, _ => rfl
  | i + 1, hi => by
    have e : (jUpto r (i + 1)) = jStep2 (jStep1 (jUpto r i) i) i := rfl
    rw [e, (jStep_hi (by omega) hx).2, (jStep_hi (by omega) hx).1, jUpto_hi hx (by omega)]
theorem jPass_hi {r : Nat → Int32} {x : Nat} (hx : 48 ≤ x) : ∀ k, jPass r k x = r x
  | 0 => rfl
  | k + 1 => (jUpto_hi (r := jPass r k) hx (Nat.le_refl 48)).trans (jPass_hi hx k)
/-- which cells are touched -/
def ttS (S : mS) (b : Nat) (c : Nat) : Bool := decide (S.1 (b + 4) 0 ≤ sgS S b c)
theorem labI_ci {S : mS} {b c : Nat} (hc : c < 48) : labI S b 48 c = ciT (ttS S b) c := by
  show (if c < 48 then (if S.1 (b + 4) 0 ≤ sgS S b c then nI c else (48 : Int32)) else _) = if ttS S b c then nI c else 48
  rw [if_pos hc]
  unfold ttS
  by_cases h : S.1 (b + 4) 0 ≤ sgS S b c
  · rw [if_pos h, decide_eq_true h]; rfl
  · rw [if_neg h, decide_eq_false h]; rfl
theorem jP_gL {S : mS} {b k : Nat} (hk : jFlag (labI S b 48) k = 0 ∨ k = 48) {c : Nat} (hc : c < 48) : jPass (labI S b 48) k c = if ttS S b c then nI (gL (ttS S b) c) else 48 := jp_gL (fun _ h => labI_ci h) hk hc
theorem jP_48 {S : mS} {b k : Nat} (hk : jFlag (labI S b 48) k = 0 ∨ k = 48) : jPass (labI S b 48) k = jPass (labI S b 48) 48 := by
  funext c
  by_cases hc : c < 48
  · rw [jP_gL hk hc, jP_gL (Or.inr rfl) hc]
  · rw [jPass_hi (by omega), jPass_hi (by omega)]
theorem regS_48 {S : mS} {b k : Nat} (hk : jFlag (labI S b 48) k = 0 ∨ k = 48) : regS S b k = regS S b 48 := by
  unfold regS
  rw [jP_48 hk]
theorem flS_48 {S : mS} {b k : Nat} (hk : jFlag (labI S b 48) k = 0 ∨ k = 48) : flS S b k = flS S b 48 := by
  funext j
  unfold flS
  rw [jP_48 hk]
theorem ctP_48 {S : mS} {b k : Nat} (hk : jFlag (labI S b 48) k = 0 ∨ k = 48) : ctP S b k = ctP S b 48 := by
  unfold ctP
  rw [regS_48 hk, flS_48 hk]
theorem scP_48 {S : mS} {b k : Nat} (hk : jFlag (labI S b 48) k = 0 ∨ k = 48) : scP S b k = scP S b 48 := by
  unfold scP mtP mtB
  rw [ctP_48 hk]
theorem tfS_n {S : mS} {b tk k q : Nat} {as : Nat → Option Nat} (h : q < b ∨ b + 12 ≤ q) : (tfS S b as tk k).1 q = S.1 q := by
  unfold tfS sdS
  rw [mupd_n (by omega), trS_n (by omega)]
  unfold mvS
  rw [mupd_n (by omega), trS_n (by omega), mupd_n (by omega)]
theorem scP_n {S : mS} {b k q : Nat} (h : q < b ∨ b + 12 ≤ q) (h2 : q < 99 ∨ 126 < q) : (scP S b k).1 q = S.1 q := by
  unfold scP mtP
  rw [tfS_n h, mfS_n (by omega), ctP_n (by omega)]
/-- what a save leaves -/
def svR (S : mS) (h : Nat) (S' : mS) : Prop := S'.2 = (svP S h, S.2.2) ∧ (∀ q, q ≠ 25 → (q < svP S h (svI h) ∨ svP S h (svI h) + 12 ≤ q) → S'.1 q = S.1 q) ∧ S'.1 25 1 = nI (svI h + 1) ∧ stEq S' (svP S h (svI h)) S 1
/-- what an undo leaves -/
def rsR (S : mS) (h : Nat) (S' : mS) : Prop := S'.2 = S.2 ∧ (∀ q, q ≠ 25 → (q < 1 ∨ 13 ≤ q) → S'.1 q = S.1 q) ∧ S'.1 25 1 = nI (h - 1) ∧ stEq S' 1 S (S.2.1 (h - 1))
/-- one command of a text carried out -/
noncomputable def rcE (T : mS) : mS × Int32 :=
  if T.1 129 1 = 112 then (mset T 3 (prs9 (T.1 3) (T.1 129 2) (T.1 129 3) (T.1 129 4)), 0)
  else if T.1 129 1 = 120 then (mset T 3 (fun k => if k < 48 then 0 else T.1 3 k), 0)
  else if T.1 129 1 = 98 then (mset T 4 (fun k => if k < 48 then T.1 3 k else T.1 4 k), 0)
  else (scP T 1 48, (scP T 1 48).1 1 4 + (scP T 1 48).1 1 5 - (T.1 1 4 + T.1 1 5))
theorem rcE_n {T : mS} {q : Nat} (h : 126 < q) : (rcE T).1.1 q = T.1 q := by
  unfold rcE
  split
  · exact mset_n (by omega)
  · split
    · exact mset_n (by omega)
    · split
      · exact mset_n (by omega)
      · exact scP_n (by omega) (by omega)
noncomputable def rnT (S : mS) (ch : Nat → Int32) : Nat → mS × Int32
  | 0 => (mupd S 129 0 0, 0)
  | i + 1 => if ch i = 59 then (mset (rcE (rnT S ch i).1).1 129 (accR ((rcE (rnT S ch i).1).1.1 129) (ch i)).1, (rnT S ch i).2 + (rcE (rnT S ch i).1).2) else (mset (rnT S ch i).1 129 (accR ((rnT S ch i).1.1 129) (ch i)).1, (rnT S ch i).2)
theorem rnT_n {S : mS} {ch : Nat → Int32} {q : Nat} (h : 126 < q) (h2 : q ≠ 129) : ∀ i, (rnT S ch i).1.1 q = S.1 q
  | 0 => mupd_n h2
  | i + 1 => by
    unfold rnT
    split
    · show (mset (rcE (rnT S ch i).1).1 129 _).1 q = _
      rw [mset_n h2, rcE_n h, rnT_n h h2 i]
    · show (mset (rnT S ch i).1 129 _).1 q = _
      rw [mset_n h2, rnT_n h h2 i]
noncomputable def rnE (S : mS) (len : Nat) : mS × Int32 := ((rcE (rnT S (S.1 128) len).1).1, (rnT S (S.1 128) len).2 + (rcE (rnT S (S.1 128) len).1).2)
section C43
variable {l : Launch} {D : va_G} {n0 : Nat} {ft : Nat × Nat × Nat} {n : Nat} {S : mS} {b : Nat} {len a h : Nat}
theorem cX9_find_48 (hb : mst b = true) : mMv l yX5_find wsX5_find rmX5_find D n0 ft [.ref (n0 + 99), .ref (n0 + b)] n S (fun S' => ∃ k, k ≤ 48 ∧ (jFlag (labI S b 48) k = 0 ∨ k = 48) ∧ S' = regS S b k) := cX5_find_ok hb
theorem aX9_requireTrack_255 : Cond.classLink RX9 255 "java/lang/IndexOutOfBoundsException" ∈ wsX9_requireTrack ∧ Cond.initialized "java/lang/IndexOutOfBoundsException" ∈ wsX9_requireTrack ∧ (∀ w ∈ (vx_atS RX9 259 "java/lang/IndexOutOfBoundsException" ["java/lang/RuntimeException", "java/lang/Exception"]).filter goodWord, w ∈ wsX9_requireTrack) ∧ (∀ w ∈ (vx_atS RX9 259 "java/lang/IndexOutOfBoundsException" ["java/lang/RuntimeException", "java/lang/Exception"]).filter (fun w => !goodWord w), w ∈ (tv_nD.map Cond.declares ++ [Cond.castable "java/lang/IndexOutOfBoundsException" "java/lang/IndexOutOfBoundsException"])) ∧ (∀ w ∈ Cond.classLink RX9 255 "java/lang/IndexOutOfBoundsException" :: Cond.initialized "java/lang/IndexOutOfBoundsException" :: vx_atS RX9 259 "java/lang/IndexOutOfBoundsException" ["java/lang/RuntimeException", "java/lang/Exception"], vx_ot w = true) := ⟨by decide +kernel, by decide +kernel, by decide +kernel, by decide +kernel, by decide +kernel⟩
theorem cX9_requireTrack_ok (hst : l.stackTraces = false) (x : Int32) : mxMv l yX9_requireTrack wsX9_requireTrack rmX9_requireTrack 1 6 D n0 ft [.int x] n S (fun S' => S' = S ∧ ∃ q, q < 6 ∧ x = nI q) (fun E S' => S' = S ∧ E = exI ∧ ¬ ∃ q, q < 6 ∧ x = nI q) := by
  refine tx_enter (cc := cX9_requireTrack) (maxL := 1) (ret := none) (by decide) rfl (Nat.le_of_ble_eq_true rfl) ?_
  intro p e s m args below meth c X hrt hnm hargs hex
  refine tv_iload_n X dX9_requireTrack_0 rfl ?_
  refine tv_if_lt (tgt := 10) X dX9_requireTrack_1 (by decide) (fun h1 => ?_) (fun h1 => ?_)
  · refine tx_throwSW (cls := "java/lang/IndexOutOfBoundsException") (text := "there is no such track") (names := ["java/lang/RuntimeException", "java/lang/Exception"]) X hex hst dX9_requireTrack_10 dX9_requireTrack_13 dX9_requireTrack_14 dX9_requireTrack_17 dX9_requireTrack_20 (by decide +kernel) (by decide +kernel) (by decide +kernel) (by decide +kernel) aX9_requireTrack_255.1 aX9_requireTrack_255.2.1 aX9_requireTrack_255.2.2.1 aX9_requireTrack_255.2.2.2.1 aX9_requireTrack_255.2.2.2.2 ⟨⟨Nat.le_of_ble_eq_true rfl, Nat.le_of_ble_eq_true rfl⟩, Nat.le_of_ble_eq_true rfl, Nat.le_of_ble_eq_true rfl⟩ (Nat.le_of_ble_eq_true rfl) (Nat.le_of_ble_eq_true rfl) (fun n1 hn1 => ⟨hn1, _, rfl, rfl, rfl, ix_no (N := 6) (by decide) (Or.inl h1)⟩)
  refine tv_iload_n X dX9_requireTrack_4 rfl ?_
  refine tv_bipush (v := 6) X dX9_requireTrack_5 (by decide) ?_
  refine tv_icmp_lt (tgt := 21) X dX9_requireTrack_7 (by decide) (fun h2 => ?_) (fun h2 => ?_)
  · refine tx_ret (Nat.le_of_ble_eq_true rfl) (Nat.le_of_ble_eq_true rfl) ?_
    exact tv_vret X hrt dX9_requireTrack_21 ⟨_, rfl, rfl, ix_yes (N := 6) (by decide) h1 (fun h => Int32.lt_irrefl (Int32.lt_of_le_of_lt h h2))⟩
  · refine tx_throwSW (cls := "java/lang/IndexOutOfBoundsException") (text := "there is no such track") (names := ["java/lang/RuntimeException", "java/lang/Exception"]) X hex hst dX9_requireTrack_10 dX9_requireTrack_13 dX9_requireTrack_14 dX9_requireTrack_17 dX9_requireTrack_20 (by decide +kernel) (by decide +kernel) (by decide +kernel) (by decide +kernel) aX9_requireTrack_255.1 aX9_requireTrack_255.2.1 aX9_requireTrack_255.2.2.1 aX9_requireTrack_255.2.2.2.1 aX9_requireTrack_255.2.2.2.2 ⟨⟨Nat.le_of_ble_eq_true rfl, Nat.le_of_ble_eq_true rfl⟩, Nat.le_of_ble_eq_true rfl, Nat.le_of_ble_eq_true rfl⟩ (Nat.le_of_ble_eq_true rfl) (Nat.le_of_ble_eq_true rfl) (fun n1 hn1 => ⟨hn1, _, rfl, rfl, rfl, ix_no (N := 6) (by decide) (Or.inr (Int32.not_lt.mp h2))⟩)
theorem aX9_requireContactNumber_255 : Cond.classLink RX9 255 "java/lang/IndexOutOfBoundsException" ∈ wsX9_requireContactNumber ∧ Cond.initialized "java/lang/IndexOutOfBoundsException" ∈ wsX9_requireContactNumber ∧ (∀ w ∈ (vx_atS RX9 259 "java/lang/IndexOutOfBoundsException" ["java/lang/RuntimeException", "java/lang/Exception"]).filter goodWord, w ∈ wsX9_requireContactNumber) ∧ (∀ w ∈ (vx_atS RX9 259 "java/lang/IndexOutOfBoundsException" ["java/lang/RuntimeException", "java/lang/Exception"]).filter (fun w => !goodWord w), w ∈ (tv_nD.map Cond.declares ++ [Cond.castable "java/lang/IndexOutOfBoundsException" "java/lang/IndexOutOfBoundsException"])) ∧ (∀ w ∈ Cond.classLink RX9 255 "java/lang/IndexOutOfBoundsException" :: Cond.initialized "java/lang/IndexOutOfBoundsException" :: vx_atS RX9 259 "java/lang/IndexOutOfBoundsException" ["java/lang/RuntimeException", "java/lang/Exception"], vx_ot w = true) := ⟨by decide +kernel, by decide +kernel, by decide +kernel, by decide +kernel, by decide +kernel⟩
theorem cX9_requireContactNumber_ok (hst : l.stackTraces = false) (x : Int32) : mxMv l yX9_requireContactNumber wsX9_requireContactNumber rmX9_requireContactNumber 1 6 D n0 ft [.int x] n S (fun S' => S' = S ∧ ¬ x < 0) (fun E S' => S' = S ∧ E = exI ∧ x < 0) := by
  refine tx_enter (cc := cX9_requireContactNumber) (maxL := 1) (ret := none) (by decide) rfl (Nat.le_of_ble_eq_true rfl) ?_
  intro p e s m args below meth c X hrt hnm hargs hex
  refine tv_iload_n X dX9_requireContactNumber_0 rfl ?_
  refine tv_if_ge (tgt := 15) X dX9_requireContactNumber_1 (by decide) (fun h1 => ?_) (fun h1 => ?_)
  · refine tx_ret (Nat.le_of_ble_eq_true rfl) (Nat.le_of_ble_eq_true rfl) ?_
    exact tv_vret X hrt dX9_requireContactNumber_15 ⟨_, rfl, rfl, Int32.not_lt.mpr h1⟩
  · refine tx_throwSW (cls := "java/lang/IndexOutOfBoundsException") (text := "the number of a contact is not negative") (names := ["java/lang/RuntimeException", "java/lang/Exception"]) X hex hst dX9_requireContactNumber_4 dX9_requireContactNumber_7 dX9_requireContactNumber_8 dX9_requireContactNumber_11 dX9_requireContactNumber_14 (by decide +kernel) (by decide +kernel) (by decide +kernel) (by decide +kernel) aX9_requireContactNumber_255.1 aX9_requireContactNumber_255.2.1 aX9_requireContactNumber_255.2.2.1 aX9_requireContactNumber_255.2.2.2.1 aX9_requireContactNumber_255.2.2.2.2 ⟨⟨Nat.le_of_ble_eq_true rfl, Nat.le_of_ble_eq_true rfl⟩, Nat.le_of_ble_eq_true rfl, Nat.le_of_ble_eq_true rfl⟩ (Nat.le_of_ble_eq_true rfl) (Nat.le_of_ble_eq_true rfl) (fun n1 hn1 => ⟨hn1, _, rfl, rfl, rfl, Int32.not_le.mp h1⟩)
theorem aX9_requirePart_65 : Cond.classLink RX9 65 "java/lang/IllegalArgumentException" ∈ wsX9_requirePart ∧ Cond.initialized "java/lang/IllegalArgumentException" ∈ wsX9_requirePart ∧ (∀ w ∈ (vx_atS RX9 69 "java/lang/IllegalArgumentException" ["java/lang/RuntimeException", "java/lang/Exception"]).filter goodWord, w ∈ wsX9_requirePart) ∧ (∀ w ∈ (vx_atS RX9 69 "java/lang/IllegalArgumentException" ["java/lang/RuntimeException", "java/lang/Exception"]).filter (fun w => !goodWord w), w ∈ (tv_nD.map Cond.declares ++ [Cond.castable "java/lang/IllegalArgumentException" "java/lang/IllegalArgumentException"])) ∧ (∀ w ∈ Cond.classLink RX9 65 "java/lang/IllegalArgumentException" :: Cond.initialized "java/lang/IllegalArgumentException" :: vx_atS RX9 69 "java/lang/IllegalArgumentException" ["java/lang/RuntimeException", "java/lang/Exception"], vx_ot w = true) := ⟨by decide +kernel, by decide +kernel, by decide +kernel, by decide +kernel, by decide +kernel⟩
theorem cX9_requirePart_ok (hst : l.stackTraces = false) (x : Int32) : mxMv l yX9_requirePart wsX9_requirePart rmX9_requirePart 1 6 D n0 ft [.int x] n S (fun S' => S' = S ∧ ∃ q, q < 4 ∧ x = nI q) (fun E S' => S' = S ∧ E = exA ∧ ¬ ∃ q, q < 4 ∧ x = nI q) := by
  refine tx_enter (cc := cX9_requirePart) (maxL := 1) (ret := none) (by decide) rfl (Nat.le_of_ble_eq_true rfl) ?_
  intro p e s m args below meth c X hrt hnm hargs hex
  refine tv_iload_n X dX9_requirePart_0 rfl ?_
  refine tv_if_lt (tgt := 9) X dX9_requirePart_1 (by decide) (fun h1 => ?_) (fun h1 => ?_)
  · refine tx_throwSW (cls := "java/lang/IllegalArgumentException") (text := "a part is from 0 to 3") (names := ["java/lang/RuntimeException", "java/lang/Exception"]) X hex hst dX9_requirePart_9 dX9_requirePart_12 dX9_requirePart_13 dX9_requirePart_16 dX9_requirePart_19 (by decide +kernel) (by decide +kernel) (by decide +kernel) (by decide +kernel) aX9_requirePart_65.1 aX9_requirePart_65.2.1 aX9_requirePart_65.2.2.1 aX9_requirePart_65.2.2.2.1 aX9_requirePart_65.2.2.2.2 ⟨⟨Nat.le_of_ble_eq_true rfl, Nat.le_of_ble_eq_true rfl⟩, Nat.le_of_ble_eq_true rfl, Nat.le_of_ble_eq_true rfl⟩ (Nat.le_of_ble_eq_true rfl) (Nat.le_of_ble_eq_true rfl) (fun n1 hn1 => ⟨hn1, _, rfl, rfl, rfl, ix_no (N := 4) (by decide) (Or.inl h1)⟩)
  refine tv_iload_n X dX9_requirePart_4 rfl ?_
  refine tv_iconst (v := 4) X dX9_requirePart_5 (by decide) ?_
  refine tv_icmp_lt (tgt := 20) X dX9_requirePart_6 (by decide) (fun h2 => ?_) (fun h2 => ?_)
  · refine tx_ret (Nat.le_of_ble_eq_true rfl) (Nat.le_of_ble_eq_true rfl) ?_
    exact tv_vret X hrt dX9_requirePart_20 ⟨_, rfl, rfl, ix_yes (N := 4) (by decide) h1 (fun h => Int32.lt_irrefl (Int32.lt_of_le_of_lt h h2))⟩
  · refine tx_throwSW (cls := "java/lang/IllegalArgumentException") (text := "a part is from 0 to 3") (names := ["java/lang/RuntimeException", "java/lang/Exception"]) X hex hst dX9_requirePart_9 dX9_requirePart_12 dX9_requirePart_13 dX9_requirePart_16 dX9_requirePart_19 (by decide +kernel) (by decide +kernel) (by decide +kernel) (by decide +kernel) aX9_requirePart_65.1 aX9_requirePart_65.2.1 aX9_requirePart_65.2.2.1 aX9_requirePart_65.2.2.2.1 aX9_requirePart_65.2.2.2.2 ⟨⟨Nat.le_of_ble_eq_true rfl, Nat.le_of_ble_eq_true rfl⟩, Nat.le_of_ble_eq_true rfl, Nat.le_of_ble_eq_true rfl⟩ (Nat.le_of_ble_eq_true rfl) (Nat.le_of_ble_eq_true rfl) (fun n1 hn1 => ⟨hn1, _, rfl, rfl, rfl, ix_no (N := 4) (by decide) (Or.inr (Int32.not_lt.mp h2))⟩)
theorem aX9_setRaw_65 : Cond.classLink RX9 65 "java/lang/IllegalArgumentException" ∈ wsX9_setRaw ∧ Cond.initialized "java/lang/IllegalArgumentException" ∈ wsX9_setRaw ∧ (∀ w ∈ (vx_atS RX9 69 "java/lang/IllegalArgumentException" ["java/lang/RuntimeException", "java/lang/Exception"]).filter goodWord, w ∈ wsX9_setRaw) ∧ (∀ w ∈ (vx_atS RX9 69 "java/lang/IllegalArgumentException" ["java/lang/RuntimeException", "java/lang/Exception"]).filter (fun w => !goodWord w), w ∈ (tv_nD.map Cond.declares ++ [Cond.castable "java/lang/IllegalArgumentException" "java/lang/IllegalArgumentException"])) ∧ (∀ w ∈ Cond.classLink RX9 65 "java/lang/IllegalArgumentException" :: Cond.initialized "java/lang/IllegalArgumentException" :: vx_atS RX9 69 "java/lang/IllegalArgumentException" ["java/lang/RuntimeException", "java/lang/Exception"], vx_ot w = true) := ⟨by decide +kernel, by decide +kernel, by decide +kernel, by decide +kernel, by decide +kernel⟩
theorem iX9_setRaw_X6 : ∀ w ∈ wsX60, w ∈ wsX9_setRaw := by decide +kernel
theorem iX9_setRaw_X9 : ∀ w ∈ wsX90, w ∈ wsX9_setRaw := by decide +kernel
theorem kX9_setRaw_12 : Cond.fieldLink RX9 12 (TX9 0).1 (TX9 0).2.1 (TX9 0).2.2.1 ∈ wsX9_setRaw := by decide +kernel
theorem kX9_setRaw_22 : Cond.fieldLink RX9 22 (TX9 2).1 (TX9 2).2.1 (TX9 2).2.2.1 ∈ wsX9_setRaw := by decide +kernel
theorem cX9_setRaw_ok (hst : l.stackTraces = false) (hpm : pmOk S) (hh : S.1 25 1 = nI h) (hh6 : h ≤ 6) (hd : trOk S 1) (x y v : Int32) : mxMi l yX9_setRaw wsX9_setRaw rmX9_setRaw 2 12 D n0 ft [.ref (n0 + 0), .int x, .int y, .int v] n S
    (fun r S' => ∃ i j S1, i < 8 ∧ j < 6 ∧ x = nI i ∧ y = nI j ∧ inI v 0 255 = true ∧ svR S h S1 ∧ S' = mset S1 3 (upd (S1.1 3) (6 * i + j) v) ∧ r = S1.1 3 (6 * i + j))
    (fun E S' => S' = S ∧ ((E = exI ∧ ¬ onP x y) ∨ (E = exA ∧ onP x y ∧ inI v 0 255 = false))) := by
  have hb : mst 1 = true := rfl
  refine tx_enter (cc := cX9_setRaw) (maxL := 4) (ret := (some .int)) (by decide) rfl (Nat.le_of_ble_eq_true rfl) ?_
  intro p e s m args below meth c X hrt hnm hargs hex
  refine tv_iload_n X dX9_setRaw_0 rfl ?_
  refine tv_iload_n X dX9_setRaw_1 rfl ?_
  refine tx_callSv X hex dX9_setRaw_2 (cX9_requireCell_ok hst x y) (va_cwS 2 X.2.2.2.2.1 gX9_setRaw_X9_requireCell rfl rfl rfl (by decide +kernel) ⟨Nat.le_of_ble_eq_true rfl, Nat.le_of_ble_eq_true rfl⟩) rfl rfl (Nat.le_of_ble_eq_true rfl) ⟨Nat.le_of_ble_eq_true rfl, Nat.le_of_ble_eq_true rfl⟩ (Nat.le_of_ble_eq_true rfl) (Nat.le_of_ble_eq_true rfl) (fun E u hu => ?_) (fun n1 h1 hq => ?_)
  · obtain ⟨k1, S', k2, k3, k4, k5⟩ := hu
    exact ⟨k1, S', k2, k3, Or.inl ⟨k4, k5⟩⟩
  obtain ⟨S1, hS1, hq1, hon⟩ := hq
  cases hS1
  rw [hq1]
  clear hq1
  refine tv_iload_n X dX9_setRaw_5 rfl ?_
  refine tv_if_lt (tgt := 16) X dX9_setRaw_6 (by decide) (fun h1 => ?_) (fun h1 => ?_)
  · refine tx_throwS (cls := "java/lang/IllegalArgumentException") (text := "a raw value is from 0 to 255") (names := ["java/lang/RuntimeException", "java/lang/Exception"]) X hex hst dX9_setRaw_16 dX9_setRaw_19 dX9_setRaw_20 dX9_setRaw_22 dX9_setRaw_25 (by decide +kernel) (by decide +kernel) (by decide +kernel) (by decide +kernel) aX9_setRaw_65.1 aX9_setRaw_65.2.1 aX9_setRaw_65.2.2.1 aX9_setRaw_65.2.2.2.1 aX9_setRaw_65.2.2.2.2 ⟨⟨Nat.le_of_ble_eq_true rfl, Nat.le_of_ble_eq_true rfl⟩, Nat.le_of_ble_eq_true rfl, Nat.le_of_ble_eq_true rfl⟩ (Nat.le_of_ble_eq_true rfl) (Nat.le_of_ble_eq_true rfl) (fun n1 hn1 => ⟨hn1, _, rfl, rfl, Or.inr ⟨rfl, hon, by unfold inI; rw [decide_eq_false (Int32.not_le.mpr h1)]; rfl⟩⟩)
  refine tv_iload_n X dX9_setRaw_9 rfl ?_
  refine tv_sipush (v := 255) X dX9_setRaw_10 (by decide) ?_
  refine tv_icmp_le (tgt := 26) X dX9_setRaw_13 (by decide) (fun h2 => ?_) (fun h2 => ?_)
  rotate_left
  · refine tx_throwS (cls := "java/lang/IllegalArgumentException") (text := "a raw value is from 0 to 255") (names := ["java/lang/RuntimeException", "java/lang/Exception"]) X hex hst dX9_setRaw_16 dX9_setRaw_19 dX9_setRaw_20 dX9_setRaw_22 dX9_setRaw_25 (by decide +kernel) (by decide +kernel) (by decide +kernel) (by decide +kernel) aX9_setRaw_65.1 aX9_setRaw_65.2.1 aX9_setRaw_65.2.2.1 aX9_setRaw_65.2.2.2.1 aX9_setRaw_65.2.2.2.2 ⟨⟨Nat.le_of_ble_eq_true rfl, Nat.le_of_ble_eq_true rfl⟩, Nat.le_of_ble_eq_true rfl, Nat.le_of_ble_eq_true rfl⟩ (Nat.le_of_ble_eq_true rfl) (Nat.le_of_ble_eq_true rfl) (fun n1 hn1 => ⟨hn1, _, rfl, rfl, Or.inr ⟨rfl, hon, by unfold inI; rw [decide_eq_false h2, Bool.and_false]⟩⟩)
  have hin : inI v 0 255 = true := by unfold inI; rw [decide_eq_true (Int32.not_lt.mp h1), decide_eq_true h2]; rfl
  refine tv_aload_n X dX9_setRaw_26 rfl ?_
  refine mm_getf X dX9_setRaw_27 gX9 iX9_setRaw_X9 rfl 2 (by decide) kX9_setRaw_22 rfl ?_
  refine tv_aload_n X dX9_setRaw_30 rfl ?_
  refine mm_getf X dX9_setRaw_31 gX9 iX9_setRaw_X9 rfl 0 (by decide) kX9_setRaw_12 rfl ?_
  refine mm_callVv (q := (RX2, TX2, 2)) X dX9_setRaw_34 (cX2_save_ok hpm hh hh6 hd) (cwV 1 X.2.2.2.2.1 gX9_setRaw_X2_save rfl rfl rfl (by decide +kernel) ⟨Nat.le_of_ble_eq_true rfl, Nat.le_of_ble_eq_true rfl⟩) rfl rfl gX2 rfl (Nat.le_of_ble_eq_true rfl) ⟨Nat.le_of_ble_eq_true rfl, Nat.le_of_ble_eq_true rfl⟩ (fun S1 hq => ?_)
  obtain ⟨⟨i, hi, rfl⟩, j, hj, rfl⟩ := hon
  refine tv_aload_n X dX9_setRaw_37 rfl ?_
  refine mm_getf X dX9_setRaw_38 gX9 iX9_setRaw_X9 rfl 0 (by decide) kX9_setRaw_12 rfl ?_
  refine mm_getfN X dX9_setRaw_41 (gX6 hb) iX9_setRaw_X6 rfl 0 (by decide) nF5 rfl ?_
  refine tv_iload_n X dX9_setRaw_44 rfl ?_
  refine tv_iload_n X dX9_setRaw_45 rfl ?_
  refine mm_callSi X dX9_setRaw_46 (cX9_cellAt_ok _ _) (va_cwS 2 X.2.2.2.2.1 gX9_setRaw_X9_cellAt rfl rfl rfl (by decide +kernel) ⟨Nat.le_of_ble_eq_true rfl, Nat.le_of_ble_eq_true rfl⟩) rfl rfl (Nat.le_of_ble_eq_true rfl) ⟨Nat.le_of_ble_eq_true rfl, Nat.le_of_ble_eq_true rfl⟩ (fun r S2 hq2 => ?_)
  obtain ⟨hq1, hq2⟩ := hq2
  rw [hq1, hq2, cellI]
  clear hq1 hq2
  refine tv_iload_n X dX9_setRaw_49 rfl ?_
  refine mm_callVi (q := (RX4, TX4, 2)) X dX9_setRaw_50 (cX4_replaceRaw_ok hb (j := 6 * i + j) (by omega) v) (cwV 2 X.2.2.2.2.1 gX9_setRaw_X4_replaceRaw rfl rfl rfl (by decide +kernel) ⟨Nat.le_of_ble_eq_true rfl, Nat.le_of_ble_eq_true rfl⟩) rfl rfl (gX4 hb) rfl (Nat.le_of_ble_eq_true rfl) ⟨Nat.le_of_ble_eq_true rfl, Nat.le_of_ble_eq_true rfl⟩ (fun r S3 hq3 => ?_)
  obtain ⟨hq1, hq2⟩ := hq3
  rw [hq1, hq2]
  refine tx_ret (Nat.le_of_ble_eq_true rfl) (Nat.le_of_ble_eq_true rfl) ?_
  exact tv_iret X hrt dX9_setRaw_53 ⟨_, rfl, i, j, S1, hi, hj, rfl, rfl, hin, hq, rfl, rfl⟩
end C43

