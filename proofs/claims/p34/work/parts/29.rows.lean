theorem jn_hi {r : Nat → Int32} {c d x : Nat} (hc : x ≠ c) (hd : x ≠ d) : jnR r c d x = r x := by
  unfold jnR
  split
  · rw [pk_un hd, pk_un hc]
  · rfl
theorem jStep_hi {q : (Nat → Int32) × Int32} {c x : Nat} (hc : c < 48) (hx : 48 ≤ x) : (jStep1 q c).1 x = q.1 x ∧ (jStep2 q c).1 x = q.1 x := by
  constructor
  · unfold jStep1
    split
    · exact jn_hi (by omega) (by omega)
    · rfl
  · unfold jStep2
    split
    · exact jn_hi (by omega) (by omega)
    · rfl
theorem jUpto_hi {r : Nat → Int32} {x : Nat} (hx : 48 ≤ x) : ∀ {i : Nat}, i ≤ 48 → (jUpto r i).1 x = r x
  | 0, _ => rfl
  | i + 1, hi => by
    have e : (jUpto r (i + 1)) = jStep2 (jStep1 (jUpto r i) i) i := rfl
    rw [e, (jStep_hi (by omega) hx).2, (jStep_hi (by omega) hx).1, jUpto_hi hx (by omega)]
theorem jPass_hi {r : Nat → Int32} {x : Nat} (hx : 48 ≤ x) : ∀ k, jPass r k x = r x
  | 0 => rfl
  | k + 1 => (jUpto_hi (r := jPass r k) hx (Nat.le_refl 48)).trans (jPass_hi hx k)
/-- which cells are touched -/
def ttS (S : mS) (b : Nat) (c : Nat) : Bool := decide (S.1 (b + 4) 0 ≤ sgS S b c)
theorem labI_ci {S : mS} {b c : Nat} (hc : c < 48) : labI S b 48 c = ciT (ttS S b) c := by
  show (if c < 48 then (if S.1 (b + 4) 0 ≤ sgS S b c then nI c else (48 : Int32)) else _) = if ttS S b c then nI c else 48
  rw [if_pos hc]
  unfold ttS
  by_cases h : S.1 (b + 4) 0 ≤ sgS S b c
  · rw [if_pos h, decide_eq_true h]; rfl
  · rw [if_neg h, decide_eq_false h]; rfl
theorem jP_gL {S : mS} {b k : Nat} (hk : jFlag (labI S b 48) k = 0 ∨ k = 48) {c : Nat} (hc : c < 48) : jPass (labI S b 48) k c = if ttS S b c then nI (gL (ttS S b) c) else 48 := jp_gL (fun _ h => labI_ci h) hk hc
theorem jP_48 {S : mS} {b k : Nat} (hk : jFlag (labI S b 48) k = 0 ∨ k = 48) : jPass (labI S b 48) k = jPass (labI S b 48) 48 := by
  funext c
  by_cases hc : c < 48
  · rw [jP_gL hk hc, jP_gL (Or.inr rfl) hc]
  · rw [jPass_hi (by omega), jPass_hi (by omega)]
theorem regS_48 {S : mS} {b k : Nat} (hk : jFlag (labI S b 48) k = 0 ∨ k = 48) : regS S b k = regS S b 48 := by
  unfold regS
  rw [jP_48 hk]
theorem flS_48 {S : mS} {b k : Nat} (hk : jFlag (labI S b 48) k = 0 ∨ k = 48) : flS S b k = flS S b 48 := by
  funext j
  unfold flS
  rw [jP_48 hk]
theorem ctP_48 {S : mS} {b k : Nat} (hk : jFlag (labI S b 48) k = 0 ∨ k = 48) : ctP S b k = ctP S b 48 := by
  unfold ctP
  rw [regS_48 hk, flS_48 hk]
theorem scP_48 {S : mS} {b k : Nat} (hk : jFlag (labI S b 48) k = 0 ∨ k = 48) : scP S b k = scP S b 48 := by
  unfold scP mtP mtB
  rw [ctP_48 hk]
theorem tfS_n {S : mS} {b tk k q : Nat} {as : Nat → Option Nat} (h : q < b ∨ b + 12 ≤ q) : (tfS S b as tk k).1 q = S.1 q := by
  unfold tfS sdS
  rw [mupd_n (by omega), trS_n (by omega)]
  unfold mvS
  rw [mupd_n (by omega), trS_n (by omega), mupd_n (by omega)]
theorem scP_n {S : mS} {b k q : Nat} (h : q < b ∨ b + 12 ≤ q) (h2 : q < 99 ∨ 126 < q) : (scP S b k).1 q = S.1 q := by
  unfold scP mtP
  rw [tfS_n h, mfS_n (by omega), ctP_n (by omega)]
/-- what a save leaves -/
def svR (S : mS) (h : Nat) (S' : mS) : Prop := S'.2 = (svP S h, S.2.2) ∧ (∀ q, q ≠ 25 → (q < svP S h (svI h) ∨ svP S h (svI h) + 12 ≤ q) → S'.1 q = S.1 q) ∧ S'.1 25 1 = nI (svI h + 1) ∧ stEq S' (svP S h (svI h)) S 1
/-- what an undo leaves -/
def rsR (S : mS) (h : Nat) (S' : mS) : Prop := S'.2 = S.2 ∧ (∀ q, q ≠ 25 → (q < 1 ∨ 13 ≤ q) → S'.1 q = S.1 q) ∧ S'.1 25 1 = nI (h - 1) ∧ stEq S' 1 S (S.2.1 (h - 1))

