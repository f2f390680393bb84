/-! downIfScanned, meanSignal -/
theorem umC : ∀ u, u < 64 → ∀ c, c < 6 → (nI u >>> (nI c &&& 31)) &&& 1 = nI (if u.testBit c then 1 else 0) := by decide +kernel
/-- the contacts without a track, counted from i on -/
def cuN (tk : Nat) : Nat → Nat → Nat
  | _, 0 => 0
  | i, m + 1 => (if tk.testBit i then 0 else 1) + cuN tk (i + 1) m
theorem cuN_le {tk : Nat} : ∀ {m i : Nat}, cuN tk i m ≤ m
  | 0, _ => Nat.le_refl _
  | m + 1, i => by
    have := cuN_le (tk := tk) (m := m) (i := i + 1)
    unfold cuN
    split <;> omega
theorem cuN_last {tk : Nat} : ∀ {m i : Nat}, cuN tk i (m + 1) = cuN tk i m + if tk.testBit (i + m) then 0 else 1
  | 0, i => by
    show (if tk.testBit i then 0 else 1) + 0 = 0 + _
    rw [Nat.add_zero, Nat.add_zero, Nat.zero_add]
  | m + 1, i => by
    have ih := cuN_last (tk := tk) (m := m) (i := i + 1)
    show (if tk.testBit i then 0 else 1) + cuN tk (i + 1) (m + 1) = (if tk.testBit i then 0 else 1) + cuN tk (i + 1) m + _
    rw [ih, show i + 1 + m = i + (m + 1) by omega, Nat.add_assoc]
theorem mo_cu {F : mS} {u tk k : Nat} (hk : k ≤ 6) (hu : u < 64) (hb : ∀ e, e < 6 → u.testBit e = (decide (e < k) && !(tk.testBit e))) : ∀ n, n ≤ k → moN F (nI u) n = nI (cuN tk 0 n)
  | 0, _ => rfl
  | n + 1, hn => by
    have ih := mo_cu (F := F) hk hu hb n (by omega)
    show moN F (nI u) n + ((nI u >>> (nI n &&& 31)) &&& 1) = _
    rw [ih, umC u hu n (by omega), nI_add, cuN_last, Nat.zero_add, hb n (by omega), decide_eq_true (show n < k by omega), Bool.true_and]
    cases tk.testBit n <;> rfl
theorem nx_cu {tk k : Nat} : ∀ m i, i + m = k → (nxU tk k m i < k → cuN tk i m = 1 + cuN tk (nxU tk k m i + 1) (k - (nxU tk k m i + 1))) ∧ (¬ nxU tk k m i < k → nxU tk k m i = k ∧ cuN tk i m = 0)
  | 0, i, h => by
    have e : nxU tk k 0 i = i := rfl
    rw [e]
    exact ⟨fun h2 => by omega, fun _ => ⟨by omega, rfl⟩⟩
  | m + 1, i, h => by
    have ih := nx_cu (tk := tk) (k := k) m (i + 1) (by omega)
    have e : nxU tk k (m + 1) i = if tk.testBit i then nxU tk k m (i + 1) else i := rfl
    have e2 : cuN tk i (m + 1) = (if tk.testBit i then 0 else 1) + cuN tk (i + 1) m := rfl
    rw [e, e2]
    cases ht : tk.testBit i with
    | true =>
      rw [if_pos rfl, if_pos rfl, Nat.zero_add]
      exact ih
    | false =>
      rw [if_neg (by decide), if_neg (by decide)]
      refine ⟨fun _ => ?_, fun h2 => by omega⟩
      rw [show k - (i + 1) = m by omega]
theorem Xr_0 {S F : mS} {b : Nat} {as : Nat → Option Nat} {d tk k : Nat} {left : Int32} (hx : SCx S F b as d tk k left) {t : Nat} (ht : t < 6) : Xr S b as d tk k t 0 = bz (if dwR F t then sdM F t else (gvN d tk k t).isSome) := by
  obtain ⟨⟨hk, hb⟩, h1, h2, -, h5, h6, h7, h8, ⟨lf, hlf, elf⟩, h9, -⟩ := hx
  have hrt := h8 t ht
  have hdw := SC_dw hrt
  have e0 : S.1 (b + 6 + t) 0 = F.1 131 (101 + 5 * t) := h1 t ht 0 (by decide)
  have e4 : S.1 (b + 6 + t) 4 = F.1 131 (101 + 5 * t + 4) := h1 t ht 4 (by decide)
  unfold Xr
  cases hd : dwR F t with
  | true =>
    have hgv : gvN d tk k t = none := by unfold gvN; rw [h9 t ht, hd]; rfl
    rw [hgv, if_pos rfl]
    dsimp only
    unfold mvR sdM
    rw [hd, (h6 t ht).1]
    cases ha : as t with
    | some c =>
      have hc := (h6 t ht).2 c ha
      have hne : ¬ oI (some c) = -1 := nI_nm1 (f := c) (by omega)
      rw [decide_eq_false hne]
      show S.1 (b + 6 + t) 0 = bz (true && (!false || _))
      rw [e0, hdw.1.mp hd]
      rfl
    | none =>
      obtain ⟨r0, r1, r2, m, hm7, hm6, em⟩ := hrt
      have hd1 := hdw.1.mp hd
      have hm := hm6 hd1
      have hlift : (S.1 (b + 4) 4 < S.1 (b + 6 + t) 4 + 1) ↔ ¬ m < lf := by
        rw [h2, elf, e4, em, nI_1]
        exact (nI_ltI (a := lf) (b := m + 1) (by omega) (by omega)).trans ⟨fun h => by omega, fun h => by omega⟩
      have hne : ¬ S.1 (b + 6 + t) 0 = 0 := by rw [e0, hd1]; decide
      dsimp only
      rw [if_neg hne]
      show (if S.1 (b + 4) 4 < S.1 (b + 6 + t) 4 + 1 then (0 : Int32) else 1) = bz (true && (!(decide ((-1 : Int32) = -1)) || decide (ofR F t 4 < F.1 131 100)))
      have eo : ofR F t 4 = nI m := em
      rw [eo, elf, decide_eq_true (rfl : (-1 : Int32) = -1), Bool.true_and, Bool.not_true, Bool.false_or, decide_eq_decide.mpr (nI_ltI (a := m) (b := lf) (by omega) (by omega))]
      by_cases hl : m < lf
      · rw [if_neg (fun h => hlift.mp h hl), decide_eq_true hl]; rfl
      · rw [if_pos (hlift.mpr hl), decide_eq_false hl]; rfl
  | false =>
    rw [if_neg (by decide)]
    cases hgv : gvN d tk k t with
    | some c => rfl
    | none =>
      dsimp only
      unfold mvR
      rw [h7 t ht hd]
      dsimp only
      have hS00 : S.1 (b + 6 + t) 0 = 0 := e0.trans (hdw.2.mp hd)
      rw [if_pos hS00, hS00]
      rfl
theorem i32_s1 {m : Nat} : nI (1 + m) - 1 = nI m := by
  rw [Nat.add_comm, ← nI_1, Int32.add_sub_cancel]
theorem ds_ind {S F T : mS} {b : Nat} {as : Nat → Option Nat} {d tk k : Nat} {left m0 : Int32} (hx : SCx S F b as d tk k left) (hT : ∀ t, t < 6 → T.1 (b + 6 + t) 0 = Xr S b as d tk k t 0) (h0 : m0 = nI (cuN tk 0 k)) : ∀ t, t ≤ 6 → (dsT F m0 t).1 = nI (cuN tk (scN d tk k t) (k - scN d tk k t)) ∧ (dsT F m0 t).2 = nI (dsN T b t)
  | 0, _ => ⟨h0, rfl⟩
  | t + 1, ht1 => by
    have ht : t < 6 := by omega
    obtain ⟨i1, i2⟩ := ds_ind hx hT h0 t (by omega)
    have hX := (hT t ht).trans (Xr_0 hx ht)
    obtain ⟨⟨hk, hb⟩, -, -, -, -, -, -, -, -, h9, -⟩ := hx
    have hle := scN_le (d := d) (tk := tk) (k := k) t
    have hl := dsN_lt (S := T) (b := b) (t := t) (by omega)
    have hu : dsN T b (t + 1) = if T.1 (b + 6 + t) 0 = 0 then dsN T b t else dsN T b t ||| 1 <<< t := rfl
    have hq : dsT F m0 (t + 1) = dsF F (dsT F m0 t) t := rfl
    have hm : ∀ v : Bool, (nI (dsN T b t) ||| if v then ((1 : Int32) <<< (nI t &&& 31)) else 0) = nI (if bz v = 0 then dsN T b t else dsN T b t ||| 1 <<< t) := fun v => by
      cases v with
      | true => exact (or6 _ hl t ht).1
      | false => exact Int32.or_zero
    rw [hq, hu, hX]
    unfold dsF
    rw [i1, i2]
    cases hd : dwR F t with
    | true =>
      have hbit : d.testBit t = true := (h9 t ht).trans hd
      have hsc : scN d tk k (t + 1) = scN d tk k t := by
        show (if d.testBit t then scN d tk k t else _) = _
        rw [hbit]; rfl
      rw [hsc, if_pos rfl]
      refine ⟨?_, ?_⟩
      · show nI _ - bz (!true && _) = nI _
        rw [Bool.not_true, Bool.false_and]
        exact Int32.sub_zero _
      · show (nI (dsN T b t) ||| if (!true && _) || sdM F t then _ else 0) = _
        rw [Bool.not_true, Bool.false_and, Bool.false_or]
        exact hm _
    | false =>
      have hbit : d.testBit t = false := (h9 t ht).trans hd
      have hsc : scN d tk k (t + 1) = if nxU tk k (k - scN d tk k t) (scN d tk k t) < k then nxU tk k (k - scN d tk k t) (scN d tk k t) + 1 else nxU tk k (k - scN d tk k t) (scN d tk k t) := by
        show (if d.testBit t then scN d tk k t else _) = _
        rw [hbit]; rfl
      have hgv : gvN d tk k t = if nxU tk k (k - scN d tk k t) (scN d tk k t) < k then some (nxU tk k (k - scN d tk k t) (scN d tk k t)) else none := by
        unfold gvN
        rw [hbit]; rfl
      have hcu := nx_cu (tk := tk) (k := k) (k - scN d tk k t) (scN d tk k t) (by omega)
      have hsd : sdM F t = false := by unfold sdM; rw [hd]; rfl
      have hcl := cuN_le (tk := tk) (m := k - scN d tk k t) (i := scN d tk k t)
      rw [hsd, hsc, hgv, if_neg (show ¬ (false = true) by decide)]
      generalize nxU tk k (k - scN d tk k t) (scN d tk k t) = c at hcu
      by_cases hc : c < k
      · have e1 := hcu.1 hc
        rw [if_pos hc, if_pos hc]
        have hpos : (0 : Int32) < nI (cuN tk (scN d tk k t) (k - scN d tk k t)) := nI_lt (a := 0) (by omega) (by omega)
        refine ⟨?_, ?_⟩
        · show nI _ - bz (!false && decide (0 < nI _)) = _
          rw [decide_eq_true hpos, e1]
          exact i32_s1
        · show (nI (dsN T b t) ||| if (!false && decide (0 < nI _)) || false then _ else 0) = _
          rw [decide_eq_true hpos]
          exact hm true
      · obtain ⟨e0, e1⟩ := hcu.2 hc
        rw [if_neg hc, if_neg hc, e1, e0, Nat.sub_self]
        refine ⟨?_, ?_⟩
        · exact Int32.sub_zero _
        · exact hm false
theorem ds_both {A B : mS} {b : Nat} (hb : b + 12 < 99) (hI : EQ A b B) (hz : ∀ s, s < 64 → A.1 125 s = 0) : (dsT (fmE (fcE (frD B))) (moN (fmE (fcE (frD B))) (umR (fmE (fcE (frD B))) 6) (scnM (fmE (fcE (frD B))))) 6).2 = nI (dsN (scP A b 48) b 6) := by
  have hx := sc_ctx hb hI hz
  have hkk := scnM_k hb hI
  have hk : (ctP A b 48).2 ≤ 6 := hx.1.1
  have h17 : (fmE (fcE (frD B))).1 130 17 = nI (ctP A b 48).2 := by
    rw [congrFun (fmE_n (S := fcE (frD B)) (q := 130) (by decide)) 17, ref_ct.1, (cls_ct hb hI).1]
  obtain ⟨u, hu, eu, hub⟩ := um_bits hk h17 (fun t ht => (hx.2.2.2.2.2.1 t ht).1) 6 (Nat.le_refl 6)
  have h0 : moN (fmE (fcE (frD B))) (umR (fmE (fcE (frD B))) 6) (scnM (fmE (fcE (frD B)))) = nI (cuN (tkA (mtB A b 48) (ctP A b 48).2 6) 0 (ctP A b 48).2) := by
    rw [hkk, eu]
    exact mo_cu hk hu hub _ (Nat.le_refl _)
  refine (ds_ind (T := scP A b 48) hx (fun t ht => ?_) h0 6 (Nat.le_refl 6)).2
  exact congrFun (tfS_row hb ht) 0
section LCD
variable {S S1 : mS} {h k : Nat} {x y v r1 : Int32}
theorem lc_downIfScanned (hI : INV S S h k) (h1 : pC_downIfScanned S h k x y v r1 S1) : RLs S S1 ∧ ∀ r2 S2, pR_downIfScanned S1 h k x y v r2 S2 → LPok S2 r1 r2 := by
  obtain ⟨T, hF, hQ, e, hr⟩ := h1
  have hR : RLs S S1 := fun q hq => by
    rw [e, scP_out (by omega) (by omega)]
    exact hF.2 q (by omega)
  have hCW : CW S S1 := by
    rw [e]
    refine ⟨fun q h1 h2 => ?_, ?_, ?_, ?_⟩
    · rw [scP_out (by omega) (by omega)]
      exact hF.2 q (by omega)
    · rw [scP_out (by omega) (by omega)]
      exact hF.2 127 (by omega)
    · rw [scP_out (by omega) (by omega)]
      exact hF.2 128 (by omega)
    · rw [scP_2, hF.1]
  refine ⟨hR, fun r2 S2 h2 => ?_⟩
  obtain ⟨e2, hr2⟩ := h2
  have hE : EQ T 13 (mupd S1 130 0 0) := by
    have h9 : (mupd S1 130 0 0).1 131 = S.1 131 := (mupd_n (by decide)).trans (hR 131 (by decide))
    refine ⟨fun j hj => ?_, ?_⟩
    · rw [h9, stEq_cb hQ j hj]
      exact INV_row hI j hj
    · rw [h9]
      exact hI.2.2.2.2.1
  have hz : ∀ s, s < 64 → T.1 125 s = 0 := fun s hs => by rw [hF.2 125 (by omega)]; exact INV_z hI s hs
  rw [e2] at hr2 ⊢
  refine LP_look hI hCW hR fmE_RW fcE_2 (fun q hq => fmE_lo hq) (hr.trans (Eq.trans ?_ hr2.symm))
  exact (ds_both (by decide) hE hz).symm
theorem cm_mn {S : mS} (hI : INV S S h k) : ∀ i, i ≤ 48 → cmS S i = mnS S i ∧ cmN S i = mnN S i ∧ ∃ c, c ≤ i ∧ mnN S i = nI c
  | 0, _ => ⟨rfl, rfl, 0, Nat.le_refl _, rfl⟩
  | i + 1, hi => by
    obtain ⟨h1, h2, c, hc, h3⟩ := cm_mn hI i (by omega)
    have e1 : cmS S (i + 1) = if S.1 5 0 ≤ sgS S 1 i then cmS S i + sgS S 1 i else cmS S i := rfl
    have e2 : cmN S (i + 1) = if S.1 5 0 ≤ sgS S 1 i then cmN S i + 1 else cmN S i := rfl
    have e3 : mnS S (i + 1) = mnS S i + (if S.1 131 96 ≤ sgR S i then sgR S i else 0) := rfl
    have e4 : mnN S (i + 1) = mnN S i + (if S.1 131 96 ≤ sgR S i then 1 else 0) := rfl
    rw [e1, e2, e3, e4, INV_sg hI (by omega), INV_set hI (by decide), h1, h2, h3]
    by_cases hh : S.1 131 (96 + 0) ≤ sgR S i
    · rw [if_pos hh, if_pos hh, if_pos (show S.1 131 96 ≤ sgR S i from hh), if_pos (show S.1 131 96 ≤ sgR S i from hh)]
      exact ⟨rfl, rfl, c + 1, by omega, nI_1 c⟩
    · rw [if_neg hh, if_neg hh, if_neg (show ¬ S.1 131 96 ≤ sgR S i from hh), if_neg (show ¬ S.1 131 96 ≤ sgR S i from hh), Int32.add_zero, Int32.add_zero]
      exact ⟨rfl, rfl, c, by omega, rfl⟩
theorem lc_meanSignal {q1 : UInt32} (hI : INV S S h k) (h1 : pC_meanSignal S h k x y v q1 S1) : RLs S S1 ∧ ∀ q2 S2, pR_meanSignal S1 h k x y v q2 S2 → q1 = q2 ∧ ∃ h' k', INV S2 S2 h' k' := by
  obtain ⟨rfl, hr⟩ := h1
  refine ⟨RLs.refl, fun q2 S2 h2 => ?_⟩
  obtain ⟨rfl, hr2⟩ := h2
  refine ⟨?_, (LP_q (w := 0) (r2 := 0) hI rfl).2⟩
  obtain ⟨g1, g2, c, hc, g3⟩ := cm_mn hI 48 (Nat.le_refl 48)
  rw [hr, hr2]
  unfold cmV mnV
  rw [g1, g2, g3]
  by_cases h0 : 0 < c
  · rw [if_pos (show (0 : Int32) < nI c from nI_lt (a := 0) h0 (by omega)), if_neg (nI_ne0 (n := c) h0 (by omega))]
  · have e : c = 0 := by omega
    rw [e]
    rfl
end LCD

