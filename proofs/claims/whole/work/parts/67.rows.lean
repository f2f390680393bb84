/-! the frame: what it leaves -/
theorem tfS_row {S : mS} {b t k tk : Nat} {as : Nat → Option Nat} (hb : b + 12 < 99) (ht : t < 6) : (tfS S b as tk k).1 (b + 6 + t) = Xr (mupd S b 3 (S.1 b 3 + 1)) b as (dsN S b 6) tk k t := by
  unfold tfS sdS
  rw [mupd_n (by omega), trS_p ht]
  have hT : (mvS (mupd S b 3 (S.1 b 3 + 1)) b as 6).1 (b + 6 + t) = mvR (mupd S b 3 (S.1 b 3 + 1)) b as t := by
    unfold mvS
    rw [mupd_n (by omega), trS_p ht]
  have h5 : (mvS (mupd S b 3 (S.1 b 3 + 1)) b as 6).1 105 = (mupd S b 3 (S.1 b 3 + 1)).1 105 := by
    unfold mvS
    rw [mupd_n (by omega), trS_n (by omega)]
  have h6 : (mvS (mupd S b 3 (S.1 b 3 + 1)) b as 6).1 106 = (mupd S b 3 (S.1 b 3 + 1)).1 106 := by
    unfold mvS
    rw [mupd_n (by omega), trS_n (by omega)]
  unfold sdR Xr
  rw [hT, h5, h6]
  cases gvN (dsN S b 6) tk k t <;> rfl
theorem dnU_X {T S : mS} {b d tk k : Nat} (h : T.1 b 4 = S.1 b 4) : ∀ t, dnU T b d tk k t = dnX S b d tk k t
  | 0 => h
  | t + 1 => by
    have ih := dnU_X (d := d) (tk := tk) (k := k) h t
    show (match gvN d tk k t with | some _ => dnU T b d tk k t + 1 | none => dnU T b d tk k t) = (match gvN d tk k t with | some _ => dnX S b d tk k t + 1 | none => dnX S b d tk k t)
    rw [ih]
theorem tfS_b {S : mS} {b k tk : Nat} {as : Nat → Option Nat} (hb : b + 12 < 99) : (tfS S b as tk k).1 b 3 = S.1 b 3 + 1 ∧ (tfS S b as tk k).1 b 4 = dnX (mupd S b 3 (S.1 b 3 + 1)) b (dsN S b 6) tk k 6 ∧ (tfS S b as tk k).1 b 5 = upU (mupd S b 3 (S.1 b 3 + 1)) b as 6 := by
  have e4 : (mvS (mupd S b 3 (S.1 b 3 + 1)) b as 6).1 b 4 = (mupd S b 3 (S.1 b 3 + 1)).1 b 4 := by
    unfold mvS
    rw [mupd_sn (by decide), trS_n (by omega)]
  unfold tfS sdS
  refine ⟨?_, ?_, ?_⟩
  · rw [mupd_sn (by decide), trS_n (by omega)]
    unfold mvS
    rw [mupd_sn (by decide), trS_n (by omega), mupd_ss]
  · rw [mupd_ss, dnU_X e4]
  · rw [mupd_sn (by decide), trS_n (by omega)]
    unfold mvS
    rw [mupd_ss]
theorem tfS_lo {S : mS} {b k tk q : Nat} {as : Nat → Option Nat} (h1 : q ≠ b) (h2 : q < b + 6 ∨ b + 12 ≤ q) : (tfS S b as tk k).1 q = S.1 q := by
  unfold tfS sdS
  rw [mupd_n h1, trS_n (by omega)]
  unfold mvS
  rw [mupd_n h1, trS_n (by omega), mupd_n h1]
/-- all that the frame stands on, on both sides -/
theorem sc_ctx {A B : mS} {b : Nat} (hb : b + 12 < 99) (hI : EQ A b B) (hz : ∀ s, s < 64 → A.1 125 s = 0) : SCx (mupd (mtP A b 48) b 3 ((mtP A b 48).1 b 3 + 1)) (fmE (fcE (frD B))) b (asA (mtB A b 48) (ctP A b 48).2) (dsN (mtP A b 48) b 6) (tkA (mtB A b 48) (ctP A b 48).2 6) (ctP A b 48).2 (umR (fmE (fcE (frD B))) 6) := by
  obtain ⟨c1, c2⟩ := cls_ct hb hI
  obtain ⟨d1, d2⟩ := ref_ct (B := B)
  obtain ⟨m1, m2, m3, -⟩ := mt_both hb hI hz
  have hk := (ctL_eq (B := B)).2
  have r131 : (fmE (fcE (frD B))).1 131 = B.1 131 := (fmE_n (by decide)).trans R131
  have rlo : ∀ q, q < 99 → (mtP A b 48).1 q = A.1 q := fun q hq => by
    unfold mtP
    rw [mfS_out (by omega), ctP_n (by omega)]
  have r105 : ∀ q, q = 105 ∨ q = 106 → (mtP A b 48).1 q = (ctP A b 48).1.1 q := fun q hq => by
    unfold mtP
    rw [mfS_out (by omega)]
  have h141 : ∀ t, t < 6 → (fmE (fcE (frD B))).1 141 t = oI (asA (mtB A b 48) (ctP A b 48).2 t) := fun t ht => by
    rw [← mt_126 hb hI hz ht]
    unfold mtP mtB mfS asgT
    rw [mset_s]
    exact if_pos ht
  have hdw : ∀ t, dwR (fmE (fcE (frD B))) t = dwR (fcE (frD B)) t := fun t => by
    unfold dwR ofR
    rw [r131, R131]
  rw [c1] at h141 m1 m3 ⊢
  have h17 : (fmE (fcE (frD B))).1 130 17 = nI (ctL B).length := (congrFun (fmE_n (by decide)) 17).trans d1
  obtain ⟨u, hu, eu, hub⟩ := um_bits hk h17 h141 6 (Nat.le_refl 6)
  refine ⟨⟨hk, hb⟩, fun t ht w hw => ?_, ?_, ⟨?_, ?_⟩, fun c hc => ?_, fun t ht => ⟨h141 t ht, fun c hc => ?_⟩, fun t ht hd => ?_, fun t ht => ?_, ?_, fun t ht => ?_, nx_eq hk hu eu hub⟩
  · rw [mupd_n (by omega), rlo _ (by omega), r131, EQ_trk hI ht hw]
  · rw [mupd_n (by omega), rlo _ (by omega), r131, EQ_set hI (by decide)]
  · rw [mupd_sn (by decide), rlo _ (by omega), r131, EQ_cnt hI (by decide) (by decide)]
  · rw [mupd_sn (by decide), rlo _ (by omega), r131, EQ_cnt hI (by decide) (by decide)]
  · rw [mupd_n (by omega), mupd_n (by omega), r105 105 (by omega), r105 106 (by omega), fmE_n (by decide), fmE_n (by decide)]
    have hj : (ctL B)[c]? = some (ctL B)[c] := List.getElem?_eq_getElem hc
    obtain ⟨x1, x2, -⟩ := c2 c _ hj
    obtain ⟨y1, y2, -⟩ := d2 c _ hj
    refine ⟨?_, ?_⟩
    · rw [x1, y1]
    · rw [show (106 : Nat) = 105 + 1 from rfl, x2, show (137 : Nat) = 136 + 1 from rfl, y2]
  · exact ((fbN_spec (q := asP (mtB A b 48) (tkA (mtB A b 48) (ctL B).length t) t) (n := (ctL B).length)).1 c hc).1
  · rw [m1 t ht]
    have hm : mtQ (fcE (frD B)) (fmK (fcE (frD B))) t (asM (fcE (frD B)) (fmK (fcE (frD B))) t).2 = false := by
      unfold mtQ
      rw [← hdw, hd]
      rfl
    rw [hm]
    rfl
  · rw [r131]
    exact hI.2.2.2.2.2.2.2 t ht
  · rw [r131]
    exact hI.2.2.2.2.2.2.1
  · rw [dsN_bit (Nat.le_refl 6) t ht, decide_eq_true ht, Bool.true_and, rlo _ (by omega)]
    obtain ⟨g1, g2⟩ := dwB hI ht
    rw [hdw]
    cases hd : dwR (fcE (frD B)) t with
    | false => rw [g1 hd]; rfl
    | true => rw [g2 hd]; rfl
/-- the contacts' places are in their ranges -/
def SCr (F : mS) (k : Nat) : Prop := ∀ c, c < k → (∃ v, v < 701 ∧ F.1 136 c = nI v) ∧ ∃ v, v < 701 ∧ F.1 137 c = nI v
theorem sc_r {A B : mS} {b : Nat} (hb : b + 12 < 99) (hI : EQ A b B) : SCr (fmE (fcE (frD B))) (ctP A b 48).2 := by
  obtain ⟨c1, c2⟩ := cls_ct hb hI
  obtain ⟨d1, d2⟩ := ref_ct (B := B)
  rw [c1]
  intro c hc
  have hj : (ctL B)[c]? = some (ctL B)[c] := List.getElem?_eq_getElem hc
  generalize (ctL B)[c] = p at hj
  obtain ⟨q1, q2⟩ := ctL_mem (List.mem_of_getElem? hj)
  obtain ⟨y1, y2, -⟩ := d2 c p hj
  obtain ⟨⟨v, hv, ev⟩, ⟨w, hw, ew⟩⟩ := rr_nI (rgE hI) q1 q2
  rw [fmE_n (by decide), fmE_n (by decide)]
  exact ⟨⟨v, hv, y1.trans ev⟩, ⟨w, hw, y2.trans ew⟩⟩
theorem Xr_RG {S F : mS} {b : Nat} {as : Nat → Option Nat} {d tk k : Nat} {left : Int32} (hx : SCx S F b as d tk k left) (hr : SCr F k) {t : Nat} (ht : t < 6) {g : Nat → Int32} (hg : ∀ w, w < 5 → g (101 + 5 * t + w) = Xr S b as d tk k t w) : RGt g t := by
  obtain ⟨⟨hk, hb⟩, h1, h2, -, h5, h6, h7, h8, ⟨lf, hlf, elf⟩, h9, -⟩ := hx
  have g0 := hg 0 (by decide)
  have g1 := hg 1 (by decide)
  have g2 := hg 2 (by decide)
  have g4 := hg 4 (by decide)
  rw [Nat.add_zero] at g0
  have hrt := h8 t ht
  have hdw := SC_dw hrt
  unfold RGt
  rw [g0, g1, g2, g4]
  unfold Xr
  cases hgv : gvN d tk k t with
  | some c =>
    have hc : c < k := by
      unfold gvN at hgv
      cases hbit : d.testBit t with
      | true => rw [hbit] at hgv; cases hgv
      | false =>
        rw [hbit] at hgv
        have hgv2 : (if nxU tk k (k - scN d tk k t) (scN d tk k t) < k then some (nxU tk k (k - scN d tk k t) (scN d tk k t)) else none) = some c := hgv
        by_cases hh : nxU tk k (k - scN d tk k t) (scN d tk k t) < k
        · rw [if_pos hh] at hgv2
          cases hgv2
          exact hh
        · rw [if_neg hh] at hgv2
          cases hgv2
    obtain ⟨q1, q2⟩ := hr c hc
    obtain ⟨p1, p2⟩ := h5 c hc
    refine ⟨Or.inr rfl, ?_, ?_, 0, by omega, fun _ => by omega, rfl⟩
    · rw [← p1] at q1
      exact q1
    · rw [← p2] at q2
      exact q2
  | none =>
    dsimp only
    unfold mvR
    cases ha : as t with
    | some c =>
      have hc := (h6 t ht).2 c ha
      obtain ⟨q1, q2⟩ := hr c hc
      obtain ⟨p1, p2⟩ := h5 c hc
      have hd : dwR F t = true := by
        cases hd : dwR F t with
        | true => rfl
        | false => rw [h7 t ht hd] at ha; cases ha
      have e0 : S.1 (b + 6 + t) 0 = 1 := (h1 t ht 0 (by decide)).trans (hdw.1.mp hd)
      refine ⟨Or.inr e0, ?_, ?_, 0, by omega, fun _ => by omega, rfl⟩
      · rw [← p1] at q1
        exact q1
      · rw [← p2] at q2
        exact q2
    | none =>
      dsimp only
      have e1 : S.1 (b + 6 + t) 1 = F.1 131 (101 + 5 * t + 1) := h1 t ht 1 (by decide)
      have e2 : S.1 (b + 6 + t) 2 = F.1 131 (101 + 5 * t + 2) := h1 t ht 2 (by decide)
      have e4 : S.1 (b + 6 + t) 4 = F.1 131 (101 + 5 * t + 4) := h1 t ht 4 (by decide)
      have e0 : S.1 (b + 6 + t) 0 = F.1 131 (101 + 5 * t) := h1 t ht 0 (by decide)
      by_cases h0 : S.1 (b + 6 + t) 0 = 0
      · rw [if_pos h0, e0, e1, e2, e4]
        exact hrt
      · rw [if_neg h0]
        obtain ⟨r0, r1, r2, m, hm7, hm6, em⟩ := hrt
        have hd1 : F.1 131 (101 + 5 * t) = 1 := by
          rcases r0 with r | r
          · rw [e0, r] at h0; exact absurd rfl h0
          · exact r
        have hm := hm6 hd1
        have hlift : (S.1 (b + 4) 4 < S.1 (b + 6 + t) 4 + 1) ↔ ¬ m < lf := by
          rw [h2, elf, e4, em, nI_1]
          exact (nI_ltI (a := lf) (b := m + 1) (by omega) (by omega)).trans ⟨fun h => by omega, fun h => by omega⟩
        refine ⟨?_, ?_, ?_, m + 1, by omega, fun hh => ?_, ?_⟩
        · show (if S.1 (b + 4) 4 < S.1 (b + 6 + t) 4 + 1 then (0 : Int32) else 1) = 0 ∨ (if S.1 (b + 4) 4 < S.1 (b + 6 + t) 4 + 1 then (0 : Int32) else 1) = 1
          by_cases hl : S.1 (b + 4) 4 < S.1 (b + 6 + t) 4 + 1
          · exact Or.inl (if_pos hl)
          · exact Or.inr (if_neg hl)
        · rw [← e1] at r1
          exact r1
        · rw [← e2] at r2
          exact r2
        · have hh2 : (if S.1 (b + 4) 4 < S.1 (b + 6 + t) 4 + 1 then (0 : Int32) else 1) = 1 := hh
          by_cases hl : S.1 (b + 4) 4 < S.1 (b + 6 + t) 4 + 1
          · rw [if_pos hl] at hh2
            exact absurd hh2 (by decide)
          · have := Decidable.not_not.mp (fun h => hl (hlift.mpr h))
            omega
        · show S.1 (b + 6 + t) 4 + 1 = nI (m + 1)
          rw [e4, em, nI_1]
theorem scE_2 {F : mS} : ∀ t {left : Int32} {k : Nat}, (scT F left k t).1.2 = F.2
  | 0, _, _ => rfl
  | t + 1, left, k => by
    show (scF left k (scT F left k t) t).1.2 = F.2
    have ih := scE_2 (F := F) t (left := left) (k := k)
    generalize scT F left k t = q at ih
    unfold scF
    split
    · split
      · exact ih
      · exact ih
    · split
      · exact ih
      · exact ih
theorem scnM_k {A B : mS} {b : Nat} (hb : b + 12 < 99) (hI : EQ A b B) : scnM (fmE (fcE (frD B))) = (ctP A b 48).2 := by
  have hk := (ctL_eq (B := B)).2
  unfold scnM
  rw [congrFun (fmE_n (S := fcE (frD B)) (q := 130) (by decide)) 17, ref_ct.1, (cls_ct hb hI).1, nI_clamp (by omega)]
/-- both sides' blocks behind a frame -/
theorem sc_fin {A B : mS} {b : Nat} (hb : b + 12 < 99) (hI : EQ A b B) (hz : ∀ s, s < 64 → A.1 125 s = 0) : (∀ j, j < 134 → cb (scP A b 48) b j = (scE (fmE (fcE (frD B)))).1 131 j) ∧ RG ((scE (fmE (fcE (frD B)))).1 131) ∧ (∀ j, 134 ≤ j → (scE (fmE (fcE (frD B)))).1 131 j = B.1 131 j) ∧ (scQ (fmE (fcE (frD B)))).2.2 = (scP A b 48).1 b 4 + (scP A b 48).1 b 5 - (A.1 b 4 + A.1 b 5) := by
  have hx := sc_ctx hb hI hz
  have hr := sc_r hb hI
  have hq := sc_ind hx 6 (Nat.le_refl 6)
  have hkk := scnM_k hb hI
  have r131 : (fmE (fcE (frD B))).1 131 = B.1 131 := (fmE_n (by decide)).trans R131
  have rlo : ∀ q, q < 99 → (mtP A b 48).1 q = A.1 q := fun q hq => by
    unfold mtP
    rw [mfS_out (by omega), ctP_n (by omega)]
  have hsc : ∀ t, t < 6 → (scP A b 48).1 (b + 6 + t) = Xr (mupd (mtP A b 48) b 3 ((mtP A b 48).1 b 3 + 1)) b (asA (mtB A b 48) (ctP A b 48).2) (dsN (mtP A b 48) b 6) (tkA (mtB A b 48) (ctP A b 48).2 6) (ctP A b 48).2 t := fun t ht => tfS_row hb ht
  obtain ⟨f3, f4, f5⟩ := tfS_b (S := mtP A b 48) (b := b) (k := (ctP A b 48).2) (tk := tkA (mtB A b 48) (ctP A b 48).2 6) (as := asA (mtB A b 48) (ctP A b 48).2) hb
  have flo : ∀ q, q ≠ b → q < b + 6 → (scP A b 48).1 q = (mtP A b 48).1 q := fun q h1 h2 => tfS_lo h1 (Or.inl h2)
  have eQ : scQ (fmE (fcE (frD B))) = scT (fmE (fcE (frD B))) (umR (fmE (fcE (frD B))) 6) (ctP A b 48).2 6 := by
    unfold scQ
    rw [hkk]
  rw [← eQ] at hq
  have eE : (scE (fmE (fcE (frD B)))).1 131 = upd ((scQ (fmE (fcE (frD B)))).1.1 131) 131 ((scQ (fmE (fcE (frD B)))).1.1 131 131 + 1) := mset_s
  obtain ⟨i1, i2, i3, i4, i5, i6⟩ := hq
  have elo : ∀ j, j < 101 ∨ 134 ≤ j → (scE (fmE (fcE (frD B)))).1 131 j = B.1 131 j := fun j hj => by
    rw [eE, pk_un (by omega), i2 j (by omega), r131]
  have etr : ∀ t, t < 6 → ∀ w, w < 5 → (scE (fmE (fcE (frD B)))).1 131 (101 + 5 * t + w) = (scP A b 48).1 (b + 6 + t) w := fun t ht w hw => by
    rw [eE, pk_un (by omega), i1 t ht w hw, hsc t ht]
  have e4 : (scE (fmE (fcE (frD B)))).1 131 132 = (scP A b 48).1 b 4 := by
    rw [eE, pk_un (by omega), i3]
    exact f4.symm
  have e5 : (scE (fmE (fcE (frD B)))).1 131 133 = (scP A b 48).1 b 5 := by
    rw [eE, pk_un (by omega), i4]
    exact f5.symm
  have e3 : (scE (fmE (fcE (frD B)))).1 131 131 = (scP A b 48).1 b 3 := by
    rw [eE, pk_us, i2 131 (by omega), r131]
    refine Eq.trans ?_ f3.symm
    rw [rlo b (by omega), EQ_cnt hI (by decide) (by decide)]
  refine ⟨fun j hj => ?_, ?_, fun j hj => elo j (Or.inr hj), ?_⟩
  · by_cases a1 : j < 48
    · rw [cb_raw a1, flo _ (by omega) (by omega), rlo _ (by omega), EQ_raw hI a1, elo j (by omega)]
    by_cases a2 : j < 96
    · obtain ⟨p, rfl⟩ : ∃ p, j = 48 + p := ⟨j - 48, by omega⟩
      rw [cb_bas (by omega), flo _ (by omega) (by omega), rlo _ (by omega), EQ_bas hI (by omega), elo _ (by omega)]
    by_cases a3 : j < 101
    · obtain ⟨p, rfl⟩ : ∃ p, j = 96 + p := ⟨j - 96, by omega⟩
      rw [cb_set (by omega), flo _ (by omega) (by omega), rlo _ (by omega), EQ_set hI (by omega), elo _ (by omega)]
    by_cases a4 : j < 131
    · obtain ⟨t, w, ht, hw, rfl⟩ : ∃ t w, t < 6 ∧ w < 5 ∧ j = 101 + 5 * t + w := ⟨(j - 101) / 5, (j - 101) % 5, by omega, by omega, by omega⟩
      rw [cb_trk ht hw, etr t ht w hw]
    · rcases (by omega : j = 128 + 3 ∨ j = 128 + 4 ∨ j = 128 + 5) with e | e | e
      · rw [e, cb_cnt (by decide) (by decide)]; exact e3.symm
      · rw [e, cb_cnt (by decide) (by decide)]; exact e4.symm
      · rw [e, cb_cnt (by decide) (by decide)]; exact e5.symm
  · obtain ⟨b1, b2, b3, b4, b5, b6, -⟩ := hI.2
    refine ⟨fun j hj => by rw [elo j (by omega)]; exact b1 j hj, by rw [elo 96 (by omega)]; exact b2, by rw [elo 97 (by omega)]; exact b3, by rw [elo 98 (by omega)]; exact b4, by rw [elo 99 (by omega)]; exact b5, by rw [elo 100 (by omega)]; exact b6, fun t ht => ?_⟩
    refine Xr_RG hx hr ht fun w hw => ?_
    rw [etr t ht w hw, hsc t ht]
  · rw [← e4, ← e5, eE, pk_un (by omega), pk_un (by omega), ← i6, EQ_cnt hI (show 3 ≤ 4 by decide) (by decide), EQ_cnt hI (show 3 ≤ 5 by decide) (by decide), r131]
    exact (Int32.add_sub_cancel _ _).symm
theorem scP_out {A : mS} {b q : Nat} (h : q < b ∨ b + 12 ≤ q) (h2 : q < 99 ∨ q = 125 ∨ 126 < q) : (scP A b 48).1 q = A.1 q := by
  unfold scP
  rw [tfS_n h]
  unfold mtP
  rw [mfS_out (by omega), ctP_n (by omega)]
theorem ctP_22 {A : mS} {b k : Nat} : (ctP A b k).1.2 = A.2 := by
  unfold ctP
  rw [ctP_2 (k := k)]
  rfl
theorem scP_2 {A : mS} {b k : Nat} : (scP A b k).2 = A.2 := ctP_22 (b := b) (k := k)
theorem fE_2 {B : mS} : (fcE (frD B)).2 = B.2 := fdS_2.trans (fcT_2 48)
theorem scE_22 {F : mS} : (scE F).2 = F.2 := by
  unfold scE scQ
  rw [mupd_2]
  exact scE_2 6
theorem fmE_22 {R : mS} : (fmE R).2 = R.2 := rfl
theorem scD_2 {B : mS} : (scE (fmE (fcE (frD B)))).2 = B.2 := by rw [scE_22, fmE_22, fE_2]
theorem scF_2 {B : mS} {h : Nat} : (scE (fmE (fcE (frD (kpS (mupd B 130 0 0) h))))).2 = B.2 := scD_2.trans kpS_2
/-- a change of the block behind the save, where work rows may change too -/
theorem LP_blk2 {S A1 S1 S2 : mS} {h k : Nat} {r1 r2 : Int32} (hI : INV S S h k) (hs : svR S h A1) (hr : RLs S S1) (ha : ∀ q, (25 ≤ q ∧ q < 99) ∨ q = 125 ∨ q = 127 ∨ q = 128 → S1.1 q = A1.1 q) (ha2 : S1.2.1 = A1.2.1) (e : S2.2 = S1.2) (c : ∀ q, q < 130 → S2.1 q = S1.1 q) (c2 : S2.1 132 = S1.1 132 ∧ S2.1 130 2 = (kpS (mupd S1 130 0 0) h).1 130 2 ∧ S2.1 130 4 = S1.1 130 4) (hb1 : ∀ j, 134 ≤ j → S2.1 131 j = (kpS (mupd S1 130 0 0) h).1 131 j) (hcb : ∀ j, j < 134 → cb S1 1 j = S2.1 131 j) (hrg : RG (S2.1 131)) (hr12 : r1 = r2) : LPok S2 r1 r2 := by
  have hJ := sv_both hI hs hr
  have hK := INV_blk hJ (A' := S1) (B' := S2) ha ha2 ⟨c2.1.trans (kpSn (by decide) (by decide)).symm, c2.2.1, c2.2.2.trans (by rw [kp130 hI.2.1.2.1 (by decide), if_neg (by decide)])⟩ hb1 hcb hrg
  exact LP_mk e c hK hr12
section LCS
variable {S S1 : mS} {h k : Nat} {x y v r1 : Int32}
theorem lc_scan (hI : INV S S h k) (h1 : pC_scan S h k x y v r1 S1) : RLs S S1 ∧ ∀ r2 S2, pR_scan S1 h k x y v r2 S2 → LPok S2 r1 r2 := by
  obtain ⟨A1, hs, e, hr⟩ := h1
  have hR : RLs S S1 := fun q hq => by
    rw [e, scP_out (by omega) (by omega)]
    exact sv_RL hI hs q (by omega)
  refine ⟨hR, fun r2 S2 h2 => ?_⟩
  obtain ⟨e2, hr2⟩ := h2
  have hJ := sv_both hI hs hR
  have hE : EQ A1 1 (kpS (mupd S1 130 0 0) h) := INV_EQ hJ
  obtain ⟨g1, g2, g3, g4⟩ := sc_fin (by decide) hE (INV_z hJ)
  have eD : scD (kpS (mupd S1 130 0 0) h) = scE (fmE (fcE (frD (kpS (mupd S1 130 0 0) h)))) := rfl
  have c130 : ∀ j, j ≠ 17 → S2.1 130 j = (kpS (mupd S1 130 0 0) h).1 130 j := fun j hj => by
    rw [e2, eD, scE_n (by decide), fmE_n (by decide), fcE_130 hj, frD_n (by decide)]
  have cq : ∀ q, q < 130 ∨ q = 132 → S2.1 q = (kpS (mupd S1 130 0 0) h).1 q := fun q hq => by
    rw [e2, eD, scE_n (by omega), fmE_n (by omega), fcE_n (by omega), frD_n (by omega)]
  refine LP_blk2 hI hs hR (fun q hq => by rw [e]; exact scP_out (by omega) (by omega)) (by rw [e, scP_2]) ?_ (fun q hq => (cq q (Or.inl hq)).trans (kpSn (by omega) (by omega))) ⟨(cq 132 (Or.inr rfl)).trans (kpSn (by decide) (by decide)), c130 2 (by decide), (c130 4 (by decide)).trans (by rw [kp130 hI.2.1.2.1 (by decide), if_neg (by decide)])⟩ (fun j hj => ?_) (fun j hj => ?_) ?_ ?_
  · rw [e2, eD]
    exact scF_2
  · rw [e2, eD]
    exact g3 j hj
  · rw [e2, eD, ← g1 j hj, e]
  · rw [e2, eD]
    exact g2
  · rw [hr, hr2]
    exact g4.symm
end LCS

