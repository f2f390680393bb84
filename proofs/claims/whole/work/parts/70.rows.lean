/-! texts: errorPosition, runText -/
theorem blk_press {A B : mS} {h k i j d : Nat} (hI : INV A B h k) (hi : i < 8) (hj : j < 6) (hd : d < 256) : INV (mset A 3 (prs9 (A.1 3) (nI i) (nI j) (nI d))) (mset B 131 (prF (B.1 131) (6 * i + j) (nI d) 48)) h k := by
  have g1 := INV_row hI
  have g2 : RG (B.1 131) := hI.2.2.2.2.1
  have key : ∀ q, q < 48 → prs9 (A.1 3) (nI i) (nI j) (nI d) q = prF (B.1 131) (6 * i + j) (nI d) 48 q := fun q hq => prs9_cell (A1 := A) hi hj hd hq (fun q hq => INV_raw hI hq) (g2.1 q (by omega))
  refine INV_blk hI (fun q hq => mset_n (by omega)) rfl ⟨mset_n (by decide), congrFun (mset_n (by decide)) 2, congrFun (mset_n (by decide)) 4⟩ (fun q hq => ?_) (fun q hq => ?_) (RG_lo g2 (fun q hq => ?_) (fun q hq _ => ?_))
  · rw [mset_s]; exact if_neg (by omega)
  · rw [cb_3, mset_s]
    by_cases h48 : q < 48
    · rw [if_pos h48]; exact key q h48
    · rw [if_neg h48]; exact (g1 q hq).trans (if_neg h48).symm
  · rw [mset_s]; exact prF_nI hd (g2.1 q hq)
  · rw [mset_s]; exact if_neg (by omega)
theorem blk_rel {A B : mS} {h k : Nat} (hI : INV A B h k) : INV (mset A 3 (fun k => if k < 48 then 0 else A.1 3 k)) (mset B 131 (zt (B.1 131) 48)) h k := by
  have g1 := INV_row hI
  have g2 : RG (B.1 131) := hI.2.2.2.2.1
  refine INV_blk hI (fun q hq => mset_n (by omega)) rfl ⟨mset_n (by decide), congrFun (mset_n (by decide)) 2, congrFun (mset_n (by decide)) 4⟩ (fun q hq => ?_) (fun q hq => ?_) (RG_lo g2 (fun q hq => ?_) (fun q hq _ => ?_))
  · rw [mset_s]; exact if_neg (by omega)
  · rw [cb_3, mset_s]
    unfold zt
    by_cases h48 : q < 48
    · rw [if_pos h48, if_pos h48, if_pos h48]
    · rw [if_neg h48, if_neg h48]; exact g1 q hq
  · rw [mset_s]
    unfold zt
    by_cases h48 : q < 48
    · rw [if_pos h48]; exact ⟨0, by omega, rfl⟩
    · rw [if_neg h48]; exact g2.1 q hq
  · rw [mset_s]; exact if_neg (by omega)
theorem blk_cal {A B : mS} {h k : Nat} (hI : INV A B h k) : INV (mset A 4 (fun k => if k < 48 then A.1 3 k else A.1 4 k)) (mset B 131 (caF (B.1 131) 48)) h k := by
  have g1 := INV_row hI
  have g2 : RG (B.1 131) := hI.2.2.2.2.1
  refine INV_blk hI (fun q hq => mset_n (by omega)) rfl ⟨mset_n (by decide), congrFun (mset_n (by decide)) 2, congrFun (mset_n (by decide)) 4⟩ (fun q hq => ?_) (fun q hq => ?_) (RG_lo g2 (fun q hq => ?_) (fun q hq _ => ?_))
  · rw [mset_s]; exact if_neg (by omega)
  · rw [cb_4, mset_s]
    unfold caF
    by_cases h48 : 48 ≤ q ∧ q < 96
    · rw [if_pos h48, if_pos (by omega), if_pos (by omega)]
      exact INV_raw hI (by omega)
    · rw [if_neg h48, if_neg (by omega)]; exact g1 q hq
  · rw [mset_s]
    unfold caF
    by_cases h48 : 48 ≤ q ∧ q < 48 + 48
    · rw [if_pos h48]; exact g2.1 _ (by omega)
    · rw [if_neg h48]; exact g2.1 q hq
  · rw [mset_s]; exact if_neg (by omega)
theorem blk_scan {A B : mS} {h k : Nat} (hI : INV A B h k) : INV (scP A 1 48) (scD B) h k ∧ scV B = (scP A 1 48).1 1 4 + (scP A 1 48).1 1 5 - (A.1 1 4 + A.1 1 5) := by
  obtain ⟨g1, g2, g3, g4⟩ := sc_fin (by decide) (INV_EQ hI) (INV_z hI)
  have eD : scD B = scE (fmE (fcE (frD B))) := rfl
  refine ⟨INV_blk hI (fun q hq => scP_out (by omega) (by omega)) (by rw [scP_2]) ⟨scD_n (Or.inr rfl), scD_130 (by decide), scD_130 (by decide)⟩ (fun j hj => ?_) (fun j hj => ?_) ?_, g4⟩
  · rw [eD]; exact g3 j hj
  · rw [eD]; exact g1 j hj
  · rw [eD]; exact g2
/-- one command carried out on both sides -/
theorem ex_INV {C T : mS} {h k : Nat} {ev : Int32} (hI : INV C T h k) (hl : C.1 129 1 = T.1 130 6) (hp : T.1 130 6 = 112 → C.1 129 2 = T.1 130 7 ∧ C.1 129 3 = T.1 130 8 ∧ C.1 129 4 = T.1 130 9) (hk : rcK T) : INV (rcE C).1 (exM T ev).1 h k ∧ (exM T ev).2 = ev + (rcE C).2 := by
  unfold rcE exM
  rw [hl]
  by_cases h1 : T.1 130 6 = 112
  · obtain ⟨p1, p2, p3⟩ := hp h1
    obtain ⟨r, c, f, hr, hc, hf0, hf, e1, e2, e3⟩ := hk h1
    rw [if_pos h1, if_pos h1, p1, p2, p3, e1, e2, e3, cellI, nI_clamp (by omega)]
    exact ⟨blk_press hI hr hc hf, (Int32.add_zero ev).symm⟩
  rw [if_neg h1, if_neg h1]
  by_cases h2 : T.1 130 6 = 120
  · rw [if_pos h2, if_pos h2]
    exact ⟨blk_rel hI, (Int32.add_zero ev).symm⟩
  rw [if_neg h2, if_neg h2]
  by_cases h3 : T.1 130 6 = 98
  · rw [if_pos h3, if_pos h3]
    exact ⟨blk_cal hI, (Int32.add_zero ev).symm⟩
  rw [if_neg h3, if_neg h3]
  obtain ⟨g1, g2⟩ := blk_scan hI
  exact ⟨g1, congrArg (fun z => ev + z) g2⟩
theorem exM_2 {T : mS} {ev : Int32} : (exM T ev).1.2 = T.2 := by
  unfold exM
  split
  · rfl
  · split
    · rfl
    · split
      · rfl
      · exact scD_2
theorem rn129 {S : mS} {ch : Nat → Int32} : ∀ i, (rnT S ch i).1.1 129 = rdW (S.1 129) ch i
  | 0 => mupd_row
  | i + 1 => by
    have ih := rn129 (S := S) (ch := ch) i
    rw [rdW_s]
    unfold rnT
    split
    · show (mset (rcE (rnT S ch i).1).1 129 (accR ((rcE (rnT S ch i).1).1.1 129) (ch i)).1).1 129 = _
      rw [mset_s, rcE_n (by decide), ih]
    · show (mset (rnT S ch i).1 129 (accR ((rnT S ch i).1.1 129) (ch i)).1).1 129 = _
      rw [mset_s, ih]
theorem rn_skip {S : mS} {ch : Nat → Int32} {a : Nat} : ∀ n, (∀ i, a ≤ i → i < a + n → ¬ ch i = 59) → rnT S ch (a + n) = (mset (rnT S ch a).1 129 (rdW (S.1 129) ch (a + n)), (rnT S ch a).2)
  | 0, _ => by
    show rnT S ch a = (mset (rnT S ch a).1 129 (rdW (S.1 129) ch a), (rnT S ch a).2)
    rw [← rn129 (S := S) (ch := ch) a, mset_self]
  | n + 1, h => by
    have ih := rn_skip (S := S) (ch := ch) (a := a) n fun i h1 h2 => h i h1 (by omega)
    have h9 := rn129 (S := S) (ch := ch) (a + n)
    have hu : rnT S ch (a + n + 1) = if ch (a + n) = 59 then (mset (rcE (rnT S ch (a + n)).1).1 129 (accR ((rcE (rnT S ch (a + n)).1).1.1 129) (ch (a + n))).1, (rnT S ch (a + n)).2 + (rcE (rnT S ch (a + n)).1).2) else (mset (rnT S ch (a + n)).1 129 (accR ((rnT S ch (a + n)).1.1 129) (ch (a + n))).1, (rnT S ch (a + n)).2) := rfl
    show rnT S ch (a + n + 1) = _
    rw [hu, if_neg (h _ (by omega) (by omega)), h9, ih]
    dsimp only
    rw [mset_mset]
    rfl
theorem CW_129 {C : mS} {f : Nat → Int32} : CW C (mset C 129 f) := ⟨fun q h1 _ => mset_n (by omega), mset_n (by decide), mset_n (by decide), rfl⟩
/-- a text carried out on both sides -/
theorem rt_run {S : mS} {ch : Nat → Int32} {len h k : Nat} (hall : ∀ i, i < len → okC (S.1 129) ch i = true) (hfin : rdW (S.1 129) ch len 0 = 5 ∨ rdW (S.1 129) ch len 0 = 6) : ∀ (m a : Nat) (T : mS), txOk ch len T → rdA T T len a → len + 1 ≤ a + m → rdW (S.1 129) ch a 0 = 0 → INV (rnT S ch a).1 T h k → INV (rcE (rnT S ch len).1).1 (rtL len m a T (rnT S ch a).2).1 h k ∧ (rtL len m a T (rnT S ch a).2).2 = (rnT S ch len).2 + (rcE (rnT S ch len).1).2 ∧ (∀ q, q < 130 → (rtL len m a T (rnT S ch a).2).1.1 q = T.1 q) ∧ (rtL len m a T (rnT S ch a).2).1.2 = T.2 ∧ (rtL len m a T (rnT S ch a).2).1.1 130 0 = T.1 130 0
  | 0, a, T, _, hr, hm, _, _ => absurd hm (by have := hr.2.2.2; omega)
  | m + 1, a, T, ht, hr, hm, h0, hI => by
    have hal := hr.2.2.2
    obtain ⟨c1, c2⟩ := cmd_run (w0 := S.1 129) ht hal h0
    have h9 := rcQ_9 hr
    have hok := rcQ_ok hr
    have hu : ∀ ev, rtL len (m + 1) a T ev = if (rcQ T len a).1 = false then ((rcQ T len a).2.2, ev) else if sgA T len (rcQ T len a).2.1 = 59 then rtL len m ((rcQ T len a).2.1 + 1) (mupd (exM (rcQ T len a).2.2 ev).1 130 5 (nI ((rcQ T len a).2.1 + 1))) (exM (rcQ T len a).2.2 ev).2 else rtL len m (rcQ T len a).2.1 (exM (rcQ T len a).2.2 ev).1 (exM (rcQ T len a).2.2 ev).2 := fun _ => rfl
    rw [hu]
    cases hq : (rcQ T len a).1 with
    | false =>
      obtain ⟨d1, d2, d3, d4, d5⟩ := c2 hq
      by_cases hl : (rcQ T len a).2.1 < len
      · have h5 := d4 hl
        rw [hall _ hl] at h5
        cases h5
      · have e : (rcQ T len a).2.1 = len := by omega
        rw [e] at d5
        exact absurd hfin (d5 rfl)
    | true =>
      obtain ⟨d1, d2, d3, d4, d5, d6, d7⟩ := c1 hq
      obtain ⟨k1, -, -, -, -, -, k7⟩ := hok
      obtain ⟨k8, k9⟩ := k7 hq
      rw [if_neg (show ¬ (true = false) by decide)]
      obtain ⟨n, en⟩ : ∃ n, (rcQ T len a).2.1 = a + n := ⟨(rcQ T len a).2.1 - a, by omega⟩
      have hsk := rn_skip (S := S) (ch := ch) (a := a) n fun i h1 h2 => (d3 i h1 (by omega)).2
      rw [← en] at hsk
      generalize hp : (rcQ T len a).2.1 = p at *
      generalize hT' : (rcQ T len a).2.2 = T' at *
      have hIp : INV (rnT S ch p).1 T' h k := by
        rw [hsk]
        exact INV_cg hI CW_129 h9.rw
      have h129 : (rnT S ch p).1.1 129 = rdW (S.1 129) ch p := rn129 p
      have hev : (rnT S ch p).2 = (rnT S ch a).2 := by rw [hsk]
      rw [← hev]
      obtain ⟨x1, x2⟩ := ex_INV (ev := (rnT S ch p).2) hIp (by rw [h129]; exact d5) (fun h => by rw [h129]; exact d6 h) k9
      obtain ⟨-, y2, y3⟩ := exM_ok (ev := (rnT S ch p).2) ⟨hIp.2.2.2.2.1.1, hIp.2.2.2.2.1.2.1⟩ k9
      have y4 := exM_2 (T := T') (ev := (rnT S ch p).2)
      generalize hX : exM T' (rnT S ch p).2 = X at *
      have ht' : txOk ch len X.1 := fun j hj => by
        rw [y2 132 (Or.inr rfl), h9.1 132 (by decide)]
        exact ht j hj
      by_cases hl : p < len
      · have hc59 : ch p = 59 := Decidable.byContradiction fun hh => by
          have h5 := d7 hl hh
          rw [hall _ hl] at h5
          cases h5
        rw [sgA_in ht hl, if_pos hc59]
        have hrn : rnT S ch (p + 1) = (mset (rcE (rnT S ch p).1).1 129 (accR ((rcE (rnT S ch p).1).1.1 129) (ch p)).1, (rnT S ch p).2 + (rcE (rnT S ch p).1).2) := if_pos hc59
        have hr2 : rdA (mupd X.1 130 5 (nI (p + 1))) (mupd X.1 130 5 (nI (p + 1))) len (p + 1) := by
          refine ⟨?_, mupd_ss, rfl, hl⟩
          rw [mupd_sn (by decide), y3 4 (by decide), h9.2.1 4 (by omega)]
          exact hr.1
        have ht2 : txOk ch len (mupd X.1 130 5 (nI (p + 1))) := fun j hj => by
          rw [mupd_n (by decide)]
          exact ht' j hj
        have h02 : rdW (S.1 129) ch (p + 1) 0 = 0 := by
          rw [rdW_s, hc59, ac_59 d4]
          show upd (rdW (S.1 129) ch p) 0 0 0 = 0
          exact pk_us
        have hI2 : INV (rnT S ch (p + 1)).1 (mupd X.1 130 5 (nI (p + 1))) h k := by
          rw [hrn]
          exact INV_cg x1 CW_129 RD9_5.rw
        have hev2 : X.2 = (rnT S ch (p + 1)).2 := by rw [hrn, x2]
        rw [hev2]
        obtain ⟨z1, z2, z3, z4, z5⟩ := rt_run hall hfin m (p + 1) _ ht2 hr2 (by omega) h02 hI2
        refine ⟨z1, z2, fun q hq => ?_, ?_, ?_⟩
        · rw [z3 q hq, mupd_n (by omega), y2 q (Or.inl hq), h9.1 q (by omega)]
        · rw [z4]
          exact y4.trans h9.2.2
        · rw [z5, mupd_sn (by decide), y3 0 (by decide), h9.2.1 0 (by omega)]
      · have e : p = len := by omega
        subst e
        rw [if_neg (show ¬ sgA T p p = 59 by rw [sgA_out (Nat.lt_irrefl p)]; decide)]
        obtain ⟨m', rfl⟩ : ∃ m', m = m' + 1 := ⟨m - 1, by omega⟩
        have hs0 : sgA X.1 p p = 0 := sgA_out (Nat.lt_irrefl p)
        have hq2 : rcQ X.1 p p = (false, p, rc6 X.1 p p) := rcQ_2 (by rw [hs0]; decide) (by rw [hs0]; decide)
        have hu2 : rtL p (m' + 1) p X.1 X.2 = (rc6 X.1 p p, X.2) := by
          show (if (rcQ X.1 p p).1 = false then ((rcQ X.1 p p).2.2, X.2) else _) = _
          rw [hq2]
          rfl
        rw [hu2]
        refine ⟨INV_cg x1 CW.refl ⟨mupd_n (by decide), mupd_n (by decide), mupd_sn (by decide), mupd_sn (by decide)⟩, x2, fun q hq => ?_, ?_, ?_⟩
        · show (mupd X.1 130 6 (sgA X.1 p p)).1 q = _
          rw [mupd_n (by omega), y2 q (Or.inl hq), h9.1 q (by omega)]
        · exact y4.trans h9.2.2
        · show (mupd X.1 130 6 (sgA X.1 p p)).1 130 0 = _
          rw [mupd_sn (by decide), y3 0 (by decide), h9.2.1 0 (by omega)]
section LCT
variable {S S1 : mS} {h k : Nat} {x y v r1 : Int32}
/-- what the model finds of the text, and the class -/
theorem tx_both (hI : INV S S h k) {B : mS} (hB : RW S B) (w0 : Nat → Int32) : (feR w0 (S.1 128) k = if (vdS B k).1 then -1 else nI (vdS B k).2.1) ∧ RD9 B (vdS B k).2.2 ∧ ((vdS B k).1 = true → (∀ i, i < k → okC w0 (S.1 128) i = true) ∧ (rdW w0 (S.1 128) k 0 = 5 ∨ rdW w0 (S.1 128) k 0 = 6)) ∧ (vdS B k).2.1 ≤ k := by
  have hT : txOk (S.1 128) k (mupd B 130 5 0) := fun j hj => by
    obtain ⟨e1, d, d1, d2, ed⟩ := hI.2.2.1.2.2.2 j hj
    rw [mupd_n (by decide), hB.2.1]
    exact ⟨e1.symm, d, d1, d2, e1.trans ed⟩
  have hr : rdA (mupd B 130 5 0) (mupd B 130 5 0) k 0 := by
    refine ⟨?_, mupd_ss, rfl, Nat.zero_le k⟩
    rw [mupd_sn (by decide), hB.2.2.2]
    exact hI.2.2.1.2.1
  obtain ⟨e1, e2, e3, e4⟩ := vd_fe (w0 := w0) (k + 1) 0 (mupd B 130 5 0) hT hr (by omega) (fun i hi => absurd hi (Nat.not_lt_zero i)) pk_us
  exact ⟨e1, RD9_5.trans e2, e3, e4⟩
theorem lc_errorPosition (hI : INV S S h k) (h1 : pC_errorPosition S h k x y v r1 S1) : RLs S S1 ∧ ∀ r2 S2, pR_errorPosition S1 h k x y v r2 S2 → LPok S2 r1 r2 := by
  obtain ⟨⟨w, e⟩, hr⟩ := h1
  have hR : RLs S S1 := fun q hq => by rw [e]; exact mset_n (by omega)
  have hCW : CW S S1 := by rw [e]; exact CW_129
  refine ⟨hR, fun r2 S2 h2 => ?_⟩
  obtain ⟨e2, hr2⟩ := h2
  obtain ⟨g1, g2, -, -⟩ := tx_both hI (B := mupd S1 130 0 0) (RW.trans hR.rw RW_0) (S.1 129)
  have h9 : ∀ q, q < 130 → S2.1 q = S1.1 q := fun q hq => by rw [e2, g2.1 q (by omega), mupd_n (by omega)]
  refine LP_look hI hCW hR ?_ ?_ h9 (hr.trans (g1.trans hr2.symm))
  · rw [e2]; exact RW.trans RW_0 g2.rw
  · rw [e2]; exact g2.2.2
theorem lc_runText (hI : INV S S h k) (h1 : hlP (pC_runText S h k x y v) (pX_runText S h k x y v) cdS r1 S1) : RLs S S1 ∧ ((vdS S1 k).2.2.1 131 = S1.1 131 ∧ (vdS S1 k).2.2.1 130 2 = nI h ∧ (vdS S1 k).2.2.1 130 4 = nI k) ∧ ∀ r2 S2, pR_runText S1 h k x y v r2 S2 → LCok S2 r1 r2 := by
  have hv : RLs S S1 → (vdS S1 k).2.2.1 131 = S1.1 131 ∧ (vdS S1 k).2.2.1 130 2 = nI h ∧ (vdS S1 k).2.2.1 130 4 = nI k := fun hR => by
    obtain ⟨-, g2, -, -⟩ := tx_both hI (B := S1) hR.rw (S.1 129)
    obtain ⟨p1, -, p3, -, -⟩ := INV_pre hI hR
    exact ⟨g2.1 131 (by decide), (g2.2.1 2 (by omega)).trans p1, (g2.2.1 4 (by omega)).trans p3⟩
  rcases h1 with ⟨rfl, w, T, hp, rfl⟩ | ⟨E, hp, hc⟩
  · obtain ⟨hfe, w9, A1, hs, eT, hw⟩ := hp
    have hIw : INV (mset S 129 w9) S h k := INV_cg hI CW_129 RW.refl
    have hA1 : ∀ q, 126 < q → q ≠ 129 → A1.1 q = S.1 q := fun q h1 h2 => (sv_RL hIw hs q (by omega)).trans (mset_n h2)
    have hR : RLs S (T.1, (T.2.1, w.toInt64)) := fun q hq => by
      show T.1 q = S.1 q
      rw [eT]
      show (rcE (rnT A1 (A1.1 128) k).1).1.1 q = S.1 q
      rw [rcE_n (by omega), rnT_n (by omega) (by omega), hA1 q (by omega) (by omega)]
    refine ⟨hR, hv hR, fun r2 S2 h2 => ?_⟩
    generalize hS1 : ((T.1, (T.2.1, w.toInt64)) : mS) = S1 at *
    have hS1r : S1.1 = T.1 ∧ S1.2.1 = T.2.1 ∧ S1.2.2 = w.toInt64 := by rw [← hS1]; exact ⟨rfl, rfl, rfl⟩
    obtain ⟨g1, g2, g3, g4⟩ := tx_both hI (B := S1) hR.rw (S.1 129)
    obtain ⟨-, -, g5, -⟩ := tx_both hI (B := S1) hR.rw (A1.1 129)
    have hval : (vdS S1 k).1 = true := by
      cases hh : (vdS S1 k).1 with
      | true => rfl
      | false =>
        rw [hh, hfe] at g1
        have h80 := hI.2.2.1.2.2.1
        exact absurd g1.symm (nI_nm1 (f := (vdS S1 k).2.1) (by omega))
    rcases h2 with ⟨hn, -⟩ | ⟨-, eS2, hr2⟩
    · rw [hval] at hn; cases hn
    · obtain ⟨hall, hfin⟩ := g5 hval
      generalize hB0 : (vdS S1 k).2.2 = B0 at *
      have hIB : INV (mset S 129 w9) B0 h k := INV_cg hIw CW.refl (RW.trans hR.rw g2.rw)
      have hJ := (sv_INV hIB hs).1
      have e128 : A1.1 128 = S.1 128 := hA1 128 (by decide) (by decide)
      have hrt : rtS S1 k h = rtL k (k + 1) 0 (mupd (kpS (mupd B0 130 0 0) h) 130 5 0) 0 := by
        unfold rtS
        rw [hB0]
      have ht : txOk (S.1 128) k (mupd (kpS (mupd B0 130 0 0) h) 130 5 0) := fun j hj => by
        obtain ⟨e1, d, d1, d2, ed⟩ := hI.2.2.1.2.2.2 j hj
        rw [mupd_n (by decide), kpSn (by decide) (by decide), g2.1 132 (by decide), hR 132 (by decide)]
        exact ⟨e1.symm, d, d1, d2, e1.trans ed⟩
      have hr : rdA (mupd (kpS (mupd B0 130 0 0) h) 130 5 0) (mupd (kpS (mupd B0 130 0 0) h) 130 5 0) k 0 := by
        refine ⟨?_, mupd_ss, rfl, Nat.zero_le k⟩
        rw [mupd_sn (by decide)]
        exact hJ.2.2.1.2.1
      have hI0 : INV (rnT A1 (S.1 128) 0).1 (mupd (kpS (mupd B0 130 0 0) h) 130 5 0) (svI h + 1) k := INV_cg hJ CW_129 RD9_5.rw
      obtain ⟨z1, z2, z3, z4, z5⟩ := rt_run (S := A1) hall hfin (k + 1) 0 _ ht hr (by omega) pk_us hI0
      have e0 : (rnT A1 (S.1 128) 0).2 = 0 := rfl
      rw [e0, ← hrt] at z1 z2 z3 z4 z5
      rw [← eS2] at z1 z3 z4 z5
      have eT2 : T = (rcE (rnT A1 (S.1 128) k).1).1 := by rw [eT]; unfold rnE; rw [e128]
      have hw2 : w = (rnT A1 (S.1 128) k).2 + (rcE (rnT A1 (S.1 128) k).1).2 := by rw [hw]; unfold rnE; rw [e128]
      rw [← eT2] at z1
      refine LC_mk (S1 := S1) ?_ (fun q hq => ?_) (INV_cg z1 ⟨fun q _ _ => congrFun hS1r.1 q, congrFun hS1r.1 127, congrFun hS1r.1 128, hS1r.2.1⟩ RW.refl) ?_ (fun _ => ?_)
      · rw [z4]
        exact kpS_2.trans g2.2.2
      · rw [z3 q hq, mupd_n (by omega), kpSn (by omega) (by omega), g2.1 q (by omega)]
      · rw [z5, mupd_sn (by decide), kpS_0]
      · rw [hS1r.2.2, hr2, hw2, ← z2]
  · obtain ⟨⟨w9, e⟩, hE, hn⟩ := hp
    obtain ⟨-, rfl⟩ := hc
    have hR : RLs S S1 := fun q hq => by rw [e]; exact mset_n (by omega)
    have hCW : CW S S1 := by rw [e]; exact CW_129
    refine ⟨hR, hv hR, fun r2 S2 h2 => ?_⟩
    obtain ⟨g1, g2, g3, g4⟩ := tx_both hI (B := S1) hR.rw (S.1 129)
    rcases h2 with ⟨-, eS2⟩ | ⟨hval, -⟩
    · rw [eS2]
      exact LC_mk (S1 := S1) (h := h) (k := k) g2.2.2 (fun q hq => (mupd_n (by omega)).trans (g2.1 q (by omega))) (INV_cg hI hCW (RW.trans hR.rw (RW.trans g2.rw RW_0))) mupd_ss (fun h => absurd h (by decide))
    · rw [hval] at g1
      exact absurd g1 hn
end LCT

