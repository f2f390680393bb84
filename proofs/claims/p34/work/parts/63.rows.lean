/-! the face, told of the row -/
theorem scP_out {A : mS} {b q : Nat} (h : q < b ∨ b + 12 ≤ q) (h2 : q < 99 ∨ q = 125 ∨ 126 < q) : (scP A b 48).1 q = A.1 q := by
  unfold scP mtP
  rw [tfS_n h, mfS_out (by omega), ctP_n (by omega)]
theorem ctP_22 {A : mS} {b k : Nat} : (ctP A b k).1.2 = A.2 := by
  unfold ctP
  rw [ctP_2 (k := k)]
  rfl
theorem scP_2 {A : mS} {b k : Nat} : (scP A b k).2 = A.2 := ctP_22 (b := b) (k := k)
/-- what a change does not touch -/
def SC (S S' : mS) : Prop := S'.2.2 = S.2.2 ∧ ∀ q, 126 < q → S'.1 q = S.1 q
theorem QS.sc {S S' : mS} (h : QS S S') : SC S S' := ⟨by rw [h.1], fun q hq => h.2 q (Or.inr (Or.inr hq)) (by omega)⟩
theorem SC.refl {S : mS} : SC S S := ⟨rfl, fun _ _ => rfl⟩
theorem SC.trans {S S1 S2 : mS} (h : SC S S1) (h' : SC S1 S2) : SC S S2 := ⟨h'.1.trans h.1, fun q a => (h'.2 q a).trans (h.2 q a)⟩
/-- a change, with the state saved before it -/
def OP (S : mS) (h : Nat) (v' : Nat → Int32) (S' : mS) : Prop := INV S' (svI h + 1) ∧ vw S' (S'.2.1 (svI h)) = vw S 1 ∧ vw S' 1 = v' ∧ SC S S'
theorem sv_SC {S S1 : mS} {h : Nat} (hI : INV S h) (hs : svR S h S1) : SC S S1 := by
  have hpm : pmOk (S.1, (svP S h, S.2.2)) := svP_ok hI.1
  have := (hpm.1 (svI h) (INV.svi hI.2.1.2).1)
  have h2 := mst_cases this.1
  refine ⟨by rw [hs.1], fun q hq => hs.2.1 q (by omega) ?_⟩
  dsimp only at h2
  omega
noncomputable def smV (v : Nat → Int32) : Nat → Int32
  | 0 => 0
  | i + 1 => if v 96 ≤ sgV v i then smV v i + sgV v i else smV v i
noncomputable def mnV (v : Nat → Int32) : UInt32 := if 0 < nI (cnN (ttV v) 48) then FP.fdiv (FP.i2f (smV v 48)) (FP.i2f (nI (cnN (ttV v) 48))) else FP.fconst0
theorem mean_v {S : mS} : cmV S = mnV (vw S 1) := by
  have h0 : S.1 5 0 = vw S 1 96 := (vw_set (S := S) (b := 1) (q := 0) (by decide)).symm
  have k1 : ∀ i, i ≤ 48 → cmS S i = smV (vw S 1) i := by
    intro i
    induction i with
    | zero => exact fun _ => rfl
    | succ i ih =>
      intro hi
      unfold cmS smV
      rw [ih (by omega), h0, sg_v (by omega)]
  have k2 : ∀ i, i ≤ 48 → cmN S i = nI (cnN (ttV (vw S 1)) i) := by
    intro i
    induction i with
    | zero => exact fun _ => rfl
    | succ i ih =>
      intro hi
      unfold cmN cnN ttV
      rw [ih (by omega), h0, sg_v (by omega)]
      by_cases h : vw S 1 96 ≤ sgV (vw S 1) i
      · rw [if_pos h, if_pos (decide_eq_true h), nI_1]
        rfl
      · rw [if_neg h, if_neg (by rw [decide_eq_false h]; decide)]
        rfl
  unfold cmV mnV
  rw [k1 48 (Nat.le_refl 48), k2 48 (Nat.le_refl 48)]
section C63
variable {l : Launch} {D : va_G} {n0 : Nat} {ft : tv_ft} {n : Nat} {S : mS} {h : Nat}
theorem mMi.w {y : MethodName} {ws : List Cond} {rm : Room} {As : List Value} {p q : Int32 → mS → Prop} (hM : mMi l y ws rm D n0 ft As n S p) (hw : ∀ r S', p r S' → q r S') : mMi l y ws rm D n0 ft As n S q := by
  intro p e ha hc hk s m args below hf happ hP hK
  obtain ⟨k, o, h1, h2, h3, ⟨⟨r, u, e1, ⟨S', e2, e3⟩, e4⟩, e5⟩, e6⟩ := hM p e ha hc hk s m args below hf happ hP hK
  exact ⟨k, o, h1, h2, h3, ⟨⟨r, u, e1, ⟨S', e2, hw r S' e3⟩, e4⟩, e5⟩, e6⟩
theorem mMf.w {y : MethodName} {ws : List Cond} {rm : Room} {As : List Value} {p q : UInt32 → mS → Prop} (hM : mMf l y ws rm D n0 ft As n S p) (hw : ∀ r S', p r S' → q r S') : mMf l y ws rm D n0 ft As n S q := by
  intro p e ha hc hk s m args below hf happ hP hK
  obtain ⟨k, o, h1, h2, h3, ⟨⟨r, u, e1, ⟨S', e2, e3⟩, e4⟩, e5⟩, e6⟩ := hM p e ha hc hk s m args below hf happ hP hK
  exact ⟨k, o, h1, h2, h3, ⟨⟨r, u, e1, ⟨S', e2, hw r S' e3⟩, e4⟩, e5⟩, e6⟩
theorem fX9_raw {i j : Nat} (hi : i < 8) (hj : j < 6) : mMi l yX9_raw wsX9_raw rmX9_raw D n0 ft [.ref (n0 + 0), .int (nI i), .int (nI j)] n S (fun r S' => S' = S ∧ r = vw S 1 (6 * i + j)) :=
  (cX9_raw_in hi hj).w fun r S' h => ⟨h.1, h.2.trans (vw_raw (S := S) (b := 1) (by omega)).symm⟩
theorem fX9_signal {i j : Nat} (hi : i < 8) (hj : j < 6) : mMi l yX9_signal wsX9_signal rmX9_signal D n0 ft [.ref (n0 + 0), .int (nI i), .int (nI j)] n S (fun r S' => S' = S ∧ r = sgV (vw S 1) (6 * i + j)) :=
  (cX9_signal_in hi hj).w fun r S' h => ⟨h.1, h.2.trans (sg_v (by omega))⟩
theorem fX9_regionSize {i j : Nat} (hi : i < 8) (hj : j < 6) : mMi l yX9_regionSize wsX9_regionSize rmX9_regionSize D n0 ft [.ref (n0 + 0), .int (nI i), .int (nI j)] n S (fun r S' => QS S S' ∧ r = rsV (vw S 1) (6 * i + j)) :=
  (cX9_regionSize_in hi hj).w fun r S' h => ⟨by rw [h.1]; exact QS_reg, h.2.trans (rs_v (by omega))⟩
theorem fX9_regionKind {i j : Nat} (hi : i < 8) (hj : j < 6) : mMi l yX9_regionKind wsX9_regionKind rmX9_regionKind D n0 ft [.ref (n0 + 0), .int (nI i), .int (nI j)] n S (fun r S' => QS S S' ∧ r = rkV (vw S 1) (6 * i + j)) :=
  (cX9_regionKind_in hi hj).w fun r S' h => ⟨by rw [h.1]; exact QS_reg, h.2.trans (rk_v (by omega))⟩
theorem fX9_regions {q : Nat} (hq : q < 3) : mMi l yX9_regions wsX9_regions rmX9_regions D n0 ft [.ref (n0 + 0), .int (nI q)] n S (fun r S' => QS S S' ∧ r = rgV (vw S 1) (nI q)) :=
  (cX9_regions_in hq).w fun r S' h => ⟨by rw [h.1]; exact QS_reg, h.2.trans rg_v⟩
theorem fX9_setting {q : Nat} (hq : q < 5) : mMi l yX9_setting wsX9_setting rmX9_setting D n0 ft [.ref (n0 + 0), .int (nI q)] n S (fun r S' => S' = S ∧ r = vw S 1 (96 + q)) :=
  (cX9_setting_in hq).w fun r S' h => ⟨h.1, h.2.trans (vw_set (S := S) (b := 1) hq).symm⟩
theorem ct_2 {S : mS} : (ctP S 1 48).2 = kV (vw S 1) := (ct_v (S := S) (b := 1) (by decide)).1
theorem ct_q {S : mS} {j q : Nat} (hj : j < kV (vw S 1)) (hq : q < 4) : (ctP S 1 48).1.1 (105 + q) j = prV (vw S 1) q ((ctV (vw S 1)).getD j 0) :=
  ((ct_v (S := S) (b := 1) (by decide)).2 j _ (ct_at hj).1).2.2 q hq
theorem ct_p {S : mS} {j q p : Nat} (hp : p = 105 + q) (hj : j < kV (vw S 1)) (hq : q < 4) : (ctP S 1 48).1.1 p j = prV (vw S 1) q ((ctV (vw S 1)).getD j 0) := by
  rw [hp]
  exact ct_q hj hq
theorem fX9_contacts : mMi l yX9_contacts wsX9_contacts rmX9_contacts D n0 ft [.ref (n0 + 0)] n S (fun r S' => QS S S' ∧ r = nI (kV (vw S 1))) :=
  cX9_contacts_ok.w fun r S' h => ⟨by rw [h.1]; exact QS_ct, by rw [h.2, ct_2]⟩
theorem fX9_contact {j q : Nat} (hj : j < 2 ^ 31) (hq : q < 4) : mMi l yX9_contact wsX9_contact rmX9_contact D n0 ft [.ref (n0 + 0), .int (nI j), .int (nI q)] n S (fun r S' => QS S S' ∧ r = if j < kV (vw S 1) then prV (vw S 1) q ((ctV (vw S 1)).getD j 0) else -1) :=
  (cX9_contact_in hj hq).w fun r S' h => by
    refine ⟨by rw [h.1]; exact QS_ct, ?_⟩
    rcases h.2 with ⟨j1, h1, h2, h3⟩ | ⟨h1, h2⟩
    · rw [ct_2] at h1
      have h6 := kV_6 (v := vw S 1)
      have e : j = j1 := (nI_eq hj (by omega)).mp h2
      rw [if_pos (by omega), h3, ct_q h1 hq, e]
    · rw [ct_2] at h1
      rw [if_neg fun h9 => h1 ⟨j, h9, rfl⟩, h2]
theorem fX9_isDown (hG : GV (vw S 1)) {t : Nat} (ht : t < 6) : mMi l yX9_isDown wsX9_isDown rmX9_isDown D n0 ft [.ref (n0 + 0), .int (nI t)] n S (fun r S' => S' = S ∧ ((r = 0 ∧ dnB (vw S 1) t = false) ∨ (r = 1 ∧ dnB (vw S 1) t = true))) :=
  (cX9_isDown_in (trOk_G hG) ht).w fun r S' h => by
    refine ⟨h.1, ?_⟩
    have e : r = vw S 1 (101 + 5 * t + 0) := h.2.trans (vw_trk (S := S) (b := 1) ht (by decide)).symm
    rcases (hG.2.2.2.2.2.2.1 t ht).1 with h0 | h1
    · exact Or.inl ⟨e.trans h0, up_iff.mpr h0⟩
    · exact Or.inr ⟨e.trans h1, dn_iff.mpr (by rw [h1]; decide)⟩
theorem fX9_track {t q : Nat} (ht : t < 6) (hq : q < 4) : mMi l yX9_track wsX9_track rmX9_track D n0 ft [.ref (n0 + 0), .int (nI t), .int (nI q)] n S (fun r S' => S' = S ∧ r = if dnB (vw S 1) t then vw S 1 (101 + 5 * t + (q + 1)) else -1) :=
  (cX9_track_in ht hq).w fun r S' h => by
    refine ⟨h.1, ?_⟩
    have e0 : S.1 (1 + 6 + t) 0 = vw S 1 (101 + 5 * t + 0) := (vw_trk (S := S) (b := 1) ht (by decide)).symm
    have e1 : S.1 (1 + 6 + t) (q + 1) = vw S 1 (101 + 5 * t + (q + 1)) := (vw_trk (S := S) (b := 1) ht (by omega)).symm
    rw [h.2, e0, e1]
    cases hd : dnB (vw S 1) t with
    | true => rw [if_neg (dn_iff.mp hd), if_pos rfl]
    | false => rw [if_pos (up_iff.mp hd), if_neg (by decide)]
theorem fX9_squaredDistance {t c : Nat} (ht : t < 6) (hc : c < 2 ^ 31) : mMi l yX9_squaredDistance wsX9_squaredDistance rmX9_squaredDistance D n0 ft [.ref (n0 + 0), .int (nI t), .int (nI c)] n S (fun r S' => QS S S' ∧ r = if dnB (vw S 1) t = true ∧ c < kV (vw S 1) then wyV (vw S 1) t c else -1) :=
  (cX9_squaredDistance_in ht hc).w fun r S' h => by
    refine ⟨by rw [h.1]; exact QS_ct, ?_⟩
    have e : ∀ w, w < 5 → S.1 (1 + 6 + t) w = vw S 1 (101 + 5 * t + w) := fun w hw => (vw_trk (S := S) (b := 1) ht hw).symm
    rcases h.2 with ⟨h1, h2⟩ | ⟨h1, h2, h3⟩
    · rw [ct_2, e 0 (by decide)] at h1
      rw [h2, if_neg]
      rintro ⟨h4, h5⟩
      rcases h1 with h1 | h1
      · exact dn_iff.mp h4 h1
      · exact h1 h5
    · rw [ct_2] at h2
      rw [e 0 (by decide)] at h1
      have r0 := ct_p (p := 105) (q := 0) rfl h2 (by decide)
      have r1 := ct_p (p := 106) (q := 1) rfl h2 (by decide)
      rw [prV_0] at r0
      rw [prV_1] at r1
      rw [if_pos ⟨dn_iff.mpr h1, h2⟩, h3, e 1 (by decide), e 2 (by decide)]
      unfold wyV rpV cpV
      rw [← r0, ← r1]
theorem fX9_match (hI : INV S h) {t : Nat} (ht : t < 6) : mMi l yX9_match wsX9_match rmX9_match D n0 ft [.ref (n0 + 0), .int (nI t)] n S (fun r S' => QS S S' ∧ r = oI (asV (vw S 1) t)) :=
  (cX9_match_in ht).w fun r S' h => ⟨by rw [h.1]; exact QS_mt, by rw [h.2, (mt_v hI.2.2.2.2).1 t ht]⟩
theorem fX9_matchingCost (hI : INV S h) : mMi l yX9_matchingCost wsX9_matchingCost rmX9_matchingCost D n0 ft [.ref (n0 + 0)] n S (fun r S' => QS S S' ∧ r = lsV (vw S 1) 6 0) :=
  cX9_matchingCost_ok.w fun r S' h => ⟨by rw [h.1]; exact QS_mt, by rw [h.2, (mt_v hI.2.2.2.2).2]⟩
theorem fX9_downIfScanned (hI : INV S h) : mMi l yX9_downIfScanned wsX9_downIfScanned rmX9_downIfScanned D n0 ft [.ref (n0 + 0)] n S (fun r S' => QS S S' ∧ r = nI (dsV (frV (vw S 1)) 6)) :=
  (cX9_downIfScanned_ok (trOk_G hI.2.2.1)).w fun r S' h => by
    obtain ⟨S1, h1, h2, h3, h4⟩ := h
    have e : vw S1 13 = vw S 1 := vw_stEq h2
    have hz : ∀ s, s < 64 → S1.1 125 s = 0 := fun s hs => by rw [h1.2 125 (by omega)]; exact hI.2.2.2.2 s hs
    have hv := sc_v (S := S1) (b := 13) (by decide) hz
    rw [e] at hv
    rw [← h3] at h4 hv
    refine ⟨⟨by rw [h3, scP_2]; exact h1.1, fun q a b => ?_⟩, by rw [h4, ds_v (Nat.le_refl 6), hv]⟩
    rw [h3, scP_out (by omega) a, h1.2 q (by omega)]
theorem fX9_frames : mMi l yX9_frames wsX9_frames rmX9_frames D n0 ft [.ref (n0 + 0)] n S (fun r S' => S' = S ∧ r = vw S 1 131) :=
  cX9_frames_ok.w fun r S' h => ⟨h.1, h.2.trans (vw_cnt (S := S) (b := 1) (w := 3) (by decide) (by decide)).symm⟩
theorem fX9_downs : mMi l yX9_downs wsX9_downs rmX9_downs D n0 ft [.ref (n0 + 0)] n S (fun r S' => S' = S ∧ r = vw S 1 132) :=
  cX9_downs_ok.w fun r S' h => ⟨h.1, h.2.trans (vw_cnt (S := S) (b := 1) (w := 4) (by decide) (by decide)).symm⟩
theorem fX9_ups : mMi l yX9_ups wsX9_ups rmX9_ups D n0 ft [.ref (n0 + 0)] n S (fun r S' => S' = S ∧ r = vw S 1 133) :=
  cX9_ups_ok.w fun r S' h => ⟨h.1, h.2.trans (vw_cnt (S := S) (b := 1) (w := 5) (by decide) (by decide)).symm⟩
theorem fX9_meanSignal : mMf l yX9_meanSignal wsX9_meanSignal rmX9_meanSignal D n0 ft [.ref (n0 + 0)] n S (fun r S' => S' = S ∧ r = mnV (vw S 1)) :=
  cX9_meanSignal_ok.w fun r S' h => ⟨h.1, h.2.trans mean_v⟩
theorem fX9_savedStates (hI : INV S h) : mMi l yX9_savedStates wsX9_savedStates rmX9_savedStates D n0 ft [.ref (n0 + 0)] n S (fun r S' => S' = S ∧ r = nI h) :=
  cX9_savedStates_ok.w fun r S' h9 => ⟨h9.1, h9.2.trans hI.2.1.1⟩
/-! changes -/
theorem ms_SC {S : mS} {k : Nat} {f : Nat → Int32} (hk : k ≤ 126) : SC S (mset S k f) := ⟨rfl, fun q hq => mset_n (by omega)⟩
theorem op_set {S1 : mS} {k : Nat} {f v' : Nat → Int32} (hI : INV S h) (hs : svR S h S1) (hk : k < 13) (e : vw (mset S1 k f) 1 = v') (hG : GV v') : OP S h v' (mset S1 k f) := by
  obtain ⟨a, b⟩ := op_INV hI hs (S' := mset S1 k f) rfl (fun q h1 _ => mset_n (by omega)) (by rw [e]; exact hG)
  exact ⟨a, b, e, (sv_SC hI hs).trans (ms_SC (by omega))⟩
theorem fX9_setRaw (hI : INV S h) {i j v : Nat} (hi : i < 8) (hj : j < 6) (hv : v < 256) : mMi l yX9_setRaw wsX9_setRaw rmX9_setRaw D n0 ft [.ref (n0 + 0), .int (nI i), .int (nI j), .int (nI v)] n S
    (fun r S' => OP S h (rawV (vw S 1) (6 * i + j) (nI v)) S' ∧ r = vw S 1 (6 * i + j)) :=
  (cX9_setRaw_in hI.1 hI.2.1.1 hI.2.1.2 (trOk_G hI.2.2.1) hi hj hv).w fun r S' h9 => by
    obtain ⟨S1, h1, h2, h3⟩ := h9
    have e := (sv_INV hI h1).2.1
    refine ⟨?_, by rw [h3, ← e]; exact (vw_raw (S := S1) (b := 1) (by omega)).symm⟩
    rw [h2]
    exact op_set hI h1 (by decide) (by rw [vw_raw1 (by omega), e]) (GV_raw hI.2.2.1 (by omega) hv)
theorem fX9_press (hI : INV S h) {i j v : Nat} (hi : i < 8) (hj : j < 6) (hv0 : 1 ≤ v) (hv : v < 256) : mMi l yX9_press wsX9_press rmX9_press D n0 ft [.ref (n0 + 0), .int (nI i), .int (nI j), .int (nI v)] n S
    (fun r S' => OP S h (prsV (vw S 1) i j v) S' ∧ r = prsV (vw S 1) i j v (6 * i + j)) :=
  (cX9_press_in hI.1 hI.2.1.1 hI.2.1.2 (trOk_G hI.2.2.1) hi hj hv0 hv).w fun r S' h9 => by
    obtain ⟨S1, h1, h2, h3⟩ := h9
    have e := (sv_INV hI h1).2.1
    have ev : vw (mset S1 3 (prs9 (S1.1 3) (nI i) (nI j) (nI v))) 1 = prsV (vw S 1) i j v := by rw [vw_prs (by rw [e]; exact hI.2.2.1) hi hj hv, e]
    refine ⟨?_, ?_⟩
    · rw [h2]
      exact op_set hI h1 (by decide) ev (GV_prs hI.2.2.1)
    · rw [h3, ← ev, vw_raw (by omega), show 1 + 2 = 3 from rfl, mset_s]
theorem fX9_release (hI : INV S h) : mMi l yX9_release wsX9_release rmX9_release D n0 ft [.ref (n0 + 0)] n S (fun r S' => OP S h (relV (vw S 1)) S' ∧ ∃ k, k ≤ 48 ∧ r = nI k) :=
  (cX9_release_ok hI.1 hI.2.1.1 hI.2.1.2 (trOk_G hI.2.2.1)).w fun r S' h9 => by
    obtain ⟨S1, h1, h2, h3⟩ := h9
    have e := (sv_INV hI h1).2.1
    refine ⟨?_, _, cnN_i 48, by rw [h3, cnt_n]⟩
    rw [h2]
    exact op_set hI h1 (by decide) (by rw [vw_rel, e]) (GV_rel hI.2.2.1)
theorem fX9_calibrate (hI : INV S h) : mMi l yX9_calibrate wsX9_calibrate rmX9_calibrate D n0 ft [.ref (n0 + 0)] n S (fun r S' => OP S h (calV (vw S 1)) S' ∧ ∃ k, k ≤ 48 ∧ r = nI k) :=
  (cX9_calibrate_ok hI.1 hI.2.1.1 hI.2.1.2 (trOk_G hI.2.2.1)).w fun r S' h9 => by
    obtain ⟨S1, h1, h2, h3⟩ := h9
    have e := (sv_INV hI h1).2.1
    refine ⟨?_, _, cnN_i 48, by rw [h3, cnt_n]⟩
    rw [h2]
    exact op_set hI h1 (by decide) (by rw [vw_cal, e]) (GV_cal hI.2.2.1)
theorem fX9_set (hI : INV S h) {q x : Nat} (hq : q < 5) (h1 : loN q ≤ x) (h2 : x ≤ hiN q) : mMi l yX9_set wsX9_set rmX9_set D n0 ft [.ref (n0 + 0), .int (nI q), .int (nI x)] n S
    (fun r S' => OP S h (setV (vw S 1) q (nI x)) S' ∧ r = vw S 1 (96 + q)) := by
  obtain ⟨l1, l2, l3⟩ := lo_hi q hq
  refine (cX9_set_in hI.1 hI.2.1.1 hI.2.1.2 (trOk_G hI.2.2.1) hq (by rw [l1]; exact nI_le h1 (by omega)) (by rw [l2]; exact nI_le h2 (by omega))).w fun r S' h9 => ?_
  obtain ⟨S1, h3, h4, h5⟩ := h9
  have e := (sv_INV hI h3).2.1
  refine ⟨?_, by rw [h5, ← e]; exact (vw_set (S := S1) (b := 1) hq).symm⟩
  rw [h4]
  exact op_set hI h3 (by decide) (by rw [← e]; exact vw_set1 hq) (GV_set hI.2.2.1 hq h1 h2)
theorem fX9_scan (hI : INV S h) : mMi l yX9_scan wsX9_scan rmX9_scan D n0 ft [.ref (n0 + 0)] n S (fun r S' => OP S h (frV (vw S 1)) S' ∧ r = nI (nwN (vw S 1) 6 + lsD (vw S 1) 6)) :=
  (cX9_scan_ok hI.1 hI.2.1.1 hI.2.1.2 (trOk_G hI.2.2.1)).w fun r S' h9 => by
    obtain ⟨S1, h1, h2, h3⟩ := h9
    obtain ⟨i1, e, -⟩ := sv_INV hI h1
    have ev : vw (scP S1 1 48) 1 = frV (vw S 1) := by rw [sc_v (by decide) i1.2.2.2.2, e]
    obtain ⟨a, b⟩ := op_INV hI h1 (S' := scP S1 1 48) scP_2 (fun q g1 g2 => scP_out (by omega) (by omega)) (by rw [ev]; exact GV_fr hI.2.2.1)
    refine ⟨?_, ?_⟩
    · rw [h2]
      exact ⟨a, b, ev, (sv_SC hI h1).trans ⟨by rw [scP_2], fun q hq => scP_out (by omega) (by omega)⟩⟩
    · obtain ⟨c1, c2, -⟩ := fr_counts hI.2.2.1 6 (Nat.le_refl 6)
      have x4 : (scP S1 1 48).1 1 4 = dnV (vw S 1) 6 := by rw [← frV_132, ← ev]; exact (vw_cnt (S := scP S1 1 48) (b := 1) (w := 4) (by decide) (by decide)).symm
      have x5 : (scP S1 1 48).1 1 5 = upV (vw S 1) 6 := by rw [← frV_133, ← ev]; exact (vw_cnt (S := scP S1 1 48) (b := 1) (w := 5) (by decide) (by decide)).symm
      have y4 : S1.1 1 4 = vw S 1 132 := by rw [← e]; exact (vw_cnt (S := S1) (b := 1) (w := 4) (by decide) (by decide)).symm
      have y5 : S1.1 1 5 = vw S 1 133 := by rw [← e]; exact (vw_cnt (S := S1) (b := 1) (w := 5) (by decide) (by decide)).symm
      rw [h3, x4, x5, y4, y5, c1, c2]
      generalize nwN (vw S 1) 6 = a
      generalize lsD (vw S 1) 6 = b
      generalize vw S 1 132 = p
      generalize vw S 1 133 = q
      rw [← nI_add]
      generalize nI a = x
      generalize nI b = y
      rw [show p + x + (q + y) = (x + y) + (p + q) by
        rw [Int32.add_assoc p x, ← Int32.add_assoc x q y, Int32.add_comm x q, Int32.add_assoc q x y, ← Int32.add_assoc p q, Int32.add_comm (p + q)], Int32.add_sub_cancel]
theorem fX9_undo (hI : INV S (h + 1)) : mMi l yX9_undo wsX9_undo rmX9_undo D n0 ft [.ref (n0 + 0)] n S (fun r S' => (INV S' h ∧ vw S' 1 = vw S (S.2.1 h) ∧ SC S S') ∧ r = nI h) :=
  (cX9_undo_in hI.1 hI.2.1.1 hI.2.1.2 (by omega) (trOk_G (hI.2.2.2.1 h (by omega)))).w fun r S' h9 => by
    obtain ⟨h1, h2⟩ := h9
    obtain ⟨a, b⟩ := un_INV hI h1
    exact ⟨⟨a, b, by rw [h1.1], fun q hq => h1.2.1 q (by omega) (by omega)⟩, h2⟩
end C63

