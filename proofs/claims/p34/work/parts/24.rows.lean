/-- the contact that is next, after t tracks -/
def scN (d tk k : Nat) : Nat → Nat
  | 0 => 0
  | t + 1 => if d.testBit t then scN d tk k t else (if nxU tk k (k - scN d tk k t) (scN d tk k t) < k then nxU tk k (k - scN d tk k t) (scN d tk k t) + 1 else nxU tk k (k - scN d tk k t) (scN d tk k t))
/-- the contact that is given to the track t -/
def gvN (d tk k t : Nat) : Option Nat := if d.testBit t then none else if nxU tk k (k - scN d tk k t) (scN d tk k t) < k then some (nxU tk k (k - scN d tk k t) (scN d tk k t)) else none
theorem nxU_le {tk k : Nat} : ∀ {d i : Nat}, i + d ≤ k → nxU tk k d i ≤ k
  | 0, i, h => h
  | d + 1, i, h => by
    unfold nxU
    split
    · exact nxU_le (by omega)
    · omega
theorem scN_le {d tk k : Nat} : ∀ t, scN d tk k t ≤ k
  | 0 => Nat.zero_le _
  | t + 1 => by
    have h1 := scN_le (d := d) (tk := tk) (k := k) t
    have h2 : nxU tk k (k - scN d tk k t) (scN d tk k t) ≤ k := nxU_le (by omega)
    unfold scN
    split
    · exact h1
    · split
      · omega
      · exact h2
def sdR (S : mS) (b d tk k t : Nat) : Nat → Int32 := match gvN d tk k t with
  | some c => upd (upd (upd (upd (upd (S.1 (b + 6 + t)) 0 1) 1 (S.1 105 c)) 2 (S.1 106 c)) 3 0) 4 0
  | none => S.1 (b + 6 + t)
def dnU (S : mS) (b d tk k : Nat) : Nat → Int32
  | 0 => S.1 b 4
  | t + 1 => match gvN d tk k t with
    | some _ => dnU S b d tk k t + 1
    | none => dnU S b d tk k t
def sdS (S : mS) (b d tk k t : Nat) : mS := mupd (trS S b t (sdR S b d tk k)) b 4 (dnU S b d tk k t)
/-- the picture behind State.takeFrame -/
def tfS (S : mS) (b : Nat) (as : Nat → Option Nat) (tk k : Nat) : mS := sdS (mvS (mupd S b 3 (S.1 b 3 + 1)) b as 6) b (dsN S b 6) tk k 6
section C24
variable {l : Launch} {D : va_G} {n0 : Nat} {ft : tv_ft} {n : Nat} {S : mS} {b : Nat}
theorem iX6_startTracks_X1 : ∀ w ∈ wsX10, w ∈ wsX6_startTracks := by decide +kernel
theorem iX6_startTracks_X6 : ∀ w ∈ wsX60, w ∈ wsX6_startTracks := by decide +kernel
theorem kX6_startTracks_24 : Cond.fieldLink RX6 24 (TX6 2).1 (TX6 2).2.1 (TX6 2).2.2.1 ∈ wsX6_startTracks := by decide +kernel
theorem kX6_startTracks_49 : Cond.fieldLink RX6 49 (TX6 4).1 (TX6 4).2.1 (TX6 4).2.2.1 ∈ wsX6_startTracks := by decide +kernel
theorem cX6_startTracks_ok (hb : mst b = true) {d tk k : Nat} (hd : d < 64) (hk : S.1 103 5 = nI k) (hk2 : S.1 109 5 = nI k) (hk6 : k ≤ 6) (htk : S.1 109 4 = nI tk) (htk6 : tk < 64) : mMv l yX6_startTracks wsX6_startTracks rmX6_startTracks D n0 ft [.ref (n0 + b), .ref (n0 + 103), .ref (n0 + 109), .int (nI d)] n S (fun S' => S' = sdS S b d tk k 6) := by
  have hbl := mst_le hb
  have hbc := mst_cases hb
  refine tv_enter (cc := cX6_startTracks) (maxL := 6) (ret := none) (by decide) rfl (Nat.le_of_ble_eq_true rfl) ?_
  intro p e s m args below meth c X hrt hnm hargs
  refine tv_iconst (v := 0) X dX6_startTracks_0 (by decide) ?_
  refine tv_istore X dX6_startTracks_1 rfl ?_
  refine tv_iconst (v := 0) X dX6_startTracks_3 (by decide) ?_
  refine tv_istore X dX6_startTracks_4 rfl ?_
  refine mm_st (S' := sdS S b d tk k 0) ?_ ?_
  · unfold sdS
    rw [trS_0]
    refine mS_ext (fun q => ?_) rfl
    show S.1 q = if q = b then upd (S.1 b) 4 (S.1 b 4) else S.1 q
    by_cases h : q = b
    · rw [if_pos h, h]
      funext j
      show _ = if j = 4 then _ else _
      by_cases h2 : j = 4
      · rw [if_pos h2, h2]
      · rw [if_neg h2]
    · rw [if_neg h]
  refine mm_for 6 (fun i => [(0, .ref (n0 + b)), (1, .ref (n0 + 103)), (2, .ref (n0 + 109)), (3, .int (nI d)), (4, .int (nI (scN d tk k i))), (5, .int (nI i))]) (fun i => sdS S b d tk k i) ?_ ?_
  · intro t ht ih
    dsimp only at ih
    have rq : ∀ q, q ≠ b → (q < b + 6 ∨ b + 6 + t ≤ q) → (sdS S b d tk k t).1 q = S.1 q := fun q h1 h2 => by
      unfold sdS
      rw [mupd_n h1, trS_n h2]
    have r4 : (sdS S b d tk k t).1 b 4 = dnU S b d tk k t := mupd_ss
    have hTs : ∀ v u, v = sdR S b d tk k t → u = dnU S b d tk k (t + 1) → mset (mupd (sdS S b d tk k t) b 4 u) (b + 6 + t) v = sdS S b d tk k (t + 1) := by
      intro v u hv hu
      subst hv; subst hu
      unfold sdS
      show mset (mset (mset (trS S b t (sdR S b d tk k)) b _) b (upd ((mset _ _ _).1 b) 4 _)) (b + 6 + t) _ = mset (trS S b (t + 1) (sdR S b d tk k)) b _
      rw [mset_mset, mset_s, mset_comm (k := b) (q := b + 6 + t) (by omega), trS_s rfl, trS_n (q := b) (by omega), trS_n (q := b) (by omega)]
      refine congrArg (mset _ b) (funext fun j => ?_)
      show (if j = 4 then _ else if j = 4 then _ else _) = if j = 4 then _ else _
      by_cases h2 : j = 4
      · rw [if_pos h2, if_pos h2]
      · rw [if_neg h2, if_neg h2, if_neg h2]
    have hsame : mupd (sdS S b d tk k t) b 4 (dnU S b d tk k t) = sdS S b d tk k t := by
      unfold sdS
      show mset (mset _ b _) b (upd ((mset _ _ _).1 b) 4 _) = mset _ b _
      rw [mset_mset, mset_s]
      refine congrArg (mset _ b) (funext fun j => ?_)
      show (if j = 4 then _ else if j = 4 then _ else _) = if j = 4 then _ else _
      by_cases h2 : j = 4
      · rw [if_pos h2, if_pos h2]
      · rw [if_neg h2, if_neg h2]
    have hnone : gvN d tk k t = none → sdS S b d tk k (t + 1) = sdS S b d tk k t := fun hg => by
      have h9 := hTs (sdR S b d tk k t) (dnU S b d tk k t) rfl (by show _ = (match gvN d tk k t with | some _ => _ | none => _); rw [hg])
      rw [hsame] at h9
      rw [← h9]
      have hr : sdR S b d tk k t = (sdS S b d tk k t).1 (b + 6 + t) := by
        rw [rq (b + 6 + t) (by omega) (by omega)]
        unfold sdR
        rw [hg]
      rw [hr]
      exact mset_self
    have hsc := scN_le (d := d) (tk := tk) (k := k) t
    refine tv_iload X dX6_startTracks_6 rfl ?_
    refine tv_bipush (v := 6) X dX6_startTracks_8 (by decide) ?_
    refine tv_icmp_ge (tgt := 80) X dX6_startTracks_10 (by decide) (fun h1 => ?_) (fun h1 => ?_)
    · exact absurd h1 (nI_ge (a := t) (b := 6) ht (by decide))
    refine tv_iload_n X dX6_startTracks_13 rfl ?_
    refine tv_iconst (v := 1) X dX6_startTracks_14 (by decide) ?_
    refine tv_iload X dX6_startTracks_15 rfl ?_
    refine tv_ishl X dX6_startTracks_17 ?_
    refine tv_iand X dX6_startTracks_18 ?_
    cases hbit : d.testBit t with
    | true =>
      have hg : gvN d tk k t = none := if_pos hbit
      have hs : scN d tk k (t + 1) = scN d tk k t := if_pos hbit
      rw [hnone hg, hs] at ih
      refine tv_if_ne (tgt := 74) X dX6_startTracks_19 (by decide) (fun h2 => ?_) (fun h2 => ?_)
      rotate_left
      · exact absurd ((and6 d hd t ht).mp h2) (by rw [hbit]; decide)
      refine tv_iinc X dX6_startTracks_74 rfl (nI_1 t) rfl ?_
      refine tv_goto (tgt := 6) X dX6_startTracks_77 (by decide) ?_
      exact ih
    | false =>
      refine tv_if_ne (tgt := 74) X dX6_startTracks_19 (by decide) (fun h2 => ?_) (fun h2 => ?_)
      · exact absurd ((and6 d hd t ht).mpr hbit) h2
      have m5 : (sdS S b d tk k t).1 109 5 = nI k := by rw [rq 109 (by omega) (by omega)]; exact hk2
      have m4 : (sdS S b d tk k t).1 109 4 = nI tk := by rw [rq 109 (by omega) (by omega)]; exact htk
      have mc : (sdS S b d tk k t).1 103 5 = nI k := by rw [rq 103 (by omega) (by omega)]; exact hk
      refine tv_aload_n X dX6_startTracks_22 rfl ?_
      refine tv_iload X dX6_startTracks_23 rfl ?_
      refine mm_callVi (q := (RX3, TX3, 6)) X dX6_startTracks_25 (cX3_nextUnassigned_ok m5 hk6 m4 htk6 hsc) (cwV 1 X.2.2.2.2.1 gX6_startTracks_X3_nextUnassigned rfl rfl rfl (by decide +kernel) ⟨Nat.le_of_ble_eq_true rfl, Nat.le_of_ble_eq_true rfl⟩) rfl rfl gX3 rfl (Nat.le_of_ble_eq_true rfl) ⟨Nat.zero_le _, Nat.zero_le _⟩ (fun r S1 hq => ?_)
      obtain ⟨hq1, hq2⟩ := hq
      rw [hq1, hq2]
      clear hq1 hq2
      have hgv : gvN d tk k t = if nxU tk k (k - scN d tk k t) (scN d tk k t) < k then some (nxU tk k (k - scN d tk k t) (scN d tk k t)) else none := if_neg (by rw [hbit]; decide)
      have hsv : scN d tk k (t + 1) = if nxU tk k (k - scN d tk k t) (scN d tk k t) < k then nxU tk k (k - scN d tk k t) (scN d tk k t) + 1 else nxU tk k (k - scN d tk k t) (scN d tk k t) := if_neg (by rw [hbit]; decide)
      have hle : nxU tk k (k - scN d tk k t) (scN d tk k t) ≤ k := nxU_le (by omega)
      generalize nxU tk k (k - scN d tk k t) (scN d tk k t) = u at hgv hsv hle ⊢
      refine tv_istore X dX6_startTracks_28 rfl ?_
      refine tv_iload X dX6_startTracks_30 rfl ?_
      refine tv_aload_n X dX6_startTracks_32 rfl ?_
      refine mm_getfN X dX6_startTracks_33 gX1 iX6_startTracks_X1 rfl 5 (by decide) nF16 rfl ?_
      rw [mc]
      refine tv_icmp_ge (tgt := 74) X dX6_startTracks_36 (by decide) (fun h3 => ?_) (fun h3 => ?_)
      · have hnu : ¬ u < k := fun h => nI_ge h (by omega) h3
        rw [if_neg hnu] at hgv hsv
        rw [hnone hgv, hsv] at ih
        refine tv_iinc X dX6_startTracks_74 rfl (nI_1 t) rfl ?_
        refine tv_goto (tgt := 6) X dX6_startTracks_77 (by decide) ?_
        exact ih
      · have hu : u < k := Nat.lt_of_not_le fun h => h3 (nI_le h (by omega))
        rw [if_pos hu] at hgv hsv
        rw [hsv] at ih
        refine tv_aload_n X dX6_startTracks_39 rfl ?_
        refine mm_getf X dX6_startTracks_40 (gX6 hb) iX6_startTracks_X6 rfl 2 (by decide) kX6_startTracks_24 rfl ?_
        refine tv_iload X dX6_startTracks_43 rfl ?_
        refine mm_aald X dX6_startTracks_45 (gTrs hb) rfl _ rfl (by omega) rfl (by decide) ?_
        refine tv_aload_n X dX6_startTracks_46 rfl ?_
        refine tv_iload X dX6_startTracks_47 rfl ?_
        refine mm_callVi (q := (RX1, TX1, 6)) X dX6_startTracks_49 (cX1_rowOf_ok mc hk6 hu) (cwV 1 X.2.2.2.2.1 gX6_startTracks_X1_rowOf rfl rfl rfl (by decide +kernel) ⟨Nat.le_of_ble_eq_true rfl, Nat.le_of_ble_eq_true rfl⟩) rfl rfl gX1 rfl (Nat.le_of_ble_eq_true rfl) ⟨Nat.zero_le _, Nat.zero_le _⟩ (fun r S1 hq => ?_)
        obtain ⟨hq1, hq2⟩ := hq
        rw [hq1, hq2, rq 105 (by omega) (by omega)]
        clear hq1 hq2
        refine tv_aload_n X dX6_startTracks_52 rfl ?_
        refine tv_iload X dX6_startTracks_53 rfl ?_
        refine mm_callVi (q := (RX1, TX1, 6)) X dX6_startTracks_55 (cX1_columnOf_ok mc hk6 hu) (cwV 1 X.2.2.2.2.1 gX6_startTracks_X1_columnOf rfl rfl rfl (by decide +kernel) ⟨Nat.le_of_ble_eq_true rfl, Nat.le_of_ble_eq_true rfl⟩) rfl rfl gX1 rfl (Nat.le_of_ble_eq_true rfl) ⟨Nat.zero_le _, Nat.zero_le _⟩ (fun r S1 hq => ?_)
        obtain ⟨hq1, hq2⟩ := hq
        rw [hq1, hq2, rq 106 (by omega) (by omega)]
        clear hq1 hq2
        refine mm_callVv (q := (RX8, TX8, 5)) X dX6_startTracks_58 (cX8_goDown_ok hb ht _ _) (cwV 2 X.2.2.2.2.1 gX6_startTracks_X8_goDown rfl rfl rfl (by decide +kernel) ⟨Nat.le_of_ble_eq_true rfl, Nat.le_of_ble_eq_true rfl⟩) rfl rfl (gX8 hb ht) rfl (Nat.le_of_ble_eq_true rfl) ⟨Nat.zero_le _, Nat.zero_le _⟩ (fun S1 hq => ?_)
        rw [rq (b + 6 + t) (by omega) (by omega)] at hq
        have f4 : S1.1 b 4 = dnU S b d tk k t := by rw [hq, mset_n (by omega)]; exact r4
        refine tv_aload_n X dX6_startTracks_61 rfl ?_
        refine tv_dup X dX6_startTracks_62 rfl ?_
        refine mm_getf X dX6_startTracks_63 (gX6 hb) iX6_startTracks_X6 rfl 4 (by decide) kX6_startTracks_49 rfl ?_
        rw [f4]
        refine tv_iconst (v := 1) X dX6_startTracks_66 (by decide) ?_
        refine tv_iadd X dX6_startTracks_67 ?_
        refine mm_put X dX6_startTracks_68 (gX6 hb) iX6_startTracks_X6 rfl tyX6 tyX6_ok nmX6 4 (by decide) kX6_startTracks_49 rfl rfl rfl (Nat.le_of_ble_eq_true rfl) rfl ?_
        refine tv_iinc X dX6_startTracks_71 rfl (nI_1 u) rfl ?_
        refine tv_iinc X dX6_startTracks_74 rfl (nI_1 t) rfl ?_
        refine tv_goto (tgt := 6) X dX6_startTracks_77 (by decide) ?_
        refine mm_st ?_ ih
        rw [← hTs (sdR S b d tk k t) (dnU S b d tk k t + 1) rfl (by show _ = (match gvN d tk k t with | some _ => _ | none => _); rw [hgv]), hq]
        show mset (mset _ (b + 6 + t) _) b (upd ((mset _ (b + 6 + t) _).1 b) 4 _) = mset (mset _ b _) (b + 6 + t) _
        rw [mset_n (q := b) (k := b + 6 + t) (by omega), mset_comm (k := b + 6 + t) (q := b) (by omega)]
        refine congrArg (mset _ _) ?_
        unfold sdR
        rw [hgv]
  · refine tv_iload X dX6_startTracks_6 rfl ?_
    refine tv_bipush (v := 6) X dX6_startTracks_8 (by decide) ?_
    refine tv_icmp_ge (tgt := 80) X dX6_startTracks_10 (by decide) (fun h1 => ?_) (fun h1 => ?_)
    · exact tv_vret X hrt dX6_startTracks_80 ⟨_, rfl, rfl⟩
    · exact absurd (nI_le (Nat.le_refl 6) (by decide)) h1
theorem iX6_takeFrame_X6 : ∀ w ∈ wsX60, w ∈ wsX6_takeFrame := by decide +kernel
theorem kX6_takeFrame_45 : Cond.fieldLink RX6 45 (TX6 3).1 (TX6 3).2.1 (TX6 3).2.2.1 ∈ wsX6_takeFrame := by decide +kernel
theorem kX6_takeFrame_49 : Cond.fieldLink RX6 49 (TX6 4).1 (TX6 4).2.1 (TX6 4).2.2.1 ∈ wsX6_takeFrame := by decide +kernel
theorem kX6_takeFrame_52 : Cond.fieldLink RX6 52 (TX6 5).1 (TX6 5).2.1 (TX6 5).2.2.1 ∈ wsX6_takeFrame := by decide +kernel
theorem cX6_takeFrame_ok (hb : mst b = true) {as : Nat → Option Nat} {tk k : Nat} (hk : S.1 103 5 = nI k) (hk2 : S.1 109 5 = nI k) (hk6 : k ≤ 6) (htk : S.1 109 4 = nI tk) (htk6 : tk < 64) (has : ∀ t, t < 6 → S.1 126 t = oI (as t) ∧ ∀ c, as t = some c → c < k) : mMi l yX6_takeFrame wsX6_takeFrame rmX6_takeFrame D n0 ft [.ref (n0 + b), .ref (n0 + 103), .ref (n0 + 109)] n S (fun r S' => S' = tfS S b as tk k ∧ r = (tfS S b as tk k).1 b 4 + (tfS S b as tk k).1 b 5 - (S.1 b 4 + S.1 b 5)) := by
  have hbl := mst_le hb
  have hbc := mst_cases hb
  refine tv_enter (cc := cX6_takeFrame) (maxL := 5) (ret := (some .int)) (by decide) rfl (Nat.le_of_ble_eq_true rfl) ?_
  intro p e s m args below meth c X hrt hnm hargs
  refine tv_aload_n X dX6_takeFrame_0 rfl ?_
  refine mm_getf X dX6_takeFrame_1 (gX6 hb) iX6_takeFrame_X6 rfl 4 (by decide) kX6_takeFrame_49 rfl ?_
  refine tv_aload_n X dX6_takeFrame_4 rfl ?_
  refine mm_getf X dX6_takeFrame_5 (gX6 hb) iX6_takeFrame_X6 rfl 5 (by decide) kX6_takeFrame_52 rfl ?_
  refine tv_iadd X dX6_takeFrame_8 ?_
  refine tv_istore_n X dX6_takeFrame_9 rfl ?_
  refine tv_aload_n X dX6_takeFrame_10 rfl ?_
  refine mm_callVi (q := (RX6, TX6, 6)) X dX6_takeFrame_11 (cX6_downSet_ok hb) (cwV 0 X.2.2.2.2.1 gX6_takeFrame_X6_downSet rfl rfl rfl (by decide +kernel) ⟨Nat.le_of_ble_eq_true rfl, Nat.le_of_ble_eq_true rfl⟩) rfl rfl (gX6 hb) rfl (Nat.le_of_ble_eq_true rfl) ⟨Nat.zero_le _, Nat.zero_le _⟩ (fun r S1 hq => ?_)
  obtain ⟨hq1, hq2⟩ := hq
  rw [hq1, hq2]
  clear hq1 hq2
  refine tv_istore X dX6_takeFrame_14 rfl ?_
  refine tv_aload_n X dX6_takeFrame_16 rfl ?_
  refine tv_dup X dX6_takeFrame_17 rfl ?_
  refine mm_getf X dX6_takeFrame_18 (gX6 hb) iX6_takeFrame_X6 rfl 3 (by decide) kX6_takeFrame_45 rfl ?_
  refine tv_iconst (v := 1) X dX6_takeFrame_21 (by decide) ?_
  refine tv_iadd X dX6_takeFrame_22 ?_
  refine mm_put X dX6_takeFrame_23 (gX6 hb) iX6_takeFrame_X6 rfl tyX6 tyX6_ok nmX6 3 (by decide) kX6_takeFrame_45 rfl rfl rfl (Nat.le_of_ble_eq_true rfl) rfl ?_
  refine tv_aload_n X dX6_takeFrame_26 rfl ?_
  refine tv_aload_n X dX6_takeFrame_27 rfl ?_
  refine tv_aload_n X dX6_takeFrame_28 rfl ?_
  generalize hS1 : mupd S b 3 (S.1 b 3 + 1) = T1
  have n1 : ∀ q, q ≠ b → T1.1 q = S.1 q := fun q h => by rw [← hS1, mupd_n h]
  have hk' : T1.1 103 5 = nI k := by rw [n1 _ (by omega)]; exact hk
  have has' : ∀ t, t < 6 → T1.1 126 t = oI (as t) ∧ ∀ c, as t = some c → c < k := fun t ht => by rw [n1 _ (by omega)]; exact has t ht
  refine mm_callVv (q := (RX6, TX6, 6)) X dX6_takeFrame_29 (cX6_moveTracks_ok hb hk' hk6 has') (cwV 2 X.2.2.2.2.1 gX6_takeFrame_X6_moveTracks rfl rfl rfl (by decide +kernel) ⟨Nat.le_of_ble_eq_true rfl, Nat.le_of_ble_eq_true rfl⟩) rfl rfl (gX6 hb) rfl (Nat.le_of_ble_eq_true rfl) ⟨Nat.zero_le _, Nat.zero_le _⟩ (fun S2 hq => ?_)
  rw [hq]
  clear hq
  have n2 : ∀ q, (q < b ∨ b + 12 ≤ q) → (mvS T1 b as 6).1 q = S.1 q := fun q h => by
    unfold mvS
    rw [mupd_n (by omega), trS_n (by omega), n1 _ (by omega)]
  refine tv_aload_n X dX6_takeFrame_32 rfl ?_
  refine tv_aload_n X dX6_takeFrame_33 rfl ?_
  refine tv_aload_n X dX6_takeFrame_34 rfl ?_
  refine tv_iload X dX6_takeFrame_35 rfl ?_
  have g1 : (mvS T1 b as 6).1 103 5 = nI k := by rw [n2 _ (by omega)]; exact hk
  have g2 : (mvS T1 b as 6).1 109 5 = nI k := by rw [n2 _ (by omega)]; exact hk2
  have g3 : (mvS T1 b as 6).1 109 4 = nI tk := by rw [n2 _ (by omega)]; exact htk
  refine mm_callVv (q := (RX6, TX6, 6)) X dX6_takeFrame_37 (cX6_startTracks_ok hb (dsN_lt (Nat.le_refl 6)) g1 g2 hk6 g3 htk6) (cwV 3 X.2.2.2.2.1 gX6_takeFrame_X6_startTracks rfl rfl rfl (by decide +kernel) ⟨Nat.le_of_ble_eq_true rfl, Nat.le_of_ble_eq_true rfl⟩) rfl rfl (gX6 hb) rfl (Nat.le_of_ble_eq_true rfl) ⟨Nat.zero_le _, Nat.zero_le _⟩ (fun S3 hq => ?_)
  have hT : S3 = tfS S b as tk k := by
    unfold tfS
    rw [hS1]; exact hq
  rw [hT]
  refine tv_aload_n X dX6_takeFrame_40 rfl ?_
  refine mm_getf X dX6_takeFrame_41 (gX6 hb) iX6_takeFrame_X6 rfl 4 (by decide) kX6_takeFrame_49 rfl ?_
  refine tv_aload_n X dX6_takeFrame_44 rfl ?_
  refine mm_getf X dX6_takeFrame_45 (gX6 hb) iX6_takeFrame_X6 rfl 5 (by decide) kX6_takeFrame_52 rfl ?_
  refine tv_iadd X dX6_takeFrame_48 ?_
  refine tv_iload_n X dX6_takeFrame_49 rfl ?_
  refine tv_isub X dX6_takeFrame_50 ?_
  exact tv_iret X hrt dX6_takeFrame_51 ⟨_, rfl, rfl, rfl⟩
end C24

