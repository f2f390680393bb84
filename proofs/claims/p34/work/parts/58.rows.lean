/-! frames in closed form -/
/-- a track's row behind the frame, on the class's side -/
def Xr (S : mS) (b : Nat) (as : Nat → Option Nat) (d tk k t : Nat) : Nat → Int32 := match gvN d tk k t with
  | some c => upd (upd (upd (upd (upd (mvR S b as t) 0 1) 1 (S.1 105 c)) 2 (S.1 106 c)) 3 0) 4 0
  | none => mvR S b as t
/-- downs and ups of the class so far -/
def dnX (S : mS) (b d tk k : Nat) : Nat → Int32
  | 0 => S.1 b 4
  | t + 1 => match gvN d tk k t with
    | some _ => dnX S b d tk k t + 1
    | none => dnX S b d tk k t
theorem tfS_row {S : mS} {b t k tk : Nat} {as : Nat → Option Nat} (hb : b + 12 < 99) (ht : t < 6) : (tfS S b as tk k).1 (b + 6 + t) = Xr (mupd S b 3 (S.1 b 3 + 1)) b as (dsN S b 6) tk k t := by
  unfold tfS sdS
  rw [mupd_n (by omega), trS_p ht]
  have hT : (mvS (mupd S b 3 (S.1 b 3 + 1)) b as 6).1 (b + 6 + t) = mvR (mupd S b 3 (S.1 b 3 + 1)) b as t := by
    unfold mvS
    rw [mupd_n (by omega), trS_p ht]
  have h5 : (mvS (mupd S b 3 (S.1 b 3 + 1)) b as 6).1 105 = (mupd S b 3 (S.1 b 3 + 1)).1 105 := by
    unfold mvS
    rw [mupd_n (by omega), trS_n (by omega)]
  have h6 : (mvS (mupd S b 3 (S.1 b 3 + 1)) b as 6).1 106 = (mupd S b 3 (S.1 b 3 + 1)).1 106 := by
    unfold mvS
    rw [mupd_n (by omega), trS_n (by omega)]
  unfold sdR Xr
  rw [hT, h5, h6]
  cases gvN (dsN S b 6) tk k t <;> rfl
theorem dnU_X {T S : mS} {b d tk k : Nat} (h : T.1 b 4 = S.1 b 4) : ∀ t, dnU T b d tk k t = dnX S b d tk k t
  | 0 => h
  | t + 1 => by
    have ih := dnU_X (d := d) (tk := tk) (k := k) h t
    show (match gvN d tk k t with | some _ => dnU T b d tk k t + 1 | none => dnU T b d tk k t) = (match gvN d tk k t with | some _ => dnX S b d tk k t + 1 | none => dnX S b d tk k t)
    rw [ih]
theorem tfS_b {S : mS} {b k tk : Nat} {as : Nat → Option Nat} (hb : b + 12 < 99) : (tfS S b as tk k).1 b 3 = S.1 b 3 + 1 ∧ (tfS S b as tk k).1 b 4 = dnX (mupd S b 3 (S.1 b 3 + 1)) b (dsN S b 6) tk k 6 ∧ (tfS S b as tk k).1 b 5 = upU (mupd S b 3 (S.1 b 3 + 1)) b as 6 := by
  have e4 : (mvS (mupd S b 3 (S.1 b 3 + 1)) b as 6).1 b 4 = (mupd S b 3 (S.1 b 3 + 1)).1 b 4 := by
    unfold mvS
    rw [mupd_sn (by decide), trS_n (by omega)]
  unfold tfS sdS
  refine ⟨?_, ?_, ?_⟩
  · rw [mupd_sn (by decide), trS_n (by omega)]
    unfold mvS
    rw [mupd_sn (by decide), trS_n (by omega), mupd_ss]
  · rw [mupd_ss, dnU_X e4]
  · rw [mupd_sn (by decide), trS_n (by omega)]
    unfold mvS
    rw [mupd_ss]
theorem tfS_lo {S : mS} {b k tk q : Nat} {as : Nat → Option Nat} (h1 : q ≠ b) (h2 : q < b + 6 ∨ b + 12 ≤ q) : (tfS S b as tk k).1 q = S.1 q := by
  unfold tfS sdS
  rw [mupd_n h1, trS_n (by omega)]
  unfold mvS
  rw [mupd_n h1, trS_n (by omega), mupd_n h1]
def dsV (v : Nat → Int32) : Nat → Nat
  | 0 => 0
  | t + 1 => if v (101 + 5 * t + 0) = 0 then dsV v t else dsV v t ||| 1 <<< t
def V5 (v0 v1 v2 v3 v4 : Int32) (w : Nat) : Int32 := if w = 0 then v0 else if w = 1 then v1 else if w = 2 then v2 else if w = 3 then v3 else v4
theorem upd5c {r : Nat → Int32} {v0 v1 v2 v3 v4 : Int32} {w : Nat} (hw : w < 5) : (upd (upd (upd (upd (upd r 0 v0) 1 v1) 2 v2) 3 v3) 4 v4) w = V5 v0 v1 v2 v3 v4 w := by
  match w, hw with
  | 0, _ | 1, _ | 2, _ | 3, _ | 4, _ => rfl
theorem upd4c {r : Nat → Int32} {v1 v2 v3 v4 : Int32} {w : Nat} (hw : w < 5) : (upd (upd (upd (upd r 1 v1) 2 v2) 3 v3) 4 v4) w = V5 (r 0) v1 v2 v3 v4 w := by
  match w, hw with
  | 0, _ | 1, _ | 2, _ | 3, _ | 4, _ => rfl
theorem upd2c {r : Nat → Int32} {v0 v4 : Int32} {w : Nat} (hw : w < 5) : (upd (upd r 4 v4) 0 v0) w = V5 v0 (r 1) (r 2) (r 3) v4 w := by
  match w, hw with
  | 0, _ | 1, _ | 2, _ | 3, _ | 4, _ => rfl
/-- the contact that is given to a track that was up -/
noncomputable def gvV (v : Nat → Int32) (t : Nat) : Option Nat := gvN (dsV v 6) (tkV v 6) (kV v) t
noncomputable def trM (v : Nat → Int32) (t w : Nat) : Int32 := match asV v t with
  | some c => V5 (v (101 + 5 * t + 0)) (rpV v c) (cpV v c) (v (101 + 5 * t + 3) + 1) 0 w
  | none => if v (101 + 5 * t + 0) = 0 then v (101 + 5 * t + w) else V5 (if v 100 < v (101 + 5 * t + 4) + 1 then 0 else 1) (v (101 + 5 * t + 1)) (v (101 + 5 * t + 2)) (v (101 + 5 * t + 3)) (v (101 + 5 * t + 4) + 1) w
noncomputable def trF (v : Nat → Int32) (t w : Nat) : Int32 := match gvV v t with
  | some c => V5 1 (rpV v c) (cpV v c) 0 0 w
  | none => trM v t w
noncomputable def upV (v : Nat → Int32) : Nat → Int32
  | 0 => v 133
  | t + 1 => if asV v t = none ∧ ¬ v (101 + 5 * t + 0) = 0 ∧ v 100 < v (101 + 5 * t + 4) + 1 then upV v t + 1 else upV v t
noncomputable def dnV (v : Nat → Int32) : Nat → Int32
  | 0 => v 132
  | t + 1 => match gvV v t with
    | some _ => dnV v t + 1
    | none => dnV v t
noncomputable def frV (v : Nat → Int32) : Nat → Int32 := fun j => if j < 101 then v j else if j < 131 then trF v ((j - 101) / 5) ((j - 101) % 5) else if j = 131 then v 131 + 1 else if j = 132 then dnV v 6 else if j = 133 then upV v 6 else 0
theorem frV_lo {v : Nat → Int32} {j : Nat} (h : j < 101) : frV v j = v j := if_pos h
theorem frV_trk {v : Nat → Int32} {t w : Nat} (ht : t < 6) (hw : w < 5) : frV v (101 + 5 * t + w) = trF v t w := by
  unfold frV
  rw [if_neg (by omega), if_pos (by omega), show (101 + 5 * t + w - 101) / 5 = t by omega, show (101 + 5 * t + w - 101) % 5 = w by omega]
theorem frV_131 {v : Nat → Int32} : frV v 131 = v 131 + 1 := by
  unfold frV
  rw [if_neg (by decide), if_neg (by decide), if_pos rfl]
theorem frV_132 {v : Nat → Int32} : frV v 132 = dnV v 6 := by
  unfold frV
  rw [if_neg (by decide), if_neg (by decide), if_neg (by decide), if_pos rfl]
theorem frV_133 {v : Nat → Int32} : frV v 133 = upV v 6 := by
  unfold frV
  rw [if_neg (by decide), if_neg (by decide), if_neg (by decide), if_neg (by decide), if_pos rfl]
theorem ds_v {S : mS} {b : Nat} : ∀ {n : Nat}, n ≤ 6 → dsN S b n = dsV (vw S b) n
  | 0, _ => rfl
  | n + 1, hn => by
    have ih := ds_v (S := S) (b := b) (n := n) (by omega)
    unfold dsN dsV
    rw [ih, vw_trk (by omega) (by decide)]
/-- what a frame is made of -/
def frX (T : mS) (b : Nat) (as : Nat → Option Nat) (tk k : Nat) (v : Nat → Int32) : Prop := vw T b = v ∧ b + 12 < 99 ∧ k = kV v ∧ tk = tkV v 6 ∧ (∀ t, t < 6 → as t = asV v t) ∧ ∀ c, c < k → T.1 105 c = rpV v c ∧ T.1 106 c = cpV v c
theorem fbN_lt' {q : Nat → Bool} {k c : Nat} (h : fbN q k = some c) : c < k := (fbN_lt h).1
theorem gvN_lt {d tk k t c : Nat} (h : gvN d tk k t = some c) : c < k := by
  unfold gvN at h
  by_cases h1 : d.testBit t
  · rw [if_pos h1] at h; cases h
  · rw [if_neg h1] at h
    by_cases h2 : nxU tk k (k - scN d tk k t) (scN d tk k t) < k
    · rw [if_pos h2] at h
      cases h
      exact h2
    · rw [if_neg h2] at h; cases h
theorem fr_row {T : mS} {b k tk : Nat} {as : Nat → Option Nat} {v : Nat → Int32} (hx : frX T b as tk k v) {t w : Nat} (ht : t < 6) (hw : w < 5) : (tfS T b as tk k).1 (b + 6 + t) w = trF v t w := by
  obtain ⟨hv, hb, hk, htk, has, hp⟩ := hx
  have e1 : ∀ w, w < 5 → T.1 (b + 6 + t) w = v (101 + 5 * t + w) := fun w hw => by rw [← hv, vw_trk ht hw]
  have e2 : T.1 (b + 4) 4 = v 100 := by
    rw [← hv]
    exact (vw_set (q := 4) (by decide)).symm
  rw [tfS_row hb ht, ds_v (Nat.le_refl 6), hv, hk, htk]
  have m1 : (mupd T b 3 (T.1 b 3 + 1)).1 (b + 6 + t) = T.1 (b + 6 + t) := mupd_n (by omega)
  have m2 : (mupd T b 3 (T.1 b 3 + 1)).1 105 = T.1 105 := mupd_n (by omega)
  have m3 : (mupd T b 3 (T.1 b 3 + 1)).1 106 = T.1 106 := mupd_n (by omega)
  have m4 : (mupd T b 3 (T.1 b 3 + 1)).1 (b + 4) = T.1 (b + 4) := mupd_n (by omega)
  have hm : mvR (mupd T b 3 (T.1 b 3 + 1)) b as t w = trM v t w := by
    unfold mvR trM
    rw [has t ht, m1, m2, m3, m4, e2]
    cases hc : asV v t with
    | some c =>
      have hck : c < k := by rw [hk]; exact fbN_lt' hc
      dsimp only
      rw [(hp c hck).1, (hp c hck).2, upd4c hw, e1 0 (by decide), e1 3 (by decide)]
    | none =>
      dsimp only
      rw [e1 0 (by decide), e1 4 (by decide)]
      by_cases h0 : v (101 + 5 * t + 0) = 0
      · rw [if_pos h0, if_pos h0]; exact e1 w hw
      · rw [if_neg h0, if_neg h0, upd2c hw, e1 1 (by decide), e1 2 (by decide), e1 3 (by decide)]
  unfold Xr trF gvV
  cases hg : gvN (dsV v 6) (tkV v 6) (kV v) t with
  | some c =>
    have hck : c < k := by rw [hk]; exact gvN_lt hg
    dsimp only
    rw [m2, m3, (hp c hck).1, (hp c hck).2, upd5c hw]
  | none => exact hm
theorem fr_cnt {T : mS} {b k tk : Nat} {as : Nat → Option Nat} {v : Nat → Int32} (hx : frX T b as tk k v) : (tfS T b as tk k).1 b 3 = v 131 + 1 ∧ (tfS T b as tk k).1 b 4 = dnV v 6 ∧ (tfS T b as tk k).1 b 5 = upV v 6 := by
  obtain ⟨hv, hb, hk, htk, has, hp⟩ := hx
  obtain ⟨c1, c2, c3⟩ := tfS_b (S := T) (b := b) (k := k) (tk := tk) (as := as) hb
  have c : ∀ w, 3 ≤ w → w < 6 → T.1 b w = v (128 + w) := fun w h3 h6 => by rw [← hv, vw_cnt h3 h6]
  refine ⟨?_, ?_, ?_⟩
  · rw [c1, c 3 (by decide) (by decide)]
  · rw [c2, ds_v (Nat.le_refl 6), hv, hk, htk]
    have key : ∀ t, dnX (mupd T b 3 (T.1 b 3 + 1)) b (dsV v 6) (tkV v 6) (kV v) t = dnV v t := by
      intro t
      induction t with
      | zero =>
        show (mupd T b 3 (T.1 b 3 + 1)).1 b 4 = v 132
        rw [mupd_sn (by decide), c 4 (by decide) (by decide)]
      | succ t ih =>
        unfold dnX dnV gvV
        rw [ih]
    exact key 6
  · rw [c3]
    have key : ∀ t, t ≤ 6 → upU (mupd T b 3 (T.1 b 3 + 1)) b as t = upV v t := by
      intro t
      induction t with
      | zero =>
        intro _
        show (mupd T b 3 (T.1 b 3 + 1)).1 b 5 = v 133
        rw [mupd_sn (by decide), c 5 (by decide) (by decide)]
      | succ t ih =>
        intro ht
        have e1 : ∀ w, w < 5 → T.1 (b + 6 + t) w = v (101 + 5 * t + w) := fun w hw => by rw [← hv, vw_trk (by omega) hw]
        have e2 : T.1 (b + 4) 4 = v 100 := by
          rw [← hv]
          exact (vw_set (q := 4) (by decide)).symm
        unfold upU upV
        rw [ih (by omega), has t (by omega), mupd_n (by omega), mupd_n (by omega), e1 0 (by decide), e1 4 (by decide), e2]
    exact key 6 (Nat.le_refl 6)
theorem frV_hi {v : Nat → Int32} {j : Nat} (h : 134 ≤ j) : frV v j = 0 := by
  unfold frV
  rw [if_neg (by omega), if_neg (by omega), if_neg (by omega), if_neg (by omega), if_neg (by omega)]
theorem fr_v {T : mS} {b k tk : Nat} {as : Nat → Option Nat} {v : Nat → Int32} (hx : frX T b as tk k v) : vw (tfS T b as tk k) b = frV v := by
  have hb := hx.2.1
  obtain ⟨c1, c2, c3⟩ := fr_cnt hx
  have lo : ∀ q, q ≠ b → (q < b + 6 ∨ b + 12 ≤ q) → (tfS T b as tk k).1 q = T.1 q := fun q h1 h2 => tfS_lo h1 h2
  refine vw_ext (fun j hj => ?_) (fun j hj => ?_) (fun j hj => ?_) (fun t ht w hw => ?_) (fun w h3 h6 => ?_) (fun j hj => frV_hi hj)
  · rw [lo _ (by omega) (by omega), frV_lo (by omega), ← hx.1, vw_raw hj]
  · rw [lo _ (by omega) (by omega), frV_lo (by omega), ← hx.1, vw_bas hj]
  · rw [lo _ (by omega) (by omega), frV_lo (by omega), ← hx.1, vw_set hj]
  · rw [fr_row hx ht hw, frV_trk ht hw]
  · rcases (by omega : w = 3 ∨ w = 4 ∨ w = 5) with e | e | e
    · rw [e, c1]; exact frV_131.symm
    · rw [e, c2]; exact frV_132.symm
    · rw [e, c3]; exact frV_133.symm
theorem frX_of {T : mS} {b k : Nat} {v : Nat → Int32} (hx : mtX T b k v) (hb : b + 12 < 99) (hv : vw T b = v) : frX (mfS T b k) b (asA (mfB T b k) k) (tkA (mfB T b k) k 6) k v := by
  have h9 : ∀ q, q < 109 → (mfS T b k).1 q = T.1 q := fun q hq => mfS_n (Or.inl hq)
  refine ⟨?_, hb, hx.1, (mt_tk hx 6 (Nat.le_refl 6)).1, fun t ht => mt_as hx ht, fun c hc => ?_⟩
  · rw [← hv]
    exact vw_rows fun q _ h2 => h9 q (by omega)
  · rw [h9 _ (by decide), h9 _ (by decide)]
    exact hx.2.2.2.2.2.1 c hc
theorem sc_v0 {T : mS} {b k : Nat} {v : Nat → Int32} (hx : mtX T b k v) (hb : b + 12 < 99) (hv : vw T b = v) : vw (tfS (mfS T b k) b (asA (mfB T b k) k) (tkA (mfB T b k) k 6) k) b = frV v := fr_v (frX_of hx hb hv)
theorem ctP_vw {S : mS} {b k : Nat} (hb : b + 12 < 99) : vw (ctP S b k).1 b = vw S b := vw_rows fun q _ h2 => ctP_n (Or.inl (by omega))
theorem sc_v {S : mS} {b : Nat} (hb : b + 12 < 99) (hz : ∀ s, s < 64 → S.1 125 s = 0) : vw (scP S b 48) b = frV (vw S b) := by
  unfold scP mtP mtB
  exact sc_v0 (mtX_of (by omega) hz) hb (ctP_vw hb)

