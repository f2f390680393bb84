/-! calls about the matching -/
theorem R131 {B : mS} : (fcE (frD B)).1 131 = B.1 131 := (fcE_n (by omega)).trans (frD_n (by omega))
theorem dwB {A B : mS} {b t : Nat} (hI : EQ A b B) (ht : t < 6) : (dwR (fcE (frD B)) t = false → A.1 (b + 6 + t) 0 = 0) ∧ (dwR (fcE (frD B)) t = true → A.1 (b + 6 + t) 0 = 1) := by
  have e := EQ_trk hI ht (show 0 < 5 by decide)
  rw [e]
  unfold dwR ofR
  rw [R131]
  rcases (hI.2.2.2.2.2.2.2 t ht).1 with h | h
  · rw [Nat.add_zero, h]
    exact ⟨fun _ => rfl, fun h2 => (by cases h2)⟩
  · rw [Nat.add_zero, h]
    exact ⟨fun h2 => (by cases h2), fun _ => rfl⟩
theorem fqS_117 {S : mS} {b k t u i : Nat} {lim : Int32} : (fqS S b k lim t u i).1 117 = (fun j => if j < u then ncS S b lim j else S.1 117 j) := by
  unfold fqS
  simp
theorem mt_ctx {A B : mS} {b : Nat} (hb : b + 12 < 99) (hI : EQ A b B) (hz : ∀ s, s < 64 → A.1 125 s = 0) : ∃ g, MTx (mfA (ctP A b 48).1 b (ctL B).length) (fcE (frD B)) (fmK (fcE (frD B))) (ctL B).length g := by
  obtain ⟨v, v0, v1, ev⟩ := hI.2.2.2.2.2.1
  obtain ⟨c1, c2⟩ := cls_ct hb hI
  obtain ⟨d1, d2⟩ := ref_ct (B := B)
  have hk := (ctL_eq (B := B)).2
  have rlo : ∀ q, q < 99 → (ctP A b 48).1.1 q = A.1 q := fun q hq => ctP_n (by omega)
  have elim : (ctP A b 48).1.1 (b + 4) 3 * (ctP A b 48).1.1 (b + 4) 3 = nI (v * v) := by
    rw [rlo _ (by omega), EQ_set hI (by decide), show 96 + 3 = 99 from rfl, ev, pk_mul]
  have r117 : ∀ t, t < 6 → (mfA (ctP A b 48).1 b (ctL B).length).1 117 t = if A.1 (b + 6 + t) 0 = 0 then 0 else nI (v * v) := fun t ht => by
    unfold mfA
    rw [elim]
    rw [fqS_117]
    refine (if_pos ht).trans ?_
    unfold ncS
    rw [mupd_n (by omega), rlo _ (by omega)]
  have r111 : ∀ t, t < 6 → ∀ c, c < (ctL B).length → (mfA (ctP A b 48).1 b (ctL B).length).1 (111 + t) c = pcS (ctP A b 48).1 b (nI (v * v)) t c := fun t ht c hc => by
    unfold mfA
    rw [elim, fqS_p ht]
    show (if (t < 6 ∧ c < (ctL B).length) ∨ _ then pcS (mupd (ctP A b 48).1 109 5 (nI (ctL B).length)) b (nI (v * v)) t c else _) = _
    rw [if_pos (Or.inl ⟨ht, hc⟩)]
    unfold pcS wayS
    rw [mupd_n (by omega), mupd_n (by decide), mupd_n (by decide)]
  refine ⟨v * v, hk, d1, Nat.mul_le_mul (show v ≤ 1000 by omega) (show v ≤ 1000 by omega), ?_, fun s hs => ?_, fun s hs => ?_, fun i hi => kR_eq hi, fun t ht hw => ?_, fun t ht hw => ?_⟩
  · unfold gtR
    rw [R131, ev, pk_mul]
  · unfold mfA
    rw [fqS_n (by omega), mupd_n (by decide), show (ctP A b 48).1.1 125 = A.1 125 from ctP_n (by omega)]
    exact hz s hs
  · unfold fmK
    have := kR_hi (S := fcE (frD B)) (K := zf ((fcE (frD B)).1 140) 384 64) 384 0 (384 + s) (by omega) (by omega)
    rw [Nat.zero_add] at this
    rw [this]
    exact if_pos (by omega)
  · have h0 := (dwB hI ht).1 hw
    refine ⟨by rw [r117 t ht, if_pos h0], fun c hc => ?_⟩
    rw [r111 t ht c hc]
    unfold pcS
    rw [rlo _ (by omega), if_pos h0]
  · have h1 := (dwB hI ht).2 hw
    have hn : ¬ A.1 (b + 6 + t) 0 = 0 := by rw [h1]; decide
    refine ⟨by rw [r117 t ht, if_neg hn], fun c hc => ?_⟩
    have hj : (ctL B)[c]? = some (ctL B)[c] := List.getElem?_eq_getElem hc
    generalize (ctL B)[c] = p at hj
    obtain ⟨m1, m2⟩ := ctL_mem (List.mem_of_getElem? hj)
    obtain ⟨⟨x1, x2, x3⟩, ⟨y1, y2, y3⟩⟩ := rr_nI (rgE hI) m1 m2
    have q1 := (c2 c p hj).1
    have q2 := (c2 c p hj).2.1
    have q3 := (d2 c p hj).1
    have q4 := (d2 c p hj).2.1
    obtain ⟨-, ⟨a1, a2, a3⟩, ⟨b1, b2, b3⟩, -⟩ := hI.2.2.2.2.2.2.2 t ht
    have es : sqR (fcE (frD B)) t c = (nI a1 - nI x1) * (nI a1 - nI x1) + (nI b1 - nI y1) * (nI b1 - nI y1) := by
      unfold sqR ofR
      rw [R131, q3, show (137 : Nat) = 136 + 1 from rfl, q4, a3, b3, x3, y3]
    obtain ⟨n1, l1, e1⟩ := nI_sq a2 x2
    obtain ⟨n2, l2, e2⟩ := nI_sq b2 y2
    rw [r111 t ht c hc]
    have ew : wayS (ctP A b 48).1 b t c = sqR (fcE (frD B)) t c := by
      unfold wayS
      rw [es, rlo _ (by omega), EQ_trk hI ht (show 1 < 5 by decide), EQ_trk hI ht (show 2 < 5 by decide), q1, show (106 : Nat) = 105 + 1 from rfl, q2, a3, b3, x3, y3]
    refine ⟨⟨n1 + n2, by omega, by rw [es, e1, e2, nI_add]⟩, ?_⟩
    unfold pcS
    rw [rlo _ (by omega), if_neg hn, ew]
theorem mfB_t {A : mS} {b k t : Nat} (ht : t ≤ 6) : (mfB A b k).1 (119 + t) = lsR (mfA A b k) k (6 - t) := by
  unfold mfB
  show (if 119 ≤ 119 + t ∧ 119 + t ≤ 124 then (if 125 - (119 + t) ≤ 6 then lsR (mfA A b k) k (125 - (119 + t)) else _) else (mfA A b k).1 (119 + t)) = _
  by_cases h : t = 6
  · subst h
    rw [if_neg (by omega)]
    rfl
  · rw [if_pos (by omega), if_pos (by omega), show 125 - (119 + t) = 6 - t by omega]
theorem mfB_p {A : mS} {b k t : Nat} (ht : t < 6) : (mfB A b k).1 (111 + t) = (mfA A b k).1 (111 + t) := by
  unfold mfB
  exact gqS_n (by omega)
theorem asM_at {S : mS} {K : Nat → Int32} {t : Nat} : ∀ n, t < n → (asM S K n).1 t = if mtQ S K t (asM S K t).2 then nI (ctR S K t (asM S K t).2) else -1
  | 0, h => absurd h (Nat.not_lt_zero t)
  | n + 1, h => by
    show upd (asM S K n).1 n (if mtQ S K n (asM S K n).2 then nI (ctR S K n (asM S K n).2) else -1) t = _
    by_cases e : t = n
    · rw [e, pk_us]
    · rw [pk_un e]
      exact asM_at n (by omega)
theorem mt_both {A B : mS} {b : Nat} (hb : b + 12 < 99) (hI : EQ A b B) (hz : ∀ s, s < 64 → A.1 125 s = 0) : (∀ t, t < 6 → asA (mtB A b 48) (ctP A b 48).2 t = if mtQ (fcE (frD B)) (fmK (fcE (frD B))) t (asM (fcE (frD B)) (fmK (fcE (frD B))) t).2 then some (ctR (fcE (frD B)) (fmK (fcE (frD B))) t (asM (fcE (frD B)) (fmK (fcE (frD B))) t).2) else none) ∧ tkA (mtB A b 48) (ctP A b 48).2 6 = (asM (fcE (frD B)) (fmK (fcE (frD B))) 6).2 ∧ tkA (mtB A b 48) (ctP A b 48).2 6 < 2 ^ (ctL B).length ∧ (mtP A b 48).1 119 0 = fmK (fcE (frD B)) 0 := by
  obtain ⟨g, hx⟩ := mt_ctx hb hI hz
  have c1 := (cls_ct hb hI).1
  unfold mtP mtB
  rw [c1]
  have h1 : ∀ t, t < 6 → (mfB (ctP A b 48).1 b (ctL B).length).1 (111 + t) = (mfA (ctP A b 48).1 b (ctL B).length).1 (111 + t) := fun t ht => mfB_p ht
  have h2 : ∀ t, t ≤ 6 → (mfB (ctP A b 48).1 b (ctL B).length).1 (119 + t) = lsR (mfA (ctP A b 48).1 b (ctL B).length) (ctL B).length (6 - t) := fun t ht => mfB_t ht
  refine ⟨fun t ht => mt_asA hx h1 h2 ht, (mt_as hx h1 h2 6 (Nat.le_refl 6)).1, (mt_as hx h1 h2 6 (Nat.le_refl 6)).2, ?_⟩
  unfold mfS asgT
  rw [mset_n (by decide), mupd_n (by decide)]
  have e := h2 0 (by omega)
  rw [show (119 : Nat) + 0 = 119 from rfl] at e
  rw [e]
  exact (mt_tab hx 6 (Nat.le_refl 6) 0 (Nat.pow_pos (by decide))).1
theorem mt_126 {A B : mS} {b t : Nat} (hb : b + 12 < 99) (hI : EQ A b B) (hz : ∀ s, s < 64 → A.1 125 s = 0) (ht : t < 6) : (mtP A b 48).1 126 t = (fmE (fcE (frD B))).1 141 t := by
  obtain ⟨g1, -, -, -⟩ := mt_both hb hI hz
  have e1 : (mtP A b 48).1 126 t = oI (asA (mtB A b 48) (ctP A b 48).2 t) := by
    unfold mtP mtB mfS asgT
    rw [mset_s]
    exact if_pos ht
  have e2 : (fmE (fcE (frD B))).1 141 t = (asM (fcE (frD B)) (fmK (fcE (frD B))) 6).1 t := by
    unfold fmE
    rw [mset_s]
  rw [e1, e2, g1 t ht, asM_at 6 ht]
  cases mtQ (fcE (frD B)) (fmK (fcE (frD B))) t (asM (fcE (frD B)) (fmK (fcE (frD B))) t).2 <;> rfl
theorem fmEn {R : mS} {q : Nat} (h : q ≠ 140 ∧ q ≠ 141) : (fmE R).1 q = R.1 q := by
  unfold fmE
  rw [mset_n h.2, mset_n h.1]
theorem fmE_RW {B : mS} : RW B (fmE (fcE (frD (mupd B 130 0 0)))) := by
  obtain ⟨h1, h2, h3, h4⟩ := fcE_RW (B := B)
  exact ⟨(fmEn (by omega)).trans h1, (fmEn (by omega)).trans h2, (congrFun (fmEn (by omega)) 2).trans h3, (congrFun (fmEn (by omega)) 4).trans h4⟩
theorem fmE_lo {B : mS} {q : Nat} (hq : q < 130) : (fmE (fcE (frD (mupd B 130 0 0)))).1 q = B.1 q := (fmEn (by omega)).trans (fcE_lo hq)
theorem fmE_0 {B : mS} : (fmE (fcE (frD (mupd B 130 0 0)))).1 130 0 = 0 := (congrFun (fmEn (by omega)) 0).trans fcE_0
theorem mfS_out {A : mS} {b k q : Nat} (h : q < 109 ∨ q = 125 ∨ 126 < q) : (mfS A b k).1 q = A.1 q := by
  unfold mfS asgT
  rw [mset_n (by omega), mupd_n (by omega)]
  unfold mfB mfA
  rw [gqS_n (by omega), fqS_n (by omega), mupd_n (by omega)]
theorem mtP_CW {A : mS} {b k : Nat} : CW A (mtP A b k) := ⟨fun q h1 _ => by
    unfold mtP
    rw [mfS_out (by omega), ctP_n (by omega)], by
    unfold mtP
    rw [mfS_out (by omega), ctP_n (by omega)], by
    unfold mtP
    rw [mfS_out (by omega), ctP_n (by omega)], by
    exact (ctP_CW (A := A) (b := b) (k := k)).2.2.2⟩
section LCM
variable {S S1 : mS} {h k : Nat} {x y v r1 : Int32}
theorem INV_z {A B : mS} {h k : Nat} (hI : INV A B h k) : ∀ s, s < 64 → A.1 125 s = 0 := hI.2.2.2.2.2.2
theorem mtP_hi {A : mS} {b k q : Nat} (h : 126 < q) : (mtP A b k).1 q = A.1 q := by
  unfold mtP
  rw [mfS_out (by omega), ctP_n (by omega)]
theorem lc_match (hI : INV S S h k) (h1 : hlP (pC_match S h k x y v) (pX_match S h k x y v) cdI r1 S1) : RLs S S1 ∧ ∀ r2 S2, pR_match S1 h k x y v r2 S2 → LCok S2 r1 r2 := by
  rcases h1 with ⟨rfl, w, T, hp, rfl⟩ | ⟨E, hp, hc⟩
  · obtain ⟨t, ht, ex, e, hw⟩ := hp
    have hR : RLs S (T.1, (T.2.1, w.toInt64)) := fun q hq => by
      show T.1 q = S.1 q
      rw [e]
      exact mtP_hi (by omega)
    have hCW : CW S T := by rw [e]; exact mtP_CW
    refine ⟨hR, fun r2 S2 h2 => ?_⟩
    rcases h2 with ⟨hn, -⟩ | ⟨t2, ht2, ex2, rfl, hr2⟩
    · exact absurd ⟨t, ht, ex⟩ ((inI_nex (N := 5) (by decide)).mp hn)
    · have e9 : t2 = t := nI_inj6 (by omega) (by omega) (ex2.symm.trans ex)
      subst e9
      have hE : EQ S 1 (mupd (T.1, (T.2.1, w.toInt64)) 130 0 0) := EQ_cg (INV_EQ hI) (fun q _ _ => rfl) ((mupd_n (by decide)).trans (hR 131 (by decide)))
      refine LC_look hI hCW hR fmE_RW fcE_2 (fun q hq => fmE_lo hq) fmE_0 (hw.trans (Eq.trans ?_ hr2.symm))
      exact mt_126 (by decide) hE (INV_z hI) ht
  · obtain ⟨rfl, rfl, hn⟩ := hp
    obtain ⟨-, rfl⟩ := hc
    refine ⟨RLs.refl, fun r2 S2 h2 => ?_⟩
    rcases h2 with ⟨-, rfl⟩ | ⟨t2, ht2, ex2, -, -⟩
    · exact LC_thr hI (by decide)
    · exact absurd ⟨t2, ht2, ex2⟩ hn
theorem lc_matchingCost (hI : INV S S h k) (h1 : pC_matchingCost S h k x y v r1 S1) : RLs S S1 ∧ ∀ r2 S2, pR_matchingCost S1 h k x y v r2 S2 → LPok S2 r1 r2 := by
  obtain ⟨e, hr⟩ := h1
  have hR : RLs S S1 := fun q hq => by rw [e]; exact mtP_hi (by omega)
  have hCW : CW S S1 := by rw [e]; exact mtP_CW
  refine ⟨hR, fun r2 S2 h2 => ?_⟩
  obtain ⟨rfl, hr2⟩ := h2
  have hE : EQ S 1 (mupd S1 130 0 0) := EQ_cg (INV_EQ hI) (fun q _ _ => rfl) ((mupd_n (by decide)).trans (hR 131 (by decide)))
  refine LP_look hI hCW hR fmE_RW fcE_2 (fun q hq => fmE_lo hq) (hr.trans (Eq.trans ?_ hr2.symm))
  rw [(mt_both (by decide) hE (INV_z hI)).2.2.2]
  unfold fmE
  rw [mset_n (by decide), mset_s]
end LCM

