/-! calls about the contacts -/
theorem fcT_2 {S : mS} : ∀ i, (fcT S i).2 = S.2
  | 0 => rfl
  | i + 1 => by
    have hT : fcT S (i + 1) = if pkM S i 48 then layS (fcT S i) i (fcN S i) else fcT S i := rfl
    rw [hT]
    by_cases h : pkM S i 48 = true
    · rw [if_pos h]
      exact fcT_2 i
    · rw [if_neg h]
      exact fcT_2 i
theorem fdS_2 : ∀ {m : Nat} {S : mS}, (fdS m S).2 = S.2
  | 0, _ => rfl
  | k + 1, S => by
    show (if k + 1 ≤ 6 then S else fdS k (drpS S k)).2 = S.2
    by_cases h : k + 1 ≤ 6
    · rw [if_pos h]
    · rw [if_neg h]
      exact fdS_2
theorem fcE_2 {B : mS} {x : Int32} : (fcE (frD (mupd B 130 0 x))).2 = B.2 := fdS_2.trans (fcT_2 48)
section LCC
variable {S S1 : mS} {h k : Nat} {x y v r1 : Int32}
theorem lc_contacts (hI : INV S S h k) (h1 : pC_contacts S h k x y v r1 S1) : RLs S S1 ∧ ∀ r2 S2, pR_contacts S1 h k x y v r2 S2 → LPok S2 r1 r2 := by
  obtain ⟨e, hr⟩ := h1
  have hR : RLs S S1 := fun q hq => by rw [e]; exact ctP_n (by omega)
  have hCW : CW S S1 := by rw [e]; exact ctP_CW
  refine ⟨hR, fun r2 S2 h2 => ?_⟩
  obtain ⟨rfl, hr2⟩ := h2
  have hE : EQ S 1 (mupd S1 130 0 0) := EQ_cg (INV_EQ hI) (fun q _ _ => rfl) ((mupd_n (by decide)).trans (hR 131 (by decide)))
  refine LP_look hI hCW hR fcE_RW fcE_2 (fun q hq => fcE_lo hq) (hr.trans (Eq.trans ?_ hr2.symm))
  rw [ref_ct.1, (cls_ct (by decide) hE).1]
theorem hoC_q {T : mS} {q p : Nat} {RR CC MM : Nat → Int32} {L : List Nat} (h : hoC T q RR CC MM L) (hp : p < 4) {j c : Nat} (hj : L[j]? = some c) : T.1 (q + p) j = if p = 0 then RR c else if p = 1 then CC c else if p = 2 then MM c else nI c := by
  obtain ⟨h1, h2, h3, h4⟩ := h j c hj
  match p, hp with
  | 0, _ => exact h1
  | 1, _ => exact h2
  | 2, _ => exact h3
  | 3, _ => exact h4
theorem lc_contact (hI : INV S S h k) (h1 : hlP (pC_contact S h k x y v) (pX_contact S h k x y v) cdIA r1 S1) : RLs S S1 ∧ ∀ r2 S2, pR_contact S1 h k x y v r2 S2 → LCok S2 r1 r2 := by
  rcases h1 with ⟨rfl, w, T, hp, rfl⟩ | ⟨E, hp, hc⟩
  · obtain ⟨hx, e, q, hq, ev, hw⟩ := hp
    have hR : RLs S (T.1, (T.2.1, w.toInt64)) := fun q hq => by
      show T.1 q = S.1 q
      rw [e]
      exact ctP_n (by omega)
    have hCW : CW S T := by rw [e]; exact ctP_CW
    refine ⟨hR, fun r2 S2 h2 => ?_⟩
    rcases h2 with ⟨hn, -⟩ | ⟨-, hn, -⟩ | ⟨-, rfl, q2, hq2, ev2, hr2⟩
    · exact absurd hn hx
    · exact absurd ⟨q, hq, ev⟩ ((inI_nex (N := 3) (by decide)).mp hn)
    · have e9 : q2 = q := nI_inj6 (by omega) (by omega) (ev2.symm.trans ev)
      subst e9
      have hE : EQ S 1 (mupd (T.1, (T.2.1, w.toInt64)) 130 0 0) := EQ_cg (INV_EQ hI) (fun q _ _ => rfl) ((mupd_n (by decide)).trans (hR 131 (by decide)))
      refine LC_look hI hCW hR fcE_RW fcE_2 (fun q hq => fcE_lo hq) fcE_0 (Eq.trans ?_ hr2.symm)
      obtain ⟨c1, c2⟩ := cls_ct (by decide) hE
      obtain ⟨d1, d2⟩ := ref_ct (B := mupd (T.1, (T.2.1, w.toInt64)) 130 0 0)
      have h6 := (ctL_eq (B := mupd (T.1, (T.2.1, w.toInt64)) 130 0 0)).2
      rw [d1]
      generalize ctL (mupd (T.1, (T.2.1, w.toInt64)) 130 0 0) = L at *
      rw [c1] at hw
      rcases hw with ⟨j, hj, ex, hw⟩ | ⟨hn, hw⟩
      · have hj2 : L[j]? = some L[j] := List.getElem?_eq_getElem hj
        refine hw.trans ?_
        rw [ex, if_neg (nI_ge hj (by omega)), nI_clamp (by omega), hoC_q c2 hq hj2, hoC_q d2 hq hj2]
      · refine hw.trans ?_
        rw [if_pos]
        refine Decidable.byContradiction fun hh => hn ?_
        obtain ⟨j, hj, ej⟩ := ix_yes (N := L.length) (by omega) hx hh
        exact ⟨j, hj, ej⟩
  · obtain ⟨rfl, hn⟩ := hp
    refine ⟨RLs.refl, fun r2 S2 h2 => ?_⟩
    rcases hc with ⟨hE, rfl⟩ | ⟨hE, rfl⟩
    · rcases hn with ⟨-, hn⟩ | ⟨hE2, -⟩
      · rcases h2 with ⟨-, rfl⟩ | ⟨hn2, -⟩ | ⟨hn2, -⟩
        · exact LC_thr hI (by decide)
        · exact absurd hn hn2
        · exact absurd hn hn2
      · exact absurd (hE.symm.trans hE2) (by decide)
    · rcases hn with ⟨hE2, -⟩ | ⟨-, hn1, hn⟩
      · exact absurd (hE2.symm.trans hE) (by decide)
      · rcases h2 with ⟨hn2, -⟩ | ⟨-, -, rfl⟩ | ⟨-, -, q2, hq2, ev2, -⟩
        · exact absurd hn2 hn1
        · exact LC_thr hI (by decide)
        · exact absurd ⟨q2, hq2, ev2⟩ hn
theorem lc_squaredDistance (hI : INV S S h k) (h1 : hlP (pC_squaredDistance S h k x y v) (pX_squaredDistance S h k x y v) cdI r1 S1) : RLs S S1 ∧ ∀ r2 S2, pR_squaredDistance S1 h k x y v r2 S2 → LCok S2 r1 r2 := by
  rcases h1 with ⟨rfl, w, T, hp, rfl⟩ | ⟨E, hp, hc⟩
  · obtain ⟨t, ht, ex, hv, e, hw⟩ := hp
    have hR : RLs S (T.1, (T.2.1, w.toInt64)) := fun q hq => by
      show T.1 q = S.1 q
      rw [e]
      exact ctP_n (by omega)
    have hCW : CW S T := by rw [e]; exact ctP_CW
    refine ⟨hR, fun r2 S2 h2 => ?_⟩
    rcases h2 with ⟨hn | hn, -⟩ | ⟨t2, ht2, ex2, -, rfl, hr2⟩
    · exact absurd ⟨t, ht, ex⟩ ((inI_nex (N := 5) (by decide)).mp hn)
    · exact absurd hn hv
    · have e9 : t2 = t := nI_inj6 (by omega) (by omega) (ex2.symm.trans ex)
      subst e9
      have hE : EQ S 1 (mupd (T.1, (T.2.1, w.toInt64)) 130 0 0) := EQ_cg (INV_EQ hI) (fun q _ _ => rfl) ((mupd_n (by decide)).trans (hR 131 (by decide)))
      refine LC_look hI hCW hR fcE_RW fcE_2 (fun q hq => fcE_lo hq) fcE_0 (Eq.trans ?_ hr2.symm)
      obtain ⟨c1, c2⟩ := cls_ct (by decide) hE
      obtain ⟨d1, d2⟩ := ref_ct (B := mupd (T.1, (T.2.1, w.toInt64)) 130 0 0)
      have h6 := (ctL_eq (B := mupd (T.1, (T.2.1, w.toInt64)) 130 0 0)).2
      have e131 : (fcE (frD (mupd (T.1, (T.2.1, w.toInt64)) 130 0 0))).1 131 = S.1 131 := (fcE_n (by omega)).trans ((frD_n (by omega)).trans ((mupd_n (by decide)).trans (hR 131 (by decide))))
      have ed : dwR (T.1, (T.2.1, w.toInt64)) t2 = dwR S t2 := by
        unfold dwR ofR
        rw [show T.1 131 = S.1 131 from hR 131 (by decide)]
      rw [d1, ed]
      have hd := dwR_0 hI ht
      generalize ctL (mupd (T.1, (T.2.1, w.toInt64)) 130 0 0) = L at *
      rw [c1] at hw
      have hlt : ∀ j, j < L.length → v = nI j → v < nI L.length := fun j hj e => by rw [e]; exact nI_lt hj (by omega)
      rcases hw with ⟨hn, hw⟩ | ⟨hn, j, hj, ev, hw⟩
      · refine hw.trans ?_
        rw [if_neg]
        intro hh
        rcases hn with hn | hn
        · exact hd.mp hn hh.1
        · obtain ⟨j, hj, ej⟩ := ix_yes (N := L.length) (by omega) hv (Int32.not_le.mpr hh.2)
          exact hn ⟨j, hj, ej⟩
      · have hj2 : L[j]? = some L[j] := List.getElem?_eq_getElem hj
        have hd2 : dwR S t2 = true := Decidable.byContradiction fun hh => hn (hd.mpr hh)
        refine hw.trans ?_
        rw [if_pos ⟨hd2, hlt j hj ev⟩, ev, nI_clamp (by omega)]
        unfold sqR ofR
        rw [e131, INV_trk hI ht (show 1 < 5 by decide), INV_trk hI ht (show 2 < 5 by decide)]
        have q1 := hoC_q c2 (p := 0) (by decide) hj2
        have q2 := hoC_q c2 (p := 1) (by decide) hj2
        have q3 := hoC_q d2 (p := 0) (by decide) hj2
        have q4 := hoC_q d2 (p := 1) (by decide) hj2
        rw [show (105 : Nat) + 0 = 105 from rfl] at q1
        rw [show (105 : Nat) + 1 = 106 from rfl] at q2
        rw [show (136 : Nat) + 0 = 136 from rfl] at q3
        rw [show (136 : Nat) + 1 = 137 from rfl] at q4
        rw [q1, q2, q3, q4]
  · obtain ⟨rfl, rfl, hn⟩ := hp
    obtain ⟨-, rfl⟩ := hc
    refine ⟨RLs.refl, fun r2 S2 h2 => ?_⟩
    rcases h2 with ⟨-, rfl⟩ | ⟨t2, ht2, ex2, hv2, -⟩
    · exact LC_thr hI (by decide)
    · rcases hn with hn | hn
      · exact absurd ⟨t2, ht2, ex2⟩ hn
      · exact absurd hn hv2
end LCC

