/-! sums around a cell -/
def nbI (i j D E : Nat) : Option Nat := if 1 ≤ i + D ∧ i + D ≤ 8 ∧ 1 ≤ j + E ∧ j + E ≤ 6 then some (6 * (i + D - 1) + (j + E - 1)) else none
def nbD : List (Nat × Nat) := [(0, 0), (0, 1), (0, 2), (1, 0), (1, 1), (1, 2), (2, 0), (2, 1), (2, 2)]
def nbL (c : Nat) : List Nat := nbD.filterMap (fun q => nbI (c / 6) (c % 6) q.1 q.2)
theorem nbL_lt48 : ∀ c, c < 48 → ∀ k, k ∈ nbL c → k < 48 := by decide +kernel
theorem nbL_lt {c k : Nat} (hc : c < 48) (hk : k ∈ nbL c) : k < 48 := nbL_lt48 c hc k hk
theorem nI_inj6 {a b : Nat} (ha : a ≤ 80) (hb : b ≤ 80) (h : nI a = nI b) : a = b := by
  have h1 := congrArg Int32.toNatClampNeg h
  rw [nI_clamp (by omega), nI_clamp (by omega)] at h1
  exact h1
theorem nbX : ∀ i, i < 8 → ∀ D, D < 3 → nI i + (nI D + -1) = if 1 ≤ i + D then nI (i + D - 1) else -1 := by decide +kernel
/-- at a neighbor: the place, or none -/
theorem saG_nb {g : Nat → Int32} {i j D E : Nat} {d e : Int32} (hi : i < 8) (hj : j < 6) (hD : D < 3) (hE : E < 3) (hd : d = nI D + -1) (he : e = nI E + -1) : saG g (nI i + d) (nI j + e) = (match nbI i j D E with | some k => g k | none => 0) ∧ (∀ k, nbI i j D E = some k → k < 48 ∧ nI i + d = nI (k / 6) ∧ nI j + e = nI (k % 6)) := by
  have h1 := nbX i hi D hD
  have h2 := nbX j (by omega) E hE
  rw [← hd] at h1
  rw [← he] at h2
  by_cases hc : 1 ≤ i + D ∧ i + D ≤ 8 ∧ 1 ≤ j + E ∧ j + E ≤ 6
  · have hn : nbI i j D E = some (6 * (i + D - 1) + (j + E - 1)) := if_pos hc
    rw [if_pos hc.1] at h1
    rw [if_pos hc.2.2.1] at h2
    rw [hn, h1, h2]
    refine ⟨saG_in (by omega) (by omega), fun k hk => ?_⟩
    cases hk
    exact ⟨by omega, congrArg nI (by omega), congrArg nI (by omega)⟩
  · have hn : nbI i j D E = none := if_neg hc
    rw [hn]
    refine ⟨saG_out fun ho => hc ?_, fun k hk => by cases hk⟩
    obtain ⟨⟨a, ha, ea⟩, b, hb, eb⟩ := ho
    rw [h1] at ea
    rw [h2] at eb
    have k1 : 1 ≤ i + D := Decidable.byContradiction fun hh => by
      rw [if_neg hh] at ea
      exact nI_nm1 (f := a) (by omega) ea.symm
    have k2 : 1 ≤ j + E := Decidable.byContradiction fun hh => by
      rw [if_neg hh] at eb
      exact nI_nm1 (f := b) (by omega) eb.symm
    rw [if_pos k1] at ea
    rw [if_pos k2] at eb
    have e1 := nI_inj6 (by omega) (by omega) ea
    have e2 := nI_inj6 (by omega) (by omega) eb
    omega
def sumL (h : Nat → Int32) (L : List Nat) : Int32 := L.foldl (fun a k => a + h k) 0
theorem fold_fm {α : Type} {f : α → Option Nat} {h : Nat → Int32} {t : α → Int32} : ∀ (l : List α), (∀ q, q ∈ l → t q = match f q with | some k => h k | none => 0) → ∀ a : Int32, l.foldl (fun a q => a + t q) a = (l.filterMap f).foldl (fun a k => a + h k) a
  | [], _, _ => rfl
  | q :: l, ht, a => by
    have h1 := ht q List.mem_cons_self
    rw [List.foldl_cons, fold_fm l (fun q hq => ht q (List.mem_cons_of_mem _ hq))]
    cases hf : f q with
    | none =>
      rw [hf] at h1
      rw [List.filterMap_cons_none hf, h1, Int32.add_zero]
    | some k =>
      rw [hf] at h1
      rw [List.filterMap_cons_some hf, List.foldl_cons, h1]
theorem sumL_cg {h h' : Nat → Int32} {L : List Nat} (e : ∀ k, k ∈ L → h k = h' k) : sumL h L = sumL h' L := by
  unfold sumL
  have key : ∀ (L : List Nat), (∀ k, k ∈ L → h k = h' k) → ∀ a : Int32, L.foldl (fun a k => a + h k) a = L.foldl (fun a k => a + h' k) a := by
    intro L
    induction L with
    | nil => intro _ _; rfl
    | cons k L ih =>
      intro e a
      rw [List.foldl_cons, List.foldl_cons, e k List.mem_cons_self, ih fun k hk => e k (List.mem_cons_of_mem _ hk)]
  exact key L e 0
noncomputable def nbT (g : Nat → Int32) (x y : Int32) (q : Nat × Nat) : Int32 := saG g (x + (nI q.1 + -1)) (y + (nI q.2 + -1))
theorem nbK : nI 0 + -1 = (-1 : Int32) ∧ nI 1 + -1 = (0 : Int32) ∧ nI 2 + -1 = (1 : Int32) := by decide
theorem nbD_lt {q : Nat × Nat} (hq : q ∈ nbD) : q.1 < 3 ∧ q.2 < 3 := by
  have : ∀ q ∈ nbD, q.1 < 3 ∧ q.2 < 3 := by decide
  exact this q hq
theorem mas9_L {g : Nat → Int32} {c : Nat} (hc : c < 48) : mas9 g (nI (c / 6)) (nI (c % 6)) = sumL g (nbL c) := by
  have e : mas9 g (nI (c / 6)) (nI (c % 6)) = nbD.foldl (fun a q => a + nbT g (nI (c / 6)) (nI (c % 6)) q) 0 := by
    unfold mas9 ms3 nbD nbT
    simp only [List.foldl_cons, List.foldl_nil, nbK.1, nbK.2.1, nbK.2.2]
  rw [e]
  refine fold_fm nbD (fun q hq => ?_) 0
  exact (saG_nb (g := g) (by omega) (by omega) (nbD_lt hq).1 (nbD_lt hq).2 rfl rfl).1
theorem wr9_L {g : Nat → Int32} {c : Nat} (hc : c < 48) : wr9 g (nI (c / 6)) (nI (c % 6)) = sumL (fun k => g k * nI (k / 6)) (nbL c) := by
  have e : wr9 g (nI (c / 6)) (nI (c % 6)) = nbD.foldl (fun a q => a + nbT g (nI (c / 6)) (nI (c % 6)) q * (nI (c / 6) + (nI q.1 + -1))) 0 := by
    unfold wr9 wr3 nbD nbT
    simp only [List.foldl_cons, List.foldl_nil, nbK.1, nbK.2.1, nbK.2.2]
  rw [e]
  refine fold_fm nbD (fun q hq => ?_) 0
  obtain ⟨h1, h2⟩ := saG_nb (g := g) (i := c / 6) (j := c % 6) (by omega) (by omega) (nbD_lt hq).1 (nbD_lt hq).2 rfl rfl
  unfold nbT
  rw [h1]
  cases hn : nbI (c / 6) (c % 6) q.1 q.2 with
  | none => exact Int32.zero_mul
  | some k =>
    show g k * _ = g k * _
    rw [(h2 k hn).2.1]
theorem wc9_L {g : Nat → Int32} {c : Nat} (hc : c < 48) : wc9 g (nI (c / 6)) (nI (c % 6)) = sumL (fun k => g k * nI (k % 6)) (nbL c) := by
  have e : wc9 g (nI (c / 6)) (nI (c % 6)) = nbD.foldl (fun a q => a + nbT g (nI (c / 6)) (nI (c % 6)) q * (nI (c % 6) + (nI q.2 + -1))) 0 := by
    unfold wc9 wc3 nbD nbT
    simp only [List.foldl_cons, List.foldl_nil, nbK.1, nbK.2.1, nbK.2.2]
  rw [e]
  refine fold_fm nbD (fun q hq => ?_) 0
  obtain ⟨h1, h2⟩ := saG_nb (g := g) (i := c / 6) (j := c % 6) (by omega) (by omega) (nbD_lt hq).1 (nbD_lt hq).2 rfl rfl
  unfold nbT
  rw [h1]
  cases hn : nbI (c / 6) (c % 6) q.1 q.2 with
  | none => exact Int32.zero_mul
  | some k =>
    show g k * _ = g k * _
    rw [(h2 k hn).2.2]
/-! peaks -/
def pkT (g : Nat → Int32) (c k : Nat) : Bool := !(decide (g c < g k) || (decide (g k = g c) && decide (k < c)))
noncomputable def pkN (g : Nat → Int32) (c : Nat) (q : Nat × Nat) : Bool := pkOk g (g c) (nI (c / 6)) (nI (c % 6)) (nI q.1 + -1) (nI q.2 + -1)
theorem nbC : ∀ c, c < 48 → ∀ q, q ∈ nbD → ∀ k, nbI (c / 6) (c % 6) q.1 q.2 = some k → (6 * (nI q.1 + -1) + (nI q.2 + -1) < 0 ↔ k < c) := by decide +kernel
theorem pk9_L {g : Nat → Int32} {c : Nat} (hc : c < 48) (h0 : 0 < g c) : pk9 g (g c) (nI (c / 6)) (nI (c % 6)) = (nbL c).all (pkT g c) := by
  have e : pk9 g (g c) (nI (c / 6)) (nI (c % 6)) = nbD.all (pkN g c) := by
    unfold pk9 nbD pkN
    simp only [List.all_cons, List.all_nil, nbK.1, nbK.2.1, nbK.2.2, Bool.and_true]
  rw [e]
  have key : ∀ l : List (Nat × Nat), (∀ q, q ∈ l → q ∈ nbD) → l.all (pkN g c) = (l.filterMap (fun q => nbI (c / 6) (c % 6) q.1 q.2)).all (pkT g c) := by
    intro l
    induction l with
    | nil => intro _; rfl
    | cons q l ih =>
      intro hl
      have hq := hl q List.mem_cons_self
      obtain ⟨h1, h2⟩ := saG_nb (g := g) (i := c / 6) (j := c % 6) (by omega) (by omega) (nbD_lt hq).1 (nbD_lt hq).2 rfl rfl
      rw [List.all_cons, ih fun q hq => hl q (List.mem_cons_of_mem _ hq)]
      cases hn : nbI (c / 6) (c % 6) q.1 q.2 with
      | none =>
        rw [List.filterMap_cons_none (f := fun q : Nat × Nat => nbI (c / 6) (c % 6) q.1 q.2) hn]
        rw [hn] at h1
        have e1 : pkN g c q = true := by
          unfold pkN pkOk
          rw [h1]
          show (!(decide (g c < 0) || (decide ((0 : Int32) = g c) && _))) = true
          rw [decide_eq_false (fun h => Int32.lt_irrefl (Int32.lt_trans h h0)), decide_eq_false (fun h => by rw [← h] at h0; exact Int32.lt_irrefl h0)]
          rfl
        rw [e1, Bool.true_and]
      | some k =>
        rw [List.filterMap_cons_some (f := fun q : Nat × Nat => nbI (c / 6) (c % 6) q.1 q.2) hn, List.all_cons]
        rw [hn] at h1
        have e1 : pkN g c q = pkT g c k := by
          unfold pkN pkOk pkT
          rw [h1]
          show (!(decide (g c < g k) || (decide (g k = g c) && decide _))) = _
          rw [decide_eq_decide.mpr (nbC c hc q hq k hn)]
        rw [e1]
  exact key nbD fun _ h => h
theorem saG_cg {g g' : Nat → Int32} (e : ∀ j, j < 48 → g j = g' j) : saG g = saG g' := by
  funext x y
  by_cases h : onP x y
  · obtain ⟨⟨i, hi, rfl⟩, j, hj, rfl⟩ := h
    rw [saG_in hi hj, saG_in hi hj, e _ (by omega)]
  · rw [saG_out h, saG_out h]
theorem mas9_cg {g g' : Nat → Int32} (e : ∀ j, j < 48 → g j = g' j) : mas9 g = mas9 g' := by
  funext x y
  unfold mas9 ms3
  rw [saG_cg e]
theorem wr9_cg {g g' : Nat → Int32} (e : ∀ j, j < 48 → g j = g' j) : wr9 g = wr9 g' := by
  funext x y
  unfold wr9 wr3
  rw [saG_cg e]
theorem wc9_cg {g g' : Nat → Int32} (e : ∀ j, j < 48 → g j = g' j) : wc9 g = wc9 g' := by
  funext x y
  unfold wc9 wc3
  rw [saG_cg e]
theorem pk9_cg {g g' : Nat → Int32} (e : ∀ j, j < 48 → g j = g' j) : pk9 g = pk9 g' := by
  funext o x y
  unfold pk9 pkOk
  rw [saG_cg e]
/-! contacts: the mass of a candidate, or 0 -/
noncomputable def cdV (v : Nat → Int32) (k : Nat) : Int32 := if rkV v k = 0 ∧ pk9 (sgV v) (sgV v k) (nI (k / 6)) (nI (k % 6)) = true then mas9 (sgV v) (nI (k / 6)) (nI (k % 6)) else 0
noncomputable def ctL (v : Nat → Int32) : Nat → List Nat
  | 0 => []
  | i + 1 => if 0 < cdV v i ∧ hvr (cdV v) i 48 < 6 ∧ (ctL v i).length < 6 then ctL v i ++ [i] else ctL v i
/-- the contacts' peaks -/
noncomputable def ctV (v : Nat → Int32) : List Nat := ctL v 48
noncomputable def rwV (v : Nat → Int32) (c : Nat) : Int32 := 100 * wr9 (sgV v) (nI (c / 6)) (nI (c % 6)) / cdV v c
noncomputable def clV (v : Nat → Int32) (c : Nat) : Int32 := 100 * wc9 (sgV v) (nI (c / 6)) (nI (c % 6)) / cdV v c
noncomputable def prV (v : Nat → Int32) (q c : Nat) : Int32 := if q = 0 then rwV v c else if q = 1 then clV v c else if q = 2 then cdV v c else nI c
theorem prV_0 {v : Nat → Int32} {c : Nat} : prV v 0 c = rwV v c := by
  unfold prV
  exact if_pos rfl
theorem prV_1 {v : Nat → Int32} {c : Nat} : prV v 1 c = clV v c := by
  unfold prV
  rw [if_neg (by decide), if_pos rfl]
theorem prV_2 {v : Nat → Int32} {c : Nat} : prV v 2 c = cdV v c := by
  unfold prV
  rw [if_neg (by decide), if_neg (by decide), if_pos rfl]
theorem prV_3 {v : Nat → Int32} {c : Nat} : prV v 3 c = nI c := by
  unfold prV
  rw [if_neg (by decide), if_neg (by decide), if_neg (by decide)]
theorem regSn {A : mS} {b k q : Nat} (h : q < 99 ∨ 102 < q) : (regS A b k).1 q = A.1 q := regS_n (by omega)
theorem regS_sg {A : mS} {b : Nat} (hb : b + 4 < 99) : sgS (regS A b 48) b = sgS A b := by
  funext j
  unfold sgS
  rw [regSn (by omega), regSn (by omega)]
theorem can_v {S : mS} {b k : Nat} (hb : b + 4 < 99) (hk : k < 48) : canI (regS S b 48) b (flS S b 48) 48 k = cdV (vw S b) k := by
  have e1 : canI (regS S b 48) b (flS S b 48) 48 k = canS (regS S b 48) b (flS S b 48) k := if_pos hk
  rw [e1]
  unfold canS cdV
  rw [rk_v hk, regS_sg hb, pk9_cg (g := sgS S b) (g' := sgV (vw S b)) fun j hj => sg_v hj, mas9_cg (g := sgS S b) (g' := sgV (vw S b)) fun j hj => sg_v hj, sg_v hk]
theorem addS_5 {S : mS} {b c k j : Nat} : (addS S b c k).1 105 j = (if j = k then 100 * wr9 (sgS S b) (nI (c / 6)) (nI (c % 6)) / S.1 104 c else S.1 105 j) ∧ (addS S b c k).1 106 j = (if j = k then 100 * wc9 (sgS S b) (nI (c / 6)) (nI (c % 6)) / S.1 104 c else S.1 106 j) ∧ (addS S b c k).1 107 j = (if j = k then S.1 104 c else S.1 107 j) ∧ (addS S b c k).1 108 j = (if j = k then nI c else S.1 108 j) := by
  unfold addS
  refine ⟨?_, ?_, ?_, ?_⟩
  · rw [mupd_n (by decide), mupd_n (by decide), mupd_n (by decide), mupd_n (by decide)]
    by_cases h : j = k
    · rw [h, mupd_ss, if_pos rfl]
    · rw [mupd_sn h, if_neg h]
  · rw [mupd_n (by decide), mupd_n (by decide), mupd_n (by decide)]
    by_cases h : j = k
    · rw [h, mupd_ss, if_pos rfl]
    · rw [mupd_sn h, if_neg h, mupd_n (by decide)]
  · rw [mupd_n (by decide), mupd_n (by decide)]
    by_cases h : j = k
    · rw [h, mupd_ss, if_pos rfl]
    · rw [mupd_sn h, if_neg h, mupd_n (by decide), mupd_n (by decide)]
  · rw [mupd_n (by decide)]
    by_cases h : j = k
    · rw [h, mupd_ss, if_pos rfl]
    · rw [mupd_sn h, if_neg h, mupd_n (by decide), mupd_n (by decide), mupd_n (by decide)]
theorem cos_v {S T : mS} {b : Nat} {v : Nat → Int32} (h4 : ∀ k, k < 48 → T.1 104 k = cdV v k) (hs : ∀ j, j < 48 → sgS T b j = sgV v j) (hb : b + 4 < 99) : ∀ i, i ≤ 48 → (cosU T b i).2 = (ctL v i).length ∧ ∀ j c, (ctL v i)[j]? = some c → c < i ∧ 0 < cdV v c ∧ (cosU T b i).1.1 105 j = rwV v c ∧ (cosU T b i).1.1 106 j = clV v c ∧ (cosU T b i).1.1 107 j = cdV v c ∧ (cosU T b i).1.1 108 j = nI c
  | 0, _ => ⟨rfl, fun j c h => by cases h⟩
  | i + 1, hi => by
    obtain ⟨ih1, ih2⟩ := cos_v (S := S) h4 hs hb i (by omega)
    have hh : hvr (T.1 104) i 48 = hvr (cdV v) i 48 := cnt_cg 48 fun o ho => by
      show decide (T.1 104 i < T.1 104 o ∨ (T.1 104 o = T.1 104 i ∧ o < i)) = decide (cdV v i < cdV v o ∨ (cdV v o = cdV v i ∧ o < i))
      rw [h4 i (by omega), h4 o ho]
    unfold cosU ctL
    rw [hh, h4 i (by omega), ih1]
    by_cases hc : 0 < cdV v i ∧ hvr (cdV v) i 48 < 6 ∧ (ctL v i).length < 6
    · rw [if_pos hc, if_pos hc]
      refine ⟨by rw [List.length_append]; rfl, fun j c hj => ?_⟩
      have e104 : (cosU T b i).1.1 104 = T.1 104 := cosU_n (by decide)
      have esg : sgS (cosU T b i).1 b = sgS T b := by
        funext j
        unfold sgS
        rw [cosU_n (by omega), cosU_n (by omega)]
      obtain ⟨a1, a2, a3, a4⟩ := addS_5 (S := (cosU T b i).1) (b := b) (c := i) (k := (ctL v i).length) (j := j)
      rw [a1, a2, a3, a4, e104, esg, h4 i (by omega), wr9_cg hs, wc9_cg hs]
      by_cases hj2 : j < (ctL v i).length
      · rw [List.getElem?_append_left hj2] at hj
        obtain ⟨b1, b0, b2⟩ := ih2 j c hj
        rw [if_neg (by omega), if_neg (by omega), if_neg (by omega), if_neg (by omega)]
        exact ⟨by omega, b0, b2⟩
      · rw [List.getElem?_append_right (by omega)] at hj
        have hj3 : j - (ctL v i).length = 0 := by
          have := (List.getElem?_eq_some_iff.mp hj).1
          simp at this
          omega
        rw [hj3] at hj
        have hc2 : i = c := by simpa using hj
        subst hc2
        have hj4 : j = (ctL v i).length := by omega
        rw [if_pos hj4, if_pos hj4, if_pos hj4, if_pos hj4]
        exact ⟨by omega, hc.1, rfl, rfl, rfl, rfl⟩
    · rw [if_neg hc, if_neg hc]
      refine ⟨ih1, fun j c hj => ?_⟩
      obtain ⟨b1, b2⟩ := ih2 j c hj
      exact ⟨by omega, b2⟩
theorem ctP_cos {S : mS} {b : Nat} : ctP S b 48 = cosU (mset (regS S b 48) 104 (canI (regS S b 48) b (flS S b 48) 48)) b 48 := by
  unfold ctP
  rfl
theorem ct_h {S : mS} {b N : Nat} (hN : N ≤ 48) (hb : b + 4 < 99) : (cosU (mset (regS S b 48) 104 (canI (regS S b 48) b (flS S b 48) 48)) b N).2 = (ctL (vw S b) N).length ∧ ∀ j c, (ctL (vw S b) N)[j]? = some c → c < N ∧ 0 < cdV (vw S b) c ∧ (cosU (mset (regS S b 48) 104 (canI (regS S b 48) b (flS S b 48) 48)) b N).1.1 105 j = rwV (vw S b) c ∧ (cosU (mset (regS S b 48) 104 (canI (regS S b 48) b (flS S b 48) 48)) b N).1.1 106 j = clV (vw S b) c ∧ (cosU (mset (regS S b 48) 104 (canI (regS S b 48) b (flS S b 48) 48)) b N).1.1 107 j = cdV (vw S b) c ∧ (cosU (mset (regS S b 48) 104 (canI (regS S b 48) b (flS S b 48) 48)) b N).1.1 108 j = nI c :=
  cos_v (S := S) (fun k hk => by rw [mset_s, can_v hb hk]) (fun j hj => by rw [sgS_set (by omega) (by omega), regS_sg hb, sg_v hj]) hb N hN
theorem ctV_eq {v : Nat → Int32} : ctV v = ctL v 48 := by
  unfold ctV
  rfl
theorem ct_t {P : mS × Nat} {C : List Nat} {v : Nat → Int32} {N : Nat} (h : P.2 = C.length ∧ ∀ j c, C[j]? = some c → c < N ∧ 0 < cdV v c ∧ P.1.1 105 j = rwV v c ∧ P.1.1 106 j = clV v c ∧ P.1.1 107 j = cdV v c ∧ P.1.1 108 j = nI c) : P.2 = C.length ∧ ∀ j c, C[j]? = some c → c < N ∧ 0 < cdV v c ∧ ∀ q, q < 4 → P.1.1 (105 + q) j = prV v q c := by
  refine ⟨h.1, fun j c hj => ?_⟩
  obtain ⟨a1, a0, a2, a3, a4, a5⟩ := h.2 j c hj
  refine ⟨a1, a0, fun q hq => ?_⟩
  rcases (by omega : q = 0 ∨ q = 1 ∨ q = 2 ∨ q = 3) with e | e | e | e
  · rw [e, prV_0]; exact a2
  · rw [e, prV_1]; exact a3
  · rw [e, prV_2]; exact a4
  · rw [e, prV_3]; exact a5
theorem ct_v {S : mS} {b : Nat} (hb : b + 4 < 99) : (ctP S b 48).2 = (ctV (vw S b)).length ∧ ∀ j c, (ctV (vw S b))[j]? = some c → c < 48 ∧ 0 < cdV (vw S b) c ∧ ∀ q, q < 4 → (ctP S b 48).1.1 (105 + q) j = prV (vw S b) q c := by
  rw [ctP_cos, ctV_eq]
  exact ct_t (ct_h (Nat.le_refl 48) hb)
theorem ctL_srt {v : Nat → Int32} : ∀ i, (ctL v i).Pairwise (· < ·) ∧ ∀ c, c ∈ ctL v i → c < i ∧ 0 < cdV v c
  | 0 => ⟨List.Pairwise.nil, fun c h => by cases h⟩
  | i + 1 => by
    obtain ⟨ih1, ih2⟩ := ctL_srt (v := v) i
    unfold ctL
    by_cases hc : 0 < cdV v i ∧ hvr (cdV v) i 48 < 6 ∧ (ctL v i).length < 6
    · rw [if_pos hc]
      refine ⟨List.pairwise_append.mpr ⟨ih1, List.pairwise_singleton _ _, fun a ha b hb => ?_⟩, fun c hc2 => ?_⟩
      · rw [List.mem_singleton.mp hb]
        exact (ih2 a ha).1
      · rcases List.mem_append.mp hc2 with h | h
        · exact ⟨by have := (ih2 c h).1; omega, (ih2 c h).2⟩
        · rw [List.mem_singleton.mp h]
          exact ⟨by omega, hc.1⟩
    · rw [if_neg hc]
      exact ⟨ih1, fun c h => ⟨by have := (ih2 c h).1; omega, (ih2 c h).2⟩⟩
theorem ctV_len {v : Nat → Int32} : (ctV v).length ≤ 6 := by
  have key : ∀ i, (ctL v i).length ≤ 6 := by
    intro i
    induction i with
    | zero => exact Nat.zero_le _
    | succ i ih =>
      unfold ctL
      by_cases hc : 0 < cdV v i ∧ hvr (cdV v) i 48 < 6 ∧ (ctL v i).length < 6
      · rw [if_pos hc, List.length_append]
        have := hc.2.2
        show _ + 1 ≤ 6
        omega
      · rw [if_neg hc]; exact ih
  exact key 48

