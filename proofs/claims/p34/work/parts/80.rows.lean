/-! what the law's body stands on -/
section LST
variable {s : State} {A : Array Value}
theorem st_eq {t : Term} {k : Int32} (h : (Cond.eq t (.int k)).before A s = true) : t.eval A s none [] s = some (.int k) := Cond.eq_int h rfl
theorem lw_K (hts : ∀ w ∈ lw_tbl, w.before A s = true) : ∃ D : va_G, va_K D vwCl [] s := by
  have g0 := u_known (C := RX0) (T := TX0) (N := 5) (n := 5) hts inX0 (hts (.instantiable RX0 5) (by decide +kernel))
  have g1 := u_known (C := RX1) (T := TX1) (N := 6) (n := 6) hts inX1 (hts (.instantiable RX1 6) (by decide +kernel))
  have g2 := u_known (C := RX2) (T := TX2) (N := 2) (n := 2) hts inX2 (hts (.instantiable RX2 2) (by decide +kernel))
  have g3 := u_known (C := RX3) (T := TX3) (N := 6) (n := 6) hts inX3 (hts (.instantiable RX3 6) (by decide +kernel))
  have g4 := u_known (C := RX4) (T := TX4) (N := 2) (n := 2) hts inX4 (hts (.instantiable RX4 2) (by decide +kernel))
  have g5 := u_known (C := RX5) (T := TX5) (N := 5) (n := 5) hts inX5 (hts (.instantiable RX5 5) (by decide +kernel))
  have g6 := u_known (C := RX6) (T := TX6) (N := 6) (n := 6) hts inX6 (hts (.instantiable RX6 6) (by decide +kernel))
  have g7 := u_known (C := RX7) (T := TX7) (N := 2) (n := 2) hts inX7 (hts (.instantiable RX7 2) (by decide +kernel))
  have g8 := u_known (C := RX8) (T := TX8) (N := 5) (n := 5) hts inX8 (hts (.instantiable RX8 5) (by decide +kernel))
  have g9 := u_known (C := RX9) (T := TX9) (N := 8) (n := 8) hts inX9 (hts (.instantiable RX9 8) (by decide +kernel))
  obtain ⟨c0, i0, k0⟩ := g0
  have key : ∀ c : Nat, ∃ x : ClassId × (Nat → Nat), ∀ q, vwCl[c]? = some q → u_Kn s q.1 q.2.1 q.2.2 x.1 x.2 := by
    intro c
    match c with
    | 0 => exact ⟨(c0, i0), fun q hq => by cases hq; exact k0⟩
    | 1 => obtain ⟨c, i, k⟩ := g1; exact ⟨(c, i), fun q hq => by cases hq; exact k⟩
    | 2 => obtain ⟨c, i, k⟩ := g2; exact ⟨(c, i), fun q hq => by cases hq; exact k⟩
    | 3 => obtain ⟨c, i, k⟩ := g3; exact ⟨(c, i), fun q hq => by cases hq; exact k⟩
    | 4 => obtain ⟨c, i, k⟩ := g4; exact ⟨(c, i), fun q hq => by cases hq; exact k⟩
    | 5 => obtain ⟨c, i, k⟩ := g5; exact ⟨(c, i), fun q hq => by cases hq; exact k⟩
    | 6 => obtain ⟨c, i, k⟩ := g6; exact ⟨(c, i), fun q hq => by cases hq; exact k⟩
    | 7 => obtain ⟨c, i, k⟩ := g7; exact ⟨(c, i), fun q hq => by cases hq; exact k⟩
    | 8 => obtain ⟨c, i, k⟩ := g8; exact ⟨(c, i), fun q hq => by cases hq; exact k⟩
    | 9 => obtain ⟨c, i, k⟩ := g9; exact ⟨(c, i), fun q hq => by cases hq; exact k⟩
    | n + 10 => exact ⟨(c0, i0), fun q hq => by cases hq⟩
  obtain ⟨f, hf⟩ := Classical.axiomOfChoice key
  exact ⟨(fun c => (f c).1, fun c => (f c).2), fun c q hq => hf c q hq, fun k q h => by cases h⟩
theorem lw_tabI {nm : String} {v0 v1 v2 v3 v4 : Int32} (hA : ∀ a : Nat, a < s.heap.size → ¬ tv_A s.heap.size a) (hl : (Cond.laysStatic "TouchTracker" nm "[I").before A s = true) (hini : (Cond.initialized "TouchTracker").before A s = true) (harr : (Cond.arrayOf (.static "TouchTracker" nm "[I") .int).before A s = true) (hlen : (Cond.eq (.length (.static "TouchTracker" nm "[I")) (.int 5)).before A s = true) (h0 : (Cond.eq (.elem (.static "TouchTracker" nm "[I") (.int 0)) (.int v0)).before A s = true) (h1 : (Cond.eq (.elem (.static "TouchTracker" nm "[I") (.int 1)) (.int v1)).before A s = true) (h2 : (Cond.eq (.elem (.static "TouchTracker" nm "[I") (.int 2)) (.int v2)).before A s = true) (h3 : (Cond.eq (.elem (.static "TouchTracker" nm "[I") (.int 3)) (.int v3)).before A s = true) (h4 : (Cond.eq (.elem (.static "TouchTracker" nm "[I") (.int 4)) (.int v4)).before A s = true) : ∃ t : Nat, va_Z "TouchTracker" nm "[I" (.ref t) (tv_A s.heap.size) s s.heap ∧ va_T .int t 5 (fun j => .int (([v0, v1, v2, v3, v4] : List Int32).getD j 0)) (tv_A s.heap.size) s s.heap := by
  obtain ⟨t, ht, hT⟩ := va_Tof (A := tv_A s.heap.size) (f := fun j => .int (([v0, v1, v2, v3, v4] : List Int32).getD j 0)) (N := 5) (by decide) harr (st_eq hlen) (fun j hj => by
    match j, hj with
    | 0, _ => exact st_eq h0
    | 1, _ => exact st_eq h1
    | 2, _ => exact st_eq h2
    | 3, _ => exact st_eq h3
    | 4, _ => exact st_eq h4) hA
  exact ⟨t, va_Zref hl hini ht hA, hT⟩
theorem lw_St {b Ln : Nat} {xs : Nat → Int32} (hts : ∀ w ∈ lw_tbl, w.before A s = true) (hgv : (Jvm.Cond.and given_1 narrow_1).before A s = true) (hX : va_X b Ln xs s s.heap) (hb : b < s.heap.size) : ∃ t1 t2 t3 : Nat, tv_St s.heap.size (t1, t2, t3, b, Ln, xs) s s.heap := by
  have hs := flat_of_before _ hgv
  have hA : ∀ a : Nat, a < s.heap.size → ¬ tv_A s.heap.size a := fun a ha h => Nat.not_le.mpr ha h
  have hini : (Cond.initialized "TouchTracker").before A s = true := hts _ (by decide +kernel)
  obtain ⟨t1, z1, w1⟩ := lw_tabI (nm := "FIRST_VALUES") (v0 := 20) (v1 := 12) (v2 := 30) (v3 := 250) (v4 := 1) hA (hts _ (by decide +kernel)) hini (hs _ (by decide +kernel)) (hs _ (by decide +kernel)) (hs _ (by decide +kernel)) (hs _ (by decide +kernel)) (hs _ (by decide +kernel)) (hs _ (by decide +kernel)) (hs _ (by decide +kernel))
  obtain ⟨t2, z2, w2⟩ := lw_tabI (nm := "LEAST_VALUES") (v0 := 1) (v1 := 1) (v2 := 1) (v3 := 1) (v4 := 0) hA (hts _ (by decide +kernel)) hini (hs _ (by decide +kernel)) (hs _ (by decide +kernel)) (hs _ (by decide +kernel)) (hs _ (by decide +kernel)) (hs _ (by decide +kernel)) (hs _ (by decide +kernel)) (hs _ (by decide +kernel))
  obtain ⟨t3, z3, w3⟩ := lw_tabI (nm := "GREATEST_VALUES") (v0 := 100) (v1 := 48) (v2 := 255) (v3 := 1000) (v4 := 5) hA (hts _ (by decide +kernel)) hini (hs _ (by decide +kernel)) (hs _ (by decide +kernel)) (hs _ (by decide +kernel)) (hs _ (by decide +kernel)) (hs _ (by decide +kernel)) (hs _ (by decide +kernel)) (hs _ (by decide +kernel))
  exact ⟨t1, t2, t3, ⟨z1, w1⟩, ⟨z2, w2⟩, ⟨z3, w3⟩, hX, hb⟩
theorem lw_nF : ∀ q ∈ tv_nF, Cond.fieldLinkNest q.1 q.2.1 q.2.2.1 q.2.2.2.1 q.2.2.2.2.1 q.2.2.2.2.2 ∈ lw_tbl := by decide +kernel
theorem lw_nM : ∀ q ∈ tv_nM, Cond.methodLinkNest q.1 q.2.1 q.2.2.1 q.2.2.2 ∈ lw_tbl := by decide +kernel
theorem lw_Nw (hts : ∀ w ∈ lw_tbl, w.before A s = true) : tv_Nw s := by
  refine ⟨fun q hq => va_Nw.of rfl (hts _ (lw_nF q hq)), fun q hq => va_Nw.of rfl (hts _ (lw_nM q hq)), trivial, trivial, trivial, trivial, trivial, va_AOA.of (hts _ (by decide +kernel)), ?_, ?_⟩
  · exact (hts (Cond.arrayOver (.object "TouchTracker$Track")) (by decide +kernel) :)
  · exact (hts (Cond.arrayOver (.object "TouchTracker$State")) (by decide +kernel) :)
theorem lw_G {b Ln : Nat} {xs : Nat → Int32} (hts : ∀ w ∈ lw_tbl, w.before A s = true) (hgv : (Jvm.Cond.and given_1 narrow_1).before A s = true) (hX : va_X b Ln xs s s.heap) (hb : b < s.heap.size) : ∃ (D : va_G) (t1 t2 t3 : Nat), tv_G D vwCl s.heap.size (t1, t2, t3, b, Ln, xs) s s.heap := by
  obtain ⟨D, hK⟩ := lw_K hts
  obtain ⟨t1, t2, t3, hS⟩ := lw_St hts hgv hX hb
  exact ⟨D, t1, t2, t3, hK, hS, Nat.le_refl _, lw_Nw hts⟩
end LST

