def pC_setRaw (S : mS) (h k : Nat) (x y v : Int32) : Int32 → mS → Prop := fun r S' => ∃ i j S1, i < 8 ∧ j < 6 ∧ x = nI i ∧ y = nI j ∧ inI v 0 255 = true ∧ svR S h S1 ∧ S' = mset S1 3 (upd (S1.1 3) (6 * i + j) v) ∧ r = S1.1 3 (6 * i + j)
def pX_setRaw (S : mS) (h k : Nat) (x y v : Int32) : String → mS → Prop := fun E S' => S' = S ∧ ((E = exI ∧ ¬ onP x y) ∨ (E = exA ∧ onP x y ∧ inI v 0 255 = false))
def pR_setRaw (S : mS) (h k : Nat) (x y v : Int32) : Int32 → mS → Prop := fun r S' => (¬ onP x y ∧ S' = mupd S 130 0 1) ∨ (onP x y ∧ inI v 0 255 = false ∧ S' = mupd S 130 0 2) ∨ ∃ i j, i < 8 ∧ j < 6 ∧ x = nI i ∧ y = nI j ∧ inI v 0 255 = true ∧ S' = mupd (kpS (mupd S 130 0 0) h) 131 (6 * i + j) v ∧ r = (kpS (mupd S 130 0 0) h).1 131 (6 * i + j)
def pC_press (S : mS) (h k : Nat) (x y v : Int32) : Int32 → mS → Prop := fun r S' => ∃ i j S1, i < 8 ∧ j < 6 ∧ x = nI i ∧ y = nI j ∧ inI v 1 255 = true ∧ svR S h S1 ∧ S' = mset S1 3 (prs9 (S1.1 3) x y v) ∧ r = prs9 (S1.1 3) x y v (6 * i + j)
def pX_press (S : mS) (h k : Nat) (x y v : Int32) : String → mS → Prop := fun E S' => S' = S ∧ ((E = exI ∧ ¬ onP x y) ∨ (E = exA ∧ onP x y ∧ inI v 1 255 = false))
def pR_press (S : mS) (h k : Nat) (x y v : Int32) : Int32 → mS → Prop := fun r S' => (¬ onP x y ∧ S' = mupd S 130 0 1) ∨ (onP x y ∧ inI v 1 255 = false ∧ S' = mupd S 130 0 2) ∨ ∃ i j, i < 8 ∧ j < 6 ∧ x = nI i ∧ y = nI j ∧ inI v 1 255 = true ∧ S' = mset (kpS (mupd S 130 0 0) h) 131 (prF ((kpS (mupd S 130 0 0) h).1 131) (6 * i + j) v 48) ∧ r = prF ((kpS (mupd S 130 0 0) h).1 131) (6 * i + j) v 48 (6 * i + j)
def pC_release (S : mS) (h k : Nat) (x y v : Int32) : Int32 → mS → Prop := fun r S' => ∃ S1, svR S h S1 ∧ S' = mset S1 3 (fun k => if k < 48 then 0 else S1.1 3 k) ∧ r = cntI (fun k => decide (S1.1 3 k ≠ 0)) 48
def pR_release (S : mS) (h k : Nat) (x y v : Int32) : Int32 → mS → Prop := fun r S' => S' = mset (kpS (mupd S 130 0 0) h) 131 (zt ((kpS (mupd S 130 0 0) h).1 131) 48) ∧ r = rlN ((kpS (mupd S 130 0 0) h).1 131) 48
def pC_calibrate (S : mS) (h k : Nat) (x y v : Int32) : Int32 → mS → Prop := fun r S' => ∃ S1, svR S h S1 ∧ S' = mset S1 4 (fun k => if k < 48 then S1.1 3 k else S1.1 4 k) ∧ r = cntI (fun k => decide (S1.1 4 k ≠ S1.1 3 k)) 48
def pR_calibrate (S : mS) (h k : Nat) (x y v : Int32) : Int32 → mS → Prop := fun r S' => S' = mset (kpS (mupd S 130 0 0) h) 131 (caF ((kpS (mupd S 130 0 0) h).1 131) 48) ∧ r = caN ((kpS (mupd S 130 0 0) h).1 131) 48
def pC_set (S : mS) (h k : Nat) (x y v : Int32) : Int32 → mS → Prop := fun r S' => ∃ q S1, q < 5 ∧ x = nI q ∧ inI v (leastN q) (mostN q) = true ∧ svR S h S1 ∧ S' = mupd S1 5 q v ∧ r = S1.1 5 q
def pX_set (S : mS) (h k : Nat) (x y v : Int32) : String → mS → Prop := fun E S' => S' = S ∧ ((E = exI ∧ ¬ ∃ q, q < 5 ∧ x = nI q) ∨ (E = exA ∧ ∃ q, q < 5 ∧ x = nI q ∧ inI v (leastN q) (mostN q) = false))
def pR_set (S : mS) (h k : Nat) (x y v : Int32) : Int32 → mS → Prop := fun r S' => (inI x 0 4 = false ∧ S' = mupd S 130 0 1) ∨ ∃ q, q < 5 ∧ x = nI q ∧ ((inI v (if q = 4 then 0 else 1) (mostN q) = false ∧ S' = mupd S 130 0 2) ∨ (inI v (if q = 4 then 0 else 1) (mostN q) = true ∧ S' = mupd (kpS (mupd S 130 0 0) h) 131 (96 + q) v ∧ r = (kpS (mupd S 130 0 0) h).1 131 (96 + q)))
def pC_scan (S : mS) (h k : Nat) (x y v : Int32) : Int32 → mS → Prop := fun r S' => ∃ S1, svR S h S1 ∧ S' = scP S1 1 48 ∧ r = (scP S1 1 48).1 1 4 + (scP S1 1 48).1 1 5 - (S1.1 1 4 + S1.1 1 5)
def pR_scan (S : mS) (h k : Nat) (x y v : Int32) : Int32 → mS → Prop := fun r S' => S' = scD (kpS (mupd S 130 0 0) h) ∧ r = scV (kpS (mupd S 130 0 0) h)
def pC_appendText (S : mS) (h k : Nat) (x y v : Int32) : Int32 → mS → Prop := fun r S' => inI v 32 126 = true ∧ k < 80 ∧ S' = mset (mset S 128 (upd (S.1 128) k (vp_nar .char (v.toUInt32 % 65536).toInt32))) 127 (upd (S.1 127) 1 (nI (k + 1))) ∧ r = nI (k + 1)
def pX_appendText (S : mS) (h k : Nat) (x y v : Int32) : String → mS → Prop := fun E S' => S' = S ∧ ((E = exA ∧ inI v 32 126 = false) ∨ (E = exS ∧ inI v 32 126 = true ∧ k = 80))
def pR_appendText (S : mS) (h k : Nat) (x y v : Int32) : Int32 → mS → Prop := fun r S' => (inI v 32 126 = false ∧ S' = mupd S 130 0 1) ∨ (inI v 32 126 = true ∧ k = 80 ∧ S' = mupd S 130 0 2) ∨ (inI v 32 126 = true ∧ k < 80 ∧ S' = mupd (mupd (mupd S 130 0 0) 132 k v) 130 4 (nI (k + 1)) ∧ r = nI (k + 1))
def pC_clearText (S : mS) (h k : Nat) (x y v : Int32) : Int32 → mS → Prop := fun r S' => S' = mset S 127 (upd (S.1 127) 1 0) ∧ r = S.1 127 1
def pR_clearText (S : mS) (h k : Nat) (x y v : Int32) : Int32 → mS → Prop := fun r S' => S' = mupd (mupd S 130 0 0) 130 4 0 ∧ r = S.1 130 4
def pC_errorPosition (S : mS) (h k : Nat) (x y v : Int32) : Int32 → mS → Prop := fun r S' => (∃ w, S' = mset S 129 w) ∧ r = feR (S.1 129) (S.1 128) k
def pR_errorPosition (S : mS) (h k : Nat) (x y v : Int32) : Int32 → mS → Prop := fun r S' => S' = (vdS (mupd S 130 0 0) k).2.2 ∧ r = if (vdS (mupd S 130 0 0) k).1 then -1 else nI (vdS (mupd S 130 0 0) k).2.1
def pC_runText (S : mS) (h k : Nat) (x y v : Int32) : Int32 → mS → Prop := fun r S' => feR (S.1 129) (S.1 128) k = -1 ∧ ∃ w S1, svR (mset S 129 w) h S1 ∧ S' = (rnE S1 k).1 ∧ r = (rnE S1 k).2
def pX_runText (S : mS) (h k : Nat) (x y v : Int32) : String → mS → Prop := fun E S' => (∃ w, S' = mset S 129 w) ∧ E = exS ∧ ¬ feR (S.1 129) (S.1 128) k = -1
def pR_runText (S : mS) (h k : Nat) (x y v : Int32) : Int32 → mS → Prop := fun r S' => ((vdS S k).1 = false ∧ S' = mupd (vdS S k).2.2 130 0 1) ∨ ((vdS S k).1 = true ∧ S' = (rtS S k h).1 ∧ r = (rtS S k h).2)
def pC_undo (S : mS) (h k : Nat) (x y v : Int32) : Int32 → mS → Prop := fun r S' => 0 < h ∧ rsR S h S' ∧ r = nI (h - 1)
def pX_undo (S : mS) (h k : Nat) (x y v : Int32) : String → mS → Prop := fun E S' => S' = S ∧ E = exS ∧ h = 0
def pR_undo (S : mS) (h k : Nat) (x y v : Int32) : Int32 → mS → Prop := fun r S' => (h = 0 ∧ S' = mupd S 130 0 1) ∨ ∃ j, h = j + 1 ∧ S' = mupd (mset (mupd S 130 0 0) 131 (cpR (S.1 131) h 0)) 130 2 (nI j) ∧ r = nI j
def pC_raw (S : mS) (h k : Nat) (x y v : Int32) : Int32 → mS → Prop := fun r S' => ∃ i j, i < 8 ∧ j < 6 ∧ x = nI i ∧ y = nI j ∧ S' = S ∧ r = S.1 3 (6 * i + j)
def pX_raw (S : mS) (h k : Nat) (x y v : Int32) : String → mS → Prop := fun E S' => S' = S ∧ E = exI ∧ ¬ onP x y
def pR_raw (S : mS) (h k : Nat) (x y v : Int32) : Int32 → mS → Prop := fun r S' => (¬ onP x y ∧ S' = mupd S 130 0 1) ∨ ∃ i j, i < 8 ∧ j < 6 ∧ x = nI i ∧ y = nI j ∧ S' = mupd S 130 0 0 ∧ r = S.1 131 (6 * i + j)
def pC_signal (S : mS) (h k : Nat) (x y v : Int32) : Int32 → mS → Prop := fun r S' => ∃ i j, i < 8 ∧ j < 6 ∧ x = nI i ∧ y = nI j ∧ S' = S ∧ r = sgS S 1 (6 * i + j)
def pX_signal (S : mS) (h k : Nat) (x y v : Int32) : String → mS → Prop := fun E S' => S' = S ∧ E = exI ∧ ¬ onP x y
def pR_signal (S : mS) (h k : Nat) (x y v : Int32) : Int32 → mS → Prop := fun r S' => (¬ onP x y ∧ S' = mupd S 130 0 1) ∨ ∃ i j, i < 8 ∧ j < 6 ∧ x = nI i ∧ y = nI j ∧ S' = mupd S 130 0 0 ∧ r = sgR S (6 * i + j)
def pC_regionSize (S : mS) (h k : Nat) (x y v : Int32) : Int32 → mS → Prop := fun r S' => ∃ i j, i < 8 ∧ j < 6 ∧ x = nI i ∧ y = nI j ∧ S' = regS S 1 48 ∧ r = if flS S 1 48 (6 * i + j) = 48 then 0 else (regS S 1 48).1 101 (flS S 1 48 (6 * i + j))
def pX_regionSize (S : mS) (h k : Nat) (x y v : Int32) : String → mS → Prop := fun E S' => S' = S ∧ E = exI ∧ ¬ onP x y
def pR_regionSize (S : mS) (h k : Nat) (x y v : Int32) : Int32 → mS → Prop := fun r S' => (¬ onP x y ∧ S' = mupd S 130 0 1) ∨ ∃ i j, i < 8 ∧ j < 6 ∧ x = nI i ∧ y = nI j ∧ S' = frD (mupd S 130 0 0) ∧ r = if (frD (mupd S 130 0 0)).1 133 (6 * i + j) = -1 then 0 else (frD (mupd S 130 0 0)).1 134 ((frD (mupd S 130 0 0)).1 133 (6 * i + j)).toNatClampNeg
def pC_regionKind (S : mS) (h k : Nat) (x y v : Int32) : Int32 → mS → Prop := fun r S' => ∃ i j, i < 8 ∧ j < 6 ∧ x = nI i ∧ y = nI j ∧ S' = regS S 1 48 ∧ r = if flS S 1 48 (6 * i + j) = 48 then -1 else kndR (regS S 1 48) (flS S 1 48 (6 * i + j))
def pX_regionKind (S : mS) (h k : Nat) (x y v : Int32) : String → mS → Prop := fun E S' => S' = S ∧ E = exI ∧ ¬ onP x y
def pR_regionKind (S : mS) (h k : Nat) (x y v : Int32) : Int32 → mS → Prop := fun r S' => (¬ onP x y ∧ S' = mupd S 130 0 1) ∨ ∃ i j, i < 8 ∧ j < 6 ∧ x = nI i ∧ y = nI j ∧ S' = frD (mupd S 130 0 0) ∧ r = if (frD (mupd S 130 0 0)).1 133 (6 * i + j) = -1 then -1 else kndM (frD (mupd S 130 0 0)) ((frD (mupd S 130 0 0)).1 133 (6 * i + j)).toNatClampNeg
def pC_regions (S : mS) (h k : Nat) (x y v : Int32) : Int32 → mS → Prop := fun r S' => inI v 0 2 = true ∧ S' = regS S 1 48 ∧ r = cntI (fun j => decide (flS S 1 48 j = j ∧ kndR (regS S 1 48) j = v)) 48
def pX_regions (S : mS) (h k : Nat) (x y v : Int32) : String → mS → Prop := fun E S' => S' = S ∧ E = exA ∧ inI v 0 2 = false
def pR_regions (S : mS) (h k : Nat) (x y v : Int32) : Int32 → mS → Prop := fun r S' => (inI v 0 2 = false ∧ S' = mupd S 130 0 1) ∨ (inI v 0 2 = true ∧ S' = frD (mupd S 130 0 0) ∧ r = rgN (frD (mupd S 130 0 0)) v 48)
def pC_setting (S : mS) (h k : Nat) (x y v : Int32) : Int32 → mS → Prop := fun r S' => ∃ q, q < 5 ∧ x = nI q ∧ S' = S ∧ r = S.1 5 q
def pX_setting (S : mS) (h k : Nat) (x y v : Int32) : String → mS → Prop := fun E S' => S' = S ∧ E = exI ∧ ¬ ∃ q, q < 5 ∧ x = nI q
def pR_setting (S : mS) (h k : Nat) (x y v : Int32) : Int32 → mS → Prop := fun r S' => (inI x 0 4 = false ∧ S' = mupd S 130 0 1) ∨ ∃ q, q < 5 ∧ x = nI q ∧ S' = mupd S 130 0 0 ∧ r = S.1 131 (96 + q)
def pC_contacts (S : mS) (h k : Nat) (x y v : Int32) : Int32 → mS → Prop := fun r S' => S' = (ctP S 1 48).1 ∧ r = nI (ctP S 1 48).2
def pR_contacts (S : mS) (h k : Nat) (x y v : Int32) : Int32 → mS → Prop := fun r S' => S' = fcE (frD (mupd S 130 0 0)) ∧ r = (fcE (frD (mupd S 130 0 0))).1 130 17
def pC_contact (S : mS) (h k : Nat) (x y v : Int32) : Int32 → mS → Prop := fun r S' => ¬ x < 0 ∧ S' = (ctP S 1 48).1 ∧ ∃ q, q < 4 ∧ v = nI q ∧ ((∃ j, j < (ctP S 1 48).2 ∧ x = nI j ∧ r = (ctP S 1 48).1.1 (105 + q) j) ∨ ((¬ ∃ j, j < (ctP S 1 48).2 ∧ x = nI j) ∧ r = -1))
def pX_contact (S : mS) (h k : Nat) (x y v : Int32) : String → mS → Prop := fun E S' => S' = S ∧ ((E = exI ∧ x < 0) ∨ (E = exA ∧ ¬ x < 0 ∧ ¬ ∃ q, q < 4 ∧ v = nI q))
def pR_contact (S : mS) (h k : Nat) (x y v : Int32) : Int32 → mS → Prop := fun r S' => (x < 0 ∧ S' = mupd S 130 0 1) ∨ (¬ x < 0 ∧ inI v 0 3 = false ∧ S' = mupd S 130 0 2) ∨ (¬ x < 0 ∧ S' = fcE (frD (mupd S 130 0 0)) ∧ ∃ q, q < 4 ∧ v = nI q ∧ r = if (fcE (frD (mupd S 130 0 0))).1 130 17 ≤ x then -1 else (fcE (frD (mupd S 130 0 0))).1 (136 + q) x.toNatClampNeg)
def pC_isDown (S : mS) (h k : Nat) (x y v : Int32) : Int32 → mS → Prop := fun r S' => ∃ t, t < 6 ∧ x = nI t ∧ S' = S ∧ r = S.1 (1 + 6 + t) 0
def pX_isDown (S : mS) (h k : Nat) (x y v : Int32) : String → mS → Prop := fun E S' => S' = S ∧ E = exI ∧ ¬ ∃ q, q < 6 ∧ x = nI q
def pR_isDown (S : mS) (h k : Nat) (x y v : Int32) : Int32 → mS → Prop := fun r S' => (inI x 0 5 = false ∧ S' = mupd S 130 0 1) ∨ ∃ t, t < 6 ∧ x = nI t ∧ S' = mupd S 130 0 0 ∧ r = bz (dwR S t)
def pC_track (S : mS) (h k : Nat) (x y v : Int32) : Int32 → mS → Prop := fun r S' => ∃ t q, t < 6 ∧ q < 4 ∧ x = nI t ∧ v = nI q ∧ S' = S ∧ r = if S.1 (1 + 6 + t) 0 = 0 then -1 else S.1 (1 + 6 + t) (q + 1)
def pX_track (S : mS) (h k : Nat) (x y v : Int32) : String → mS → Prop := fun E S' => S' = S ∧ ((E = exI ∧ ¬ ∃ q, q < 6 ∧ x = nI q) ∨ (E = exA ∧ (∃ q, q < 6 ∧ x = nI q) ∧ ¬ ∃ q, q < 4 ∧ v = nI q))
def pR_track (S : mS) (h k : Nat) (x y v : Int32) : Int32 → mS → Prop := fun r S' => (inI x 0 5 = false ∧ S' = mupd S 130 0 1) ∨ (inI x 0 5 = true ∧ inI v 0 3 = false ∧ S' = mupd S 130 0 2) ∨ ∃ t q, t < 6 ∧ q < 4 ∧ x = nI t ∧ v = nI q ∧ S' = mupd S 130 0 0 ∧ r = if dwR S t then ofR S t (1 + q) else -1
def pC_squaredDistance (S : mS) (h k : Nat) (x y v : Int32) : Int32 → mS → Prop := fun r S' => ∃ t, t < 6 ∧ x = nI t ∧ ¬ v < 0 ∧ S' = (ctP S 1 48).1 ∧ (((S.1 (1 + 6 + t) 0 = 0 ∨ ¬ ∃ j, j < (ctP S 1 48).2 ∧ v = nI j) ∧ r = -1) ∨ (¬ S.1 (1 + 6 + t) 0 = 0 ∧ ∃ j, j < (ctP S 1 48).2 ∧ v = nI j ∧ r = (S.1 (1 + 6 + t) 1 - (ctP S 1 48).1.1 105 j) * (S.1 (1 + 6 + t) 1 - (ctP S 1 48).1.1 105 j) + (S.1 (1 + 6 + t) 2 - (ctP S 1 48).1.1 106 j) * (S.1 (1 + 6 + t) 2 - (ctP S 1 48).1.1 106 j)))
def pX_squaredDistance (S : mS) (h k : Nat) (x y v : Int32) : String → mS → Prop := fun E S' => S' = S ∧ E = exI ∧ ((¬ ∃ q, q < 6 ∧ x = nI q) ∨ v < 0)
def pR_squaredDistance (S : mS) (h k : Nat) (x y v : Int32) : Int32 → mS → Prop := fun r S' => ((inI x 0 5 = false ∨ v < 0) ∧ S' = mupd S 130 0 1) ∨ ∃ t, t < 6 ∧ x = nI t ∧ ¬ v < 0 ∧ S' = fcE (frD (mupd S 130 0 0)) ∧ r = if dwR S t = true ∧ v < (fcE (frD (mupd S 130 0 0))).1 130 17 then sqR (fcE (frD (mupd S 130 0 0))) t v.toNatClampNeg else -1
def pC_match (S : mS) (h k : Nat) (x y v : Int32) : Int32 → mS → Prop := fun r S' => ∃ t, t < 6 ∧ x = nI t ∧ S' = mtP S 1 48 ∧ r = (mtP S 1 48).1 126 t
def pX_match (S : mS) (h k : Nat) (x y v : Int32) : String → mS → Prop := fun E S' => S' = S ∧ E = exI ∧ ¬ ∃ q, q < 6 ∧ x = nI q
def pR_match (S : mS) (h k : Nat) (x y v : Int32) : Int32 → mS → Prop := fun r S' => (inI x 0 5 = false ∧ S' = mupd S 130 0 1) ∨ ∃ t, t < 6 ∧ x = nI t ∧ S' = fmE (fcE (frD (mupd S 130 0 0))) ∧ r = (fmE (fcE (frD (mupd S 130 0 0)))).1 141 t
def pC_matchingCost (S : mS) (h k : Nat) (x y v : Int32) : Int32 → mS → Prop := fun r S' => S' = mtP S 1 48 ∧ r = (mtP S 1 48).1 119 0
def pR_matchingCost (S : mS) (h k : Nat) (x y v : Int32) : Int32 → mS → Prop := fun r S' => S' = fmE (fcE (frD (mupd S 130 0 0))) ∧ r = (fmE (fcE (frD (mupd S 130 0 0)))).1 140 0
def pC_downIfScanned (S : mS) (h k : Nat) (x y v : Int32) : Int32 → mS → Prop := fun r S' => ∃ S1, stFr S1 13 S ∧ stEq S1 13 S 1 ∧ S' = scP S1 13 48 ∧ r = nI (dsN (scP S1 13 48) 13 6)
def pR_downIfScanned (S : mS) (h k : Nat) (x y v : Int32) : Int32 → mS → Prop := fun r S' => S' = fmE (fcE (frD (mupd S 130 0 0))) ∧ r = (dsT S' (moN S' (umR S' 6) (scnM S')) 6).2
def pC_frames (S : mS) (h k : Nat) (x y v : Int32) : Int32 → mS → Prop := fun r S' => S' = S ∧ r = S.1 1 3
def pR_frames (S : mS) (h k : Nat) (x y v : Int32) : Int32 → mS → Prop := fun r S' => S' = mupd S 130 0 0 ∧ r = S.1 131 131
def pC_downs (S : mS) (h k : Nat) (x y v : Int32) : Int32 → mS → Prop := fun r S' => S' = S ∧ r = S.1 1 4
def pR_downs (S : mS) (h k : Nat) (x y v : Int32) : Int32 → mS → Prop := fun r S' => S' = mupd S 130 0 0 ∧ r = S.1 131 132
def pC_ups (S : mS) (h k : Nat) (x y v : Int32) : Int32 → mS → Prop := fun r S' => S' = S ∧ r = S.1 1 5
def pR_ups (S : mS) (h k : Nat) (x y v : Int32) : Int32 → mS → Prop := fun r S' => S' = mupd S 130 0 0 ∧ r = S.1 131 133
def pC_meanSignal (S : mS) (h k : Nat) (x y v : Int32) : UInt32 → mS → Prop := fun r S' => S' = S ∧ r = cmV S
def pR_meanSignal (S : mS) (h k : Nat) (x y v : Int32) : UInt32 → mS → Prop := fun r S' => S' = mupd S 130 0 0 ∧ r = mnV S
def pC_savedStates (S : mS) (h k : Nat) (x y v : Int32) : Int32 → mS → Prop := fun r S' => S' = S ∧ r = S.1 25 1
def pR_savedStates (S : mS) (h k : Nat) (x y v : Int32) : Int32 → mS → Prop := fun r S' => S' = mupd S 130 0 0 ∧ r = S.1 130 2
def pC_textLength (S : mS) (h k : Nat) (x y v : Int32) : Int32 → mS → Prop := fun r S' => S' = S ∧ r = S.1 127 1
def pR_textLength (S : mS) (h k : Nat) (x y v : Int32) : Int32 → mS → Prop := fun r S' => S' = mupd S 130 0 0 ∧ r = S.1 130 4
def LCok (S2 : mS) (r1 r2 : Int32) : Prop := S2.1 130 0 = r1 ∧ (r1 = 0 → S2.2.2 = r2.toInt64) ∧ ∃ h' k', INV S2 S2 h' k'
theorem LC_mk {S1 S2 : mS} {h k : Nat} {r1 r2 : Int32} (e : S2.2 = S1.2) (c : ∀ q, q < 130 → S2.1 q = S1.1 q) (hI : INV S1 S2 h k) (ht : S2.1 130 0 = r1) (ho : r1 = 0 → S1.2.2 = r2.toInt64) : LCok S2 r1 r2 :=
  ⟨ht, fun h0 => by rw [e]; exact ho h0, h, k, INV_cg hI ⟨fun q hq _ => c q (by omega), c 127 (by omega), c 128 (by omega), by rw [e]⟩ RW.refl⟩
/-- the same for calls that don't throw -/
def LPok (S2 : mS) (r1 r2 : Int32) : Prop := r1 = r2 ∧ ∃ h' k', INV S2 S2 h' k'
theorem LP_mk {S1 S2 : mS} {h k : Nat} {r1 r2 : Int32} (e : S2.2 = S1.2) (c : ∀ q, q < 130 → S2.1 q = S1.1 q) (hI : INV S1 S2 h k) (hr : r1 = r2) : LPok S2 r1 r2 :=
  ⟨hr, h, k, INV_cg hI ⟨fun q hq _ => c q (by omega), c 127 (by omega), c 128 (by omega), by rw [e]⟩ RW.refl⟩
theorem RW_0 {S : mS} {x : Int32} : RW S (mupd S 130 0 x) := ⟨mupd_n (by decide), mupd_n (by decide), mupd_sn (by decide), mupd_sn (by decide)⟩
theorem RLs.refl {S : mS} : RLs S S := fun _ _ => rfl
theorem LC_thr {S : mS} {h k : Nat} {c r2 : Int32} (hI : INV S S h k) (hc : c ≠ 0) : LCok (mupd S 130 0 c) c r2 := LC_mk (S1 := S) rfl (fun q hq => mupd_n (by omega)) (INV_cg hI CW.refl RW_0) mupd_ss (fun h => absurd h hc)
theorem LC_q {S : mS} {h k : Nat} {w r2 : Int32} (hI : INV S S h k) (he : w = r2) : LCok (mupd (S.1, (S.2.1, w.toInt64)) 130 0 0) 0 r2 := LC_mk (S1 := (S.1, (S.2.1, w.toInt64))) (h := h) (k := k) rfl (fun q hq => mupd_n (by omega)) (INV_cg hI ⟨fun _ _ _ => rfl, rfl, rfl, rfl⟩ (RW_0 (S := S))) mupd_ss (fun _ => by rw [he])
theorem LP_q {S : mS} {h k : Nat} {w r2 : Int32} (hI : INV S S h k) (he : w = r2) : LPok (mupd S 130 0 0) w r2 := LP_mk (S1 := S) rfl (fun q hq => mupd_n (by omega)) (INV_cg hI CW.refl RW_0) he
theorem inI_ex {x : Int32} {N : Nat} (hN : N < 2 ^ 30) : inI x (nI 0) (nI N) = true ↔ ∃ q, q < N + 1 ∧ x = nI q := by
  constructor
  · intro h
    obtain ⟨d, -, h2, h3⟩ := inI_n hN h (by omega)
    exact ⟨d, by omega, h3⟩
  · intro ⟨q, hq, e⟩
    rw [e]
    unfold inI
    rw [Bool.and_eq_true, decide_eq_true_eq, decide_eq_true_eq]
    exact ⟨nI_le (by omega) (by omega), nI_le (by omega) (by omega)⟩
theorem inI_nex {x : Int32} {N : Nat} (hN : N < 2 ^ 30) : inI x (nI 0) (nI N) = false ↔ ¬ ∃ q, q < N + 1 ∧ x = nI q := by
  rw [← inI_ex hN]
  simp
/-- what the model's calls stand on -/
theorem INV_pre {S S1 : mS} {h k : Nat} (hI : INV S S h k) (hR : RLs S S1) : S1.1 130 2 = nI h ∧ h ≤ 6 ∧ S1.1 130 4 = nI k ∧ k ≤ 80 ∧ rgR S1 := by
  obtain ⟨h1, ⟨h2, h3, h4⟩, ⟨h5, h6, h7, h8⟩, h9, h10, h11, hz⟩ := INV_cg hI CW.refl hR.rw
  exact ⟨h4, h3, h6, h7, h10.1, h10.2.1⟩
theorem INV_row {A B : mS} {h k : Nat} (hI : INV A B h k) : ∀ j, j < 134 → cb A 1 j = B.1 131 j := hI.2.2.2.1
theorem INV_raw {A B : mS} {h k : Nat} (hI : INV A B h k) {j : Nat} (hj : j < 48) : A.1 3 j = B.1 131 j := (cb_raw (b := 1) hj).symm.trans (INV_row hI j (by omega))
theorem INV_bas {A B : mS} {h k : Nat} (hI : INV A B h k) {j : Nat} (hj : j < 48) : A.1 4 j = B.1 131 (48 + j) := (cb_bas (b := 1) hj).symm.trans (INV_row hI _ (by omega))
theorem INV_set {A B : mS} {h k : Nat} (hI : INV A B h k) {j : Nat} (hj : j < 5) : A.1 5 j = B.1 131 (96 + j) := (cb_set (b := 1) hj).symm.trans (INV_row hI _ (by omega))
theorem INV_trk {A B : mS} {h k : Nat} (hI : INV A B h k) {t w : Nat} (ht : t < 6) (hw : w < 5) : A.1 (1 + 6 + t) w = B.1 131 (101 + 5 * t + w) := (cb_trk (b := 1) ht hw).symm.trans (INV_row hI _ (by omega))
theorem INV_cnt {A B : mS} {h k : Nat} (hI : INV A B h k) {w : Nat} (h3 : 3 ≤ w) (h6 : w < 6) : A.1 1 w = B.1 131 (128 + w) := (cb_cnt (b := 1) h3 h6).symm.trans (INV_row hI _ (by omega))
theorem INV_RGt {A B : mS} {h k : Nat} (hI : INV A B h k) {t : Nat} (ht : t < 6) : RGt (B.1 131) t := hI.2.2.2.2.1.2.2.2.2.2.2 t ht
theorem INV_sg {A B : mS} {h k : Nat} (hI : INV A B h k) {j : Nat} (hj : j < 48) : sgS A 1 j = sgR B j := by
  obtain ⟨v, hv, ev⟩ := hI.2.2.2.2.1.1 j (by omega)
  obtain ⟨w, hw, ew⟩ := hI.2.2.2.2.1.1 (48 + j) (by omega)
  unfold sgS sgR
  rw [show 1 + 2 = 3 from rfl, show 1 + 3 = 4 from rfl, INV_raw hI hj, INV_bas hI hj, ev, ew]
  by_cases hl : w ≤ v
  · rw [nI_subg hl]
    by_cases h0 : 0 < nI (v - w)
    · rw [if_pos h0, if_neg (fun h => Int32.lt_irrefl (Int32.lt_trans h h0))]
    · rw [if_neg h0, if_neg (nI_pos (by omega))]
      have h9 : v - w = 0 := by
        rcases Nat.eq_zero_or_pos (v - w) with h | h
        · exact h
        · exact absurd (nI_lt (a := 0) h (by omega)) h0
      rw [h9]
      rfl
  · have h9 := nI_subl (a := v) (b := w) (by omega) (by omega)
    rw [if_neg (fun h => Int32.lt_irrefl (Int32.lt_trans h h9)), if_pos h9]
theorem ij_uniq {i j i2 j2 : Nat} (hi : i < 8) (hj : j < 6) (hi2 : i2 < 8) (hj2 : j2 < 6) (h1 : nI i = nI i2) (h2 : nI j = nI j2) : i2 = i ∧ j2 = j := ⟨(nI_inj6 (by omega) (by omega) h1).symm, (nI_inj6 (by omega) (by omega) h2).symm⟩
section LCQ
variable {S S1 : mS} {h k : Nat} {x y v r1 : Int32}
theorem lc_raw (hI : INV S S h k) (h1 : hlP (pC_raw S h k x y v) (pX_raw S h k x y v) cdI r1 S1) : RLs S S1 ∧ ∀ r2 S2, pR_raw S1 h k x y v r2 S2 → LCok S2 r1 r2 := by
  rcases h1 with ⟨rfl, w, T, hp, rfl⟩ | ⟨E, hp, hc⟩
  · obtain ⟨i, j, hi, hj, ex, ey, rfl, hw⟩ := hp
    refine ⟨fun q _ => rfl, fun r2 S2 h2 => ?_⟩
    rcases h2 with ⟨hn, -⟩ | ⟨i2, j2, hi2, hj2, ex2, ey2, rfl, rfl⟩
    · exact absurd ⟨⟨i, hi, ex⟩, j, hj, ey⟩ hn
    · obtain ⟨rfl, rfl⟩ := ij_uniq hi hj hi2 hj2 (ex.symm.trans ex2) (ey.symm.trans ey2)
      exact LC_q hI (hw.trans (INV_raw hI (by omega)))
  · obtain ⟨rfl, rfl, hn⟩ := hp
    obtain ⟨-, rfl⟩ := hc
    refine ⟨RLs.refl, fun r2 S2 h2 => ?_⟩
    rcases h2 with ⟨-, rfl⟩ | ⟨i2, j2, hi2, hj2, ex2, ey2, -, -⟩
    · exact LC_thr hI (by decide)
    · exact absurd ⟨⟨i2, hi2, ex2⟩, j2, hj2, ey2⟩ hn
theorem lc_signal (hI : INV S S h k) (h1 : hlP (pC_signal S h k x y v) (pX_signal S h k x y v) cdI r1 S1) : RLs S S1 ∧ ∀ r2 S2, pR_signal S1 h k x y v r2 S2 → LCok S2 r1 r2 := by
  rcases h1 with ⟨rfl, w, T, hp, rfl⟩ | ⟨E, hp, hc⟩
  · obtain ⟨i, j, hi, hj, ex, ey, rfl, hw⟩ := hp
    refine ⟨fun q _ => rfl, fun r2 S2 h2 => ?_⟩
    rcases h2 with ⟨hn, -⟩ | ⟨i2, j2, hi2, hj2, ex2, ey2, rfl, rfl⟩
    · exact absurd ⟨⟨i, hi, ex⟩, j, hj, ey⟩ hn
    · obtain ⟨rfl, rfl⟩ := ij_uniq hi hj hi2 hj2 (ex.symm.trans ex2) (ey.symm.trans ey2)
      exact LC_q hI (hw.trans (INV_sg hI (by omega)))
  · obtain ⟨rfl, rfl, hn⟩ := hp
    obtain ⟨-, rfl⟩ := hc
    refine ⟨RLs.refl, fun r2 S2 h2 => ?_⟩
    rcases h2 with ⟨-, rfl⟩ | ⟨i2, j2, hi2, hj2, ex2, ey2, -, -⟩
    · exact LC_thr hI (by decide)
    · exact absurd ⟨⟨i2, hi2, ex2⟩, j2, hj2, ey2⟩ hn
theorem lc_setting (hI : INV S S h k) (h1 : hlP (pC_setting S h k x y v) (pX_setting S h k x y v) cdI r1 S1) : RLs S S1 ∧ ∀ r2 S2, pR_setting S1 h k x y v r2 S2 → LCok S2 r1 r2 := by
  rcases h1 with ⟨rfl, w, T, hp, rfl⟩ | ⟨E, hp, hc⟩
  · obtain ⟨q, hq, ex, rfl, hw⟩ := hp
    refine ⟨fun q _ => rfl, fun r2 S2 h2 => ?_⟩
    rcases h2 with ⟨hn, -⟩ | ⟨q2, hq2, ex2, rfl, rfl⟩
    · exact absurd ⟨q, hq, ex⟩ ((inI_nex (N := 4) (by decide)).mp hn)
    · have e : q2 = q := nI_inj6 (by omega) (by omega) (ex2.symm.trans ex)
      subst e
      exact LC_q hI (hw.trans (INV_set hI hq))
  · obtain ⟨rfl, rfl, hn⟩ := hp
    obtain ⟨-, rfl⟩ := hc
    refine ⟨RLs.refl, fun r2 S2 h2 => ?_⟩
    rcases h2 with ⟨-, rfl⟩ | ⟨q2, hq2, ex2, -, -⟩
    · exact LC_thr hI (by decide)
    · exact absurd ⟨q2, hq2, ex2⟩ hn
theorem INV_dw {A B : mS} (hI : INV A B h k) {t : Nat} (ht : t < 6) : A.1 (1 + 6 + t) 0 = bz (dwR B t) := by
  rw [INV_trk hI ht (by decide)]
  unfold dwR ofR
  rcases (INV_RGt hI ht).1 with e | e
  · rw [Nat.add_zero, e]; rfl
  · rw [Nat.add_zero, e]; rfl
theorem dwR_0 {A B : mS} (hI : INV A B h k) {t : Nat} (ht : t < 6) : A.1 (1 + 6 + t) 0 = 0 ↔ ¬ dwR B t = true := by
  rw [INV_dw hI ht]
  cases dwR B t <;> decide
theorem lc_isDown (hI : INV S S h k) (h1 : hlP (pC_isDown S h k x y v) (pX_isDown S h k x y v) cdI r1 S1) : RLs S S1 ∧ ∀ r2 S2, pR_isDown S1 h k x y v r2 S2 → LCok S2 r1 r2 := by
  rcases h1 with ⟨rfl, w, T, hp, rfl⟩ | ⟨E, hp, hc⟩
  · obtain ⟨q, hq, ex, rfl, hw⟩ := hp
    refine ⟨fun q _ => rfl, fun r2 S2 h2 => ?_⟩
    rcases h2 with ⟨hn, -⟩ | ⟨q2, hq2, ex2, rfl, rfl⟩
    · exact absurd ⟨q, hq, ex⟩ ((inI_nex (N := 5) (by decide)).mp hn)
    · have e : q2 = q := nI_inj6 (by omega) (by omega) (ex2.symm.trans ex)
      subst e
      exact LC_q hI (hw.trans (INV_dw hI hq))
  · obtain ⟨rfl, rfl, hn⟩ := hp
    obtain ⟨-, rfl⟩ := hc
    refine ⟨RLs.refl, fun r2 S2 h2 => ?_⟩
    rcases h2 with ⟨-, rfl⟩ | ⟨q2, hq2, ex2, -, -⟩
    · exact LC_thr hI (by decide)
    · exact absurd ⟨q2, hq2, ex2⟩ hn
theorem lc_track (hI : INV S S h k) (h1 : hlP (pC_track S h k x y v) (pX_track S h k x y v) cdIA r1 S1) : RLs S S1 ∧ ∀ r2 S2, pR_track S1 h k x y v r2 S2 → LCok S2 r1 r2 := by
  rcases h1 with ⟨rfl, w, T, hp, rfl⟩ | ⟨E, hp, hc⟩
  · obtain ⟨t, q, ht, hq, ex, ev, rfl, hw⟩ := hp
    refine ⟨fun q _ => rfl, fun r2 S2 h2 => ?_⟩
    rcases h2 with ⟨hn, -⟩ | ⟨-, hn, -⟩ | ⟨t2, q2, ht2, hq2, ex2, ev2, rfl, rfl⟩
    · exact absurd ⟨t, ht, ex⟩ ((inI_nex (N := 5) (by decide)).mp hn)
    · exact absurd ⟨q, hq, ev⟩ ((inI_nex (N := 3) (by decide)).mp hn)
    · have e : t2 = t := nI_inj6 (by omega) (by omega) (ex2.symm.trans ex)
      subst e
      have e : q2 = q := nI_inj6 (by omega) (by omega) (ev2.symm.trans ev)
      subst e
      refine LC_q hI (hw.trans ?_)
      by_cases hd : dwR T t2 = true
      · rw [if_neg (fun h => (dwR_0 hI ht).mp h hd)]
        refine Eq.trans ?_ (if_pos hd).symm
        rw [INV_trk hI ht (by omega), Nat.add_comm q2 1]
        rfl
      · rw [if_pos ((dwR_0 hI ht).mpr hd)]
        exact (if_neg hd).symm
  · obtain ⟨rfl, hn⟩ := hp
    refine ⟨RLs.refl, fun r2 S2 h2 => ?_⟩
    rcases hc with ⟨hE, rfl⟩ | ⟨hE, rfl⟩
    · rcases hn with ⟨-, hn⟩ | ⟨hE2, -⟩
      · rcases h2 with ⟨-, rfl⟩ | ⟨hn2, -, -⟩ | ⟨t2, q2, ht2, hq2, ex2, ev2, -, -⟩
        · exact LC_thr hI (by decide)
        · exact absurd ((inI_ex (N := 5) (by decide)).mp hn2) hn
        · exact absurd ⟨t2, ht2, ex2⟩ hn
      · exact absurd (hE.symm.trans hE2) (by decide)
    · rcases hn with ⟨hE2, -⟩ | ⟨-, hn1, hn⟩
      · exact absurd (hE2.symm.trans hE) (by decide)
      · rcases h2 with ⟨hn2, -⟩ | ⟨-, -, rfl⟩ | ⟨t2, q2, ht2, hq2, ex2, ev2, -, -⟩
        · exact absurd hn1 ((inI_nex (N := 5) (by decide)).mp hn2)
        · exact LC_thr hI (by decide)
        · exact absurd ⟨q2, hq2, ev2⟩ hn
theorem lc_frames (hI : INV S S h k) (h1 : pC_frames S h k x y v r1 S1) : RLs S S1 ∧ ∀ r2 S2, pR_frames S1 h k x y v r2 S2 → LPok S2 r1 r2 := by
  obtain ⟨rfl, hr⟩ := h1
  refine ⟨RLs.refl, fun r2 S2 h2 => ?_⟩
  obtain ⟨rfl, rfl⟩ := h2
  exact LP_q hI (hr.trans (INV_cnt hI (by decide) (by decide)))
theorem lc_downs (hI : INV S S h k) (h1 : pC_downs S h k x y v r1 S1) : RLs S S1 ∧ ∀ r2 S2, pR_downs S1 h k x y v r2 S2 → LPok S2 r1 r2 := by
  obtain ⟨rfl, hr⟩ := h1
  refine ⟨RLs.refl, fun r2 S2 h2 => ?_⟩
  obtain ⟨rfl, rfl⟩ := h2
  exact LP_q hI (hr.trans (INV_cnt hI (by decide) (by decide)))
theorem lc_ups (hI : INV S S h k) (h1 : pC_ups S h k x y v r1 S1) : RLs S S1 ∧ ∀ r2 S2, pR_ups S1 h k x y v r2 S2 → LPok S2 r1 r2 := by
  obtain ⟨rfl, hr⟩ := h1
  refine ⟨RLs.refl, fun r2 S2 h2 => ?_⟩
  obtain ⟨rfl, rfl⟩ := h2
  exact LP_q hI (hr.trans (INV_cnt hI (by decide) (by decide)))
theorem lc_savedStates (hI : INV S S h k) (h1 : pC_savedStates S h k x y v r1 S1) : RLs S S1 ∧ ∀ r2 S2, pR_savedStates S1 h k x y v r2 S2 → LPok S2 r1 r2 := by
  obtain ⟨rfl, hr⟩ := h1
  refine ⟨RLs.refl, fun r2 S2 h2 => ?_⟩
  obtain ⟨rfl, rfl⟩ := h2
  exact LP_q hI (hr.trans (hI.2.1.1.trans hI.2.1.2.2.symm))
theorem lc_textLength (hI : INV S S h k) (h1 : pC_textLength S h k x y v r1 S1) : RLs S S1 ∧ ∀ r2 S2, pR_textLength S1 h k x y v r2 S2 → LPok S2 r1 r2 := by
  obtain ⟨rfl, hr⟩ := h1
  refine ⟨RLs.refl, fun r2 S2 h2 => ?_⟩
  obtain ⟨rfl, rfl⟩ := h2
  exact LP_q hI (hr.trans (hI.2.2.1.1.trans hI.2.2.1.2.1.symm))
theorem lc_clearText (hI : INV S S h k) (h1 : pC_clearText S h k x y v r1 S1) : RLs S S1 ∧ ∀ r2 S2, pR_clearText S1 h k x y v r2 S2 → LPok S2 r1 r2 := by
  obtain ⟨rfl, hr⟩ := h1
  refine ⟨fun q hq => mset_n (by omega), fun r2 S2 h2 => ?_⟩
  obtain ⟨rfl, hr2⟩ := h2
  have hr3 : r2 = S.1 130 4 := hr2.trans (by rw [mset_n (by decide)])
  have e1 : ∀ q, q ≠ 127 → (mset S 127 (upd (S.1 127) 1 0)).1 q = S.1 q := fun q hq => mset_n hq
  refine LP_mk (S1 := mset S 127 (upd (S.1 127) 1 0)) (h := h) (k := 0) rfl (fun q hq => (mupd_n (by omega)).trans (mupd_n (by omega))) ?_ (hr.trans ((hI.2.2.1.1.trans hI.2.2.1.2.1.symm).trans hr3.symm))
  obtain ⟨h1, ⟨h2, h3, h4⟩, -, h9, h10, h11, hz⟩ := hI
  refine ⟨h1, ⟨(congrFun (e1 25 (by decide)) 1).trans h2, h3, ?_⟩, ⟨?_, mupd_ss, by omega, fun j hj => absurd hj (by omega)⟩, fun j hj => ?_, ?_, fun i hi => ?_, fun s hs => (congrFun (e1 125 (by decide)) s).trans (hz s hs)⟩
  · rw [mupd_sn (by decide), mupd_sn (by decide), e1 130 (by decide)]; exact h4
  · rw [mset_s]; rfl
  · rw [mupd_n (by decide), mupd_n (by decide), e1 131 (by decide), cb_rows (S := S) (fun q g1 g2 => e1 q (by omega)) j hj]
    exact h9 j hj
  · rw [mupd_n (by decide), mupd_n (by decide), e1 131 (by decide)]; exact h10
  · have hp := mst_cases (h1.1 i (by omega)).1
    rw [mupd_n (by decide), mupd_n (by decide), e1 131 (by decide)]
    refine ⟨fun j hj => ?_, (h11 i hi).2⟩
    rw [cb_rows (S := S) (fun q g1 g2 => e1 q (by rw [mset_2] at g1 g2; omega)) j hj]
    exact (h11 i hi).1 j hj
end LCQ

