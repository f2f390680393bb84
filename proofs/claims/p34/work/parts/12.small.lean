theorem nF0 : tv_nF[0]? = some (RX6, 28, RX9, "FIRST_VALUES", "[I", "TouchTracker") := by decide +kernel
theorem nF1 : tv_nF[1]? = some (RX3, 42, (TX8 0).1, (TX8 0).2.1, (TX8 0).2.2.1, "TouchTracker") := by decide +kernel
theorem nF2 : tv_nF[2]? = some (RX6, 55, (TX8 0).1, (TX8 0).2.1, (TX8 0).2.2.1, "TouchTracker") := by decide +kernel
theorem nF3 : tv_nF[3]? = some (RX9, 210, (TX8 0).1, (TX8 0).2.1, (TX8 0).2.2.1, "TouchTracker") := by decide +kernel
theorem nF4 : tv_nF[4]? = some (RX5, 33, (TX6 0).1, (TX6 0).2.1, (TX6 0).2.2.1, "TouchTracker") := by decide +kernel
theorem nF5 : tv_nF[5]? = some (RX9, 76, (TX6 0).1, (TX6 0).2.1, (TX6 0).2.2.1, "TouchTracker") := by decide +kernel
theorem nF6 : tv_nF[6]? = some (RX5, 21, (TX6 1).1, (TX6 1).2.1, (TX6 1).2.2.1, "TouchTracker") := by decide +kernel
theorem nF7 : tv_nF[7]? = some (RX3, 33, (TX6 1).1, (TX6 1).2.1, (TX6 1).2.2.1, "TouchTracker") := by decide +kernel
theorem nF8 : tv_nF[8]? = some (RX9, 119, (TX6 1).1, (TX6 1).2.1, (TX6 1).2.2.1, "TouchTracker") := by decide +kernel
theorem nF9 : tv_nF[9]? = some (RX3, 38, (TX6 2).1, (TX6 2).2.1, (TX6 2).2.2.1, "TouchTracker") := by decide +kernel
theorem nF10 : tv_nF[10]? = some (RX9, 206, (TX6 2).1, (TX6 2).2.1, (TX6 2).2.2.1, "TouchTracker") := by decide +kernel
theorem nF11 : tv_nF[11]? = some (RX9, 242, (TX6 3).1, (TX6 3).2.1, (TX6 3).2.2.1, "TouchTracker") := by decide +kernel
theorem nF12 : tv_nF[12]? = some (RX9, 245, (TX6 4).1, (TX6 4).2.1, (TX6 4).2.2.1, "TouchTracker") := by decide +kernel
theorem nF13 : tv_nF[13]? = some (RX9, 248, (TX6 5).1, (TX6 5).2.1, (TX6 5).2.2.1, "TouchTracker") := by decide +kernel
theorem nF14 : tv_nF[14]? = some (RX9, 165, (TX2 1).1, (TX2 1).2.1, (TX2 1).2.2.1, "TouchTracker") := by decide +kernel
theorem nF15 : tv_nF[15]? = some (RX3, 26, (TX1 5).1, (TX1 5).2.1, (TX1 5).2.2.1, "TouchTracker") := by decide +kernel
theorem nF16 : tv_nF[16]? = some (RX6, 96, (TX1 5).1, (TX1 5).2.1, (TX1 5).2.2.1, "TouchTracker") := by decide +kernel
theorem nF17 : tv_nF[17]? = some (RX9, 193, (TX1 5).1, (TX1 5).2.1, (TX1 5).2.2.1, "TouchTracker") := by decide +kernel
theorem nM0 : tv_nM[0]? = some (RX6, 11, yX4_init, "TouchTracker") := by decide +kernel
theorem nM1 : tv_nM[1]? = some (RX6, 37, yX8_init, "TouchTracker") := by decide +kernel
theorem nM2 : tv_nM[2]? = some (RX9, 28, yX5_init, "TouchTracker") := by decide +kernel
theorem nM3 : tv_nM[3]? = some (RX9, 35, yX1_init, "TouchTracker") := by decide +kernel
theorem nM4 : tv_nM[4]? = some (RX9, 42, yX3_init, "TouchTracker") := by decide +kernel
theorem nM5 : tv_nM[5]? = some (RX9, 49, yX7_init, "TouchTracker") := by decide +kernel
theorem nM6 : tv_nM[6]? = some (RX9, 56, yX0_init, "TouchTracker") := by decide +kernel
theorem nM7 : tv_nM[7]? = some (RX5, 55, yX9_isCell, "TouchTracker") := by decide +kernel
theorem nM8 : tv_nM[8]? = some (RX4, 22, yX9_isOnPanel, "TouchTracker") := by decide +kernel
theorem nM9 : tv_nM[9]? = some (RX4, 26, yX9_cellAt, "TouchTracker") := by decide +kernel
theorem nM10 : tv_nM[10]? = some (RX1, 61, yX9_cellAt, "TouchTracker") := by decide +kernel
theorem nM11 : tv_nM[11]? = some (RX1, 64, yX9_isCell, "TouchTracker") := by decide +kernel
theorem nM12 : tv_nM[12]? = some (RX4, 18, yX9_isCell, "TouchTracker") := by decide +kernel
abbrev rmL_acts : Room := { frames := 8, cells := 1, slots := 48, locals := 190 }
abbrev rmL_bits : Room := { frames := 0, cells := 0, slots := 0, locals := 0 }
abbrev rmL_cell : Room := { frames := 0, cells := 0, slots := 0, locals := 0 }
abbrev rmL_downSet : Room := { frames := 2, cells := 0, slots := 0, locals := 41 }
abbrev rmL_holds : Room := { frames := 6, cells := 0, slots := 0, locals := 140 }
abbrev rmL_isMatched : Room := { frames := 7, cells := 1, slots := 6, locals := 159 }
abbrev rmL_presses : Room := { frames := 5, cells := 1, slots := 48, locals := 147 }
abbrev rmL_scans : Room := { frames := 7, cells := 1, slots := 18, locals := 159 }
abbrev rmL_told : Room := { frames := 6, cells := 0, slots := 0, locals := 138 }
abbrev rmL_up : Room := { frames := 0, cells := 0, slots := 0, locals := 0 }
abbrev rmX0_init : Room := { frames := 1, cells := 0, slots := 0, locals := 20 }
abbrev rmX1_add : Room := { frames := 2, cells := 0, slots := 0, locals := 44 }
abbrev rmX1_columnOf : Room := { frames := 1, cells := 0, slots := 0, locals := 21 }
abbrev rmX1_find : Room := { frames := 3, cells := 0, slots := 0, locals := 74 }
abbrev rmX1_heavierThan : Room := { frames := 1, cells := 0, slots := 0, locals := 20 }
abbrev rmX1_init : Room := { frames := 1, cells := 5, slots := 72, locals := 20 }
abbrev rmX1_isContact : Room := { frames := 0, cells := 0, slots := 0, locals := 0 }
abbrev rmX1_isPeak : Room := { frames := 2, cells := 0, slots := 0, locals := 44 }
abbrev rmX1_massAround : Room := { frames := 2, cells := 0, slots := 0, locals := 44 }
abbrev rmX1_partOf : Room := { frames := 1, cells := 0, slots := 0, locals := 21 }
abbrev rmX1_rowOf : Room := { frames := 1, cells := 0, slots := 0, locals := 21 }
abbrev rmX2_dropOldest : Room := { frames := 0, cells := 0, slots := 0, locals := 0 }
abbrev rmX2_init : Room := { frames := 3, cells := 73, slots := 876, locals := 81 }
abbrev rmX2_restore : Room := { frames := 3, cells := 0, slots := 0, locals := 103 }
abbrev rmX2_save : Room := { frames := 3, cells := 0, slots := 0, locals := 103 }
abbrev rmX3_assign : Room := { frames := 2, cells := 0, slots := 0, locals := 46 }
abbrev rmX3_canTake : Room := { frames := 0, cells := 0, slots := 0, locals := 0 }
abbrev rmX3_contactOf : Room := { frames := 0, cells := 0, slots := 0, locals := 0 }
abbrev rmX3_costWith : Room := { frames := 0, cells := 0, slots := 0, locals := 0 }
abbrev rmX3_find : Room := { frames := 3, cells := 0, slots := 0, locals := 67 }
abbrev rmX3_firstBest : Room := { frames := 1, cells := 0, slots := 0, locals := 23 }
abbrev rmX3_init : Room := { frames := 1, cells := 17, slots := 509, locals := 20 }
abbrev rmX3_leastCost : Room := { frames := 1, cells := 0, slots := 0, locals := 23 }
abbrev rmX3_nextUnassigned : Room := { frames := 0, cells := 0, slots := 0, locals := 0 }
abbrev rmX3_pairCost : Room := { frames := 2, cells := 0, slots := 0, locals := 42 }
abbrev rmX3_wholeCost : Room := { frames := 0, cells := 0, slots := 0, locals := 0 }
abbrev rmX4_clearRaw : Room := { frames := 0, cells := 0, slots := 0, locals := 0 }
abbrev rmX4_copyFrom : Room := { frames := 1, cells := 0, slots := 0, locals := 60 }
abbrev rmX4_init : Room := { frames := 1, cells := 2, slots := 96, locals := 20 }
abbrev rmX4_pressAt : Room := { frames := 2, cells := 0, slots := 0, locals := 46 }
abbrev rmX4_raise : Room := { frames := 1, cells := 0, slots := 0, locals := 21 }
abbrev rmX4_rawOf : Room := { frames := 1, cells := 0, slots := 0, locals := 20 }
abbrev rmX4_replaceRaw : Room := { frames := 1, cells := 0, slots := 0, locals := 20 }
abbrev rmX4_signalAt : Room := { frames := 1, cells := 0, slots := 0, locals := 22 }
abbrev rmX4_signalOf : Room := { frames := 0, cells := 0, slots := 0, locals := 0 }
abbrev rmX4_takeBaselines : Room := { frames := 0, cells := 0, slots := 0, locals := 0 }
abbrev rmX5_countOf : Room := { frames := 2, cells := 0, slots := 0, locals := 42 }
abbrev rmX5_find : Room := { frames := 3, cells := 0, slots := 0, locals := 66 }
abbrev rmX5_init : Room := { frames := 1, cells := 3, slots := 144, locals := 20 }
abbrev rmX5_join : Room := { frames := 1, cells := 0, slots := 0, locals := 20 }
abbrev rmX5_joinAll : Room := { frames := 2, cells := 0, slots := 0, locals := 44 }
abbrev rmX5_kindAround : Room := { frames := 1, cells := 0, slots := 0, locals := 20 }
abbrev rmX5_measure : Room := { frames := 1, cells := 0, slots := 0, locals := 22 }
abbrev rmX5_sizeAround : Room := { frames := 1, cells := 0, slots := 0, locals := 20 }
abbrev rmX6_copyFrom : Room := { frames := 2, cells := 0, slots := 0, locals := 81 }
abbrev rmX6_downSet : Room := { frames := 0, cells := 0, slots := 0, locals := 0 }
abbrev rmX6_init : Room := { frames := 2, cells := 11, slots := 139, locals := 60 }
abbrev rmX6_moveTracks : Room := { frames := 2, cells := 0, slots := 0, locals := 42 }
abbrev rmX6_startTracks : Room := { frames := 2, cells := 0, slots := 0, locals := 42 }
abbrev rmX6_takeFrame : Room := { frames := 3, cells := 0, slots := 0, locals := 67 }
abbrev rmX7_init : Room := { frames := 1, cells := 1, slots := 80, locals := 20 }
abbrev rmX8_copyFrom : Room := { frames := 0, cells := 0, slots := 0, locals := 0 }
abbrev rmX8_follow : Room := { frames := 0, cells := 0, slots := 0, locals := 0 }
abbrev rmX8_goDown : Room := { frames := 0, cells := 0, slots := 0, locals := 0 }
abbrev rmX8_init : Room := { frames := 1, cells := 0, slots := 0, locals := 20 }
abbrev rmX8_miss : Room := { frames := 0, cells := 0, slots := 0, locals := 0 }
abbrev rmX8_partOf : Room := { frames := 0, cells := 0, slots := 0, locals := 0 }
abbrev rmX8_squaredWayTo : Room := { frames := 0, cells := 0, slots := 0, locals := 0 }
abbrev rmX9_calibrate : Room := { frames := 4, cells := 0, slots := 0, locals := 124 }
abbrev rmX9_cellAt : Room := { frames := 0, cells := 0, slots := 0, locals := 0 }
abbrev rmX9_contact : Room := { frames := 5, cells := 0, slots := 0, locals := 118 }
abbrev rmX9_contacts : Room := { frames := 5, cells := 0, slots := 0, locals := 118 }
abbrev rmX9_downIfScanned : Room := { frames := 5, cells := 0, slots := 0, locals := 119 }
abbrev rmX9_downs : Room := { frames := 0, cells := 0, slots := 0, locals := 0 }
abbrev rmX9_findContacts : Room := { frames := 4, cells := 0, slots := 0, locals := 98 }
abbrev rmX9_findMatching : Room := { frames := 5, cells := 0, slots := 0, locals := 118 }
abbrev rmX9_frames : Room := { frames := 0, cells := 0, slots := 0, locals := 0 }
abbrev rmX9_init : Room := { frames := 4, cells := 129, slots := 1997, locals := 102 }
abbrev rmX9_isCell : Room := { frames := 0, cells := 0, slots := 0, locals := 0 }
abbrev rmX9_isDown : Room := { frames := 1, cells := 0, slots := 0, locals := 20 }
abbrev rmX9_isOnPanel : Room := { frames := 0, cells := 0, slots := 0, locals := 0 }
abbrev rmX9_match : Room := { frames := 6, cells := 0, slots := 0, locals := 138 }
abbrev rmX9_matchingCost : Room := { frames := 6, cells := 0, slots := 0, locals := 138 }
abbrev rmX9_meanSignal : Room := { frames := 1, cells := 0, slots := 0, locals := 22 }
abbrev rmX9_press : Room := { frames := 4, cells := 0, slots := 0, locals := 124 }
abbrev rmX9_raw : Room := { frames := 2, cells := 0, slots := 0, locals := 42 }
abbrev rmX9_regionKind : Room := { frames := 4, cells := 0, slots := 0, locals := 89 }
abbrev rmX9_regionSize : Room := { frames := 4, cells := 0, slots := 0, locals := 89 }
abbrev rmX9_regions : Room := { frames := 4, cells := 0, slots := 0, locals := 89 }
abbrev rmX9_release : Room := { frames := 4, cells := 0, slots := 0, locals := 124 }
abbrev rmX9_requireCell : Room := { frames := 1, cells := 0, slots := 0, locals := 21 }
abbrev rmX9_requireContactNumber : Room := { frames := 0, cells := 0, slots := 0, locals := 0 }
abbrev rmX9_requirePart : Room := { frames := 0, cells := 0, slots := 0, locals := 0 }
abbrev rmX9_requireSetting : Room := { frames := 0, cells := 0, slots := 0, locals := 0 }
abbrev rmX9_requireTrack : Room := { frames := 0, cells := 0, slots := 0, locals := 0 }
abbrev rmX9_savedStates : Room := { frames := 0, cells := 0, slots := 0, locals := 0 }
abbrev rmX9_scan : Room := { frames := 5, cells := 0, slots := 0, locals := 124 }
abbrev rmX9_scanFrame : Room := { frames := 4, cells := 0, slots := 0, locals := 98 }
abbrev rmX9_set : Room := { frames := 4, cells := 0, slots := 0, locals := 124 }
abbrev rmX9_setRaw : Room := { frames := 4, cells := 0, slots := 0, locals := 124 }
abbrev rmX9_setting : Room := { frames := 1, cells := 0, slots := 0, locals := 20 }
abbrev rmX9_signal : Room := { frames := 2, cells := 0, slots := 0, locals := 42 }
abbrev rmX9_squaredDistance : Room := { frames := 5, cells := 0, slots := 0, locals := 118 }
abbrev rmX9_track : Room := { frames := 1, cells := 0, slots := 0, locals := 21 }
abbrev rmX9_undo : Room := { frames := 4, cells := 0, slots := 0, locals := 124 }
abbrev rmX9_ups : Room := { frames := 0, cells := 0, slots := 0, locals := 0 }
theorem ix_no {x : Int32} {N : Nat} (hN : N < 2 ^ 31) (h : x < 0 ∨ nI N ≤ x) : ¬ ∃ j, j < N ∧ x = nI j := by
  rintro ⟨j, hj, rfl⟩
  rcases h with h | h
  · exact nI_pos (Nat.lt_trans hj hN) h
  · exact nI_ge hj hN h
theorem ix_yes {x : Int32} {N : Nat} (hN : N < 2 ^ 31) (h1 : ¬ x < 0) (h2 : ¬ nI N ≤ x) : ∃ j, j < N ∧ x = nI j := by
  rcases pk_ix x hN with h | h | h
  · exact absurd h h1
  · exact absurd h h2
  · exact h
section C12
variable {l : Launch} {D : va_G} {n0 : Nat} {ft : tv_ft} {n : Nat} {S : mS}
theorem cX9_isCell_ok (x : Int32) : mMi l yX9_isCell wsX9_isCell rmX9_isCell D n0 ft [.int x] n S (fun r S' => S' = S ∧ ((r = 1 ∧ ∃ j, j < 48 ∧ x = nI j) ∨ (r = 0 ∧ ¬ ∃ j, j < 48 ∧ x = nI j))) := by
  refine tv_enter (cc := cX9_isCell) (maxL := 1) (ret := (some .boolean)) (by decide) rfl (Nat.le_of_ble_eq_true rfl) ?_
  intro p e s m args below meth c X hrt hnm hargs
  refine tv_iload_n X dX9_isCell_0 rfl ?_
  refine tv_if_lt (tgt := 14) X dX9_isCell_1 (by decide) (fun h1 => ?_) (fun h1 => ?_)
  · refine tv_iconst (v := 0) X dX9_isCell_14 (by decide) ?_
    exact tv_zret X hrt dX9_isCell_15 rfl ⟨S, rfl, rfl, Or.inr ⟨rfl, ix_no (by decide) (Or.inl h1)⟩⟩
  · refine tv_iload_n X dX9_isCell_4 rfl ?_
    refine tv_bipush (v := 48) X dX9_isCell_5 (by decide) ?_
    refine tv_icmp_ge (tgt := 14) X dX9_isCell_7 (by decide) (fun h2 => ?_) (fun h2 => ?_)
    · refine tv_iconst (v := 0) X dX9_isCell_14 (by decide) ?_
      exact tv_zret X hrt dX9_isCell_15 rfl ⟨S, rfl, rfl, Or.inr ⟨rfl, ix_no (by decide) (Or.inr h2)⟩⟩
    · refine tv_iconst (v := 1) X dX9_isCell_10 (by decide) ?_
      refine tv_goto (tgt := 15) X dX9_isCell_11 (by decide) ?_
      exact tv_zret X hrt dX9_isCell_15 rfl ⟨S, rfl, rfl, Or.inl ⟨rfl, ix_yes (by decide) h1 h2⟩⟩
theorem cX9_isCell_in {j : Nat} (hj : j < 48) : mMi l yX9_isCell wsX9_isCell rmX9_isCell D n0 ft [.int (nI j)] n S (fun r S' => S' = S ∧ r = 1) := by
  refine tv_enter (cc := cX9_isCell) (maxL := 1) (ret := (some .boolean)) (by decide) rfl (Nat.le_of_ble_eq_true rfl) ?_
  intro p e s m args below meth c X hrt hnm hargs
  refine tv_iload_n X dX9_isCell_0 rfl ?_
  refine tv_if_lt (tgt := 14) X dX9_isCell_1 (by decide) (fun h1 => ?_) (fun h1 => ?_)
  · exact absurd h1 (nI_pos (by omega))
  · refine tv_iload_n X dX9_isCell_4 rfl ?_
    refine tv_bipush (v := 48) X dX9_isCell_5 (by decide) ?_
    refine tv_icmp_ge (tgt := 14) X dX9_isCell_7 (by decide) (fun h2 => ?_) (fun h2 => ?_)
    · exact absurd h2 (nI_ge (a := j) (b := 48) hj (by decide))
    · refine tv_iconst (v := 1) X dX9_isCell_10 (by decide) ?_
      refine tv_goto (tgt := 15) X dX9_isCell_11 (by decide) ?_
      exact tv_zret X hrt dX9_isCell_15 rfl ⟨S, rfl, rfl, rfl⟩
theorem cX9_isOnPanel_ok (x y : Int32) : mMi l yX9_isOnPanel wsX9_isOnPanel rmX9_isOnPanel D n0 ft [.int x, .int y] n S (fun r S' => S' = S ∧ ((r = 1 ∧ (∃ j, j < 8 ∧ x = nI j) ∧ ∃ j, j < 6 ∧ y = nI j) ∨ (r = 0 ∧ ¬ ((∃ j, j < 8 ∧ x = nI j) ∧ ∃ j, j < 6 ∧ y = nI j)))) := by
  refine tv_enter (cc := cX9_isOnPanel) (maxL := 2) (ret := (some .boolean)) (by decide) rfl (Nat.le_of_ble_eq_true rfl) ?_
  intro p e s m args below meth c X hrt hnm hargs
  refine tv_iload_n X dX9_isOnPanel_0 rfl ?_
  refine tv_if_lt (tgt := 24) X dX9_isOnPanel_1 (by decide) (fun h1 => ?_) (fun h1 => ?_)
  · refine tv_iconst (v := 0) X dX9_isOnPanel_24 (by decide) ?_
    exact tv_zret X hrt dX9_isOnPanel_25 rfl ⟨S, rfl, rfl, Or.inr ⟨rfl, fun q => ix_no (by decide) (Or.inl h1) q.1⟩⟩
  · refine tv_iload_n X dX9_isOnPanel_4 rfl ?_
    refine tv_bipush (v := 8) X dX9_isOnPanel_5 (by decide) ?_
    refine tv_icmp_ge (tgt := 24) X dX9_isOnPanel_7 (by decide) (fun h2 => ?_) (fun h2 => ?_)
    · refine tv_iconst (v := 0) X dX9_isOnPanel_24 (by decide) ?_
      exact tv_zret X hrt dX9_isOnPanel_25 rfl ⟨S, rfl, rfl, Or.inr ⟨rfl, fun q => ix_no (by decide) (Or.inr h2) q.1⟩⟩
    · refine tv_iload_n X dX9_isOnPanel_10 rfl ?_
      refine tv_if_lt (tgt := 24) X dX9_isOnPanel_11 (by decide) (fun h3 => ?_) (fun h3 => ?_)
      · refine tv_iconst (v := 0) X dX9_isOnPanel_24 (by decide) ?_
        exact tv_zret X hrt dX9_isOnPanel_25 rfl ⟨S, rfl, rfl, Or.inr ⟨rfl, fun q => ix_no (by decide) (Or.inl h3) q.2⟩⟩
      · refine tv_iload_n X dX9_isOnPanel_14 rfl ?_
        refine tv_bipush (v := 6) X dX9_isOnPanel_15 (by decide) ?_
        refine tv_icmp_ge (tgt := 24) X dX9_isOnPanel_17 (by decide) (fun h4 => ?_) (fun h4 => ?_)
        · refine tv_iconst (v := 0) X dX9_isOnPanel_24 (by decide) ?_
          exact tv_zret X hrt dX9_isOnPanel_25 rfl ⟨S, rfl, rfl, Or.inr ⟨rfl, fun q => ix_no (by decide) (Or.inr h4) q.2⟩⟩
        · refine tv_iconst (v := 1) X dX9_isOnPanel_20 (by decide) ?_
          refine tv_goto (tgt := 25) X dX9_isOnPanel_21 (by decide) ?_
          exact tv_zret X hrt dX9_isOnPanel_25 rfl ⟨S, rfl, rfl, Or.inl ⟨rfl, ix_yes (by decide) h1 h2, ix_yes (by decide) h3 h4⟩⟩
theorem cX9_cellAt_ok (x y : Int32) : mMi l yX9_cellAt wsX9_cellAt rmX9_cellAt D n0 ft [.int x, .int y] n S (fun r S' => S' = S ∧ r = 6 * x + y) := by
  refine tv_enter (cc := cX9_cellAt) (maxL := 2) (ret := (some .int)) (by decide) rfl (Nat.le_of_ble_eq_true rfl) ?_
  intro p e s m args below meth c X hrt hnm hargs
  refine tv_bipush (v := 6) X dX9_cellAt_0 (by decide) ?_
  refine tv_iload_n X dX9_cellAt_2 rfl ?_
  refine tv_imul X dX9_cellAt_3 ?_
  refine tv_iload_n X dX9_cellAt_4 rfl ?_
  refine tv_iadd X dX9_cellAt_5 ?_
  exact tv_iret X hrt dX9_cellAt_6 ⟨S, rfl, rfl, rfl⟩
end C12

