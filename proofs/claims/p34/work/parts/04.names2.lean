theorem dX3_assign_61 : decode cX3_assign 61 = .ok (.return_, 1) := by decide +kernel
set_option maxRecDepth 20000 in
theorem ggX3_firstBest_X3_canTake : GoodIn wsX3_firstBest wsX3_canTake := goodIn_r _ [7, 8, 13, 14, 15, 16, 17, 18] (by decide +kernel) (by decide +kernel)
set_option maxRecDepth 20000 in
theorem gX3_firstBest_X3_canTake : GoodIn wsX3_firstBest (wsV RX3 69 RX3 yX3_canTake wsX3_canTake) := goodIn_app (goodIn_of _ (by decide +kernel)) ggX3_firstBest_X3_canTake
set_option maxRecDepth 20000 in
theorem ggX3_firstBest_X3_costWith : GoodIn wsX3_firstBest wsX3_costWith := goodIn_r _ [12, 8, 2, 13, 14, 15, 16, 17, 18] (by decide +kernel) (by decide +kernel)
set_option maxRecDepth 20000 in
theorem gX3_firstBest_X3_costWith : GoodIn wsX3_firstBest (wsV RX3 73 RX3 yX3_costWith wsX3_costWith) := goodIn_app (goodIn_of _ (by decide +kernel)) ggX3_firstBest_X3_costWith
theorem dX3_firstBest_0 : decode cX3_firstBest 0 = .ok (.iconst 0, 1) := by decide +kernel
theorem dX3_firstBest_1 : decode cX3_firstBest 1 = .ok (.istore_n 3, 1) := by decide +kernel
theorem dX3_firstBest_2 : decode cX3_firstBest 2 = .ok (.iload_n 3, 1) := by decide +kernel
theorem dX3_firstBest_3 : decode cX3_firstBest 3 = .ok (.aload_n 0, 1) := by decide +kernel
theorem dX3_firstBest_4 : decode cX3_firstBest 4 = .ok (.getfield 32, 3) := by decide +kernel
theorem dX3_firstBest_7 : decode cX3_firstBest 7 = .ok (.if_icmp .ge 39, 3) := by decide +kernel
theorem dX3_firstBest_10 : decode cX3_firstBest 10 = .ok (.aload_n 0, 1) := by decide +kernel
theorem dX3_firstBest_11 : decode cX3_firstBest 11 = .ok (.iload_n 1, 1) := by decide +kernel
theorem dX3_firstBest_12 : decode cX3_firstBest 12 = .ok (.iload_n 3, 1) := by decide +kernel
theorem dX3_firstBest_13 : decode cX3_firstBest 13 = .ok (.iload_n 2, 1) := by decide +kernel
theorem dX3_firstBest_14 : decode cX3_firstBest 14 = .ok (.invokevirtual 69, 3) := by decide +kernel
theorem dX3_firstBest_17 : decode cX3_firstBest 17 = .ok (.ifCond .eq 23, 3) := by decide +kernel
theorem dX3_firstBest_20 : decode cX3_firstBest 20 = .ok (.aload_n 0, 1) := by decide +kernel
theorem dX3_firstBest_21 : decode cX3_firstBest 21 = .ok (.iload_n 1, 1) := by decide +kernel
theorem dX3_firstBest_22 : decode cX3_firstBest 22 = .ok (.iload_n 3, 1) := by decide +kernel
theorem dX3_firstBest_23 : decode cX3_firstBest 23 = .ok (.iload_n 2, 1) := by decide +kernel
theorem dX3_firstBest_24 : decode cX3_firstBest 24 = .ok (.invokevirtual 73, 3) := by decide +kernel
theorem dX3_firstBest_27 : decode cX3_firstBest 27 = .ok (.aload_n 0, 1) := by decide +kernel
theorem dX3_firstBest_28 : decode cX3_firstBest 28 = .ok (.getfield 20, 3) := by decide +kernel
theorem dX3_firstBest_31 : decode cX3_firstBest 31 = .ok (.iload_n 1, 1) := by decide +kernel
theorem dX3_firstBest_32 : decode cX3_firstBest 32 = .ok (.aaload, 1) := by decide +kernel
theorem dX3_firstBest_33 : decode cX3_firstBest 33 = .ok (.iload_n 2, 1) := by decide +kernel
theorem dX3_firstBest_34 : decode cX3_firstBest 34 = .ok (.iaload, 1) := by decide +kernel
theorem dX3_firstBest_35 : decode cX3_firstBest 35 = .ok (.if_icmp .ne 5, 3) := by decide +kernel
theorem dX3_firstBest_38 : decode cX3_firstBest 38 = .ok (.iload_n 3, 1) := by decide +kernel
theorem dX3_firstBest_39 : decode cX3_firstBest 39 = .ok (.ireturn, 1) := by decide +kernel
theorem dX3_firstBest_40 : decode cX3_firstBest 40 = .ok (.iinc 3 1, 3) := by decide +kernel
theorem dX3_firstBest_43 : decode cX3_firstBest 43 = .ok (.goto (-41), 3) := by decide +kernel
theorem dX3_firstBest_46 : decode cX3_firstBest 46 = .ok (.iconst (-1), 1) := by decide +kernel
theorem dX3_firstBest_47 : decode cX3_firstBest 47 = .ok (.ireturn, 1) := by decide +kernel
theorem dX3_contactOf_0 : decode cX3_contactOf 0 = .ok (.iload_n 1, 1) := by decide +kernel
theorem dX3_contactOf_1 : decode cX3_contactOf 1 = .ok (.ifCond .lt 18, 3) := by decide +kernel
theorem dX3_contactOf_4 : decode cX3_contactOf 4 = .ok (.iload_n 1, 1) := by decide +kernel
theorem dX3_contactOf_5 : decode cX3_contactOf 5 = .ok (.bipush 6, 2) := by decide +kernel
theorem dX3_contactOf_7 : decode cX3_contactOf 7 = .ok (.if_icmp .ge 12, 3) := by decide +kernel
theorem dX3_contactOf_10 : decode cX3_contactOf 10 = .ok (.aload_n 0, 1) := by decide +kernel
theorem dX3_contactOf_11 : decode cX3_contactOf 11 = .ok (.getfield 23, 3) := by decide +kernel
theorem dX3_contactOf_14 : decode cX3_contactOf 14 = .ok (.iload_n 1, 1) := by decide +kernel
theorem dX3_contactOf_15 : decode cX3_contactOf 15 = .ok (.iaload, 1) := by decide +kernel
theorem dX3_contactOf_16 : decode cX3_contactOf 16 = .ok (.goto 4, 3) := by decide +kernel
theorem dX3_contactOf_19 : decode cX3_contactOf 19 = .ok (.iconst (-1), 1) := by decide +kernel
theorem dX3_contactOf_20 : decode cX3_contactOf 20 = .ok (.ireturn, 1) := by decide +kernel
theorem dX3_wholeCost_0 : decode cX3_wholeCost 0 = .ok (.aload_n 0, 1) := by decide +kernel
theorem dX3_wholeCost_1 : decode cX3_wholeCost 1 = .ok (.getfield 20, 3) := by decide +kernel
theorem dX3_wholeCost_4 : decode cX3_wholeCost 4 = .ok (.iconst 0, 1) := by decide +kernel
theorem dX3_wholeCost_5 : decode cX3_wholeCost 5 = .ok (.aaload, 1) := by decide +kernel
theorem dX3_wholeCost_6 : decode cX3_wholeCost 6 = .ok (.iconst 0, 1) := by decide +kernel
theorem dX3_wholeCost_7 : decode cX3_wholeCost 7 = .ok (.iaload, 1) := by decide +kernel
theorem dX3_wholeCost_8 : decode cX3_wholeCost 8 = .ok (.ireturn, 1) := by decide +kernel
theorem dX3_nextUnassigned_0 : decode cX3_nextUnassigned 0 = .ok (.iload_n 1, 1) := by decide +kernel
theorem dX3_nextUnassigned_1 : decode cX3_nextUnassigned 1 = .ok (.istore_n 2, 1) := by decide +kernel
theorem dX3_nextUnassigned_2 : decode cX3_nextUnassigned 2 = .ok (.iload_n 2, 1) := by decide +kernel
theorem dX3_nextUnassigned_3 : decode cX3_nextUnassigned 3 = .ok (.aload_n 0, 1) := by decide +kernel
theorem dX3_nextUnassigned_4 : decode cX3_nextUnassigned 4 = .ok (.getfield 32, 3) := by decide +kernel
theorem dX3_nextUnassigned_7 : decode cX3_nextUnassigned 7 = .ok (.if_icmp .ge 22, 3) := by decide +kernel
theorem dX3_nextUnassigned_10 : decode cX3_nextUnassigned 10 = .ok (.aload_n 0, 1) := by decide +kernel
theorem dX3_nextUnassigned_11 : decode cX3_nextUnassigned 11 = .ok (.getfield 77, 3) := by decide +kernel
theorem dX3_nextUnassigned_14 : decode cX3_nextUnassigned 14 = .ok (.iconst 1, 1) := by decide +kernel
theorem dX3_nextUnassigned_15 : decode cX3_nextUnassigned 15 = .ok (.iload_n 2, 1) := by decide +kernel
theorem dX3_nextUnassigned_16 : decode cX3_nextUnassigned 16 = .ok (.ishl, 1) := by decide +kernel
theorem dX3_nextUnassigned_17 : decode cX3_nextUnassigned 17 = .ok (.iand, 1) := by decide +kernel
theorem dX3_nextUnassigned_18 : decode cX3_nextUnassigned 18 = .ok (.ifCond .ne 5, 3) := by decide +kernel
theorem dX3_nextUnassigned_21 : decode cX3_nextUnassigned 21 = .ok (.iload_n 2, 1) := by decide +kernel
theorem dX3_nextUnassigned_22 : decode cX3_nextUnassigned 22 = .ok (.ireturn, 1) := by decide +kernel
theorem dX3_nextUnassigned_23 : decode cX3_nextUnassigned 23 = .ok (.iinc 2 1, 3) := by decide +kernel
theorem dX3_nextUnassigned_26 : decode cX3_nextUnassigned 26 = .ok (.goto (-24), 3) := by decide +kernel
theorem dX3_nextUnassigned_29 : decode cX3_nextUnassigned 29 = .ok (.aload_n 0, 1) := by decide +kernel
theorem dX3_nextUnassigned_30 : decode cX3_nextUnassigned 30 = .ok (.getfield 32, 3) := by decide +kernel
theorem dX3_nextUnassigned_33 : decode cX3_nextUnassigned 33 = .ok (.ireturn, 1) := by decide +kernel
theorem dX4_init_0 : decode cX4_init 0 = .ok (.aload_n 0, 1) := by decide +kernel
theorem dX4_init_1 : decode cX4_init 1 = .ok (.invokespecial 3, 3) := by decide +kernel
theorem dX4_init_4 : decode cX4_init 4 = .ok (.aload_n 0, 1) := by decide +kernel
theorem dX4_init_5 : decode cX4_init 5 = .ok (.bipush 48, 2) := by decide +kernel
theorem dX4_init_7 : decode cX4_init 7 = .ok (.newarray .int, 2) := by decide +kernel
theorem dX4_init_9 : decode cX4_init 9 = .ok (.putfield 9, 3) := by decide +kernel
theorem dX4_init_12 : decode cX4_init 12 = .ok (.aload_n 0, 1) := by decide +kernel
theorem dX4_init_13 : decode cX4_init 13 = .ok (.bipush 48, 2) := by decide +kernel
theorem dX4_init_15 : decode cX4_init 15 = .ok (.newarray .int, 2) := by decide +kernel
theorem dX4_init_17 : decode cX4_init 17 = .ok (.putfield 15, 3) := by decide +kernel
theorem dX4_init_20 : decode cX4_init 20 = .ok (.return_, 1) := by decide +kernel
set_option maxRecDepth 20000 in
theorem ggX4_rawOf_X9_isCell : GoodIn wsX4_rawOf wsX9_isCell := goodIn_r _ [4] (by decide +kernel) (by decide +kernel)
set_option maxRecDepth 20000 in
theorem gX4_rawOf_X9_isCell_n18 : GoodIn wsX4_rawOf (wsX9_isCell) := ggX4_rawOf_X9_isCell
theorem dX4_rawOf_0 : decode cX4_rawOf 0 = .ok (.iload_n 1, 1) := by decide +kernel
theorem dX4_rawOf_1 : decode cX4_rawOf 1 = .ok (.invokestatic 18, 3) := by decide +kernel
theorem dX4_rawOf_4 : decode cX4_rawOf 4 = .ok (.ifCond .eq 12, 3) := by decide +kernel
theorem dX4_rawOf_7 : decode cX4_rawOf 7 = .ok (.aload_n 0, 1) := by decide +kernel
theorem dX4_rawOf_8 : decode cX4_rawOf 8 = .ok (.getfield 9, 3) := by decide +kernel
theorem dX4_rawOf_11 : decode cX4_rawOf 11 = .ok (.iload_n 1, 1) := by decide +kernel
theorem dX4_rawOf_12 : decode cX4_rawOf 12 = .ok (.iaload, 1) := by decide +kernel
theorem dX4_rawOf_13 : decode cX4_rawOf 13 = .ok (.goto 4, 3) := by decide +kernel
theorem dX4_rawOf_16 : decode cX4_rawOf 16 = .ok (.iconst 0, 1) := by decide +kernel
theorem dX4_rawOf_17 : decode cX4_rawOf 17 = .ok (.ireturn, 1) := by decide +kernel
theorem dX4_signalOf_0 : decode cX4_signalOf 0 = .ok (.iload_n 1, 1) := by decide +kernel
theorem dX4_signalOf_1 : decode cX4_signalOf 1 = .ok (.ifCond .lt 25, 3) := by decide +kernel
theorem dX4_signalOf_4 : decode cX4_signalOf 4 = .ok (.iload_n 1, 1) := by decide +kernel
theorem dX4_signalOf_5 : decode cX4_signalOf 5 = .ok (.bipush 48, 2) := by decide +kernel
theorem dX4_signalOf_7 : decode cX4_signalOf 7 = .ok (.if_icmp .ge 19, 3) := by decide +kernel
theorem dX4_signalOf_10 : decode cX4_signalOf 10 = .ok (.aload_n 0, 1) := by decide +kernel
theorem dX4_signalOf_11 : decode cX4_signalOf 11 = .ok (.getfield 9, 3) := by decide +kernel
theorem dX4_signalOf_14 : decode cX4_signalOf 14 = .ok (.iload_n 1, 1) := by decide +kernel
theorem dX4_signalOf_15 : decode cX4_signalOf 15 = .ok (.iaload, 1) := by decide +kernel
theorem dX4_signalOf_16 : decode cX4_signalOf 16 = .ok (.aload_n 0, 1) := by decide +kernel
theorem dX4_signalOf_17 : decode cX4_signalOf 17 = .ok (.getfield 15, 3) := by decide +kernel
theorem dX4_signalOf_20 : decode cX4_signalOf 20 = .ok (.iload_n 1, 1) := by decide +kernel
theorem dX4_signalOf_21 : decode cX4_signalOf 21 = .ok (.iaload, 1) := by decide +kernel
theorem dX4_signalOf_22 : decode cX4_signalOf 22 = .ok (.isub, 1) := by decide +kernel
theorem dX4_signalOf_23 : decode cX4_signalOf 23 = .ok (.goto 4, 3) := by decide +kernel
theorem dX4_signalOf_26 : decode cX4_signalOf 26 = .ok (.iconst 0, 1) := by decide +kernel
theorem dX4_signalOf_27 : decode cX4_signalOf 27 = .ok (.istore_n 2, 1) := by decide +kernel
theorem dX4_signalOf_28 : decode cX4_signalOf 28 = .ok (.iload_n 2, 1) := by decide +kernel
theorem dX4_signalOf_29 : decode cX4_signalOf 29 = .ok (.ifCond .le 7, 3) := by decide +kernel
theorem dX4_signalOf_32 : decode cX4_signalOf 32 = .ok (.iload_n 2, 1) := by decide +kernel
theorem dX4_signalOf_33 : decode cX4_signalOf 33 = .ok (.goto 4, 3) := by decide +kernel
theorem dX4_signalOf_36 : decode cX4_signalOf 36 = .ok (.iconst 0, 1) := by decide +kernel
theorem dX4_signalOf_37 : decode cX4_signalOf 37 = .ok (.ireturn, 1) := by decide +kernel
set_option maxRecDepth 20000 in
theorem ggX4_signalAt_X9_isOnPanel : GoodIn wsX4_signalAt wsX9_isOnPanel := goodIn_r _ [3] (by decide +kernel) (by decide +kernel)
set_option maxRecDepth 20000 in
theorem gX4_signalAt_X9_isOnPanel_n22 : GoodIn wsX4_signalAt (wsX9_isOnPanel) := ggX4_signalAt_X9_isOnPanel
set_option maxRecDepth 20000 in
theorem ggX4_signalAt_X9_cellAt : GoodIn wsX4_signalAt wsX9_cellAt := goodIn_r _ [5] (by decide +kernel) (by decide +kernel)
set_option maxRecDepth 20000 in
theorem gX4_signalAt_X9_cellAt_n26 : GoodIn wsX4_signalAt (wsX9_cellAt) := ggX4_signalAt_X9_cellAt
set_option maxRecDepth 20000 in
theorem ggX4_signalAt_X4_signalOf : GoodIn wsX4_signalAt wsX4_signalOf := goodIn_r _ [10, 11, 12, 13, 14] (by decide +kernel) (by decide +kernel)
set_option maxRecDepth 20000 in
theorem gX4_signalAt_X4_signalOf : GoodIn wsX4_signalAt (wsV RX4 30 RX4 yX4_signalOf wsX4_signalOf) := goodIn_app (goodIn_of _ (by decide +kernel)) ggX4_signalAt_X4_signalOf
theorem dX4_signalAt_0 : decode cX4_signalAt 0 = .ok (.iload_n 1, 1) := by decide +kernel
theorem dX4_signalAt_1 : decode cX4_signalAt 1 = .ok (.iload_n 2, 1) := by decide +kernel
theorem dX4_signalAt_2 : decode cX4_signalAt 2 = .ok (.invokestatic 22, 3) := by decide +kernel
theorem dX4_signalAt_5 : decode cX4_signalAt 5 = .ok (.ifCond .eq 15, 3) := by decide +kernel
theorem dX4_signalAt_8 : decode cX4_signalAt 8 = .ok (.aload_n 0, 1) := by decide +kernel
theorem dX4_signalAt_9 : decode cX4_signalAt 9 = .ok (.iload_n 1, 1) := by decide +kernel
theorem dX4_signalAt_10 : decode cX4_signalAt 10 = .ok (.iload_n 2, 1) := by decide +kernel
theorem dX4_signalAt_11 : decode cX4_signalAt 11 = .ok (.invokestatic 26, 3) := by decide +kernel
theorem dX4_signalAt_14 : decode cX4_signalAt 14 = .ok (.invokevirtual 30, 3) := by decide +kernel
theorem dX4_signalAt_17 : decode cX4_signalAt 17 = .ok (.goto 4, 3) := by decide +kernel
theorem dX4_signalAt_20 : decode cX4_signalAt 20 = .ok (.iconst 0, 1) := by decide +kernel
theorem dX4_signalAt_21 : decode cX4_signalAt 21 = .ok (.ireturn, 1) := by decide +kernel
set_option maxRecDepth 20000 in
theorem ggX4_replaceRaw_X9_isCell : GoodIn wsX4_replaceRaw wsX9_isCell := goodIn_r _ [4] (by decide +kernel) (by decide +kernel)
set_option maxRecDepth 20000 in
theorem gX4_replaceRaw_X9_isCell_n18 : GoodIn wsX4_replaceRaw (wsX9_isCell) := ggX4_replaceRaw_X9_isCell
theorem dX4_replaceRaw_0 : decode cX4_replaceRaw 0 = .ok (.iload_n 1, 1) := by decide +kernel
theorem dX4_replaceRaw_1 : decode cX4_replaceRaw 1 = .ok (.invokestatic 18, 3) := by decide +kernel
theorem dX4_replaceRaw_4 : decode cX4_replaceRaw 4 = .ok (.ifCond .ne 5, 3) := by decide +kernel
theorem dX4_replaceRaw_7 : decode cX4_replaceRaw 7 = .ok (.iconst 0, 1) := by decide +kernel
theorem dX4_replaceRaw_8 : decode cX4_replaceRaw 8 = .ok (.ireturn, 1) := by decide +kernel
theorem dX4_replaceRaw_9 : decode cX4_replaceRaw 9 = .ok (.aload_n 0, 1) := by decide +kernel
theorem dX4_replaceRaw_10 : decode cX4_replaceRaw 10 = .ok (.getfield 9, 3) := by decide +kernel
theorem dX4_replaceRaw_13 : decode cX4_replaceRaw 13 = .ok (.iload_n 1, 1) := by decide +kernel
theorem dX4_replaceRaw_14 : decode cX4_replaceRaw 14 = .ok (.iaload, 1) := by decide +kernel
theorem dX4_replaceRaw_15 : decode cX4_replaceRaw 15 = .ok (.istore_n 3, 1) := by decide +kernel
theorem dX4_replaceRaw_16 : decode cX4_replaceRaw 16 = .ok (.aload_n 0, 1) := by decide +kernel
theorem dX4_replaceRaw_17 : decode cX4_replaceRaw 17 = .ok (.getfield 9, 3) := by decide +kernel
theorem dX4_replaceRaw_20 : decode cX4_replaceRaw 20 = .ok (.iload_n 1, 1) := by decide +kernel
theorem dX4_replaceRaw_21 : decode cX4_replaceRaw 21 = .ok (.iload_n 2, 1) := by decide +kernel
theorem dX4_replaceRaw_22 : decode cX4_replaceRaw 22 = .ok (.iastore, 1) := by decide +kernel
theorem dX4_replaceRaw_23 : decode cX4_replaceRaw 23 = .ok (.iload_n 3, 1) := by decide +kernel
theorem dX4_replaceRaw_24 : decode cX4_replaceRaw 24 = .ok (.ireturn, 1) := by decide +kernel
set_option maxRecDepth 20000 in
theorem ggX4_pressAt_X4_raise : GoodIn wsX4_pressAt wsX4_raise := goodIn_r _ [5, 6, 7, 8, 9, 10, 11, 12, 13] (by decide +kernel) (by decide +kernel)
set_option maxRecDepth 20000 in
theorem gX4_pressAt_X4_raise : GoodIn wsX4_pressAt (wsV RX4 34 RX4 yX4_raise wsX4_raise) := goodIn_app (goodIn_of _ (by decide +kernel)) ggX4_pressAt_X4_raise
theorem dX4_pressAt_0 : decode cX4_pressAt 0 = .ok (.iconst (-1), 1) := by decide +kernel
theorem dX4_pressAt_1 : decode cX4_pressAt 1 = .ok (.istore 4, 2) := by decide +kernel
theorem dX4_pressAt_3 : decode cX4_pressAt 3 = .ok (.iload 4, 2) := by decide +kernel
theorem dX4_pressAt_5 : decode cX4_pressAt 5 = .ok (.iconst 1, 1) := by decide +kernel
theorem dX4_pressAt_6 : decode cX4_pressAt 6 = .ok (.if_icmp .gt 49, 3) := by decide +kernel
theorem dX4_pressAt_9 : decode cX4_pressAt 9 = .ok (.iconst (-1), 1) := by decide +kernel
theorem dX4_pressAt_10 : decode cX4_pressAt 10 = .ok (.istore 5, 2) := by decide +kernel
theorem dX4_pressAt_12 : decode cX4_pressAt 12 = .ok (.iload 5, 2) := by decide +kernel
theorem dX4_pressAt_14 : decode cX4_pressAt 14 = .ok (.iconst 1, 1) := by decide +kernel
theorem dX4_pressAt_15 : decode cX4_pressAt 15 = .ok (.if_icmp .gt 34, 3) := by decide +kernel
theorem dX4_pressAt_18 : decode cX4_pressAt 18 = .ok (.aload_n 0, 1) := by decide +kernel
theorem dX4_pressAt_19 : decode cX4_pressAt 19 = .ok (.iload_n 1, 1) := by decide +kernel
theorem dX4_pressAt_20 : decode cX4_pressAt 20 = .ok (.iload 4, 2) := by decide +kernel
theorem dX4_pressAt_22 : decode cX4_pressAt 22 = .ok (.iadd, 1) := by decide +kernel
theorem dX4_pressAt_23 : decode cX4_pressAt 23 = .ok (.iload_n 2, 1) := by decide +kernel
theorem dX4_pressAt_24 : decode cX4_pressAt 24 = .ok (.iload 5, 2) := by decide +kernel
theorem dX4_pressAt_26 : decode cX4_pressAt 26 = .ok (.iadd, 1) := by decide +kernel
theorem dX4_pressAt_27 : decode cX4_pressAt 27 = .ok (.iload_n 3, 1) := by decide +kernel
theorem dX4_pressAt_28 : decode cX4_pressAt 28 = .ok (.iload 4, 2) := by decide +kernel
theorem dX4_pressAt_30 : decode cX4_pressAt 30 = .ok (.iload 4, 2) := by decide +kernel
theorem dX4_pressAt_32 : decode cX4_pressAt 32 = .ok (.imul, 1) := by decide +kernel
theorem dX4_pressAt_33 : decode cX4_pressAt 33 = .ok (.iload 5, 2) := by decide +kernel
theorem dX4_pressAt_35 : decode cX4_pressAt 35 = .ok (.iload 5, 2) := by decide +kernel
theorem dX4_pressAt_37 : decode cX4_pressAt 37 = .ok (.imul, 1) := by decide +kernel
theorem dX4_pressAt_38 : decode cX4_pressAt 38 = .ok (.iadd, 1) := by decide +kernel
theorem dX4_pressAt_39 : decode cX4_pressAt 39 = .ok (.ishr, 1) := by decide +kernel
theorem dX4_pressAt_40 : decode cX4_pressAt 40 = .ok (.invokevirtual 34, 3) := by decide +kernel
theorem dX4_pressAt_43 : decode cX4_pressAt 43 = .ok (.iinc 5 1, 3) := by decide +kernel
theorem dX4_pressAt_46 : decode cX4_pressAt 46 = .ok (.goto (-34), 3) := by decide +kernel
theorem dX4_pressAt_49 : decode cX4_pressAt 49 = .ok (.iinc 4 1, 3) := by decide +kernel
theorem dX4_pressAt_52 : decode cX4_pressAt 52 = .ok (.goto (-49), 3) := by decide +kernel
theorem dX4_pressAt_55 : decode cX4_pressAt 55 = .ok (.return_, 1) := by decide +kernel
set_option maxRecDepth 20000 in
theorem ggX4_raise_X9_isOnPanel : GoodIn wsX4_raise wsX9_isOnPanel := goodIn_r _ [4] (by decide +kernel) (by decide +kernel)
set_option maxRecDepth 20000 in
theorem gX4_raise_X9_isOnPanel_n22 : GoodIn wsX4_raise (wsX9_isOnPanel) := ggX4_raise_X9_isOnPanel
set_option maxRecDepth 20000 in
theorem ggX4_raise_X9_cellAt : GoodIn wsX4_raise wsX9_cellAt := goodIn_r _ [6] (by decide +kernel) (by decide +kernel)
set_option maxRecDepth 20000 in
theorem gX4_raise_X9_cellAt_n26 : GoodIn wsX4_raise (wsX9_cellAt) := ggX4_raise_X9_cellAt
theorem dX4_raise_0 : decode cX4_raise 0 = .ok (.iload_n 1, 1) := by decide +kernel
theorem dX4_raise_1 : decode cX4_raise 1 = .ok (.iload_n 2, 1) := by decide +kernel
theorem dX4_raise_2 : decode cX4_raise 2 = .ok (.invokestatic 22, 3) := by decide +kernel
theorem dX4_raise_5 : decode cX4_raise 5 = .ok (.ifCond .eq 44, 3) := by decide +kernel
theorem dX4_raise_8 : decode cX4_raise 8 = .ok (.iload_n 1, 1) := by decide +kernel
theorem dX4_raise_9 : decode cX4_raise 9 = .ok (.iload_n 2, 1) := by decide +kernel
theorem dX4_raise_10 : decode cX4_raise 10 = .ok (.invokestatic 26, 3) := by decide +kernel
theorem dX4_raise_13 : decode cX4_raise 13 = .ok (.istore 4, 2) := by decide +kernel
theorem dX4_raise_15 : decode cX4_raise 15 = .ok (.aload_n 0, 1) := by decide +kernel
theorem dX4_raise_16 : decode cX4_raise 16 = .ok (.getfield 9, 3) := by decide +kernel
theorem dX4_raise_19 : decode cX4_raise 19 = .ok (.iload 4, 2) := by decide +kernel
theorem dX4_raise_21 : decode cX4_raise 21 = .ok (.iaload, 1) := by decide +kernel
theorem dX4_raise_22 : decode cX4_raise 22 = .ok (.iload_n 3, 1) := by decide +kernel
theorem dX4_raise_23 : decode cX4_raise 23 = .ok (.iadd, 1) := by decide +kernel
theorem dX4_raise_24 : decode cX4_raise 24 = .ok (.istore 5, 2) := by decide +kernel
theorem dX4_raise_26 : decode cX4_raise 26 = .ok (.aload_n 0, 1) := by decide +kernel
theorem dX4_raise_27 : decode cX4_raise 27 = .ok (.getfield 9, 3) := by decide +kernel
theorem dX4_raise_30 : decode cX4_raise 30 = .ok (.iload 4, 2) := by decide +kernel
theorem dX4_raise_32 : decode cX4_raise 32 = .ok (.iload 5, 2) := by decide +kernel
theorem dX4_raise_34 : decode cX4_raise 34 = .ok (.sipush 255, 3) := by decide +kernel
theorem dX4_raise_37 : decode cX4_raise 37 = .ok (.if_icmp .ge 8, 3) := by decide +kernel
theorem dX4_raise_40 : decode cX4_raise 40 = .ok (.iload 5, 2) := by decide +kernel
theorem dX4_raise_42 : decode cX4_raise 42 = .ok (.goto 6, 3) := by decide +kernel
theorem dX4_raise_45 : decode cX4_raise 45 = .ok (.sipush 255, 3) := by decide +kernel
theorem dX4_raise_48 : decode cX4_raise 48 = .ok (.iastore, 1) := by decide +kernel
theorem dX4_raise_49 : decode cX4_raise 49 = .ok (.return_, 1) := by decide +kernel
theorem dX4_clearRaw_0 : decode cX4_clearRaw 0 = .ok (.iconst 0, 1) := by decide +kernel
theorem dX4_clearRaw_1 : decode cX4_clearRaw 1 = .ok (.istore_n 1, 1) := by decide +kernel
theorem dX4_clearRaw_2 : decode cX4_clearRaw 2 = .ok (.iconst 0, 1) := by decide +kernel
theorem dX4_clearRaw_3 : decode cX4_clearRaw 3 = .ok (.istore_n 2, 1) := by decide +kernel
theorem dX4_clearRaw_4 : decode cX4_clearRaw 4 = .ok (.iload_n 2, 1) := by decide +kernel
theorem dX4_clearRaw_5 : decode cX4_clearRaw 5 = .ok (.bipush 48, 2) := by decide +kernel
theorem dX4_clearRaw_7 : decode cX4_clearRaw 7 = .ok (.if_icmp .ge 28, 3) := by decide +kernel
theorem dX4_clearRaw_10 : decode cX4_clearRaw 10 = .ok (.aload_n 0, 1) := by decide +kernel
theorem dX4_clearRaw_11 : decode cX4_clearRaw 11 = .ok (.getfield 9, 3) := by decide +kernel
theorem dX4_clearRaw_14 : decode cX4_clearRaw 14 = .ok (.iload_n 2, 1) := by decide +kernel
theorem dX4_clearRaw_15 : decode cX4_clearRaw 15 = .ok (.iaload, 1) := by decide +kernel
theorem dX4_clearRaw_16 : decode cX4_clearRaw 16 = .ok (.ifCond .eq 6, 3) := by decide +kernel
theorem dX4_clearRaw_19 : decode cX4_clearRaw 19 = .ok (.iinc 1 1, 3) := by decide +kernel
theorem dX4_clearRaw_22 : decode cX4_clearRaw 22 = .ok (.aload_n 0, 1) := by decide +kernel
theorem dX4_clearRaw_23 : decode cX4_clearRaw 23 = .ok (.getfield 9, 3) := by decide +kernel
theorem dX4_clearRaw_26 : decode cX4_clearRaw 26 = .ok (.iload_n 2, 1) := by decide +kernel
theorem dX4_clearRaw_27 : decode cX4_clearRaw 27 = .ok (.iconst 0, 1) := by decide +kernel
theorem dX4_clearRaw_28 : decode cX4_clearRaw 28 = .ok (.iastore, 1) := by decide +kernel
theorem dX4_clearRaw_29 : decode cX4_clearRaw 29 = .ok (.iinc 2 1, 3) := by decide +kernel
theorem dX4_clearRaw_32 : decode cX4_clearRaw 32 = .ok (.goto (-28), 3) := by decide +kernel
theorem dX4_clearRaw_35 : decode cX4_clearRaw 35 = .ok (.iload_n 1, 1) := by decide +kernel
theorem dX4_clearRaw_36 : decode cX4_clearRaw 36 = .ok (.ireturn, 1) := by decide +kernel
theorem dX4_takeBaselines_0 : decode cX4_takeBaselines 0 = .ok (.iconst 0, 1) := by decide +kernel
theorem dX4_takeBaselines_1 : decode cX4_takeBaselines 1 = .ok (.istore_n 1, 1) := by decide +kernel
theorem dX4_takeBaselines_2 : decode cX4_takeBaselines 2 = .ok (.iconst 0, 1) := by decide +kernel
theorem dX4_takeBaselines_3 : decode cX4_takeBaselines 3 = .ok (.istore_n 2, 1) := by decide +kernel
theorem dX4_takeBaselines_4 : decode cX4_takeBaselines 4 = .ok (.iload_n 2, 1) := by decide +kernel
theorem dX4_takeBaselines_5 : decode cX4_takeBaselines 5 = .ok (.bipush 48, 2) := by decide +kernel
theorem dX4_takeBaselines_7 : decode cX4_takeBaselines 7 = .ok (.if_icmp .ge 39, 3) := by decide +kernel
theorem dX4_takeBaselines_10 : decode cX4_takeBaselines 10 = .ok (.aload_n 0, 1) := by decide +kernel
theorem dX4_takeBaselines_11 : decode cX4_takeBaselines 11 = .ok (.getfield 15, 3) := by decide +kernel
theorem dX4_takeBaselines_14 : decode cX4_takeBaselines 14 = .ok (.iload_n 2, 1) := by decide +kernel
theorem dX4_takeBaselines_15 : decode cX4_takeBaselines 15 = .ok (.iaload, 1) := by decide +kernel
theorem dX4_takeBaselines_16 : decode cX4_takeBaselines 16 = .ok (.aload_n 0, 1) := by decide +kernel
theorem dX4_takeBaselines_17 : decode cX4_takeBaselines 17 = .ok (.getfield 9, 3) := by decide +kernel
theorem dX4_takeBaselines_20 : decode cX4_takeBaselines 20 = .ok (.iload_n 2, 1) := by decide +kernel
theorem dX4_takeBaselines_21 : decode cX4_takeBaselines 21 = .ok (.iaload, 1) := by decide +kernel
theorem dX4_takeBaselines_22 : decode cX4_takeBaselines 22 = .ok (.if_icmp .eq 6, 3) := by decide +kernel
theorem dX4_takeBaselines_25 : decode cX4_takeBaselines 25 = .ok (.iinc 1 1, 3) := by decide +kernel
theorem dX4_takeBaselines_28 : decode cX4_takeBaselines 28 = .ok (.aload_n 0, 1) := by decide +kernel
theorem dX4_takeBaselines_29 : decode cX4_takeBaselines 29 = .ok (.getfield 15, 3) := by decide +kernel
theorem dX4_takeBaselines_32 : decode cX4_takeBaselines 32 = .ok (.iload_n 2, 1) := by decide +kernel
theorem dX4_takeBaselines_33 : decode cX4_takeBaselines 33 = .ok (.aload_n 0, 1) := by decide +kernel
theorem dX4_takeBaselines_34 : decode cX4_takeBaselines 34 = .ok (.getfield 9, 3) := by decide +kernel
theorem dX4_takeBaselines_37 : decode cX4_takeBaselines 37 = .ok (.iload_n 2, 1) := by decide +kernel
theorem dX4_takeBaselines_38 : decode cX4_takeBaselines 38 = .ok (.iaload, 1) := by decide +kernel
theorem dX4_takeBaselines_39 : decode cX4_takeBaselines 39 = .ok (.iastore, 1) := by decide +kernel
theorem dX4_takeBaselines_40 : decode cX4_takeBaselines 40 = .ok (.iinc 2 1, 3) := by decide +kernel
theorem dX4_takeBaselines_43 : decode cX4_takeBaselines 43 = .ok (.goto (-39), 3) := by decide +kernel
theorem dX4_takeBaselines_46 : decode cX4_takeBaselines 46 = .ok (.iload_n 1, 1) := by decide +kernel
theorem dX4_takeBaselines_47 : decode cX4_takeBaselines 47 = .ok (.ireturn, 1) := by decide +kernel
theorem dX4_copyFrom_0 : decode cX4_copyFrom 0 = .ok (.aload_n 1, 1) := by decide +kernel
theorem dX4_copyFrom_1 : decode cX4_copyFrom 1 = .ok (.getfield 9, 3) := by decide +kernel
theorem dX4_copyFrom_4 : decode cX4_copyFrom 4 = .ok (.iconst 0, 1) := by decide +kernel
theorem dX4_copyFrom_5 : decode cX4_copyFrom 5 = .ok (.aload_n 0, 1) := by decide +kernel
theorem dX4_copyFrom_6 : decode cX4_copyFrom 6 = .ok (.getfield 9, 3) := by decide +kernel
theorem dX4_copyFrom_9 : decode cX4_copyFrom 9 = .ok (.iconst 0, 1) := by decide +kernel
theorem dX4_copyFrom_10 : decode cX4_copyFrom 10 = .ok (.bipush 48, 2) := by decide +kernel
theorem dX4_copyFrom_12 : decode cX4_copyFrom 12 = .ok (.invokestatic 38, 3) := by decide +kernel
theorem dX4_copyFrom_15 : decode cX4_copyFrom 15 = .ok (.aload_n 1, 1) := by decide +kernel
theorem dX4_copyFrom_16 : decode cX4_copyFrom 16 = .ok (.getfield 15, 3) := by decide +kernel
theorem dX4_copyFrom_19 : decode cX4_copyFrom 19 = .ok (.iconst 0, 1) := by decide +kernel
theorem dX4_copyFrom_20 : decode cX4_copyFrom 20 = .ok (.aload_n 0, 1) := by decide +kernel
theorem dX4_copyFrom_21 : decode cX4_copyFrom 21 = .ok (.getfield 15, 3) := by decide +kernel
theorem dX4_copyFrom_24 : decode cX4_copyFrom 24 = .ok (.iconst 0, 1) := by decide +kernel
theorem dX4_copyFrom_25 : decode cX4_copyFrom 25 = .ok (.bipush 48, 2) := by decide +kernel
theorem dX4_copyFrom_27 : decode cX4_copyFrom 27 = .ok (.invokestatic 38, 3) := by decide +kernel
theorem dX4_copyFrom_30 : decode cX4_copyFrom 30 = .ok (.return_, 1) := by decide +kernel
theorem dX5_init_0 : decode cX5_init 0 = .ok (.aload_n 0, 1) := by decide +kernel
theorem dX5_init_1 : decode cX5_init 1 = .ok (.invokespecial 3, 3) := by decide +kernel
theorem dX5_init_4 : decode cX5_init 4 = .ok (.aload_n 0, 1) := by decide +kernel
theorem dX5_init_5 : decode cX5_init 5 = .ok (.bipush 48, 2) := by decide +kernel
theorem dX5_init_7 : decode cX5_init 7 = .ok (.newarray .int, 2) := by decide +kernel
theorem dX5_init_9 : decode cX5_init 9 = .ok (.putfield 9, 3) := by decide +kernel
theorem dX5_init_12 : decode cX5_init 12 = .ok (.aload_n 0, 1) := by decide +kernel
theorem dX5_init_13 : decode cX5_init 13 = .ok (.bipush 48, 2) := by decide +kernel
theorem dX5_init_15 : decode cX5_init 15 = .ok (.newarray .int, 2) := by decide +kernel
theorem dX5_init_17 : decode cX5_init 17 = .ok (.putfield 15, 3) := by decide +kernel
theorem dX5_init_20 : decode cX5_init 20 = .ok (.aload_n 0, 1) := by decide +kernel
theorem dX5_init_21 : decode cX5_init 21 = .ok (.bipush 48, 2) := by decide +kernel
theorem dX5_init_23 : decode cX5_init 23 = .ok (.newarray .int, 2) := by decide +kernel
theorem dX5_init_25 : decode cX5_init 25 = .ok (.putfield 18, 3) := by decide +kernel
theorem dX5_init_28 : decode cX5_init 28 = .ok (.return_, 1) := by decide +kernel
set_option maxRecDepth 20000 in
theorem ggX5_find_X4_signalOf : GoodIn wsX5_find wsX4_signalOf := goodIn_r _ [8, 9, 10, 40, 41] (by decide +kernel) (by decide +kernel)
set_option maxRecDepth 20000 in
theorem gX5_find_X4_signalOf : GoodIn wsX5_find (wsV RX5 37 RX4 yX4_signalOf wsX4_signalOf) := goodIn_app (goodIn_of _ (by decide +kernel)) ggX5_find_X4_signalOf
set_option maxRecDepth 20000 in
theorem ggX5_find_X5_joinAll : GoodIn wsX5_find wsX5_joinAll := goodIn_r _ [15, 16, 17, 18, 14, 19, 3, 20, 21, 22, 35, 36, 37, 38, 39] (by decide +kernel) (by decide +kernel)
set_option maxRecDepth 20000 in
theorem gX5_find_X5_joinAll : GoodIn wsX5_find (wsV RX5 43 RX5 yX5_joinAll wsX5_joinAll) := goodIn_app (goodIn_of _ (by decide +kernel)) ggX5_find_X5_joinAll
set_option maxRecDepth 20000 in
theorem ggX5_find_X5_measure : GoodIn wsX5_find wsX5_measure := goodIn_r _ [26, 27, 28, 3, 20, 21, 22, 4, 5, 6, 7, 8, 9, 10, 35, 36, 37, 38, 39, 40, 41] (by decide +kernel) (by decide +kernel)
set_option maxRecDepth 20000 in
theorem gX5_find_X5_measure : GoodIn wsX5_find (wsV RX5 47 RX5 yX5_measure wsX5_measure) := goodIn_app (goodIn_of _ (by decide +kernel)) ggX5_find_X5_measure
theorem dX5_find_0 : decode cX5_find 0 = .ok (.aload_n 0, 1) := by decide +kernel
theorem dX5_find_1 : decode cX5_find 1 = .ok (.aload_n 1, 1) := by decide +kernel
theorem dX5_find_2 : decode cX5_find 2 = .ok (.getfield 21, 3) := by decide +kernel
theorem dX5_find_5 : decode cX5_find 5 = .ok (.iconst 1, 1) := by decide +kernel
theorem dX5_find_6 : decode cX5_find 6 = .ok (.iaload, 1) := by decide +kernel
theorem dX5_find_7 : decode cX5_find 7 = .ok (.putfield 26, 3) := by decide +kernel
theorem dX5_find_10 : decode cX5_find 10 = .ok (.aload_n 0, 1) := by decide +kernel
theorem dX5_find_11 : decode cX5_find 11 = .ok (.aload_n 1, 1) := by decide +kernel
theorem dX5_find_12 : decode cX5_find 12 = .ok (.getfield 21, 3) := by decide +kernel
theorem dX5_find_15 : decode cX5_find 15 = .ok (.iconst 2, 1) := by decide +kernel
theorem dX5_find_16 : decode cX5_find 16 = .ok (.iaload, 1) := by decide +kernel
theorem dX5_find_17 : decode cX5_find 17 = .ok (.putfield 30, 3) := by decide +kernel
theorem dX5_find_20 : decode cX5_find 20 = .ok (.iconst 0, 1) := by decide +kernel
theorem dX5_find_21 : decode cX5_find 21 = .ok (.istore_n 2, 1) := by decide +kernel
theorem dX5_find_22 : decode cX5_find 22 = .ok (.iload_n 2, 1) := by decide +kernel
theorem dX5_find_23 : decode cX5_find 23 = .ok (.bipush 48, 2) := by decide +kernel
theorem dX5_find_25 : decode cX5_find 25 = .ok (.if_icmp .ge 48, 3) := by decide +kernel
theorem dX5_find_28 : decode cX5_find 28 = .ok (.aload_n 1, 1) := by decide +kernel
theorem dX5_find_29 : decode cX5_find 29 = .ok (.getfield 33, 3) := by decide +kernel
theorem dX5_find_32 : decode cX5_find 32 = .ok (.iload_n 2, 1) := by decide +kernel
theorem dX5_find_33 : decode cX5_find 33 = .ok (.invokevirtual 37, 3) := by decide +kernel
theorem dX5_find_36 : decode cX5_find 36 = .ok (.aload_n 1, 1) := by decide +kernel
theorem dX5_find_37 : decode cX5_find 37 = .ok (.getfield 21, 3) := by decide +kernel
theorem dX5_find_40 : decode cX5_find 40 = .ok (.iconst 0, 1) := by decide +kernel
theorem dX5_find_41 : decode cX5_find 41 = .ok (.iaload, 1) := by decide +kernel
theorem dX5_find_42 : decode cX5_find 42 = .ok (.if_icmp .lt 7, 3) := by decide +kernel
theorem dX5_find_45 : decode cX5_find 45 = .ok (.iconst 1, 1) := by decide +kernel
theorem dX5_find_46 : decode cX5_find 46 = .ok (.goto 4, 3) := by decide +kernel
theorem dX5_find_49 : decode cX5_find 49 = .ok (.iconst 0, 1) := by decide +kernel
theorem dX5_find_50 : decode cX5_find 50 = .ok (.istore_n 3, 1) := by decide +kernel
theorem dX5_find_51 : decode cX5_find 51 = .ok (.aload_n 0, 1) := by decide +kernel
theorem dX5_find_52 : decode cX5_find 52 = .ok (.getfield 9, 3) := by decide +kernel
theorem dX5_find_55 : decode cX5_find 55 = .ok (.iload_n 2, 1) := by decide +kernel
theorem dX5_find_56 : decode cX5_find 56 = .ok (.iload_n 3, 1) := by decide +kernel
theorem dX5_find_57 : decode cX5_find 57 = .ok (.ifCond .eq 7, 3) := by decide +kernel
theorem dX5_find_60 : decode cX5_find 60 = .ok (.iload_n 2, 1) := by decide +kernel
theorem dX5_find_61 : decode cX5_find 61 = .ok (.goto 5, 3) := by decide +kernel
theorem dX5_find_64 : decode cX5_find 64 = .ok (.bipush 48, 2) := by decide +kernel
theorem dX5_find_66 : decode cX5_find 66 = .ok (.iastore, 1) := by decide +kernel
theorem dX5_find_67 : decode cX5_find 67 = .ok (.iinc 2 1, 3) := by decide +kernel
theorem dX5_find_70 : decode cX5_find 70 = .ok (.goto (-48), 3) := by decide +kernel
theorem dX5_find_73 : decode cX5_find 73 = .ok (.iconst 1, 1) := by decide +kernel
theorem dX5_find_74 : decode cX5_find 74 = .ok (.istore_n 2, 1) := by decide +kernel
theorem dX5_find_75 : decode cX5_find 75 = .ok (.iconst 0, 1) := by decide +kernel
theorem dX5_find_76 : decode cX5_find 76 = .ok (.istore_n 3, 1) := by decide +kernel
theorem dX5_find_77 : decode cX5_find 77 = .ok (.iload_n 2, 1) := by decide +kernel
theorem dX5_find_78 : decode cX5_find 78 = .ok (.ifCond .eq 20, 3) := by decide +kernel
theorem dX5_find_81 : decode cX5_find 81 = .ok (.iload_n 3, 1) := by decide +kernel
theorem dX5_find_82 : decode cX5_find 82 = .ok (.bipush 48, 2) := by decide +kernel
theorem dX5_find_84 : decode cX5_find 84 = .ok (.if_icmp .ge 14, 3) := by decide +kernel
theorem dX5_find_87 : decode cX5_find 87 = .ok (.aload_n 0, 1) := by decide +kernel
theorem dX5_find_88 : decode cX5_find 88 = .ok (.invokevirtual 43, 3) := by decide +kernel
theorem dX5_find_91 : decode cX5_find 91 = .ok (.istore_n 2, 1) := by decide +kernel
theorem dX5_find_92 : decode cX5_find 92 = .ok (.iinc 3 1, 3) := by decide +kernel
theorem dX5_find_95 : decode cX5_find 95 = .ok (.goto (-18), 3) := by decide +kernel
theorem dX5_find_98 : decode cX5_find 98 = .ok (.aload_n 0, 1) := by decide +kernel
theorem dX5_find_99 : decode cX5_find 99 = .ok (.aload_n 1, 1) := by decide +kernel
theorem dX5_find_100 : decode cX5_find 100 = .ok (.getfield 33, 3) := by decide +kernel
theorem dX5_find_103 : decode cX5_find 103 = .ok (.invokevirtual 47, 3) := by decide +kernel
theorem dX5_find_106 : decode cX5_find 106 = .ok (.return_, 1) := by decide +kernel
set_option maxRecDepth 20000 in
theorem ggX5_joinAll_X5_join : GoodIn wsX5_joinAll wsX5_join := goodIn_r _ [5, 6, 7, 8, 9, 10, 11, 12, 13, 14] (by decide +kernel) (by decide +kernel)
set_option maxRecDepth 20000 in
theorem gX5_joinAll_X5_join : GoodIn wsX5_joinAll (wsV RX5 51 RX5 yX5_join wsX5_join) := goodIn_app (goodIn_of _ (by decide +kernel)) ggX5_joinAll_X5_join
theorem dX5_joinAll_0 : decode cX5_joinAll 0 = .ok (.iconst 0, 1) := by decide +kernel
theorem dX5_joinAll_1 : decode cX5_joinAll 1 = .ok (.istore_n 1, 1) := by decide +kernel
theorem dX5_joinAll_2 : decode cX5_joinAll 2 = .ok (.iconst 0, 1) := by decide +kernel
theorem dX5_joinAll_3 : decode cX5_joinAll 3 = .ok (.istore_n 2, 1) := by decide +kernel
theorem dX5_joinAll_4 : decode cX5_joinAll 4 = .ok (.iload_n 2, 1) := by decide +kernel
theorem dX5_joinAll_5 : decode cX5_joinAll 5 = .ok (.bipush 48, 2) := by decide +kernel
theorem dX5_joinAll_7 : decode cX5_joinAll 7 = .ok (.if_icmp .ge 50, 3) := by decide +kernel
theorem dX5_joinAll_10 : decode cX5_joinAll 10 = .ok (.iload_n 2, 1) := by decide +kernel
theorem dX5_joinAll_11 : decode cX5_joinAll 11 = .ok (.bipush 6, 2) := by decide +kernel
theorem dX5_joinAll_13 : decode cX5_joinAll 13 = .ok (.irem, 1) := by decide +kernel
theorem dX5_joinAll_14 : decode cX5_joinAll 14 = .ok (.iconst 5, 1) := by decide +kernel
theorem dX5_joinAll_15 : decode cX5_joinAll 15 = .ok (.if_icmp .ge 16, 3) := by decide +kernel
theorem dX5_joinAll_18 : decode cX5_joinAll 18 = .ok (.aload_n 0, 1) := by decide +kernel
theorem dX5_joinAll_19 : decode cX5_joinAll 19 = .ok (.iload_n 2, 1) := by decide +kernel
theorem dX5_joinAll_20 : decode cX5_joinAll 20 = .ok (.iload_n 2, 1) := by decide +kernel
theorem dX5_joinAll_21 : decode cX5_joinAll 21 = .ok (.iconst 1, 1) := by decide +kernel
theorem dX5_joinAll_22 : decode cX5_joinAll 22 = .ok (.iadd, 1) := by decide +kernel
theorem dX5_joinAll_23 : decode cX5_joinAll 23 = .ok (.invokevirtual 51, 3) := by decide +kernel
theorem dX5_joinAll_26 : decode cX5_joinAll 26 = .ok (.ifCond .eq 5, 3) := by decide +kernel
theorem dX5_joinAll_29 : decode cX5_joinAll 29 = .ok (.iconst 1, 1) := by decide +kernel
theorem dX5_joinAll_30 : decode cX5_joinAll 30 = .ok (.istore_n 1, 1) := by decide +kernel
theorem dX5_joinAll_31 : decode cX5_joinAll 31 = .ok (.iload_n 2, 1) := by decide +kernel
theorem dX5_joinAll_32 : decode cX5_joinAll 32 = .ok (.bipush 42, 2) := by decide +kernel
theorem dX5_joinAll_34 : decode cX5_joinAll 34 = .ok (.if_icmp .ge 17, 3) := by decide +kernel
theorem dX5_joinAll_37 : decode cX5_joinAll 37 = .ok (.aload_n 0, 1) := by decide +kernel
theorem dX5_joinAll_38 : decode cX5_joinAll 38 = .ok (.iload_n 2, 1) := by decide +kernel
theorem dX5_joinAll_39 : decode cX5_joinAll 39 = .ok (.iload_n 2, 1) := by decide +kernel
theorem dX5_joinAll_40 : decode cX5_joinAll 40 = .ok (.bipush 6, 2) := by decide +kernel
theorem dX5_joinAll_42 : decode cX5_joinAll 42 = .ok (.iadd, 1) := by decide +kernel
theorem dX5_joinAll_43 : decode cX5_joinAll 43 = .ok (.invokevirtual 51, 3) := by decide +kernel
theorem dX5_joinAll_46 : decode cX5_joinAll 46 = .ok (.ifCond .eq 5, 3) := by decide +kernel
theorem dX5_joinAll_49 : decode cX5_joinAll 49 = .ok (.iconst 1, 1) := by decide +kernel
theorem dX5_joinAll_50 : decode cX5_joinAll 50 = .ok (.istore_n 1, 1) := by decide +kernel
theorem dX5_joinAll_51 : decode cX5_joinAll 51 = .ok (.iinc 2 1, 3) := by decide +kernel
theorem dX5_joinAll_54 : decode cX5_joinAll 54 = .ok (.goto (-50), 3) := by decide +kernel
theorem dX5_joinAll_57 : decode cX5_joinAll 57 = .ok (.iload_n 1, 1) := by decide +kernel
theorem dX5_joinAll_58 : decode cX5_joinAll 58 = .ok (.ireturn, 1) := by decide +kernel
set_option maxRecDepth 20000 in
theorem ggX5_join_X9_isCell : GoodIn wsX5_join wsX9_isCell := goodIn_r _ [4] (by decide +kernel) (by decide +kernel)
set_option maxRecDepth 20000 in
theorem gX5_join_X9_isCell_n55 : GoodIn wsX5_join (wsX9_isCell) := ggX5_join_X9_isCell
theorem dX5_join_0 : decode cX5_join 0 = .ok (.iload_n 1, 1) := by decide +kernel
theorem dX5_join_1 : decode cX5_join 1 = .ok (.invokestatic 55, 3) := by decide +kernel
theorem dX5_join_4 : decode cX5_join 4 = .ok (.ifCond .eq 10, 3) := by decide +kernel
theorem dX5_join_7 : decode cX5_join 7 = .ok (.iload_n 2, 1) := by decide +kernel
theorem dX5_join_8 : decode cX5_join 8 = .ok (.invokestatic 55, 3) := by decide +kernel
theorem dX5_join_11 : decode cX5_join 11 = .ok (.ifCond .ne 5, 3) := by decide +kernel
theorem dX5_join_14 : decode cX5_join 14 = .ok (.iconst 0, 1) := by decide +kernel
theorem dX5_join_15 : decode cX5_join 15 = .ok (.ireturn, 1) := by decide +kernel
theorem dX5_join_16 : decode cX5_join 16 = .ok (.aload_n 0, 1) := by decide +kernel
theorem dX5_join_17 : decode cX5_join 17 = .ok (.getfield 9, 3) := by decide +kernel
theorem dX5_join_20 : decode cX5_join 20 = .ok (.iload_n 1, 1) := by decide +kernel
theorem dX5_join_21 : decode cX5_join 21 = .ok (.iaload, 1) := by decide +kernel
theorem dX5_join_22 : decode cX5_join 22 = .ok (.istore_n 3, 1) := by decide +kernel
theorem dX5_join_23 : decode cX5_join 23 = .ok (.aload_n 0, 1) := by decide +kernel
theorem dX5_join_24 : decode cX5_join 24 = .ok (.getfield 9, 3) := by decide +kernel
theorem dX5_join_27 : decode cX5_join 27 = .ok (.iload_n 2, 1) := by decide +kernel
theorem dX5_join_28 : decode cX5_join 28 = .ok (.iaload, 1) := by decide +kernel
theorem dX5_join_29 : decode cX5_join 29 = .ok (.istore 4, 2) := by decide +kernel
theorem dX5_join_31 : decode cX5_join 31 = .ok (.iload_n 3, 1) := by decide +kernel
theorem dX5_join_32 : decode cX5_join 32 = .ok (.iload 4, 2) := by decide +kernel
theorem dX5_join_34 : decode cX5_join 34 = .ok (.if_icmp .eq 16, 3) := by decide +kernel
theorem dX5_join_37 : decode cX5_join 37 = .ok (.iload_n 3, 1) := by decide +kernel
theorem dX5_join_38 : decode cX5_join 38 = .ok (.bipush 48, 2) := by decide +kernel
theorem dX5_join_40 : decode cX5_join 40 = .ok (.if_icmp .eq 10, 3) := by decide +kernel
theorem dX5_join_43 : decode cX5_join 43 = .ok (.iload 4, 2) := by decide +kernel
theorem dX5_join_45 : decode cX5_join 45 = .ok (.bipush 48, 2) := by decide +kernel
theorem dX5_join_47 : decode cX5_join 47 = .ok (.if_icmp .ne 5, 3) := by decide +kernel
theorem dX5_join_50 : decode cX5_join 50 = .ok (.iconst 0, 1) := by decide +kernel
theorem dX5_join_51 : decode cX5_join 51 = .ok (.ireturn, 1) := by decide +kernel
theorem dX5_join_52 : decode cX5_join 52 = .ok (.aload_n 0, 1) := by decide +kernel
theorem dX5_join_53 : decode cX5_join 53 = .ok (.getfield 9, 3) := by decide +kernel
theorem dX5_join_56 : decode cX5_join 56 = .ok (.iload_n 1, 1) := by decide +kernel
theorem dX5_join_57 : decode cX5_join 57 = .ok (.iload_n 3, 1) := by decide +kernel
theorem dX5_join_58 : decode cX5_join 58 = .ok (.iload 4, 2) := by decide +kernel
theorem dX5_join_60 : decode cX5_join 60 = .ok (.if_icmp .ge 7, 3) := by decide +kernel
theorem dX5_join_63 : decode cX5_join 63 = .ok (.iload_n 3, 1) := by decide +kernel
theorem dX5_join_64 : decode cX5_join 64 = .ok (.goto 5, 3) := by decide +kernel
theorem dX5_join_67 : decode cX5_join 67 = .ok (.iload 4, 2) := by decide +kernel
theorem dX5_join_69 : decode cX5_join 69 = .ok (.iastore, 1) := by decide +kernel
theorem dX5_join_70 : decode cX5_join 70 = .ok (.aload_n 0, 1) := by decide +kernel
theorem dX5_join_71 : decode cX5_join 71 = .ok (.getfield 9, 3) := by decide +kernel
theorem dX5_join_74 : decode cX5_join 74 = .ok (.iload_n 2, 1) := by decide +kernel
theorem dX5_join_75 : decode cX5_join 75 = .ok (.aload_n 0, 1) := by decide +kernel
theorem dX5_join_76 : decode cX5_join 76 = .ok (.getfield 9, 3) := by decide +kernel
theorem dX5_join_79 : decode cX5_join 79 = .ok (.iload_n 1, 1) := by decide +kernel
theorem dX5_join_80 : decode cX5_join 80 = .ok (.iaload, 1) := by decide +kernel
theorem dX5_join_81 : decode cX5_join 81 = .ok (.iastore, 1) := by decide +kernel
theorem dX5_join_82 : decode cX5_join 82 = .ok (.iconst 1, 1) := by decide +kernel
theorem dX5_join_83 : decode cX5_join 83 = .ok (.ireturn, 1) := by decide +kernel
set_option maxRecDepth 20000 in
theorem ggX5_measure_X9_isCell : GoodIn wsX5_measure wsX9_isCell := goodIn_r _ [6] (by decide +kernel) (by decide +kernel)
set_option maxRecDepth 20000 in
theorem gX5_measure_X9_isCell_n55 : GoodIn wsX5_measure (wsX9_isCell) := ggX5_measure_X9_isCell
set_option maxRecDepth 20000 in
theorem ggX5_measure_X4_signalOf : GoodIn wsX5_measure wsX4_signalOf := goodIn_r _ [11, 12, 13, 19, 20] (by decide +kernel) (by decide +kernel)
set_option maxRecDepth 20000 in
theorem gX5_measure_X4_signalOf : GoodIn wsX5_measure (wsV RX5 37 RX4 yX4_signalOf wsX4_signalOf) := goodIn_app (goodIn_of _ (by decide +kernel)) ggX5_measure_X4_signalOf
theorem dX5_measure_0 : decode cX5_measure 0 = .ok (.iconst 0, 1) := by decide +kernel
theorem dX5_measure_1 : decode cX5_measure 1 = .ok (.istore_n 2, 1) := by decide +kernel
theorem dX5_measure_2 : decode cX5_measure 2 = .ok (.iload_n 2, 1) := by decide +kernel
theorem dX5_measure_3 : decode cX5_measure 3 = .ok (.bipush 48, 2) := by decide +kernel
theorem dX5_measure_5 : decode cX5_measure 5 = .ok (.if_icmp .ge 23, 3) := by decide +kernel
theorem dX5_measure_8 : decode cX5_measure 8 = .ok (.aload_n 0, 1) := by decide +kernel
theorem dX5_measure_9 : decode cX5_measure 9 = .ok (.getfield 15, 3) := by decide +kernel
theorem dX5_measure_12 : decode cX5_measure 12 = .ok (.iload_n 2, 1) := by decide +kernel
theorem dX5_measure_13 : decode cX5_measure 13 = .ok (.iconst 0, 1) := by decide +kernel
theorem dX5_measure_14 : decode cX5_measure 14 = .ok (.iastore, 1) := by decide +kernel
theorem dX5_measure_15 : decode cX5_measure 15 = .ok (.aload_n 0, 1) := by decide +kernel
theorem dX5_measure_16 : decode cX5_measure 16 = .ok (.getfield 18, 3) := by decide +kernel
theorem dX5_measure_19 : decode cX5_measure 19 = .ok (.iload_n 2, 1) := by decide +kernel
theorem dX5_measure_20 : decode cX5_measure 20 = .ok (.iconst 0, 1) := by decide +kernel
theorem dX5_measure_21 : decode cX5_measure 21 = .ok (.iastore, 1) := by decide +kernel
theorem dX5_measure_22 : decode cX5_measure 22 = .ok (.iinc 2 1, 3) := by decide +kernel
theorem dX5_measure_25 : decode cX5_measure 25 = .ok (.goto (-23), 3) := by decide +kernel
theorem dX5_measure_28 : decode cX5_measure 28 = .ok (.iconst 0, 1) := by decide +kernel
theorem dX5_measure_29 : decode cX5_measure 29 = .ok (.istore_n 2, 1) := by decide +kernel
theorem dX5_measure_30 : decode cX5_measure 30 = .ok (.iload_n 2, 1) := by decide +kernel
theorem dX5_measure_31 : decode cX5_measure 31 = .ok (.bipush 48, 2) := by decide +kernel
theorem dX5_measure_33 : decode cX5_measure 33 = .ok (.if_icmp .ge 68, 3) := by decide +kernel
theorem dX5_measure_36 : decode cX5_measure 36 = .ok (.aload_n 0, 1) := by decide +kernel
theorem dX5_measure_37 : decode cX5_measure 37 = .ok (.getfield 9, 3) := by decide +kernel
theorem dX5_measure_40 : decode cX5_measure 40 = .ok (.iload_n 2, 1) := by decide +kernel
theorem dX5_measure_41 : decode cX5_measure 41 = .ok (.iaload, 1) := by decide +kernel
theorem dX5_measure_42 : decode cX5_measure 42 = .ok (.istore_n 3, 1) := by decide +kernel
theorem dX5_measure_43 : decode cX5_measure 43 = .ok (.iload_n 3, 1) := by decide +kernel
theorem dX5_measure_44 : decode cX5_measure 44 = .ok (.invokestatic 55, 3) := by decide +kernel
theorem dX5_measure_47 : decode cX5_measure 47 = .ok (.ifCond .eq 48, 3) := by decide +kernel
theorem dX5_measure_50 : decode cX5_measure 50 = .ok (.aload_n 1, 1) := by decide +kernel
theorem dX5_measure_51 : decode cX5_measure 51 = .ok (.iload_n 2, 1) := by decide +kernel
theorem dX5_measure_52 : decode cX5_measure 52 = .ok (.invokevirtual 37, 3) := by decide +kernel
theorem dX5_measure_55 : decode cX5_measure 55 = .ok (.istore 4, 2) := by decide +kernel
theorem dX5_measure_57 : decode cX5_measure 57 = .ok (.aload_n 0, 1) := by decide +kernel
theorem dX5_measure_58 : decode cX5_measure 58 = .ok (.getfield 15, 3) := by decide +kernel
theorem dX5_measure_61 : decode cX5_measure 61 = .ok (.iload_n 3, 1) := by decide +kernel
theorem dX5_measure_62 : decode cX5_measure 62 = .ok (.dup2, 1) := by decide +kernel
theorem dX5_measure_63 : decode cX5_measure 63 = .ok (.iaload, 1) := by decide +kernel
theorem dX5_measure_64 : decode cX5_measure 64 = .ok (.iconst 1, 1) := by decide +kernel
theorem dX5_measure_65 : decode cX5_measure 65 = .ok (.iadd, 1) := by decide +kernel
theorem dX5_measure_66 : decode cX5_measure 66 = .ok (.iastore, 1) := by decide +kernel
theorem dX5_measure_67 : decode cX5_measure 67 = .ok (.aload_n 0, 1) := by decide +kernel
theorem dX5_measure_68 : decode cX5_measure 68 = .ok (.getfield 18, 3) := by decide +kernel
theorem dX5_measure_71 : decode cX5_measure 71 = .ok (.iload_n 3, 1) := by decide +kernel
theorem dX5_measure_72 : decode cX5_measure 72 = .ok (.iload 4, 2) := by decide +kernel
theorem dX5_measure_74 : decode cX5_measure 74 = .ok (.aload_n 0, 1) := by decide +kernel
theorem dX5_measure_75 : decode cX5_measure 75 = .ok (.getfield 18, 3) := by decide +kernel
theorem dX5_measure_78 : decode cX5_measure 78 = .ok (.iload_n 3, 1) := by decide +kernel
theorem dX5_measure_79 : decode cX5_measure 79 = .ok (.iaload, 1) := by decide +kernel
theorem dX5_measure_80 : decode cX5_measure 80 = .ok (.if_icmp .le 8, 3) := by decide +kernel
theorem dX5_measure_83 : decode cX5_measure 83 = .ok (.iload 4, 2) := by decide +kernel
theorem dX5_measure_85 : decode cX5_measure 85 = .ok (.goto 9, 3) := by decide +kernel
theorem dX5_measure_88 : decode cX5_measure 88 = .ok (.aload_n 0, 1) := by decide +kernel
theorem dX5_measure_89 : decode cX5_measure 89 = .ok (.getfield 18, 3) := by decide +kernel
theorem dX5_measure_92 : decode cX5_measure 92 = .ok (.iload_n 3, 1) := by decide +kernel
theorem dX5_measure_93 : decode cX5_measure 93 = .ok (.iaload, 1) := by decide +kernel
theorem dX5_measure_94 : decode cX5_measure 94 = .ok (.iastore, 1) := by decide +kernel
theorem dX5_measure_95 : decode cX5_measure 95 = .ok (.iinc 2 1, 3) := by decide +kernel
theorem dX5_measure_98 : decode cX5_measure 98 = .ok (.goto (-68), 3) := by decide +kernel
theorem dX5_measure_101 : decode cX5_measure 101 = .ok (.return_, 1) := by decide +kernel
set_option maxRecDepth 20000 in
theorem ggX5_sizeAround_X9_isCell : GoodIn wsX5_sizeAround wsX9_isCell := goodIn_r _ [5] (by decide +kernel) (by decide +kernel)
set_option maxRecDepth 20000 in
theorem gX5_sizeAround_X9_isCell_n55 : GoodIn wsX5_sizeAround (wsX9_isCell) := ggX5_sizeAround_X9_isCell
theorem dX5_sizeAround_0 : decode cX5_sizeAround 0 = .ok (.iload_n 1, 1) := by decide +kernel
theorem dX5_sizeAround_1 : decode cX5_sizeAround 1 = .ok (.invokestatic 55, 3) := by decide +kernel
theorem dX5_sizeAround_4 : decode cX5_sizeAround 4 = .ok (.ifCond .eq 12, 3) := by decide +kernel
theorem dX5_sizeAround_7 : decode cX5_sizeAround 7 = .ok (.aload_n 0, 1) := by decide +kernel
theorem dX5_sizeAround_8 : decode cX5_sizeAround 8 = .ok (.getfield 9, 3) := by decide +kernel
theorem dX5_sizeAround_11 : decode cX5_sizeAround 11 = .ok (.iload_n 1, 1) := by decide +kernel
theorem dX5_sizeAround_12 : decode cX5_sizeAround 12 = .ok (.iaload, 1) := by decide +kernel
theorem dX5_sizeAround_13 : decode cX5_sizeAround 13 = .ok (.goto 5, 3) := by decide +kernel
theorem dX5_sizeAround_16 : decode cX5_sizeAround 16 = .ok (.bipush 48, 2) := by decide +kernel
theorem dX5_sizeAround_18 : decode cX5_sizeAround 18 = .ok (.istore_n 2, 1) := by decide +kernel
theorem dX5_sizeAround_19 : decode cX5_sizeAround 19 = .ok (.iload_n 2, 1) := by decide +kernel
theorem dX5_sizeAround_20 : decode cX5_sizeAround 20 = .ok (.invokestatic 55, 3) := by decide +kernel
theorem dX5_sizeAround_23 : decode cX5_sizeAround 23 = .ok (.ifCond .eq 12, 3) := by decide +kernel
theorem dX5_sizeAround_26 : decode cX5_sizeAround 26 = .ok (.aload_n 0, 1) := by decide +kernel
theorem dX5_sizeAround_27 : decode cX5_sizeAround 27 = .ok (.getfield 15, 3) := by decide +kernel
theorem dX5_sizeAround_30 : decode cX5_sizeAround 30 = .ok (.iload_n 2, 1) := by decide +kernel
theorem dX5_sizeAround_31 : decode cX5_sizeAround 31 = .ok (.iaload, 1) := by decide +kernel
theorem dX5_sizeAround_32 : decode cX5_sizeAround 32 = .ok (.goto 4, 3) := by decide +kernel
theorem dX5_sizeAround_35 : decode cX5_sizeAround 35 = .ok (.iconst 0, 1) := by decide +kernel
theorem dX5_sizeAround_36 : decode cX5_sizeAround 36 = .ok (.ireturn, 1) := by decide +kernel
set_option maxRecDepth 20000 in
theorem ggX5_kindAround_X9_isCell : GoodIn wsX5_kindAround wsX9_isCell := goodIn_r _ [8] (by decide +kernel) (by decide +kernel)
set_option maxRecDepth 20000 in
theorem gX5_kindAround_X9_isCell_n55 : GoodIn wsX5_kindAround (wsX9_isCell) := ggX5_kindAround_X9_isCell
theorem dX5_kindAround_0 : decode cX5_kindAround 0 = .ok (.iload_n 1, 1) := by decide +kernel
theorem dX5_kindAround_1 : decode cX5_kindAround 1 = .ok (.invokestatic 55, 3) := by decide +kernel
theorem dX5_kindAround_4 : decode cX5_kindAround 4 = .ok (.ifCond .eq 12, 3) := by decide +kernel
theorem dX5_kindAround_7 : decode cX5_kindAround 7 = .ok (.aload_n 0, 1) := by decide +kernel
theorem dX5_kindAround_8 : decode cX5_kindAround 8 = .ok (.getfield 9, 3) := by decide +kernel
theorem dX5_kindAround_11 : decode cX5_kindAround 11 = .ok (.iload_n 1, 1) := by decide +kernel
theorem dX5_kindAround_12 : decode cX5_kindAround 12 = .ok (.iaload, 1) := by decide +kernel
theorem dX5_kindAround_13 : decode cX5_kindAround 13 = .ok (.goto 5, 3) := by decide +kernel
theorem dX5_kindAround_16 : decode cX5_kindAround 16 = .ok (.bipush 48, 2) := by decide +kernel
theorem dX5_kindAround_18 : decode cX5_kindAround 18 = .ok (.istore_n 2, 1) := by decide +kernel
theorem dX5_kindAround_19 : decode cX5_kindAround 19 = .ok (.iload_n 2, 1) := by decide +kernel
theorem dX5_kindAround_20 : decode cX5_kindAround 20 = .ok (.invokestatic 55, 3) := by decide +kernel
theorem dX5_kindAround_23 : decode cX5_kindAround 23 = .ok (.ifCond .ne 5, 3) := by decide +kernel
theorem dX5_kindAround_26 : decode cX5_kindAround 26 = .ok (.iconst (-1), 1) := by decide +kernel
theorem dX5_kindAround_27 : decode cX5_kindAround 27 = .ok (.ireturn, 1) := by decide +kernel
theorem dX5_kindAround_28 : decode cX5_kindAround 28 = .ok (.aload_n 0, 1) := by decide +kernel
theorem dX5_kindAround_29 : decode cX5_kindAround 29 = .ok (.getfield 15, 3) := by decide +kernel
theorem dX5_kindAround_32 : decode cX5_kindAround 32 = .ok (.iload_n 2, 1) := by decide +kernel
theorem dX5_kindAround_33 : decode cX5_kindAround 33 = .ok (.iaload, 1) := by decide +kernel
theorem dX5_kindAround_34 : decode cX5_kindAround 34 = .ok (.aload_n 0, 1) := by decide +kernel
theorem dX5_kindAround_35 : decode cX5_kindAround 35 = .ok (.getfield 26, 3) := by decide +kernel
theorem dX5_kindAround_38 : decode cX5_kindAround 38 = .ok (.if_icmp .le 5, 3) := by decide +kernel
theorem dX5_kindAround_41 : decode cX5_kindAround 41 = .ok (.iconst 1, 1) := by decide +kernel
theorem dX5_kindAround_42 : decode cX5_kindAround 42 = .ok (.ireturn, 1) := by decide +kernel
theorem dX5_kindAround_43 : decode cX5_kindAround 43 = .ok (.aload_n 0, 1) := by decide +kernel
theorem dX5_kindAround_44 : decode cX5_kindAround 44 = .ok (.getfield 18, 3) := by decide +kernel
theorem dX5_kindAround_47 : decode cX5_kindAround 47 = .ok (.iload_n 2, 1) := by decide +kernel
theorem dX5_kindAround_48 : decode cX5_kindAround 48 = .ok (.iaload, 1) := by decide +kernel
theorem dX5_kindAround_49 : decode cX5_kindAround 49 = .ok (.aload_n 0, 1) := by decide +kernel
theorem dX5_kindAround_50 : decode cX5_kindAround 50 = .ok (.getfield 30, 3) := by decide +kernel
theorem dX5_kindAround_53 : decode cX5_kindAround 53 = .ok (.if_icmp .ge 7, 3) := by decide +kernel
theorem dX5_kindAround_56 : decode cX5_kindAround 56 = .ok (.iconst 2, 1) := by decide +kernel
theorem dX5_kindAround_57 : decode cX5_kindAround 57 = .ok (.goto 4, 3) := by decide +kernel
theorem dX5_kindAround_60 : decode cX5_kindAround 60 = .ok (.iconst 0, 1) := by decide +kernel
theorem dX5_kindAround_61 : decode cX5_kindAround 61 = .ok (.ireturn, 1) := by decide +kernel
set_option maxRecDepth 20000 in
theorem ggX5_countOf_X5_kindAround : GoodIn wsX5_countOf wsX5_kindAround := goodIn_r _ [6, 1, 7, 8, 9, 10, 11, 12, 13, 14, 15, 16, 17, 18] (by decide +kernel) (by decide +kernel)
set_option maxRecDepth 20000 in
theorem gX5_countOf_X5_kindAround : GoodIn wsX5_countOf (wsV RX5 59 RX5 yX5_kindAround wsX5_kindAround) := goodIn_app (goodIn_of _ (by decide +kernel)) ggX5_countOf_X5_kindAround
theorem dX5_countOf_0 : decode cX5_countOf 0 = .ok (.iconst 0, 1) := by decide +kernel
theorem dX5_countOf_1 : decode cX5_countOf 1 = .ok (.istore_n 2, 1) := by decide +kernel
theorem dX5_countOf_2 : decode cX5_countOf 2 = .ok (.iconst 0, 1) := by decide +kernel
theorem dX5_countOf_3 : decode cX5_countOf 3 = .ok (.istore_n 3, 1) := by decide +kernel
theorem dX5_countOf_4 : decode cX5_countOf 4 = .ok (.iload_n 3, 1) := by decide +kernel
theorem dX5_countOf_5 : decode cX5_countOf 5 = .ok (.bipush 48, 2) := by decide +kernel
theorem dX5_countOf_7 : decode cX5_countOf 7 = .ok (.if_icmp .ge 31, 3) := by decide +kernel
theorem dX5_countOf_10 : decode cX5_countOf 10 = .ok (.aload_n 0, 1) := by decide +kernel
theorem dX5_countOf_11 : decode cX5_countOf 11 = .ok (.getfield 9, 3) := by decide +kernel
theorem dX5_countOf_14 : decode cX5_countOf 14 = .ok (.iload_n 3, 1) := by decide +kernel
theorem dX5_countOf_15 : decode cX5_countOf 15 = .ok (.iaload, 1) := by decide +kernel
theorem dX5_countOf_16 : decode cX5_countOf 16 = .ok (.iload_n 3, 1) := by decide +kernel
theorem dX5_countOf_17 : decode cX5_countOf 17 = .ok (.if_icmp .ne 15, 3) := by decide +kernel
theorem dX5_countOf_20 : decode cX5_countOf 20 = .ok (.aload_n 0, 1) := by decide +kernel
theorem dX5_countOf_21 : decode cX5_countOf 21 = .ok (.iload_n 3, 1) := by decide +kernel
theorem dX5_countOf_22 : decode cX5_countOf 22 = .ok (.invokevirtual 59, 3) := by decide +kernel
theorem dX5_countOf_25 : decode cX5_countOf 25 = .ok (.iload_n 1, 1) := by decide +kernel
theorem dX5_countOf_26 : decode cX5_countOf 26 = .ok (.if_icmp .ne 6, 3) := by decide +kernel
theorem dX5_countOf_29 : decode cX5_countOf 29 = .ok (.iinc 2 1, 3) := by decide +kernel
theorem dX5_countOf_32 : decode cX5_countOf 32 = .ok (.iinc 3 1, 3) := by decide +kernel
theorem dX5_countOf_35 : decode cX5_countOf 35 = .ok (.goto (-31), 3) := by decide +kernel
theorem dX5_countOf_38 : decode cX5_countOf 38 = .ok (.iload_n 2, 1) := by decide +kernel
theorem dX5_countOf_39 : decode cX5_countOf 39 = .ok (.ireturn, 1) := by decide +kernel
set_option maxRecDepth 20000 in
theorem ggX6_init_X4_init : GoodIn wsX6_init wsX4_init := goodIn_r _ [19, 20, 2, 3, 8, 21, 22, 26, 27] (by decide +kernel) (by decide +kernel)
set_option maxRecDepth 20000 in
theorem gX6_init_X4_init_n11 : GoodIn wsX6_init (wsX4_init) := ggX6_init_X4_init
set_option maxRecDepth 20000 in
theorem ggX6_init_X8_init : GoodIn wsX6_init wsX8_init := goodIn_r _ [24, 25, 2, 3] (by decide +kernel) (by decide +kernel)
set_option maxRecDepth 20000 in
theorem gX6_init_X8_init_n37 : GoodIn wsX6_init (wsX8_init) := ggX6_init_X8_init
theorem dX6_init_0 : decode cX6_init 0 = .ok (.aload_n 0, 1) := by decide +kernel
theorem dX6_init_1 : decode cX6_init 1 = .ok (.invokespecial 3, 3) := by decide +kernel
theorem dX6_init_4 : decode cX6_init 4 = .ok (.aload_n 0, 1) := by decide +kernel
theorem dX6_init_5 : decode cX6_init 5 = .ok (.new 9, 3) := by decide +kernel
theorem dX6_init_8 : decode cX6_init 8 = .ok (.dup, 1) := by decide +kernel
theorem dX6_init_9 : decode cX6_init 9 = .ok (.invokespecial 11, 3) := by decide +kernel
theorem dX6_init_12 : decode cX6_init 12 = .ok (.putfield 12, 3) := by decide +kernel
theorem dX6_init_15 : decode cX6_init 15 = .ok (.aload_n 0, 1) := by decide +kernel
theorem dX6_init_16 : decode cX6_init 16 = .ok (.iconst 5, 1) := by decide +kernel
theorem dX6_init_17 : decode cX6_init 17 = .ok (.newarray .int, 2) := by decide +kernel
theorem dX6_init_19 : decode cX6_init 19 = .ok (.putfield 18, 3) := by decide +kernel
theorem dX6_init_22 : decode cX6_init 22 = .ok (.aload_n 0, 1) := by decide +kernel
theorem dX6_init_23 : decode cX6_init 23 = .ok (.bipush 6, 2) := by decide +kernel
theorem dX6_init_25 : decode cX6_init 25 = .ok (.anewarray 22, 3) := by decide +kernel
theorem dX6_init_28 : decode cX6_init 28 = .ok (.putfield 24, 3) := by decide +kernel
theorem dX6_init_31 : decode cX6_init 31 = .ok (.getstatic 28, 3) := by decide +kernel
theorem dX6_init_34 : decode cX6_init 34 = .ok (.iconst 0, 1) := by decide +kernel
theorem dX6_init_35 : decode cX6_init 35 = .ok (.aload_n 0, 1) := by decide +kernel
theorem dX6_init_36 : decode cX6_init 36 = .ok (.getfield 18, 3) := by decide +kernel
theorem dX6_init_39 : decode cX6_init 39 = .ok (.iconst 0, 1) := by decide +kernel
theorem dX6_init_40 : decode cX6_init 40 = .ok (.iconst 5, 1) := by decide +kernel
theorem dX6_init_41 : decode cX6_init 41 = .ok (.invokestatic 31, 3) := by decide +kernel
theorem dX6_init_44 : decode cX6_init 44 = .ok (.iconst 0, 1) := by decide +kernel
theorem dX6_init_45 : decode cX6_init 45 = .ok (.istore_n 1, 1) := by decide +kernel
theorem dX6_init_46 : decode cX6_init 46 = .ok (.iload_n 1, 1) := by decide +kernel
theorem dX6_init_47 : decode cX6_init 47 = .ok (.bipush 6, 2) := by decide +kernel
theorem dX6_init_49 : decode cX6_init 49 = .ok (.if_icmp .ge 22, 3) := by decide +kernel
theorem dX6_init_52 : decode cX6_init 52 = .ok (.aload_n 0, 1) := by decide +kernel
theorem dX6_init_53 : decode cX6_init 53 = .ok (.getfield 24, 3) := by decide +kernel
theorem dX6_init_56 : decode cX6_init 56 = .ok (.iload_n 1, 1) := by decide +kernel
theorem dX6_init_57 : decode cX6_init 57 = .ok (.new 22, 3) := by decide +kernel
theorem dX6_init_60 : decode cX6_init 60 = .ok (.dup, 1) := by decide +kernel
theorem dX6_init_61 : decode cX6_init 61 = .ok (.invokespecial 37, 3) := by decide +kernel
theorem dX6_init_64 : decode cX6_init 64 = .ok (.aastore, 1) := by decide +kernel
theorem dX6_init_65 : decode cX6_init 65 = .ok (.iinc 1 1, 3) := by decide +kernel
theorem dX6_init_68 : decode cX6_init 68 = .ok (.goto (-22), 3) := by decide +kernel
theorem dX6_init_71 : decode cX6_init 71 = .ok (.return_, 1) := by decide +kernel
set_option maxRecDepth 20000 in
theorem ggX6_copyFrom_X4_copyFrom : GoodIn wsX6_copyFrom wsX4_copyFrom := goodIn_r _ [15, 16, 17, 4, 5, 6, 18, 35, 36] (by decide +kernel) (by decide +kernel)
set_option maxRecDepth 20000 in
theorem gX6_copyFrom_X4_copyFrom : GoodIn wsX6_copyFrom (wsV RX6 38 RX4 yX4_copyFrom wsX4_copyFrom) := goodIn_app (goodIn_of _ (by decide +kernel)) ggX6_copyFrom_X4_copyFrom
set_option maxRecDepth 20000 in
theorem ggX6_copyFrom_X8_copyFrom : GoodIn wsX6_copyFrom wsX8_copyFrom := goodIn_r _ [23, 24, 25, 26, 27, 28, 37, 38, 39, 40, 41] (by decide +kernel) (by decide +kernel)
set_option maxRecDepth 20000 in
theorem gX6_copyFrom_X8_copyFrom : GoodIn wsX6_copyFrom (wsV RX6 42 RX8 yX8_copyFrom wsX8_copyFrom) := goodIn_app (goodIn_of _ (by decide +kernel)) ggX6_copyFrom_X8_copyFrom
theorem dX6_copyFrom_0 : decode cX6_copyFrom 0 = .ok (.aload_n 0, 1) := by decide +kernel
theorem dX6_copyFrom_1 : decode cX6_copyFrom 1 = .ok (.getfield 12, 3) := by decide +kernel
theorem dX6_copyFrom_4 : decode cX6_copyFrom 4 = .ok (.aload_n 1, 1) := by decide +kernel
theorem dX6_copyFrom_5 : decode cX6_copyFrom 5 = .ok (.getfield 12, 3) := by decide +kernel
theorem dX6_copyFrom_8 : decode cX6_copyFrom 8 = .ok (.invokevirtual 38, 3) := by decide +kernel
theorem dX6_copyFrom_11 : decode cX6_copyFrom 11 = .ok (.aload_n 1, 1) := by decide +kernel
theorem dX6_copyFrom_12 : decode cX6_copyFrom 12 = .ok (.getfield 18, 3) := by decide +kernel
theorem dX6_copyFrom_15 : decode cX6_copyFrom 15 = .ok (.iconst 0, 1) := by decide +kernel
theorem dX6_copyFrom_16 : decode cX6_copyFrom 16 = .ok (.aload_n 0, 1) := by decide +kernel
theorem dX6_copyFrom_17 : decode cX6_copyFrom 17 = .ok (.getfield 18, 3) := by decide +kernel
theorem dX6_copyFrom_20 : decode cX6_copyFrom 20 = .ok (.iconst 0, 1) := by decide +kernel
theorem dX6_copyFrom_21 : decode cX6_copyFrom 21 = .ok (.iconst 5, 1) := by decide +kernel
theorem dX6_copyFrom_22 : decode cX6_copyFrom 22 = .ok (.invokestatic 31, 3) := by decide +kernel
theorem dX6_copyFrom_25 : decode cX6_copyFrom 25 = .ok (.iconst 0, 1) := by decide +kernel
theorem dX6_copyFrom_26 : decode cX6_copyFrom 26 = .ok (.istore_n 2, 1) := by decide +kernel
theorem dX6_copyFrom_27 : decode cX6_copyFrom 27 = .ok (.iload_n 2, 1) := by decide +kernel
theorem dX6_copyFrom_28 : decode cX6_copyFrom 28 = .ok (.bipush 6, 2) := by decide +kernel
theorem dX6_copyFrom_30 : decode cX6_copyFrom 30 = .ok (.if_icmp .ge 24, 3) := by decide +kernel
theorem dX6_copyFrom_33 : decode cX6_copyFrom 33 = .ok (.aload_n 0, 1) := by decide +kernel
theorem dX6_copyFrom_34 : decode cX6_copyFrom 34 = .ok (.getfield 24, 3) := by decide +kernel
theorem dX6_copyFrom_37 : decode cX6_copyFrom 37 = .ok (.iload_n 2, 1) := by decide +kernel
theorem dX6_copyFrom_38 : decode cX6_copyFrom 38 = .ok (.aaload, 1) := by decide +kernel
theorem dX6_copyFrom_39 : decode cX6_copyFrom 39 = .ok (.aload_n 1, 1) := by decide +kernel
theorem dX6_copyFrom_40 : decode cX6_copyFrom 40 = .ok (.getfield 24, 3) := by decide +kernel
theorem dX6_copyFrom_43 : decode cX6_copyFrom 43 = .ok (.iload_n 2, 1) := by decide +kernel
theorem dX6_copyFrom_44 : decode cX6_copyFrom 44 = .ok (.aaload, 1) := by decide +kernel
theorem dX6_copyFrom_45 : decode cX6_copyFrom 45 = .ok (.invokevirtual 42, 3) := by decide +kernel
theorem dX6_copyFrom_48 : decode cX6_copyFrom 48 = .ok (.iinc 2 1, 3) := by decide +kernel
theorem dX6_copyFrom_51 : decode cX6_copyFrom 51 = .ok (.goto (-24), 3) := by decide +kernel
theorem dX6_copyFrom_54 : decode cX6_copyFrom 54 = .ok (.aload_n 0, 1) := by decide +kernel
theorem dX6_copyFrom_55 : decode cX6_copyFrom 55 = .ok (.aload_n 1, 1) := by decide +kernel
theorem dX6_copyFrom_56 : decode cX6_copyFrom 56 = .ok (.getfield 45, 3) := by decide +kernel
theorem dX6_copyFrom_59 : decode cX6_copyFrom 59 = .ok (.putfield 45, 3) := by decide +kernel
theorem dX6_copyFrom_62 : decode cX6_copyFrom 62 = .ok (.aload_n 0, 1) := by decide +kernel
theorem dX6_copyFrom_63 : decode cX6_copyFrom 63 = .ok (.aload_n 1, 1) := by decide +kernel
theorem dX6_copyFrom_64 : decode cX6_copyFrom 64 = .ok (.getfield 49, 3) := by decide +kernel
theorem dX6_copyFrom_67 : decode cX6_copyFrom 67 = .ok (.putfield 49, 3) := by decide +kernel
theorem dX6_copyFrom_70 : decode cX6_copyFrom 70 = .ok (.aload_n 0, 1) := by decide +kernel
theorem dX6_copyFrom_71 : decode cX6_copyFrom 71 = .ok (.aload_n 1, 1) := by decide +kernel
theorem dX6_copyFrom_72 : decode cX6_copyFrom 72 = .ok (.getfield 52, 3) := by decide +kernel
theorem dX6_copyFrom_75 : decode cX6_copyFrom 75 = .ok (.putfield 52, 3) := by decide +kernel
theorem dX6_copyFrom_78 : decode cX6_copyFrom 78 = .ok (.return_, 1) := by decide +kernel
theorem dX6_downSet_0 : decode cX6_downSet 0 = .ok (.iconst 0, 1) := by decide +kernel
theorem dX6_downSet_1 : decode cX6_downSet 1 = .ok (.istore_n 1, 1) := by decide +kernel
theorem dX6_downSet_2 : decode cX6_downSet 2 = .ok (.iconst 0, 1) := by decide +kernel
theorem dX6_downSet_3 : decode cX6_downSet 3 = .ok (.istore_n 2, 1) := by decide +kernel
theorem dX6_downSet_4 : decode cX6_downSet 4 = .ok (.iload_n 2, 1) := by decide +kernel
theorem dX6_downSet_5 : decode cX6_downSet 5 = .ok (.bipush 6, 2) := by decide +kernel
theorem dX6_downSet_7 : decode cX6_downSet 7 = .ok (.if_icmp .ge 27, 3) := by decide +kernel
theorem dX6_downSet_10 : decode cX6_downSet 10 = .ok (.aload_n 0, 1) := by decide +kernel
theorem dX6_downSet_11 : decode cX6_downSet 11 = .ok (.getfield 24, 3) := by decide +kernel
theorem dX6_downSet_14 : decode cX6_downSet 14 = .ok (.iload_n 2, 1) := by decide +kernel
theorem dX6_downSet_15 : decode cX6_downSet 15 = .ok (.aaload, 1) := by decide +kernel
theorem dX6_downSet_16 : decode cX6_downSet 16 = .ok (.getfield 55, 3) := by decide +kernel
theorem dX6_downSet_19 : decode cX6_downSet 19 = .ok (.ifCond .eq 9, 3) := by decide +kernel
theorem dX6_downSet_22 : decode cX6_downSet 22 = .ok (.iload_n 1, 1) := by decide +kernel
theorem dX6_downSet_23 : decode cX6_downSet 23 = .ok (.iconst 1, 1) := by decide +kernel
theorem dX6_downSet_24 : decode cX6_downSet 24 = .ok (.iload_n 2, 1) := by decide +kernel
theorem dX6_downSet_25 : decode cX6_downSet 25 = .ok (.ishl, 1) := by decide +kernel
theorem dX6_downSet_26 : decode cX6_downSet 26 = .ok (.ior, 1) := by decide +kernel
theorem dX6_downSet_27 : decode cX6_downSet 27 = .ok (.istore_n 1, 1) := by decide +kernel
theorem dX6_downSet_28 : decode cX6_downSet 28 = .ok (.iinc 2 1, 3) := by decide +kernel
theorem dX6_downSet_31 : decode cX6_downSet 31 = .ok (.goto (-27), 3) := by decide +kernel
theorem dX6_downSet_34 : decode cX6_downSet 34 = .ok (.iload_n 1, 1) := by decide +kernel
theorem dX6_downSet_35 : decode cX6_downSet 35 = .ok (.ireturn, 1) := by decide +kernel
set_option maxRecDepth 20000 in
theorem ggX6_takeFrame_X6_downSet : GoodIn wsX6_takeFrame wsX6_downSet := goodIn_r _ [8, 9, 65, 66, 67, 68, 69, 70, 71, 72, 73, 74, 75] (by decide +kernel) (by decide +kernel)
set_option maxRecDepth 20000 in
theorem gX6_takeFrame_X6_downSet : GoodIn wsX6_takeFrame (wsV RX6 59 RX6 yX6_downSet wsX6_downSet) := goodIn_app (goodIn_of _ (by decide +kernel)) ggX6_takeFrame_X6_downSet
set_option maxRecDepth 20000 in
theorem ggX6_takeFrame_X6_moveTracks : GoodIn wsX6_takeFrame wsX6_moveTracks := goodIn_r _ [13, 9, 14, 2, 15, 16, 17, 18, 19, 20, 21, 22, 23, 24, 25, 26, 27, 28, 29, 30, 31, 32, 33, 34, 35, 36, 37, 38, 39, 40, 41, 42, 43, 44, 45, 46, 47, 48, 49, 50, 65, 66, 67, 68, 69, 70, 71, 72, 73, 74, 75, 76, 77, 78, 79, 80, 81, 82, 83, 84, 85, 86, 87] (by decide +kernel) (by decide +kernel)
set_option maxRecDepth 20000 in
theorem gX6_takeFrame_X6_moveTracks : GoodIn wsX6_takeFrame (wsV RX6 63 RX6 yX6_moveTracks wsX6_moveTracks) := goodIn_app (goodIn_of _ (by decide +kernel)) ggX6_takeFrame_X6_moveTracks
set_option maxRecDepth 20000 in
theorem ggX6_takeFrame_X6_startTracks : GoodIn wsX6_takeFrame wsX6_startTracks := goodIn_r _ [54, 9, 1, 55, 56, 57, 18, 58, 59, 60, 21, 22, 23, 24, 25, 26, 27, 28, 29, 30, 31, 32, 33, 34, 35, 36, 61, 62, 63, 40, 64, 50, 42, 43, 44, 45, 82, 83, 84, 85, 86, 87, 65, 66, 67, 68, 69, 70, 76, 77, 78, 79, 80, 81, 71, 72, 73, 74, 75] (by decide +kernel) (by decide +kernel)
set_option maxRecDepth 20000 in
theorem gX6_takeFrame_X6_startTracks : GoodIn wsX6_takeFrame (wsV RX6 67 RX6 yX6_startTracks wsX6_startTracks) := goodIn_app (goodIn_of _ (by decide +kernel)) ggX6_takeFrame_X6_startTracks
theorem dX6_takeFrame_0 : decode cX6_takeFrame 0 = .ok (.aload_n 0, 1) := by decide +kernel
theorem dX6_takeFrame_1 : decode cX6_takeFrame 1 = .ok (.getfield 49, 3) := by decide +kernel
theorem dX6_takeFrame_4 : decode cX6_takeFrame 4 = .ok (.aload_n 0, 1) := by decide +kernel
theorem dX6_takeFrame_5 : decode cX6_takeFrame 5 = .ok (.getfield 52, 3) := by decide +kernel
theorem dX6_takeFrame_8 : decode cX6_takeFrame 8 = .ok (.iadd, 1) := by decide +kernel
theorem dX6_takeFrame_9 : decode cX6_takeFrame 9 = .ok (.istore_n 3, 1) := by decide +kernel
theorem dX6_takeFrame_10 : decode cX6_takeFrame 10 = .ok (.aload_n 0, 1) := by decide +kernel
theorem dX6_takeFrame_11 : decode cX6_takeFrame 11 = .ok (.invokevirtual 59, 3) := by decide +kernel
theorem dX6_takeFrame_14 : decode cX6_takeFrame 14 = .ok (.istore 4, 2) := by decide +kernel
theorem dX6_takeFrame_16 : decode cX6_takeFrame 16 = .ok (.aload_n 0, 1) := by decide +kernel
theorem dX6_takeFrame_17 : decode cX6_takeFrame 17 = .ok (.dup, 1) := by decide +kernel
theorem dX6_takeFrame_18 : decode cX6_takeFrame 18 = .ok (.getfield 45, 3) := by decide +kernel
theorem dX6_takeFrame_21 : decode cX6_takeFrame 21 = .ok (.iconst 1, 1) := by decide +kernel
theorem dX6_takeFrame_22 : decode cX6_takeFrame 22 = .ok (.iadd, 1) := by decide +kernel
theorem dX6_takeFrame_23 : decode cX6_takeFrame 23 = .ok (.putfield 45, 3) := by decide +kernel
theorem dX6_takeFrame_26 : decode cX6_takeFrame 26 = .ok (.aload_n 0, 1) := by decide +kernel
theorem dX6_takeFrame_27 : decode cX6_takeFrame 27 = .ok (.aload_n 1, 1) := by decide +kernel
theorem dX6_takeFrame_28 : decode cX6_takeFrame 28 = .ok (.aload_n 2, 1) := by decide +kernel
theorem dX6_takeFrame_29 : decode cX6_takeFrame 29 = .ok (.invokevirtual 63, 3) := by decide +kernel
theorem dX6_takeFrame_32 : decode cX6_takeFrame 32 = .ok (.aload_n 0, 1) := by decide +kernel
theorem dX6_takeFrame_33 : decode cX6_takeFrame 33 = .ok (.aload_n 1, 1) := by decide +kernel
theorem dX6_takeFrame_34 : decode cX6_takeFrame 34 = .ok (.aload_n 2, 1) := by decide +kernel
theorem dX6_takeFrame_35 : decode cX6_takeFrame 35 = .ok (.iload 4, 2) := by decide +kernel
theorem dX6_takeFrame_37 : decode cX6_takeFrame 37 = .ok (.invokevirtual 67, 3) := by decide +kernel
theorem dX6_takeFrame_40 : decode cX6_takeFrame 40 = .ok (.aload_n 0, 1) := by decide +kernel
theorem dX6_takeFrame_41 : decode cX6_takeFrame 41 = .ok (.getfield 49, 3) := by decide +kernel
theorem dX6_takeFrame_44 : decode cX6_takeFrame 44 = .ok (.aload_n 0, 1) := by decide +kernel
theorem dX6_takeFrame_45 : decode cX6_takeFrame 45 = .ok (.getfield 52, 3) := by decide +kernel
theorem dX6_takeFrame_48 : decode cX6_takeFrame 48 = .ok (.iadd, 1) := by decide +kernel
theorem dX6_takeFrame_49 : decode cX6_takeFrame 49 = .ok (.iload_n 3, 1) := by decide +kernel
theorem dX6_takeFrame_50 : decode cX6_takeFrame 50 = .ok (.isub, 1) := by decide +kernel
theorem dX6_takeFrame_51 : decode cX6_takeFrame 51 = .ok (.ireturn, 1) := by decide +kernel
set_option maxRecDepth 20000 in
theorem ggX6_moveTracks_X3_contactOf : GoodIn wsX6_moveTracks wsX3_contactOf := goodIn_r _ [8, 9, 51, 52, 53, 54, 55, 56] (by decide +kernel) (by decide +kernel)
set_option maxRecDepth 20000 in
theorem gX6_moveTracks_X3_contactOf : GoodIn wsX6_moveTracks (wsV RX6 71 RX3 yX3_contactOf wsX3_contactOf) := goodIn_app (goodIn_of _ (by decide +kernel)) ggX6_moveTracks_X3_contactOf
set_option maxRecDepth 20000 in
theorem ggX6_moveTracks_X1_rowOf : GoodIn wsX6_moveTracks wsX1_rowOf := goodIn_r _ [14, 15, 16, 17, 18, 13, 19, 20, 57, 58, 59, 60, 61, 62] (by decide +kernel) (by decide +kernel)
set_option maxRecDepth 20000 in
theorem gX6_moveTracks_X1_rowOf : GoodIn wsX6_moveTracks (wsV RX6 77 RX1 yX1_rowOf wsX1_rowOf) := goodIn_app (goodIn_of _ (by decide +kernel)) ggX6_moveTracks_X1_rowOf
set_option maxRecDepth 20000 in
theorem ggX6_moveTracks_X1_columnOf : GoodIn wsX6_moveTracks wsX1_columnOf := goodIn_r _ [24, 25, 16, 17, 18, 13, 19, 20, 57, 58, 59, 60, 61, 62] (by decide +kernel) (by decide +kernel)
set_option maxRecDepth 20000 in
theorem gX6_moveTracks_X1_columnOf : GoodIn wsX6_moveTracks (wsV RX6 82 RX1 yX1_columnOf wsX1_columnOf) := goodIn_app (goodIn_of _ (by decide +kernel)) ggX6_moveTracks_X1_columnOf
set_option maxRecDepth 20000 in
theorem ggX6_moveTracks_X8_follow : GoodIn wsX6_moveTracks wsX8_follow := goodIn_r _ [30, 31, 32, 33, 34, 46, 47, 48, 49, 50] (by decide +kernel) (by decide +kernel)
set_option maxRecDepth 20000 in
theorem gX6_moveTracks_X8_follow : GoodIn wsX6_moveTracks (wsV RX6 85 RX8 yX8_follow wsX8_follow) := goodIn_app (goodIn_of _ (by decide +kernel)) ggX6_moveTracks_X8_follow
set_option maxRecDepth 20000 in
theorem ggX6_moveTracks_X8_miss : GoodIn wsX6_moveTracks wsX8_miss := goodIn_r _ [38, 34, 39, 46, 47, 48, 49, 50] (by decide +kernel) (by decide +kernel)
set_option maxRecDepth 20000 in
theorem gX6_moveTracks_X8_miss : GoodIn wsX6_moveTracks (wsV RX6 89 RX8 yX8_miss wsX8_miss) := goodIn_app (goodIn_of _ (by decide +kernel)) ggX6_moveTracks_X8_miss
theorem dX6_moveTracks_0 : decode cX6_moveTracks 0 = .ok (.iconst 0, 1) := by decide +kernel
theorem dX6_moveTracks_1 : decode cX6_moveTracks 1 = .ok (.istore_n 3, 1) := by decide +kernel
theorem dX6_moveTracks_2 : decode cX6_moveTracks 2 = .ok (.iload_n 3, 1) := by decide +kernel
theorem dX6_moveTracks_3 : decode cX6_moveTracks 3 = .ok (.bipush 6, 2) := by decide +kernel
theorem dX6_moveTracks_5 : decode cX6_moveTracks 5 = .ok (.if_icmp .ge 91, 3) := by decide +kernel
theorem dX6_moveTracks_8 : decode cX6_moveTracks 8 = .ok (.aload_n 0, 1) := by decide +kernel
theorem dX6_moveTracks_9 : decode cX6_moveTracks 9 = .ok (.getfield 24, 3) := by decide +kernel
theorem dX6_moveTracks_12 : decode cX6_moveTracks 12 = .ok (.iload_n 3, 1) := by decide +kernel
theorem dX6_moveTracks_13 : decode cX6_moveTracks 13 = .ok (.aaload, 1) := by decide +kernel
theorem dX6_moveTracks_14 : decode cX6_moveTracks 14 = .ok (.astore 4, 2) := by decide +kernel
theorem dX6_moveTracks_16 : decode cX6_moveTracks 16 = .ok (.aload_n 2, 1) := by decide +kernel
theorem dX6_moveTracks_17 : decode cX6_moveTracks 17 = .ok (.iload_n 3, 1) := by decide +kernel
theorem dX6_moveTracks_18 : decode cX6_moveTracks 18 = .ok (.invokevirtual 71, 3) := by decide +kernel
theorem dX6_moveTracks_21 : decode cX6_moveTracks 21 = .ok (.istore 5, 2) := by decide +kernel
theorem dX6_moveTracks_23 : decode cX6_moveTracks 23 = .ok (.iload 5, 2) := by decide +kernel
theorem dX6_moveTracks_25 : decode cX6_moveTracks 25 = .ok (.iconst (-1), 1) := by decide +kernel
theorem dX6_moveTracks_26 : decode cX6_moveTracks 26 = .ok (.if_icmp .eq 23, 3) := by decide +kernel
theorem dX6_moveTracks_29 : decode cX6_moveTracks 29 = .ok (.aload 4, 2) := by decide +kernel
theorem dX6_moveTracks_31 : decode cX6_moveTracks 31 = .ok (.aload_n 1, 1) := by decide +kernel
theorem dX6_moveTracks_32 : decode cX6_moveTracks 32 = .ok (.iload 5, 2) := by decide +kernel
theorem dX6_moveTracks_34 : decode cX6_moveTracks 34 = .ok (.invokevirtual 77, 3) := by decide +kernel
theorem dX6_moveTracks_37 : decode cX6_moveTracks 37 = .ok (.aload_n 1, 1) := by decide +kernel
theorem dX6_moveTracks_38 : decode cX6_moveTracks 38 = .ok (.iload 5, 2) := by decide +kernel
theorem dX6_moveTracks_40 : decode cX6_moveTracks 40 = .ok (.invokevirtual 82, 3) := by decide +kernel
theorem dX6_moveTracks_43 : decode cX6_moveTracks 43 = .ok (.invokevirtual 85, 3) := by decide +kernel
theorem dX6_moveTracks_46 : decode cX6_moveTracks 46 = .ok (.goto 44, 3) := by decide +kernel
theorem dX6_moveTracks_49 : decode cX6_moveTracks 49 = .ok (.aload 4, 2) := by decide +kernel
theorem dX6_moveTracks_51 : decode cX6_moveTracks 51 = .ok (.getfield 55, 3) := by decide +kernel
theorem dX6_moveTracks_54 : decode cX6_moveTracks 54 = .ok (.ifCond .eq 36, 3) := by decide +kernel
theorem dX6_moveTracks_57 : decode cX6_moveTracks 57 = .ok (.aload 4, 2) := by decide +kernel
theorem dX6_moveTracks_59 : decode cX6_moveTracks 59 = .ok (.aload_n 0, 1) := by decide +kernel
theorem dX6_moveTracks_60 : decode cX6_moveTracks 60 = .ok (.getfield 18, 3) := by decide +kernel
theorem dX6_moveTracks_63 : decode cX6_moveTracks 63 = .ok (.iconst 4, 1) := by decide +kernel
theorem dX6_moveTracks_64 : decode cX6_moveTracks 64 = .ok (.iaload, 1) := by decide +kernel
theorem dX6_moveTracks_65 : decode cX6_moveTracks 65 = .ok (.invokevirtual 89, 3) := by decide +kernel
theorem dX6_moveTracks_68 : decode cX6_moveTracks 68 = .ok (.aload_n 0, 1) := by decide +kernel
theorem dX6_moveTracks_69 : decode cX6_moveTracks 69 = .ok (.dup, 1) := by decide +kernel
theorem dX6_moveTracks_70 : decode cX6_moveTracks 70 = .ok (.getfield 52, 3) := by decide +kernel
theorem dX6_moveTracks_73 : decode cX6_moveTracks 73 = .ok (.aload 4, 2) := by decide +kernel
theorem dX6_moveTracks_75 : decode cX6_moveTracks 75 = .ok (.getfield 55, 3) := by decide +kernel
theorem dX6_moveTracks_78 : decode cX6_moveTracks 78 = .ok (.ifCond .eq 7, 3) := by decide +kernel
theorem dX6_moveTracks_81 : decode cX6_moveTracks 81 = .ok (.iconst 0, 1) := by decide +kernel
theorem dX6_moveTracks_82 : decode cX6_moveTracks 82 = .ok (.goto 4, 3) := by decide +kernel
theorem dX6_moveTracks_85 : decode cX6_moveTracks 85 = .ok (.iconst 1, 1) := by decide +kernel
theorem dX6_moveTracks_86 : decode cX6_moveTracks 86 = .ok (.iadd, 1) := by decide +kernel
theorem dX6_moveTracks_87 : decode cX6_moveTracks 87 = .ok (.putfield 52, 3) := by decide +kernel
theorem dX6_moveTracks_90 : decode cX6_moveTracks 90 = .ok (.iinc 3 1, 3) := by decide +kernel
theorem dX6_moveTracks_93 : decode cX6_moveTracks 93 = .ok (.goto (-91), 3) := by decide +kernel
theorem dX6_moveTracks_96 : decode cX6_moveTracks 96 = .ok (.return_, 1) := by decide +kernel
set_option maxRecDepth 20000 in
theorem ggX6_startTracks_X3_nextUnassigned : GoodIn wsX6_startTracks wsX3_nextUnassigned := goodIn_r _ [7, 8, 9, 48, 49, 50, 51, 52, 53] (by decide +kernel) (by decide +kernel)
set_option maxRecDepth 20000 in
theorem gX6_startTracks_X3_nextUnassigned : GoodIn wsX6_startTracks (wsV RX6 93 RX3 yX3_nextUnassigned wsX3_nextUnassigned) := goodIn_app (goodIn_of _ (by decide +kernel)) ggX6_startTracks_X3_nextUnassigned
set_option maxRecDepth 20000 in
theorem ggX6_startTracks_X1_rowOf : GoodIn wsX6_startTracks wsX1_rowOf := goodIn_r _ [14, 15, 16, 17, 18, 13, 19, 20, 36, 37, 38, 39, 40, 41] (by decide +kernel) (by decide +kernel)
set_option maxRecDepth 20000 in
theorem gX6_startTracks_X1_rowOf : GoodIn wsX6_startTracks (wsV RX6 77 RX1 yX1_rowOf wsX1_rowOf) := goodIn_app (goodIn_of _ (by decide +kernel)) ggX6_startTracks_X1_rowOf
set_option maxRecDepth 20000 in
theorem ggX6_startTracks_X1_columnOf : GoodIn wsX6_startTracks wsX1_columnOf := goodIn_r _ [24, 25, 16, 17, 18, 13, 19, 20, 36, 37, 38, 39, 40, 41] (by decide +kernel) (by decide +kernel)
set_option maxRecDepth 20000 in
theorem gX6_startTracks_X1_columnOf : GoodIn wsX6_startTracks (wsV RX6 82 RX1 yX1_columnOf wsX1_columnOf) := goodIn_app (goodIn_of _ (by decide +kernel)) ggX6_startTracks_X1_columnOf
set_option maxRecDepth 20000 in
theorem ggX6_startTracks_X8_goDown : GoodIn wsX6_startTracks wsX8_goDown := goodIn_r _ [30, 31, 32, 33, 34, 35, 54, 55, 56, 57, 58] (by decide +kernel) (by decide +kernel)
set_option maxRecDepth 20000 in
theorem gX6_startTracks_X8_goDown : GoodIn wsX6_startTracks (wsV RX6 99 RX8 yX8_goDown wsX8_goDown) := goodIn_app (goodIn_of _ (by decide +kernel)) ggX6_startTracks_X8_goDown
theorem dX6_startTracks_0 : decode cX6_startTracks 0 = .ok (.iconst 0, 1) := by decide +kernel
theorem dX6_startTracks_1 : decode cX6_startTracks 1 = .ok (.istore 4, 2) := by decide +kernel
theorem dX6_startTracks_3 : decode cX6_startTracks 3 = .ok (.iconst 0, 1) := by decide +kernel
theorem dX6_startTracks_4 : decode cX6_startTracks 4 = .ok (.istore 5, 2) := by decide +kernel
theorem dX6_startTracks_6 : decode cX6_startTracks 6 = .ok (.iload 5, 2) := by decide +kernel
theorem dX6_startTracks_8 : decode cX6_startTracks 8 = .ok (.bipush 6, 2) := by decide +kernel
theorem dX6_startTracks_10 : decode cX6_startTracks 10 = .ok (.if_icmp .ge 70, 3) := by decide +kernel
theorem dX6_startTracks_13 : decode cX6_startTracks 13 = .ok (.iload_n 3, 1) := by decide +kernel
theorem dX6_startTracks_14 : decode cX6_startTracks 14 = .ok (.iconst 1, 1) := by decide +kernel
theorem dX6_startTracks_15 : decode cX6_startTracks 15 = .ok (.iload 5, 2) := by decide +kernel
theorem dX6_startTracks_17 : decode cX6_startTracks 17 = .ok (.ishl, 1) := by decide +kernel
theorem dX6_startTracks_18 : decode cX6_startTracks 18 = .ok (.iand, 1) := by decide +kernel
theorem dX6_startTracks_19 : decode cX6_startTracks 19 = .ok (.ifCond .ne 55, 3) := by decide +kernel
theorem dX6_startTracks_22 : decode cX6_startTracks 22 = .ok (.aload_n 2, 1) := by decide +kernel
theorem dX6_startTracks_23 : decode cX6_startTracks 23 = .ok (.iload 4, 2) := by decide +kernel
theorem dX6_startTracks_25 : decode cX6_startTracks 25 = .ok (.invokevirtual 93, 3) := by decide +kernel
theorem dX6_startTracks_28 : decode cX6_startTracks 28 = .ok (.istore 4, 2) := by decide +kernel
theorem dX6_startTracks_30 : decode cX6_startTracks 30 = .ok (.iload 4, 2) := by decide +kernel
theorem dX6_startTracks_32 : decode cX6_startTracks 32 = .ok (.aload_n 1, 1) := by decide +kernel
theorem dX6_startTracks_33 : decode cX6_startTracks 33 = .ok (.getfield 96, 3) := by decide +kernel
theorem dX6_startTracks_36 : decode cX6_startTracks 36 = .ok (.if_icmp .ge 38, 3) := by decide +kernel
theorem dX6_startTracks_39 : decode cX6_startTracks 39 = .ok (.aload_n 0, 1) := by decide +kernel
theorem dX6_startTracks_40 : decode cX6_startTracks 40 = .ok (.getfield 24, 3) := by decide +kernel
theorem dX6_startTracks_43 : decode cX6_startTracks 43 = .ok (.iload 5, 2) := by decide +kernel
theorem dX6_startTracks_45 : decode cX6_startTracks 45 = .ok (.aaload, 1) := by decide +kernel
theorem dX6_startTracks_46 : decode cX6_startTracks 46 = .ok (.aload_n 1, 1) := by decide +kernel
theorem dX6_startTracks_47 : decode cX6_startTracks 47 = .ok (.iload 4, 2) := by decide +kernel
theorem dX6_startTracks_49 : decode cX6_startTracks 49 = .ok (.invokevirtual 77, 3) := by decide +kernel
theorem dX6_startTracks_52 : decode cX6_startTracks 52 = .ok (.aload_n 1, 1) := by decide +kernel
theorem dX6_startTracks_53 : decode cX6_startTracks 53 = .ok (.iload 4, 2) := by decide +kernel
theorem dX6_startTracks_55 : decode cX6_startTracks 55 = .ok (.invokevirtual 82, 3) := by decide +kernel
theorem dX6_startTracks_58 : decode cX6_startTracks 58 = .ok (.invokevirtual 99, 3) := by decide +kernel
theorem dX6_startTracks_61 : decode cX6_startTracks 61 = .ok (.aload_n 0, 1) := by decide +kernel
theorem dX6_startTracks_62 : decode cX6_startTracks 62 = .ok (.dup, 1) := by decide +kernel
theorem dX6_startTracks_63 : decode cX6_startTracks 63 = .ok (.getfield 49, 3) := by decide +kernel
theorem dX6_startTracks_66 : decode cX6_startTracks 66 = .ok (.iconst 1, 1) := by decide +kernel
theorem dX6_startTracks_67 : decode cX6_startTracks 67 = .ok (.iadd, 1) := by decide +kernel
theorem dX6_startTracks_68 : decode cX6_startTracks 68 = .ok (.putfield 49, 3) := by decide +kernel
theorem dX6_startTracks_71 : decode cX6_startTracks 71 = .ok (.iinc 4 1, 3) := by decide +kernel
theorem dX6_startTracks_74 : decode cX6_startTracks 74 = .ok (.iinc 5 1, 3) := by decide +kernel
theorem dX6_startTracks_77 : decode cX6_startTracks 77 = .ok (.goto (-71), 3) := by decide +kernel
theorem dX6_startTracks_80 : decode cX6_startTracks 80 = .ok (.return_, 1) := by decide +kernel
theorem dX7_init_0 : decode cX7_init 0 = .ok (.aload_n 0, 1) := by decide +kernel
theorem dX7_init_1 : decode cX7_init 1 = .ok (.invokespecial 1, 3) := by decide +kernel
theorem dX7_init_4 : decode cX7_init 4 = .ok (.aload_n 0, 1) := by decide +kernel
theorem dX7_init_5 : decode cX7_init 5 = .ok (.bipush 80, 2) := by decide +kernel
theorem dX7_init_7 : decode cX7_init 7 = .ok (.newarray .char, 2) := by decide +kernel
theorem dX7_init_9 : decode cX7_init 9 = .ok (.putfield 9, 3) := by decide +kernel
theorem dX7_init_12 : decode cX7_init 12 = .ok (.return_, 1) := by decide +kernel
theorem dX8_init_0 : decode cX8_init 0 = .ok (.aload_n 0, 1) := by decide +kernel
theorem dX8_init_1 : decode cX8_init 1 = .ok (.invokespecial 3, 3) := by decide +kernel
theorem dX8_init_4 : decode cX8_init 4 = .ok (.return_, 1) := by decide +kernel
theorem dX8_goDown_0 : decode cX8_goDown 0 = .ok (.aload_n 0, 1) := by decide +kernel
theorem dX8_goDown_1 : decode cX8_goDown 1 = .ok (.iconst 1, 1) := by decide +kernel
theorem dX8_goDown_2 : decode cX8_goDown 2 = .ok (.putfield 9, 3) := by decide +kernel
theorem dX8_goDown_5 : decode cX8_goDown 5 = .ok (.aload_n 0, 1) := by decide +kernel
theorem dX8_goDown_6 : decode cX8_goDown 6 = .ok (.iload_n 1, 1) := by decide +kernel
theorem dX8_goDown_7 : decode cX8_goDown 7 = .ok (.putfield 15, 3) := by decide +kernel
theorem dX8_goDown_10 : decode cX8_goDown 10 = .ok (.aload_n 0, 1) := by decide +kernel
theorem dX8_goDown_11 : decode cX8_goDown 11 = .ok (.iload_n 2, 1) := by decide +kernel
theorem dX8_goDown_12 : decode cX8_goDown 12 = .ok (.putfield 19, 3) := by decide +kernel
theorem dX8_goDown_15 : decode cX8_goDown 15 = .ok (.aload_n 0, 1) := by decide +kernel
theorem dX8_goDown_16 : decode cX8_goDown 16 = .ok (.iconst 0, 1) := by decide +kernel
theorem dX8_goDown_17 : decode cX8_goDown 17 = .ok (.putfield 22, 3) := by decide +kernel
theorem dX8_goDown_20 : decode cX8_goDown 20 = .ok (.aload_n 0, 1) := by decide +kernel
theorem dX8_goDown_21 : decode cX8_goDown 21 = .ok (.iconst 0, 1) := by decide +kernel
theorem dX8_goDown_22 : decode cX8_goDown 22 = .ok (.putfield 25, 3) := by decide +kernel
theorem dX8_goDown_25 : decode cX8_goDown 25 = .ok (.return_, 1) := by decide +kernel
theorem dX8_follow_0 : decode cX8_follow 0 = .ok (.aload_n 0, 1) := by decide +kernel
theorem dX8_follow_1 : decode cX8_follow 1 = .ok (.iload_n 1, 1) := by decide +kernel
theorem dX8_follow_2 : decode cX8_follow 2 = .ok (.putfield 15, 3) := by decide +kernel
theorem dX8_follow_5 : decode cX8_follow 5 = .ok (.aload_n 0, 1) := by decide +kernel
theorem dX8_follow_6 : decode cX8_follow 6 = .ok (.iload_n 2, 1) := by decide +kernel
theorem dX8_follow_7 : decode cX8_follow 7 = .ok (.putfield 19, 3) := by decide +kernel
theorem dX8_follow_10 : decode cX8_follow 10 = .ok (.aload_n 0, 1) := by decide +kernel
theorem dX8_follow_11 : decode cX8_follow 11 = .ok (.dup, 1) := by decide +kernel
theorem dX8_follow_12 : decode cX8_follow 12 = .ok (.getfield 22, 3) := by decide +kernel
theorem dX8_follow_15 : decode cX8_follow 15 = .ok (.iconst 1, 1) := by decide +kernel
theorem dX8_follow_16 : decode cX8_follow 16 = .ok (.iadd, 1) := by decide +kernel
theorem dX8_follow_17 : decode cX8_follow 17 = .ok (.putfield 22, 3) := by decide +kernel
theorem dX8_follow_20 : decode cX8_follow 20 = .ok (.aload_n 0, 1) := by decide +kernel
theorem dX8_follow_21 : decode cX8_follow 21 = .ok (.iconst 0, 1) := by decide +kernel
theorem dX8_follow_22 : decode cX8_follow 22 = .ok (.putfield 25, 3) := by decide +kernel
theorem dX8_follow_25 : decode cX8_follow 25 = .ok (.return_, 1) := by decide +kernel
theorem dX8_miss_0 : decode cX8_miss 0 = .ok (.aload_n 0, 1) := by decide +kernel
theorem dX8_miss_1 : decode cX8_miss 1 = .ok (.dup, 1) := by decide +kernel
theorem dX8_miss_2 : decode cX8_miss 2 = .ok (.getfield 25, 3) := by decide +kernel
theorem dX8_miss_5 : decode cX8_miss 5 = .ok (.iconst 1, 1) := by decide +kernel
theorem dX8_miss_6 : decode cX8_miss 6 = .ok (.iadd, 1) := by decide +kernel
theorem dX8_miss_7 : decode cX8_miss 7 = .ok (.putfield 25, 3) := by decide +kernel
theorem dX8_miss_10 : decode cX8_miss 10 = .ok (.aload_n 0, 1) := by decide +kernel
theorem dX8_miss_11 : decode cX8_miss 11 = .ok (.aload_n 0, 1) := by decide +kernel
theorem dX8_miss_12 : decode cX8_miss 12 = .ok (.getfield 25, 3) := by decide +kernel
theorem dX8_miss_15 : decode cX8_miss 15 = .ok (.iload_n 1, 1) := by decide +kernel
theorem dX8_miss_16 : decode cX8_miss 16 = .ok (.if_icmp .gt 7, 3) := by decide +kernel
theorem dX8_miss_19 : decode cX8_miss 19 = .ok (.iconst 1, 1) := by decide +kernel
theorem dX8_miss_20 : decode cX8_miss 20 = .ok (.goto 4, 3) := by decide +kernel
theorem dX8_miss_23 : decode cX8_miss 23 = .ok (.iconst 0, 1) := by decide +kernel
theorem dX8_miss_24 : decode cX8_miss 24 = .ok (.putfield 9, 3) := by decide +kernel
theorem dX8_miss_27 : decode cX8_miss 27 = .ok (.return_, 1) := by decide +kernel
theorem dX8_partOf_0 : decode cX8_partOf 0 = .ok (.aload_n 0, 1) := by decide +kernel
theorem dX8_partOf_1 : decode cX8_partOf 1 = .ok (.getfield 9, 3) := by decide +kernel
theorem dX8_partOf_4 : decode cX8_partOf 4 = .ok (.ifCond .ne 5, 3) := by decide +kernel
theorem dX8_partOf_7 : decode cX8_partOf 7 = .ok (.iconst (-1), 1) := by decide +kernel
theorem dX8_partOf_8 : decode cX8_partOf 8 = .ok (.ireturn, 1) := by decide +kernel
theorem dX8_partOf_9 : decode cX8_partOf 9 = .ok (.iload_n 1, 1) := by decide +kernel
theorem dX8_partOf_10 : decode cX8_partOf 10 = .ok (.tableswitch 41 0 2 #[26, 31, 36], 26) := by decide +kernel
theorem dX8_partOf_36 : decode cX8_partOf 36 = .ok (.aload_n 0, 1) := by decide +kernel
theorem dX8_partOf_37 : decode cX8_partOf 37 = .ok (.getfield 15, 3) := by decide +kernel
theorem dX8_partOf_40 : decode cX8_partOf 40 = .ok (.ireturn, 1) := by decide +kernel
theorem dX8_partOf_41 : decode cX8_partOf 41 = .ok (.aload_n 0, 1) := by decide +kernel
theorem dX8_partOf_42 : decode cX8_partOf 42 = .ok (.getfield 19, 3) := by decide +kernel
theorem dX8_partOf_45 : decode cX8_partOf 45 = .ok (.ireturn, 1) := by decide +kernel
theorem dX8_partOf_46 : decode cX8_partOf 46 = .ok (.aload_n 0, 1) := by decide +kernel
theorem dX8_partOf_47 : decode cX8_partOf 47 = .ok (.getfield 22, 3) := by decide +kernel
theorem dX8_partOf_50 : decode cX8_partOf 50 = .ok (.ireturn, 1) := by decide +kernel
theorem dX8_partOf_51 : decode cX8_partOf 51 = .ok (.aload_n 0, 1) := by decide +kernel
theorem dX8_partOf_52 : decode cX8_partOf 52 = .ok (.getfield 25, 3) := by decide +kernel
theorem dX8_partOf_55 : decode cX8_partOf 55 = .ok (.ireturn, 1) := by decide +kernel
theorem dX8_squaredWayTo_0 : decode cX8_squaredWayTo 0 = .ok (.aload_n 0, 1) := by decide +kernel
theorem dX8_squaredWayTo_1 : decode cX8_squaredWayTo 1 = .ok (.getfield 15, 3) := by decide +kernel
theorem dX8_squaredWayTo_4 : decode cX8_squaredWayTo 4 = .ok (.iload_n 1, 1) := by decide +kernel
theorem dX8_squaredWayTo_5 : decode cX8_squaredWayTo 5 = .ok (.isub, 1) := by decide +kernel
theorem dX8_squaredWayTo_6 : decode cX8_squaredWayTo 6 = .ok (.istore_n 3, 1) := by decide +kernel
theorem dX8_squaredWayTo_7 : decode cX8_squaredWayTo 7 = .ok (.aload_n 0, 1) := by decide +kernel
theorem dX8_squaredWayTo_8 : decode cX8_squaredWayTo 8 = .ok (.getfield 19, 3) := by decide +kernel
theorem dX8_squaredWayTo_11 : decode cX8_squaredWayTo 11 = .ok (.iload_n 2, 1) := by decide +kernel
theorem dX8_squaredWayTo_12 : decode cX8_squaredWayTo 12 = .ok (.isub, 1) := by decide +kernel
theorem dX8_squaredWayTo_13 : decode cX8_squaredWayTo 13 = .ok (.istore 4, 2) := by decide +kernel
theorem dX8_squaredWayTo_15 : decode cX8_squaredWayTo 15 = .ok (.iload_n 3, 1) := by decide +kernel
theorem dX8_squaredWayTo_16 : decode cX8_squaredWayTo 16 = .ok (.iload_n 3, 1) := by decide +kernel
theorem dX8_squaredWayTo_17 : decode cX8_squaredWayTo 17 = .ok (.imul, 1) := by decide +kernel
theorem dX8_squaredWayTo_18 : decode cX8_squaredWayTo 18 = .ok (.iload 4, 2) := by decide +kernel
theorem dX8_squaredWayTo_20 : decode cX8_squaredWayTo 20 = .ok (.iload 4, 2) := by decide +kernel
theorem dX8_squaredWayTo_22 : decode cX8_squaredWayTo 22 = .ok (.imul, 1) := by decide +kernel
theorem dX8_squaredWayTo_23 : decode cX8_squaredWayTo 23 = .ok (.iadd, 1) := by decide +kernel
theorem dX8_squaredWayTo_24 : decode cX8_squaredWayTo 24 = .ok (.ireturn, 1) := by decide +kernel
theorem dX8_copyFrom_0 : decode cX8_copyFrom 0 = .ok (.aload_n 0, 1) := by decide +kernel
theorem dX8_copyFrom_1 : decode cX8_copyFrom 1 = .ok (.aload_n 1, 1) := by decide +kernel
theorem dX8_copyFrom_2 : decode cX8_copyFrom 2 = .ok (.getfield 9, 3) := by decide +kernel
theorem dX8_copyFrom_5 : decode cX8_copyFrom 5 = .ok (.putfield 9, 3) := by decide +kernel
theorem dX8_copyFrom_8 : decode cX8_copyFrom 8 = .ok (.aload_n 0, 1) := by decide +kernel
theorem dX8_copyFrom_9 : decode cX8_copyFrom 9 = .ok (.aload_n 1, 1) := by decide +kernel
theorem dX8_copyFrom_10 : decode cX8_copyFrom 10 = .ok (.getfield 15, 3) := by decide +kernel
theorem dX8_copyFrom_13 : decode cX8_copyFrom 13 = .ok (.putfield 15, 3) := by decide +kernel
theorem dX8_copyFrom_16 : decode cX8_copyFrom 16 = .ok (.aload_n 0, 1) := by decide +kernel
theorem dX8_copyFrom_17 : decode cX8_copyFrom 17 = .ok (.aload_n 1, 1) := by decide +kernel
theorem dX8_copyFrom_18 : decode cX8_copyFrom 18 = .ok (.getfield 19, 3) := by decide +kernel
theorem dX8_copyFrom_21 : decode cX8_copyFrom 21 = .ok (.putfield 19, 3) := by decide +kernel
theorem dX8_copyFrom_24 : decode cX8_copyFrom 24 = .ok (.aload_n 0, 1) := by decide +kernel
theorem dX8_copyFrom_25 : decode cX8_copyFrom 25 = .ok (.aload_n 1, 1) := by decide +kernel
theorem dX8_copyFrom_26 : decode cX8_copyFrom 26 = .ok (.getfield 22, 3) := by decide +kernel
theorem dX8_copyFrom_29 : decode cX8_copyFrom 29 = .ok (.putfield 22, 3) := by decide +kernel
theorem dX8_copyFrom_32 : decode cX8_copyFrom 32 = .ok (.aload_n 0, 1) := by decide +kernel
theorem dX8_copyFrom_33 : decode cX8_copyFrom 33 = .ok (.aload_n 1, 1) := by decide +kernel
theorem dX8_copyFrom_34 : decode cX8_copyFrom 34 = .ok (.getfield 25, 3) := by decide +kernel
theorem dX8_copyFrom_37 : decode cX8_copyFrom 37 = .ok (.putfield 25, 3) := by decide +kernel
theorem dX8_copyFrom_40 : decode cX8_copyFrom 40 = .ok (.return_, 1) := by decide +kernel
set_option maxRecDepth 20000 in
theorem ggX9_init_X6_init : GoodIn wsX9_init wsX6_init := goodIn_r _ [35, 36, 2, 3, 37, 38, 39, 40, 41, 42, 43, 44, 45, 46, 47, 48, 49, 50, 51, 52, 53, 54, 55, 56, 57, 58, 136, 137, 96, 97, 98, 99, 100, 101, 138, 139, 140, 141, 142] (by decide +kernel) (by decide +kernel)
set_option maxRecDepth 20000 in
theorem gX9_init_X6_init : GoodIn wsX9_init (wsX6_init) := ggX9_init_X6_init
set_option maxRecDepth 20000 in
theorem ggX9_init_X2_init : GoodIn wsX9_init wsX2_init := goodIn_r _ [61, 62, 2, 3, 63, 64, 5, 6, 65, 34, 35, 36, 37, 38, 39, 40, 41, 42, 43, 44, 45, 46, 47, 48, 49, 50, 51, 52, 53, 54, 55, 56, 57, 58, 110, 111, 96, 97, 98, 99, 100, 101, 136, 137, 138, 139, 140, 141, 142] (by decide +kernel) (by decide +kernel)
set_option maxRecDepth 20000 in
theorem gX9_init_X2_init : GoodIn wsX9_init (wsX2_init) := ggX9_init_X2_init
set_option maxRecDepth 20000 in
theorem ggX9_init_X5_init : GoodIn wsX9_init wsX5_init := goodIn_r _ [67, 68, 2, 3, 41, 69, 70, 71, 112, 113, 114, 115, 116] (by decide +kernel) (by decide +kernel)
set_option maxRecDepth 20000 in
theorem gX9_init_X5_init_n28 : GoodIn wsX9_init (wsX5_init) := ggX9_init_X5_init
set_option maxRecDepth 20000 in
theorem ggX9_init_X1_init : GoodIn wsX9_init wsX1_init := goodIn_r _ [73, 74, 2, 3, 41, 75, 76, 77, 78, 79, 117, 118, 119, 120, 121, 122] (by decide +kernel) (by decide +kernel)
set_option maxRecDepth 20000 in
theorem gX9_init_X1_init_n35 : GoodIn wsX9_init (wsX1_init) := ggX9_init_X1_init
set_option maxRecDepth 20000 in
theorem ggX9_init_X3_init : GoodIn wsX9_init wsX3_init := goodIn_r _ [81, 82, 2, 3, 83, 41, 84, 85, 86, 87, 123, 124, 125, 126, 127, 128] (by decide +kernel) (by decide +kernel)
set_option maxRecDepth 20000 in
theorem gX9_init_X3_init_n42 : GoodIn wsX9_init (wsX3_init) := ggX9_init_X3_init
set_option maxRecDepth 20000 in
theorem ggX9_init_X7_init : GoodIn wsX9_init wsX7_init := goodIn_r _ [89, 90, 2, 3, 91, 92, 129, 130] (by decide +kernel) (by decide +kernel)
set_option maxRecDepth 20000 in
theorem gX9_init_X7_init_n49 : GoodIn wsX9_init (wsX7_init) := ggX9_init_X7_init
set_option maxRecDepth 20000 in
theorem ggX9_init_X0_init : GoodIn wsX9_init wsX0_init := goodIn_r _ [94, 95, 2, 3] (by decide +kernel) (by decide +kernel)
set_option maxRecDepth 20000 in
theorem gX9_init_X0_init_n56 : GoodIn wsX9_init (wsX0_init) := ggX9_init_X0_init
theorem dX9_init_0 : decode cX9_init 0 = .ok (.aload_n 0, 1) := by decide +kernel
theorem dX9_init_1 : decode cX9_init 1 = .ok (.invokespecial 3, 3) := by decide +kernel
theorem dX9_init_4 : decode cX9_init 4 = .ok (.aload_n 0, 1) := by decide +kernel
theorem dX9_init_5 : decode cX9_init 5 = .ok (.new 9, 3) := by decide +kernel
theorem dX9_init_8 : decode cX9_init 8 = .ok (.dup, 1) := by decide +kernel
theorem dX9_init_9 : decode cX9_init 9 = .ok (.invokespecial 11, 3) := by decide +kernel
theorem dX9_init_12 : decode cX9_init 12 = .ok (.putfield 12, 3) := by decide +kernel
theorem dX9_init_15 : decode cX9_init 15 = .ok (.aload_n 0, 1) := by decide +kernel
theorem dX9_init_16 : decode cX9_init 16 = .ok (.new 9, 3) := by decide +kernel
theorem dX9_init_19 : decode cX9_init 19 = .ok (.dup, 1) := by decide +kernel
theorem dX9_init_20 : decode cX9_init 20 = .ok (.invokespecial 11, 3) := by decide +kernel
theorem dX9_init_23 : decode cX9_init 23 = .ok (.putfield 16, 3) := by decide +kernel
theorem dX9_init_26 : decode cX9_init 26 = .ok (.aload_n 0, 1) := by decide +kernel
theorem dX9_init_27 : decode cX9_init 27 = .ok (.new 19, 3) := by decide +kernel
theorem dX9_init_30 : decode cX9_init 30 = .ok (.dup, 1) := by decide +kernel
theorem dX9_init_31 : decode cX9_init 31 = .ok (.invokespecial 21, 3) := by decide +kernel
theorem dX9_init_34 : decode cX9_init 34 = .ok (.putfield 22, 3) := by decide +kernel
theorem dX9_init_37 : decode cX9_init 37 = .ok (.aload_n 0, 1) := by decide +kernel
theorem dX9_init_38 : decode cX9_init 38 = .ok (.new 26, 3) := by decide +kernel
theorem dX9_init_41 : decode cX9_init 41 = .ok (.dup, 1) := by decide +kernel
theorem dX9_init_42 : decode cX9_init 42 = .ok (.invokespecial 28, 3) := by decide +kernel
theorem dX9_init_45 : decode cX9_init 45 = .ok (.putfield 29, 3) := by decide +kernel
theorem dX9_init_48 : decode cX9_init 48 = .ok (.aload_n 0, 1) := by decide +kernel
theorem dX9_init_49 : decode cX9_init 49 = .ok (.new 33, 3) := by decide +kernel
theorem dX9_init_52 : decode cX9_init 52 = .ok (.dup, 1) := by decide +kernel
theorem dX9_init_53 : decode cX9_init 53 = .ok (.invokespecial 35, 3) := by decide +kernel
theorem dX9_init_56 : decode cX9_init 56 = .ok (.putfield 36, 3) := by decide +kernel
theorem dX9_init_59 : decode cX9_init 59 = .ok (.aload_n 0, 1) := by decide +kernel
theorem dX9_init_60 : decode cX9_init 60 = .ok (.new 40, 3) := by decide +kernel
theorem dX9_init_63 : decode cX9_init 63 = .ok (.dup, 1) := by decide +kernel
theorem dX9_init_64 : decode cX9_init 64 = .ok (.invokespecial 42, 3) := by decide +kernel
theorem dX9_init_67 : decode cX9_init 67 = .ok (.putfield 43, 3) := by decide +kernel
theorem dX9_init_70 : decode cX9_init 70 = .ok (.aload_n 0, 1) := by decide +kernel
theorem dX9_init_71 : decode cX9_init 71 = .ok (.new 47, 3) := by decide +kernel
theorem dX9_init_74 : decode cX9_init 74 = .ok (.dup, 1) := by decide +kernel
theorem dX9_init_75 : decode cX9_init 75 = .ok (.invokespecial 49, 3) := by decide +kernel
theorem dX9_init_78 : decode cX9_init 78 = .ok (.putfield 50, 3) := by decide +kernel
theorem dX9_init_81 : decode cX9_init 81 = .ok (.aload_n 0, 1) := by decide +kernel
theorem dX9_init_82 : decode cX9_init 82 = .ok (.new 54, 3) := by decide +kernel
theorem dX9_init_85 : decode cX9_init 85 = .ok (.dup, 1) := by decide +kernel
theorem dX9_init_86 : decode cX9_init 86 = .ok (.invokespecial 56, 3) := by decide +kernel
theorem dX9_init_89 : decode cX9_init 89 = .ok (.putfield 57, 3) := by decide +kernel
theorem dX9_init_92 : decode cX9_init 92 = .ok (.return_, 1) := by decide +kernel
set_option maxRecDepth 20000 in
theorem ggX9_setRaw_X9_requireCell : GoodIn wsX9_setRaw wsX9_requireCell := goodIn_ca (goodIn_r _ [8, 9, 10, 11, 12, 7, 13] (by decide +kernel) (by decide +kernel)) (goodIn_sub (fun _ h => List.mem_cons_of_mem _ (List.mem_append_right _ h)) (by decide +kernel))
set_option maxRecDepth 20000 in
theorem gX9_setRaw_X9_requireCell : GoodIn wsX9_setRaw (va_wsS RX9 61 yX9_requireCell wsX9_requireCell) := goodIn_app (goodIn_of _ (by decide +kernel)) ggX9_setRaw_X9_requireCell
set_option maxRecDepth 20000 in
theorem ggX9_setRaw_X2_save : GoodIn wsX9_setRaw wsX2_save := goodIn_r _ [18, 19, 20, 21, 22, 23, 17, 24, 25, 26, 27, 28, 29, 30, 31, 32, 33, 34, 35, 36, 37, 38, 39, 40, 41, 42, 43, 44, 45, 46, 47, 48, 49, 50, 51, 52, 53, 54, 55, 56, 57, 81, 82, 75, 76, 77, 78, 79, 80, 83, 84, 85, 86, 87, 88, 89] (by decide +kernel) (by decide +kernel)
set_option maxRecDepth 20000 in
theorem gX9_setRaw_X2_save : GoodIn wsX9_setRaw (wsV RX9 72 RX2 yX2_save wsX2_save) := goodIn_app (goodIn_of _ (by decide +kernel)) ggX9_setRaw_X2_save
set_option maxRecDepth 20000 in
theorem ggX9_setRaw_X9_cellAt : GoodIn wsX9_setRaw wsX9_cellAt := goodIn_r _ [60] (by decide +kernel) (by decide +kernel)
set_option maxRecDepth 20000 in
theorem gX9_setRaw_X9_cellAt : GoodIn wsX9_setRaw (va_wsS RX9 80 yX9_cellAt wsX9_cellAt) := goodIn_app (goodIn_of _ (by decide +kernel)) ggX9_setRaw_X9_cellAt
set_option maxRecDepth 20000 in
theorem ggX9_setRaw_X4_replaceRaw : GoodIn wsX9_setRaw wsX4_replaceRaw := goodIn_r _ [64, 45, 65, 7, 66, 83, 84] (by decide +kernel) (by decide +kernel)
set_option maxRecDepth 20000 in
theorem gX9_setRaw_X4_replaceRaw : GoodIn wsX9_setRaw (wsV RX9 84 RX4 yX4_replaceRaw wsX4_replaceRaw) := goodIn_app (goodIn_of _ (by decide +kernel)) ggX9_setRaw_X4_replaceRaw
theorem dX9_setRaw_0 : decode cX9_setRaw 0 = .ok (.iload_n 1, 1) := by decide +kernel
theorem dX9_setRaw_1 : decode cX9_setRaw 1 = .ok (.iload_n 2, 1) := by decide +kernel
theorem dX9_setRaw_2 : decode cX9_setRaw 2 = .ok (.invokestatic 61, 3) := by decide +kernel
theorem dX9_setRaw_5 : decode cX9_setRaw 5 = .ok (.iload_n 3, 1) := by decide +kernel
theorem dX9_setRaw_6 : decode cX9_setRaw 6 = .ok (.ifCond .lt 10, 3) := by decide +kernel
theorem dX9_setRaw_9 : decode cX9_setRaw 9 = .ok (.iload_n 3, 1) := by decide +kernel
theorem dX9_setRaw_10 : decode cX9_setRaw 10 = .ok (.sipush 255, 3) := by decide +kernel
theorem dX9_setRaw_13 : decode cX9_setRaw 13 = .ok (.if_icmp .le 13, 3) := by decide +kernel
theorem dX9_setRaw_16 : decode cX9_setRaw 16 = .ok (.new 65, 3) := by decide +kernel
theorem dX9_setRaw_19 : decode cX9_setRaw 19 = .ok (.dup, 1) := by decide +kernel
theorem dX9_setRaw_20 : decode cX9_setRaw 20 = .ok (.ldc 67, 2) := by decide +kernel
theorem dX9_setRaw_22 : decode cX9_setRaw 22 = .ok (.invokespecial 69, 3) := by decide +kernel
theorem dX9_setRaw_25 : decode cX9_setRaw 25 = .ok (.athrow, 1) := by decide +kernel
theorem dX9_setRaw_26 : decode cX9_setRaw 26 = .ok (.aload_n 0, 1) := by decide +kernel
theorem dX9_setRaw_27 : decode cX9_setRaw 27 = .ok (.getfield 22, 3) := by decide +kernel
theorem dX9_setRaw_30 : decode cX9_setRaw 30 = .ok (.aload_n 0, 1) := by decide +kernel
theorem dX9_setRaw_31 : decode cX9_setRaw 31 = .ok (.getfield 12, 3) := by decide +kernel
theorem dX9_setRaw_34 : decode cX9_setRaw 34 = .ok (.invokevirtual 72, 3) := by decide +kernel
theorem dX9_setRaw_37 : decode cX9_setRaw 37 = .ok (.aload_n 0, 1) := by decide +kernel
theorem dX9_setRaw_38 : decode cX9_setRaw 38 = .ok (.getfield 12, 3) := by decide +kernel
theorem dX9_setRaw_41 : decode cX9_setRaw 41 = .ok (.getfield 76, 3) := by decide +kernel
theorem dX9_setRaw_44 : decode cX9_setRaw 44 = .ok (.iload_n 1, 1) := by decide +kernel
theorem dX9_setRaw_45 : decode cX9_setRaw 45 = .ok (.iload_n 2, 1) := by decide +kernel
theorem dX9_setRaw_46 : decode cX9_setRaw 46 = .ok (.invokestatic 80, 3) := by decide +kernel
theorem dX9_setRaw_49 : decode cX9_setRaw 49 = .ok (.iload_n 3, 1) := by decide +kernel
theorem dX9_setRaw_50 : decode cX9_setRaw 50 = .ok (.invokevirtual 84, 3) := by decide +kernel
theorem dX9_setRaw_53 : decode cX9_setRaw 53 = .ok (.ireturn, 1) := by decide +kernel
set_option maxRecDepth 20000 in
theorem ggX9_press_X9_requireCell : GoodIn wsX9_press wsX9_requireCell := goodIn_ca (goodIn_r _ [8, 9, 10, 11, 12, 7, 13] (by decide +kernel) (by decide +kernel)) (goodIn_sub (fun _ h => List.mem_cons_of_mem _ (List.mem_append_right _ h)) (by decide +kernel))
set_option maxRecDepth 20000 in
theorem gX9_press_X9_requireCell : GoodIn wsX9_press (va_wsS RX9 61 yX9_requireCell wsX9_requireCell) := goodIn_app (goodIn_of _ (by decide +kernel)) ggX9_press_X9_requireCell
set_option maxRecDepth 20000 in
theorem ggX9_press_X2_save : GoodIn wsX9_press wsX2_save := goodIn_r _ [18, 19, 20, 21, 22, 23, 17, 24, 25, 26, 27, 28, 29, 30, 31, 32, 33, 34, 35, 36, 37, 38, 39, 40, 41, 42, 43, 44, 45, 46, 47, 48, 49, 50, 51, 52, 53, 54, 55, 56, 57, 89, 90, 83, 84, 85, 86, 87, 88, 91, 92, 93, 94, 95, 96, 97] (by decide +kernel) (by decide +kernel)
set_option maxRecDepth 20000 in
theorem gX9_press_X2_save : GoodIn wsX9_press (wsV RX9 72 RX2 yX2_save wsX2_save) := goodIn_app (goodIn_of _ (by decide +kernel)) ggX9_press_X2_save
set_option maxRecDepth 20000 in
theorem ggX9_press_X4_pressAt : GoodIn wsX9_press wsX4_pressAt := goodIn_r _ [61, 62, 63, 64, 43, 65, 45, 12, 7, 13, 66, 67, 91, 92] (by decide +kernel) (by decide +kernel)
set_option maxRecDepth 20000 in
theorem gX9_press_X4_pressAt : GoodIn wsX9_press (wsV RX9 91 RX4 yX4_pressAt wsX4_pressAt) := goodIn_app (goodIn_of _ (by decide +kernel)) ggX9_press_X4_pressAt
set_option maxRecDepth 20000 in
theorem ggX9_press_X9_cellAt : GoodIn wsX9_press wsX9_cellAt := goodIn_r _ [67] (by decide +kernel) (by decide +kernel)
set_option maxRecDepth 20000 in
theorem gX9_press_X9_cellAt : GoodIn wsX9_press (va_wsS RX9 80 yX9_cellAt wsX9_cellAt) := goodIn_app (goodIn_of _ (by decide +kernel)) ggX9_press_X9_cellAt
set_option maxRecDepth 20000 in
theorem ggX9_press_X4_rawOf : GoodIn wsX9_press wsX4_rawOf := goodIn_r _ [72, 45, 73, 7, 74, 91, 92] (by decide +kernel) (by decide +kernel)
set_option maxRecDepth 20000 in
theorem gX9_press_X4_rawOf : GoodIn wsX9_press (wsV RX9 95 RX4 yX4_rawOf wsX4_rawOf) := goodIn_app (goodIn_of _ (by decide +kernel)) ggX9_press_X4_rawOf
theorem dX9_press_0 : decode cX9_press 0 = .ok (.iload_n 1, 1) := by decide +kernel
theorem dX9_press_1 : decode cX9_press 1 = .ok (.iload_n 2, 1) := by decide +kernel
theorem dX9_press_2 : decode cX9_press 2 = .ok (.invokestatic 61, 3) := by decide +kernel
theorem dX9_press_5 : decode cX9_press 5 = .ok (.iload_n 3, 1) := by decide +kernel
theorem dX9_press_6 : decode cX9_press 6 = .ok (.iconst 1, 1) := by decide +kernel
theorem dX9_press_7 : decode cX9_press 7 = .ok (.if_icmp .lt 10, 3) := by decide +kernel
theorem dX9_press_10 : decode cX9_press 10 = .ok (.iload_n 3, 1) := by decide +kernel
theorem dX9_press_11 : decode cX9_press 11 = .ok (.sipush 255, 3) := by decide +kernel
theorem dX9_press_14 : decode cX9_press 14 = .ok (.if_icmp .le 13, 3) := by decide +kernel
theorem dX9_press_17 : decode cX9_press 17 = .ok (.new 65, 3) := by decide +kernel
theorem dX9_press_20 : decode cX9_press 20 = .ok (.dup, 1) := by decide +kernel
theorem dX9_press_21 : decode cX9_press 21 = .ok (.ldc 89, 2) := by decide +kernel
theorem dX9_press_23 : decode cX9_press 23 = .ok (.invokespecial 69, 3) := by decide +kernel
theorem dX9_press_26 : decode cX9_press 26 = .ok (.athrow, 1) := by decide +kernel
theorem dX9_press_27 : decode cX9_press 27 = .ok (.aload_n 0, 1) := by decide +kernel
theorem dX9_press_28 : decode cX9_press 28 = .ok (.getfield 22, 3) := by decide +kernel
theorem dX9_press_31 : decode cX9_press 31 = .ok (.aload_n 0, 1) := by decide +kernel
theorem dX9_press_32 : decode cX9_press 32 = .ok (.getfield 12, 3) := by decide +kernel
theorem dX9_press_35 : decode cX9_press 35 = .ok (.invokevirtual 72, 3) := by decide +kernel
theorem dX9_press_38 : decode cX9_press 38 = .ok (.aload_n 0, 1) := by decide +kernel
theorem dX9_press_39 : decode cX9_press 39 = .ok (.getfield 12, 3) := by decide +kernel
theorem dX9_press_42 : decode cX9_press 42 = .ok (.getfield 76, 3) := by decide +kernel
theorem dX9_press_45 : decode cX9_press 45 = .ok (.iload_n 1, 1) := by decide +kernel
theorem dX9_press_46 : decode cX9_press 46 = .ok (.iload_n 2, 1) := by decide +kernel
theorem dX9_press_47 : decode cX9_press 47 = .ok (.iload_n 3, 1) := by decide +kernel
theorem dX9_press_48 : decode cX9_press 48 = .ok (.invokevirtual 91, 3) := by decide +kernel
theorem dX9_press_51 : decode cX9_press 51 = .ok (.aload_n 0, 1) := by decide +kernel
theorem dX9_press_52 : decode cX9_press 52 = .ok (.getfield 12, 3) := by decide +kernel
theorem dX9_press_55 : decode cX9_press 55 = .ok (.getfield 76, 3) := by decide +kernel
theorem dX9_press_58 : decode cX9_press 58 = .ok (.iload_n 1, 1) := by decide +kernel
theorem dX9_press_59 : decode cX9_press 59 = .ok (.iload_n 2, 1) := by decide +kernel
theorem dX9_press_60 : decode cX9_press 60 = .ok (.invokestatic 80, 3) := by decide +kernel
theorem dX9_press_63 : decode cX9_press 63 = .ok (.invokevirtual 95, 3) := by decide +kernel
theorem dX9_press_66 : decode cX9_press 66 = .ok (.ireturn, 1) := by decide +kernel
set_option maxRecDepth 20000 in
theorem ggX9_release_X2_save : GoodIn wsX9_release wsX2_save := goodIn_r _ [7, 8, 9, 10, 11, 12, 6, 13, 14, 15, 16, 17, 18, 19, 20, 21, 22, 23, 24, 25, 26, 27, 28, 29, 30, 31, 32, 33, 34, 35, 36, 37, 38, 39, 40, 41, 42, 43, 44, 45, 46, 65, 66, 59, 60, 61, 62, 63, 64, 67, 68, 69, 70, 71, 72, 73] (by decide +kernel) (by decide +kernel)
set_option maxRecDepth 20000 in
theorem gX9_release_X2_save : GoodIn wsX9_release (wsV RX9 72 RX2 yX2_save wsX2_save) := goodIn_app (goodIn_of _ (by decide +kernel)) ggX9_release_X2_save
set_option maxRecDepth 20000 in
theorem ggX9_release_X4_clearRaw : GoodIn wsX9_release wsX4_clearRaw := goodIn_r _ [50, 34, 67, 68] (by decide +kernel) (by decide +kernel)
set_option maxRecDepth 20000 in
theorem gX9_release_X4_clearRaw : GoodIn wsX9_release (wsV RX9 99 RX4 yX4_clearRaw wsX4_clearRaw) := goodIn_app (goodIn_of _ (by decide +kernel)) ggX9_release_X4_clearRaw
theorem dX9_release_0 : decode cX9_release 0 = .ok (.aload_n 0, 1) := by decide +kernel
theorem dX9_release_1 : decode cX9_release 1 = .ok (.getfield 22, 3) := by decide +kernel
theorem dX9_release_4 : decode cX9_release 4 = .ok (.aload_n 0, 1) := by decide +kernel
theorem dX9_release_5 : decode cX9_release 5 = .ok (.getfield 12, 3) := by decide +kernel
theorem dX9_release_8 : decode cX9_release 8 = .ok (.invokevirtual 72, 3) := by decide +kernel
theorem dX9_release_11 : decode cX9_release 11 = .ok (.aload_n 0, 1) := by decide +kernel
theorem dX9_release_12 : decode cX9_release 12 = .ok (.getfield 12, 3) := by decide +kernel
theorem dX9_release_15 : decode cX9_release 15 = .ok (.getfield 76, 3) := by decide +kernel
theorem dX9_release_18 : decode cX9_release 18 = .ok (.invokevirtual 99, 3) := by decide +kernel
theorem dX9_release_21 : decode cX9_release 21 = .ok (.ireturn, 1) := by decide +kernel
set_option maxRecDepth 20000 in
theorem ggX9_calibrate_X2_save : GoodIn wsX9_calibrate wsX2_save := goodIn_r _ [7, 8, 9, 10, 11, 12, 6, 13, 14, 15, 16, 17, 18, 19, 20, 21, 22, 23, 24, 25, 26, 27, 28, 29, 30, 31, 32, 33, 34, 35, 36, 37, 38, 39, 40, 41, 42, 43, 44, 45, 46, 65, 66, 59, 60, 61, 62, 63, 64, 67, 68, 69, 70, 71, 72, 73] (by decide +kernel) (by decide +kernel)
set_option maxRecDepth 20000 in
theorem gX9_calibrate_X2_save : GoodIn wsX9_calibrate (wsV RX9 72 RX2 yX2_save wsX2_save) := goodIn_app (goodIn_of _ (by decide +kernel)) ggX9_calibrate_X2_save
set_option maxRecDepth 20000 in
theorem ggX9_calibrate_X4_takeBaselines : GoodIn wsX9_calibrate wsX4_takeBaselines := goodIn_r _ [50, 36, 34, 67, 68] (by decide +kernel) (by decide +kernel)
set_option maxRecDepth 20000 in
theorem gX9_calibrate_X4_takeBaselines : GoodIn wsX9_calibrate (wsV RX9 103 RX4 yX4_takeBaselines wsX4_takeBaselines) := goodIn_app (goodIn_of _ (by decide +kernel)) ggX9_calibrate_X4_takeBaselines
theorem dX9_calibrate_0 : decode cX9_calibrate 0 = .ok (.aload_n 0, 1) := by decide +kernel
theorem dX9_calibrate_1 : decode cX9_calibrate 1 = .ok (.getfield 22, 3) := by decide +kernel
theorem dX9_calibrate_4 : decode cX9_calibrate 4 = .ok (.aload_n 0, 1) := by decide +kernel
theorem dX9_calibrate_5 : decode cX9_calibrate 5 = .ok (.getfield 12, 3) := by decide +kernel
theorem dX9_calibrate_8 : decode cX9_calibrate 8 = .ok (.invokevirtual 72, 3) := by decide +kernel
theorem dX9_calibrate_11 : decode cX9_calibrate 11 = .ok (.aload_n 0, 1) := by decide +kernel
theorem dX9_calibrate_12 : decode cX9_calibrate 12 = .ok (.getfield 12, 3) := by decide +kernel
theorem dX9_calibrate_15 : decode cX9_calibrate 15 = .ok (.getfield 76, 3) := by decide +kernel
theorem dX9_calibrate_18 : decode cX9_calibrate 18 = .ok (.invokevirtual 103, 3) := by decide +kernel
theorem dX9_calibrate_21 : decode cX9_calibrate 21 = .ok (.ireturn, 1) := by decide +kernel
set_option maxRecDepth 20000 in
theorem ggX9_set_X9_requireSetting : GoodIn wsX9_set wsX9_requireSetting := goodIn_ca (goodIn_r _ [10, 11, 12] (by decide +kernel) (by decide +kernel)) (goodIn_sub (fun _ h => List.mem_cons_of_mem _ (List.mem_append_right _ h)) (by decide +kernel))
set_option maxRecDepth 20000 in
theorem gX9_set_X9_requireSetting : GoodIn wsX9_set (va_wsS RX9 106 yX9_requireSetting wsX9_requireSetting) := goodIn_app (goodIn_of _ (by decide +kernel)) ggX9_set_X9_requireSetting
set_option maxRecDepth 20000 in
theorem ggX9_set_X2_save : GoodIn wsX9_set wsX2_save := goodIn_r _ [17, 18, 19, 20, 21, 22, 16, 23, 24, 25, 26, 27, 28, 29, 30, 31, 32, 33, 34, 35, 36, 37, 38, 39, 40, 41, 42, 43, 44, 45, 46, 47, 48, 49, 50, 51, 52, 53, 54, 55, 56, 71, 72, 65, 66, 67, 68, 69, 70, 73, 74, 75, 76, 77, 78, 79] (by decide +kernel) (by decide +kernel)
set_option maxRecDepth 20000 in
theorem gX9_set_X2_save : GoodIn wsX9_set (wsV RX9 72 RX2 yX2_save wsX2_save) := goodIn_app (goodIn_of _ (by decide +kernel)) ggX9_set_X2_save
theorem dX9_set_0 : decode cX9_set 0 = .ok (.iload_n 1, 1) := by decide +kernel
theorem dX9_set_1 : decode cX9_set 1 = .ok (.invokestatic 106, 3) := by decide +kernel
theorem dX9_set_4 : decode cX9_set 4 = .ok (.iload_n 2, 1) := by decide +kernel
theorem dX9_set_5 : decode cX9_set 5 = .ok (.getstatic 110, 3) := by decide +kernel
theorem dX9_set_8 : decode cX9_set 8 = .ok (.iload_n 1, 1) := by decide +kernel
theorem dX9_set_9 : decode cX9_set 9 = .ok (.iaload, 1) := by decide +kernel
theorem dX9_set_10 : decode cX9_set 10 = .ok (.if_icmp .lt 12, 3) := by decide +kernel
theorem dX9_set_13 : decode cX9_set 13 = .ok (.iload_n 2, 1) := by decide +kernel
theorem dX9_set_14 : decode cX9_set 14 = .ok (.getstatic 114, 3) := by decide +kernel
theorem dX9_set_17 : decode cX9_set 17 = .ok (.iload_n 1, 1) := by decide +kernel
theorem dX9_set_18 : decode cX9_set 18 = .ok (.iaload, 1) := by decide +kernel
theorem dX9_set_19 : decode cX9_set 19 = .ok (.if_icmp .le 13, 3) := by decide +kernel
theorem dX9_set_22 : decode cX9_set 22 = .ok (.new 65, 3) := by decide +kernel
theorem dX9_set_25 : decode cX9_set 25 = .ok (.dup, 1) := by decide +kernel
theorem dX9_set_26 : decode cX9_set 26 = .ok (.ldc 117, 2) := by decide +kernel
theorem dX9_set_28 : decode cX9_set 28 = .ok (.invokespecial 69, 3) := by decide +kernel
theorem dX9_set_31 : decode cX9_set 31 = .ok (.athrow, 1) := by decide +kernel
theorem dX9_set_32 : decode cX9_set 32 = .ok (.aload_n 0, 1) := by decide +kernel
theorem dX9_set_33 : decode cX9_set 33 = .ok (.getfield 22, 3) := by decide +kernel
theorem dX9_set_36 : decode cX9_set 36 = .ok (.aload_n 0, 1) := by decide +kernel
theorem dX9_set_37 : decode cX9_set 37 = .ok (.getfield 12, 3) := by decide +kernel
theorem dX9_set_40 : decode cX9_set 40 = .ok (.invokevirtual 72, 3) := by decide +kernel
theorem dX9_set_43 : decode cX9_set 43 = .ok (.aload_n 0, 1) := by decide +kernel
theorem dX9_set_44 : decode cX9_set 44 = .ok (.getfield 12, 3) := by decide +kernel
theorem dX9_set_47 : decode cX9_set 47 = .ok (.getfield 119, 3) := by decide +kernel
theorem dX9_set_50 : decode cX9_set 50 = .ok (.iload_n 1, 1) := by decide +kernel
theorem dX9_set_51 : decode cX9_set 51 = .ok (.iaload, 1) := by decide +kernel
theorem dX9_set_52 : decode cX9_set 52 = .ok (.istore_n 3, 1) := by decide +kernel
theorem dX9_set_53 : decode cX9_set 53 = .ok (.aload_n 0, 1) := by decide +kernel
theorem dX9_set_54 : decode cX9_set 54 = .ok (.getfield 12, 3) := by decide +kernel
theorem dX9_set_57 : decode cX9_set 57 = .ok (.getfield 119, 3) := by decide +kernel
theorem dX9_set_60 : decode cX9_set 60 = .ok (.iload_n 1, 1) := by decide +kernel
theorem dX9_set_61 : decode cX9_set 61 = .ok (.iload_n 2, 1) := by decide +kernel
theorem dX9_set_62 : decode cX9_set 62 = .ok (.iastore, 1) := by decide +kernel
theorem dX9_set_63 : decode cX9_set 63 = .ok (.iload_n 3, 1) := by decide +kernel
theorem dX9_set_64 : decode cX9_set 64 = .ok (.ireturn, 1) := by decide +kernel
set_option maxRecDepth 20000 in
theorem ggX9_scan_X2_save : GoodIn wsX9_scan wsX2_save := goodIn_r _ [7, 8, 9, 10, 11, 12, 6, 13, 14, 15, 16, 17, 18, 19, 20, 21, 22, 23, 24, 25, 26, 27, 28, 29, 30, 31, 32, 33, 34, 35, 36, 37, 38, 39, 40, 41, 42, 43, 44, 45, 46, 218, 219, 220, 221, 222, 223, 224, 225, 226, 227, 228, 229, 230, 231, 232] (by decide +kernel) (by decide +kernel)
set_option maxRecDepth 20000 in
theorem gX9_scan_X2_save : GoodIn wsX9_scan (wsV RX9 72 RX2 yX2_save wsX2_save) := goodIn_app (goodIn_of _ (by decide +kernel)) ggX9_scan_X2_save
set_option maxRecDepth 20000 in
theorem ggX9_scan_X9_scanFrame : GoodIn wsX9_scan wsX9_scanFrame := goodIn_r _ [51, 52, 53, 54, 55, 56, 57, 58, 59, 60, 61, 62, 63, 64, 65, 32, 66, 34, 36, 67, 68, 69, 70, 71, 72, 73, 74, 75, 50, 76, 77, 78, 79, 80, 81, 82, 83, 84, 85, 86, 87, 88, 89, 90, 91, 92, 93, 94, 95, 96, 97, 98, 99, 100, 101, 102, 103, 104, 105, 106, 107, 108, 109, 110, 111, 112, 113, 114, 115, 116, 117, 118, 119, 120, 121, 122, 123, 124, 125, 126, 127, 128, 129, 130, 131, 132, 133, 134, 135, 136, 137, 138, 139, 140, 141, 142, 143, 144, 145, 146, 147, 148, 40, 149, 43, 44, 150, 151, 152, 153, 154, 155, 156, 157, 158, 159, 160, 161, 162, 163, 164, 165, 166, 167, 168, 169, 170, 171, 172, 173, 174, 17, 175, 27, 28, 26, 176, 177, 178, 179, 25, 180, 181, 182, 183, 20, 184, 185, 186, 187, 188, 189, 190, 191, 192, 193, 45, 46, 194, 195, 196, 197, 42, 198, 199, 200, 201, 202, 203, 204, 205, 206, 207, 208, 209, 210, 211, 212, 213, 214, 215, 216, 217, 220, 221, 222, 223, 224, 225, 233, 234, 235, 236, 237, 226, 227, 238, 239, 240, 241, 242, 243, 244, 245, 246, 247, 248, 249, 228, 229, 230, 231, 232] (by decide +kernel) (by decide +kernel)
set_option maxRecDepth 20000 in
theorem gX9_scan_X9_scanFrame : GoodIn wsX9_scan (wsV RX9 122 RX9 yX9_scanFrame wsX9_scanFrame) := goodIn_app (goodIn_of _ (by decide +kernel)) ggX9_scan_X9_scanFrame
theorem dX9_scan_0 : decode cX9_scan 0 = .ok (.aload_n 0, 1) := by decide +kernel
theorem dX9_scan_1 : decode cX9_scan 1 = .ok (.getfield 22, 3) := by decide +kernel
theorem dX9_scan_4 : decode cX9_scan 4 = .ok (.aload_n 0, 1) := by decide +kernel
theorem dX9_scan_5 : decode cX9_scan 5 = .ok (.getfield 12, 3) := by decide +kernel
theorem dX9_scan_8 : decode cX9_scan 8 = .ok (.invokevirtual 72, 3) := by decide +kernel
theorem dX9_scan_11 : decode cX9_scan 11 = .ok (.aload_n 0, 1) := by decide +kernel
theorem dX9_scan_12 : decode cX9_scan 12 = .ok (.aload_n 0, 1) := by decide +kernel
theorem dX9_scan_13 : decode cX9_scan 13 = .ok (.getfield 12, 3) := by decide +kernel
theorem dX9_scan_16 : decode cX9_scan 16 = .ok (.invokevirtual 122, 3) := by decide +kernel
theorem dX9_scan_19 : decode cX9_scan 19 = .ok (.ireturn, 1) := by decide +kernel
set_option maxRecDepth 20000 in
theorem ggX9_undo_X2_restore : GoodIn wsX9_undo wsX2_restore := goodIn_r _ [9, 10, 11, 12, 13, 14, 15, 16, 17, 18, 19, 20, 21, 22, 23, 24, 25, 26, 27, 28, 29, 30, 31, 32, 33, 34, 35, 36, 37, 38, 39, 40, 41, 42, 43, 44, 53, 54, 55, 56, 57, 58, 59, 60, 61, 62, 63, 64, 65, 66, 67] (by decide +kernel) (by decide +kernel)
set_option maxRecDepth 20000 in
theorem gX9_undo_X2_restore : GoodIn wsX9_undo (wsV RX9 170 RX2 yX2_restore wsX2_restore) := goodIn_app (goodIn_of _ (by decide +kernel)) ggX9_undo_X2_restore
theorem dX9_undo_0 : decode cX9_undo 0 = .ok (.aload_n 0, 1) := by decide +kernel
theorem dX9_undo_1 : decode cX9_undo 1 = .ok (.getfield 22, 3) := by decide +kernel
theorem dX9_undo_4 : decode cX9_undo 4 = .ok (.getfield 165, 3) := by decide +kernel
theorem dX9_undo_7 : decode cX9_undo 7 = .ok (.ifCond .ne 13, 3) := by decide +kernel
theorem dX9_undo_10 : decode cX9_undo 10 = .ok (.new 132, 3) := by decide +kernel
theorem dX9_undo_13 : decode cX9_undo 13 = .ok (.dup, 1) := by decide +kernel
theorem dX9_undo_14 : decode cX9_undo 14 = .ok (.ldc 168, 2) := by decide +kernel
theorem dX9_undo_16 : decode cX9_undo 16 = .ok (.invokespecial 136, 3) := by decide +kernel
theorem dX9_undo_19 : decode cX9_undo 19 = .ok (.athrow, 1) := by decide +kernel
theorem dX9_undo_20 : decode cX9_undo 20 = .ok (.aload_n 0, 1) := by decide +kernel
theorem dX9_undo_21 : decode cX9_undo 21 = .ok (.getfield 22, 3) := by decide +kernel
theorem dX9_undo_24 : decode cX9_undo 24 = .ok (.aload_n 0, 1) := by decide +kernel
theorem dX9_undo_25 : decode cX9_undo 25 = .ok (.getfield 12, 3) := by decide +kernel
theorem dX9_undo_28 : decode cX9_undo 28 = .ok (.invokevirtual 170, 3) := by decide +kernel
theorem dX9_undo_31 : decode cX9_undo 31 = .ok (.aload_n 0, 1) := by decide +kernel
theorem dX9_undo_32 : decode cX9_undo 32 = .ok (.getfield 22, 3) := by decide +kernel
theorem dX9_undo_35 : decode cX9_undo 35 = .ok (.getfield 165, 3) := by decide +kernel
theorem dX9_undo_38 : decode cX9_undo 38 = .ok (.ireturn, 1) := by decide +kernel
set_option maxRecDepth 20000 in
theorem ggX9_raw_X9_requireCell : GoodIn wsX9_raw wsX9_requireCell := goodIn_ca (goodIn_r _ [5, 6, 7, 8, 9, 4, 10] (by decide +kernel) (by decide +kernel)) (goodIn_sub (fun _ h => List.mem_cons_of_mem _ (List.mem_append_right _ h)) (by decide +kernel))
set_option maxRecDepth 20000 in
theorem gX9_raw_X9_requireCell : GoodIn wsX9_raw (va_wsS RX9 61 yX9_requireCell wsX9_requireCell) := goodIn_app (goodIn_of _ (by decide +kernel)) ggX9_raw_X9_requireCell
set_option maxRecDepth 20000 in
theorem ggX9_raw_X9_cellAt : GoodIn wsX9_raw wsX9_cellAt := goodIn_r _ [13] (by decide +kernel) (by decide +kernel)
set_option maxRecDepth 20000 in
theorem gX9_raw_X9_cellAt : GoodIn wsX9_raw (va_wsS RX9 80 yX9_cellAt wsX9_cellAt) := goodIn_app (goodIn_of _ (by decide +kernel)) ggX9_raw_X9_cellAt
set_option maxRecDepth 20000 in
theorem ggX9_raw_X4_rawOf : GoodIn wsX9_raw wsX4_rawOf := goodIn_r _ [18, 19, 20, 4, 21, 36, 37] (by decide +kernel) (by decide +kernel)
set_option maxRecDepth 20000 in
theorem gX9_raw_X4_rawOf : GoodIn wsX9_raw (wsV RX9 95 RX4 yX4_rawOf wsX4_rawOf) := goodIn_app (goodIn_of _ (by decide +kernel)) ggX9_raw_X4_rawOf
theorem dX9_raw_0 : decode cX9_raw 0 = .ok (.iload_n 1, 1) := by decide +kernel
theorem dX9_raw_1 : decode cX9_raw 1 = .ok (.iload_n 2, 1) := by decide +kernel
theorem dX9_raw_2 : decode cX9_raw 2 = .ok (.invokestatic 61, 3) := by decide +kernel
theorem dX9_raw_5 : decode cX9_raw 5 = .ok (.aload_n 0, 1) := by decide +kernel
theorem dX9_raw_6 : decode cX9_raw 6 = .ok (.getfield 12, 3) := by decide +kernel
theorem dX9_raw_9 : decode cX9_raw 9 = .ok (.getfield 76, 3) := by decide +kernel
theorem dX9_raw_12 : decode cX9_raw 12 = .ok (.iload_n 1, 1) := by decide +kernel
theorem dX9_raw_13 : decode cX9_raw 13 = .ok (.iload_n 2, 1) := by decide +kernel
theorem dX9_raw_14 : decode cX9_raw 14 = .ok (.invokestatic 80, 3) := by decide +kernel
theorem dX9_raw_17 : decode cX9_raw 17 = .ok (.invokevirtual 95, 3) := by decide +kernel
theorem dX9_raw_20 : decode cX9_raw 20 = .ok (.ireturn, 1) := by decide +kernel
set_option maxRecDepth 20000 in
theorem ggX9_signal_X9_requireCell : GoodIn wsX9_signal wsX9_requireCell := goodIn_ca (goodIn_r _ [5, 6, 7, 8, 9, 4, 10] (by decide +kernel) (by decide +kernel)) (goodIn_sub (fun _ h => List.mem_cons_of_mem _ (List.mem_append_right _ h)) (by decide +kernel))
set_option maxRecDepth 20000 in
theorem gX9_signal_X9_requireCell : GoodIn wsX9_signal (va_wsS RX9 61 yX9_requireCell wsX9_requireCell) := goodIn_app (goodIn_of _ (by decide +kernel)) ggX9_signal_X9_requireCell
set_option maxRecDepth 20000 in
theorem ggX9_signal_X9_cellAt : GoodIn wsX9_signal wsX9_cellAt := goodIn_r _ [13] (by decide +kernel) (by decide +kernel)
set_option maxRecDepth 20000 in
theorem gX9_signal_X9_cellAt : GoodIn wsX9_signal (va_wsS RX9 80 yX9_cellAt wsX9_cellAt) := goodIn_app (goodIn_of _ (by decide +kernel)) ggX9_signal_X9_cellAt
set_option maxRecDepth 20000 in
theorem ggX9_signal_X4_signalOf : GoodIn wsX9_signal wsX4_signalOf := goodIn_r _ [18, 19, 20, 35, 36] (by decide +kernel) (by decide +kernel)
set_option maxRecDepth 20000 in
theorem gX9_signal_X4_signalOf : GoodIn wsX9_signal (wsV RX9 173 RX4 yX4_signalOf wsX4_signalOf) := goodIn_app (goodIn_of _ (by decide +kernel)) ggX9_signal_X4_signalOf
theorem dX9_signal_0 : decode cX9_signal 0 = .ok (.iload_n 1, 1) := by decide +kernel
theorem dX9_signal_1 : decode cX9_signal 1 = .ok (.iload_n 2, 1) := by decide +kernel
theorem dX9_signal_2 : decode cX9_signal 2 = .ok (.invokestatic 61, 3) := by decide +kernel
theorem dX9_signal_5 : decode cX9_signal 5 = .ok (.aload_n 0, 1) := by decide +kernel
theorem dX9_signal_6 : decode cX9_signal 6 = .ok (.getfield 12, 3) := by decide +kernel
theorem dX9_signal_9 : decode cX9_signal 9 = .ok (.getfield 76, 3) := by decide +kernel
theorem dX9_signal_12 : decode cX9_signal 12 = .ok (.iload_n 1, 1) := by decide +kernel
theorem dX9_signal_13 : decode cX9_signal 13 = .ok (.iload_n 2, 1) := by decide +kernel
theorem dX9_signal_14 : decode cX9_signal 14 = .ok (.invokestatic 80, 3) := by decide +kernel
theorem dX9_signal_17 : decode cX9_signal 17 = .ok (.invokevirtual 173, 3) := by decide +kernel
theorem dX9_signal_20 : decode cX9_signal 20 = .ok (.ireturn, 1) := by decide +kernel
set_option maxRecDepth 20000 in
theorem ggX9_regionSize_X9_requireCell : GoodIn wsX9_regionSize wsX9_requireCell := goodIn_ca (goodIn_r _ [6, 7, 8, 9, 10, 5, 11] (by decide +kernel) (by decide +kernel)) (goodIn_sub (fun _ h => List.mem_cons_of_mem _ (List.mem_append_right _ h)) (by decide +kernel))
set_option maxRecDepth 20000 in
theorem gX9_regionSize_X9_requireCell : GoodIn wsX9_regionSize (va_wsS RX9 61 yX9_requireCell wsX9_requireCell) := goodIn_app (goodIn_of _ (by decide +kernel)) ggX9_regionSize_X9_requireCell
set_option maxRecDepth 20000 in
theorem ggX9_regionSize_X5_find : GoodIn wsX9_regionSize wsX5_find := goodIn_r _ [16, 17, 18, 19, 20, 21, 22, 23, 24, 25, 26, 27, 28, 29, 15, 30, 31, 32, 33, 34, 35, 5, 36, 37, 38, 39, 40, 41, 42, 58, 59, 60, 61, 62, 63, 64, 65, 66, 67, 68, 69, 70] (by decide +kernel) (by decide +kernel)
set_option maxRecDepth 20000 in
theorem gX9_regionSize_X5_find : GoodIn wsX9_regionSize (wsV RX9 176 RX5 yX5_find wsX5_find) := goodIn_app (goodIn_of _ (by decide +kernel)) ggX9_regionSize_X5_find
set_option maxRecDepth 20000 in
theorem ggX9_regionSize_X9_cellAt : GoodIn wsX9_regionSize wsX9_cellAt := goodIn_r _ [45] (by decide +kernel) (by decide +kernel)
set_option maxRecDepth 20000 in
theorem gX9_regionSize_X9_cellAt : GoodIn wsX9_regionSize (va_wsS RX9 80 yX9_cellAt wsX9_cellAt) := goodIn_app (goodIn_of _ (by decide +kernel)) ggX9_regionSize_X9_cellAt
set_option maxRecDepth 20000 in
theorem ggX9_regionSize_X5_sizeAround : GoodIn wsX9_regionSize wsX5_sizeAround := goodIn_r _ [49, 19, 41, 35, 5, 36, 64, 65, 66, 67, 68] (by decide +kernel) (by decide +kernel)
set_option maxRecDepth 20000 in
theorem gX9_regionSize_X5_sizeAround : GoodIn wsX9_regionSize (wsV RX9 179 RX5 yX5_sizeAround wsX5_sizeAround) := goodIn_app (goodIn_of _ (by decide +kernel)) ggX9_regionSize_X5_sizeAround
theorem dX9_regionSize_0 : decode cX9_regionSize 0 = .ok (.iload_n 1, 1) := by decide +kernel
theorem dX9_regionSize_1 : decode cX9_regionSize 1 = .ok (.iload_n 2, 1) := by decide +kernel
theorem dX9_regionSize_2 : decode cX9_regionSize 2 = .ok (.invokestatic 61, 3) := by decide +kernel
theorem dX9_regionSize_5 : decode cX9_regionSize 5 = .ok (.aload_n 0, 1) := by decide +kernel
theorem dX9_regionSize_6 : decode cX9_regionSize 6 = .ok (.getfield 29, 3) := by decide +kernel
theorem dX9_regionSize_9 : decode cX9_regionSize 9 = .ok (.aload_n 0, 1) := by decide +kernel
theorem dX9_regionSize_10 : decode cX9_regionSize 10 = .ok (.getfield 12, 3) := by decide +kernel
theorem dX9_regionSize_13 : decode cX9_regionSize 13 = .ok (.invokevirtual 176, 3) := by decide +kernel
theorem dX9_regionSize_16 : decode cX9_regionSize 16 = .ok (.aload_n 0, 1) := by decide +kernel
theorem dX9_regionSize_17 : decode cX9_regionSize 17 = .ok (.getfield 29, 3) := by decide +kernel
theorem dX9_regionSize_20 : decode cX9_regionSize 20 = .ok (.iload_n 1, 1) := by decide +kernel
theorem dX9_regionSize_21 : decode cX9_regionSize 21 = .ok (.iload_n 2, 1) := by decide +kernel
theorem dX9_regionSize_22 : decode cX9_regionSize 22 = .ok (.invokestatic 80, 3) := by decide +kernel
theorem dX9_regionSize_25 : decode cX9_regionSize 25 = .ok (.invokevirtual 179, 3) := by decide +kernel
theorem dX9_regionSize_28 : decode cX9_regionSize 28 = .ok (.ireturn, 1) := by decide +kernel
set_option maxRecDepth 20000 in
theorem ggX9_regionKind_X9_requireCell : GoodIn wsX9_regionKind wsX9_requireCell := goodIn_ca (goodIn_r _ [6, 7, 8, 9, 10, 5, 11] (by decide +kernel) (by decide +kernel)) (goodIn_sub (fun _ h => List.mem_cons_of_mem _ (List.mem_append_right _ h)) (by decide +kernel))
set_option maxRecDepth 20000 in
theorem gX9_regionKind_X9_requireCell : GoodIn wsX9_regionKind (va_wsS RX9 61 yX9_requireCell wsX9_requireCell) := goodIn_app (goodIn_of _ (by decide +kernel)) ggX9_regionKind_X9_requireCell
set_option maxRecDepth 20000 in
theorem ggX9_regionKind_X5_find : GoodIn wsX9_regionKind wsX5_find := goodIn_r _ [16, 17, 18, 19, 20, 21, 22, 23, 24, 25, 26, 27, 28, 29, 15, 30, 31, 32, 33, 34, 35, 5, 36, 37, 38, 39, 40, 41, 42, 58, 59, 60, 61, 62, 63, 64, 65, 66, 67, 68, 69, 70] (by decide +kernel) (by decide +kernel)
set_option maxRecDepth 20000 in
theorem gX9_regionKind_X5_find : GoodIn wsX9_regionKind (wsV RX9 176 RX5 yX5_find wsX5_find) := goodIn_app (goodIn_of _ (by decide +kernel)) ggX9_regionKind_X5_find
set_option maxRecDepth 20000 in
theorem ggX9_regionKind_X9_cellAt : GoodIn wsX9_regionKind wsX9_cellAt := goodIn_r _ [45] (by decide +kernel) (by decide +kernel)
set_option maxRecDepth 20000 in
theorem gX9_regionKind_X9_cellAt : GoodIn wsX9_regionKind (va_wsS RX9 80 yX9_cellAt wsX9_cellAt) := goodIn_app (goodIn_of _ (by decide +kernel)) ggX9_regionKind_X9_cellAt
set_option maxRecDepth 20000 in
theorem ggX9_regionKind_X5_kindAround : GoodIn wsX9_regionKind wsX5_kindAround := goodIn_r _ [49, 19, 41, 17, 42, 18, 35, 5, 36, 64, 65, 66, 67, 68] (by decide +kernel) (by decide +kernel)
set_option maxRecDepth 20000 in
theorem gX9_regionKind_X5_kindAround : GoodIn wsX9_regionKind (wsV RX9 182 RX5 yX5_kindAround wsX5_kindAround) := goodIn_app (goodIn_of _ (by decide +kernel)) ggX9_regionKind_X5_kindAround
theorem dX9_regionKind_0 : decode cX9_regionKind 0 = .ok (.iload_n 1, 1) := by decide +kernel
theorem dX9_regionKind_1 : decode cX9_regionKind 1 = .ok (.iload_n 2, 1) := by decide +kernel
theorem dX9_regionKind_2 : decode cX9_regionKind 2 = .ok (.invokestatic 61, 3) := by decide +kernel
theorem dX9_regionKind_5 : decode cX9_regionKind 5 = .ok (.aload_n 0, 1) := by decide +kernel
theorem dX9_regionKind_6 : decode cX9_regionKind 6 = .ok (.getfield 29, 3) := by decide +kernel
theorem dX9_regionKind_9 : decode cX9_regionKind 9 = .ok (.aload_n 0, 1) := by decide +kernel
theorem dX9_regionKind_10 : decode cX9_regionKind 10 = .ok (.getfield 12, 3) := by decide +kernel
theorem dX9_regionKind_13 : decode cX9_regionKind 13 = .ok (.invokevirtual 176, 3) := by decide +kernel
theorem dX9_regionKind_16 : decode cX9_regionKind 16 = .ok (.aload_n 0, 1) := by decide +kernel
theorem dX9_regionKind_17 : decode cX9_regionKind 17 = .ok (.getfield 29, 3) := by decide +kernel
theorem dX9_regionKind_20 : decode cX9_regionKind 20 = .ok (.iload_n 1, 1) := by decide +kernel
theorem dX9_regionKind_21 : decode cX9_regionKind 21 = .ok (.iload_n 2, 1) := by decide +kernel
theorem dX9_regionKind_22 : decode cX9_regionKind 22 = .ok (.invokestatic 80, 3) := by decide +kernel
theorem dX9_regionKind_25 : decode cX9_regionKind 25 = .ok (.invokevirtual 182, 3) := by decide +kernel
theorem dX9_regionKind_28 : decode cX9_regionKind 28 = .ok (.ireturn, 1) := by decide +kernel
set_option maxRecDepth 20000 in
theorem ggX9_regions_X5_find : GoodIn wsX9_regions wsX5_find := goodIn_r _ [9, 10, 11, 12, 13, 14, 15, 16, 17, 18, 19, 20, 21, 22, 8, 23, 24, 25, 26, 27, 28, 29, 30, 31, 32, 33, 34, 35, 36, 53, 54, 55, 56, 57, 58, 59, 60, 61, 62, 63, 64, 65] (by decide +kernel) (by decide +kernel)
set_option maxRecDepth 20000 in
theorem gX9_regions_X5_find : GoodIn wsX9_regions (wsV RX9 176 RX5 yX5_find wsX5_find) := goodIn_app (goodIn_of _ (by decide +kernel)) ggX9_regions_X5_find
set_option maxRecDepth 20000 in
theorem ggX9_regions_X5_countOf : GoodIn wsX9_regions wsX5_countOf := goodIn_r _ [40, 12, 41, 42, 43, 8, 44, 35, 10, 36, 11, 28, 29, 30, 59, 60, 61, 62, 63] (by decide +kernel) (by decide +kernel)
set_option maxRecDepth 20000 in
theorem gX9_regions_X5_countOf : GoodIn wsX9_regions (wsV RX9 187 RX5 yX5_countOf wsX5_countOf) := goodIn_app (goodIn_of _ (by decide +kernel)) ggX9_regions_X5_countOf
theorem dX9_regions_0 : decode cX9_regions 0 = .ok (.iload_n 1, 1) := by decide +kernel
theorem dX9_regions_1 : decode cX9_regions 1 = .ok (.ifCond .lt 8, 3) := by decide +kernel
theorem dX9_regions_4 : decode cX9_regions 4 = .ok (.iload_n 1, 1) := by decide +kernel
theorem dX9_regions_5 : decode cX9_regions 5 = .ok (.iconst 2, 1) := by decide +kernel
theorem dX9_regions_6 : decode cX9_regions 6 = .ok (.if_icmp .le 13, 3) := by decide +kernel
theorem dX9_regions_9 : decode cX9_regions 9 = .ok (.new 65, 3) := by decide +kernel
theorem dX9_regions_12 : decode cX9_regions 12 = .ok (.dup, 1) := by decide +kernel
theorem dX9_regions_13 : decode cX9_regions 13 = .ok (.ldc 185, 2) := by decide +kernel
theorem dX9_regions_15 : decode cX9_regions 15 = .ok (.invokespecial 69, 3) := by decide +kernel
theorem dX9_regions_18 : decode cX9_regions 18 = .ok (.athrow, 1) := by decide +kernel
theorem dX9_regions_19 : decode cX9_regions 19 = .ok (.aload_n 0, 1) := by decide +kernel
theorem dX9_regions_20 : decode cX9_regions 20 = .ok (.getfield 29, 3) := by decide +kernel
theorem dX9_regions_23 : decode cX9_regions 23 = .ok (.aload_n 0, 1) := by decide +kernel
theorem dX9_regions_24 : decode cX9_regions 24 = .ok (.getfield 12, 3) := by decide +kernel
theorem dX9_regions_27 : decode cX9_regions 27 = .ok (.invokevirtual 176, 3) := by decide +kernel
theorem dX9_regions_30 : decode cX9_regions 30 = .ok (.aload_n 0, 1) := by decide +kernel
theorem dX9_regions_31 : decode cX9_regions 31 = .ok (.getfield 29, 3) := by decide +kernel
theorem dX9_regions_34 : decode cX9_regions 34 = .ok (.iload_n 1, 1) := by decide +kernel
theorem dX9_regions_35 : decode cX9_regions 35 = .ok (.invokevirtual 187, 3) := by decide +kernel
theorem dX9_regions_38 : decode cX9_regions 38 = .ok (.ireturn, 1) := by decide +kernel
set_option maxRecDepth 20000 in
theorem ggX9_setting_X9_requireSetting : GoodIn wsX9_setting wsX9_requireSetting := goodIn_ca (goodIn_r _ [5, 6, 7] (by decide +kernel) (by decide +kernel)) (goodIn_sub (fun _ h => List.mem_cons_of_mem _ (List.mem_append_right _ h)) (by decide +kernel))
set_option maxRecDepth 20000 in
theorem gX9_setting_X9_requireSetting : GoodIn wsX9_setting (va_wsS RX9 106 yX9_requireSetting wsX9_requireSetting) := goodIn_app (goodIn_of _ (by decide +kernel)) ggX9_setting_X9_requireSetting
theorem dX9_setting_0 : decode cX9_setting 0 = .ok (.iload_n 1, 1) := by decide +kernel
theorem dX9_setting_1 : decode cX9_setting 1 = .ok (.invokestatic 106, 3) := by decide +kernel
theorem dX9_setting_4 : decode cX9_setting 4 = .ok (.aload_n 0, 1) := by decide +kernel
theorem dX9_setting_5 : decode cX9_setting 5 = .ok (.getfield 12, 3) := by decide +kernel
theorem dX9_setting_8 : decode cX9_setting 8 = .ok (.getfield 119, 3) := by decide +kernel
theorem dX9_setting_11 : decode cX9_setting 11 = .ok (.iload_n 1, 1) := by decide +kernel
theorem dX9_setting_12 : decode cX9_setting 12 = .ok (.iaload, 1) := by decide +kernel
theorem dX9_setting_13 : decode cX9_setting 13 = .ok (.ireturn, 1) := by decide +kernel
set_option maxRecDepth 20000 in
theorem ggX9_contacts_X9_findContacts : GoodIn wsX9_contacts wsX9_findContacts := goodIn_r _ [6, 7, 8, 1, 9, 10, 11, 12, 13, 14, 15, 16, 17, 18, 19, 20, 21, 22, 23, 24, 25, 26, 27, 28, 29, 30, 31, 32, 5, 33, 34, 35, 36, 37, 38, 39, 40, 41, 42, 43, 44, 45, 46, 47, 48, 49, 50, 51, 52, 53, 54, 55, 56, 57, 58, 59, 60, 61, 62, 63, 64, 65, 66, 67, 68, 69, 70, 71, 72, 73, 74, 75, 76, 77, 78, 79, 80, 81, 82, 83, 84, 85, 86, 93, 94, 95, 96, 97, 98, 99, 100, 101, 102, 103, 104, 105, 87, 88, 89, 90, 91, 92] (by decide +kernel) (by decide +kernel)
set_option maxRecDepth 20000 in
theorem gX9_contacts_X9_findContacts : GoodIn wsX9_contacts (wsV RX9 190 RX9 yX9_findContacts wsX9_findContacts) := goodIn_app (goodIn_of _ (by decide +kernel)) ggX9_contacts_X9_findContacts
theorem dX9_contacts_0 : decode cX9_contacts 0 = .ok (.aload_n 0, 1) := by decide +kernel
theorem dX9_contacts_1 : decode cX9_contacts 1 = .ok (.invokevirtual 190, 3) := by decide +kernel
theorem dX9_contacts_4 : decode cX9_contacts 4 = .ok (.aload_n 0, 1) := by decide +kernel
theorem dX9_contacts_5 : decode cX9_contacts 5 = .ok (.getfield 36, 3) := by decide +kernel
theorem dX9_contacts_8 : decode cX9_contacts 8 = .ok (.getfield 193, 3) := by decide +kernel
