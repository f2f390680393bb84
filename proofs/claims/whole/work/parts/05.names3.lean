theorem dX6_startTracks_71 : decode cX6_startTracks 71 = .ok (.iinc 4 1, 3) := by decide +kernel
theorem dX6_startTracks_74 : decode cX6_startTracks 74 = .ok (.iinc 5 1, 3) := by decide +kernel
theorem dX6_startTracks_77 : decode cX6_startTracks 77 = .ok (.goto (-71), 3) := by decide +kernel
theorem dX6_startTracks_80 : decode cX6_startTracks 80 = .ok (.return_, 1) := by decide +kernel
theorem dX7_init_0 : decode cX7_init 0 = .ok (.aload_n 0, 1) := by decide +kernel
theorem dX7_init_1 : decode cX7_init 1 = .ok (.invokespecial 1, 3) := by decide +kernel
theorem dX7_init_4 : decode cX7_init 4 = .ok (.aload_n 0, 1) := by decide +kernel
theorem dX7_init_5 : decode cX7_init 5 = .ok (.bipush 80, 2) := by decide +kernel
theorem dX7_init_7 : decode cX7_init 7 = .ok (.newarray .char, 2) := by decide +kernel
theorem dX7_init_9 : decode cX7_init 9 = .ok (.putfield 9, 3) := by decide +kernel
theorem dX7_init_12 : decode cX7_init 12 = .ok (.return_, 1) := by decide +kernel
theorem dX7_isFull_0 : decode cX7_isFull 0 = .ok (.aload_n 0, 1) := by decide +kernel
theorem dX7_isFull_1 : decode cX7_isFull 1 = .ok (.getfield 13, 3) := by decide +kernel
theorem dX7_isFull_4 : decode cX7_isFull 4 = .ok (.bipush 80, 2) := by decide +kernel
theorem dX7_isFull_6 : decode cX7_isFull 6 = .ok (.if_icmp .lt 7, 3) := by decide +kernel
theorem dX7_isFull_9 : decode cX7_isFull 9 = .ok (.iconst 1, 1) := by decide +kernel
theorem dX7_isFull_10 : decode cX7_isFull 10 = .ok (.goto 4, 3) := by decide +kernel
theorem dX7_isFull_13 : decode cX7_isFull 13 = .ok (.iconst 0, 1) := by decide +kernel
theorem dX7_isFull_14 : decode cX7_isFull 14 = .ok (.ireturn, 1) := by decide +kernel
theorem dX7_append_0 : decode cX7_append 0 = .ok (.aload_n 0, 1) := by decide +kernel
theorem dX7_append_1 : decode cX7_append 1 = .ok (.getfield 13, 3) := by decide +kernel
theorem dX7_append_4 : decode cX7_append 4 = .ok (.ifCond .lt 33, 3) := by decide +kernel
theorem dX7_append_7 : decode cX7_append 7 = .ok (.aload_n 0, 1) := by decide +kernel
theorem dX7_append_8 : decode cX7_append 8 = .ok (.getfield 13, 3) := by decide +kernel
theorem dX7_append_11 : decode cX7_append 11 = .ok (.bipush 80, 2) := by decide +kernel
theorem dX7_append_13 : decode cX7_append 13 = .ok (.if_icmp .ge 24, 3) := by decide +kernel
theorem dX7_append_16 : decode cX7_append 16 = .ok (.aload_n 0, 1) := by decide +kernel
theorem dX7_append_17 : decode cX7_append 17 = .ok (.getfield 9, 3) := by decide +kernel
theorem dX7_append_20 : decode cX7_append 20 = .ok (.aload_n 0, 1) := by decide +kernel
theorem dX7_append_21 : decode cX7_append 21 = .ok (.getfield 13, 3) := by decide +kernel
theorem dX7_append_24 : decode cX7_append 24 = .ok (.iload_n 1, 1) := by decide +kernel
theorem dX7_append_25 : decode cX7_append 25 = .ok (.i2c, 1) := by decide +kernel
theorem dX7_append_26 : decode cX7_append 26 = .ok (.castore, 1) := by decide +kernel
theorem dX7_append_27 : decode cX7_append 27 = .ok (.aload_n 0, 1) := by decide +kernel
theorem dX7_append_28 : decode cX7_append 28 = .ok (.dup, 1) := by decide +kernel
theorem dX7_append_29 : decode cX7_append 29 = .ok (.getfield 13, 3) := by decide +kernel
theorem dX7_append_32 : decode cX7_append 32 = .ok (.iconst 1, 1) := by decide +kernel
theorem dX7_append_33 : decode cX7_append 33 = .ok (.iadd, 1) := by decide +kernel
theorem dX7_append_34 : decode cX7_append 34 = .ok (.putfield 13, 3) := by decide +kernel
theorem dX7_append_37 : decode cX7_append 37 = .ok (.return_, 1) := by decide +kernel
theorem dX7_empty_0 : decode cX7_empty 0 = .ok (.aload_n 0, 1) := by decide +kernel
theorem dX7_empty_1 : decode cX7_empty 1 = .ok (.iconst 0, 1) := by decide +kernel
theorem dX7_empty_2 : decode cX7_empty 2 = .ok (.putfield 13, 3) := by decide +kernel
theorem dX7_empty_5 : decode cX7_empty 5 = .ok (.return_, 1) := by decide +kernel
theorem dX7_at_0 : decode cX7_at 0 = .ok (.iload_n 1, 1) := by decide +kernel
theorem dX7_at_1 : decode cX7_at 1 = .ok (.ifCond .lt 18, 3) := by decide +kernel
theorem dX7_at_4 : decode cX7_at 4 = .ok (.iload_n 1, 1) := by decide +kernel
theorem dX7_at_5 : decode cX7_at 5 = .ok (.bipush 80, 2) := by decide +kernel
theorem dX7_at_7 : decode cX7_at 7 = .ok (.if_icmp .ge 12, 3) := by decide +kernel
theorem dX7_at_10 : decode cX7_at 10 = .ok (.aload_n 0, 1) := by decide +kernel
theorem dX7_at_11 : decode cX7_at 11 = .ok (.getfield 9, 3) := by decide +kernel
theorem dX7_at_14 : decode cX7_at 14 = .ok (.iload_n 1, 1) := by decide +kernel
theorem dX7_at_15 : decode cX7_at 15 = .ok (.caload, 1) := by decide +kernel
theorem dX7_at_16 : decode cX7_at 16 = .ok (.goto 4, 3) := by decide +kernel
theorem dX7_at_19 : decode cX7_at 19 = .ok (.iconst 0, 1) := by decide +kernel
theorem dX7_at_20 : decode cX7_at 20 = .ok (.ireturn, 1) := by decide +kernel
theorem dX8_init_0 : decode cX8_init 0 = .ok (.aload_n 0, 1) := by decide +kernel
theorem dX8_init_1 : decode cX8_init 1 = .ok (.invokespecial 3, 3) := by decide +kernel
theorem dX8_init_4 : decode cX8_init 4 = .ok (.return_, 1) := by decide +kernel
theorem dX8_goDown_0 : decode cX8_goDown 0 = .ok (.aload_n 0, 1) := by decide +kernel
theorem dX8_goDown_1 : decode cX8_goDown 1 = .ok (.iconst 1, 1) := by decide +kernel
theorem dX8_goDown_2 : decode cX8_goDown 2 = .ok (.putfield 9, 3) := by decide +kernel
theorem dX8_goDown_5 : decode cX8_goDown 5 = .ok (.aload_n 0, 1) := by decide +kernel
theorem dX8_goDown_6 : decode cX8_goDown 6 = .ok (.iload_n 1, 1) := by decide +kernel
theorem dX8_goDown_7 : decode cX8_goDown 7 = .ok (.putfield 15, 3) := by decide +kernel
theorem dX8_goDown_10 : decode cX8_goDown 10 = .ok (.aload_n 0, 1) := by decide +kernel
theorem dX8_goDown_11 : decode cX8_goDown 11 = .ok (.iload_n 2, 1) := by decide +kernel
theorem dX8_goDown_12 : decode cX8_goDown 12 = .ok (.putfield 19, 3) := by decide +kernel
theorem dX8_goDown_15 : decode cX8_goDown 15 = .ok (.aload_n 0, 1) := by decide +kernel
theorem dX8_goDown_16 : decode cX8_goDown 16 = .ok (.iconst 0, 1) := by decide +kernel
theorem dX8_goDown_17 : decode cX8_goDown 17 = .ok (.putfield 22, 3) := by decide +kernel
theorem dX8_goDown_20 : decode cX8_goDown 20 = .ok (.aload_n 0, 1) := by decide +kernel
theorem dX8_goDown_21 : decode cX8_goDown 21 = .ok (.iconst 0, 1) := by decide +kernel
theorem dX8_goDown_22 : decode cX8_goDown 22 = .ok (.putfield 25, 3) := by decide +kernel
theorem dX8_goDown_25 : decode cX8_goDown 25 = .ok (.return_, 1) := by decide +kernel
theorem dX8_follow_0 : decode cX8_follow 0 = .ok (.aload_n 0, 1) := by decide +kernel
theorem dX8_follow_1 : decode cX8_follow 1 = .ok (.iload_n 1, 1) := by decide +kernel
theorem dX8_follow_2 : decode cX8_follow 2 = .ok (.putfield 15, 3) := by decide +kernel
theorem dX8_follow_5 : decode cX8_follow 5 = .ok (.aload_n 0, 1) := by decide +kernel
theorem dX8_follow_6 : decode cX8_follow 6 = .ok (.iload_n 2, 1) := by decide +kernel
theorem dX8_follow_7 : decode cX8_follow 7 = .ok (.putfield 19, 3) := by decide +kernel
theorem dX8_follow_10 : decode cX8_follow 10 = .ok (.aload_n 0, 1) := by decide +kernel
theorem dX8_follow_11 : decode cX8_follow 11 = .ok (.dup, 1) := by decide +kernel
theorem dX8_follow_12 : decode cX8_follow 12 = .ok (.getfield 22, 3) := by decide +kernel
theorem dX8_follow_15 : decode cX8_follow 15 = .ok (.iconst 1, 1) := by decide +kernel
theorem dX8_follow_16 : decode cX8_follow 16 = .ok (.iadd, 1) := by decide +kernel
theorem dX8_follow_17 : decode cX8_follow 17 = .ok (.putfield 22, 3) := by decide +kernel
theorem dX8_follow_20 : decode cX8_follow 20 = .ok (.aload_n 0, 1) := by decide +kernel
theorem dX8_follow_21 : decode cX8_follow 21 = .ok (.iconst 0, 1) := by decide +kernel
theorem dX8_follow_22 : decode cX8_follow 22 = .ok (.putfield 25, 3) := by decide +kernel
theorem dX8_follow_25 : decode cX8_follow 25 = .ok (.return_, 1) := by decide +kernel
theorem dX8_miss_0 : decode cX8_miss 0 = .ok (.aload_n 0, 1) := by decide +kernel
theorem dX8_miss_1 : decode cX8_miss 1 = .ok (.dup, 1) := by decide +kernel
theorem dX8_miss_2 : decode cX8_miss 2 = .ok (.getfield 25, 3) := by decide +kernel
theorem dX8_miss_5 : decode cX8_miss 5 = .ok (.iconst 1, 1) := by decide +kernel
theorem dX8_miss_6 : decode cX8_miss 6 = .ok (.iadd, 1) := by decide +kernel
theorem dX8_miss_7 : decode cX8_miss 7 = .ok (.putfield 25, 3) := by decide +kernel
theorem dX8_miss_10 : decode cX8_miss 10 = .ok (.aload_n 0, 1) := by decide +kernel
theorem dX8_miss_11 : decode cX8_miss 11 = .ok (.aload_n 0, 1) := by decide +kernel
theorem dX8_miss_12 : decode cX8_miss 12 = .ok (.getfield 25, 3) := by decide +kernel
theorem dX8_miss_15 : decode cX8_miss 15 = .ok (.iload_n 1, 1) := by decide +kernel
theorem dX8_miss_16 : decode cX8_miss 16 = .ok (.if_icmp .gt 7, 3) := by decide +kernel
theorem dX8_miss_19 : decode cX8_miss 19 = .ok (.iconst 1, 1) := by decide +kernel
theorem dX8_miss_20 : decode cX8_miss 20 = .ok (.goto 4, 3) := by decide +kernel
theorem dX8_miss_23 : decode cX8_miss 23 = .ok (.iconst 0, 1) := by decide +kernel
theorem dX8_miss_24 : decode cX8_miss 24 = .ok (.putfield 9, 3) := by decide +kernel
theorem dX8_miss_27 : decode cX8_miss 27 = .ok (.return_, 1) := by decide +kernel
theorem dX8_partOf_0 : decode cX8_partOf 0 = .ok (.aload_n 0, 1) := by decide +kernel
theorem dX8_partOf_1 : decode cX8_partOf 1 = .ok (.getfield 9, 3) := by decide +kernel
theorem dX8_partOf_4 : decode cX8_partOf 4 = .ok (.ifCond .ne 5, 3) := by decide +kernel
theorem dX8_partOf_7 : decode cX8_partOf 7 = .ok (.iconst (-1), 1) := by decide +kernel
theorem dX8_partOf_8 : decode cX8_partOf 8 = .ok (.ireturn, 1) := by decide +kernel
theorem dX8_partOf_9 : decode cX8_partOf 9 = .ok (.iload_n 1, 1) := by decide +kernel
theorem dX8_partOf_10 : decode cX8_partOf 10 = .ok (.tableswitch 41 0 2 #[26, 31, 36], 26) := by decide +kernel
theorem dX8_partOf_36 : decode cX8_partOf 36 = .ok (.aload_n 0, 1) := by decide +kernel
theorem dX8_partOf_37 : decode cX8_partOf 37 = .ok (.getfield 15, 3) := by decide +kernel
theorem dX8_partOf_40 : decode cX8_partOf 40 = .ok (.ireturn, 1) := by decide +kernel
theorem dX8_partOf_41 : decode cX8_partOf 41 = .ok (.aload_n 0, 1) := by decide +kernel
theorem dX8_partOf_42 : decode cX8_partOf 42 = .ok (.getfield 19, 3) := by decide +kernel
theorem dX8_partOf_45 : decode cX8_partOf 45 = .ok (.ireturn, 1) := by decide +kernel
theorem dX8_partOf_46 : decode cX8_partOf 46 = .ok (.aload_n 0, 1) := by decide +kernel
theorem dX8_partOf_47 : decode cX8_partOf 47 = .ok (.getfield 22, 3) := by decide +kernel
theorem dX8_partOf_50 : decode cX8_partOf 50 = .ok (.ireturn, 1) := by decide +kernel
theorem dX8_partOf_51 : decode cX8_partOf 51 = .ok (.aload_n 0, 1) := by decide +kernel
theorem dX8_partOf_52 : decode cX8_partOf 52 = .ok (.getfield 25, 3) := by decide +kernel
theorem dX8_partOf_55 : decode cX8_partOf 55 = .ok (.ireturn, 1) := by decide +kernel
theorem dX8_squaredWayTo_0 : decode cX8_squaredWayTo 0 = .ok (.aload_n 0, 1) := by decide +kernel
theorem dX8_squaredWayTo_1 : decode cX8_squaredWayTo 1 = .ok (.getfield 15, 3) := by decide +kernel
theorem dX8_squaredWayTo_4 : decode cX8_squaredWayTo 4 = .ok (.iload_n 1, 1) := by decide +kernel
theorem dX8_squaredWayTo_5 : decode cX8_squaredWayTo 5 = .ok (.isub, 1) := by decide +kernel
theorem dX8_squaredWayTo_6 : decode cX8_squaredWayTo 6 = .ok (.istore_n 3, 1) := by decide +kernel
theorem dX8_squaredWayTo_7 : decode cX8_squaredWayTo 7 = .ok (.aload_n 0, 1) := by decide +kernel
theorem dX8_squaredWayTo_8 : decode cX8_squaredWayTo 8 = .ok (.getfield 19, 3) := by decide +kernel
theorem dX8_squaredWayTo_11 : decode cX8_squaredWayTo 11 = .ok (.iload_n 2, 1) := by decide +kernel
theorem dX8_squaredWayTo_12 : decode cX8_squaredWayTo 12 = .ok (.isub, 1) := by decide +kernel
theorem dX8_squaredWayTo_13 : decode cX8_squaredWayTo 13 = .ok (.istore 4, 2) := by decide +kernel
theorem dX8_squaredWayTo_15 : decode cX8_squaredWayTo 15 = .ok (.iload_n 3, 1) := by decide +kernel
theorem dX8_squaredWayTo_16 : decode cX8_squaredWayTo 16 = .ok (.iload_n 3, 1) := by decide +kernel
theorem dX8_squaredWayTo_17 : decode cX8_squaredWayTo 17 = .ok (.imul, 1) := by decide +kernel
theorem dX8_squaredWayTo_18 : decode cX8_squaredWayTo 18 = .ok (.iload 4, 2) := by decide +kernel
theorem dX8_squaredWayTo_20 : decode cX8_squaredWayTo 20 = .ok (.iload 4, 2) := by decide +kernel
theorem dX8_squaredWayTo_22 : decode cX8_squaredWayTo 22 = .ok (.imul, 1) := by decide +kernel
theorem dX8_squaredWayTo_23 : decode cX8_squaredWayTo 23 = .ok (.iadd, 1) := by decide +kernel
theorem dX8_squaredWayTo_24 : decode cX8_squaredWayTo 24 = .ok (.ireturn, 1) := by decide +kernel
theorem dX8_copyFrom_0 : decode cX8_copyFrom 0 = .ok (.aload_n 0, 1) := by decide +kernel
theorem dX8_copyFrom_1 : decode cX8_copyFrom 1 = .ok (.aload_n 1, 1) := by decide +kernel
theorem dX8_copyFrom_2 : decode cX8_copyFrom 2 = .ok (.getfield 9, 3) := by decide +kernel
theorem dX8_copyFrom_5 : decode cX8_copyFrom 5 = .ok (.putfield 9, 3) := by decide +kernel
theorem dX8_copyFrom_8 : decode cX8_copyFrom 8 = .ok (.aload_n 0, 1) := by decide +kernel
theorem dX8_copyFrom_9 : decode cX8_copyFrom 9 = .ok (.aload_n 1, 1) := by decide +kernel
theorem dX8_copyFrom_10 : decode cX8_copyFrom 10 = .ok (.getfield 15, 3) := by decide +kernel
theorem dX8_copyFrom_13 : decode cX8_copyFrom 13 = .ok (.putfield 15, 3) := by decide +kernel
theorem dX8_copyFrom_16 : decode cX8_copyFrom 16 = .ok (.aload_n 0, 1) := by decide +kernel
theorem dX8_copyFrom_17 : decode cX8_copyFrom 17 = .ok (.aload_n 1, 1) := by decide +kernel
theorem dX8_copyFrom_18 : decode cX8_copyFrom 18 = .ok (.getfield 19, 3) := by decide +kernel
theorem dX8_copyFrom_21 : decode cX8_copyFrom 21 = .ok (.putfield 19, 3) := by decide +kernel
theorem dX8_copyFrom_24 : decode cX8_copyFrom 24 = .ok (.aload_n 0, 1) := by decide +kernel
theorem dX8_copyFrom_25 : decode cX8_copyFrom 25 = .ok (.aload_n 1, 1) := by decide +kernel
theorem dX8_copyFrom_26 : decode cX8_copyFrom 26 = .ok (.getfield 22, 3) := by decide +kernel
theorem dX8_copyFrom_29 : decode cX8_copyFrom 29 = .ok (.putfield 22, 3) := by decide +kernel
theorem dX8_copyFrom_32 : decode cX8_copyFrom 32 = .ok (.aload_n 0, 1) := by decide +kernel
theorem dX8_copyFrom_33 : decode cX8_copyFrom 33 = .ok (.aload_n 1, 1) := by decide +kernel
theorem dX8_copyFrom_34 : decode cX8_copyFrom 34 = .ok (.getfield 25, 3) := by decide +kernel
theorem dX8_copyFrom_37 : decode cX8_copyFrom 37 = .ok (.putfield 25, 3) := by decide +kernel
theorem dX8_copyFrom_40 : decode cX8_copyFrom 40 = .ok (.return_, 1) := by decide +kernel
set_option maxRecDepth 20000 in
theorem ggX9_init_X6_init : GoodIn wsX9_init wsX6_init := goodIn_r _ [35, 36, 2, 3, 37, 38, 39, 40, 41, 42, 43, 44, 45, 46, 47, 48, 49, 50, 51, 52, 53, 54, 55, 56, 57, 58, 136, 137, 96, 97, 98, 99, 100, 101, 138, 139, 140, 141, 142] (by decide +kernel) (by decide +kernel)
set_option maxRecDepth 20000 in
theorem gX9_init_X6_init : GoodIn wsX9_init (wsX6_init) := ggX9_init_X6_init
set_option maxRecDepth 20000 in
theorem ggX9_init_X2_init : GoodIn wsX9_init wsX2_init := goodIn_r _ [61, 62, 2, 3, 63, 64, 5, 6, 65, 34, 35, 36, 37, 38, 39, 40, 41, 42, 43, 44, 45, 46, 47, 48, 49, 50, 51, 52, 53, 54, 55, 56, 57, 58, 110, 111, 96, 97, 98, 99, 100, 101, 136, 137, 138, 139, 140, 141, 142] (by decide +kernel) (by decide +kernel)
set_option maxRecDepth 20000 in
theorem gX9_init_X2_init : GoodIn wsX9_init (wsX2_init) := ggX9_init_X2_init
set_option maxRecDepth 20000 in
theorem ggX9_init_X5_init : GoodIn wsX9_init wsX5_init := goodIn_r _ [67, 68, 2, 3, 41, 69, 70, 71, 112, 113, 114, 115, 116] (by decide +kernel) (by decide +kernel)
set_option maxRecDepth 20000 in
theorem gX9_init_X5_init_n28 : GoodIn wsX9_init (wsX5_init) := ggX9_init_X5_init
set_option maxRecDepth 20000 in
theorem ggX9_init_X1_init : GoodIn wsX9_init wsX1_init := goodIn_r _ [73, 74, 2, 3, 41, 75, 76, 77, 78, 79, 117, 118, 119, 120, 121, 122] (by decide +kernel) (by decide +kernel)
set_option maxRecDepth 20000 in
theorem gX9_init_X1_init_n35 : GoodIn wsX9_init (wsX1_init) := ggX9_init_X1_init
set_option maxRecDepth 20000 in
theorem ggX9_init_X3_init : GoodIn wsX9_init wsX3_init := goodIn_r _ [81, 82, 2, 3, 83, 41, 84, 85, 86, 87, 123, 124, 125, 126, 127, 128] (by decide +kernel) (by decide +kernel)
set_option maxRecDepth 20000 in
theorem gX9_init_X3_init_n42 : GoodIn wsX9_init (wsX3_init) := ggX9_init_X3_init
set_option maxRecDepth 20000 in
theorem ggX9_init_X7_init : GoodIn wsX9_init wsX7_init := goodIn_r _ [89, 90, 2, 3, 91, 92, 129, 130] (by decide +kernel) (by decide +kernel)
set_option maxRecDepth 20000 in
theorem gX9_init_X7_init_n49 : GoodIn wsX9_init (wsX7_init) := ggX9_init_X7_init
set_option maxRecDepth 20000 in
theorem ggX9_init_X0_init : GoodIn wsX9_init wsX0_init := goodIn_r _ [94, 95, 2, 3] (by decide +kernel) (by decide +kernel)
set_option maxRecDepth 20000 in
theorem gX9_init_X0_init_n56 : GoodIn wsX9_init (wsX0_init) := ggX9_init_X0_init
theorem dX9_init_0 : decode cX9_init 0 = .ok (.aload_n 0, 1) := by decide +kernel
theorem dX9_init_1 : decode cX9_init 1 = .ok (.invokespecial 3, 3) := by decide +kernel
theorem dX9_init_4 : decode cX9_init 4 = .ok (.aload_n 0, 1) := by decide +kernel
theorem dX9_init_5 : decode cX9_init 5 = .ok (.new 9, 3) := by decide +kernel
theorem dX9_init_8 : decode cX9_init 8 = .ok (.dup, 1) := by decide +kernel
theorem dX9_init_9 : decode cX9_init 9 = .ok (.invokespecial 11, 3) := by decide +kernel
theorem dX9_init_12 : decode cX9_init 12 = .ok (.putfield 12, 3) := by decide +kernel
theorem dX9_init_15 : decode cX9_init 15 = .ok (.aload_n 0, 1) := by decide +kernel
theorem dX9_init_16 : decode cX9_init 16 = .ok (.new 9, 3) := by decide +kernel
theorem dX9_init_19 : decode cX9_init 19 = .ok (.dup, 1) := by decide +kernel
theorem dX9_init_20 : decode cX9_init 20 = .ok (.invokespecial 11, 3) := by decide +kernel
theorem dX9_init_23 : decode cX9_init 23 = .ok (.putfield 16, 3) := by decide +kernel
theorem dX9_init_26 : decode cX9_init 26 = .ok (.aload_n 0, 1) := by decide +kernel
theorem dX9_init_27 : decode cX9_init 27 = .ok (.new 19, 3) := by decide +kernel
theorem dX9_init_30 : decode cX9_init 30 = .ok (.dup, 1) := by decide +kernel
theorem dX9_init_31 : decode cX9_init 31 = .ok (.invokespecial 21, 3) := by decide +kernel
theorem dX9_init_34 : decode cX9_init 34 = .ok (.putfield 22, 3) := by decide +kernel
theorem dX9_init_37 : decode cX9_init 37 = .ok (.aload_n 0, 1) := by decide +kernel
theorem dX9_init_38 : decode cX9_init 38 = .ok (.new 26, 3) := by decide +kernel
theorem dX9_init_41 : decode cX9_init 41 = .ok (.dup, 1) := by decide +kernel
theorem dX9_init_42 : decode cX9_init 42 = .ok (.invokespecial 28, 3) := by decide +kernel
theorem dX9_init_45 : decode cX9_init 45 = .ok (.putfield 29, 3) := by decide +kernel
theorem dX9_init_48 : decode cX9_init 48 = .ok (.aload_n 0, 1) := by decide +kernel
theorem dX9_init_49 : decode cX9_init 49 = .ok (.new 33, 3) := by decide +kernel
theorem dX9_init_52 : decode cX9_init 52 = .ok (.dup, 1) := by decide +kernel
theorem dX9_init_53 : decode cX9_init 53 = .ok (.invokespecial 35, 3) := by decide +kernel
theorem dX9_init_56 : decode cX9_init 56 = .ok (.putfield 36, 3) := by decide +kernel
theorem dX9_init_59 : decode cX9_init 59 = .ok (.aload_n 0, 1) := by decide +kernel
theorem dX9_init_60 : decode cX9_init 60 = .ok (.new 40, 3) := by decide +kernel
theorem dX9_init_63 : decode cX9_init 63 = .ok (.dup, 1) := by decide +kernel
theorem dX9_init_64 : decode cX9_init 64 = .ok (.invokespecial 42, 3) := by decide +kernel
theorem dX9_init_67 : decode cX9_init 67 = .ok (.putfield 43, 3) := by decide +kernel
theorem dX9_init_70 : decode cX9_init 70 = .ok (.aload_n 0, 1) := by decide +kernel
theorem dX9_init_71 : decode cX9_init 71 = .ok (.new 47, 3) := by decide +kernel
theorem dX9_init_74 : decode cX9_init 74 = .ok (.dup, 1) := by decide +kernel
theorem dX9_init_75 : decode cX9_init 75 = .ok (.invokespecial 49, 3) := by decide +kernel
theorem dX9_init_78 : decode cX9_init 78 = .ok (.putfield 50, 3) := by decide +kernel
theorem dX9_init_81 : decode cX9_init 81 = .ok (.aload_n 0, 1) := by decide +kernel
theorem dX9_init_82 : decode cX9_init 82 = .ok (.new 54, 3) := by decide +kernel
theorem dX9_init_85 : decode cX9_init 85 = .ok (.dup, 1) := by decide +kernel
theorem dX9_init_86 : decode cX9_init 86 = .ok (.invokespecial 56, 3) := by decide +kernel
theorem dX9_init_89 : decode cX9_init 89 = .ok (.putfield 57, 3) := by decide +kernel
theorem dX9_init_92 : decode cX9_init 92 = .ok (.return_, 1) := by decide +kernel
set_option maxRecDepth 20000 in
theorem ggX9_setRaw_X9_requireCell : GoodIn wsX9_setRaw wsX9_requireCell := goodIn_ca (goodIn_r _ [8, 9, 10, 11, 12, 7, 13] (by decide +kernel) (by decide +kernel)) (goodIn_sub (fun _ h => List.mem_cons_of_mem _ (List.mem_append_right _ h)) (by decide +kernel))
set_option maxRecDepth 20000 in
theorem gX9_setRaw_X9_requireCell : GoodIn wsX9_setRaw (va_wsS RX9 61 yX9_requireCell wsX9_requireCell) := goodIn_app (goodIn_of _ (by decide +kernel)) ggX9_setRaw_X9_requireCell
set_option maxRecDepth 20000 in
theorem ggX9_setRaw_X2_save : GoodIn wsX9_setRaw wsX2_save := goodIn_r _ [18, 19, 20, 21, 22, 23, 17, 24, 25, 26, 27, 28, 29, 30, 31, 32, 33, 34, 35, 36, 37, 38, 39, 40, 41, 42, 43, 44, 45, 46, 47, 48, 49, 50, 51, 52, 53, 54, 55, 56, 57, 81, 82, 75, 76, 77, 78, 79, 80, 83, 84, 85, 86, 87, 88, 89] (by decide +kernel) (by decide +kernel)
set_option maxRecDepth 20000 in
theorem gX9_setRaw_X2_save : GoodIn wsX9_setRaw (wsV RX9 72 RX2 yX2_save wsX2_save) := goodIn_app (goodIn_of _ (by decide +kernel)) ggX9_setRaw_X2_save
set_option maxRecDepth 20000 in
theorem ggX9_setRaw_X9_cellAt : GoodIn wsX9_setRaw wsX9_cellAt := goodIn_r _ [60] (by decide +kernel) (by decide +kernel)
set_option maxRecDepth 20000 in
theorem gX9_setRaw_X9_cellAt : GoodIn wsX9_setRaw (va_wsS RX9 80 yX9_cellAt wsX9_cellAt) := goodIn_app (goodIn_of _ (by decide +kernel)) ggX9_setRaw_X9_cellAt
set_option maxRecDepth 20000 in
theorem ggX9_setRaw_X4_replaceRaw : GoodIn wsX9_setRaw wsX4_replaceRaw := goodIn_r _ [64, 45, 65, 7, 66, 83, 84] (by decide +kernel) (by decide +kernel)
set_option maxRecDepth 20000 in
theorem gX9_setRaw_X4_replaceRaw : GoodIn wsX9_setRaw (wsV RX9 84 RX4 yX4_replaceRaw wsX4_replaceRaw) := goodIn_app (goodIn_of _ (by decide +kernel)) ggX9_setRaw_X4_replaceRaw
theorem dX9_setRaw_0 : decode cX9_setRaw 0 = .ok (.iload_n 1, 1) := by decide +kernel
theorem dX9_setRaw_1 : decode cX9_setRaw 1 = .ok (.iload_n 2, 1) := by decide +kernel
theorem dX9_setRaw_2 : decode cX9_setRaw 2 = .ok (.invokestatic 61, 3) := by decide +kernel
theorem dX9_setRaw_5 : decode cX9_setRaw 5 = .ok (.iload_n 3, 1) := by decide +kernel
theorem dX9_setRaw_6 : decode cX9_setRaw 6 = .ok (.ifCond .lt 10, 3) := by decide +kernel
theorem dX9_setRaw_9 : decode cX9_setRaw 9 = .ok (.iload_n 3, 1) := by decide +kernel
theorem dX9_setRaw_10 : decode cX9_setRaw 10 = .ok (.sipush 255, 3) := by decide +kernel
theorem dX9_setRaw_13 : decode cX9_setRaw 13 = .ok (.if_icmp .le 13, 3) := by decide +kernel
theorem dX9_setRaw_16 : decode cX9_setRaw 16 = .ok (.new 65, 3) := by decide +kernel
theorem dX9_setRaw_19 : decode cX9_setRaw 19 = .ok (.dup, 1) := by decide +kernel
theorem dX9_setRaw_20 : decode cX9_setRaw 20 = .ok (.ldc 67, 2) := by decide +kernel
theorem dX9_setRaw_22 : decode cX9_setRaw 22 = .ok (.invokespecial 69, 3) := by decide +kernel
theorem dX9_setRaw_25 : decode cX9_setRaw 25 = .ok (.athrow, 1) := by decide +kernel
theorem dX9_setRaw_26 : decode cX9_setRaw 26 = .ok (.aload_n 0, 1) := by decide +kernel
theorem dX9_setRaw_27 : decode cX9_setRaw 27 = .ok (.getfield 22, 3) := by decide +kernel
theorem dX9_setRaw_30 : decode cX9_setRaw 30 = .ok (.aload_n 0, 1) := by decide +kernel
theorem dX9_setRaw_31 : decode cX9_setRaw 31 = .ok (.getfield 12, 3) := by decide +kernel
theorem dX9_setRaw_34 : decode cX9_setRaw 34 = .ok (.invokevirtual 72, 3) := by decide +kernel
theorem dX9_setRaw_37 : decode cX9_setRaw 37 = .ok (.aload_n 0, 1) := by decide +kernel
theorem dX9_setRaw_38 : decode cX9_setRaw 38 = .ok (.getfield 12, 3) := by decide +kernel
theorem dX9_setRaw_41 : decode cX9_setRaw 41 = .ok (.getfield 76, 3) := by decide +kernel
theorem dX9_setRaw_44 : decode cX9_setRaw 44 = .ok (.iload_n 1, 1) := by decide +kernel
theorem dX9_setRaw_45 : decode cX9_setRaw 45 = .ok (.iload_n 2, 1) := by decide +kernel
theorem dX9_setRaw_46 : decode cX9_setRaw 46 = .ok (.invokestatic 80, 3) := by decide +kernel
theorem dX9_setRaw_49 : decode cX9_setRaw 49 = .ok (.iload_n 3, 1) := by decide +kernel
theorem dX9_setRaw_50 : decode cX9_setRaw 50 = .ok (.invokevirtual 84, 3) := by decide +kernel
theorem dX9_setRaw_53 : decode cX9_setRaw 53 = .ok (.ireturn, 1) := by decide +kernel
set_option maxRecDepth 20000 in
theorem ggX9_press_X9_requireCell : GoodIn wsX9_press wsX9_requireCell := goodIn_ca (goodIn_r _ [8, 9, 10, 11, 12, 7, 13] (by decide +kernel) (by decide +kernel)) (goodIn_sub (fun _ h => List.mem_cons_of_mem _ (List.mem_append_right _ h)) (by decide +kernel))
set_option maxRecDepth 20000 in
theorem gX9_press_X9_requireCell : GoodIn wsX9_press (va_wsS RX9 61 yX9_requireCell wsX9_requireCell) := goodIn_app (goodIn_of _ (by decide +kernel)) ggX9_press_X9_requireCell
set_option maxRecDepth 20000 in
theorem ggX9_press_X2_save : GoodIn wsX9_press wsX2_save := goodIn_r _ [18, 19, 20, 21, 22, 23, 17, 24, 25, 26, 27, 28, 29, 30, 31, 32, 33, 34, 35, 36, 37, 38, 39, 40, 41, 42, 43, 44, 45, 46, 47, 48, 49, 50, 51, 52, 53, 54, 55, 56, 57, 89, 90, 83, 84, 85, 86, 87, 88, 91, 92, 93, 94, 95, 96, 97] (by decide +kernel) (by decide +kernel)
set_option maxRecDepth 20000 in
theorem gX9_press_X2_save : GoodIn wsX9_press (wsV RX9 72 RX2 yX2_save wsX2_save) := goodIn_app (goodIn_of _ (by decide +kernel)) ggX9_press_X2_save
set_option maxRecDepth 20000 in
theorem ggX9_press_X4_pressAt : GoodIn wsX9_press wsX4_pressAt := goodIn_r _ [61, 62, 63, 64, 43, 65, 45, 12, 7, 13, 66, 67, 91, 92] (by decide +kernel) (by decide +kernel)
set_option maxRecDepth 20000 in
theorem gX9_press_X4_pressAt : GoodIn wsX9_press (wsV RX9 91 RX4 yX4_pressAt wsX4_pressAt) := goodIn_app (goodIn_of _ (by decide +kernel)) ggX9_press_X4_pressAt
set_option maxRecDepth 20000 in
theorem ggX9_press_X9_cellAt : GoodIn wsX9_press wsX9_cellAt := goodIn_r _ [67] (by decide +kernel) (by decide +kernel)
set_option maxRecDepth 20000 in
theorem gX9_press_X9_cellAt : GoodIn wsX9_press (va_wsS RX9 80 yX9_cellAt wsX9_cellAt) := goodIn_app (goodIn_of _ (by decide +kernel)) ggX9_press_X9_cellAt
set_option maxRecDepth 20000 in
theorem ggX9_press_X4_rawOf : GoodIn wsX9_press wsX4_rawOf := goodIn_r _ [72, 45, 73, 7, 74, 91, 92] (by decide +kernel) (by decide +kernel)
set_option maxRecDepth 20000 in
theorem gX9_press_X4_rawOf : GoodIn wsX9_press (wsV RX9 95 RX4 yX4_rawOf wsX4_rawOf) := goodIn_app (goodIn_of _ (by decide +kernel)) ggX9_press_X4_rawOf
theorem dX9_press_0 : decode cX9_press 0 = .ok (.iload_n 1, 1) := by decide +kernel
theorem dX9_press_1 : decode cX9_press 1 = .ok (.iload_n 2, 1) := by decide +kernel
theorem dX9_press_2 : decode cX9_press 2 = .ok (.invokestatic 61, 3) := by decide +kernel
theorem dX9_press_5 : decode cX9_press 5 = .ok (.iload_n 3, 1) := by decide +kernel
theorem dX9_press_6 : decode cX9_press 6 = .ok (.iconst 1, 1) := by decide +kernel
theorem dX9_press_7 : decode cX9_press 7 = .ok (.if_icmp .lt 10, 3) := by decide +kernel
theorem dX9_press_10 : decode cX9_press 10 = .ok (.iload_n 3, 1) := by decide +kernel
theorem dX9_press_11 : decode cX9_press 11 = .ok (.sipush 255, 3) := by decide +kernel
theorem dX9_press_14 : decode cX9_press 14 = .ok (.if_icmp .le 13, 3) := by decide +kernel
theorem dX9_press_17 : decode cX9_press 17 = .ok (.new 65, 3) := by decide +kernel
theorem dX9_press_20 : decode cX9_press 20 = .ok (.dup, 1) := by decide +kernel
theorem dX9_press_21 : decode cX9_press 21 = .ok (.ldc 89, 2) := by decide +kernel
theorem dX9_press_23 : decode cX9_press 23 = .ok (.invokespecial 69, 3) := by decide +kernel
theorem dX9_press_26 : decode cX9_press 26 = .ok (.athrow, 1) := by decide +kernel
theorem dX9_press_27 : decode cX9_press 27 = .ok (.aload_n 0, 1) := by decide +kernel
theorem dX9_press_28 : decode cX9_press 28 = .ok (.getfield 22, 3) := by decide +kernel
theorem dX9_press_31 : decode cX9_press 31 = .ok (.aload_n 0, 1) := by decide +kernel
theorem dX9_press_32 : decode cX9_press 32 = .ok (.getfield 12, 3) := by decide +kernel
theorem dX9_press_35 : decode cX9_press 35 = .ok (.invokevirtual 72, 3) := by decide +kernel
theorem dX9_press_38 : decode cX9_press 38 = .ok (.aload_n 0, 1) := by decide +kernel
theorem dX9_press_39 : decode cX9_press 39 = .ok (.getfield 12, 3) := by decide +kernel
theorem dX9_press_42 : decode cX9_press 42 = .ok (.getfield 76, 3) := by decide +kernel
theorem dX9_press_45 : decode cX9_press 45 = .ok (.iload_n 1, 1) := by decide +kernel
theorem dX9_press_46 : decode cX9_press 46 = .ok (.iload_n 2, 1) := by decide +kernel
theorem dX9_press_47 : decode cX9_press 47 = .ok (.iload_n 3, 1) := by decide +kernel
theorem dX9_press_48 : decode cX9_press 48 = .ok (.invokevirtual 91, 3) := by decide +kernel
theorem dX9_press_51 : decode cX9_press 51 = .ok (.aload_n 0, 1) := by decide +kernel
theorem dX9_press_52 : decode cX9_press 52 = .ok (.getfield 12, 3) := by decide +kernel
theorem dX9_press_55 : decode cX9_press 55 = .ok (.getfield 76, 3) := by decide +kernel
theorem dX9_press_58 : decode cX9_press 58 = .ok (.iload_n 1, 1) := by decide +kernel
theorem dX9_press_59 : decode cX9_press 59 = .ok (.iload_n 2, 1) := by decide +kernel
theorem dX9_press_60 : decode cX9_press 60 = .ok (.invokestatic 80, 3) := by decide +kernel
theorem dX9_press_63 : decode cX9_press 63 = .ok (.invokevirtual 95, 3) := by decide +kernel
theorem dX9_press_66 : decode cX9_press 66 = .ok (.ireturn, 1) := by decide +kernel
set_option maxRecDepth 20000 in
theorem ggX9_release_X2_save : GoodIn wsX9_release wsX2_save := goodIn_r _ [7, 8, 9, 10, 11, 12, 6, 13, 14, 15, 16, 17, 18, 19, 20, 21, 22, 23, 24, 25, 26, 27, 28, 29, 30, 31, 32, 33, 34, 35, 36, 37, 38, 39, 40, 41, 42, 43, 44, 45, 46, 65, 66, 59, 60, 61, 62, 63, 64, 67, 68, 69, 70, 71, 72, 73] (by decide +kernel) (by decide +kernel)
set_option maxRecDepth 20000 in
theorem gX9_release_X2_save : GoodIn wsX9_release (wsV RX9 72 RX2 yX2_save wsX2_save) := goodIn_app (goodIn_of _ (by decide +kernel)) ggX9_release_X2_save
set_option maxRecDepth 20000 in
theorem ggX9_release_X4_clearRaw : GoodIn wsX9_release wsX4_clearRaw := goodIn_r _ [50, 34, 67, 68] (by decide +kernel) (by decide +kernel)
set_option maxRecDepth 20000 in
theorem gX9_release_X4_clearRaw : GoodIn wsX9_release (wsV RX9 99 RX4 yX4_clearRaw wsX4_clearRaw) := goodIn_app (goodIn_of _ (by decide +kernel)) ggX9_release_X4_clearRaw
theorem dX9_release_0 : decode cX9_release 0 = .ok (.aload_n 0, 1) := by decide +kernel
theorem dX9_release_1 : decode cX9_release 1 = .ok (.getfield 22, 3) := by decide +kernel
theorem dX9_release_4 : decode cX9_release 4 = .ok (.aload_n 0, 1) := by decide +kernel
theorem dX9_release_5 : decode cX9_release 5 = .ok (.getfield 12, 3) := by decide +kernel
theorem dX9_release_8 : decode cX9_release 8 = .ok (.invokevirtual 72, 3) := by decide +kernel
theorem dX9_release_11 : decode cX9_release 11 = .ok (.aload_n 0, 1) := by decide +kernel
theorem dX9_release_12 : decode cX9_release 12 = .ok (.getfield 12, 3) := by decide +kernel
theorem dX9_release_15 : decode cX9_release 15 = .ok (.getfield 76, 3) := by decide +kernel
theorem dX9_release_18 : decode cX9_release 18 = .ok (.invokevirtual 99, 3) := by decide +kernel
theorem dX9_release_21 : decode cX9_release 21 = .ok (.ireturn, 1) := by decide +kernel
set_option maxRecDepth 20000 in
theorem ggX9_calibrate_X2_save : GoodIn wsX9_calibrate wsX2_save := goodIn_r _ [7, 8, 9, 10, 11, 12, 6, 13, 14, 15, 16, 17, 18, 19, 20, 21, 22, 23, 24, 25, 26, 27, 28, 29, 30, 31, 32, 33, 34, 35, 36, 37, 38, 39, 40, 41, 42, 43, 44, 45, 46, 65, 66, 59, 60, 61, 62, 63, 64, 67, 68, 69, 70, 71, 72, 73] (by decide +kernel) (by decide +kernel)
set_option maxRecDepth 20000 in
theorem gX9_calibrate_X2_save : GoodIn wsX9_calibrate (wsV RX9 72 RX2 yX2_save wsX2_save) := goodIn_app (goodIn_of _ (by decide +kernel)) ggX9_calibrate_X2_save
set_option maxRecDepth 20000 in
theorem ggX9_calibrate_X4_takeBaselines : GoodIn wsX9_calibrate wsX4_takeBaselines := goodIn_r _ [50, 36, 34, 67, 68] (by decide +kernel) (by decide +kernel)
set_option maxRecDepth 20000 in
theorem gX9_calibrate_X4_takeBaselines : GoodIn wsX9_calibrate (wsV RX9 103 RX4 yX4_takeBaselines wsX4_takeBaselines) := goodIn_app (goodIn_of _ (by decide +kernel)) ggX9_calibrate_X4_takeBaselines
theorem dX9_calibrate_0 : decode cX9_calibrate 0 = .ok (.aload_n 0, 1) := by decide +kernel
theorem dX9_calibrate_1 : decode cX9_calibrate 1 = .ok (.getfield 22, 3) := by decide +kernel
theorem dX9_calibrate_4 : decode cX9_calibrate 4 = .ok (.aload_n 0, 1) := by decide +kernel
theorem dX9_calibrate_5 : decode cX9_calibrate 5 = .ok (.getfield 12, 3) := by decide +kernel
theorem dX9_calibrate_8 : decode cX9_calibrate 8 = .ok (.invokevirtual 72, 3) := by decide +kernel
theorem dX9_calibrate_11 : decode cX9_calibrate 11 = .ok (.aload_n 0, 1) := by decide +kernel
theorem dX9_calibrate_12 : decode cX9_calibrate 12 = .ok (.getfield 12, 3) := by decide +kernel
theorem dX9_calibrate_15 : decode cX9_calibrate 15 = .ok (.getfield 76, 3) := by decide +kernel
theorem dX9_calibrate_18 : decode cX9_calibrate 18 = .ok (.invokevirtual 103, 3) := by decide +kernel
theorem dX9_calibrate_21 : decode cX9_calibrate 21 = .ok (.ireturn, 1) := by decide +kernel
set_option maxRecDepth 20000 in
theorem ggX9_set_X9_requireSetting : GoodIn wsX9_set wsX9_requireSetting := goodIn_ca (goodIn_r _ [10, 11, 12] (by decide +kernel) (by decide +kernel)) (goodIn_sub (fun _ h => List.mem_cons_of_mem _ (List.mem_append_right _ h)) (by decide +kernel))
set_option maxRecDepth 20000 in
theorem gX9_set_X9_requireSetting : GoodIn wsX9_set (va_wsS RX9 106 yX9_requireSetting wsX9_requireSetting) := goodIn_app (goodIn_of _ (by decide +kernel)) ggX9_set_X9_requireSetting
set_option maxRecDepth 20000 in
theorem ggX9_set_X2_save : GoodIn wsX9_set wsX2_save := goodIn_r _ [17, 18, 19, 20, 21, 22, 16, 23, 24, 25, 26, 27, 28, 29, 30, 31, 32, 33, 34, 35, 36, 37, 38, 39, 40, 41, 42, 43, 44, 45, 46, 47, 48, 49, 50, 51, 52, 53, 54, 55, 56, 71, 72, 65, 66, 67, 68, 69, 70, 73, 74, 75, 76, 77, 78, 79] (by decide +kernel) (by decide +kernel)
set_option maxRecDepth 20000 in
theorem gX9_set_X2_save : GoodIn wsX9_set (wsV RX9 72 RX2 yX2_save wsX2_save) := goodIn_app (goodIn_of _ (by decide +kernel)) ggX9_set_X2_save
theorem dX9_set_0 : decode cX9_set 0 = .ok (.iload_n 1, 1) := by decide +kernel
theorem dX9_set_1 : decode cX9_set 1 = .ok (.invokestatic 106, 3) := by decide +kernel
theorem dX9_set_4 : decode cX9_set 4 = .ok (.iload_n 2, 1) := by decide +kernel
theorem dX9_set_5 : decode cX9_set 5 = .ok (.getstatic 110, 3) := by decide +kernel
theorem dX9_set_8 : decode cX9_set 8 = .ok (.iload_n 1, 1) := by decide +kernel
theorem dX9_set_9 : decode cX9_set 9 = .ok (.iaload, 1) := by decide +kernel
theorem dX9_set_10 : decode cX9_set 10 = .ok (.if_icmp .lt 12, 3) := by decide +kernel
theorem dX9_set_13 : decode cX9_set 13 = .ok (.iload_n 2, 1) := by decide +kernel
theorem dX9_set_14 : decode cX9_set 14 = .ok (.getstatic 114, 3) := by decide +kernel
theorem dX9_set_17 : decode cX9_set 17 = .ok (.iload_n 1, 1) := by decide +kernel
theorem dX9_set_18 : decode cX9_set 18 = .ok (.iaload, 1) := by decide +kernel
theorem dX9_set_19 : decode cX9_set 19 = .ok (.if_icmp .le 13, 3) := by decide +kernel
theorem dX9_set_22 : decode cX9_set 22 = .ok (.new 65, 3) := by decide +kernel
theorem dX9_set_25 : decode cX9_set 25 = .ok (.dup, 1) := by decide +kernel
theorem dX9_set_26 : decode cX9_set 26 = .ok (.ldc 117, 2) := by decide +kernel
theorem dX9_set_28 : decode cX9_set 28 = .ok (.invokespecial 69, 3) := by decide +kernel
theorem dX9_set_31 : decode cX9_set 31 = .ok (.athrow, 1) := by decide +kernel
theorem dX9_set_32 : decode cX9_set 32 = .ok (.aload_n 0, 1) := by decide +kernel
theorem dX9_set_33 : decode cX9_set 33 = .ok (.getfield 22, 3) := by decide +kernel
theorem dX9_set_36 : decode cX9_set 36 = .ok (.aload_n 0, 1) := by decide +kernel
theorem dX9_set_37 : decode cX9_set 37 = .ok (.getfield 12, 3) := by decide +kernel
theorem dX9_set_40 : decode cX9_set 40 = .ok (.invokevirtual 72, 3) := by decide +kernel
theorem dX9_set_43 : decode cX9_set 43 = .ok (.aload_n 0, 1) := by decide +kernel
theorem dX9_set_44 : decode cX9_set 44 = .ok (.getfield 12, 3) := by decide +kernel
theorem dX9_set_47 : decode cX9_set 47 = .ok (.getfield 119, 3) := by decide +kernel
theorem dX9_set_50 : decode cX9_set 50 = .ok (.iload_n 1, 1) := by decide +kernel
theorem dX9_set_51 : decode cX9_set 51 = .ok (.iaload, 1) := by decide +kernel
theorem dX9_set_52 : decode cX9_set 52 = .ok (.istore_n 3, 1) := by decide +kernel
theorem dX9_set_53 : decode cX9_set 53 = .ok (.aload_n 0, 1) := by decide +kernel
theorem dX9_set_54 : decode cX9_set 54 = .ok (.getfield 12, 3) := by decide +kernel
theorem dX9_set_57 : decode cX9_set 57 = .ok (.getfield 119, 3) := by decide +kernel
theorem dX9_set_60 : decode cX9_set 60 = .ok (.iload_n 1, 1) := by decide +kernel
theorem dX9_set_61 : decode cX9_set 61 = .ok (.iload_n 2, 1) := by decide +kernel
theorem dX9_set_62 : decode cX9_set 62 = .ok (.iastore, 1) := by decide +kernel
theorem dX9_set_63 : decode cX9_set 63 = .ok (.iload_n 3, 1) := by decide +kernel
theorem dX9_set_64 : decode cX9_set 64 = .ok (.ireturn, 1) := by decide +kernel
set_option maxRecDepth 20000 in
theorem ggX9_scan_X2_save : GoodIn wsX9_scan wsX2_save := goodIn_r _ [7, 8, 9, 10, 11, 12, 6, 13, 14, 15, 16, 17, 18, 19, 20, 21, 22, 23, 24, 25, 26, 27, 28, 29, 30, 31, 32, 33, 34, 35, 36, 37, 38, 39, 40, 41, 42, 43, 44, 45, 46, 218, 219, 220, 221, 222, 223, 224, 225, 226, 227, 228, 229, 230, 231, 232] (by decide +kernel) (by decide +kernel)
set_option maxRecDepth 20000 in
theorem gX9_scan_X2_save : GoodIn wsX9_scan (wsV RX9 72 RX2 yX2_save wsX2_save) := goodIn_app (goodIn_of _ (by decide +kernel)) ggX9_scan_X2_save
set_option maxRecDepth 20000 in
theorem ggX9_scan_X9_scanFrame : GoodIn wsX9_scan wsX9_scanFrame := goodIn_r _ [51, 52, 53, 54, 55, 56, 57, 58, 59, 60, 61, 62, 63, 64, 65, 32, 66, 34, 36, 67, 68, 69, 70, 71, 72, 73, 74, 75, 50, 76, 77, 78, 79, 80, 81, 82, 83, 84, 85, 86, 87, 88, 89, 90, 91, 92, 93, 94, 95, 96, 97, 98, 99, 100, 101, 102, 103, 104, 105, 106, 107, 108, 109, 110, 111, 112, 113, 114, 115, 116, 117, 118, 119, 120, 121, 122, 123, 124, 125, 126, 127, 128, 129, 130, 131, 132, 133, 134, 135, 136, 137, 138, 139, 140, 141, 142, 143, 144, 145, 146, 147, 148, 40, 149, 43, 44, 150, 151, 152, 153, 154, 155, 156, 157, 158, 159, 160, 161, 162, 163, 164, 165, 166, 167, 168, 169, 170, 171, 172, 173, 174, 17, 175, 27, 28, 26, 176, 177, 178, 179, 25, 180, 181, 182, 183, 20, 184, 185, 186, 187, 188, 189, 190, 191, 192, 193, 45, 46, 194, 195, 196, 197, 42, 198, 199, 200, 201, 202, 203, 204, 205, 206, 207, 208, 209, 210, 211, 212, 213, 214, 215, 216, 217, 220, 221, 222, 223, 224, 225, 233, 234, 235, 236, 237, 226, 227, 238, 239, 240, 241, 242, 243, 244, 245, 246, 247, 248, 249, 228, 229, 230, 231, 232] (by decide +kernel) (by decide +kernel)
set_option maxRecDepth 20000 in
theorem gX9_scan_X9_scanFrame : GoodIn wsX9_scan (wsV RX9 122 RX9 yX9_scanFrame wsX9_scanFrame) := goodIn_app (goodIn_of _ (by decide +kernel)) ggX9_scan_X9_scanFrame
theorem dX9_scan_0 : decode cX9_scan 0 = .ok (.aload_n 0, 1) := by decide +kernel
theorem dX9_scan_1 : decode cX9_scan 1 = .ok (.getfield 22, 3) := by decide +kernel
theorem dX9_scan_4 : decode cX9_scan 4 = .ok (.aload_n 0, 1) := by decide +kernel
theorem dX9_scan_5 : decode cX9_scan 5 = .ok (.getfield 12, 3) := by decide +kernel
theorem dX9_scan_8 : decode cX9_scan 8 = .ok (.invokevirtual 72, 3) := by decide +kernel
theorem dX9_scan_11 : decode cX9_scan 11 = .ok (.aload_n 0, 1) := by decide +kernel
theorem dX9_scan_12 : decode cX9_scan 12 = .ok (.aload_n 0, 1) := by decide +kernel
theorem dX9_scan_13 : decode cX9_scan 13 = .ok (.getfield 12, 3) := by decide +kernel
theorem dX9_scan_16 : decode cX9_scan 16 = .ok (.invokevirtual 122, 3) := by decide +kernel
theorem dX9_scan_19 : decode cX9_scan 19 = .ok (.ireturn, 1) := by decide +kernel
set_option maxRecDepth 20000 in
theorem ggX9_appendText_X7_isFull : GoodIn wsX9_appendText wsX7_isFull := goodIn_r _ [10, 11, 25, 26] (by decide +kernel) (by decide +kernel)
set_option maxRecDepth 20000 in
theorem gX9_appendText_X7_isFull : GoodIn wsX9_appendText (wsV RX9 128 RX7 yX7_isFull wsX7_isFull) := goodIn_app (goodIn_of _ (by decide +kernel)) ggX9_appendText_X7_isFull
set_option maxRecDepth 20000 in
theorem ggX9_appendText_X7_append : GoodIn wsX9_appendText wsX7_append := goodIn_r _ [15, 11, 16, 25, 26] (by decide +kernel) (by decide +kernel)
set_option maxRecDepth 20000 in
theorem gX9_appendText_X7_append : GoodIn wsX9_appendText (wsV RX9 137 RX7 yX7_append wsX7_append) := goodIn_app (goodIn_of _ (by decide +kernel)) ggX9_appendText_X7_append
theorem dX9_appendText_0 : decode cX9_appendText 0 = .ok (.iload_n 1, 1) := by decide +kernel
theorem dX9_appendText_1 : decode cX9_appendText 1 = .ok (.bipush 32, 2) := by decide +kernel
theorem dX9_appendText_3 : decode cX9_appendText 3 = .ok (.if_icmp .lt 9, 3) := by decide +kernel
theorem dX9_appendText_6 : decode cX9_appendText 6 = .ok (.iload_n 1, 1) := by decide +kernel
theorem dX9_appendText_7 : decode cX9_appendText 7 = .ok (.bipush 126, 2) := by decide +kernel
theorem dX9_appendText_9 : decode cX9_appendText 9 = .ok (.if_icmp .le 13, 3) := by decide +kernel
theorem dX9_appendText_12 : decode cX9_appendText 12 = .ok (.new 65, 3) := by decide +kernel
theorem dX9_appendText_15 : decode cX9_appendText 15 = .ok (.dup, 1) := by decide +kernel
theorem dX9_appendText_16 : decode cX9_appendText 16 = .ok (.ldc 126, 2) := by decide +kernel
theorem dX9_appendText_18 : decode cX9_appendText 18 = .ok (.invokespecial 69, 3) := by decide +kernel
theorem dX9_appendText_21 : decode cX9_appendText 21 = .ok (.athrow, 1) := by decide +kernel
theorem dX9_appendText_22 : decode cX9_appendText 22 = .ok (.aload_n 0, 1) := by decide +kernel
theorem dX9_appendText_23 : decode cX9_appendText 23 = .ok (.getfield 50, 3) := by decide +kernel
theorem dX9_appendText_26 : decode cX9_appendText 26 = .ok (.invokevirtual 128, 3) := by decide +kernel
theorem dX9_appendText_29 : decode cX9_appendText 29 = .ok (.ifCond .eq 13, 3) := by decide +kernel
theorem dX9_appendText_32 : decode cX9_appendText 32 = .ok (.new 132, 3) := by decide +kernel
theorem dX9_appendText_35 : decode cX9_appendText 35 = .ok (.dup, 1) := by decide +kernel
theorem dX9_appendText_36 : decode cX9_appendText 36 = .ok (.ldc 134, 2) := by decide +kernel
theorem dX9_appendText_38 : decode cX9_appendText 38 = .ok (.invokespecial 136, 3) := by decide +kernel
theorem dX9_appendText_41 : decode cX9_appendText 41 = .ok (.athrow, 1) := by decide +kernel
theorem dX9_appendText_42 : decode cX9_appendText 42 = .ok (.aload_n 0, 1) := by decide +kernel
theorem dX9_appendText_43 : decode cX9_appendText 43 = .ok (.getfield 50, 3) := by decide +kernel
theorem dX9_appendText_46 : decode cX9_appendText 46 = .ok (.iload_n 1, 1) := by decide +kernel
theorem dX9_appendText_47 : decode cX9_appendText 47 = .ok (.invokevirtual 137, 3) := by decide +kernel
theorem dX9_appendText_50 : decode cX9_appendText 50 = .ok (.aload_n 0, 1) := by decide +kernel
theorem dX9_appendText_51 : decode cX9_appendText 51 = .ok (.getfield 50, 3) := by decide +kernel
theorem dX9_appendText_54 : decode cX9_appendText 54 = .ok (.getfield 140, 3) := by decide +kernel
theorem dX9_appendText_57 : decode cX9_appendText 57 = .ok (.ireturn, 1) := by decide +kernel
set_option maxRecDepth 20000 in
theorem ggX9_clearText_X7_empty : GoodIn wsX9_clearText wsX7_empty := goodIn_r _ [6, 7, 16, 17] (by decide +kernel) (by decide +kernel)
set_option maxRecDepth 20000 in
theorem gX9_clearText_X7_empty : GoodIn wsX9_clearText (wsV RX9 144 RX7 yX7_empty wsX7_empty) := goodIn_app (goodIn_of _ (by decide +kernel)) ggX9_clearText_X7_empty
theorem dX9_clearText_0 : decode cX9_clearText 0 = .ok (.aload_n 0, 1) := by decide +kernel
theorem dX9_clearText_1 : decode cX9_clearText 1 = .ok (.getfield 50, 3) := by decide +kernel
theorem dX9_clearText_4 : decode cX9_clearText 4 = .ok (.getfield 140, 3) := by decide +kernel
theorem dX9_clearText_7 : decode cX9_clearText 7 = .ok (.istore_n 1, 1) := by decide +kernel
theorem dX9_clearText_8 : decode cX9_clearText 8 = .ok (.aload_n 0, 1) := by decide +kernel
theorem dX9_clearText_9 : decode cX9_clearText 9 = .ok (.getfield 50, 3) := by decide +kernel
theorem dX9_clearText_12 : decode cX9_clearText 12 = .ok (.invokevirtual 144, 3) := by decide +kernel
theorem dX9_clearText_15 : decode cX9_clearText 15 = .ok (.iload_n 1, 1) := by decide +kernel
theorem dX9_clearText_16 : decode cX9_clearText 16 = .ok (.ireturn, 1) := by decide +kernel
set_option maxRecDepth 20000 in
theorem ggX9_errorPosition_X9_findError : GoodIn wsX9_errorPosition wsX9_findError := goodIn_r _ [5, 6, 7, 8, 9, 10, 11, 12, 13, 14, 15, 16, 17, 18, 19, 20, 21, 22, 23, 24, 25, 26, 27, 28, 29, 30, 31, 32, 33, 34, 35, 36, 37, 38, 39, 40, 41, 42, 43, 44, 45, 46, 47, 48, 49, 50, 51, 52, 53, 54] (by decide +kernel) (by decide +kernel)
set_option maxRecDepth 20000 in
theorem gX9_errorPosition_X9_findError : GoodIn wsX9_errorPosition (wsV RX9 147 RX9 yX9_findError wsX9_findError) := goodIn_app (goodIn_of _ (by decide +kernel)) ggX9_errorPosition_X9_findError
theorem dX9_errorPosition_0 : decode cX9_errorPosition 0 = .ok (.aload_n 0, 1) := by decide +kernel
theorem dX9_errorPosition_1 : decode cX9_errorPosition 1 = .ok (.invokevirtual 147, 3) := by decide +kernel
theorem dX9_errorPosition_4 : decode cX9_errorPosition 4 = .ok (.ireturn, 1) := by decide +kernel
set_option maxRecDepth 20000 in
theorem ggX9_runText_X9_findError : GoodIn wsX9_runText wsX9_findError := goodIn_r _ [11, 5, 6, 12, 13, 14, 15, 16, 17, 18, 19, 20, 21, 22, 23, 24, 25, 26, 27, 28, 29, 30, 31, 32, 33, 34, 35, 36, 37, 38, 39, 40, 41, 42, 43, 270, 271, 272, 273, 274, 275, 276, 277, 278, 279, 280, 281, 282, 283, 284] (by decide +kernel) (by decide +kernel)
set_option maxRecDepth 20000 in
theorem gX9_runText_X9_findError : GoodIn wsX9_runText (wsV RX9 147 RX9 yX9_findError wsX9_findError) := goodIn_app (goodIn_of _ (by decide +kernel)) ggX9_runText_X9_findError
set_option maxRecDepth 20000 in
theorem ggX9_runText_X2_save : GoodIn wsX9_runText wsX2_save := goodIn_r _ [48, 49, 50, 51, 52, 53, 47, 54, 55, 56, 57, 58, 59, 60, 61, 62, 63, 64, 65, 66, 67, 68, 69, 70, 71, 72, 73, 74, 75, 76, 77, 78, 79, 80, 81, 82, 83, 84, 85, 86, 87, 285, 286, 287, 288, 289, 290, 291, 292, 293, 294, 295, 296, 297, 298, 299] (by decide +kernel) (by decide +kernel)
set_option maxRecDepth 20000 in
theorem gX9_runText_X2_save : GoodIn wsX9_runText (wsV RX9 72 RX2 yX2_save wsX2_save) := goodIn_app (goodIn_of _ (by decide +kernel)) ggX9_runText_X2_save
set_option maxRecDepth 20000 in
theorem ggX9_runText_X0_begin : GoodIn wsX9_runText wsX0_begin := goodIn_r _ [16, 17, 280, 281, 282, 283, 284] (by decide +kernel) (by decide +kernel)
set_option maxRecDepth 20000 in
theorem gX9_runText_X0_begin : GoodIn wsX9_runText (wsV RX9 152 RX0 yX0_begin wsX0_begin) := goodIn_app (goodIn_of _ (by decide +kernel)) ggX9_runText_X0_begin
set_option maxRecDepth 20000 in
theorem ggX9_runText_X7_at : GoodIn wsX9_runText wsX7_at := goodIn_r _ [22, 23, 278, 279] (by decide +kernel) (by decide +kernel)
set_option maxRecDepth 20000 in
theorem gX9_runText_X7_at : GoodIn wsX9_runText (wsV RX9 155 RX7 yX7_at wsX7_at) := goodIn_app (goodIn_of _ (by decide +kernel)) ggX9_runText_X7_at
set_option maxRecDepth 20000 in
theorem ggX9_runText_X9_runCommand : GoodIn wsX9_runText wsX9_runCommand := goodIn_r _ [91, 5, 4, 92, 93, 94, 73, 95, 96, 97, 98, 99, 75, 100, 10, 101, 102, 103, 104, 105, 106, 107, 108, 109, 110, 111, 77, 112, 113, 114, 115, 116, 117, 118, 119, 120, 121, 122, 123, 124, 125, 126, 127, 128, 129, 130, 131, 132, 133, 134, 135, 136, 137, 138, 139, 140, 141, 142, 143, 144, 145, 146, 147, 148, 149, 150, 151, 152, 153, 154, 155, 156, 157, 158, 159, 160, 161, 162, 163, 164, 165, 166, 167, 168, 169, 170, 171, 172, 173, 174, 175, 176, 177, 178, 179, 180, 181, 182, 183, 184, 185, 186, 187, 188, 189, 190, 191, 192, 193, 194, 195, 196, 197, 198, 199, 200, 201, 202, 203, 204, 205, 206, 207, 208, 81, 209, 84, 85, 210, 211, 212, 213, 214, 215, 216, 217, 218, 219, 220, 221, 222, 223, 224, 225, 226, 227, 228, 229, 230, 231, 232, 233, 234, 58, 235, 68, 69, 67, 236, 237, 238, 239, 66, 240, 241, 242, 243, 61, 244, 245, 246, 247, 248, 249, 250, 251, 252, 253, 86, 87, 254, 255, 256, 257, 83, 258, 259, 260, 261, 262, 263, 264, 265, 266, 267, 268, 269, 270, 271, 272, 273, 274, 275, 276, 277, 280, 281, 282, 283, 284, 287, 288, 289, 290, 291, 292, 293, 294, 300, 301, 302, 303, 304, 305, 306, 307, 308, 309, 310, 311, 312, 313, 314, 315, 316, 295, 296, 297, 298, 299] (by decide +kernel) (by decide +kernel)
set_option maxRecDepth 20000 in
theorem gX9_runText_X9_runCommand : GoodIn wsX9_runText (wsV RX9 158 RX9 yX9_runCommand wsX9_runCommand) := goodIn_app (goodIn_of _ (by decide +kernel)) ggX9_runText_X9_runCommand
set_option maxRecDepth 20000 in
theorem ggX9_runText_X0_accepts : GoodIn wsX9_runText wsX0_accepts := goodIn_r _ [27, 17, 28, 29, 30, 31, 32, 33, 15, 34, 35, 36, 37, 38, 39, 280, 281, 282, 283, 284] (by decide +kernel) (by decide +kernel)
set_option maxRecDepth 20000 in
theorem gX9_runText_X0_accepts : GoodIn wsX9_runText (wsV RX9 161 RX0 yX0_accepts wsX0_accepts) := goodIn_app (goodIn_of _ (by decide +kernel)) ggX9_runText_X0_accepts
theorem dX9_runText_0 : decode cX9_runText 0 = .ok (.aload_n 0, 1) := by decide +kernel
theorem dX9_runText_1 : decode cX9_runText 1 = .ok (.invokevirtual 147, 3) := by decide +kernel
theorem dX9_runText_4 : decode cX9_runText 4 = .ok (.iconst (-1), 1) := by decide +kernel
theorem dX9_runText_5 : decode cX9_runText 5 = .ok (.if_icmp .eq 13, 3) := by decide +kernel
theorem dX9_runText_8 : decode cX9_runText 8 = .ok (.new 132, 3) := by decide +kernel
theorem dX9_runText_11 : decode cX9_runText 11 = .ok (.dup, 1) := by decide +kernel
theorem dX9_runText_12 : decode cX9_runText 12 = .ok (.ldc 150, 2) := by decide +kernel
theorem dX9_runText_14 : decode cX9_runText 14 = .ok (.invokespecial 136, 3) := by decide +kernel
theorem dX9_runText_17 : decode cX9_runText 17 = .ok (.athrow, 1) := by decide +kernel
theorem dX9_runText_18 : decode cX9_runText 18 = .ok (.aload_n 0, 1) := by decide +kernel
theorem dX9_runText_19 : decode cX9_runText 19 = .ok (.getfield 22, 3) := by decide +kernel
theorem dX9_runText_22 : decode cX9_runText 22 = .ok (.aload_n 0, 1) := by decide +kernel
theorem dX9_runText_23 : decode cX9_runText 23 = .ok (.getfield 12, 3) := by decide +kernel
theorem dX9_runText_26 : decode cX9_runText 26 = .ok (.invokevirtual 72, 3) := by decide +kernel
theorem dX9_runText_29 : decode cX9_runText 29 = .ok (.iconst 0, 1) := by decide +kernel
theorem dX9_runText_30 : decode cX9_runText 30 = .ok (.istore_n 1, 1) := by decide +kernel
theorem dX9_runText_31 : decode cX9_runText 31 = .ok (.aload_n 0, 1) := by decide +kernel
theorem dX9_runText_32 : decode cX9_runText 32 = .ok (.getfield 57, 3) := by decide +kernel
theorem dX9_runText_35 : decode cX9_runText 35 = .ok (.invokevirtual 152, 3) := by decide +kernel
theorem dX9_runText_38 : decode cX9_runText 38 = .ok (.iconst 0, 1) := by decide +kernel
theorem dX9_runText_39 : decode cX9_runText 39 = .ok (.istore_n 2, 1) := by decide +kernel
theorem dX9_runText_40 : decode cX9_runText 40 = .ok (.iload_n 2, 1) := by decide +kernel
theorem dX9_runText_41 : decode cX9_runText 41 = .ok (.aload_n 0, 1) := by decide +kernel
theorem dX9_runText_42 : decode cX9_runText 42 = .ok (.getfield 50, 3) := by decide +kernel
theorem dX9_runText_45 : decode cX9_runText 45 = .ok (.getfield 140, 3) := by decide +kernel
theorem dX9_runText_48 : decode cX9_runText 48 = .ok (.if_icmp .ge 40, 3) := by decide +kernel
theorem dX9_runText_51 : decode cX9_runText 51 = .ok (.aload_n 0, 1) := by decide +kernel
theorem dX9_runText_52 : decode cX9_runText 52 = .ok (.getfield 50, 3) := by decide +kernel
theorem dX9_runText_55 : decode cX9_runText 55 = .ok (.iload_n 2, 1) := by decide +kernel
theorem dX9_runText_56 : decode cX9_runText 56 = .ok (.invokevirtual 155, 3) := by decide +kernel
theorem dX9_runText_59 : decode cX9_runText 59 = .ok (.istore_n 3, 1) := by decide +kernel
theorem dX9_runText_60 : decode cX9_runText 60 = .ok (.iload_n 3, 1) := by decide +kernel
theorem dX9_runText_61 : decode cX9_runText 61 = .ok (.bipush 59, 2) := by decide +kernel
theorem dX9_runText_63 : decode cX9_runText 63 = .ok (.if_icmp .ne 10, 3) := by decide +kernel
theorem dX9_runText_66 : decode cX9_runText 66 = .ok (.iload_n 1, 1) := by decide +kernel
theorem dX9_runText_67 : decode cX9_runText 67 = .ok (.aload_n 0, 1) := by decide +kernel
theorem dX9_runText_68 : decode cX9_runText 68 = .ok (.invokevirtual 158, 3) := by decide +kernel
theorem dX9_runText_71 : decode cX9_runText 71 = .ok (.iadd, 1) := by decide +kernel
theorem dX9_runText_72 : decode cX9_runText 72 = .ok (.istore_n 1, 1) := by decide +kernel
theorem dX9_runText_73 : decode cX9_runText 73 = .ok (.aload_n 0, 1) := by decide +kernel
theorem dX9_runText_74 : decode cX9_runText 74 = .ok (.getfield 57, 3) := by decide +kernel
theorem dX9_runText_77 : decode cX9_runText 77 = .ok (.iload_n 3, 1) := by decide +kernel
theorem dX9_runText_78 : decode cX9_runText 78 = .ok (.invokevirtual 161, 3) := by decide +kernel
theorem dX9_runText_81 : decode cX9_runText 81 = .ok (.pop, 1) := by decide +kernel
theorem dX9_runText_82 : decode cX9_runText 82 = .ok (.iinc 2 1, 3) := by decide +kernel
theorem dX9_runText_85 : decode cX9_runText 85 = .ok (.goto (-45), 3) := by decide +kernel
theorem dX9_runText_88 : decode cX9_runText 88 = .ok (.iload_n 1, 1) := by decide +kernel
theorem dX9_runText_89 : decode cX9_runText 89 = .ok (.aload_n 0, 1) := by decide +kernel
theorem dX9_runText_90 : decode cX9_runText 90 = .ok (.invokevirtual 158, 3) := by decide +kernel
theorem dX9_runText_93 : decode cX9_runText 93 = .ok (.iadd, 1) := by decide +kernel
theorem dX9_runText_94 : decode cX9_runText 94 = .ok (.ireturn, 1) := by decide +kernel
set_option maxRecDepth 20000 in
theorem ggX9_undo_X2_restore : GoodIn wsX9_undo wsX2_restore := goodIn_r _ [9, 10, 11, 12, 13, 14, 15, 16, 17, 18, 19, 20, 21, 22, 23, 24, 25, 26, 27, 28, 29, 30, 31, 32, 33, 34, 35, 36, 37, 38, 39, 40, 41, 42, 43, 44, 53, 54, 55, 56, 57, 58, 59, 60, 61, 62, 63, 64, 65, 66, 67] (by decide +kernel) (by decide +kernel)
set_option maxRecDepth 20000 in
theorem gX9_undo_X2_restore : GoodIn wsX9_undo (wsV RX9 170 RX2 yX2_restore wsX2_restore) := goodIn_app (goodIn_of _ (by decide +kernel)) ggX9_undo_X2_restore
theorem dX9_undo_0 : decode cX9_undo 0 = .ok (.aload_n 0, 1) := by decide +kernel
theorem dX9_undo_1 : decode cX9_undo 1 = .ok (.getfield 22, 3) := by decide +kernel
theorem dX9_undo_4 : decode cX9_undo 4 = .ok (.getfield 165, 3) := by decide +kernel
theorem dX9_undo_7 : decode cX9_undo 7 = .ok (.ifCond .ne 13, 3) := by decide +kernel
theorem dX9_undo_10 : decode cX9_undo 10 = .ok (.new 132, 3) := by decide +kernel
theorem dX9_undo_13 : decode cX9_undo 13 = .ok (.dup, 1) := by decide +kernel
theorem dX9_undo_14 : decode cX9_undo 14 = .ok (.ldc 168, 2) := by decide +kernel
theorem dX9_undo_16 : decode cX9_undo 16 = .ok (.invokespecial 136, 3) := by decide +kernel
theorem dX9_undo_19 : decode cX9_undo 19 = .ok (.athrow, 1) := by decide +kernel
theorem dX9_undo_20 : decode cX9_undo 20 = .ok (.aload_n 0, 1) := by decide +kernel
theorem dX9_undo_21 : decode cX9_undo 21 = .ok (.getfield 22, 3) := by decide +kernel
theorem dX9_undo_24 : decode cX9_undo 24 = .ok (.aload_n 0, 1) := by decide +kernel
theorem dX9_undo_25 : decode cX9_undo 25 = .ok (.getfield 12, 3) := by decide +kernel
theorem dX9_undo_28 : decode cX9_undo 28 = .ok (.invokevirtual 170, 3) := by decide +kernel
theorem dX9_undo_31 : decode cX9_undo 31 = .ok (.aload_n 0, 1) := by decide +kernel
theorem dX9_undo_32 : decode cX9_undo 32 = .ok (.getfield 22, 3) := by decide +kernel
theorem dX9_undo_35 : decode cX9_undo 35 = .ok (.getfield 165, 3) := by decide +kernel
theorem dX9_undo_38 : decode cX9_undo 38 = .ok (.ireturn, 1) := by decide +kernel
set_option maxRecDepth 20000 in
theorem ggX9_raw_X9_requireCell : GoodIn wsX9_raw wsX9_requireCell := goodIn_ca (goodIn_r _ [5, 6, 7, 8, 9, 4, 10] (by decide +kernel) (by decide +kernel)) (goodIn_sub (fun _ h => List.mem_cons_of_mem _ (List.mem_append_right _ h)) (by decide +kernel))
set_option maxRecDepth 20000 in
theorem gX9_raw_X9_requireCell : GoodIn wsX9_raw (va_wsS RX9 61 yX9_requireCell wsX9_requireCell) := goodIn_app (goodIn_of _ (by decide +kernel)) ggX9_raw_X9_requireCell
set_option maxRecDepth 20000 in
theorem ggX9_raw_X9_cellAt : GoodIn wsX9_raw wsX9_cellAt := goodIn_r _ [13] (by decide +kernel) (by decide +kernel)
set_option maxRecDepth 20000 in
theorem gX9_raw_X9_cellAt : GoodIn wsX9_raw (va_wsS RX9 80 yX9_cellAt wsX9_cellAt) := goodIn_app (goodIn_of _ (by decide +kernel)) ggX9_raw_X9_cellAt
set_option maxRecDepth 20000 in
theorem ggX9_raw_X4_rawOf : GoodIn wsX9_raw wsX4_rawOf := goodIn_r _ [18, 19, 20, 4, 21, 36, 37] (by decide +kernel) (by decide +kernel)
set_option maxRecDepth 20000 in
theorem gX9_raw_X4_rawOf : GoodIn wsX9_raw (wsV RX9 95 RX4 yX4_rawOf wsX4_rawOf) := goodIn_app (goodIn_of _ (by decide +kernel)) ggX9_raw_X4_rawOf
theorem dX9_raw_0 : decode cX9_raw 0 = .ok (.iload_n 1, 1) := by decide +kernel
theorem dX9_raw_1 : decode cX9_raw 1 = .ok (.iload_n 2, 1) := by decide +kernel
theorem dX9_raw_2 : decode cX9_raw 2 = .ok (.invokestatic 61, 3) := by decide +kernel
theorem dX9_raw_5 : decode cX9_raw 5 = .ok (.aload_n 0, 1) := by decide +kernel
theorem dX9_raw_6 : decode cX9_raw 6 = .ok (.getfield 12, 3) := by decide +kernel
theorem dX9_raw_9 : decode cX9_raw 9 = .ok (.getfield 76, 3) := by decide +kernel
theorem dX9_raw_12 : decode cX9_raw 12 = .ok (.iload_n 1, 1) := by decide +kernel
theorem dX9_raw_13 : decode cX9_raw 13 = .ok (.iload_n 2, 1) := by decide +kernel
theorem dX9_raw_14 : decode cX9_raw 14 = .ok (.invokestatic 80, 3) := by decide +kernel
theorem dX9_raw_17 : decode cX9_raw 17 = .ok (.invokevirtual 95, 3) := by decide +kernel
theorem dX9_raw_20 : decode cX9_raw 20 = .ok (.ireturn, 1) := by decide +kernel
set_option maxRecDepth 20000 in
theorem ggX9_signal_X9_requireCell : GoodIn wsX9_signal wsX9_requireCell := goodIn_ca (goodIn_r _ [5, 6, 7, 8, 9, 4, 10] (by decide +kernel) (by decide +kernel)) (goodIn_sub (fun _ h => List.mem_cons_of_mem _ (List.mem_append_right _ h)) (by decide +kernel))
set_option maxRecDepth 20000 in
theorem gX9_signal_X9_requireCell : GoodIn wsX9_signal (va_wsS RX9 61 yX9_requireCell wsX9_requireCell) := goodIn_app (goodIn_of _ (by decide +kernel)) ggX9_signal_X9_requireCell
set_option maxRecDepth 20000 in
theorem ggX9_signal_X9_cellAt : GoodIn wsX9_signal wsX9_cellAt := goodIn_r _ [13] (by decide +kernel) (by decide +kernel)
set_option maxRecDepth 20000 in
theorem gX9_signal_X9_cellAt : GoodIn wsX9_signal (va_wsS RX9 80 yX9_cellAt wsX9_cellAt) := goodIn_app (goodIn_of _ (by decide +kernel)) ggX9_signal_X9_cellAt
set_option maxRecDepth 20000 in
theorem ggX9_signal_X4_signalOf : GoodIn wsX9_signal wsX4_signalOf := goodIn_r _ [18, 19, 20, 35, 36] (by decide +kernel) (by decide +kernel)
set_option maxRecDepth 20000 in
theorem gX9_signal_X4_signalOf : GoodIn wsX9_signal (wsV RX9 173 RX4 yX4_signalOf wsX4_signalOf) := goodIn_app (goodIn_of _ (by decide +kernel)) ggX9_signal_X4_signalOf
theorem dX9_signal_0 : decode cX9_signal 0 = .ok (.iload_n 1, 1) := by decide +kernel
theorem dX9_signal_1 : decode cX9_signal 1 = .ok (.iload_n 2, 1) := by decide +kernel
theorem dX9_signal_2 : decode cX9_signal 2 = .ok (.invokestatic 61, 3) := by decide +kernel
theorem dX9_signal_5 : decode cX9_signal 5 = .ok (.aload_n 0, 1) := by decide +kernel
theorem dX9_signal_6 : decode cX9_signal 6 = .ok (.getfield 12, 3) := by decide +kernel
theorem dX9_signal_9 : decode cX9_signal 9 = .ok (.getfield 76, 3) := by decide +kernel
theorem dX9_signal_12 : decode cX9_signal 12 = .ok (.iload_n 1, 1) := by decide +kernel
theorem dX9_signal_13 : decode cX9_signal 13 = .ok (.iload_n 2, 1) := by decide +kernel
theorem dX9_signal_14 : decode cX9_signal 14 = .ok (.invokestatic 80, 3) := by decide +kernel
theorem dX9_signal_17 : decode cX9_signal 17 = .ok (.invokevirtual 173, 3) := by decide +kernel
theorem dX9_signal_20 : decode cX9_signal 20 = .ok (.ireturn, 1) := by decide +kernel
set_option maxRecDepth 20000 in
theorem ggX9_regionSize_X9_requireCell : GoodIn wsX9_regionSize wsX9_requireCell := goodIn_ca (goodIn_r _ [6, 7, 8, 9, 10, 5, 11] (by decide +kernel) (by decide +kernel)) (goodIn_sub (fun _ h => List.mem_cons_of_mem _ (List.mem_append_right _ h)) (by decide +kernel))
set_option maxRecDepth 20000 in
theorem gX9_regionSize_X9_requireCell : GoodIn wsX9_regionSize (va_wsS RX9 61 yX9_requireCell wsX9_requireCell) := goodIn_app (goodIn_of _ (by decide +kernel)) ggX9_regionSize_X9_requireCell
set_option maxRecDepth 20000 in
theorem ggX9_regionSize_X5_find : GoodIn wsX9_regionSize wsX5_find := goodIn_r _ [16, 17, 18, 19, 20, 21, 22, 23, 24, 25, 26, 27, 28, 29, 15, 30, 31, 32, 33, 34, 35, 5, 36, 37, 38, 39, 40, 41, 42, 58, 59, 60, 61, 62, 63, 64, 65, 66, 67, 68, 69, 70] (by decide +kernel) (by decide +kernel)
set_option maxRecDepth 20000 in
theorem gX9_regionSize_X5_find : GoodIn wsX9_regionSize (wsV RX9 176 RX5 yX5_find wsX5_find) := goodIn_app (goodIn_of _ (by decide +kernel)) ggX9_regionSize_X5_find
set_option maxRecDepth 20000 in
theorem ggX9_regionSize_X9_cellAt : GoodIn wsX9_regionSize wsX9_cellAt := goodIn_r _ [45] (by decide +kernel) (by decide +kernel)
set_option maxRecDepth 20000 in
theorem gX9_regionSize_X9_cellAt : GoodIn wsX9_regionSize (va_wsS RX9 80 yX9_cellAt wsX9_cellAt) := goodIn_app (goodIn_of _ (by decide +kernel)) ggX9_regionSize_X9_cellAt
set_option maxRecDepth 20000 in
theorem ggX9_regionSize_X5_sizeAround : GoodIn wsX9_regionSize wsX5_sizeAround := goodIn_r _ [49, 19, 41, 35, 5, 36, 64, 65, 66, 67, 68] (by decide +kernel) (by decide +kernel)
set_option maxRecDepth 20000 in
theorem gX9_regionSize_X5_sizeAround : GoodIn wsX9_regionSize (wsV RX9 179 RX5 yX5_sizeAround wsX5_sizeAround) := goodIn_app (goodIn_of _ (by decide +kernel)) ggX9_regionSize_X5_sizeAround
theorem dX9_regionSize_0 : decode cX9_regionSize 0 = .ok (.iload_n 1, 1) := by decide +kernel
theorem dX9_regionSize_1 : decode cX9_regionSize 1 = .ok (.iload_n 2, 1) := by decide +kernel
theorem dX9_regionSize_2 : decode cX9_regionSize 2 = .ok (.invokestatic 61, 3) := by decide +kernel
theorem dX9_regionSize_5 : decode cX9_regionSize 5 = .ok (.aload_n 0, 1) := by decide +kernel
theorem dX9_regionSize_6 : decode cX9_regionSize 6 = .ok (.getfield 29, 3) := by decide +kernel
theorem dX9_regionSize_9 : decode cX9_regionSize 9 = .ok (.aload_n 0, 1) := by decide +kernel
theorem dX9_regionSize_10 : decode cX9_regionSize 10 = .ok (.getfield 12, 3) := by decide +kernel
theorem dX9_regionSize_13 : decode cX9_regionSize 13 = .ok (.invokevirtual 176, 3) := by decide +kernel
theorem dX9_regionSize_16 : decode cX9_regionSize 16 = .ok (.aload_n 0, 1) := by decide +kernel
theorem dX9_regionSize_17 : decode cX9_regionSize 17 = .ok (.getfield 29, 3) := by decide +kernel
theorem dX9_regionSize_20 : decode cX9_regionSize 20 = .ok (.iload_n 1, 1) := by decide +kernel
theorem dX9_regionSize_21 : decode cX9_regionSize 21 = .ok (.iload_n 2, 1) := by decide +kernel
theorem dX9_regionSize_22 : decode cX9_regionSize 22 = .ok (.invokestatic 80, 3) := by decide +kernel
theorem dX9_regionSize_25 : decode cX9_regionSize 25 = .ok (.invokevirtual 179, 3) := by decide +kernel
theorem dX9_regionSize_28 : decode cX9_regionSize 28 = .ok (.ireturn, 1) := by decide +kernel
set_option maxRecDepth 20000 in
theorem ggX9_regionKind_X9_requireCell : GoodIn wsX9_regionKind wsX9_requireCell := goodIn_ca (goodIn_r _ [6, 7, 8, 9, 10, 5, 11] (by decide +kernel) (by decide +kernel)) (goodIn_sub (fun _ h => List.mem_cons_of_mem _ (List.mem_append_right _ h)) (by decide +kernel))
set_option maxRecDepth 20000 in
theorem gX9_regionKind_X9_requireCell : GoodIn wsX9_regionKind (va_wsS RX9 61 yX9_requireCell wsX9_requireCell) := goodIn_app (goodIn_of _ (by decide +kernel)) ggX9_regionKind_X9_requireCell
set_option maxRecDepth 20000 in
theorem ggX9_regionKind_X5_find : GoodIn wsX9_regionKind wsX5_find := goodIn_r _ [16, 17, 18, 19, 20, 21, 22, 23, 24, 25, 26, 27, 28, 29, 15, 30, 31, 32, 33, 34, 35, 5, 36, 37, 38, 39, 40, 41, 42, 58, 59, 60, 61, 62, 63, 64, 65, 66, 67, 68, 69, 70] (by decide +kernel) (by decide +kernel)
set_option maxRecDepth 20000 in
theorem gX9_regionKind_X5_find : GoodIn wsX9_regionKind (wsV RX9 176 RX5 yX5_find wsX5_find) := goodIn_app (goodIn_of _ (by decide +kernel)) ggX9_regionKind_X5_find
set_option maxRecDepth 20000 in
theorem ggX9_regionKind_X9_cellAt : GoodIn wsX9_regionKind wsX9_cellAt := goodIn_r _ [45] (by decide +kernel) (by decide +kernel)
set_option maxRecDepth 20000 in
theorem gX9_regionKind_X9_cellAt : GoodIn wsX9_regionKind (va_wsS RX9 80 yX9_cellAt wsX9_cellAt) := goodIn_app (goodIn_of _ (by decide +kernel)) ggX9_regionKind_X9_cellAt
set_option maxRecDepth 20000 in
theorem ggX9_regionKind_X5_kindAround : GoodIn wsX9_regionKind wsX5_kindAround := goodIn_r _ [49, 19, 41, 17, 42, 18, 35, 5, 36, 64, 65, 66, 67, 68] (by decide +kernel) (by decide +kernel)
set_option maxRecDepth 20000 in
theorem gX9_regionKind_X5_kindAround : GoodIn wsX9_regionKind (wsV RX9 182 RX5 yX5_kindAround wsX5_kindAround) := goodIn_app (goodIn_of _ (by decide +kernel)) ggX9_regionKind_X5_kindAround
theorem dX9_regionKind_0 : decode cX9_regionKind 0 = .ok (.iload_n 1, 1) := by decide +kernel
theorem dX9_regionKind_1 : decode cX9_regionKind 1 = .ok (.iload_n 2, 1) := by decide +kernel
theorem dX9_regionKind_2 : decode cX9_regionKind 2 = .ok (.invokestatic 61, 3) := by decide +kernel
theorem dX9_regionKind_5 : decode cX9_regionKind 5 = .ok (.aload_n 0, 1) := by decide +kernel
theorem dX9_regionKind_6 : decode cX9_regionKind 6 = .ok (.getfield 29, 3) := by decide +kernel
theorem dX9_regionKind_9 : decode cX9_regionKind 9 = .ok (.aload_n 0, 1) := by decide +kernel
theorem dX9_regionKind_10 : decode cX9_regionKind 10 = .ok (.getfield 12, 3) := by decide +kernel
theorem dX9_regionKind_13 : decode cX9_regionKind 13 = .ok (.invokevirtual 176, 3) := by decide +kernel
theorem dX9_regionKind_16 : decode cX9_regionKind 16 = .ok (.aload_n 0, 1) := by decide +kernel
theorem dX9_regionKind_17 : decode cX9_regionKind 17 = .ok (.getfield 29, 3) := by decide +kernel
theorem dX9_regionKind_20 : decode cX9_regionKind 20 = .ok (.iload_n 1, 1) := by decide +kernel
theorem dX9_regionKind_21 : decode cX9_regionKind 21 = .ok (.iload_n 2, 1) := by decide +kernel
theorem dX9_regionKind_22 : decode cX9_regionKind 22 = .ok (.invokestatic 80, 3) := by decide +kernel
theorem dX9_regionKind_25 : decode cX9_regionKind 25 = .ok (.invokevirtual 182, 3) := by decide +kernel
theorem dX9_regionKind_28 : decode cX9_regionKind 28 = .ok (.ireturn, 1) := by decide +kernel
set_option maxRecDepth 20000 in
theorem ggX9_regions_X5_find : GoodIn wsX9_regions wsX5_find := goodIn_r _ [9, 10, 11, 12, 13, 14, 15, 16, 17, 18, 19, 20, 21, 22, 8, 23, 24, 25, 26, 27, 28, 29, 30, 31, 32, 33, 34, 35, 36, 53, 54, 55, 56, 57, 58, 59, 60, 61, 62, 63, 64, 65] (by decide +kernel) (by decide +kernel)
set_option maxRecDepth 20000 in
theorem gX9_regions_X5_find : GoodIn wsX9_regions (wsV RX9 176 RX5 yX5_find wsX5_find) := goodIn_app (goodIn_of _ (by decide +kernel)) ggX9_regions_X5_find
set_option maxRecDepth 20000 in
theorem ggX9_regions_X5_countOf : GoodIn wsX9_regions wsX5_countOf := goodIn_r _ [40, 12, 41, 42, 43, 8, 44, 35, 10, 36, 11, 28, 29, 30, 59, 60, 61, 62, 63] (by decide +kernel) (by decide +kernel)
set_option maxRecDepth 20000 in
theorem gX9_regions_X5_countOf : GoodIn wsX9_regions (wsV RX9 187 RX5 yX5_countOf wsX5_countOf) := goodIn_app (goodIn_of _ (by decide +kernel)) ggX9_regions_X5_countOf
theorem dX9_regions_0 : decode cX9_regions 0 = .ok (.iload_n 1, 1) := by decide +kernel
theorem dX9_regions_1 : decode cX9_regions 1 = .ok (.ifCond .lt 8, 3) := by decide +kernel
theorem dX9_regions_4 : decode cX9_regions 4 = .ok (.iload_n 1, 1) := by decide +kernel
theorem dX9_regions_5 : decode cX9_regions 5 = .ok (.iconst 2, 1) := by decide +kernel
theorem dX9_regions_6 : decode cX9_regions 6 = .ok (.if_icmp .le 13, 3) := by decide +kernel
theorem dX9_regions_9 : decode cX9_regions 9 = .ok (.new 65, 3) := by decide +kernel
theorem dX9_regions_12 : decode cX9_regions 12 = .ok (.dup, 1) := by decide +kernel
theorem dX9_regions_13 : decode cX9_regions 13 = .ok (.ldc 185, 2) := by decide +kernel
theorem dX9_regions_15 : decode cX9_regions 15 = .ok (.invokespecial 69, 3) := by decide +kernel
theorem dX9_regions_18 : decode cX9_regions 18 = .ok (.athrow, 1) := by decide +kernel
theorem dX9_regions_19 : decode cX9_regions 19 = .ok (.aload_n 0, 1) := by decide +kernel
theorem dX9_regions_20 : decode cX9_regions 20 = .ok (.getfield 29, 3) := by decide +kernel
theorem dX9_regions_23 : decode cX9_regions 23 = .ok (.aload_n 0, 1) := by decide +kernel
theorem dX9_regions_24 : decode cX9_regions 24 = .ok (.getfield 12, 3) := by decide +kernel
theorem dX9_regions_27 : decode cX9_regions 27 = .ok (.invokevirtual 176, 3) := by decide +kernel
theorem dX9_regions_30 : decode cX9_regions 30 = .ok (.aload_n 0, 1) := by decide +kernel
theorem dX9_regions_31 : decode cX9_regions 31 = .ok (.getfield 29, 3) := by decide +kernel
theorem dX9_regions_34 : decode cX9_regions 34 = .ok (.iload_n 1, 1) := by decide +kernel
theorem dX9_regions_35 : decode cX9_regions 35 = .ok (.invokevirtual 187, 3) := by decide +kernel
theorem dX9_regions_38 : decode cX9_regions 38 = .ok (.ireturn, 1) := by decide +kernel
set_option maxRecDepth 20000 in
theorem ggX9_setting_X9_requireSetting : GoodIn wsX9_setting wsX9_requireSetting := goodIn_ca (goodIn_r _ [5, 6, 7] (by decide +kernel) (by decide +kernel)) (goodIn_sub (fun _ h => List.mem_cons_of_mem _ (List.mem_append_right _ h)) (by decide +kernel))
set_option maxRecDepth 20000 in
theorem gX9_setting_X9_requireSetting : GoodIn wsX9_setting (va_wsS RX9 106 yX9_requireSetting wsX9_requireSetting) := goodIn_app (goodIn_of _ (by decide +kernel)) ggX9_setting_X9_requireSetting
theorem dX9_setting_0 : decode cX9_setting 0 = .ok (.iload_n 1, 1) := by decide +kernel
theorem dX9_setting_1 : decode cX9_setting 1 = .ok (.invokestatic 106, 3) := by decide +kernel
theorem dX9_setting_4 : decode cX9_setting 4 = .ok (.aload_n 0, 1) := by decide +kernel
theorem dX9_setting_5 : decode cX9_setting 5 = .ok (.getfield 12, 3) := by decide +kernel
theorem dX9_setting_8 : decode cX9_setting 8 = .ok (.getfield 119, 3) := by decide +kernel
theorem dX9_setting_11 : decode cX9_setting 11 = .ok (.iload_n 1, 1) := by decide +kernel
theorem dX9_setting_12 : decode cX9_setting 12 = .ok (.iaload, 1) := by decide +kernel
theorem dX9_setting_13 : decode cX9_setting 13 = .ok (.ireturn, 1) := by decide +kernel
set_option maxRecDepth 20000 in
theorem ggX9_contacts_X9_findContacts : GoodIn wsX9_contacts wsX9_findContacts := goodIn_r _ [6, 7, 8, 1, 9, 10, 11, 12, 13, 14, 15, 16, 17, 18, 19, 20, 21, 22, 23, 24, 25, 26, 27, 28, 29, 30, 31, 32, 5, 33, 34, 35, 36, 37, 38, 39, 40, 41, 42, 43, 44, 45, 46, 47, 48, 49, 50, 51, 52, 53, 54, 55, 56, 57, 58, 59, 60, 61, 62, 63, 64, 65, 66, 67, 68, 69, 70, 71, 72, 73, 74, 75, 76, 77, 78, 79, 80, 81, 82, 83, 84, 85, 86, 93, 94, 95, 96, 97, 98, 99, 100, 101, 102, 103, 104, 105, 87, 88, 89, 90, 91, 92] (by decide +kernel) (by decide +kernel)
set_option maxRecDepth 20000 in
theorem gX9_contacts_X9_findContacts : GoodIn wsX9_contacts (wsV RX9 190 RX9 yX9_findContacts wsX9_findContacts) := goodIn_app (goodIn_of _ (by decide +kernel)) ggX9_contacts_X9_findContacts
theorem dX9_contacts_0 : decode cX9_contacts 0 = .ok (.aload_n 0, 1) := by decide +kernel
theorem dX9_contacts_1 : decode cX9_contacts 1 = .ok (.invokevirtual 190, 3) := by decide +kernel
theorem dX9_contacts_4 : decode cX9_contacts 4 = .ok (.aload_n 0, 1) := by decide +kernel
theorem dX9_contacts_5 : decode cX9_contacts 5 = .ok (.getfield 36, 3) := by decide +kernel
theorem dX9_contacts_8 : decode cX9_contacts 8 = .ok (.getfield 193, 3) := by decide +kernel
theorem dX9_contacts_11 : decode cX9_contacts 11 = .ok (.ireturn, 1) := by decide +kernel
set_option maxRecDepth 20000 in
theorem ggX9_contact_X9_requireContactNumber : GoodIn wsX9_contact wsX9_requireContactNumber := goodIn_ca (goodIn_r _ [5, 6, 7] (by decide +kernel) (by decide +kernel)) (goodIn_sub (fun _ h => List.mem_cons_of_mem _ (List.mem_append_left _ (List.mem_append_right _ h))) (by decide +kernel))
set_option maxRecDepth 20000 in
theorem gX9_contact_X9_requireContactNumber : GoodIn wsX9_contact (va_wsS RX9 194 yX9_requireContactNumber wsX9_requireContactNumber) := goodIn_app (goodIn_of _ (by decide +kernel)) ggX9_contact_X9_requireContactNumber
set_option maxRecDepth 20000 in
theorem ggX9_contact_X9_requirePart : GoodIn wsX9_contact wsX9_requirePart := goodIn_ca (goodIn_r _ [10, 11, 12] (by decide +kernel) (by decide +kernel)) (goodIn_sub (fun _ h => List.mem_cons_of_mem _ (List.mem_append_right _ h)) (by decide +kernel))
set_option maxRecDepth 20000 in
theorem gX9_contact_X9_requirePart : GoodIn wsX9_contact (va_wsS RX9 197 yX9_requirePart wsX9_requirePart) := goodIn_app (goodIn_of _ (by decide +kernel)) ggX9_contact_X9_requirePart
set_option maxRecDepth 20000 in
theorem ggX9_contact_X9_findContacts : GoodIn wsX9_contact wsX9_findContacts := goodIn_r _ [16, 17, 18, 1, 19, 20, 21, 22, 23, 24, 25, 26, 27, 28, 29, 30, 31, 32, 33, 34, 35, 36, 37, 38, 39, 40, 41, 42, 4, 43, 44, 45, 46, 47, 48, 49, 50, 51, 52, 53, 54, 55, 56, 57, 58, 59, 60, 61, 62, 63, 64, 65, 66, 67, 68, 69, 70, 71, 72, 73, 74, 75, 76, 77, 78, 79, 80, 81, 82, 83, 84, 85, 86, 87, 88, 97, 98, 99, 100, 101, 102, 103, 104, 105, 106, 107, 108, 109, 110, 111, 112, 113, 114, 115, 116, 117, 118, 119, 120, 121, 122, 123] (by decide +kernel) (by decide +kernel)
set_option maxRecDepth 20000 in
theorem gX9_contact_X9_findContacts : GoodIn wsX9_contact (wsV RX9 190 RX9 yX9_findContacts wsX9_findContacts) := goodIn_app (goodIn_of _ (by decide +kernel)) ggX9_contact_X9_findContacts
set_option maxRecDepth 20000 in
theorem ggX9_contact_X1_partOf : GoodIn wsX9_contact wsX1_partOf := goodIn_r _ [92, 85, 86, 87, 88, 93, 94, 95, 53, 96, 56, 118, 119, 120, 121, 122, 123] (by decide +kernel) (by decide +kernel)
set_option maxRecDepth 20000 in
theorem gX9_contact_X1_partOf : GoodIn wsX9_contact (wsV RX9 200 RX1 yX1_partOf wsX1_partOf) := goodIn_app (goodIn_of _ (by decide +kernel)) ggX9_contact_X1_partOf
theorem dX9_contact_0 : decode cX9_contact 0 = .ok (.iload_n 1, 1) := by decide +kernel
theorem dX9_contact_1 : decode cX9_contact 1 = .ok (.invokestatic 194, 3) := by decide +kernel
theorem dX9_contact_4 : decode cX9_contact 4 = .ok (.iload_n 2, 1) := by decide +kernel
theorem dX9_contact_5 : decode cX9_contact 5 = .ok (.invokestatic 197, 3) := by decide +kernel
theorem dX9_contact_8 : decode cX9_contact 8 = .ok (.aload_n 0, 1) := by decide +kernel
theorem dX9_contact_9 : decode cX9_contact 9 = .ok (.invokevirtual 190, 3) := by decide +kernel
theorem dX9_contact_12 : decode cX9_contact 12 = .ok (.aload_n 0, 1) := by decide +kernel
theorem dX9_contact_13 : decode cX9_contact 13 = .ok (.getfield 36, 3) := by decide +kernel
theorem dX9_contact_16 : decode cX9_contact 16 = .ok (.iload_n 1, 1) := by decide +kernel
theorem dX9_contact_17 : decode cX9_contact 17 = .ok (.iload_n 2, 1) := by decide +kernel
theorem dX9_contact_18 : decode cX9_contact 18 = .ok (.invokevirtual 200, 3) := by decide +kernel
theorem dX9_contact_21 : decode cX9_contact 21 = .ok (.ireturn, 1) := by decide +kernel
set_option maxRecDepth 20000 in
theorem ggX9_isDown_X9_requireTrack : GoodIn wsX9_isDown wsX9_requireTrack := goodIn_ca (goodIn_r _ [5, 6, 7] (by decide +kernel) (by decide +kernel)) (goodIn_sub (fun _ h => List.mem_cons_of_mem _ (List.mem_append_right _ h)) (by decide +kernel))
set_option maxRecDepth 20000 in
theorem gX9_isDown_X9_requireTrack : GoodIn wsX9_isDown (va_wsS RX9 203 yX9_requireTrack wsX9_requireTrack) := goodIn_app (goodIn_of _ (by decide +kernel)) ggX9_isDown_X9_requireTrack
theorem dX9_isDown_0 : decode cX9_isDown 0 = .ok (.iload_n 1, 1) := by decide +kernel
theorem dX9_isDown_1 : decode cX9_isDown 1 = .ok (.invokestatic 203, 3) := by decide +kernel
theorem dX9_isDown_4 : decode cX9_isDown 4 = .ok (.aload_n 0, 1) := by decide +kernel
theorem dX9_isDown_5 : decode cX9_isDown 5 = .ok (.getfield 12, 3) := by decide +kernel
theorem dX9_isDown_8 : decode cX9_isDown 8 = .ok (.getfield 206, 3) := by decide +kernel
theorem dX9_isDown_11 : decode cX9_isDown 11 = .ok (.iload_n 1, 1) := by decide +kernel
theorem dX9_isDown_12 : decode cX9_isDown 12 = .ok (.aaload, 1) := by decide +kernel
theorem dX9_isDown_13 : decode cX9_isDown 13 = .ok (.getfield 210, 3) := by decide +kernel
theorem dX9_isDown_16 : decode cX9_isDown 16 = .ok (.ireturn, 1) := by decide +kernel
set_option maxRecDepth 20000 in
theorem ggX9_track_X9_requireTrack : GoodIn wsX9_track wsX9_requireTrack := goodIn_ca (goodIn_r _ [5, 6, 7] (by decide +kernel) (by decide +kernel)) (goodIn_sub (fun _ h => List.mem_cons_of_mem _ (List.mem_append_left _ (List.mem_append_right _ h))) (by decide +kernel))
set_option maxRecDepth 20000 in
theorem gX9_track_X9_requireTrack : GoodIn wsX9_track (va_wsS RX9 203 yX9_requireTrack wsX9_requireTrack) := goodIn_app (goodIn_of _ (by decide +kernel)) ggX9_track_X9_requireTrack
set_option maxRecDepth 20000 in
theorem ggX9_track_X9_requirePart : GoodIn wsX9_track wsX9_requirePart := goodIn_ca (goodIn_r _ [10, 11, 12] (by decide +kernel) (by decide +kernel)) (goodIn_sub (fun _ h => List.mem_cons_of_mem _ (List.mem_append_right _ h)) (by decide +kernel))
set_option maxRecDepth 20000 in
theorem gX9_track_X9_requirePart : GoodIn wsX9_track (va_wsS RX9 197 yX9_requirePart wsX9_requirePart) := goodIn_app (goodIn_of _ (by decide +kernel)) ggX9_track_X9_requirePart
set_option maxRecDepth 20000 in
theorem ggX9_track_X8_partOf : GoodIn wsX9_track wsX8_partOf := goodIn_r _ [17, 18, 19, 20, 21, 22, 37, 38, 39, 40, 41] (by decide +kernel) (by decide +kernel)
set_option maxRecDepth 20000 in
theorem gX9_track_X8_partOf : GoodIn wsX9_track (wsV RX9 216 RX8 yX8_partOf wsX8_partOf) := goodIn_app (goodIn_of _ (by decide +kernel)) ggX9_track_X8_partOf
theorem dX9_track_0 : decode cX9_track 0 = .ok (.iload_n 1, 1) := by decide +kernel
theorem dX9_track_1 : decode cX9_track 1 = .ok (.invokestatic 203, 3) := by decide +kernel
theorem dX9_track_4 : decode cX9_track 4 = .ok (.iload_n 2, 1) := by decide +kernel
theorem dX9_track_5 : decode cX9_track 5 = .ok (.invokestatic 197, 3) := by decide +kernel
theorem dX9_track_8 : decode cX9_track 8 = .ok (.aload_n 0, 1) := by decide +kernel
theorem dX9_track_9 : decode cX9_track 9 = .ok (.getfield 12, 3) := by decide +kernel
theorem dX9_track_12 : decode cX9_track 12 = .ok (.getfield 206, 3) := by decide +kernel
theorem dX9_track_15 : decode cX9_track 15 = .ok (.iload_n 1, 1) := by decide +kernel
theorem dX9_track_16 : decode cX9_track 16 = .ok (.aaload, 1) := by decide +kernel
theorem dX9_track_17 : decode cX9_track 17 = .ok (.iload_n 2, 1) := by decide +kernel
theorem dX9_track_18 : decode cX9_track 18 = .ok (.invokevirtual 216, 3) := by decide +kernel
theorem dX9_track_21 : decode cX9_track 21 = .ok (.ireturn, 1) := by decide +kernel
set_option maxRecDepth 20000 in
theorem ggX9_squaredDistance_X9_requireTrack : GoodIn wsX9_squaredDistance wsX9_requireTrack := goodIn_ca (goodIn_r _ [6, 7, 8] (by decide +kernel) (by decide +kernel)) (goodIn_sub (fun _ h => List.mem_cons_of_mem _ (List.mem_append_right _ h)) (by decide +kernel))
set_option maxRecDepth 20000 in
theorem gX9_squaredDistance_X9_requireTrack : GoodIn wsX9_squaredDistance (va_wsS RX9 203 yX9_requireTrack wsX9_requireTrack) := goodIn_app (goodIn_of _ (by decide +kernel)) ggX9_squaredDistance_X9_requireTrack
set_option maxRecDepth 20000 in
theorem ggX9_squaredDistance_X9_requireContactNumber : GoodIn wsX9_squaredDistance wsX9_requireContactNumber := goodIn_ca (goodIn_r _ [11, 7, 8] (by decide +kernel) (by decide +kernel)) (goodIn_sub (fun _ h => List.mem_cons_of_mem _ (List.mem_append_right _ h)) (by decide +kernel))
set_option maxRecDepth 20000 in
theorem gX9_squaredDistance_X9_requireContactNumber : GoodIn wsX9_squaredDistance (va_wsS RX9 194 yX9_requireContactNumber wsX9_requireContactNumber) := goodIn_app (goodIn_of _ (by decide +kernel)) ggX9_squaredDistance_X9_requireContactNumber
set_option maxRecDepth 20000 in
theorem ggX9_squaredDistance_X9_findContacts : GoodIn wsX9_squaredDistance wsX9_findContacts := goodIn_r _ [15, 16, 1, 2, 17, 18, 19, 20, 21, 22, 23, 24, 25, 26, 27, 28, 29, 30, 31, 32, 33, 34, 35, 36, 37, 38, 39, 40, 5, 41, 42, 43, 44, 45, 46, 47, 48, 49, 50, 51, 52, 53, 54, 55, 56, 57, 58, 59, 60, 61, 62, 63, 64, 65, 66, 67, 68, 69, 70, 71, 72, 73, 74, 75, 76, 77, 78, 79, 80, 81, 82, 83, 84, 85, 86, 106, 107, 108, 109, 110, 111, 112, 113, 114, 115, 116, 117, 118, 119, 131, 132, 133, 134, 135, 136, 137, 125, 126, 127, 128, 129, 130] (by decide +kernel) (by decide +kernel)
set_option maxRecDepth 20000 in
theorem gX9_squaredDistance_X9_findContacts : GoodIn wsX9_squaredDistance (wsV RX9 190 RX9 yX9_findContacts wsX9_findContacts) := goodIn_app (goodIn_of _ (by decide +kernel)) ggX9_squaredDistance_X9_findContacts
set_option maxRecDepth 20000 in
theorem ggX9_squaredDistance_X1_rowOf : GoodIn wsX9_squaredDistance wsX1_rowOf := goodIn_r _ [90, 83, 91, 92, 93, 51, 94, 54, 125, 126, 127, 128, 129, 130] (by decide +kernel) (by decide +kernel)
set_option maxRecDepth 20000 in
theorem gX9_squaredDistance_X1_rowOf : GoodIn wsX9_squaredDistance (wsV RX9 218 RX1 yX1_rowOf wsX1_rowOf) := goodIn_app (goodIn_of _ (by decide +kernel)) ggX9_squaredDistance_X1_rowOf
set_option maxRecDepth 20000 in
theorem ggX9_squaredDistance_X1_columnOf : GoodIn wsX9_squaredDistance wsX1_columnOf := goodIn_r _ [98, 84, 91, 92, 93, 51, 94, 54, 125, 126, 127, 128, 129, 130] (by decide +kernel) (by decide +kernel)
set_option maxRecDepth 20000 in
theorem gX9_squaredDistance_X1_columnOf : GoodIn wsX9_squaredDistance (wsV RX9 221 RX1 yX1_columnOf wsX1_columnOf) := goodIn_app (goodIn_of _ (by decide +kernel)) ggX9_squaredDistance_X1_columnOf
set_option maxRecDepth 20000 in
theorem ggX9_squaredDistance_X8_squaredWayTo : GoodIn wsX9_squaredDistance wsX8_squaredWayTo := goodIn_r _ [103, 104, 105, 120, 121, 122, 123, 124] (by decide +kernel) (by decide +kernel)
set_option maxRecDepth 20000 in
theorem gX9_squaredDistance_X8_squaredWayTo : GoodIn wsX9_squaredDistance (wsV RX9 224 RX8 yX8_squaredWayTo wsX8_squaredWayTo) := goodIn_app (goodIn_of _ (by decide +kernel)) ggX9_squaredDistance_X8_squaredWayTo
theorem dX9_squaredDistance_0 : decode cX9_squaredDistance 0 = .ok (.iload_n 1, 1) := by decide +kernel
theorem dX9_squaredDistance_1 : decode cX9_squaredDistance 1 = .ok (.invokestatic 203, 3) := by decide +kernel
theorem dX9_squaredDistance_4 : decode cX9_squaredDistance 4 = .ok (.iload_n 2, 1) := by decide +kernel
theorem dX9_squaredDistance_5 : decode cX9_squaredDistance 5 = .ok (.invokestatic 194, 3) := by decide +kernel
theorem dX9_squaredDistance_8 : decode cX9_squaredDistance 8 = .ok (.aload_n 0, 1) := by decide +kernel
theorem dX9_squaredDistance_9 : decode cX9_squaredDistance 9 = .ok (.invokevirtual 190, 3) := by decide +kernel
theorem dX9_squaredDistance_12 : decode cX9_squaredDistance 12 = .ok (.aload_n 0, 1) := by decide +kernel
theorem dX9_squaredDistance_13 : decode cX9_squaredDistance 13 = .ok (.getfield 12, 3) := by decide +kernel
theorem dX9_squaredDistance_16 : decode cX9_squaredDistance 16 = .ok (.getfield 206, 3) := by decide +kernel
theorem dX9_squaredDistance_19 : decode cX9_squaredDistance 19 = .ok (.iload_n 1, 1) := by decide +kernel
theorem dX9_squaredDistance_20 : decode cX9_squaredDistance 20 = .ok (.aaload, 1) := by decide +kernel
theorem dX9_squaredDistance_21 : decode cX9_squaredDistance 21 = .ok (.getfield 210, 3) := by decide +kernel
theorem dX9_squaredDistance_24 : decode cX9_squaredDistance 24 = .ok (.ifCond .eq 14, 3) := by decide +kernel
theorem dX9_squaredDistance_27 : decode cX9_squaredDistance 27 = .ok (.iload_n 2, 1) := by decide +kernel
theorem dX9_squaredDistance_28 : decode cX9_squaredDistance 28 = .ok (.aload_n 0, 1) := by decide +kernel
theorem dX9_squaredDistance_29 : decode cX9_squaredDistance 29 = .ok (.getfield 36, 3) := by decide +kernel
theorem dX9_squaredDistance_32 : decode cX9_squaredDistance 32 = .ok (.getfield 193, 3) := by decide +kernel
theorem dX9_squaredDistance_35 : decode cX9_squaredDistance 35 = .ok (.if_icmp .lt 5, 3) := by decide +kernel
theorem dX9_squaredDistance_38 : decode cX9_squaredDistance 38 = .ok (.iconst (-1), 1) := by decide +kernel
theorem dX9_squaredDistance_39 : decode cX9_squaredDistance 39 = .ok (.ireturn, 1) := by decide +kernel
theorem dX9_squaredDistance_40 : decode cX9_squaredDistance 40 = .ok (.aload_n 0, 1) := by decide +kernel
theorem dX9_squaredDistance_41 : decode cX9_squaredDistance 41 = .ok (.getfield 12, 3) := by decide +kernel
theorem dX9_squaredDistance_44 : decode cX9_squaredDistance 44 = .ok (.getfield 206, 3) := by decide +kernel
theorem dX9_squaredDistance_47 : decode cX9_squaredDistance 47 = .ok (.iload_n 1, 1) := by decide +kernel
theorem dX9_squaredDistance_48 : decode cX9_squaredDistance 48 = .ok (.aaload, 1) := by decide +kernel
theorem dX9_squaredDistance_49 : decode cX9_squaredDistance 49 = .ok (.aload_n 0, 1) := by decide +kernel
theorem dX9_squaredDistance_50 : decode cX9_squaredDistance 50 = .ok (.getfield 36, 3) := by decide +kernel
theorem dX9_squaredDistance_53 : decode cX9_squaredDistance 53 = .ok (.iload_n 2, 1) := by decide +kernel
theorem dX9_squaredDistance_54 : decode cX9_squaredDistance 54 = .ok (.invokevirtual 218, 3) := by decide +kernel
theorem dX9_squaredDistance_57 : decode cX9_squaredDistance 57 = .ok (.aload_n 0, 1) := by decide +kernel
theorem dX9_squaredDistance_58 : decode cX9_squaredDistance 58 = .ok (.getfield 36, 3) := by decide +kernel
theorem dX9_squaredDistance_61 : decode cX9_squaredDistance 61 = .ok (.iload_n 2, 1) := by decide +kernel
theorem dX9_squaredDistance_62 : decode cX9_squaredDistance 62 = .ok (.invokevirtual 221, 3) := by decide +kernel
theorem dX9_squaredDistance_65 : decode cX9_squaredDistance 65 = .ok (.invokevirtual 224, 3) := by decide +kernel
theorem dX9_squaredDistance_68 : decode cX9_squaredDistance 68 = .ok (.ireturn, 1) := by decide +kernel
set_option maxRecDepth 20000 in
theorem ggX9_match_X9_requireTrack : GoodIn wsX9_match wsX9_requireTrack := goodIn_ca (goodIn_r _ [5, 6, 7] (by decide +kernel) (by decide +kernel)) (goodIn_sub (fun _ h => List.mem_cons_of_mem _ (List.mem_append_right _ h)) (by decide +kernel))
set_option maxRecDepth 20000 in
theorem gX9_match_X9_requireTrack : GoodIn wsX9_match (va_wsS RX9 203 yX9_requireTrack wsX9_requireTrack) := goodIn_app (goodIn_of _ (by decide +kernel)) ggX9_match_X9_requireTrack
set_option maxRecDepth 20000 in
theorem ggX9_match_X9_findMatching : GoodIn wsX9_match wsX9_findMatching := goodIn_r _ [11, 1, 12, 13, 14, 15, 16, 4, 17, 18, 19, 20, 21, 22, 23, 24, 25, 26, 27, 28, 29, 30, 31, 32, 33, 34, 35, 36, 37, 38, 39, 40, 41, 42, 43, 44, 45, 46, 47, 48, 49, 50, 51, 52, 53, 54, 55, 56, 57, 58, 59, 60, 61, 62, 63, 64, 65, 66, 67, 68, 69, 70, 71, 72, 73, 74, 75, 76, 77, 78, 79, 80, 81, 82, 83, 84, 85, 86, 87, 88, 89, 90, 91, 92, 93, 94, 95, 96, 97, 98, 99, 100, 101, 102, 103, 104, 105, 106, 107, 108, 109, 110, 111, 112, 113, 114, 115, 116, 117, 118, 119, 120, 121, 122, 123, 124, 125, 126, 127, 128, 129, 130, 131, 132, 133, 134, 135, 136, 137, 138, 139, 140, 141, 146, 147, 148, 149, 150, 151, 152, 153, 154, 155, 156, 157, 158, 159, 160, 161, 162, 163, 164, 165, 166, 167, 168, 169, 170, 171, 172, 173, 174, 175, 176, 177, 178, 179, 180, 181, 182, 183] (by decide +kernel) (by decide +kernel)
set_option maxRecDepth 20000 in
theorem gX9_match_X9_findMatching : GoodIn wsX9_match (wsV RX9 227 RX9 yX9_findMatching wsX9_findMatching) := goodIn_app (goodIn_of _ (by decide +kernel)) ggX9_match_X9_findMatching
set_option maxRecDepth 20000 in
theorem ggX9_match_X3_contactOf : GoodIn wsX9_match wsX3_contactOf := goodIn_r _ [145, 137, 173, 174, 175, 176, 177, 178] (by decide +kernel) (by decide +kernel)
set_option maxRecDepth 20000 in
theorem gX9_match_X3_contactOf : GoodIn wsX9_match (wsV RX9 230 RX3 yX3_contactOf wsX3_contactOf) := goodIn_app (goodIn_of _ (by decide +kernel)) ggX9_match_X3_contactOf
theorem dX9_match_0 : decode cX9_match 0 = .ok (.iload_n 1, 1) := by decide +kernel
theorem dX9_match_1 : decode cX9_match 1 = .ok (.invokestatic 203, 3) := by decide +kernel
theorem dX9_match_4 : decode cX9_match 4 = .ok (.aload_n 0, 1) := by decide +kernel
theorem dX9_match_5 : decode cX9_match 5 = .ok (.invokevirtual 227, 3) := by decide +kernel
theorem dX9_match_8 : decode cX9_match 8 = .ok (.aload_n 0, 1) := by decide +kernel
theorem dX9_match_9 : decode cX9_match 9 = .ok (.getfield 43, 3) := by decide +kernel
theorem dX9_match_12 : decode cX9_match 12 = .ok (.iload_n 1, 1) := by decide +kernel
theorem dX9_match_13 : decode cX9_match 13 = .ok (.invokevirtual 230, 3) := by decide +kernel
theorem dX9_match_16 : decode cX9_match 16 = .ok (.ireturn, 1) := by decide +kernel
set_option maxRecDepth 20000 in
theorem ggX9_matchingCost_X9_findMatching : GoodIn wsX9_matchingCost wsX9_findMatching := goodIn_r _ [6, 1, 7, 8, 9, 10, 11, 5, 12, 13, 14, 15, 16, 17, 18, 19, 20, 21, 22, 23, 24, 25, 26, 27, 28, 29, 30, 31, 32, 33, 34, 35, 36, 37, 38, 39, 40, 41, 42, 43, 44, 45, 46, 47, 48, 49, 50, 51, 52, 53, 54, 55, 56, 57, 58, 59, 60, 61, 62, 63, 64, 65, 66, 67, 68, 69, 70, 71, 72, 73, 74, 75, 76, 77, 78, 79, 80, 81, 82, 83, 84, 85, 86, 87, 88, 89, 90, 91, 92, 93, 94, 95, 96, 97, 98, 99, 100, 101, 102, 103, 104, 105, 106, 107, 108, 109, 110, 111, 112, 113, 114, 115, 116, 117, 118, 119, 120, 121, 122, 123, 124, 125, 126, 127, 128, 129, 130, 131, 132, 133, 134, 135, 136, 141, 142, 143, 144, 145, 146, 147, 148, 149, 150, 151, 152, 153, 154, 155, 156, 157, 158, 159, 160, 161, 162, 163, 164, 165, 166, 167, 168, 169, 170, 171, 172, 173, 174, 175, 176, 177, 178] (by decide +kernel) (by decide +kernel)
set_option maxRecDepth 20000 in
theorem gX9_matchingCost_X9_findMatching : GoodIn wsX9_matchingCost (wsV RX9 227 RX9 yX9_findMatching wsX9_findMatching) := goodIn_app (goodIn_of _ (by decide +kernel)) ggX9_matchingCost_X9_findMatching
set_option maxRecDepth 20000 in
theorem ggX9_matchingCost_X3_wholeCost : GoodIn wsX9_matchingCost wsX3_wholeCost := goodIn_r _ [140, 92, 168, 169, 170, 171, 172, 173] (by decide +kernel) (by decide +kernel)
set_option maxRecDepth 20000 in
theorem gX9_matchingCost_X3_wholeCost : GoodIn wsX9_matchingCost (wsV RX9 233 RX3 yX3_wholeCost wsX3_wholeCost) := goodIn_app (goodIn_of _ (by decide +kernel)) ggX9_matchingCost_X3_wholeCost
theorem dX9_matchingCost_0 : decode cX9_matchingCost 0 = .ok (.aload_n 0, 1) := by decide +kernel
theorem dX9_matchingCost_1 : decode cX9_matchingCost 1 = .ok (.invokevirtual 227, 3) := by decide +kernel
theorem dX9_matchingCost_4 : decode cX9_matchingCost 4 = .ok (.aload_n 0, 1) := by decide +kernel
theorem dX9_matchingCost_5 : decode cX9_matchingCost 5 = .ok (.getfield 43, 3) := by decide +kernel
theorem dX9_matchingCost_8 : decode cX9_matchingCost 8 = .ok (.invokevirtual 233, 3) := by decide +kernel
theorem dX9_matchingCost_11 : decode cX9_matchingCost 11 = .ok (.ireturn, 1) := by decide +kernel
set_option maxRecDepth 20000 in
theorem ggX9_downIfScanned_X6_copyFrom : GoodIn wsX9_downIfScanned wsX6_copyFrom := goodIn_r _ [7, 8, 9, 10, 11, 12, 13, 14, 15, 16, 17, 18, 19, 20, 21, 22, 23, 24, 25, 26, 27, 28, 29, 30, 31, 32, 33, 34, 35, 208, 209, 210, 211, 212, 213, 214, 215, 216, 217, 218, 219, 220] (by decide +kernel) (by decide +kernel)
set_option maxRecDepth 20000 in
theorem gX9_downIfScanned_X6_copyFrom : GoodIn wsX9_downIfScanned (wsV RX9 236 RX6 yX6_copyFrom wsX6_copyFrom) := goodIn_app (goodIn_of _ (by decide +kernel)) ggX9_downIfScanned_X6_copyFrom
set_option maxRecDepth 20000 in
theorem ggX9_downIfScanned_X9_scanFrame : GoodIn wsX9_downIfScanned wsX9_scanFrame := goodIn_r _ [40, 41, 42, 43, 44, 45, 46, 47, 48, 49, 50, 51, 52, 53, 54, 21, 55, 23, 25, 56, 57, 58, 59, 60, 61, 62, 63, 64, 39, 65, 66, 67, 68, 69, 70, 71, 72, 73, 74, 75, 76, 77, 78, 79, 80, 81, 82, 83, 84, 85, 86, 87, 88, 89, 90, 91, 92, 93, 94, 95, 96, 97, 98, 99, 100, 101, 102, 103, 104, 105, 106, 107, 108, 109, 110, 111, 112, 113, 114, 115, 116, 117, 118, 119, 120, 121, 122, 123, 124, 125, 126, 127, 128, 129, 130, 131, 132, 133, 134, 135, 136, 137, 29, 138, 32, 33, 139, 140, 141, 142, 143, 144, 145, 146, 147, 148, 149, 150, 151, 152, 153, 154, 155, 156, 157, 158, 159, 160, 161, 162, 163, 6, 164, 16, 17, 15, 165, 166, 167, 168, 14, 169, 170, 171, 172, 9, 173, 174, 175, 176, 177, 178, 179, 180, 181, 182, 34, 35, 183, 184, 185, 186, 31, 187, 188, 189, 190, 191, 192, 193, 194, 195, 196, 197, 198, 200, 201, 202, 203, 204, 205, 206, 207, 208, 209, 210, 211, 212, 213, 221, 222, 223, 224, 225, 214, 215, 226, 227, 228, 229, 230, 231, 232, 233, 234, 235, 236, 237, 216, 217, 218, 219, 220] (by decide +kernel) (by decide +kernel)
set_option maxRecDepth 20000 in
theorem gX9_downIfScanned_X9_scanFrame : GoodIn wsX9_downIfScanned (wsV RX9 122 RX9 yX9_scanFrame wsX9_scanFrame) := goodIn_app (goodIn_of _ (by decide +kernel)) ggX9_downIfScanned_X9_scanFrame
set_option maxRecDepth 20000 in
theorem ggX9_downIfScanned_X6_downSet : GoodIn wsX9_downIfScanned wsX6_downSet := goodIn_r _ [168, 14, 208, 209, 210, 211, 212, 213, 216, 217, 218, 219, 220] (by decide +kernel) (by decide +kernel)
set_option maxRecDepth 20000 in
theorem gX9_downIfScanned_X6_downSet : GoodIn wsX9_downIfScanned (wsV RX9 239 RX6 yX6_downSet wsX6_downSet) := goodIn_app (goodIn_of _ (by decide +kernel)) ggX9_downIfScanned_X6_downSet
theorem dX9_downIfScanned_0 : decode cX9_downIfScanned 0 = .ok (.aload_n 0, 1) := by decide +kernel
theorem dX9_downIfScanned_1 : decode cX9_downIfScanned 1 = .ok (.getfield 16, 3) := by decide +kernel
theorem dX9_downIfScanned_4 : decode cX9_downIfScanned 4 = .ok (.aload_n 0, 1) := by decide +kernel
theorem dX9_downIfScanned_5 : decode cX9_downIfScanned 5 = .ok (.getfield 12, 3) := by decide +kernel
theorem dX9_downIfScanned_8 : decode cX9_downIfScanned 8 = .ok (.invokevirtual 236, 3) := by decide +kernel
theorem dX9_downIfScanned_11 : decode cX9_downIfScanned 11 = .ok (.aload_n 0, 1) := by decide +kernel
theorem dX9_downIfScanned_12 : decode cX9_downIfScanned 12 = .ok (.aload_n 0, 1) := by decide +kernel
theorem dX9_downIfScanned_13 : decode cX9_downIfScanned 13 = .ok (.getfield 16, 3) := by decide +kernel
theorem dX9_downIfScanned_16 : decode cX9_downIfScanned 16 = .ok (.invokevirtual 122, 3) := by decide +kernel
theorem dX9_downIfScanned_19 : decode cX9_downIfScanned 19 = .ok (.pop, 1) := by decide +kernel
theorem dX9_downIfScanned_20 : decode cX9_downIfScanned 20 = .ok (.aload_n 0, 1) := by decide +kernel
theorem dX9_downIfScanned_21 : decode cX9_downIfScanned 21 = .ok (.getfield 16, 3) := by decide +kernel
theorem dX9_downIfScanned_24 : decode cX9_downIfScanned 24 = .ok (.invokevirtual 239, 3) := by decide +kernel
theorem dX9_downIfScanned_27 : decode cX9_downIfScanned 27 = .ok (.ireturn, 1) := by decide +kernel
theorem dX9_frames_0 : decode cX9_frames 0 = .ok (.aload_n 0, 1) := by decide +kernel
theorem dX9_frames_1 : decode cX9_frames 1 = .ok (.getfield 12, 3) := by decide +kernel
theorem dX9_frames_4 : decode cX9_frames 4 = .ok (.getfield 242, 3) := by decide +kernel
theorem dX9_frames_7 : decode cX9_frames 7 = .ok (.ireturn, 1) := by decide +kernel
theorem dX9_downs_0 : decode cX9_downs 0 = .ok (.aload_n 0, 1) := by decide +kernel
theorem dX9_downs_1 : decode cX9_downs 1 = .ok (.getfield 12, 3) := by decide +kernel
theorem dX9_downs_4 : decode cX9_downs 4 = .ok (.getfield 245, 3) := by decide +kernel
theorem dX9_downs_7 : decode cX9_downs 7 = .ok (.ireturn, 1) := by decide +kernel
theorem dX9_ups_0 : decode cX9_ups 0 = .ok (.aload_n 0, 1) := by decide +kernel
theorem dX9_ups_1 : decode cX9_ups 1 = .ok (.getfield 12, 3) := by decide +kernel
theorem dX9_ups_4 : decode cX9_ups 4 = .ok (.getfield 248, 3) := by decide +kernel
theorem dX9_ups_7 : decode cX9_ups 7 = .ok (.ireturn, 1) := by decide +kernel
set_option maxRecDepth 20000 in
theorem ggX9_meanSignal_X4_signalOf : GoodIn wsX9_meanSignal wsX4_signalOf := goodIn_r _ [6, 7, 8, 23, 24] (by decide +kernel) (by decide +kernel)
set_option maxRecDepth 20000 in
theorem gX9_meanSignal_X4_signalOf : GoodIn wsX9_meanSignal (wsV RX9 173 RX4 yX4_signalOf wsX4_signalOf) := goodIn_app (goodIn_of _ (by decide +kernel)) ggX9_meanSignal_X4_signalOf
theorem dX9_meanSignal_0 : decode cX9_meanSignal 0 = .ok (.iconst 0, 1) := by decide +kernel
theorem dX9_meanSignal_1 : decode cX9_meanSignal 1 = .ok (.istore_n 1, 1) := by decide +kernel
theorem dX9_meanSignal_2 : decode cX9_meanSignal 2 = .ok (.iconst 0, 1) := by decide +kernel
theorem dX9_meanSignal_3 : decode cX9_meanSignal 3 = .ok (.istore_n 2, 1) := by decide +kernel
theorem dX9_meanSignal_4 : decode cX9_meanSignal 4 = .ok (.iconst 0, 1) := by decide +kernel
theorem dX9_meanSignal_5 : decode cX9_meanSignal 5 = .ok (.istore_n 3, 1) := by decide +kernel
theorem dX9_meanSignal_6 : decode cX9_meanSignal 6 = .ok (.iload_n 3, 1) := by decide +kernel
theorem dX9_meanSignal_7 : decode cX9_meanSignal 7 = .ok (.bipush 48, 2) := by decide +kernel
theorem dX9_meanSignal_9 : decode cX9_meanSignal 9 = .ok (.if_icmp .ge 44, 3) := by decide +kernel
theorem dX9_meanSignal_12 : decode cX9_meanSignal 12 = .ok (.aload_n 0, 1) := by decide +kernel
theorem dX9_meanSignal_13 : decode cX9_meanSignal 13 = .ok (.getfield 12, 3) := by decide +kernel
theorem dX9_meanSignal_16 : decode cX9_meanSignal 16 = .ok (.getfield 76, 3) := by decide +kernel
theorem dX9_meanSignal_19 : decode cX9_meanSignal 19 = .ok (.iload_n 3, 1) := by decide +kernel
theorem dX9_meanSignal_20 : decode cX9_meanSignal 20 = .ok (.invokevirtual 173, 3) := by decide +kernel
theorem dX9_meanSignal_23 : decode cX9_meanSignal 23 = .ok (.istore 4, 2) := by decide +kernel
theorem dX9_meanSignal_25 : decode cX9_meanSignal 25 = .ok (.iload 4, 2) := by decide +kernel
theorem dX9_meanSignal_27 : decode cX9_meanSignal 27 = .ok (.aload_n 0, 1) := by decide +kernel
theorem dX9_meanSignal_28 : decode cX9_meanSignal 28 = .ok (.getfield 12, 3) := by decide +kernel
theorem dX9_meanSignal_31 : decode cX9_meanSignal 31 = .ok (.getfield 119, 3) := by decide +kernel
theorem dX9_meanSignal_34 : decode cX9_meanSignal 34 = .ok (.iconst 0, 1) := by decide +kernel
theorem dX9_meanSignal_35 : decode cX9_meanSignal 35 = .ok (.iaload, 1) := by decide +kernel
theorem dX9_meanSignal_36 : decode cX9_meanSignal 36 = .ok (.if_icmp .lt 11, 3) := by decide +kernel
theorem dX9_meanSignal_39 : decode cX9_meanSignal 39 = .ok (.iload_n 1, 1) := by decide +kernel
theorem dX9_meanSignal_40 : decode cX9_meanSignal 40 = .ok (.iload 4, 2) := by decide +kernel
theorem dX9_meanSignal_42 : decode cX9_meanSignal 42 = .ok (.iadd, 1) := by decide +kernel
theorem dX9_meanSignal_43 : decode cX9_meanSignal 43 = .ok (.istore_n 1, 1) := by decide +kernel
theorem dX9_meanSignal_44 : decode cX9_meanSignal 44 = .ok (.iinc 2 1, 3) := by decide +kernel
theorem dX9_meanSignal_47 : decode cX9_meanSignal 47 = .ok (.iinc 3 1, 3) := by decide +kernel
theorem dX9_meanSignal_50 : decode cX9_meanSignal 50 = .ok (.goto (-44), 3) := by decide +kernel
theorem dX9_meanSignal_53 : decode cX9_meanSignal 53 = .ok (.iload_n 2, 1) := by decide +kernel
theorem dX9_meanSignal_54 : decode cX9_meanSignal 54 = .ok (.ifCond .le 11, 3) := by decide +kernel
theorem dX9_meanSignal_57 : decode cX9_meanSignal 57 = .ok (.iload_n 1, 1) := by decide +kernel
theorem dX9_meanSignal_58 : decode cX9_meanSignal 58 = .ok (.i2f, 1) := by decide +kernel
theorem dX9_meanSignal_59 : decode cX9_meanSignal 59 = .ok (.iload_n 2, 1) := by decide +kernel
theorem dX9_meanSignal_60 : decode cX9_meanSignal 60 = .ok (.i2f, 1) := by decide +kernel
theorem dX9_meanSignal_61 : decode cX9_meanSignal 61 = .ok (.fdiv, 1) := by decide +kernel
theorem dX9_meanSignal_62 : decode cX9_meanSignal 62 = .ok (.goto 4, 3) := by decide +kernel
theorem dX9_meanSignal_65 : decode cX9_meanSignal 65 = .ok (.fconst 0, 1) := by decide +kernel
theorem dX9_meanSignal_66 : decode cX9_meanSignal 66 = .ok (.freturn, 1) := by decide +kernel
theorem dX9_savedStates_0 : decode cX9_savedStates 0 = .ok (.aload_n 0, 1) := by decide +kernel
theorem dX9_savedStates_1 : decode cX9_savedStates 1 = .ok (.getfield 22, 3) := by decide +kernel
theorem dX9_savedStates_4 : decode cX9_savedStates 4 = .ok (.getfield 165, 3) := by decide +kernel
theorem dX9_savedStates_7 : decode cX9_savedStates 7 = .ok (.ireturn, 1) := by decide +kernel
theorem dX9_textLength_0 : decode cX9_textLength 0 = .ok (.aload_n 0, 1) := by decide +kernel
theorem dX9_textLength_1 : decode cX9_textLength 1 = .ok (.getfield 50, 3) := by decide +kernel
theorem dX9_textLength_4 : decode cX9_textLength 4 = .ok (.getfield 140, 3) := by decide +kernel
theorem dX9_textLength_7 : decode cX9_textLength 7 = .ok (.ireturn, 1) := by decide +kernel
set_option maxRecDepth 20000 in
theorem ggX9_requireCell_X9_isOnPanel : GoodIn wsX9_requireCell wsX9_isOnPanel := goodIn_r _ [6] (by decide +kernel) (by decide +kernel)
set_option maxRecDepth 20000 in
theorem gX9_requireCell_X9_isOnPanel : GoodIn wsX9_requireCell (va_wsS RX9 251 yX9_isOnPanel wsX9_isOnPanel) := goodIn_app (goodIn_of _ (by decide +kernel)) ggX9_requireCell_X9_isOnPanel
theorem dX9_requireCell_0 : decode cX9_requireCell 0 = .ok (.iload_n 0, 1) := by decide +kernel
theorem dX9_requireCell_1 : decode cX9_requireCell 1 = .ok (.iload_n 1, 1) := by decide +kernel
theorem dX9_requireCell_2 : decode cX9_requireCell 2 = .ok (.invokestatic 251, 3) := by decide +kernel
theorem dX9_requireCell_5 : decode cX9_requireCell 5 = .ok (.ifCond .ne 14, 3) := by decide +kernel
theorem dX9_requireCell_8 : decode cX9_requireCell 8 = .ok (.new 255, 3) := by decide +kernel
theorem dX9_requireCell_11 : decode cX9_requireCell 11 = .ok (.dup, 1) := by decide +kernel
theorem dX9_requireCell_12 : decode cX9_requireCell 12 = .ok (.ldc_w 257, 3) := by decide +kernel
theorem dX9_requireCell_15 : decode cX9_requireCell 15 = .ok (.invokespecial 259, 3) := by decide +kernel
theorem dX9_requireCell_18 : decode cX9_requireCell 18 = .ok (.athrow, 1) := by decide +kernel
theorem dX9_requireCell_19 : decode cX9_requireCell 19 = .ok (.return_, 1) := by decide +kernel
theorem dX9_requireSetting_0 : decode cX9_requireSetting 0 = .ok (.iload_n 0, 1) := by decide +kernel
theorem dX9_requireSetting_1 : decode cX9_requireSetting 1 = .ok (.ifCond .lt 8, 3) := by decide +kernel
theorem dX9_requireSetting_4 : decode cX9_requireSetting 4 = .ok (.iload_n 0, 1) := by decide +kernel
theorem dX9_requireSetting_5 : decode cX9_requireSetting 5 = .ok (.iconst 5, 1) := by decide +kernel
theorem dX9_requireSetting_6 : decode cX9_requireSetting 6 = .ok (.if_icmp .lt 14, 3) := by decide +kernel
theorem dX9_requireSetting_9 : decode cX9_requireSetting 9 = .ok (.new 255, 3) := by decide +kernel
theorem dX9_requireSetting_12 : decode cX9_requireSetting 12 = .ok (.dup, 1) := by decide +kernel
theorem dX9_requireSetting_13 : decode cX9_requireSetting 13 = .ok (.ldc_w 260, 3) := by decide +kernel
theorem dX9_requireSetting_16 : decode cX9_requireSetting 16 = .ok (.invokespecial 259, 3) := by decide +kernel
theorem dX9_requireSetting_19 : decode cX9_requireSetting 19 = .ok (.athrow, 1) := by decide +kernel
theorem dX9_requireSetting_20 : decode cX9_requireSetting 20 = .ok (.return_, 1) := by decide +kernel
theorem dX9_requireTrack_0 : decode cX9_requireTrack 0 = .ok (.iload_n 0, 1) := by decide +kernel
theorem dX9_requireTrack_1 : decode cX9_requireTrack 1 = .ok (.ifCond .lt 9, 3) := by decide +kernel
theorem dX9_requireTrack_4 : decode cX9_requireTrack 4 = .ok (.iload_n 0, 1) := by decide +kernel
theorem dX9_requireTrack_5 : decode cX9_requireTrack 5 = .ok (.bipush 6, 2) := by decide +kernel
theorem dX9_requireTrack_7 : decode cX9_requireTrack 7 = .ok (.if_icmp .lt 14, 3) := by decide +kernel
theorem dX9_requireTrack_10 : decode cX9_requireTrack 10 = .ok (.new 255, 3) := by decide +kernel
theorem dX9_requireTrack_13 : decode cX9_requireTrack 13 = .ok (.dup, 1) := by decide +kernel
theorem dX9_requireTrack_14 : decode cX9_requireTrack 14 = .ok (.ldc_w 262, 3) := by decide +kernel
theorem dX9_requireTrack_17 : decode cX9_requireTrack 17 = .ok (.invokespecial 259, 3) := by decide +kernel
theorem dX9_requireTrack_20 : decode cX9_requireTrack 20 = .ok (.athrow, 1) := by decide +kernel
theorem dX9_requireTrack_21 : decode cX9_requireTrack 21 = .ok (.return_, 1) := by decide +kernel
theorem dX9_requireContactNumber_0 : decode cX9_requireContactNumber 0 = .ok (.iload_n 0, 1) := by decide +kernel
theorem dX9_requireContactNumber_1 : decode cX9_requireContactNumber 1 = .ok (.ifCond .ge 14, 3) := by decide +kernel
theorem dX9_requireContactNumber_4 : decode cX9_requireContactNumber 4 = .ok (.new 255, 3) := by decide +kernel
theorem dX9_requireContactNumber_7 : decode cX9_requireContactNumber 7 = .ok (.dup, 1) := by decide +kernel
theorem dX9_requireContactNumber_8 : decode cX9_requireContactNumber 8 = .ok (.ldc_w 264, 3) := by decide +kernel
theorem dX9_requireContactNumber_11 : decode cX9_requireContactNumber 11 = .ok (.invokespecial 259, 3) := by decide +kernel
theorem dX9_requireContactNumber_14 : decode cX9_requireContactNumber 14 = .ok (.athrow, 1) := by decide +kernel
theorem dX9_requireContactNumber_15 : decode cX9_requireContactNumber 15 = .ok (.return_, 1) := by decide +kernel
theorem dX9_requirePart_0 : decode cX9_requirePart 0 = .ok (.iload_n 0, 1) := by decide +kernel
theorem dX9_requirePart_1 : decode cX9_requirePart 1 = .ok (.ifCond .lt 8, 3) := by decide +kernel
theorem dX9_requirePart_4 : decode cX9_requirePart 4 = .ok (.iload_n 0, 1) := by decide +kernel
theorem dX9_requirePart_5 : decode cX9_requirePart 5 = .ok (.iconst 4, 1) := by decide +kernel
theorem dX9_requirePart_6 : decode cX9_requirePart 6 = .ok (.if_icmp .lt 14, 3) := by decide +kernel
theorem dX9_requirePart_9 : decode cX9_requirePart 9 = .ok (.new 65, 3) := by decide +kernel
theorem dX9_requirePart_12 : decode cX9_requirePart 12 = .ok (.dup, 1) := by decide +kernel
theorem dX9_requirePart_13 : decode cX9_requirePart 13 = .ok (.ldc_w 266, 3) := by decide +kernel
theorem dX9_requirePart_16 : decode cX9_requirePart 16 = .ok (.invokespecial 69, 3) := by decide +kernel
theorem dX9_requirePart_19 : decode cX9_requirePart 19 = .ok (.athrow, 1) := by decide +kernel
theorem dX9_requirePart_20 : decode cX9_requirePart 20 = .ok (.return_, 1) := by decide +kernel
theorem dX9_isOnPanel_0 : decode cX9_isOnPanel 0 = .ok (.iload_n 0, 1) := by decide +kernel
theorem dX9_isOnPanel_1 : decode cX9_isOnPanel 1 = .ok (.ifCond .lt 23, 3) := by decide +kernel
theorem dX9_isOnPanel_4 : decode cX9_isOnPanel 4 = .ok (.iload_n 0, 1) := by decide +kernel
theorem dX9_isOnPanel_5 : decode cX9_isOnPanel 5 = .ok (.bipush 8, 2) := by decide +kernel
theorem dX9_isOnPanel_7 : decode cX9_isOnPanel 7 = .ok (.if_icmp .ge 17, 3) := by decide +kernel
theorem dX9_isOnPanel_10 : decode cX9_isOnPanel 10 = .ok (.iload_n 1, 1) := by decide +kernel
theorem dX9_isOnPanel_11 : decode cX9_isOnPanel 11 = .ok (.ifCond .lt 13, 3) := by decide +kernel
theorem dX9_isOnPanel_14 : decode cX9_isOnPanel 14 = .ok (.iload_n 1, 1) := by decide +kernel
theorem dX9_isOnPanel_15 : decode cX9_isOnPanel 15 = .ok (.bipush 6, 2) := by decide +kernel
theorem dX9_isOnPanel_17 : decode cX9_isOnPanel 17 = .ok (.if_icmp .ge 7, 3) := by decide +kernel
theorem dX9_isOnPanel_20 : decode cX9_isOnPanel 20 = .ok (.iconst 1, 1) := by decide +kernel
theorem dX9_isOnPanel_21 : decode cX9_isOnPanel 21 = .ok (.goto 4, 3) := by decide +kernel
theorem dX9_isOnPanel_24 : decode cX9_isOnPanel 24 = .ok (.iconst 0, 1) := by decide +kernel
theorem dX9_isOnPanel_25 : decode cX9_isOnPanel 25 = .ok (.ireturn, 1) := by decide +kernel
theorem dX9_isCell_0 : decode cX9_isCell 0 = .ok (.iload_n 0, 1) := by decide +kernel
theorem dX9_isCell_1 : decode cX9_isCell 1 = .ok (.ifCond .lt 13, 3) := by decide +kernel
theorem dX9_isCell_4 : decode cX9_isCell 4 = .ok (.iload_n 0, 1) := by decide +kernel
theorem dX9_isCell_5 : decode cX9_isCell 5 = .ok (.bipush 48, 2) := by decide +kernel
theorem dX9_isCell_7 : decode cX9_isCell 7 = .ok (.if_icmp .ge 7, 3) := by decide +kernel
theorem dX9_isCell_10 : decode cX9_isCell 10 = .ok (.iconst 1, 1) := by decide +kernel
theorem dX9_isCell_11 : decode cX9_isCell 11 = .ok (.goto 4, 3) := by decide +kernel
theorem dX9_isCell_14 : decode cX9_isCell 14 = .ok (.iconst 0, 1) := by decide +kernel
theorem dX9_isCell_15 : decode cX9_isCell 15 = .ok (.ireturn, 1) := by decide +kernel
theorem dX9_cellAt_0 : decode cX9_cellAt 0 = .ok (.bipush 6, 2) := by decide +kernel
theorem dX9_cellAt_2 : decode cX9_cellAt 2 = .ok (.iload_n 0, 1) := by decide +kernel
theorem dX9_cellAt_3 : decode cX9_cellAt 3 = .ok (.imul, 1) := by decide +kernel
theorem dX9_cellAt_4 : decode cX9_cellAt 4 = .ok (.iload_n 1, 1) := by decide +kernel
theorem dX9_cellAt_5 : decode cX9_cellAt 5 = .ok (.iadd, 1) := by decide +kernel
theorem dX9_cellAt_6 : decode cX9_cellAt 6 = .ok (.ireturn, 1) := by decide +kernel
set_option maxRecDepth 20000 in
theorem ggX9_findContacts_X5_find : GoodIn wsX9_findContacts wsX5_find := goodIn_r _ [8, 9, 10, 11, 12, 13, 14, 15, 16, 17, 18, 19, 20, 21, 7, 22, 23, 24, 25, 26, 27, 28, 29, 30, 31, 32, 33, 34, 35, 83, 84, 85, 86, 87, 88, 89, 90, 91, 92, 93, 94, 95] (by decide +kernel) (by decide +kernel)
set_option maxRecDepth 20000 in
theorem gX9_findContacts_X5_find : GoodIn wsX9_findContacts (wsV RX9 176 RX5 yX5_find wsX5_find) := goodIn_app (goodIn_of _ (by decide +kernel)) ggX9_findContacts_X5_find
set_option maxRecDepth 20000 in
theorem ggX9_findContacts_X1_find : GoodIn wsX9_findContacts wsX1_find := goodIn_r _ [40, 41, 42, 43, 44, 45, 7, 46, 11, 34, 9, 35, 10, 27, 28, 29, 47, 48, 39, 49, 50, 13, 14, 15, 16, 17, 18, 51, 52, 53, 54, 55, 56, 57, 58, 59, 60, 61, 62, 63, 64, 65, 66, 67, 68, 69, 70, 71, 72, 73, 74, 96, 97, 98, 99, 100, 101, 89, 90, 91, 92, 93, 94, 95] (by decide +kernel) (by decide +kernel)
set_option maxRecDepth 20000 in
theorem gX9_findContacts_X1_find : GoodIn wsX9_findContacts (wsV RX9 268 RX1 yX1_find wsX1_find) := goodIn_app (goodIn_of _ (by decide +kernel)) ggX9_findContacts_X1_find
theorem dX9_findContacts_0 : decode cX9_findContacts 0 = .ok (.aload_n 0, 1) := by decide +kernel
theorem dX9_findContacts_1 : decode cX9_findContacts 1 = .ok (.getfield 29, 3) := by decide +kernel
theorem dX9_findContacts_4 : decode cX9_findContacts 4 = .ok (.aload_n 0, 1) := by decide +kernel
theorem dX9_findContacts_5 : decode cX9_findContacts 5 = .ok (.getfield 12, 3) := by decide +kernel
theorem dX9_findContacts_8 : decode cX9_findContacts 8 = .ok (.invokevirtual 176, 3) := by decide +kernel
theorem dX9_findContacts_11 : decode cX9_findContacts 11 = .ok (.aload_n 0, 1) := by decide +kernel
theorem dX9_findContacts_12 : decode cX9_findContacts 12 = .ok (.getfield 36, 3) := by decide +kernel
theorem dX9_findContacts_15 : decode cX9_findContacts 15 = .ok (.aload_n 0, 1) := by decide +kernel
theorem dX9_findContacts_16 : decode cX9_findContacts 16 = .ok (.getfield 12, 3) := by decide +kernel
theorem dX9_findContacts_19 : decode cX9_findContacts 19 = .ok (.getfield 76, 3) := by decide +kernel
theorem dX9_findContacts_22 : decode cX9_findContacts 22 = .ok (.aload_n 0, 1) := by decide +kernel
theorem dX9_findContacts_23 : decode cX9_findContacts 23 = .ok (.getfield 29, 3) := by decide +kernel
theorem dX9_findContacts_26 : decode cX9_findContacts 26 = .ok (.invokevirtual 268, 3) := by decide +kernel
theorem dX9_findContacts_29 : decode cX9_findContacts 29 = .ok (.return_, 1) := by decide +kernel
set_option maxRecDepth 20000 in
theorem ggX9_findMatching_X9_findContacts : GoodIn wsX9_findMatching wsX9_findContacts := goodIn_r _ [8, 9, 2, 3, 10, 11, 12, 13, 14, 15, 16, 17, 18, 19, 20, 21, 22, 23, 24, 25, 26, 27, 28, 29, 30, 31, 32, 33, 7, 34, 35, 36, 37, 38, 39, 40, 41, 42, 43, 44, 45, 46, 47, 48, 49, 50, 51, 52, 53, 54, 55, 56, 57, 58, 59, 60, 61, 62, 63, 64, 65, 66, 67, 68, 69, 70, 71, 72, 73, 74, 75, 76, 77, 78, 79, 133, 134, 135, 136, 137, 138, 139, 140, 141, 142, 143, 144, 145, 146, 147, 148, 149, 150, 151, 152, 153, 154, 155, 156, 157, 158, 159] (by decide +kernel) (by decide +kernel)
set_option maxRecDepth 20000 in
theorem gX9_findMatching_X9_findContacts : GoodIn wsX9_findMatching (wsV RX9 190 RX9 yX9_findContacts wsX9_findContacts) := goodIn_app (goodIn_of _ (by decide +kernel)) ggX9_findMatching_X9_findContacts
set_option maxRecDepth 20000 in
theorem ggX9_findMatching_X3_find : GoodIn wsX9_findMatching wsX3_find := goodIn_r _ [84, 85, 86, 87, 88, 89, 90, 83, 91, 92, 93, 94, 44, 95, 76, 96, 97, 98, 99, 47, 100, 101, 102, 103, 77, 104, 105, 106, 107, 108, 109, 110, 111, 112, 113, 114, 115, 116, 117, 118, 119, 120, 121, 122, 123, 124, 125, 126, 127, 128, 129, 130, 131, 132, 154, 155, 156, 157, 158, 159, 160, 161, 162, 163, 164, 165, 141, 142, 143, 144, 145, 146, 166, 167, 168, 169, 170] (by decide +kernel) (by decide +kernel)
set_option maxRecDepth 20000 in
theorem gX9_findMatching_X3_find : GoodIn wsX9_findMatching (wsV RX9 271 RX3 yX3_find wsX3_find) := goodIn_app (goodIn_of _ (by decide +kernel)) ggX9_findMatching_X3_find
theorem dX9_findMatching_0 : decode cX9_findMatching 0 = .ok (.aload_n 0, 1) := by decide +kernel
theorem dX9_findMatching_1 : decode cX9_findMatching 1 = .ok (.invokevirtual 190, 3) := by decide +kernel
theorem dX9_findMatching_4 : decode cX9_findMatching 4 = .ok (.aload_n 0, 1) := by decide +kernel
theorem dX9_findMatching_5 : decode cX9_findMatching 5 = .ok (.getfield 43, 3) := by decide +kernel
theorem dX9_findMatching_8 : decode cX9_findMatching 8 = .ok (.aload_n 0, 1) := by decide +kernel
theorem dX9_findMatching_9 : decode cX9_findMatching 9 = .ok (.getfield 12, 3) := by decide +kernel
theorem dX9_findMatching_12 : decode cX9_findMatching 12 = .ok (.aload_n 0, 1) := by decide +kernel
theorem dX9_findMatching_13 : decode cX9_findMatching 13 = .ok (.getfield 36, 3) := by decide +kernel
theorem dX9_findMatching_16 : decode cX9_findMatching 16 = .ok (.invokevirtual 271, 3) := by decide +kernel
theorem dX9_findMatching_19 : decode cX9_findMatching 19 = .ok (.return_, 1) := by decide +kernel
set_option maxRecDepth 20000 in
theorem ggX9_scanFrame_X5_find : GoodIn wsX9_scanFrame wsX5_find := goodIn_r _ [8, 9, 10, 11, 12, 13, 14, 15, 16, 17, 18, 19, 20, 21, 7, 22, 23, 24, 25, 26, 27, 28, 29, 30, 31, 32, 33, 34, 35, 183, 184, 185, 186, 187, 188, 189, 190, 191, 192, 193, 194, 195] (by decide +kernel) (by decide +kernel)
set_option maxRecDepth 20000 in
theorem gX9_scanFrame_X5_find : GoodIn wsX9_scanFrame (wsV RX9 176 RX5 yX5_find wsX5_find) := goodIn_app (goodIn_of _ (by decide +kernel)) ggX9_scanFrame_X5_find
set_option maxRecDepth 20000 in
theorem ggX9_scanFrame_X1_find : GoodIn wsX9_scanFrame wsX1_find := goodIn_r _ [40, 41, 42, 43, 44, 45, 7, 46, 11, 34, 9, 35, 10, 27, 28, 29, 47, 48, 39, 49, 50, 13, 14, 15, 16, 17, 18, 51, 52, 53, 54, 55, 56, 57, 58, 59, 60, 61, 62, 63, 64, 65, 66, 67, 68, 69, 70, 71, 72, 73, 74, 196, 197, 198, 199, 200, 201, 189, 190, 191, 192, 193, 194, 195] (by decide +kernel) (by decide +kernel)
set_option maxRecDepth 20000 in
theorem gX9_scanFrame_X1_find : GoodIn wsX9_scanFrame (wsV RX9 268 RX1 yX1_find wsX1_find) := goodIn_app (goodIn_of _ (by decide +kernel)) ggX9_scanFrame_X1_find
set_option maxRecDepth 20000 in
theorem ggX9_scanFrame_X3_find : GoodIn wsX9_scanFrame wsX3_find := goodIn_r _ [79, 80, 81, 82, 83, 84, 85, 78, 86, 87, 88, 89, 39, 90, 71, 91, 92, 93, 94, 42, 95, 96, 97, 98, 72, 99, 100, 101, 102, 103, 104, 105, 106, 107, 108, 109, 110, 111, 112, 113, 114, 115, 116, 117, 118, 119, 120, 121, 122, 123, 124, 125, 126, 127, 196, 197, 198, 199, 200, 201, 202, 203, 204, 205, 206, 207, 183, 184, 185, 186, 187, 188, 208, 209, 210, 211, 212] (by decide +kernel) (by decide +kernel)
set_option maxRecDepth 20000 in
theorem gX9_scanFrame_X3_find : GoodIn wsX9_scanFrame (wsV RX9 271 RX3 yX3_find wsX3_find) := goodIn_app (goodIn_of _ (by decide +kernel)) ggX9_scanFrame_X3_find
set_option maxRecDepth 20000 in
theorem ggX9_scanFrame_X6_takeFrame : GoodIn wsX9_scanFrame wsX6_takeFrame := goodIn_r _ [132, 133, 134, 135, 136, 137, 138, 131, 139, 140, 141, 142, 143, 144, 145, 146, 147, 148, 78, 149, 123, 150, 88, 89, 39, 90, 71, 91, 92, 93, 94, 42, 151, 96, 97, 98, 72, 152, 153, 154, 102, 155, 104, 105, 156, 157, 158, 159, 160, 161, 162, 163, 164, 165, 166, 167, 168, 169, 170, 80, 122, 171, 172, 173, 174, 183, 184, 185, 186, 187, 188, 208, 209, 210, 211, 212, 202, 203, 204, 205, 206, 207, 196, 197, 198, 199, 200, 201] (by decide +kernel) (by decide +kernel)
set_option maxRecDepth 20000 in
theorem gX9_scanFrame_X6_takeFrame : GoodIn wsX9_scanFrame (wsV RX9 274 RX6 yX6_takeFrame wsX6_takeFrame) := goodIn_app (goodIn_of _ (by decide +kernel)) ggX9_scanFrame_X6_takeFrame
theorem dX9_scanFrame_0 : decode cX9_scanFrame 0 = .ok (.aload_n 0, 1) := by decide +kernel
theorem dX9_scanFrame_1 : decode cX9_scanFrame 1 = .ok (.getfield 29, 3) := by decide +kernel
theorem dX9_scanFrame_4 : decode cX9_scanFrame 4 = .ok (.aload_n 1, 1) := by decide +kernel
theorem dX9_scanFrame_5 : decode cX9_scanFrame 5 = .ok (.invokevirtual 176, 3) := by decide +kernel
theorem dX9_scanFrame_8 : decode cX9_scanFrame 8 = .ok (.aload_n 0, 1) := by decide +kernel
theorem dX9_scanFrame_9 : decode cX9_scanFrame 9 = .ok (.getfield 36, 3) := by decide +kernel
theorem dX9_scanFrame_12 : decode cX9_scanFrame 12 = .ok (.aload_n 1, 1) := by decide +kernel
theorem dX9_scanFrame_13 : decode cX9_scanFrame 13 = .ok (.getfield 76, 3) := by decide +kernel
theorem dX9_scanFrame_16 : decode cX9_scanFrame 16 = .ok (.aload_n 0, 1) := by decide +kernel
theorem dX9_scanFrame_17 : decode cX9_scanFrame 17 = .ok (.getfield 29, 3) := by decide +kernel
theorem dX9_scanFrame_20 : decode cX9_scanFrame 20 = .ok (.invokevirtual 268, 3) := by decide +kernel
theorem dX9_scanFrame_23 : decode cX9_scanFrame 23 = .ok (.aload_n 0, 1) := by decide +kernel
theorem dX9_scanFrame_24 : decode cX9_scanFrame 24 = .ok (.getfield 43, 3) := by decide +kernel
theorem dX9_scanFrame_27 : decode cX9_scanFrame 27 = .ok (.aload_n 1, 1) := by decide +kernel
theorem dX9_scanFrame_28 : decode cX9_scanFrame 28 = .ok (.aload_n 0, 1) := by decide +kernel
theorem dX9_scanFrame_29 : decode cX9_scanFrame 29 = .ok (.getfield 36, 3) := by decide +kernel
theorem dX9_scanFrame_32 : decode cX9_scanFrame 32 = .ok (.invokevirtual 271, 3) := by decide +kernel
theorem dX9_scanFrame_35 : decode cX9_scanFrame 35 = .ok (.aload_n 1, 1) := by decide +kernel
theorem dX9_scanFrame_36 : decode cX9_scanFrame 36 = .ok (.aload_n 0, 1) := by decide +kernel
theorem dX9_scanFrame_37 : decode cX9_scanFrame 37 = .ok (.getfield 36, 3) := by decide +kernel
theorem dX9_scanFrame_40 : decode cX9_scanFrame 40 = .ok (.aload_n 0, 1) := by decide +kernel
theorem dX9_scanFrame_41 : decode cX9_scanFrame 41 = .ok (.getfield 43, 3) := by decide +kernel
theorem dX9_scanFrame_44 : decode cX9_scanFrame 44 = .ok (.invokevirtual 274, 3) := by decide +kernel
theorem dX9_scanFrame_47 : decode cX9_scanFrame 47 = .ok (.ireturn, 1) := by decide +kernel
set_option maxRecDepth 20000 in
theorem ggX9_findError_X0_begin : GoodIn wsX9_findError wsX0_begin := goodIn_r _ [7, 8, 45, 46, 47, 48, 49] (by decide +kernel) (by decide +kernel)
set_option maxRecDepth 20000 in
theorem gX9_findError_X0_begin : GoodIn wsX9_findError (wsV RX9 152 RX0 yX0_begin wsX0_begin) := goodIn_app (goodIn_of _ (by decide +kernel)) ggX9_findError_X0_begin
set_option maxRecDepth 20000 in
theorem ggX9_findError_X7_at : GoodIn wsX9_findError wsX7_at := goodIn_r _ [13, 14, 43, 44] (by decide +kernel) (by decide +kernel)
set_option maxRecDepth 20000 in
theorem gX9_findError_X7_at : GoodIn wsX9_findError (wsV RX9 155 RX7 yX7_at wsX7_at) := goodIn_app (goodIn_of _ (by decide +kernel)) ggX9_findError_X7_at
set_option maxRecDepth 20000 in
theorem ggX9_findError_X0_accepts : GoodIn wsX9_findError wsX0_accepts := goodIn_r _ [18, 8, 19, 20, 21, 22, 23, 24, 6, 25, 26, 27, 28, 29, 30, 45, 46, 47, 48, 49] (by decide +kernel) (by decide +kernel)
set_option maxRecDepth 20000 in
theorem gX9_findError_X0_accepts : GoodIn wsX9_findError (wsV RX9 161 RX0 yX0_accepts wsX0_accepts) := goodIn_app (goodIn_of _ (by decide +kernel)) ggX9_findError_X0_accepts
set_option maxRecDepth 20000 in
theorem ggX9_findError_X0_isComplete : GoodIn wsX9_findError wsX0_isComplete := goodIn_r _ [34, 8, 45, 46, 47, 48, 49] (by decide +kernel) (by decide +kernel)
set_option maxRecDepth 20000 in
theorem gX9_findError_X0_isComplete : GoodIn wsX9_findError (wsV RX9 278 RX0 yX0_isComplete wsX0_isComplete) := goodIn_app (goodIn_of _ (by decide +kernel)) ggX9_findError_X0_isComplete
theorem dX9_findError_0 : decode cX9_findError 0 = .ok (.aload_n 0, 1) := by decide +kernel
theorem dX9_findError_1 : decode cX9_findError 1 = .ok (.getfield 57, 3) := by decide +kernel
theorem dX9_findError_4 : decode cX9_findError 4 = .ok (.invokevirtual 152, 3) := by decide +kernel
theorem dX9_findError_7 : decode cX9_findError 7 = .ok (.iconst 0, 1) := by decide +kernel
theorem dX9_findError_8 : decode cX9_findError 8 = .ok (.istore_n 1, 1) := by decide +kernel
theorem dX9_findError_9 : decode cX9_findError 9 = .ok (.iload_n 1, 1) := by decide +kernel
theorem dX9_findError_10 : decode cX9_findError 10 = .ok (.aload_n 0, 1) := by decide +kernel
theorem dX9_findError_11 : decode cX9_findError 11 = .ok (.getfield 50, 3) := by decide +kernel
theorem dX9_findError_14 : decode cX9_findError 14 = .ok (.getfield 140, 3) := by decide +kernel
theorem dX9_findError_17 : decode cX9_findError 17 = .ok (.if_icmp .ge 29, 3) := by decide +kernel
theorem dX9_findError_20 : decode cX9_findError 20 = .ok (.aload_n 0, 1) := by decide +kernel
theorem dX9_findError_21 : decode cX9_findError 21 = .ok (.getfield 57, 3) := by decide +kernel
theorem dX9_findError_24 : decode cX9_findError 24 = .ok (.aload_n 0, 1) := by decide +kernel
theorem dX9_findError_25 : decode cX9_findError 25 = .ok (.getfield 50, 3) := by decide +kernel
theorem dX9_findError_28 : decode cX9_findError 28 = .ok (.iload_n 1, 1) := by decide +kernel
theorem dX9_findError_29 : decode cX9_findError 29 = .ok (.invokevirtual 155, 3) := by decide +kernel
theorem dX9_findError_32 : decode cX9_findError 32 = .ok (.invokevirtual 161, 3) := by decide +kernel
theorem dX9_findError_35 : decode cX9_findError 35 = .ok (.ifCond .ne 5, 3) := by decide +kernel
theorem dX9_findError_38 : decode cX9_findError 38 = .ok (.iload_n 1, 1) := by decide +kernel
theorem dX9_findError_39 : decode cX9_findError 39 = .ok (.ireturn, 1) := by decide +kernel
theorem dX9_findError_40 : decode cX9_findError 40 = .ok (.iinc 1 1, 3) := by decide +kernel
theorem dX9_findError_43 : decode cX9_findError 43 = .ok (.goto (-34), 3) := by decide +kernel
theorem dX9_findError_46 : decode cX9_findError 46 = .ok (.aload_n 0, 1) := by decide +kernel
theorem dX9_findError_47 : decode cX9_findError 47 = .ok (.getfield 57, 3) := by decide +kernel
theorem dX9_findError_50 : decode cX9_findError 50 = .ok (.invokevirtual 278, 3) := by decide +kernel
theorem dX9_findError_53 : decode cX9_findError 53 = .ok (.ifCond .eq 7, 3) := by decide +kernel
theorem dX9_findError_56 : decode cX9_findError 56 = .ok (.iconst (-1), 1) := by decide +kernel
theorem dX9_findError_57 : decode cX9_findError 57 = .ok (.goto 10, 3) := by decide +kernel
theorem dX9_findError_60 : decode cX9_findError 60 = .ok (.aload_n 0, 1) := by decide +kernel
theorem dX9_findError_61 : decode cX9_findError 61 = .ok (.getfield 50, 3) := by decide +kernel
theorem dX9_findError_64 : decode cX9_findError 64 = .ok (.getfield 140, 3) := by decide +kernel
theorem dX9_findError_67 : decode cX9_findError 67 = .ok (.ireturn, 1) := by decide +kernel
set_option maxRecDepth 20000 in
theorem ggX9_runCommand_X4_pressAt : GoodIn wsX9_runCommand wsX4_pressAt := goodIn_r _ [7, 8, 9, 10, 6, 11, 12, 13, 14, 15, 16, 17, 216, 217] (by decide +kernel) (by decide +kernel)
set_option maxRecDepth 20000 in
theorem gX9_runCommand_X4_pressAt : GoodIn wsX9_runCommand (wsV RX9 91 RX4 yX4_pressAt wsX4_pressAt) := goodIn_app (goodIn_of _ (by decide +kernel)) ggX9_runCommand_X4_pressAt
set_option maxRecDepth 20000 in
theorem ggX9_runCommand_X4_clearRaw : GoodIn wsX9_runCommand wsX4_clearRaw := goodIn_r _ [21, 12, 216, 217] (by decide +kernel) (by decide +kernel)
set_option maxRecDepth 20000 in
theorem gX9_runCommand_X4_clearRaw : GoodIn wsX9_runCommand (wsV RX9 99 RX4 yX4_clearRaw wsX4_clearRaw) := goodIn_app (goodIn_of _ (by decide +kernel)) ggX9_runCommand_X4_clearRaw
set_option maxRecDepth 20000 in
theorem ggX9_runCommand_X4_takeBaselines : GoodIn wsX9_runCommand wsX4_takeBaselines := goodIn_r _ [25, 26, 12, 216, 217] (by decide +kernel) (by decide +kernel)
set_option maxRecDepth 20000 in
theorem gX9_runCommand_X4_takeBaselines : GoodIn wsX9_runCommand (wsV RX9 103 RX4 yX4_takeBaselines wsX4_takeBaselines) := goodIn_app (goodIn_of _ (by decide +kernel)) ggX9_runCommand_X4_takeBaselines
set_option maxRecDepth 20000 in
theorem ggX9_runCommand_X9_scanFrame : GoodIn wsX9_runCommand wsX9_scanFrame := goodIn_r _ [30, 31, 32, 33, 34, 35, 36, 37, 38, 39, 40, 41, 42, 43, 44, 6, 45, 12, 26, 46, 47, 48, 49, 50, 51, 52, 53, 54, 14, 55, 56, 57, 58, 59, 60, 61, 62, 63, 64, 65, 66, 67, 68, 69, 70, 71, 72, 73, 74, 75, 76, 77, 78, 79, 80, 13, 15, 16, 17, 81, 82, 83, 84, 85, 86, 87, 88, 89, 90, 91, 92, 93, 94, 95, 96, 97, 98, 99, 100, 101, 102, 103, 104, 105, 106, 107, 108, 109, 110, 111, 112, 113, 114, 115, 116, 117, 118, 119, 120, 121, 122, 123, 124, 125, 126, 127, 128, 129, 130, 131, 132, 133, 134, 135, 136, 137, 138, 139, 140, 141, 142, 143, 144, 145, 146, 147, 148, 149, 150, 151, 152, 153, 154, 155, 156, 157, 158, 159, 160, 161, 162, 163, 164, 165, 166, 167, 168, 169, 170, 171, 172, 173, 174, 175, 176, 177, 178, 179, 180, 181, 182, 183, 184, 185, 186, 187, 188, 189, 190, 191, 192, 193, 194, 195, 196, 197, 198, 199, 200, 201, 202, 203, 204, 210, 211, 212, 213, 214, 215, 218, 219, 220, 221, 222, 216, 217, 223, 224, 225, 226, 227, 228, 229, 230, 231, 232, 233, 234, 235, 236, 237, 238, 239] (by decide +kernel) (by decide +kernel)
set_option maxRecDepth 20000 in
theorem gX9_runCommand_X9_scanFrame : GoodIn wsX9_runCommand (wsV RX9 122 RX9 yX9_scanFrame wsX9_scanFrame) := goodIn_app (goodIn_of _ (by decide +kernel)) ggX9_runCommand_X9_scanFrame
theorem dX9_runCommand_0 : decode cX9_runCommand 0 = .ok (.aload_n 0, 1) := by decide +kernel
theorem dX9_runCommand_1 : decode cX9_runCommand 1 = .ok (.getfield 57, 3) := by decide +kernel
theorem dX9_runCommand_4 : decode cX9_runCommand 4 = .ok (.getfield 281, 3) := by decide +kernel
theorem dX9_runCommand_7 : decode cX9_runCommand 7 = .ok (.lookupswitch 92 #[(98, 79), (112, 33), (120, 66)], 33) := by decide +kernel
theorem dX9_runCommand_40 : decode cX9_runCommand 40 = .ok (.aload_n 0, 1) := by decide +kernel
theorem dX9_runCommand_41 : decode cX9_runCommand 41 = .ok (.getfield 12, 3) := by decide +kernel
theorem dX9_runCommand_44 : decode cX9_runCommand 44 = .ok (.getfield 76, 3) := by decide +kernel
theorem dX9_runCommand_47 : decode cX9_runCommand 47 = .ok (.aload_n 0, 1) := by decide +kernel
theorem dX9_runCommand_48 : decode cX9_runCommand 48 = .ok (.getfield 57, 3) := by decide +kernel
theorem dX9_runCommand_51 : decode cX9_runCommand 51 = .ok (.getfield 284, 3) := by decide +kernel
theorem dX9_runCommand_54 : decode cX9_runCommand 54 = .ok (.aload_n 0, 1) := by decide +kernel
theorem dX9_runCommand_55 : decode cX9_runCommand 55 = .ok (.getfield 57, 3) := by decide +kernel
theorem dX9_runCommand_58 : decode cX9_runCommand 58 = .ok (.getfield 287, 3) := by decide +kernel
theorem dX9_runCommand_61 : decode cX9_runCommand 61 = .ok (.aload_n 0, 1) := by decide +kernel
theorem dX9_runCommand_62 : decode cX9_runCommand 62 = .ok (.getfield 57, 3) := by decide +kernel
theorem dX9_runCommand_65 : decode cX9_runCommand 65 = .ok (.getfield 290, 3) := by decide +kernel
theorem dX9_runCommand_68 : decode cX9_runCommand 68 = .ok (.invokevirtual 91, 3) := by decide +kernel
theorem dX9_runCommand_71 : decode cX9_runCommand 71 = .ok (.iconst 0, 1) := by decide +kernel
theorem dX9_runCommand_72 : decode cX9_runCommand 72 = .ok (.ireturn, 1) := by decide +kernel
theorem dX9_runCommand_73 : decode cX9_runCommand 73 = .ok (.aload_n 0, 1) := by decide +kernel
theorem dX9_runCommand_74 : decode cX9_runCommand 74 = .ok (.getfield 12, 3) := by decide +kernel
theorem dX9_runCommand_77 : decode cX9_runCommand 77 = .ok (.getfield 76, 3) := by decide +kernel
theorem dX9_runCommand_80 : decode cX9_runCommand 80 = .ok (.invokevirtual 99, 3) := by decide +kernel
theorem dX9_runCommand_83 : decode cX9_runCommand 83 = .ok (.pop, 1) := by decide +kernel
theorem dX9_runCommand_84 : decode cX9_runCommand 84 = .ok (.iconst 0, 1) := by decide +kernel
theorem dX9_runCommand_85 : decode cX9_runCommand 85 = .ok (.ireturn, 1) := by decide +kernel
theorem dX9_runCommand_86 : decode cX9_runCommand 86 = .ok (.aload_n 0, 1) := by decide +kernel
theorem dX9_runCommand_87 : decode cX9_runCommand 87 = .ok (.getfield 12, 3) := by decide +kernel
theorem dX9_runCommand_90 : decode cX9_runCommand 90 = .ok (.getfield 76, 3) := by decide +kernel
theorem dX9_runCommand_93 : decode cX9_runCommand 93 = .ok (.invokevirtual 103, 3) := by decide +kernel
theorem dX9_runCommand_96 : decode cX9_runCommand 96 = .ok (.pop, 1) := by decide +kernel
theorem dX9_runCommand_97 : decode cX9_runCommand 97 = .ok (.iconst 0, 1) := by decide +kernel
theorem dX9_runCommand_98 : decode cX9_runCommand 98 = .ok (.ireturn, 1) := by decide +kernel
theorem dX9_runCommand_99 : decode cX9_runCommand 99 = .ok (.aload_n 0, 1) := by decide +kernel
theorem dX9_runCommand_100 : decode cX9_runCommand 100 = .ok (.aload_n 0, 1) := by decide +kernel
theorem dX9_runCommand_101 : decode cX9_runCommand 101 = .ok (.getfield 12, 3) := by decide +kernel
theorem dX9_runCommand_104 : decode cX9_runCommand 104 = .ok (.invokevirtual 122, 3) := by decide +kernel
theorem dX9_runCommand_107 : decode cX9_runCommand 107 = .ok (.ireturn, 1) := by decide +kernel
theorem dX10_init_0 : decode cX10_init 0 = .ok (.aload_n 0, 1) := by decide +kernel
theorem dX10_init_1 : decode cX10_init 1 = .ok (.invokespecial 1, 3) := by decide +kernel
theorem dX10_init_4 : decode cX10_init 4 = .ok (.aload_n 0, 1) := by decide +kernel
theorem dX10_init_5 : decode cX10_init 5 = .ok (.sipush 938, 3) := by decide +kernel
theorem dX10_init_8 : decode cX10_init 8 = .ok (.newarray .int, 2) := by decide +kernel
theorem dX10_init_10 : decode cX10_init 10 = .ok (.putfield 7, 3) := by decide +kernel
theorem dX10_init_13 : decode cX10_init 13 = .ok (.aload_n 0, 1) := by decide +kernel
theorem dX10_init_14 : decode cX10_init 14 = .ok (.bipush 80, 2) := by decide +kernel
theorem dX10_init_16 : decode cX10_init 16 = .ok (.newarray .int, 2) := by decide +kernel
theorem dX10_init_18 : decode cX10_init 18 = .ok (.putfield 13, 3) := by decide +kernel
theorem dX10_init_21 : decode cX10_init 21 = .ok (.aload_n 0, 1) := by decide +kernel
theorem dX10_init_22 : decode cX10_init 22 = .ok (.bipush 48, 2) := by decide +kernel
theorem dX10_init_24 : decode cX10_init 24 = .ok (.newarray .int, 2) := by decide +kernel
theorem dX10_init_26 : decode cX10_init 26 = .ok (.putfield 16, 3) := by decide +kernel
theorem dX10_init_29 : decode cX10_init 29 = .ok (.aload_n 0, 1) := by decide +kernel
theorem dX10_init_30 : decode cX10_init 30 = .ok (.bipush 48, 2) := by decide +kernel
theorem dX10_init_32 : decode cX10_init 32 = .ok (.newarray .int, 2) := by decide +kernel
theorem dX10_init_34 : decode cX10_init 34 = .ok (.putfield 19, 3) := by decide +kernel
theorem dX10_init_37 : decode cX10_init 37 = .ok (.aload_n 0, 1) := by decide +kernel
theorem dX10_init_38 : decode cX10_init 38 = .ok (.bipush 48, 2) := by decide +kernel
theorem dX10_init_40 : decode cX10_init 40 = .ok (.newarray .int, 2) := by decide +kernel
theorem dX10_init_42 : decode cX10_init 42 = .ok (.putfield 22, 3) := by decide +kernel
theorem dX10_init_45 : decode cX10_init 45 = .ok (.aload_n 0, 1) := by decide +kernel
theorem dX10_init_46 : decode cX10_init 46 = .ok (.bipush 24, 2) := by decide +kernel
theorem dX10_init_48 : decode cX10_init 48 = .ok (.newarray .int, 2) := by decide +kernel
theorem dX10_init_50 : decode cX10_init 50 = .ok (.putfield 25, 3) := by decide +kernel
theorem dX10_init_53 : decode cX10_init 53 = .ok (.aload_n 0, 1) := by decide +kernel
theorem dX10_init_54 : decode cX10_init 54 = .ok (.bipush 24, 2) := by decide +kernel
theorem dX10_init_56 : decode cX10_init 56 = .ok (.newarray .int, 2) := by decide +kernel
theorem dX10_init_58 : decode cX10_init 58 = .ok (.putfield 28, 3) := by decide +kernel
theorem dX10_init_61 : decode cX10_init 61 = .ok (.aload_n 0, 1) := by decide +kernel
theorem dX10_init_62 : decode cX10_init 62 = .ok (.bipush 24, 2) := by decide +kernel
theorem dX10_init_64 : decode cX10_init 64 = .ok (.newarray .int, 2) := by decide +kernel
theorem dX10_init_66 : decode cX10_init 66 = .ok (.putfield 31, 3) := by decide +kernel
theorem dX10_init_69 : decode cX10_init 69 = .ok (.aload_n 0, 1) := by decide +kernel
theorem dX10_init_70 : decode cX10_init 70 = .ok (.bipush 24, 2) := by decide +kernel
theorem dX10_init_72 : decode cX10_init 72 = .ok (.newarray .int, 2) := by decide +kernel
theorem dX10_init_74 : decode cX10_init 74 = .ok (.putfield 34, 3) := by decide +kernel
theorem dX10_init_77 : decode cX10_init 77 = .ok (.aload_n 0, 1) := by decide +kernel
theorem dX10_init_78 : decode cX10_init 78 = .ok (.sipush 448, 3) := by decide +kernel
theorem dX10_init_81 : decode cX10_init 81 = .ok (.newarray .int, 2) := by decide +kernel
theorem dX10_init_83 : decode cX10_init 83 = .ok (.putfield 37, 3) := by decide +kernel
theorem dX10_init_86 : decode cX10_init 86 = .ok (.aload_n 0, 1) := by decide +kernel
theorem dX10_init_87 : decode cX10_init 87 = .ok (.bipush 6, 2) := by decide +kernel
theorem dX10_init_89 : decode cX10_init 89 = .ok (.newarray .int, 2) := by decide +kernel
theorem dX10_init_91 : decode cX10_init 91 = .ok (.putfield 40, 3) := by decide +kernel
theorem dX10_init_94 : decode cX10_init 94 = .ok (.aload_n 0, 1) := by decide +kernel
theorem dX10_init_95 : decode cX10_init 95 = .ok (.getfield 7, 3) := by decide +kernel
theorem dX10_init_98 : decode cX10_init 98 = .ok (.bipush 96, 2) := by decide +kernel
theorem dX10_init_100 : decode cX10_init 100 = .ok (.bipush 20, 2) := by decide +kernel
theorem dX10_init_102 : decode cX10_init 102 = .ok (.iastore, 1) := by decide +kernel
theorem dX10_init_103 : decode cX10_init 103 = .ok (.aload_n 0, 1) := by decide +kernel
theorem dX10_init_104 : decode cX10_init 104 = .ok (.getfield 7, 3) := by decide +kernel
theorem dX10_init_107 : decode cX10_init 107 = .ok (.bipush 97, 2) := by decide +kernel
theorem dX10_init_109 : decode cX10_init 109 = .ok (.bipush 12, 2) := by decide +kernel
theorem dX10_init_111 : decode cX10_init 111 = .ok (.iastore, 1) := by decide +kernel
theorem dX10_init_112 : decode cX10_init 112 = .ok (.aload_n 0, 1) := by decide +kernel
theorem dX10_init_113 : decode cX10_init 113 = .ok (.getfield 7, 3) := by decide +kernel
theorem dX10_init_116 : decode cX10_init 116 = .ok (.bipush 98, 2) := by decide +kernel
theorem dX10_init_118 : decode cX10_init 118 = .ok (.bipush 30, 2) := by decide +kernel
theorem dX10_init_120 : decode cX10_init 120 = .ok (.iastore, 1) := by decide +kernel
theorem dX10_init_121 : decode cX10_init 121 = .ok (.aload_n 0, 1) := by decide +kernel
theorem dX10_init_122 : decode cX10_init 122 = .ok (.getfield 7, 3) := by decide +kernel
theorem dX10_init_125 : decode cX10_init 125 = .ok (.bipush 99, 2) := by decide +kernel
theorem dX10_init_127 : decode cX10_init 127 = .ok (.sipush 250, 3) := by decide +kernel
theorem dX10_init_130 : decode cX10_init 130 = .ok (.iastore, 1) := by decide +kernel
theorem dX10_init_131 : decode cX10_init 131 = .ok (.aload_n 0, 1) := by decide +kernel
theorem dX10_init_132 : decode cX10_init 132 = .ok (.getfield 7, 3) := by decide +kernel
theorem dX10_init_135 : decode cX10_init 135 = .ok (.bipush 100, 2) := by decide +kernel
theorem dX10_init_137 : decode cX10_init 137 = .ok (.iconst 1, 1) := by decide +kernel
theorem dX10_init_138 : decode cX10_init 138 = .ok (.iastore, 1) := by decide +kernel
theorem dX10_init_139 : decode cX10_init 139 = .ok (.return_, 1) := by decide +kernel
theorem dX10_thrown_0 : decode cX10_thrown 0 = .ok (.aload_n 0, 1) := by decide +kernel
theorem dX10_thrown_1 : decode cX10_thrown 1 = .ok (.getfield 43, 3) := by decide +kernel
theorem dX10_thrown_4 : decode cX10_thrown 4 = .ok (.ireturn, 1) := by decide +kernel
theorem dX10_in_0 : decode cX10_in 0 = .ok (.iload_n 0, 1) := by decide +kernel
theorem dX10_in_1 : decode cX10_in 1 = .ok (.iload_n 1, 1) := by decide +kernel
theorem dX10_in_2 : decode cX10_in 2 = .ok (.if_icmp .lt 12, 3) := by decide +kernel
theorem dX10_in_5 : decode cX10_in 5 = .ok (.iload_n 0, 1) := by decide +kernel
theorem dX10_in_6 : decode cX10_in 6 = .ok (.iload_n 2, 1) := by decide +kernel
theorem dX10_in_7 : decode cX10_in 7 = .ok (.if_icmp .gt 7, 3) := by decide +kernel
theorem dX10_in_10 : decode cX10_in 10 = .ok (.iconst 1, 1) := by decide +kernel
theorem dX10_in_11 : decode cX10_in 11 = .ok (.goto 4, 3) := by decide +kernel
theorem dX10_in_14 : decode cX10_in 14 = .ok (.iconst 0, 1) := by decide +kernel
theorem dX10_in_15 : decode cX10_in 15 = .ok (.ireturn, 1) := by decide +kernel
theorem dX10_holds_0 : decode cX10_holds 0 = .ok (.aload_n 0, 1) := by decide +kernel
theorem dX10_holds_1 : decode cX10_holds 1 = .ok (.iload_n 1, 1) := by decide +kernel
theorem dX10_holds_2 : decode cX10_holds 2 = .ok (.putfield 43, 3) := by decide +kernel
theorem dX10_holds_5 : decode cX10_holds 5 = .ok (.iload_n 1, 1) := by decide +kernel
theorem dX10_holds_6 : decode cX10_holds 6 = .ok (.ifCond .ne 7, 3) := by decide +kernel
theorem dX10_holds_9 : decode cX10_holds 9 = .ok (.iconst 1, 1) := by decide +kernel
theorem dX10_holds_10 : decode cX10_holds 10 = .ok (.goto 4, 3) := by decide +kernel
theorem dX10_holds_13 : decode cX10_holds 13 = .ok (.iconst 0, 1) := by decide +kernel
theorem dX10_holds_14 : decode cX10_holds 14 = .ok (.ireturn, 1) := by decide +kernel
set_option maxRecDepth 20000 in
theorem ggX10_isCell_X10_in : GoodIn wsX10_isCell wsX10_in := goodIn_r _ [4] (by decide +kernel) (by decide +kernel)
set_option maxRecDepth 20000 in
theorem gX10_isCell_X10_in : GoodIn wsX10_isCell (va_wsS RX10 47 yX10_in wsX10_in) := goodIn_app (goodIn_of _ (by decide +kernel)) ggX10_isCell_X10_in
theorem dX10_isCell_0 : decode cX10_isCell 0 = .ok (.iload_n 0, 1) := by decide +kernel
theorem dX10_isCell_1 : decode cX10_isCell 1 = .ok (.iconst 0, 1) := by decide +kernel
theorem dX10_isCell_2 : decode cX10_isCell 2 = .ok (.bipush 7, 2) := by decide +kernel
theorem dX10_isCell_4 : decode cX10_isCell 4 = .ok (.invokestatic 47, 3) := by decide +kernel
theorem dX10_isCell_7 : decode cX10_isCell 7 = .ok (.ifCond .eq 16, 3) := by decide +kernel
theorem dX10_isCell_10 : decode cX10_isCell 10 = .ok (.iload_n 1, 1) := by decide +kernel
theorem dX10_isCell_11 : decode cX10_isCell 11 = .ok (.iconst 0, 1) := by decide +kernel
theorem dX10_isCell_12 : decode cX10_isCell 12 = .ok (.iconst 5, 1) := by decide +kernel
theorem dX10_isCell_13 : decode cX10_isCell 13 = .ok (.invokestatic 47, 3) := by decide +kernel
theorem dX10_isCell_16 : decode cX10_isCell 16 = .ok (.ifCond .eq 7, 3) := by decide +kernel
theorem dX10_isCell_19 : decode cX10_isCell 19 = .ok (.iconst 1, 1) := by decide +kernel
theorem dX10_isCell_20 : decode cX10_isCell 20 = .ok (.goto 4, 3) := by decide +kernel
theorem dX10_isCell_23 : decode cX10_isCell 23 = .ok (.iconst 0, 1) := by decide +kernel
theorem dX10_isCell_24 : decode cX10_isCell 24 = .ok (.ireturn, 1) := by decide +kernel
theorem dX10_signalOf_0 : decode cX10_signalOf 0 = .ok (.aload_n 0, 1) := by decide +kernel
theorem dX10_signalOf_1 : decode cX10_signalOf 1 = .ok (.getfield 7, 3) := by decide +kernel
theorem dX10_signalOf_4 : decode cX10_signalOf 4 = .ok (.iconst 0, 1) := by decide +kernel
theorem dX10_signalOf_5 : decode cX10_signalOf 5 = .ok (.iload_n 1, 1) := by decide +kernel
theorem dX10_signalOf_6 : decode cX10_signalOf 6 = .ok (.iadd, 1) := by decide +kernel
theorem dX10_signalOf_7 : decode cX10_signalOf 7 = .ok (.iaload, 1) := by decide +kernel
theorem dX10_signalOf_8 : decode cX10_signalOf 8 = .ok (.aload_n 0, 1) := by decide +kernel
theorem dX10_signalOf_9 : decode cX10_signalOf 9 = .ok (.getfield 7, 3) := by decide +kernel
theorem dX10_signalOf_12 : decode cX10_signalOf 12 = .ok (.bipush 48, 2) := by decide +kernel
theorem dX10_signalOf_14 : decode cX10_signalOf 14 = .ok (.iload_n 1, 1) := by decide +kernel
theorem dX10_signalOf_15 : decode cX10_signalOf 15 = .ok (.iadd, 1) := by decide +kernel
theorem dX10_signalOf_16 : decode cX10_signalOf 16 = .ok (.iaload, 1) := by decide +kernel
theorem dX10_signalOf_17 : decode cX10_signalOf 17 = .ok (.isub, 1) := by decide +kernel
theorem dX10_signalOf_18 : decode cX10_signalOf 18 = .ok (.istore_n 2, 1) := by decide +kernel
theorem dX10_signalOf_19 : decode cX10_signalOf 19 = .ok (.iload_n 2, 1) := by decide +kernel
theorem dX10_signalOf_20 : decode cX10_signalOf 20 = .ok (.ifCond .ge 7, 3) := by decide +kernel
theorem dX10_signalOf_23 : decode cX10_signalOf 23 = .ok (.iconst 0, 1) := by decide +kernel
theorem dX10_signalOf_24 : decode cX10_signalOf 24 = .ok (.goto 4, 3) := by decide +kernel
theorem dX10_signalOf_27 : decode cX10_signalOf 27 = .ok (.iload_n 2, 1) := by decide +kernel
theorem dX10_signalOf_28 : decode cX10_signalOf 28 = .ok (.ireturn, 1) := by decide +kernel
set_option maxRecDepth 20000 in
theorem ggX10_isTouched_X10_signalOf : GoodIn wsX10_isTouched wsX10_signalOf := goodIn_r _ [6, 1, 7, 8, 9, 10, 11, 12, 13, 14, 15, 16, 17, 18, 19, 20, 21, 22, 23, 24, 25, 26] (by decide +kernel) (by decide +kernel)
set_option maxRecDepth 20000 in
theorem gX10_isTouched_X10_signalOf : GoodIn wsX10_isTouched (wsV RX10 51 RX10 yX10_signalOf wsX10_signalOf) := goodIn_app (goodIn_of _ (by decide +kernel)) ggX10_isTouched_X10_signalOf
theorem dX10_isTouched_0 : decode cX10_isTouched 0 = .ok (.aload_n 0, 1) := by decide +kernel
theorem dX10_isTouched_1 : decode cX10_isTouched 1 = .ok (.iload_n 1, 1) := by decide +kernel
theorem dX10_isTouched_2 : decode cX10_isTouched 2 = .ok (.invokevirtual 51, 3) := by decide +kernel
theorem dX10_isTouched_5 : decode cX10_isTouched 5 = .ok (.aload_n 0, 1) := by decide +kernel
theorem dX10_isTouched_6 : decode cX10_isTouched 6 = .ok (.getfield 7, 3) := by decide +kernel
theorem dX10_isTouched_9 : decode cX10_isTouched 9 = .ok (.bipush 96, 2) := by decide +kernel
theorem dX10_isTouched_11 : decode cX10_isTouched 11 = .ok (.iaload, 1) := by decide +kernel
theorem dX10_isTouched_12 : decode cX10_isTouched 12 = .ok (.if_icmp .lt 7, 3) := by decide +kernel
theorem dX10_isTouched_15 : decode cX10_isTouched 15 = .ok (.iconst 1, 1) := by decide +kernel
theorem dX10_isTouched_16 : decode cX10_isTouched 16 = .ok (.goto 4, 3) := by decide +kernel
theorem dX10_isTouched_19 : decode cX10_isTouched 19 = .ok (.iconst 0, 1) := by decide +kernel
theorem dX10_isTouched_20 : decode cX10_isTouched 20 = .ok (.ireturn, 1) := by decide +kernel
set_option maxRecDepth 20000 in
theorem ggX10_apart_X10_in : GoodIn wsX10_apart wsX10_in := goodIn_r _ [4] (by decide +kernel) (by decide +kernel)
set_option maxRecDepth 20000 in
theorem gX10_apart_X10_in : GoodIn wsX10_apart (va_wsS RX10 47 yX10_in wsX10_in) := goodIn_app (goodIn_of _ (by decide +kernel)) ggX10_apart_X10_in
theorem dX10_apart_0 : decode cX10_apart 0 = .ok (.iload_n 0, 1) := by decide +kernel
theorem dX10_apart_1 : decode cX10_apart 1 = .ok (.bipush 6, 2) := by decide +kernel
theorem dX10_apart_3 : decode cX10_apart 3 = .ok (.idiv, 1) := by decide +kernel
theorem dX10_apart_4 : decode cX10_apart 4 = .ok (.iload_n 1, 1) := by decide +kernel
theorem dX10_apart_5 : decode cX10_apart 5 = .ok (.bipush 6, 2) := by decide +kernel
theorem dX10_apart_7 : decode cX10_apart 7 = .ok (.idiv, 1) := by decide +kernel
theorem dX10_apart_8 : decode cX10_apart 8 = .ok (.isub, 1) := by decide +kernel
theorem dX10_apart_9 : decode cX10_apart 9 = .ok (.istore_n 2, 1) := by decide +kernel
theorem dX10_apart_10 : decode cX10_apart 10 = .ok (.iload_n 0, 1) := by decide +kernel
theorem dX10_apart_11 : decode cX10_apart 11 = .ok (.bipush 6, 2) := by decide +kernel
theorem dX10_apart_13 : decode cX10_apart 13 = .ok (.irem, 1) := by decide +kernel
theorem dX10_apart_14 : decode cX10_apart 14 = .ok (.iload_n 1, 1) := by decide +kernel
theorem dX10_apart_15 : decode cX10_apart 15 = .ok (.bipush 6, 2) := by decide +kernel
theorem dX10_apart_17 : decode cX10_apart 17 = .ok (.irem, 1) := by decide +kernel
theorem dX10_apart_18 : decode cX10_apart 18 = .ok (.isub, 1) := by decide +kernel
theorem dX10_apart_19 : decode cX10_apart 19 = .ok (.istore_n 3, 1) := by decide +kernel
theorem dX10_apart_20 : decode cX10_apart 20 = .ok (.iload_n 2, 1) := by decide +kernel
theorem dX10_apart_21 : decode cX10_apart 21 = .ok (.iconst (-1), 1) := by decide +kernel
theorem dX10_apart_22 : decode cX10_apart 22 = .ok (.iconst 1, 1) := by decide +kernel
theorem dX10_apart_23 : decode cX10_apart 23 = .ok (.invokestatic 47, 3) := by decide +kernel
theorem dX10_apart_26 : decode cX10_apart 26 = .ok (.ifCond .eq 22, 3) := by decide +kernel
theorem dX10_apart_29 : decode cX10_apart 29 = .ok (.iload_n 3, 1) := by decide +kernel
theorem dX10_apart_30 : decode cX10_apart 30 = .ok (.iconst (-1), 1) := by decide +kernel
theorem dX10_apart_31 : decode cX10_apart 31 = .ok (.iconst 1, 1) := by decide +kernel
theorem dX10_apart_32 : decode cX10_apart 32 = .ok (.invokestatic 47, 3) := by decide +kernel
theorem dX10_apart_35 : decode cX10_apart 35 = .ok (.ifCond .eq 13, 3) := by decide +kernel
theorem dX10_apart_38 : decode cX10_apart 38 = .ok (.iload_n 2, 1) := by decide +kernel
theorem dX10_apart_39 : decode cX10_apart 39 = .ok (.iload_n 2, 1) := by decide +kernel
theorem dX10_apart_40 : decode cX10_apart 40 = .ok (.imul, 1) := by decide +kernel
theorem dX10_apart_41 : decode cX10_apart 41 = .ok (.iload_n 3, 1) := by decide +kernel
theorem dX10_apart_42 : decode cX10_apart 42 = .ok (.iload_n 3, 1) := by decide +kernel
theorem dX10_apart_43 : decode cX10_apart 43 = .ok (.imul, 1) := by decide +kernel
theorem dX10_apart_44 : decode cX10_apart 44 = .ok (.iadd, 1) := by decide +kernel
theorem dX10_apart_45 : decode cX10_apart 45 = .ok (.goto 4, 3) := by decide +kernel
theorem dX10_apart_48 : decode cX10_apart 48 = .ok (.iconst 3, 1) := by decide +kernel
theorem dX10_apart_49 : decode cX10_apart 49 = .ok (.ireturn, 1) := by decide +kernel
set_option maxRecDepth 20000 in
theorem ggX10_findsRegions_X10_isTouched : GoodIn wsX10_findsRegions wsX10_isTouched := goodIn_r _ [8, 9, 10, 11, 12, 7, 13, 20, 21, 22, 23, 24, 25, 26, 27, 28, 29, 30, 31, 32, 33, 34, 35, 36, 37, 38, 39] (by decide +kernel) (by decide +kernel)
set_option maxRecDepth 20000 in
theorem gX10_findsRegions_X10_isTouched : GoodIn wsX10_findsRegions (wsV RX10 55 RX10 yX10_isTouched wsX10_isTouched) := goodIn_app (goodIn_of _ (by decide +kernel)) ggX10_findsRegions_X10_isTouched
set_option maxRecDepth 20000 in
theorem ggX10_findsRegions_X10_apart : GoodIn wsX10_findsRegions wsX10_apart := goodIn_r _ [16, 17, 18, 7, 19] (by decide +kernel) (by decide +kernel)
set_option maxRecDepth 20000 in
theorem gX10_findsRegions_X10_apart : GoodIn wsX10_findsRegions (va_wsS RX10 59 yX10_apart wsX10_apart) := goodIn_app (goodIn_of _ (by decide +kernel)) ggX10_findsRegions_X10_apart
set_option maxRecDepth 20000 in
theorem ggX10_findsRegions_X10_signalOf : GoodIn wsX10_findsRegions wsX10_signalOf := goodIn_r _ [13, 9, 20, 21, 22, 23, 24, 25, 26, 27, 28, 29, 30, 31, 32, 33, 34, 35, 36, 37, 38, 39] (by decide +kernel) (by decide +kernel)
set_option maxRecDepth 20000 in
theorem gX10_findsRegions_X10_signalOf : GoodIn wsX10_findsRegions (wsV RX10 51 RX10 yX10_signalOf wsX10_signalOf) := goodIn_app (goodIn_of _ (by decide +kernel)) ggX10_findsRegions_X10_signalOf
theorem dX10_findsRegions_0 : decode cX10_findsRegions 0 = .ok (.iconst 0, 1) := by decide +kernel
theorem dX10_findsRegions_1 : decode cX10_findsRegions 1 = .ok (.istore_n 1, 1) := by decide +kernel
theorem dX10_findsRegions_2 : decode cX10_findsRegions 2 = .ok (.iload_n 1, 1) := by decide +kernel
theorem dX10_findsRegions_3 : decode cX10_findsRegions 3 = .ok (.bipush 48, 2) := by decide +kernel
theorem dX10_findsRegions_5 : decode cX10_findsRegions 5 = .ok (.if_icmp .ge 42, 3) := by decide +kernel
theorem dX10_findsRegions_8 : decode cX10_findsRegions 8 = .ok (.aload_n 0, 1) := by decide +kernel
theorem dX10_findsRegions_9 : decode cX10_findsRegions 9 = .ok (.getfield 16, 3) := by decide +kernel
theorem dX10_findsRegions_12 : decode cX10_findsRegions 12 = .ok (.iload_n 1, 1) := by decide +kernel
theorem dX10_findsRegions_13 : decode cX10_findsRegions 13 = .ok (.aload_n 0, 1) := by decide +kernel
theorem dX10_findsRegions_14 : decode cX10_findsRegions 14 = .ok (.iload_n 1, 1) := by decide +kernel
theorem dX10_findsRegions_15 : decode cX10_findsRegions 15 = .ok (.invokevirtual 55, 3) := by decide +kernel
theorem dX10_findsRegions_18 : decode cX10_findsRegions 18 = .ok (.ifCond .eq 7, 3) := by decide +kernel
theorem dX10_findsRegions_21 : decode cX10_findsRegions 21 = .ok (.iload_n 1, 1) := by decide +kernel
theorem dX10_findsRegions_22 : decode cX10_findsRegions 22 = .ok (.goto 4, 3) := by decide +kernel
theorem dX10_findsRegions_25 : decode cX10_findsRegions 25 = .ok (.iconst (-1), 1) := by decide +kernel
theorem dX10_findsRegions_26 : decode cX10_findsRegions 26 = .ok (.iastore, 1) := by decide +kernel
theorem dX10_findsRegions_27 : decode cX10_findsRegions 27 = .ok (.aload_n 0, 1) := by decide +kernel
theorem dX10_findsRegions_28 : decode cX10_findsRegions 28 = .ok (.getfield 19, 3) := by decide +kernel
theorem dX10_findsRegions_31 : decode cX10_findsRegions 31 = .ok (.iload_n 1, 1) := by decide +kernel
theorem dX10_findsRegions_32 : decode cX10_findsRegions 32 = .ok (.iconst 0, 1) := by decide +kernel
theorem dX10_findsRegions_33 : decode cX10_findsRegions 33 = .ok (.iastore, 1) := by decide +kernel
theorem dX10_findsRegions_34 : decode cX10_findsRegions 34 = .ok (.aload_n 0, 1) := by decide +kernel
theorem dX10_findsRegions_35 : decode cX10_findsRegions 35 = .ok (.getfield 22, 3) := by decide +kernel
theorem dX10_findsRegions_38 : decode cX10_findsRegions 38 = .ok (.iload_n 1, 1) := by decide +kernel
theorem dX10_findsRegions_39 : decode cX10_findsRegions 39 = .ok (.iconst 0, 1) := by decide +kernel
theorem dX10_findsRegions_40 : decode cX10_findsRegions 40 = .ok (.iastore, 1) := by decide +kernel
theorem dX10_findsRegions_41 : decode cX10_findsRegions 41 = .ok (.iinc 1 1, 3) := by decide +kernel
theorem dX10_findsRegions_44 : decode cX10_findsRegions 44 = .ok (.goto (-42), 3) := by decide +kernel
theorem dX10_findsRegions_47 : decode cX10_findsRegions 47 = .ok (.iconst 1, 1) := by decide +kernel
theorem dX10_findsRegions_48 : decode cX10_findsRegions 48 = .ok (.istore_n 1, 1) := by decide +kernel
theorem dX10_findsRegions_49 : decode cX10_findsRegions 49 = .ok (.iload_n 1, 1) := by decide +kernel
theorem dX10_findsRegions_50 : decode cX10_findsRegions 50 = .ok (.ifCond .eq 130, 3) := by decide +kernel
theorem dX10_findsRegions_53 : decode cX10_findsRegions 53 = .ok (.iconst 0, 1) := by decide +kernel
theorem dX10_findsRegions_54 : decode cX10_findsRegions 54 = .ok (.istore_n 1, 1) := by decide +kernel
theorem dX10_findsRegions_55 : decode cX10_findsRegions 55 = .ok (.iconst 0, 1) := by decide +kernel
theorem dX10_findsRegions_56 : decode cX10_findsRegions 56 = .ok (.istore_n 2, 1) := by decide +kernel
theorem dX10_findsRegions_57 : decode cX10_findsRegions 57 = .ok (.iload_n 2, 1) := by decide +kernel
theorem dX10_findsRegions_58 : decode cX10_findsRegions 58 = .ok (.sipush 2304, 3) := by decide +kernel
theorem dX10_findsRegions_61 : decode cX10_findsRegions 61 = .ok (.if_icmp .ge 116, 3) := by decide +kernel
theorem dX10_findsRegions_64 : decode cX10_findsRegions 64 = .ok (.iload_n 2, 1) := by decide +kernel
theorem dX10_findsRegions_65 : decode cX10_findsRegions 65 = .ok (.bipush 48, 2) := by decide +kernel
theorem dX10_findsRegions_67 : decode cX10_findsRegions 67 = .ok (.idiv, 1) := by decide +kernel
theorem dX10_findsRegions_68 : decode cX10_findsRegions 68 = .ok (.istore_n 3, 1) := by decide +kernel
theorem dX10_findsRegions_69 : decode cX10_findsRegions 69 = .ok (.iload_n 2, 1) := by decide +kernel
