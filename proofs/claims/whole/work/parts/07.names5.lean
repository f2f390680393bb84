theorem dX10_changed_4 : decode cX10_changed 4 = .ok (.aload_n 0, 1) := by decide +kernel
theorem dX10_changed_5 : decode cX10_changed 5 = .ok (.getfield 7, 3) := by decide +kernel
theorem dX10_changed_8 : decode cX10_changed 8 = .ok (.iload_n 1, 1) := by decide +kernel
theorem dX10_changed_9 : decode cX10_changed 9 = .ok (.iaload, 1) := by decide +kernel
theorem dX10_changed_10 : decode cX10_changed 10 = .ok (.istore_n 3, 1) := by decide +kernel
theorem dX10_changed_11 : decode cX10_changed 11 = .ok (.aload_n 0, 1) := by decide +kernel
theorem dX10_changed_12 : decode cX10_changed 12 = .ok (.getfield 7, 3) := by decide +kernel
theorem dX10_changed_15 : decode cX10_changed 15 = .ok (.iload_n 1, 1) := by decide +kernel
theorem dX10_changed_16 : decode cX10_changed 16 = .ok (.iload_n 2, 1) := by decide +kernel
theorem dX10_changed_17 : decode cX10_changed 17 = .ok (.iastore, 1) := by decide +kernel
theorem dX10_changed_18 : decode cX10_changed 18 = .ok (.iload_n 3, 1) := by decide +kernel
theorem dX10_changed_19 : decode cX10_changed 19 = .ok (.ireturn, 1) := by decide +kernel
set_option maxRecDepth 20000 in
theorem ggX10_presses_X10_apart : GoodIn wsX10_presses wsX10_apart := goodIn_r _ [5, 6, 7, 4, 8] (by decide +kernel) (by decide +kernel)
set_option maxRecDepth 20000 in
theorem gX10_presses_X10_apart : GoodIn wsX10_presses (va_wsS RX10 59 yX10_apart wsX10_apart) := goodIn_app (goodIn_of _ (by decide +kernel)) ggX10_presses_X10_apart
theorem dX10_presses_0 : decode cX10_presses 0 = .ok (.iconst 0, 1) := by decide +kernel
theorem dX10_presses_1 : decode cX10_presses 1 = .ok (.istore_n 3, 1) := by decide +kernel
theorem dX10_presses_2 : decode cX10_presses 2 = .ok (.iload_n 3, 1) := by decide +kernel
theorem dX10_presses_3 : decode cX10_presses 3 = .ok (.bipush 48, 2) := by decide +kernel
theorem dX10_presses_5 : decode cX10_presses 5 = .ok (.if_icmp .ge 85, 3) := by decide +kernel
theorem dX10_presses_8 : decode cX10_presses 8 = .ok (.iload_n 1, 1) := by decide +kernel
theorem dX10_presses_9 : decode cX10_presses 9 = .ok (.iload_n 3, 1) := by decide +kernel
theorem dX10_presses_10 : decode cX10_presses 10 = .ok (.invokestatic 59, 3) := by decide +kernel
theorem dX10_presses_13 : decode cX10_presses 13 = .ok (.istore 4, 2) := by decide +kernel
theorem dX10_presses_15 : decode cX10_presses 15 = .ok (.aload_n 0, 1) := by decide +kernel
theorem dX10_presses_16 : decode cX10_presses 16 = .ok (.getfield 7, 3) := by decide +kernel
theorem dX10_presses_19 : decode cX10_presses 19 = .ok (.iconst 0, 1) := by decide +kernel
theorem dX10_presses_20 : decode cX10_presses 20 = .ok (.iload_n 3, 1) := by decide +kernel
theorem dX10_presses_21 : decode cX10_presses 21 = .ok (.iadd, 1) := by decide +kernel
theorem dX10_presses_22 : decode cX10_presses 22 = .ok (.iaload, 1) := by decide +kernel
theorem dX10_presses_23 : decode cX10_presses 23 = .ok (.iload 4, 2) := by decide +kernel
theorem dX10_presses_25 : decode cX10_presses 25 = .ok (.ifCond .ne 7, 3) := by decide +kernel
theorem dX10_presses_28 : decode cX10_presses 28 = .ok (.iload_n 2, 1) := by decide +kernel
theorem dX10_presses_29 : decode cX10_presses 29 = .ok (.goto 28, 3) := by decide +kernel
theorem dX10_presses_32 : decode cX10_presses 32 = .ok (.iload 4, 2) := by decide +kernel
theorem dX10_presses_34 : decode cX10_presses 34 = .ok (.iconst 1, 1) := by decide +kernel
theorem dX10_presses_35 : decode cX10_presses 35 = .ok (.if_icmp .ne 9, 3) := by decide +kernel
theorem dX10_presses_38 : decode cX10_presses 38 = .ok (.iload_n 2, 1) := by decide +kernel
theorem dX10_presses_39 : decode cX10_presses 39 = .ok (.iconst 2, 1) := by decide +kernel
theorem dX10_presses_40 : decode cX10_presses 40 = .ok (.idiv, 1) := by decide +kernel
theorem dX10_presses_41 : decode cX10_presses 41 = .ok (.goto 16, 3) := by decide +kernel
theorem dX10_presses_44 : decode cX10_presses 44 = .ok (.iload 4, 2) := by decide +kernel
theorem dX10_presses_46 : decode cX10_presses 46 = .ok (.iconst 2, 1) := by decide +kernel
theorem dX10_presses_47 : decode cX10_presses 47 = .ok (.if_icmp .ne 9, 3) := by decide +kernel
theorem dX10_presses_50 : decode cX10_presses 50 = .ok (.iload_n 2, 1) := by decide +kernel
theorem dX10_presses_51 : decode cX10_presses 51 = .ok (.iconst 4, 1) := by decide +kernel
theorem dX10_presses_52 : decode cX10_presses 52 = .ok (.idiv, 1) := by decide +kernel
theorem dX10_presses_53 : decode cX10_presses 53 = .ok (.goto 4, 3) := by decide +kernel
theorem dX10_presses_56 : decode cX10_presses 56 = .ok (.iconst 0, 1) := by decide +kernel
theorem dX10_presses_57 : decode cX10_presses 57 = .ok (.iadd, 1) := by decide +kernel
theorem dX10_presses_58 : decode cX10_presses 58 = .ok (.istore 5, 2) := by decide +kernel
theorem dX10_presses_60 : decode cX10_presses 60 = .ok (.aload_n 0, 1) := by decide +kernel
theorem dX10_presses_61 : decode cX10_presses 61 = .ok (.getfield 7, 3) := by decide +kernel
theorem dX10_presses_64 : decode cX10_presses 64 = .ok (.iconst 0, 1) := by decide +kernel
theorem dX10_presses_65 : decode cX10_presses 65 = .ok (.iload_n 3, 1) := by decide +kernel
theorem dX10_presses_66 : decode cX10_presses 66 = .ok (.iadd, 1) := by decide +kernel
theorem dX10_presses_67 : decode cX10_presses 67 = .ok (.iload 5, 2) := by decide +kernel
theorem dX10_presses_69 : decode cX10_presses 69 = .ok (.sipush 255, 3) := by decide +kernel
theorem dX10_presses_72 : decode cX10_presses 72 = .ok (.if_icmp .le 9, 3) := by decide +kernel
theorem dX10_presses_75 : decode cX10_presses 75 = .ok (.sipush 255, 3) := by decide +kernel
theorem dX10_presses_78 : decode cX10_presses 78 = .ok (.goto 5, 3) := by decide +kernel
theorem dX10_presses_81 : decode cX10_presses 81 = .ok (.iload 5, 2) := by decide +kernel
theorem dX10_presses_83 : decode cX10_presses 83 = .ok (.iastore, 1) := by decide +kernel
theorem dX10_presses_84 : decode cX10_presses 84 = .ok (.iinc 3 1, 3) := by decide +kernel
theorem dX10_presses_87 : decode cX10_presses 87 = .ok (.goto (-85), 3) := by decide +kernel
theorem dX10_presses_90 : decode cX10_presses 90 = .ok (.aload_n 0, 1) := by decide +kernel
theorem dX10_presses_91 : decode cX10_presses 91 = .ok (.getfield 7, 3) := by decide +kernel
theorem dX10_presses_94 : decode cX10_presses 94 = .ok (.iconst 0, 1) := by decide +kernel
theorem dX10_presses_95 : decode cX10_presses 95 = .ok (.iload_n 1, 1) := by decide +kernel
theorem dX10_presses_96 : decode cX10_presses 96 = .ok (.iadd, 1) := by decide +kernel
theorem dX10_presses_97 : decode cX10_presses 97 = .ok (.iaload, 1) := by decide +kernel
theorem dX10_presses_98 : decode cX10_presses 98 = .ok (.ireturn, 1) := by decide +kernel
theorem dX10_releases_0 : decode cX10_releases 0 = .ok (.iconst 0, 1) := by decide +kernel
theorem dX10_releases_1 : decode cX10_releases 1 = .ok (.istore_n 1, 1) := by decide +kernel
theorem dX10_releases_2 : decode cX10_releases 2 = .ok (.iconst 0, 1) := by decide +kernel
theorem dX10_releases_3 : decode cX10_releases 3 = .ok (.istore_n 2, 1) := by decide +kernel
theorem dX10_releases_4 : decode cX10_releases 4 = .ok (.iload_n 2, 1) := by decide +kernel
theorem dX10_releases_5 : decode cX10_releases 5 = .ok (.bipush 48, 2) := by decide +kernel
theorem dX10_releases_7 : decode cX10_releases 7 = .ok (.if_icmp .ge 37, 3) := by decide +kernel
theorem dX10_releases_10 : decode cX10_releases 10 = .ok (.iload_n 1, 1) := by decide +kernel
theorem dX10_releases_11 : decode cX10_releases 11 = .ok (.aload_n 0, 1) := by decide +kernel
theorem dX10_releases_12 : decode cX10_releases 12 = .ok (.getfield 7, 3) := by decide +kernel
theorem dX10_releases_15 : decode cX10_releases 15 = .ok (.iconst 0, 1) := by decide +kernel
theorem dX10_releases_16 : decode cX10_releases 16 = .ok (.iload_n 2, 1) := by decide +kernel
theorem dX10_releases_17 : decode cX10_releases 17 = .ok (.iadd, 1) := by decide +kernel
theorem dX10_releases_18 : decode cX10_releases 18 = .ok (.iaload, 1) := by decide +kernel
theorem dX10_releases_19 : decode cX10_releases 19 = .ok (.ifCond .ne 7, 3) := by decide +kernel
theorem dX10_releases_22 : decode cX10_releases 22 = .ok (.iconst 0, 1) := by decide +kernel
theorem dX10_releases_23 : decode cX10_releases 23 = .ok (.goto 4, 3) := by decide +kernel
theorem dX10_releases_26 : decode cX10_releases 26 = .ok (.iconst 1, 1) := by decide +kernel
theorem dX10_releases_27 : decode cX10_releases 27 = .ok (.iadd, 1) := by decide +kernel
theorem dX10_releases_28 : decode cX10_releases 28 = .ok (.istore_n 1, 1) := by decide +kernel
theorem dX10_releases_29 : decode cX10_releases 29 = .ok (.aload_n 0, 1) := by decide +kernel
theorem dX10_releases_30 : decode cX10_releases 30 = .ok (.getfield 7, 3) := by decide +kernel
theorem dX10_releases_33 : decode cX10_releases 33 = .ok (.iconst 0, 1) := by decide +kernel
theorem dX10_releases_34 : decode cX10_releases 34 = .ok (.iload_n 2, 1) := by decide +kernel
theorem dX10_releases_35 : decode cX10_releases 35 = .ok (.iadd, 1) := by decide +kernel
theorem dX10_releases_36 : decode cX10_releases 36 = .ok (.iconst 0, 1) := by decide +kernel
theorem dX10_releases_37 : decode cX10_releases 37 = .ok (.iastore, 1) := by decide +kernel
theorem dX10_releases_38 : decode cX10_releases 38 = .ok (.iinc 2 1, 3) := by decide +kernel
theorem dX10_releases_41 : decode cX10_releases 41 = .ok (.goto (-37), 3) := by decide +kernel
theorem dX10_releases_44 : decode cX10_releases 44 = .ok (.iload_n 1, 1) := by decide +kernel
theorem dX10_releases_45 : decode cX10_releases 45 = .ok (.ireturn, 1) := by decide +kernel
theorem dX10_calibrates_0 : decode cX10_calibrates 0 = .ok (.iconst 0, 1) := by decide +kernel
theorem dX10_calibrates_1 : decode cX10_calibrates 1 = .ok (.istore_n 1, 1) := by decide +kernel
theorem dX10_calibrates_2 : decode cX10_calibrates 2 = .ok (.iconst 0, 1) := by decide +kernel
theorem dX10_calibrates_3 : decode cX10_calibrates 3 = .ok (.istore_n 2, 1) := by decide +kernel
theorem dX10_calibrates_4 : decode cX10_calibrates 4 = .ok (.iload_n 2, 1) := by decide +kernel
theorem dX10_calibrates_5 : decode cX10_calibrates 5 = .ok (.bipush 48, 2) := by decide +kernel
theorem dX10_calibrates_7 : decode cX10_calibrates 7 = .ok (.if_icmp .ge 54, 3) := by decide +kernel
theorem dX10_calibrates_10 : decode cX10_calibrates 10 = .ok (.iload_n 1, 1) := by decide +kernel
theorem dX10_calibrates_11 : decode cX10_calibrates 11 = .ok (.aload_n 0, 1) := by decide +kernel
theorem dX10_calibrates_12 : decode cX10_calibrates 12 = .ok (.getfield 7, 3) := by decide +kernel
theorem dX10_calibrates_15 : decode cX10_calibrates 15 = .ok (.iconst 0, 1) := by decide +kernel
theorem dX10_calibrates_16 : decode cX10_calibrates 16 = .ok (.iload_n 2, 1) := by decide +kernel
theorem dX10_calibrates_17 : decode cX10_calibrates 17 = .ok (.iadd, 1) := by decide +kernel
theorem dX10_calibrates_18 : decode cX10_calibrates 18 = .ok (.iaload, 1) := by decide +kernel
theorem dX10_calibrates_19 : decode cX10_calibrates 19 = .ok (.aload_n 0, 1) := by decide +kernel
theorem dX10_calibrates_20 : decode cX10_calibrates 20 = .ok (.getfield 7, 3) := by decide +kernel
theorem dX10_calibrates_23 : decode cX10_calibrates 23 = .ok (.bipush 48, 2) := by decide +kernel
theorem dX10_calibrates_25 : decode cX10_calibrates 25 = .ok (.iload_n 2, 1) := by decide +kernel
theorem dX10_calibrates_26 : decode cX10_calibrates 26 = .ok (.iadd, 1) := by decide +kernel
theorem dX10_calibrates_27 : decode cX10_calibrates 27 = .ok (.iaload, 1) := by decide +kernel
theorem dX10_calibrates_28 : decode cX10_calibrates 28 = .ok (.if_icmp .ne 7, 3) := by decide +kernel
theorem dX10_calibrates_31 : decode cX10_calibrates 31 = .ok (.iconst 0, 1) := by decide +kernel
theorem dX10_calibrates_32 : decode cX10_calibrates 32 = .ok (.goto 4, 3) := by decide +kernel
theorem dX10_calibrates_35 : decode cX10_calibrates 35 = .ok (.iconst 1, 1) := by decide +kernel
theorem dX10_calibrates_36 : decode cX10_calibrates 36 = .ok (.iadd, 1) := by decide +kernel
theorem dX10_calibrates_37 : decode cX10_calibrates 37 = .ok (.istore_n 1, 1) := by decide +kernel
theorem dX10_calibrates_38 : decode cX10_calibrates 38 = .ok (.aload_n 0, 1) := by decide +kernel
theorem dX10_calibrates_39 : decode cX10_calibrates 39 = .ok (.getfield 7, 3) := by decide +kernel
theorem dX10_calibrates_42 : decode cX10_calibrates 42 = .ok (.bipush 48, 2) := by decide +kernel
theorem dX10_calibrates_44 : decode cX10_calibrates 44 = .ok (.iload_n 2, 1) := by decide +kernel
theorem dX10_calibrates_45 : decode cX10_calibrates 45 = .ok (.iadd, 1) := by decide +kernel
theorem dX10_calibrates_46 : decode cX10_calibrates 46 = .ok (.aload_n 0, 1) := by decide +kernel
theorem dX10_calibrates_47 : decode cX10_calibrates 47 = .ok (.getfield 7, 3) := by decide +kernel
theorem dX10_calibrates_50 : decode cX10_calibrates 50 = .ok (.iconst 0, 1) := by decide +kernel
theorem dX10_calibrates_51 : decode cX10_calibrates 51 = .ok (.iload_n 2, 1) := by decide +kernel
theorem dX10_calibrates_52 : decode cX10_calibrates 52 = .ok (.iadd, 1) := by decide +kernel
theorem dX10_calibrates_53 : decode cX10_calibrates 53 = .ok (.iaload, 1) := by decide +kernel
theorem dX10_calibrates_54 : decode cX10_calibrates 54 = .ok (.iastore, 1) := by decide +kernel
theorem dX10_calibrates_55 : decode cX10_calibrates 55 = .ok (.iinc 2 1, 3) := by decide +kernel
theorem dX10_calibrates_58 : decode cX10_calibrates 58 = .ok (.goto (-54), 3) := by decide +kernel
theorem dX10_calibrates_61 : decode cX10_calibrates 61 = .ok (.iload_n 1, 1) := by decide +kernel
theorem dX10_calibrates_62 : decode cX10_calibrates 62 = .ok (.ireturn, 1) := by decide +kernel
set_option maxRecDepth 20000 in
theorem ggX10_setRaw_X10_isCell : GoodIn wsX10_setRaw wsX10_isCell := goodIn_r _ [4, 5, 6, 3, 7] (by decide +kernel) (by decide +kernel)
set_option maxRecDepth 20000 in
theorem gX10_setRaw_X10_isCell : GoodIn wsX10_setRaw (va_wsS RX10 128 yX10_isCell wsX10_isCell) := goodIn_app (goodIn_of _ (by decide +kernel)) ggX10_setRaw_X10_isCell
set_option maxRecDepth 20000 in
theorem ggX10_setRaw_X10_in : GoodIn wsX10_setRaw wsX10_in := goodIn_r _ [7] (by decide +kernel) (by decide +kernel)
set_option maxRecDepth 20000 in
theorem gX10_setRaw_X10_in : GoodIn wsX10_setRaw (va_wsS RX10 47 yX10_in wsX10_in) := goodIn_app (goodIn_of _ (by decide +kernel)) ggX10_setRaw_X10_in
set_option maxRecDepth 20000 in
theorem ggX10_setRaw_X10_holds : GoodIn wsX10_setRaw wsX10_holds := goodIn_r _ [11, 12, 27, 28, 29, 30, 31, 32, 33, 34, 35, 36, 37, 38, 39, 40, 41, 42, 43, 44, 45, 46] (by decide +kernel) (by decide +kernel)
set_option maxRecDepth 20000 in
theorem gX10_setRaw_X10_holds : GoodIn wsX10_setRaw (wsV RX10 132 RX10 yX10_holds wsX10_holds) := goodIn_app (goodIn_of _ (by decide +kernel)) ggX10_setRaw_X10_holds
set_option maxRecDepth 20000 in
theorem ggX10_setRaw_X10_changed : GoodIn wsX10_setRaw wsX10_changed := goodIn_r _ [16, 17, 18, 19, 20, 3, 21, 22, 23, 24, 25, 26, 27, 28, 29, 30, 31, 32, 33, 34, 35, 36, 37, 38, 39, 40, 41, 42, 43, 44, 45, 46] (by decide +kernel) (by decide +kernel)
set_option maxRecDepth 20000 in
theorem gX10_setRaw_X10_changed : GoodIn wsX10_setRaw (wsV RX10 135 RX10 yX10_changed wsX10_changed) := goodIn_app (goodIn_of _ (by decide +kernel)) ggX10_setRaw_X10_changed
theorem dX10_setRaw_0 : decode cX10_setRaw 0 = .ok (.aload_n 0, 1) := by decide +kernel
theorem dX10_setRaw_1 : decode cX10_setRaw 1 = .ok (.iload_n 1, 1) := by decide +kernel
theorem dX10_setRaw_2 : decode cX10_setRaw 2 = .ok (.iload_n 2, 1) := by decide +kernel
theorem dX10_setRaw_3 : decode cX10_setRaw 3 = .ok (.invokestatic 128, 3) := by decide +kernel
theorem dX10_setRaw_6 : decode cX10_setRaw 6 = .ok (.ifCond .ne 7, 3) := by decide +kernel
theorem dX10_setRaw_9 : decode cX10_setRaw 9 = .ok (.iconst 1, 1) := by decide +kernel
theorem dX10_setRaw_10 : decode cX10_setRaw 10 = .ok (.goto 19, 3) := by decide +kernel
theorem dX10_setRaw_13 : decode cX10_setRaw 13 = .ok (.iload_n 3, 1) := by decide +kernel
theorem dX10_setRaw_14 : decode cX10_setRaw 14 = .ok (.iconst 0, 1) := by decide +kernel
theorem dX10_setRaw_15 : decode cX10_setRaw 15 = .ok (.sipush 255, 3) := by decide +kernel
theorem dX10_setRaw_18 : decode cX10_setRaw 18 = .ok (.invokestatic 47, 3) := by decide +kernel
theorem dX10_setRaw_21 : decode cX10_setRaw 21 = .ok (.ifCond .ne 7, 3) := by decide +kernel
theorem dX10_setRaw_24 : decode cX10_setRaw 24 = .ok (.iconst 2, 1) := by decide +kernel
theorem dX10_setRaw_25 : decode cX10_setRaw 25 = .ok (.goto 4, 3) := by decide +kernel
theorem dX10_setRaw_28 : decode cX10_setRaw 28 = .ok (.iconst 0, 1) := by decide +kernel
theorem dX10_setRaw_29 : decode cX10_setRaw 29 = .ok (.invokevirtual 132, 3) := by decide +kernel
theorem dX10_setRaw_32 : decode cX10_setRaw 32 = .ok (.ifCond .eq 19, 3) := by decide +kernel
theorem dX10_setRaw_35 : decode cX10_setRaw 35 = .ok (.aload_n 0, 1) := by decide +kernel
theorem dX10_setRaw_36 : decode cX10_setRaw 36 = .ok (.iconst 0, 1) := by decide +kernel
theorem dX10_setRaw_37 : decode cX10_setRaw 37 = .ok (.bipush 6, 2) := by decide +kernel
theorem dX10_setRaw_39 : decode cX10_setRaw 39 = .ok (.iload_n 1, 1) := by decide +kernel
theorem dX10_setRaw_40 : decode cX10_setRaw 40 = .ok (.imul, 1) := by decide +kernel
theorem dX10_setRaw_41 : decode cX10_setRaw 41 = .ok (.iadd, 1) := by decide +kernel
theorem dX10_setRaw_42 : decode cX10_setRaw 42 = .ok (.iload_n 2, 1) := by decide +kernel
theorem dX10_setRaw_43 : decode cX10_setRaw 43 = .ok (.iadd, 1) := by decide +kernel
theorem dX10_setRaw_44 : decode cX10_setRaw 44 = .ok (.iload_n 3, 1) := by decide +kernel
theorem dX10_setRaw_45 : decode cX10_setRaw 45 = .ok (.invokevirtual 135, 3) := by decide +kernel
theorem dX10_setRaw_48 : decode cX10_setRaw 48 = .ok (.goto 4, 3) := by decide +kernel
theorem dX10_setRaw_51 : decode cX10_setRaw 51 = .ok (.iconst 0, 1) := by decide +kernel
theorem dX10_setRaw_52 : decode cX10_setRaw 52 = .ok (.ireturn, 1) := by decide +kernel
set_option maxRecDepth 20000 in
theorem ggX10_press_X10_isCell : GoodIn wsX10_press wsX10_isCell := goodIn_r _ [4, 5, 6, 3, 7] (by decide +kernel) (by decide +kernel)
set_option maxRecDepth 20000 in
theorem gX10_press_X10_isCell : GoodIn wsX10_press (va_wsS RX10 128 yX10_isCell wsX10_isCell) := goodIn_app (goodIn_of _ (by decide +kernel)) ggX10_press_X10_isCell
set_option maxRecDepth 20000 in
theorem ggX10_press_X10_in : GoodIn wsX10_press wsX10_in := goodIn_r _ [7] (by decide +kernel) (by decide +kernel)
set_option maxRecDepth 20000 in
theorem gX10_press_X10_in : GoodIn wsX10_press (va_wsS RX10 47 yX10_in wsX10_in) := goodIn_app (goodIn_of _ (by decide +kernel)) ggX10_press_X10_in
set_option maxRecDepth 20000 in
theorem ggX10_press_X10_holds : GoodIn wsX10_press wsX10_holds := goodIn_r _ [11, 12, 30, 31, 32, 33, 34, 35, 36, 37, 38, 39, 40, 41, 42, 43, 44, 45, 46, 47, 48, 49] (by decide +kernel) (by decide +kernel)
set_option maxRecDepth 20000 in
theorem gX10_press_X10_holds : GoodIn wsX10_press (wsV RX10 132 RX10 yX10_holds wsX10_holds) := goodIn_app (goodIn_of _ (by decide +kernel)) ggX10_press_X10_holds
set_option maxRecDepth 20000 in
theorem ggX10_press_X10_keeps : GoodIn wsX10_press wsX10_keeps := goodIn_r _ [16, 17, 18, 19, 20, 3, 21, 22, 30, 31, 32, 33, 34, 35, 36, 37, 38, 39, 40, 41, 42, 43, 44, 45, 46, 47, 48, 49] (by decide +kernel) (by decide +kernel)
set_option maxRecDepth 20000 in
theorem gX10_press_X10_keeps : GoodIn wsX10_press (wsV RX10 125 RX10 yX10_keeps wsX10_keeps) := goodIn_app (goodIn_of _ (by decide +kernel)) ggX10_press_X10_keeps
set_option maxRecDepth 20000 in
theorem ggX10_press_X10_presses : GoodIn wsX10_press wsX10_presses := goodIn_r _ [26, 22, 27, 28, 3, 29, 5, 6, 7, 30, 31, 32, 33, 34, 35, 36, 37, 38, 39, 40, 41, 42, 43, 44, 45, 46, 47, 48, 49] (by decide +kernel) (by decide +kernel)
set_option maxRecDepth 20000 in
theorem gX10_press_X10_presses : GoodIn wsX10_press (wsV RX10 138 RX10 yX10_presses wsX10_presses) := goodIn_app (goodIn_of _ (by decide +kernel)) ggX10_press_X10_presses
theorem dX10_press_0 : decode cX10_press 0 = .ok (.aload_n 0, 1) := by decide +kernel
theorem dX10_press_1 : decode cX10_press 1 = .ok (.iload_n 1, 1) := by decide +kernel
theorem dX10_press_2 : decode cX10_press 2 = .ok (.iload_n 2, 1) := by decide +kernel
theorem dX10_press_3 : decode cX10_press 3 = .ok (.invokestatic 128, 3) := by decide +kernel
theorem dX10_press_6 : decode cX10_press 6 = .ok (.ifCond .ne 7, 3) := by decide +kernel
theorem dX10_press_9 : decode cX10_press 9 = .ok (.iconst 1, 1) := by decide +kernel
theorem dX10_press_10 : decode cX10_press 10 = .ok (.goto 19, 3) := by decide +kernel
theorem dX10_press_13 : decode cX10_press 13 = .ok (.iload_n 3, 1) := by decide +kernel
theorem dX10_press_14 : decode cX10_press 14 = .ok (.iconst 1, 1) := by decide +kernel
theorem dX10_press_15 : decode cX10_press 15 = .ok (.sipush 255, 3) := by decide +kernel
theorem dX10_press_18 : decode cX10_press 18 = .ok (.invokestatic 47, 3) := by decide +kernel
theorem dX10_press_21 : decode cX10_press 21 = .ok (.ifCond .ne 7, 3) := by decide +kernel
theorem dX10_press_24 : decode cX10_press 24 = .ok (.iconst 2, 1) := by decide +kernel
theorem dX10_press_25 : decode cX10_press 25 = .ok (.goto 4, 3) := by decide +kernel
theorem dX10_press_28 : decode cX10_press 28 = .ok (.iconst 0, 1) := by decide +kernel
theorem dX10_press_29 : decode cX10_press 29 = .ok (.invokevirtual 132, 3) := by decide +kernel
theorem dX10_press_32 : decode cX10_press 32 = .ok (.ifCond .ne 5, 3) := by decide +kernel
theorem dX10_press_35 : decode cX10_press 35 = .ok (.iconst 0, 1) := by decide +kernel
theorem dX10_press_36 : decode cX10_press 36 = .ok (.ireturn, 1) := by decide +kernel
theorem dX10_press_37 : decode cX10_press 37 = .ok (.aload_n 0, 1) := by decide +kernel
theorem dX10_press_38 : decode cX10_press 38 = .ok (.invokevirtual 125, 3) := by decide +kernel
theorem dX10_press_41 : decode cX10_press 41 = .ok (.aload_n 0, 1) := by decide +kernel
theorem dX10_press_42 : decode cX10_press 42 = .ok (.bipush 6, 2) := by decide +kernel
theorem dX10_press_44 : decode cX10_press 44 = .ok (.iload_n 1, 1) := by decide +kernel
theorem dX10_press_45 : decode cX10_press 45 = .ok (.imul, 1) := by decide +kernel
theorem dX10_press_46 : decode cX10_press 46 = .ok (.iload_n 2, 1) := by decide +kernel
theorem dX10_press_47 : decode cX10_press 47 = .ok (.iadd, 1) := by decide +kernel
theorem dX10_press_48 : decode cX10_press 48 = .ok (.iload_n 3, 1) := by decide +kernel
theorem dX10_press_49 : decode cX10_press 49 = .ok (.invokevirtual 138, 3) := by decide +kernel
theorem dX10_press_52 : decode cX10_press 52 = .ok (.ireturn, 1) := by decide +kernel
set_option maxRecDepth 20000 in
theorem ggX10_release_X10_keeps : GoodIn wsX10_release wsX10_keeps := goodIn_r _ [6, 7, 8, 9, 10, 5, 11, 12, 17, 18, 19, 20, 21, 22, 23, 24, 25, 26, 27, 28, 29, 30, 31, 32, 33, 34, 35, 36] (by decide +kernel) (by decide +kernel)
set_option maxRecDepth 20000 in
theorem gX10_release_X10_keeps : GoodIn wsX10_release (wsV RX10 125 RX10 yX10_keeps wsX10_keeps) := goodIn_app (goodIn_of _ (by decide +kernel)) ggX10_release_X10_keeps
set_option maxRecDepth 20000 in
theorem ggX10_release_X10_releases : GoodIn wsX10_release wsX10_releases := goodIn_r _ [16, 12, 17, 18, 19, 20, 21, 22, 23, 24, 25, 26, 27, 28, 29, 30, 31, 32, 33, 34, 35, 36] (by decide +kernel) (by decide +kernel)
set_option maxRecDepth 20000 in
theorem gX10_release_X10_releases : GoodIn wsX10_release (wsV RX10 141 RX10 yX10_releases wsX10_releases) := goodIn_app (goodIn_of _ (by decide +kernel)) ggX10_release_X10_releases
theorem dX10_release_0 : decode cX10_release 0 = .ok (.aload_n 0, 1) := by decide +kernel
theorem dX10_release_1 : decode cX10_release 1 = .ok (.iconst 0, 1) := by decide +kernel
theorem dX10_release_2 : decode cX10_release 2 = .ok (.putfield 43, 3) := by decide +kernel
theorem dX10_release_5 : decode cX10_release 5 = .ok (.aload_n 0, 1) := by decide +kernel
theorem dX10_release_6 : decode cX10_release 6 = .ok (.invokevirtual 125, 3) := by decide +kernel
theorem dX10_release_9 : decode cX10_release 9 = .ok (.aload_n 0, 1) := by decide +kernel
theorem dX10_release_10 : decode cX10_release 10 = .ok (.invokevirtual 141, 3) := by decide +kernel
theorem dX10_release_13 : decode cX10_release 13 = .ok (.ireturn, 1) := by decide +kernel
set_option maxRecDepth 20000 in
theorem ggX10_calibrate_X10_keeps : GoodIn wsX10_calibrate wsX10_keeps := goodIn_r _ [6, 7, 8, 9, 10, 5, 11, 12, 17, 18, 19, 20, 21, 22, 23, 24, 25, 26, 27, 28, 29, 30, 31, 32, 33, 34, 35, 36] (by decide +kernel) (by decide +kernel)
set_option maxRecDepth 20000 in
theorem gX10_calibrate_X10_keeps : GoodIn wsX10_calibrate (wsV RX10 125 RX10 yX10_keeps wsX10_keeps) := goodIn_app (goodIn_of _ (by decide +kernel)) ggX10_calibrate_X10_keeps
set_option maxRecDepth 20000 in
theorem ggX10_calibrate_X10_calibrates : GoodIn wsX10_calibrate wsX10_calibrates := goodIn_r _ [16, 12, 17, 18, 19, 20, 21, 22, 23, 24, 25, 26, 27, 28, 29, 30, 31, 32, 33, 34, 35, 36] (by decide +kernel) (by decide +kernel)
set_option maxRecDepth 20000 in
theorem gX10_calibrate_X10_calibrates : GoodIn wsX10_calibrate (wsV RX10 144 RX10 yX10_calibrates wsX10_calibrates) := goodIn_app (goodIn_of _ (by decide +kernel)) ggX10_calibrate_X10_calibrates
theorem dX10_calibrate_0 : decode cX10_calibrate 0 = .ok (.aload_n 0, 1) := by decide +kernel
theorem dX10_calibrate_1 : decode cX10_calibrate 1 = .ok (.iconst 0, 1) := by decide +kernel
theorem dX10_calibrate_2 : decode cX10_calibrate 2 = .ok (.putfield 43, 3) := by decide +kernel
theorem dX10_calibrate_5 : decode cX10_calibrate 5 = .ok (.aload_n 0, 1) := by decide +kernel
theorem dX10_calibrate_6 : decode cX10_calibrate 6 = .ok (.invokevirtual 125, 3) := by decide +kernel
theorem dX10_calibrate_9 : decode cX10_calibrate 9 = .ok (.aload_n 0, 1) := by decide +kernel
theorem dX10_calibrate_10 : decode cX10_calibrate 10 = .ok (.invokevirtual 144, 3) := by decide +kernel
theorem dX10_calibrate_13 : decode cX10_calibrate 13 = .ok (.ireturn, 1) := by decide +kernel
theorem dX10_most_0 : decode cX10_most 0 = .ok (.iload_n 0, 1) := by decide +kernel
theorem dX10_most_1 : decode cX10_most 1 = .ok (.tableswitch 45 0 3 #[31, 34, 37, 41], 31) := by decide +kernel
theorem dX10_most_32 : decode cX10_most 32 = .ok (.bipush 100, 2) := by decide +kernel
theorem dX10_most_34 : decode cX10_most 34 = .ok (.ireturn, 1) := by decide +kernel
theorem dX10_most_35 : decode cX10_most 35 = .ok (.bipush 48, 2) := by decide +kernel
theorem dX10_most_37 : decode cX10_most 37 = .ok (.ireturn, 1) := by decide +kernel
theorem dX10_most_38 : decode cX10_most 38 = .ok (.sipush 255, 3) := by decide +kernel
theorem dX10_most_41 : decode cX10_most 41 = .ok (.ireturn, 1) := by decide +kernel
theorem dX10_most_42 : decode cX10_most 42 = .ok (.sipush 1000, 3) := by decide +kernel
theorem dX10_most_45 : decode cX10_most 45 = .ok (.ireturn, 1) := by decide +kernel
theorem dX10_most_46 : decode cX10_most 46 = .ok (.iconst 5, 1) := by decide +kernel
theorem dX10_most_47 : decode cX10_most 47 = .ok (.ireturn, 1) := by decide +kernel
set_option maxRecDepth 20000 in
theorem ggX10_isSetting_X10_in : GoodIn wsX10_isSetting wsX10_in := goodIn_r _ [4] (by decide +kernel) (by decide +kernel)
set_option maxRecDepth 20000 in
theorem gX10_isSetting_X10_in : GoodIn wsX10_isSetting (va_wsS RX10 47 yX10_in wsX10_in) := goodIn_app (goodIn_of _ (by decide +kernel)) ggX10_isSetting_X10_in
theorem dX10_isSetting_0 : decode cX10_isSetting 0 = .ok (.iload_n 0, 1) := by decide +kernel
theorem dX10_isSetting_1 : decode cX10_isSetting 1 = .ok (.iconst 0, 1) := by decide +kernel
theorem dX10_isSetting_2 : decode cX10_isSetting 2 = .ok (.iconst 4, 1) := by decide +kernel
theorem dX10_isSetting_3 : decode cX10_isSetting 3 = .ok (.invokestatic 47, 3) := by decide +kernel
theorem dX10_isSetting_6 : decode cX10_isSetting 6 = .ok (.ireturn, 1) := by decide +kernel
set_option maxRecDepth 20000 in
theorem ggX10_set_X10_isSetting : GoodIn wsX10_set wsX10_isSetting := goodIn_r _ [4, 5, 6, 3, 7] (by decide +kernel) (by decide +kernel)
set_option maxRecDepth 20000 in
theorem gX10_set_X10_isSetting : GoodIn wsX10_set (va_wsS RX10 147 yX10_isSetting wsX10_isSetting) := goodIn_app (goodIn_of _ (by decide +kernel)) ggX10_set_X10_isSetting
set_option maxRecDepth 20000 in
theorem ggX10_set_X10_most : GoodIn wsX10_set wsX10_most := goodIn_r _ [10] (by decide +kernel) (by decide +kernel)
set_option maxRecDepth 20000 in
theorem gX10_set_X10_most : GoodIn wsX10_set (va_wsS RX10 150 yX10_most wsX10_most) := goodIn_app (goodIn_of _ (by decide +kernel)) ggX10_set_X10_most
set_option maxRecDepth 20000 in
theorem ggX10_set_X10_in : GoodIn wsX10_set wsX10_in := goodIn_r _ [7] (by decide +kernel) (by decide +kernel)
set_option maxRecDepth 20000 in
theorem gX10_set_X10_in : GoodIn wsX10_set (va_wsS RX10 47 yX10_in wsX10_in) := goodIn_app (goodIn_of _ (by decide +kernel)) ggX10_set_X10_in
set_option maxRecDepth 20000 in
theorem ggX10_set_X10_holds : GoodIn wsX10_set wsX10_holds := goodIn_r _ [14, 15, 30, 31, 32, 33, 34, 35, 36, 37, 38, 39, 40, 41, 42, 43, 44, 45, 46, 47, 48, 49] (by decide +kernel) (by decide +kernel)
set_option maxRecDepth 20000 in
theorem gX10_set_X10_holds : GoodIn wsX10_set (wsV RX10 132 RX10 yX10_holds wsX10_holds) := goodIn_app (goodIn_of _ (by decide +kernel)) ggX10_set_X10_holds
set_option maxRecDepth 20000 in
theorem ggX10_set_X10_changed : GoodIn wsX10_set wsX10_changed := goodIn_r _ [19, 20, 21, 22, 23, 3, 24, 25, 26, 27, 28, 29, 30, 31, 32, 33, 34, 35, 36, 37, 38, 39, 40, 41, 42, 43, 44, 45, 46, 47, 48, 49] (by decide +kernel) (by decide +kernel)
set_option maxRecDepth 20000 in
theorem gX10_set_X10_changed : GoodIn wsX10_set (wsV RX10 135 RX10 yX10_changed wsX10_changed) := goodIn_app (goodIn_of _ (by decide +kernel)) ggX10_set_X10_changed
theorem dX10_set_0 : decode cX10_set 0 = .ok (.iload_n 1, 1) := by decide +kernel
theorem dX10_set_1 : decode cX10_set 1 = .ok (.invokestatic 147, 3) := by decide +kernel
theorem dX10_set_4 : decode cX10_set 4 = .ok (.istore_n 3, 1) := by decide +kernel
theorem dX10_set_5 : decode cX10_set 5 = .ok (.aload_n 0, 1) := by decide +kernel
theorem dX10_set_6 : decode cX10_set 6 = .ok (.iload_n 3, 1) := by decide +kernel
theorem dX10_set_7 : decode cX10_set 7 = .ok (.ifCond .ne 7, 3) := by decide +kernel
theorem dX10_set_10 : decode cX10_set 10 = .ok (.iconst 1, 1) := by decide +kernel
theorem dX10_set_11 : decode cX10_set 11 = .ok (.goto 29, 3) := by decide +kernel
theorem dX10_set_14 : decode cX10_set 14 = .ok (.iload_n 2, 1) := by decide +kernel
theorem dX10_set_15 : decode cX10_set 15 = .ok (.iload_n 1, 1) := by decide +kernel
theorem dX10_set_16 : decode cX10_set 16 = .ok (.iconst 4, 1) := by decide +kernel
theorem dX10_set_17 : decode cX10_set 17 = .ok (.if_icmp .ne 7, 3) := by decide +kernel
theorem dX10_set_20 : decode cX10_set 20 = .ok (.iconst 0, 1) := by decide +kernel
theorem dX10_set_21 : decode cX10_set 21 = .ok (.goto 4, 3) := by decide +kernel
theorem dX10_set_24 : decode cX10_set 24 = .ok (.iconst 1, 1) := by decide +kernel
theorem dX10_set_25 : decode cX10_set 25 = .ok (.iload_n 1, 1) := by decide +kernel
theorem dX10_set_26 : decode cX10_set 26 = .ok (.invokestatic 150, 3) := by decide +kernel
theorem dX10_set_29 : decode cX10_set 29 = .ok (.invokestatic 47, 3) := by decide +kernel
theorem dX10_set_32 : decode cX10_set 32 = .ok (.ifCond .ne 7, 3) := by decide +kernel
theorem dX10_set_35 : decode cX10_set 35 = .ok (.iconst 2, 1) := by decide +kernel
theorem dX10_set_36 : decode cX10_set 36 = .ok (.goto 4, 3) := by decide +kernel
theorem dX10_set_39 : decode cX10_set 39 = .ok (.iconst 0, 1) := by decide +kernel
theorem dX10_set_40 : decode cX10_set 40 = .ok (.invokevirtual 132, 3) := by decide +kernel
theorem dX10_set_43 : decode cX10_set 43 = .ok (.ifCond .eq 15, 3) := by decide +kernel
theorem dX10_set_46 : decode cX10_set 46 = .ok (.aload_n 0, 1) := by decide +kernel
theorem dX10_set_47 : decode cX10_set 47 = .ok (.bipush 96, 2) := by decide +kernel
theorem dX10_set_49 : decode cX10_set 49 = .ok (.iload_n 1, 1) := by decide +kernel
theorem dX10_set_50 : decode cX10_set 50 = .ok (.iadd, 1) := by decide +kernel
theorem dX10_set_51 : decode cX10_set 51 = .ok (.iload_n 2, 1) := by decide +kernel
theorem dX10_set_52 : decode cX10_set 52 = .ok (.invokevirtual 135, 3) := by decide +kernel
theorem dX10_set_55 : decode cX10_set 55 = .ok (.goto 4, 3) := by decide +kernel
theorem dX10_set_58 : decode cX10_set 58 = .ok (.iconst 0, 1) := by decide +kernel
theorem dX10_set_59 : decode cX10_set 59 = .ok (.ireturn, 1) := by decide +kernel
set_option maxRecDepth 20000 in
theorem ggX10_scan_X10_keeps : GoodIn wsX10_scan wsX10_keeps := goodIn_r _ [6, 7, 8, 9, 10, 5, 11, 12, 105, 106, 107, 108, 109, 110, 111, 112, 113, 114, 115, 116, 117, 118, 119, 120, 121, 122, 123, 124] (by decide +kernel) (by decide +kernel)
set_option maxRecDepth 20000 in
theorem gX10_scan_X10_keeps : GoodIn wsX10_scan (wsV RX10 125 RX10 yX10_keeps wsX10_keeps) := goodIn_app (goodIn_of _ (by decide +kernel)) ggX10_scan_X10_keeps
set_option maxRecDepth 20000 in
theorem ggX10_scan_X10_scans : GoodIn wsX10_scan wsX10_scans := goodIn_r _ [16, 17, 12, 18, 19, 20, 21, 5, 22, 23, 24, 25, 26, 27, 28, 29, 30, 31, 32, 33, 34, 35, 36, 37, 38, 39, 40, 41, 42, 43, 44, 45, 46, 47, 48, 49, 50, 51, 52, 53, 54, 55, 56, 57, 58, 59, 60, 61, 62, 63, 64, 65, 66, 67, 68, 69, 70, 71, 72, 73, 74, 75, 76, 77, 78, 79, 80, 81, 82, 83, 84, 85, 86, 87, 88, 89, 90, 91, 92, 93, 94, 95, 96, 97, 98, 99, 100, 101, 102, 103, 104, 105, 106, 107, 108, 109, 110, 111, 112, 113, 114, 115, 116, 117, 118, 119, 120, 121, 122, 123, 124] (by decide +kernel) (by decide +kernel)
set_option maxRecDepth 20000 in
theorem gX10_scan_X10_scans : GoodIn wsX10_scan (wsV RX10 153 RX10 yX10_scans wsX10_scans) := goodIn_app (goodIn_of _ (by decide +kernel)) ggX10_scan_X10_scans
theorem dX10_scan_0 : decode cX10_scan 0 = .ok (.aload_n 0, 1) := by decide +kernel
theorem dX10_scan_1 : decode cX10_scan 1 = .ok (.iconst 0, 1) := by decide +kernel
theorem dX10_scan_2 : decode cX10_scan 2 = .ok (.putfield 43, 3) := by decide +kernel
theorem dX10_scan_5 : decode cX10_scan 5 = .ok (.aload_n 0, 1) := by decide +kernel
theorem dX10_scan_6 : decode cX10_scan 6 = .ok (.invokevirtual 125, 3) := by decide +kernel
theorem dX10_scan_9 : decode cX10_scan 9 = .ok (.aload_n 0, 1) := by decide +kernel
theorem dX10_scan_10 : decode cX10_scan 10 = .ok (.invokevirtual 153, 3) := by decide +kernel
theorem dX10_scan_13 : decode cX10_scan 13 = .ok (.ireturn, 1) := by decide +kernel
set_option maxRecDepth 20000 in
theorem ggX10_appendText_X10_in : GoodIn wsX10_appendText wsX10_in := goodIn_r _ [6] (by decide +kernel) (by decide +kernel)
set_option maxRecDepth 20000 in
theorem gX10_appendText_X10_in : GoodIn wsX10_appendText (va_wsS RX10 47 yX10_in wsX10_in) := goodIn_app (goodIn_of _ (by decide +kernel)) ggX10_appendText_X10_in
set_option maxRecDepth 20000 in
theorem ggX10_appendText_X10_holds : GoodIn wsX10_appendText wsX10_holds := goodIn_r _ [10, 11, 12, 13, 14, 15, 16, 17, 18, 19, 20, 21, 22, 23, 24, 25, 26, 27, 28, 29, 30, 31] (by decide +kernel) (by decide +kernel)
set_option maxRecDepth 20000 in
theorem gX10_appendText_X10_holds : GoodIn wsX10_appendText (wsV RX10 132 RX10 yX10_holds wsX10_holds) := goodIn_app (goodIn_of _ (by decide +kernel)) ggX10_appendText_X10_holds
theorem dX10_appendText_0 : decode cX10_appendText 0 = .ok (.aload_n 0, 1) := by decide +kernel
theorem dX10_appendText_1 : decode cX10_appendText 1 = .ok (.iload_n 1, 1) := by decide +kernel
theorem dX10_appendText_2 : decode cX10_appendText 2 = .ok (.bipush 32, 2) := by decide +kernel
theorem dX10_appendText_4 : decode cX10_appendText 4 = .ok (.bipush 126, 2) := by decide +kernel
theorem dX10_appendText_6 : decode cX10_appendText 6 = .ok (.invokestatic 47, 3) := by decide +kernel
theorem dX10_appendText_9 : decode cX10_appendText 9 = .ok (.ifCond .ne 7, 3) := by decide +kernel
theorem dX10_appendText_12 : decode cX10_appendText 12 = .ok (.iconst 1, 1) := by decide +kernel
theorem dX10_appendText_13 : decode cX10_appendText 13 = .ok (.goto 17, 3) := by decide +kernel
theorem dX10_appendText_16 : decode cX10_appendText 16 = .ok (.aload_n 0, 1) := by decide +kernel
theorem dX10_appendText_17 : decode cX10_appendText 17 = .ok (.getfield 156, 3) := by decide +kernel
theorem dX10_appendText_20 : decode cX10_appendText 20 = .ok (.bipush 80, 2) := by decide +kernel
theorem dX10_appendText_22 : decode cX10_appendText 22 = .ok (.if_icmp .ne 7, 3) := by decide +kernel
theorem dX10_appendText_25 : decode cX10_appendText 25 = .ok (.iconst 2, 1) := by decide +kernel
theorem dX10_appendText_26 : decode cX10_appendText 26 = .ok (.goto 4, 3) := by decide +kernel
theorem dX10_appendText_29 : decode cX10_appendText 29 = .ok (.iconst 0, 1) := by decide +kernel
theorem dX10_appendText_30 : decode cX10_appendText 30 = .ok (.invokevirtual 132, 3) := by decide +kernel
theorem dX10_appendText_33 : decode cX10_appendText 33 = .ok (.ifCond .ne 5, 3) := by decide +kernel
theorem dX10_appendText_36 : decode cX10_appendText 36 = .ok (.iconst 0, 1) := by decide +kernel
theorem dX10_appendText_37 : decode cX10_appendText 37 = .ok (.ireturn, 1) := by decide +kernel
theorem dX10_appendText_38 : decode cX10_appendText 38 = .ok (.aload_n 0, 1) := by decide +kernel
theorem dX10_appendText_39 : decode cX10_appendText 39 = .ok (.getfield 13, 3) := by decide +kernel
theorem dX10_appendText_42 : decode cX10_appendText 42 = .ok (.aload_n 0, 1) := by decide +kernel
theorem dX10_appendText_43 : decode cX10_appendText 43 = .ok (.getfield 156, 3) := by decide +kernel
theorem dX10_appendText_46 : decode cX10_appendText 46 = .ok (.iload_n 1, 1) := by decide +kernel
theorem dX10_appendText_47 : decode cX10_appendText 47 = .ok (.iastore, 1) := by decide +kernel
theorem dX10_appendText_48 : decode cX10_appendText 48 = .ok (.aload_n 0, 1) := by decide +kernel
theorem dX10_appendText_49 : decode cX10_appendText 49 = .ok (.dup, 1) := by decide +kernel
theorem dX10_appendText_50 : decode cX10_appendText 50 = .ok (.getfield 156, 3) := by decide +kernel
theorem dX10_appendText_53 : decode cX10_appendText 53 = .ok (.iconst 1, 1) := by decide +kernel
theorem dX10_appendText_54 : decode cX10_appendText 54 = .ok (.iadd, 1) := by decide +kernel
theorem dX10_appendText_55 : decode cX10_appendText 55 = .ok (.putfield 156, 3) := by decide +kernel
theorem dX10_appendText_58 : decode cX10_appendText 58 = .ok (.aload_n 0, 1) := by decide +kernel
theorem dX10_appendText_59 : decode cX10_appendText 59 = .ok (.getfield 156, 3) := by decide +kernel
theorem dX10_appendText_62 : decode cX10_appendText 62 = .ok (.ireturn, 1) := by decide +kernel
theorem dX10_clearText_0 : decode cX10_clearText 0 = .ok (.aload_n 0, 1) := by decide +kernel
theorem dX10_clearText_1 : decode cX10_clearText 1 = .ok (.iconst 0, 1) := by decide +kernel
theorem dX10_clearText_2 : decode cX10_clearText 2 = .ok (.putfield 43, 3) := by decide +kernel
theorem dX10_clearText_5 : decode cX10_clearText 5 = .ok (.aload_n 0, 1) := by decide +kernel
theorem dX10_clearText_6 : decode cX10_clearText 6 = .ok (.getfield 156, 3) := by decide +kernel
theorem dX10_clearText_9 : decode cX10_clearText 9 = .ok (.istore_n 1, 1) := by decide +kernel
theorem dX10_clearText_10 : decode cX10_clearText 10 = .ok (.aload_n 0, 1) := by decide +kernel
theorem dX10_clearText_11 : decode cX10_clearText 11 = .ok (.iconst 0, 1) := by decide +kernel
theorem dX10_clearText_12 : decode cX10_clearText 12 = .ok (.putfield 156, 3) := by decide +kernel
theorem dX10_clearText_15 : decode cX10_clearText 15 = .ok (.iload_n 1, 1) := by decide +kernel
theorem dX10_clearText_16 : decode cX10_clearText 16 = .ok (.ireturn, 1) := by decide +kernel
theorem dX10_sign_0 : decode cX10_sign 0 = .ok (.aload_n 0, 1) := by decide +kernel
theorem dX10_sign_1 : decode cX10_sign 1 = .ok (.getfield 159, 3) := by decide +kernel
theorem dX10_sign_4 : decode cX10_sign 4 = .ok (.aload_n 0, 1) := by decide +kernel
theorem dX10_sign_5 : decode cX10_sign 5 = .ok (.getfield 156, 3) := by decide +kernel
theorem dX10_sign_8 : decode cX10_sign 8 = .ok (.if_icmp .ge 15, 3) := by decide +kernel
theorem dX10_sign_11 : decode cX10_sign 11 = .ok (.aload_n 0, 1) := by decide +kernel
theorem dX10_sign_12 : decode cX10_sign 12 = .ok (.getfield 13, 3) := by decide +kernel
theorem dX10_sign_15 : decode cX10_sign 15 = .ok (.aload_n 0, 1) := by decide +kernel
theorem dX10_sign_16 : decode cX10_sign 16 = .ok (.getfield 159, 3) := by decide +kernel
theorem dX10_sign_19 : decode cX10_sign 19 = .ok (.iaload, 1) := by decide +kernel
theorem dX10_sign_20 : decode cX10_sign 20 = .ok (.goto 4, 3) := by decide +kernel
theorem dX10_sign_23 : decode cX10_sign 23 = .ok (.iconst 0, 1) := by decide +kernel
theorem dX10_sign_24 : decode cX10_sign 24 = .ok (.ireturn, 1) := by decide +kernel
set_option maxRecDepth 20000 in
theorem ggX10_takes_X10_sign : GoodIn wsX10_takes wsX10_sign := goodIn_r _ [6, 1, 7, 8, 9, 10, 11, 12, 13, 14, 15, 16, 17, 18, 19, 20, 21, 22, 23, 24, 25, 26, 27, 28] (by decide +kernel) (by decide +kernel)
set_option maxRecDepth 20000 in
theorem gX10_takes_X10_sign : GoodIn wsX10_takes (wsV RX10 162 RX10 yX10_sign wsX10_sign) := goodIn_app (goodIn_of _ (by decide +kernel)) ggX10_takes_X10_sign
theorem dX10_takes_0 : decode cX10_takes 0 = .ok (.aload_n 0, 1) := by decide +kernel
theorem dX10_takes_1 : decode cX10_takes 1 = .ok (.invokevirtual 162, 3) := by decide +kernel
theorem dX10_takes_4 : decode cX10_takes 4 = .ok (.iload_n 1, 1) := by decide +kernel
theorem dX10_takes_5 : decode cX10_takes 5 = .ok (.if_icmp .ne 7, 3) := by decide +kernel
theorem dX10_takes_8 : decode cX10_takes 8 = .ok (.iconst 1, 1) := by decide +kernel
theorem dX10_takes_9 : decode cX10_takes 9 = .ok (.goto 4, 3) := by decide +kernel
theorem dX10_takes_12 : decode cX10_takes 12 = .ok (.iconst 0, 1) := by decide +kernel
theorem dX10_takes_13 : decode cX10_takes 13 = .ok (.istore_n 2, 1) := by decide +kernel
theorem dX10_takes_14 : decode cX10_takes 14 = .ok (.aload_n 0, 1) := by decide +kernel
theorem dX10_takes_15 : decode cX10_takes 15 = .ok (.dup, 1) := by decide +kernel
theorem dX10_takes_16 : decode cX10_takes 16 = .ok (.getfield 159, 3) := by decide +kernel
theorem dX10_takes_19 : decode cX10_takes 19 = .ok (.iload_n 2, 1) := by decide +kernel
theorem dX10_takes_20 : decode cX10_takes 20 = .ok (.ifCond .eq 7, 3) := by decide +kernel
theorem dX10_takes_23 : decode cX10_takes 23 = .ok (.iconst 1, 1) := by decide +kernel
theorem dX10_takes_24 : decode cX10_takes 24 = .ok (.goto 4, 3) := by decide +kernel
theorem dX10_takes_27 : decode cX10_takes 27 = .ok (.iconst 0, 1) := by decide +kernel
theorem dX10_takes_28 : decode cX10_takes 28 = .ok (.iadd, 1) := by decide +kernel
theorem dX10_takes_29 : decode cX10_takes 29 = .ok (.putfield 159, 3) := by decide +kernel
theorem dX10_takes_32 : decode cX10_takes 32 = .ok (.iload_n 2, 1) := by decide +kernel
theorem dX10_takes_33 : decode cX10_takes 33 = .ok (.ireturn, 1) := by decide +kernel
set_option maxRecDepth 20000 in
theorem ggX10_readsForce_X10_sign : GoodIn wsX10_readsForce wsX10_sign := goodIn_r _ [7, 2, 8, 9, 13, 14, 15, 16, 17, 18, 19, 20, 21, 22, 23, 24, 25, 26, 27, 28, 29, 30, 31, 32] (by decide +kernel) (by decide +kernel)
set_option maxRecDepth 20000 in
theorem gX10_readsForce_X10_sign : GoodIn wsX10_readsForce (wsV RX10 162 RX10 yX10_sign wsX10_sign) := goodIn_app (goodIn_of _ (by decide +kernel)) ggX10_readsForce_X10_sign
set_option maxRecDepth 20000 in
theorem ggX10_readsForce_X10_in : GoodIn wsX10_readsForce wsX10_in := goodIn_r _ [12] (by decide +kernel) (by decide +kernel)
set_option maxRecDepth 20000 in
theorem gX10_readsForce_X10_in : GoodIn wsX10_readsForce (va_wsS RX10 47 yX10_in wsX10_in) := goodIn_app (goodIn_of _ (by decide +kernel)) ggX10_readsForce_X10_in
theorem dX10_readsForce_0 : decode cX10_readsForce 0 = .ok (.aload_n 0, 1) := by decide +kernel
theorem dX10_readsForce_1 : decode cX10_readsForce 1 = .ok (.invokevirtual 162, 3) := by decide +kernel
theorem dX10_readsForce_4 : decode cX10_readsForce 4 = .ok (.bipush 49, 2) := by decide +kernel
theorem dX10_readsForce_6 : decode cX10_readsForce 6 = .ok (.bipush 57, 2) := by decide +kernel
theorem dX10_readsForce_8 : decode cX10_readsForce 8 = .ok (.invokestatic 47, 3) := by decide +kernel
theorem dX10_readsForce_11 : decode cX10_readsForce 11 = .ok (.ifCond .ne 5, 3) := by decide +kernel
theorem dX10_readsForce_14 : decode cX10_readsForce 14 = .ok (.iconst 0, 1) := by decide +kernel
theorem dX10_readsForce_15 : decode cX10_readsForce 15 = .ok (.ireturn, 1) := by decide +kernel
theorem dX10_readsForce_16 : decode cX10_readsForce 16 = .ok (.aload_n 0, 1) := by decide +kernel
theorem dX10_readsForce_17 : decode cX10_readsForce 17 = .ok (.aload_n 0, 1) := by decide +kernel
theorem dX10_readsForce_18 : decode cX10_readsForce 18 = .ok (.invokevirtual 162, 3) := by decide +kernel
theorem dX10_readsForce_21 : decode cX10_readsForce 21 = .ok (.bipush 48, 2) := by decide +kernel
theorem dX10_readsForce_23 : decode cX10_readsForce 23 = .ok (.isub, 1) := by decide +kernel
theorem dX10_readsForce_24 : decode cX10_readsForce 24 = .ok (.putfield 165, 3) := by decide +kernel
theorem dX10_readsForce_27 : decode cX10_readsForce 27 = .ok (.aload_n 0, 1) := by decide +kernel
theorem dX10_readsForce_28 : decode cX10_readsForce 28 = .ok (.dup, 1) := by decide +kernel
theorem dX10_readsForce_29 : decode cX10_readsForce 29 = .ok (.getfield 159, 3) := by decide +kernel
theorem dX10_readsForce_32 : decode cX10_readsForce 32 = .ok (.iconst 1, 1) := by decide +kernel
theorem dX10_readsForce_33 : decode cX10_readsForce 33 = .ok (.iadd, 1) := by decide +kernel
theorem dX10_readsForce_34 : decode cX10_readsForce 34 = .ok (.putfield 159, 3) := by decide +kernel
theorem dX10_readsForce_37 : decode cX10_readsForce 37 = .ok (.aload_n 0, 1) := by decide +kernel
theorem dX10_readsForce_38 : decode cX10_readsForce 38 = .ok (.invokevirtual 162, 3) := by decide +kernel
theorem dX10_readsForce_41 : decode cX10_readsForce 41 = .ok (.bipush 48, 2) := by decide +kernel
theorem dX10_readsForce_43 : decode cX10_readsForce 43 = .ok (.bipush 57, 2) := by decide +kernel
theorem dX10_readsForce_45 : decode cX10_readsForce 45 = .ok (.invokestatic 47, 3) := by decide +kernel
theorem dX10_readsForce_48 : decode cX10_readsForce 48 = .ok (.ifCond .eq 56, 3) := by decide +kernel
theorem dX10_readsForce_51 : decode cX10_readsForce 51 = .ok (.bipush 10, 2) := by decide +kernel
theorem dX10_readsForce_53 : decode cX10_readsForce 53 = .ok (.aload_n 0, 1) := by decide +kernel
theorem dX10_readsForce_54 : decode cX10_readsForce 54 = .ok (.getfield 165, 3) := by decide +kernel
theorem dX10_readsForce_57 : decode cX10_readsForce 57 = .ok (.imul, 1) := by decide +kernel
theorem dX10_readsForce_58 : decode cX10_readsForce 58 = .ok (.aload_n 0, 1) := by decide +kernel
theorem dX10_readsForce_59 : decode cX10_readsForce 59 = .ok (.invokevirtual 162, 3) := by decide +kernel
theorem dX10_readsForce_62 : decode cX10_readsForce 62 = .ok (.iadd, 1) := by decide +kernel
theorem dX10_readsForce_63 : decode cX10_readsForce 63 = .ok (.bipush 48, 2) := by decide +kernel
theorem dX10_readsForce_65 : decode cX10_readsForce 65 = .ok (.isub, 1) := by decide +kernel
theorem dX10_readsForce_66 : decode cX10_readsForce 66 = .ok (.sipush 255, 3) := by decide +kernel
theorem dX10_readsForce_69 : decode cX10_readsForce 69 = .ok (.if_icmp .gt 35, 3) := by decide +kernel
theorem dX10_readsForce_72 : decode cX10_readsForce 72 = .ok (.aload_n 0, 1) := by decide +kernel
theorem dX10_readsForce_73 : decode cX10_readsForce 73 = .ok (.bipush 10, 2) := by decide +kernel
theorem dX10_readsForce_75 : decode cX10_readsForce 75 = .ok (.aload_n 0, 1) := by decide +kernel
theorem dX10_readsForce_76 : decode cX10_readsForce 76 = .ok (.getfield 165, 3) := by decide +kernel
theorem dX10_readsForce_79 : decode cX10_readsForce 79 = .ok (.imul, 1) := by decide +kernel
theorem dX10_readsForce_80 : decode cX10_readsForce 80 = .ok (.aload_n 0, 1) := by decide +kernel
theorem dX10_readsForce_81 : decode cX10_readsForce 81 = .ok (.invokevirtual 162, 3) := by decide +kernel
theorem dX10_readsForce_84 : decode cX10_readsForce 84 = .ok (.iadd, 1) := by decide +kernel
theorem dX10_readsForce_85 : decode cX10_readsForce 85 = .ok (.bipush 48, 2) := by decide +kernel
theorem dX10_readsForce_87 : decode cX10_readsForce 87 = .ok (.isub, 1) := by decide +kernel
theorem dX10_readsForce_88 : decode cX10_readsForce 88 = .ok (.putfield 165, 3) := by decide +kernel
theorem dX10_readsForce_91 : decode cX10_readsForce 91 = .ok (.aload_n 0, 1) := by decide +kernel
theorem dX10_readsForce_92 : decode cX10_readsForce 92 = .ok (.dup, 1) := by decide +kernel
theorem dX10_readsForce_93 : decode cX10_readsForce 93 = .ok (.getfield 159, 3) := by decide +kernel
theorem dX10_readsForce_96 : decode cX10_readsForce 96 = .ok (.iconst 1, 1) := by decide +kernel
theorem dX10_readsForce_97 : decode cX10_readsForce 97 = .ok (.iadd, 1) := by decide +kernel
theorem dX10_readsForce_98 : decode cX10_readsForce 98 = .ok (.putfield 159, 3) := by decide +kernel
theorem dX10_readsForce_101 : decode cX10_readsForce 101 = .ok (.goto (-64), 3) := by decide +kernel
theorem dX10_readsForce_104 : decode cX10_readsForce 104 = .ok (.iconst 1, 1) := by decide +kernel
theorem dX10_readsForce_105 : decode cX10_readsForce 105 = .ok (.ireturn, 1) := by decide +kernel
set_option maxRecDepth 20000 in
theorem ggX10_readsCommand_X10_sign : GoodIn wsX10_readsCommand wsX10_sign := goodIn_r _ [9, 3, 10, 11, 24, 25, 26, 27, 28, 29, 30, 31, 32, 33, 34, 35, 36, 37, 38, 39, 40, 41, 42, 43] (by decide +kernel) (by decide +kernel)
set_option maxRecDepth 20000 in
theorem gX10_readsCommand_X10_sign : GoodIn wsX10_readsCommand (wsV RX10 162 RX10 yX10_sign wsX10_sign) := goodIn_app (goodIn_of _ (by decide +kernel)) ggX10_readsCommand_X10_sign
set_option maxRecDepth 20000 in
theorem ggX10_readsCommand_X10_takes : GoodIn wsX10_readsCommand wsX10_takes := goodIn_r _ [15, 3, 5, 6, 7, 8, 9, 10, 11, 24, 25, 26, 27, 28, 29, 30, 31, 32, 33, 34, 35, 36, 37, 38, 39, 40, 41, 42, 43] (by decide +kernel) (by decide +kernel)
set_option maxRecDepth 20000 in
theorem gX10_readsCommand_X10_takes : GoodIn wsX10_readsCommand (wsV RX10 171 RX10 yX10_takes wsX10_takes) := goodIn_app (goodIn_of _ (by decide +kernel)) ggX10_readsCommand_X10_takes
set_option maxRecDepth 20000 in
theorem ggX10_readsCommand_X10_in : GoodIn wsX10_readsCommand wsX10_in := goodIn_r _ [18] (by decide +kernel) (by decide +kernel)
set_option maxRecDepth 20000 in
theorem gX10_readsCommand_X10_in : GoodIn wsX10_readsCommand (va_wsS RX10 47 yX10_in wsX10_in) := goodIn_app (goodIn_of _ (by decide +kernel)) ggX10_readsCommand_X10_in
set_option maxRecDepth 20000 in
theorem ggX10_readsCommand_X10_readsForce : GoodIn wsX10_readsCommand wsX10_readsForce := goodIn_r _ [22, 23, 3, 5, 6, 7, 8, 9, 10, 11, 16, 17, 18, 24, 25, 26, 27, 28, 29, 30, 31, 32, 33, 34, 35, 36, 37, 38, 39, 40, 41, 42, 43] (by decide +kernel) (by decide +kernel)
set_option maxRecDepth 20000 in
theorem gX10_readsCommand_X10_readsForce : GoodIn wsX10_readsCommand (wsV RX10 180 RX10 yX10_readsForce wsX10_readsForce) := goodIn_app (goodIn_of _ (by decide +kernel)) ggX10_readsCommand_X10_readsForce
theorem dX10_readsCommand_0 : decode cX10_readsCommand 0 = .ok (.aload_n 0, 1) := by decide +kernel
theorem dX10_readsCommand_1 : decode cX10_readsCommand 1 = .ok (.aload_n 0, 1) := by decide +kernel
theorem dX10_readsCommand_2 : decode cX10_readsCommand 2 = .ok (.invokevirtual 162, 3) := by decide +kernel
theorem dX10_readsCommand_5 : decode cX10_readsCommand 5 = .ok (.putfield 168, 3) := by decide +kernel
theorem dX10_readsCommand_8 : decode cX10_readsCommand 8 = .ok (.aload_n 0, 1) := by decide +kernel
theorem dX10_readsCommand_9 : decode cX10_readsCommand 9 = .ok (.bipush 120, 2) := by decide +kernel
theorem dX10_readsCommand_11 : decode cX10_readsCommand 11 = .ok (.invokevirtual 171, 3) := by decide +kernel
theorem dX10_readsCommand_14 : decode cX10_readsCommand 14 = .ok (.ifCond .ne 21, 3) := by decide +kernel
theorem dX10_readsCommand_17 : decode cX10_readsCommand 17 = .ok (.aload_n 0, 1) := by decide +kernel
theorem dX10_readsCommand_18 : decode cX10_readsCommand 18 = .ok (.bipush 98, 2) := by decide +kernel
theorem dX10_readsCommand_20 : decode cX10_readsCommand 20 = .ok (.invokevirtual 171, 3) := by decide +kernel
theorem dX10_readsCommand_23 : decode cX10_readsCommand 23 = .ok (.ifCond .ne 12, 3) := by decide +kernel
theorem dX10_readsCommand_26 : decode cX10_readsCommand 26 = .ok (.aload_n 0, 1) := by decide +kernel
theorem dX10_readsCommand_27 : decode cX10_readsCommand 27 = .ok (.bipush 115, 2) := by decide +kernel
theorem dX10_readsCommand_29 : decode cX10_readsCommand 29 = .ok (.invokevirtual 171, 3) := by decide +kernel
theorem dX10_readsCommand_32 : decode cX10_readsCommand 32 = .ok (.ifCond .eq 5, 3) := by decide +kernel
theorem dX10_readsCommand_35 : decode cX10_readsCommand 35 = .ok (.iconst 1, 1) := by decide +kernel
theorem dX10_readsCommand_36 : decode cX10_readsCommand 36 = .ok (.ireturn, 1) := by decide +kernel
theorem dX10_readsCommand_37 : decode cX10_readsCommand 37 = .ok (.aload_n 0, 1) := by decide +kernel
theorem dX10_readsCommand_38 : decode cX10_readsCommand 38 = .ok (.bipush 112, 2) := by decide +kernel
theorem dX10_readsCommand_40 : decode cX10_readsCommand 40 = .ok (.invokevirtual 171, 3) := by decide +kernel
theorem dX10_readsCommand_43 : decode cX10_readsCommand 43 = .ok (.ifCond .ne 5, 3) := by decide +kernel
theorem dX10_readsCommand_46 : decode cX10_readsCommand 46 = .ok (.iconst 0, 1) := by decide +kernel
theorem dX10_readsCommand_47 : decode cX10_readsCommand 47 = .ok (.ireturn, 1) := by decide +kernel
theorem dX10_readsCommand_48 : decode cX10_readsCommand 48 = .ok (.aload_n 0, 1) := by decide +kernel
theorem dX10_readsCommand_49 : decode cX10_readsCommand 49 = .ok (.aload_n 0, 1) := by decide +kernel
theorem dX10_readsCommand_50 : decode cX10_readsCommand 50 = .ok (.invokevirtual 162, 3) := by decide +kernel
theorem dX10_readsCommand_53 : decode cX10_readsCommand 53 = .ok (.bipush 48, 2) := by decide +kernel
theorem dX10_readsCommand_55 : decode cX10_readsCommand 55 = .ok (.bipush 55, 2) := by decide +kernel
theorem dX10_readsCommand_57 : decode cX10_readsCommand 57 = .ok (.invokestatic 47, 3) := by decide +kernel
theorem dX10_readsCommand_60 : decode cX10_readsCommand 60 = .ok (.ifCond .eq 13, 3) := by decide +kernel
theorem dX10_readsCommand_63 : decode cX10_readsCommand 63 = .ok (.aload_n 0, 1) := by decide +kernel
theorem dX10_readsCommand_64 : decode cX10_readsCommand 64 = .ok (.invokevirtual 162, 3) := by decide +kernel
theorem dX10_readsCommand_67 : decode cX10_readsCommand 67 = .ok (.bipush 48, 2) := by decide +kernel
theorem dX10_readsCommand_69 : decode cX10_readsCommand 69 = .ok (.isub, 1) := by decide +kernel
theorem dX10_readsCommand_70 : decode cX10_readsCommand 70 = .ok (.goto 4, 3) := by decide +kernel
theorem dX10_readsCommand_73 : decode cX10_readsCommand 73 = .ok (.iconst (-1), 1) := by decide +kernel
theorem dX10_readsCommand_74 : decode cX10_readsCommand 74 = .ok (.putfield 174, 3) := by decide +kernel
theorem dX10_readsCommand_77 : decode cX10_readsCommand 77 = .ok (.aload_n 0, 1) := by decide +kernel
theorem dX10_readsCommand_78 : decode cX10_readsCommand 78 = .ok (.dup, 1) := by decide +kernel
theorem dX10_readsCommand_79 : decode cX10_readsCommand 79 = .ok (.getfield 159, 3) := by decide +kernel
theorem dX10_readsCommand_82 : decode cX10_readsCommand 82 = .ok (.aload_n 0, 1) := by decide +kernel
theorem dX10_readsCommand_83 : decode cX10_readsCommand 83 = .ok (.getfield 174, 3) := by decide +kernel
theorem dX10_readsCommand_86 : decode cX10_readsCommand 86 = .ok (.iconst (-1), 1) := by decide +kernel
theorem dX10_readsCommand_87 : decode cX10_readsCommand 87 = .ok (.if_icmp .ne 7, 3) := by decide +kernel
theorem dX10_readsCommand_90 : decode cX10_readsCommand 90 = .ok (.iconst 0, 1) := by decide +kernel
theorem dX10_readsCommand_91 : decode cX10_readsCommand 91 = .ok (.goto 4, 3) := by decide +kernel
theorem dX10_readsCommand_94 : decode cX10_readsCommand 94 = .ok (.iconst 1, 1) := by decide +kernel
theorem dX10_readsCommand_95 : decode cX10_readsCommand 95 = .ok (.iadd, 1) := by decide +kernel
theorem dX10_readsCommand_96 : decode cX10_readsCommand 96 = .ok (.putfield 159, 3) := by decide +kernel
theorem dX10_readsCommand_99 : decode cX10_readsCommand 99 = .ok (.aload_n 0, 1) := by decide +kernel
theorem dX10_readsCommand_100 : decode cX10_readsCommand 100 = .ok (.getfield 174, 3) := by decide +kernel
theorem dX10_readsCommand_103 : decode cX10_readsCommand 103 = .ok (.iconst (-1), 1) := by decide +kernel
theorem dX10_readsCommand_104 : decode cX10_readsCommand 104 = .ok (.if_icmp .ne 5, 3) := by decide +kernel
theorem dX10_readsCommand_107 : decode cX10_readsCommand 107 = .ok (.iconst 0, 1) := by decide +kernel
theorem dX10_readsCommand_108 : decode cX10_readsCommand 108 = .ok (.ireturn, 1) := by decide +kernel
theorem dX10_readsCommand_109 : decode cX10_readsCommand 109 = .ok (.aload_n 0, 1) := by decide +kernel
theorem dX10_readsCommand_110 : decode cX10_readsCommand 110 = .ok (.aload_n 0, 1) := by decide +kernel
theorem dX10_readsCommand_111 : decode cX10_readsCommand 111 = .ok (.invokevirtual 162, 3) := by decide +kernel
theorem dX10_readsCommand_114 : decode cX10_readsCommand 114 = .ok (.bipush 48, 2) := by decide +kernel
theorem dX10_readsCommand_116 : decode cX10_readsCommand 116 = .ok (.bipush 53, 2) := by decide +kernel
theorem dX10_readsCommand_118 : decode cX10_readsCommand 118 = .ok (.invokestatic 47, 3) := by decide +kernel
theorem dX10_readsCommand_121 : decode cX10_readsCommand 121 = .ok (.ifCond .eq 13, 3) := by decide +kernel
theorem dX10_readsCommand_124 : decode cX10_readsCommand 124 = .ok (.aload_n 0, 1) := by decide +kernel
theorem dX10_readsCommand_125 : decode cX10_readsCommand 125 = .ok (.invokevirtual 162, 3) := by decide +kernel
theorem dX10_readsCommand_128 : decode cX10_readsCommand 128 = .ok (.bipush 48, 2) := by decide +kernel
theorem dX10_readsCommand_130 : decode cX10_readsCommand 130 = .ok (.isub, 1) := by decide +kernel
theorem dX10_readsCommand_131 : decode cX10_readsCommand 131 = .ok (.goto 4, 3) := by decide +kernel
theorem dX10_readsCommand_134 : decode cX10_readsCommand 134 = .ok (.iconst (-1), 1) := by decide +kernel
theorem dX10_readsCommand_135 : decode cX10_readsCommand 135 = .ok (.putfield 177, 3) := by decide +kernel
theorem dX10_readsCommand_138 : decode cX10_readsCommand 138 = .ok (.aload_n 0, 1) := by decide +kernel
theorem dX10_readsCommand_139 : decode cX10_readsCommand 139 = .ok (.dup, 1) := by decide +kernel
theorem dX10_readsCommand_140 : decode cX10_readsCommand 140 = .ok (.getfield 159, 3) := by decide +kernel
theorem dX10_readsCommand_143 : decode cX10_readsCommand 143 = .ok (.aload_n 0, 1) := by decide +kernel
theorem dX10_readsCommand_144 : decode cX10_readsCommand 144 = .ok (.getfield 177, 3) := by decide +kernel
theorem dX10_readsCommand_147 : decode cX10_readsCommand 147 = .ok (.iconst (-1), 1) := by decide +kernel
theorem dX10_readsCommand_148 : decode cX10_readsCommand 148 = .ok (.if_icmp .ne 7, 3) := by decide +kernel
theorem dX10_readsCommand_151 : decode cX10_readsCommand 151 = .ok (.iconst 0, 1) := by decide +kernel
theorem dX10_readsCommand_152 : decode cX10_readsCommand 152 = .ok (.goto 4, 3) := by decide +kernel
theorem dX10_readsCommand_155 : decode cX10_readsCommand 155 = .ok (.iconst 1, 1) := by decide +kernel
theorem dX10_readsCommand_156 : decode cX10_readsCommand 156 = .ok (.iadd, 1) := by decide +kernel
theorem dX10_readsCommand_157 : decode cX10_readsCommand 157 = .ok (.putfield 159, 3) := by decide +kernel
theorem dX10_readsCommand_160 : decode cX10_readsCommand 160 = .ok (.aload_n 0, 1) := by decide +kernel
theorem dX10_readsCommand_161 : decode cX10_readsCommand 161 = .ok (.getfield 177, 3) := by decide +kernel
theorem dX10_readsCommand_164 : decode cX10_readsCommand 164 = .ok (.iconst (-1), 1) := by decide +kernel
theorem dX10_readsCommand_165 : decode cX10_readsCommand 165 = .ok (.if_icmp .eq 23, 3) := by decide +kernel
theorem dX10_readsCommand_168 : decode cX10_readsCommand 168 = .ok (.aload_n 0, 1) := by decide +kernel
theorem dX10_readsCommand_169 : decode cX10_readsCommand 169 = .ok (.bipush 44, 2) := by decide +kernel
theorem dX10_readsCommand_171 : decode cX10_readsCommand 171 = .ok (.invokevirtual 171, 3) := by decide +kernel
theorem dX10_readsCommand_174 : decode cX10_readsCommand 174 = .ok (.ifCond .eq 14, 3) := by decide +kernel
theorem dX10_readsCommand_177 : decode cX10_readsCommand 177 = .ok (.aload_n 0, 1) := by decide +kernel
theorem dX10_readsCommand_178 : decode cX10_readsCommand 178 = .ok (.invokevirtual 180, 3) := by decide +kernel
theorem dX10_readsCommand_181 : decode cX10_readsCommand 181 = .ok (.ifCond .eq 7, 3) := by decide +kernel
theorem dX10_readsCommand_184 : decode cX10_readsCommand 184 = .ok (.iconst 1, 1) := by decide +kernel
theorem dX10_readsCommand_185 : decode cX10_readsCommand 185 = .ok (.goto 4, 3) := by decide +kernel
theorem dX10_readsCommand_188 : decode cX10_readsCommand 188 = .ok (.iconst 0, 1) := by decide +kernel
theorem dX10_readsCommand_189 : decode cX10_readsCommand 189 = .ok (.ireturn, 1) := by decide +kernel
set_option maxRecDepth 20000 in
theorem ggX10_isValid_X10_readsCommand : GoodIn wsX10_isValid wsX10_readsCommand := goodIn_r _ [7, 8, 9, 1, 10, 11, 12, 13, 6, 14, 2, 15, 16, 17, 18, 19, 20, 21, 22, 23, 24, 25, 26, 27, 28, 29, 30, 31, 32, 33, 34, 35, 36, 37, 38, 39, 40, 41, 42, 43, 44, 45, 46, 47] (by decide +kernel) (by decide +kernel)
set_option maxRecDepth 20000 in
theorem gX10_isValid_X10_readsCommand : GoodIn wsX10_isValid (wsV RX10 184 RX10 yX10_readsCommand wsX10_readsCommand) := goodIn_app (goodIn_of _ (by decide +kernel)) ggX10_isValid_X10_readsCommand
set_option maxRecDepth 20000 in
theorem ggX10_isValid_X10_takes : GoodIn wsX10_isValid wsX10_takes := goodIn_r _ [19, 1, 11, 12, 13, 6, 14, 2, 15, 28, 29, 30, 31, 32, 33, 34, 35, 36, 37, 38, 39, 40, 41, 42, 43, 44, 45, 46, 47] (by decide +kernel) (by decide +kernel)
set_option maxRecDepth 20000 in
theorem gX10_isValid_X10_takes : GoodIn wsX10_isValid (wsV RX10 171 RX10 yX10_takes wsX10_takes) := goodIn_app (goodIn_of _ (by decide +kernel)) ggX10_isValid_X10_takes
theorem dX10_isValid_0 : decode cX10_isValid 0 = .ok (.aload_n 0, 1) := by decide +kernel
theorem dX10_isValid_1 : decode cX10_isValid 1 = .ok (.iconst 0, 1) := by decide +kernel
theorem dX10_isValid_2 : decode cX10_isValid 2 = .ok (.putfield 159, 3) := by decide +kernel
theorem dX10_isValid_5 : decode cX10_isValid 5 = .ok (.aload_n 0, 1) := by decide +kernel
theorem dX10_isValid_6 : decode cX10_isValid 6 = .ok (.invokevirtual 184, 3) := by decide +kernel
theorem dX10_isValid_9 : decode cX10_isValid 9 = .ok (.ifCond .eq 27, 3) := by decide +kernel
theorem dX10_isValid_12 : decode cX10_isValid 12 = .ok (.aload_n 0, 1) := by decide +kernel
theorem dX10_isValid_13 : decode cX10_isValid 13 = .ok (.getfield 159, 3) := by decide +kernel
theorem dX10_isValid_16 : decode cX10_isValid 16 = .ok (.aload_n 0, 1) := by decide +kernel
theorem dX10_isValid_17 : decode cX10_isValid 17 = .ok (.getfield 156, 3) := by decide +kernel
theorem dX10_isValid_20 : decode cX10_isValid 20 = .ok (.if_icmp .ne 5, 3) := by decide +kernel
theorem dX10_isValid_23 : decode cX10_isValid 23 = .ok (.iconst 1, 1) := by decide +kernel
theorem dX10_isValid_24 : decode cX10_isValid 24 = .ok (.ireturn, 1) := by decide +kernel
theorem dX10_isValid_25 : decode cX10_isValid 25 = .ok (.aload_n 0, 1) := by decide +kernel
theorem dX10_isValid_26 : decode cX10_isValid 26 = .ok (.bipush 59, 2) := by decide +kernel
theorem dX10_isValid_28 : decode cX10_isValid 28 = .ok (.invokevirtual 171, 3) := by decide +kernel
theorem dX10_isValid_31 : decode cX10_isValid 31 = .ok (.ifCond .ne (-26), 3) := by decide +kernel
theorem dX10_isValid_34 : decode cX10_isValid 34 = .ok (.iconst 0, 1) := by decide +kernel
theorem dX10_isValid_35 : decode cX10_isValid 35 = .ok (.ireturn, 1) := by decide +kernel
theorem dX10_isValid_36 : decode cX10_isValid 36 = .ok (.iconst 0, 1) := by decide +kernel
theorem dX10_isValid_37 : decode cX10_isValid 37 = .ok (.ireturn, 1) := by decide +kernel
set_option maxRecDepth 20000 in
theorem ggX10_errorPosition_X10_isValid : GoodIn wsX10_errorPosition wsX10_isValid := goodIn_r _ [7, 2, 8, 9, 10, 11, 6, 12, 13, 14, 15, 16, 17, 18, 19, 20, 21, 22, 23, 24, 25, 26, 27, 28, 29, 30, 31, 32, 33, 34, 35, 36, 37, 38, 39, 40, 41, 42, 43, 44, 45, 46, 47, 48, 49, 50, 51, 52] (by decide +kernel) (by decide +kernel)
set_option maxRecDepth 20000 in
theorem gX10_errorPosition_X10_isValid : GoodIn wsX10_errorPosition (wsV RX10 187 RX10 yX10_isValid wsX10_isValid) := goodIn_app (goodIn_of _ (by decide +kernel)) ggX10_errorPosition_X10_isValid
theorem dX10_errorPosition_0 : decode cX10_errorPosition 0 = .ok (.aload_n 0, 1) := by decide +kernel
theorem dX10_errorPosition_1 : decode cX10_errorPosition 1 = .ok (.iconst 0, 1) := by decide +kernel
theorem dX10_errorPosition_2 : decode cX10_errorPosition 2 = .ok (.putfield 43, 3) := by decide +kernel
theorem dX10_errorPosition_5 : decode cX10_errorPosition 5 = .ok (.aload_n 0, 1) := by decide +kernel
theorem dX10_errorPosition_6 : decode cX10_errorPosition 6 = .ok (.invokevirtual 187, 3) := by decide +kernel
theorem dX10_errorPosition_9 : decode cX10_errorPosition 9 = .ok (.ifCond .eq 7, 3) := by decide +kernel
theorem dX10_errorPosition_12 : decode cX10_errorPosition 12 = .ok (.iconst (-1), 1) := by decide +kernel
theorem dX10_errorPosition_13 : decode cX10_errorPosition 13 = .ok (.goto 7, 3) := by decide +kernel
theorem dX10_errorPosition_16 : decode cX10_errorPosition 16 = .ok (.aload_n 0, 1) := by decide +kernel
theorem dX10_errorPosition_17 : decode cX10_errorPosition 17 = .ok (.getfield 159, 3) := by decide +kernel
theorem dX10_errorPosition_20 : decode cX10_errorPosition 20 = .ok (.ireturn, 1) := by decide +kernel
set_option maxRecDepth 20000 in
theorem ggX10_runText_X10_isValid : GoodIn wsX10_runText wsX10_isValid := goodIn_r _ [10, 1, 11, 12, 13, 14, 9, 15, 2, 3, 4, 16, 17, 18, 19, 20, 21, 22, 23, 24, 25, 26, 27, 28, 29, 30, 31, 5, 148, 149, 150, 151, 152, 153, 154, 155, 156, 157, 158, 159, 160, 161, 162, 163, 164, 165, 166, 167] (by decide +kernel) (by decide +kernel)
set_option maxRecDepth 20000 in
theorem gX10_runText_X10_isValid : GoodIn wsX10_runText (wsV RX10 187 RX10 yX10_isValid wsX10_isValid) := goodIn_app (goodIn_of _ (by decide +kernel)) ggX10_runText_X10_isValid
set_option maxRecDepth 20000 in
theorem ggX10_runText_X10_holds : GoodIn wsX10_runText wsX10_holds := goodIn_r _ [35, 36, 148, 149, 150, 151, 152, 153, 154, 155, 156, 157, 158, 159, 160, 161, 162, 163, 164, 165, 166, 167] (by decide +kernel) (by decide +kernel)
set_option maxRecDepth 20000 in
theorem gX10_runText_X10_holds : GoodIn wsX10_runText (wsV RX10 132 RX10 yX10_holds wsX10_holds) := goodIn_app (goodIn_of _ (by decide +kernel)) ggX10_runText_X10_holds
set_option maxRecDepth 20000 in
theorem ggX10_runText_X10_keeps : GoodIn wsX10_runText wsX10_keeps := goodIn_r _ [40, 41, 42, 43, 44, 9, 45, 46, 148, 149, 150, 151, 152, 153, 154, 155, 156, 157, 158, 159, 160, 161, 162, 163, 164, 165, 166, 167] (by decide +kernel) (by decide +kernel)
set_option maxRecDepth 20000 in
theorem gX10_runText_X10_keeps : GoodIn wsX10_runText (wsV RX10 125 RX10 yX10_keeps wsX10_keeps) := goodIn_app (goodIn_of _ (by decide +kernel)) ggX10_runText_X10_keeps
set_option maxRecDepth 20000 in
theorem ggX10_runText_X10_readsCommand : GoodIn wsX10_runText wsX10_readsCommand := goodIn_r _ [15, 2, 3, 1, 4, 16, 17, 18, 9, 19, 11, 20, 21, 22, 23, 24, 25, 26, 27, 28, 29, 30, 31, 5, 148, 149, 150, 151, 152, 153, 154, 155, 156, 157, 158, 159, 160, 161, 162, 163, 164, 165, 166, 167] (by decide +kernel) (by decide +kernel)
set_option maxRecDepth 20000 in
theorem gX10_runText_X10_readsCommand : GoodIn wsX10_runText (wsV RX10 184 RX10 yX10_readsCommand wsX10_readsCommand) := goodIn_app (goodIn_of _ (by decide +kernel)) ggX10_runText_X10_readsCommand
set_option maxRecDepth 20000 in
theorem ggX10_runText_X10_presses : GoodIn wsX10_runText wsX10_presses := goodIn_r _ [50, 46, 51, 52, 9, 53, 25, 26, 27, 148, 149, 150, 151, 152, 153, 154, 155, 156, 157, 158, 159, 160, 161, 162, 163, 164, 165, 166, 167] (by decide +kernel) (by decide +kernel)
set_option maxRecDepth 20000 in
theorem gX10_runText_X10_presses : GoodIn wsX10_runText (wsV RX10 138 RX10 yX10_presses wsX10_presses) := goodIn_app (goodIn_of _ (by decide +kernel)) ggX10_runText_X10_presses
set_option maxRecDepth 20000 in
theorem ggX10_runText_X10_releases : GoodIn wsX10_runText wsX10_releases := goodIn_r _ [57, 46, 148, 149, 150, 151, 152, 153, 154, 155, 156, 157, 158, 159, 160, 161, 162, 163, 164, 165, 166, 167] (by decide +kernel) (by decide +kernel)
set_option maxRecDepth 20000 in
theorem gX10_runText_X10_releases : GoodIn wsX10_runText (wsV RX10 141 RX10 yX10_releases wsX10_releases) := goodIn_app (goodIn_of _ (by decide +kernel)) ggX10_runText_X10_releases
set_option maxRecDepth 20000 in
theorem ggX10_runText_X10_calibrates : GoodIn wsX10_runText wsX10_calibrates := goodIn_r _ [61, 46, 148, 149, 150, 151, 152, 153, 154, 155, 156, 157, 158, 159, 160, 161, 162, 163, 164, 165, 166, 167] (by decide +kernel) (by decide +kernel)
set_option maxRecDepth 20000 in
theorem gX10_runText_X10_calibrates : GoodIn wsX10_runText (wsV RX10 144 RX10 yX10_calibrates wsX10_calibrates) := goodIn_app (goodIn_of _ (by decide +kernel)) ggX10_runText_X10_calibrates
set_option maxRecDepth 20000 in
theorem ggX10_runText_X10_scans : GoodIn wsX10_runText wsX10_scans := goodIn_r _ [65, 66, 46, 67, 68, 69, 70, 9, 71, 72, 73, 74, 75, 76, 77, 78, 79, 80, 81, 82, 83, 84, 85, 86, 87, 88, 89, 90, 91, 51, 52, 53, 25, 26, 27, 92, 93, 94, 95, 96, 97, 98, 99, 100, 101, 102, 103, 104, 105, 106, 107, 108, 109, 110, 111, 112, 113, 114, 115, 116, 117, 118, 119, 120, 121, 122, 123, 124, 125, 126, 127, 128, 129, 130, 131, 132, 133, 134, 135, 136, 137, 138, 139, 140, 141, 142, 143, 144, 145, 146, 147, 148, 149, 150, 151, 152, 153, 154, 155, 156, 157, 158, 159, 160, 161, 162, 163, 164, 165, 166, 167] (by decide +kernel) (by decide +kernel)
set_option maxRecDepth 20000 in
theorem gX10_runText_X10_scans : GoodIn wsX10_runText (wsV RX10 153 RX10 yX10_scans wsX10_scans) := goodIn_app (goodIn_of _ (by decide +kernel)) ggX10_runText_X10_scans
set_option maxRecDepth 20000 in
theorem ggX10_runText_X10_takes : GoodIn wsX10_runText wsX10_takes := goodIn_r _ [24, 1, 16, 17, 18, 9, 19, 11, 20, 148, 149, 150, 151, 152, 153, 154, 155, 156, 157, 158, 159, 160, 161, 162, 163, 164, 165, 166, 167] (by decide +kernel) (by decide +kernel)
set_option maxRecDepth 20000 in
theorem gX10_runText_X10_takes : GoodIn wsX10_runText (wsV RX10 171 RX10 yX10_takes wsX10_takes) := goodIn_app (goodIn_of _ (by decide +kernel)) ggX10_runText_X10_takes
theorem dX10_runText_0 : decode cX10_runText 0 = .ok (.aload_n 0, 1) := by decide +kernel
theorem dX10_runText_1 : decode cX10_runText 1 = .ok (.aload_n 0, 1) := by decide +kernel
theorem dX10_runText_2 : decode cX10_runText 2 = .ok (.invokevirtual 187, 3) := by decide +kernel
theorem dX10_runText_5 : decode cX10_runText 5 = .ok (.ifCond .eq 7, 3) := by decide +kernel
theorem dX10_runText_8 : decode cX10_runText 8 = .ok (.iconst 0, 1) := by decide +kernel
theorem dX10_runText_9 : decode cX10_runText 9 = .ok (.goto 4, 3) := by decide +kernel
theorem dX10_runText_12 : decode cX10_runText 12 = .ok (.iconst 1, 1) := by decide +kernel
theorem dX10_runText_13 : decode cX10_runText 13 = .ok (.invokevirtual 132, 3) := by decide +kernel
theorem dX10_runText_16 : decode cX10_runText 16 = .ok (.ifCond .ne 5, 3) := by decide +kernel
theorem dX10_runText_19 : decode cX10_runText 19 = .ok (.iconst 0, 1) := by decide +kernel
theorem dX10_runText_20 : decode cX10_runText 20 = .ok (.ireturn, 1) := by decide +kernel
theorem dX10_runText_21 : decode cX10_runText 21 = .ok (.aload_n 0, 1) := by decide +kernel
theorem dX10_runText_22 : decode cX10_runText 22 = .ok (.invokevirtual 125, 3) := by decide +kernel
theorem dX10_runText_25 : decode cX10_runText 25 = .ok (.aload_n 0, 1) := by decide +kernel
theorem dX10_runText_26 : decode cX10_runText 26 = .ok (.iconst 0, 1) := by decide +kernel
theorem dX10_runText_27 : decode cX10_runText 27 = .ok (.putfield 159, 3) := by decide +kernel
theorem dX10_runText_30 : decode cX10_runText 30 = .ok (.iconst 0, 1) := by decide +kernel
theorem dX10_runText_31 : decode cX10_runText 31 = .ok (.istore_n 1, 1) := by decide +kernel
theorem dX10_runText_32 : decode cX10_runText 32 = .ok (.aload_n 0, 1) := by decide +kernel
theorem dX10_runText_33 : decode cX10_runText 33 = .ok (.invokevirtual 184, 3) := by decide +kernel
theorem dX10_runText_36 : decode cX10_runText 36 = .ok (.ifCond .eq 97, 3) := by decide +kernel
theorem dX10_runText_39 : decode cX10_runText 39 = .ok (.aload_n 0, 1) := by decide +kernel
theorem dX10_runText_40 : decode cX10_runText 40 = .ok (.getfield 168, 3) := by decide +kernel
theorem dX10_runText_43 : decode cX10_runText 43 = .ok (.lookupswitch 73 #[(98, 65), (112, 33), (120, 57)], 33) := by decide +kernel
theorem dX10_runText_76 : decode cX10_runText 76 = .ok (.aload_n 0, 1) := by decide +kernel
theorem dX10_runText_77 : decode cX10_runText 77 = .ok (.bipush 6, 2) := by decide +kernel
theorem dX10_runText_79 : decode cX10_runText 79 = .ok (.aload_n 0, 1) := by decide +kernel
theorem dX10_runText_80 : decode cX10_runText 80 = .ok (.getfield 174, 3) := by decide +kernel
theorem dX10_runText_83 : decode cX10_runText 83 = .ok (.imul, 1) := by decide +kernel
theorem dX10_runText_84 : decode cX10_runText 84 = .ok (.aload_n 0, 1) := by decide +kernel
theorem dX10_runText_85 : decode cX10_runText 85 = .ok (.getfield 177, 3) := by decide +kernel
theorem dX10_runText_88 : decode cX10_runText 88 = .ok (.iadd, 1) := by decide +kernel
theorem dX10_runText_89 : decode cX10_runText 89 = .ok (.aload_n 0, 1) := by decide +kernel
theorem dX10_runText_90 : decode cX10_runText 90 = .ok (.getfield 165, 3) := by decide +kernel
theorem dX10_runText_93 : decode cX10_runText 93 = .ok (.invokevirtual 138, 3) := by decide +kernel
theorem dX10_runText_96 : decode cX10_runText 96 = .ok (.pop, 1) := by decide +kernel
theorem dX10_runText_97 : decode cX10_runText 97 = .ok (.goto 26, 3) := by decide +kernel
theorem dX10_runText_100 : decode cX10_runText 100 = .ok (.aload_n 0, 1) := by decide +kernel
theorem dX10_runText_101 : decode cX10_runText 101 = .ok (.invokevirtual 141, 3) := by decide +kernel
theorem dX10_runText_104 : decode cX10_runText 104 = .ok (.pop, 1) := by decide +kernel
theorem dX10_runText_105 : decode cX10_runText 105 = .ok (.goto 18, 3) := by decide +kernel
theorem dX10_runText_108 : decode cX10_runText 108 = .ok (.aload_n 0, 1) := by decide +kernel
theorem dX10_runText_109 : decode cX10_runText 109 = .ok (.invokevirtual 144, 3) := by decide +kernel
theorem dX10_runText_112 : decode cX10_runText 112 = .ok (.pop, 1) := by decide +kernel
theorem dX10_runText_113 : decode cX10_runText 113 = .ok (.goto 10, 3) := by decide +kernel
theorem dX10_runText_116 : decode cX10_runText 116 = .ok (.iload_n 1, 1) := by decide +kernel
theorem dX10_runText_117 : decode cX10_runText 117 = .ok (.aload_n 0, 1) := by decide +kernel
theorem dX10_runText_118 : decode cX10_runText 118 = .ok (.invokevirtual 153, 3) := by decide +kernel
theorem dX10_runText_121 : decode cX10_runText 121 = .ok (.iadd, 1) := by decide +kernel
theorem dX10_runText_122 : decode cX10_runText 122 = .ok (.istore_n 1, 1) := by decide +kernel
theorem dX10_runText_123 : decode cX10_runText 123 = .ok (.aload_n 0, 1) := by decide +kernel
theorem dX10_runText_124 : decode cX10_runText 124 = .ok (.bipush 59, 2) := by decide +kernel
theorem dX10_runText_126 : decode cX10_runText 126 = .ok (.invokevirtual 171, 3) := by decide +kernel
theorem dX10_runText_129 : decode cX10_runText 129 = .ok (.pop, 1) := by decide +kernel
theorem dX10_runText_130 : decode cX10_runText 130 = .ok (.goto (-98), 3) := by decide +kernel
theorem dX10_runText_133 : decode cX10_runText 133 = .ok (.iload_n 1, 1) := by decide +kernel
theorem dX10_runText_134 : decode cX10_runText 134 = .ok (.ireturn, 1) := by decide +kernel
set_option maxRecDepth 20000 in
theorem ggX10_undo_X10_holds : GoodIn wsX10_undo wsX10_holds := goodIn_r _ [6, 7, 13, 14, 15, 16, 17, 18, 19, 20, 21, 22, 23, 24, 25, 26, 27, 28, 29, 30, 31, 32] (by decide +kernel) (by decide +kernel)
set_option maxRecDepth 20000 in
theorem gX10_undo_X10_holds : GoodIn wsX10_undo (wsV RX10 132 RX10 yX10_holds wsX10_holds) := goodIn_app (goodIn_of _ (by decide +kernel)) ggX10_undo_X10_holds
set_option maxRecDepth 20000 in
theorem ggX10_undo_X10_copies : GoodIn wsX10_undo wsX10_copies := goodIn_r _ [11, 12, 13, 14, 15, 16, 17, 18, 19, 20, 21, 22, 23, 24, 25, 26, 27, 28, 29, 30, 31, 32] (by decide +kernel) (by decide +kernel)
set_option maxRecDepth 20000 in
theorem gX10_undo_X10_copies : GoodIn wsX10_undo (wsV RX10 121 RX10 yX10_copies wsX10_copies) := goodIn_app (goodIn_of _ (by decide +kernel)) ggX10_undo_X10_copies
theorem dX10_undo_0 : decode cX10_undo 0 = .ok (.aload_n 0, 1) := by decide +kernel
theorem dX10_undo_1 : decode cX10_undo 1 = .ok (.aload_n 0, 1) := by decide +kernel
theorem dX10_undo_2 : decode cX10_undo 2 = .ok (.getfield 118, 3) := by decide +kernel
theorem dX10_undo_5 : decode cX10_undo 5 = .ok (.ifCond .le 7, 3) := by decide +kernel
theorem dX10_undo_8 : decode cX10_undo 8 = .ok (.iconst 0, 1) := by decide +kernel
theorem dX10_undo_9 : decode cX10_undo 9 = .ok (.goto 4, 3) := by decide +kernel
theorem dX10_undo_12 : decode cX10_undo 12 = .ok (.iconst 1, 1) := by decide +kernel
theorem dX10_undo_13 : decode cX10_undo 13 = .ok (.invokevirtual 132, 3) := by decide +kernel
theorem dX10_undo_16 : decode cX10_undo 16 = .ok (.ifCond .ne 5, 3) := by decide +kernel
theorem dX10_undo_19 : decode cX10_undo 19 = .ok (.iconst 0, 1) := by decide +kernel
theorem dX10_undo_20 : decode cX10_undo 20 = .ok (.ireturn, 1) := by decide +kernel
theorem dX10_undo_21 : decode cX10_undo 21 = .ok (.aload_n 0, 1) := by decide +kernel
theorem dX10_undo_22 : decode cX10_undo 22 = .ok (.aload_n 0, 1) := by decide +kernel
theorem dX10_undo_23 : decode cX10_undo 23 = .ok (.getfield 118, 3) := by decide +kernel
theorem dX10_undo_26 : decode cX10_undo 26 = .ok (.iconst 0, 1) := by decide +kernel
theorem dX10_undo_27 : decode cX10_undo 27 = .ok (.invokevirtual 121, 3) := by decide +kernel
theorem dX10_undo_30 : decode cX10_undo 30 = .ok (.aload_n 0, 1) := by decide +kernel
theorem dX10_undo_31 : decode cX10_undo 31 = .ok (.dup, 1) := by decide +kernel
theorem dX10_undo_32 : decode cX10_undo 32 = .ok (.getfield 118, 3) := by decide +kernel
theorem dX10_undo_35 : decode cX10_undo 35 = .ok (.iconst 1, 1) := by decide +kernel
theorem dX10_undo_36 : decode cX10_undo 36 = .ok (.isub, 1) := by decide +kernel
theorem dX10_undo_37 : decode cX10_undo 37 = .ok (.putfield 118, 3) := by decide +kernel
theorem dX10_undo_40 : decode cX10_undo 40 = .ok (.aload_n 0, 1) := by decide +kernel
theorem dX10_undo_41 : decode cX10_undo 41 = .ok (.getfield 118, 3) := by decide +kernel
theorem dX10_undo_44 : decode cX10_undo 44 = .ok (.ireturn, 1) := by decide +kernel
set_option maxRecDepth 20000 in
theorem ggX10_raw_X10_isCell : GoodIn wsX10_raw wsX10_isCell := goodIn_r _ [5, 6, 7, 4, 8] (by decide +kernel) (by decide +kernel)
set_option maxRecDepth 20000 in
theorem gX10_raw_X10_isCell : GoodIn wsX10_raw (va_wsS RX10 128 yX10_isCell wsX10_isCell) := goodIn_app (goodIn_of _ (by decide +kernel)) ggX10_raw_X10_isCell
set_option maxRecDepth 20000 in
theorem ggX10_raw_X10_holds : GoodIn wsX10_raw wsX10_holds := goodIn_r _ [12, 13, 14, 15, 16, 17, 18, 19, 20, 21, 22, 23, 24, 25, 26, 27, 28, 29, 30, 31, 32, 33] (by decide +kernel) (by decide +kernel)
set_option maxRecDepth 20000 in
theorem gX10_raw_X10_holds : GoodIn wsX10_raw (wsV RX10 132 RX10 yX10_holds wsX10_holds) := goodIn_app (goodIn_of _ (by decide +kernel)) ggX10_raw_X10_holds
theorem dX10_raw_0 : decode cX10_raw 0 = .ok (.aload_n 0, 1) := by decide +kernel
theorem dX10_raw_1 : decode cX10_raw 1 = .ok (.iload_n 1, 1) := by decide +kernel
theorem dX10_raw_2 : decode cX10_raw 2 = .ok (.iload_n 2, 1) := by decide +kernel
theorem dX10_raw_3 : decode cX10_raw 3 = .ok (.invokestatic 128, 3) := by decide +kernel
theorem dX10_raw_6 : decode cX10_raw 6 = .ok (.ifCond .eq 7, 3) := by decide +kernel
theorem dX10_raw_9 : decode cX10_raw 9 = .ok (.iconst 0, 1) := by decide +kernel
theorem dX10_raw_10 : decode cX10_raw 10 = .ok (.goto 4, 3) := by decide +kernel
theorem dX10_raw_13 : decode cX10_raw 13 = .ok (.iconst 1, 1) := by decide +kernel
theorem dX10_raw_14 : decode cX10_raw 14 = .ok (.invokevirtual 132, 3) := by decide +kernel
theorem dX10_raw_17 : decode cX10_raw 17 = .ok (.ifCond .eq 19, 3) := by decide +kernel
theorem dX10_raw_20 : decode cX10_raw 20 = .ok (.aload_n 0, 1) := by decide +kernel
theorem dX10_raw_21 : decode cX10_raw 21 = .ok (.getfield 7, 3) := by decide +kernel
theorem dX10_raw_24 : decode cX10_raw 24 = .ok (.iconst 0, 1) := by decide +kernel
theorem dX10_raw_25 : decode cX10_raw 25 = .ok (.bipush 6, 2) := by decide +kernel
theorem dX10_raw_27 : decode cX10_raw 27 = .ok (.iload_n 1, 1) := by decide +kernel
theorem dX10_raw_28 : decode cX10_raw 28 = .ok (.imul, 1) := by decide +kernel
theorem dX10_raw_29 : decode cX10_raw 29 = .ok (.iadd, 1) := by decide +kernel
theorem dX10_raw_30 : decode cX10_raw 30 = .ok (.iload_n 2, 1) := by decide +kernel
theorem dX10_raw_31 : decode cX10_raw 31 = .ok (.iadd, 1) := by decide +kernel
theorem dX10_raw_32 : decode cX10_raw 32 = .ok (.iaload, 1) := by decide +kernel
theorem dX10_raw_33 : decode cX10_raw 33 = .ok (.goto 4, 3) := by decide +kernel
theorem dX10_raw_36 : decode cX10_raw 36 = .ok (.iconst 0, 1) := by decide +kernel
theorem dX10_raw_37 : decode cX10_raw 37 = .ok (.ireturn, 1) := by decide +kernel
set_option maxRecDepth 20000 in
theorem ggX10_signal_X10_isCell : GoodIn wsX10_signal wsX10_isCell := goodIn_r _ [4, 5, 6, 3, 7] (by decide +kernel) (by decide +kernel)
set_option maxRecDepth 20000 in
theorem gX10_signal_X10_isCell : GoodIn wsX10_signal (va_wsS RX10 128 yX10_isCell wsX10_isCell) := goodIn_app (goodIn_of _ (by decide +kernel)) ggX10_signal_X10_isCell
set_option maxRecDepth 20000 in
theorem ggX10_signal_X10_holds : GoodIn wsX10_signal wsX10_holds := goodIn_r _ [11, 12, 18, 19, 20, 21, 22, 23, 24, 25, 26, 27, 28, 29, 30, 31, 32, 33, 34, 35, 36, 37] (by decide +kernel) (by decide +kernel)
set_option maxRecDepth 20000 in
theorem gX10_signal_X10_holds : GoodIn wsX10_signal (wsV RX10 132 RX10 yX10_holds wsX10_holds) := goodIn_app (goodIn_of _ (by decide +kernel)) ggX10_signal_X10_holds
set_option maxRecDepth 20000 in
theorem ggX10_signal_X10_signalOf : GoodIn wsX10_signal wsX10_signalOf := goodIn_r _ [16, 17, 18, 19, 20, 21, 22, 23, 24, 25, 26, 27, 28, 29, 30, 31, 32, 33, 34, 35, 36, 37] (by decide +kernel) (by decide +kernel)
set_option maxRecDepth 20000 in
theorem gX10_signal_X10_signalOf : GoodIn wsX10_signal (wsV RX10 51 RX10 yX10_signalOf wsX10_signalOf) := goodIn_app (goodIn_of _ (by decide +kernel)) ggX10_signal_X10_signalOf
theorem dX10_signal_0 : decode cX10_signal 0 = .ok (.aload_n 0, 1) := by decide +kernel
theorem dX10_signal_1 : decode cX10_signal 1 = .ok (.iload_n 1, 1) := by decide +kernel
theorem dX10_signal_2 : decode cX10_signal 2 = .ok (.iload_n 2, 1) := by decide +kernel
theorem dX10_signal_3 : decode cX10_signal 3 = .ok (.invokestatic 128, 3) := by decide +kernel
theorem dX10_signal_6 : decode cX10_signal 6 = .ok (.ifCond .eq 7, 3) := by decide +kernel
theorem dX10_signal_9 : decode cX10_signal 9 = .ok (.iconst 0, 1) := by decide +kernel
theorem dX10_signal_10 : decode cX10_signal 10 = .ok (.goto 4, 3) := by decide +kernel
theorem dX10_signal_13 : decode cX10_signal 13 = .ok (.iconst 1, 1) := by decide +kernel
theorem dX10_signal_14 : decode cX10_signal 14 = .ok (.invokevirtual 132, 3) := by decide +kernel
theorem dX10_signal_17 : decode cX10_signal 17 = .ok (.ifCond .eq 16, 3) := by decide +kernel
theorem dX10_signal_20 : decode cX10_signal 20 = .ok (.aload_n 0, 1) := by decide +kernel
theorem dX10_signal_21 : decode cX10_signal 21 = .ok (.bipush 6, 2) := by decide +kernel
theorem dX10_signal_23 : decode cX10_signal 23 = .ok (.iload_n 1, 1) := by decide +kernel
theorem dX10_signal_24 : decode cX10_signal 24 = .ok (.imul, 1) := by decide +kernel
theorem dX10_signal_25 : decode cX10_signal 25 = .ok (.iload_n 2, 1) := by decide +kernel
theorem dX10_signal_26 : decode cX10_signal 26 = .ok (.iadd, 1) := by decide +kernel
theorem dX10_signal_27 : decode cX10_signal 27 = .ok (.invokevirtual 51, 3) := by decide +kernel
theorem dX10_signal_30 : decode cX10_signal 30 = .ok (.goto 4, 3) := by decide +kernel
theorem dX10_signal_33 : decode cX10_signal 33 = .ok (.iconst 0, 1) := by decide +kernel
theorem dX10_signal_34 : decode cX10_signal 34 = .ok (.ireturn, 1) := by decide +kernel
set_option maxRecDepth 20000 in
theorem ggX10_regionSize_X10_isCell : GoodIn wsX10_regionSize wsX10_isCell := goodIn_r _ [6, 7, 8, 5, 9] (by decide +kernel) (by decide +kernel)
set_option maxRecDepth 20000 in
theorem gX10_regionSize_X10_isCell : GoodIn wsX10_regionSize (va_wsS RX10 128 yX10_isCell wsX10_isCell) := goodIn_app (goodIn_of _ (by decide +kernel)) ggX10_regionSize_X10_isCell
set_option maxRecDepth 20000 in
theorem ggX10_regionSize_X10_holds : GoodIn wsX10_regionSize wsX10_holds := goodIn_r _ [13, 14, 32, 33, 34, 35, 36, 37, 38, 39, 40, 41, 42, 43, 44, 45, 46, 47, 48, 49, 50, 51] (by decide +kernel) (by decide +kernel)
set_option maxRecDepth 20000 in
theorem gX10_regionSize_X10_holds : GoodIn wsX10_regionSize (wsV RX10 132 RX10 yX10_holds wsX10_holds) := goodIn_app (goodIn_of _ (by decide +kernel)) ggX10_regionSize_X10_holds
set_option maxRecDepth 20000 in
theorem ggX10_regionSize_X10_findsRegions : GoodIn wsX10_regionSize wsX10_findsRegions := goodIn_r _ [18, 1, 2, 19, 20, 21, 22, 5, 23, 24, 25, 26, 27, 28, 29, 30, 31, 7, 8, 9, 32, 33, 34, 35, 36, 37, 38, 39, 40, 41, 42, 43, 44, 45, 46, 47, 48, 49, 50, 51] (by decide +kernel) (by decide +kernel)
set_option maxRecDepth 20000 in
theorem gX10_regionSize_X10_findsRegions : GoodIn wsX10_regionSize (wsV RX10 69 RX10 yX10_findsRegions wsX10_findsRegions) := goodIn_app (goodIn_of _ (by decide +kernel)) ggX10_regionSize_X10_findsRegions
theorem dX10_regionSize_0 : decode cX10_regionSize 0 = .ok (.aload_n 0, 1) := by decide +kernel
theorem dX10_regionSize_1 : decode cX10_regionSize 1 = .ok (.iload_n 1, 1) := by decide +kernel
theorem dX10_regionSize_2 : decode cX10_regionSize 2 = .ok (.iload_n 2, 1) := by decide +kernel
theorem dX10_regionSize_3 : decode cX10_regionSize 3 = .ok (.invokestatic 128, 3) := by decide +kernel
theorem dX10_regionSize_6 : decode cX10_regionSize 6 = .ok (.ifCond .eq 7, 3) := by decide +kernel
theorem dX10_regionSize_9 : decode cX10_regionSize 9 = .ok (.iconst 0, 1) := by decide +kernel
theorem dX10_regionSize_10 : decode cX10_regionSize 10 = .ok (.goto 4, 3) := by decide +kernel
theorem dX10_regionSize_13 : decode cX10_regionSize 13 = .ok (.iconst 1, 1) := by decide +kernel
theorem dX10_regionSize_14 : decode cX10_regionSize 14 = .ok (.invokevirtual 132, 3) := by decide +kernel
theorem dX10_regionSize_17 : decode cX10_regionSize 17 = .ok (.ifCond .ne 5, 3) := by decide +kernel
theorem dX10_regionSize_20 : decode cX10_regionSize 20 = .ok (.iconst 0, 1) := by decide +kernel
theorem dX10_regionSize_21 : decode cX10_regionSize 21 = .ok (.ireturn, 1) := by decide +kernel
theorem dX10_regionSize_22 : decode cX10_regionSize 22 = .ok (.aload_n 0, 1) := by decide +kernel
theorem dX10_regionSize_23 : decode cX10_regionSize 23 = .ok (.invokevirtual 69, 3) := by decide +kernel
theorem dX10_regionSize_26 : decode cX10_regionSize 26 = .ok (.aload_n 0, 1) := by decide +kernel
theorem dX10_regionSize_27 : decode cX10_regionSize 27 = .ok (.getfield 16, 3) := by decide +kernel
theorem dX10_regionSize_30 : decode cX10_regionSize 30 = .ok (.bipush 6, 2) := by decide +kernel
theorem dX10_regionSize_32 : decode cX10_regionSize 32 = .ok (.iload_n 1, 1) := by decide +kernel
theorem dX10_regionSize_33 : decode cX10_regionSize 33 = .ok (.imul, 1) := by decide +kernel
theorem dX10_regionSize_34 : decode cX10_regionSize 34 = .ok (.iload_n 2, 1) := by decide +kernel
theorem dX10_regionSize_35 : decode cX10_regionSize 35 = .ok (.iadd, 1) := by decide +kernel
theorem dX10_regionSize_36 : decode cX10_regionSize 36 = .ok (.iaload, 1) := by decide +kernel
theorem dX10_regionSize_37 : decode cX10_regionSize 37 = .ok (.istore_n 3, 1) := by decide +kernel
theorem dX10_regionSize_38 : decode cX10_regionSize 38 = .ok (.iload_n 3, 1) := by decide +kernel
theorem dX10_regionSize_39 : decode cX10_regionSize 39 = .ok (.iconst (-1), 1) := by decide +kernel
theorem dX10_regionSize_40 : decode cX10_regionSize 40 = .ok (.if_icmp .ne 7, 3) := by decide +kernel
theorem dX10_regionSize_43 : decode cX10_regionSize 43 = .ok (.iconst 0, 1) := by decide +kernel
theorem dX10_regionSize_44 : decode cX10_regionSize 44 = .ok (.goto 9, 3) := by decide +kernel
theorem dX10_regionSize_47 : decode cX10_regionSize 47 = .ok (.aload_n 0, 1) := by decide +kernel
theorem dX10_regionSize_48 : decode cX10_regionSize 48 = .ok (.getfield 19, 3) := by decide +kernel
theorem dX10_regionSize_51 : decode cX10_regionSize 51 = .ok (.iload_n 3, 1) := by decide +kernel
theorem dX10_regionSize_52 : decode cX10_regionSize 52 = .ok (.iaload, 1) := by decide +kernel
theorem dX10_regionSize_53 : decode cX10_regionSize 53 = .ok (.ireturn, 1) := by decide +kernel
set_option maxRecDepth 20000 in
theorem ggX10_regionKind_X10_isCell : GoodIn wsX10_regionKind wsX10_isCell := goodIn_r _ [5, 6, 7, 4, 8] (by decide +kernel) (by decide +kernel)
set_option maxRecDepth 20000 in
theorem gX10_regionKind_X10_isCell : GoodIn wsX10_regionKind (va_wsS RX10 128 yX10_isCell wsX10_isCell) := goodIn_app (goodIn_of _ (by decide +kernel)) ggX10_regionKind_X10_isCell
set_option maxRecDepth 20000 in
theorem ggX10_regionKind_X10_holds : GoodIn wsX10_regionKind wsX10_holds := goodIn_r _ [12, 13, 36, 37, 38, 39, 40, 41, 42, 43, 44, 45, 46, 47, 48, 49, 50, 51, 52, 53, 54, 55] (by decide +kernel) (by decide +kernel)
set_option maxRecDepth 20000 in
theorem gX10_regionKind_X10_holds : GoodIn wsX10_regionKind (wsV RX10 132 RX10 yX10_holds wsX10_holds) := goodIn_app (goodIn_of _ (by decide +kernel)) ggX10_regionKind_X10_holds
set_option maxRecDepth 20000 in
theorem ggX10_regionKind_X10_findsRegions : GoodIn wsX10_regionKind wsX10_findsRegions := goodIn_r _ [17, 1, 18, 19, 20, 21, 22, 4, 23, 24, 25, 26, 27, 28, 29, 30, 31, 6, 7, 8, 36, 37, 38, 39, 40, 41, 42, 43, 44, 45, 46, 47, 48, 49, 50, 51, 52, 53, 54, 55] (by decide +kernel) (by decide +kernel)
set_option maxRecDepth 20000 in
theorem gX10_regionKind_X10_findsRegions : GoodIn wsX10_regionKind (wsV RX10 69 RX10 yX10_findsRegions wsX10_findsRegions) := goodIn_app (goodIn_of _ (by decide +kernel)) ggX10_regionKind_X10_findsRegions
set_option maxRecDepth 20000 in
theorem ggX10_regionKind_X10_kindOf : GoodIn wsX10_regionKind wsX10_kindOf := goodIn_r _ [35, 18, 24, 19, 36, 37, 38, 39, 40, 41, 42, 43, 44, 45, 46, 47, 48, 49, 50, 51, 52, 53, 54, 55] (by decide +kernel) (by decide +kernel)
set_option maxRecDepth 20000 in
theorem gX10_regionKind_X10_kindOf : GoodIn wsX10_regionKind (wsV RX10 63 RX10 yX10_kindOf wsX10_kindOf) := goodIn_app (goodIn_of _ (by decide +kernel)) ggX10_regionKind_X10_kindOf
theorem dX10_regionKind_0 : decode cX10_regionKind 0 = .ok (.aload_n 0, 1) := by decide +kernel
theorem dX10_regionKind_1 : decode cX10_regionKind 1 = .ok (.iload_n 1, 1) := by decide +kernel
theorem dX10_regionKind_2 : decode cX10_regionKind 2 = .ok (.iload_n 2, 1) := by decide +kernel
theorem dX10_regionKind_3 : decode cX10_regionKind 3 = .ok (.invokestatic 128, 3) := by decide +kernel
theorem dX10_regionKind_6 : decode cX10_regionKind 6 = .ok (.ifCond .eq 7, 3) := by decide +kernel
theorem dX10_regionKind_9 : decode cX10_regionKind 9 = .ok (.iconst 0, 1) := by decide +kernel
theorem dX10_regionKind_10 : decode cX10_regionKind 10 = .ok (.goto 4, 3) := by decide +kernel
theorem dX10_regionKind_13 : decode cX10_regionKind 13 = .ok (.iconst 1, 1) := by decide +kernel
theorem dX10_regionKind_14 : decode cX10_regionKind 14 = .ok (.invokevirtual 132, 3) := by decide +kernel
theorem dX10_regionKind_17 : decode cX10_regionKind 17 = .ok (.ifCond .ne 5, 3) := by decide +kernel
theorem dX10_regionKind_20 : decode cX10_regionKind 20 = .ok (.iconst 0, 1) := by decide +kernel
theorem dX10_regionKind_21 : decode cX10_regionKind 21 = .ok (.ireturn, 1) := by decide +kernel
theorem dX10_regionKind_22 : decode cX10_regionKind 22 = .ok (.aload_n 0, 1) := by decide +kernel
theorem dX10_regionKind_23 : decode cX10_regionKind 23 = .ok (.invokevirtual 69, 3) := by decide +kernel
theorem dX10_regionKind_26 : decode cX10_regionKind 26 = .ok (.aload_n 0, 1) := by decide +kernel
theorem dX10_regionKind_27 : decode cX10_regionKind 27 = .ok (.getfield 16, 3) := by decide +kernel
theorem dX10_regionKind_30 : decode cX10_regionKind 30 = .ok (.bipush 6, 2) := by decide +kernel
theorem dX10_regionKind_32 : decode cX10_regionKind 32 = .ok (.iload_n 1, 1) := by decide +kernel
theorem dX10_regionKind_33 : decode cX10_regionKind 33 = .ok (.imul, 1) := by decide +kernel
theorem dX10_regionKind_34 : decode cX10_regionKind 34 = .ok (.iload_n 2, 1) := by decide +kernel
theorem dX10_regionKind_35 : decode cX10_regionKind 35 = .ok (.iadd, 1) := by decide +kernel
theorem dX10_regionKind_36 : decode cX10_regionKind 36 = .ok (.iaload, 1) := by decide +kernel
theorem dX10_regionKind_37 : decode cX10_regionKind 37 = .ok (.istore_n 3, 1) := by decide +kernel
theorem dX10_regionKind_38 : decode cX10_regionKind 38 = .ok (.iload_n 3, 1) := by decide +kernel
theorem dX10_regionKind_39 : decode cX10_regionKind 39 = .ok (.iconst (-1), 1) := by decide +kernel
theorem dX10_regionKind_40 : decode cX10_regionKind 40 = .ok (.if_icmp .ne 7, 3) := by decide +kernel
theorem dX10_regionKind_43 : decode cX10_regionKind 43 = .ok (.iconst (-1), 1) := by decide +kernel
theorem dX10_regionKind_44 : decode cX10_regionKind 44 = .ok (.goto 8, 3) := by decide +kernel
theorem dX10_regionKind_47 : decode cX10_regionKind 47 = .ok (.aload_n 0, 1) := by decide +kernel
theorem dX10_regionKind_48 : decode cX10_regionKind 48 = .ok (.iload_n 3, 1) := by decide +kernel
theorem dX10_regionKind_49 : decode cX10_regionKind 49 = .ok (.invokevirtual 63, 3) := by decide +kernel
theorem dX10_regionKind_52 : decode cX10_regionKind 52 = .ok (.ireturn, 1) := by decide +kernel
set_option maxRecDepth 20000 in
theorem ggX10_regions_X10_in : GoodIn wsX10_regions wsX10_in := goodIn_r _ [5] (by decide +kernel) (by decide +kernel)
set_option maxRecDepth 20000 in
theorem gX10_regions_X10_in : GoodIn wsX10_regions (va_wsS RX10 47 yX10_in wsX10_in) := goodIn_app (goodIn_of _ (by decide +kernel)) ggX10_regions_X10_in
set_option maxRecDepth 20000 in
theorem ggX10_regions_X10_holds : GoodIn wsX10_regions wsX10_holds := goodIn_r _ [9, 10, 33, 34, 35, 36, 37, 38, 39, 40, 41, 42, 43, 44, 45, 46, 47, 48, 49, 50, 51, 52] (by decide +kernel) (by decide +kernel)
set_option maxRecDepth 20000 in
theorem gX10_regions_X10_holds : GoodIn wsX10_regions (wsV RX10 132 RX10 yX10_holds wsX10_holds) := goodIn_app (goodIn_of _ (by decide +kernel)) ggX10_regions_X10_holds
set_option maxRecDepth 20000 in
theorem ggX10_regions_X10_findsRegions : GoodIn wsX10_regions wsX10_findsRegions := goodIn_r _ [14, 15, 1, 16, 17, 18, 19, 4, 20, 21, 22, 23, 24, 25, 26, 27, 28, 2, 3, 5, 33, 34, 35, 36, 37, 38, 39, 40, 41, 42, 43, 44, 45, 46, 47, 48, 49, 50, 51, 52] (by decide +kernel) (by decide +kernel)
set_option maxRecDepth 20000 in
theorem gX10_regions_X10_findsRegions : GoodIn wsX10_regions (wsV RX10 69 RX10 yX10_findsRegions wsX10_findsRegions) := goodIn_app (goodIn_of _ (by decide +kernel)) ggX10_regions_X10_findsRegions
set_option maxRecDepth 20000 in
theorem ggX10_regions_X10_kindOf : GoodIn wsX10_regions wsX10_kindOf := goodIn_r _ [32, 1, 21, 16, 33, 34, 35, 36, 37, 38, 39, 40, 41, 42, 43, 44, 45, 46, 47, 48, 49, 50, 51, 52] (by decide +kernel) (by decide +kernel)
set_option maxRecDepth 20000 in
theorem gX10_regions_X10_kindOf : GoodIn wsX10_regions (wsV RX10 63 RX10 yX10_kindOf wsX10_kindOf) := goodIn_app (goodIn_of _ (by decide +kernel)) ggX10_regions_X10_kindOf
theorem dX10_regions_0 : decode cX10_regions 0 = .ok (.aload_n 0, 1) := by decide +kernel
theorem dX10_regions_1 : decode cX10_regions 1 = .ok (.iload_n 1, 1) := by decide +kernel
theorem dX10_regions_2 : decode cX10_regions 2 = .ok (.iconst 0, 1) := by decide +kernel
theorem dX10_regions_3 : decode cX10_regions 3 = .ok (.iconst 2, 1) := by decide +kernel
theorem dX10_regions_4 : decode cX10_regions 4 = .ok (.invokestatic 47, 3) := by decide +kernel
theorem dX10_regions_7 : decode cX10_regions 7 = .ok (.ifCond .eq 7, 3) := by decide +kernel
theorem dX10_regions_10 : decode cX10_regions 10 = .ok (.iconst 0, 1) := by decide +kernel
theorem dX10_regions_11 : decode cX10_regions 11 = .ok (.goto 4, 3) := by decide +kernel
theorem dX10_regions_14 : decode cX10_regions 14 = .ok (.iconst 1, 1) := by decide +kernel
theorem dX10_regions_15 : decode cX10_regions 15 = .ok (.invokevirtual 132, 3) := by decide +kernel
theorem dX10_regions_18 : decode cX10_regions 18 = .ok (.ifCond .ne 5, 3) := by decide +kernel
theorem dX10_regions_21 : decode cX10_regions 21 = .ok (.iconst 0, 1) := by decide +kernel
theorem dX10_regions_22 : decode cX10_regions 22 = .ok (.ireturn, 1) := by decide +kernel
theorem dX10_regions_23 : decode cX10_regions 23 = .ok (.aload_n 0, 1) := by decide +kernel
theorem dX10_regions_24 : decode cX10_regions 24 = .ok (.invokevirtual 69, 3) := by decide +kernel
theorem dX10_regions_27 : decode cX10_regions 27 = .ok (.iconst 0, 1) := by decide +kernel
theorem dX10_regions_28 : decode cX10_regions 28 = .ok (.istore_n 2, 1) := by decide +kernel
theorem dX10_regions_29 : decode cX10_regions 29 = .ok (.iconst 0, 1) := by decide +kernel
theorem dX10_regions_30 : decode cX10_regions 30 = .ok (.istore_n 3, 1) := by decide +kernel
theorem dX10_regions_31 : decode cX10_regions 31 = .ok (.iload_n 3, 1) := by decide +kernel
theorem dX10_regions_32 : decode cX10_regions 32 = .ok (.bipush 48, 2) := by decide +kernel
theorem dX10_regions_34 : decode cX10_regions 34 = .ok (.if_icmp .ge 35, 3) := by decide +kernel
theorem dX10_regions_37 : decode cX10_regions 37 = .ok (.iload_n 2, 1) := by decide +kernel
theorem dX10_regions_38 : decode cX10_regions 38 = .ok (.aload_n 0, 1) := by decide +kernel
theorem dX10_regions_39 : decode cX10_regions 39 = .ok (.getfield 19, 3) := by decide +kernel
theorem dX10_regions_42 : decode cX10_regions 42 = .ok (.iload_n 3, 1) := by decide +kernel
theorem dX10_regions_43 : decode cX10_regions 43 = .ok (.iaload, 1) := by decide +kernel
theorem dX10_regions_44 : decode cX10_regions 44 = .ok (.ifCond .le 16, 3) := by decide +kernel
theorem dX10_regions_47 : decode cX10_regions 47 = .ok (.aload_n 0, 1) := by decide +kernel
theorem dX10_regions_48 : decode cX10_regions 48 = .ok (.iload_n 3, 1) := by decide +kernel
theorem dX10_regions_49 : decode cX10_regions 49 = .ok (.invokevirtual 63, 3) := by decide +kernel
theorem dX10_regions_52 : decode cX10_regions 52 = .ok (.iload_n 1, 1) := by decide +kernel
theorem dX10_regions_53 : decode cX10_regions 53 = .ok (.if_icmp .ne 7, 3) := by decide +kernel
theorem dX10_regions_56 : decode cX10_regions 56 = .ok (.iconst 1, 1) := by decide +kernel
theorem dX10_regions_57 : decode cX10_regions 57 = .ok (.goto 4, 3) := by decide +kernel
theorem dX10_regions_60 : decode cX10_regions 60 = .ok (.iconst 0, 1) := by decide +kernel
theorem dX10_regions_61 : decode cX10_regions 61 = .ok (.iadd, 1) := by decide +kernel
theorem dX10_regions_62 : decode cX10_regions 62 = .ok (.istore_n 2, 1) := by decide +kernel
theorem dX10_regions_63 : decode cX10_regions 63 = .ok (.iinc 3 1, 3) := by decide +kernel
theorem dX10_regions_66 : decode cX10_regions 66 = .ok (.goto (-35), 3) := by decide +kernel
theorem dX10_regions_69 : decode cX10_regions 69 = .ok (.iload_n 2, 1) := by decide +kernel
theorem dX10_regions_70 : decode cX10_regions 70 = .ok (.ireturn, 1) := by decide +kernel
set_option maxRecDepth 20000 in
theorem ggX10_setting_X10_isSetting : GoodIn wsX10_setting wsX10_isSetting := goodIn_r _ [5, 6, 7, 4, 8] (by decide +kernel) (by decide +kernel)
set_option maxRecDepth 20000 in
theorem gX10_setting_X10_isSetting : GoodIn wsX10_setting (va_wsS RX10 147 yX10_isSetting wsX10_isSetting) := goodIn_app (goodIn_of _ (by decide +kernel)) ggX10_setting_X10_isSetting
set_option maxRecDepth 20000 in
theorem ggX10_setting_X10_holds : GoodIn wsX10_setting wsX10_holds := goodIn_r _ [12, 13, 14, 15, 16, 17, 18, 19, 20, 21, 22, 23, 24, 25, 26, 27, 28, 29, 30, 31, 32, 33] (by decide +kernel) (by decide +kernel)
set_option maxRecDepth 20000 in
theorem gX10_setting_X10_holds : GoodIn wsX10_setting (wsV RX10 132 RX10 yX10_holds wsX10_holds) := goodIn_app (goodIn_of _ (by decide +kernel)) ggX10_setting_X10_holds
theorem dX10_setting_0 : decode cX10_setting 0 = .ok (.aload_n 0, 1) := by decide +kernel
theorem dX10_setting_1 : decode cX10_setting 1 = .ok (.iload_n 1, 1) := by decide +kernel
theorem dX10_setting_2 : decode cX10_setting 2 = .ok (.invokestatic 147, 3) := by decide +kernel
theorem dX10_setting_5 : decode cX10_setting 5 = .ok (.ifCond .eq 7, 3) := by decide +kernel
theorem dX10_setting_8 : decode cX10_setting 8 = .ok (.iconst 0, 1) := by decide +kernel
theorem dX10_setting_9 : decode cX10_setting 9 = .ok (.goto 4, 3) := by decide +kernel
theorem dX10_setting_12 : decode cX10_setting 12 = .ok (.iconst 1, 1) := by decide +kernel
theorem dX10_setting_13 : decode cX10_setting 13 = .ok (.invokevirtual 132, 3) := by decide +kernel
theorem dX10_setting_16 : decode cX10_setting 16 = .ok (.ifCond .eq 15, 3) := by decide +kernel
theorem dX10_setting_19 : decode cX10_setting 19 = .ok (.aload_n 0, 1) := by decide +kernel
theorem dX10_setting_20 : decode cX10_setting 20 = .ok (.getfield 7, 3) := by decide +kernel
theorem dX10_setting_23 : decode cX10_setting 23 = .ok (.bipush 96, 2) := by decide +kernel
theorem dX10_setting_25 : decode cX10_setting 25 = .ok (.iload_n 1, 1) := by decide +kernel
theorem dX10_setting_26 : decode cX10_setting 26 = .ok (.iadd, 1) := by decide +kernel
theorem dX10_setting_27 : decode cX10_setting 27 = .ok (.iaload, 1) := by decide +kernel
theorem dX10_setting_28 : decode cX10_setting 28 = .ok (.goto 4, 3) := by decide +kernel
theorem dX10_setting_31 : decode cX10_setting 31 = .ok (.iconst 0, 1) := by decide +kernel
theorem dX10_setting_32 : decode cX10_setting 32 = .ok (.ireturn, 1) := by decide +kernel
set_option maxRecDepth 20000 in
theorem ggX10_contacts_X10_findsContacts : GoodIn wsX10_contacts wsX10_findsContacts := goodIn_r _ [7, 2, 8, 9, 10, 6, 11, 12, 13, 14, 15, 16, 17, 18, 19, 20, 21, 22, 23, 24, 25, 26, 27, 28, 29, 30, 31, 32, 33, 34, 35, 36, 37, 38, 39, 40, 41, 42, 43, 44, 45, 46, 47, 48, 49, 50, 51, 52, 53, 54, 55, 56, 57, 58, 59, 60, 61, 62, 63, 64, 65, 66, 67, 68, 69] (by decide +kernel) (by decide +kernel)
set_option maxRecDepth 20000 in
theorem gX10_contacts_X10_findsContacts : GoodIn wsX10_contacts (wsV RX10 92 RX10 yX10_findsContacts wsX10_findsContacts) := goodIn_app (goodIn_of _ (by decide +kernel)) ggX10_contacts_X10_findsContacts
theorem dX10_contacts_0 : decode cX10_contacts 0 = .ok (.aload_n 0, 1) := by decide +kernel
theorem dX10_contacts_1 : decode cX10_contacts 1 = .ok (.iconst 0, 1) := by decide +kernel
theorem dX10_contacts_2 : decode cX10_contacts 2 = .ok (.putfield 43, 3) := by decide +kernel
theorem dX10_contacts_5 : decode cX10_contacts 5 = .ok (.aload_n 0, 1) := by decide +kernel
theorem dX10_contacts_6 : decode cX10_contacts 6 = .ok (.invokevirtual 92, 3) := by decide +kernel
theorem dX10_contacts_9 : decode cX10_contacts 9 = .ok (.aload_n 0, 1) := by decide +kernel
theorem dX10_contacts_10 : decode cX10_contacts 10 = .ok (.getfield 66, 3) := by decide +kernel
theorem dX10_contacts_13 : decode cX10_contacts 13 = .ok (.ireturn, 1) := by decide +kernel
set_option maxRecDepth 20000 in
theorem ggX10_contact_X10_in : GoodIn wsX10_contact wsX10_in := goodIn_r _ [9] (by decide +kernel) (by decide +kernel)
set_option maxRecDepth 20000 in
theorem gX10_contact_X10_in : GoodIn wsX10_contact (va_wsS RX10 47 yX10_in wsX10_in) := goodIn_app (goodIn_of _ (by decide +kernel)) ggX10_contact_X10_in
set_option maxRecDepth 20000 in
theorem ggX10_contact_X10_holds : GoodIn wsX10_contact wsX10_holds := goodIn_r _ [13, 14, 54, 55, 56, 57, 58, 59, 60, 61, 62, 63, 64, 65, 66, 67, 68, 69, 70, 71, 72, 73] (by decide +kernel) (by decide +kernel)
set_option maxRecDepth 20000 in
theorem gX10_contact_X10_holds : GoodIn wsX10_contact (wsV RX10 132 RX10 yX10_holds wsX10_holds) := goodIn_app (goodIn_of _ (by decide +kernel)) ggX10_contact_X10_holds
set_option maxRecDepth 20000 in
theorem ggX10_contact_X10_findsContacts : GoodIn wsX10_contact wsX10_findsContacts := goodIn_r _ [18, 1, 19, 20, 21, 8, 22, 23, 24, 25, 26, 27, 28, 29, 30, 31, 32, 33, 34, 35, 36, 37, 6, 7, 9, 38, 39, 40, 41, 42, 43, 44, 45, 46, 47, 48, 49, 2, 3, 4, 5, 50, 51, 52, 53, 54, 55, 56, 57, 58, 59, 60, 61, 62, 63, 64, 65, 66, 67, 68, 69, 70, 71, 72, 73] (by decide +kernel) (by decide +kernel)
set_option maxRecDepth 20000 in
theorem gX10_contact_X10_findsContacts : GoodIn wsX10_contact (wsV RX10 92 RX10 yX10_findsContacts wsX10_findsContacts) := goodIn_app (goodIn_of _ (by decide +kernel)) ggX10_contact_X10_findsContacts
theorem dX10_contact_0 : decode cX10_contact 0 = .ok (.aload_n 0, 1) := by decide +kernel
theorem dX10_contact_1 : decode cX10_contact 1 = .ok (.iload_n 1, 1) := by decide +kernel
theorem dX10_contact_2 : decode cX10_contact 2 = .ok (.ifCond .ge 7, 3) := by decide +kernel
theorem dX10_contact_5 : decode cX10_contact 5 = .ok (.iconst 1, 1) := by decide +kernel
theorem dX10_contact_6 : decode cX10_contact 6 = .ok (.goto 17, 3) := by decide +kernel
theorem dX10_contact_9 : decode cX10_contact 9 = .ok (.iload_n 2, 1) := by decide +kernel
theorem dX10_contact_10 : decode cX10_contact 10 = .ok (.iconst 0, 1) := by decide +kernel
theorem dX10_contact_11 : decode cX10_contact 11 = .ok (.iconst 3, 1) := by decide +kernel
theorem dX10_contact_12 : decode cX10_contact 12 = .ok (.invokestatic 47, 3) := by decide +kernel
theorem dX10_contact_15 : decode cX10_contact 15 = .ok (.ifCond .ne 7, 3) := by decide +kernel
theorem dX10_contact_18 : decode cX10_contact 18 = .ok (.iconst 2, 1) := by decide +kernel
theorem dX10_contact_19 : decode cX10_contact 19 = .ok (.goto 4, 3) := by decide +kernel
theorem dX10_contact_22 : decode cX10_contact 22 = .ok (.iconst 0, 1) := by decide +kernel
theorem dX10_contact_23 : decode cX10_contact 23 = .ok (.invokevirtual 132, 3) := by decide +kernel
theorem dX10_contact_26 : decode cX10_contact 26 = .ok (.ifCond .ne 5, 3) := by decide +kernel
theorem dX10_contact_29 : decode cX10_contact 29 = .ok (.iconst 0, 1) := by decide +kernel
theorem dX10_contact_30 : decode cX10_contact 30 = .ok (.ireturn, 1) := by decide +kernel
theorem dX10_contact_31 : decode cX10_contact 31 = .ok (.aload_n 0, 1) := by decide +kernel
theorem dX10_contact_32 : decode cX10_contact 32 = .ok (.invokevirtual 92, 3) := by decide +kernel
theorem dX10_contact_35 : decode cX10_contact 35 = .ok (.iload_n 1, 1) := by decide +kernel
theorem dX10_contact_36 : decode cX10_contact 36 = .ok (.aload_n 0, 1) := by decide +kernel
theorem dX10_contact_37 : decode cX10_contact 37 = .ok (.getfield 66, 3) := by decide +kernel
theorem dX10_contact_40 : decode cX10_contact 40 = .ok (.if_icmp .lt 5, 3) := by decide +kernel
theorem dX10_contact_43 : decode cX10_contact 43 = .ok (.iconst (-1), 1) := by decide +kernel
theorem dX10_contact_44 : decode cX10_contact 44 = .ok (.ireturn, 1) := by decide +kernel
theorem dX10_contact_45 : decode cX10_contact 45 = .ok (.iload_n 2, 1) := by decide +kernel
theorem dX10_contact_46 : decode cX10_contact 46 = .ok (.ifCond .ne 12, 3) := by decide +kernel
theorem dX10_contact_49 : decode cX10_contact 49 = .ok (.aload_n 0, 1) := by decide +kernel
theorem dX10_contact_50 : decode cX10_contact 50 = .ok (.getfield 25, 3) := by decide +kernel
theorem dX10_contact_53 : decode cX10_contact 53 = .ok (.iload_n 1, 1) := by decide +kernel
theorem dX10_contact_54 : decode cX10_contact 54 = .ok (.iaload, 1) := by decide +kernel
theorem dX10_contact_55 : decode cX10_contact 55 = .ok (.goto 37, 3) := by decide +kernel
theorem dX10_contact_58 : decode cX10_contact 58 = .ok (.iload_n 2, 1) := by decide +kernel
theorem dX10_contact_59 : decode cX10_contact 59 = .ok (.iconst 1, 1) := by decide +kernel
theorem dX10_contact_60 : decode cX10_contact 60 = .ok (.if_icmp .ne 12, 3) := by decide +kernel
theorem dX10_contact_63 : decode cX10_contact 63 = .ok (.aload_n 0, 1) := by decide +kernel
theorem dX10_contact_64 : decode cX10_contact 64 = .ok (.getfield 28, 3) := by decide +kernel
theorem dX10_contact_67 : decode cX10_contact 67 = .ok (.iload_n 1, 1) := by decide +kernel
theorem dX10_contact_68 : decode cX10_contact 68 = .ok (.iaload, 1) := by decide +kernel
theorem dX10_contact_69 : decode cX10_contact 69 = .ok (.goto 23, 3) := by decide +kernel
theorem dX10_contact_72 : decode cX10_contact 72 = .ok (.iload_n 2, 1) := by decide +kernel
theorem dX10_contact_73 : decode cX10_contact 73 = .ok (.iconst 2, 1) := by decide +kernel
theorem dX10_contact_74 : decode cX10_contact 74 = .ok (.if_icmp .ne 12, 3) := by decide +kernel
theorem dX10_contact_77 : decode cX10_contact 77 = .ok (.aload_n 0, 1) := by decide +kernel
theorem dX10_contact_78 : decode cX10_contact 78 = .ok (.getfield 31, 3) := by decide +kernel
theorem dX10_contact_81 : decode cX10_contact 81 = .ok (.iload_n 1, 1) := by decide +kernel
theorem dX10_contact_82 : decode cX10_contact 82 = .ok (.iaload, 1) := by decide +kernel
theorem dX10_contact_83 : decode cX10_contact 83 = .ok (.goto 9, 3) := by decide +kernel
theorem dX10_contact_86 : decode cX10_contact 86 = .ok (.aload_n 0, 1) := by decide +kernel
theorem dX10_contact_87 : decode cX10_contact 87 = .ok (.getfield 34, 3) := by decide +kernel
theorem dX10_contact_90 : decode cX10_contact 90 = .ok (.iload_n 1, 1) := by decide +kernel
theorem dX10_contact_91 : decode cX10_contact 91 = .ok (.iaload, 1) := by decide +kernel
theorem dX10_contact_92 : decode cX10_contact 92 = .ok (.ireturn, 1) := by decide +kernel
set_option maxRecDepth 20000 in
theorem ggX10_isTrack_X10_in : GoodIn wsX10_isTrack wsX10_in := goodIn_r _ [4] (by decide +kernel) (by decide +kernel)
set_option maxRecDepth 20000 in
theorem gX10_isTrack_X10_in : GoodIn wsX10_isTrack (va_wsS RX10 47 yX10_in wsX10_in) := goodIn_app (goodIn_of _ (by decide +kernel)) ggX10_isTrack_X10_in
theorem dX10_isTrack_0 : decode cX10_isTrack 0 = .ok (.iload_n 0, 1) := by decide +kernel
theorem dX10_isTrack_1 : decode cX10_isTrack 1 = .ok (.iconst 0, 1) := by decide +kernel
theorem dX10_isTrack_2 : decode cX10_isTrack 2 = .ok (.iconst 5, 1) := by decide +kernel
theorem dX10_isTrack_3 : decode cX10_isTrack 3 = .ok (.invokestatic 47, 3) := by decide +kernel
theorem dX10_isTrack_6 : decode cX10_isTrack 6 = .ok (.ireturn, 1) := by decide +kernel
set_option maxRecDepth 20000 in
theorem ggX10_isDown_X10_isTrack : GoodIn wsX10_isDown wsX10_isTrack := goodIn_r _ [4, 5, 6, 3, 7] (by decide +kernel) (by decide +kernel)
set_option maxRecDepth 20000 in
theorem gX10_isDown_X10_isTrack : GoodIn wsX10_isDown (va_wsS RX10 190 yX10_isTrack wsX10_isTrack) := goodIn_app (goodIn_of _ (by decide +kernel)) ggX10_isDown_X10_isTrack
set_option maxRecDepth 20000 in
theorem ggX10_isDown_X10_holds : GoodIn wsX10_isDown wsX10_holds := goodIn_r _ [11, 12, 22, 23, 24, 25, 26, 27, 28, 29, 30, 31, 32, 33, 34, 35, 36, 37, 38, 39, 40, 41] (by decide +kernel) (by decide +kernel)
set_option maxRecDepth 20000 in
theorem gX10_isDown_X10_holds : GoodIn wsX10_isDown (wsV RX10 132 RX10 yX10_holds wsX10_holds) := goodIn_app (goodIn_of _ (by decide +kernel)) ggX10_isDown_X10_holds
set_option maxRecDepth 20000 in
theorem ggX10_isDown_X10_isDownNow : GoodIn wsX10_isDown wsX10_isDownNow := goodIn_r _ [16, 17, 18, 19, 3, 20, 21, 22, 23, 24, 25, 26, 27, 28, 29, 30, 31, 32, 33, 34, 35, 36, 37, 38, 39, 40, 41] (by decide +kernel) (by decide +kernel)
set_option maxRecDepth 20000 in
theorem gX10_isDown_X10_isDownNow : GoodIn wsX10_isDown (wsV RX10 95 RX10 yX10_isDownNow wsX10_isDownNow) := goodIn_app (goodIn_of _ (by decide +kernel)) ggX10_isDown_X10_isDownNow
theorem dX10_isDown_0 : decode cX10_isDown 0 = .ok (.aload_n 0, 1) := by decide +kernel
theorem dX10_isDown_1 : decode cX10_isDown 1 = .ok (.iload_n 1, 1) := by decide +kernel
theorem dX10_isDown_2 : decode cX10_isDown 2 = .ok (.invokestatic 190, 3) := by decide +kernel
theorem dX10_isDown_5 : decode cX10_isDown 5 = .ok (.ifCond .eq 7, 3) := by decide +kernel
theorem dX10_isDown_8 : decode cX10_isDown 8 = .ok (.iconst 0, 1) := by decide +kernel
theorem dX10_isDown_9 : decode cX10_isDown 9 = .ok (.goto 4, 3) := by decide +kernel
theorem dX10_isDown_12 : decode cX10_isDown 12 = .ok (.iconst 1, 1) := by decide +kernel
theorem dX10_isDown_13 : decode cX10_isDown 13 = .ok (.invokevirtual 132, 3) := by decide +kernel
theorem dX10_isDown_16 : decode cX10_isDown 16 = .ok (.ifCond .eq 15, 3) := by decide +kernel
theorem dX10_isDown_19 : decode cX10_isDown 19 = .ok (.aload_n 0, 1) := by decide +kernel
theorem dX10_isDown_20 : decode cX10_isDown 20 = .ok (.iload_n 1, 1) := by decide +kernel
theorem dX10_isDown_21 : decode cX10_isDown 21 = .ok (.invokevirtual 95, 3) := by decide +kernel
theorem dX10_isDown_24 : decode cX10_isDown 24 = .ok (.ifCond .eq 7, 3) := by decide +kernel
theorem dX10_isDown_27 : decode cX10_isDown 27 = .ok (.iconst 1, 1) := by decide +kernel
theorem dX10_isDown_28 : decode cX10_isDown 28 = .ok (.goto 4, 3) := by decide +kernel
theorem dX10_isDown_31 : decode cX10_isDown 31 = .ok (.iconst 0, 1) := by decide +kernel
theorem dX10_isDown_32 : decode cX10_isDown 32 = .ok (.ireturn, 1) := by decide +kernel
set_option maxRecDepth 20000 in
theorem ggX10_track_X10_isTrack : GoodIn wsX10_track wsX10_isTrack := goodIn_r _ [4, 5, 6, 3, 7] (by decide +kernel) (by decide +kernel)
set_option maxRecDepth 20000 in
theorem gX10_track_X10_isTrack : GoodIn wsX10_track (va_wsS RX10 190 yX10_isTrack wsX10_isTrack) := goodIn_app (goodIn_of _ (by decide +kernel)) ggX10_track_X10_isTrack
set_option maxRecDepth 20000 in
theorem ggX10_track_X10_in : GoodIn wsX10_track wsX10_in := goodIn_r _ [7] (by decide +kernel) (by decide +kernel)
set_option maxRecDepth 20000 in
theorem gX10_track_X10_in : GoodIn wsX10_track (va_wsS RX10 47 yX10_in wsX10_in) := goodIn_app (goodIn_of _ (by decide +kernel)) ggX10_track_X10_in
set_option maxRecDepth 20000 in
theorem ggX10_track_X10_holds : GoodIn wsX10_track wsX10_holds := goodIn_r _ [11, 12, 22, 23, 24, 25, 26, 27, 28, 29, 30, 31, 32, 33, 34, 35, 36, 37, 38, 39, 40, 41] (by decide +kernel) (by decide +kernel)
set_option maxRecDepth 20000 in
theorem gX10_track_X10_holds : GoodIn wsX10_track (wsV RX10 132 RX10 yX10_holds wsX10_holds) := goodIn_app (goodIn_of _ (by decide +kernel)) ggX10_track_X10_holds
set_option maxRecDepth 20000 in
theorem ggX10_track_X10_isDownNow : GoodIn wsX10_track wsX10_isDownNow := goodIn_r _ [16, 17, 18, 19, 3, 20, 21, 22, 23, 24, 25, 26, 27, 28, 29, 30, 31, 32, 33, 34, 35, 36, 37, 38, 39, 40, 41] (by decide +kernel) (by decide +kernel)
set_option maxRecDepth 20000 in
theorem gX10_track_X10_isDownNow : GoodIn wsX10_track (wsV RX10 95 RX10 yX10_isDownNow wsX10_isDownNow) := goodIn_app (goodIn_of _ (by decide +kernel)) ggX10_track_X10_isDownNow
set_option maxRecDepth 20000 in
theorem ggX10_track_X10_of : GoodIn wsX10_track wsX10_of := goodIn_r _ [20, 21, 22, 23, 24, 25, 26, 27, 28, 29, 30, 31, 32, 33, 34, 35, 36, 37, 38, 39, 40, 41] (by decide +kernel) (by decide +kernel)
set_option maxRecDepth 20000 in
theorem gX10_track_X10_of : GoodIn wsX10_track (wsV RX10 82 RX10 yX10_of wsX10_of) := goodIn_app (goodIn_of _ (by decide +kernel)) ggX10_track_X10_of
theorem dX10_track_0 : decode cX10_track 0 = .ok (.aload_n 0, 1) := by decide +kernel
theorem dX10_track_1 : decode cX10_track 1 = .ok (.iload_n 1, 1) := by decide +kernel
theorem dX10_track_2 : decode cX10_track 2 = .ok (.invokestatic 190, 3) := by decide +kernel
theorem dX10_track_5 : decode cX10_track 5 = .ok (.ifCond .ne 7, 3) := by decide +kernel
theorem dX10_track_8 : decode cX10_track 8 = .ok (.iconst 1, 1) := by decide +kernel
theorem dX10_track_9 : decode cX10_track 9 = .ok (.goto 17, 3) := by decide +kernel
theorem dX10_track_12 : decode cX10_track 12 = .ok (.iload_n 2, 1) := by decide +kernel
theorem dX10_track_13 : decode cX10_track 13 = .ok (.iconst 0, 1) := by decide +kernel
theorem dX10_track_14 : decode cX10_track 14 = .ok (.iconst 3, 1) := by decide +kernel
theorem dX10_track_15 : decode cX10_track 15 = .ok (.invokestatic 47, 3) := by decide +kernel
theorem dX10_track_18 : decode cX10_track 18 = .ok (.ifCond .ne 7, 3) := by decide +kernel
theorem dX10_track_21 : decode cX10_track 21 = .ok (.iconst 2, 1) := by decide +kernel
theorem dX10_track_22 : decode cX10_track 22 = .ok (.goto 4, 3) := by decide +kernel
theorem dX10_track_25 : decode cX10_track 25 = .ok (.iconst 0, 1) := by decide +kernel
theorem dX10_track_26 : decode cX10_track 26 = .ok (.invokevirtual 132, 3) := by decide +kernel
theorem dX10_track_29 : decode cX10_track 29 = .ok (.ifCond .ne 5, 3) := by decide +kernel
theorem dX10_track_32 : decode cX10_track 32 = .ok (.iconst 0, 1) := by decide +kernel
theorem dX10_track_33 : decode cX10_track 33 = .ok (.ireturn, 1) := by decide +kernel
theorem dX10_track_34 : decode cX10_track 34 = .ok (.aload_n 0, 1) := by decide +kernel
theorem dX10_track_35 : decode cX10_track 35 = .ok (.iload_n 1, 1) := by decide +kernel
theorem dX10_track_36 : decode cX10_track 36 = .ok (.invokevirtual 95, 3) := by decide +kernel
theorem dX10_track_39 : decode cX10_track 39 = .ok (.ifCond .eq 14, 3) := by decide +kernel
theorem dX10_track_42 : decode cX10_track 42 = .ok (.aload_n 0, 1) := by decide +kernel
theorem dX10_track_43 : decode cX10_track 43 = .ok (.iload_n 1, 1) := by decide +kernel
theorem dX10_track_44 : decode cX10_track 44 = .ok (.iconst 1, 1) := by decide +kernel
theorem dX10_track_45 : decode cX10_track 45 = .ok (.iload_n 2, 1) := by decide +kernel
theorem dX10_track_46 : decode cX10_track 46 = .ok (.iadd, 1) := by decide +kernel
theorem dX10_track_47 : decode cX10_track 47 = .ok (.invokevirtual 82, 3) := by decide +kernel
theorem dX10_track_50 : decode cX10_track 50 = .ok (.goto 4, 3) := by decide +kernel
theorem dX10_track_53 : decode cX10_track 53 = .ok (.iconst (-1), 1) := by decide +kernel
theorem dX10_track_54 : decode cX10_track 54 = .ok (.ireturn, 1) := by decide +kernel
set_option maxRecDepth 20000 in
theorem ggX10_squaredDistance_X10_isTrack : GoodIn wsX10_squaredDistance wsX10_isTrack := goodIn_r _ [5, 6, 7, 4, 8] (by decide +kernel) (by decide +kernel)
set_option maxRecDepth 20000 in
theorem gX10_squaredDistance_X10_isTrack : GoodIn wsX10_squaredDistance (va_wsS RX10 190 yX10_isTrack wsX10_isTrack) := goodIn_app (goodIn_of _ (by decide +kernel)) ggX10_squaredDistance_X10_isTrack
set_option maxRecDepth 20000 in
theorem ggX10_squaredDistance_X10_holds : GoodIn wsX10_squaredDistance wsX10_holds := goodIn_r _ [12, 13, 69, 70, 71, 72, 73, 74, 75, 76, 77, 78, 79, 80, 81, 82, 83, 84, 85, 86, 87, 88] (by decide +kernel) (by decide +kernel)
set_option maxRecDepth 20000 in
theorem gX10_squaredDistance_X10_holds : GoodIn wsX10_squaredDistance (wsV RX10 132 RX10 yX10_holds wsX10_holds) := goodIn_app (goodIn_of _ (by decide +kernel)) ggX10_squaredDistance_X10_holds
set_option maxRecDepth 20000 in
theorem ggX10_squaredDistance_X10_findsContacts : GoodIn wsX10_squaredDistance wsX10_findsContacts := goodIn_r _ [17, 1, 18, 19, 20, 4, 21, 22, 23, 24, 25, 26, 27, 28, 29, 30, 31, 32, 33, 34, 35, 36, 6, 7, 8, 37, 38, 39, 40, 41, 42, 43, 44, 45, 46, 47, 48, 49, 50, 51, 52, 53, 54, 55, 56, 69, 70, 71, 72, 73, 74, 75, 76, 77, 78, 79, 80, 81, 82, 83, 84, 85, 86, 87, 88] (by decide +kernel) (by decide +kernel)
set_option maxRecDepth 20000 in
theorem gX10_squaredDistance_X10_findsContacts : GoodIn wsX10_squaredDistance (wsV RX10 92 RX10 yX10_findsContacts wsX10_findsContacts) := goodIn_app (goodIn_of _ (by decide +kernel)) ggX10_squaredDistance_X10_findsContacts
set_option maxRecDepth 20000 in
theorem ggX10_squaredDistance_X10_isDownNow : GoodIn wsX10_squaredDistance wsX10_isDownNow := goodIn_r _ [60, 61, 62, 63, 4, 64, 29, 69, 70, 71, 72, 73, 74, 75, 76, 77, 78, 79, 80, 81, 82, 83, 84, 85, 86, 87, 88] (by decide +kernel) (by decide +kernel)
set_option maxRecDepth 20000 in
theorem gX10_squaredDistance_X10_isDownNow : GoodIn wsX10_squaredDistance (wsV RX10 95 RX10 yX10_isDownNow wsX10_isDownNow) := goodIn_app (goodIn_of _ (by decide +kernel)) ggX10_squaredDistance_X10_isDownNow
set_option maxRecDepth 20000 in
theorem ggX10_squaredDistance_X10_square : GoodIn wsX10_squaredDistance wsX10_square := goodIn_r _ [68, 49, 50, 61, 62, 63, 4, 64, 29, 69, 70, 71, 72, 73, 74, 75, 76, 77, 78, 79, 80, 81, 82, 83, 84, 85, 86, 87, 88] (by decide +kernel) (by decide +kernel)
set_option maxRecDepth 20000 in
theorem gX10_squaredDistance_X10_square : GoodIn wsX10_squaredDistance (wsV RX10 89 RX10 yX10_square wsX10_square) := goodIn_app (goodIn_of _ (by decide +kernel)) ggX10_squaredDistance_X10_square
theorem dX10_squaredDistance_0 : decode cX10_squaredDistance 0 = .ok (.aload_n 0, 1) := by decide +kernel
theorem dX10_squaredDistance_1 : decode cX10_squaredDistance 1 = .ok (.iload_n 1, 1) := by decide +kernel
theorem dX10_squaredDistance_2 : decode cX10_squaredDistance 2 = .ok (.invokestatic 190, 3) := by decide +kernel
theorem dX10_squaredDistance_5 : decode cX10_squaredDistance 5 = .ok (.ifCond .eq 11, 3) := by decide +kernel
theorem dX10_squaredDistance_8 : decode cX10_squaredDistance 8 = .ok (.iload_n 2, 1) := by decide +kernel
theorem dX10_squaredDistance_9 : decode cX10_squaredDistance 9 = .ok (.ifCond .lt 7, 3) := by decide +kernel
theorem dX10_squaredDistance_12 : decode cX10_squaredDistance 12 = .ok (.iconst 0, 1) := by decide +kernel
theorem dX10_squaredDistance_13 : decode cX10_squaredDistance 13 = .ok (.goto 4, 3) := by decide +kernel
theorem dX10_squaredDistance_16 : decode cX10_squaredDistance 16 = .ok (.iconst 1, 1) := by decide +kernel
theorem dX10_squaredDistance_17 : decode cX10_squaredDistance 17 = .ok (.invokevirtual 132, 3) := by decide +kernel
theorem dX10_squaredDistance_20 : decode cX10_squaredDistance 20 = .ok (.ifCond .ne 5, 3) := by decide +kernel
theorem dX10_squaredDistance_23 : decode cX10_squaredDistance 23 = .ok (.iconst 0, 1) := by decide +kernel
theorem dX10_squaredDistance_24 : decode cX10_squaredDistance 24 = .ok (.ireturn, 1) := by decide +kernel
theorem dX10_squaredDistance_25 : decode cX10_squaredDistance 25 = .ok (.aload_n 0, 1) := by decide +kernel
theorem dX10_squaredDistance_26 : decode cX10_squaredDistance 26 = .ok (.invokevirtual 92, 3) := by decide +kernel
theorem dX10_squaredDistance_29 : decode cX10_squaredDistance 29 = .ok (.aload_n 0, 1) := by decide +kernel
theorem dX10_squaredDistance_30 : decode cX10_squaredDistance 30 = .ok (.iload_n 1, 1) := by decide +kernel
theorem dX10_squaredDistance_31 : decode cX10_squaredDistance 31 = .ok (.invokevirtual 95, 3) := by decide +kernel
theorem dX10_squaredDistance_34 : decode cX10_squaredDistance 34 = .ok (.ifCond .eq 20, 3) := by decide +kernel
theorem dX10_squaredDistance_37 : decode cX10_squaredDistance 37 = .ok (.iload_n 2, 1) := by decide +kernel
theorem dX10_squaredDistance_38 : decode cX10_squaredDistance 38 = .ok (.aload_n 0, 1) := by decide +kernel
theorem dX10_squaredDistance_39 : decode cX10_squaredDistance 39 = .ok (.getfield 66, 3) := by decide +kernel
theorem dX10_squaredDistance_42 : decode cX10_squaredDistance 42 = .ok (.if_icmp .ge 12, 3) := by decide +kernel
theorem dX10_squaredDistance_45 : decode cX10_squaredDistance 45 = .ok (.aload_n 0, 1) := by decide +kernel
theorem dX10_squaredDistance_46 : decode cX10_squaredDistance 46 = .ok (.iload_n 1, 1) := by decide +kernel
theorem dX10_squaredDistance_47 : decode cX10_squaredDistance 47 = .ok (.iload_n 2, 1) := by decide +kernel
theorem dX10_squaredDistance_48 : decode cX10_squaredDistance 48 = .ok (.invokevirtual 89, 3) := by decide +kernel
theorem dX10_squaredDistance_51 : decode cX10_squaredDistance 51 = .ok (.goto 4, 3) := by decide +kernel
theorem dX10_squaredDistance_54 : decode cX10_squaredDistance 54 = .ok (.iconst (-1), 1) := by decide +kernel
theorem dX10_squaredDistance_55 : decode cX10_squaredDistance 55 = .ok (.ireturn, 1) := by decide +kernel
set_option maxRecDepth 20000 in
theorem ggX10_match_X10_isTrack : GoodIn wsX10_match wsX10_isTrack := goodIn_r _ [5, 6, 7, 4, 8] (by decide +kernel) (by decide +kernel)
set_option maxRecDepth 20000 in
theorem gX10_match_X10_isTrack : GoodIn wsX10_match (va_wsS RX10 190 yX10_isTrack wsX10_isTrack) := goodIn_app (goodIn_of _ (by decide +kernel)) ggX10_match_X10_isTrack
set_option maxRecDepth 20000 in
theorem ggX10_match_X10_holds : GoodIn wsX10_match wsX10_holds := goodIn_r _ [12, 13, 83, 84, 85, 86, 87, 88, 89, 90, 91, 92, 93, 94, 95, 96, 97, 98, 99, 100, 101, 102] (by decide +kernel) (by decide +kernel)
set_option maxRecDepth 20000 in
theorem gX10_match_X10_holds : GoodIn wsX10_match (wsV RX10 132 RX10 yX10_holds wsX10_holds) := goodIn_app (goodIn_of _ (by decide +kernel)) ggX10_match_X10_holds
set_option maxRecDepth 20000 in
theorem ggX10_match_X10_findsMatching : GoodIn wsX10_match wsX10_findsMatching := goodIn_r _ [17, 18, 1, 19, 20, 21, 4, 22, 23, 24, 25, 26, 27, 28, 29, 30, 31, 32, 33, 34, 35, 36, 37, 38, 39, 40, 41, 42, 6, 7, 8, 43, 44, 45, 46, 47, 48, 49, 50, 51, 52, 53, 54, 55, 56, 57, 58, 59, 60, 61, 62, 63, 64, 65, 66, 67, 68, 69, 70, 71, 72, 73, 74, 75, 76, 77, 78, 79, 80, 81, 82, 83, 84, 85, 86, 87, 88, 89, 90, 91, 92, 93, 94, 95, 96, 97, 98, 99, 100, 101, 102] (by decide +kernel) (by decide +kernel)
set_option maxRecDepth 20000 in
theorem gX10_match_X10_findsMatching : GoodIn wsX10_match (wsV RX10 106 RX10 yX10_findsMatching wsX10_findsMatching) := goodIn_app (goodIn_of _ (by decide +kernel)) ggX10_match_X10_findsMatching
theorem dX10_match_0 : decode cX10_match 0 = .ok (.aload_n 0, 1) := by decide +kernel
theorem dX10_match_1 : decode cX10_match 1 = .ok (.iload_n 1, 1) := by decide +kernel
theorem dX10_match_2 : decode cX10_match 2 = .ok (.invokestatic 190, 3) := by decide +kernel
theorem dX10_match_5 : decode cX10_match 5 = .ok (.ifCond .eq 7, 3) := by decide +kernel
theorem dX10_match_8 : decode cX10_match 8 = .ok (.iconst 0, 1) := by decide +kernel
theorem dX10_match_9 : decode cX10_match 9 = .ok (.goto 4, 3) := by decide +kernel
theorem dX10_match_12 : decode cX10_match 12 = .ok (.iconst 1, 1) := by decide +kernel
theorem dX10_match_13 : decode cX10_match 13 = .ok (.invokevirtual 132, 3) := by decide +kernel
theorem dX10_match_16 : decode cX10_match 16 = .ok (.ifCond .ne 5, 3) := by decide +kernel
theorem dX10_match_19 : decode cX10_match 19 = .ok (.iconst 0, 1) := by decide +kernel
theorem dX10_match_20 : decode cX10_match 20 = .ok (.ireturn, 1) := by decide +kernel
theorem dX10_match_21 : decode cX10_match 21 = .ok (.aload_n 0, 1) := by decide +kernel
theorem dX10_match_22 : decode cX10_match 22 = .ok (.invokevirtual 106, 3) := by decide +kernel
theorem dX10_match_25 : decode cX10_match 25 = .ok (.aload_n 0, 1) := by decide +kernel
theorem dX10_match_26 : decode cX10_match 26 = .ok (.getfield 40, 3) := by decide +kernel
theorem dX10_match_29 : decode cX10_match 29 = .ok (.iload_n 1, 1) := by decide +kernel
theorem dX10_match_30 : decode cX10_match 30 = .ok (.iaload, 1) := by decide +kernel
theorem dX10_match_31 : decode cX10_match 31 = .ok (.ireturn, 1) := by decide +kernel
set_option maxRecDepth 20000 in
theorem ggX10_matchingCost_X10_findsMatching : GoodIn wsX10_matchingCost wsX10_findsMatching := goodIn_r _ [7, 2, 8, 9, 10, 11, 6, 12, 13, 14, 15, 16, 17, 18, 19, 20, 21, 22, 23, 24, 25, 26, 27, 28, 29, 30, 31, 32, 33, 34, 35, 36, 37, 38, 39, 40, 41, 42, 43, 44, 45, 46, 47, 48, 49, 50, 51, 52, 53, 54, 55, 56, 57, 58, 59, 60, 61, 62, 63, 64, 65, 66, 67, 68, 69, 70, 71, 72, 73, 74, 75, 76, 77, 78, 79, 80, 81, 82, 83, 84, 85, 86, 87, 88, 89, 90, 91, 92, 93, 94, 95] (by decide +kernel) (by decide +kernel)
set_option maxRecDepth 20000 in
theorem gX10_matchingCost_X10_findsMatching : GoodIn wsX10_matchingCost (wsV RX10 106 RX10 yX10_findsMatching wsX10_findsMatching) := goodIn_app (goodIn_of _ (by decide +kernel)) ggX10_matchingCost_X10_findsMatching
theorem dX10_matchingCost_0 : decode cX10_matchingCost 0 = .ok (.aload_n 0, 1) := by decide +kernel
theorem dX10_matchingCost_1 : decode cX10_matchingCost 1 = .ok (.iconst 0, 1) := by decide +kernel
theorem dX10_matchingCost_2 : decode cX10_matchingCost 2 = .ok (.putfield 43, 3) := by decide +kernel
theorem dX10_matchingCost_5 : decode cX10_matchingCost 5 = .ok (.aload_n 0, 1) := by decide +kernel
theorem dX10_matchingCost_6 : decode cX10_matchingCost 6 = .ok (.invokevirtual 106, 3) := by decide +kernel
theorem dX10_matchingCost_9 : decode cX10_matchingCost 9 = .ok (.aload_n 0, 1) := by decide +kernel
theorem dX10_matchingCost_10 : decode cX10_matchingCost 10 = .ok (.getfield 37, 3) := by decide +kernel
theorem dX10_matchingCost_13 : decode cX10_matchingCost 13 = .ok (.iconst 0, 1) := by decide +kernel
theorem dX10_matchingCost_14 : decode cX10_matchingCost 14 = .ok (.iaload, 1) := by decide +kernel
theorem dX10_matchingCost_15 : decode cX10_matchingCost 15 = .ok (.ireturn, 1) := by decide +kernel
set_option maxRecDepth 20000 in
theorem ggX10_downIfScanned_X10_findsMatching : GoodIn wsX10_downIfScanned wsX10_findsMatching := goodIn_r _ [7, 8, 9, 10, 11, 12, 6, 13, 2, 14, 15, 16, 17, 18, 19, 20, 21, 22, 23, 24, 25, 26, 27, 28, 29, 30, 31, 32, 33, 34, 35, 36, 37, 38, 39, 40, 41, 42, 43, 44, 45, 46, 47, 48, 49, 50, 51, 52, 53, 54, 55, 56, 57, 58, 59, 60, 61, 62, 63, 64, 65, 66, 67, 68, 69, 70, 71, 72, 73, 74, 75, 84, 85, 86, 87, 88, 89, 90, 91, 92, 93, 94, 95, 96, 97, 98, 99, 100, 101, 102, 103] (by decide +kernel) (by decide +kernel)
set_option maxRecDepth 20000 in
theorem gX10_downIfScanned_X10_findsMatching : GoodIn wsX10_downIfScanned (wsV RX10 106 RX10 yX10_findsMatching wsX10_findsMatching) := goodIn_app (goodIn_of _ (by decide +kernel)) ggX10_downIfScanned_X10_findsMatching
set_option maxRecDepth 20000 in
theorem ggX10_downIfScanned_X10_unmatched : GoodIn wsX10_downIfScanned wsX10_unmatched := goodIn_r _ [79, 2, 9, 84, 85, 86, 87, 88, 89, 90, 91, 92, 93, 94, 95, 96, 97, 98, 99, 100, 101, 102, 103] (by decide +kernel) (by decide +kernel)
set_option maxRecDepth 20000 in
theorem gX10_downIfScanned_X10_unmatched : GoodIn wsX10_downIfScanned (wsV RX10 109 RX10 yX10_unmatched wsX10_unmatched) := goodIn_app (goodIn_of _ (by decide +kernel)) ggX10_downIfScanned_X10_unmatched
set_option maxRecDepth 20000 in
theorem ggX10_downIfScanned_X10_isDownNow : GoodIn wsX10_downIfScanned wsX10_isDownNow := goodIn_r _ [59, 60, 61, 62, 6, 63, 25, 84, 85, 86, 87, 88, 89, 90, 91, 92, 93, 94, 95, 96, 97, 98, 99, 100, 101, 102, 103] (by decide +kernel) (by decide +kernel)
set_option maxRecDepth 20000 in
theorem gX10_downIfScanned_X10_isDownNow : GoodIn wsX10_downIfScanned (wsV RX10 95 RX10 yX10_isDownNow wsX10_isDownNow) := goodIn_app (goodIn_of _ (by decide +kernel)) ggX10_downIfScanned_X10_isDownNow
set_option maxRecDepth 20000 in
theorem ggX10_downIfScanned_X10_staysDown : GoodIn wsX10_downIfScanned wsX10_staysDown := goodIn_r _ [83, 9, 25, 56, 57, 58, 6, 59, 60, 61, 62, 63, 84, 85, 86, 87, 88, 89, 90, 91, 92, 93, 94, 95, 96, 97, 98, 99, 100, 101, 102, 103] (by decide +kernel) (by decide +kernel)
set_option maxRecDepth 20000 in
theorem gX10_downIfScanned_X10_staysDown : GoodIn wsX10_downIfScanned (wsV RX10 115 RX10 yX10_staysDown wsX10_staysDown) := goodIn_app (goodIn_of _ (by decide +kernel)) ggX10_downIfScanned_X10_staysDown
theorem dX10_downIfScanned_0 : decode cX10_downIfScanned 0 = .ok (.aload_n 0, 1) := by decide +kernel
theorem dX10_downIfScanned_1 : decode cX10_downIfScanned 1 = .ok (.iconst 0, 1) := by decide +kernel
theorem dX10_downIfScanned_2 : decode cX10_downIfScanned 2 = .ok (.putfield 43, 3) := by decide +kernel
theorem dX10_downIfScanned_5 : decode cX10_downIfScanned 5 = .ok (.aload_n 0, 1) := by decide +kernel
theorem dX10_downIfScanned_6 : decode cX10_downIfScanned 6 = .ok (.invokevirtual 106, 3) := by decide +kernel
theorem dX10_downIfScanned_9 : decode cX10_downIfScanned 9 = .ok (.aload_n 0, 1) := by decide +kernel
theorem dX10_downIfScanned_10 : decode cX10_downIfScanned 10 = .ok (.invokevirtual 109, 3) := by decide +kernel
theorem dX10_downIfScanned_13 : decode cX10_downIfScanned 13 = .ok (.istore_n 1, 1) := by decide +kernel
theorem dX10_downIfScanned_14 : decode cX10_downIfScanned 14 = .ok (.iconst 0, 1) := by decide +kernel
theorem dX10_downIfScanned_15 : decode cX10_downIfScanned 15 = .ok (.istore_n 2, 1) := by decide +kernel
theorem dX10_downIfScanned_16 : decode cX10_downIfScanned 16 = .ok (.iconst 0, 1) := by decide +kernel
theorem dX10_downIfScanned_17 : decode cX10_downIfScanned 17 = .ok (.istore_n 3, 1) := by decide +kernel
theorem dX10_downIfScanned_18 : decode cX10_downIfScanned 18 = .ok (.iload_n 3, 1) := by decide +kernel
theorem dX10_downIfScanned_19 : decode cX10_downIfScanned 19 = .ok (.aload_n 0, 1) := by decide +kernel
theorem dX10_downIfScanned_20 : decode cX10_downIfScanned 20 = .ok (.getfield 66, 3) := by decide +kernel
theorem dX10_downIfScanned_23 : decode cX10_downIfScanned 23 = .ok (.if_icmp .ge 17, 3) := by decide +kernel
theorem dX10_downIfScanned_26 : decode cX10_downIfScanned 26 = .ok (.iload_n 2, 1) := by decide +kernel
theorem dX10_downIfScanned_27 : decode cX10_downIfScanned 27 = .ok (.iload_n 1, 1) := by decide +kernel
theorem dX10_downIfScanned_28 : decode cX10_downIfScanned 28 = .ok (.iload_n 3, 1) := by decide +kernel
theorem dX10_downIfScanned_29 : decode cX10_downIfScanned 29 = .ok (.ishr, 1) := by decide +kernel
theorem dX10_downIfScanned_30 : decode cX10_downIfScanned 30 = .ok (.iconst 1, 1) := by decide +kernel
theorem dX10_downIfScanned_31 : decode cX10_downIfScanned 31 = .ok (.iand, 1) := by decide +kernel
theorem dX10_downIfScanned_32 : decode cX10_downIfScanned 32 = .ok (.iadd, 1) := by decide +kernel
theorem dX10_downIfScanned_33 : decode cX10_downIfScanned 33 = .ok (.istore_n 2, 1) := by decide +kernel
theorem dX10_downIfScanned_34 : decode cX10_downIfScanned 34 = .ok (.iinc 3 1, 3) := by decide +kernel
theorem dX10_downIfScanned_37 : decode cX10_downIfScanned 37 = .ok (.goto (-19), 3) := by decide +kernel
theorem dX10_downIfScanned_40 : decode cX10_downIfScanned 40 = .ok (.iconst 0, 1) := by decide +kernel
theorem dX10_downIfScanned_41 : decode cX10_downIfScanned 41 = .ok (.istore_n 3, 1) := by decide +kernel
theorem dX10_downIfScanned_42 : decode cX10_downIfScanned 42 = .ok (.iconst 0, 1) := by decide +kernel
theorem dX10_downIfScanned_43 : decode cX10_downIfScanned 43 = .ok (.istore 4, 2) := by decide +kernel
theorem dX10_downIfScanned_45 : decode cX10_downIfScanned 45 = .ok (.iload 4, 2) := by decide +kernel
theorem dX10_downIfScanned_47 : decode cX10_downIfScanned 47 = .ok (.bipush 6, 2) := by decide +kernel
theorem dX10_downIfScanned_49 : decode cX10_downIfScanned 49 = .ok (.if_icmp .ge 67, 3) := by decide +kernel
theorem dX10_downIfScanned_52 : decode cX10_downIfScanned 52 = .ok (.aload_n 0, 1) := by decide +kernel
theorem dX10_downIfScanned_53 : decode cX10_downIfScanned 53 = .ok (.iload 4, 2) := by decide +kernel
theorem dX10_downIfScanned_55 : decode cX10_downIfScanned 55 = .ok (.invokevirtual 95, 3) := by decide +kernel
theorem dX10_downIfScanned_58 : decode cX10_downIfScanned 58 = .ok (.ifCond .ne 11, 3) := by decide +kernel
theorem dX10_downIfScanned_61 : decode cX10_downIfScanned 61 = .ok (.iload_n 2, 1) := by decide +kernel
theorem dX10_downIfScanned_62 : decode cX10_downIfScanned 62 = .ok (.ifCond .le 7, 3) := by decide +kernel
theorem dX10_downIfScanned_65 : decode cX10_downIfScanned 65 = .ok (.iconst 1, 1) := by decide +kernel
theorem dX10_downIfScanned_66 : decode cX10_downIfScanned 66 = .ok (.goto 4, 3) := by decide +kernel
theorem dX10_downIfScanned_69 : decode cX10_downIfScanned 69 = .ok (.iconst 0, 1) := by decide +kernel
theorem dX10_downIfScanned_70 : decode cX10_downIfScanned 70 = .ok (.istore 5, 2) := by decide +kernel
theorem dX10_downIfScanned_72 : decode cX10_downIfScanned 72 = .ok (.iload_n 2, 1) := by decide +kernel
theorem dX10_downIfScanned_73 : decode cX10_downIfScanned 73 = .ok (.iload 5, 2) := by decide +kernel
theorem dX10_downIfScanned_75 : decode cX10_downIfScanned 75 = .ok (.ifCond .eq 7, 3) := by decide +kernel
theorem dX10_downIfScanned_78 : decode cX10_downIfScanned 78 = .ok (.iconst 1, 1) := by decide +kernel
theorem dX10_downIfScanned_79 : decode cX10_downIfScanned 79 = .ok (.goto 4, 3) := by decide +kernel
theorem dX10_downIfScanned_82 : decode cX10_downIfScanned 82 = .ok (.iconst 0, 1) := by decide +kernel
theorem dX10_downIfScanned_83 : decode cX10_downIfScanned 83 = .ok (.isub, 1) := by decide +kernel
theorem dX10_downIfScanned_84 : decode cX10_downIfScanned 84 = .ok (.istore_n 2, 1) := by decide +kernel
theorem dX10_downIfScanned_85 : decode cX10_downIfScanned 85 = .ok (.iload_n 3, 1) := by decide +kernel
theorem dX10_downIfScanned_86 : decode cX10_downIfScanned 86 = .ok (.iload 5, 2) := by decide +kernel
theorem dX10_downIfScanned_88 : decode cX10_downIfScanned 88 = .ok (.ifCond .ne 12, 3) := by decide +kernel
theorem dX10_downIfScanned_91 : decode cX10_downIfScanned 91 = .ok (.aload_n 0, 1) := by decide +kernel
theorem dX10_downIfScanned_92 : decode cX10_downIfScanned 92 = .ok (.iload 4, 2) := by decide +kernel
theorem dX10_downIfScanned_94 : decode cX10_downIfScanned 94 = .ok (.invokevirtual 115, 3) := by decide +kernel
theorem dX10_downIfScanned_97 : decode cX10_downIfScanned 97 = .ok (.ifCond .eq 10, 3) := by decide +kernel
theorem dX10_downIfScanned_100 : decode cX10_downIfScanned 100 = .ok (.iconst 1, 1) := by decide +kernel
theorem dX10_downIfScanned_101 : decode cX10_downIfScanned 101 = .ok (.iload 4, 2) := by decide +kernel
theorem dX10_downIfScanned_103 : decode cX10_downIfScanned 103 = .ok (.ishl, 1) := by decide +kernel
theorem dX10_downIfScanned_104 : decode cX10_downIfScanned 104 = .ok (.goto 4, 3) := by decide +kernel
theorem dX10_downIfScanned_107 : decode cX10_downIfScanned 107 = .ok (.iconst 0, 1) := by decide +kernel
theorem dX10_downIfScanned_108 : decode cX10_downIfScanned 108 = .ok (.ior, 1) := by decide +kernel
theorem dX10_downIfScanned_109 : decode cX10_downIfScanned 109 = .ok (.istore_n 3, 1) := by decide +kernel
theorem dX10_downIfScanned_110 : decode cX10_downIfScanned 110 = .ok (.iinc 4 1, 3) := by decide +kernel
theorem dX10_downIfScanned_113 : decode cX10_downIfScanned 113 = .ok (.goto (-68), 3) := by decide +kernel
theorem dX10_downIfScanned_116 : decode cX10_downIfScanned 116 = .ok (.iload_n 3, 1) := by decide +kernel
theorem dX10_downIfScanned_117 : decode cX10_downIfScanned 117 = .ok (.ireturn, 1) := by decide +kernel
theorem dX10_frames_0 : decode cX10_frames 0 = .ok (.aload_n 0, 1) := by decide +kernel
theorem dX10_frames_1 : decode cX10_frames 1 = .ok (.iconst 0, 1) := by decide +kernel
theorem dX10_frames_2 : decode cX10_frames 2 = .ok (.putfield 43, 3) := by decide +kernel
theorem dX10_frames_5 : decode cX10_frames 5 = .ok (.aload_n 0, 1) := by decide +kernel
theorem dX10_frames_6 : decode cX10_frames 6 = .ok (.getfield 7, 3) := by decide +kernel
theorem dX10_frames_9 : decode cX10_frames 9 = .ok (.sipush 131, 3) := by decide +kernel
theorem dX10_frames_12 : decode cX10_frames 12 = .ok (.iaload, 1) := by decide +kernel
theorem dX10_frames_13 : decode cX10_frames 13 = .ok (.ireturn, 1) := by decide +kernel
theorem dX10_downs_0 : decode cX10_downs 0 = .ok (.aload_n 0, 1) := by decide +kernel
theorem dX10_downs_1 : decode cX10_downs 1 = .ok (.iconst 0, 1) := by decide +kernel
theorem dX10_downs_2 : decode cX10_downs 2 = .ok (.putfield 43, 3) := by decide +kernel
theorem dX10_downs_5 : decode cX10_downs 5 = .ok (.aload_n 0, 1) := by decide +kernel
theorem dX10_downs_6 : decode cX10_downs 6 = .ok (.getfield 7, 3) := by decide +kernel
