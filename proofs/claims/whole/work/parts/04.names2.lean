theorem dX1_add_11 : decode cX1_add 11 = .ok (.iload_n 2, 1) := by decide +kernel
theorem dX1_add_12 : decode cX1_add 12 = .ok (.iaload, 1) := by decide +kernel
theorem dX1_add_13 : decode cX1_add 13 = .ok (.goto 4, 3) := by decide +kernel
theorem dX1_add_16 : decode cX1_add 16 = .ok (.iconst 0, 1) := by decide +kernel
theorem dX1_add_17 : decode cX1_add 17 = .ok (.istore_n 3, 1) := by decide +kernel
theorem dX1_add_18 : decode cX1_add 18 = .ok (.iload_n 3, 1) := by decide +kernel
theorem dX1_add_19 : decode cX1_add 19 = .ok (.ifCond .le 12, 3) := by decide +kernel
theorem dX1_add_22 : decode cX1_add 22 = .ok (.aload_n 0, 1) := by decide +kernel
theorem dX1_add_23 : decode cX1_add 23 = .ok (.getfield 41, 3) := by decide +kernel
theorem dX1_add_26 : decode cX1_add 26 = .ok (.bipush 6, 2) := by decide +kernel
theorem dX1_add_28 : decode cX1_add 28 = .ok (.if_icmp .lt 4, 3) := by decide +kernel
theorem dX1_add_31 : decode cX1_add 31 = .ok (.return_, 1) := by decide +kernel
theorem dX1_add_32 : decode cX1_add 32 = .ok (.iconst 0, 1) := by decide +kernel
theorem dX1_add_33 : decode cX1_add 33 = .ok (.istore 4, 2) := by decide +kernel
theorem dX1_add_35 : decode cX1_add 35 = .ok (.iconst 0, 1) := by decide +kernel
theorem dX1_add_36 : decode cX1_add 36 = .ok (.istore 5, 2) := by decide +kernel
theorem dX1_add_38 : decode cX1_add 38 = .ok (.iconst (-1), 1) := by decide +kernel
theorem dX1_add_39 : decode cX1_add 39 = .ok (.istore 6, 2) := by decide +kernel
theorem dX1_add_41 : decode cX1_add 41 = .ok (.iload 6, 2) := by decide +kernel
theorem dX1_add_43 : decode cX1_add 43 = .ok (.iconst 1, 1) := by decide +kernel
theorem dX1_add_44 : decode cX1_add 44 = .ok (.if_icmp .gt 72, 3) := by decide +kernel
theorem dX1_add_47 : decode cX1_add 47 = .ok (.iconst (-1), 1) := by decide +kernel
theorem dX1_add_48 : decode cX1_add 48 = .ok (.istore 7, 2) := by decide +kernel
theorem dX1_add_50 : decode cX1_add 50 = .ok (.iload 7, 2) := by decide +kernel
theorem dX1_add_52 : decode cX1_add 52 = .ok (.iconst 1, 1) := by decide +kernel
theorem dX1_add_53 : decode cX1_add 53 = .ok (.if_icmp .gt 57, 3) := by decide +kernel
theorem dX1_add_56 : decode cX1_add 56 = .ok (.iload_n 2, 1) := by decide +kernel
theorem dX1_add_57 : decode cX1_add 57 = .ok (.bipush 6, 2) := by decide +kernel
theorem dX1_add_59 : decode cX1_add 59 = .ok (.idiv, 1) := by decide +kernel
theorem dX1_add_60 : decode cX1_add 60 = .ok (.iload 6, 2) := by decide +kernel
theorem dX1_add_62 : decode cX1_add 62 = .ok (.iadd, 1) := by decide +kernel
theorem dX1_add_63 : decode cX1_add 63 = .ok (.istore 8, 2) := by decide +kernel
theorem dX1_add_65 : decode cX1_add 65 = .ok (.iload_n 2, 1) := by decide +kernel
theorem dX1_add_66 : decode cX1_add 66 = .ok (.bipush 6, 2) := by decide +kernel
theorem dX1_add_68 : decode cX1_add 68 = .ok (.irem, 1) := by decide +kernel
theorem dX1_add_69 : decode cX1_add 69 = .ok (.iload 7, 2) := by decide +kernel
theorem dX1_add_71 : decode cX1_add 71 = .ok (.iadd, 1) := by decide +kernel
theorem dX1_add_72 : decode cX1_add 72 = .ok (.istore 9, 2) := by decide +kernel
theorem dX1_add_74 : decode cX1_add 74 = .ok (.aload_n 1, 1) := by decide +kernel
theorem dX1_add_75 : decode cX1_add 75 = .ok (.iload 8, 2) := by decide +kernel
theorem dX1_add_77 : decode cX1_add 77 = .ok (.iload 9, 2) := by decide +kernel
theorem dX1_add_79 : decode cX1_add 79 = .ok (.invokevirtual 57, 3) := by decide +kernel
theorem dX1_add_82 : decode cX1_add 82 = .ok (.istore 10, 2) := by decide +kernel
theorem dX1_add_84 : decode cX1_add 84 = .ok (.iload 4, 2) := by decide +kernel
theorem dX1_add_86 : decode cX1_add 86 = .ok (.iload 10, 2) := by decide +kernel
theorem dX1_add_88 : decode cX1_add 88 = .ok (.iload 8, 2) := by decide +kernel
theorem dX1_add_90 : decode cX1_add 90 = .ok (.imul, 1) := by decide +kernel
theorem dX1_add_91 : decode cX1_add 91 = .ok (.iadd, 1) := by decide +kernel
theorem dX1_add_92 : decode cX1_add 92 = .ok (.istore 4, 2) := by decide +kernel
theorem dX1_add_94 : decode cX1_add 94 = .ok (.iload 5, 2) := by decide +kernel
theorem dX1_add_96 : decode cX1_add 96 = .ok (.iload 10, 2) := by decide +kernel
theorem dX1_add_98 : decode cX1_add 98 = .ok (.iload 9, 2) := by decide +kernel
theorem dX1_add_100 : decode cX1_add 100 = .ok (.imul, 1) := by decide +kernel
theorem dX1_add_101 : decode cX1_add 101 = .ok (.iadd, 1) := by decide +kernel
theorem dX1_add_102 : decode cX1_add 102 = .ok (.istore 5, 2) := by decide +kernel
theorem dX1_add_104 : decode cX1_add 104 = .ok (.iinc 7 1, 3) := by decide +kernel
theorem dX1_add_107 : decode cX1_add 107 = .ok (.goto (-57), 3) := by decide +kernel
theorem dX1_add_110 : decode cX1_add 110 = .ok (.iinc 6 1, 3) := by decide +kernel
theorem dX1_add_113 : decode cX1_add 113 = .ok (.goto (-72), 3) := by decide +kernel
theorem dX1_add_116 : decode cX1_add 116 = .ok (.aload_n 0, 1) := by decide +kernel
theorem dX1_add_117 : decode cX1_add 117 = .ok (.getfield 15, 3) := by decide +kernel
theorem dX1_add_120 : decode cX1_add 120 = .ok (.aload_n 0, 1) := by decide +kernel
theorem dX1_add_121 : decode cX1_add 121 = .ok (.getfield 41, 3) := by decide +kernel
theorem dX1_add_124 : decode cX1_add 124 = .ok (.bipush 100, 2) := by decide +kernel
theorem dX1_add_126 : decode cX1_add 126 = .ok (.iload 4, 2) := by decide +kernel
theorem dX1_add_128 : decode cX1_add 128 = .ok (.imul, 1) := by decide +kernel
theorem dX1_add_129 : decode cX1_add 129 = .ok (.iload_n 3, 1) := by decide +kernel
theorem dX1_add_130 : decode cX1_add 130 = .ok (.idiv, 1) := by decide +kernel
theorem dX1_add_131 : decode cX1_add 131 = .ok (.iastore, 1) := by decide +kernel
theorem dX1_add_132 : decode cX1_add 132 = .ok (.aload_n 0, 1) := by decide +kernel
theorem dX1_add_133 : decode cX1_add 133 = .ok (.getfield 18, 3) := by decide +kernel
theorem dX1_add_136 : decode cX1_add 136 = .ok (.aload_n 0, 1) := by decide +kernel
theorem dX1_add_137 : decode cX1_add 137 = .ok (.getfield 41, 3) := by decide +kernel
theorem dX1_add_140 : decode cX1_add 140 = .ok (.bipush 100, 2) := by decide +kernel
theorem dX1_add_142 : decode cX1_add 142 = .ok (.iload 5, 2) := by decide +kernel
theorem dX1_add_144 : decode cX1_add 144 = .ok (.imul, 1) := by decide +kernel
theorem dX1_add_145 : decode cX1_add 145 = .ok (.iload_n 3, 1) := by decide +kernel
theorem dX1_add_146 : decode cX1_add 146 = .ok (.idiv, 1) := by decide +kernel
theorem dX1_add_147 : decode cX1_add 147 = .ok (.iastore, 1) := by decide +kernel
theorem dX1_add_148 : decode cX1_add 148 = .ok (.aload_n 0, 1) := by decide +kernel
theorem dX1_add_149 : decode cX1_add 149 = .ok (.getfield 21, 3) := by decide +kernel
theorem dX1_add_152 : decode cX1_add 152 = .ok (.aload_n 0, 1) := by decide +kernel
theorem dX1_add_153 : decode cX1_add 153 = .ok (.getfield 41, 3) := by decide +kernel
theorem dX1_add_156 : decode cX1_add 156 = .ok (.iload_n 3, 1) := by decide +kernel
theorem dX1_add_157 : decode cX1_add 157 = .ok (.iastore, 1) := by decide +kernel
theorem dX1_add_158 : decode cX1_add 158 = .ok (.aload_n 0, 1) := by decide +kernel
theorem dX1_add_159 : decode cX1_add 159 = .ok (.getfield 24, 3) := by decide +kernel
theorem dX1_add_162 : decode cX1_add 162 = .ok (.aload_n 0, 1) := by decide +kernel
theorem dX1_add_163 : decode cX1_add 163 = .ok (.getfield 41, 3) := by decide +kernel
theorem dX1_add_166 : decode cX1_add 166 = .ok (.iload_n 2, 1) := by decide +kernel
theorem dX1_add_167 : decode cX1_add 167 = .ok (.iastore, 1) := by decide +kernel
theorem dX1_add_168 : decode cX1_add 168 = .ok (.aload_n 0, 1) := by decide +kernel
theorem dX1_add_169 : decode cX1_add 169 = .ok (.dup, 1) := by decide +kernel
theorem dX1_add_170 : decode cX1_add 170 = .ok (.getfield 41, 3) := by decide +kernel
theorem dX1_add_173 : decode cX1_add 173 = .ok (.iconst 1, 1) := by decide +kernel
theorem dX1_add_174 : decode cX1_add 174 = .ok (.iadd, 1) := by decide +kernel
theorem dX1_add_175 : decode cX1_add 175 = .ok (.putfield 41, 3) := by decide +kernel
theorem dX1_add_178 : decode cX1_add 178 = .ok (.return_, 1) := by decide +kernel
theorem dX1_isContact_0 : decode cX1_isContact 0 = .ok (.iload_n 1, 1) := by decide +kernel
theorem dX1_isContact_1 : decode cX1_isContact 1 = .ok (.ifCond .lt 21, 3) := by decide +kernel
theorem dX1_isContact_4 : decode cX1_isContact 4 = .ok (.iload_n 1, 1) := by decide +kernel
theorem dX1_isContact_5 : decode cX1_isContact 5 = .ok (.aload_n 0, 1) := by decide +kernel
theorem dX1_isContact_6 : decode cX1_isContact 6 = .ok (.getfield 41, 3) := by decide +kernel
theorem dX1_isContact_9 : decode cX1_isContact 9 = .ok (.if_icmp .ge 13, 3) := by decide +kernel
theorem dX1_isContact_12 : decode cX1_isContact 12 = .ok (.iload_n 1, 1) := by decide +kernel
theorem dX1_isContact_13 : decode cX1_isContact 13 = .ok (.bipush 6, 2) := by decide +kernel
theorem dX1_isContact_15 : decode cX1_isContact 15 = .ok (.if_icmp .ge 7, 3) := by decide +kernel
theorem dX1_isContact_18 : decode cX1_isContact 18 = .ok (.iconst 1, 1) := by decide +kernel
theorem dX1_isContact_19 : decode cX1_isContact 19 = .ok (.goto 4, 3) := by decide +kernel
theorem dX1_isContact_22 : decode cX1_isContact 22 = .ok (.iconst 0, 1) := by decide +kernel
theorem dX1_isContact_23 : decode cX1_isContact 23 = .ok (.ireturn, 1) := by decide +kernel
set_option maxRecDepth 20000 in
theorem ggX1_rowOf_X1_isContact : GoodIn wsX1_rowOf wsX1_isContact := goodIn_r _ [6, 7, 8, 9, 10, 11, 12, 13] (by decide +kernel) (by decide +kernel)
set_option maxRecDepth 20000 in
theorem gX1_rowOf_X1_isContact : GoodIn wsX1_rowOf (wsV RX1 68 RX1 yX1_isContact wsX1_isContact) := goodIn_app (goodIn_of _ (by decide +kernel)) ggX1_rowOf_X1_isContact
theorem dX1_rowOf_0 : decode cX1_rowOf 0 = .ok (.aload_n 0, 1) := by decide +kernel
theorem dX1_rowOf_1 : decode cX1_rowOf 1 = .ok (.iload_n 1, 1) := by decide +kernel
theorem dX1_rowOf_2 : decode cX1_rowOf 2 = .ok (.invokevirtual 68, 3) := by decide +kernel
theorem dX1_rowOf_5 : decode cX1_rowOf 5 = .ok (.ifCond .eq 12, 3) := by decide +kernel
theorem dX1_rowOf_8 : decode cX1_rowOf 8 = .ok (.aload_n 0, 1) := by decide +kernel
theorem dX1_rowOf_9 : decode cX1_rowOf 9 = .ok (.getfield 15, 3) := by decide +kernel
theorem dX1_rowOf_12 : decode cX1_rowOf 12 = .ok (.iload_n 1, 1) := by decide +kernel
theorem dX1_rowOf_13 : decode cX1_rowOf 13 = .ok (.iaload, 1) := by decide +kernel
theorem dX1_rowOf_14 : decode cX1_rowOf 14 = .ok (.goto 4, 3) := by decide +kernel
theorem dX1_rowOf_17 : decode cX1_rowOf 17 = .ok (.iconst (-1), 1) := by decide +kernel
theorem dX1_rowOf_18 : decode cX1_rowOf 18 = .ok (.ireturn, 1) := by decide +kernel
set_option maxRecDepth 20000 in
theorem ggX1_columnOf_X1_isContact : GoodIn wsX1_columnOf wsX1_isContact := goodIn_r _ [6, 7, 8, 9, 10, 11, 12, 13] (by decide +kernel) (by decide +kernel)
set_option maxRecDepth 20000 in
theorem gX1_columnOf_X1_isContact : GoodIn wsX1_columnOf (wsV RX1 68 RX1 yX1_isContact wsX1_isContact) := goodIn_app (goodIn_of _ (by decide +kernel)) ggX1_columnOf_X1_isContact
theorem dX1_columnOf_0 : decode cX1_columnOf 0 = .ok (.aload_n 0, 1) := by decide +kernel
theorem dX1_columnOf_1 : decode cX1_columnOf 1 = .ok (.iload_n 1, 1) := by decide +kernel
theorem dX1_columnOf_2 : decode cX1_columnOf 2 = .ok (.invokevirtual 68, 3) := by decide +kernel
theorem dX1_columnOf_5 : decode cX1_columnOf 5 = .ok (.ifCond .eq 12, 3) := by decide +kernel
theorem dX1_columnOf_8 : decode cX1_columnOf 8 = .ok (.aload_n 0, 1) := by decide +kernel
theorem dX1_columnOf_9 : decode cX1_columnOf 9 = .ok (.getfield 18, 3) := by decide +kernel
theorem dX1_columnOf_12 : decode cX1_columnOf 12 = .ok (.iload_n 1, 1) := by decide +kernel
theorem dX1_columnOf_13 : decode cX1_columnOf 13 = .ok (.iaload, 1) := by decide +kernel
theorem dX1_columnOf_14 : decode cX1_columnOf 14 = .ok (.goto 4, 3) := by decide +kernel
theorem dX1_columnOf_17 : decode cX1_columnOf 17 = .ok (.iconst (-1), 1) := by decide +kernel
theorem dX1_columnOf_18 : decode cX1_columnOf 18 = .ok (.ireturn, 1) := by decide +kernel
set_option maxRecDepth 20000 in
theorem ggX1_partOf_X1_isContact : GoodIn wsX1_partOf wsX1_isContact := goodIn_r _ [9, 10, 11, 12, 13, 14, 15, 16] (by decide +kernel) (by decide +kernel)
set_option maxRecDepth 20000 in
theorem gX1_partOf_X1_isContact : GoodIn wsX1_partOf (wsV RX1 68 RX1 yX1_isContact wsX1_isContact) := goodIn_app (goodIn_of _ (by decide +kernel)) ggX1_partOf_X1_isContact
theorem dX1_partOf_0 : decode cX1_partOf 0 = .ok (.aload_n 0, 1) := by decide +kernel
theorem dX1_partOf_1 : decode cX1_partOf 1 = .ok (.iload_n 1, 1) := by decide +kernel
theorem dX1_partOf_2 : decode cX1_partOf 2 = .ok (.invokevirtual 68, 3) := by decide +kernel
theorem dX1_partOf_5 : decode cX1_partOf 5 = .ok (.ifCond .ne 5, 3) := by decide +kernel
theorem dX1_partOf_8 : decode cX1_partOf 8 = .ok (.iconst (-1), 1) := by decide +kernel
theorem dX1_partOf_9 : decode cX1_partOf 9 = .ok (.ireturn, 1) := by decide +kernel
theorem dX1_partOf_10 : decode cX1_partOf 10 = .ok (.iload_n 2, 1) := by decide +kernel
theorem dX1_partOf_11 : decode cX1_partOf 11 = .ok (.tableswitch 46 0 2 #[25, 32, 39], 25) := by decide +kernel
theorem dX1_partOf_36 : decode cX1_partOf 36 = .ok (.aload_n 0, 1) := by decide +kernel
theorem dX1_partOf_37 : decode cX1_partOf 37 = .ok (.getfield 15, 3) := by decide +kernel
theorem dX1_partOf_40 : decode cX1_partOf 40 = .ok (.iload_n 1, 1) := by decide +kernel
theorem dX1_partOf_41 : decode cX1_partOf 41 = .ok (.iaload, 1) := by decide +kernel
theorem dX1_partOf_42 : decode cX1_partOf 42 = .ok (.ireturn, 1) := by decide +kernel
theorem dX1_partOf_43 : decode cX1_partOf 43 = .ok (.aload_n 0, 1) := by decide +kernel
theorem dX1_partOf_44 : decode cX1_partOf 44 = .ok (.getfield 18, 3) := by decide +kernel
theorem dX1_partOf_47 : decode cX1_partOf 47 = .ok (.iload_n 1, 1) := by decide +kernel
theorem dX1_partOf_48 : decode cX1_partOf 48 = .ok (.iaload, 1) := by decide +kernel
theorem dX1_partOf_49 : decode cX1_partOf 49 = .ok (.ireturn, 1) := by decide +kernel
theorem dX1_partOf_50 : decode cX1_partOf 50 = .ok (.aload_n 0, 1) := by decide +kernel
theorem dX1_partOf_51 : decode cX1_partOf 51 = .ok (.getfield 21, 3) := by decide +kernel
theorem dX1_partOf_54 : decode cX1_partOf 54 = .ok (.iload_n 1, 1) := by decide +kernel
theorem dX1_partOf_55 : decode cX1_partOf 55 = .ok (.iaload, 1) := by decide +kernel
theorem dX1_partOf_56 : decode cX1_partOf 56 = .ok (.ireturn, 1) := by decide +kernel
theorem dX1_partOf_57 : decode cX1_partOf 57 = .ok (.aload_n 0, 1) := by decide +kernel
theorem dX1_partOf_58 : decode cX1_partOf 58 = .ok (.getfield 24, 3) := by decide +kernel
theorem dX1_partOf_61 : decode cX1_partOf 61 = .ok (.iload_n 1, 1) := by decide +kernel
theorem dX1_partOf_62 : decode cX1_partOf 62 = .ok (.iaload, 1) := by decide +kernel
theorem dX1_partOf_63 : decode cX1_partOf 63 = .ok (.ireturn, 1) := by decide +kernel
set_option maxRecDepth 20000 in
theorem ggX2_init_X6_init : GoodIn wsX2_init wsX6_init := goodIn_r _ [10, 11, 2, 3, 12, 13, 14, 15, 16, 17, 18, 19, 20, 21, 22, 23, 24, 25, 26, 27, 28, 29, 30, 31, 32, 33, 42, 43, 36, 37, 38, 39, 40, 41, 44, 45, 46, 47, 48] (by decide +kernel) (by decide +kernel)
set_option maxRecDepth 20000 in
theorem gX2_init_X6_init : GoodIn wsX2_init (wsX6_init) := ggX2_init_X6_init
theorem dX2_init_0 : decode cX2_init 0 = .ok (.aload_n 0, 1) := by decide +kernel
theorem dX2_init_1 : decode cX2_init 1 = .ok (.invokespecial 1, 3) := by decide +kernel
theorem dX2_init_4 : decode cX2_init 4 = .ok (.aload_n 0, 1) := by decide +kernel
theorem dX2_init_5 : decode cX2_init 5 = .ok (.bipush 6, 2) := by decide +kernel
theorem dX2_init_7 : decode cX2_init 7 = .ok (.anewarray 9, 3) := by decide +kernel
theorem dX2_init_10 : decode cX2_init 10 = .ok (.putfield 11, 3) := by decide +kernel
theorem dX2_init_13 : decode cX2_init 13 = .ok (.iconst 0, 1) := by decide +kernel
theorem dX2_init_14 : decode cX2_init 14 = .ok (.istore_n 1, 1) := by decide +kernel
theorem dX2_init_15 : decode cX2_init 15 = .ok (.iload_n 1, 1) := by decide +kernel
theorem dX2_init_16 : decode cX2_init 16 = .ok (.bipush 6, 2) := by decide +kernel
theorem dX2_init_18 : decode cX2_init 18 = .ok (.if_icmp .ge 22, 3) := by decide +kernel
theorem dX2_init_21 : decode cX2_init 21 = .ok (.aload_n 0, 1) := by decide +kernel
theorem dX2_init_22 : decode cX2_init 22 = .ok (.getfield 11, 3) := by decide +kernel
theorem dX2_init_25 : decode cX2_init 25 = .ok (.iload_n 1, 1) := by decide +kernel
theorem dX2_init_26 : decode cX2_init 26 = .ok (.new 9, 3) := by decide +kernel
theorem dX2_init_29 : decode cX2_init 29 = .ok (.dup, 1) := by decide +kernel
theorem dX2_init_30 : decode cX2_init 30 = .ok (.invokespecial 15, 3) := by decide +kernel
theorem dX2_init_33 : decode cX2_init 33 = .ok (.aastore, 1) := by decide +kernel
theorem dX2_init_34 : decode cX2_init 34 = .ok (.iinc 1 1, 3) := by decide +kernel
theorem dX2_init_37 : decode cX2_init 37 = .ok (.goto (-22), 3) := by decide +kernel
theorem dX2_init_40 : decode cX2_init 40 = .ok (.return_, 1) := by decide +kernel
set_option maxRecDepth 20000 in
theorem ggX2_save_X2_dropOldest : GoodIn wsX2_save wsX2_dropOldest := goodIn_r _ [7, 2, 1, 41, 42] (by decide +kernel) (by decide +kernel)
set_option maxRecDepth 20000 in
theorem gX2_save_X2_dropOldest : GoodIn wsX2_save (wsV RX2 20 RX2 yX2_dropOldest wsX2_dropOldest) := goodIn_app (goodIn_of _ (by decide +kernel)) ggX2_save_X2_dropOldest
set_option maxRecDepth 20000 in
theorem ggX2_save_X6_copyFrom : GoodIn wsX2_save wsX6_copyFrom := goodIn_r _ [12, 13, 14, 15, 16, 17, 18, 19, 20, 21, 22, 23, 24, 25, 26, 27, 28, 29, 30, 31, 32, 33, 34, 35, 36, 37, 38, 39, 40, 43, 44, 45, 46, 47, 48, 49, 50, 51, 52, 53, 54, 55] (by decide +kernel) (by decide +kernel)
set_option maxRecDepth 20000 in
theorem gX2_save_X6_copyFrom : GoodIn wsX2_save (wsV RX2 23 RX6 yX6_copyFrom wsX6_copyFrom) := goodIn_app (goodIn_of _ (by decide +kernel)) ggX2_save_X6_copyFrom
theorem dX2_save_0 : decode cX2_save 0 = .ok (.aload_n 0, 1) := by decide +kernel
theorem dX2_save_1 : decode cX2_save 1 = .ok (.getfield 16, 3) := by decide +kernel
theorem dX2_save_4 : decode cX2_save 4 = .ok (.bipush 6, 2) := by decide +kernel
theorem dX2_save_6 : decode cX2_save 6 = .ok (.if_icmp .lt 7, 3) := by decide +kernel
theorem dX2_save_9 : decode cX2_save 9 = .ok (.aload_n 0, 1) := by decide +kernel
theorem dX2_save_10 : decode cX2_save 10 = .ok (.invokevirtual 20, 3) := by decide +kernel
theorem dX2_save_13 : decode cX2_save 13 = .ok (.aload_n 0, 1) := by decide +kernel
theorem dX2_save_14 : decode cX2_save 14 = .ok (.getfield 11, 3) := by decide +kernel
theorem dX2_save_17 : decode cX2_save 17 = .ok (.aload_n 0, 1) := by decide +kernel
theorem dX2_save_18 : decode cX2_save 18 = .ok (.getfield 16, 3) := by decide +kernel
theorem dX2_save_21 : decode cX2_save 21 = .ok (.aaload, 1) := by decide +kernel
theorem dX2_save_22 : decode cX2_save 22 = .ok (.aload_n 1, 1) := by decide +kernel
theorem dX2_save_23 : decode cX2_save 23 = .ok (.invokevirtual 23, 3) := by decide +kernel
theorem dX2_save_26 : decode cX2_save 26 = .ok (.aload_n 0, 1) := by decide +kernel
theorem dX2_save_27 : decode cX2_save 27 = .ok (.dup, 1) := by decide +kernel
theorem dX2_save_28 : decode cX2_save 28 = .ok (.getfield 16, 3) := by decide +kernel
theorem dX2_save_31 : decode cX2_save 31 = .ok (.iconst 1, 1) := by decide +kernel
theorem dX2_save_32 : decode cX2_save 32 = .ok (.iadd, 1) := by decide +kernel
theorem dX2_save_33 : decode cX2_save 33 = .ok (.putfield 16, 3) := by decide +kernel
theorem dX2_save_36 : decode cX2_save 36 = .ok (.return_, 1) := by decide +kernel
theorem dX2_dropOldest_0 : decode cX2_dropOldest 0 = .ok (.aload_n 0, 1) := by decide +kernel
theorem dX2_dropOldest_1 : decode cX2_dropOldest 1 = .ok (.getfield 11, 3) := by decide +kernel
theorem dX2_dropOldest_4 : decode cX2_dropOldest 4 = .ok (.iconst 0, 1) := by decide +kernel
theorem dX2_dropOldest_5 : decode cX2_dropOldest 5 = .ok (.aaload, 1) := by decide +kernel
theorem dX2_dropOldest_6 : decode cX2_dropOldest 6 = .ok (.astore_n 1, 1) := by decide +kernel
theorem dX2_dropOldest_7 : decode cX2_dropOldest 7 = .ok (.iconst 1, 1) := by decide +kernel
theorem dX2_dropOldest_8 : decode cX2_dropOldest 8 = .ok (.istore_n 2, 1) := by decide +kernel
theorem dX2_dropOldest_9 : decode cX2_dropOldest 9 = .ok (.iload_n 2, 1) := by decide +kernel
theorem dX2_dropOldest_10 : decode cX2_dropOldest 10 = .ok (.bipush 6, 2) := by decide +kernel
theorem dX2_dropOldest_12 : decode cX2_dropOldest 12 = .ok (.if_icmp .ge 23, 3) := by decide +kernel
theorem dX2_dropOldest_15 : decode cX2_dropOldest 15 = .ok (.aload_n 0, 1) := by decide +kernel
theorem dX2_dropOldest_16 : decode cX2_dropOldest 16 = .ok (.getfield 11, 3) := by decide +kernel
theorem dX2_dropOldest_19 : decode cX2_dropOldest 19 = .ok (.iload_n 2, 1) := by decide +kernel
theorem dX2_dropOldest_20 : decode cX2_dropOldest 20 = .ok (.iconst 1, 1) := by decide +kernel
theorem dX2_dropOldest_21 : decode cX2_dropOldest 21 = .ok (.isub, 1) := by decide +kernel
theorem dX2_dropOldest_22 : decode cX2_dropOldest 22 = .ok (.aload_n 0, 1) := by decide +kernel
theorem dX2_dropOldest_23 : decode cX2_dropOldest 23 = .ok (.getfield 11, 3) := by decide +kernel
theorem dX2_dropOldest_26 : decode cX2_dropOldest 26 = .ok (.iload_n 2, 1) := by decide +kernel
theorem dX2_dropOldest_27 : decode cX2_dropOldest 27 = .ok (.aaload, 1) := by decide +kernel
theorem dX2_dropOldest_28 : decode cX2_dropOldest 28 = .ok (.aastore, 1) := by decide +kernel
theorem dX2_dropOldest_29 : decode cX2_dropOldest 29 = .ok (.iinc 2 1, 3) := by decide +kernel
theorem dX2_dropOldest_32 : decode cX2_dropOldest 32 = .ok (.goto (-23), 3) := by decide +kernel
theorem dX2_dropOldest_35 : decode cX2_dropOldest 35 = .ok (.aload_n 0, 1) := by decide +kernel
theorem dX2_dropOldest_36 : decode cX2_dropOldest 36 = .ok (.getfield 11, 3) := by decide +kernel
theorem dX2_dropOldest_39 : decode cX2_dropOldest 39 = .ok (.iconst 5, 1) := by decide +kernel
theorem dX2_dropOldest_40 : decode cX2_dropOldest 40 = .ok (.aload_n 1, 1) := by decide +kernel
theorem dX2_dropOldest_41 : decode cX2_dropOldest 41 = .ok (.aastore, 1) := by decide +kernel
theorem dX2_dropOldest_42 : decode cX2_dropOldest 42 = .ok (.aload_n 0, 1) := by decide +kernel
theorem dX2_dropOldest_43 : decode cX2_dropOldest 43 = .ok (.iconst 5, 1) := by decide +kernel
theorem dX2_dropOldest_44 : decode cX2_dropOldest 44 = .ok (.putfield 16, 3) := by decide +kernel
theorem dX2_dropOldest_47 : decode cX2_dropOldest 47 = .ok (.return_, 1) := by decide +kernel
set_option maxRecDepth 20000 in
theorem ggX2_restore_X6_copyFrom : GoodIn wsX2_restore wsX6_copyFrom := goodIn_r _ [7, 8, 9, 10, 11, 12, 13, 14, 15, 16, 17, 18, 19, 20, 21, 22, 23, 24, 25, 26, 27, 28, 29, 30, 31, 32, 33, 34, 35, 38, 39, 40, 41, 42, 43, 44, 45, 46, 47, 48, 49, 50] (by decide +kernel) (by decide +kernel)
set_option maxRecDepth 20000 in
theorem gX2_restore_X6_copyFrom : GoodIn wsX2_restore (wsV RX2 23 RX6 yX6_copyFrom wsX6_copyFrom) := goodIn_app (goodIn_of _ (by decide +kernel)) ggX2_restore_X6_copyFrom
theorem dX2_restore_0 : decode cX2_restore 0 = .ok (.aload_n 0, 1) := by decide +kernel
theorem dX2_restore_1 : decode cX2_restore 1 = .ok (.getfield 16, 3) := by decide +kernel
theorem dX2_restore_4 : decode cX2_restore 4 = .ok (.ifCond .le 26, 3) := by decide +kernel
theorem dX2_restore_7 : decode cX2_restore 7 = .ok (.aload_n 0, 1) := by decide +kernel
theorem dX2_restore_8 : decode cX2_restore 8 = .ok (.dup, 1) := by decide +kernel
theorem dX2_restore_9 : decode cX2_restore 9 = .ok (.getfield 16, 3) := by decide +kernel
theorem dX2_restore_12 : decode cX2_restore 12 = .ok (.iconst 1, 1) := by decide +kernel
theorem dX2_restore_13 : decode cX2_restore 13 = .ok (.isub, 1) := by decide +kernel
theorem dX2_restore_14 : decode cX2_restore 14 = .ok (.putfield 16, 3) := by decide +kernel
theorem dX2_restore_17 : decode cX2_restore 17 = .ok (.aload_n 1, 1) := by decide +kernel
theorem dX2_restore_18 : decode cX2_restore 18 = .ok (.aload_n 0, 1) := by decide +kernel
theorem dX2_restore_19 : decode cX2_restore 19 = .ok (.getfield 11, 3) := by decide +kernel
theorem dX2_restore_22 : decode cX2_restore 22 = .ok (.aload_n 0, 1) := by decide +kernel
theorem dX2_restore_23 : decode cX2_restore 23 = .ok (.getfield 16, 3) := by decide +kernel
theorem dX2_restore_26 : decode cX2_restore 26 = .ok (.aaload, 1) := by decide +kernel
theorem dX2_restore_27 : decode cX2_restore 27 = .ok (.invokevirtual 23, 3) := by decide +kernel
theorem dX2_restore_30 : decode cX2_restore 30 = .ok (.return_, 1) := by decide +kernel
theorem dX3_init_0 : decode cX3_init 0 = .ok (.aload_n 0, 1) := by decide +kernel
theorem dX3_init_1 : decode cX3_init 1 = .ok (.invokespecial 3, 3) := by decide +kernel
theorem dX3_init_4 : decode cX3_init 4 = .ok (.aload_n 0, 1) := by decide +kernel
theorem dX3_init_5 : decode cX3_init 5 = .ok (.bipush 6, 2) := by decide +kernel
theorem dX3_init_7 : decode cX3_init 7 = .ok (.bipush 6, 2) := by decide +kernel
theorem dX3_init_9 : decode cX3_init 9 = .ok (.multianewarray 9 2, 4) := by decide +kernel
theorem dX3_init_13 : decode cX3_init 13 = .ok (.putfield 11, 3) := by decide +kernel
theorem dX3_init_16 : decode cX3_init 16 = .ok (.aload_n 0, 1) := by decide +kernel
theorem dX3_init_17 : decode cX3_init 17 = .ok (.bipush 6, 2) := by decide +kernel
theorem dX3_init_19 : decode cX3_init 19 = .ok (.newarray .int, 2) := by decide +kernel
theorem dX3_init_21 : decode cX3_init 21 = .ok (.putfield 16, 3) := by decide +kernel
theorem dX3_init_24 : decode cX3_init 24 = .ok (.aload_n 0, 1) := by decide +kernel
theorem dX3_init_25 : decode cX3_init 25 = .ok (.bipush 7, 2) := by decide +kernel
theorem dX3_init_27 : decode cX3_init 27 = .ok (.bipush 64, 2) := by decide +kernel
theorem dX3_init_29 : decode cX3_init 29 = .ok (.multianewarray 9 2, 4) := by decide +kernel
theorem dX3_init_33 : decode cX3_init 33 = .ok (.putfield 20, 3) := by decide +kernel
theorem dX3_init_36 : decode cX3_init 36 = .ok (.aload_n 0, 1) := by decide +kernel
theorem dX3_init_37 : decode cX3_init 37 = .ok (.bipush 6, 2) := by decide +kernel
theorem dX3_init_39 : decode cX3_init 39 = .ok (.newarray .int, 2) := by decide +kernel
theorem dX3_init_41 : decode cX3_init 41 = .ok (.putfield 23, 3) := by decide +kernel
theorem dX3_init_44 : decode cX3_init 44 = .ok (.return_, 1) := by decide +kernel
set_option maxRecDepth 20000 in
theorem ggX3_find_X3_pairCost : GoodIn wsX3_find wsX3_pairCost := goodIn_r _ [8, 9, 10, 11, 12, 13, 14, 15, 16, 17, 18, 19, 20, 21, 22, 23, 24, 25, 26, 27, 28, 29, 30, 31, 72, 73, 74, 75, 76, 54, 55, 56, 57, 58, 59] (by decide +kernel) (by decide +kernel)
set_option maxRecDepth 20000 in
theorem gX3_find_X3_pairCost : GoodIn wsX3_find (va_wsS RX3 48 yX3_pairCost wsX3_pairCost) := goodIn_app (goodIn_of _ (by decide +kernel)) ggX3_find_X3_pairCost
set_option maxRecDepth 20000 in
theorem ggX3_find_X3_leastCost : GoodIn wsX3_find wsX3_leastCost := goodIn_r _ [35, 2, 4, 1, 36, 37, 38, 7, 39, 3, 40, 41, 42, 43, 60, 61, 62, 63, 64, 65] (by decide +kernel) (by decide +kernel)
set_option maxRecDepth 20000 in
theorem gX3_find_X3_leastCost : GoodIn wsX3_find (wsV RX3 52 RX3 yX3_leastCost wsX3_leastCost) := goodIn_app (goodIn_of _ (by decide +kernel)) ggX3_find_X3_leastCost
set_option maxRecDepth 20000 in
theorem ggX3_find_X3_assign : GoodIn wsX3_find wsX3_assign := goodIn_r _ [47, 48, 49, 50, 51, 52, 7, 53, 1, 4, 36, 37, 38, 39, 3, 40, 41, 42, 43, 60, 61, 62, 63, 64, 65] (by decide +kernel) (by decide +kernel)
set_option maxRecDepth 20000 in
theorem gX3_find_X3_assign : GoodIn wsX3_find (wsV RX3 56 RX3 yX3_assign wsX3_assign) := goodIn_app (goodIn_of _ (by decide +kernel)) ggX3_find_X3_assign
theorem dX3_find_0 : decode cX3_find 0 = .ok (.aload_n 0, 1) := by decide +kernel
theorem dX3_find_1 : decode cX3_find 1 = .ok (.aload_n 2, 1) := by decide +kernel
theorem dX3_find_2 : decode cX3_find 2 = .ok (.getfield 26, 3) := by decide +kernel
theorem dX3_find_5 : decode cX3_find 5 = .ok (.bipush 6, 2) := by decide +kernel
theorem dX3_find_7 : decode cX3_find 7 = .ok (.if_icmp .ge 10, 3) := by decide +kernel
theorem dX3_find_10 : decode cX3_find 10 = .ok (.aload_n 2, 1) := by decide +kernel
theorem dX3_find_11 : decode cX3_find 11 = .ok (.getfield 26, 3) := by decide +kernel
theorem dX3_find_14 : decode cX3_find 14 = .ok (.goto 5, 3) := by decide +kernel
theorem dX3_find_17 : decode cX3_find 17 = .ok (.bipush 6, 2) := by decide +kernel
theorem dX3_find_19 : decode cX3_find 19 = .ok (.putfield 32, 3) := by decide +kernel
theorem dX3_find_22 : decode cX3_find 22 = .ok (.aload_n 1, 1) := by decide +kernel
theorem dX3_find_23 : decode cX3_find 23 = .ok (.getfield 33, 3) := by decide +kernel
theorem dX3_find_26 : decode cX3_find 26 = .ok (.iconst 3, 1) := by decide +kernel
theorem dX3_find_27 : decode cX3_find 27 = .ok (.iaload, 1) := by decide +kernel
theorem dX3_find_28 : decode cX3_find 28 = .ok (.aload_n 1, 1) := by decide +kernel
theorem dX3_find_29 : decode cX3_find 29 = .ok (.getfield 33, 3) := by decide +kernel
theorem dX3_find_32 : decode cX3_find 32 = .ok (.iconst 3, 1) := by decide +kernel
theorem dX3_find_33 : decode cX3_find 33 = .ok (.iaload, 1) := by decide +kernel
theorem dX3_find_34 : decode cX3_find 34 = .ok (.imul, 1) := by decide +kernel
theorem dX3_find_35 : decode cX3_find 35 = .ok (.istore_n 3, 1) := by decide +kernel
theorem dX3_find_36 : decode cX3_find 36 = .ok (.iconst 0, 1) := by decide +kernel
theorem dX3_find_37 : decode cX3_find 37 = .ok (.istore 4, 2) := by decide +kernel
theorem dX3_find_39 : decode cX3_find 39 = .ok (.iload 4, 2) := by decide +kernel
theorem dX3_find_41 : decode cX3_find 41 = .ok (.bipush 6, 2) := by decide +kernel
theorem dX3_find_43 : decode cX3_find 43 = .ok (.if_icmp .ge 76, 3) := by decide +kernel
theorem dX3_find_46 : decode cX3_find 46 = .ok (.aload_n 0, 1) := by decide +kernel
theorem dX3_find_47 : decode cX3_find 47 = .ok (.getfield 16, 3) := by decide +kernel
theorem dX3_find_50 : decode cX3_find 50 = .ok (.iload 4, 2) := by decide +kernel
theorem dX3_find_52 : decode cX3_find 52 = .ok (.aload_n 1, 1) := by decide +kernel
theorem dX3_find_53 : decode cX3_find 53 = .ok (.getfield 38, 3) := by decide +kernel
theorem dX3_find_56 : decode cX3_find 56 = .ok (.iload 4, 2) := by decide +kernel
theorem dX3_find_58 : decode cX3_find 58 = .ok (.aaload, 1) := by decide +kernel
theorem dX3_find_59 : decode cX3_find 59 = .ok (.getfield 42, 3) := by decide +kernel
theorem dX3_find_62 : decode cX3_find 62 = .ok (.ifCond .eq 7, 3) := by decide +kernel
theorem dX3_find_65 : decode cX3_find 65 = .ok (.iload_n 3, 1) := by decide +kernel
theorem dX3_find_66 : decode cX3_find 66 = .ok (.goto 4, 3) := by decide +kernel
theorem dX3_find_69 : decode cX3_find 69 = .ok (.iconst 0, 1) := by decide +kernel
theorem dX3_find_70 : decode cX3_find 70 = .ok (.iastore, 1) := by decide +kernel
theorem dX3_find_71 : decode cX3_find 71 = .ok (.iconst 0, 1) := by decide +kernel
theorem dX3_find_72 : decode cX3_find 72 = .ok (.istore 5, 2) := by decide +kernel
theorem dX3_find_74 : decode cX3_find 74 = .ok (.iload 5, 2) := by decide +kernel
theorem dX3_find_76 : decode cX3_find 76 = .ok (.aload_n 0, 1) := by decide +kernel
theorem dX3_find_77 : decode cX3_find 77 = .ok (.getfield 32, 3) := by decide +kernel
theorem dX3_find_80 : decode cX3_find 80 = .ok (.if_icmp .ge 33, 3) := by decide +kernel
theorem dX3_find_83 : decode cX3_find 83 = .ok (.aload_n 0, 1) := by decide +kernel
theorem dX3_find_84 : decode cX3_find 84 = .ok (.getfield 11, 3) := by decide +kernel
theorem dX3_find_87 : decode cX3_find 87 = .ok (.iload 4, 2) := by decide +kernel
theorem dX3_find_89 : decode cX3_find 89 = .ok (.aaload, 1) := by decide +kernel
theorem dX3_find_90 : decode cX3_find 90 = .ok (.iload 5, 2) := by decide +kernel
theorem dX3_find_92 : decode cX3_find 92 = .ok (.aload_n 1, 1) := by decide +kernel
theorem dX3_find_93 : decode cX3_find 93 = .ok (.getfield 38, 3) := by decide +kernel
theorem dX3_find_96 : decode cX3_find 96 = .ok (.iload 4, 2) := by decide +kernel
theorem dX3_find_98 : decode cX3_find 98 = .ok (.aaload, 1) := by decide +kernel
theorem dX3_find_99 : decode cX3_find 99 = .ok (.aload_n 2, 1) := by decide +kernel
theorem dX3_find_100 : decode cX3_find 100 = .ok (.iload 5, 2) := by decide +kernel
theorem dX3_find_102 : decode cX3_find 102 = .ok (.iload_n 3, 1) := by decide +kernel
theorem dX3_find_103 : decode cX3_find 103 = .ok (.invokestatic 48, 3) := by decide +kernel
theorem dX3_find_106 : decode cX3_find 106 = .ok (.iastore, 1) := by decide +kernel
theorem dX3_find_107 : decode cX3_find 107 = .ok (.iinc 5 1, 3) := by decide +kernel
theorem dX3_find_110 : decode cX3_find 110 = .ok (.goto (-36), 3) := by decide +kernel
theorem dX3_find_113 : decode cX3_find 113 = .ok (.iinc 4 1, 3) := by decide +kernel
theorem dX3_find_116 : decode cX3_find 116 = .ok (.goto (-77), 3) := by decide +kernel
theorem dX3_find_119 : decode cX3_find 119 = .ok (.iconst 1, 1) := by decide +kernel
theorem dX3_find_120 : decode cX3_find 120 = .ok (.aload_n 0, 1) := by decide +kernel
theorem dX3_find_121 : decode cX3_find 121 = .ok (.getfield 32, 3) := by decide +kernel
theorem dX3_find_124 : decode cX3_find 124 = .ok (.ishl, 1) := by decide +kernel
theorem dX3_find_125 : decode cX3_find 125 = .ok (.istore 4, 2) := by decide +kernel
theorem dX3_find_127 : decode cX3_find 127 = .ok (.iconst 5, 1) := by decide +kernel
theorem dX3_find_128 : decode cX3_find 128 = .ok (.istore 5, 2) := by decide +kernel
theorem dX3_find_130 : decode cX3_find 130 = .ok (.iload 5, 2) := by decide +kernel
theorem dX3_find_132 : decode cX3_find 132 = .ok (.ifCond .lt 43, 3) := by decide +kernel
theorem dX3_find_135 : decode cX3_find 135 = .ok (.iconst 0, 1) := by decide +kernel
theorem dX3_find_136 : decode cX3_find 136 = .ok (.istore 6, 2) := by decide +kernel
theorem dX3_find_138 : decode cX3_find 138 = .ok (.iload 6, 2) := by decide +kernel
theorem dX3_find_140 : decode cX3_find 140 = .ok (.iload 4, 2) := by decide +kernel
theorem dX3_find_142 : decode cX3_find 142 = .ok (.if_icmp .ge 27, 3) := by decide +kernel
theorem dX3_find_145 : decode cX3_find 145 = .ok (.aload_n 0, 1) := by decide +kernel
theorem dX3_find_146 : decode cX3_find 146 = .ok (.getfield 20, 3) := by decide +kernel
theorem dX3_find_149 : decode cX3_find 149 = .ok (.iload 5, 2) := by decide +kernel
theorem dX3_find_151 : decode cX3_find 151 = .ok (.aaload, 1) := by decide +kernel
theorem dX3_find_152 : decode cX3_find 152 = .ok (.iload 6, 2) := by decide +kernel
theorem dX3_find_154 : decode cX3_find 154 = .ok (.aload_n 0, 1) := by decide +kernel
theorem dX3_find_155 : decode cX3_find 155 = .ok (.iload 5, 2) := by decide +kernel
theorem dX3_find_157 : decode cX3_find 157 = .ok (.iload 6, 2) := by decide +kernel
theorem dX3_find_159 : decode cX3_find 159 = .ok (.invokevirtual 52, 3) := by decide +kernel
theorem dX3_find_162 : decode cX3_find 162 = .ok (.iastore, 1) := by decide +kernel
theorem dX3_find_163 : decode cX3_find 163 = .ok (.iinc 6 1, 3) := by decide +kernel
theorem dX3_find_166 : decode cX3_find 166 = .ok (.goto (-28), 3) := by decide +kernel
theorem dX3_find_169 : decode cX3_find 169 = .ok (.iinc 5 (-1), 3) := by decide +kernel
theorem dX3_find_172 : decode cX3_find 172 = .ok (.goto (-42), 3) := by decide +kernel
theorem dX3_find_175 : decode cX3_find 175 = .ok (.aload_n 0, 1) := by decide +kernel
theorem dX3_find_176 : decode cX3_find 176 = .ok (.invokevirtual 56, 3) := by decide +kernel
theorem dX3_find_179 : decode cX3_find 179 = .ok (.return_, 1) := by decide +kernel
set_option maxRecDepth 20000 in
theorem ggX3_pairCost_X1_rowOf : GoodIn wsX3_pairCost wsX1_rowOf := goodIn_r _ [5, 6, 7, 8, 9, 4, 10, 11, 29, 30, 31, 32, 33, 34] (by decide +kernel) (by decide +kernel)
set_option maxRecDepth 20000 in
theorem gX3_pairCost_X1_rowOf : GoodIn wsX3_pairCost (wsV RX3 59 RX1 yX1_rowOf wsX1_rowOf) := goodIn_app (goodIn_of _ (by decide +kernel)) ggX3_pairCost_X1_rowOf
set_option maxRecDepth 20000 in
theorem ggX3_pairCost_X1_columnOf : GoodIn wsX3_pairCost wsX1_columnOf := goodIn_r _ [15, 16, 7, 8, 9, 4, 10, 11, 29, 30, 31, 32, 33, 34] (by decide +kernel) (by decide +kernel)
set_option maxRecDepth 20000 in
theorem gX3_pairCost_X1_columnOf : GoodIn wsX3_pairCost (wsV RX3 63 RX1 yX1_columnOf wsX1_columnOf) := goodIn_app (goodIn_of _ (by decide +kernel)) ggX3_pairCost_X1_columnOf
set_option maxRecDepth 20000 in
theorem ggX3_pairCost_X8_squaredWayTo : GoodIn wsX3_pairCost wsX8_squaredWayTo := goodIn_r _ [21, 22, 23, 24, 25, 26, 27, 28] (by decide +kernel) (by decide +kernel)
set_option maxRecDepth 20000 in
theorem gX3_pairCost_X8_squaredWayTo : GoodIn wsX3_pairCost (wsV RX3 66 RX8 yX8_squaredWayTo wsX8_squaredWayTo) := goodIn_app (goodIn_of _ (by decide +kernel)) ggX3_pairCost_X8_squaredWayTo
theorem dX3_pairCost_0 : decode cX3_pairCost 0 = .ok (.aload_n 0, 1) := by decide +kernel
theorem dX3_pairCost_1 : decode cX3_pairCost 1 = .ok (.getfield 42, 3) := by decide +kernel
theorem dX3_pairCost_4 : decode cX3_pairCost 4 = .ok (.ifCond .ne 5, 3) := by decide +kernel
theorem dX3_pairCost_7 : decode cX3_pairCost 7 = .ok (.iconst (-1), 1) := by decide +kernel
theorem dX3_pairCost_8 : decode cX3_pairCost 8 = .ok (.ireturn, 1) := by decide +kernel
theorem dX3_pairCost_9 : decode cX3_pairCost 9 = .ok (.aload_n 0, 1) := by decide +kernel
theorem dX3_pairCost_10 : decode cX3_pairCost 10 = .ok (.aload_n 1, 1) := by decide +kernel
theorem dX3_pairCost_11 : decode cX3_pairCost 11 = .ok (.iload_n 2, 1) := by decide +kernel
theorem dX3_pairCost_12 : decode cX3_pairCost 12 = .ok (.invokevirtual 59, 3) := by decide +kernel
theorem dX3_pairCost_15 : decode cX3_pairCost 15 = .ok (.aload_n 1, 1) := by decide +kernel
theorem dX3_pairCost_16 : decode cX3_pairCost 16 = .ok (.iload_n 2, 1) := by decide +kernel
theorem dX3_pairCost_17 : decode cX3_pairCost 17 = .ok (.invokevirtual 63, 3) := by decide +kernel
theorem dX3_pairCost_20 : decode cX3_pairCost 20 = .ok (.invokevirtual 66, 3) := by decide +kernel
theorem dX3_pairCost_23 : decode cX3_pairCost 23 = .ok (.istore 4, 2) := by decide +kernel
theorem dX3_pairCost_25 : decode cX3_pairCost 25 = .ok (.iload 4, 2) := by decide +kernel
theorem dX3_pairCost_27 : decode cX3_pairCost 27 = .ok (.iload_n 3, 1) := by decide +kernel
theorem dX3_pairCost_28 : decode cX3_pairCost 28 = .ok (.if_icmp .gt 8, 3) := by decide +kernel
theorem dX3_pairCost_31 : decode cX3_pairCost 31 = .ok (.iload 4, 2) := by decide +kernel
theorem dX3_pairCost_33 : decode cX3_pairCost 33 = .ok (.goto 4, 3) := by decide +kernel
theorem dX3_pairCost_36 : decode cX3_pairCost 36 = .ok (.iconst (-1), 1) := by decide +kernel
theorem dX3_pairCost_37 : decode cX3_pairCost 37 = .ok (.ireturn, 1) := by decide +kernel
set_option maxRecDepth 20000 in
theorem ggX3_leastCost_X3_canTake : GoodIn wsX3_leastCost wsX3_canTake := goodIn_r _ [8, 9, 14, 15, 16, 17, 18, 19] (by decide +kernel) (by decide +kernel)
set_option maxRecDepth 20000 in
theorem gX3_leastCost_X3_canTake : GoodIn wsX3_leastCost (wsV RX3 69 RX3 yX3_canTake wsX3_canTake) := goodIn_app (goodIn_of _ (by decide +kernel)) ggX3_leastCost_X3_canTake
set_option maxRecDepth 20000 in
theorem ggX3_leastCost_X3_costWith : GoodIn wsX3_leastCost wsX3_costWith := goodIn_r _ [13, 9, 2, 14, 15, 16, 17, 18, 19] (by decide +kernel) (by decide +kernel)
set_option maxRecDepth 20000 in
theorem gX3_leastCost_X3_costWith : GoodIn wsX3_leastCost (wsV RX3 73 RX3 yX3_costWith wsX3_costWith) := goodIn_app (goodIn_of _ (by decide +kernel)) ggX3_leastCost_X3_costWith
theorem dX3_leastCost_0 : decode cX3_leastCost 0 = .ok (.aload_n 0, 1) := by decide +kernel
theorem dX3_leastCost_1 : decode cX3_leastCost 1 = .ok (.getfield 16, 3) := by decide +kernel
theorem dX3_leastCost_4 : decode cX3_leastCost 4 = .ok (.iload_n 1, 1) := by decide +kernel
theorem dX3_leastCost_5 : decode cX3_leastCost 5 = .ok (.iaload, 1) := by decide +kernel
theorem dX3_leastCost_6 : decode cX3_leastCost 6 = .ok (.aload_n 0, 1) := by decide +kernel
theorem dX3_leastCost_7 : decode cX3_leastCost 7 = .ok (.getfield 20, 3) := by decide +kernel
theorem dX3_leastCost_10 : decode cX3_leastCost 10 = .ok (.iload_n 1, 1) := by decide +kernel
theorem dX3_leastCost_11 : decode cX3_leastCost 11 = .ok (.iconst 1, 1) := by decide +kernel
theorem dX3_leastCost_12 : decode cX3_leastCost 12 = .ok (.iadd, 1) := by decide +kernel
theorem dX3_leastCost_13 : decode cX3_leastCost 13 = .ok (.aaload, 1) := by decide +kernel
theorem dX3_leastCost_14 : decode cX3_leastCost 14 = .ok (.iload_n 2, 1) := by decide +kernel
theorem dX3_leastCost_15 : decode cX3_leastCost 15 = .ok (.iaload, 1) := by decide +kernel
theorem dX3_leastCost_16 : decode cX3_leastCost 16 = .ok (.iadd, 1) := by decide +kernel
theorem dX3_leastCost_17 : decode cX3_leastCost 17 = .ok (.istore_n 3, 1) := by decide +kernel
theorem dX3_leastCost_18 : decode cX3_leastCost 18 = .ok (.iconst 0, 1) := by decide +kernel
theorem dX3_leastCost_19 : decode cX3_leastCost 19 = .ok (.istore 4, 2) := by decide +kernel
theorem dX3_leastCost_21 : decode cX3_leastCost 21 = .ok (.iload 4, 2) := by decide +kernel
theorem dX3_leastCost_23 : decode cX3_leastCost 23 = .ok (.aload_n 0, 1) := by decide +kernel
theorem dX3_leastCost_24 : decode cX3_leastCost 24 = .ok (.getfield 32, 3) := by decide +kernel
theorem dX3_leastCost_27 : decode cX3_leastCost 27 = .ok (.if_icmp .ge 43, 3) := by decide +kernel
theorem dX3_leastCost_30 : decode cX3_leastCost 30 = .ok (.aload_n 0, 1) := by decide +kernel
theorem dX3_leastCost_31 : decode cX3_leastCost 31 = .ok (.iload_n 1, 1) := by decide +kernel
theorem dX3_leastCost_32 : decode cX3_leastCost 32 = .ok (.iload 4, 2) := by decide +kernel
theorem dX3_leastCost_34 : decode cX3_leastCost 34 = .ok (.iload_n 2, 1) := by decide +kernel
theorem dX3_leastCost_35 : decode cX3_leastCost 35 = .ok (.invokevirtual 69, 3) := by decide +kernel
theorem dX3_leastCost_38 : decode cX3_leastCost 38 = .ok (.ifCond .eq 26, 3) := by decide +kernel
theorem dX3_leastCost_41 : decode cX3_leastCost 41 = .ok (.aload_n 0, 1) := by decide +kernel
theorem dX3_leastCost_42 : decode cX3_leastCost 42 = .ok (.iload_n 1, 1) := by decide +kernel
theorem dX3_leastCost_43 : decode cX3_leastCost 43 = .ok (.iload 4, 2) := by decide +kernel
theorem dX3_leastCost_45 : decode cX3_leastCost 45 = .ok (.iload_n 2, 1) := by decide +kernel
theorem dX3_leastCost_46 : decode cX3_leastCost 46 = .ok (.invokevirtual 73, 3) := by decide +kernel
theorem dX3_leastCost_49 : decode cX3_leastCost 49 = .ok (.istore 5, 2) := by decide +kernel
theorem dX3_leastCost_51 : decode cX3_leastCost 51 = .ok (.iload 5, 2) := by decide +kernel
theorem dX3_leastCost_53 : decode cX3_leastCost 53 = .ok (.iload_n 3, 1) := by decide +kernel
theorem dX3_leastCost_54 : decode cX3_leastCost 54 = .ok (.if_icmp .ge 8, 3) := by decide +kernel
theorem dX3_leastCost_57 : decode cX3_leastCost 57 = .ok (.iload 5, 2) := by decide +kernel
theorem dX3_leastCost_59 : decode cX3_leastCost 59 = .ok (.goto 4, 3) := by decide +kernel
theorem dX3_leastCost_62 : decode cX3_leastCost 62 = .ok (.iload_n 3, 1) := by decide +kernel
theorem dX3_leastCost_63 : decode cX3_leastCost 63 = .ok (.istore_n 3, 1) := by decide +kernel
theorem dX3_leastCost_64 : decode cX3_leastCost 64 = .ok (.iinc 4 1, 3) := by decide +kernel
theorem dX3_leastCost_67 : decode cX3_leastCost 67 = .ok (.goto (-46), 3) := by decide +kernel
theorem dX3_leastCost_70 : decode cX3_leastCost 70 = .ok (.iload_n 3, 1) := by decide +kernel
theorem dX3_leastCost_71 : decode cX3_leastCost 71 = .ok (.ireturn, 1) := by decide +kernel
theorem dX3_canTake_0 : decode cX3_canTake 0 = .ok (.aload_n 0, 1) := by decide +kernel
theorem dX3_canTake_1 : decode cX3_canTake 1 = .ok (.getfield 11, 3) := by decide +kernel
theorem dX3_canTake_4 : decode cX3_canTake 4 = .ok (.iload_n 1, 1) := by decide +kernel
theorem dX3_canTake_5 : decode cX3_canTake 5 = .ok (.aaload, 1) := by decide +kernel
theorem dX3_canTake_6 : decode cX3_canTake 6 = .ok (.iload_n 2, 1) := by decide +kernel
theorem dX3_canTake_7 : decode cX3_canTake 7 = .ok (.iaload, 1) := by decide +kernel
theorem dX3_canTake_8 : decode cX3_canTake 8 = .ok (.iconst (-1), 1) := by decide +kernel
theorem dX3_canTake_9 : decode cX3_canTake 9 = .ok (.if_icmp .eq 15, 3) := by decide +kernel
theorem dX3_canTake_12 : decode cX3_canTake 12 = .ok (.iload_n 3, 1) := by decide +kernel
theorem dX3_canTake_13 : decode cX3_canTake 13 = .ok (.iconst 1, 1) := by decide +kernel
theorem dX3_canTake_14 : decode cX3_canTake 14 = .ok (.iload_n 2, 1) := by decide +kernel
theorem dX3_canTake_15 : decode cX3_canTake 15 = .ok (.ishl, 1) := by decide +kernel
theorem dX3_canTake_16 : decode cX3_canTake 16 = .ok (.iand, 1) := by decide +kernel
theorem dX3_canTake_17 : decode cX3_canTake 17 = .ok (.ifCond .ne 7, 3) := by decide +kernel
theorem dX3_canTake_20 : decode cX3_canTake 20 = .ok (.iconst 1, 1) := by decide +kernel
theorem dX3_canTake_21 : decode cX3_canTake 21 = .ok (.goto 4, 3) := by decide +kernel
theorem dX3_canTake_24 : decode cX3_canTake 24 = .ok (.iconst 0, 1) := by decide +kernel
theorem dX3_canTake_25 : decode cX3_canTake 25 = .ok (.ireturn, 1) := by decide +kernel
theorem dX3_costWith_0 : decode cX3_costWith 0 = .ok (.aload_n 0, 1) := by decide +kernel
theorem dX3_costWith_1 : decode cX3_costWith 1 = .ok (.getfield 11, 3) := by decide +kernel
theorem dX3_costWith_4 : decode cX3_costWith 4 = .ok (.iload_n 1, 1) := by decide +kernel
theorem dX3_costWith_5 : decode cX3_costWith 5 = .ok (.aaload, 1) := by decide +kernel
theorem dX3_costWith_6 : decode cX3_costWith 6 = .ok (.iload_n 2, 1) := by decide +kernel
theorem dX3_costWith_7 : decode cX3_costWith 7 = .ok (.iaload, 1) := by decide +kernel
theorem dX3_costWith_8 : decode cX3_costWith 8 = .ok (.aload_n 0, 1) := by decide +kernel
theorem dX3_costWith_9 : decode cX3_costWith 9 = .ok (.getfield 20, 3) := by decide +kernel
theorem dX3_costWith_12 : decode cX3_costWith 12 = .ok (.iload_n 1, 1) := by decide +kernel
theorem dX3_costWith_13 : decode cX3_costWith 13 = .ok (.iconst 1, 1) := by decide +kernel
theorem dX3_costWith_14 : decode cX3_costWith 14 = .ok (.iadd, 1) := by decide +kernel
theorem dX3_costWith_15 : decode cX3_costWith 15 = .ok (.aaload, 1) := by decide +kernel
theorem dX3_costWith_16 : decode cX3_costWith 16 = .ok (.iload_n 3, 1) := by decide +kernel
theorem dX3_costWith_17 : decode cX3_costWith 17 = .ok (.iconst 1, 1) := by decide +kernel
theorem dX3_costWith_18 : decode cX3_costWith 18 = .ok (.iload_n 2, 1) := by decide +kernel
theorem dX3_costWith_19 : decode cX3_costWith 19 = .ok (.ishl, 1) := by decide +kernel
theorem dX3_costWith_20 : decode cX3_costWith 20 = .ok (.ior, 1) := by decide +kernel
theorem dX3_costWith_21 : decode cX3_costWith 21 = .ok (.iaload, 1) := by decide +kernel
theorem dX3_costWith_22 : decode cX3_costWith 22 = .ok (.iadd, 1) := by decide +kernel
theorem dX3_costWith_23 : decode cX3_costWith 23 = .ok (.ireturn, 1) := by decide +kernel
set_option maxRecDepth 20000 in
theorem ggX3_assign_X3_firstBest : GoodIn wsX3_assign wsX3_firstBest := goodIn_r _ [7, 8, 9, 10, 11, 12, 6, 13, 14, 15, 16, 17, 18, 19, 20, 21, 22, 23, 24] (by decide +kernel) (by decide +kernel)
set_option maxRecDepth 20000 in
theorem gX3_assign_X3_firstBest : GoodIn wsX3_assign (wsV RX3 80 RX3 yX3_firstBest wsX3_firstBest) := goodIn_app (goodIn_of _ (by decide +kernel)) ggX3_assign_X3_firstBest
theorem dX3_assign_0 : decode cX3_assign 0 = .ok (.aload_n 0, 1) := by decide +kernel
theorem dX3_assign_1 : decode cX3_assign 1 = .ok (.iconst 0, 1) := by decide +kernel
theorem dX3_assign_2 : decode cX3_assign 2 = .ok (.putfield 77, 3) := by decide +kernel
theorem dX3_assign_5 : decode cX3_assign 5 = .ok (.iconst 0, 1) := by decide +kernel
theorem dX3_assign_6 : decode cX3_assign 6 = .ok (.istore_n 1, 1) := by decide +kernel
theorem dX3_assign_7 : decode cX3_assign 7 = .ok (.iload_n 1, 1) := by decide +kernel
theorem dX3_assign_8 : decode cX3_assign 8 = .ok (.bipush 6, 2) := by decide +kernel
theorem dX3_assign_10 : decode cX3_assign 10 = .ok (.if_icmp .ge 51, 3) := by decide +kernel
theorem dX3_assign_13 : decode cX3_assign 13 = .ok (.aload_n 0, 1) := by decide +kernel
theorem dX3_assign_14 : decode cX3_assign 14 = .ok (.getfield 23, 3) := by decide +kernel
theorem dX3_assign_17 : decode cX3_assign 17 = .ok (.iload_n 1, 1) := by decide +kernel
theorem dX3_assign_18 : decode cX3_assign 18 = .ok (.aload_n 0, 1) := by decide +kernel
theorem dX3_assign_19 : decode cX3_assign 19 = .ok (.iload_n 1, 1) := by decide +kernel
theorem dX3_assign_20 : decode cX3_assign 20 = .ok (.aload_n 0, 1) := by decide +kernel
theorem dX3_assign_21 : decode cX3_assign 21 = .ok (.getfield 77, 3) := by decide +kernel
theorem dX3_assign_24 : decode cX3_assign 24 = .ok (.invokevirtual 80, 3) := by decide +kernel
theorem dX3_assign_27 : decode cX3_assign 27 = .ok (.iastore, 1) := by decide +kernel
theorem dX3_assign_28 : decode cX3_assign 28 = .ok (.aload_n 0, 1) := by decide +kernel
theorem dX3_assign_29 : decode cX3_assign 29 = .ok (.getfield 23, 3) := by decide +kernel
theorem dX3_assign_32 : decode cX3_assign 32 = .ok (.iload_n 1, 1) := by decide +kernel
theorem dX3_assign_33 : decode cX3_assign 33 = .ok (.iaload, 1) := by decide +kernel
theorem dX3_assign_34 : decode cX3_assign 34 = .ok (.iconst (-1), 1) := by decide +kernel
theorem dX3_assign_35 : decode cX3_assign 35 = .ok (.if_icmp .eq 20, 3) := by decide +kernel
theorem dX3_assign_38 : decode cX3_assign 38 = .ok (.aload_n 0, 1) := by decide +kernel
theorem dX3_assign_39 : decode cX3_assign 39 = .ok (.dup, 1) := by decide +kernel
theorem dX3_assign_40 : decode cX3_assign 40 = .ok (.getfield 77, 3) := by decide +kernel
theorem dX3_assign_43 : decode cX3_assign 43 = .ok (.iconst 1, 1) := by decide +kernel
theorem dX3_assign_44 : decode cX3_assign 44 = .ok (.aload_n 0, 1) := by decide +kernel
theorem dX3_assign_45 : decode cX3_assign 45 = .ok (.getfield 23, 3) := by decide +kernel
theorem dX3_assign_48 : decode cX3_assign 48 = .ok (.iload_n 1, 1) := by decide +kernel
theorem dX3_assign_49 : decode cX3_assign 49 = .ok (.iaload, 1) := by decide +kernel
theorem dX3_assign_50 : decode cX3_assign 50 = .ok (.ishl, 1) := by decide +kernel
theorem dX3_assign_51 : decode cX3_assign 51 = .ok (.ior, 1) := by decide +kernel
theorem dX3_assign_52 : decode cX3_assign 52 = .ok (.putfield 77, 3) := by decide +kernel
theorem dX3_assign_55 : decode cX3_assign 55 = .ok (.iinc 1 1, 3) := by decide +kernel
theorem dX3_assign_58 : decode cX3_assign 58 = .ok (.goto (-51), 3) := by decide +kernel
theorem dX3_assign_61 : decode cX3_assign 61 = .ok (.return_, 1) := by decide +kernel
set_option maxRecDepth 20000 in
theorem ggX3_firstBest_X3_canTake : GoodIn wsX3_firstBest wsX3_canTake := goodIn_r _ [7, 8, 13, 14, 15, 16, 17, 18] (by decide +kernel) (by decide +kernel)
set_option maxRecDepth 20000 in
theorem gX3_firstBest_X3_canTake : GoodIn wsX3_firstBest (wsV RX3 69 RX3 yX3_canTake wsX3_canTake) := goodIn_app (goodIn_of _ (by decide +kernel)) ggX3_firstBest_X3_canTake
set_option maxRecDepth 20000 in
theorem ggX3_firstBest_X3_costWith : GoodIn wsX3_firstBest wsX3_costWith := goodIn_r _ [12, 8, 2, 13, 14, 15, 16, 17, 18] (by decide +kernel) (by decide +kernel)
set_option maxRecDepth 20000 in
theorem gX3_firstBest_X3_costWith : GoodIn wsX3_firstBest (wsV RX3 73 RX3 yX3_costWith wsX3_costWith) := goodIn_app (goodIn_of _ (by decide +kernel)) ggX3_firstBest_X3_costWith
theorem dX3_firstBest_0 : decode cX3_firstBest 0 = .ok (.iconst 0, 1) := by decide +kernel
theorem dX3_firstBest_1 : decode cX3_firstBest 1 = .ok (.istore_n 3, 1) := by decide +kernel
theorem dX3_firstBest_2 : decode cX3_firstBest 2 = .ok (.iload_n 3, 1) := by decide +kernel
theorem dX3_firstBest_3 : decode cX3_firstBest 3 = .ok (.aload_n 0, 1) := by decide +kernel
theorem dX3_firstBest_4 : decode cX3_firstBest 4 = .ok (.getfield 32, 3) := by decide +kernel
theorem dX3_firstBest_7 : decode cX3_firstBest 7 = .ok (.if_icmp .ge 39, 3) := by decide +kernel
theorem dX3_firstBest_10 : decode cX3_firstBest 10 = .ok (.aload_n 0, 1) := by decide +kernel
theorem dX3_firstBest_11 : decode cX3_firstBest 11 = .ok (.iload_n 1, 1) := by decide +kernel
theorem dX3_firstBest_12 : decode cX3_firstBest 12 = .ok (.iload_n 3, 1) := by decide +kernel
theorem dX3_firstBest_13 : decode cX3_firstBest 13 = .ok (.iload_n 2, 1) := by decide +kernel
theorem dX3_firstBest_14 : decode cX3_firstBest 14 = .ok (.invokevirtual 69, 3) := by decide +kernel
theorem dX3_firstBest_17 : decode cX3_firstBest 17 = .ok (.ifCond .eq 23, 3) := by decide +kernel
theorem dX3_firstBest_20 : decode cX3_firstBest 20 = .ok (.aload_n 0, 1) := by decide +kernel
theorem dX3_firstBest_21 : decode cX3_firstBest 21 = .ok (.iload_n 1, 1) := by decide +kernel
theorem dX3_firstBest_22 : decode cX3_firstBest 22 = .ok (.iload_n 3, 1) := by decide +kernel
theorem dX3_firstBest_23 : decode cX3_firstBest 23 = .ok (.iload_n 2, 1) := by decide +kernel
theorem dX3_firstBest_24 : decode cX3_firstBest 24 = .ok (.invokevirtual 73, 3) := by decide +kernel
theorem dX3_firstBest_27 : decode cX3_firstBest 27 = .ok (.aload_n 0, 1) := by decide +kernel
theorem dX3_firstBest_28 : decode cX3_firstBest 28 = .ok (.getfield 20, 3) := by decide +kernel
theorem dX3_firstBest_31 : decode cX3_firstBest 31 = .ok (.iload_n 1, 1) := by decide +kernel
theorem dX3_firstBest_32 : decode cX3_firstBest 32 = .ok (.aaload, 1) := by decide +kernel
theorem dX3_firstBest_33 : decode cX3_firstBest 33 = .ok (.iload_n 2, 1) := by decide +kernel
theorem dX3_firstBest_34 : decode cX3_firstBest 34 = .ok (.iaload, 1) := by decide +kernel
theorem dX3_firstBest_35 : decode cX3_firstBest 35 = .ok (.if_icmp .ne 5, 3) := by decide +kernel
theorem dX3_firstBest_38 : decode cX3_firstBest 38 = .ok (.iload_n 3, 1) := by decide +kernel
theorem dX3_firstBest_39 : decode cX3_firstBest 39 = .ok (.ireturn, 1) := by decide +kernel
theorem dX3_firstBest_40 : decode cX3_firstBest 40 = .ok (.iinc 3 1, 3) := by decide +kernel
theorem dX3_firstBest_43 : decode cX3_firstBest 43 = .ok (.goto (-41), 3) := by decide +kernel
theorem dX3_firstBest_46 : decode cX3_firstBest 46 = .ok (.iconst (-1), 1) := by decide +kernel
theorem dX3_firstBest_47 : decode cX3_firstBest 47 = .ok (.ireturn, 1) := by decide +kernel
theorem dX3_contactOf_0 : decode cX3_contactOf 0 = .ok (.iload_n 1, 1) := by decide +kernel
theorem dX3_contactOf_1 : decode cX3_contactOf 1 = .ok (.ifCond .lt 18, 3) := by decide +kernel
theorem dX3_contactOf_4 : decode cX3_contactOf 4 = .ok (.iload_n 1, 1) := by decide +kernel
theorem dX3_contactOf_5 : decode cX3_contactOf 5 = .ok (.bipush 6, 2) := by decide +kernel
theorem dX3_contactOf_7 : decode cX3_contactOf 7 = .ok (.if_icmp .ge 12, 3) := by decide +kernel
theorem dX3_contactOf_10 : decode cX3_contactOf 10 = .ok (.aload_n 0, 1) := by decide +kernel
theorem dX3_contactOf_11 : decode cX3_contactOf 11 = .ok (.getfield 23, 3) := by decide +kernel
theorem dX3_contactOf_14 : decode cX3_contactOf 14 = .ok (.iload_n 1, 1) := by decide +kernel
theorem dX3_contactOf_15 : decode cX3_contactOf 15 = .ok (.iaload, 1) := by decide +kernel
theorem dX3_contactOf_16 : decode cX3_contactOf 16 = .ok (.goto 4, 3) := by decide +kernel
theorem dX3_contactOf_19 : decode cX3_contactOf 19 = .ok (.iconst (-1), 1) := by decide +kernel
theorem dX3_contactOf_20 : decode cX3_contactOf 20 = .ok (.ireturn, 1) := by decide +kernel
theorem dX3_wholeCost_0 : decode cX3_wholeCost 0 = .ok (.aload_n 0, 1) := by decide +kernel
theorem dX3_wholeCost_1 : decode cX3_wholeCost 1 = .ok (.getfield 20, 3) := by decide +kernel
theorem dX3_wholeCost_4 : decode cX3_wholeCost 4 = .ok (.iconst 0, 1) := by decide +kernel
theorem dX3_wholeCost_5 : decode cX3_wholeCost 5 = .ok (.aaload, 1) := by decide +kernel
theorem dX3_wholeCost_6 : decode cX3_wholeCost 6 = .ok (.iconst 0, 1) := by decide +kernel
theorem dX3_wholeCost_7 : decode cX3_wholeCost 7 = .ok (.iaload, 1) := by decide +kernel
theorem dX3_wholeCost_8 : decode cX3_wholeCost 8 = .ok (.ireturn, 1) := by decide +kernel
theorem dX3_nextUnassigned_0 : decode cX3_nextUnassigned 0 = .ok (.iload_n 1, 1) := by decide +kernel
theorem dX3_nextUnassigned_1 : decode cX3_nextUnassigned 1 = .ok (.istore_n 2, 1) := by decide +kernel
theorem dX3_nextUnassigned_2 : decode cX3_nextUnassigned 2 = .ok (.iload_n 2, 1) := by decide +kernel
theorem dX3_nextUnassigned_3 : decode cX3_nextUnassigned 3 = .ok (.aload_n 0, 1) := by decide +kernel
theorem dX3_nextUnassigned_4 : decode cX3_nextUnassigned 4 = .ok (.getfield 32, 3) := by decide +kernel
theorem dX3_nextUnassigned_7 : decode cX3_nextUnassigned 7 = .ok (.if_icmp .ge 22, 3) := by decide +kernel
theorem dX3_nextUnassigned_10 : decode cX3_nextUnassigned 10 = .ok (.aload_n 0, 1) := by decide +kernel
theorem dX3_nextUnassigned_11 : decode cX3_nextUnassigned 11 = .ok (.getfield 77, 3) := by decide +kernel
theorem dX3_nextUnassigned_14 : decode cX3_nextUnassigned 14 = .ok (.iconst 1, 1) := by decide +kernel
theorem dX3_nextUnassigned_15 : decode cX3_nextUnassigned 15 = .ok (.iload_n 2, 1) := by decide +kernel
theorem dX3_nextUnassigned_16 : decode cX3_nextUnassigned 16 = .ok (.ishl, 1) := by decide +kernel
theorem dX3_nextUnassigned_17 : decode cX3_nextUnassigned 17 = .ok (.iand, 1) := by decide +kernel
theorem dX3_nextUnassigned_18 : decode cX3_nextUnassigned 18 = .ok (.ifCond .ne 5, 3) := by decide +kernel
theorem dX3_nextUnassigned_21 : decode cX3_nextUnassigned 21 = .ok (.iload_n 2, 1) := by decide +kernel
theorem dX3_nextUnassigned_22 : decode cX3_nextUnassigned 22 = .ok (.ireturn, 1) := by decide +kernel
theorem dX3_nextUnassigned_23 : decode cX3_nextUnassigned 23 = .ok (.iinc 2 1, 3) := by decide +kernel
theorem dX3_nextUnassigned_26 : decode cX3_nextUnassigned 26 = .ok (.goto (-24), 3) := by decide +kernel
theorem dX3_nextUnassigned_29 : decode cX3_nextUnassigned 29 = .ok (.aload_n 0, 1) := by decide +kernel
theorem dX3_nextUnassigned_30 : decode cX3_nextUnassigned 30 = .ok (.getfield 32, 3) := by decide +kernel
theorem dX3_nextUnassigned_33 : decode cX3_nextUnassigned 33 = .ok (.ireturn, 1) := by decide +kernel
theorem dX4_init_0 : decode cX4_init 0 = .ok (.aload_n 0, 1) := by decide +kernel
theorem dX4_init_1 : decode cX4_init 1 = .ok (.invokespecial 3, 3) := by decide +kernel
theorem dX4_init_4 : decode cX4_init 4 = .ok (.aload_n 0, 1) := by decide +kernel
theorem dX4_init_5 : decode cX4_init 5 = .ok (.bipush 48, 2) := by decide +kernel
theorem dX4_init_7 : decode cX4_init 7 = .ok (.newarray .int, 2) := by decide +kernel
theorem dX4_init_9 : decode cX4_init 9 = .ok (.putfield 9, 3) := by decide +kernel
theorem dX4_init_12 : decode cX4_init 12 = .ok (.aload_n 0, 1) := by decide +kernel
theorem dX4_init_13 : decode cX4_init 13 = .ok (.bipush 48, 2) := by decide +kernel
theorem dX4_init_15 : decode cX4_init 15 = .ok (.newarray .int, 2) := by decide +kernel
theorem dX4_init_17 : decode cX4_init 17 = .ok (.putfield 15, 3) := by decide +kernel
theorem dX4_init_20 : decode cX4_init 20 = .ok (.return_, 1) := by decide +kernel
set_option maxRecDepth 20000 in
theorem ggX4_rawOf_X9_isCell : GoodIn wsX4_rawOf wsX9_isCell := goodIn_r _ [4] (by decide +kernel) (by decide +kernel)
set_option maxRecDepth 20000 in
theorem gX4_rawOf_X9_isCell_n18 : GoodIn wsX4_rawOf (wsX9_isCell) := ggX4_rawOf_X9_isCell
theorem dX4_rawOf_0 : decode cX4_rawOf 0 = .ok (.iload_n 1, 1) := by decide +kernel
theorem dX4_rawOf_1 : decode cX4_rawOf 1 = .ok (.invokestatic 18, 3) := by decide +kernel
theorem dX4_rawOf_4 : decode cX4_rawOf 4 = .ok (.ifCond .eq 12, 3) := by decide +kernel
theorem dX4_rawOf_7 : decode cX4_rawOf 7 = .ok (.aload_n 0, 1) := by decide +kernel
theorem dX4_rawOf_8 : decode cX4_rawOf 8 = .ok (.getfield 9, 3) := by decide +kernel
theorem dX4_rawOf_11 : decode cX4_rawOf 11 = .ok (.iload_n 1, 1) := by decide +kernel
theorem dX4_rawOf_12 : decode cX4_rawOf 12 = .ok (.iaload, 1) := by decide +kernel
theorem dX4_rawOf_13 : decode cX4_rawOf 13 = .ok (.goto 4, 3) := by decide +kernel
theorem dX4_rawOf_16 : decode cX4_rawOf 16 = .ok (.iconst 0, 1) := by decide +kernel
theorem dX4_rawOf_17 : decode cX4_rawOf 17 = .ok (.ireturn, 1) := by decide +kernel
theorem dX4_signalOf_0 : decode cX4_signalOf 0 = .ok (.iload_n 1, 1) := by decide +kernel
theorem dX4_signalOf_1 : decode cX4_signalOf 1 = .ok (.ifCond .lt 25, 3) := by decide +kernel
theorem dX4_signalOf_4 : decode cX4_signalOf 4 = .ok (.iload_n 1, 1) := by decide +kernel
theorem dX4_signalOf_5 : decode cX4_signalOf 5 = .ok (.bipush 48, 2) := by decide +kernel
theorem dX4_signalOf_7 : decode cX4_signalOf 7 = .ok (.if_icmp .ge 19, 3) := by decide +kernel
theorem dX4_signalOf_10 : decode cX4_signalOf 10 = .ok (.aload_n 0, 1) := by decide +kernel
theorem dX4_signalOf_11 : decode cX4_signalOf 11 = .ok (.getfield 9, 3) := by decide +kernel
theorem dX4_signalOf_14 : decode cX4_signalOf 14 = .ok (.iload_n 1, 1) := by decide +kernel
theorem dX4_signalOf_15 : decode cX4_signalOf 15 = .ok (.iaload, 1) := by decide +kernel
theorem dX4_signalOf_16 : decode cX4_signalOf 16 = .ok (.aload_n 0, 1) := by decide +kernel
theorem dX4_signalOf_17 : decode cX4_signalOf 17 = .ok (.getfield 15, 3) := by decide +kernel
theorem dX4_signalOf_20 : decode cX4_signalOf 20 = .ok (.iload_n 1, 1) := by decide +kernel
theorem dX4_signalOf_21 : decode cX4_signalOf 21 = .ok (.iaload, 1) := by decide +kernel
theorem dX4_signalOf_22 : decode cX4_signalOf 22 = .ok (.isub, 1) := by decide +kernel
theorem dX4_signalOf_23 : decode cX4_signalOf 23 = .ok (.goto 4, 3) := by decide +kernel
theorem dX4_signalOf_26 : decode cX4_signalOf 26 = .ok (.iconst 0, 1) := by decide +kernel
theorem dX4_signalOf_27 : decode cX4_signalOf 27 = .ok (.istore_n 2, 1) := by decide +kernel
theorem dX4_signalOf_28 : decode cX4_signalOf 28 = .ok (.iload_n 2, 1) := by decide +kernel
theorem dX4_signalOf_29 : decode cX4_signalOf 29 = .ok (.ifCond .le 7, 3) := by decide +kernel
theorem dX4_signalOf_32 : decode cX4_signalOf 32 = .ok (.iload_n 2, 1) := by decide +kernel
theorem dX4_signalOf_33 : decode cX4_signalOf 33 = .ok (.goto 4, 3) := by decide +kernel
theorem dX4_signalOf_36 : decode cX4_signalOf 36 = .ok (.iconst 0, 1) := by decide +kernel
theorem dX4_signalOf_37 : decode cX4_signalOf 37 = .ok (.ireturn, 1) := by decide +kernel
set_option maxRecDepth 20000 in
theorem ggX4_signalAt_X9_isOnPanel : GoodIn wsX4_signalAt wsX9_isOnPanel := goodIn_r _ [3] (by decide +kernel) (by decide +kernel)
set_option maxRecDepth 20000 in
theorem gX4_signalAt_X9_isOnPanel_n22 : GoodIn wsX4_signalAt (wsX9_isOnPanel) := ggX4_signalAt_X9_isOnPanel
set_option maxRecDepth 20000 in
theorem ggX4_signalAt_X9_cellAt : GoodIn wsX4_signalAt wsX9_cellAt := goodIn_r _ [5] (by decide +kernel) (by decide +kernel)
set_option maxRecDepth 20000 in
theorem gX4_signalAt_X9_cellAt_n26 : GoodIn wsX4_signalAt (wsX9_cellAt) := ggX4_signalAt_X9_cellAt
set_option maxRecDepth 20000 in
theorem ggX4_signalAt_X4_signalOf : GoodIn wsX4_signalAt wsX4_signalOf := goodIn_r _ [10, 11, 12, 13, 14] (by decide +kernel) (by decide +kernel)
set_option maxRecDepth 20000 in
theorem gX4_signalAt_X4_signalOf : GoodIn wsX4_signalAt (wsV RX4 30 RX4 yX4_signalOf wsX4_signalOf) := goodIn_app (goodIn_of _ (by decide +kernel)) ggX4_signalAt_X4_signalOf
theorem dX4_signalAt_0 : decode cX4_signalAt 0 = .ok (.iload_n 1, 1) := by decide +kernel
theorem dX4_signalAt_1 : decode cX4_signalAt 1 = .ok (.iload_n 2, 1) := by decide +kernel
theorem dX4_signalAt_2 : decode cX4_signalAt 2 = .ok (.invokestatic 22, 3) := by decide +kernel
theorem dX4_signalAt_5 : decode cX4_signalAt 5 = .ok (.ifCond .eq 15, 3) := by decide +kernel
theorem dX4_signalAt_8 : decode cX4_signalAt 8 = .ok (.aload_n 0, 1) := by decide +kernel
theorem dX4_signalAt_9 : decode cX4_signalAt 9 = .ok (.iload_n 1, 1) := by decide +kernel
theorem dX4_signalAt_10 : decode cX4_signalAt 10 = .ok (.iload_n 2, 1) := by decide +kernel
theorem dX4_signalAt_11 : decode cX4_signalAt 11 = .ok (.invokestatic 26, 3) := by decide +kernel
theorem dX4_signalAt_14 : decode cX4_signalAt 14 = .ok (.invokevirtual 30, 3) := by decide +kernel
theorem dX4_signalAt_17 : decode cX4_signalAt 17 = .ok (.goto 4, 3) := by decide +kernel
theorem dX4_signalAt_20 : decode cX4_signalAt 20 = .ok (.iconst 0, 1) := by decide +kernel
theorem dX4_signalAt_21 : decode cX4_signalAt 21 = .ok (.ireturn, 1) := by decide +kernel
set_option maxRecDepth 20000 in
theorem ggX4_replaceRaw_X9_isCell : GoodIn wsX4_replaceRaw wsX9_isCell := goodIn_r _ [4] (by decide +kernel) (by decide +kernel)
set_option maxRecDepth 20000 in
theorem gX4_replaceRaw_X9_isCell_n18 : GoodIn wsX4_replaceRaw (wsX9_isCell) := ggX4_replaceRaw_X9_isCell
theorem dX4_replaceRaw_0 : decode cX4_replaceRaw 0 = .ok (.iload_n 1, 1) := by decide +kernel
theorem dX4_replaceRaw_1 : decode cX4_replaceRaw 1 = .ok (.invokestatic 18, 3) := by decide +kernel
theorem dX4_replaceRaw_4 : decode cX4_replaceRaw 4 = .ok (.ifCond .ne 5, 3) := by decide +kernel
theorem dX4_replaceRaw_7 : decode cX4_replaceRaw 7 = .ok (.iconst 0, 1) := by decide +kernel
theorem dX4_replaceRaw_8 : decode cX4_replaceRaw 8 = .ok (.ireturn, 1) := by decide +kernel
theorem dX4_replaceRaw_9 : decode cX4_replaceRaw 9 = .ok (.aload_n 0, 1) := by decide +kernel
theorem dX4_replaceRaw_10 : decode cX4_replaceRaw 10 = .ok (.getfield 9, 3) := by decide +kernel
theorem dX4_replaceRaw_13 : decode cX4_replaceRaw 13 = .ok (.iload_n 1, 1) := by decide +kernel
theorem dX4_replaceRaw_14 : decode cX4_replaceRaw 14 = .ok (.iaload, 1) := by decide +kernel
theorem dX4_replaceRaw_15 : decode cX4_replaceRaw 15 = .ok (.istore_n 3, 1) := by decide +kernel
theorem dX4_replaceRaw_16 : decode cX4_replaceRaw 16 = .ok (.aload_n 0, 1) := by decide +kernel
theorem dX4_replaceRaw_17 : decode cX4_replaceRaw 17 = .ok (.getfield 9, 3) := by decide +kernel
theorem dX4_replaceRaw_20 : decode cX4_replaceRaw 20 = .ok (.iload_n 1, 1) := by decide +kernel
theorem dX4_replaceRaw_21 : decode cX4_replaceRaw 21 = .ok (.iload_n 2, 1) := by decide +kernel
theorem dX4_replaceRaw_22 : decode cX4_replaceRaw 22 = .ok (.iastore, 1) := by decide +kernel
theorem dX4_replaceRaw_23 : decode cX4_replaceRaw 23 = .ok (.iload_n 3, 1) := by decide +kernel
theorem dX4_replaceRaw_24 : decode cX4_replaceRaw 24 = .ok (.ireturn, 1) := by decide +kernel
set_option maxRecDepth 20000 in
theorem ggX4_pressAt_X4_raise : GoodIn wsX4_pressAt wsX4_raise := goodIn_r _ [5, 6, 7, 8, 9, 10, 11, 12, 13] (by decide +kernel) (by decide +kernel)
set_option maxRecDepth 20000 in
theorem gX4_pressAt_X4_raise : GoodIn wsX4_pressAt (wsV RX4 34 RX4 yX4_raise wsX4_raise) := goodIn_app (goodIn_of _ (by decide +kernel)) ggX4_pressAt_X4_raise
theorem dX4_pressAt_0 : decode cX4_pressAt 0 = .ok (.iconst (-1), 1) := by decide +kernel
theorem dX4_pressAt_1 : decode cX4_pressAt 1 = .ok (.istore 4, 2) := by decide +kernel
theorem dX4_pressAt_3 : decode cX4_pressAt 3 = .ok (.iload 4, 2) := by decide +kernel
theorem dX4_pressAt_5 : decode cX4_pressAt 5 = .ok (.iconst 1, 1) := by decide +kernel
theorem dX4_pressAt_6 : decode cX4_pressAt 6 = .ok (.if_icmp .gt 49, 3) := by decide +kernel
theorem dX4_pressAt_9 : decode cX4_pressAt 9 = .ok (.iconst (-1), 1) := by decide +kernel
theorem dX4_pressAt_10 : decode cX4_pressAt 10 = .ok (.istore 5, 2) := by decide +kernel
theorem dX4_pressAt_12 : decode cX4_pressAt 12 = .ok (.iload 5, 2) := by decide +kernel
theorem dX4_pressAt_14 : decode cX4_pressAt 14 = .ok (.iconst 1, 1) := by decide +kernel
theorem dX4_pressAt_15 : decode cX4_pressAt 15 = .ok (.if_icmp .gt 34, 3) := by decide +kernel
theorem dX4_pressAt_18 : decode cX4_pressAt 18 = .ok (.aload_n 0, 1) := by decide +kernel
theorem dX4_pressAt_19 : decode cX4_pressAt 19 = .ok (.iload_n 1, 1) := by decide +kernel
theorem dX4_pressAt_20 : decode cX4_pressAt 20 = .ok (.iload 4, 2) := by decide +kernel
theorem dX4_pressAt_22 : decode cX4_pressAt 22 = .ok (.iadd, 1) := by decide +kernel
theorem dX4_pressAt_23 : decode cX4_pressAt 23 = .ok (.iload_n 2, 1) := by decide +kernel
theorem dX4_pressAt_24 : decode cX4_pressAt 24 = .ok (.iload 5, 2) := by decide +kernel
theorem dX4_pressAt_26 : decode cX4_pressAt 26 = .ok (.iadd, 1) := by decide +kernel
theorem dX4_pressAt_27 : decode cX4_pressAt 27 = .ok (.iload_n 3, 1) := by decide +kernel
theorem dX4_pressAt_28 : decode cX4_pressAt 28 = .ok (.iload 4, 2) := by decide +kernel
theorem dX4_pressAt_30 : decode cX4_pressAt 30 = .ok (.iload 4, 2) := by decide +kernel
theorem dX4_pressAt_32 : decode cX4_pressAt 32 = .ok (.imul, 1) := by decide +kernel
theorem dX4_pressAt_33 : decode cX4_pressAt 33 = .ok (.iload 5, 2) := by decide +kernel
theorem dX4_pressAt_35 : decode cX4_pressAt 35 = .ok (.iload 5, 2) := by decide +kernel
theorem dX4_pressAt_37 : decode cX4_pressAt 37 = .ok (.imul, 1) := by decide +kernel
theorem dX4_pressAt_38 : decode cX4_pressAt 38 = .ok (.iadd, 1) := by decide +kernel
theorem dX4_pressAt_39 : decode cX4_pressAt 39 = .ok (.ishr, 1) := by decide +kernel
theorem dX4_pressAt_40 : decode cX4_pressAt 40 = .ok (.invokevirtual 34, 3) := by decide +kernel
theorem dX4_pressAt_43 : decode cX4_pressAt 43 = .ok (.iinc 5 1, 3) := by decide +kernel
theorem dX4_pressAt_46 : decode cX4_pressAt 46 = .ok (.goto (-34), 3) := by decide +kernel
theorem dX4_pressAt_49 : decode cX4_pressAt 49 = .ok (.iinc 4 1, 3) := by decide +kernel
theorem dX4_pressAt_52 : decode cX4_pressAt 52 = .ok (.goto (-49), 3) := by decide +kernel
theorem dX4_pressAt_55 : decode cX4_pressAt 55 = .ok (.return_, 1) := by decide +kernel
set_option maxRecDepth 20000 in
theorem ggX4_raise_X9_isOnPanel : GoodIn wsX4_raise wsX9_isOnPanel := goodIn_r _ [4] (by decide +kernel) (by decide +kernel)
set_option maxRecDepth 20000 in
theorem gX4_raise_X9_isOnPanel_n22 : GoodIn wsX4_raise (wsX9_isOnPanel) := ggX4_raise_X9_isOnPanel
set_option maxRecDepth 20000 in
theorem ggX4_raise_X9_cellAt : GoodIn wsX4_raise wsX9_cellAt := goodIn_r _ [6] (by decide +kernel) (by decide +kernel)
set_option maxRecDepth 20000 in
theorem gX4_raise_X9_cellAt_n26 : GoodIn wsX4_raise (wsX9_cellAt) := ggX4_raise_X9_cellAt
theorem dX4_raise_0 : decode cX4_raise 0 = .ok (.iload_n 1, 1) := by decide +kernel
theorem dX4_raise_1 : decode cX4_raise 1 = .ok (.iload_n 2, 1) := by decide +kernel
theorem dX4_raise_2 : decode cX4_raise 2 = .ok (.invokestatic 22, 3) := by decide +kernel
theorem dX4_raise_5 : decode cX4_raise 5 = .ok (.ifCond .eq 44, 3) := by decide +kernel
theorem dX4_raise_8 : decode cX4_raise 8 = .ok (.iload_n 1, 1) := by decide +kernel
theorem dX4_raise_9 : decode cX4_raise 9 = .ok (.iload_n 2, 1) := by decide +kernel
theorem dX4_raise_10 : decode cX4_raise 10 = .ok (.invokestatic 26, 3) := by decide +kernel
theorem dX4_raise_13 : decode cX4_raise 13 = .ok (.istore 4, 2) := by decide +kernel
theorem dX4_raise_15 : decode cX4_raise 15 = .ok (.aload_n 0, 1) := by decide +kernel
theorem dX4_raise_16 : decode cX4_raise 16 = .ok (.getfield 9, 3) := by decide +kernel
theorem dX4_raise_19 : decode cX4_raise 19 = .ok (.iload 4, 2) := by decide +kernel
theorem dX4_raise_21 : decode cX4_raise 21 = .ok (.iaload, 1) := by decide +kernel
theorem dX4_raise_22 : decode cX4_raise 22 = .ok (.iload_n 3, 1) := by decide +kernel
theorem dX4_raise_23 : decode cX4_raise 23 = .ok (.iadd, 1) := by decide +kernel
theorem dX4_raise_24 : decode cX4_raise 24 = .ok (.istore 5, 2) := by decide +kernel
theorem dX4_raise_26 : decode cX4_raise 26 = .ok (.aload_n 0, 1) := by decide +kernel
theorem dX4_raise_27 : decode cX4_raise 27 = .ok (.getfield 9, 3) := by decide +kernel
theorem dX4_raise_30 : decode cX4_raise 30 = .ok (.iload 4, 2) := by decide +kernel
theorem dX4_raise_32 : decode cX4_raise 32 = .ok (.iload 5, 2) := by decide +kernel
theorem dX4_raise_34 : decode cX4_raise 34 = .ok (.sipush 255, 3) := by decide +kernel
theorem dX4_raise_37 : decode cX4_raise 37 = .ok (.if_icmp .ge 8, 3) := by decide +kernel
theorem dX4_raise_40 : decode cX4_raise 40 = .ok (.iload 5, 2) := by decide +kernel
theorem dX4_raise_42 : decode cX4_raise 42 = .ok (.goto 6, 3) := by decide +kernel
theorem dX4_raise_45 : decode cX4_raise 45 = .ok (.sipush 255, 3) := by decide +kernel
theorem dX4_raise_48 : decode cX4_raise 48 = .ok (.iastore, 1) := by decide +kernel
theorem dX4_raise_49 : decode cX4_raise 49 = .ok (.return_, 1) := by decide +kernel
theorem dX4_clearRaw_0 : decode cX4_clearRaw 0 = .ok (.iconst 0, 1) := by decide +kernel
theorem dX4_clearRaw_1 : decode cX4_clearRaw 1 = .ok (.istore_n 1, 1) := by decide +kernel
theorem dX4_clearRaw_2 : decode cX4_clearRaw 2 = .ok (.iconst 0, 1) := by decide +kernel
theorem dX4_clearRaw_3 : decode cX4_clearRaw 3 = .ok (.istore_n 2, 1) := by decide +kernel
theorem dX4_clearRaw_4 : decode cX4_clearRaw 4 = .ok (.iload_n 2, 1) := by decide +kernel
theorem dX4_clearRaw_5 : decode cX4_clearRaw 5 = .ok (.bipush 48, 2) := by decide +kernel
theorem dX4_clearRaw_7 : decode cX4_clearRaw 7 = .ok (.if_icmp .ge 28, 3) := by decide +kernel
theorem dX4_clearRaw_10 : decode cX4_clearRaw 10 = .ok (.aload_n 0, 1) := by decide +kernel
theorem dX4_clearRaw_11 : decode cX4_clearRaw 11 = .ok (.getfield 9, 3) := by decide +kernel
theorem dX4_clearRaw_14 : decode cX4_clearRaw 14 = .ok (.iload_n 2, 1) := by decide +kernel
theorem dX4_clearRaw_15 : decode cX4_clearRaw 15 = .ok (.iaload, 1) := by decide +kernel
theorem dX4_clearRaw_16 : decode cX4_clearRaw 16 = .ok (.ifCond .eq 6, 3) := by decide +kernel
theorem dX4_clearRaw_19 : decode cX4_clearRaw 19 = .ok (.iinc 1 1, 3) := by decide +kernel
theorem dX4_clearRaw_22 : decode cX4_clearRaw 22 = .ok (.aload_n 0, 1) := by decide +kernel
theorem dX4_clearRaw_23 : decode cX4_clearRaw 23 = .ok (.getfield 9, 3) := by decide +kernel
theorem dX4_clearRaw_26 : decode cX4_clearRaw 26 = .ok (.iload_n 2, 1) := by decide +kernel
theorem dX4_clearRaw_27 : decode cX4_clearRaw 27 = .ok (.iconst 0, 1) := by decide +kernel
theorem dX4_clearRaw_28 : decode cX4_clearRaw 28 = .ok (.iastore, 1) := by decide +kernel
theorem dX4_clearRaw_29 : decode cX4_clearRaw 29 = .ok (.iinc 2 1, 3) := by decide +kernel
theorem dX4_clearRaw_32 : decode cX4_clearRaw 32 = .ok (.goto (-28), 3) := by decide +kernel
theorem dX4_clearRaw_35 : decode cX4_clearRaw 35 = .ok (.iload_n 1, 1) := by decide +kernel
theorem dX4_clearRaw_36 : decode cX4_clearRaw 36 = .ok (.ireturn, 1) := by decide +kernel
theorem dX4_takeBaselines_0 : decode cX4_takeBaselines 0 = .ok (.iconst 0, 1) := by decide +kernel
theorem dX4_takeBaselines_1 : decode cX4_takeBaselines 1 = .ok (.istore_n 1, 1) := by decide +kernel
theorem dX4_takeBaselines_2 : decode cX4_takeBaselines 2 = .ok (.iconst 0, 1) := by decide +kernel
theorem dX4_takeBaselines_3 : decode cX4_takeBaselines 3 = .ok (.istore_n 2, 1) := by decide +kernel
theorem dX4_takeBaselines_4 : decode cX4_takeBaselines 4 = .ok (.iload_n 2, 1) := by decide +kernel
theorem dX4_takeBaselines_5 : decode cX4_takeBaselines 5 = .ok (.bipush 48, 2) := by decide +kernel
theorem dX4_takeBaselines_7 : decode cX4_takeBaselines 7 = .ok (.if_icmp .ge 39, 3) := by decide +kernel
theorem dX4_takeBaselines_10 : decode cX4_takeBaselines 10 = .ok (.aload_n 0, 1) := by decide +kernel
theorem dX4_takeBaselines_11 : decode cX4_takeBaselines 11 = .ok (.getfield 15, 3) := by decide +kernel
theorem dX4_takeBaselines_14 : decode cX4_takeBaselines 14 = .ok (.iload_n 2, 1) := by decide +kernel
theorem dX4_takeBaselines_15 : decode cX4_takeBaselines 15 = .ok (.iaload, 1) := by decide +kernel
theorem dX4_takeBaselines_16 : decode cX4_takeBaselines 16 = .ok (.aload_n 0, 1) := by decide +kernel
theorem dX4_takeBaselines_17 : decode cX4_takeBaselines 17 = .ok (.getfield 9, 3) := by decide +kernel
theorem dX4_takeBaselines_20 : decode cX4_takeBaselines 20 = .ok (.iload_n 2, 1) := by decide +kernel
theorem dX4_takeBaselines_21 : decode cX4_takeBaselines 21 = .ok (.iaload, 1) := by decide +kernel
theorem dX4_takeBaselines_22 : decode cX4_takeBaselines 22 = .ok (.if_icmp .eq 6, 3) := by decide +kernel
theorem dX4_takeBaselines_25 : decode cX4_takeBaselines 25 = .ok (.iinc 1 1, 3) := by decide +kernel
theorem dX4_takeBaselines_28 : decode cX4_takeBaselines 28 = .ok (.aload_n 0, 1) := by decide +kernel
theorem dX4_takeBaselines_29 : decode cX4_takeBaselines 29 = .ok (.getfield 15, 3) := by decide +kernel
theorem dX4_takeBaselines_32 : decode cX4_takeBaselines 32 = .ok (.iload_n 2, 1) := by decide +kernel
theorem dX4_takeBaselines_33 : decode cX4_takeBaselines 33 = .ok (.aload_n 0, 1) := by decide +kernel
theorem dX4_takeBaselines_34 : decode cX4_takeBaselines 34 = .ok (.getfield 9, 3) := by decide +kernel
theorem dX4_takeBaselines_37 : decode cX4_takeBaselines 37 = .ok (.iload_n 2, 1) := by decide +kernel
theorem dX4_takeBaselines_38 : decode cX4_takeBaselines 38 = .ok (.iaload, 1) := by decide +kernel
theorem dX4_takeBaselines_39 : decode cX4_takeBaselines 39 = .ok (.iastore, 1) := by decide +kernel
theorem dX4_takeBaselines_40 : decode cX4_takeBaselines 40 = .ok (.iinc 2 1, 3) := by decide +kernel
theorem dX4_takeBaselines_43 : decode cX4_takeBaselines 43 = .ok (.goto (-39), 3) := by decide +kernel
theorem dX4_takeBaselines_46 : decode cX4_takeBaselines 46 = .ok (.iload_n 1, 1) := by decide +kernel
theorem dX4_takeBaselines_47 : decode cX4_takeBaselines 47 = .ok (.ireturn, 1) := by decide +kernel
theorem dX4_copyFrom_0 : decode cX4_copyFrom 0 = .ok (.aload_n 1, 1) := by decide +kernel
theorem dX4_copyFrom_1 : decode cX4_copyFrom 1 = .ok (.getfield 9, 3) := by decide +kernel
theorem dX4_copyFrom_4 : decode cX4_copyFrom 4 = .ok (.iconst 0, 1) := by decide +kernel
theorem dX4_copyFrom_5 : decode cX4_copyFrom 5 = .ok (.aload_n 0, 1) := by decide +kernel
theorem dX4_copyFrom_6 : decode cX4_copyFrom 6 = .ok (.getfield 9, 3) := by decide +kernel
theorem dX4_copyFrom_9 : decode cX4_copyFrom 9 = .ok (.iconst 0, 1) := by decide +kernel
theorem dX4_copyFrom_10 : decode cX4_copyFrom 10 = .ok (.bipush 48, 2) := by decide +kernel
theorem dX4_copyFrom_12 : decode cX4_copyFrom 12 = .ok (.invokestatic 38, 3) := by decide +kernel
theorem dX4_copyFrom_15 : decode cX4_copyFrom 15 = .ok (.aload_n 1, 1) := by decide +kernel
theorem dX4_copyFrom_16 : decode cX4_copyFrom 16 = .ok (.getfield 15, 3) := by decide +kernel
theorem dX4_copyFrom_19 : decode cX4_copyFrom 19 = .ok (.iconst 0, 1) := by decide +kernel
theorem dX4_copyFrom_20 : decode cX4_copyFrom 20 = .ok (.aload_n 0, 1) := by decide +kernel
theorem dX4_copyFrom_21 : decode cX4_copyFrom 21 = .ok (.getfield 15, 3) := by decide +kernel
theorem dX4_copyFrom_24 : decode cX4_copyFrom 24 = .ok (.iconst 0, 1) := by decide +kernel
theorem dX4_copyFrom_25 : decode cX4_copyFrom 25 = .ok (.bipush 48, 2) := by decide +kernel
theorem dX4_copyFrom_27 : decode cX4_copyFrom 27 = .ok (.invokestatic 38, 3) := by decide +kernel
theorem dX4_copyFrom_30 : decode cX4_copyFrom 30 = .ok (.return_, 1) := by decide +kernel
theorem dX5_init_0 : decode cX5_init 0 = .ok (.aload_n 0, 1) := by decide +kernel
theorem dX5_init_1 : decode cX5_init 1 = .ok (.invokespecial 3, 3) := by decide +kernel
theorem dX5_init_4 : decode cX5_init 4 = .ok (.aload_n 0, 1) := by decide +kernel
theorem dX5_init_5 : decode cX5_init 5 = .ok (.bipush 48, 2) := by decide +kernel
theorem dX5_init_7 : decode cX5_init 7 = .ok (.newarray .int, 2) := by decide +kernel
theorem dX5_init_9 : decode cX5_init 9 = .ok (.putfield 9, 3) := by decide +kernel
theorem dX5_init_12 : decode cX5_init 12 = .ok (.aload_n 0, 1) := by decide +kernel
theorem dX5_init_13 : decode cX5_init 13 = .ok (.bipush 48, 2) := by decide +kernel
theorem dX5_init_15 : decode cX5_init 15 = .ok (.newarray .int, 2) := by decide +kernel
theorem dX5_init_17 : decode cX5_init 17 = .ok (.putfield 15, 3) := by decide +kernel
theorem dX5_init_20 : decode cX5_init 20 = .ok (.aload_n 0, 1) := by decide +kernel
theorem dX5_init_21 : decode cX5_init 21 = .ok (.bipush 48, 2) := by decide +kernel
theorem dX5_init_23 : decode cX5_init 23 = .ok (.newarray .int, 2) := by decide +kernel
theorem dX5_init_25 : decode cX5_init 25 = .ok (.putfield 18, 3) := by decide +kernel
theorem dX5_init_28 : decode cX5_init 28 = .ok (.return_, 1) := by decide +kernel
set_option maxRecDepth 20000 in
theorem ggX5_find_X4_signalOf : GoodIn wsX5_find wsX4_signalOf := goodIn_r _ [8, 9, 10, 40, 41] (by decide +kernel) (by decide +kernel)
set_option maxRecDepth 20000 in
theorem gX5_find_X4_signalOf : GoodIn wsX5_find (wsV RX5 37 RX4 yX4_signalOf wsX4_signalOf) := goodIn_app (goodIn_of _ (by decide +kernel)) ggX5_find_X4_signalOf
set_option maxRecDepth 20000 in
theorem ggX5_find_X5_joinAll : GoodIn wsX5_find wsX5_joinAll := goodIn_r _ [15, 16, 17, 18, 14, 19, 3, 20, 21, 22, 35, 36, 37, 38, 39] (by decide +kernel) (by decide +kernel)
set_option maxRecDepth 20000 in
theorem gX5_find_X5_joinAll : GoodIn wsX5_find (wsV RX5 43 RX5 yX5_joinAll wsX5_joinAll) := goodIn_app (goodIn_of _ (by decide +kernel)) ggX5_find_X5_joinAll
set_option maxRecDepth 20000 in
theorem ggX5_find_X5_measure : GoodIn wsX5_find wsX5_measure := goodIn_r _ [26, 27, 28, 3, 20, 21, 22, 4, 5, 6, 7, 8, 9, 10, 35, 36, 37, 38, 39, 40, 41] (by decide +kernel) (by decide +kernel)
set_option maxRecDepth 20000 in
theorem gX5_find_X5_measure : GoodIn wsX5_find (wsV RX5 47 RX5 yX5_measure wsX5_measure) := goodIn_app (goodIn_of _ (by decide +kernel)) ggX5_find_X5_measure
theorem dX5_find_0 : decode cX5_find 0 = .ok (.aload_n 0, 1) := by decide +kernel
theorem dX5_find_1 : decode cX5_find 1 = .ok (.aload_n 1, 1) := by decide +kernel
theorem dX5_find_2 : decode cX5_find 2 = .ok (.getfield 21, 3) := by decide +kernel
theorem dX5_find_5 : decode cX5_find 5 = .ok (.iconst 1, 1) := by decide +kernel
theorem dX5_find_6 : decode cX5_find 6 = .ok (.iaload, 1) := by decide +kernel
theorem dX5_find_7 : decode cX5_find 7 = .ok (.putfield 26, 3) := by decide +kernel
theorem dX5_find_10 : decode cX5_find 10 = .ok (.aload_n 0, 1) := by decide +kernel
theorem dX5_find_11 : decode cX5_find 11 = .ok (.aload_n 1, 1) := by decide +kernel
theorem dX5_find_12 : decode cX5_find 12 = .ok (.getfield 21, 3) := by decide +kernel
theorem dX5_find_15 : decode cX5_find 15 = .ok (.iconst 2, 1) := by decide +kernel
theorem dX5_find_16 : decode cX5_find 16 = .ok (.iaload, 1) := by decide +kernel
theorem dX5_find_17 : decode cX5_find 17 = .ok (.putfield 30, 3) := by decide +kernel
theorem dX5_find_20 : decode cX5_find 20 = .ok (.iconst 0, 1) := by decide +kernel
theorem dX5_find_21 : decode cX5_find 21 = .ok (.istore_n 2, 1) := by decide +kernel
theorem dX5_find_22 : decode cX5_find 22 = .ok (.iload_n 2, 1) := by decide +kernel
theorem dX5_find_23 : decode cX5_find 23 = .ok (.bipush 48, 2) := by decide +kernel
theorem dX5_find_25 : decode cX5_find 25 = .ok (.if_icmp .ge 48, 3) := by decide +kernel
theorem dX5_find_28 : decode cX5_find 28 = .ok (.aload_n 1, 1) := by decide +kernel
theorem dX5_find_29 : decode cX5_find 29 = .ok (.getfield 33, 3) := by decide +kernel
theorem dX5_find_32 : decode cX5_find 32 = .ok (.iload_n 2, 1) := by decide +kernel
theorem dX5_find_33 : decode cX5_find 33 = .ok (.invokevirtual 37, 3) := by decide +kernel
theorem dX5_find_36 : decode cX5_find 36 = .ok (.aload_n 1, 1) := by decide +kernel
theorem dX5_find_37 : decode cX5_find 37 = .ok (.getfield 21, 3) := by decide +kernel
theorem dX5_find_40 : decode cX5_find 40 = .ok (.iconst 0, 1) := by decide +kernel
theorem dX5_find_41 : decode cX5_find 41 = .ok (.iaload, 1) := by decide +kernel
theorem dX5_find_42 : decode cX5_find 42 = .ok (.if_icmp .lt 7, 3) := by decide +kernel
theorem dX5_find_45 : decode cX5_find 45 = .ok (.iconst 1, 1) := by decide +kernel
theorem dX5_find_46 : decode cX5_find 46 = .ok (.goto 4, 3) := by decide +kernel
theorem dX5_find_49 : decode cX5_find 49 = .ok (.iconst 0, 1) := by decide +kernel
theorem dX5_find_50 : decode cX5_find 50 = .ok (.istore_n 3, 1) := by decide +kernel
theorem dX5_find_51 : decode cX5_find 51 = .ok (.aload_n 0, 1) := by decide +kernel
theorem dX5_find_52 : decode cX5_find 52 = .ok (.getfield 9, 3) := by decide +kernel
theorem dX5_find_55 : decode cX5_find 55 = .ok (.iload_n 2, 1) := by decide +kernel
theorem dX5_find_56 : decode cX5_find 56 = .ok (.iload_n 3, 1) := by decide +kernel
theorem dX5_find_57 : decode cX5_find 57 = .ok (.ifCond .eq 7, 3) := by decide +kernel
theorem dX5_find_60 : decode cX5_find 60 = .ok (.iload_n 2, 1) := by decide +kernel
theorem dX5_find_61 : decode cX5_find 61 = .ok (.goto 5, 3) := by decide +kernel
theorem dX5_find_64 : decode cX5_find 64 = .ok (.bipush 48, 2) := by decide +kernel
theorem dX5_find_66 : decode cX5_find 66 = .ok (.iastore, 1) := by decide +kernel
theorem dX5_find_67 : decode cX5_find 67 = .ok (.iinc 2 1, 3) := by decide +kernel
theorem dX5_find_70 : decode cX5_find 70 = .ok (.goto (-48), 3) := by decide +kernel
theorem dX5_find_73 : decode cX5_find 73 = .ok (.iconst 1, 1) := by decide +kernel
theorem dX5_find_74 : decode cX5_find 74 = .ok (.istore_n 2, 1) := by decide +kernel
theorem dX5_find_75 : decode cX5_find 75 = .ok (.iconst 0, 1) := by decide +kernel
theorem dX5_find_76 : decode cX5_find 76 = .ok (.istore_n 3, 1) := by decide +kernel
theorem dX5_find_77 : decode cX5_find 77 = .ok (.iload_n 2, 1) := by decide +kernel
theorem dX5_find_78 : decode cX5_find 78 = .ok (.ifCond .eq 20, 3) := by decide +kernel
theorem dX5_find_81 : decode cX5_find 81 = .ok (.iload_n 3, 1) := by decide +kernel
theorem dX5_find_82 : decode cX5_find 82 = .ok (.bipush 48, 2) := by decide +kernel
theorem dX5_find_84 : decode cX5_find 84 = .ok (.if_icmp .ge 14, 3) := by decide +kernel
theorem dX5_find_87 : decode cX5_find 87 = .ok (.aload_n 0, 1) := by decide +kernel
theorem dX5_find_88 : decode cX5_find 88 = .ok (.invokevirtual 43, 3) := by decide +kernel
theorem dX5_find_91 : decode cX5_find 91 = .ok (.istore_n 2, 1) := by decide +kernel
theorem dX5_find_92 : decode cX5_find 92 = .ok (.iinc 3 1, 3) := by decide +kernel
theorem dX5_find_95 : decode cX5_find 95 = .ok (.goto (-18), 3) := by decide +kernel
theorem dX5_find_98 : decode cX5_find 98 = .ok (.aload_n 0, 1) := by decide +kernel
theorem dX5_find_99 : decode cX5_find 99 = .ok (.aload_n 1, 1) := by decide +kernel
theorem dX5_find_100 : decode cX5_find 100 = .ok (.getfield 33, 3) := by decide +kernel
theorem dX5_find_103 : decode cX5_find 103 = .ok (.invokevirtual 47, 3) := by decide +kernel
theorem dX5_find_106 : decode cX5_find 106 = .ok (.return_, 1) := by decide +kernel
set_option maxRecDepth 20000 in
theorem ggX5_joinAll_X5_join : GoodIn wsX5_joinAll wsX5_join := goodIn_r _ [5, 6, 7, 8, 9, 10, 11, 12, 13, 14] (by decide +kernel) (by decide +kernel)
set_option maxRecDepth 20000 in
theorem gX5_joinAll_X5_join : GoodIn wsX5_joinAll (wsV RX5 51 RX5 yX5_join wsX5_join) := goodIn_app (goodIn_of _ (by decide +kernel)) ggX5_joinAll_X5_join
theorem dX5_joinAll_0 : decode cX5_joinAll 0 = .ok (.iconst 0, 1) := by decide +kernel
theorem dX5_joinAll_1 : decode cX5_joinAll 1 = .ok (.istore_n 1, 1) := by decide +kernel
theorem dX5_joinAll_2 : decode cX5_joinAll 2 = .ok (.iconst 0, 1) := by decide +kernel
theorem dX5_joinAll_3 : decode cX5_joinAll 3 = .ok (.istore_n 2, 1) := by decide +kernel
theorem dX5_joinAll_4 : decode cX5_joinAll 4 = .ok (.iload_n 2, 1) := by decide +kernel
theorem dX5_joinAll_5 : decode cX5_joinAll 5 = .ok (.bipush 48, 2) := by decide +kernel
theorem dX5_joinAll_7 : decode cX5_joinAll 7 = .ok (.if_icmp .ge 50, 3) := by decide +kernel
theorem dX5_joinAll_10 : decode cX5_joinAll 10 = .ok (.iload_n 2, 1) := by decide +kernel
theorem dX5_joinAll_11 : decode cX5_joinAll 11 = .ok (.bipush 6, 2) := by decide +kernel
theorem dX5_joinAll_13 : decode cX5_joinAll 13 = .ok (.irem, 1) := by decide +kernel
theorem dX5_joinAll_14 : decode cX5_joinAll 14 = .ok (.iconst 5, 1) := by decide +kernel
theorem dX5_joinAll_15 : decode cX5_joinAll 15 = .ok (.if_icmp .ge 16, 3) := by decide +kernel
theorem dX5_joinAll_18 : decode cX5_joinAll 18 = .ok (.aload_n 0, 1) := by decide +kernel
theorem dX5_joinAll_19 : decode cX5_joinAll 19 = .ok (.iload_n 2, 1) := by decide +kernel
theorem dX5_joinAll_20 : decode cX5_joinAll 20 = .ok (.iload_n 2, 1) := by decide +kernel
theorem dX5_joinAll_21 : decode cX5_joinAll 21 = .ok (.iconst 1, 1) := by decide +kernel
theorem dX5_joinAll_22 : decode cX5_joinAll 22 = .ok (.iadd, 1) := by decide +kernel
theorem dX5_joinAll_23 : decode cX5_joinAll 23 = .ok (.invokevirtual 51, 3) := by decide +kernel
theorem dX5_joinAll_26 : decode cX5_joinAll 26 = .ok (.ifCond .eq 5, 3) := by decide +kernel
theorem dX5_joinAll_29 : decode cX5_joinAll 29 = .ok (.iconst 1, 1) := by decide +kernel
theorem dX5_joinAll_30 : decode cX5_joinAll 30 = .ok (.istore_n 1, 1) := by decide +kernel
theorem dX5_joinAll_31 : decode cX5_joinAll 31 = .ok (.iload_n 2, 1) := by decide +kernel
theorem dX5_joinAll_32 : decode cX5_joinAll 32 = .ok (.bipush 42, 2) := by decide +kernel
theorem dX5_joinAll_34 : decode cX5_joinAll 34 = .ok (.if_icmp .ge 17, 3) := by decide +kernel
theorem dX5_joinAll_37 : decode cX5_joinAll 37 = .ok (.aload_n 0, 1) := by decide +kernel
theorem dX5_joinAll_38 : decode cX5_joinAll 38 = .ok (.iload_n 2, 1) := by decide +kernel
theorem dX5_joinAll_39 : decode cX5_joinAll 39 = .ok (.iload_n 2, 1) := by decide +kernel
theorem dX5_joinAll_40 : decode cX5_joinAll 40 = .ok (.bipush 6, 2) := by decide +kernel
theorem dX5_joinAll_42 : decode cX5_joinAll 42 = .ok (.iadd, 1) := by decide +kernel
theorem dX5_joinAll_43 : decode cX5_joinAll 43 = .ok (.invokevirtual 51, 3) := by decide +kernel
theorem dX5_joinAll_46 : decode cX5_joinAll 46 = .ok (.ifCond .eq 5, 3) := by decide +kernel
theorem dX5_joinAll_49 : decode cX5_joinAll 49 = .ok (.iconst 1, 1) := by decide +kernel
theorem dX5_joinAll_50 : decode cX5_joinAll 50 = .ok (.istore_n 1, 1) := by decide +kernel
theorem dX5_joinAll_51 : decode cX5_joinAll 51 = .ok (.iinc 2 1, 3) := by decide +kernel
theorem dX5_joinAll_54 : decode cX5_joinAll 54 = .ok (.goto (-50), 3) := by decide +kernel
theorem dX5_joinAll_57 : decode cX5_joinAll 57 = .ok (.iload_n 1, 1) := by decide +kernel
theorem dX5_joinAll_58 : decode cX5_joinAll 58 = .ok (.ireturn, 1) := by decide +kernel
set_option maxRecDepth 20000 in
theorem ggX5_join_X9_isCell : GoodIn wsX5_join wsX9_isCell := goodIn_r _ [4] (by decide +kernel) (by decide +kernel)
set_option maxRecDepth 20000 in
theorem gX5_join_X9_isCell_n55 : GoodIn wsX5_join (wsX9_isCell) := ggX5_join_X9_isCell
theorem dX5_join_0 : decode cX5_join 0 = .ok (.iload_n 1, 1) := by decide +kernel
theorem dX5_join_1 : decode cX5_join 1 = .ok (.invokestatic 55, 3) := by decide +kernel
theorem dX5_join_4 : decode cX5_join 4 = .ok (.ifCond .eq 10, 3) := by decide +kernel
theorem dX5_join_7 : decode cX5_join 7 = .ok (.iload_n 2, 1) := by decide +kernel
theorem dX5_join_8 : decode cX5_join 8 = .ok (.invokestatic 55, 3) := by decide +kernel
theorem dX5_join_11 : decode cX5_join 11 = .ok (.ifCond .ne 5, 3) := by decide +kernel
theorem dX5_join_14 : decode cX5_join 14 = .ok (.iconst 0, 1) := by decide +kernel
theorem dX5_join_15 : decode cX5_join 15 = .ok (.ireturn, 1) := by decide +kernel
theorem dX5_join_16 : decode cX5_join 16 = .ok (.aload_n 0, 1) := by decide +kernel
theorem dX5_join_17 : decode cX5_join 17 = .ok (.getfield 9, 3) := by decide +kernel
theorem dX5_join_20 : decode cX5_join 20 = .ok (.iload_n 1, 1) := by decide +kernel
theorem dX5_join_21 : decode cX5_join 21 = .ok (.iaload, 1) := by decide +kernel
theorem dX5_join_22 : decode cX5_join 22 = .ok (.istore_n 3, 1) := by decide +kernel
theorem dX5_join_23 : decode cX5_join 23 = .ok (.aload_n 0, 1) := by decide +kernel
theorem dX5_join_24 : decode cX5_join 24 = .ok (.getfield 9, 3) := by decide +kernel
theorem dX5_join_27 : decode cX5_join 27 = .ok (.iload_n 2, 1) := by decide +kernel
theorem dX5_join_28 : decode cX5_join 28 = .ok (.iaload, 1) := by decide +kernel
theorem dX5_join_29 : decode cX5_join 29 = .ok (.istore 4, 2) := by decide +kernel
theorem dX5_join_31 : decode cX5_join 31 = .ok (.iload_n 3, 1) := by decide +kernel
theorem dX5_join_32 : decode cX5_join 32 = .ok (.iload 4, 2) := by decide +kernel
theorem dX5_join_34 : decode cX5_join 34 = .ok (.if_icmp .eq 16, 3) := by decide +kernel
theorem dX5_join_37 : decode cX5_join 37 = .ok (.iload_n 3, 1) := by decide +kernel
theorem dX5_join_38 : decode cX5_join 38 = .ok (.bipush 48, 2) := by decide +kernel
theorem dX5_join_40 : decode cX5_join 40 = .ok (.if_icmp .eq 10, 3) := by decide +kernel
theorem dX5_join_43 : decode cX5_join 43 = .ok (.iload 4, 2) := by decide +kernel
theorem dX5_join_45 : decode cX5_join 45 = .ok (.bipush 48, 2) := by decide +kernel
theorem dX5_join_47 : decode cX5_join 47 = .ok (.if_icmp .ne 5, 3) := by decide +kernel
theorem dX5_join_50 : decode cX5_join 50 = .ok (.iconst 0, 1) := by decide +kernel
theorem dX5_join_51 : decode cX5_join 51 = .ok (.ireturn, 1) := by decide +kernel
theorem dX5_join_52 : decode cX5_join 52 = .ok (.aload_n 0, 1) := by decide +kernel
theorem dX5_join_53 : decode cX5_join 53 = .ok (.getfield 9, 3) := by decide +kernel
theorem dX5_join_56 : decode cX5_join 56 = .ok (.iload_n 1, 1) := by decide +kernel
theorem dX5_join_57 : decode cX5_join 57 = .ok (.iload_n 3, 1) := by decide +kernel
theorem dX5_join_58 : decode cX5_join 58 = .ok (.iload 4, 2) := by decide +kernel
theorem dX5_join_60 : decode cX5_join 60 = .ok (.if_icmp .ge 7, 3) := by decide +kernel
theorem dX5_join_63 : decode cX5_join 63 = .ok (.iload_n 3, 1) := by decide +kernel
theorem dX5_join_64 : decode cX5_join 64 = .ok (.goto 5, 3) := by decide +kernel
theorem dX5_join_67 : decode cX5_join 67 = .ok (.iload 4, 2) := by decide +kernel
theorem dX5_join_69 : decode cX5_join 69 = .ok (.iastore, 1) := by decide +kernel
theorem dX5_join_70 : decode cX5_join 70 = .ok (.aload_n 0, 1) := by decide +kernel
theorem dX5_join_71 : decode cX5_join 71 = .ok (.getfield 9, 3) := by decide +kernel
theorem dX5_join_74 : decode cX5_join 74 = .ok (.iload_n 2, 1) := by decide +kernel
theorem dX5_join_75 : decode cX5_join 75 = .ok (.aload_n 0, 1) := by decide +kernel
theorem dX5_join_76 : decode cX5_join 76 = .ok (.getfield 9, 3) := by decide +kernel
theorem dX5_join_79 : decode cX5_join 79 = .ok (.iload_n 1, 1) := by decide +kernel
theorem dX5_join_80 : decode cX5_join 80 = .ok (.iaload, 1) := by decide +kernel
theorem dX5_join_81 : decode cX5_join 81 = .ok (.iastore, 1) := by decide +kernel
theorem dX5_join_82 : decode cX5_join 82 = .ok (.iconst 1, 1) := by decide +kernel
theorem dX5_join_83 : decode cX5_join 83 = .ok (.ireturn, 1) := by decide +kernel
set_option maxRecDepth 20000 in
theorem ggX5_measure_X9_isCell : GoodIn wsX5_measure wsX9_isCell := goodIn_r _ [6] (by decide +kernel) (by decide +kernel)
set_option maxRecDepth 20000 in
theorem gX5_measure_X9_isCell_n55 : GoodIn wsX5_measure (wsX9_isCell) := ggX5_measure_X9_isCell
set_option maxRecDepth 20000 in
theorem ggX5_measure_X4_signalOf : GoodIn wsX5_measure wsX4_signalOf := goodIn_r _ [11, 12, 13, 19, 20] (by decide +kernel) (by decide +kernel)
set_option maxRecDepth 20000 in
theorem gX5_measure_X4_signalOf : GoodIn wsX5_measure (wsV RX5 37 RX4 yX4_signalOf wsX4_signalOf) := goodIn_app (goodIn_of _ (by decide +kernel)) ggX5_measure_X4_signalOf
theorem dX5_measure_0 : decode cX5_measure 0 = .ok (.iconst 0, 1) := by decide +kernel
theorem dX5_measure_1 : decode cX5_measure 1 = .ok (.istore_n 2, 1) := by decide +kernel
theorem dX5_measure_2 : decode cX5_measure 2 = .ok (.iload_n 2, 1) := by decide +kernel
theorem dX5_measure_3 : decode cX5_measure 3 = .ok (.bipush 48, 2) := by decide +kernel
theorem dX5_measure_5 : decode cX5_measure 5 = .ok (.if_icmp .ge 23, 3) := by decide +kernel
theorem dX5_measure_8 : decode cX5_measure 8 = .ok (.aload_n 0, 1) := by decide +kernel
theorem dX5_measure_9 : decode cX5_measure 9 = .ok (.getfield 15, 3) := by decide +kernel
theorem dX5_measure_12 : decode cX5_measure 12 = .ok (.iload_n 2, 1) := by decide +kernel
theorem dX5_measure_13 : decode cX5_measure 13 = .ok (.iconst 0, 1) := by decide +kernel
theorem dX5_measure_14 : decode cX5_measure 14 = .ok (.iastore, 1) := by decide +kernel
theorem dX5_measure_15 : decode cX5_measure 15 = .ok (.aload_n 0, 1) := by decide +kernel
theorem dX5_measure_16 : decode cX5_measure 16 = .ok (.getfield 18, 3) := by decide +kernel
theorem dX5_measure_19 : decode cX5_measure 19 = .ok (.iload_n 2, 1) := by decide +kernel
theorem dX5_measure_20 : decode cX5_measure 20 = .ok (.iconst 0, 1) := by decide +kernel
theorem dX5_measure_21 : decode cX5_measure 21 = .ok (.iastore, 1) := by decide +kernel
theorem dX5_measure_22 : decode cX5_measure 22 = .ok (.iinc 2 1, 3) := by decide +kernel
theorem dX5_measure_25 : decode cX5_measure 25 = .ok (.goto (-23), 3) := by decide +kernel
theorem dX5_measure_28 : decode cX5_measure 28 = .ok (.iconst 0, 1) := by decide +kernel
theorem dX5_measure_29 : decode cX5_measure 29 = .ok (.istore_n 2, 1) := by decide +kernel
theorem dX5_measure_30 : decode cX5_measure 30 = .ok (.iload_n 2, 1) := by decide +kernel
theorem dX5_measure_31 : decode cX5_measure 31 = .ok (.bipush 48, 2) := by decide +kernel
theorem dX5_measure_33 : decode cX5_measure 33 = .ok (.if_icmp .ge 68, 3) := by decide +kernel
theorem dX5_measure_36 : decode cX5_measure 36 = .ok (.aload_n 0, 1) := by decide +kernel
theorem dX5_measure_37 : decode cX5_measure 37 = .ok (.getfield 9, 3) := by decide +kernel
theorem dX5_measure_40 : decode cX5_measure 40 = .ok (.iload_n 2, 1) := by decide +kernel
theorem dX5_measure_41 : decode cX5_measure 41 = .ok (.iaload, 1) := by decide +kernel
theorem dX5_measure_42 : decode cX5_measure 42 = .ok (.istore_n 3, 1) := by decide +kernel
theorem dX5_measure_43 : decode cX5_measure 43 = .ok (.iload_n 3, 1) := by decide +kernel
theorem dX5_measure_44 : decode cX5_measure 44 = .ok (.invokestatic 55, 3) := by decide +kernel
theorem dX5_measure_47 : decode cX5_measure 47 = .ok (.ifCond .eq 48, 3) := by decide +kernel
theorem dX5_measure_50 : decode cX5_measure 50 = .ok (.aload_n 1, 1) := by decide +kernel
theorem dX5_measure_51 : decode cX5_measure 51 = .ok (.iload_n 2, 1) := by decide +kernel
theorem dX5_measure_52 : decode cX5_measure 52 = .ok (.invokevirtual 37, 3) := by decide +kernel
theorem dX5_measure_55 : decode cX5_measure 55 = .ok (.istore 4, 2) := by decide +kernel
theorem dX5_measure_57 : decode cX5_measure 57 = .ok (.aload_n 0, 1) := by decide +kernel
theorem dX5_measure_58 : decode cX5_measure 58 = .ok (.getfield 15, 3) := by decide +kernel
theorem dX5_measure_61 : decode cX5_measure 61 = .ok (.iload_n 3, 1) := by decide +kernel
theorem dX5_measure_62 : decode cX5_measure 62 = .ok (.dup2, 1) := by decide +kernel
theorem dX5_measure_63 : decode cX5_measure 63 = .ok (.iaload, 1) := by decide +kernel
theorem dX5_measure_64 : decode cX5_measure 64 = .ok (.iconst 1, 1) := by decide +kernel
theorem dX5_measure_65 : decode cX5_measure 65 = .ok (.iadd, 1) := by decide +kernel
theorem dX5_measure_66 : decode cX5_measure 66 = .ok (.iastore, 1) := by decide +kernel
theorem dX5_measure_67 : decode cX5_measure 67 = .ok (.aload_n 0, 1) := by decide +kernel
theorem dX5_measure_68 : decode cX5_measure 68 = .ok (.getfield 18, 3) := by decide +kernel
theorem dX5_measure_71 : decode cX5_measure 71 = .ok (.iload_n 3, 1) := by decide +kernel
theorem dX5_measure_72 : decode cX5_measure 72 = .ok (.iload 4, 2) := by decide +kernel
theorem dX5_measure_74 : decode cX5_measure 74 = .ok (.aload_n 0, 1) := by decide +kernel
theorem dX5_measure_75 : decode cX5_measure 75 = .ok (.getfield 18, 3) := by decide +kernel
theorem dX5_measure_78 : decode cX5_measure 78 = .ok (.iload_n 3, 1) := by decide +kernel
theorem dX5_measure_79 : decode cX5_measure 79 = .ok (.iaload, 1) := by decide +kernel
theorem dX5_measure_80 : decode cX5_measure 80 = .ok (.if_icmp .le 8, 3) := by decide +kernel
theorem dX5_measure_83 : decode cX5_measure 83 = .ok (.iload 4, 2) := by decide +kernel
theorem dX5_measure_85 : decode cX5_measure 85 = .ok (.goto 9, 3) := by decide +kernel
theorem dX5_measure_88 : decode cX5_measure 88 = .ok (.aload_n 0, 1) := by decide +kernel
theorem dX5_measure_89 : decode cX5_measure 89 = .ok (.getfield 18, 3) := by decide +kernel
theorem dX5_measure_92 : decode cX5_measure 92 = .ok (.iload_n 3, 1) := by decide +kernel
theorem dX5_measure_93 : decode cX5_measure 93 = .ok (.iaload, 1) := by decide +kernel
theorem dX5_measure_94 : decode cX5_measure 94 = .ok (.iastore, 1) := by decide +kernel
theorem dX5_measure_95 : decode cX5_measure 95 = .ok (.iinc 2 1, 3) := by decide +kernel
theorem dX5_measure_98 : decode cX5_measure 98 = .ok (.goto (-68), 3) := by decide +kernel
theorem dX5_measure_101 : decode cX5_measure 101 = .ok (.return_, 1) := by decide +kernel
set_option maxRecDepth 20000 in
theorem ggX5_sizeAround_X9_isCell : GoodIn wsX5_sizeAround wsX9_isCell := goodIn_r _ [5] (by decide +kernel) (by decide +kernel)
set_option maxRecDepth 20000 in
theorem gX5_sizeAround_X9_isCell_n55 : GoodIn wsX5_sizeAround (wsX9_isCell) := ggX5_sizeAround_X9_isCell
theorem dX5_sizeAround_0 : decode cX5_sizeAround 0 = .ok (.iload_n 1, 1) := by decide +kernel
theorem dX5_sizeAround_1 : decode cX5_sizeAround 1 = .ok (.invokestatic 55, 3) := by decide +kernel
theorem dX5_sizeAround_4 : decode cX5_sizeAround 4 = .ok (.ifCond .eq 12, 3) := by decide +kernel
theorem dX5_sizeAround_7 : decode cX5_sizeAround 7 = .ok (.aload_n 0, 1) := by decide +kernel
theorem dX5_sizeAround_8 : decode cX5_sizeAround 8 = .ok (.getfield 9, 3) := by decide +kernel
theorem dX5_sizeAround_11 : decode cX5_sizeAround 11 = .ok (.iload_n 1, 1) := by decide +kernel
theorem dX5_sizeAround_12 : decode cX5_sizeAround 12 = .ok (.iaload, 1) := by decide +kernel
theorem dX5_sizeAround_13 : decode cX5_sizeAround 13 = .ok (.goto 5, 3) := by decide +kernel
theorem dX5_sizeAround_16 : decode cX5_sizeAround 16 = .ok (.bipush 48, 2) := by decide +kernel
theorem dX5_sizeAround_18 : decode cX5_sizeAround 18 = .ok (.istore_n 2, 1) := by decide +kernel
theorem dX5_sizeAround_19 : decode cX5_sizeAround 19 = .ok (.iload_n 2, 1) := by decide +kernel
theorem dX5_sizeAround_20 : decode cX5_sizeAround 20 = .ok (.invokestatic 55, 3) := by decide +kernel
theorem dX5_sizeAround_23 : decode cX5_sizeAround 23 = .ok (.ifCond .eq 12, 3) := by decide +kernel
theorem dX5_sizeAround_26 : decode cX5_sizeAround 26 = .ok (.aload_n 0, 1) := by decide +kernel
theorem dX5_sizeAround_27 : decode cX5_sizeAround 27 = .ok (.getfield 15, 3) := by decide +kernel
theorem dX5_sizeAround_30 : decode cX5_sizeAround 30 = .ok (.iload_n 2, 1) := by decide +kernel
theorem dX5_sizeAround_31 : decode cX5_sizeAround 31 = .ok (.iaload, 1) := by decide +kernel
theorem dX5_sizeAround_32 : decode cX5_sizeAround 32 = .ok (.goto 4, 3) := by decide +kernel
theorem dX5_sizeAround_35 : decode cX5_sizeAround 35 = .ok (.iconst 0, 1) := by decide +kernel
theorem dX5_sizeAround_36 : decode cX5_sizeAround 36 = .ok (.ireturn, 1) := by decide +kernel
set_option maxRecDepth 20000 in
theorem ggX5_kindAround_X9_isCell : GoodIn wsX5_kindAround wsX9_isCell := goodIn_r _ [8] (by decide +kernel) (by decide +kernel)
set_option maxRecDepth 20000 in
theorem gX5_kindAround_X9_isCell_n55 : GoodIn wsX5_kindAround (wsX9_isCell) := ggX5_kindAround_X9_isCell
theorem dX5_kindAround_0 : decode cX5_kindAround 0 = .ok (.iload_n 1, 1) := by decide +kernel
theorem dX5_kindAround_1 : decode cX5_kindAround 1 = .ok (.invokestatic 55, 3) := by decide +kernel
theorem dX5_kindAround_4 : decode cX5_kindAround 4 = .ok (.ifCond .eq 12, 3) := by decide +kernel
theorem dX5_kindAround_7 : decode cX5_kindAround 7 = .ok (.aload_n 0, 1) := by decide +kernel
theorem dX5_kindAround_8 : decode cX5_kindAround 8 = .ok (.getfield 9, 3) := by decide +kernel
theorem dX5_kindAround_11 : decode cX5_kindAround 11 = .ok (.iload_n 1, 1) := by decide +kernel
theorem dX5_kindAround_12 : decode cX5_kindAround 12 = .ok (.iaload, 1) := by decide +kernel
theorem dX5_kindAround_13 : decode cX5_kindAround 13 = .ok (.goto 5, 3) := by decide +kernel
theorem dX5_kindAround_16 : decode cX5_kindAround 16 = .ok (.bipush 48, 2) := by decide +kernel
theorem dX5_kindAround_18 : decode cX5_kindAround 18 = .ok (.istore_n 2, 1) := by decide +kernel
theorem dX5_kindAround_19 : decode cX5_kindAround 19 = .ok (.iload_n 2, 1) := by decide +kernel
theorem dX5_kindAround_20 : decode cX5_kindAround 20 = .ok (.invokestatic 55, 3) := by decide +kernel
theorem dX5_kindAround_23 : decode cX5_kindAround 23 = .ok (.ifCond .ne 5, 3) := by decide +kernel
theorem dX5_kindAround_26 : decode cX5_kindAround 26 = .ok (.iconst (-1), 1) := by decide +kernel
theorem dX5_kindAround_27 : decode cX5_kindAround 27 = .ok (.ireturn, 1) := by decide +kernel
theorem dX5_kindAround_28 : decode cX5_kindAround 28 = .ok (.aload_n 0, 1) := by decide +kernel
theorem dX5_kindAround_29 : decode cX5_kindAround 29 = .ok (.getfield 15, 3) := by decide +kernel
theorem dX5_kindAround_32 : decode cX5_kindAround 32 = .ok (.iload_n 2, 1) := by decide +kernel
theorem dX5_kindAround_33 : decode cX5_kindAround 33 = .ok (.iaload, 1) := by decide +kernel
theorem dX5_kindAround_34 : decode cX5_kindAround 34 = .ok (.aload_n 0, 1) := by decide +kernel
theorem dX5_kindAround_35 : decode cX5_kindAround 35 = .ok (.getfield 26, 3) := by decide +kernel
theorem dX5_kindAround_38 : decode cX5_kindAround 38 = .ok (.if_icmp .le 5, 3) := by decide +kernel
theorem dX5_kindAround_41 : decode cX5_kindAround 41 = .ok (.iconst 1, 1) := by decide +kernel
theorem dX5_kindAround_42 : decode cX5_kindAround 42 = .ok (.ireturn, 1) := by decide +kernel
theorem dX5_kindAround_43 : decode cX5_kindAround 43 = .ok (.aload_n 0, 1) := by decide +kernel
theorem dX5_kindAround_44 : decode cX5_kindAround 44 = .ok (.getfield 18, 3) := by decide +kernel
theorem dX5_kindAround_47 : decode cX5_kindAround 47 = .ok (.iload_n 2, 1) := by decide +kernel
theorem dX5_kindAround_48 : decode cX5_kindAround 48 = .ok (.iaload, 1) := by decide +kernel
theorem dX5_kindAround_49 : decode cX5_kindAround 49 = .ok (.aload_n 0, 1) := by decide +kernel
theorem dX5_kindAround_50 : decode cX5_kindAround 50 = .ok (.getfield 30, 3) := by decide +kernel
theorem dX5_kindAround_53 : decode cX5_kindAround 53 = .ok (.if_icmp .ge 7, 3) := by decide +kernel
theorem dX5_kindAround_56 : decode cX5_kindAround 56 = .ok (.iconst 2, 1) := by decide +kernel
theorem dX5_kindAround_57 : decode cX5_kindAround 57 = .ok (.goto 4, 3) := by decide +kernel
theorem dX5_kindAround_60 : decode cX5_kindAround 60 = .ok (.iconst 0, 1) := by decide +kernel
theorem dX5_kindAround_61 : decode cX5_kindAround 61 = .ok (.ireturn, 1) := by decide +kernel
set_option maxRecDepth 20000 in
theorem ggX5_countOf_X5_kindAround : GoodIn wsX5_countOf wsX5_kindAround := goodIn_r _ [6, 1, 7, 8, 9, 10, 11, 12, 13, 14, 15, 16, 17, 18] (by decide +kernel) (by decide +kernel)
set_option maxRecDepth 20000 in
theorem gX5_countOf_X5_kindAround : GoodIn wsX5_countOf (wsV RX5 59 RX5 yX5_kindAround wsX5_kindAround) := goodIn_app (goodIn_of _ (by decide +kernel)) ggX5_countOf_X5_kindAround
theorem dX5_countOf_0 : decode cX5_countOf 0 = .ok (.iconst 0, 1) := by decide +kernel
theorem dX5_countOf_1 : decode cX5_countOf 1 = .ok (.istore_n 2, 1) := by decide +kernel
theorem dX5_countOf_2 : decode cX5_countOf 2 = .ok (.iconst 0, 1) := by decide +kernel
theorem dX5_countOf_3 : decode cX5_countOf 3 = .ok (.istore_n 3, 1) := by decide +kernel
theorem dX5_countOf_4 : decode cX5_countOf 4 = .ok (.iload_n 3, 1) := by decide +kernel
theorem dX5_countOf_5 : decode cX5_countOf 5 = .ok (.bipush 48, 2) := by decide +kernel
theorem dX5_countOf_7 : decode cX5_countOf 7 = .ok (.if_icmp .ge 31, 3) := by decide +kernel
theorem dX5_countOf_10 : decode cX5_countOf 10 = .ok (.aload_n 0, 1) := by decide +kernel
theorem dX5_countOf_11 : decode cX5_countOf 11 = .ok (.getfield 9, 3) := by decide +kernel
theorem dX5_countOf_14 : decode cX5_countOf 14 = .ok (.iload_n 3, 1) := by decide +kernel
theorem dX5_countOf_15 : decode cX5_countOf 15 = .ok (.iaload, 1) := by decide +kernel
theorem dX5_countOf_16 : decode cX5_countOf 16 = .ok (.iload_n 3, 1) := by decide +kernel
theorem dX5_countOf_17 : decode cX5_countOf 17 = .ok (.if_icmp .ne 15, 3) := by decide +kernel
theorem dX5_countOf_20 : decode cX5_countOf 20 = .ok (.aload_n 0, 1) := by decide +kernel
theorem dX5_countOf_21 : decode cX5_countOf 21 = .ok (.iload_n 3, 1) := by decide +kernel
theorem dX5_countOf_22 : decode cX5_countOf 22 = .ok (.invokevirtual 59, 3) := by decide +kernel
theorem dX5_countOf_25 : decode cX5_countOf 25 = .ok (.iload_n 1, 1) := by decide +kernel
theorem dX5_countOf_26 : decode cX5_countOf 26 = .ok (.if_icmp .ne 6, 3) := by decide +kernel
theorem dX5_countOf_29 : decode cX5_countOf 29 = .ok (.iinc 2 1, 3) := by decide +kernel
theorem dX5_countOf_32 : decode cX5_countOf 32 = .ok (.iinc 3 1, 3) := by decide +kernel
theorem dX5_countOf_35 : decode cX5_countOf 35 = .ok (.goto (-31), 3) := by decide +kernel
theorem dX5_countOf_38 : decode cX5_countOf 38 = .ok (.iload_n 2, 1) := by decide +kernel
theorem dX5_countOf_39 : decode cX5_countOf 39 = .ok (.ireturn, 1) := by decide +kernel
set_option maxRecDepth 20000 in
theorem ggX6_init_X4_init : GoodIn wsX6_init wsX4_init := goodIn_r _ [19, 20, 2, 3, 8, 21, 22, 26, 27] (by decide +kernel) (by decide +kernel)
set_option maxRecDepth 20000 in
theorem gX6_init_X4_init_n11 : GoodIn wsX6_init (wsX4_init) := ggX6_init_X4_init
set_option maxRecDepth 20000 in
theorem ggX6_init_X8_init : GoodIn wsX6_init wsX8_init := goodIn_r _ [24, 25, 2, 3] (by decide +kernel) (by decide +kernel)
set_option maxRecDepth 20000 in
theorem gX6_init_X8_init_n37 : GoodIn wsX6_init (wsX8_init) := ggX6_init_X8_init
theorem dX6_init_0 : decode cX6_init 0 = .ok (.aload_n 0, 1) := by decide +kernel
theorem dX6_init_1 : decode cX6_init 1 = .ok (.invokespecial 3, 3) := by decide +kernel
theorem dX6_init_4 : decode cX6_init 4 = .ok (.aload_n 0, 1) := by decide +kernel
theorem dX6_init_5 : decode cX6_init 5 = .ok (.new 9, 3) := by decide +kernel
theorem dX6_init_8 : decode cX6_init 8 = .ok (.dup, 1) := by decide +kernel
theorem dX6_init_9 : decode cX6_init 9 = .ok (.invokespecial 11, 3) := by decide +kernel
theorem dX6_init_12 : decode cX6_init 12 = .ok (.putfield 12, 3) := by decide +kernel
theorem dX6_init_15 : decode cX6_init 15 = .ok (.aload_n 0, 1) := by decide +kernel
theorem dX6_init_16 : decode cX6_init 16 = .ok (.iconst 5, 1) := by decide +kernel
theorem dX6_init_17 : decode cX6_init 17 = .ok (.newarray .int, 2) := by decide +kernel
theorem dX6_init_19 : decode cX6_init 19 = .ok (.putfield 18, 3) := by decide +kernel
theorem dX6_init_22 : decode cX6_init 22 = .ok (.aload_n 0, 1) := by decide +kernel
theorem dX6_init_23 : decode cX6_init 23 = .ok (.bipush 6, 2) := by decide +kernel
theorem dX6_init_25 : decode cX6_init 25 = .ok (.anewarray 22, 3) := by decide +kernel
theorem dX6_init_28 : decode cX6_init 28 = .ok (.putfield 24, 3) := by decide +kernel
theorem dX6_init_31 : decode cX6_init 31 = .ok (.getstatic 28, 3) := by decide +kernel
theorem dX6_init_34 : decode cX6_init 34 = .ok (.iconst 0, 1) := by decide +kernel
theorem dX6_init_35 : decode cX6_init 35 = .ok (.aload_n 0, 1) := by decide +kernel
theorem dX6_init_36 : decode cX6_init 36 = .ok (.getfield 18, 3) := by decide +kernel
theorem dX6_init_39 : decode cX6_init 39 = .ok (.iconst 0, 1) := by decide +kernel
theorem dX6_init_40 : decode cX6_init 40 = .ok (.iconst 5, 1) := by decide +kernel
theorem dX6_init_41 : decode cX6_init 41 = .ok (.invokestatic 31, 3) := by decide +kernel
theorem dX6_init_44 : decode cX6_init 44 = .ok (.iconst 0, 1) := by decide +kernel
theorem dX6_init_45 : decode cX6_init 45 = .ok (.istore_n 1, 1) := by decide +kernel
theorem dX6_init_46 : decode cX6_init 46 = .ok (.iload_n 1, 1) := by decide +kernel
theorem dX6_init_47 : decode cX6_init 47 = .ok (.bipush 6, 2) := by decide +kernel
theorem dX6_init_49 : decode cX6_init 49 = .ok (.if_icmp .ge 22, 3) := by decide +kernel
theorem dX6_init_52 : decode cX6_init 52 = .ok (.aload_n 0, 1) := by decide +kernel
theorem dX6_init_53 : decode cX6_init 53 = .ok (.getfield 24, 3) := by decide +kernel
theorem dX6_init_56 : decode cX6_init 56 = .ok (.iload_n 1, 1) := by decide +kernel
theorem dX6_init_57 : decode cX6_init 57 = .ok (.new 22, 3) := by decide +kernel
theorem dX6_init_60 : decode cX6_init 60 = .ok (.dup, 1) := by decide +kernel
theorem dX6_init_61 : decode cX6_init 61 = .ok (.invokespecial 37, 3) := by decide +kernel
theorem dX6_init_64 : decode cX6_init 64 = .ok (.aastore, 1) := by decide +kernel
theorem dX6_init_65 : decode cX6_init 65 = .ok (.iinc 1 1, 3) := by decide +kernel
theorem dX6_init_68 : decode cX6_init 68 = .ok (.goto (-22), 3) := by decide +kernel
theorem dX6_init_71 : decode cX6_init 71 = .ok (.return_, 1) := by decide +kernel
set_option maxRecDepth 20000 in
theorem ggX6_copyFrom_X4_copyFrom : GoodIn wsX6_copyFrom wsX4_copyFrom := goodIn_r _ [15, 16, 17, 4, 5, 6, 18, 35, 36] (by decide +kernel) (by decide +kernel)
set_option maxRecDepth 20000 in
theorem gX6_copyFrom_X4_copyFrom : GoodIn wsX6_copyFrom (wsV RX6 38 RX4 yX4_copyFrom wsX4_copyFrom) := goodIn_app (goodIn_of _ (by decide +kernel)) ggX6_copyFrom_X4_copyFrom
set_option maxRecDepth 20000 in
theorem ggX6_copyFrom_X8_copyFrom : GoodIn wsX6_copyFrom wsX8_copyFrom := goodIn_r _ [23, 24, 25, 26, 27, 28, 37, 38, 39, 40, 41] (by decide +kernel) (by decide +kernel)
set_option maxRecDepth 20000 in
theorem gX6_copyFrom_X8_copyFrom : GoodIn wsX6_copyFrom (wsV RX6 42 RX8 yX8_copyFrom wsX8_copyFrom) := goodIn_app (goodIn_of _ (by decide +kernel)) ggX6_copyFrom_X8_copyFrom
theorem dX6_copyFrom_0 : decode cX6_copyFrom 0 = .ok (.aload_n 0, 1) := by decide +kernel
theorem dX6_copyFrom_1 : decode cX6_copyFrom 1 = .ok (.getfield 12, 3) := by decide +kernel
theorem dX6_copyFrom_4 : decode cX6_copyFrom 4 = .ok (.aload_n 1, 1) := by decide +kernel
theorem dX6_copyFrom_5 : decode cX6_copyFrom 5 = .ok (.getfield 12, 3) := by decide +kernel
theorem dX6_copyFrom_8 : decode cX6_copyFrom 8 = .ok (.invokevirtual 38, 3) := by decide +kernel
theorem dX6_copyFrom_11 : decode cX6_copyFrom 11 = .ok (.aload_n 1, 1) := by decide +kernel
theorem dX6_copyFrom_12 : decode cX6_copyFrom 12 = .ok (.getfield 18, 3) := by decide +kernel
theorem dX6_copyFrom_15 : decode cX6_copyFrom 15 = .ok (.iconst 0, 1) := by decide +kernel
theorem dX6_copyFrom_16 : decode cX6_copyFrom 16 = .ok (.aload_n 0, 1) := by decide +kernel
theorem dX6_copyFrom_17 : decode cX6_copyFrom 17 = .ok (.getfield 18, 3) := by decide +kernel
theorem dX6_copyFrom_20 : decode cX6_copyFrom 20 = .ok (.iconst 0, 1) := by decide +kernel
theorem dX6_copyFrom_21 : decode cX6_copyFrom 21 = .ok (.iconst 5, 1) := by decide +kernel
theorem dX6_copyFrom_22 : decode cX6_copyFrom 22 = .ok (.invokestatic 31, 3) := by decide +kernel
theorem dX6_copyFrom_25 : decode cX6_copyFrom 25 = .ok (.iconst 0, 1) := by decide +kernel
theorem dX6_copyFrom_26 : decode cX6_copyFrom 26 = .ok (.istore_n 2, 1) := by decide +kernel
theorem dX6_copyFrom_27 : decode cX6_copyFrom 27 = .ok (.iload_n 2, 1) := by decide +kernel
theorem dX6_copyFrom_28 : decode cX6_copyFrom 28 = .ok (.bipush 6, 2) := by decide +kernel
theorem dX6_copyFrom_30 : decode cX6_copyFrom 30 = .ok (.if_icmp .ge 24, 3) := by decide +kernel
theorem dX6_copyFrom_33 : decode cX6_copyFrom 33 = .ok (.aload_n 0, 1) := by decide +kernel
theorem dX6_copyFrom_34 : decode cX6_copyFrom 34 = .ok (.getfield 24, 3) := by decide +kernel
theorem dX6_copyFrom_37 : decode cX6_copyFrom 37 = .ok (.iload_n 2, 1) := by decide +kernel
theorem dX6_copyFrom_38 : decode cX6_copyFrom 38 = .ok (.aaload, 1) := by decide +kernel
theorem dX6_copyFrom_39 : decode cX6_copyFrom 39 = .ok (.aload_n 1, 1) := by decide +kernel
theorem dX6_copyFrom_40 : decode cX6_copyFrom 40 = .ok (.getfield 24, 3) := by decide +kernel
theorem dX6_copyFrom_43 : decode cX6_copyFrom 43 = .ok (.iload_n 2, 1) := by decide +kernel
theorem dX6_copyFrom_44 : decode cX6_copyFrom 44 = .ok (.aaload, 1) := by decide +kernel
theorem dX6_copyFrom_45 : decode cX6_copyFrom 45 = .ok (.invokevirtual 42, 3) := by decide +kernel
theorem dX6_copyFrom_48 : decode cX6_copyFrom 48 = .ok (.iinc 2 1, 3) := by decide +kernel
theorem dX6_copyFrom_51 : decode cX6_copyFrom 51 = .ok (.goto (-24), 3) := by decide +kernel
theorem dX6_copyFrom_54 : decode cX6_copyFrom 54 = .ok (.aload_n 0, 1) := by decide +kernel
theorem dX6_copyFrom_55 : decode cX6_copyFrom 55 = .ok (.aload_n 1, 1) := by decide +kernel
theorem dX6_copyFrom_56 : decode cX6_copyFrom 56 = .ok (.getfield 45, 3) := by decide +kernel
theorem dX6_copyFrom_59 : decode cX6_copyFrom 59 = .ok (.putfield 45, 3) := by decide +kernel
theorem dX6_copyFrom_62 : decode cX6_copyFrom 62 = .ok (.aload_n 0, 1) := by decide +kernel
theorem dX6_copyFrom_63 : decode cX6_copyFrom 63 = .ok (.aload_n 1, 1) := by decide +kernel
theorem dX6_copyFrom_64 : decode cX6_copyFrom 64 = .ok (.getfield 49, 3) := by decide +kernel
theorem dX6_copyFrom_67 : decode cX6_copyFrom 67 = .ok (.putfield 49, 3) := by decide +kernel
theorem dX6_copyFrom_70 : decode cX6_copyFrom 70 = .ok (.aload_n 0, 1) := by decide +kernel
theorem dX6_copyFrom_71 : decode cX6_copyFrom 71 = .ok (.aload_n 1, 1) := by decide +kernel
theorem dX6_copyFrom_72 : decode cX6_copyFrom 72 = .ok (.getfield 52, 3) := by decide +kernel
theorem dX6_copyFrom_75 : decode cX6_copyFrom 75 = .ok (.putfield 52, 3) := by decide +kernel
theorem dX6_copyFrom_78 : decode cX6_copyFrom 78 = .ok (.return_, 1) := by decide +kernel
theorem dX6_downSet_0 : decode cX6_downSet 0 = .ok (.iconst 0, 1) := by decide +kernel
theorem dX6_downSet_1 : decode cX6_downSet 1 = .ok (.istore_n 1, 1) := by decide +kernel
theorem dX6_downSet_2 : decode cX6_downSet 2 = .ok (.iconst 0, 1) := by decide +kernel
theorem dX6_downSet_3 : decode cX6_downSet 3 = .ok (.istore_n 2, 1) := by decide +kernel
theorem dX6_downSet_4 : decode cX6_downSet 4 = .ok (.iload_n 2, 1) := by decide +kernel
theorem dX6_downSet_5 : decode cX6_downSet 5 = .ok (.bipush 6, 2) := by decide +kernel
theorem dX6_downSet_7 : decode cX6_downSet 7 = .ok (.if_icmp .ge 27, 3) := by decide +kernel
theorem dX6_downSet_10 : decode cX6_downSet 10 = .ok (.aload_n 0, 1) := by decide +kernel
theorem dX6_downSet_11 : decode cX6_downSet 11 = .ok (.getfield 24, 3) := by decide +kernel
theorem dX6_downSet_14 : decode cX6_downSet 14 = .ok (.iload_n 2, 1) := by decide +kernel
theorem dX6_downSet_15 : decode cX6_downSet 15 = .ok (.aaload, 1) := by decide +kernel
theorem dX6_downSet_16 : decode cX6_downSet 16 = .ok (.getfield 55, 3) := by decide +kernel
theorem dX6_downSet_19 : decode cX6_downSet 19 = .ok (.ifCond .eq 9, 3) := by decide +kernel
theorem dX6_downSet_22 : decode cX6_downSet 22 = .ok (.iload_n 1, 1) := by decide +kernel
theorem dX6_downSet_23 : decode cX6_downSet 23 = .ok (.iconst 1, 1) := by decide +kernel
theorem dX6_downSet_24 : decode cX6_downSet 24 = .ok (.iload_n 2, 1) := by decide +kernel
theorem dX6_downSet_25 : decode cX6_downSet 25 = .ok (.ishl, 1) := by decide +kernel
theorem dX6_downSet_26 : decode cX6_downSet 26 = .ok (.ior, 1) := by decide +kernel
theorem dX6_downSet_27 : decode cX6_downSet 27 = .ok (.istore_n 1, 1) := by decide +kernel
theorem dX6_downSet_28 : decode cX6_downSet 28 = .ok (.iinc 2 1, 3) := by decide +kernel
theorem dX6_downSet_31 : decode cX6_downSet 31 = .ok (.goto (-27), 3) := by decide +kernel
theorem dX6_downSet_34 : decode cX6_downSet 34 = .ok (.iload_n 1, 1) := by decide +kernel
theorem dX6_downSet_35 : decode cX6_downSet 35 = .ok (.ireturn, 1) := by decide +kernel
set_option maxRecDepth 20000 in
theorem ggX6_takeFrame_X6_downSet : GoodIn wsX6_takeFrame wsX6_downSet := goodIn_r _ [8, 9, 65, 66, 67, 68, 69, 70, 71, 72, 73, 74, 75] (by decide +kernel) (by decide +kernel)
set_option maxRecDepth 20000 in
theorem gX6_takeFrame_X6_downSet : GoodIn wsX6_takeFrame (wsV RX6 59 RX6 yX6_downSet wsX6_downSet) := goodIn_app (goodIn_of _ (by decide +kernel)) ggX6_takeFrame_X6_downSet
set_option maxRecDepth 20000 in
theorem ggX6_takeFrame_X6_moveTracks : GoodIn wsX6_takeFrame wsX6_moveTracks := goodIn_r _ [13, 9, 14, 2, 15, 16, 17, 18, 19, 20, 21, 22, 23, 24, 25, 26, 27, 28, 29, 30, 31, 32, 33, 34, 35, 36, 37, 38, 39, 40, 41, 42, 43, 44, 45, 46, 47, 48, 49, 50, 65, 66, 67, 68, 69, 70, 71, 72, 73, 74, 75, 76, 77, 78, 79, 80, 81, 82, 83, 84, 85, 86, 87] (by decide +kernel) (by decide +kernel)
set_option maxRecDepth 20000 in
theorem gX6_takeFrame_X6_moveTracks : GoodIn wsX6_takeFrame (wsV RX6 63 RX6 yX6_moveTracks wsX6_moveTracks) := goodIn_app (goodIn_of _ (by decide +kernel)) ggX6_takeFrame_X6_moveTracks
set_option maxRecDepth 20000 in
theorem ggX6_takeFrame_X6_startTracks : GoodIn wsX6_takeFrame wsX6_startTracks := goodIn_r _ [54, 9, 1, 55, 56, 57, 18, 58, 59, 60, 21, 22, 23, 24, 25, 26, 27, 28, 29, 30, 31, 32, 33, 34, 35, 36, 61, 62, 63, 40, 64, 50, 42, 43, 44, 45, 82, 83, 84, 85, 86, 87, 65, 66, 67, 68, 69, 70, 76, 77, 78, 79, 80, 81, 71, 72, 73, 74, 75] (by decide +kernel) (by decide +kernel)
set_option maxRecDepth 20000 in
theorem gX6_takeFrame_X6_startTracks : GoodIn wsX6_takeFrame (wsV RX6 67 RX6 yX6_startTracks wsX6_startTracks) := goodIn_app (goodIn_of _ (by decide +kernel)) ggX6_takeFrame_X6_startTracks
theorem dX6_takeFrame_0 : decode cX6_takeFrame 0 = .ok (.aload_n 0, 1) := by decide +kernel
theorem dX6_takeFrame_1 : decode cX6_takeFrame 1 = .ok (.getfield 49, 3) := by decide +kernel
theorem dX6_takeFrame_4 : decode cX6_takeFrame 4 = .ok (.aload_n 0, 1) := by decide +kernel
theorem dX6_takeFrame_5 : decode cX6_takeFrame 5 = .ok (.getfield 52, 3) := by decide +kernel
theorem dX6_takeFrame_8 : decode cX6_takeFrame 8 = .ok (.iadd, 1) := by decide +kernel
theorem dX6_takeFrame_9 : decode cX6_takeFrame 9 = .ok (.istore_n 3, 1) := by decide +kernel
theorem dX6_takeFrame_10 : decode cX6_takeFrame 10 = .ok (.aload_n 0, 1) := by decide +kernel
theorem dX6_takeFrame_11 : decode cX6_takeFrame 11 = .ok (.invokevirtual 59, 3) := by decide +kernel
theorem dX6_takeFrame_14 : decode cX6_takeFrame 14 = .ok (.istore 4, 2) := by decide +kernel
theorem dX6_takeFrame_16 : decode cX6_takeFrame 16 = .ok (.aload_n 0, 1) := by decide +kernel
theorem dX6_takeFrame_17 : decode cX6_takeFrame 17 = .ok (.dup, 1) := by decide +kernel
theorem dX6_takeFrame_18 : decode cX6_takeFrame 18 = .ok (.getfield 45, 3) := by decide +kernel
theorem dX6_takeFrame_21 : decode cX6_takeFrame 21 = .ok (.iconst 1, 1) := by decide +kernel
theorem dX6_takeFrame_22 : decode cX6_takeFrame 22 = .ok (.iadd, 1) := by decide +kernel
theorem dX6_takeFrame_23 : decode cX6_takeFrame 23 = .ok (.putfield 45, 3) := by decide +kernel
theorem dX6_takeFrame_26 : decode cX6_takeFrame 26 = .ok (.aload_n 0, 1) := by decide +kernel
theorem dX6_takeFrame_27 : decode cX6_takeFrame 27 = .ok (.aload_n 1, 1) := by decide +kernel
theorem dX6_takeFrame_28 : decode cX6_takeFrame 28 = .ok (.aload_n 2, 1) := by decide +kernel
theorem dX6_takeFrame_29 : decode cX6_takeFrame 29 = .ok (.invokevirtual 63, 3) := by decide +kernel
theorem dX6_takeFrame_32 : decode cX6_takeFrame 32 = .ok (.aload_n 0, 1) := by decide +kernel
theorem dX6_takeFrame_33 : decode cX6_takeFrame 33 = .ok (.aload_n 1, 1) := by decide +kernel
theorem dX6_takeFrame_34 : decode cX6_takeFrame 34 = .ok (.aload_n 2, 1) := by decide +kernel
theorem dX6_takeFrame_35 : decode cX6_takeFrame 35 = .ok (.iload 4, 2) := by decide +kernel
theorem dX6_takeFrame_37 : decode cX6_takeFrame 37 = .ok (.invokevirtual 67, 3) := by decide +kernel
theorem dX6_takeFrame_40 : decode cX6_takeFrame 40 = .ok (.aload_n 0, 1) := by decide +kernel
theorem dX6_takeFrame_41 : decode cX6_takeFrame 41 = .ok (.getfield 49, 3) := by decide +kernel
theorem dX6_takeFrame_44 : decode cX6_takeFrame 44 = .ok (.aload_n 0, 1) := by decide +kernel
theorem dX6_takeFrame_45 : decode cX6_takeFrame 45 = .ok (.getfield 52, 3) := by decide +kernel
theorem dX6_takeFrame_48 : decode cX6_takeFrame 48 = .ok (.iadd, 1) := by decide +kernel
theorem dX6_takeFrame_49 : decode cX6_takeFrame 49 = .ok (.iload_n 3, 1) := by decide +kernel
theorem dX6_takeFrame_50 : decode cX6_takeFrame 50 = .ok (.isub, 1) := by decide +kernel
theorem dX6_takeFrame_51 : decode cX6_takeFrame 51 = .ok (.ireturn, 1) := by decide +kernel
set_option maxRecDepth 20000 in
theorem ggX6_moveTracks_X3_contactOf : GoodIn wsX6_moveTracks wsX3_contactOf := goodIn_r _ [8, 9, 51, 52, 53, 54, 55, 56] (by decide +kernel) (by decide +kernel)
set_option maxRecDepth 20000 in
theorem gX6_moveTracks_X3_contactOf : GoodIn wsX6_moveTracks (wsV RX6 71 RX3 yX3_contactOf wsX3_contactOf) := goodIn_app (goodIn_of _ (by decide +kernel)) ggX6_moveTracks_X3_contactOf
set_option maxRecDepth 20000 in
theorem ggX6_moveTracks_X1_rowOf : GoodIn wsX6_moveTracks wsX1_rowOf := goodIn_r _ [14, 15, 16, 17, 18, 13, 19, 20, 57, 58, 59, 60, 61, 62] (by decide +kernel) (by decide +kernel)
set_option maxRecDepth 20000 in
theorem gX6_moveTracks_X1_rowOf : GoodIn wsX6_moveTracks (wsV RX6 77 RX1 yX1_rowOf wsX1_rowOf) := goodIn_app (goodIn_of _ (by decide +kernel)) ggX6_moveTracks_X1_rowOf
set_option maxRecDepth 20000 in
theorem ggX6_moveTracks_X1_columnOf : GoodIn wsX6_moveTracks wsX1_columnOf := goodIn_r _ [24, 25, 16, 17, 18, 13, 19, 20, 57, 58, 59, 60, 61, 62] (by decide +kernel) (by decide +kernel)
set_option maxRecDepth 20000 in
theorem gX6_moveTracks_X1_columnOf : GoodIn wsX6_moveTracks (wsV RX6 82 RX1 yX1_columnOf wsX1_columnOf) := goodIn_app (goodIn_of _ (by decide +kernel)) ggX6_moveTracks_X1_columnOf
set_option maxRecDepth 20000 in
theorem ggX6_moveTracks_X8_follow : GoodIn wsX6_moveTracks wsX8_follow := goodIn_r _ [30, 31, 32, 33, 34, 46, 47, 48, 49, 50] (by decide +kernel) (by decide +kernel)
set_option maxRecDepth 20000 in
theorem gX6_moveTracks_X8_follow : GoodIn wsX6_moveTracks (wsV RX6 85 RX8 yX8_follow wsX8_follow) := goodIn_app (goodIn_of _ (by decide +kernel)) ggX6_moveTracks_X8_follow
set_option maxRecDepth 20000 in
theorem ggX6_moveTracks_X8_miss : GoodIn wsX6_moveTracks wsX8_miss := goodIn_r _ [38, 34, 39, 46, 47, 48, 49, 50] (by decide +kernel) (by decide +kernel)
set_option maxRecDepth 20000 in
theorem gX6_moveTracks_X8_miss : GoodIn wsX6_moveTracks (wsV RX6 89 RX8 yX8_miss wsX8_miss) := goodIn_app (goodIn_of _ (by decide +kernel)) ggX6_moveTracks_X8_miss
theorem dX6_moveTracks_0 : decode cX6_moveTracks 0 = .ok (.iconst 0, 1) := by decide +kernel
theorem dX6_moveTracks_1 : decode cX6_moveTracks 1 = .ok (.istore_n 3, 1) := by decide +kernel
theorem dX6_moveTracks_2 : decode cX6_moveTracks 2 = .ok (.iload_n 3, 1) := by decide +kernel
theorem dX6_moveTracks_3 : decode cX6_moveTracks 3 = .ok (.bipush 6, 2) := by decide +kernel
theorem dX6_moveTracks_5 : decode cX6_moveTracks 5 = .ok (.if_icmp .ge 91, 3) := by decide +kernel
theorem dX6_moveTracks_8 : decode cX6_moveTracks 8 = .ok (.aload_n 0, 1) := by decide +kernel
theorem dX6_moveTracks_9 : decode cX6_moveTracks 9 = .ok (.getfield 24, 3) := by decide +kernel
theorem dX6_moveTracks_12 : decode cX6_moveTracks 12 = .ok (.iload_n 3, 1) := by decide +kernel
theorem dX6_moveTracks_13 : decode cX6_moveTracks 13 = .ok (.aaload, 1) := by decide +kernel
theorem dX6_moveTracks_14 : decode cX6_moveTracks 14 = .ok (.astore 4, 2) := by decide +kernel
theorem dX6_moveTracks_16 : decode cX6_moveTracks 16 = .ok (.aload_n 2, 1) := by decide +kernel
theorem dX6_moveTracks_17 : decode cX6_moveTracks 17 = .ok (.iload_n 3, 1) := by decide +kernel
theorem dX6_moveTracks_18 : decode cX6_moveTracks 18 = .ok (.invokevirtual 71, 3) := by decide +kernel
theorem dX6_moveTracks_21 : decode cX6_moveTracks 21 = .ok (.istore 5, 2) := by decide +kernel
theorem dX6_moveTracks_23 : decode cX6_moveTracks 23 = .ok (.iload 5, 2) := by decide +kernel
theorem dX6_moveTracks_25 : decode cX6_moveTracks 25 = .ok (.iconst (-1), 1) := by decide +kernel
theorem dX6_moveTracks_26 : decode cX6_moveTracks 26 = .ok (.if_icmp .eq 23, 3) := by decide +kernel
theorem dX6_moveTracks_29 : decode cX6_moveTracks 29 = .ok (.aload 4, 2) := by decide +kernel
theorem dX6_moveTracks_31 : decode cX6_moveTracks 31 = .ok (.aload_n 1, 1) := by decide +kernel
theorem dX6_moveTracks_32 : decode cX6_moveTracks 32 = .ok (.iload 5, 2) := by decide +kernel
theorem dX6_moveTracks_34 : decode cX6_moveTracks 34 = .ok (.invokevirtual 77, 3) := by decide +kernel
theorem dX6_moveTracks_37 : decode cX6_moveTracks 37 = .ok (.aload_n 1, 1) := by decide +kernel
theorem dX6_moveTracks_38 : decode cX6_moveTracks 38 = .ok (.iload 5, 2) := by decide +kernel
theorem dX6_moveTracks_40 : decode cX6_moveTracks 40 = .ok (.invokevirtual 82, 3) := by decide +kernel
theorem dX6_moveTracks_43 : decode cX6_moveTracks 43 = .ok (.invokevirtual 85, 3) := by decide +kernel
theorem dX6_moveTracks_46 : decode cX6_moveTracks 46 = .ok (.goto 44, 3) := by decide +kernel
theorem dX6_moveTracks_49 : decode cX6_moveTracks 49 = .ok (.aload 4, 2) := by decide +kernel
theorem dX6_moveTracks_51 : decode cX6_moveTracks 51 = .ok (.getfield 55, 3) := by decide +kernel
theorem dX6_moveTracks_54 : decode cX6_moveTracks 54 = .ok (.ifCond .eq 36, 3) := by decide +kernel
theorem dX6_moveTracks_57 : decode cX6_moveTracks 57 = .ok (.aload 4, 2) := by decide +kernel
theorem dX6_moveTracks_59 : decode cX6_moveTracks 59 = .ok (.aload_n 0, 1) := by decide +kernel
theorem dX6_moveTracks_60 : decode cX6_moveTracks 60 = .ok (.getfield 18, 3) := by decide +kernel
theorem dX6_moveTracks_63 : decode cX6_moveTracks 63 = .ok (.iconst 4, 1) := by decide +kernel
theorem dX6_moveTracks_64 : decode cX6_moveTracks 64 = .ok (.iaload, 1) := by decide +kernel
theorem dX6_moveTracks_65 : decode cX6_moveTracks 65 = .ok (.invokevirtual 89, 3) := by decide +kernel
theorem dX6_moveTracks_68 : decode cX6_moveTracks 68 = .ok (.aload_n 0, 1) := by decide +kernel
theorem dX6_moveTracks_69 : decode cX6_moveTracks 69 = .ok (.dup, 1) := by decide +kernel
theorem dX6_moveTracks_70 : decode cX6_moveTracks 70 = .ok (.getfield 52, 3) := by decide +kernel
theorem dX6_moveTracks_73 : decode cX6_moveTracks 73 = .ok (.aload 4, 2) := by decide +kernel
theorem dX6_moveTracks_75 : decode cX6_moveTracks 75 = .ok (.getfield 55, 3) := by decide +kernel
theorem dX6_moveTracks_78 : decode cX6_moveTracks 78 = .ok (.ifCond .eq 7, 3) := by decide +kernel
theorem dX6_moveTracks_81 : decode cX6_moveTracks 81 = .ok (.iconst 0, 1) := by decide +kernel
theorem dX6_moveTracks_82 : decode cX6_moveTracks 82 = .ok (.goto 4, 3) := by decide +kernel
theorem dX6_moveTracks_85 : decode cX6_moveTracks 85 = .ok (.iconst 1, 1) := by decide +kernel
theorem dX6_moveTracks_86 : decode cX6_moveTracks 86 = .ok (.iadd, 1) := by decide +kernel
theorem dX6_moveTracks_87 : decode cX6_moveTracks 87 = .ok (.putfield 52, 3) := by decide +kernel
theorem dX6_moveTracks_90 : decode cX6_moveTracks 90 = .ok (.iinc 3 1, 3) := by decide +kernel
theorem dX6_moveTracks_93 : decode cX6_moveTracks 93 = .ok (.goto (-91), 3) := by decide +kernel
theorem dX6_moveTracks_96 : decode cX6_moveTracks 96 = .ok (.return_, 1) := by decide +kernel
set_option maxRecDepth 20000 in
theorem ggX6_startTracks_X3_nextUnassigned : GoodIn wsX6_startTracks wsX3_nextUnassigned := goodIn_r _ [7, 8, 9, 48, 49, 50, 51, 52, 53] (by decide +kernel) (by decide +kernel)
set_option maxRecDepth 20000 in
theorem gX6_startTracks_X3_nextUnassigned : GoodIn wsX6_startTracks (wsV RX6 93 RX3 yX3_nextUnassigned wsX3_nextUnassigned) := goodIn_app (goodIn_of _ (by decide +kernel)) ggX6_startTracks_X3_nextUnassigned
set_option maxRecDepth 20000 in
theorem ggX6_startTracks_X1_rowOf : GoodIn wsX6_startTracks wsX1_rowOf := goodIn_r _ [14, 15, 16, 17, 18, 13, 19, 20, 36, 37, 38, 39, 40, 41] (by decide +kernel) (by decide +kernel)
set_option maxRecDepth 20000 in
theorem gX6_startTracks_X1_rowOf : GoodIn wsX6_startTracks (wsV RX6 77 RX1 yX1_rowOf wsX1_rowOf) := goodIn_app (goodIn_of _ (by decide +kernel)) ggX6_startTracks_X1_rowOf
set_option maxRecDepth 20000 in
theorem ggX6_startTracks_X1_columnOf : GoodIn wsX6_startTracks wsX1_columnOf := goodIn_r _ [24, 25, 16, 17, 18, 13, 19, 20, 36, 37, 38, 39, 40, 41] (by decide +kernel) (by decide +kernel)
set_option maxRecDepth 20000 in
theorem gX6_startTracks_X1_columnOf : GoodIn wsX6_startTracks (wsV RX6 82 RX1 yX1_columnOf wsX1_columnOf) := goodIn_app (goodIn_of _ (by decide +kernel)) ggX6_startTracks_X1_columnOf
set_option maxRecDepth 20000 in
theorem ggX6_startTracks_X8_goDown : GoodIn wsX6_startTracks wsX8_goDown := goodIn_r _ [30, 31, 32, 33, 34, 35, 54, 55, 56, 57, 58] (by decide +kernel) (by decide +kernel)
set_option maxRecDepth 20000 in
theorem gX6_startTracks_X8_goDown : GoodIn wsX6_startTracks (wsV RX6 99 RX8 yX8_goDown wsX8_goDown) := goodIn_app (goodIn_of _ (by decide +kernel)) ggX6_startTracks_X8_goDown
theorem dX6_startTracks_0 : decode cX6_startTracks 0 = .ok (.iconst 0, 1) := by decide +kernel
theorem dX6_startTracks_1 : decode cX6_startTracks 1 = .ok (.istore 4, 2) := by decide +kernel
theorem dX6_startTracks_3 : decode cX6_startTracks 3 = .ok (.iconst 0, 1) := by decide +kernel
theorem dX6_startTracks_4 : decode cX6_startTracks 4 = .ok (.istore 5, 2) := by decide +kernel
theorem dX6_startTracks_6 : decode cX6_startTracks 6 = .ok (.iload 5, 2) := by decide +kernel
theorem dX6_startTracks_8 : decode cX6_startTracks 8 = .ok (.bipush 6, 2) := by decide +kernel
theorem dX6_startTracks_10 : decode cX6_startTracks 10 = .ok (.if_icmp .ge 70, 3) := by decide +kernel
theorem dX6_startTracks_13 : decode cX6_startTracks 13 = .ok (.iload_n 3, 1) := by decide +kernel
theorem dX6_startTracks_14 : decode cX6_startTracks 14 = .ok (.iconst 1, 1) := by decide +kernel
theorem dX6_startTracks_15 : decode cX6_startTracks 15 = .ok (.iload 5, 2) := by decide +kernel
theorem dX6_startTracks_17 : decode cX6_startTracks 17 = .ok (.ishl, 1) := by decide +kernel
theorem dX6_startTracks_18 : decode cX6_startTracks 18 = .ok (.iand, 1) := by decide +kernel
theorem dX6_startTracks_19 : decode cX6_startTracks 19 = .ok (.ifCond .ne 55, 3) := by decide +kernel
theorem dX6_startTracks_22 : decode cX6_startTracks 22 = .ok (.aload_n 2, 1) := by decide +kernel
theorem dX6_startTracks_23 : decode cX6_startTracks 23 = .ok (.iload 4, 2) := by decide +kernel
theorem dX6_startTracks_25 : decode cX6_startTracks 25 = .ok (.invokevirtual 93, 3) := by decide +kernel
theorem dX6_startTracks_28 : decode cX6_startTracks 28 = .ok (.istore 4, 2) := by decide +kernel
theorem dX6_startTracks_30 : decode cX6_startTracks 30 = .ok (.iload 4, 2) := by decide +kernel
theorem dX6_startTracks_32 : decode cX6_startTracks 32 = .ok (.aload_n 1, 1) := by decide +kernel
theorem dX6_startTracks_33 : decode cX6_startTracks 33 = .ok (.getfield 96, 3) := by decide +kernel
theorem dX6_startTracks_36 : decode cX6_startTracks 36 = .ok (.if_icmp .ge 38, 3) := by decide +kernel
theorem dX6_startTracks_39 : decode cX6_startTracks 39 = .ok (.aload_n 0, 1) := by decide +kernel
theorem dX6_startTracks_40 : decode cX6_startTracks 40 = .ok (.getfield 24, 3) := by decide +kernel
theorem dX6_startTracks_43 : decode cX6_startTracks 43 = .ok (.iload 5, 2) := by decide +kernel
theorem dX6_startTracks_45 : decode cX6_startTracks 45 = .ok (.aaload, 1) := by decide +kernel
theorem dX6_startTracks_46 : decode cX6_startTracks 46 = .ok (.aload_n 1, 1) := by decide +kernel
theorem dX6_startTracks_47 : decode cX6_startTracks 47 = .ok (.iload 4, 2) := by decide +kernel
theorem dX6_startTracks_49 : decode cX6_startTracks 49 = .ok (.invokevirtual 77, 3) := by decide +kernel
theorem dX6_startTracks_52 : decode cX6_startTracks 52 = .ok (.aload_n 1, 1) := by decide +kernel
theorem dX6_startTracks_53 : decode cX6_startTracks 53 = .ok (.iload 4, 2) := by decide +kernel
theorem dX6_startTracks_55 : decode cX6_startTracks 55 = .ok (.invokevirtual 82, 3) := by decide +kernel
theorem dX6_startTracks_58 : decode cX6_startTracks 58 = .ok (.invokevirtual 99, 3) := by decide +kernel
theorem dX6_startTracks_61 : decode cX6_startTracks 61 = .ok (.aload_n 0, 1) := by decide +kernel
theorem dX6_startTracks_62 : decode cX6_startTracks 62 = .ok (.dup, 1) := by decide +kernel
theorem dX6_startTracks_63 : decode cX6_startTracks 63 = .ok (.getfield 49, 3) := by decide +kernel
theorem dX6_startTracks_66 : decode cX6_startTracks 66 = .ok (.iconst 1, 1) := by decide +kernel
theorem dX6_startTracks_67 : decode cX6_startTracks 67 = .ok (.iadd, 1) := by decide +kernel
theorem dX6_startTracks_68 : decode cX6_startTracks 68 = .ok (.putfield 49, 3) := by decide +kernel
