theorem dX10_readsForce_11 : decode cX10_readsForce 11 = .ok (.ifCond .ne 5, 3) := by decide +kernel
theorem dX10_readsForce_14 : decode cX10_readsForce 14 = .ok (.iconst 0, 1) := by decide +kernel
theorem dX10_readsForce_15 : decode cX10_readsForce 15 = .ok (.ireturn, 1) := by decide +kernel
theorem dX10_readsForce_16 : decode cX10_readsForce 16 = .ok (.aload_n 0, 1) := by decide +kernel
theorem dX10_readsForce_17 : decode cX10_readsForce 17 = .ok (.aload_n 0, 1) := by decide +kernel
theorem dX10_readsForce_18 : decode cX10_readsForce 18 = .ok (.invokevirtual 162, 3) := by decide +kernel
theorem dX10_readsForce_21 : decode cX10_readsForce 21 = .ok (.bipush 48, 2) := by decide +kernel
theorem dX10_readsForce_23 : decode cX10_readsForce 23 = .ok (.isub, 1) := by decide +kernel
theorem dX10_readsForce_24 : decode cX10_readsForce 24 = .ok (.putfield 165, 3) := by decide +kernel
theorem dX10_readsForce_27 : decode cX10_readsForce 27 = .ok (.aload_n 0, 1) := by decide +kernel
theorem dX10_readsForce_28 : decode cX10_readsForce 28 = .ok (.dup, 1) := by decide +kernel
theorem dX10_readsForce_29 : decode cX10_readsForce 29 = .ok (.getfield 159, 3) := by decide +kernel
theorem dX10_readsForce_32 : decode cX10_readsForce 32 = .ok (.iconst 1, 1) := by decide +kernel
theorem dX10_readsForce_33 : decode cX10_readsForce 33 = .ok (.iadd, 1) := by decide +kernel
theorem dX10_readsForce_34 : decode cX10_readsForce 34 = .ok (.putfield 159, 3) := by decide +kernel
theorem dX10_readsForce_37 : decode cX10_readsForce 37 = .ok (.aload_n 0, 1) := by decide +kernel
theorem dX10_readsForce_38 : decode cX10_readsForce 38 = .ok (.invokevirtual 162, 3) := by decide +kernel
theorem dX10_readsForce_41 : decode cX10_readsForce 41 = .ok (.bipush 48, 2) := by decide +kernel
theorem dX10_readsForce_43 : decode cX10_readsForce 43 = .ok (.bipush 57, 2) := by decide +kernel
theorem dX10_readsForce_45 : decode cX10_readsForce 45 = .ok (.invokestatic 47, 3) := by decide +kernel
theorem dX10_readsForce_48 : decode cX10_readsForce 48 = .ok (.ifCond .eq 56, 3) := by decide +kernel
theorem dX10_readsForce_51 : decode cX10_readsForce 51 = .ok (.bipush 10, 2) := by decide +kernel
theorem dX10_readsForce_53 : decode cX10_readsForce 53 = .ok (.aload_n 0, 1) := by decide +kernel
theorem dX10_readsForce_54 : decode cX10_readsForce 54 = .ok (.getfield 165, 3) := by decide +kernel
theorem dX10_readsForce_57 : decode cX10_readsForce 57 = .ok (.imul, 1) := by decide +kernel
theorem dX10_readsForce_58 : decode cX10_readsForce 58 = .ok (.aload_n 0, 1) := by decide +kernel
theorem dX10_readsForce_59 : decode cX10_readsForce 59 = .ok (.invokevirtual 162, 3) := by decide +kernel
theorem dX10_readsForce_62 : decode cX10_readsForce 62 = .ok (.iadd, 1) := by decide +kernel
theorem dX10_readsForce_63 : decode cX10_readsForce 63 = .ok (.bipush 48, 2) := by decide +kernel
theorem dX10_readsForce_65 : decode cX10_readsForce 65 = .ok (.isub, 1) := by decide +kernel
theorem dX10_readsForce_66 : decode cX10_readsForce 66 = .ok (.sipush 255, 3) := by decide +kernel
theorem dX10_readsForce_69 : decode cX10_readsForce 69 = .ok (.if_icmp .gt 35, 3) := by decide +kernel
theorem dX10_readsForce_72 : decode cX10_readsForce 72 = .ok (.aload_n 0, 1) := by decide +kernel
theorem dX10_readsForce_73 : decode cX10_readsForce 73 = .ok (.bipush 10, 2) := by decide +kernel
theorem dX10_readsForce_75 : decode cX10_readsForce 75 = .ok (.aload_n 0, 1) := by decide +kernel
theorem dX10_readsForce_76 : decode cX10_readsForce 76 = .ok (.getfield 165, 3) := by decide +kernel
theorem dX10_readsForce_79 : decode cX10_readsForce 79 = .ok (.imul, 1) := by decide +kernel
theorem dX10_readsForce_80 : decode cX10_readsForce 80 = .ok (.aload_n 0, 1) := by decide +kernel
theorem dX10_readsForce_81 : decode cX10_readsForce 81 = .ok (.invokevirtual 162, 3) := by decide +kernel
theorem dX10_readsForce_84 : decode cX10_readsForce 84 = .ok (.iadd, 1) := by decide +kernel
theorem dX10_readsForce_85 : decode cX10_readsForce 85 = .ok (.bipush 48, 2) := by decide +kernel
theorem dX10_readsForce_87 : decode cX10_readsForce 87 = .ok (.isub, 1) := by decide +kernel
theorem dX10_readsForce_88 : decode cX10_readsForce 88 = .ok (.putfield 165, 3) := by decide +kernel
theorem dX10_readsForce_91 : decode cX10_readsForce 91 = .ok (.aload_n 0, 1) := by decide +kernel
theorem dX10_readsForce_92 : decode cX10_readsForce 92 = .ok (.dup, 1) := by decide +kernel
theorem dX10_readsForce_93 : decode cX10_readsForce 93 = .ok (.getfield 159, 3) := by decide +kernel
theorem dX10_readsForce_96 : decode cX10_readsForce 96 = .ok (.iconst 1, 1) := by decide +kernel
theorem dX10_readsForce_97 : decode cX10_readsForce 97 = .ok (.iadd, 1) := by decide +kernel
theorem dX10_readsForce_98 : decode cX10_readsForce 98 = .ok (.putfield 159, 3) := by decide +kernel
theorem dX10_readsForce_101 : decode cX10_readsForce 101 = .ok (.goto (-64), 3) := by decide +kernel
theorem dX10_readsForce_104 : decode cX10_readsForce 104 = .ok (.iconst 1, 1) := by decide +kernel
theorem dX10_readsForce_105 : decode cX10_readsForce 105 = .ok (.ireturn, 1) := by decide +kernel
set_option maxRecDepth 20000 in
theorem ggX10_readsCommand_X10_sign : GoodIn wsX10_readsCommand wsX10_sign := goodIn_r _ [9, 3, 10, 11, 24, 25, 26, 27, 28, 29, 30, 31, 32, 33, 34, 35, 36, 37, 38, 39, 40, 41, 42, 43] (by decide +kernel) (by decide +kernel)
set_option maxRecDepth 20000 in
theorem gX10_readsCommand_X10_sign : GoodIn wsX10_readsCommand (wsV RX10 162 RX10 yX10_sign wsX10_sign) := goodIn_app (goodIn_of _ (by decide +kernel)) ggX10_readsCommand_X10_sign
set_option maxRecDepth 20000 in
theorem ggX10_readsCommand_X10_takes : GoodIn wsX10_readsCommand wsX10_takes := goodIn_r _ [15, 3, 5, 6, 7, 8, 9, 10, 11, 24, 25, 26, 27, 28, 29, 30, 31, 32, 33, 34, 35, 36, 37, 38, 39, 40, 41, 42, 43] (by decide +kernel) (by decide +kernel)
set_option maxRecDepth 20000 in
theorem gX10_readsCommand_X10_takes : GoodIn wsX10_readsCommand (wsV RX10 171 RX10 yX10_takes wsX10_takes) := goodIn_app (goodIn_of _ (by decide +kernel)) ggX10_readsCommand_X10_takes
set_option maxRecDepth 20000 in
theorem ggX10_readsCommand_X10_in : GoodIn wsX10_readsCommand wsX10_in := goodIn_r _ [18] (by decide +kernel) (by decide +kernel)
set_option maxRecDepth 20000 in
theorem gX10_readsCommand_X10_in : GoodIn wsX10_readsCommand (va_wsS RX10 47 yX10_in wsX10_in) := goodIn_app (goodIn_of _ (by decide +kernel)) ggX10_readsCommand_X10_in
set_option maxRecDepth 20000 in
theorem ggX10_readsCommand_X10_readsForce : GoodIn wsX10_readsCommand wsX10_readsForce := goodIn_r _ [22, 23, 3, 5, 6, 7, 8, 9, 10, 11, 16, 17, 18, 24, 25, 26, 27, 28, 29, 30, 31, 32, 33, 34, 35, 36, 37, 38, 39, 40, 41, 42, 43] (by decide +kernel) (by decide +kernel)
set_option maxRecDepth 20000 in
theorem gX10_readsCommand_X10_readsForce : GoodIn wsX10_readsCommand (wsV RX10 180 RX10 yX10_readsForce wsX10_readsForce) := goodIn_app (goodIn_of _ (by decide +kernel)) ggX10_readsCommand_X10_readsForce
theorem dX10_readsCommand_0 : decode cX10_readsCommand 0 = .ok (.aload_n 0, 1) := by decide +kernel
theorem dX10_readsCommand_1 : decode cX10_readsCommand 1 = .ok (.aload_n 0, 1) := by decide +kernel
theorem dX10_readsCommand_2 : decode cX10_readsCommand 2 = .ok (.invokevirtual 162, 3) := by decide +kernel
theorem dX10_readsCommand_5 : decode cX10_readsCommand 5 = .ok (.putfield 168, 3) := by decide +kernel
theorem dX10_readsCommand_8 : decode cX10_readsCommand 8 = .ok (.aload_n 0, 1) := by decide +kernel
theorem dX10_readsCommand_9 : decode cX10_readsCommand 9 = .ok (.bipush 120, 2) := by decide +kernel
theorem dX10_readsCommand_11 : decode cX10_readsCommand 11 = .ok (.invokevirtual 171, 3) := by decide +kernel
theorem dX10_readsCommand_14 : decode cX10_readsCommand 14 = .ok (.ifCond .ne 21, 3) := by decide +kernel
theorem dX10_readsCommand_17 : decode cX10_readsCommand 17 = .ok (.aload_n 0, 1) := by decide +kernel
theorem dX10_readsCommand_18 : decode cX10_readsCommand 18 = .ok (.bipush 98, 2) := by decide +kernel
theorem dX10_readsCommand_20 : decode cX10_readsCommand 20 = .ok (.invokevirtual 171, 3) := by decide +kernel
theorem dX10_readsCommand_23 : decode cX10_readsCommand 23 = .ok (.ifCond .ne 12, 3) := by decide +kernel
theorem dX10_readsCommand_26 : decode cX10_readsCommand 26 = .ok (.aload_n 0, 1) := by decide +kernel
theorem dX10_readsCommand_27 : decode cX10_readsCommand 27 = .ok (.bipush 115, 2) := by decide +kernel
theorem dX10_readsCommand_29 : decode cX10_readsCommand 29 = .ok (.invokevirtual 171, 3) := by decide +kernel
theorem dX10_readsCommand_32 : decode cX10_readsCommand 32 = .ok (.ifCond .eq 5, 3) := by decide +kernel
theorem dX10_readsCommand_35 : decode cX10_readsCommand 35 = .ok (.iconst 1, 1) := by decide +kernel
theorem dX10_readsCommand_36 : decode cX10_readsCommand 36 = .ok (.ireturn, 1) := by decide +kernel
theorem dX10_readsCommand_37 : decode cX10_readsCommand 37 = .ok (.aload_n 0, 1) := by decide +kernel
theorem dX10_readsCommand_38 : decode cX10_readsCommand 38 = .ok (.bipush 112, 2) := by decide +kernel
theorem dX10_readsCommand_40 : decode cX10_readsCommand 40 = .ok (.invokevirtual 171, 3) := by decide +kernel
theorem dX10_readsCommand_43 : decode cX10_readsCommand 43 = .ok (.ifCond .ne 5, 3) := by decide +kernel
theorem dX10_readsCommand_46 : decode cX10_readsCommand 46 = .ok (.iconst 0, 1) := by decide +kernel
theorem dX10_readsCommand_47 : decode cX10_readsCommand 47 = .ok (.ireturn, 1) := by decide +kernel
theorem dX10_readsCommand_48 : decode cX10_readsCommand 48 = .ok (.aload_n 0, 1) := by decide +kernel
theorem dX10_readsCommand_49 : decode cX10_readsCommand 49 = .ok (.aload_n 0, 1) := by decide +kernel
theorem dX10_readsCommand_50 : decode cX10_readsCommand 50 = .ok (.invokevirtual 162, 3) := by decide +kernel
theorem dX10_readsCommand_53 : decode cX10_readsCommand 53 = .ok (.bipush 48, 2) := by decide +kernel
theorem dX10_readsCommand_55 : decode cX10_readsCommand 55 = .ok (.bipush 55, 2) := by decide +kernel
theorem dX10_readsCommand_57 : decode cX10_readsCommand 57 = .ok (.invokestatic 47, 3) := by decide +kernel
theorem dX10_readsCommand_60 : decode cX10_readsCommand 60 = .ok (.ifCond .eq 13, 3) := by decide +kernel
theorem dX10_readsCommand_63 : decode cX10_readsCommand 63 = .ok (.aload_n 0, 1) := by decide +kernel
theorem dX10_readsCommand_64 : decode cX10_readsCommand 64 = .ok (.invokevirtual 162, 3) := by decide +kernel
theorem dX10_readsCommand_67 : decode cX10_readsCommand 67 = .ok (.bipush 48, 2) := by decide +kernel
theorem dX10_readsCommand_69 : decode cX10_readsCommand 69 = .ok (.isub, 1) := by decide +kernel
theorem dX10_readsCommand_70 : decode cX10_readsCommand 70 = .ok (.goto 4, 3) := by decide +kernel
theorem dX10_readsCommand_73 : decode cX10_readsCommand 73 = .ok (.iconst (-1), 1) := by decide +kernel
theorem dX10_readsCommand_74 : decode cX10_readsCommand 74 = .ok (.putfield 174, 3) := by decide +kernel
theorem dX10_readsCommand_77 : decode cX10_readsCommand 77 = .ok (.aload_n 0, 1) := by decide +kernel
theorem dX10_readsCommand_78 : decode cX10_readsCommand 78 = .ok (.dup, 1) := by decide +kernel
theorem dX10_readsCommand_79 : decode cX10_readsCommand 79 = .ok (.getfield 159, 3) := by decide +kernel
theorem dX10_readsCommand_82 : decode cX10_readsCommand 82 = .ok (.aload_n 0, 1) := by decide +kernel
theorem dX10_readsCommand_83 : decode cX10_readsCommand 83 = .ok (.getfield 174, 3) := by decide +kernel
theorem dX10_readsCommand_86 : decode cX10_readsCommand 86 = .ok (.iconst (-1), 1) := by decide +kernel
theorem dX10_readsCommand_87 : decode cX10_readsCommand 87 = .ok (.if_icmp .ne 7, 3) := by decide +kernel
theorem dX10_readsCommand_90 : decode cX10_readsCommand 90 = .ok (.iconst 0, 1) := by decide +kernel
theorem dX10_readsCommand_91 : decode cX10_readsCommand 91 = .ok (.goto 4, 3) := by decide +kernel
theorem dX10_readsCommand_94 : decode cX10_readsCommand 94 = .ok (.iconst 1, 1) := by decide +kernel
theorem dX10_readsCommand_95 : decode cX10_readsCommand 95 = .ok (.iadd, 1) := by decide +kernel
theorem dX10_readsCommand_96 : decode cX10_readsCommand 96 = .ok (.putfield 159, 3) := by decide +kernel
theorem dX10_readsCommand_99 : decode cX10_readsCommand 99 = .ok (.aload_n 0, 1) := by decide +kernel
theorem dX10_readsCommand_100 : decode cX10_readsCommand 100 = .ok (.getfield 174, 3) := by decide +kernel
theorem dX10_readsCommand_103 : decode cX10_readsCommand 103 = .ok (.iconst (-1), 1) := by decide +kernel
theorem dX10_readsCommand_104 : decode cX10_readsCommand 104 = .ok (.if_icmp .ne 5, 3) := by decide +kernel
theorem dX10_readsCommand_107 : decode cX10_readsCommand 107 = .ok (.iconst 0, 1) := by decide +kernel
theorem dX10_readsCommand_108 : decode cX10_readsCommand 108 = .ok (.ireturn, 1) := by decide +kernel
theorem dX10_readsCommand_109 : decode cX10_readsCommand 109 = .ok (.aload_n 0, 1) := by decide +kernel
theorem dX10_readsCommand_110 : decode cX10_readsCommand 110 = .ok (.aload_n 0, 1) := by decide +kernel
theorem dX10_readsCommand_111 : decode cX10_readsCommand 111 = .ok (.invokevirtual 162, 3) := by decide +kernel
theorem dX10_readsCommand_114 : decode cX10_readsCommand 114 = .ok (.bipush 48, 2) := by decide +kernel
theorem dX10_readsCommand_116 : decode cX10_readsCommand 116 = .ok (.bipush 53, 2) := by decide +kernel
theorem dX10_readsCommand_118 : decode cX10_readsCommand 118 = .ok (.invokestatic 47, 3) := by decide +kernel
theorem dX10_readsCommand_121 : decode cX10_readsCommand 121 = .ok (.ifCond .eq 13, 3) := by decide +kernel
theorem dX10_readsCommand_124 : decode cX10_readsCommand 124 = .ok (.aload_n 0, 1) := by decide +kernel
theorem dX10_readsCommand_125 : decode cX10_readsCommand 125 = .ok (.invokevirtual 162, 3) := by decide +kernel
theorem dX10_readsCommand_128 : decode cX10_readsCommand 128 = .ok (.bipush 48, 2) := by decide +kernel
theorem dX10_readsCommand_130 : decode cX10_readsCommand 130 = .ok (.isub, 1) := by decide +kernel
theorem dX10_readsCommand_131 : decode cX10_readsCommand 131 = .ok (.goto 4, 3) := by decide +kernel
theorem dX10_readsCommand_134 : decode cX10_readsCommand 134 = .ok (.iconst (-1), 1) := by decide +kernel
theorem dX10_readsCommand_135 : decode cX10_readsCommand 135 = .ok (.putfield 177, 3) := by decide +kernel
theorem dX10_readsCommand_138 : decode cX10_readsCommand 138 = .ok (.aload_n 0, 1) := by decide +kernel
theorem dX10_readsCommand_139 : decode cX10_readsCommand 139 = .ok (.dup, 1) := by decide +kernel
theorem dX10_readsCommand_140 : decode cX10_readsCommand 140 = .ok (.getfield 159, 3) := by decide +kernel
theorem dX10_readsCommand_143 : decode cX10_readsCommand 143 = .ok (.aload_n 0, 1) := by decide +kernel
theorem dX10_readsCommand_144 : decode cX10_readsCommand 144 = .ok (.getfield 177, 3) := by decide +kernel
theorem dX10_readsCommand_147 : decode cX10_readsCommand 147 = .ok (.iconst (-1), 1) := by decide +kernel
theorem dX10_readsCommand_148 : decode cX10_readsCommand 148 = .ok (.if_icmp .ne 7, 3) := by decide +kernel
theorem dX10_readsCommand_151 : decode cX10_readsCommand 151 = .ok (.iconst 0, 1) := by decide +kernel
theorem dX10_readsCommand_152 : decode cX10_readsCommand 152 = .ok (.goto 4, 3) := by decide +kernel
theorem dX10_readsCommand_155 : decode cX10_readsCommand 155 = .ok (.iconst 1, 1) := by decide +kernel
theorem dX10_readsCommand_156 : decode cX10_readsCommand 156 = .ok (.iadd, 1) := by decide +kernel
theorem dX10_readsCommand_157 : decode cX10_readsCommand 157 = .ok (.putfield 159, 3) := by decide +kernel
theorem dX10_readsCommand_160 : decode cX10_readsCommand 160 = .ok (.aload_n 0, 1) := by decide +kernel
theorem dX10_readsCommand_161 : decode cX10_readsCommand 161 = .ok (.getfield 177, 3) := by decide +kernel
theorem dX10_readsCommand_164 : decode cX10_readsCommand 164 = .ok (.iconst (-1), 1) := by decide +kernel
theorem dX10_readsCommand_165 : decode cX10_readsCommand 165 = .ok (.if_icmp .eq 23, 3) := by decide +kernel
theorem dX10_readsCommand_168 : decode cX10_readsCommand 168 = .ok (.aload_n 0, 1) := by decide +kernel
theorem dX10_readsCommand_169 : decode cX10_readsCommand 169 = .ok (.bipush 44, 2) := by decide +kernel
theorem dX10_readsCommand_171 : decode cX10_readsCommand 171 = .ok (.invokevirtual 171, 3) := by decide +kernel
theorem dX10_readsCommand_174 : decode cX10_readsCommand 174 = .ok (.ifCond .eq 14, 3) := by decide +kernel
theorem dX10_readsCommand_177 : decode cX10_readsCommand 177 = .ok (.aload_n 0, 1) := by decide +kernel
theorem dX10_readsCommand_178 : decode cX10_readsCommand 178 = .ok (.invokevirtual 180, 3) := by decide +kernel
theorem dX10_readsCommand_181 : decode cX10_readsCommand 181 = .ok (.ifCond .eq 7, 3) := by decide +kernel
theorem dX10_readsCommand_184 : decode cX10_readsCommand 184 = .ok (.iconst 1, 1) := by decide +kernel
theorem dX10_readsCommand_185 : decode cX10_readsCommand 185 = .ok (.goto 4, 3) := by decide +kernel
theorem dX10_readsCommand_188 : decode cX10_readsCommand 188 = .ok (.iconst 0, 1) := by decide +kernel
theorem dX10_readsCommand_189 : decode cX10_readsCommand 189 = .ok (.ireturn, 1) := by decide +kernel
set_option maxRecDepth 20000 in
theorem ggX10_isValid_X10_readsCommand : GoodIn wsX10_isValid wsX10_readsCommand := goodIn_r _ [7, 8, 9, 1, 10, 11, 12, 13, 6, 14, 2, 15, 16, 17, 18, 19, 20, 21, 22, 23, 24, 25, 26, 27, 28, 29, 30, 31, 32, 33, 34, 35, 36, 37, 38, 39, 40, 41, 42, 43, 44, 45, 46, 47] (by decide +kernel) (by decide +kernel)
set_option maxRecDepth 20000 in
theorem gX10_isValid_X10_readsCommand : GoodIn wsX10_isValid (wsV RX10 184 RX10 yX10_readsCommand wsX10_readsCommand) := goodIn_app (goodIn_of _ (by decide +kernel)) ggX10_isValid_X10_readsCommand
set_option maxRecDepth 20000 in
theorem ggX10_isValid_X10_takes : GoodIn wsX10_isValid wsX10_takes := goodIn_r _ [19, 1, 11, 12, 13, 6, 14, 2, 15, 28, 29, 30, 31, 32, 33, 34, 35, 36, 37, 38, 39, 40, 41, 42, 43, 44, 45, 46, 47] (by decide +kernel) (by decide +kernel)
set_option maxRecDepth 20000 in
theorem gX10_isValid_X10_takes : GoodIn wsX10_isValid (wsV RX10 171 RX10 yX10_takes wsX10_takes) := goodIn_app (goodIn_of _ (by decide +kernel)) ggX10_isValid_X10_takes
theorem dX10_isValid_0 : decode cX10_isValid 0 = .ok (.aload_n 0, 1) := by decide +kernel
theorem dX10_isValid_1 : decode cX10_isValid 1 = .ok (.iconst 0, 1) := by decide +kernel
theorem dX10_isValid_2 : decode cX10_isValid 2 = .ok (.putfield 159, 3) := by decide +kernel
theorem dX10_isValid_5 : decode cX10_isValid 5 = .ok (.aload_n 0, 1) := by decide +kernel
theorem dX10_isValid_6 : decode cX10_isValid 6 = .ok (.invokevirtual 184, 3) := by decide +kernel
theorem dX10_isValid_9 : decode cX10_isValid 9 = .ok (.ifCond .eq 27, 3) := by decide +kernel
theorem dX10_isValid_12 : decode cX10_isValid 12 = .ok (.aload_n 0, 1) := by decide +kernel
theorem dX10_isValid_13 : decode cX10_isValid 13 = .ok (.getfield 159, 3) := by decide +kernel
theorem dX10_isValid_16 : decode cX10_isValid 16 = .ok (.aload_n 0, 1) := by decide +kernel
theorem dX10_isValid_17 : decode cX10_isValid 17 = .ok (.getfield 156, 3) := by decide +kernel
theorem dX10_isValid_20 : decode cX10_isValid 20 = .ok (.if_icmp .ne 5, 3) := by decide +kernel
theorem dX10_isValid_23 : decode cX10_isValid 23 = .ok (.iconst 1, 1) := by decide +kernel
theorem dX10_isValid_24 : decode cX10_isValid 24 = .ok (.ireturn, 1) := by decide +kernel
theorem dX10_isValid_25 : decode cX10_isValid 25 = .ok (.aload_n 0, 1) := by decide +kernel
theorem dX10_isValid_26 : decode cX10_isValid 26 = .ok (.bipush 59, 2) := by decide +kernel
theorem dX10_isValid_28 : decode cX10_isValid 28 = .ok (.invokevirtual 171, 3) := by decide +kernel
theorem dX10_isValid_31 : decode cX10_isValid 31 = .ok (.ifCond .ne (-26), 3) := by decide +kernel
theorem dX10_isValid_34 : decode cX10_isValid 34 = .ok (.iconst 0, 1) := by decide +kernel
theorem dX10_isValid_35 : decode cX10_isValid 35 = .ok (.ireturn, 1) := by decide +kernel
theorem dX10_isValid_36 : decode cX10_isValid 36 = .ok (.iconst 0, 1) := by decide +kernel
theorem dX10_isValid_37 : decode cX10_isValid 37 = .ok (.ireturn, 1) := by decide +kernel
set_option maxRecDepth 20000 in
theorem ggX10_errorPosition_X10_isValid : GoodIn wsX10_errorPosition wsX10_isValid := goodIn_r _ [7, 2, 8, 9, 10, 11, 6, 12, 13, 14, 15, 16, 17, 18, 19, 20, 21, 22, 23, 24, 25, 26, 27, 28, 29, 30, 31, 32, 33, 34, 35, 36, 37, 38, 39, 40, 41, 42, 43, 44, 45, 46, 47, 48, 49, 50, 51, 52] (by decide +kernel) (by decide +kernel)
set_option maxRecDepth 20000 in
theorem gX10_errorPosition_X10_isValid : GoodIn wsX10_errorPosition (wsV RX10 187 RX10 yX10_isValid wsX10_isValid) := goodIn_app (goodIn_of _ (by decide +kernel)) ggX10_errorPosition_X10_isValid
theorem dX10_errorPosition_0 : decode cX10_errorPosition 0 = .ok (.aload_n 0, 1) := by decide +kernel
theorem dX10_errorPosition_1 : decode cX10_errorPosition 1 = .ok (.iconst 0, 1) := by decide +kernel
theorem dX10_errorPosition_2 : decode cX10_errorPosition 2 = .ok (.putfield 43, 3) := by decide +kernel
theorem dX10_errorPosition_5 : decode cX10_errorPosition 5 = .ok (.aload_n 0, 1) := by decide +kernel
theorem dX10_errorPosition_6 : decode cX10_errorPosition 6 = .ok (.invokevirtual 187, 3) := by decide +kernel
theorem dX10_errorPosition_9 : decode cX10_errorPosition 9 = .ok (.ifCond .eq 7, 3) := by decide +kernel
theorem dX10_errorPosition_12 : decode cX10_errorPosition 12 = .ok (.iconst (-1), 1) := by decide +kernel
theorem dX10_errorPosition_13 : decode cX10_errorPosition 13 = .ok (.goto 7, 3) := by decide +kernel
theorem dX10_errorPosition_16 : decode cX10_errorPosition 16 = .ok (.aload_n 0, 1) := by decide +kernel
theorem dX10_errorPosition_17 : decode cX10_errorPosition 17 = .ok (.getfield 159, 3) := by decide +kernel
theorem dX10_errorPosition_20 : decode cX10_errorPosition 20 = .ok (.ireturn, 1) := by decide +kernel
set_option maxRecDepth 20000 in
theorem ggX10_runText_X10_isValid : GoodIn wsX10_runText wsX10_isValid := goodIn_r _ [10, 1, 11, 12, 13, 14, 9, 15, 2, 3, 4, 16, 17, 18, 19, 20, 21, 22, 23, 24, 25, 26, 27, 28, 29, 30, 31, 5, 148, 149, 150, 151, 152, 153, 154, 155, 156, 157, 158, 159, 160, 161, 162, 163, 164, 165, 166, 167] (by decide +kernel) (by decide +kernel)
set_option maxRecDepth 20000 in
theorem gX10_runText_X10_isValid : GoodIn wsX10_runText (wsV RX10 187 RX10 yX10_isValid wsX10_isValid) := goodIn_app (goodIn_of _ (by decide +kernel)) ggX10_runText_X10_isValid
set_option maxRecDepth 20000 in
theorem ggX10_runText_X10_holds : GoodIn wsX10_runText wsX10_holds := goodIn_r _ [35, 36, 148, 149, 150, 151, 152, 153, 154, 155, 156, 157, 158, 159, 160, 161, 162, 163, 164, 165, 166, 167] (by decide +kernel) (by decide +kernel)
set_option maxRecDepth 20000 in
theorem gX10_runText_X10_holds : GoodIn wsX10_runText (wsV RX10 132 RX10 yX10_holds wsX10_holds) := goodIn_app (goodIn_of _ (by decide +kernel)) ggX10_runText_X10_holds
set_option maxRecDepth 20000 in
theorem ggX10_runText_X10_keeps : GoodIn wsX10_runText wsX10_keeps := goodIn_r _ [40, 41, 42, 43, 44, 9, 45, 46, 148, 149, 150, 151, 152, 153, 154, 155, 156, 157, 158, 159, 160, 161, 162, 163, 164, 165, 166, 167] (by decide +kernel) (by decide +kernel)
set_option maxRecDepth 20000 in
theorem gX10_runText_X10_keeps : GoodIn wsX10_runText (wsV RX10 125 RX10 yX10_keeps wsX10_keeps) := goodIn_app (goodIn_of _ (by decide +kernel)) ggX10_runText_X10_keeps
set_option maxRecDepth 20000 in
theorem ggX10_runText_X10_readsCommand : GoodIn wsX10_runText wsX10_readsCommand := goodIn_r _ [15, 2, 3, 1, 4, 16, 17, 18, 9, 19, 11, 20, 21, 22, 23, 24, 25, 26, 27, 28, 29, 30, 31, 5, 148, 149, 150, 151, 152, 153, 154, 155, 156, 157, 158, 159, 160, 161, 162, 163, 164, 165, 166, 167] (by decide +kernel) (by decide +kernel)
set_option maxRecDepth 20000 in
theorem gX10_runText_X10_readsCommand : GoodIn wsX10_runText (wsV RX10 184 RX10 yX10_readsCommand wsX10_readsCommand) := goodIn_app (goodIn_of _ (by decide +kernel)) ggX10_runText_X10_readsCommand
set_option maxRecDepth 20000 in
theorem ggX10_runText_X10_presses : GoodIn wsX10_runText wsX10_presses := goodIn_r _ [50, 46, 51, 52, 9, 53, 25, 26, 27, 148, 149, 150, 151, 152, 153, 154, 155, 156, 157, 158, 159, 160, 161, 162, 163, 164, 165, 166, 167] (by decide +kernel) (by decide +kernel)
set_option maxRecDepth 20000 in
theorem gX10_runText_X10_presses : GoodIn wsX10_runText (wsV RX10 138 RX10 yX10_presses wsX10_presses) := goodIn_app (goodIn_of _ (by decide +kernel)) ggX10_runText_X10_presses
set_option maxRecDepth 20000 in
theorem ggX10_runText_X10_releases : GoodIn wsX10_runText wsX10_releases := goodIn_r _ [57, 46, 148, 149, 150, 151, 152, 153, 154, 155, 156, 157, 158, 159, 160, 161, 162, 163, 164, 165, 166, 167] (by decide +kernel) (by decide +kernel)
set_option maxRecDepth 20000 in
theorem gX10_runText_X10_releases : GoodIn wsX10_runText (wsV RX10 141 RX10 yX10_releases wsX10_releases) := goodIn_app (goodIn_of _ (by decide +kernel)) ggX10_runText_X10_releases
set_option maxRecDepth 20000 in
theorem ggX10_runText_X10_calibrates : GoodIn wsX10_runText wsX10_calibrates := goodIn_r _ [61, 46, 148, 149, 150, 151, 152, 153, 154, 155, 156, 157, 158, 159, 160, 161, 162, 163, 164, 165, 166, 167] (by decide +kernel) (by decide +kernel)
set_option maxRecDepth 20000 in
theorem gX10_runText_X10_calibrates : GoodIn wsX10_runText (wsV RX10 144 RX10 yX10_calibrates wsX10_calibrates) := goodIn_app (goodIn_of _ (by decide +kernel)) ggX10_runText_X10_calibrates
set_option maxRecDepth 20000 in
theorem ggX10_runText_X10_scans : GoodIn wsX10_runText wsX10_scans := goodIn_r _ [65, 66, 46, 67, 68, 69, 70, 9, 71, 72, 73, 74, 75, 76, 77, 78, 79, 80, 81, 82, 83, 84, 85, 86, 87, 88, 89, 90, 91, 51, 52, 53, 25, 26, 27, 92, 93, 94, 95, 96, 97, 98, 99, 100, 101, 102, 103, 104, 105, 106, 107, 108, 109, 110, 111, 112, 113, 114, 115, 116, 117, 118, 119, 120, 121, 122, 123, 124, 125, 126, 127, 128, 129, 130, 131, 132, 133, 134, 135, 136, 137, 138, 139, 140, 141, 142, 143, 144, 145, 146, 147, 148, 149, 150, 151, 152, 153, 154, 155, 156, 157, 158, 159, 160, 161, 162, 163, 164, 165, 166, 167] (by decide +kernel) (by decide +kernel)
set_option maxRecDepth 20000 in
theorem gX10_runText_X10_scans : GoodIn wsX10_runText (wsV RX10 153 RX10 yX10_scans wsX10_scans) := goodIn_app (goodIn_of _ (by decide +kernel)) ggX10_runText_X10_scans
set_option maxRecDepth 20000 in
theorem ggX10_runText_X10_takes : GoodIn wsX10_runText wsX10_takes := goodIn_r _ [24, 1, 16, 17, 18, 9, 19, 11, 20, 148, 149, 150, 151, 152, 153, 154, 155, 156, 157, 158, 159, 160, 161, 162, 163, 164, 165, 166, 167] (by decide +kernel) (by decide +kernel)
set_option maxRecDepth 20000 in
theorem gX10_runText_X10_takes : GoodIn wsX10_runText (wsV RX10 171 RX10 yX10_takes wsX10_takes) := goodIn_app (goodIn_of _ (by decide +kernel)) ggX10_runText_X10_takes
theorem dX10_runText_0 : decode cX10_runText 0 = .ok (.aload_n 0, 1) := by decide +kernel
theorem dX10_runText_1 : decode cX10_runText 1 = .ok (.aload_n 0, 1) := by decide +kernel
theorem dX10_runText_2 : decode cX10_runText 2 = .ok (.invokevirtual 187, 3) := by decide +kernel
theorem dX10_runText_5 : decode cX10_runText 5 = .ok (.ifCond .eq 7, 3) := by decide +kernel
theorem dX10_runText_8 : decode cX10_runText 8 = .ok (.iconst 0, 1) := by decide +kernel
theorem dX10_runText_9 : decode cX10_runText 9 = .ok (.goto 4, 3) := by decide +kernel
theorem dX10_runText_12 : decode cX10_runText 12 = .ok (.iconst 1, 1) := by decide +kernel
theorem dX10_runText_13 : decode cX10_runText 13 = .ok (.invokevirtual 132, 3) := by decide +kernel
theorem dX10_runText_16 : decode cX10_runText 16 = .ok (.ifCond .ne 5, 3) := by decide +kernel
theorem dX10_runText_19 : decode cX10_runText 19 = .ok (.iconst 0, 1) := by decide +kernel
theorem dX10_runText_20 : decode cX10_runText 20 = .ok (.ireturn, 1) := by decide +kernel
theorem dX10_runText_21 : decode cX10_runText 21 = .ok (.aload_n 0, 1) := by decide +kernel
theorem dX10_runText_22 : decode cX10_runText 22 = .ok (.invokevirtual 125, 3) := by decide +kernel
theorem dX10_runText_25 : decode cX10_runText 25 = .ok (.aload_n 0, 1) := by decide +kernel
theorem dX10_runText_26 : decode cX10_runText 26 = .ok (.iconst 0, 1) := by decide +kernel
theorem dX10_runText_27 : decode cX10_runText 27 = .ok (.putfield 159, 3) := by decide +kernel
theorem dX10_runText_30 : decode cX10_runText 30 = .ok (.iconst 0, 1) := by decide +kernel
theorem dX10_runText_31 : decode cX10_runText 31 = .ok (.istore_n 1, 1) := by decide +kernel
theorem dX10_runText_32 : decode cX10_runText 32 = .ok (.aload_n 0, 1) := by decide +kernel
theorem dX10_runText_33 : decode cX10_runText 33 = .ok (.invokevirtual 184, 3) := by decide +kernel
theorem dX10_runText_36 : decode cX10_runText 36 = .ok (.ifCond .eq 97, 3) := by decide +kernel
theorem dX10_runText_39 : decode cX10_runText 39 = .ok (.aload_n 0, 1) := by decide +kernel
theorem dX10_runText_40 : decode cX10_runText 40 = .ok (.getfield 168, 3) := by decide +kernel
theorem dX10_runText_43 : decode cX10_runText 43 = .ok (.lookupswitch 73 #[(98, 65), (112, 33), (120, 57)], 33) := by decide +kernel
theorem dX10_runText_76 : decode cX10_runText 76 = .ok (.aload_n 0, 1) := by decide +kernel
theorem dX10_runText_77 : decode cX10_runText 77 = .ok (.bipush 6, 2) := by decide +kernel
theorem dX10_runText_79 : decode cX10_runText 79 = .ok (.aload_n 0, 1) := by decide +kernel
theorem dX10_runText_80 : decode cX10_runText 80 = .ok (.getfield 174, 3) := by decide +kernel
theorem dX10_runText_83 : decode cX10_runText 83 = .ok (.imul, 1) := by decide +kernel
theorem dX10_runText_84 : decode cX10_runText 84 = .ok (.aload_n 0, 1) := by decide +kernel
theorem dX10_runText_85 : decode cX10_runText 85 = .ok (.getfield 177, 3) := by decide +kernel
theorem dX10_runText_88 : decode cX10_runText 88 = .ok (.iadd, 1) := by decide +kernel
theorem dX10_runText_89 : decode cX10_runText 89 = .ok (.aload_n 0, 1) := by decide +kernel
theorem dX10_runText_90 : decode cX10_runText 90 = .ok (.getfield 165, 3) := by decide +kernel
theorem dX10_runText_93 : decode cX10_runText 93 = .ok (.invokevirtual 138, 3) := by decide +kernel
theorem dX10_runText_96 : decode cX10_runText 96 = .ok (.pop, 1) := by decide +kernel
theorem dX10_runText_97 : decode cX10_runText 97 = .ok (.goto 26, 3) := by decide +kernel
theorem dX10_runText_100 : decode cX10_runText 100 = .ok (.aload_n 0, 1) := by decide +kernel
theorem dX10_runText_101 : decode cX10_runText 101 = .ok (.invokevirtual 141, 3) := by decide +kernel
theorem dX10_runText_104 : decode cX10_runText 104 = .ok (.pop, 1) := by decide +kernel
theorem dX10_runText_105 : decode cX10_runText 105 = .ok (.goto 18, 3) := by decide +kernel
theorem dX10_runText_108 : decode cX10_runText 108 = .ok (.aload_n 0, 1) := by decide +kernel
theorem dX10_runText_109 : decode cX10_runText 109 = .ok (.invokevirtual 144, 3) := by decide +kernel
theorem dX10_runText_112 : decode cX10_runText 112 = .ok (.pop, 1) := by decide +kernel
theorem dX10_runText_113 : decode cX10_runText 113 = .ok (.goto 10, 3) := by decide +kernel
theorem dX10_runText_116 : decode cX10_runText 116 = .ok (.iload_n 1, 1) := by decide +kernel
theorem dX10_runText_117 : decode cX10_runText 117 = .ok (.aload_n 0, 1) := by decide +kernel
theorem dX10_runText_118 : decode cX10_runText 118 = .ok (.invokevirtual 153, 3) := by decide +kernel
theorem dX10_runText_121 : decode cX10_runText 121 = .ok (.iadd, 1) := by decide +kernel
theorem dX10_runText_122 : decode cX10_runText 122 = .ok (.istore_n 1, 1) := by decide +kernel
theorem dX10_runText_123 : decode cX10_runText 123 = .ok (.aload_n 0, 1) := by decide +kernel
theorem dX10_runText_124 : decode cX10_runText 124 = .ok (.bipush 59, 2) := by decide +kernel
theorem dX10_runText_126 : decode cX10_runText 126 = .ok (.invokevirtual 171, 3) := by decide +kernel
theorem dX10_runText_129 : decode cX10_runText 129 = .ok (.pop, 1) := by decide +kernel
theorem dX10_runText_130 : decode cX10_runText 130 = .ok (.goto (-98), 3) := by decide +kernel
theorem dX10_runText_133 : decode cX10_runText 133 = .ok (.iload_n 1, 1) := by decide +kernel
theorem dX10_runText_134 : decode cX10_runText 134 = .ok (.ireturn, 1) := by decide +kernel
set_option maxRecDepth 20000 in
theorem ggX10_undo_X10_holds : GoodIn wsX10_undo wsX10_holds := goodIn_r _ [6, 7, 13, 14, 15, 16, 17, 18, 19, 20, 21, 22, 23, 24, 25, 26, 27, 28, 29, 30, 31, 32] (by decide +kernel) (by decide +kernel)
set_option maxRecDepth 20000 in
theorem gX10_undo_X10_holds : GoodIn wsX10_undo (wsV RX10 132 RX10 yX10_holds wsX10_holds) := goodIn_app (goodIn_of _ (by decide +kernel)) ggX10_undo_X10_holds
set_option maxRecDepth 20000 in
theorem ggX10_undo_X10_copies : GoodIn wsX10_undo wsX10_copies := goodIn_r _ [11, 12, 13, 14, 15, 16, 17, 18, 19, 20, 21, 22, 23, 24, 25, 26, 27, 28, 29, 30, 31, 32] (by decide +kernel) (by decide +kernel)
set_option maxRecDepth 20000 in
theorem gX10_undo_X10_copies : GoodIn wsX10_undo (wsV RX10 121 RX10 yX10_copies wsX10_copies) := goodIn_app (goodIn_of _ (by decide +kernel)) ggX10_undo_X10_copies
theorem dX10_undo_0 : decode cX10_undo 0 = .ok (.aload_n 0, 1) := by decide +kernel
theorem dX10_undo_1 : decode cX10_undo 1 = .ok (.aload_n 0, 1) := by decide +kernel
theorem dX10_undo_2 : decode cX10_undo 2 = .ok (.getfield 118, 3) := by decide +kernel
theorem dX10_undo_5 : decode cX10_undo 5 = .ok (.ifCond .le 7, 3) := by decide +kernel
theorem dX10_undo_8 : decode cX10_undo 8 = .ok (.iconst 0, 1) := by decide +kernel
theorem dX10_undo_9 : decode cX10_undo 9 = .ok (.goto 4, 3) := by decide +kernel
theorem dX10_undo_12 : decode cX10_undo 12 = .ok (.iconst 1, 1) := by decide +kernel
theorem dX10_undo_13 : decode cX10_undo 13 = .ok (.invokevirtual 132, 3) := by decide +kernel
theorem dX10_undo_16 : decode cX10_undo 16 = .ok (.ifCond .ne 5, 3) := by decide +kernel
theorem dX10_undo_19 : decode cX10_undo 19 = .ok (.iconst 0, 1) := by decide +kernel
theorem dX10_undo_20 : decode cX10_undo 20 = .ok (.ireturn, 1) := by decide +kernel
theorem dX10_undo_21 : decode cX10_undo 21 = .ok (.aload_n 0, 1) := by decide +kernel
theorem dX10_undo_22 : decode cX10_undo 22 = .ok (.aload_n 0, 1) := by decide +kernel
theorem dX10_undo_23 : decode cX10_undo 23 = .ok (.getfield 118, 3) := by decide +kernel
theorem dX10_undo_26 : decode cX10_undo 26 = .ok (.iconst 0, 1) := by decide +kernel
theorem dX10_undo_27 : decode cX10_undo 27 = .ok (.invokevirtual 121, 3) := by decide +kernel
theorem dX10_undo_30 : decode cX10_undo 30 = .ok (.aload_n 0, 1) := by decide +kernel
theorem dX10_undo_31 : decode cX10_undo 31 = .ok (.dup, 1) := by decide +kernel
theorem dX10_undo_32 : decode cX10_undo 32 = .ok (.getfield 118, 3) := by decide +kernel
theorem dX10_undo_35 : decode cX10_undo 35 = .ok (.iconst 1, 1) := by decide +kernel
theorem dX10_undo_36 : decode cX10_undo 36 = .ok (.isub, 1) := by decide +kernel
theorem dX10_undo_37 : decode cX10_undo 37 = .ok (.putfield 118, 3) := by decide +kernel
theorem dX10_undo_40 : decode cX10_undo 40 = .ok (.aload_n 0, 1) := by decide +kernel
theorem dX10_undo_41 : decode cX10_undo 41 = .ok (.getfield 118, 3) := by decide +kernel
theorem dX10_undo_44 : decode cX10_undo 44 = .ok (.ireturn, 1) := by decide +kernel
set_option maxRecDepth 20000 in
theorem ggX10_raw_X10_isCell : GoodIn wsX10_raw wsX10_isCell := goodIn_r _ [5, 6, 7, 4, 8] (by decide +kernel) (by decide +kernel)
set_option maxRecDepth 20000 in
theorem gX10_raw_X10_isCell : GoodIn wsX10_raw (va_wsS RX10 128 yX10_isCell wsX10_isCell) := goodIn_app (goodIn_of _ (by decide +kernel)) ggX10_raw_X10_isCell
set_option maxRecDepth 20000 in
theorem ggX10_raw_X10_holds : GoodIn wsX10_raw wsX10_holds := goodIn_r _ [12, 13, 14, 15, 16, 17, 18, 19, 20, 21, 22, 23, 24, 25, 26, 27, 28, 29, 30, 31, 32, 33] (by decide +kernel) (by decide +kernel)
set_option maxRecDepth 20000 in
theorem gX10_raw_X10_holds : GoodIn wsX10_raw (wsV RX10 132 RX10 yX10_holds wsX10_holds) := goodIn_app (goodIn_of _ (by decide +kernel)) ggX10_raw_X10_holds
theorem dX10_raw_0 : decode cX10_raw 0 = .ok (.aload_n 0, 1) := by decide +kernel
theorem dX10_raw_1 : decode cX10_raw 1 = .ok (.iload_n 1, 1) := by decide +kernel
theorem dX10_raw_2 : decode cX10_raw 2 = .ok (.iload_n 2, 1) := by decide +kernel
theorem dX10_raw_3 : decode cX10_raw 3 = .ok (.invokestatic 128, 3) := by decide +kernel
theorem dX10_raw_6 : decode cX10_raw 6 = .ok (.ifCond .eq 7, 3) := by decide +kernel
theorem dX10_raw_9 : decode cX10_raw 9 = .ok (.iconst 0, 1) := by decide +kernel
theorem dX10_raw_10 : decode cX10_raw 10 = .ok (.goto 4, 3) := by decide +kernel
theorem dX10_raw_13 : decode cX10_raw 13 = .ok (.iconst 1, 1) := by decide +kernel
theorem dX10_raw_14 : decode cX10_raw 14 = .ok (.invokevirtual 132, 3) := by decide +kernel
theorem dX10_raw_17 : decode cX10_raw 17 = .ok (.ifCond .eq 19, 3) := by decide +kernel
theorem dX10_raw_20 : decode cX10_raw 20 = .ok (.aload_n 0, 1) := by decide +kernel
theorem dX10_raw_21 : decode cX10_raw 21 = .ok (.getfield 7, 3) := by decide +kernel
theorem dX10_raw_24 : decode cX10_raw 24 = .ok (.iconst 0, 1) := by decide +kernel
theorem dX10_raw_25 : decode cX10_raw 25 = .ok (.bipush 6, 2) := by decide +kernel
theorem dX10_raw_27 : decode cX10_raw 27 = .ok (.iload_n 1, 1) := by decide +kernel
theorem dX10_raw_28 : decode cX10_raw 28 = .ok (.imul, 1) := by decide +kernel
theorem dX10_raw_29 : decode cX10_raw 29 = .ok (.iadd, 1) := by decide +kernel
theorem dX10_raw_30 : decode cX10_raw 30 = .ok (.iload_n 2, 1) := by decide +kernel
theorem dX10_raw_31 : decode cX10_raw 31 = .ok (.iadd, 1) := by decide +kernel
theorem dX10_raw_32 : decode cX10_raw 32 = .ok (.iaload, 1) := by decide +kernel
theorem dX10_raw_33 : decode cX10_raw 33 = .ok (.goto 4, 3) := by decide +kernel
theorem dX10_raw_36 : decode cX10_raw 36 = .ok (.iconst 0, 1) := by decide +kernel
theorem dX10_raw_37 : decode cX10_raw 37 = .ok (.ireturn, 1) := by decide +kernel
set_option maxRecDepth 20000 in
theorem ggX10_signal_X10_isCell : GoodIn wsX10_signal wsX10_isCell := goodIn_r _ [4, 5, 6, 3, 7] (by decide +kernel) (by decide +kernel)
set_option maxRecDepth 20000 in
theorem gX10_signal_X10_isCell : GoodIn wsX10_signal (va_wsS RX10 128 yX10_isCell wsX10_isCell) := goodIn_app (goodIn_of _ (by decide +kernel)) ggX10_signal_X10_isCell
set_option maxRecDepth 20000 in
theorem ggX10_signal_X10_holds : GoodIn wsX10_signal wsX10_holds := goodIn_r _ [11, 12, 18, 19, 20, 21, 22, 23, 24, 25, 26, 27, 28, 29, 30, 31, 32, 33, 34, 35, 36, 37] (by decide +kernel) (by decide +kernel)
set_option maxRecDepth 20000 in
theorem gX10_signal_X10_holds : GoodIn wsX10_signal (wsV RX10 132 RX10 yX10_holds wsX10_holds) := goodIn_app (goodIn_of _ (by decide +kernel)) ggX10_signal_X10_holds
set_option maxRecDepth 20000 in
theorem ggX10_signal_X10_signalOf : GoodIn wsX10_signal wsX10_signalOf := goodIn_r _ [16, 17, 18, 19, 20, 21, 22, 23, 24, 25, 26, 27, 28, 29, 30, 31, 32, 33, 34, 35, 36, 37] (by decide +kernel) (by decide +kernel)
set_option maxRecDepth 20000 in
theorem gX10_signal_X10_signalOf : GoodIn wsX10_signal (wsV RX10 51 RX10 yX10_signalOf wsX10_signalOf) := goodIn_app (goodIn_of _ (by decide +kernel)) ggX10_signal_X10_signalOf
theorem dX10_signal_0 : decode cX10_signal 0 = .ok (.aload_n 0, 1) := by decide +kernel
theorem dX10_signal_1 : decode cX10_signal 1 = .ok (.iload_n 1, 1) := by decide +kernel
theorem dX10_signal_2 : decode cX10_signal 2 = .ok (.iload_n 2, 1) := by decide +kernel
theorem dX10_signal_3 : decode cX10_signal 3 = .ok (.invokestatic 128, 3) := by decide +kernel
theorem dX10_signal_6 : decode cX10_signal 6 = .ok (.ifCond .eq 7, 3) := by decide +kernel
theorem dX10_signal_9 : decode cX10_signal 9 = .ok (.iconst 0, 1) := by decide +kernel
theorem dX10_signal_10 : decode cX10_signal 10 = .ok (.goto 4, 3) := by decide +kernel
theorem dX10_signal_13 : decode cX10_signal 13 = .ok (.iconst 1, 1) := by decide +kernel
theorem dX10_signal_14 : decode cX10_signal 14 = .ok (.invokevirtual 132, 3) := by decide +kernel
theorem dX10_signal_17 : decode cX10_signal 17 = .ok (.ifCond .eq 16, 3) := by decide +kernel
theorem dX10_signal_20 : decode cX10_signal 20 = .ok (.aload_n 0, 1) := by decide +kernel
theorem dX10_signal_21 : decode cX10_signal 21 = .ok (.bipush 6, 2) := by decide +kernel
theorem dX10_signal_23 : decode cX10_signal 23 = .ok (.iload_n 1, 1) := by decide +kernel
theorem dX10_signal_24 : decode cX10_signal 24 = .ok (.imul, 1) := by decide +kernel
theorem dX10_signal_25 : decode cX10_signal 25 = .ok (.iload_n 2, 1) := by decide +kernel
theorem dX10_signal_26 : decode cX10_signal 26 = .ok (.iadd, 1) := by decide +kernel
theorem dX10_signal_27 : decode cX10_signal 27 = .ok (.invokevirtual 51, 3) := by decide +kernel
theorem dX10_signal_30 : decode cX10_signal 30 = .ok (.goto 4, 3) := by decide +kernel
theorem dX10_signal_33 : decode cX10_signal 33 = .ok (.iconst 0, 1) := by decide +kernel
theorem dX10_signal_34 : decode cX10_signal 34 = .ok (.ireturn, 1) := by decide +kernel
set_option maxRecDepth 20000 in
theorem ggX10_regionSize_X10_isCell : GoodIn wsX10_regionSize wsX10_isCell := goodIn_r _ [6, 7, 8, 5, 9] (by decide +kernel) (by decide +kernel)
set_option maxRecDepth 20000 in
theorem gX10_regionSize_X10_isCell : GoodIn wsX10_regionSize (va_wsS RX10 128 yX10_isCell wsX10_isCell) := goodIn_app (goodIn_of _ (by decide +kernel)) ggX10_regionSize_X10_isCell
set_option maxRecDepth 20000 in
theorem ggX10_regionSize_X10_holds : GoodIn wsX10_regionSize wsX10_holds := goodIn_r _ [13, 14, 32, 33, 34, 35, 36, 37, 38, 39, 40, 41, 42, 43, 44, 45, 46, 47, 48, 49, 50, 51] (by decide +kernel) (by decide +kernel)
set_option maxRecDepth 20000 in
theorem gX10_regionSize_X10_holds : GoodIn wsX10_regionSize (wsV RX10 132 RX10 yX10_holds wsX10_holds) := goodIn_app (goodIn_of _ (by decide +kernel)) ggX10_regionSize_X10_holds
set_option maxRecDepth 20000 in
theorem ggX10_regionSize_X10_findsRegions : GoodIn wsX10_regionSize wsX10_findsRegions := goodIn_r _ [18, 1, 2, 19, 20, 21, 22, 5, 23, 24, 25, 26, 27, 28, 29, 30, 31, 7, 8, 9, 32, 33, 34, 35, 36, 37, 38, 39, 40, 41, 42, 43, 44, 45, 46, 47, 48, 49, 50, 51] (by decide +kernel) (by decide +kernel)
set_option maxRecDepth 20000 in
theorem gX10_regionSize_X10_findsRegions : GoodIn wsX10_regionSize (wsV RX10 69 RX10 yX10_findsRegions wsX10_findsRegions) := goodIn_app (goodIn_of _ (by decide +kernel)) ggX10_regionSize_X10_findsRegions
theorem dX10_regionSize_0 : decode cX10_regionSize 0 = .ok (.aload_n 0, 1) := by decide +kernel
theorem dX10_regionSize_1 : decode cX10_regionSize 1 = .ok (.iload_n 1, 1) := by decide +kernel
theorem dX10_regionSize_2 : decode cX10_regionSize 2 = .ok (.iload_n 2, 1) := by decide +kernel
theorem dX10_regionSize_3 : decode cX10_regionSize 3 = .ok (.invokestatic 128, 3) := by decide +kernel
theorem dX10_regionSize_6 : decode cX10_regionSize 6 = .ok (.ifCond .eq 7, 3) := by decide +kernel
theorem dX10_regionSize_9 : decode cX10_regionSize 9 = .ok (.iconst 0, 1) := by decide +kernel
theorem dX10_regionSize_10 : decode cX10_regionSize 10 = .ok (.goto 4, 3) := by decide +kernel
theorem dX10_regionSize_13 : decode cX10_regionSize 13 = .ok (.iconst 1, 1) := by decide +kernel
theorem dX10_regionSize_14 : decode cX10_regionSize 14 = .ok (.invokevirtual 132, 3) := by decide +kernel
theorem dX10_regionSize_17 : decode cX10_regionSize 17 = .ok (.ifCond .ne 5, 3) := by decide +kernel
theorem dX10_regionSize_20 : decode cX10_regionSize 20 = .ok (.iconst 0, 1) := by decide +kernel
theorem dX10_regionSize_21 : decode cX10_regionSize 21 = .ok (.ireturn, 1) := by decide +kernel
theorem dX10_regionSize_22 : decode cX10_regionSize 22 = .ok (.aload_n 0, 1) := by decide +kernel
theorem dX10_regionSize_23 : decode cX10_regionSize 23 = .ok (.invokevirtual 69, 3) := by decide +kernel
theorem dX10_regionSize_26 : decode cX10_regionSize 26 = .ok (.aload_n 0, 1) := by decide +kernel
theorem dX10_regionSize_27 : decode cX10_regionSize 27 = .ok (.getfield 16, 3) := by decide +kernel
theorem dX10_regionSize_30 : decode cX10_regionSize 30 = .ok (.bipush 6, 2) := by decide +kernel
theorem dX10_regionSize_32 : decode cX10_regionSize 32 = .ok (.iload_n 1, 1) := by decide +kernel
theorem dX10_regionSize_33 : decode cX10_regionSize 33 = .ok (.imul, 1) := by decide +kernel
theorem dX10_regionSize_34 : decode cX10_regionSize 34 = .ok (.iload_n 2, 1) := by decide +kernel
theorem dX10_regionSize_35 : decode cX10_regionSize 35 = .ok (.iadd, 1) := by decide +kernel
theorem dX10_regionSize_36 : decode cX10_regionSize 36 = .ok (.iaload, 1) := by decide +kernel
theorem dX10_regionSize_37 : decode cX10_regionSize 37 = .ok (.istore_n 3, 1) := by decide +kernel
theorem dX10_regionSize_38 : decode cX10_regionSize 38 = .ok (.iload_n 3, 1) := by decide +kernel
theorem dX10_regionSize_39 : decode cX10_regionSize 39 = .ok (.iconst (-1), 1) := by decide +kernel
theorem dX10_regionSize_40 : decode cX10_regionSize 40 = .ok (.if_icmp .ne 7, 3) := by decide +kernel
theorem dX10_regionSize_43 : decode cX10_regionSize 43 = .ok (.iconst 0, 1) := by decide +kernel
theorem dX10_regionSize_44 : decode cX10_regionSize 44 = .ok (.goto 9, 3) := by decide +kernel
theorem dX10_regionSize_47 : decode cX10_regionSize 47 = .ok (.aload_n 0, 1) := by decide +kernel
theorem dX10_regionSize_48 : decode cX10_regionSize 48 = .ok (.getfield 19, 3) := by decide +kernel
theorem dX10_regionSize_51 : decode cX10_regionSize 51 = .ok (.iload_n 3, 1) := by decide +kernel
theorem dX10_regionSize_52 : decode cX10_regionSize 52 = .ok (.iaload, 1) := by decide +kernel
theorem dX10_regionSize_53 : decode cX10_regionSize 53 = .ok (.ireturn, 1) := by decide +kernel
set_option maxRecDepth 20000 in
theorem ggX10_regionKind_X10_isCell : GoodIn wsX10_regionKind wsX10_isCell := goodIn_r _ [5, 6, 7, 4, 8] (by decide +kernel) (by decide +kernel)
set_option maxRecDepth 20000 in
theorem gX10_regionKind_X10_isCell : GoodIn wsX10_regionKind (va_wsS RX10 128 yX10_isCell wsX10_isCell) := goodIn_app (goodIn_of _ (by decide +kernel)) ggX10_regionKind_X10_isCell
set_option maxRecDepth 20000 in
theorem ggX10_regionKind_X10_holds : GoodIn wsX10_regionKind wsX10_holds := goodIn_r _ [12, 13, 36, 37, 38, 39, 40, 41, 42, 43, 44, 45, 46, 47, 48, 49, 50, 51, 52, 53, 54, 55] (by decide +kernel) (by decide +kernel)
set_option maxRecDepth 20000 in
theorem gX10_regionKind_X10_holds : GoodIn wsX10_regionKind (wsV RX10 132 RX10 yX10_holds wsX10_holds) := goodIn_app (goodIn_of _ (by decide +kernel)) ggX10_regionKind_X10_holds
set_option maxRecDepth 20000 in
theorem ggX10_regionKind_X10_findsRegions : GoodIn wsX10_regionKind wsX10_findsRegions := goodIn_r _ [17, 1, 18, 19, 20, 21, 22, 4, 23, 24, 25, 26, 27, 28, 29, 30, 31, 6, 7, 8, 36, 37, 38, 39, 40, 41, 42, 43, 44, 45, 46, 47, 48, 49, 50, 51, 52, 53, 54, 55] (by decide +kernel) (by decide +kernel)
set_option maxRecDepth 20000 in
theorem gX10_regionKind_X10_findsRegions : GoodIn wsX10_regionKind (wsV RX10 69 RX10 yX10_findsRegions wsX10_findsRegions) := goodIn_app (goodIn_of _ (by decide +kernel)) ggX10_regionKind_X10_findsRegions
set_option maxRecDepth 20000 in
theorem ggX10_regionKind_X10_kindOf : GoodIn wsX10_regionKind wsX10_kindOf := goodIn_r _ [35, 18, 24, 19, 36, 37, 38, 39, 40, 41, 42, 43, 44, 45, 46, 47, 48, 49, 50, 51, 52, 53, 54, 55] (by decide +kernel) (by decide +kernel)
set_option maxRecDepth 20000 in
theorem gX10_regionKind_X10_kindOf : GoodIn wsX10_regionKind (wsV RX10 63 RX10 yX10_kindOf wsX10_kindOf) := goodIn_app (goodIn_of _ (by decide +kernel)) ggX10_regionKind_X10_kindOf
theorem dX10_regionKind_0 : decode cX10_regionKind 0 = .ok (.aload_n 0, 1) := by decide +kernel
theorem dX10_regionKind_1 : decode cX10_regionKind 1 = .ok (.iload_n 1, 1) := by decide +kernel
theorem dX10_regionKind_2 : decode cX10_regionKind 2 = .ok (.iload_n 2, 1) := by decide +kernel
theorem dX10_regionKind_3 : decode cX10_regionKind 3 = .ok (.invokestatic 128, 3) := by decide +kernel
theorem dX10_regionKind_6 : decode cX10_regionKind 6 = .ok (.ifCond .eq 7, 3) := by decide +kernel
theorem dX10_regionKind_9 : decode cX10_regionKind 9 = .ok (.iconst 0, 1) := by decide +kernel
theorem dX10_regionKind_10 : decode cX10_regionKind 10 = .ok (.goto 4, 3) := by decide +kernel
theorem dX10_regionKind_13 : decode cX10_regionKind 13 = .ok (.iconst 1, 1) := by decide +kernel
theorem dX10_regionKind_14 : decode cX10_regionKind 14 = .ok (.invokevirtual 132, 3) := by decide +kernel
theorem dX10_regionKind_17 : decode cX10_regionKind 17 = .ok (.ifCond .ne 5, 3) := by decide +kernel
theorem dX10_regionKind_20 : decode cX10_regionKind 20 = .ok (.iconst 0, 1) := by decide +kernel
theorem dX10_regionKind_21 : decode cX10_regionKind 21 = .ok (.ireturn, 1) := by decide +kernel
theorem dX10_regionKind_22 : decode cX10_regionKind 22 = .ok (.aload_n 0, 1) := by decide +kernel
theorem dX10_regionKind_23 : decode cX10_regionKind 23 = .ok (.invokevirtual 69, 3) := by decide +kernel
theorem dX10_regionKind_26 : decode cX10_regionKind 26 = .ok (.aload_n 0, 1) := by decide +kernel
theorem dX10_regionKind_27 : decode cX10_regionKind 27 = .ok (.getfield 16, 3) := by decide +kernel
theorem dX10_regionKind_30 : decode cX10_regionKind 30 = .ok (.bipush 6, 2) := by decide +kernel
theorem dX10_regionKind_32 : decode cX10_regionKind 32 = .ok (.iload_n 1, 1) := by decide +kernel
theorem dX10_regionKind_33 : decode cX10_regionKind 33 = .ok (.imul, 1) := by decide +kernel
theorem dX10_regionKind_34 : decode cX10_regionKind 34 = .ok (.iload_n 2, 1) := by decide +kernel
theorem dX10_regionKind_35 : decode cX10_regionKind 35 = .ok (.iadd, 1) := by decide +kernel
theorem dX10_regionKind_36 : decode cX10_regionKind 36 = .ok (.iaload, 1) := by decide +kernel
theorem dX10_regionKind_37 : decode cX10_regionKind 37 = .ok (.istore_n 3, 1) := by decide +kernel
theorem dX10_regionKind_38 : decode cX10_regionKind 38 = .ok (.iload_n 3, 1) := by decide +kernel
theorem dX10_regionKind_39 : decode cX10_regionKind 39 = .ok (.iconst (-1), 1) := by decide +kernel
theorem dX10_regionKind_40 : decode cX10_regionKind 40 = .ok (.if_icmp .ne 7, 3) := by decide +kernel
theorem dX10_regionKind_43 : decode cX10_regionKind 43 = .ok (.iconst (-1), 1) := by decide +kernel
theorem dX10_regionKind_44 : decode cX10_regionKind 44 = .ok (.goto 8, 3) := by decide +kernel
theorem dX10_regionKind_47 : decode cX10_regionKind 47 = .ok (.aload_n 0, 1) := by decide +kernel
theorem dX10_regionKind_48 : decode cX10_regionKind 48 = .ok (.iload_n 3, 1) := by decide +kernel
theorem dX10_regionKind_49 : decode cX10_regionKind 49 = .ok (.invokevirtual 63, 3) := by decide +kernel
theorem dX10_regionKind_52 : decode cX10_regionKind 52 = .ok (.ireturn, 1) := by decide +kernel
set_option maxRecDepth 20000 in
theorem ggX10_regions_X10_in : GoodIn wsX10_regions wsX10_in := goodIn_r _ [5] (by decide +kernel) (by decide +kernel)
set_option maxRecDepth 20000 in
theorem gX10_regions_X10_in : GoodIn wsX10_regions (va_wsS RX10 47 yX10_in wsX10_in) := goodIn_app (goodIn_of _ (by decide +kernel)) ggX10_regions_X10_in
set_option maxRecDepth 20000 in
theorem ggX10_regions_X10_holds : GoodIn wsX10_regions wsX10_holds := goodIn_r _ [9, 10, 33, 34, 35, 36, 37, 38, 39, 40, 41, 42, 43, 44, 45, 46, 47, 48, 49, 50, 51, 52] (by decide +kernel) (by decide +kernel)
set_option maxRecDepth 20000 in
theorem gX10_regions_X10_holds : GoodIn wsX10_regions (wsV RX10 132 RX10 yX10_holds wsX10_holds) := goodIn_app (goodIn_of _ (by decide +kernel)) ggX10_regions_X10_holds
set_option maxRecDepth 20000 in
theorem ggX10_regions_X10_findsRegions : GoodIn wsX10_regions wsX10_findsRegions := goodIn_r _ [14, 15, 1, 16, 17, 18, 19, 4, 20, 21, 22, 23, 24, 25, 26, 27, 28, 2, 3, 5, 33, 34, 35, 36, 37, 38, 39, 40, 41, 42, 43, 44, 45, 46, 47, 48, 49, 50, 51, 52] (by decide +kernel) (by decide +kernel)
set_option maxRecDepth 20000 in
theorem gX10_regions_X10_findsRegions : GoodIn wsX10_regions (wsV RX10 69 RX10 yX10_findsRegions wsX10_findsRegions) := goodIn_app (goodIn_of _ (by decide +kernel)) ggX10_regions_X10_findsRegions
set_option maxRecDepth 20000 in
theorem ggX10_regions_X10_kindOf : GoodIn wsX10_regions wsX10_kindOf := goodIn_r _ [32, 1, 21, 16, 33, 34, 35, 36, 37, 38, 39, 40, 41, 42, 43, 44, 45, 46, 47, 48, 49, 50, 51, 52] (by decide +kernel) (by decide +kernel)
set_option maxRecDepth 20000 in
theorem gX10_regions_X10_kindOf : GoodIn wsX10_regions (wsV RX10 63 RX10 yX10_kindOf wsX10_kindOf) := goodIn_app (goodIn_of _ (by decide +kernel)) ggX10_regions_X10_kindOf
theorem dX10_regions_0 : decode cX10_regions 0 = .ok (.aload_n 0, 1) := by decide +kernel
theorem dX10_regions_1 : decode cX10_regions 1 = .ok (.iload_n 1, 1) := by decide +kernel
theorem dX10_regions_2 : decode cX10_regions 2 = .ok (.iconst 0, 1) := by decide +kernel
theorem dX10_regions_3 : decode cX10_regions 3 = .ok (.iconst 2, 1) := by decide +kernel
theorem dX10_regions_4 : decode cX10_regions 4 = .ok (.invokestatic 47, 3) := by decide +kernel
theorem dX10_regions_7 : decode cX10_regions 7 = .ok (.ifCond .eq 7, 3) := by decide +kernel
theorem dX10_regions_10 : decode cX10_regions 10 = .ok (.iconst 0, 1) := by decide +kernel
theorem dX10_regions_11 : decode cX10_regions 11 = .ok (.goto 4, 3) := by decide +kernel
theorem dX10_regions_14 : decode cX10_regions 14 = .ok (.iconst 1, 1) := by decide +kernel
theorem dX10_regions_15 : decode cX10_regions 15 = .ok (.invokevirtual 132, 3) := by decide +kernel
theorem dX10_regions_18 : decode cX10_regions 18 = .ok (.ifCond .ne 5, 3) := by decide +kernel
theorem dX10_regions_21 : decode cX10_regions 21 = .ok (.iconst 0, 1) := by decide +kernel
theorem dX10_regions_22 : decode cX10_regions 22 = .ok (.ireturn, 1) := by decide +kernel
theorem dX10_regions_23 : decode cX10_regions 23 = .ok (.aload_n 0, 1) := by decide +kernel
theorem dX10_regions_24 : decode cX10_regions 24 = .ok (.invokevirtual 69, 3) := by decide +kernel
theorem dX10_regions_27 : decode cX10_regions 27 = .ok (.iconst 0, 1) := by decide +kernel
theorem dX10_regions_28 : decode cX10_regions 28 = .ok (.istore_n 2, 1) := by decide +kernel
theorem dX10_regions_29 : decode cX10_regions 29 = .ok (.iconst 0, 1) := by decide +kernel
theorem dX10_regions_30 : decode cX10_regions 30 = .ok (.istore_n 3, 1) := by decide +kernel
theorem dX10_regions_31 : decode cX10_regions 31 = .ok (.iload_n 3, 1) := by decide +kernel
theorem dX10_regions_32 : decode cX10_regions 32 = .ok (.bipush 48, 2) := by decide +kernel
theorem dX10_regions_34 : decode cX10_regions 34 = .ok (.if_icmp .ge 35, 3) := by decide +kernel
theorem dX10_regions_37 : decode cX10_regions 37 = .ok (.iload_n 2, 1) := by decide +kernel
theorem dX10_regions_38 : decode cX10_regions 38 = .ok (.aload_n 0, 1) := by decide +kernel
theorem dX10_regions_39 : decode cX10_regions 39 = .ok (.getfield 19, 3) := by decide +kernel
theorem dX10_regions_42 : decode cX10_regions 42 = .ok (.iload_n 3, 1) := by decide +kernel
theorem dX10_regions_43 : decode cX10_regions 43 = .ok (.iaload, 1) := by decide +kernel
theorem dX10_regions_44 : decode cX10_regions 44 = .ok (.ifCond .le 16, 3) := by decide +kernel
theorem dX10_regions_47 : decode cX10_regions 47 = .ok (.aload_n 0, 1) := by decide +kernel
theorem dX10_regions_48 : decode cX10_regions 48 = .ok (.iload_n 3, 1) := by decide +kernel
theorem dX10_regions_49 : decode cX10_regions 49 = .ok (.invokevirtual 63, 3) := by decide +kernel
theorem dX10_regions_52 : decode cX10_regions 52 = .ok (.iload_n 1, 1) := by decide +kernel
theorem dX10_regions_53 : decode cX10_regions 53 = .ok (.if_icmp .ne 7, 3) := by decide +kernel
theorem dX10_regions_56 : decode cX10_regions 56 = .ok (.iconst 1, 1) := by decide +kernel
theorem dX10_regions_57 : decode cX10_regions 57 = .ok (.goto 4, 3) := by decide +kernel
theorem dX10_regions_60 : decode cX10_regions 60 = .ok (.iconst 0, 1) := by decide +kernel
theorem dX10_regions_61 : decode cX10_regions 61 = .ok (.iadd, 1) := by decide +kernel
theorem dX10_regions_62 : decode cX10_regions 62 = .ok (.istore_n 2, 1) := by decide +kernel
theorem dX10_regions_63 : decode cX10_regions 63 = .ok (.iinc 3 1, 3) := by decide +kernel
theorem dX10_regions_66 : decode cX10_regions 66 = .ok (.goto (-35), 3) := by decide +kernel
theorem dX10_regions_69 : decode cX10_regions 69 = .ok (.iload_n 2, 1) := by decide +kernel
theorem dX10_regions_70 : decode cX10_regions 70 = .ok (.ireturn, 1) := by decide +kernel
set_option maxRecDepth 20000 in
theorem ggX10_setting_X10_isSetting : GoodIn wsX10_setting wsX10_isSetting := goodIn_r _ [5, 6, 7, 4, 8] (by decide +kernel) (by decide +kernel)
set_option maxRecDepth 20000 in
theorem gX10_setting_X10_isSetting : GoodIn wsX10_setting (va_wsS RX10 147 yX10_isSetting wsX10_isSetting) := goodIn_app (goodIn_of _ (by decide +kernel)) ggX10_setting_X10_isSetting
set_option maxRecDepth 20000 in
theorem ggX10_setting_X10_holds : GoodIn wsX10_setting wsX10_holds := goodIn_r _ [12, 13, 14, 15, 16, 17, 18, 19, 20, 21, 22, 23, 24, 25, 26, 27, 28, 29, 30, 31, 32, 33] (by decide +kernel) (by decide +kernel)
set_option maxRecDepth 20000 in
theorem gX10_setting_X10_holds : GoodIn wsX10_setting (wsV RX10 132 RX10 yX10_holds wsX10_holds) := goodIn_app (goodIn_of _ (by decide +kernel)) ggX10_setting_X10_holds
theorem dX10_setting_0 : decode cX10_setting 0 = .ok (.aload_n 0, 1) := by decide +kernel
theorem dX10_setting_1 : decode cX10_setting 1 = .ok (.iload_n 1, 1) := by decide +kernel
theorem dX10_setting_2 : decode cX10_setting 2 = .ok (.invokestatic 147, 3) := by decide +kernel
theorem dX10_setting_5 : decode cX10_setting 5 = .ok (.ifCond .eq 7, 3) := by decide +kernel
theorem dX10_setting_8 : decode cX10_setting 8 = .ok (.iconst 0, 1) := by decide +kernel
theorem dX10_setting_9 : decode cX10_setting 9 = .ok (.goto 4, 3) := by decide +kernel
theorem dX10_setting_12 : decode cX10_setting 12 = .ok (.iconst 1, 1) := by decide +kernel
theorem dX10_setting_13 : decode cX10_setting 13 = .ok (.invokevirtual 132, 3) := by decide +kernel
theorem dX10_setting_16 : decode cX10_setting 16 = .ok (.ifCond .eq 15, 3) := by decide +kernel
theorem dX10_setting_19 : decode cX10_setting 19 = .ok (.aload_n 0, 1) := by decide +kernel
theorem dX10_setting_20 : decode cX10_setting 20 = .ok (.getfield 7, 3) := by decide +kernel
theorem dX10_setting_23 : decode cX10_setting 23 = .ok (.bipush 96, 2) := by decide +kernel
theorem dX10_setting_25 : decode cX10_setting 25 = .ok (.iload_n 1, 1) := by decide +kernel
theorem dX10_setting_26 : decode cX10_setting 26 = .ok (.iadd, 1) := by decide +kernel
theorem dX10_setting_27 : decode cX10_setting 27 = .ok (.iaload, 1) := by decide +kernel
theorem dX10_setting_28 : decode cX10_setting 28 = .ok (.goto 4, 3) := by decide +kernel
theorem dX10_setting_31 : decode cX10_setting 31 = .ok (.iconst 0, 1) := by decide +kernel
theorem dX10_setting_32 : decode cX10_setting 32 = .ok (.ireturn, 1) := by decide +kernel
set_option maxRecDepth 20000 in
theorem ggX10_contacts_X10_findsContacts : GoodIn wsX10_contacts wsX10_findsContacts := goodIn_r _ [7, 2, 8, 9, 10, 6, 11, 12, 13, 14, 15, 16, 17, 18, 19, 20, 21, 22, 23, 24, 25, 26, 27, 28, 29, 30, 31, 32, 33, 34, 35, 36, 37, 38, 39, 40, 41, 42, 43, 44, 45, 46, 47, 48, 49, 50, 51, 52, 53, 54, 55, 56, 57, 58, 59, 60, 61, 62, 63, 64, 65, 66, 67, 68, 69] (by decide +kernel) (by decide +kernel)
set_option maxRecDepth 20000 in
theorem gX10_contacts_X10_findsContacts : GoodIn wsX10_contacts (wsV RX10 92 RX10 yX10_findsContacts wsX10_findsContacts) := goodIn_app (goodIn_of _ (by decide +kernel)) ggX10_contacts_X10_findsContacts
theorem dX10_contacts_0 : decode cX10_contacts 0 = .ok (.aload_n 0, 1) := by decide +kernel
theorem dX10_contacts_1 : decode cX10_contacts 1 = .ok (.iconst 0, 1) := by decide +kernel
theorem dX10_contacts_2 : decode cX10_contacts 2 = .ok (.putfield 43, 3) := by decide +kernel
theorem dX10_contacts_5 : decode cX10_contacts 5 = .ok (.aload_n 0, 1) := by decide +kernel
theorem dX10_contacts_6 : decode cX10_contacts 6 = .ok (.invokevirtual 92, 3) := by decide +kernel
theorem dX10_contacts_9 : decode cX10_contacts 9 = .ok (.aload_n 0, 1) := by decide +kernel
theorem dX10_contacts_10 : decode cX10_contacts 10 = .ok (.getfield 66, 3) := by decide +kernel
theorem dX10_contacts_13 : decode cX10_contacts 13 = .ok (.ireturn, 1) := by decide +kernel
set_option maxRecDepth 20000 in
theorem ggX10_contact_X10_in : GoodIn wsX10_contact wsX10_in := goodIn_r _ [9] (by decide +kernel) (by decide +kernel)
set_option maxRecDepth 20000 in
theorem gX10_contact_X10_in : GoodIn wsX10_contact (va_wsS RX10 47 yX10_in wsX10_in) := goodIn_app (goodIn_of _ (by decide +kernel)) ggX10_contact_X10_in
set_option maxRecDepth 20000 in
theorem ggX10_contact_X10_holds : GoodIn wsX10_contact wsX10_holds := goodIn_r _ [13, 14, 54, 55, 56, 57, 58, 59, 60, 61, 62, 63, 64, 65, 66, 67, 68, 69, 70, 71, 72, 73] (by decide +kernel) (by decide +kernel)
set_option maxRecDepth 20000 in
theorem gX10_contact_X10_holds : GoodIn wsX10_contact (wsV RX10 132 RX10 yX10_holds wsX10_holds) := goodIn_app (goodIn_of _ (by decide +kernel)) ggX10_contact_X10_holds
set_option maxRecDepth 20000 in
theorem ggX10_contact_X10_findsContacts : GoodIn wsX10_contact wsX10_findsContacts := goodIn_r _ [18, 1, 19, 20, 21, 8, 22, 23, 24, 25, 26, 27, 28, 29, 30, 31, 32, 33, 34, 35, 36, 37, 6, 7, 9, 38, 39, 40, 41, 42, 43, 44, 45, 46, 47, 48, 49, 2, 3, 4, 5, 50, 51, 52, 53, 54, 55, 56, 57, 58, 59, 60, 61, 62, 63, 64, 65, 66, 67, 68, 69, 70, 71, 72, 73] (by decide +kernel) (by decide +kernel)
set_option maxRecDepth 20000 in
theorem gX10_contact_X10_findsContacts : GoodIn wsX10_contact (wsV RX10 92 RX10 yX10_findsContacts wsX10_findsContacts) := goodIn_app (goodIn_of _ (by decide +kernel)) ggX10_contact_X10_findsContacts
theorem dX10_contact_0 : decode cX10_contact 0 = .ok (.aload_n 0, 1) := by decide +kernel
theorem dX10_contact_1 : decode cX10_contact 1 = .ok (.iload_n 1, 1) := by decide +kernel
theorem dX10_contact_2 : decode cX10_contact 2 = .ok (.ifCond .ge 7, 3) := by decide +kernel
theorem dX10_contact_5 : decode cX10_contact 5 = .ok (.iconst 1, 1) := by decide +kernel
theorem dX10_contact_6 : decode cX10_contact 6 = .ok (.goto 17, 3) := by decide +kernel
theorem dX10_contact_9 : decode cX10_contact 9 = .ok (.iload_n 2, 1) := by decide +kernel
theorem dX10_contact_10 : decode cX10_contact 10 = .ok (.iconst 0, 1) := by decide +kernel
theorem dX10_contact_11 : decode cX10_contact 11 = .ok (.iconst 3, 1) := by decide +kernel
theorem dX10_contact_12 : decode cX10_contact 12 = .ok (.invokestatic 47, 3) := by decide +kernel
theorem dX10_contact_15 : decode cX10_contact 15 = .ok (.ifCond .ne 7, 3) := by decide +kernel
theorem dX10_contact_18 : decode cX10_contact 18 = .ok (.iconst 2, 1) := by decide +kernel
theorem dX10_contact_19 : decode cX10_contact 19 = .ok (.goto 4, 3) := by decide +kernel
theorem dX10_contact_22 : decode cX10_contact 22 = .ok (.iconst 0, 1) := by decide +kernel
theorem dX10_contact_23 : decode cX10_contact 23 = .ok (.invokevirtual 132, 3) := by decide +kernel
theorem dX10_contact_26 : decode cX10_contact 26 = .ok (.ifCond .ne 5, 3) := by decide +kernel
theorem dX10_contact_29 : decode cX10_contact 29 = .ok (.iconst 0, 1) := by decide +kernel
theorem dX10_contact_30 : decode cX10_contact 30 = .ok (.ireturn, 1) := by decide +kernel
theorem dX10_contact_31 : decode cX10_contact 31 = .ok (.aload_n 0, 1) := by decide +kernel
theorem dX10_contact_32 : decode cX10_contact 32 = .ok (.invokevirtual 92, 3) := by decide +kernel
theorem dX10_contact_35 : decode cX10_contact 35 = .ok (.iload_n 1, 1) := by decide +kernel
theorem dX10_contact_36 : decode cX10_contact 36 = .ok (.aload_n 0, 1) := by decide +kernel
theorem dX10_contact_37 : decode cX10_contact 37 = .ok (.getfield 66, 3) := by decide +kernel
theorem dX10_contact_40 : decode cX10_contact 40 = .ok (.if_icmp .lt 5, 3) := by decide +kernel
theorem dX10_contact_43 : decode cX10_contact 43 = .ok (.iconst (-1), 1) := by decide +kernel
theorem dX10_contact_44 : decode cX10_contact 44 = .ok (.ireturn, 1) := by decide +kernel
theorem dX10_contact_45 : decode cX10_contact 45 = .ok (.iload_n 2, 1) := by decide +kernel
theorem dX10_contact_46 : decode cX10_contact 46 = .ok (.ifCond .ne 12, 3) := by decide +kernel
theorem dX10_contact_49 : decode cX10_contact 49 = .ok (.aload_n 0, 1) := by decide +kernel
theorem dX10_contact_50 : decode cX10_contact 50 = .ok (.getfield 25, 3) := by decide +kernel
theorem dX10_contact_53 : decode cX10_contact 53 = .ok (.iload_n 1, 1) := by decide +kernel
theorem dX10_contact_54 : decode cX10_contact 54 = .ok (.iaload, 1) := by decide +kernel
theorem dX10_contact_55 : decode cX10_contact 55 = .ok (.goto 37, 3) := by decide +kernel
theorem dX10_contact_58 : decode cX10_contact 58 = .ok (.iload_n 2, 1) := by decide +kernel
theorem dX10_contact_59 : decode cX10_contact 59 = .ok (.iconst 1, 1) := by decide +kernel
theorem dX10_contact_60 : decode cX10_contact 60 = .ok (.if_icmp .ne 12, 3) := by decide +kernel
theorem dX10_contact_63 : decode cX10_contact 63 = .ok (.aload_n 0, 1) := by decide +kernel
theorem dX10_contact_64 : decode cX10_contact 64 = .ok (.getfield 28, 3) := by decide +kernel
theorem dX10_contact_67 : decode cX10_contact 67 = .ok (.iload_n 1, 1) := by decide +kernel
theorem dX10_contact_68 : decode cX10_contact 68 = .ok (.iaload, 1) := by decide +kernel
theorem dX10_contact_69 : decode cX10_contact 69 = .ok (.goto 23, 3) := by decide +kernel
theorem dX10_contact_72 : decode cX10_contact 72 = .ok (.iload_n 2, 1) := by decide +kernel
theorem dX10_contact_73 : decode cX10_contact 73 = .ok (.iconst 2, 1) := by decide +kernel
theorem dX10_contact_74 : decode cX10_contact 74 = .ok (.if_icmp .ne 12, 3) := by decide +kernel
theorem dX10_contact_77 : decode cX10_contact 77 = .ok (.aload_n 0, 1) := by decide +kernel
theorem dX10_contact_78 : decode cX10_contact 78 = .ok (.getfield 31, 3) := by decide +kernel
theorem dX10_contact_81 : decode cX10_contact 81 = .ok (.iload_n 1, 1) := by decide +kernel
theorem dX10_contact_82 : decode cX10_contact 82 = .ok (.iaload, 1) := by decide +kernel
theorem dX10_contact_83 : decode cX10_contact 83 = .ok (.goto 9, 3) := by decide +kernel
theorem dX10_contact_86 : decode cX10_contact 86 = .ok (.aload_n 0, 1) := by decide +kernel
theorem dX10_contact_87 : decode cX10_contact 87 = .ok (.getfield 34, 3) := by decide +kernel
theorem dX10_contact_90 : decode cX10_contact 90 = .ok (.iload_n 1, 1) := by decide +kernel
theorem dX10_contact_91 : decode cX10_contact 91 = .ok (.iaload, 1) := by decide +kernel
theorem dX10_contact_92 : decode cX10_contact 92 = .ok (.ireturn, 1) := by decide +kernel
set_option maxRecDepth 20000 in
theorem ggX10_isTrack_X10_in : GoodIn wsX10_isTrack wsX10_in := goodIn_r _ [4] (by decide +kernel) (by decide +kernel)
set_option maxRecDepth 20000 in
theorem gX10_isTrack_X10_in : GoodIn wsX10_isTrack (va_wsS RX10 47 yX10_in wsX10_in) := goodIn_app (goodIn_of _ (by decide +kernel)) ggX10_isTrack_X10_in
theorem dX10_isTrack_0 : decode cX10_isTrack 0 = .ok (.iload_n 0, 1) := by decide +kernel
theorem dX10_isTrack_1 : decode cX10_isTrack 1 = .ok (.iconst 0, 1) := by decide +kernel
theorem dX10_isTrack_2 : decode cX10_isTrack 2 = .ok (.iconst 5, 1) := by decide +kernel
theorem dX10_isTrack_3 : decode cX10_isTrack 3 = .ok (.invokestatic 47, 3) := by decide +kernel
theorem dX10_isTrack_6 : decode cX10_isTrack 6 = .ok (.ireturn, 1) := by decide +kernel
set_option maxRecDepth 20000 in
theorem ggX10_isDown_X10_isTrack : GoodIn wsX10_isDown wsX10_isTrack := goodIn_r _ [4, 5, 6, 3, 7] (by decide +kernel) (by decide +kernel)
set_option maxRecDepth 20000 in
theorem gX10_isDown_X10_isTrack : GoodIn wsX10_isDown (va_wsS RX10 190 yX10_isTrack wsX10_isTrack) := goodIn_app (goodIn_of _ (by decide +kernel)) ggX10_isDown_X10_isTrack
set_option maxRecDepth 20000 in
theorem ggX10_isDown_X10_holds : GoodIn wsX10_isDown wsX10_holds := goodIn_r _ [11, 12, 22, 23, 24, 25, 26, 27, 28, 29, 30, 31, 32, 33, 34, 35, 36, 37, 38, 39, 40, 41] (by decide +kernel) (by decide +kernel)
set_option maxRecDepth 20000 in
theorem gX10_isDown_X10_holds : GoodIn wsX10_isDown (wsV RX10 132 RX10 yX10_holds wsX10_holds) := goodIn_app (goodIn_of _ (by decide +kernel)) ggX10_isDown_X10_holds
set_option maxRecDepth 20000 in
theorem ggX10_isDown_X10_isDownNow : GoodIn wsX10_isDown wsX10_isDownNow := goodIn_r _ [16, 17, 18, 19, 3, 20, 21, 22, 23, 24, 25, 26, 27, 28, 29, 30, 31, 32, 33, 34, 35, 36, 37, 38, 39, 40, 41] (by decide +kernel) (by decide +kernel)
set_option maxRecDepth 20000 in
theorem gX10_isDown_X10_isDownNow : GoodIn wsX10_isDown (wsV RX10 95 RX10 yX10_isDownNow wsX10_isDownNow) := goodIn_app (goodIn_of _ (by decide +kernel)) ggX10_isDown_X10_isDownNow
theorem dX10_isDown_0 : decode cX10_isDown 0 = .ok (.aload_n 0, 1) := by decide +kernel
theorem dX10_isDown_1 : decode cX10_isDown 1 = .ok (.iload_n 1, 1) := by decide +kernel
theorem dX10_isDown_2 : decode cX10_isDown 2 = .ok (.invokestatic 190, 3) := by decide +kernel
theorem dX10_isDown_5 : decode cX10_isDown 5 = .ok (.ifCond .eq 7, 3) := by decide +kernel
theorem dX10_isDown_8 : decode cX10_isDown 8 = .ok (.iconst 0, 1) := by decide +kernel
theorem dX10_isDown_9 : decode cX10_isDown 9 = .ok (.goto 4, 3) := by decide +kernel
theorem dX10_isDown_12 : decode cX10_isDown 12 = .ok (.iconst 1, 1) := by decide +kernel
theorem dX10_isDown_13 : decode cX10_isDown 13 = .ok (.invokevirtual 132, 3) := by decide +kernel
theorem dX10_isDown_16 : decode cX10_isDown 16 = .ok (.ifCond .eq 15, 3) := by decide +kernel
theorem dX10_isDown_19 : decode cX10_isDown 19 = .ok (.aload_n 0, 1) := by decide +kernel
theorem dX10_isDown_20 : decode cX10_isDown 20 = .ok (.iload_n 1, 1) := by decide +kernel
theorem dX10_isDown_21 : decode cX10_isDown 21 = .ok (.invokevirtual 95, 3) := by decide +kernel
theorem dX10_isDown_24 : decode cX10_isDown 24 = .ok (.ifCond .eq 7, 3) := by decide +kernel
theorem dX10_isDown_27 : decode cX10_isDown 27 = .ok (.iconst 1, 1) := by decide +kernel
theorem dX10_isDown_28 : decode cX10_isDown 28 = .ok (.goto 4, 3) := by decide +kernel
theorem dX10_isDown_31 : decode cX10_isDown 31 = .ok (.iconst 0, 1) := by decide +kernel
theorem dX10_isDown_32 : decode cX10_isDown 32 = .ok (.ireturn, 1) := by decide +kernel
set_option maxRecDepth 20000 in
theorem ggX10_track_X10_isTrack : GoodIn wsX10_track wsX10_isTrack := goodIn_r _ [4, 5, 6, 3, 7] (by decide +kernel) (by decide +kernel)
set_option maxRecDepth 20000 in
theorem gX10_track_X10_isTrack : GoodIn wsX10_track (va_wsS RX10 190 yX10_isTrack wsX10_isTrack) := goodIn_app (goodIn_of _ (by decide +kernel)) ggX10_track_X10_isTrack
set_option maxRecDepth 20000 in
theorem ggX10_track_X10_in : GoodIn wsX10_track wsX10_in := goodIn_r _ [7] (by decide +kernel) (by decide +kernel)
set_option maxRecDepth 20000 in
theorem gX10_track_X10_in : GoodIn wsX10_track (va_wsS RX10 47 yX10_in wsX10_in) := goodIn_app (goodIn_of _ (by decide +kernel)) ggX10_track_X10_in
set_option maxRecDepth 20000 in
theorem ggX10_track_X10_holds : GoodIn wsX10_track wsX10_holds := goodIn_r _ [11, 12, 22, 23, 24, 25, 26, 27, 28, 29, 30, 31, 32, 33, 34, 35, 36, 37, 38, 39, 40, 41] (by decide +kernel) (by decide +kernel)
set_option maxRecDepth 20000 in
theorem gX10_track_X10_holds : GoodIn wsX10_track (wsV RX10 132 RX10 yX10_holds wsX10_holds) := goodIn_app (goodIn_of _ (by decide +kernel)) ggX10_track_X10_holds
set_option maxRecDepth 20000 in
theorem ggX10_track_X10_isDownNow : GoodIn wsX10_track wsX10_isDownNow := goodIn_r _ [16, 17, 18, 19, 3, 20, 21, 22, 23, 24, 25, 26, 27, 28, 29, 30, 31, 32, 33, 34, 35, 36, 37, 38, 39, 40, 41] (by decide +kernel) (by decide +kernel)
set_option maxRecDepth 20000 in
theorem gX10_track_X10_isDownNow : GoodIn wsX10_track (wsV RX10 95 RX10 yX10_isDownNow wsX10_isDownNow) := goodIn_app (goodIn_of _ (by decide +kernel)) ggX10_track_X10_isDownNow
set_option maxRecDepth 20000 in
theorem ggX10_track_X10_of : GoodIn wsX10_track wsX10_of := goodIn_r _ [20, 21, 22, 23, 24, 25, 26, 27, 28, 29, 30, 31, 32, 33, 34, 35, 36, 37, 38, 39, 40, 41] (by decide +kernel) (by decide +kernel)
set_option maxRecDepth 20000 in
theorem gX10_track_X10_of : GoodIn wsX10_track (wsV RX10 82 RX10 yX10_of wsX10_of) := goodIn_app (goodIn_of _ (by decide +kernel)) ggX10_track_X10_of
theorem dX10_track_0 : decode cX10_track 0 = .ok (.aload_n 0, 1) := by decide +kernel
theorem dX10_track_1 : decode cX10_track 1 = .ok (.iload_n 1, 1) := by decide +kernel
theorem dX10_track_2 : decode cX10_track 2 = .ok (.invokestatic 190, 3) := by decide +kernel
theorem dX10_track_5 : decode cX10_track 5 = .ok (.ifCond .ne 7, 3) := by decide +kernel
theorem dX10_track_8 : decode cX10_track 8 = .ok (.iconst 1, 1) := by decide +kernel
theorem dX10_track_9 : decode cX10_track 9 = .ok (.goto 17, 3) := by decide +kernel
theorem dX10_track_12 : decode cX10_track 12 = .ok (.iload_n 2, 1) := by decide +kernel
theorem dX10_track_13 : decode cX10_track 13 = .ok (.iconst 0, 1) := by decide +kernel
theorem dX10_track_14 : decode cX10_track 14 = .ok (.iconst 3, 1) := by decide +kernel
theorem dX10_track_15 : decode cX10_track 15 = .ok (.invokestatic 47, 3) := by decide +kernel
theorem dX10_track_18 : decode cX10_track 18 = .ok (.ifCond .ne 7, 3) := by decide +kernel
theorem dX10_track_21 : decode cX10_track 21 = .ok (.iconst 2, 1) := by decide +kernel
theorem dX10_track_22 : decode cX10_track 22 = .ok (.goto 4, 3) := by decide +kernel
theorem dX10_track_25 : decode cX10_track 25 = .ok (.iconst 0, 1) := by decide +kernel
theorem dX10_track_26 : decode cX10_track 26 = .ok (.invokevirtual 132, 3) := by decide +kernel
theorem dX10_track_29 : decode cX10_track 29 = .ok (.ifCond .ne 5, 3) := by decide +kernel
theorem dX10_track_32 : decode cX10_track 32 = .ok (.iconst 0, 1) := by decide +kernel
theorem dX10_track_33 : decode cX10_track 33 = .ok (.ireturn, 1) := by decide +kernel
theorem dX10_track_34 : decode cX10_track 34 = .ok (.aload_n 0, 1) := by decide +kernel
theorem dX10_track_35 : decode cX10_track 35 = .ok (.iload_n 1, 1) := by decide +kernel
theorem dX10_track_36 : decode cX10_track 36 = .ok (.invokevirtual 95, 3) := by decide +kernel
theorem dX10_track_39 : decode cX10_track 39 = .ok (.ifCond .eq 14, 3) := by decide +kernel
theorem dX10_track_42 : decode cX10_track 42 = .ok (.aload_n 0, 1) := by decide +kernel
theorem dX10_track_43 : decode cX10_track 43 = .ok (.iload_n 1, 1) := by decide +kernel
theorem dX10_track_44 : decode cX10_track 44 = .ok (.iconst 1, 1) := by decide +kernel
theorem dX10_track_45 : decode cX10_track 45 = .ok (.iload_n 2, 1) := by decide +kernel
theorem dX10_track_46 : decode cX10_track 46 = .ok (.iadd, 1) := by decide +kernel
theorem dX10_track_47 : decode cX10_track 47 = .ok (.invokevirtual 82, 3) := by decide +kernel
theorem dX10_track_50 : decode cX10_track 50 = .ok (.goto 4, 3) := by decide +kernel
theorem dX10_track_53 : decode cX10_track 53 = .ok (.iconst (-1), 1) := by decide +kernel
theorem dX10_track_54 : decode cX10_track 54 = .ok (.ireturn, 1) := by decide +kernel
set_option maxRecDepth 20000 in
theorem ggX10_squaredDistance_X10_isTrack : GoodIn wsX10_squaredDistance wsX10_isTrack := goodIn_r _ [5, 6, 7, 4, 8] (by decide +kernel) (by decide +kernel)
set_option maxRecDepth 20000 in
theorem gX10_squaredDistance_X10_isTrack : GoodIn wsX10_squaredDistance (va_wsS RX10 190 yX10_isTrack wsX10_isTrack) := goodIn_app (goodIn_of _ (by decide +kernel)) ggX10_squaredDistance_X10_isTrack
set_option maxRecDepth 20000 in
theorem ggX10_squaredDistance_X10_holds : GoodIn wsX10_squaredDistance wsX10_holds := goodIn_r _ [12, 13, 69, 70, 71, 72, 73, 74, 75, 76, 77, 78, 79, 80, 81, 82, 83, 84, 85, 86, 87, 88] (by decide +kernel) (by decide +kernel)
set_option maxRecDepth 20000 in
theorem gX10_squaredDistance_X10_holds : GoodIn wsX10_squaredDistance (wsV RX10 132 RX10 yX10_holds wsX10_holds) := goodIn_app (goodIn_of _ (by decide +kernel)) ggX10_squaredDistance_X10_holds
set_option maxRecDepth 20000 in
theorem ggX10_squaredDistance_X10_findsContacts : GoodIn wsX10_squaredDistance wsX10_findsContacts := goodIn_r _ [17, 1, 18, 19, 20, 4, 21, 22, 23, 24, 25, 26, 27, 28, 29, 30, 31, 32, 33, 34, 35, 36, 6, 7, 8, 37, 38, 39, 40, 41, 42, 43, 44, 45, 46, 47, 48, 49, 50, 51, 52, 53, 54, 55, 56, 69, 70, 71, 72, 73, 74, 75, 76, 77, 78, 79, 80, 81, 82, 83, 84, 85, 86, 87, 88] (by decide +kernel) (by decide +kernel)
set_option maxRecDepth 20000 in
theorem gX10_squaredDistance_X10_findsContacts : GoodIn wsX10_squaredDistance (wsV RX10 92 RX10 yX10_findsContacts wsX10_findsContacts) := goodIn_app (goodIn_of _ (by decide +kernel)) ggX10_squaredDistance_X10_findsContacts
set_option maxRecDepth 20000 in
theorem ggX10_squaredDistance_X10_isDownNow : GoodIn wsX10_squaredDistance wsX10_isDownNow := goodIn_r _ [60, 61, 62, 63, 4, 64, 29, 69, 70, 71, 72, 73, 74, 75, 76, 77, 78, 79, 80, 81, 82, 83, 84, 85, 86, 87, 88] (by decide +kernel) (by decide +kernel)
set_option maxRecDepth 20000 in
theorem gX10_squaredDistance_X10_isDownNow : GoodIn wsX10_squaredDistance (wsV RX10 95 RX10 yX10_isDownNow wsX10_isDownNow) := goodIn_app (goodIn_of _ (by decide +kernel)) ggX10_squaredDistance_X10_isDownNow
set_option maxRecDepth 20000 in
theorem ggX10_squaredDistance_X10_square : GoodIn wsX10_squaredDistance wsX10_square := goodIn_r _ [68, 49, 50, 61, 62, 63, 4, 64, 29, 69, 70, 71, 72, 73, 74, 75, 76, 77, 78, 79, 80, 81, 82, 83, 84, 85, 86, 87, 88] (by decide +kernel) (by decide +kernel)
set_option maxRecDepth 20000 in
theorem gX10_squaredDistance_X10_square : GoodIn wsX10_squaredDistance (wsV RX10 89 RX10 yX10_square wsX10_square) := goodIn_app (goodIn_of _ (by decide +kernel)) ggX10_squaredDistance_X10_square
theorem dX10_squaredDistance_0 : decode cX10_squaredDistance 0 = .ok (.aload_n 0, 1) := by decide +kernel
theorem dX10_squaredDistance_1 : decode cX10_squaredDistance 1 = .ok (.iload_n 1, 1) := by decide +kernel
theorem dX10_squaredDistance_2 : decode cX10_squaredDistance 2 = .ok (.invokestatic 190, 3) := by decide +kernel
theorem dX10_squaredDistance_5 : decode cX10_squaredDistance 5 = .ok (.ifCond .eq 11, 3) := by decide +kernel
theorem dX10_squaredDistance_8 : decode cX10_squaredDistance 8 = .ok (.iload_n 2, 1) := by decide +kernel
theorem dX10_squaredDistance_9 : decode cX10_squaredDistance 9 = .ok (.ifCond .lt 7, 3) := by decide +kernel
theorem dX10_squaredDistance_12 : decode cX10_squaredDistance 12 = .ok (.iconst 0, 1) := by decide +kernel
theorem dX10_squaredDistance_13 : decode cX10_squaredDistance 13 = .ok (.goto 4, 3) := by decide +kernel
theorem dX10_squaredDistance_16 : decode cX10_squaredDistance 16 = .ok (.iconst 1, 1) := by decide +kernel
theorem dX10_squaredDistance_17 : decode cX10_squaredDistance 17 = .ok (.invokevirtual 132, 3) := by decide +kernel
theorem dX10_squaredDistance_20 : decode cX10_squaredDistance 20 = .ok (.ifCond .ne 5, 3) := by decide +kernel
theorem dX10_squaredDistance_23 : decode cX10_squaredDistance 23 = .ok (.iconst 0, 1) := by decide +kernel
theorem dX10_squaredDistance_24 : decode cX10_squaredDistance 24 = .ok (.ireturn, 1) := by decide +kernel
theorem dX10_squaredDistance_25 : decode cX10_squaredDistance 25 = .ok (.aload_n 0, 1) := by decide +kernel
theorem dX10_squaredDistance_26 : decode cX10_squaredDistance 26 = .ok (.invokevirtual 92, 3) := by decide +kernel
theorem dX10_squaredDistance_29 : decode cX10_squaredDistance 29 = .ok (.aload_n 0, 1) := by decide +kernel
theorem dX10_squaredDistance_30 : decode cX10_squaredDistance 30 = .ok (.iload_n 1, 1) := by decide +kernel
theorem dX10_squaredDistance_31 : decode cX10_squaredDistance 31 = .ok (.invokevirtual 95, 3) := by decide +kernel
theorem dX10_squaredDistance_34 : decode cX10_squaredDistance 34 = .ok (.ifCond .eq 20, 3) := by decide +kernel
theorem dX10_squaredDistance_37 : decode cX10_squaredDistance 37 = .ok (.iload_n 2, 1) := by decide +kernel
theorem dX10_squaredDistance_38 : decode cX10_squaredDistance 38 = .ok (.aload_n 0, 1) := by decide +kernel
theorem dX10_squaredDistance_39 : decode cX10_squaredDistance 39 = .ok (.getfield 66, 3) := by decide +kernel
theorem dX10_squaredDistance_42 : decode cX10_squaredDistance 42 = .ok (.if_icmp .ge 12, 3) := by decide +kernel
theorem dX10_squaredDistance_45 : decode cX10_squaredDistance 45 = .ok (.aload_n 0, 1) := by decide +kernel
theorem dX10_squaredDistance_46 : decode cX10_squaredDistance 46 = .ok (.iload_n 1, 1) := by decide +kernel
theorem dX10_squaredDistance_47 : decode cX10_squaredDistance 47 = .ok (.iload_n 2, 1) := by decide +kernel
theorem dX10_squaredDistance_48 : decode cX10_squaredDistance 48 = .ok (.invokevirtual 89, 3) := by decide +kernel
theorem dX10_squaredDistance_51 : decode cX10_squaredDistance 51 = .ok (.goto 4, 3) := by decide +kernel
theorem dX10_squaredDistance_54 : decode cX10_squaredDistance 54 = .ok (.iconst (-1), 1) := by decide +kernel
theorem dX10_squaredDistance_55 : decode cX10_squaredDistance 55 = .ok (.ireturn, 1) := by decide +kernel
set_option maxRecDepth 20000 in
theorem ggX10_match_X10_isTrack : GoodIn wsX10_match wsX10_isTrack := goodIn_r _ [5, 6, 7, 4, 8] (by decide +kernel) (by decide +kernel)
set_option maxRecDepth 20000 in
theorem gX10_match_X10_isTrack : GoodIn wsX10_match (va_wsS RX10 190 yX10_isTrack wsX10_isTrack) := goodIn_app (goodIn_of _ (by decide +kernel)) ggX10_match_X10_isTrack
set_option maxRecDepth 20000 in
theorem ggX10_match_X10_holds : GoodIn wsX10_match wsX10_holds := goodIn_r _ [12, 13, 83, 84, 85, 86, 87, 88, 89, 90, 91, 92, 93, 94, 95, 96, 97, 98, 99, 100, 101, 102] (by decide +kernel) (by decide +kernel)
set_option maxRecDepth 20000 in
theorem gX10_match_X10_holds : GoodIn wsX10_match (wsV RX10 132 RX10 yX10_holds wsX10_holds) := goodIn_app (goodIn_of _ (by decide +kernel)) ggX10_match_X10_holds
set_option maxRecDepth 20000 in
theorem ggX10_match_X10_findsMatching : GoodIn wsX10_match wsX10_findsMatching := goodIn_r _ [17, 18, 1, 19, 20, 21, 4, 22, 23, 24, 25, 26, 27, 28, 29, 30, 31, 32, 33, 34, 35, 36, 37, 38, 39, 40, 41, 42, 6, 7, 8, 43, 44, 45, 46, 47, 48, 49, 50, 51, 52, 53, 54, 55, 56, 57, 58, 59, 60, 61, 62, 63, 64, 65, 66, 67, 68, 69, 70, 71, 72, 73, 74, 75, 76, 77, 78, 79, 80, 81, 82, 83, 84, 85, 86, 87, 88, 89, 90, 91, 92, 93, 94, 95, 96, 97, 98, 99, 100, 101, 102] (by decide +kernel) (by decide +kernel)
set_option maxRecDepth 20000 in
theorem gX10_match_X10_findsMatching : GoodIn wsX10_match (wsV RX10 106 RX10 yX10_findsMatching wsX10_findsMatching) := goodIn_app (goodIn_of _ (by decide +kernel)) ggX10_match_X10_findsMatching
theorem dX10_match_0 : decode cX10_match 0 = .ok (.aload_n 0, 1) := by decide +kernel
theorem dX10_match_1 : decode cX10_match 1 = .ok (.iload_n 1, 1) := by decide +kernel
theorem dX10_match_2 : decode cX10_match 2 = .ok (.invokestatic 190, 3) := by decide +kernel
theorem dX10_match_5 : decode cX10_match 5 = .ok (.ifCond .eq 7, 3) := by decide +kernel
theorem dX10_match_8 : decode cX10_match 8 = .ok (.iconst 0, 1) := by decide +kernel
theorem dX10_match_9 : decode cX10_match 9 = .ok (.goto 4, 3) := by decide +kernel
theorem dX10_match_12 : decode cX10_match 12 = .ok (.iconst 1, 1) := by decide +kernel
theorem dX10_match_13 : decode cX10_match 13 = .ok (.invokevirtual 132, 3) := by decide +kernel
theorem dX10_match_16 : decode cX10_match 16 = .ok (.ifCond .ne 5, 3) := by decide +kernel
theorem dX10_match_19 : decode cX10_match 19 = .ok (.iconst 0, 1) := by decide +kernel
theorem dX10_match_20 : decode cX10_match 20 = .ok (.ireturn, 1) := by decide +kernel
theorem dX10_match_21 : decode cX10_match 21 = .ok (.aload_n 0, 1) := by decide +kernel
theorem dX10_match_22 : decode cX10_match 22 = .ok (.invokevirtual 106, 3) := by decide +kernel
theorem dX10_match_25 : decode cX10_match 25 = .ok (.aload_n 0, 1) := by decide +kernel
theorem dX10_match_26 : decode cX10_match 26 = .ok (.getfield 40, 3) := by decide +kernel
theorem dX10_match_29 : decode cX10_match 29 = .ok (.iload_n 1, 1) := by decide +kernel
theorem dX10_match_30 : decode cX10_match 30 = .ok (.iaload, 1) := by decide +kernel
theorem dX10_match_31 : decode cX10_match 31 = .ok (.ireturn, 1) := by decide +kernel
set_option maxRecDepth 20000 in
theorem ggX10_matchingCost_X10_findsMatching : GoodIn wsX10_matchingCost wsX10_findsMatching := goodIn_r _ [7, 2, 8, 9, 10, 11, 6, 12, 13, 14, 15, 16, 17, 18, 19, 20, 21, 22, 23, 24, 25, 26, 27, 28, 29, 30, 31, 32, 33, 34, 35, 36, 37, 38, 39, 40, 41, 42, 43, 44, 45, 46, 47, 48, 49, 50, 51, 52, 53, 54, 55, 56, 57, 58, 59, 60, 61, 62, 63, 64, 65, 66, 67, 68, 69, 70, 71, 72, 73, 74, 75, 76, 77, 78, 79, 80, 81, 82, 83, 84, 85, 86, 87, 88, 89, 90, 91, 92, 93, 94, 95] (by decide +kernel) (by decide +kernel)
set_option maxRecDepth 20000 in
theorem gX10_matchingCost_X10_findsMatching : GoodIn wsX10_matchingCost (wsV RX10 106 RX10 yX10_findsMatching wsX10_findsMatching) := goodIn_app (goodIn_of _ (by decide +kernel)) ggX10_matchingCost_X10_findsMatching
theorem dX10_matchingCost_0 : decode cX10_matchingCost 0 = .ok (.aload_n 0, 1) := by decide +kernel
theorem dX10_matchingCost_1 : decode cX10_matchingCost 1 = .ok (.iconst 0, 1) := by decide +kernel
theorem dX10_matchingCost_2 : decode cX10_matchingCost 2 = .ok (.putfield 43, 3) := by decide +kernel
theorem dX10_matchingCost_5 : decode cX10_matchingCost 5 = .ok (.aload_n 0, 1) := by decide +kernel
theorem dX10_matchingCost_6 : decode cX10_matchingCost 6 = .ok (.invokevirtual 106, 3) := by decide +kernel
theorem dX10_matchingCost_9 : decode cX10_matchingCost 9 = .ok (.aload_n 0, 1) := by decide +kernel
theorem dX10_matchingCost_10 : decode cX10_matchingCost 10 = .ok (.getfield 37, 3) := by decide +kernel
theorem dX10_matchingCost_13 : decode cX10_matchingCost 13 = .ok (.iconst 0, 1) := by decide +kernel
theorem dX10_matchingCost_14 : decode cX10_matchingCost 14 = .ok (.iaload, 1) := by decide +kernel
theorem dX10_matchingCost_15 : decode cX10_matchingCost 15 = .ok (.ireturn, 1) := by decide +kernel
set_option maxRecDepth 20000 in
theorem ggX10_downIfScanned_X10_findsMatching : GoodIn wsX10_downIfScanned wsX10_findsMatching := goodIn_r _ [7, 8, 9, 10, 11, 12, 6, 13, 2, 14, 15, 16, 17, 18, 19, 20, 21, 22, 23, 24, 25, 26, 27, 28, 29, 30, 31, 32, 33, 34, 35, 36, 37, 38, 39, 40, 41, 42, 43, 44, 45, 46, 47, 48, 49, 50, 51, 52, 53, 54, 55, 56, 57, 58, 59, 60, 61, 62, 63, 64, 65, 66, 67, 68, 69, 70, 71, 72, 73, 74, 75, 84, 85, 86, 87, 88, 89, 90, 91, 92, 93, 94, 95, 96, 97, 98, 99, 100, 101, 102, 103] (by decide +kernel) (by decide +kernel)
set_option maxRecDepth 20000 in
theorem gX10_downIfScanned_X10_findsMatching : GoodIn wsX10_downIfScanned (wsV RX10 106 RX10 yX10_findsMatching wsX10_findsMatching) := goodIn_app (goodIn_of _ (by decide +kernel)) ggX10_downIfScanned_X10_findsMatching
set_option maxRecDepth 20000 in
theorem ggX10_downIfScanned_X10_unmatched : GoodIn wsX10_downIfScanned wsX10_unmatched := goodIn_r _ [79, 2, 9, 84, 85, 86, 87, 88, 89, 90, 91, 92, 93, 94, 95, 96, 97, 98, 99, 100, 101, 102, 103] (by decide +kernel) (by decide +kernel)
set_option maxRecDepth 20000 in
theorem gX10_downIfScanned_X10_unmatched : GoodIn wsX10_downIfScanned (wsV RX10 109 RX10 yX10_unmatched wsX10_unmatched) := goodIn_app (goodIn_of _ (by decide +kernel)) ggX10_downIfScanned_X10_unmatched
set_option maxRecDepth 20000 in
theorem ggX10_downIfScanned_X10_isDownNow : GoodIn wsX10_downIfScanned wsX10_isDownNow := goodIn_r _ [59, 60, 61, 62, 6, 63, 25, 84, 85, 86, 87, 88, 89, 90, 91, 92, 93, 94, 95, 96, 97, 98, 99, 100, 101, 102, 103] (by decide +kernel) (by decide +kernel)
set_option maxRecDepth 20000 in
theorem gX10_downIfScanned_X10_isDownNow : GoodIn wsX10_downIfScanned (wsV RX10 95 RX10 yX10_isDownNow wsX10_isDownNow) := goodIn_app (goodIn_of _ (by decide +kernel)) ggX10_downIfScanned_X10_isDownNow
set_option maxRecDepth 20000 in
theorem ggX10_downIfScanned_X10_staysDown : GoodIn wsX10_downIfScanned wsX10_staysDown := goodIn_r _ [83, 9, 25, 56, 57, 58, 6, 59, 60, 61, 62, 63, 84, 85, 86, 87, 88, 89, 90, 91, 92, 93, 94, 95, 96, 97, 98, 99, 100, 101, 102, 103] (by decide +kernel) (by decide +kernel)
set_option maxRecDepth 20000 in
theorem gX10_downIfScanned_X10_staysDown : GoodIn wsX10_downIfScanned (wsV RX10 115 RX10 yX10_staysDown wsX10_staysDown) := goodIn_app (goodIn_of _ (by decide +kernel)) ggX10_downIfScanned_X10_staysDown
theorem dX10_downIfScanned_0 : decode cX10_downIfScanned 0 = .ok (.aload_n 0, 1) := by decide +kernel
theorem dX10_downIfScanned_1 : decode cX10_downIfScanned 1 = .ok (.iconst 0, 1) := by decide +kernel
theorem dX10_downIfScanned_2 : decode cX10_downIfScanned 2 = .ok (.putfield 43, 3) := by decide +kernel
theorem dX10_downIfScanned_5 : decode cX10_downIfScanned 5 = .ok (.aload_n 0, 1) := by decide +kernel
theorem dX10_downIfScanned_6 : decode cX10_downIfScanned 6 = .ok (.invokevirtual 106, 3) := by decide +kernel
theorem dX10_downIfScanned_9 : decode cX10_downIfScanned 9 = .ok (.aload_n 0, 1) := by decide +kernel
theorem dX10_downIfScanned_10 : decode cX10_downIfScanned 10 = .ok (.invokevirtual 109, 3) := by decide +kernel
theorem dX10_downIfScanned_13 : decode cX10_downIfScanned 13 = .ok (.istore_n 1, 1) := by decide +kernel
theorem dX10_downIfScanned_14 : decode cX10_downIfScanned 14 = .ok (.iconst 0, 1) := by decide +kernel
theorem dX10_downIfScanned_15 : decode cX10_downIfScanned 15 = .ok (.istore_n 2, 1) := by decide +kernel
theorem dX10_downIfScanned_16 : decode cX10_downIfScanned 16 = .ok (.iconst 0, 1) := by decide +kernel
theorem dX10_downIfScanned_17 : decode cX10_downIfScanned 17 = .ok (.istore_n 3, 1) := by decide +kernel
theorem dX10_downIfScanned_18 : decode cX10_downIfScanned 18 = .ok (.iload_n 3, 1) := by decide +kernel
theorem dX10_downIfScanned_19 : decode cX10_downIfScanned 19 = .ok (.aload_n 0, 1) := by decide +kernel
theorem dX10_downIfScanned_20 : decode cX10_downIfScanned 20 = .ok (.getfield 66, 3) := by decide +kernel
theorem dX10_downIfScanned_23 : decode cX10_downIfScanned 23 = .ok (.if_icmp .ge 17, 3) := by decide +kernel
theorem dX10_downIfScanned_26 : decode cX10_downIfScanned 26 = .ok (.iload_n 2, 1) := by decide +kernel
theorem dX10_downIfScanned_27 : decode cX10_downIfScanned 27 = .ok (.iload_n 1, 1) := by decide +kernel
theorem dX10_downIfScanned_28 : decode cX10_downIfScanned 28 = .ok (.iload_n 3, 1) := by decide +kernel
theorem dX10_downIfScanned_29 : decode cX10_downIfScanned 29 = .ok (.ishr, 1) := by decide +kernel
theorem dX10_downIfScanned_30 : decode cX10_downIfScanned 30 = .ok (.iconst 1, 1) := by decide +kernel
theorem dX10_downIfScanned_31 : decode cX10_downIfScanned 31 = .ok (.iand, 1) := by decide +kernel
theorem dX10_downIfScanned_32 : decode cX10_downIfScanned 32 = .ok (.iadd, 1) := by decide +kernel
theorem dX10_downIfScanned_33 : decode cX10_downIfScanned 33 = .ok (.istore_n 2, 1) := by decide +kernel
theorem dX10_downIfScanned_34 : decode cX10_downIfScanned 34 = .ok (.iinc 3 1, 3) := by decide +kernel
theorem dX10_downIfScanned_37 : decode cX10_downIfScanned 37 = .ok (.goto (-19), 3) := by decide +kernel
theorem dX10_downIfScanned_40 : decode cX10_downIfScanned 40 = .ok (.iconst 0, 1) := by decide +kernel
theorem dX10_downIfScanned_41 : decode cX10_downIfScanned 41 = .ok (.istore_n 3, 1) := by decide +kernel
theorem dX10_downIfScanned_42 : decode cX10_downIfScanned 42 = .ok (.iconst 0, 1) := by decide +kernel
theorem dX10_downIfScanned_43 : decode cX10_downIfScanned 43 = .ok (.istore 4, 2) := by decide +kernel
theorem dX10_downIfScanned_45 : decode cX10_downIfScanned 45 = .ok (.iload 4, 2) := by decide +kernel
theorem dX10_downIfScanned_47 : decode cX10_downIfScanned 47 = .ok (.bipush 6, 2) := by decide +kernel
theorem dX10_downIfScanned_49 : decode cX10_downIfScanned 49 = .ok (.if_icmp .ge 67, 3) := by decide +kernel
theorem dX10_downIfScanned_52 : decode cX10_downIfScanned 52 = .ok (.aload_n 0, 1) := by decide +kernel
theorem dX10_downIfScanned_53 : decode cX10_downIfScanned 53 = .ok (.iload 4, 2) := by decide +kernel
theorem dX10_downIfScanned_55 : decode cX10_downIfScanned 55 = .ok (.invokevirtual 95, 3) := by decide +kernel
theorem dX10_downIfScanned_58 : decode cX10_downIfScanned 58 = .ok (.ifCond .ne 11, 3) := by decide +kernel
theorem dX10_downIfScanned_61 : decode cX10_downIfScanned 61 = .ok (.iload_n 2, 1) := by decide +kernel
theorem dX10_downIfScanned_62 : decode cX10_downIfScanned 62 = .ok (.ifCond .le 7, 3) := by decide +kernel
theorem dX10_downIfScanned_65 : decode cX10_downIfScanned 65 = .ok (.iconst 1, 1) := by decide +kernel
theorem dX10_downIfScanned_66 : decode cX10_downIfScanned 66 = .ok (.goto 4, 3) := by decide +kernel
theorem dX10_downIfScanned_69 : decode cX10_downIfScanned 69 = .ok (.iconst 0, 1) := by decide +kernel
theorem dX10_downIfScanned_70 : decode cX10_downIfScanned 70 = .ok (.istore 5, 2) := by decide +kernel
theorem dX10_downIfScanned_72 : decode cX10_downIfScanned 72 = .ok (.iload_n 2, 1) := by decide +kernel
theorem dX10_downIfScanned_73 : decode cX10_downIfScanned 73 = .ok (.iload 5, 2) := by decide +kernel
theorem dX10_downIfScanned_75 : decode cX10_downIfScanned 75 = .ok (.ifCond .eq 7, 3) := by decide +kernel
theorem dX10_downIfScanned_78 : decode cX10_downIfScanned 78 = .ok (.iconst 1, 1) := by decide +kernel
theorem dX10_downIfScanned_79 : decode cX10_downIfScanned 79 = .ok (.goto 4, 3) := by decide +kernel
theorem dX10_downIfScanned_82 : decode cX10_downIfScanned 82 = .ok (.iconst 0, 1) := by decide +kernel
theorem dX10_downIfScanned_83 : decode cX10_downIfScanned 83 = .ok (.isub, 1) := by decide +kernel
theorem dX10_downIfScanned_84 : decode cX10_downIfScanned 84 = .ok (.istore_n 2, 1) := by decide +kernel
theorem dX10_downIfScanned_85 : decode cX10_downIfScanned 85 = .ok (.iload_n 3, 1) := by decide +kernel
theorem dX10_downIfScanned_86 : decode cX10_downIfScanned 86 = .ok (.iload 5, 2) := by decide +kernel
theorem dX10_downIfScanned_88 : decode cX10_downIfScanned 88 = .ok (.ifCond .ne 12, 3) := by decide +kernel
theorem dX10_downIfScanned_91 : decode cX10_downIfScanned 91 = .ok (.aload_n 0, 1) := by decide +kernel
theorem dX10_downIfScanned_92 : decode cX10_downIfScanned 92 = .ok (.iload 4, 2) := by decide +kernel
theorem dX10_downIfScanned_94 : decode cX10_downIfScanned 94 = .ok (.invokevirtual 115, 3) := by decide +kernel
theorem dX10_downIfScanned_97 : decode cX10_downIfScanned 97 = .ok (.ifCond .eq 10, 3) := by decide +kernel
theorem dX10_downIfScanned_100 : decode cX10_downIfScanned 100 = .ok (.iconst 1, 1) := by decide +kernel
theorem dX10_downIfScanned_101 : decode cX10_downIfScanned 101 = .ok (.iload 4, 2) := by decide +kernel
theorem dX10_downIfScanned_103 : decode cX10_downIfScanned 103 = .ok (.ishl, 1) := by decide +kernel
theorem dX10_downIfScanned_104 : decode cX10_downIfScanned 104 = .ok (.goto 4, 3) := by decide +kernel
theorem dX10_downIfScanned_107 : decode cX10_downIfScanned 107 = .ok (.iconst 0, 1) := by decide +kernel
theorem dX10_downIfScanned_108 : decode cX10_downIfScanned 108 = .ok (.ior, 1) := by decide +kernel
theorem dX10_downIfScanned_109 : decode cX10_downIfScanned 109 = .ok (.istore_n 3, 1) := by decide +kernel
theorem dX10_downIfScanned_110 : decode cX10_downIfScanned 110 = .ok (.iinc 4 1, 3) := by decide +kernel
theorem dX10_downIfScanned_113 : decode cX10_downIfScanned 113 = .ok (.goto (-68), 3) := by decide +kernel
theorem dX10_downIfScanned_116 : decode cX10_downIfScanned 116 = .ok (.iload_n 3, 1) := by decide +kernel
theorem dX10_downIfScanned_117 : decode cX10_downIfScanned 117 = .ok (.ireturn, 1) := by decide +kernel
theorem dX10_frames_0 : decode cX10_frames 0 = .ok (.aload_n 0, 1) := by decide +kernel
theorem dX10_frames_1 : decode cX10_frames 1 = .ok (.iconst 0, 1) := by decide +kernel
theorem dX10_frames_2 : decode cX10_frames 2 = .ok (.putfield 43, 3) := by decide +kernel
theorem dX10_frames_5 : decode cX10_frames 5 = .ok (.aload_n 0, 1) := by decide +kernel
theorem dX10_frames_6 : decode cX10_frames 6 = .ok (.getfield 7, 3) := by decide +kernel
theorem dX10_frames_9 : decode cX10_frames 9 = .ok (.sipush 131, 3) := by decide +kernel
theorem dX10_frames_12 : decode cX10_frames 12 = .ok (.iaload, 1) := by decide +kernel
theorem dX10_frames_13 : decode cX10_frames 13 = .ok (.ireturn, 1) := by decide +kernel
theorem dX10_downs_0 : decode cX10_downs 0 = .ok (.aload_n 0, 1) := by decide +kernel
theorem dX10_downs_1 : decode cX10_downs 1 = .ok (.iconst 0, 1) := by decide +kernel
theorem dX10_downs_2 : decode cX10_downs 2 = .ok (.putfield 43, 3) := by decide +kernel
theorem dX10_downs_5 : decode cX10_downs 5 = .ok (.aload_n 0, 1) := by decide +kernel
theorem dX10_downs_6 : decode cX10_downs 6 = .ok (.getfield 7, 3) := by decide +kernel
theorem dX10_downs_9 : decode cX10_downs 9 = .ok (.sipush 132, 3) := by decide +kernel
theorem dX10_downs_12 : decode cX10_downs 12 = .ok (.iaload, 1) := by decide +kernel
theorem dX10_downs_13 : decode cX10_downs 13 = .ok (.ireturn, 1) := by decide +kernel
theorem dX10_ups_0 : decode cX10_ups 0 = .ok (.aload_n 0, 1) := by decide +kernel
theorem dX10_ups_1 : decode cX10_ups 1 = .ok (.iconst 0, 1) := by decide +kernel
theorem dX10_ups_2 : decode cX10_ups 2 = .ok (.putfield 43, 3) := by decide +kernel
theorem dX10_ups_5 : decode cX10_ups 5 = .ok (.aload_n 0, 1) := by decide +kernel
theorem dX10_ups_6 : decode cX10_ups 6 = .ok (.getfield 7, 3) := by decide +kernel
theorem dX10_ups_9 : decode cX10_ups 9 = .ok (.sipush 133, 3) := by decide +kernel
theorem dX10_ups_12 : decode cX10_ups 12 = .ok (.iaload, 1) := by decide +kernel
theorem dX10_ups_13 : decode cX10_ups 13 = .ok (.ireturn, 1) := by decide +kernel
set_option maxRecDepth 20000 in
theorem ggX10_meanSignal_X10_isTouched : GoodIn wsX10_meanSignal wsX10_isTouched := goodIn_r _ [6, 7, 8, 9, 10, 5, 11, 12, 13, 14, 15, 16, 17, 18, 19, 20, 21, 22, 23, 24, 25, 26, 27, 28, 29, 30, 31] (by decide +kernel) (by decide +kernel)
set_option maxRecDepth 20000 in
theorem gX10_meanSignal_X10_isTouched : GoodIn wsX10_meanSignal (wsV RX10 55 RX10 yX10_isTouched wsX10_isTouched) := goodIn_app (goodIn_of _ (by decide +kernel)) ggX10_meanSignal_X10_isTouched
set_option maxRecDepth 20000 in
theorem ggX10_meanSignal_X10_signalOf : GoodIn wsX10_meanSignal wsX10_signalOf := goodIn_r _ [11, 7, 12, 13, 14, 15, 16, 17, 18, 19, 20, 21, 22, 23, 24, 25, 26, 27, 28, 29, 30, 31] (by decide +kernel) (by decide +kernel)
set_option maxRecDepth 20000 in
theorem gX10_meanSignal_X10_signalOf : GoodIn wsX10_meanSignal (wsV RX10 51 RX10 yX10_signalOf wsX10_signalOf) := goodIn_app (goodIn_of _ (by decide +kernel)) ggX10_meanSignal_X10_signalOf
theorem dX10_meanSignal_0 : decode cX10_meanSignal 0 = .ok (.aload_n 0, 1) := by decide +kernel
theorem dX10_meanSignal_1 : decode cX10_meanSignal 1 = .ok (.iconst 0, 1) := by decide +kernel
theorem dX10_meanSignal_2 : decode cX10_meanSignal 2 = .ok (.putfield 43, 3) := by decide +kernel
theorem dX10_meanSignal_5 : decode cX10_meanSignal 5 = .ok (.iconst 0, 1) := by decide +kernel
theorem dX10_meanSignal_6 : decode cX10_meanSignal 6 = .ok (.istore_n 1, 1) := by decide +kernel
theorem dX10_meanSignal_7 : decode cX10_meanSignal 7 = .ok (.iconst 0, 1) := by decide +kernel
theorem dX10_meanSignal_8 : decode cX10_meanSignal 8 = .ok (.istore_n 2, 1) := by decide +kernel
theorem dX10_meanSignal_9 : decode cX10_meanSignal 9 = .ok (.iconst 0, 1) := by decide +kernel
theorem dX10_meanSignal_10 : decode cX10_meanSignal 10 = .ok (.istore_n 3, 1) := by decide +kernel
theorem dX10_meanSignal_11 : decode cX10_meanSignal 11 = .ok (.iload_n 3, 1) := by decide +kernel
theorem dX10_meanSignal_12 : decode cX10_meanSignal 12 = .ok (.bipush 48, 2) := by decide +kernel
theorem dX10_meanSignal_14 : decode cX10_meanSignal 14 = .ok (.if_icmp .ge 45, 3) := by decide +kernel
theorem dX10_meanSignal_17 : decode cX10_meanSignal 17 = .ok (.iload_n 1, 1) := by decide +kernel
theorem dX10_meanSignal_18 : decode cX10_meanSignal 18 = .ok (.aload_n 0, 1) := by decide +kernel
theorem dX10_meanSignal_19 : decode cX10_meanSignal 19 = .ok (.iload_n 3, 1) := by decide +kernel
theorem dX10_meanSignal_20 : decode cX10_meanSignal 20 = .ok (.invokevirtual 55, 3) := by decide +kernel
theorem dX10_meanSignal_23 : decode cX10_meanSignal 23 = .ok (.ifCond .eq 11, 3) := by decide +kernel
theorem dX10_meanSignal_26 : decode cX10_meanSignal 26 = .ok (.aload_n 0, 1) := by decide +kernel
theorem dX10_meanSignal_27 : decode cX10_meanSignal 27 = .ok (.iload_n 3, 1) := by decide +kernel
theorem dX10_meanSignal_28 : decode cX10_meanSignal 28 = .ok (.invokevirtual 51, 3) := by decide +kernel
theorem dX10_meanSignal_31 : decode cX10_meanSignal 31 = .ok (.goto 4, 3) := by decide +kernel
theorem dX10_meanSignal_34 : decode cX10_meanSignal 34 = .ok (.iconst 0, 1) := by decide +kernel
theorem dX10_meanSignal_35 : decode cX10_meanSignal 35 = .ok (.iadd, 1) := by decide +kernel
theorem dX10_meanSignal_36 : decode cX10_meanSignal 36 = .ok (.istore_n 1, 1) := by decide +kernel
theorem dX10_meanSignal_37 : decode cX10_meanSignal 37 = .ok (.iload_n 2, 1) := by decide +kernel
theorem dX10_meanSignal_38 : decode cX10_meanSignal 38 = .ok (.aload_n 0, 1) := by decide +kernel
theorem dX10_meanSignal_39 : decode cX10_meanSignal 39 = .ok (.iload_n 3, 1) := by decide +kernel
theorem dX10_meanSignal_40 : decode cX10_meanSignal 40 = .ok (.invokevirtual 55, 3) := by decide +kernel
theorem dX10_meanSignal_43 : decode cX10_meanSignal 43 = .ok (.ifCond .eq 7, 3) := by decide +kernel
theorem dX10_meanSignal_46 : decode cX10_meanSignal 46 = .ok (.iconst 1, 1) := by decide +kernel
theorem dX10_meanSignal_47 : decode cX10_meanSignal 47 = .ok (.goto 4, 3) := by decide +kernel
theorem dX10_meanSignal_50 : decode cX10_meanSignal 50 = .ok (.iconst 0, 1) := by decide +kernel
theorem dX10_meanSignal_51 : decode cX10_meanSignal 51 = .ok (.iadd, 1) := by decide +kernel
theorem dX10_meanSignal_52 : decode cX10_meanSignal 52 = .ok (.istore_n 2, 1) := by decide +kernel
theorem dX10_meanSignal_53 : decode cX10_meanSignal 53 = .ok (.iinc 3 1, 3) := by decide +kernel
theorem dX10_meanSignal_56 : decode cX10_meanSignal 56 = .ok (.goto (-45), 3) := by decide +kernel
theorem dX10_meanSignal_59 : decode cX10_meanSignal 59 = .ok (.iload_n 2, 1) := by decide +kernel
theorem dX10_meanSignal_60 : decode cX10_meanSignal 60 = .ok (.ifCond .ne 7, 3) := by decide +kernel
theorem dX10_meanSignal_63 : decode cX10_meanSignal 63 = .ok (.fconst 0, 1) := by decide +kernel
theorem dX10_meanSignal_64 : decode cX10_meanSignal 64 = .ok (.goto 8, 3) := by decide +kernel
theorem dX10_meanSignal_67 : decode cX10_meanSignal 67 = .ok (.iload_n 1, 1) := by decide +kernel
theorem dX10_meanSignal_68 : decode cX10_meanSignal 68 = .ok (.i2f, 1) := by decide +kernel
theorem dX10_meanSignal_69 : decode cX10_meanSignal 69 = .ok (.iload_n 2, 1) := by decide +kernel
theorem dX10_meanSignal_70 : decode cX10_meanSignal 70 = .ok (.i2f, 1) := by decide +kernel
theorem dX10_meanSignal_71 : decode cX10_meanSignal 71 = .ok (.fdiv, 1) := by decide +kernel
theorem dX10_meanSignal_72 : decode cX10_meanSignal 72 = .ok (.freturn, 1) := by decide +kernel
theorem dX10_savedStates_0 : decode cX10_savedStates 0 = .ok (.aload_n 0, 1) := by decide +kernel
theorem dX10_savedStates_1 : decode cX10_savedStates 1 = .ok (.iconst 0, 1) := by decide +kernel
theorem dX10_savedStates_2 : decode cX10_savedStates 2 = .ok (.putfield 43, 3) := by decide +kernel
theorem dX10_savedStates_5 : decode cX10_savedStates 5 = .ok (.aload_n 0, 1) := by decide +kernel
theorem dX10_savedStates_6 : decode cX10_savedStates 6 = .ok (.getfield 118, 3) := by decide +kernel
theorem dX10_savedStates_9 : decode cX10_savedStates 9 = .ok (.ireturn, 1) := by decide +kernel
theorem dX10_textLength_0 : decode cX10_textLength 0 = .ok (.aload_n 0, 1) := by decide +kernel
theorem dX10_textLength_1 : decode cX10_textLength 1 = .ok (.iconst 0, 1) := by decide +kernel
theorem dX10_textLength_2 : decode cX10_textLength 2 = .ok (.putfield 43, 3) := by decide +kernel
theorem dX10_textLength_5 : decode cX10_textLength 5 = .ok (.aload_n 0, 1) := by decide +kernel
theorem dX10_textLength_6 : decode cX10_textLength 6 = .ok (.getfield 156, 3) := by decide +kernel
theorem dX10_textLength_9 : decode cX10_textLength 9 = .ok (.ireturn, 1) := by decide +kernel
abbrev vwCl : List vw_C := [(RX0, TX0, 5), (RX1, TX1, 6), (RX2, TX2, 2), (RX3, TX3, 6), (RX4, TX4, 2), (RX5, TX5, 5), (RX6, TX6, 6), (RX7, TX7, 2), (RX8, TX8, 5), (RX9, TX9, 8), (RX10, TX10, 20)]

