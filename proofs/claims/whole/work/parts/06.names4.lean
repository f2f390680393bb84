theorem dX10_findsRegions_70 : decode cX10_findsRegions 70 = .ok (.bipush 48, 2) := by decide +kernel
theorem dX10_findsRegions_72 : decode cX10_findsRegions 72 = .ok (.irem, 1) := by decide +kernel
theorem dX10_findsRegions_73 : decode cX10_findsRegions 73 = .ok (.istore 4, 2) := by decide +kernel
theorem dX10_findsRegions_75 : decode cX10_findsRegions 75 = .ok (.aload_n 0, 1) := by decide +kernel
theorem dX10_findsRegions_76 : decode cX10_findsRegions 76 = .ok (.getfield 16, 3) := by decide +kernel
theorem dX10_findsRegions_79 : decode cX10_findsRegions 79 = .ok (.iload_n 3, 1) := by decide +kernel
theorem dX10_findsRegions_80 : decode cX10_findsRegions 80 = .ok (.iaload, 1) := by decide +kernel
theorem dX10_findsRegions_81 : decode cX10_findsRegions 81 = .ok (.iconst (-1), 1) := by decide +kernel
theorem dX10_findsRegions_82 : decode cX10_findsRegions 82 = .ok (.if_icmp .eq 44, 3) := by decide +kernel
theorem dX10_findsRegions_85 : decode cX10_findsRegions 85 = .ok (.aload_n 0, 1) := by decide +kernel
theorem dX10_findsRegions_86 : decode cX10_findsRegions 86 = .ok (.getfield 16, 3) := by decide +kernel
theorem dX10_findsRegions_89 : decode cX10_findsRegions 89 = .ok (.iload 4, 2) := by decide +kernel
theorem dX10_findsRegions_91 : decode cX10_findsRegions 91 = .ok (.iaload, 1) := by decide +kernel
theorem dX10_findsRegions_92 : decode cX10_findsRegions 92 = .ok (.iconst (-1), 1) := by decide +kernel
theorem dX10_findsRegions_93 : decode cX10_findsRegions 93 = .ok (.if_icmp .eq 33, 3) := by decide +kernel
theorem dX10_findsRegions_96 : decode cX10_findsRegions 96 = .ok (.iload_n 3, 1) := by decide +kernel
theorem dX10_findsRegions_97 : decode cX10_findsRegions 97 = .ok (.iload 4, 2) := by decide +kernel
theorem dX10_findsRegions_99 : decode cX10_findsRegions 99 = .ok (.invokestatic 59, 3) := by decide +kernel
theorem dX10_findsRegions_102 : decode cX10_findsRegions 102 = .ok (.iconst 1, 1) := by decide +kernel
theorem dX10_findsRegions_103 : decode cX10_findsRegions 103 = .ok (.if_icmp .ne 23, 3) := by decide +kernel
theorem dX10_findsRegions_106 : decode cX10_findsRegions 106 = .ok (.aload_n 0, 1) := by decide +kernel
theorem dX10_findsRegions_107 : decode cX10_findsRegions 107 = .ok (.getfield 16, 3) := by decide +kernel
theorem dX10_findsRegions_110 : decode cX10_findsRegions 110 = .ok (.iload 4, 2) := by decide +kernel
theorem dX10_findsRegions_112 : decode cX10_findsRegions 112 = .ok (.iaload, 1) := by decide +kernel
theorem dX10_findsRegions_113 : decode cX10_findsRegions 113 = .ok (.aload_n 0, 1) := by decide +kernel
theorem dX10_findsRegions_114 : decode cX10_findsRegions 114 = .ok (.getfield 16, 3) := by decide +kernel
theorem dX10_findsRegions_117 : decode cX10_findsRegions 117 = .ok (.iload_n 3, 1) := by decide +kernel
theorem dX10_findsRegions_118 : decode cX10_findsRegions 118 = .ok (.iaload, 1) := by decide +kernel
theorem dX10_findsRegions_119 : decode cX10_findsRegions 119 = .ok (.if_icmp .ge 7, 3) := by decide +kernel
theorem dX10_findsRegions_122 : decode cX10_findsRegions 122 = .ok (.iconst 1, 1) := by decide +kernel
theorem dX10_findsRegions_123 : decode cX10_findsRegions 123 = .ok (.goto 4, 3) := by decide +kernel
theorem dX10_findsRegions_126 : decode cX10_findsRegions 126 = .ok (.iconst 0, 1) := by decide +kernel
theorem dX10_findsRegions_127 : decode cX10_findsRegions 127 = .ok (.istore 5, 2) := by decide +kernel
theorem dX10_findsRegions_129 : decode cX10_findsRegions 129 = .ok (.aload_n 0, 1) := by decide +kernel
theorem dX10_findsRegions_130 : decode cX10_findsRegions 130 = .ok (.getfield 16, 3) := by decide +kernel
theorem dX10_findsRegions_133 : decode cX10_findsRegions 133 = .ok (.iload_n 3, 1) := by decide +kernel
theorem dX10_findsRegions_134 : decode cX10_findsRegions 134 = .ok (.iload 5, 2) := by decide +kernel
theorem dX10_findsRegions_136 : decode cX10_findsRegions 136 = .ok (.ifCond .eq 13, 3) := by decide +kernel
theorem dX10_findsRegions_139 : decode cX10_findsRegions 139 = .ok (.aload_n 0, 1) := by decide +kernel
theorem dX10_findsRegions_140 : decode cX10_findsRegions 140 = .ok (.getfield 16, 3) := by decide +kernel
theorem dX10_findsRegions_143 : decode cX10_findsRegions 143 = .ok (.iload 4, 2) := by decide +kernel
theorem dX10_findsRegions_145 : decode cX10_findsRegions 145 = .ok (.iaload, 1) := by decide +kernel
theorem dX10_findsRegions_146 : decode cX10_findsRegions 146 = .ok (.goto 9, 3) := by decide +kernel
theorem dX10_findsRegions_149 : decode cX10_findsRegions 149 = .ok (.aload_n 0, 1) := by decide +kernel
theorem dX10_findsRegions_150 : decode cX10_findsRegions 150 = .ok (.getfield 16, 3) := by decide +kernel
theorem dX10_findsRegions_153 : decode cX10_findsRegions 153 = .ok (.iload_n 3, 1) := by decide +kernel
theorem dX10_findsRegions_154 : decode cX10_findsRegions 154 = .ok (.iaload, 1) := by decide +kernel
theorem dX10_findsRegions_155 : decode cX10_findsRegions 155 = .ok (.iastore, 1) := by decide +kernel
theorem dX10_findsRegions_156 : decode cX10_findsRegions 156 = .ok (.iload_n 1, 1) := by decide +kernel
theorem dX10_findsRegions_157 : decode cX10_findsRegions 157 = .ok (.ifCond .ne 8, 3) := by decide +kernel
theorem dX10_findsRegions_160 : decode cX10_findsRegions 160 = .ok (.iload 5, 2) := by decide +kernel
theorem dX10_findsRegions_162 : decode cX10_findsRegions 162 = .ok (.ifCond .eq 7, 3) := by decide +kernel
theorem dX10_findsRegions_165 : decode cX10_findsRegions 165 = .ok (.iconst 1, 1) := by decide +kernel
theorem dX10_findsRegions_166 : decode cX10_findsRegions 166 = .ok (.goto 4, 3) := by decide +kernel
theorem dX10_findsRegions_169 : decode cX10_findsRegions 169 = .ok (.iconst 0, 1) := by decide +kernel
theorem dX10_findsRegions_170 : decode cX10_findsRegions 170 = .ok (.istore_n 1, 1) := by decide +kernel
theorem dX10_findsRegions_171 : decode cX10_findsRegions 171 = .ok (.iinc 2 1, 3) := by decide +kernel
theorem dX10_findsRegions_174 : decode cX10_findsRegions 174 = .ok (.goto (-117), 3) := by decide +kernel
theorem dX10_findsRegions_177 : decode cX10_findsRegions 177 = .ok (.goto (-128), 3) := by decide +kernel
theorem dX10_findsRegions_180 : decode cX10_findsRegions 180 = .ok (.iconst 0, 1) := by decide +kernel
theorem dX10_findsRegions_181 : decode cX10_findsRegions 181 = .ok (.istore_n 2, 1) := by decide +kernel
theorem dX10_findsRegions_182 : decode cX10_findsRegions 182 = .ok (.iload_n 2, 1) := by decide +kernel
theorem dX10_findsRegions_183 : decode cX10_findsRegions 183 = .ok (.bipush 48, 2) := by decide +kernel
theorem dX10_findsRegions_185 : decode cX10_findsRegions 185 = .ok (.if_icmp .ge 70, 3) := by decide +kernel
theorem dX10_findsRegions_188 : decode cX10_findsRegions 188 = .ok (.aload_n 0, 1) := by decide +kernel
theorem dX10_findsRegions_189 : decode cX10_findsRegions 189 = .ok (.getfield 16, 3) := by decide +kernel
theorem dX10_findsRegions_192 : decode cX10_findsRegions 192 = .ok (.iload_n 2, 1) := by decide +kernel
theorem dX10_findsRegions_193 : decode cX10_findsRegions 193 = .ok (.iaload, 1) := by decide +kernel
theorem dX10_findsRegions_194 : decode cX10_findsRegions 194 = .ok (.iconst (-1), 1) := by decide +kernel
theorem dX10_findsRegions_195 : decode cX10_findsRegions 195 = .ok (.if_icmp .eq 54, 3) := by decide +kernel
theorem dX10_findsRegions_198 : decode cX10_findsRegions 198 = .ok (.aload_n 0, 1) := by decide +kernel
theorem dX10_findsRegions_199 : decode cX10_findsRegions 199 = .ok (.getfield 16, 3) := by decide +kernel
theorem dX10_findsRegions_202 : decode cX10_findsRegions 202 = .ok (.iload_n 2, 1) := by decide +kernel
theorem dX10_findsRegions_203 : decode cX10_findsRegions 203 = .ok (.iaload, 1) := by decide +kernel
theorem dX10_findsRegions_204 : decode cX10_findsRegions 204 = .ok (.istore_n 3, 1) := by decide +kernel
theorem dX10_findsRegions_205 : decode cX10_findsRegions 205 = .ok (.aload_n 0, 1) := by decide +kernel
theorem dX10_findsRegions_206 : decode cX10_findsRegions 206 = .ok (.getfield 19, 3) := by decide +kernel
theorem dX10_findsRegions_209 : decode cX10_findsRegions 209 = .ok (.iload_n 3, 1) := by decide +kernel
theorem dX10_findsRegions_210 : decode cX10_findsRegions 210 = .ok (.dup2, 1) := by decide +kernel
theorem dX10_findsRegions_211 : decode cX10_findsRegions 211 = .ok (.iaload, 1) := by decide +kernel
theorem dX10_findsRegions_212 : decode cX10_findsRegions 212 = .ok (.iconst 1, 1) := by decide +kernel
theorem dX10_findsRegions_213 : decode cX10_findsRegions 213 = .ok (.iadd, 1) := by decide +kernel
theorem dX10_findsRegions_214 : decode cX10_findsRegions 214 = .ok (.iastore, 1) := by decide +kernel
theorem dX10_findsRegions_215 : decode cX10_findsRegions 215 = .ok (.aload_n 0, 1) := by decide +kernel
theorem dX10_findsRegions_216 : decode cX10_findsRegions 216 = .ok (.getfield 22, 3) := by decide +kernel
theorem dX10_findsRegions_219 : decode cX10_findsRegions 219 = .ok (.iload_n 3, 1) := by decide +kernel
theorem dX10_findsRegions_220 : decode cX10_findsRegions 220 = .ok (.aload_n 0, 1) := by decide +kernel
theorem dX10_findsRegions_221 : decode cX10_findsRegions 221 = .ok (.iload_n 2, 1) := by decide +kernel
theorem dX10_findsRegions_222 : decode cX10_findsRegions 222 = .ok (.invokevirtual 51, 3) := by decide +kernel
theorem dX10_findsRegions_225 : decode cX10_findsRegions 225 = .ok (.aload_n 0, 1) := by decide +kernel
theorem dX10_findsRegions_226 : decode cX10_findsRegions 226 = .ok (.getfield 22, 3) := by decide +kernel
theorem dX10_findsRegions_229 : decode cX10_findsRegions 229 = .ok (.iload_n 3, 1) := by decide +kernel
theorem dX10_findsRegions_230 : decode cX10_findsRegions 230 = .ok (.iaload, 1) := by decide +kernel
theorem dX10_findsRegions_231 : decode cX10_findsRegions 231 = .ok (.if_icmp .le 11, 3) := by decide +kernel
theorem dX10_findsRegions_234 : decode cX10_findsRegions 234 = .ok (.aload_n 0, 1) := by decide +kernel
theorem dX10_findsRegions_235 : decode cX10_findsRegions 235 = .ok (.iload_n 2, 1) := by decide +kernel
theorem dX10_findsRegions_236 : decode cX10_findsRegions 236 = .ok (.invokevirtual 51, 3) := by decide +kernel
theorem dX10_findsRegions_239 : decode cX10_findsRegions 239 = .ok (.goto 9, 3) := by decide +kernel
theorem dX10_findsRegions_242 : decode cX10_findsRegions 242 = .ok (.aload_n 0, 1) := by decide +kernel
theorem dX10_findsRegions_243 : decode cX10_findsRegions 243 = .ok (.getfield 22, 3) := by decide +kernel
theorem dX10_findsRegions_246 : decode cX10_findsRegions 246 = .ok (.iload_n 3, 1) := by decide +kernel
theorem dX10_findsRegions_247 : decode cX10_findsRegions 247 = .ok (.iaload, 1) := by decide +kernel
theorem dX10_findsRegions_248 : decode cX10_findsRegions 248 = .ok (.iastore, 1) := by decide +kernel
theorem dX10_findsRegions_249 : decode cX10_findsRegions 249 = .ok (.iinc 2 1, 3) := by decide +kernel
theorem dX10_findsRegions_252 : decode cX10_findsRegions 252 = .ok (.goto (-70), 3) := by decide +kernel
theorem dX10_findsRegions_255 : decode cX10_findsRegions 255 = .ok (.return_, 1) := by decide +kernel
theorem dX10_kindOf_0 : decode cX10_kindOf 0 = .ok (.aload_n 0, 1) := by decide +kernel
theorem dX10_kindOf_1 : decode cX10_kindOf 1 = .ok (.getfield 19, 3) := by decide +kernel
theorem dX10_kindOf_4 : decode cX10_kindOf 4 = .ok (.iload_n 1, 1) := by decide +kernel
theorem dX10_kindOf_5 : decode cX10_kindOf 5 = .ok (.iaload, 1) := by decide +kernel
theorem dX10_kindOf_6 : decode cX10_kindOf 6 = .ok (.aload_n 0, 1) := by decide +kernel
theorem dX10_kindOf_7 : decode cX10_kindOf 7 = .ok (.getfield 7, 3) := by decide +kernel
theorem dX10_kindOf_10 : decode cX10_kindOf 10 = .ok (.bipush 97, 2) := by decide +kernel
theorem dX10_kindOf_12 : decode cX10_kindOf 12 = .ok (.iaload, 1) := by decide +kernel
theorem dX10_kindOf_13 : decode cX10_kindOf 13 = .ok (.if_icmp .le 7, 3) := by decide +kernel
theorem dX10_kindOf_16 : decode cX10_kindOf 16 = .ok (.iconst 1, 1) := by decide +kernel
theorem dX10_kindOf_17 : decode cX10_kindOf 17 = .ok (.goto 24, 3) := by decide +kernel
theorem dX10_kindOf_20 : decode cX10_kindOf 20 = .ok (.aload_n 0, 1) := by decide +kernel
theorem dX10_kindOf_21 : decode cX10_kindOf 21 = .ok (.getfield 22, 3) := by decide +kernel
theorem dX10_kindOf_24 : decode cX10_kindOf 24 = .ok (.iload_n 1, 1) := by decide +kernel
theorem dX10_kindOf_25 : decode cX10_kindOf 25 = .ok (.iaload, 1) := by decide +kernel
theorem dX10_kindOf_26 : decode cX10_kindOf 26 = .ok (.aload_n 0, 1) := by decide +kernel
theorem dX10_kindOf_27 : decode cX10_kindOf 27 = .ok (.getfield 7, 3) := by decide +kernel
theorem dX10_kindOf_30 : decode cX10_kindOf 30 = .ok (.bipush 98, 2) := by decide +kernel
theorem dX10_kindOf_32 : decode cX10_kindOf 32 = .ok (.iaload, 1) := by decide +kernel
theorem dX10_kindOf_33 : decode cX10_kindOf 33 = .ok (.if_icmp .ge 7, 3) := by decide +kernel
theorem dX10_kindOf_36 : decode cX10_kindOf 36 = .ok (.iconst 2, 1) := by decide +kernel
theorem dX10_kindOf_37 : decode cX10_kindOf 37 = .ok (.goto 4, 3) := by decide +kernel
theorem dX10_kindOf_40 : decode cX10_kindOf 40 = .ok (.iconst 0, 1) := by decide +kernel
theorem dX10_kindOf_41 : decode cX10_kindOf 41 = .ok (.ireturn, 1) := by decide +kernel
set_option maxRecDepth 20000 in
theorem ggX10_isPeak_X10_kindOf : GoodIn wsX10_isPeak wsX10_kindOf := goodIn_r _ [6, 7, 8, 9, 20, 21, 22, 23, 24, 25, 26, 27, 28, 29, 30, 31, 32, 33, 34, 35, 36, 37, 38, 39] (by decide +kernel) (by decide +kernel)
set_option maxRecDepth 20000 in
theorem gX10_isPeak_X10_kindOf : GoodIn wsX10_isPeak (wsV RX10 63 RX10 yX10_kindOf wsX10_kindOf) := goodIn_app (goodIn_of _ (by decide +kernel)) ggX10_isPeak_X10_kindOf
set_option maxRecDepth 20000 in
theorem ggX10_isPeak_X10_signalOf : GoodIn wsX10_isPeak wsX10_signalOf := goodIn_r _ [13, 8, 20, 21, 22, 23, 24, 25, 26, 27, 28, 29, 30, 31, 32, 33, 34, 35, 36, 37, 38, 39] (by decide +kernel) (by decide +kernel)
set_option maxRecDepth 20000 in
theorem gX10_isPeak_X10_signalOf : GoodIn wsX10_isPeak (wsV RX10 51 RX10 yX10_signalOf wsX10_signalOf) := goodIn_app (goodIn_of _ (by decide +kernel)) ggX10_isPeak_X10_signalOf
set_option maxRecDepth 20000 in
theorem ggX10_isPeak_X10_apart : GoodIn wsX10_isPeak wsX10_apart := goodIn_r _ [16, 17, 18, 5, 19] (by decide +kernel) (by decide +kernel)
set_option maxRecDepth 20000 in
theorem gX10_isPeak_X10_apart : GoodIn wsX10_isPeak (va_wsS RX10 59 yX10_apart wsX10_apart) := goodIn_app (goodIn_of _ (by decide +kernel)) ggX10_isPeak_X10_apart
set_option maxRecDepth 20000 in
theorem ggX10_isPeak_X10_in : GoodIn wsX10_isPeak wsX10_in := goodIn_r _ [19] (by decide +kernel) (by decide +kernel)
set_option maxRecDepth 20000 in
theorem gX10_isPeak_X10_in : GoodIn wsX10_isPeak (va_wsS RX10 47 yX10_in wsX10_in) := goodIn_app (goodIn_of _ (by decide +kernel)) ggX10_isPeak_X10_in
theorem dX10_isPeak_0 : decode cX10_isPeak 0 = .ok (.aload_n 0, 1) := by decide +kernel
theorem dX10_isPeak_1 : decode cX10_isPeak 1 = .ok (.getfield 16, 3) := by decide +kernel
theorem dX10_isPeak_4 : decode cX10_isPeak 4 = .ok (.iload_n 1, 1) := by decide +kernel
theorem dX10_isPeak_5 : decode cX10_isPeak 5 = .ok (.iaload, 1) := by decide +kernel
theorem dX10_isPeak_6 : decode cX10_isPeak 6 = .ok (.iconst (-1), 1) := by decide +kernel
theorem dX10_isPeak_7 : decode cX10_isPeak 7 = .ok (.if_icmp .eq 20, 3) := by decide +kernel
theorem dX10_isPeak_10 : decode cX10_isPeak 10 = .ok (.aload_n 0, 1) := by decide +kernel
theorem dX10_isPeak_11 : decode cX10_isPeak 11 = .ok (.aload_n 0, 1) := by decide +kernel
theorem dX10_isPeak_12 : decode cX10_isPeak 12 = .ok (.getfield 16, 3) := by decide +kernel
theorem dX10_isPeak_15 : decode cX10_isPeak 15 = .ok (.iload_n 1, 1) := by decide +kernel
theorem dX10_isPeak_16 : decode cX10_isPeak 16 = .ok (.iaload, 1) := by decide +kernel
theorem dX10_isPeak_17 : decode cX10_isPeak 17 = .ok (.invokevirtual 63, 3) := by decide +kernel
theorem dX10_isPeak_20 : decode cX10_isPeak 20 = .ok (.ifCond .ne 7, 3) := by decide +kernel
theorem dX10_isPeak_23 : decode cX10_isPeak 23 = .ok (.iconst 1, 1) := by decide +kernel
theorem dX10_isPeak_24 : decode cX10_isPeak 24 = .ok (.goto 4, 3) := by decide +kernel
theorem dX10_isPeak_27 : decode cX10_isPeak 27 = .ok (.iconst 0, 1) := by decide +kernel
theorem dX10_isPeak_28 : decode cX10_isPeak 28 = .ok (.istore_n 2, 1) := by decide +kernel
theorem dX10_isPeak_29 : decode cX10_isPeak 29 = .ok (.iconst 0, 1) := by decide +kernel
theorem dX10_isPeak_30 : decode cX10_isPeak 30 = .ok (.istore_n 3, 1) := by decide +kernel
theorem dX10_isPeak_31 : decode cX10_isPeak 31 = .ok (.iload_n 3, 1) := by decide +kernel
theorem dX10_isPeak_32 : decode cX10_isPeak 32 = .ok (.bipush 48, 2) := by decide +kernel
theorem dX10_isPeak_34 : decode cX10_isPeak 34 = .ok (.if_icmp .ge 60, 3) := by decide +kernel
theorem dX10_isPeak_37 : decode cX10_isPeak 37 = .ok (.iload_n 2, 1) := by decide +kernel
theorem dX10_isPeak_38 : decode cX10_isPeak 38 = .ok (.ifCond .eq 56, 3) := by decide +kernel
theorem dX10_isPeak_41 : decode cX10_isPeak 41 = .ok (.aload_n 0, 1) := by decide +kernel
theorem dX10_isPeak_42 : decode cX10_isPeak 42 = .ok (.iload_n 3, 1) := by decide +kernel
theorem dX10_isPeak_43 : decode cX10_isPeak 43 = .ok (.invokevirtual 51, 3) := by decide +kernel
theorem dX10_isPeak_46 : decode cX10_isPeak 46 = .ok (.aload_n 0, 1) := by decide +kernel
theorem dX10_isPeak_47 : decode cX10_isPeak 47 = .ok (.iload_n 1, 1) := by decide +kernel
theorem dX10_isPeak_48 : decode cX10_isPeak 48 = .ok (.invokevirtual 51, 3) := by decide +kernel
theorem dX10_isPeak_51 : decode cX10_isPeak 51 = .ok (.isub, 1) := by decide +kernel
theorem dX10_isPeak_52 : decode cX10_isPeak 52 = .ok (.istore 4, 2) := by decide +kernel
theorem dX10_isPeak_54 : decode cX10_isPeak 54 = .ok (.iload_n 1, 1) := by decide +kernel
theorem dX10_isPeak_55 : decode cX10_isPeak 55 = .ok (.iload_n 3, 1) := by decide +kernel
theorem dX10_isPeak_56 : decode cX10_isPeak 56 = .ok (.invokestatic 59, 3) := by decide +kernel
theorem dX10_isPeak_59 : decode cX10_isPeak 59 = .ok (.iconst 1, 1) := by decide +kernel
theorem dX10_isPeak_60 : decode cX10_isPeak 60 = .ok (.iconst 2, 1) := by decide +kernel
theorem dX10_isPeak_61 : decode cX10_isPeak 61 = .ok (.invokestatic 47, 3) := by decide +kernel
theorem dX10_isPeak_64 : decode cX10_isPeak 64 = .ok (.ifCond .eq 18, 3) := by decide +kernel
theorem dX10_isPeak_67 : decode cX10_isPeak 67 = .ok (.iload 4, 2) := by decide +kernel
theorem dX10_isPeak_69 : decode cX10_isPeak 69 = .ok (.ifCond .lt 13, 3) := by decide +kernel
theorem dX10_isPeak_72 : decode cX10_isPeak 72 = .ok (.iload 4, 2) := by decide +kernel
theorem dX10_isPeak_74 : decode cX10_isPeak 74 = .ok (.ifCond .ne 12, 3) := by decide +kernel
theorem dX10_isPeak_77 : decode cX10_isPeak 77 = .ok (.iload_n 3, 1) := by decide +kernel
theorem dX10_isPeak_78 : decode cX10_isPeak 78 = .ok (.iload_n 1, 1) := by decide +kernel
theorem dX10_isPeak_79 : decode cX10_isPeak 79 = .ok (.if_icmp .le 7, 3) := by decide +kernel
theorem dX10_isPeak_82 : decode cX10_isPeak 82 = .ok (.iconst 1, 1) := by decide +kernel
theorem dX10_isPeak_83 : decode cX10_isPeak 83 = .ok (.goto 4, 3) := by decide +kernel
theorem dX10_isPeak_86 : decode cX10_isPeak 86 = .ok (.iconst 0, 1) := by decide +kernel
theorem dX10_isPeak_87 : decode cX10_isPeak 87 = .ok (.istore_n 2, 1) := by decide +kernel
theorem dX10_isPeak_88 : decode cX10_isPeak 88 = .ok (.iinc 3 1, 3) := by decide +kernel
theorem dX10_isPeak_91 : decode cX10_isPeak 91 = .ok (.goto (-60), 3) := by decide +kernel
theorem dX10_isPeak_94 : decode cX10_isPeak 94 = .ok (.iload_n 2, 1) := by decide +kernel
theorem dX10_isPeak_95 : decode cX10_isPeak 95 = .ok (.ireturn, 1) := by decide +kernel
set_option maxRecDepth 20000 in
theorem ggX10_laysContact_X10_apart : GoodIn wsX10_laysContact wsX10_apart := goodIn_r _ [9, 10, 11, 8, 12] (by decide +kernel) (by decide +kernel)
set_option maxRecDepth 20000 in
theorem gX10_laysContact_X10_apart : GoodIn wsX10_laysContact (va_wsS RX10 59 yX10_apart wsX10_apart) := goodIn_app (goodIn_of _ (by decide +kernel)) ggX10_laysContact_X10_apart
set_option maxRecDepth 20000 in
theorem ggX10_laysContact_X10_signalOf : GoodIn wsX10_laysContact wsX10_signalOf := goodIn_r _ [16, 17, 18, 19, 20, 21, 22, 23, 24, 25, 26, 27, 28, 29, 30, 31, 32, 33, 34, 35, 36, 37] (by decide +kernel) (by decide +kernel)
set_option maxRecDepth 20000 in
theorem gX10_laysContact_X10_signalOf : GoodIn wsX10_laysContact (wsV RX10 51 RX10 yX10_signalOf wsX10_signalOf) := goodIn_app (goodIn_of _ (by decide +kernel)) ggX10_laysContact_X10_signalOf
theorem dX10_laysContact_0 : decode cX10_laysContact 0 = .ok (.iconst 0, 1) := by decide +kernel
theorem dX10_laysContact_1 : decode cX10_laysContact 1 = .ok (.istore_n 2, 1) := by decide +kernel
theorem dX10_laysContact_2 : decode cX10_laysContact 2 = .ok (.iconst 0, 1) := by decide +kernel
theorem dX10_laysContact_3 : decode cX10_laysContact 3 = .ok (.istore_n 3, 1) := by decide +kernel
theorem dX10_laysContact_4 : decode cX10_laysContact 4 = .ok (.iconst 0, 1) := by decide +kernel
theorem dX10_laysContact_5 : decode cX10_laysContact 5 = .ok (.istore 4, 2) := by decide +kernel
theorem dX10_laysContact_7 : decode cX10_laysContact 7 = .ok (.iconst 0, 1) := by decide +kernel
theorem dX10_laysContact_8 : decode cX10_laysContact 8 = .ok (.istore 5, 2) := by decide +kernel
theorem dX10_laysContact_10 : decode cX10_laysContact 10 = .ok (.iload 5, 2) := by decide +kernel
theorem dX10_laysContact_12 : decode cX10_laysContact 12 = .ok (.bipush 48, 2) := by decide +kernel
theorem dX10_laysContact_14 : decode cX10_laysContact 14 = .ok (.if_icmp .ge 60, 3) := by decide +kernel
theorem dX10_laysContact_17 : decode cX10_laysContact 17 = .ok (.iload_n 1, 1) := by decide +kernel
theorem dX10_laysContact_18 : decode cX10_laysContact 18 = .ok (.iload 5, 2) := by decide +kernel
theorem dX10_laysContact_20 : decode cX10_laysContact 20 = .ok (.invokestatic 59, 3) := by decide +kernel
theorem dX10_laysContact_23 : decode cX10_laysContact 23 = .ok (.iconst 3, 1) := by decide +kernel
theorem dX10_laysContact_24 : decode cX10_laysContact 24 = .ok (.if_icmp .ge 12, 3) := by decide +kernel
theorem dX10_laysContact_27 : decode cX10_laysContact 27 = .ok (.aload_n 0, 1) := by decide +kernel
theorem dX10_laysContact_28 : decode cX10_laysContact 28 = .ok (.iload 5, 2) := by decide +kernel
theorem dX10_laysContact_30 : decode cX10_laysContact 30 = .ok (.invokevirtual 51, 3) := by decide +kernel
theorem dX10_laysContact_33 : decode cX10_laysContact 33 = .ok (.goto 4, 3) := by decide +kernel
theorem dX10_laysContact_36 : decode cX10_laysContact 36 = .ok (.iconst 0, 1) := by decide +kernel
theorem dX10_laysContact_37 : decode cX10_laysContact 37 = .ok (.istore 6, 2) := by decide +kernel
theorem dX10_laysContact_39 : decode cX10_laysContact 39 = .ok (.iload_n 2, 1) := by decide +kernel
theorem dX10_laysContact_40 : decode cX10_laysContact 40 = .ok (.iload 6, 2) := by decide +kernel
theorem dX10_laysContact_42 : decode cX10_laysContact 42 = .ok (.iadd, 1) := by decide +kernel
theorem dX10_laysContact_43 : decode cX10_laysContact 43 = .ok (.istore_n 2, 1) := by decide +kernel
theorem dX10_laysContact_44 : decode cX10_laysContact 44 = .ok (.iload_n 3, 1) := by decide +kernel
theorem dX10_laysContact_45 : decode cX10_laysContact 45 = .ok (.iload 6, 2) := by decide +kernel
theorem dX10_laysContact_47 : decode cX10_laysContact 47 = .ok (.iload 5, 2) := by decide +kernel
theorem dX10_laysContact_49 : decode cX10_laysContact 49 = .ok (.bipush 6, 2) := by decide +kernel
theorem dX10_laysContact_51 : decode cX10_laysContact 51 = .ok (.idiv, 1) := by decide +kernel
theorem dX10_laysContact_52 : decode cX10_laysContact 52 = .ok (.imul, 1) := by decide +kernel
theorem dX10_laysContact_53 : decode cX10_laysContact 53 = .ok (.iadd, 1) := by decide +kernel
theorem dX10_laysContact_54 : decode cX10_laysContact 54 = .ok (.istore_n 3, 1) := by decide +kernel
theorem dX10_laysContact_55 : decode cX10_laysContact 55 = .ok (.iload 4, 2) := by decide +kernel
theorem dX10_laysContact_57 : decode cX10_laysContact 57 = .ok (.iload 6, 2) := by decide +kernel
theorem dX10_laysContact_59 : decode cX10_laysContact 59 = .ok (.iload 5, 2) := by decide +kernel
theorem dX10_laysContact_61 : decode cX10_laysContact 61 = .ok (.bipush 6, 2) := by decide +kernel
theorem dX10_laysContact_63 : decode cX10_laysContact 63 = .ok (.irem, 1) := by decide +kernel
theorem dX10_laysContact_64 : decode cX10_laysContact 64 = .ok (.imul, 1) := by decide +kernel
theorem dX10_laysContact_65 : decode cX10_laysContact 65 = .ok (.iadd, 1) := by decide +kernel
theorem dX10_laysContact_66 : decode cX10_laysContact 66 = .ok (.istore 4, 2) := by decide +kernel
theorem dX10_laysContact_68 : decode cX10_laysContact 68 = .ok (.iinc 5 1, 3) := by decide +kernel
theorem dX10_laysContact_71 : decode cX10_laysContact 71 = .ok (.goto (-61), 3) := by decide +kernel
theorem dX10_laysContact_74 : decode cX10_laysContact 74 = .ok (.aload_n 0, 1) := by decide +kernel
theorem dX10_laysContact_75 : decode cX10_laysContact 75 = .ok (.getfield 25, 3) := by decide +kernel
theorem dX10_laysContact_78 : decode cX10_laysContact 78 = .ok (.aload_n 0, 1) := by decide +kernel
theorem dX10_laysContact_79 : decode cX10_laysContact 79 = .ok (.getfield 66, 3) := by decide +kernel
theorem dX10_laysContact_82 : decode cX10_laysContact 82 = .ok (.bipush 100, 2) := by decide +kernel
theorem dX10_laysContact_84 : decode cX10_laysContact 84 = .ok (.iload_n 3, 1) := by decide +kernel
theorem dX10_laysContact_85 : decode cX10_laysContact 85 = .ok (.imul, 1) := by decide +kernel
theorem dX10_laysContact_86 : decode cX10_laysContact 86 = .ok (.iload_n 2, 1) := by decide +kernel
theorem dX10_laysContact_87 : decode cX10_laysContact 87 = .ok (.idiv, 1) := by decide +kernel
theorem dX10_laysContact_88 : decode cX10_laysContact 88 = .ok (.iastore, 1) := by decide +kernel
theorem dX10_laysContact_89 : decode cX10_laysContact 89 = .ok (.aload_n 0, 1) := by decide +kernel
theorem dX10_laysContact_90 : decode cX10_laysContact 90 = .ok (.getfield 28, 3) := by decide +kernel
theorem dX10_laysContact_93 : decode cX10_laysContact 93 = .ok (.aload_n 0, 1) := by decide +kernel
theorem dX10_laysContact_94 : decode cX10_laysContact 94 = .ok (.getfield 66, 3) := by decide +kernel
theorem dX10_laysContact_97 : decode cX10_laysContact 97 = .ok (.bipush 100, 2) := by decide +kernel
theorem dX10_laysContact_99 : decode cX10_laysContact 99 = .ok (.iload 4, 2) := by decide +kernel
theorem dX10_laysContact_101 : decode cX10_laysContact 101 = .ok (.imul, 1) := by decide +kernel
theorem dX10_laysContact_102 : decode cX10_laysContact 102 = .ok (.iload_n 2, 1) := by decide +kernel
theorem dX10_laysContact_103 : decode cX10_laysContact 103 = .ok (.idiv, 1) := by decide +kernel
theorem dX10_laysContact_104 : decode cX10_laysContact 104 = .ok (.iastore, 1) := by decide +kernel
theorem dX10_laysContact_105 : decode cX10_laysContact 105 = .ok (.aload_n 0, 1) := by decide +kernel
theorem dX10_laysContact_106 : decode cX10_laysContact 106 = .ok (.getfield 31, 3) := by decide +kernel
theorem dX10_laysContact_109 : decode cX10_laysContact 109 = .ok (.aload_n 0, 1) := by decide +kernel
theorem dX10_laysContact_110 : decode cX10_laysContact 110 = .ok (.getfield 66, 3) := by decide +kernel
theorem dX10_laysContact_113 : decode cX10_laysContact 113 = .ok (.iload_n 2, 1) := by decide +kernel
theorem dX10_laysContact_114 : decode cX10_laysContact 114 = .ok (.iastore, 1) := by decide +kernel
theorem dX10_laysContact_115 : decode cX10_laysContact 115 = .ok (.aload_n 0, 1) := by decide +kernel
theorem dX10_laysContact_116 : decode cX10_laysContact 116 = .ok (.getfield 34, 3) := by decide +kernel
theorem dX10_laysContact_119 : decode cX10_laysContact 119 = .ok (.aload_n 0, 1) := by decide +kernel
theorem dX10_laysContact_120 : decode cX10_laysContact 120 = .ok (.getfield 66, 3) := by decide +kernel
theorem dX10_laysContact_123 : decode cX10_laysContact 123 = .ok (.iload_n 1, 1) := by decide +kernel
theorem dX10_laysContact_124 : decode cX10_laysContact 124 = .ok (.iastore, 1) := by decide +kernel
theorem dX10_laysContact_125 : decode cX10_laysContact 125 = .ok (.aload_n 0, 1) := by decide +kernel
theorem dX10_laysContact_126 : decode cX10_laysContact 126 = .ok (.dup, 1) := by decide +kernel
theorem dX10_laysContact_127 : decode cX10_laysContact 127 = .ok (.getfield 66, 3) := by decide +kernel
theorem dX10_laysContact_130 : decode cX10_laysContact 130 = .ok (.iconst 1, 1) := by decide +kernel
theorem dX10_laysContact_131 : decode cX10_laysContact 131 = .ok (.iadd, 1) := by decide +kernel
theorem dX10_laysContact_132 : decode cX10_laysContact 132 = .ok (.putfield 66, 3) := by decide +kernel
theorem dX10_laysContact_135 : decode cX10_laysContact 135 = .ok (.return_, 1) := by decide +kernel
theorem dX10_dropsContact_0 : decode cX10_dropsContact 0 = .ok (.iconst 0, 1) := by decide +kernel
theorem dX10_dropsContact_1 : decode cX10_dropsContact 1 = .ok (.istore_n 1, 1) := by decide +kernel
theorem dX10_dropsContact_2 : decode cX10_dropsContact 2 = .ok (.iconst 1, 1) := by decide +kernel
theorem dX10_dropsContact_3 : decode cX10_dropsContact 3 = .ok (.istore_n 2, 1) := by decide +kernel
theorem dX10_dropsContact_4 : decode cX10_dropsContact 4 = .ok (.iload_n 2, 1) := by decide +kernel
theorem dX10_dropsContact_5 : decode cX10_dropsContact 5 = .ok (.aload_n 0, 1) := by decide +kernel
theorem dX10_dropsContact_6 : decode cX10_dropsContact 6 = .ok (.getfield 66, 3) := by decide +kernel
theorem dX10_dropsContact_9 : decode cX10_dropsContact 9 = .ok (.if_icmp .ge 30, 3) := by decide +kernel
theorem dX10_dropsContact_12 : decode cX10_dropsContact 12 = .ok (.aload_n 0, 1) := by decide +kernel
theorem dX10_dropsContact_13 : decode cX10_dropsContact 13 = .ok (.getfield 31, 3) := by decide +kernel
theorem dX10_dropsContact_16 : decode cX10_dropsContact 16 = .ok (.iload_n 2, 1) := by decide +kernel
theorem dX10_dropsContact_17 : decode cX10_dropsContact 17 = .ok (.iaload, 1) := by decide +kernel
theorem dX10_dropsContact_18 : decode cX10_dropsContact 18 = .ok (.aload_n 0, 1) := by decide +kernel
theorem dX10_dropsContact_19 : decode cX10_dropsContact 19 = .ok (.getfield 31, 3) := by decide +kernel
theorem dX10_dropsContact_22 : decode cX10_dropsContact 22 = .ok (.iload_n 1, 1) := by decide +kernel
theorem dX10_dropsContact_23 : decode cX10_dropsContact 23 = .ok (.iaload, 1) := by decide +kernel
theorem dX10_dropsContact_24 : decode cX10_dropsContact 24 = .ok (.if_icmp .gt 7, 3) := by decide +kernel
theorem dX10_dropsContact_27 : decode cX10_dropsContact 27 = .ok (.iload_n 2, 1) := by decide +kernel
theorem dX10_dropsContact_28 : decode cX10_dropsContact 28 = .ok (.goto 4, 3) := by decide +kernel
theorem dX10_dropsContact_31 : decode cX10_dropsContact 31 = .ok (.iload_n 1, 1) := by decide +kernel
theorem dX10_dropsContact_32 : decode cX10_dropsContact 32 = .ok (.istore_n 1, 1) := by decide +kernel
theorem dX10_dropsContact_33 : decode cX10_dropsContact 33 = .ok (.iinc 2 1, 3) := by decide +kernel
theorem dX10_dropsContact_36 : decode cX10_dropsContact 36 = .ok (.goto (-32), 3) := by decide +kernel
theorem dX10_dropsContact_39 : decode cX10_dropsContact 39 = .ok (.aload_n 0, 1) := by decide +kernel
theorem dX10_dropsContact_40 : decode cX10_dropsContact 40 = .ok (.dup, 1) := by decide +kernel
theorem dX10_dropsContact_41 : decode cX10_dropsContact 41 = .ok (.getfield 66, 3) := by decide +kernel
theorem dX10_dropsContact_44 : decode cX10_dropsContact 44 = .ok (.iconst 1, 1) := by decide +kernel
theorem dX10_dropsContact_45 : decode cX10_dropsContact 45 = .ok (.isub, 1) := by decide +kernel
theorem dX10_dropsContact_46 : decode cX10_dropsContact 46 = .ok (.putfield 66, 3) := by decide +kernel
theorem dX10_dropsContact_49 : decode cX10_dropsContact 49 = .ok (.iload_n 1, 1) := by decide +kernel
theorem dX10_dropsContact_50 : decode cX10_dropsContact 50 = .ok (.istore_n 2, 1) := by decide +kernel
theorem dX10_dropsContact_51 : decode cX10_dropsContact 51 = .ok (.iload_n 2, 1) := by decide +kernel
theorem dX10_dropsContact_52 : decode cX10_dropsContact 52 = .ok (.aload_n 0, 1) := by decide +kernel
theorem dX10_dropsContact_53 : decode cX10_dropsContact 53 = .ok (.getfield 66, 3) := by decide +kernel
theorem dX10_dropsContact_56 : decode cX10_dropsContact 56 = .ok (.if_icmp .ge 65, 3) := by decide +kernel
theorem dX10_dropsContact_59 : decode cX10_dropsContact 59 = .ok (.aload_n 0, 1) := by decide +kernel
theorem dX10_dropsContact_60 : decode cX10_dropsContact 60 = .ok (.getfield 25, 3) := by decide +kernel
theorem dX10_dropsContact_63 : decode cX10_dropsContact 63 = .ok (.iload_n 2, 1) := by decide +kernel
theorem dX10_dropsContact_64 : decode cX10_dropsContact 64 = .ok (.aload_n 0, 1) := by decide +kernel
theorem dX10_dropsContact_65 : decode cX10_dropsContact 65 = .ok (.getfield 25, 3) := by decide +kernel
theorem dX10_dropsContact_68 : decode cX10_dropsContact 68 = .ok (.iload_n 2, 1) := by decide +kernel
theorem dX10_dropsContact_69 : decode cX10_dropsContact 69 = .ok (.iconst 1, 1) := by decide +kernel
theorem dX10_dropsContact_70 : decode cX10_dropsContact 70 = .ok (.iadd, 1) := by decide +kernel
theorem dX10_dropsContact_71 : decode cX10_dropsContact 71 = .ok (.iaload, 1) := by decide +kernel
theorem dX10_dropsContact_72 : decode cX10_dropsContact 72 = .ok (.iastore, 1) := by decide +kernel
theorem dX10_dropsContact_73 : decode cX10_dropsContact 73 = .ok (.aload_n 0, 1) := by decide +kernel
theorem dX10_dropsContact_74 : decode cX10_dropsContact 74 = .ok (.getfield 28, 3) := by decide +kernel
theorem dX10_dropsContact_77 : decode cX10_dropsContact 77 = .ok (.iload_n 2, 1) := by decide +kernel
theorem dX10_dropsContact_78 : decode cX10_dropsContact 78 = .ok (.aload_n 0, 1) := by decide +kernel
theorem dX10_dropsContact_79 : decode cX10_dropsContact 79 = .ok (.getfield 28, 3) := by decide +kernel
theorem dX10_dropsContact_82 : decode cX10_dropsContact 82 = .ok (.iload_n 2, 1) := by decide +kernel
theorem dX10_dropsContact_83 : decode cX10_dropsContact 83 = .ok (.iconst 1, 1) := by decide +kernel
theorem dX10_dropsContact_84 : decode cX10_dropsContact 84 = .ok (.iadd, 1) := by decide +kernel
theorem dX10_dropsContact_85 : decode cX10_dropsContact 85 = .ok (.iaload, 1) := by decide +kernel
theorem dX10_dropsContact_86 : decode cX10_dropsContact 86 = .ok (.iastore, 1) := by decide +kernel
theorem dX10_dropsContact_87 : decode cX10_dropsContact 87 = .ok (.aload_n 0, 1) := by decide +kernel
theorem dX10_dropsContact_88 : decode cX10_dropsContact 88 = .ok (.getfield 31, 3) := by decide +kernel
theorem dX10_dropsContact_91 : decode cX10_dropsContact 91 = .ok (.iload_n 2, 1) := by decide +kernel
theorem dX10_dropsContact_92 : decode cX10_dropsContact 92 = .ok (.aload_n 0, 1) := by decide +kernel
theorem dX10_dropsContact_93 : decode cX10_dropsContact 93 = .ok (.getfield 31, 3) := by decide +kernel
theorem dX10_dropsContact_96 : decode cX10_dropsContact 96 = .ok (.iload_n 2, 1) := by decide +kernel
theorem dX10_dropsContact_97 : decode cX10_dropsContact 97 = .ok (.iconst 1, 1) := by decide +kernel
theorem dX10_dropsContact_98 : decode cX10_dropsContact 98 = .ok (.iadd, 1) := by decide +kernel
theorem dX10_dropsContact_99 : decode cX10_dropsContact 99 = .ok (.iaload, 1) := by decide +kernel
theorem dX10_dropsContact_100 : decode cX10_dropsContact 100 = .ok (.iastore, 1) := by decide +kernel
theorem dX10_dropsContact_101 : decode cX10_dropsContact 101 = .ok (.aload_n 0, 1) := by decide +kernel
theorem dX10_dropsContact_102 : decode cX10_dropsContact 102 = .ok (.getfield 34, 3) := by decide +kernel
theorem dX10_dropsContact_105 : decode cX10_dropsContact 105 = .ok (.iload_n 2, 1) := by decide +kernel
theorem dX10_dropsContact_106 : decode cX10_dropsContact 106 = .ok (.aload_n 0, 1) := by decide +kernel
theorem dX10_dropsContact_107 : decode cX10_dropsContact 107 = .ok (.getfield 34, 3) := by decide +kernel
theorem dX10_dropsContact_110 : decode cX10_dropsContact 110 = .ok (.iload_n 2, 1) := by decide +kernel
theorem dX10_dropsContact_111 : decode cX10_dropsContact 111 = .ok (.iconst 1, 1) := by decide +kernel
theorem dX10_dropsContact_112 : decode cX10_dropsContact 112 = .ok (.iadd, 1) := by decide +kernel
theorem dX10_dropsContact_113 : decode cX10_dropsContact 113 = .ok (.iaload, 1) := by decide +kernel
theorem dX10_dropsContact_114 : decode cX10_dropsContact 114 = .ok (.iastore, 1) := by decide +kernel
theorem dX10_dropsContact_115 : decode cX10_dropsContact 115 = .ok (.iinc 2 1, 3) := by decide +kernel
theorem dX10_dropsContact_118 : decode cX10_dropsContact 118 = .ok (.goto (-67), 3) := by decide +kernel
theorem dX10_dropsContact_121 : decode cX10_dropsContact 121 = .ok (.return_, 1) := by decide +kernel
set_option maxRecDepth 20000 in
theorem ggX10_findsContacts_X10_findsRegions : GoodIn wsX10_findsContacts wsX10_findsRegions := goodIn_r _ [6, 7, 8, 9, 10, 11, 12, 5, 13, 14, 15, 16, 17, 18, 19, 20, 21, 22, 23, 24, 45, 46, 47, 48, 49, 50, 51, 52, 53, 54, 55, 56, 57, 58, 59, 60, 61, 62, 63, 64] (by decide +kernel) (by decide +kernel)
set_option maxRecDepth 20000 in
theorem gX10_findsContacts_X10_findsRegions : GoodIn wsX10_findsContacts (wsV RX10 69 RX10 yX10_findsRegions wsX10_findsRegions) := goodIn_app (goodIn_of _ (by decide +kernel)) ggX10_findsContacts_X10_findsRegions
set_option maxRecDepth 20000 in
theorem ggX10_findsContacts_X10_isPeak : GoodIn wsX10_findsContacts wsX10_isPeak := goodIn_r _ [28, 7, 29, 30, 31, 5, 32, 8, 14, 9, 15, 16, 17, 18, 19, 20, 21, 22, 23, 24, 45, 46, 47, 48, 49, 50, 51, 52, 53, 54, 55, 56, 57, 58, 59, 60, 61, 62, 63, 64] (by decide +kernel) (by decide +kernel)
set_option maxRecDepth 20000 in
theorem gX10_findsContacts_X10_isPeak : GoodIn wsX10_findsContacts (wsV RX10 72 RX10 yX10_isPeak wsX10_isPeak) := goodIn_app (goodIn_of _ (by decide +kernel)) ggX10_findsContacts_X10_isPeak
set_option maxRecDepth 20000 in
theorem ggX10_findsContacts_X10_laysContact : GoodIn wsX10_findsContacts wsX10_laysContact := goodIn_r _ [36, 37, 1, 38, 39, 40, 19, 20, 5, 21, 22, 23, 24, 15, 16, 17, 18, 14, 45, 46, 47, 48, 49, 50, 51, 52, 53, 54, 55, 56, 57, 58, 59, 60, 61, 62, 63, 64] (by decide +kernel) (by decide +kernel)
set_option maxRecDepth 20000 in
theorem gX10_findsContacts_X10_laysContact : GoodIn wsX10_findsContacts (wsV RX10 75 RX10 yX10_laysContact wsX10_laysContact) := goodIn_app (goodIn_of _ (by decide +kernel)) ggX10_findsContacts_X10_laysContact
set_option maxRecDepth 20000 in
theorem ggX10_findsContacts_X10_dropsContact : GoodIn wsX10_findsContacts wsX10_dropsContact := goodIn_r _ [44, 1, 39, 37, 38, 40, 45, 46, 47, 48, 49, 50, 51, 52, 53, 54, 55, 56, 57, 58, 59, 60, 61, 62, 63, 64] (by decide +kernel) (by decide +kernel)
set_option maxRecDepth 20000 in
theorem gX10_findsContacts_X10_dropsContact : GoodIn wsX10_findsContacts (wsV RX10 79 RX10 yX10_dropsContact wsX10_dropsContact) := goodIn_app (goodIn_of _ (by decide +kernel)) ggX10_findsContacts_X10_dropsContact
theorem dX10_findsContacts_0 : decode cX10_findsContacts 0 = .ok (.aload_n 0, 1) := by decide +kernel
theorem dX10_findsContacts_1 : decode cX10_findsContacts 1 = .ok (.invokevirtual 69, 3) := by decide +kernel
theorem dX10_findsContacts_4 : decode cX10_findsContacts 4 = .ok (.aload_n 0, 1) := by decide +kernel
theorem dX10_findsContacts_5 : decode cX10_findsContacts 5 = .ok (.iconst 0, 1) := by decide +kernel
theorem dX10_findsContacts_6 : decode cX10_findsContacts 6 = .ok (.putfield 66, 3) := by decide +kernel
theorem dX10_findsContacts_9 : decode cX10_findsContacts 9 = .ok (.iconst 0, 1) := by decide +kernel
theorem dX10_findsContacts_10 : decode cX10_findsContacts 10 = .ok (.istore_n 1, 1) := by decide +kernel
theorem dX10_findsContacts_11 : decode cX10_findsContacts 11 = .ok (.iload_n 1, 1) := by decide +kernel
theorem dX10_findsContacts_12 : decode cX10_findsContacts 12 = .ok (.bipush 48, 2) := by decide +kernel
theorem dX10_findsContacts_14 : decode cX10_findsContacts 14 = .ok (.if_icmp .ge 22, 3) := by decide +kernel
theorem dX10_findsContacts_17 : decode cX10_findsContacts 17 = .ok (.aload_n 0, 1) := by decide +kernel
theorem dX10_findsContacts_18 : decode cX10_findsContacts 18 = .ok (.iload_n 1, 1) := by decide +kernel
theorem dX10_findsContacts_19 : decode cX10_findsContacts 19 = .ok (.invokevirtual 72, 3) := by decide +kernel
theorem dX10_findsContacts_22 : decode cX10_findsContacts 22 = .ok (.ifCond .eq 8, 3) := by decide +kernel
theorem dX10_findsContacts_25 : decode cX10_findsContacts 25 = .ok (.aload_n 0, 1) := by decide +kernel
theorem dX10_findsContacts_26 : decode cX10_findsContacts 26 = .ok (.iload_n 1, 1) := by decide +kernel
theorem dX10_findsContacts_27 : decode cX10_findsContacts 27 = .ok (.invokevirtual 75, 3) := by decide +kernel
theorem dX10_findsContacts_30 : decode cX10_findsContacts 30 = .ok (.iinc 1 1, 3) := by decide +kernel
theorem dX10_findsContacts_33 : decode cX10_findsContacts 33 = .ok (.goto (-22), 3) := by decide +kernel
theorem dX10_findsContacts_36 : decode cX10_findsContacts 36 = .ok (.aload_n 0, 1) := by decide +kernel
theorem dX10_findsContacts_37 : decode cX10_findsContacts 37 = .ok (.getfield 66, 3) := by decide +kernel
theorem dX10_findsContacts_40 : decode cX10_findsContacts 40 = .ok (.bipush 6, 2) := by decide +kernel
theorem dX10_findsContacts_42 : decode cX10_findsContacts 42 = .ok (.if_icmp .le 10, 3) := by decide +kernel
theorem dX10_findsContacts_45 : decode cX10_findsContacts 45 = .ok (.aload_n 0, 1) := by decide +kernel
theorem dX10_findsContacts_46 : decode cX10_findsContacts 46 = .ok (.invokevirtual 79, 3) := by decide +kernel
theorem dX10_findsContacts_49 : decode cX10_findsContacts 49 = .ok (.goto (-13), 3) := by decide +kernel
theorem dX10_findsContacts_52 : decode cX10_findsContacts 52 = .ok (.return_, 1) := by decide +kernel
theorem dX10_of_0 : decode cX10_of 0 = .ok (.aload_n 0, 1) := by decide +kernel
theorem dX10_of_1 : decode cX10_of 1 = .ok (.getfield 7, 3) := by decide +kernel
theorem dX10_of_4 : decode cX10_of 4 = .ok (.bipush 101, 2) := by decide +kernel
theorem dX10_of_6 : decode cX10_of 6 = .ok (.iconst 5, 1) := by decide +kernel
theorem dX10_of_7 : decode cX10_of 7 = .ok (.iload_n 1, 1) := by decide +kernel
theorem dX10_of_8 : decode cX10_of 8 = .ok (.imul, 1) := by decide +kernel
theorem dX10_of_9 : decode cX10_of 9 = .ok (.iadd, 1) := by decide +kernel
theorem dX10_of_10 : decode cX10_of 10 = .ok (.iload_n 2, 1) := by decide +kernel
theorem dX10_of_11 : decode cX10_of 11 = .ok (.iadd, 1) := by decide +kernel
theorem dX10_of_12 : decode cX10_of 12 = .ok (.iaload, 1) := by decide +kernel
theorem dX10_of_13 : decode cX10_of 13 = .ok (.ireturn, 1) := by decide +kernel
theorem dX10_lay_0 : decode cX10_lay 0 = .ok (.aload_n 0, 1) := by decide +kernel
theorem dX10_lay_1 : decode cX10_lay 1 = .ok (.getfield 7, 3) := by decide +kernel
theorem dX10_lay_4 : decode cX10_lay 4 = .ok (.bipush 101, 2) := by decide +kernel
theorem dX10_lay_6 : decode cX10_lay 6 = .ok (.iconst 5, 1) := by decide +kernel
theorem dX10_lay_7 : decode cX10_lay 7 = .ok (.iload_n 1, 1) := by decide +kernel
theorem dX10_lay_8 : decode cX10_lay 8 = .ok (.imul, 1) := by decide +kernel
theorem dX10_lay_9 : decode cX10_lay 9 = .ok (.iadd, 1) := by decide +kernel
theorem dX10_lay_10 : decode cX10_lay 10 = .ok (.iload_n 2, 1) := by decide +kernel
theorem dX10_lay_11 : decode cX10_lay 11 = .ok (.iadd, 1) := by decide +kernel
theorem dX10_lay_12 : decode cX10_lay 12 = .ok (.iload_n 3, 1) := by decide +kernel
theorem dX10_lay_13 : decode cX10_lay 13 = .ok (.iastore, 1) := by decide +kernel
theorem dX10_lay_14 : decode cX10_lay 14 = .ok (.return_, 1) := by decide +kernel
set_option maxRecDepth 20000 in
theorem ggX10_isDownNow_X10_of : GoodIn wsX10_isDownNow wsX10_of := goodIn_r _ [5, 6, 7, 8, 9, 10, 11, 12, 13, 14, 15, 16, 17, 18, 19, 20, 21, 22, 23, 24, 25, 26] (by decide +kernel) (by decide +kernel)
set_option maxRecDepth 20000 in
theorem gX10_isDownNow_X10_of : GoodIn wsX10_isDownNow (wsV RX10 82 RX10 yX10_of wsX10_of) := goodIn_app (goodIn_of _ (by decide +kernel)) ggX10_isDownNow_X10_of
theorem dX10_isDownNow_0 : decode cX10_isDownNow 0 = .ok (.aload_n 0, 1) := by decide +kernel
theorem dX10_isDownNow_1 : decode cX10_isDownNow 1 = .ok (.iload_n 1, 1) := by decide +kernel
theorem dX10_isDownNow_2 : decode cX10_isDownNow 2 = .ok (.iconst 0, 1) := by decide +kernel
theorem dX10_isDownNow_3 : decode cX10_isDownNow 3 = .ok (.invokevirtual 82, 3) := by decide +kernel
theorem dX10_isDownNow_6 : decode cX10_isDownNow 6 = .ok (.iconst 1, 1) := by decide +kernel
theorem dX10_isDownNow_7 : decode cX10_isDownNow 7 = .ok (.if_icmp .ne 7, 3) := by decide +kernel
theorem dX10_isDownNow_10 : decode cX10_isDownNow 10 = .ok (.iconst 1, 1) := by decide +kernel
theorem dX10_isDownNow_11 : decode cX10_isDownNow 11 = .ok (.goto 4, 3) := by decide +kernel
theorem dX10_isDownNow_14 : decode cX10_isDownNow 14 = .ok (.iconst 0, 1) := by decide +kernel
theorem dX10_isDownNow_15 : decode cX10_isDownNow 15 = .ok (.ireturn, 1) := by decide +kernel
set_option maxRecDepth 20000 in
theorem ggX10_square_X10_of : GoodIn wsX10_square wsX10_of := goodIn_r _ [7, 8, 9, 10, 11, 12, 13, 14, 15, 16, 17, 18, 19, 20, 21, 22, 23, 24, 25, 26, 27, 28] (by decide +kernel) (by decide +kernel)
set_option maxRecDepth 20000 in
theorem gX10_square_X10_of : GoodIn wsX10_square (wsV RX10 82 RX10 yX10_of wsX10_of) := goodIn_app (goodIn_of _ (by decide +kernel)) ggX10_square_X10_of
theorem dX10_square_0 : decode cX10_square 0 = .ok (.aload_n 0, 1) := by decide +kernel
theorem dX10_square_1 : decode cX10_square 1 = .ok (.iload_n 1, 1) := by decide +kernel
theorem dX10_square_2 : decode cX10_square 2 = .ok (.iconst 1, 1) := by decide +kernel
theorem dX10_square_3 : decode cX10_square 3 = .ok (.invokevirtual 82, 3) := by decide +kernel
theorem dX10_square_6 : decode cX10_square 6 = .ok (.aload_n 0, 1) := by decide +kernel
theorem dX10_square_7 : decode cX10_square 7 = .ok (.getfield 25, 3) := by decide +kernel
theorem dX10_square_10 : decode cX10_square 10 = .ok (.iload_n 2, 1) := by decide +kernel
theorem dX10_square_11 : decode cX10_square 11 = .ok (.iaload, 1) := by decide +kernel
theorem dX10_square_12 : decode cX10_square 12 = .ok (.isub, 1) := by decide +kernel
theorem dX10_square_13 : decode cX10_square 13 = .ok (.istore_n 3, 1) := by decide +kernel
theorem dX10_square_14 : decode cX10_square 14 = .ok (.aload_n 0, 1) := by decide +kernel
theorem dX10_square_15 : decode cX10_square 15 = .ok (.iload_n 1, 1) := by decide +kernel
theorem dX10_square_16 : decode cX10_square 16 = .ok (.iconst 2, 1) := by decide +kernel
theorem dX10_square_17 : decode cX10_square 17 = .ok (.invokevirtual 82, 3) := by decide +kernel
theorem dX10_square_20 : decode cX10_square 20 = .ok (.aload_n 0, 1) := by decide +kernel
theorem dX10_square_21 : decode cX10_square 21 = .ok (.getfield 28, 3) := by decide +kernel
theorem dX10_square_24 : decode cX10_square 24 = .ok (.iload_n 2, 1) := by decide +kernel
theorem dX10_square_25 : decode cX10_square 25 = .ok (.iaload, 1) := by decide +kernel
theorem dX10_square_26 : decode cX10_square 26 = .ok (.isub, 1) := by decide +kernel
theorem dX10_square_27 : decode cX10_square 27 = .ok (.istore 4, 2) := by decide +kernel
theorem dX10_square_29 : decode cX10_square 29 = .ok (.iload_n 3, 1) := by decide +kernel
theorem dX10_square_30 : decode cX10_square 30 = .ok (.iload_n 3, 1) := by decide +kernel
theorem dX10_square_31 : decode cX10_square 31 = .ok (.imul, 1) := by decide +kernel
theorem dX10_square_32 : decode cX10_square 32 = .ok (.iload 4, 2) := by decide +kernel
theorem dX10_square_34 : decode cX10_square 34 = .ok (.iload 4, 2) := by decide +kernel
theorem dX10_square_36 : decode cX10_square 36 = .ok (.imul, 1) := by decide +kernel
theorem dX10_square_37 : decode cX10_square 37 = .ok (.iadd, 1) := by decide +kernel
theorem dX10_square_38 : decode cX10_square 38 = .ok (.ireturn, 1) := by decide +kernel
theorem dX10_gate_0 : decode cX10_gate 0 = .ok (.aload_n 0, 1) := by decide +kernel
theorem dX10_gate_1 : decode cX10_gate 1 = .ok (.getfield 7, 3) := by decide +kernel
theorem dX10_gate_4 : decode cX10_gate 4 = .ok (.bipush 99, 2) := by decide +kernel
theorem dX10_gate_6 : decode cX10_gate 6 = .ok (.iaload, 1) := by decide +kernel
theorem dX10_gate_7 : decode cX10_gate 7 = .ok (.aload_n 0, 1) := by decide +kernel
theorem dX10_gate_8 : decode cX10_gate 8 = .ok (.getfield 7, 3) := by decide +kernel
theorem dX10_gate_11 : decode cX10_gate 11 = .ok (.bipush 99, 2) := by decide +kernel
theorem dX10_gate_13 : decode cX10_gate 13 = .ok (.iaload, 1) := by decide +kernel
theorem dX10_gate_14 : decode cX10_gate 14 = .ok (.imul, 1) := by decide +kernel
theorem dX10_gate_15 : decode cX10_gate 15 = .ok (.ireturn, 1) := by decide +kernel
set_option maxRecDepth 20000 in
theorem ggX10_costWith_X10_gate : GoodIn wsX10_costWith wsX10_gate := goodIn_r _ [7, 8, 19, 20, 21, 22, 23, 24, 25, 26, 27, 28, 29, 30, 31, 32, 33, 34, 35, 36, 37, 38] (by decide +kernel) (by decide +kernel)
set_option maxRecDepth 20000 in
theorem gX10_costWith_X10_gate : GoodIn wsX10_costWith (wsV RX10 85 RX10 yX10_gate wsX10_gate) := goodIn_app (goodIn_of _ (by decide +kernel)) ggX10_costWith_X10_gate
set_option maxRecDepth 20000 in
theorem ggX10_costWith_X10_square : GoodIn wsX10_costWith wsX10_square := goodIn_r _ [12, 13, 14, 15, 16, 17, 6, 18, 8, 19, 20, 21, 22, 23, 24, 25, 26, 27, 28, 29, 30, 31, 32, 33, 34, 35, 36, 37, 38] (by decide +kernel) (by decide +kernel)
set_option maxRecDepth 20000 in
theorem gX10_costWith_X10_square : GoodIn wsX10_costWith (wsV RX10 89 RX10 yX10_square wsX10_square) := goodIn_app (goodIn_of _ (by decide +kernel)) ggX10_costWith_X10_square
theorem dX10_costWith_0 : decode cX10_costWith 0 = .ok (.iload_n 2, 1) := by decide +kernel
theorem dX10_costWith_1 : decode cX10_costWith 1 = .ok (.bipush 6, 2) := by decide +kernel
theorem dX10_costWith_3 : decode cX10_costWith 3 = .ok (.if_icmp .ne 22, 3) := by decide +kernel
theorem dX10_costWith_6 : decode cX10_costWith 6 = .ok (.aload_n 0, 1) := by decide +kernel
theorem dX10_costWith_7 : decode cX10_costWith 7 = .ok (.invokevirtual 85, 3) := by decide +kernel
theorem dX10_costWith_10 : decode cX10_costWith 10 = .ok (.aload_n 0, 1) := by decide +kernel
theorem dX10_costWith_11 : decode cX10_costWith 11 = .ok (.getfield 37, 3) := by decide +kernel
theorem dX10_costWith_14 : decode cX10_costWith 14 = .ok (.bipush 64, 2) := by decide +kernel
theorem dX10_costWith_16 : decode cX10_costWith 16 = .ok (.iload_n 1, 1) := by decide +kernel
theorem dX10_costWith_17 : decode cX10_costWith 17 = .ok (.iconst 1, 1) := by decide +kernel
theorem dX10_costWith_18 : decode cX10_costWith 18 = .ok (.iadd, 1) := by decide +kernel
theorem dX10_costWith_19 : decode cX10_costWith 19 = .ok (.imul, 1) := by decide +kernel
theorem dX10_costWith_20 : decode cX10_costWith 20 = .ok (.iload_n 3, 1) := by decide +kernel
theorem dX10_costWith_21 : decode cX10_costWith 21 = .ok (.iadd, 1) := by decide +kernel
theorem dX10_costWith_22 : decode cX10_costWith 22 = .ok (.iaload, 1) := by decide +kernel
theorem dX10_costWith_23 : decode cX10_costWith 23 = .ok (.iadd, 1) := by decide +kernel
theorem dX10_costWith_24 : decode cX10_costWith 24 = .ok (.ireturn, 1) := by decide +kernel
theorem dX10_costWith_25 : decode cX10_costWith 25 = .ok (.iload_n 2, 1) := by decide +kernel
theorem dX10_costWith_26 : decode cX10_costWith 26 = .ok (.aload_n 0, 1) := by decide +kernel
theorem dX10_costWith_27 : decode cX10_costWith 27 = .ok (.getfield 66, 3) := by decide +kernel
theorem dX10_costWith_30 : decode cX10_costWith 30 = .ok (.if_icmp .ge 28, 3) := by decide +kernel
theorem dX10_costWith_33 : decode cX10_costWith 33 = .ok (.iload_n 3, 1) := by decide +kernel
theorem dX10_costWith_34 : decode cX10_costWith 34 = .ok (.iload_n 2, 1) := by decide +kernel
theorem dX10_costWith_35 : decode cX10_costWith 35 = .ok (.ishr, 1) := by decide +kernel
theorem dX10_costWith_36 : decode cX10_costWith 36 = .ok (.iconst 1, 1) := by decide +kernel
theorem dX10_costWith_37 : decode cX10_costWith 37 = .ok (.iand, 1) := by decide +kernel
theorem dX10_costWith_38 : decode cX10_costWith 38 = .ok (.ifCond .ne 20, 3) := by decide +kernel
theorem dX10_costWith_41 : decode cX10_costWith 41 = .ok (.aload_n 0, 1) := by decide +kernel
theorem dX10_costWith_42 : decode cX10_costWith 42 = .ok (.iload_n 1, 1) := by decide +kernel
theorem dX10_costWith_43 : decode cX10_costWith 43 = .ok (.iload_n 2, 1) := by decide +kernel
theorem dX10_costWith_44 : decode cX10_costWith 44 = .ok (.invokevirtual 89, 3) := by decide +kernel
theorem dX10_costWith_47 : decode cX10_costWith 47 = .ok (.aload_n 0, 1) := by decide +kernel
theorem dX10_costWith_48 : decode cX10_costWith 48 = .ok (.invokevirtual 85, 3) := by decide +kernel
theorem dX10_costWith_51 : decode cX10_costWith 51 = .ok (.if_icmp .gt 7, 3) := by decide +kernel
theorem dX10_costWith_54 : decode cX10_costWith 54 = .ok (.iconst 1, 1) := by decide +kernel
theorem dX10_costWith_55 : decode cX10_costWith 55 = .ok (.goto 4, 3) := by decide +kernel
theorem dX10_costWith_58 : decode cX10_costWith 58 = .ok (.iconst 0, 1) := by decide +kernel
theorem dX10_costWith_59 : decode cX10_costWith 59 = .ok (.istore 4, 2) := by decide +kernel
theorem dX10_costWith_61 : decode cX10_costWith 61 = .ok (.iload 4, 2) := by decide +kernel
theorem dX10_costWith_63 : decode cX10_costWith 63 = .ok (.ifCond .eq 30, 3) := by decide +kernel
theorem dX10_costWith_66 : decode cX10_costWith 66 = .ok (.aload_n 0, 1) := by decide +kernel
theorem dX10_costWith_67 : decode cX10_costWith 67 = .ok (.iload_n 1, 1) := by decide +kernel
theorem dX10_costWith_68 : decode cX10_costWith 68 = .ok (.iload_n 2, 1) := by decide +kernel
theorem dX10_costWith_69 : decode cX10_costWith 69 = .ok (.invokevirtual 89, 3) := by decide +kernel
theorem dX10_costWith_72 : decode cX10_costWith 72 = .ok (.aload_n 0, 1) := by decide +kernel
theorem dX10_costWith_73 : decode cX10_costWith 73 = .ok (.getfield 37, 3) := by decide +kernel
theorem dX10_costWith_76 : decode cX10_costWith 76 = .ok (.bipush 64, 2) := by decide +kernel
theorem dX10_costWith_78 : decode cX10_costWith 78 = .ok (.iload_n 1, 1) := by decide +kernel
theorem dX10_costWith_79 : decode cX10_costWith 79 = .ok (.iconst 1, 1) := by decide +kernel
theorem dX10_costWith_80 : decode cX10_costWith 80 = .ok (.iadd, 1) := by decide +kernel
theorem dX10_costWith_81 : decode cX10_costWith 81 = .ok (.imul, 1) := by decide +kernel
theorem dX10_costWith_82 : decode cX10_costWith 82 = .ok (.iload_n 3, 1) := by decide +kernel
theorem dX10_costWith_83 : decode cX10_costWith 83 = .ok (.iconst 1, 1) := by decide +kernel
theorem dX10_costWith_84 : decode cX10_costWith 84 = .ok (.iload_n 2, 1) := by decide +kernel
theorem dX10_costWith_85 : decode cX10_costWith 85 = .ok (.ishl, 1) := by decide +kernel
theorem dX10_costWith_86 : decode cX10_costWith 86 = .ok (.ior, 1) := by decide +kernel
theorem dX10_costWith_87 : decode cX10_costWith 87 = .ok (.iadd, 1) := by decide +kernel
theorem dX10_costWith_88 : decode cX10_costWith 88 = .ok (.iaload, 1) := by decide +kernel
theorem dX10_costWith_89 : decode cX10_costWith 89 = .ok (.iadd, 1) := by decide +kernel
theorem dX10_costWith_90 : decode cX10_costWith 90 = .ok (.goto 4, 3) := by decide +kernel
theorem dX10_costWith_93 : decode cX10_costWith 93 = .ok (.iconst (-1), 1) := by decide +kernel
theorem dX10_costWith_94 : decode cX10_costWith 94 = .ok (.ireturn, 1) := by decide +kernel
set_option maxRecDepth 20000 in
theorem ggX10_findsMatching_X10_findsContacts : GoodIn wsX10_findsMatching wsX10_findsContacts := goodIn_r _ [7, 8, 9, 10, 11, 6, 12, 13, 14, 15, 16, 17, 18, 19, 20, 21, 22, 23, 24, 25, 26, 27, 28, 29, 30, 31, 32, 33, 34, 35, 36, 37, 38, 39, 40, 41, 42, 43, 44, 45, 46, 47, 48, 49, 50, 71, 72, 73, 74, 75, 76, 77, 78, 79, 80, 81, 82, 83, 84, 85, 86, 87, 88, 89, 90] (by decide +kernel) (by decide +kernel)
set_option maxRecDepth 20000 in
theorem gX10_findsMatching_X10_findsContacts : GoodIn wsX10_findsMatching (wsV RX10 92 RX10 yX10_findsContacts wsX10_findsContacts) := goodIn_app (goodIn_of _ (by decide +kernel)) ggX10_findsMatching_X10_findsContacts
set_option maxRecDepth 20000 in
theorem ggX10_findsMatching_X10_isDownNow : GoodIn wsX10_findsMatching wsX10_isDownNow := goodIn_r _ [54, 55, 56, 57, 6, 58, 20, 71, 72, 73, 74, 75, 76, 77, 78, 79, 80, 81, 82, 83, 84, 85, 86, 87, 88, 89, 90] (by decide +kernel) (by decide +kernel)
set_option maxRecDepth 20000 in
theorem gX10_findsMatching_X10_isDownNow : GoodIn wsX10_findsMatching (wsV RX10 95 RX10 yX10_isDownNow wsX10_isDownNow) := goodIn_app (goodIn_of _ (by decide +kernel)) ggX10_findsMatching_X10_isDownNow
set_option maxRecDepth 20000 in
theorem ggX10_findsMatching_X10_costWith : GoodIn wsX10_findsMatching wsX10_costWith := goodIn_r _ [62, 1, 8, 63, 64, 65, 6, 66, 20, 67, 68, 69, 70, 43, 44, 55, 56, 57, 58, 71, 72, 73, 74, 75, 76, 77, 78, 79, 80, 81, 82, 83, 84, 85, 86, 87, 88, 89, 90] (by decide +kernel) (by decide +kernel)
set_option maxRecDepth 20000 in
theorem gX10_findsMatching_X10_costWith : GoodIn wsX10_findsMatching (wsV RX10 98 RX10 yX10_costWith wsX10_costWith) := goodIn_app (goodIn_of _ (by decide +kernel)) ggX10_findsMatching_X10_costWith
theorem dX10_findsMatching_0 : decode cX10_findsMatching 0 = .ok (.aload_n 0, 1) := by decide +kernel
theorem dX10_findsMatching_1 : decode cX10_findsMatching 1 = .ok (.invokevirtual 92, 3) := by decide +kernel
theorem dX10_findsMatching_4 : decode cX10_findsMatching 4 = .ok (.iconst 0, 1) := by decide +kernel
theorem dX10_findsMatching_5 : decode cX10_findsMatching 5 = .ok (.istore_n 1, 1) := by decide +kernel
theorem dX10_findsMatching_6 : decode cX10_findsMatching 6 = .ok (.iload_n 1, 1) := by decide +kernel
theorem dX10_findsMatching_7 : decode cX10_findsMatching 7 = .ok (.bipush 64, 2) := by decide +kernel
theorem dX10_findsMatching_9 : decode cX10_findsMatching 9 = .ok (.if_icmp .ge 20, 3) := by decide +kernel
theorem dX10_findsMatching_12 : decode cX10_findsMatching 12 = .ok (.aload_n 0, 1) := by decide +kernel
theorem dX10_findsMatching_13 : decode cX10_findsMatching 13 = .ok (.getfield 37, 3) := by decide +kernel
theorem dX10_findsMatching_16 : decode cX10_findsMatching 16 = .ok (.sipush 384, 3) := by decide +kernel
theorem dX10_findsMatching_19 : decode cX10_findsMatching 19 = .ok (.iload_n 1, 1) := by decide +kernel
theorem dX10_findsMatching_20 : decode cX10_findsMatching 20 = .ok (.iadd, 1) := by decide +kernel
theorem dX10_findsMatching_21 : decode cX10_findsMatching 21 = .ok (.iconst 0, 1) := by decide +kernel
theorem dX10_findsMatching_22 : decode cX10_findsMatching 22 = .ok (.iastore, 1) := by decide +kernel
theorem dX10_findsMatching_23 : decode cX10_findsMatching 23 = .ok (.iinc 1 1, 3) := by decide +kernel
theorem dX10_findsMatching_26 : decode cX10_findsMatching 26 = .ok (.goto (-20), 3) := by decide +kernel
theorem dX10_findsMatching_29 : decode cX10_findsMatching 29 = .ok (.sipush 383, 3) := by decide +kernel
theorem dX10_findsMatching_32 : decode cX10_findsMatching 32 = .ok (.istore_n 1, 1) := by decide +kernel
theorem dX10_findsMatching_33 : decode cX10_findsMatching 33 = .ok (.iload_n 1, 1) := by decide +kernel
theorem dX10_findsMatching_34 : decode cX10_findsMatching 34 = .ok (.ifCond .lt 104, 3) := by decide +kernel
theorem dX10_findsMatching_37 : decode cX10_findsMatching 37 = .ok (.iload_n 1, 1) := by decide +kernel
theorem dX10_findsMatching_38 : decode cX10_findsMatching 38 = .ok (.bipush 64, 2) := by decide +kernel
theorem dX10_findsMatching_40 : decode cX10_findsMatching 40 = .ok (.idiv, 1) := by decide +kernel
theorem dX10_findsMatching_41 : decode cX10_findsMatching 41 = .ok (.istore_n 2, 1) := by decide +kernel
theorem dX10_findsMatching_42 : decode cX10_findsMatching 42 = .ok (.aload_n 0, 1) := by decide +kernel
theorem dX10_findsMatching_43 : decode cX10_findsMatching 43 = .ok (.iload_n 2, 1) := by decide +kernel
theorem dX10_findsMatching_44 : decode cX10_findsMatching 44 = .ok (.invokevirtual 95, 3) := by decide +kernel
theorem dX10_findsMatching_47 : decode cX10_findsMatching 47 = .ok (.ifCond .eq 7, 3) := by decide +kernel
theorem dX10_findsMatching_50 : decode cX10_findsMatching 50 = .ok (.iconst (-1), 1) := by decide +kernel
theorem dX10_findsMatching_51 : decode cX10_findsMatching 51 = .ok (.goto 12, 3) := by decide +kernel
theorem dX10_findsMatching_54 : decode cX10_findsMatching 54 = .ok (.aload_n 0, 1) := by decide +kernel
theorem dX10_findsMatching_55 : decode cX10_findsMatching 55 = .ok (.getfield 37, 3) := by decide +kernel
theorem dX10_findsMatching_58 : decode cX10_findsMatching 58 = .ok (.iload_n 1, 1) := by decide +kernel
theorem dX10_findsMatching_59 : decode cX10_findsMatching 59 = .ok (.bipush 64, 2) := by decide +kernel
theorem dX10_findsMatching_61 : decode cX10_findsMatching 61 = .ok (.iadd, 1) := by decide +kernel
theorem dX10_findsMatching_62 : decode cX10_findsMatching 62 = .ok (.iaload, 1) := by decide +kernel
theorem dX10_findsMatching_63 : decode cX10_findsMatching 63 = .ok (.istore_n 3, 1) := by decide +kernel
theorem dX10_findsMatching_64 : decode cX10_findsMatching 64 = .ok (.iconst 0, 1) := by decide +kernel
theorem dX10_findsMatching_65 : decode cX10_findsMatching 65 = .ok (.istore 4, 2) := by decide +kernel
theorem dX10_findsMatching_67 : decode cX10_findsMatching 67 = .ok (.iload 4, 2) := by decide +kernel
theorem dX10_findsMatching_69 : decode cX10_findsMatching 69 = .ok (.bipush 6, 2) := by decide +kernel
theorem dX10_findsMatching_71 : decode cX10_findsMatching 71 = .ok (.if_icmp .gt 54, 3) := by decide +kernel
theorem dX10_findsMatching_74 : decode cX10_findsMatching 74 = .ok (.aload_n 0, 1) := by decide +kernel
theorem dX10_findsMatching_75 : decode cX10_findsMatching 75 = .ok (.iload_n 2, 1) := by decide +kernel
theorem dX10_findsMatching_76 : decode cX10_findsMatching 76 = .ok (.invokevirtual 95, 3) := by decide +kernel
theorem dX10_findsMatching_79 : decode cX10_findsMatching 79 = .ok (.ifCond .eq 46, 3) := by decide +kernel
theorem dX10_findsMatching_82 : decode cX10_findsMatching 82 = .ok (.aload_n 0, 1) := by decide +kernel
theorem dX10_findsMatching_83 : decode cX10_findsMatching 83 = .ok (.iload_n 2, 1) := by decide +kernel
theorem dX10_findsMatching_84 : decode cX10_findsMatching 84 = .ok (.iload 4, 2) := by decide +kernel
theorem dX10_findsMatching_86 : decode cX10_findsMatching 86 = .ok (.iload_n 1, 1) := by decide +kernel
theorem dX10_findsMatching_87 : decode cX10_findsMatching 87 = .ok (.bipush 64, 2) := by decide +kernel
theorem dX10_findsMatching_89 : decode cX10_findsMatching 89 = .ok (.irem, 1) := by decide +kernel
theorem dX10_findsMatching_90 : decode cX10_findsMatching 90 = .ok (.invokevirtual 98, 3) := by decide +kernel
theorem dX10_findsMatching_93 : decode cX10_findsMatching 93 = .ok (.istore 5, 2) := by decide +kernel
theorem dX10_findsMatching_95 : decode cX10_findsMatching 95 = .ok (.iload 5, 2) := by decide +kernel
theorem dX10_findsMatching_97 : decode cX10_findsMatching 97 = .ok (.iconst (-1), 1) := by decide +kernel
theorem dX10_findsMatching_98 : decode cX10_findsMatching 98 = .ok (.if_icmp .eq 19, 3) := by decide +kernel
theorem dX10_findsMatching_101 : decode cX10_findsMatching 101 = .ok (.iload_n 3, 1) := by decide +kernel
theorem dX10_findsMatching_102 : decode cX10_findsMatching 102 = .ok (.iconst (-1), 1) := by decide +kernel
theorem dX10_findsMatching_103 : decode cX10_findsMatching 103 = .ok (.if_icmp .eq 9, 3) := by decide +kernel
theorem dX10_findsMatching_106 : decode cX10_findsMatching 106 = .ok (.iload 5, 2) := by decide +kernel
theorem dX10_findsMatching_108 : decode cX10_findsMatching 108 = .ok (.iload_n 3, 1) := by decide +kernel
theorem dX10_findsMatching_109 : decode cX10_findsMatching 109 = .ok (.if_icmp .ge 8, 3) := by decide +kernel
theorem dX10_findsMatching_112 : decode cX10_findsMatching 112 = .ok (.iload 5, 2) := by decide +kernel
theorem dX10_findsMatching_114 : decode cX10_findsMatching 114 = .ok (.goto 4, 3) := by decide +kernel
theorem dX10_findsMatching_117 : decode cX10_findsMatching 117 = .ok (.iload_n 3, 1) := by decide +kernel
theorem dX10_findsMatching_118 : decode cX10_findsMatching 118 = .ok (.istore_n 3, 1) := by decide +kernel
theorem dX10_findsMatching_119 : decode cX10_findsMatching 119 = .ok (.iinc 4 1, 3) := by decide +kernel
theorem dX10_findsMatching_122 : decode cX10_findsMatching 122 = .ok (.goto (-55), 3) := by decide +kernel
theorem dX10_findsMatching_125 : decode cX10_findsMatching 125 = .ok (.aload_n 0, 1) := by decide +kernel
theorem dX10_findsMatching_126 : decode cX10_findsMatching 126 = .ok (.getfield 37, 3) := by decide +kernel
theorem dX10_findsMatching_129 : decode cX10_findsMatching 129 = .ok (.iload_n 1, 1) := by decide +kernel
theorem dX10_findsMatching_130 : decode cX10_findsMatching 130 = .ok (.iload_n 3, 1) := by decide +kernel
theorem dX10_findsMatching_131 : decode cX10_findsMatching 131 = .ok (.iastore, 1) := by decide +kernel
theorem dX10_findsMatching_132 : decode cX10_findsMatching 132 = .ok (.iinc 1 (-1), 3) := by decide +kernel
theorem dX10_findsMatching_135 : decode cX10_findsMatching 135 = .ok (.goto (-102), 3) := by decide +kernel
theorem dX10_findsMatching_138 : decode cX10_findsMatching 138 = .ok (.iconst 0, 1) := by decide +kernel
theorem dX10_findsMatching_139 : decode cX10_findsMatching 139 = .ok (.istore_n 1, 1) := by decide +kernel
theorem dX10_findsMatching_140 : decode cX10_findsMatching 140 = .ok (.iconst 0, 1) := by decide +kernel
theorem dX10_findsMatching_141 : decode cX10_findsMatching 141 = .ok (.istore_n 2, 1) := by decide +kernel
theorem dX10_findsMatching_142 : decode cX10_findsMatching 142 = .ok (.iload_n 2, 1) := by decide +kernel
theorem dX10_findsMatching_143 : decode cX10_findsMatching 143 = .ok (.bipush 6, 2) := by decide +kernel
theorem dX10_findsMatching_145 : decode cX10_findsMatching 145 = .ok (.if_icmp .ge 91, 3) := by decide +kernel
theorem dX10_findsMatching_148 : decode cX10_findsMatching 148 = .ok (.iconst 0, 1) := by decide +kernel
theorem dX10_findsMatching_149 : decode cX10_findsMatching 149 = .ok (.istore_n 3, 1) := by decide +kernel
theorem dX10_findsMatching_150 : decode cX10_findsMatching 150 = .ok (.aload_n 0, 1) := by decide +kernel
theorem dX10_findsMatching_151 : decode cX10_findsMatching 151 = .ok (.iload_n 2, 1) := by decide +kernel
theorem dX10_findsMatching_152 : decode cX10_findsMatching 152 = .ok (.invokevirtual 95, 3) := by decide +kernel
theorem dX10_findsMatching_155 : decode cX10_findsMatching 155 = .ok (.ifCond .eq 30, 3) := by decide +kernel
theorem dX10_findsMatching_158 : decode cX10_findsMatching 158 = .ok (.aload_n 0, 1) := by decide +kernel
theorem dX10_findsMatching_159 : decode cX10_findsMatching 159 = .ok (.iload_n 2, 1) := by decide +kernel
theorem dX10_findsMatching_160 : decode cX10_findsMatching 160 = .ok (.iload_n 3, 1) := by decide +kernel
theorem dX10_findsMatching_161 : decode cX10_findsMatching 161 = .ok (.iload_n 1, 1) := by decide +kernel
theorem dX10_findsMatching_162 : decode cX10_findsMatching 162 = .ok (.invokevirtual 98, 3) := by decide +kernel
theorem dX10_findsMatching_165 : decode cX10_findsMatching 165 = .ok (.aload_n 0, 1) := by decide +kernel
theorem dX10_findsMatching_166 : decode cX10_findsMatching 166 = .ok (.getfield 37, 3) := by decide +kernel
theorem dX10_findsMatching_169 : decode cX10_findsMatching 169 = .ok (.bipush 64, 2) := by decide +kernel
theorem dX10_findsMatching_171 : decode cX10_findsMatching 171 = .ok (.iload_n 2, 1) := by decide +kernel
theorem dX10_findsMatching_172 : decode cX10_findsMatching 172 = .ok (.imul, 1) := by decide +kernel
theorem dX10_findsMatching_173 : decode cX10_findsMatching 173 = .ok (.iload_n 1, 1) := by decide +kernel
theorem dX10_findsMatching_174 : decode cX10_findsMatching 174 = .ok (.iadd, 1) := by decide +kernel
theorem dX10_findsMatching_175 : decode cX10_findsMatching 175 = .ok (.iaload, 1) := by decide +kernel
theorem dX10_findsMatching_176 : decode cX10_findsMatching 176 = .ok (.if_icmp .eq 9, 3) := by decide +kernel
theorem dX10_findsMatching_179 : decode cX10_findsMatching 179 = .ok (.iinc 3 1, 3) := by decide +kernel
theorem dX10_findsMatching_182 : decode cX10_findsMatching 182 = .ok (.goto (-32), 3) := by decide +kernel
theorem dX10_findsMatching_185 : decode cX10_findsMatching 185 = .ok (.aload_n 0, 1) := by decide +kernel
theorem dX10_findsMatching_186 : decode cX10_findsMatching 186 = .ok (.getfield 40, 3) := by decide +kernel
theorem dX10_findsMatching_189 : decode cX10_findsMatching 189 = .ok (.iload_n 2, 1) := by decide +kernel
theorem dX10_findsMatching_190 : decode cX10_findsMatching 190 = .ok (.aload_n 0, 1) := by decide +kernel
theorem dX10_findsMatching_191 : decode cX10_findsMatching 191 = .ok (.iload_n 2, 1) := by decide +kernel
theorem dX10_findsMatching_192 : decode cX10_findsMatching 192 = .ok (.invokevirtual 95, 3) := by decide +kernel
theorem dX10_findsMatching_195 : decode cX10_findsMatching 195 = .ok (.ifCond .eq 13, 3) := by decide +kernel
theorem dX10_findsMatching_198 : decode cX10_findsMatching 198 = .ok (.iload_n 3, 1) := by decide +kernel
theorem dX10_findsMatching_199 : decode cX10_findsMatching 199 = .ok (.bipush 6, 2) := by decide +kernel
theorem dX10_findsMatching_201 : decode cX10_findsMatching 201 = .ok (.if_icmp .ge 7, 3) := by decide +kernel
theorem dX10_findsMatching_204 : decode cX10_findsMatching 204 = .ok (.iload_n 3, 1) := by decide +kernel
theorem dX10_findsMatching_205 : decode cX10_findsMatching 205 = .ok (.goto 4, 3) := by decide +kernel
theorem dX10_findsMatching_208 : decode cX10_findsMatching 208 = .ok (.iconst (-1), 1) := by decide +kernel
theorem dX10_findsMatching_209 : decode cX10_findsMatching 209 = .ok (.iastore, 1) := by decide +kernel
theorem dX10_findsMatching_210 : decode cX10_findsMatching 210 = .ok (.iload_n 1, 1) := by decide +kernel
theorem dX10_findsMatching_211 : decode cX10_findsMatching 211 = .ok (.aload_n 0, 1) := by decide +kernel
theorem dX10_findsMatching_212 : decode cX10_findsMatching 212 = .ok (.getfield 40, 3) := by decide +kernel
theorem dX10_findsMatching_215 : decode cX10_findsMatching 215 = .ok (.iload_n 2, 1) := by decide +kernel
theorem dX10_findsMatching_216 : decode cX10_findsMatching 216 = .ok (.iaload, 1) := by decide +kernel
theorem dX10_findsMatching_217 : decode cX10_findsMatching 217 = .ok (.iconst (-1), 1) := by decide +kernel
theorem dX10_findsMatching_218 : decode cX10_findsMatching 218 = .ok (.if_icmp .ne 7, 3) := by decide +kernel
theorem dX10_findsMatching_221 : decode cX10_findsMatching 221 = .ok (.iconst 0, 1) := by decide +kernel
theorem dX10_findsMatching_222 : decode cX10_findsMatching 222 = .ok (.goto 6, 3) := by decide +kernel
theorem dX10_findsMatching_225 : decode cX10_findsMatching 225 = .ok (.iconst 1, 1) := by decide +kernel
theorem dX10_findsMatching_226 : decode cX10_findsMatching 226 = .ok (.iload_n 3, 1) := by decide +kernel
theorem dX10_findsMatching_227 : decode cX10_findsMatching 227 = .ok (.ishl, 1) := by decide +kernel
theorem dX10_findsMatching_228 : decode cX10_findsMatching 228 = .ok (.ior, 1) := by decide +kernel
theorem dX10_findsMatching_229 : decode cX10_findsMatching 229 = .ok (.istore_n 1, 1) := by decide +kernel
theorem dX10_findsMatching_230 : decode cX10_findsMatching 230 = .ok (.iinc 2 1, 3) := by decide +kernel
theorem dX10_findsMatching_233 : decode cX10_findsMatching 233 = .ok (.goto (-91), 3) := by decide +kernel
theorem dX10_findsMatching_236 : decode cX10_findsMatching 236 = .ok (.return_, 1) := by decide +kernel
theorem dX10_unmatched_0 : decode cX10_unmatched 0 = .ok (.iconst 1, 1) := by decide +kernel
theorem dX10_unmatched_1 : decode cX10_unmatched 1 = .ok (.aload_n 0, 1) := by decide +kernel
theorem dX10_unmatched_2 : decode cX10_unmatched 2 = .ok (.getfield 66, 3) := by decide +kernel
theorem dX10_unmatched_5 : decode cX10_unmatched 5 = .ok (.ishl, 1) := by decide +kernel
theorem dX10_unmatched_6 : decode cX10_unmatched 6 = .ok (.iconst 1, 1) := by decide +kernel
theorem dX10_unmatched_7 : decode cX10_unmatched 7 = .ok (.isub, 1) := by decide +kernel
theorem dX10_unmatched_8 : decode cX10_unmatched 8 = .ok (.istore_n 1, 1) := by decide +kernel
theorem dX10_unmatched_9 : decode cX10_unmatched 9 = .ok (.iconst 0, 1) := by decide +kernel
theorem dX10_unmatched_10 : decode cX10_unmatched 10 = .ok (.istore_n 2, 1) := by decide +kernel
theorem dX10_unmatched_11 : decode cX10_unmatched 11 = .ok (.iload_n 2, 1) := by decide +kernel
theorem dX10_unmatched_12 : decode cX10_unmatched 12 = .ok (.bipush 6, 2) := by decide +kernel
theorem dX10_unmatched_14 : decode cX10_unmatched 14 = .ok (.if_icmp .ge 36, 3) := by decide +kernel
theorem dX10_unmatched_17 : decode cX10_unmatched 17 = .ok (.iload_n 1, 1) := by decide +kernel
theorem dX10_unmatched_18 : decode cX10_unmatched 18 = .ok (.aload_n 0, 1) := by decide +kernel
theorem dX10_unmatched_19 : decode cX10_unmatched 19 = .ok (.getfield 40, 3) := by decide +kernel
theorem dX10_unmatched_22 : decode cX10_unmatched 22 = .ok (.iload_n 2, 1) := by decide +kernel
theorem dX10_unmatched_23 : decode cX10_unmatched 23 = .ok (.iaload, 1) := by decide +kernel
theorem dX10_unmatched_24 : decode cX10_unmatched 24 = .ok (.iconst (-1), 1) := by decide +kernel
theorem dX10_unmatched_25 : decode cX10_unmatched 25 = .ok (.if_icmp .ne 7, 3) := by decide +kernel
theorem dX10_unmatched_28 : decode cX10_unmatched 28 = .ok (.iload_n 1, 1) := by decide +kernel
theorem dX10_unmatched_29 : decode cX10_unmatched 29 = .ok (.goto 13, 3) := by decide +kernel
theorem dX10_unmatched_32 : decode cX10_unmatched 32 = .ok (.iconst 1, 1) := by decide +kernel
theorem dX10_unmatched_33 : decode cX10_unmatched 33 = .ok (.aload_n 0, 1) := by decide +kernel
theorem dX10_unmatched_34 : decode cX10_unmatched 34 = .ok (.getfield 40, 3) := by decide +kernel
theorem dX10_unmatched_37 : decode cX10_unmatched 37 = .ok (.iload_n 2, 1) := by decide +kernel
theorem dX10_unmatched_38 : decode cX10_unmatched 38 = .ok (.iaload, 1) := by decide +kernel
theorem dX10_unmatched_39 : decode cX10_unmatched 39 = .ok (.ishl, 1) := by decide +kernel
theorem dX10_unmatched_40 : decode cX10_unmatched 40 = .ok (.iconst (-1), 1) := by decide +kernel
theorem dX10_unmatched_41 : decode cX10_unmatched 41 = .ok (.ixor, 1) := by decide +kernel
theorem dX10_unmatched_42 : decode cX10_unmatched 42 = .ok (.iand, 1) := by decide +kernel
theorem dX10_unmatched_43 : decode cX10_unmatched 43 = .ok (.istore_n 1, 1) := by decide +kernel
theorem dX10_unmatched_44 : decode cX10_unmatched 44 = .ok (.iinc 2 1, 3) := by decide +kernel
theorem dX10_unmatched_47 : decode cX10_unmatched 47 = .ok (.goto (-36), 3) := by decide +kernel
theorem dX10_unmatched_50 : decode cX10_unmatched 50 = .ok (.iload_n 1, 1) := by decide +kernel
theorem dX10_unmatched_51 : decode cX10_unmatched 51 = .ok (.ireturn, 1) := by decide +kernel
set_option maxRecDepth 20000 in
theorem ggX10_staysDown_X10_isDownNow : GoodIn wsX10_staysDown wsX10_isDownNow := goodIn_r _ [7, 8, 9, 10, 6, 11, 2, 12, 13, 14, 15, 16, 17, 18, 19, 20, 21, 22, 23, 24, 25, 26, 27, 28, 29, 30, 31] (by decide +kernel) (by decide +kernel)
set_option maxRecDepth 20000 in
theorem gX10_staysDown_X10_isDownNow : GoodIn wsX10_staysDown (wsV RX10 95 RX10 yX10_isDownNow wsX10_isDownNow) := goodIn_app (goodIn_of _ (by decide +kernel)) ggX10_staysDown_X10_isDownNow
set_option maxRecDepth 20000 in
theorem ggX10_staysDown_X10_of : GoodIn wsX10_staysDown wsX10_of := goodIn_r _ [11, 2, 12, 13, 14, 15, 16, 17, 18, 19, 20, 21, 22, 23, 24, 25, 26, 27, 28, 29, 30, 31] (by decide +kernel) (by decide +kernel)
set_option maxRecDepth 20000 in
theorem gX10_staysDown_X10_of : GoodIn wsX10_staysDown (wsV RX10 82 RX10 yX10_of wsX10_of) := goodIn_app (goodIn_of _ (by decide +kernel)) ggX10_staysDown_X10_of
theorem dX10_staysDown_0 : decode cX10_staysDown 0 = .ok (.aload_n 0, 1) := by decide +kernel
theorem dX10_staysDown_1 : decode cX10_staysDown 1 = .ok (.iload_n 1, 1) := by decide +kernel
theorem dX10_staysDown_2 : decode cX10_staysDown 2 = .ok (.invokevirtual 95, 3) := by decide +kernel
theorem dX10_staysDown_5 : decode cX10_staysDown 5 = .ok (.ifCond .eq 33, 3) := by decide +kernel
theorem dX10_staysDown_8 : decode cX10_staysDown 8 = .ok (.aload_n 0, 1) := by decide +kernel
theorem dX10_staysDown_9 : decode cX10_staysDown 9 = .ok (.getfield 40, 3) := by decide +kernel
theorem dX10_staysDown_12 : decode cX10_staysDown 12 = .ok (.iload_n 1, 1) := by decide +kernel
theorem dX10_staysDown_13 : decode cX10_staysDown 13 = .ok (.iaload, 1) := by decide +kernel
theorem dX10_staysDown_14 : decode cX10_staysDown 14 = .ok (.iconst (-1), 1) := by decide +kernel
theorem dX10_staysDown_15 : decode cX10_staysDown 15 = .ok (.if_icmp .ne 19, 3) := by decide +kernel
theorem dX10_staysDown_18 : decode cX10_staysDown 18 = .ok (.aload_n 0, 1) := by decide +kernel
theorem dX10_staysDown_19 : decode cX10_staysDown 19 = .ok (.iload_n 1, 1) := by decide +kernel
theorem dX10_staysDown_20 : decode cX10_staysDown 20 = .ok (.iconst 4, 1) := by decide +kernel
theorem dX10_staysDown_21 : decode cX10_staysDown 21 = .ok (.invokevirtual 82, 3) := by decide +kernel
theorem dX10_staysDown_24 : decode cX10_staysDown 24 = .ok (.aload_n 0, 1) := by decide +kernel
theorem dX10_staysDown_25 : decode cX10_staysDown 25 = .ok (.getfield 7, 3) := by decide +kernel
theorem dX10_staysDown_28 : decode cX10_staysDown 28 = .ok (.bipush 100, 2) := by decide +kernel
theorem dX10_staysDown_30 : decode cX10_staysDown 30 = .ok (.iaload, 1) := by decide +kernel
theorem dX10_staysDown_31 : decode cX10_staysDown 31 = .ok (.if_icmp .ge 7, 3) := by decide +kernel
theorem dX10_staysDown_34 : decode cX10_staysDown 34 = .ok (.iconst 1, 1) := by decide +kernel
theorem dX10_staysDown_35 : decode cX10_staysDown 35 = .ok (.goto 4, 3) := by decide +kernel
theorem dX10_staysDown_38 : decode cX10_staysDown 38 = .ok (.iconst 0, 1) := by decide +kernel
theorem dX10_staysDown_39 : decode cX10_staysDown 39 = .ok (.ireturn, 1) := by decide +kernel
set_option maxRecDepth 20000 in
theorem ggX10_puts_X10_lay : GoodIn wsX10_puts wsX10_lay := goodIn_r _ [7, 8, 9, 10, 11, 12, 13, 14, 15, 16, 17, 18, 19, 20, 21, 22, 23, 24, 25, 26, 27, 28] (by decide +kernel) (by decide +kernel)
set_option maxRecDepth 20000 in
theorem gX10_puts_X10_lay : GoodIn wsX10_puts (wsV RX10 102 RX10 yX10_lay wsX10_lay) := goodIn_app (goodIn_of _ (by decide +kernel)) ggX10_puts_X10_lay
theorem dX10_puts_0 : decode cX10_puts 0 = .ok (.aload_n 0, 1) := by decide +kernel
theorem dX10_puts_1 : decode cX10_puts 1 = .ok (.iload_n 1, 1) := by decide +kernel
theorem dX10_puts_2 : decode cX10_puts 2 = .ok (.iconst 0, 1) := by decide +kernel
theorem dX10_puts_3 : decode cX10_puts 3 = .ok (.iconst 1, 1) := by decide +kernel
theorem dX10_puts_4 : decode cX10_puts 4 = .ok (.invokevirtual 102, 3) := by decide +kernel
theorem dX10_puts_7 : decode cX10_puts 7 = .ok (.aload_n 0, 1) := by decide +kernel
theorem dX10_puts_8 : decode cX10_puts 8 = .ok (.iload_n 1, 1) := by decide +kernel
theorem dX10_puts_9 : decode cX10_puts 9 = .ok (.iconst 1, 1) := by decide +kernel
theorem dX10_puts_10 : decode cX10_puts 10 = .ok (.aload_n 0, 1) := by decide +kernel
theorem dX10_puts_11 : decode cX10_puts 11 = .ok (.getfield 25, 3) := by decide +kernel
theorem dX10_puts_14 : decode cX10_puts 14 = .ok (.iload_n 2, 1) := by decide +kernel
theorem dX10_puts_15 : decode cX10_puts 15 = .ok (.iaload, 1) := by decide +kernel
theorem dX10_puts_16 : decode cX10_puts 16 = .ok (.invokevirtual 102, 3) := by decide +kernel
theorem dX10_puts_19 : decode cX10_puts 19 = .ok (.aload_n 0, 1) := by decide +kernel
theorem dX10_puts_20 : decode cX10_puts 20 = .ok (.iload_n 1, 1) := by decide +kernel
theorem dX10_puts_21 : decode cX10_puts 21 = .ok (.iconst 2, 1) := by decide +kernel
theorem dX10_puts_22 : decode cX10_puts 22 = .ok (.aload_n 0, 1) := by decide +kernel
theorem dX10_puts_23 : decode cX10_puts 23 = .ok (.getfield 28, 3) := by decide +kernel
theorem dX10_puts_26 : decode cX10_puts 26 = .ok (.iload_n 2, 1) := by decide +kernel
theorem dX10_puts_27 : decode cX10_puts 27 = .ok (.iaload, 1) := by decide +kernel
theorem dX10_puts_28 : decode cX10_puts 28 = .ok (.invokevirtual 102, 3) := by decide +kernel
theorem dX10_puts_31 : decode cX10_puts 31 = .ok (.aload_n 0, 1) := by decide +kernel
theorem dX10_puts_32 : decode cX10_puts 32 = .ok (.iload_n 1, 1) := by decide +kernel
theorem dX10_puts_33 : decode cX10_puts 33 = .ok (.iconst 3, 1) := by decide +kernel
theorem dX10_puts_34 : decode cX10_puts 34 = .ok (.iload_n 3, 1) := by decide +kernel
theorem dX10_puts_35 : decode cX10_puts 35 = .ok (.invokevirtual 102, 3) := by decide +kernel
theorem dX10_puts_38 : decode cX10_puts 38 = .ok (.aload_n 0, 1) := by decide +kernel
theorem dX10_puts_39 : decode cX10_puts 39 = .ok (.iload_n 1, 1) := by decide +kernel
theorem dX10_puts_40 : decode cX10_puts 40 = .ok (.iconst 4, 1) := by decide +kernel
theorem dX10_puts_41 : decode cX10_puts 41 = .ok (.iconst 0, 1) := by decide +kernel
theorem dX10_puts_42 : decode cX10_puts 42 = .ok (.invokevirtual 102, 3) := by decide +kernel
theorem dX10_puts_45 : decode cX10_puts 45 = .ok (.return_, 1) := by decide +kernel
set_option maxRecDepth 20000 in
theorem ggX10_scans_X10_findsMatching : GoodIn wsX10_scans wsX10_findsMatching := goodIn_r _ [8, 9, 3, 10, 11, 12, 7, 13, 1, 14, 15, 16, 17, 18, 19, 20, 21, 22, 23, 24, 2, 25, 26, 27, 28, 29, 30, 31, 32, 33, 34, 35, 36, 37, 38, 39, 40, 41, 42, 43, 44, 45, 46, 47, 48, 49, 50, 51, 52, 53, 54, 55, 56, 57, 58, 59, 60, 61, 62, 63, 64, 65, 66, 67, 68, 69, 70, 71, 72, 73, 74, 91, 92, 93, 94, 95, 96, 97, 98, 99, 100, 101, 102, 103, 104, 105, 106, 107, 108, 109, 110] (by decide +kernel) (by decide +kernel)
set_option maxRecDepth 20000 in
theorem gX10_scans_X10_findsMatching : GoodIn wsX10_scans (wsV RX10 106 RX10 yX10_findsMatching wsX10_findsMatching) := goodIn_app (goodIn_of _ (by decide +kernel)) ggX10_scans_X10_findsMatching
set_option maxRecDepth 20000 in
theorem ggX10_scans_X10_unmatched : GoodIn wsX10_scans wsX10_unmatched := goodIn_r _ [78, 1, 3, 91, 92, 93, 94, 95, 96, 97, 98, 99, 100, 101, 102, 103, 104, 105, 106, 107, 108, 109, 110] (by decide +kernel) (by decide +kernel)
set_option maxRecDepth 20000 in
theorem gX10_scans_X10_unmatched : GoodIn wsX10_scans (wsV RX10 109 RX10 yX10_unmatched wsX10_unmatched) := goodIn_app (goodIn_of _ (by decide +kernel)) ggX10_scans_X10_unmatched
set_option maxRecDepth 20000 in
theorem ggX10_scans_X10_isDownNow : GoodIn wsX10_scans wsX10_isDownNow := goodIn_r _ [58, 59, 60, 61, 7, 62, 2, 91, 92, 93, 94, 95, 96, 97, 98, 99, 100, 101, 102, 103, 104, 105, 106, 107, 108, 109, 110] (by decide +kernel) (by decide +kernel)
set_option maxRecDepth 20000 in
theorem gX10_scans_X10_isDownNow : GoodIn wsX10_scans (wsV RX10 95 RX10 yX10_isDownNow wsX10_isDownNow) := goodIn_app (goodIn_of _ (by decide +kernel)) ggX10_scans_X10_isDownNow
set_option maxRecDepth 20000 in
theorem ggX10_scans_X10_puts : GoodIn wsX10_scans wsX10_puts := goodIn_r _ [82, 47, 48, 83, 84, 85, 7, 86, 2, 91, 92, 93, 94, 95, 96, 97, 98, 99, 100, 101, 102, 103, 104, 105, 106, 107, 108, 109, 110] (by decide +kernel) (by decide +kernel)
set_option maxRecDepth 20000 in
theorem gX10_scans_X10_puts : GoodIn wsX10_scans (wsV RX10 112 RX10 yX10_puts wsX10_puts) := goodIn_app (goodIn_of _ (by decide +kernel)) ggX10_scans_X10_puts
set_option maxRecDepth 20000 in
theorem ggX10_scans_X10_of : GoodIn wsX10_scans wsX10_of := goodIn_r _ [62, 2, 91, 92, 93, 94, 95, 96, 97, 98, 99, 100, 101, 102, 103, 104, 105, 106, 107, 108, 109, 110] (by decide +kernel) (by decide +kernel)
set_option maxRecDepth 20000 in
theorem gX10_scans_X10_of : GoodIn wsX10_scans (wsV RX10 82 RX10 yX10_of wsX10_of) := goodIn_app (goodIn_of _ (by decide +kernel)) ggX10_scans_X10_of
set_option maxRecDepth 20000 in
theorem ggX10_scans_X10_staysDown : GoodIn wsX10_scans wsX10_staysDown := goodIn_r _ [90, 3, 2, 55, 56, 57, 7, 58, 59, 60, 61, 62, 91, 92, 93, 94, 95, 96, 97, 98, 99, 100, 101, 102, 103, 104, 105, 106, 107, 108, 109, 110] (by decide +kernel) (by decide +kernel)
set_option maxRecDepth 20000 in
theorem gX10_scans_X10_staysDown : GoodIn wsX10_scans (wsV RX10 115 RX10 yX10_staysDown wsX10_staysDown) := goodIn_app (goodIn_of _ (by decide +kernel)) ggX10_scans_X10_staysDown
set_option maxRecDepth 20000 in
theorem ggX10_scans_X10_lay : GoodIn wsX10_scans wsX10_lay := goodIn_r _ [86, 2, 91, 92, 93, 94, 95, 96, 97, 98, 99, 100, 101, 102, 103, 104, 105, 106, 107, 108, 109, 110] (by decide +kernel) (by decide +kernel)
set_option maxRecDepth 20000 in
theorem gX10_scans_X10_lay : GoodIn wsX10_scans (wsV RX10 102 RX10 yX10_lay wsX10_lay) := goodIn_app (goodIn_of _ (by decide +kernel)) ggX10_scans_X10_lay
theorem dX10_scans_0 : decode cX10_scans 0 = .ok (.aload_n 0, 1) := by decide +kernel
theorem dX10_scans_1 : decode cX10_scans 1 = .ok (.invokevirtual 106, 3) := by decide +kernel
theorem dX10_scans_4 : decode cX10_scans 4 = .ok (.aload_n 0, 1) := by decide +kernel
theorem dX10_scans_5 : decode cX10_scans 5 = .ok (.invokevirtual 109, 3) := by decide +kernel
theorem dX10_scans_8 : decode cX10_scans 8 = .ok (.istore_n 1, 1) := by decide +kernel
theorem dX10_scans_9 : decode cX10_scans 9 = .ok (.iconst 0, 1) := by decide +kernel
theorem dX10_scans_10 : decode cX10_scans 10 = .ok (.istore_n 2, 1) := by decide +kernel
theorem dX10_scans_11 : decode cX10_scans 11 = .ok (.iconst 0, 1) := by decide +kernel
theorem dX10_scans_12 : decode cX10_scans 12 = .ok (.istore_n 3, 1) := by decide +kernel
theorem dX10_scans_13 : decode cX10_scans 13 = .ok (.iconst 0, 1) := by decide +kernel
theorem dX10_scans_14 : decode cX10_scans 14 = .ok (.istore 4, 2) := by decide +kernel
theorem dX10_scans_16 : decode cX10_scans 16 = .ok (.iload 4, 2) := by decide +kernel
theorem dX10_scans_18 : decode cX10_scans 18 = .ok (.bipush 6, 2) := by decide +kernel
theorem dX10_scans_20 : decode cX10_scans 20 = .ok (.if_icmp .ge 188, 3) := by decide +kernel
theorem dX10_scans_23 : decode cX10_scans 23 = .ok (.aload_n 0, 1) := by decide +kernel
theorem dX10_scans_24 : decode cX10_scans 24 = .ok (.iload 4, 2) := by decide +kernel
theorem dX10_scans_26 : decode cX10_scans 26 = .ok (.invokevirtual 95, 3) := by decide +kernel
theorem dX10_scans_29 : decode cX10_scans 29 = .ok (.ifCond .ne 62, 3) := by decide +kernel
theorem dX10_scans_32 : decode cX10_scans 32 = .ok (.iload_n 2, 1) := by decide +kernel
theorem dX10_scans_33 : decode cX10_scans 33 = .ok (.aload_n 0, 1) := by decide +kernel
theorem dX10_scans_34 : decode cX10_scans 34 = .ok (.getfield 66, 3) := by decide +kernel
theorem dX10_scans_37 : decode cX10_scans 37 = .ok (.if_icmp .ge 17, 3) := by decide +kernel
theorem dX10_scans_40 : decode cX10_scans 40 = .ok (.iload_n 1, 1) := by decide +kernel
theorem dX10_scans_41 : decode cX10_scans 41 = .ok (.iload_n 2, 1) := by decide +kernel
theorem dX10_scans_42 : decode cX10_scans 42 = .ok (.ishr, 1) := by decide +kernel
theorem dX10_scans_43 : decode cX10_scans 43 = .ok (.iconst 1, 1) := by decide +kernel
theorem dX10_scans_44 : decode cX10_scans 44 = .ok (.iand, 1) := by decide +kernel
theorem dX10_scans_45 : decode cX10_scans 45 = .ok (.ifCond .ne 9, 3) := by decide +kernel
theorem dX10_scans_48 : decode cX10_scans 48 = .ok (.iinc 2 1, 3) := by decide +kernel
theorem dX10_scans_51 : decode cX10_scans 51 = .ok (.goto (-19), 3) := by decide +kernel
theorem dX10_scans_54 : decode cX10_scans 54 = .ok (.iload_n 2, 1) := by decide +kernel
theorem dX10_scans_55 : decode cX10_scans 55 = .ok (.aload_n 0, 1) := by decide +kernel
theorem dX10_scans_56 : decode cX10_scans 56 = .ok (.getfield 66, 3) := by decide +kernel
theorem dX10_scans_59 : decode cX10_scans 59 = .ok (.if_icmp .ge 143, 3) := by decide +kernel
theorem dX10_scans_62 : decode cX10_scans 62 = .ok (.aload_n 0, 1) := by decide +kernel
theorem dX10_scans_63 : decode cX10_scans 63 = .ok (.iload 4, 2) := by decide +kernel
theorem dX10_scans_65 : decode cX10_scans 65 = .ok (.iload_n 2, 1) := by decide +kernel
theorem dX10_scans_66 : decode cX10_scans 66 = .ok (.iconst 0, 1) := by decide +kernel
theorem dX10_scans_67 : decode cX10_scans 67 = .ok (.invokevirtual 112, 3) := by decide +kernel
theorem dX10_scans_70 : decode cX10_scans 70 = .ok (.iinc 2 1, 3) := by decide +kernel
theorem dX10_scans_73 : decode cX10_scans 73 = .ok (.aload_n 0, 1) := by decide +kernel
theorem dX10_scans_74 : decode cX10_scans 74 = .ok (.getfield 7, 3) := by decide +kernel
theorem dX10_scans_77 : decode cX10_scans 77 = .ok (.sipush 132, 3) := by decide +kernel
theorem dX10_scans_80 : decode cX10_scans 80 = .ok (.dup2, 1) := by decide +kernel
theorem dX10_scans_81 : decode cX10_scans 81 = .ok (.iaload, 1) := by decide +kernel
theorem dX10_scans_82 : decode cX10_scans 82 = .ok (.iconst 1, 1) := by decide +kernel
theorem dX10_scans_83 : decode cX10_scans 83 = .ok (.iadd, 1) := by decide +kernel
theorem dX10_scans_84 : decode cX10_scans 84 = .ok (.iastore, 1) := by decide +kernel
theorem dX10_scans_85 : decode cX10_scans 85 = .ok (.iinc 3 1, 3) := by decide +kernel
theorem dX10_scans_88 : decode cX10_scans 88 = .ok (.goto 114, 3) := by decide +kernel
theorem dX10_scans_91 : decode cX10_scans 91 = .ok (.aload_n 0, 1) := by decide +kernel
theorem dX10_scans_92 : decode cX10_scans 92 = .ok (.getfield 40, 3) := by decide +kernel
theorem dX10_scans_95 : decode cX10_scans 95 = .ok (.iload 4, 2) := by decide +kernel
theorem dX10_scans_97 : decode cX10_scans 97 = .ok (.iaload, 1) := by decide +kernel
theorem dX10_scans_98 : decode cX10_scans 98 = .ok (.iconst (-1), 1) := by decide +kernel
theorem dX10_scans_99 : decode cX10_scans 99 = .ok (.if_icmp .eq 28, 3) := by decide +kernel
theorem dX10_scans_102 : decode cX10_scans 102 = .ok (.aload_n 0, 1) := by decide +kernel
theorem dX10_scans_103 : decode cX10_scans 103 = .ok (.iload 4, 2) := by decide +kernel
theorem dX10_scans_105 : decode cX10_scans 105 = .ok (.aload_n 0, 1) := by decide +kernel
theorem dX10_scans_106 : decode cX10_scans 106 = .ok (.getfield 40, 3) := by decide +kernel
theorem dX10_scans_109 : decode cX10_scans 109 = .ok (.iload 4, 2) := by decide +kernel
theorem dX10_scans_111 : decode cX10_scans 111 = .ok (.iaload, 1) := by decide +kernel
theorem dX10_scans_112 : decode cX10_scans 112 = .ok (.aload_n 0, 1) := by decide +kernel
theorem dX10_scans_113 : decode cX10_scans 113 = .ok (.iload 4, 2) := by decide +kernel
theorem dX10_scans_115 : decode cX10_scans 115 = .ok (.iconst 3, 1) := by decide +kernel
theorem dX10_scans_116 : decode cX10_scans 116 = .ok (.invokevirtual 82, 3) := by decide +kernel
theorem dX10_scans_119 : decode cX10_scans 119 = .ok (.iconst 1, 1) := by decide +kernel
theorem dX10_scans_120 : decode cX10_scans 120 = .ok (.iadd, 1) := by decide +kernel
theorem dX10_scans_121 : decode cX10_scans 121 = .ok (.invokevirtual 112, 3) := by decide +kernel
theorem dX10_scans_124 : decode cX10_scans 124 = .ok (.goto 78, 3) := by decide +kernel
theorem dX10_scans_127 : decode cX10_scans 127 = .ok (.aload_n 0, 1) := by decide +kernel
theorem dX10_scans_128 : decode cX10_scans 128 = .ok (.iload 4, 2) := by decide +kernel
theorem dX10_scans_130 : decode cX10_scans 130 = .ok (.invokevirtual 115, 3) := by decide +kernel
theorem dX10_scans_133 : decode cX10_scans 133 = .ok (.istore 5, 2) := by decide +kernel
theorem dX10_scans_135 : decode cX10_scans 135 = .ok (.aload_n 0, 1) := by decide +kernel
theorem dX10_scans_136 : decode cX10_scans 136 = .ok (.iload 4, 2) := by decide +kernel
theorem dX10_scans_138 : decode cX10_scans 138 = .ok (.iconst 4, 1) := by decide +kernel
theorem dX10_scans_139 : decode cX10_scans 139 = .ok (.aload_n 0, 1) := by decide +kernel
theorem dX10_scans_140 : decode cX10_scans 140 = .ok (.iload 4, 2) := by decide +kernel
theorem dX10_scans_142 : decode cX10_scans 142 = .ok (.iconst 4, 1) := by decide +kernel
theorem dX10_scans_143 : decode cX10_scans 143 = .ok (.invokevirtual 82, 3) := by decide +kernel
theorem dX10_scans_146 : decode cX10_scans 146 = .ok (.iconst 1, 1) := by decide +kernel
theorem dX10_scans_147 : decode cX10_scans 147 = .ok (.iadd, 1) := by decide +kernel
theorem dX10_scans_148 : decode cX10_scans 148 = .ok (.invokevirtual 102, 3) := by decide +kernel
theorem dX10_scans_151 : decode cX10_scans 151 = .ok (.aload_n 0, 1) := by decide +kernel
theorem dX10_scans_152 : decode cX10_scans 152 = .ok (.iload 4, 2) := by decide +kernel
theorem dX10_scans_154 : decode cX10_scans 154 = .ok (.iconst 0, 1) := by decide +kernel
theorem dX10_scans_155 : decode cX10_scans 155 = .ok (.iload 5, 2) := by decide +kernel
theorem dX10_scans_157 : decode cX10_scans 157 = .ok (.ifCond .eq 7, 3) := by decide +kernel
theorem dX10_scans_160 : decode cX10_scans 160 = .ok (.iconst 1, 1) := by decide +kernel
theorem dX10_scans_161 : decode cX10_scans 161 = .ok (.goto 4, 3) := by decide +kernel
theorem dX10_scans_164 : decode cX10_scans 164 = .ok (.iconst 0, 1) := by decide +kernel
theorem dX10_scans_165 : decode cX10_scans 165 = .ok (.invokevirtual 102, 3) := by decide +kernel
theorem dX10_scans_168 : decode cX10_scans 168 = .ok (.aload_n 0, 1) := by decide +kernel
theorem dX10_scans_169 : decode cX10_scans 169 = .ok (.getfield 7, 3) := by decide +kernel
theorem dX10_scans_172 : decode cX10_scans 172 = .ok (.sipush 133, 3) := by decide +kernel
theorem dX10_scans_175 : decode cX10_scans 175 = .ok (.dup2, 1) := by decide +kernel
theorem dX10_scans_176 : decode cX10_scans 176 = .ok (.iaload, 1) := by decide +kernel
theorem dX10_scans_177 : decode cX10_scans 177 = .ok (.iload 5, 2) := by decide +kernel
theorem dX10_scans_179 : decode cX10_scans 179 = .ok (.ifCond .eq 7, 3) := by decide +kernel
theorem dX10_scans_182 : decode cX10_scans 182 = .ok (.iconst 0, 1) := by decide +kernel
theorem dX10_scans_183 : decode cX10_scans 183 = .ok (.goto 4, 3) := by decide +kernel
theorem dX10_scans_186 : decode cX10_scans 186 = .ok (.iconst 1, 1) := by decide +kernel
theorem dX10_scans_187 : decode cX10_scans 187 = .ok (.iadd, 1) := by decide +kernel
theorem dX10_scans_188 : decode cX10_scans 188 = .ok (.iastore, 1) := by decide +kernel
theorem dX10_scans_189 : decode cX10_scans 189 = .ok (.iload_n 3, 1) := by decide +kernel
theorem dX10_scans_190 : decode cX10_scans 190 = .ok (.iload 5, 2) := by decide +kernel
theorem dX10_scans_192 : decode cX10_scans 192 = .ok (.ifCond .eq 7, 3) := by decide +kernel
theorem dX10_scans_195 : decode cX10_scans 195 = .ok (.iconst 0, 1) := by decide +kernel
theorem dX10_scans_196 : decode cX10_scans 196 = .ok (.goto 4, 3) := by decide +kernel
theorem dX10_scans_199 : decode cX10_scans 199 = .ok (.iconst 1, 1) := by decide +kernel
theorem dX10_scans_200 : decode cX10_scans 200 = .ok (.iadd, 1) := by decide +kernel
theorem dX10_scans_201 : decode cX10_scans 201 = .ok (.istore_n 3, 1) := by decide +kernel
theorem dX10_scans_202 : decode cX10_scans 202 = .ok (.iinc 4 1, 3) := by decide +kernel
theorem dX10_scans_205 : decode cX10_scans 205 = .ok (.goto (-189), 3) := by decide +kernel
theorem dX10_scans_208 : decode cX10_scans 208 = .ok (.aload_n 0, 1) := by decide +kernel
theorem dX10_scans_209 : decode cX10_scans 209 = .ok (.getfield 7, 3) := by decide +kernel
theorem dX10_scans_212 : decode cX10_scans 212 = .ok (.sipush 131, 3) := by decide +kernel
theorem dX10_scans_215 : decode cX10_scans 215 = .ok (.dup2, 1) := by decide +kernel
theorem dX10_scans_216 : decode cX10_scans 216 = .ok (.iaload, 1) := by decide +kernel
theorem dX10_scans_217 : decode cX10_scans 217 = .ok (.iconst 1, 1) := by decide +kernel
theorem dX10_scans_218 : decode cX10_scans 218 = .ok (.iadd, 1) := by decide +kernel
theorem dX10_scans_219 : decode cX10_scans 219 = .ok (.iastore, 1) := by decide +kernel
theorem dX10_scans_220 : decode cX10_scans 220 = .ok (.iload_n 3, 1) := by decide +kernel
theorem dX10_scans_221 : decode cX10_scans 221 = .ok (.ireturn, 1) := by decide +kernel
theorem dX10_copies_0 : decode cX10_copies 0 = .ok (.iconst 0, 1) := by decide +kernel
theorem dX10_copies_1 : decode cX10_copies 1 = .ok (.istore_n 3, 1) := by decide +kernel
theorem dX10_copies_2 : decode cX10_copies 2 = .ok (.iload_n 3, 1) := by decide +kernel
theorem dX10_copies_3 : decode cX10_copies 3 = .ok (.sipush 134, 3) := by decide +kernel
theorem dX10_copies_6 : decode cX10_copies 6 = .ok (.if_icmp .ge 33, 3) := by decide +kernel
theorem dX10_copies_9 : decode cX10_copies 9 = .ok (.aload_n 0, 1) := by decide +kernel
theorem dX10_copies_10 : decode cX10_copies 10 = .ok (.getfield 7, 3) := by decide +kernel
theorem dX10_copies_13 : decode cX10_copies 13 = .ok (.sipush 134, 3) := by decide +kernel
theorem dX10_copies_16 : decode cX10_copies 16 = .ok (.iload_n 2, 1) := by decide +kernel
theorem dX10_copies_17 : decode cX10_copies 17 = .ok (.imul, 1) := by decide +kernel
theorem dX10_copies_18 : decode cX10_copies 18 = .ok (.iload_n 3, 1) := by decide +kernel
theorem dX10_copies_19 : decode cX10_copies 19 = .ok (.iadd, 1) := by decide +kernel
theorem dX10_copies_20 : decode cX10_copies 20 = .ok (.aload_n 0, 1) := by decide +kernel
theorem dX10_copies_21 : decode cX10_copies 21 = .ok (.getfield 7, 3) := by decide +kernel
theorem dX10_copies_24 : decode cX10_copies 24 = .ok (.sipush 134, 3) := by decide +kernel
theorem dX10_copies_27 : decode cX10_copies 27 = .ok (.iload_n 1, 1) := by decide +kernel
theorem dX10_copies_28 : decode cX10_copies 28 = .ok (.imul, 1) := by decide +kernel
theorem dX10_copies_29 : decode cX10_copies 29 = .ok (.iload_n 3, 1) := by decide +kernel
theorem dX10_copies_30 : decode cX10_copies 30 = .ok (.iadd, 1) := by decide +kernel
theorem dX10_copies_31 : decode cX10_copies 31 = .ok (.iaload, 1) := by decide +kernel
theorem dX10_copies_32 : decode cX10_copies 32 = .ok (.iastore, 1) := by decide +kernel
theorem dX10_copies_33 : decode cX10_copies 33 = .ok (.iinc 3 1, 3) := by decide +kernel
theorem dX10_copies_36 : decode cX10_copies 36 = .ok (.goto (-34), 3) := by decide +kernel
theorem dX10_copies_39 : decode cX10_copies 39 = .ok (.return_, 1) := by decide +kernel
set_option maxRecDepth 20000 in
theorem ggX10_keeps_X10_copies : GoodIn wsX10_keeps wsX10_copies := goodIn_r _ [6, 7, 8, 9, 10, 11, 12, 13, 14, 15, 16, 17, 18, 19, 20, 21, 22, 23, 24, 25, 26, 27] (by decide +kernel) (by decide +kernel)
set_option maxRecDepth 20000 in
theorem gX10_keeps_X10_copies : GoodIn wsX10_keeps (wsV RX10 121 RX10 yX10_copies wsX10_copies) := goodIn_app (goodIn_of _ (by decide +kernel)) ggX10_keeps_X10_copies
theorem dX10_keeps_0 : decode cX10_keeps 0 = .ok (.iconst 1, 1) := by decide +kernel
theorem dX10_keeps_1 : decode cX10_keeps 1 = .ok (.istore_n 1, 1) := by decide +kernel
theorem dX10_keeps_2 : decode cX10_keeps 2 = .ok (.iload_n 1, 1) := by decide +kernel
theorem dX10_keeps_3 : decode cX10_keeps 3 = .ok (.bipush 6, 2) := by decide +kernel
theorem dX10_keeps_5 : decode cX10_keeps 5 = .ok (.if_icmp .ge 26, 3) := by decide +kernel
theorem dX10_keeps_8 : decode cX10_keeps 8 = .ok (.aload_n 0, 1) := by decide +kernel
theorem dX10_keeps_9 : decode cX10_keeps 9 = .ok (.getfield 118, 3) := by decide +kernel
theorem dX10_keeps_12 : decode cX10_keeps 12 = .ok (.bipush 6, 2) := by decide +kernel
theorem dX10_keeps_14 : decode cX10_keeps 14 = .ok (.if_icmp .ne 17, 3) := by decide +kernel
theorem dX10_keeps_17 : decode cX10_keeps 17 = .ok (.aload_n 0, 1) := by decide +kernel
theorem dX10_keeps_18 : decode cX10_keeps 18 = .ok (.iload_n 1, 1) := by decide +kernel
theorem dX10_keeps_19 : decode cX10_keeps 19 = .ok (.iconst 1, 1) := by decide +kernel
theorem dX10_keeps_20 : decode cX10_keeps 20 = .ok (.iadd, 1) := by decide +kernel
theorem dX10_keeps_21 : decode cX10_keeps 21 = .ok (.iload_n 1, 1) := by decide +kernel
theorem dX10_keeps_22 : decode cX10_keeps 22 = .ok (.invokevirtual 121, 3) := by decide +kernel
theorem dX10_keeps_25 : decode cX10_keeps 25 = .ok (.iinc 1 1, 3) := by decide +kernel
theorem dX10_keeps_28 : decode cX10_keeps 28 = .ok (.goto (-26), 3) := by decide +kernel
theorem dX10_keeps_31 : decode cX10_keeps 31 = .ok (.aload_n 0, 1) := by decide +kernel
theorem dX10_keeps_32 : decode cX10_keeps 32 = .ok (.dup, 1) := by decide +kernel
theorem dX10_keeps_33 : decode cX10_keeps 33 = .ok (.getfield 118, 3) := by decide +kernel
theorem dX10_keeps_36 : decode cX10_keeps 36 = .ok (.aload_n 0, 1) := by decide +kernel
theorem dX10_keeps_37 : decode cX10_keeps 37 = .ok (.getfield 118, 3) := by decide +kernel
theorem dX10_keeps_40 : decode cX10_keeps 40 = .ok (.bipush 6, 2) := by decide +kernel
theorem dX10_keeps_42 : decode cX10_keeps 42 = .ok (.if_icmp .ge 7, 3) := by decide +kernel
theorem dX10_keeps_45 : decode cX10_keeps 45 = .ok (.iconst 1, 1) := by decide +kernel
theorem dX10_keeps_46 : decode cX10_keeps 46 = .ok (.goto 4, 3) := by decide +kernel
theorem dX10_keeps_49 : decode cX10_keeps 49 = .ok (.iconst 0, 1) := by decide +kernel
theorem dX10_keeps_50 : decode cX10_keeps 50 = .ok (.iadd, 1) := by decide +kernel
theorem dX10_keeps_51 : decode cX10_keeps 51 = .ok (.putfield 118, 3) := by decide +kernel
theorem dX10_keeps_54 : decode cX10_keeps 54 = .ok (.aload_n 0, 1) := by decide +kernel
theorem dX10_keeps_55 : decode cX10_keeps 55 = .ok (.iconst 0, 1) := by decide +kernel
theorem dX10_keeps_56 : decode cX10_keeps 56 = .ok (.aload_n 0, 1) := by decide +kernel
theorem dX10_keeps_57 : decode cX10_keeps 57 = .ok (.getfield 118, 3) := by decide +kernel
theorem dX10_keeps_60 : decode cX10_keeps 60 = .ok (.invokevirtual 121, 3) := by decide +kernel
theorem dX10_keeps_63 : decode cX10_keeps 63 = .ok (.return_, 1) := by decide +kernel
set_option maxRecDepth 20000 in
theorem ggX10_changed_X10_keeps : GoodIn wsX10_changed wsX10_keeps := goodIn_r _ [6, 7, 8, 9, 10, 5, 11, 1, 12, 13, 14, 15, 16, 17, 18, 19, 20, 21, 22, 23, 24, 25, 26, 27, 28, 29, 30, 31] (by decide +kernel) (by decide +kernel)
set_option maxRecDepth 20000 in
theorem gX10_changed_X10_keeps : GoodIn wsX10_changed (wsV RX10 125 RX10 yX10_keeps wsX10_keeps) := goodIn_app (goodIn_of _ (by decide +kernel)) ggX10_changed_X10_keeps
theorem dX10_changed_0 : decode cX10_changed 0 = .ok (.aload_n 0, 1) := by decide +kernel
theorem dX10_changed_1 : decode cX10_changed 1 = .ok (.invokevirtual 125, 3) := by decide +kernel
theorem dX10_changed_4 : decode cX10_changed 4 = .ok (.aload_n 0, 1) := by decide +kernel
theorem dX10_changed_5 : decode cX10_changed 5 = .ok (.getfield 7, 3) := by decide +kernel
theorem dX10_changed_8 : decode cX10_changed 8 = .ok (.iload_n 1, 1) := by decide +kernel
theorem dX10_changed_9 : decode cX10_changed 9 = .ok (.iaload, 1) := by decide +kernel
theorem dX10_changed_10 : decode cX10_changed 10 = .ok (.istore_n 3, 1) := by decide +kernel
theorem dX10_changed_11 : decode cX10_changed 11 = .ok (.aload_n 0, 1) := by decide +kernel
theorem dX10_changed_12 : decode cX10_changed 12 = .ok (.getfield 7, 3) := by decide +kernel
theorem dX10_changed_15 : decode cX10_changed 15 = .ok (.iload_n 1, 1) := by decide +kernel
theorem dX10_changed_16 : decode cX10_changed 16 = .ok (.iload_n 2, 1) := by decide +kernel
theorem dX10_changed_17 : decode cX10_changed 17 = .ok (.iastore, 1) := by decide +kernel
theorem dX10_changed_18 : decode cX10_changed 18 = .ok (.iload_n 3, 1) := by decide +kernel
theorem dX10_changed_19 : decode cX10_changed 19 = .ok (.ireturn, 1) := by decide +kernel
set_option maxRecDepth 20000 in
theorem ggX10_presses_X10_apart : GoodIn wsX10_presses wsX10_apart := goodIn_r _ [5, 6, 7, 4, 8] (by decide +kernel) (by decide +kernel)
set_option maxRecDepth 20000 in
theorem gX10_presses_X10_apart : GoodIn wsX10_presses (va_wsS RX10 59 yX10_apart wsX10_apart) := goodIn_app (goodIn_of _ (by decide +kernel)) ggX10_presses_X10_apart
theorem dX10_presses_0 : decode cX10_presses 0 = .ok (.iconst 0, 1) := by decide +kernel
theorem dX10_presses_1 : decode cX10_presses 1 = .ok (.istore_n 3, 1) := by decide +kernel
theorem dX10_presses_2 : decode cX10_presses 2 = .ok (.iload_n 3, 1) := by decide +kernel
theorem dX10_presses_3 : decode cX10_presses 3 = .ok (.bipush 48, 2) := by decide +kernel
theorem dX10_presses_5 : decode cX10_presses 5 = .ok (.if_icmp .ge 85, 3) := by decide +kernel
theorem dX10_presses_8 : decode cX10_presses 8 = .ok (.iload_n 1, 1) := by decide +kernel
theorem dX10_presses_9 : decode cX10_presses 9 = .ok (.iload_n 3, 1) := by decide +kernel
theorem dX10_presses_10 : decode cX10_presses 10 = .ok (.invokestatic 59, 3) := by decide +kernel
theorem dX10_presses_13 : decode cX10_presses 13 = .ok (.istore 4, 2) := by decide +kernel
theorem dX10_presses_15 : decode cX10_presses 15 = .ok (.aload_n 0, 1) := by decide +kernel
theorem dX10_presses_16 : decode cX10_presses 16 = .ok (.getfield 7, 3) := by decide +kernel
theorem dX10_presses_19 : decode cX10_presses 19 = .ok (.iconst 0, 1) := by decide +kernel
theorem dX10_presses_20 : decode cX10_presses 20 = .ok (.iload_n 3, 1) := by decide +kernel
theorem dX10_presses_21 : decode cX10_presses 21 = .ok (.iadd, 1) := by decide +kernel
theorem dX10_presses_22 : decode cX10_presses 22 = .ok (.iaload, 1) := by decide +kernel
theorem dX10_presses_23 : decode cX10_presses 23 = .ok (.iload 4, 2) := by decide +kernel
theorem dX10_presses_25 : decode cX10_presses 25 = .ok (.ifCond .ne 7, 3) := by decide +kernel
theorem dX10_presses_28 : decode cX10_presses 28 = .ok (.iload_n 2, 1) := by decide +kernel
theorem dX10_presses_29 : decode cX10_presses 29 = .ok (.goto 28, 3) := by decide +kernel
theorem dX10_presses_32 : decode cX10_presses 32 = .ok (.iload 4, 2) := by decide +kernel
theorem dX10_presses_34 : decode cX10_presses 34 = .ok (.iconst 1, 1) := by decide +kernel
theorem dX10_presses_35 : decode cX10_presses 35 = .ok (.if_icmp .ne 9, 3) := by decide +kernel
theorem dX10_presses_38 : decode cX10_presses 38 = .ok (.iload_n 2, 1) := by decide +kernel
theorem dX10_presses_39 : decode cX10_presses 39 = .ok (.iconst 2, 1) := by decide +kernel
theorem dX10_presses_40 : decode cX10_presses 40 = .ok (.idiv, 1) := by decide +kernel
theorem dX10_presses_41 : decode cX10_presses 41 = .ok (.goto 16, 3) := by decide +kernel
theorem dX10_presses_44 : decode cX10_presses 44 = .ok (.iload 4, 2) := by decide +kernel
theorem dX10_presses_46 : decode cX10_presses 46 = .ok (.iconst 2, 1) := by decide +kernel
theorem dX10_presses_47 : decode cX10_presses 47 = .ok (.if_icmp .ne 9, 3) := by decide +kernel
theorem dX10_presses_50 : decode cX10_presses 50 = .ok (.iload_n 2, 1) := by decide +kernel
theorem dX10_presses_51 : decode cX10_presses 51 = .ok (.iconst 4, 1) := by decide +kernel
theorem dX10_presses_52 : decode cX10_presses 52 = .ok (.idiv, 1) := by decide +kernel
theorem dX10_presses_53 : decode cX10_presses 53 = .ok (.goto 4, 3) := by decide +kernel
theorem dX10_presses_56 : decode cX10_presses 56 = .ok (.iconst 0, 1) := by decide +kernel
theorem dX10_presses_57 : decode cX10_presses 57 = .ok (.iadd, 1) := by decide +kernel
theorem dX10_presses_58 : decode cX10_presses 58 = .ok (.istore 5, 2) := by decide +kernel
theorem dX10_presses_60 : decode cX10_presses 60 = .ok (.aload_n 0, 1) := by decide +kernel
theorem dX10_presses_61 : decode cX10_presses 61 = .ok (.getfield 7, 3) := by decide +kernel
theorem dX10_presses_64 : decode cX10_presses 64 = .ok (.iconst 0, 1) := by decide +kernel
theorem dX10_presses_65 : decode cX10_presses 65 = .ok (.iload_n 3, 1) := by decide +kernel
theorem dX10_presses_66 : decode cX10_presses 66 = .ok (.iadd, 1) := by decide +kernel
theorem dX10_presses_67 : decode cX10_presses 67 = .ok (.iload 5, 2) := by decide +kernel
theorem dX10_presses_69 : decode cX10_presses 69 = .ok (.sipush 255, 3) := by decide +kernel
theorem dX10_presses_72 : decode cX10_presses 72 = .ok (.if_icmp .le 9, 3) := by decide +kernel
theorem dX10_presses_75 : decode cX10_presses 75 = .ok (.sipush 255, 3) := by decide +kernel
theorem dX10_presses_78 : decode cX10_presses 78 = .ok (.goto 5, 3) := by decide +kernel
theorem dX10_presses_81 : decode cX10_presses 81 = .ok (.iload 5, 2) := by decide +kernel
theorem dX10_presses_83 : decode cX10_presses 83 = .ok (.iastore, 1) := by decide +kernel
theorem dX10_presses_84 : decode cX10_presses 84 = .ok (.iinc 3 1, 3) := by decide +kernel
theorem dX10_presses_87 : decode cX10_presses 87 = .ok (.goto (-85), 3) := by decide +kernel
theorem dX10_presses_90 : decode cX10_presses 90 = .ok (.aload_n 0, 1) := by decide +kernel
theorem dX10_presses_91 : decode cX10_presses 91 = .ok (.getfield 7, 3) := by decide +kernel
theorem dX10_presses_94 : decode cX10_presses 94 = .ok (.iconst 0, 1) := by decide +kernel
theorem dX10_presses_95 : decode cX10_presses 95 = .ok (.iload_n 1, 1) := by decide +kernel
theorem dX10_presses_96 : decode cX10_presses 96 = .ok (.iadd, 1) := by decide +kernel
theorem dX10_presses_97 : decode cX10_presses 97 = .ok (.iaload, 1) := by decide +kernel
theorem dX10_presses_98 : decode cX10_presses 98 = .ok (.ireturn, 1) := by decide +kernel
theorem dX10_releases_0 : decode cX10_releases 0 = .ok (.iconst 0, 1) := by decide +kernel
theorem dX10_releases_1 : decode cX10_releases 1 = .ok (.istore_n 1, 1) := by decide +kernel
theorem dX10_releases_2 : decode cX10_releases 2 = .ok (.iconst 0, 1) := by decide +kernel
theorem dX10_releases_3 : decode cX10_releases 3 = .ok (.istore_n 2, 1) := by decide +kernel
theorem dX10_releases_4 : decode cX10_releases 4 = .ok (.iload_n 2, 1) := by decide +kernel
theorem dX10_releases_5 : decode cX10_releases 5 = .ok (.bipush 48, 2) := by decide +kernel
theorem dX10_releases_7 : decode cX10_releases 7 = .ok (.if_icmp .ge 37, 3) := by decide +kernel
theorem dX10_releases_10 : decode cX10_releases 10 = .ok (.iload_n 1, 1) := by decide +kernel
theorem dX10_releases_11 : decode cX10_releases 11 = .ok (.aload_n 0, 1) := by decide +kernel
theorem dX10_releases_12 : decode cX10_releases 12 = .ok (.getfield 7, 3) := by decide +kernel
theorem dX10_releases_15 : decode cX10_releases 15 = .ok (.iconst 0, 1) := by decide +kernel
theorem dX10_releases_16 : decode cX10_releases 16 = .ok (.iload_n 2, 1) := by decide +kernel
theorem dX10_releases_17 : decode cX10_releases 17 = .ok (.iadd, 1) := by decide +kernel
theorem dX10_releases_18 : decode cX10_releases 18 = .ok (.iaload, 1) := by decide +kernel
theorem dX10_releases_19 : decode cX10_releases 19 = .ok (.ifCond .ne 7, 3) := by decide +kernel
theorem dX10_releases_22 : decode cX10_releases 22 = .ok (.iconst 0, 1) := by decide +kernel
theorem dX10_releases_23 : decode cX10_releases 23 = .ok (.goto 4, 3) := by decide +kernel
theorem dX10_releases_26 : decode cX10_releases 26 = .ok (.iconst 1, 1) := by decide +kernel
theorem dX10_releases_27 : decode cX10_releases 27 = .ok (.iadd, 1) := by decide +kernel
theorem dX10_releases_28 : decode cX10_releases 28 = .ok (.istore_n 1, 1) := by decide +kernel
theorem dX10_releases_29 : decode cX10_releases 29 = .ok (.aload_n 0, 1) := by decide +kernel
theorem dX10_releases_30 : decode cX10_releases 30 = .ok (.getfield 7, 3) := by decide +kernel
theorem dX10_releases_33 : decode cX10_releases 33 = .ok (.iconst 0, 1) := by decide +kernel
theorem dX10_releases_34 : decode cX10_releases 34 = .ok (.iload_n 2, 1) := by decide +kernel
theorem dX10_releases_35 : decode cX10_releases 35 = .ok (.iadd, 1) := by decide +kernel
theorem dX10_releases_36 : decode cX10_releases 36 = .ok (.iconst 0, 1) := by decide +kernel
theorem dX10_releases_37 : decode cX10_releases 37 = .ok (.iastore, 1) := by decide +kernel
theorem dX10_releases_38 : decode cX10_releases 38 = .ok (.iinc 2 1, 3) := by decide +kernel
theorem dX10_releases_41 : decode cX10_releases 41 = .ok (.goto (-37), 3) := by decide +kernel
theorem dX10_releases_44 : decode cX10_releases 44 = .ok (.iload_n 1, 1) := by decide +kernel
theorem dX10_releases_45 : decode cX10_releases 45 = .ok (.ireturn, 1) := by decide +kernel
theorem dX10_calibrates_0 : decode cX10_calibrates 0 = .ok (.iconst 0, 1) := by decide +kernel
theorem dX10_calibrates_1 : decode cX10_calibrates 1 = .ok (.istore_n 1, 1) := by decide +kernel
theorem dX10_calibrates_2 : decode cX10_calibrates 2 = .ok (.iconst 0, 1) := by decide +kernel
theorem dX10_calibrates_3 : decode cX10_calibrates 3 = .ok (.istore_n 2, 1) := by decide +kernel
theorem dX10_calibrates_4 : decode cX10_calibrates 4 = .ok (.iload_n 2, 1) := by decide +kernel
theorem dX10_calibrates_5 : decode cX10_calibrates 5 = .ok (.bipush 48, 2) := by decide +kernel
theorem dX10_calibrates_7 : decode cX10_calibrates 7 = .ok (.if_icmp .ge 54, 3) := by decide +kernel
theorem dX10_calibrates_10 : decode cX10_calibrates 10 = .ok (.iload_n 1, 1) := by decide +kernel
theorem dX10_calibrates_11 : decode cX10_calibrates 11 = .ok (.aload_n 0, 1) := by decide +kernel
theorem dX10_calibrates_12 : decode cX10_calibrates 12 = .ok (.getfield 7, 3) := by decide +kernel
theorem dX10_calibrates_15 : decode cX10_calibrates 15 = .ok (.iconst 0, 1) := by decide +kernel
theorem dX10_calibrates_16 : decode cX10_calibrates 16 = .ok (.iload_n 2, 1) := by decide +kernel
theorem dX10_calibrates_17 : decode cX10_calibrates 17 = .ok (.iadd, 1) := by decide +kernel
theorem dX10_calibrates_18 : decode cX10_calibrates 18 = .ok (.iaload, 1) := by decide +kernel
theorem dX10_calibrates_19 : decode cX10_calibrates 19 = .ok (.aload_n 0, 1) := by decide +kernel
theorem dX10_calibrates_20 : decode cX10_calibrates 20 = .ok (.getfield 7, 3) := by decide +kernel
theorem dX10_calibrates_23 : decode cX10_calibrates 23 = .ok (.bipush 48, 2) := by decide +kernel
theorem dX10_calibrates_25 : decode cX10_calibrates 25 = .ok (.iload_n 2, 1) := by decide +kernel
theorem dX10_calibrates_26 : decode cX10_calibrates 26 = .ok (.iadd, 1) := by decide +kernel
theorem dX10_calibrates_27 : decode cX10_calibrates 27 = .ok (.iaload, 1) := by decide +kernel
theorem dX10_calibrates_28 : decode cX10_calibrates 28 = .ok (.if_icmp .ne 7, 3) := by decide +kernel
theorem dX10_calibrates_31 : decode cX10_calibrates 31 = .ok (.iconst 0, 1) := by decide +kernel
theorem dX10_calibrates_32 : decode cX10_calibrates 32 = .ok (.goto 4, 3) := by decide +kernel
theorem dX10_calibrates_35 : decode cX10_calibrates 35 = .ok (.iconst 1, 1) := by decide +kernel
theorem dX10_calibrates_36 : decode cX10_calibrates 36 = .ok (.iadd, 1) := by decide +kernel
theorem dX10_calibrates_37 : decode cX10_calibrates 37 = .ok (.istore_n 1, 1) := by decide +kernel
theorem dX10_calibrates_38 : decode cX10_calibrates 38 = .ok (.aload_n 0, 1) := by decide +kernel
theorem dX10_calibrates_39 : decode cX10_calibrates 39 = .ok (.getfield 7, 3) := by decide +kernel
theorem dX10_calibrates_42 : decode cX10_calibrates 42 = .ok (.bipush 48, 2) := by decide +kernel
theorem dX10_calibrates_44 : decode cX10_calibrates 44 = .ok (.iload_n 2, 1) := by decide +kernel
theorem dX10_calibrates_45 : decode cX10_calibrates 45 = .ok (.iadd, 1) := by decide +kernel
theorem dX10_calibrates_46 : decode cX10_calibrates 46 = .ok (.aload_n 0, 1) := by decide +kernel
theorem dX10_calibrates_47 : decode cX10_calibrates 47 = .ok (.getfield 7, 3) := by decide +kernel
theorem dX10_calibrates_50 : decode cX10_calibrates 50 = .ok (.iconst 0, 1) := by decide +kernel
theorem dX10_calibrates_51 : decode cX10_calibrates 51 = .ok (.iload_n 2, 1) := by decide +kernel
theorem dX10_calibrates_52 : decode cX10_calibrates 52 = .ok (.iadd, 1) := by decide +kernel
theorem dX10_calibrates_53 : decode cX10_calibrates 53 = .ok (.iaload, 1) := by decide +kernel
theorem dX10_calibrates_54 : decode cX10_calibrates 54 = .ok (.iastore, 1) := by decide +kernel
theorem dX10_calibrates_55 : decode cX10_calibrates 55 = .ok (.iinc 2 1, 3) := by decide +kernel
theorem dX10_calibrates_58 : decode cX10_calibrates 58 = .ok (.goto (-54), 3) := by decide +kernel
theorem dX10_calibrates_61 : decode cX10_calibrates 61 = .ok (.iload_n 1, 1) := by decide +kernel
theorem dX10_calibrates_62 : decode cX10_calibrates 62 = .ok (.ireturn, 1) := by decide +kernel
set_option maxRecDepth 20000 in
theorem ggX10_setRaw_X10_isCell : GoodIn wsX10_setRaw wsX10_isCell := goodIn_r _ [4, 5, 6, 3, 7] (by decide +kernel) (by decide +kernel)
set_option maxRecDepth 20000 in
theorem gX10_setRaw_X10_isCell : GoodIn wsX10_setRaw (va_wsS RX10 128 yX10_isCell wsX10_isCell) := goodIn_app (goodIn_of _ (by decide +kernel)) ggX10_setRaw_X10_isCell
set_option maxRecDepth 20000 in
theorem ggX10_setRaw_X10_in : GoodIn wsX10_setRaw wsX10_in := goodIn_r _ [7] (by decide +kernel) (by decide +kernel)
set_option maxRecDepth 20000 in
theorem gX10_setRaw_X10_in : GoodIn wsX10_setRaw (va_wsS RX10 47 yX10_in wsX10_in) := goodIn_app (goodIn_of _ (by decide +kernel)) ggX10_setRaw_X10_in
set_option maxRecDepth 20000 in
theorem ggX10_setRaw_X10_holds : GoodIn wsX10_setRaw wsX10_holds := goodIn_r _ [11, 12, 27, 28, 29, 30, 31, 32, 33, 34, 35, 36, 37, 38, 39, 40, 41, 42, 43, 44, 45, 46] (by decide +kernel) (by decide +kernel)
set_option maxRecDepth 20000 in
theorem gX10_setRaw_X10_holds : GoodIn wsX10_setRaw (wsV RX10 132 RX10 yX10_holds wsX10_holds) := goodIn_app (goodIn_of _ (by decide +kernel)) ggX10_setRaw_X10_holds
set_option maxRecDepth 20000 in
theorem ggX10_setRaw_X10_changed : GoodIn wsX10_setRaw wsX10_changed := goodIn_r _ [16, 17, 18, 19, 20, 3, 21, 22, 23, 24, 25, 26, 27, 28, 29, 30, 31, 32, 33, 34, 35, 36, 37, 38, 39, 40, 41, 42, 43, 44, 45, 46] (by decide +kernel) (by decide +kernel)
set_option maxRecDepth 20000 in
theorem gX10_setRaw_X10_changed : GoodIn wsX10_setRaw (wsV RX10 135 RX10 yX10_changed wsX10_changed) := goodIn_app (goodIn_of _ (by decide +kernel)) ggX10_setRaw_X10_changed
theorem dX10_setRaw_0 : decode cX10_setRaw 0 = .ok (.aload_n 0, 1) := by decide +kernel
theorem dX10_setRaw_1 : decode cX10_setRaw 1 = .ok (.iload_n 1, 1) := by decide +kernel
theorem dX10_setRaw_2 : decode cX10_setRaw 2 = .ok (.iload_n 2, 1) := by decide +kernel
theorem dX10_setRaw_3 : decode cX10_setRaw 3 = .ok (.invokestatic 128, 3) := by decide +kernel
theorem dX10_setRaw_6 : decode cX10_setRaw 6 = .ok (.ifCond .ne 7, 3) := by decide +kernel
theorem dX10_setRaw_9 : decode cX10_setRaw 9 = .ok (.iconst 1, 1) := by decide +kernel
theorem dX10_setRaw_10 : decode cX10_setRaw 10 = .ok (.goto 19, 3) := by decide +kernel
theorem dX10_setRaw_13 : decode cX10_setRaw 13 = .ok (.iload_n 3, 1) := by decide +kernel
theorem dX10_setRaw_14 : decode cX10_setRaw 14 = .ok (.iconst 0, 1) := by decide +kernel
theorem dX10_setRaw_15 : decode cX10_setRaw 15 = .ok (.sipush 255, 3) := by decide +kernel
theorem dX10_setRaw_18 : decode cX10_setRaw 18 = .ok (.invokestatic 47, 3) := by decide +kernel
theorem dX10_setRaw_21 : decode cX10_setRaw 21 = .ok (.ifCond .ne 7, 3) := by decide +kernel
theorem dX10_setRaw_24 : decode cX10_setRaw 24 = .ok (.iconst 2, 1) := by decide +kernel
theorem dX10_setRaw_25 : decode cX10_setRaw 25 = .ok (.goto 4, 3) := by decide +kernel
theorem dX10_setRaw_28 : decode cX10_setRaw 28 = .ok (.iconst 0, 1) := by decide +kernel
theorem dX10_setRaw_29 : decode cX10_setRaw 29 = .ok (.invokevirtual 132, 3) := by decide +kernel
theorem dX10_setRaw_32 : decode cX10_setRaw 32 = .ok (.ifCond .eq 19, 3) := by decide +kernel
theorem dX10_setRaw_35 : decode cX10_setRaw 35 = .ok (.aload_n 0, 1) := by decide +kernel
theorem dX10_setRaw_36 : decode cX10_setRaw 36 = .ok (.iconst 0, 1) := by decide +kernel
theorem dX10_setRaw_37 : decode cX10_setRaw 37 = .ok (.bipush 6, 2) := by decide +kernel
theorem dX10_setRaw_39 : decode cX10_setRaw 39 = .ok (.iload_n 1, 1) := by decide +kernel
theorem dX10_setRaw_40 : decode cX10_setRaw 40 = .ok (.imul, 1) := by decide +kernel
theorem dX10_setRaw_41 : decode cX10_setRaw 41 = .ok (.iadd, 1) := by decide +kernel
theorem dX10_setRaw_42 : decode cX10_setRaw 42 = .ok (.iload_n 2, 1) := by decide +kernel
theorem dX10_setRaw_43 : decode cX10_setRaw 43 = .ok (.iadd, 1) := by decide +kernel
theorem dX10_setRaw_44 : decode cX10_setRaw 44 = .ok (.iload_n 3, 1) := by decide +kernel
theorem dX10_setRaw_45 : decode cX10_setRaw 45 = .ok (.invokevirtual 135, 3) := by decide +kernel
theorem dX10_setRaw_48 : decode cX10_setRaw 48 = .ok (.goto 4, 3) := by decide +kernel
theorem dX10_setRaw_51 : decode cX10_setRaw 51 = .ok (.iconst 0, 1) := by decide +kernel
theorem dX10_setRaw_52 : decode cX10_setRaw 52 = .ok (.ireturn, 1) := by decide +kernel
set_option maxRecDepth 20000 in
theorem ggX10_press_X10_isCell : GoodIn wsX10_press wsX10_isCell := goodIn_r _ [4, 5, 6, 3, 7] (by decide +kernel) (by decide +kernel)
set_option maxRecDepth 20000 in
theorem gX10_press_X10_isCell : GoodIn wsX10_press (va_wsS RX10 128 yX10_isCell wsX10_isCell) := goodIn_app (goodIn_of _ (by decide +kernel)) ggX10_press_X10_isCell
set_option maxRecDepth 20000 in
theorem ggX10_press_X10_in : GoodIn wsX10_press wsX10_in := goodIn_r _ [7] (by decide +kernel) (by decide +kernel)
set_option maxRecDepth 20000 in
theorem gX10_press_X10_in : GoodIn wsX10_press (va_wsS RX10 47 yX10_in wsX10_in) := goodIn_app (goodIn_of _ (by decide +kernel)) ggX10_press_X10_in
set_option maxRecDepth 20000 in
theorem ggX10_press_X10_holds : GoodIn wsX10_press wsX10_holds := goodIn_r _ [11, 12, 30, 31, 32, 33, 34, 35, 36, 37, 38, 39, 40, 41, 42, 43, 44, 45, 46, 47, 48, 49] (by decide +kernel) (by decide +kernel)
set_option maxRecDepth 20000 in
theorem gX10_press_X10_holds : GoodIn wsX10_press (wsV RX10 132 RX10 yX10_holds wsX10_holds) := goodIn_app (goodIn_of _ (by decide +kernel)) ggX10_press_X10_holds
set_option maxRecDepth 20000 in
theorem ggX10_press_X10_keeps : GoodIn wsX10_press wsX10_keeps := goodIn_r _ [16, 17, 18, 19, 20, 3, 21, 22, 30, 31, 32, 33, 34, 35, 36, 37, 38, 39, 40, 41, 42, 43, 44, 45, 46, 47, 48, 49] (by decide +kernel) (by decide +kernel)
set_option maxRecDepth 20000 in
theorem gX10_press_X10_keeps : GoodIn wsX10_press (wsV RX10 125 RX10 yX10_keeps wsX10_keeps) := goodIn_app (goodIn_of _ (by decide +kernel)) ggX10_press_X10_keeps
set_option maxRecDepth 20000 in
theorem ggX10_press_X10_presses : GoodIn wsX10_press wsX10_presses := goodIn_r _ [26, 22, 27, 28, 3, 29, 5, 6, 7, 30, 31, 32, 33, 34, 35, 36, 37, 38, 39, 40, 41, 42, 43, 44, 45, 46, 47, 48, 49] (by decide +kernel) (by decide +kernel)
set_option maxRecDepth 20000 in
theorem gX10_press_X10_presses : GoodIn wsX10_press (wsV RX10 138 RX10 yX10_presses wsX10_presses) := goodIn_app (goodIn_of _ (by decide +kernel)) ggX10_press_X10_presses
theorem dX10_press_0 : decode cX10_press 0 = .ok (.aload_n 0, 1) := by decide +kernel
theorem dX10_press_1 : decode cX10_press 1 = .ok (.iload_n 1, 1) := by decide +kernel
theorem dX10_press_2 : decode cX10_press 2 = .ok (.iload_n 2, 1) := by decide +kernel
theorem dX10_press_3 : decode cX10_press 3 = .ok (.invokestatic 128, 3) := by decide +kernel
theorem dX10_press_6 : decode cX10_press 6 = .ok (.ifCond .ne 7, 3) := by decide +kernel
theorem dX10_press_9 : decode cX10_press 9 = .ok (.iconst 1, 1) := by decide +kernel
theorem dX10_press_10 : decode cX10_press 10 = .ok (.goto 19, 3) := by decide +kernel
theorem dX10_press_13 : decode cX10_press 13 = .ok (.iload_n 3, 1) := by decide +kernel
theorem dX10_press_14 : decode cX10_press 14 = .ok (.iconst 1, 1) := by decide +kernel
theorem dX10_press_15 : decode cX10_press 15 = .ok (.sipush 255, 3) := by decide +kernel
theorem dX10_press_18 : decode cX10_press 18 = .ok (.invokestatic 47, 3) := by decide +kernel
theorem dX10_press_21 : decode cX10_press 21 = .ok (.ifCond .ne 7, 3) := by decide +kernel
theorem dX10_press_24 : decode cX10_press 24 = .ok (.iconst 2, 1) := by decide +kernel
theorem dX10_press_25 : decode cX10_press 25 = .ok (.goto 4, 3) := by decide +kernel
theorem dX10_press_28 : decode cX10_press 28 = .ok (.iconst 0, 1) := by decide +kernel
theorem dX10_press_29 : decode cX10_press 29 = .ok (.invokevirtual 132, 3) := by decide +kernel
theorem dX10_press_32 : decode cX10_press 32 = .ok (.ifCond .ne 5, 3) := by decide +kernel
theorem dX10_press_35 : decode cX10_press 35 = .ok (.iconst 0, 1) := by decide +kernel
theorem dX10_press_36 : decode cX10_press 36 = .ok (.ireturn, 1) := by decide +kernel
theorem dX10_press_37 : decode cX10_press 37 = .ok (.aload_n 0, 1) := by decide +kernel
theorem dX10_press_38 : decode cX10_press 38 = .ok (.invokevirtual 125, 3) := by decide +kernel
theorem dX10_press_41 : decode cX10_press 41 = .ok (.aload_n 0, 1) := by decide +kernel
theorem dX10_press_42 : decode cX10_press 42 = .ok (.bipush 6, 2) := by decide +kernel
theorem dX10_press_44 : decode cX10_press 44 = .ok (.iload_n 1, 1) := by decide +kernel
theorem dX10_press_45 : decode cX10_press 45 = .ok (.imul, 1) := by decide +kernel
theorem dX10_press_46 : decode cX10_press 46 = .ok (.iload_n 2, 1) := by decide +kernel
theorem dX10_press_47 : decode cX10_press 47 = .ok (.iadd, 1) := by decide +kernel
theorem dX10_press_48 : decode cX10_press 48 = .ok (.iload_n 3, 1) := by decide +kernel
theorem dX10_press_49 : decode cX10_press 49 = .ok (.invokevirtual 138, 3) := by decide +kernel
theorem dX10_press_52 : decode cX10_press 52 = .ok (.ireturn, 1) := by decide +kernel
set_option maxRecDepth 20000 in
theorem ggX10_release_X10_keeps : GoodIn wsX10_release wsX10_keeps := goodIn_r _ [6, 7, 8, 9, 10, 5, 11, 12, 17, 18, 19, 20, 21, 22, 23, 24, 25, 26, 27, 28, 29, 30, 31, 32, 33, 34, 35, 36] (by decide +kernel) (by decide +kernel)
set_option maxRecDepth 20000 in
theorem gX10_release_X10_keeps : GoodIn wsX10_release (wsV RX10 125 RX10 yX10_keeps wsX10_keeps) := goodIn_app (goodIn_of _ (by decide +kernel)) ggX10_release_X10_keeps
set_option maxRecDepth 20000 in
theorem ggX10_release_X10_releases : GoodIn wsX10_release wsX10_releases := goodIn_r _ [16, 12, 17, 18, 19, 20, 21, 22, 23, 24, 25, 26, 27, 28, 29, 30, 31, 32, 33, 34, 35, 36] (by decide +kernel) (by decide +kernel)
set_option maxRecDepth 20000 in
theorem gX10_release_X10_releases : GoodIn wsX10_release (wsV RX10 141 RX10 yX10_releases wsX10_releases) := goodIn_app (goodIn_of _ (by decide +kernel)) ggX10_release_X10_releases
theorem dX10_release_0 : decode cX10_release 0 = .ok (.aload_n 0, 1) := by decide +kernel
theorem dX10_release_1 : decode cX10_release 1 = .ok (.iconst 0, 1) := by decide +kernel
theorem dX10_release_2 : decode cX10_release 2 = .ok (.putfield 43, 3) := by decide +kernel
theorem dX10_release_5 : decode cX10_release 5 = .ok (.aload_n 0, 1) := by decide +kernel
theorem dX10_release_6 : decode cX10_release 6 = .ok (.invokevirtual 125, 3) := by decide +kernel
theorem dX10_release_9 : decode cX10_release 9 = .ok (.aload_n 0, 1) := by decide +kernel
theorem dX10_release_10 : decode cX10_release 10 = .ok (.invokevirtual 141, 3) := by decide +kernel
theorem dX10_release_13 : decode cX10_release 13 = .ok (.ireturn, 1) := by decide +kernel
set_option maxRecDepth 20000 in
theorem ggX10_calibrate_X10_keeps : GoodIn wsX10_calibrate wsX10_keeps := goodIn_r _ [6, 7, 8, 9, 10, 5, 11, 12, 17, 18, 19, 20, 21, 22, 23, 24, 25, 26, 27, 28, 29, 30, 31, 32, 33, 34, 35, 36] (by decide +kernel) (by decide +kernel)
set_option maxRecDepth 20000 in
theorem gX10_calibrate_X10_keeps : GoodIn wsX10_calibrate (wsV RX10 125 RX10 yX10_keeps wsX10_keeps) := goodIn_app (goodIn_of _ (by decide +kernel)) ggX10_calibrate_X10_keeps
set_option maxRecDepth 20000 in
theorem ggX10_calibrate_X10_calibrates : GoodIn wsX10_calibrate wsX10_calibrates := goodIn_r _ [16, 12, 17, 18, 19, 20, 21, 22, 23, 24, 25, 26, 27, 28, 29, 30, 31, 32, 33, 34, 35, 36] (by decide +kernel) (by decide +kernel)
set_option maxRecDepth 20000 in
theorem gX10_calibrate_X10_calibrates : GoodIn wsX10_calibrate (wsV RX10 144 RX10 yX10_calibrates wsX10_calibrates) := goodIn_app (goodIn_of _ (by decide +kernel)) ggX10_calibrate_X10_calibrates
theorem dX10_calibrate_0 : decode cX10_calibrate 0 = .ok (.aload_n 0, 1) := by decide +kernel
theorem dX10_calibrate_1 : decode cX10_calibrate 1 = .ok (.iconst 0, 1) := by decide +kernel
theorem dX10_calibrate_2 : decode cX10_calibrate 2 = .ok (.putfield 43, 3) := by decide +kernel
theorem dX10_calibrate_5 : decode cX10_calibrate 5 = .ok (.aload_n 0, 1) := by decide +kernel
theorem dX10_calibrate_6 : decode cX10_calibrate 6 = .ok (.invokevirtual 125, 3) := by decide +kernel
theorem dX10_calibrate_9 : decode cX10_calibrate 9 = .ok (.aload_n 0, 1) := by decide +kernel
theorem dX10_calibrate_10 : decode cX10_calibrate 10 = .ok (.invokevirtual 144, 3) := by decide +kernel
theorem dX10_calibrate_13 : decode cX10_calibrate 13 = .ok (.ireturn, 1) := by decide +kernel
theorem dX10_most_0 : decode cX10_most 0 = .ok (.iload_n 0, 1) := by decide +kernel
theorem dX10_most_1 : decode cX10_most 1 = .ok (.tableswitch 45 0 3 #[31, 34, 37, 41], 31) := by decide +kernel
theorem dX10_most_32 : decode cX10_most 32 = .ok (.bipush 100, 2) := by decide +kernel
theorem dX10_most_34 : decode cX10_most 34 = .ok (.ireturn, 1) := by decide +kernel
theorem dX10_most_35 : decode cX10_most 35 = .ok (.bipush 48, 2) := by decide +kernel
theorem dX10_most_37 : decode cX10_most 37 = .ok (.ireturn, 1) := by decide +kernel
theorem dX10_most_38 : decode cX10_most 38 = .ok (.sipush 255, 3) := by decide +kernel
theorem dX10_most_41 : decode cX10_most 41 = .ok (.ireturn, 1) := by decide +kernel
theorem dX10_most_42 : decode cX10_most 42 = .ok (.sipush 1000, 3) := by decide +kernel
theorem dX10_most_45 : decode cX10_most 45 = .ok (.ireturn, 1) := by decide +kernel
theorem dX10_most_46 : decode cX10_most 46 = .ok (.iconst 5, 1) := by decide +kernel
theorem dX10_most_47 : decode cX10_most 47 = .ok (.ireturn, 1) := by decide +kernel
set_option maxRecDepth 20000 in
theorem ggX10_isSetting_X10_in : GoodIn wsX10_isSetting wsX10_in := goodIn_r _ [4] (by decide +kernel) (by decide +kernel)
set_option maxRecDepth 20000 in
theorem gX10_isSetting_X10_in : GoodIn wsX10_isSetting (va_wsS RX10 47 yX10_in wsX10_in) := goodIn_app (goodIn_of _ (by decide +kernel)) ggX10_isSetting_X10_in
theorem dX10_isSetting_0 : decode cX10_isSetting 0 = .ok (.iload_n 0, 1) := by decide +kernel
theorem dX10_isSetting_1 : decode cX10_isSetting 1 = .ok (.iconst 0, 1) := by decide +kernel
theorem dX10_isSetting_2 : decode cX10_isSetting 2 = .ok (.iconst 4, 1) := by decide +kernel
theorem dX10_isSetting_3 : decode cX10_isSetting 3 = .ok (.invokestatic 47, 3) := by decide +kernel
theorem dX10_isSetting_6 : decode cX10_isSetting 6 = .ok (.ireturn, 1) := by decide +kernel
set_option maxRecDepth 20000 in
theorem ggX10_set_X10_isSetting : GoodIn wsX10_set wsX10_isSetting := goodIn_r _ [4, 5, 6, 3, 7] (by decide +kernel) (by decide +kernel)
set_option maxRecDepth 20000 in
theorem gX10_set_X10_isSetting : GoodIn wsX10_set (va_wsS RX10 147 yX10_isSetting wsX10_isSetting) := goodIn_app (goodIn_of _ (by decide +kernel)) ggX10_set_X10_isSetting
set_option maxRecDepth 20000 in
theorem ggX10_set_X10_most : GoodIn wsX10_set wsX10_most := goodIn_r _ [10] (by decide +kernel) (by decide +kernel)
set_option maxRecDepth 20000 in
theorem gX10_set_X10_most : GoodIn wsX10_set (va_wsS RX10 150 yX10_most wsX10_most) := goodIn_app (goodIn_of _ (by decide +kernel)) ggX10_set_X10_most
set_option maxRecDepth 20000 in
theorem ggX10_set_X10_in : GoodIn wsX10_set wsX10_in := goodIn_r _ [7] (by decide +kernel) (by decide +kernel)
set_option maxRecDepth 20000 in
theorem gX10_set_X10_in : GoodIn wsX10_set (va_wsS RX10 47 yX10_in wsX10_in) := goodIn_app (goodIn_of _ (by decide +kernel)) ggX10_set_X10_in
set_option maxRecDepth 20000 in
theorem ggX10_set_X10_holds : GoodIn wsX10_set wsX10_holds := goodIn_r _ [14, 15, 30, 31, 32, 33, 34, 35, 36, 37, 38, 39, 40, 41, 42, 43, 44, 45, 46, 47, 48, 49] (by decide +kernel) (by decide +kernel)
set_option maxRecDepth 20000 in
theorem gX10_set_X10_holds : GoodIn wsX10_set (wsV RX10 132 RX10 yX10_holds wsX10_holds) := goodIn_app (goodIn_of _ (by decide +kernel)) ggX10_set_X10_holds
set_option maxRecDepth 20000 in
theorem ggX10_set_X10_changed : GoodIn wsX10_set wsX10_changed := goodIn_r _ [19, 20, 21, 22, 23, 3, 24, 25, 26, 27, 28, 29, 30, 31, 32, 33, 34, 35, 36, 37, 38, 39, 40, 41, 42, 43, 44, 45, 46, 47, 48, 49] (by decide +kernel) (by decide +kernel)
set_option maxRecDepth 20000 in
theorem gX10_set_X10_changed : GoodIn wsX10_set (wsV RX10 135 RX10 yX10_changed wsX10_changed) := goodIn_app (goodIn_of _ (by decide +kernel)) ggX10_set_X10_changed
theorem dX10_set_0 : decode cX10_set 0 = .ok (.iload_n 1, 1) := by decide +kernel
theorem dX10_set_1 : decode cX10_set 1 = .ok (.invokestatic 147, 3) := by decide +kernel
theorem dX10_set_4 : decode cX10_set 4 = .ok (.istore_n 3, 1) := by decide +kernel
theorem dX10_set_5 : decode cX10_set 5 = .ok (.aload_n 0, 1) := by decide +kernel
theorem dX10_set_6 : decode cX10_set 6 = .ok (.iload_n 3, 1) := by decide +kernel
theorem dX10_set_7 : decode cX10_set 7 = .ok (.ifCond .ne 7, 3) := by decide +kernel
theorem dX10_set_10 : decode cX10_set 10 = .ok (.iconst 1, 1) := by decide +kernel
theorem dX10_set_11 : decode cX10_set 11 = .ok (.goto 29, 3) := by decide +kernel
theorem dX10_set_14 : decode cX10_set 14 = .ok (.iload_n 2, 1) := by decide +kernel
theorem dX10_set_15 : decode cX10_set 15 = .ok (.iload_n 1, 1) := by decide +kernel
theorem dX10_set_16 : decode cX10_set 16 = .ok (.iconst 4, 1) := by decide +kernel
theorem dX10_set_17 : decode cX10_set 17 = .ok (.if_icmp .ne 7, 3) := by decide +kernel
theorem dX10_set_20 : decode cX10_set 20 = .ok (.iconst 0, 1) := by decide +kernel
theorem dX10_set_21 : decode cX10_set 21 = .ok (.goto 4, 3) := by decide +kernel
theorem dX10_set_24 : decode cX10_set 24 = .ok (.iconst 1, 1) := by decide +kernel
theorem dX10_set_25 : decode cX10_set 25 = .ok (.iload_n 1, 1) := by decide +kernel
theorem dX10_set_26 : decode cX10_set 26 = .ok (.invokestatic 150, 3) := by decide +kernel
theorem dX10_set_29 : decode cX10_set 29 = .ok (.invokestatic 47, 3) := by decide +kernel
theorem dX10_set_32 : decode cX10_set 32 = .ok (.ifCond .ne 7, 3) := by decide +kernel
theorem dX10_set_35 : decode cX10_set 35 = .ok (.iconst 2, 1) := by decide +kernel
theorem dX10_set_36 : decode cX10_set 36 = .ok (.goto 4, 3) := by decide +kernel
theorem dX10_set_39 : decode cX10_set 39 = .ok (.iconst 0, 1) := by decide +kernel
theorem dX10_set_40 : decode cX10_set 40 = .ok (.invokevirtual 132, 3) := by decide +kernel
theorem dX10_set_43 : decode cX10_set 43 = .ok (.ifCond .eq 15, 3) := by decide +kernel
theorem dX10_set_46 : decode cX10_set 46 = .ok (.aload_n 0, 1) := by decide +kernel
theorem dX10_set_47 : decode cX10_set 47 = .ok (.bipush 96, 2) := by decide +kernel
theorem dX10_set_49 : decode cX10_set 49 = .ok (.iload_n 1, 1) := by decide +kernel
theorem dX10_set_50 : decode cX10_set 50 = .ok (.iadd, 1) := by decide +kernel
theorem dX10_set_51 : decode cX10_set 51 = .ok (.iload_n 2, 1) := by decide +kernel
theorem dX10_set_52 : decode cX10_set 52 = .ok (.invokevirtual 135, 3) := by decide +kernel
theorem dX10_set_55 : decode cX10_set 55 = .ok (.goto 4, 3) := by decide +kernel
theorem dX10_set_58 : decode cX10_set 58 = .ok (.iconst 0, 1) := by decide +kernel
theorem dX10_set_59 : decode cX10_set 59 = .ok (.ireturn, 1) := by decide +kernel
set_option maxRecDepth 20000 in
theorem ggX10_scan_X10_keeps : GoodIn wsX10_scan wsX10_keeps := goodIn_r _ [6, 7, 8, 9, 10, 5, 11, 12, 105, 106, 107, 108, 109, 110, 111, 112, 113, 114, 115, 116, 117, 118, 119, 120, 121, 122, 123, 124] (by decide +kernel) (by decide +kernel)
set_option maxRecDepth 20000 in
theorem gX10_scan_X10_keeps : GoodIn wsX10_scan (wsV RX10 125 RX10 yX10_keeps wsX10_keeps) := goodIn_app (goodIn_of _ (by decide +kernel)) ggX10_scan_X10_keeps
set_option maxRecDepth 20000 in
theorem ggX10_scan_X10_scans : GoodIn wsX10_scan wsX10_scans := goodIn_r _ [16, 17, 12, 18, 19, 20, 21, 5, 22, 23, 24, 25, 26, 27, 28, 29, 30, 31, 32, 33, 34, 35, 36, 37, 38, 39, 40, 41, 42, 43, 44, 45, 46, 47, 48, 49, 50, 51, 52, 53, 54, 55, 56, 57, 58, 59, 60, 61, 62, 63, 64, 65, 66, 67, 68, 69, 70, 71, 72, 73, 74, 75, 76, 77, 78, 79, 80, 81, 82, 83, 84, 85, 86, 87, 88, 89, 90, 91, 92, 93, 94, 95, 96, 97, 98, 99, 100, 101, 102, 103, 104, 105, 106, 107, 108, 109, 110, 111, 112, 113, 114, 115, 116, 117, 118, 119, 120, 121, 122, 123, 124] (by decide +kernel) (by decide +kernel)
set_option maxRecDepth 20000 in
theorem gX10_scan_X10_scans : GoodIn wsX10_scan (wsV RX10 153 RX10 yX10_scans wsX10_scans) := goodIn_app (goodIn_of _ (by decide +kernel)) ggX10_scan_X10_scans
theorem dX10_scan_0 : decode cX10_scan 0 = .ok (.aload_n 0, 1) := by decide +kernel
theorem dX10_scan_1 : decode cX10_scan 1 = .ok (.iconst 0, 1) := by decide +kernel
theorem dX10_scan_2 : decode cX10_scan 2 = .ok (.putfield 43, 3) := by decide +kernel
theorem dX10_scan_5 : decode cX10_scan 5 = .ok (.aload_n 0, 1) := by decide +kernel
theorem dX10_scan_6 : decode cX10_scan 6 = .ok (.invokevirtual 125, 3) := by decide +kernel
theorem dX10_scan_9 : decode cX10_scan 9 = .ok (.aload_n 0, 1) := by decide +kernel
theorem dX10_scan_10 : decode cX10_scan 10 = .ok (.invokevirtual 153, 3) := by decide +kernel
theorem dX10_scan_13 : decode cX10_scan 13 = .ok (.ireturn, 1) := by decide +kernel
set_option maxRecDepth 20000 in
theorem ggX10_appendText_X10_in : GoodIn wsX10_appendText wsX10_in := goodIn_r _ [6] (by decide +kernel) (by decide +kernel)
set_option maxRecDepth 20000 in
theorem gX10_appendText_X10_in : GoodIn wsX10_appendText (va_wsS RX10 47 yX10_in wsX10_in) := goodIn_app (goodIn_of _ (by decide +kernel)) ggX10_appendText_X10_in
set_option maxRecDepth 20000 in
theorem ggX10_appendText_X10_holds : GoodIn wsX10_appendText wsX10_holds := goodIn_r _ [10, 11, 12, 13, 14, 15, 16, 17, 18, 19, 20, 21, 22, 23, 24, 25, 26, 27, 28, 29, 30, 31] (by decide +kernel) (by decide +kernel)
set_option maxRecDepth 20000 in
theorem gX10_appendText_X10_holds : GoodIn wsX10_appendText (wsV RX10 132 RX10 yX10_holds wsX10_holds) := goodIn_app (goodIn_of _ (by decide +kernel)) ggX10_appendText_X10_holds
theorem dX10_appendText_0 : decode cX10_appendText 0 = .ok (.aload_n 0, 1) := by decide +kernel
theorem dX10_appendText_1 : decode cX10_appendText 1 = .ok (.iload_n 1, 1) := by decide +kernel
theorem dX10_appendText_2 : decode cX10_appendText 2 = .ok (.bipush 32, 2) := by decide +kernel
theorem dX10_appendText_4 : decode cX10_appendText 4 = .ok (.bipush 126, 2) := by decide +kernel
theorem dX10_appendText_6 : decode cX10_appendText 6 = .ok (.invokestatic 47, 3) := by decide +kernel
theorem dX10_appendText_9 : decode cX10_appendText 9 = .ok (.ifCond .ne 7, 3) := by decide +kernel
theorem dX10_appendText_12 : decode cX10_appendText 12 = .ok (.iconst 1, 1) := by decide +kernel
theorem dX10_appendText_13 : decode cX10_appendText 13 = .ok (.goto 17, 3) := by decide +kernel
theorem dX10_appendText_16 : decode cX10_appendText 16 = .ok (.aload_n 0, 1) := by decide +kernel
theorem dX10_appendText_17 : decode cX10_appendText 17 = .ok (.getfield 156, 3) := by decide +kernel
theorem dX10_appendText_20 : decode cX10_appendText 20 = .ok (.bipush 80, 2) := by decide +kernel
theorem dX10_appendText_22 : decode cX10_appendText 22 = .ok (.if_icmp .ne 7, 3) := by decide +kernel
theorem dX10_appendText_25 : decode cX10_appendText 25 = .ok (.iconst 2, 1) := by decide +kernel
theorem dX10_appendText_26 : decode cX10_appendText 26 = .ok (.goto 4, 3) := by decide +kernel
theorem dX10_appendText_29 : decode cX10_appendText 29 = .ok (.iconst 0, 1) := by decide +kernel
theorem dX10_appendText_30 : decode cX10_appendText 30 = .ok (.invokevirtual 132, 3) := by decide +kernel
theorem dX10_appendText_33 : decode cX10_appendText 33 = .ok (.ifCond .ne 5, 3) := by decide +kernel
theorem dX10_appendText_36 : decode cX10_appendText 36 = .ok (.iconst 0, 1) := by decide +kernel
theorem dX10_appendText_37 : decode cX10_appendText 37 = .ok (.ireturn, 1) := by decide +kernel
theorem dX10_appendText_38 : decode cX10_appendText 38 = .ok (.aload_n 0, 1) := by decide +kernel
theorem dX10_appendText_39 : decode cX10_appendText 39 = .ok (.getfield 13, 3) := by decide +kernel
theorem dX10_appendText_42 : decode cX10_appendText 42 = .ok (.aload_n 0, 1) := by decide +kernel
theorem dX10_appendText_43 : decode cX10_appendText 43 = .ok (.getfield 156, 3) := by decide +kernel
theorem dX10_appendText_46 : decode cX10_appendText 46 = .ok (.iload_n 1, 1) := by decide +kernel
theorem dX10_appendText_47 : decode cX10_appendText 47 = .ok (.iastore, 1) := by decide +kernel
theorem dX10_appendText_48 : decode cX10_appendText 48 = .ok (.aload_n 0, 1) := by decide +kernel
theorem dX10_appendText_49 : decode cX10_appendText 49 = .ok (.dup, 1) := by decide +kernel
theorem dX10_appendText_50 : decode cX10_appendText 50 = .ok (.getfield 156, 3) := by decide +kernel
theorem dX10_appendText_53 : decode cX10_appendText 53 = .ok (.iconst 1, 1) := by decide +kernel
theorem dX10_appendText_54 : decode cX10_appendText 54 = .ok (.iadd, 1) := by decide +kernel
theorem dX10_appendText_55 : decode cX10_appendText 55 = .ok (.putfield 156, 3) := by decide +kernel
theorem dX10_appendText_58 : decode cX10_appendText 58 = .ok (.aload_n 0, 1) := by decide +kernel
theorem dX10_appendText_59 : decode cX10_appendText 59 = .ok (.getfield 156, 3) := by decide +kernel
theorem dX10_appendText_62 : decode cX10_appendText 62 = .ok (.ireturn, 1) := by decide +kernel
theorem dX10_clearText_0 : decode cX10_clearText 0 = .ok (.aload_n 0, 1) := by decide +kernel
theorem dX10_clearText_1 : decode cX10_clearText 1 = .ok (.iconst 0, 1) := by decide +kernel
theorem dX10_clearText_2 : decode cX10_clearText 2 = .ok (.putfield 43, 3) := by decide +kernel
theorem dX10_clearText_5 : decode cX10_clearText 5 = .ok (.aload_n 0, 1) := by decide +kernel
theorem dX10_clearText_6 : decode cX10_clearText 6 = .ok (.getfield 156, 3) := by decide +kernel
theorem dX10_clearText_9 : decode cX10_clearText 9 = .ok (.istore_n 1, 1) := by decide +kernel
theorem dX10_clearText_10 : decode cX10_clearText 10 = .ok (.aload_n 0, 1) := by decide +kernel
theorem dX10_clearText_11 : decode cX10_clearText 11 = .ok (.iconst 0, 1) := by decide +kernel
theorem dX10_clearText_12 : decode cX10_clearText 12 = .ok (.putfield 156, 3) := by decide +kernel
theorem dX10_clearText_15 : decode cX10_clearText 15 = .ok (.iload_n 1, 1) := by decide +kernel
theorem dX10_clearText_16 : decode cX10_clearText 16 = .ok (.ireturn, 1) := by decide +kernel
theorem dX10_sign_0 : decode cX10_sign 0 = .ok (.aload_n 0, 1) := by decide +kernel
theorem dX10_sign_1 : decode cX10_sign 1 = .ok (.getfield 159, 3) := by decide +kernel
theorem dX10_sign_4 : decode cX10_sign 4 = .ok (.aload_n 0, 1) := by decide +kernel
theorem dX10_sign_5 : decode cX10_sign 5 = .ok (.getfield 156, 3) := by decide +kernel
theorem dX10_sign_8 : decode cX10_sign 8 = .ok (.if_icmp .ge 15, 3) := by decide +kernel
theorem dX10_sign_11 : decode cX10_sign 11 = .ok (.aload_n 0, 1) := by decide +kernel
theorem dX10_sign_12 : decode cX10_sign 12 = .ok (.getfield 13, 3) := by decide +kernel
theorem dX10_sign_15 : decode cX10_sign 15 = .ok (.aload_n 0, 1) := by decide +kernel
theorem dX10_sign_16 : decode cX10_sign 16 = .ok (.getfield 159, 3) := by decide +kernel
theorem dX10_sign_19 : decode cX10_sign 19 = .ok (.iaload, 1) := by decide +kernel
theorem dX10_sign_20 : decode cX10_sign 20 = .ok (.goto 4, 3) := by decide +kernel
theorem dX10_sign_23 : decode cX10_sign 23 = .ok (.iconst 0, 1) := by decide +kernel
theorem dX10_sign_24 : decode cX10_sign 24 = .ok (.ireturn, 1) := by decide +kernel
set_option maxRecDepth 20000 in
theorem ggX10_takes_X10_sign : GoodIn wsX10_takes wsX10_sign := goodIn_r _ [6, 1, 7, 8, 9, 10, 11, 12, 13, 14, 15, 16, 17, 18, 19, 20, 21, 22, 23, 24, 25, 26, 27, 28] (by decide +kernel) (by decide +kernel)
set_option maxRecDepth 20000 in
theorem gX10_takes_X10_sign : GoodIn wsX10_takes (wsV RX10 162 RX10 yX10_sign wsX10_sign) := goodIn_app (goodIn_of _ (by decide +kernel)) ggX10_takes_X10_sign
theorem dX10_takes_0 : decode cX10_takes 0 = .ok (.aload_n 0, 1) := by decide +kernel
theorem dX10_takes_1 : decode cX10_takes 1 = .ok (.invokevirtual 162, 3) := by decide +kernel
theorem dX10_takes_4 : decode cX10_takes 4 = .ok (.iload_n 1, 1) := by decide +kernel
theorem dX10_takes_5 : decode cX10_takes 5 = .ok (.if_icmp .ne 7, 3) := by decide +kernel
theorem dX10_takes_8 : decode cX10_takes 8 = .ok (.iconst 1, 1) := by decide +kernel
theorem dX10_takes_9 : decode cX10_takes 9 = .ok (.goto 4, 3) := by decide +kernel
theorem dX10_takes_12 : decode cX10_takes 12 = .ok (.iconst 0, 1) := by decide +kernel
theorem dX10_takes_13 : decode cX10_takes 13 = .ok (.istore_n 2, 1) := by decide +kernel
theorem dX10_takes_14 : decode cX10_takes 14 = .ok (.aload_n 0, 1) := by decide +kernel
theorem dX10_takes_15 : decode cX10_takes 15 = .ok (.dup, 1) := by decide +kernel
theorem dX10_takes_16 : decode cX10_takes 16 = .ok (.getfield 159, 3) := by decide +kernel
theorem dX10_takes_19 : decode cX10_takes 19 = .ok (.iload_n 2, 1) := by decide +kernel
theorem dX10_takes_20 : decode cX10_takes 20 = .ok (.ifCond .eq 7, 3) := by decide +kernel
theorem dX10_takes_23 : decode cX10_takes 23 = .ok (.iconst 1, 1) := by decide +kernel
theorem dX10_takes_24 : decode cX10_takes 24 = .ok (.goto 4, 3) := by decide +kernel
theorem dX10_takes_27 : decode cX10_takes 27 = .ok (.iconst 0, 1) := by decide +kernel
theorem dX10_takes_28 : decode cX10_takes 28 = .ok (.iadd, 1) := by decide +kernel
theorem dX10_takes_29 : decode cX10_takes 29 = .ok (.putfield 159, 3) := by decide +kernel
theorem dX10_takes_32 : decode cX10_takes 32 = .ok (.iload_n 2, 1) := by decide +kernel
theorem dX10_takes_33 : decode cX10_takes 33 = .ok (.ireturn, 1) := by decide +kernel
set_option maxRecDepth 20000 in
theorem ggX10_readsForce_X10_sign : GoodIn wsX10_readsForce wsX10_sign := goodIn_r _ [7, 2, 8, 9, 13, 14, 15, 16, 17, 18, 19, 20, 21, 22, 23, 24, 25, 26, 27, 28, 29, 30, 31, 32] (by decide +kernel) (by decide +kernel)
set_option maxRecDepth 20000 in
theorem gX10_readsForce_X10_sign : GoodIn wsX10_readsForce (wsV RX10 162 RX10 yX10_sign wsX10_sign) := goodIn_app (goodIn_of _ (by decide +kernel)) ggX10_readsForce_X10_sign
set_option maxRecDepth 20000 in
theorem ggX10_readsForce_X10_in : GoodIn wsX10_readsForce wsX10_in := goodIn_r _ [12] (by decide +kernel) (by decide +kernel)
set_option maxRecDepth 20000 in
theorem gX10_readsForce_X10_in : GoodIn wsX10_readsForce (va_wsS RX10 47 yX10_in wsX10_in) := goodIn_app (goodIn_of _ (by decide +kernel)) ggX10_readsForce_X10_in
theorem dX10_readsForce_0 : decode cX10_readsForce 0 = .ok (.aload_n 0, 1) := by decide +kernel
theorem dX10_readsForce_1 : decode cX10_readsForce 1 = .ok (.invokevirtual 162, 3) := by decide +kernel
theorem dX10_readsForce_4 : decode cX10_readsForce 4 = .ok (.bipush 49, 2) := by decide +kernel
theorem dX10_readsForce_6 : decode cX10_readsForce 6 = .ok (.bipush 57, 2) := by decide +kernel
theorem dX10_readsForce_8 : decode cX10_readsForce 8 = .ok (.invokestatic 47, 3) := by decide +kernel
