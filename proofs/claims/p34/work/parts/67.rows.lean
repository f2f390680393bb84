theorem dL_acts_347 : decode cL_acts 347 = .ok (.iload 4, 2) := by decide +kernel
theorem dL_acts_349 : decode cL_acts 349 = .ok (.iconst 1, 1) := by decide +kernel
theorem dL_acts_350 : decode cL_acts 350 = .ok (.iload_n 2, 1) := by decide +kernel
theorem dL_acts_351 : decode cL_acts 351 = .ok (.bipush 6, 2) := by decide +kernel
theorem dL_acts_353 : decode cL_acts 353 = .ok (.ishr, 1) := by decide +kernel
theorem dL_acts_354 : decode cL_acts 354 = .ok (.sipush 255, 3) := by decide +kernel
theorem dL_acts_357 : decode cL_acts 357 = .ok (.invokestatic 44, 3) := by decide +kernel
theorem dL_acts_360 : decode cL_acts 360 = .ok (.iadd, 1) := by decide +kernel
theorem dL_acts_361 : decode cL_acts 361 = .ok (.invokestatic 70, 3) := by decide +kernel
theorem dL_acts_364 : decode cL_acts 364 = .ok (.ireturn, 1) := by decide +kernel
theorem dL_presses_0 : decode cL_presses 0 = .ok (.bipush 48, 2) := by decide +kernel
theorem dL_presses_2 : decode cL_presses 2 = .ok (.newarray .int, 2) := by decide +kernel
theorem dL_presses_4 : decode cL_presses 4 = .ok (.astore 4, 2) := by decide +kernel
theorem dL_presses_6 : decode cL_presses 6 = .ok (.iconst 0, 1) := by decide +kernel
theorem dL_presses_7 : decode cL_presses 7 = .ok (.istore 5, 2) := by decide +kernel
theorem dL_presses_9 : decode cL_presses 9 = .ok (.iload 5, 2) := by decide +kernel
theorem dL_presses_11 : decode cL_presses 11 = .ok (.bipush 48, 2) := by decide +kernel
theorem dL_presses_13 : decode cL_presses 13 = .ok (.if_icmp .ge 28, 3) := by decide +kernel
theorem dL_presses_16 : decode cL_presses 16 = .ok (.aload 4, 2) := by decide +kernel
theorem dL_presses_18 : decode cL_presses 18 = .ok (.iload 5, 2) := by decide +kernel
theorem dL_presses_20 : decode cL_presses 20 = .ok (.aload_n 0, 1) := by decide +kernel
theorem dL_presses_21 : decode cL_presses 21 = .ok (.iload 5, 2) := by decide +kernel
theorem dL_presses_23 : decode cL_presses 23 = .ok (.bipush 6, 2) := by decide +kernel
theorem dL_presses_25 : decode cL_presses 25 = .ok (.idiv, 1) := by decide +kernel
theorem dL_presses_26 : decode cL_presses 26 = .ok (.iload 5, 2) := by decide +kernel
theorem dL_presses_28 : decode cL_presses 28 = .ok (.bipush 6, 2) := by decide +kernel
theorem dL_presses_30 : decode cL_presses 30 = .ok (.irem, 1) := by decide +kernel
theorem dL_presses_31 : decode cL_presses 31 = .ok (.invokevirtual 26, 3) := by decide +kernel
theorem dL_presses_34 : decode cL_presses 34 = .ok (.iastore, 1) := by decide +kernel
theorem dL_presses_35 : decode cL_presses 35 = .ok (.iinc 5 1, 3) := by decide +kernel
theorem dL_presses_38 : decode cL_presses 38 = .ok (.goto (-29), 3) := by decide +kernel
theorem dL_presses_41 : decode cL_presses 41 = .ok (.aload_n 0, 1) := by decide +kernel
theorem dL_presses_42 : decode cL_presses 42 = .ok (.iload_n 1, 1) := by decide +kernel
theorem dL_presses_43 : decode cL_presses 43 = .ok (.iload_n 2, 1) := by decide +kernel
theorem dL_presses_44 : decode cL_presses 44 = .ok (.iload_n 3, 1) := by decide +kernel
theorem dL_presses_45 : decode cL_presses 45 = .ok (.invokevirtual 74, 3) := by decide +kernel
theorem dL_presses_48 : decode cL_presses 48 = .ok (.aload_n 0, 1) := by decide +kernel
theorem dL_presses_49 : decode cL_presses 49 = .ok (.iload_n 1, 1) := by decide +kernel
theorem dL_presses_50 : decode cL_presses 50 = .ok (.iload_n 2, 1) := by decide +kernel
theorem dL_presses_51 : decode cL_presses 51 = .ok (.invokevirtual 26, 3) := by decide +kernel
theorem dL_presses_54 : decode cL_presses 54 = .ok (.if_icmp .ne 7, 3) := by decide +kernel
theorem dL_presses_57 : decode cL_presses 57 = .ok (.iconst 1, 1) := by decide +kernel
theorem dL_presses_58 : decode cL_presses 58 = .ok (.goto 4, 3) := by decide +kernel
theorem dL_presses_61 : decode cL_presses 61 = .ok (.iconst 0, 1) := by decide +kernel
theorem dL_presses_62 : decode cL_presses 62 = .ok (.istore 5, 2) := by decide +kernel
theorem dL_presses_64 : decode cL_presses 64 = .ok (.iconst 0, 1) := by decide +kernel
theorem dL_presses_65 : decode cL_presses 65 = .ok (.istore 6, 2) := by decide +kernel
theorem dL_presses_67 : decode cL_presses 67 = .ok (.iload 6, 2) := by decide +kernel
theorem dL_presses_69 : decode cL_presses 69 = .ok (.bipush 48, 2) := by decide +kernel
theorem dL_presses_71 : decode cL_presses 71 = .ok (.if_icmp .ge 174, 3) := by decide +kernel
theorem dL_presses_74 : decode cL_presses 74 = .ok (.iload 6, 2) := by decide +kernel
theorem dL_presses_76 : decode cL_presses 76 = .ok (.bipush 6, 2) := by decide +kernel
theorem dL_presses_78 : decode cL_presses 78 = .ok (.idiv, 1) := by decide +kernel
theorem dL_presses_79 : decode cL_presses 79 = .ok (.iload_n 1, 1) := by decide +kernel
theorem dL_presses_80 : decode cL_presses 80 = .ok (.if_icmp .le 13, 3) := by decide +kernel
theorem dL_presses_83 : decode cL_presses 83 = .ok (.iload 6, 2) := by decide +kernel
theorem dL_presses_85 : decode cL_presses 85 = .ok (.bipush 6, 2) := by decide +kernel
theorem dL_presses_87 : decode cL_presses 87 = .ok (.idiv, 1) := by decide +kernel
theorem dL_presses_88 : decode cL_presses 88 = .ok (.iload_n 1, 1) := by decide +kernel
theorem dL_presses_89 : decode cL_presses 89 = .ok (.isub, 1) := by decide +kernel
theorem dL_presses_90 : decode cL_presses 90 = .ok (.goto 10, 3) := by decide +kernel
theorem dL_presses_93 : decode cL_presses 93 = .ok (.iload_n 1, 1) := by decide +kernel
theorem dL_presses_94 : decode cL_presses 94 = .ok (.iload 6, 2) := by decide +kernel
theorem dL_presses_96 : decode cL_presses 96 = .ok (.bipush 6, 2) := by decide +kernel
theorem dL_presses_98 : decode cL_presses 98 = .ok (.idiv, 1) := by decide +kernel
theorem dL_presses_99 : decode cL_presses 99 = .ok (.isub, 1) := by decide +kernel
theorem dL_presses_100 : decode cL_presses 100 = .ok (.istore 7, 2) := by decide +kernel
theorem dL_presses_102 : decode cL_presses 102 = .ok (.iload 6, 2) := by decide +kernel
theorem dL_presses_104 : decode cL_presses 104 = .ok (.bipush 6, 2) := by decide +kernel
theorem dL_presses_106 : decode cL_presses 106 = .ok (.irem, 1) := by decide +kernel
theorem dL_presses_107 : decode cL_presses 107 = .ok (.iload_n 2, 1) := by decide +kernel
theorem dL_presses_108 : decode cL_presses 108 = .ok (.if_icmp .le 13, 3) := by decide +kernel
theorem dL_presses_111 : decode cL_presses 111 = .ok (.iload 6, 2) := by decide +kernel
theorem dL_presses_113 : decode cL_presses 113 = .ok (.bipush 6, 2) := by decide +kernel
theorem dL_presses_115 : decode cL_presses 115 = .ok (.irem, 1) := by decide +kernel
theorem dL_presses_116 : decode cL_presses 116 = .ok (.iload_n 2, 1) := by decide +kernel
theorem dL_presses_117 : decode cL_presses 117 = .ok (.isub, 1) := by decide +kernel
theorem dL_presses_118 : decode cL_presses 118 = .ok (.goto 10, 3) := by decide +kernel
theorem dL_presses_121 : decode cL_presses 121 = .ok (.iload_n 2, 1) := by decide +kernel
theorem dL_presses_122 : decode cL_presses 122 = .ok (.iload 6, 2) := by decide +kernel
theorem dL_presses_124 : decode cL_presses 124 = .ok (.bipush 6, 2) := by decide +kernel
theorem dL_presses_126 : decode cL_presses 126 = .ok (.irem, 1) := by decide +kernel
theorem dL_presses_127 : decode cL_presses 127 = .ok (.isub, 1) := by decide +kernel
theorem dL_presses_128 : decode cL_presses 128 = .ok (.istore 8, 2) := by decide +kernel
theorem dL_presses_130 : decode cL_presses 130 = .ok (.iload 7, 2) := by decide +kernel
theorem dL_presses_132 : decode cL_presses 132 = .ok (.iconst 1, 1) := by decide +kernel
theorem dL_presses_133 : decode cL_presses 133 = .ok (.if_icmp .gt 9, 3) := by decide +kernel
theorem dL_presses_136 : decode cL_presses 136 = .ok (.iload 8, 2) := by decide +kernel
theorem dL_presses_138 : decode cL_presses 138 = .ok (.iconst 1, 1) := by decide +kernel
theorem dL_presses_139 : decode cL_presses 139 = .ok (.if_icmp .le 7, 3) := by decide +kernel
theorem dL_presses_142 : decode cL_presses 142 = .ok (.iconst 0, 1) := by decide +kernel
theorem dL_presses_143 : decode cL_presses 143 = .ok (.goto 33, 3) := by decide +kernel
theorem dL_presses_146 : decode cL_presses 146 = .ok (.iload 7, 2) := by decide +kernel
theorem dL_presses_148 : decode cL_presses 148 = .ok (.iload 8, 2) := by decide +kernel
theorem dL_presses_150 : decode cL_presses 150 = .ok (.iadd, 1) := by decide +kernel
theorem dL_presses_151 : decode cL_presses 151 = .ok (.ifCond .ne 7, 3) := by decide +kernel
theorem dL_presses_154 : decode cL_presses 154 = .ok (.iload_n 3, 1) := by decide +kernel
theorem dL_presses_155 : decode cL_presses 155 = .ok (.goto 21, 3) := by decide +kernel
theorem dL_presses_158 : decode cL_presses 158 = .ok (.iload 7, 2) := by decide +kernel
theorem dL_presses_160 : decode cL_presses 160 = .ok (.iload 8, 2) := by decide +kernel
theorem dL_presses_162 : decode cL_presses 162 = .ok (.iadd, 1) := by decide +kernel
theorem dL_presses_163 : decode cL_presses 163 = .ok (.iconst 1, 1) := by decide +kernel
theorem dL_presses_164 : decode cL_presses 164 = .ok (.if_icmp .ne 9, 3) := by decide +kernel
theorem dL_presses_167 : decode cL_presses 167 = .ok (.iload_n 3, 1) := by decide +kernel
theorem dL_presses_168 : decode cL_presses 168 = .ok (.iconst 2, 1) := by decide +kernel
theorem dL_presses_169 : decode cL_presses 169 = .ok (.idiv, 1) := by decide +kernel
theorem dL_presses_170 : decode cL_presses 170 = .ok (.goto 6, 3) := by decide +kernel
theorem dL_presses_173 : decode cL_presses 173 = .ok (.iload_n 3, 1) := by decide +kernel
theorem dL_presses_174 : decode cL_presses 174 = .ok (.iconst 4, 1) := by decide +kernel
theorem dL_presses_175 : decode cL_presses 175 = .ok (.idiv, 1) := by decide +kernel
theorem dL_presses_176 : decode cL_presses 176 = .ok (.istore 9, 2) := by decide +kernel
theorem dL_presses_178 : decode cL_presses 178 = .ok (.aload_n 0, 1) := by decide +kernel
theorem dL_presses_179 : decode cL_presses 179 = .ok (.iload 6, 2) := by decide +kernel
theorem dL_presses_181 : decode cL_presses 181 = .ok (.bipush 6, 2) := by decide +kernel
theorem dL_presses_183 : decode cL_presses 183 = .ok (.idiv, 1) := by decide +kernel
theorem dL_presses_184 : decode cL_presses 184 = .ok (.iload 6, 2) := by decide +kernel
theorem dL_presses_186 : decode cL_presses 186 = .ok (.bipush 6, 2) := by decide +kernel
theorem dL_presses_188 : decode cL_presses 188 = .ok (.irem, 1) := by decide +kernel
theorem dL_presses_189 : decode cL_presses 189 = .ok (.invokevirtual 26, 3) := by decide +kernel
theorem dL_presses_192 : decode cL_presses 192 = .ok (.istore 10, 2) := by decide +kernel
theorem dL_presses_194 : decode cL_presses 194 = .ok (.iload 5, 2) := by decide +kernel
theorem dL_presses_196 : decode cL_presses 196 = .ok (.ifCond .eq 40, 3) := by decide +kernel
theorem dL_presses_199 : decode cL_presses 199 = .ok (.iload 10, 2) := by decide +kernel
theorem dL_presses_201 : decode cL_presses 201 = .ok (.aload 4, 2) := by decide +kernel
theorem dL_presses_203 : decode cL_presses 203 = .ok (.iload 6, 2) := by decide +kernel
theorem dL_presses_205 : decode cL_presses 205 = .ok (.iaload, 1) := by decide +kernel
theorem dL_presses_206 : decode cL_presses 206 = .ok (.iload 9, 2) := by decide +kernel
theorem dL_presses_208 : decode cL_presses 208 = .ok (.iadd, 1) := by decide +kernel
theorem dL_presses_209 : decode cL_presses 209 = .ok (.sipush 255, 3) := by decide +kernel
theorem dL_presses_212 : decode cL_presses 212 = .ok (.if_icmp .le 9, 3) := by decide +kernel
theorem dL_presses_215 : decode cL_presses 215 = .ok (.sipush 255, 3) := by decide +kernel
theorem dL_presses_218 : decode cL_presses 218 = .ok (.goto 11, 3) := by decide +kernel
theorem dL_presses_221 : decode cL_presses 221 = .ok (.aload 4, 2) := by decide +kernel
theorem dL_presses_223 : decode cL_presses 223 = .ok (.iload 6, 2) := by decide +kernel
theorem dL_presses_225 : decode cL_presses 225 = .ok (.iaload, 1) := by decide +kernel
theorem dL_presses_226 : decode cL_presses 226 = .ok (.iload 9, 2) := by decide +kernel
theorem dL_presses_228 : decode cL_presses 228 = .ok (.iadd, 1) := by decide +kernel
theorem dL_presses_229 : decode cL_presses 229 = .ok (.if_icmp .ne 7, 3) := by decide +kernel
theorem dL_presses_232 : decode cL_presses 232 = .ok (.iconst 1, 1) := by decide +kernel
theorem dL_presses_233 : decode cL_presses 233 = .ok (.goto 4, 3) := by decide +kernel
theorem dL_presses_236 : decode cL_presses 236 = .ok (.iconst 0, 1) := by decide +kernel
theorem dL_presses_237 : decode cL_presses 237 = .ok (.istore 5, 2) := by decide +kernel
theorem dL_presses_239 : decode cL_presses 239 = .ok (.iinc 6 1, 3) := by decide +kernel
theorem dL_presses_242 : decode cL_presses 242 = .ok (.goto (-175), 3) := by decide +kernel
theorem dL_presses_245 : decode cL_presses 245 = .ok (.iload 5, 2) := by decide +kernel
theorem dL_presses_247 : decode cL_presses 247 = .ok (.ireturn, 1) := by decide +kernel
theorem dL_scans_0 : decode cL_scans 0 = .ok (.aload_n 0, 1) := by decide +kernel
theorem dL_scans_1 : decode cL_scans 1 = .ok (.invokevirtual 77, 3) := by decide +kernel
theorem dL_scans_4 : decode cL_scans 4 = .ok (.istore_n 1, 1) := by decide +kernel
theorem dL_scans_5 : decode cL_scans 5 = .ok (.aload_n 0, 1) := by decide +kernel
theorem dL_scans_6 : decode cL_scans 6 = .ok (.invokestatic 80, 3) := by decide +kernel
theorem dL_scans_9 : decode cL_scans 9 = .ok (.istore_n 2, 1) := by decide +kernel
theorem dL_scans_10 : decode cL_scans 10 = .ok (.aload_n 0, 1) := by decide +kernel
theorem dL_scans_11 : decode cL_scans 11 = .ok (.invokevirtual 17, 3) := by decide +kernel
theorem dL_scans_14 : decode cL_scans 14 = .ok (.istore_n 3, 1) := by decide +kernel
theorem dL_scans_15 : decode cL_scans 15 = .ok (.aload_n 0, 1) := by decide +kernel
theorem dL_scans_16 : decode cL_scans 16 = .ok (.invokevirtual 20, 3) := by decide +kernel
theorem dL_scans_19 : decode cL_scans 19 = .ok (.istore 4, 2) := by decide +kernel
theorem dL_scans_21 : decode cL_scans 21 = .ok (.aload_n 0, 1) := by decide +kernel
theorem dL_scans_22 : decode cL_scans 22 = .ok (.invokevirtual 11, 3) := by decide +kernel
theorem dL_scans_25 : decode cL_scans 25 = .ok (.istore 5, 2) := by decide +kernel
theorem dL_scans_27 : decode cL_scans 27 = .ok (.bipush 18, 2) := by decide +kernel
theorem dL_scans_29 : decode cL_scans 29 = .ok (.newarray .int, 2) := by decide +kernel
theorem dL_scans_31 : decode cL_scans 31 = .ok (.astore 6, 2) := by decide +kernel
theorem dL_scans_33 : decode cL_scans 33 = .ok (.iconst 0, 1) := by decide +kernel
theorem dL_scans_34 : decode cL_scans 34 = .ok (.istore 7, 2) := by decide +kernel
theorem dL_scans_36 : decode cL_scans 36 = .ok (.iload 7, 2) := by decide +kernel
theorem dL_scans_38 : decode cL_scans 38 = .ok (.bipush 6, 2) := by decide +kernel
theorem dL_scans_40 : decode cL_scans 40 = .ok (.if_icmp .ge 72, 3) := by decide +kernel
theorem dL_scans_43 : decode cL_scans 43 = .ok (.aload_n 0, 1) := by decide +kernel
theorem dL_scans_44 : decode cL_scans 44 = .ok (.iload 7, 2) := by decide +kernel
theorem dL_scans_46 : decode cL_scans 46 = .ok (.invokevirtual 84, 3) := by decide +kernel
theorem dL_scans_49 : decode cL_scans 49 = .ok (.istore 8, 2) := by decide +kernel
theorem dL_scans_51 : decode cL_scans 51 = .ok (.aload 6, 2) := by decide +kernel
theorem dL_scans_53 : decode cL_scans 53 = .ok (.iload 7, 2) := by decide +kernel
theorem dL_scans_55 : decode cL_scans 55 = .ok (.iload 8, 2) := by decide +kernel
theorem dL_scans_57 : decode cL_scans 57 = .ok (.iastore, 1) := by decide +kernel
theorem dL_scans_58 : decode cL_scans 58 = .ok (.aload 6, 2) := by decide +kernel
theorem dL_scans_60 : decode cL_scans 60 = .ok (.bipush 6, 2) := by decide +kernel
theorem dL_scans_62 : decode cL_scans 62 = .ok (.iload 7, 2) := by decide +kernel
theorem dL_scans_64 : decode cL_scans 64 = .ok (.iadd, 1) := by decide +kernel
theorem dL_scans_65 : decode cL_scans 65 = .ok (.iload 8, 2) := by decide +kernel
theorem dL_scans_67 : decode cL_scans 67 = .ok (.ifCond .ge 7, 3) := by decide +kernel
theorem dL_scans_70 : decode cL_scans 70 = .ok (.iconst 0, 1) := by decide +kernel
theorem dL_scans_71 : decode cL_scans 71 = .ok (.goto 10, 3) := by decide +kernel
theorem dL_scans_74 : decode cL_scans 74 = .ok (.aload_n 0, 1) := by decide +kernel
theorem dL_scans_75 : decode cL_scans 75 = .ok (.iload 8, 2) := by decide +kernel
theorem dL_scans_77 : decode cL_scans 77 = .ok (.iconst 0, 1) := by decide +kernel
theorem dL_scans_78 : decode cL_scans 78 = .ok (.invokevirtual 87, 3) := by decide +kernel
theorem dL_scans_81 : decode cL_scans 81 = .ok (.iastore, 1) := by decide +kernel
theorem dL_scans_82 : decode cL_scans 82 = .ok (.aload 6, 2) := by decide +kernel
theorem dL_scans_84 : decode cL_scans 84 = .ok (.bipush 12, 2) := by decide +kernel
theorem dL_scans_86 : decode cL_scans 86 = .ok (.iload 7, 2) := by decide +kernel
theorem dL_scans_88 : decode cL_scans 88 = .ok (.iadd, 1) := by decide +kernel
theorem dL_scans_89 : decode cL_scans 89 = .ok (.iload 8, 2) := by decide +kernel
theorem dL_scans_91 : decode cL_scans 91 = .ok (.ifCond .ge 7, 3) := by decide +kernel
theorem dL_scans_94 : decode cL_scans 94 = .ok (.iconst 0, 1) := by decide +kernel
theorem dL_scans_95 : decode cL_scans 95 = .ok (.goto 10, 3) := by decide +kernel
theorem dL_scans_98 : decode cL_scans 98 = .ok (.aload_n 0, 1) := by decide +kernel
theorem dL_scans_99 : decode cL_scans 99 = .ok (.iload 8, 2) := by decide +kernel
theorem dL_scans_101 : decode cL_scans 101 = .ok (.iconst 1, 1) := by decide +kernel
theorem dL_scans_102 : decode cL_scans 102 = .ok (.invokevirtual 87, 3) := by decide +kernel
theorem dL_scans_105 : decode cL_scans 105 = .ok (.iastore, 1) := by decide +kernel
theorem dL_scans_106 : decode cL_scans 106 = .ok (.iinc 7 1, 3) := by decide +kernel
theorem dL_scans_109 : decode cL_scans 109 = .ok (.goto (-73), 3) := by decide +kernel
theorem dL_scans_112 : decode cL_scans 112 = .ok (.aload_n 0, 1) := by decide +kernel
theorem dL_scans_113 : decode cL_scans 113 = .ok (.iconst 3, 1) := by decide +kernel
theorem dL_scans_114 : decode cL_scans 114 = .ok (.iconst 3, 1) := by decide +kernel
theorem dL_scans_115 : decode cL_scans 115 = .ok (.invokevirtual 26, 3) := by decide +kernel
theorem dL_scans_118 : decode cL_scans 118 = .ok (.istore 7, 2) := by decide +kernel
theorem dL_scans_120 : decode cL_scans 120 = .ok (.aload_n 0, 1) := by decide +kernel
theorem dL_scans_121 : decode cL_scans 121 = .ok (.invokevirtual 90, 3) := by decide +kernel
theorem dL_scans_124 : decode cL_scans 124 = .ok (.istore 8, 2) := by decide +kernel
theorem dL_scans_126 : decode cL_scans 126 = .ok (.aload_n 0, 1) := by decide +kernel
theorem dL_scans_127 : decode cL_scans 127 = .ok (.invokestatic 80, 3) := by decide +kernel
theorem dL_scans_130 : decode cL_scans 130 = .ok (.istore 9, 2) := by decide +kernel
theorem dL_scans_132 : decode cL_scans 132 = .ok (.iload 9, 2) := by decide +kernel
theorem dL_scans_134 : decode cL_scans 134 = .ok (.iload_n 1, 1) := by decide +kernel
theorem dL_scans_135 : decode cL_scans 135 = .ok (.if_icmp .ne 78, 3) := by decide +kernel
theorem dL_scans_138 : decode cL_scans 138 = .ok (.aload_n 0, 1) := by decide +kernel
theorem dL_scans_139 : decode cL_scans 139 = .ok (.invokevirtual 11, 3) := by decide +kernel
theorem dL_scans_142 : decode cL_scans 142 = .ok (.iload 5, 2) := by decide +kernel
theorem dL_scans_144 : decode cL_scans 144 = .ok (.iconst 1, 1) := by decide +kernel
theorem dL_scans_145 : decode cL_scans 145 = .ok (.iadd, 1) := by decide +kernel
theorem dL_scans_146 : decode cL_scans 146 = .ok (.if_icmp .ne 67, 3) := by decide +kernel
theorem dL_scans_149 : decode cL_scans 149 = .ok (.aload_n 0, 1) := by decide +kernel
theorem dL_scans_150 : decode cL_scans 150 = .ok (.invokevirtual 17, 3) := by decide +kernel
theorem dL_scans_153 : decode cL_scans 153 = .ok (.iload_n 3, 1) := by decide +kernel
theorem dL_scans_154 : decode cL_scans 154 = .ok (.isub, 1) := by decide +kernel
theorem dL_scans_155 : decode cL_scans 155 = .ok (.iload 9, 2) := by decide +kernel
theorem dL_scans_157 : decode cL_scans 157 = .ok (.iload_n 2, 1) := by decide +kernel
theorem dL_scans_158 : decode cL_scans 158 = .ok (.iconst (-1), 1) := by decide +kernel
theorem dL_scans_159 : decode cL_scans 159 = .ok (.ixor, 1) := by decide +kernel
theorem dL_scans_160 : decode cL_scans 160 = .ok (.iand, 1) := by decide +kernel
theorem dL_scans_161 : decode cL_scans 161 = .ok (.invokestatic 93, 3) := by decide +kernel
theorem dL_scans_164 : decode cL_scans 164 = .ok (.if_icmp .ne 49, 3) := by decide +kernel
theorem dL_scans_167 : decode cL_scans 167 = .ok (.aload_n 0, 1) := by decide +kernel
theorem dL_scans_168 : decode cL_scans 168 = .ok (.invokevirtual 20, 3) := by decide +kernel
theorem dL_scans_171 : decode cL_scans 171 = .ok (.iload 4, 2) := by decide +kernel
theorem dL_scans_173 : decode cL_scans 173 = .ok (.isub, 1) := by decide +kernel
theorem dL_scans_174 : decode cL_scans 174 = .ok (.iload_n 2, 1) := by decide +kernel
theorem dL_scans_175 : decode cL_scans 175 = .ok (.iload 9, 2) := by decide +kernel
theorem dL_scans_177 : decode cL_scans 177 = .ok (.iconst (-1), 1) := by decide +kernel
theorem dL_scans_178 : decode cL_scans 178 = .ok (.ixor, 1) := by decide +kernel
theorem dL_scans_179 : decode cL_scans 179 = .ok (.iand, 1) := by decide +kernel
theorem dL_scans_180 : decode cL_scans 180 = .ok (.invokestatic 93, 3) := by decide +kernel
theorem dL_scans_183 : decode cL_scans 183 = .ok (.if_icmp .ne 30, 3) := by decide +kernel
theorem dL_scans_186 : decode cL_scans 186 = .ok (.iload 8, 2) := by decide +kernel
theorem dL_scans_188 : decode cL_scans 188 = .ok (.iload 9, 2) := by decide +kernel
theorem dL_scans_190 : decode cL_scans 190 = .ok (.iload_n 2, 1) := by decide +kernel
theorem dL_scans_191 : decode cL_scans 191 = .ok (.ixor, 1) := by decide +kernel
theorem dL_scans_192 : decode cL_scans 192 = .ok (.invokestatic 93, 3) := by decide +kernel
theorem dL_scans_195 : decode cL_scans 195 = .ok (.if_icmp .ne 18, 3) := by decide +kernel
theorem dL_scans_198 : decode cL_scans 198 = .ok (.aload_n 0, 1) := by decide +kernel
theorem dL_scans_199 : decode cL_scans 199 = .ok (.iconst 3, 1) := by decide +kernel
theorem dL_scans_200 : decode cL_scans 200 = .ok (.iconst 3, 1) := by decide +kernel
theorem dL_scans_201 : decode cL_scans 201 = .ok (.invokevirtual 26, 3) := by decide +kernel
theorem dL_scans_204 : decode cL_scans 204 = .ok (.iload 7, 2) := by decide +kernel
theorem dL_scans_206 : decode cL_scans 206 = .ok (.if_icmp .ne 7, 3) := by decide +kernel
theorem dL_scans_209 : decode cL_scans 209 = .ok (.iconst 1, 1) := by decide +kernel
theorem dL_scans_210 : decode cL_scans 210 = .ok (.goto 4, 3) := by decide +kernel
theorem dL_scans_213 : decode cL_scans 213 = .ok (.iconst 0, 1) := by decide +kernel
theorem dL_scans_214 : decode cL_scans 214 = .ok (.istore 10, 2) := by decide +kernel
theorem dL_scans_216 : decode cL_scans 216 = .ok (.iconst 0, 1) := by decide +kernel
theorem dL_scans_217 : decode cL_scans 217 = .ok (.istore 11, 2) := by decide +kernel
theorem dL_scans_219 : decode cL_scans 219 = .ok (.iload 11, 2) := by decide +kernel
theorem dL_scans_221 : decode cL_scans 221 = .ok (.bipush 6, 2) := by decide +kernel
theorem dL_scans_223 : decode cL_scans 223 = .ok (.if_icmp .ge 115, 3) := by decide +kernel
theorem dL_scans_226 : decode cL_scans 226 = .ok (.iload 10, 2) := by decide +kernel
theorem dL_scans_228 : decode cL_scans 228 = .ok (.ifCond .eq 101, 3) := by decide +kernel
theorem dL_scans_231 : decode cL_scans 231 = .ok (.aload 6, 2) := by decide +kernel
theorem dL_scans_233 : decode cL_scans 233 = .ok (.iload 11, 2) := by decide +kernel
theorem dL_scans_235 : decode cL_scans 235 = .ok (.iaload, 1) := by decide +kernel
theorem dL_scans_236 : decode cL_scans 236 = .ok (.ifCond .lt 60, 3) := by decide +kernel
theorem dL_scans_239 : decode cL_scans 239 = .ok (.iload 9, 2) := by decide +kernel
theorem dL_scans_241 : decode cL_scans 241 = .ok (.iload 11, 2) := by decide +kernel
theorem dL_scans_243 : decode cL_scans 243 = .ok (.ishr, 1) := by decide +kernel
theorem dL_scans_244 : decode cL_scans 244 = .ok (.iconst 1, 1) := by decide +kernel
theorem dL_scans_245 : decode cL_scans 245 = .ok (.iand, 1) := by decide +kernel
theorem dL_scans_246 : decode cL_scans 246 = .ok (.iconst 1, 1) := by decide +kernel
theorem dL_scans_247 : decode cL_scans 247 = .ok (.if_icmp .ne 82, 3) := by decide +kernel
theorem dL_scans_250 : decode cL_scans 250 = .ok (.aload_n 0, 1) := by decide +kernel
theorem dL_scans_251 : decode cL_scans 251 = .ok (.iload 11, 2) := by decide +kernel
theorem dL_scans_253 : decode cL_scans 253 = .ok (.iconst 0, 1) := by decide +kernel
theorem dL_scans_254 : decode cL_scans 254 = .ok (.invokevirtual 33, 3) := by decide +kernel
theorem dL_scans_257 : decode cL_scans 257 = .ok (.aload 6, 2) := by decide +kernel
theorem dL_scans_259 : decode cL_scans 259 = .ok (.bipush 6, 2) := by decide +kernel
theorem dL_scans_261 : decode cL_scans 261 = .ok (.iload 11, 2) := by decide +kernel
theorem dL_scans_263 : decode cL_scans 263 = .ok (.iadd, 1) := by decide +kernel
theorem dL_scans_264 : decode cL_scans 264 = .ok (.iaload, 1) := by decide +kernel
theorem dL_scans_265 : decode cL_scans 265 = .ok (.if_icmp .ne 64, 3) := by decide +kernel
theorem dL_scans_268 : decode cL_scans 268 = .ok (.aload_n 0, 1) := by decide +kernel
theorem dL_scans_269 : decode cL_scans 269 = .ok (.iload 11, 2) := by decide +kernel
theorem dL_scans_271 : decode cL_scans 271 = .ok (.iconst 1, 1) := by decide +kernel
theorem dL_scans_272 : decode cL_scans 272 = .ok (.invokevirtual 33, 3) := by decide +kernel
theorem dL_scans_275 : decode cL_scans 275 = .ok (.aload 6, 2) := by decide +kernel
theorem dL_scans_277 : decode cL_scans 277 = .ok (.bipush 12, 2) := by decide +kernel
theorem dL_scans_279 : decode cL_scans 279 = .ok (.iload 11, 2) := by decide +kernel
theorem dL_scans_281 : decode cL_scans 281 = .ok (.iadd, 1) := by decide +kernel
theorem dL_scans_282 : decode cL_scans 282 = .ok (.iaload, 1) := by decide +kernel
theorem dL_scans_283 : decode cL_scans 283 = .ok (.if_icmp .ne 46, 3) := by decide +kernel
theorem dL_scans_286 : decode cL_scans 286 = .ok (.aload_n 0, 1) := by decide +kernel
theorem dL_scans_287 : decode cL_scans 287 = .ok (.iload 11, 2) := by decide +kernel
theorem dL_scans_289 : decode cL_scans 289 = .ok (.iconst 3, 1) := by decide +kernel
theorem dL_scans_290 : decode cL_scans 290 = .ok (.invokevirtual 33, 3) := by decide +kernel
theorem dL_scans_293 : decode cL_scans 293 = .ok (.ifCond .ne 36, 3) := by decide +kernel
theorem dL_scans_296 : decode cL_scans 296 = .ok (.iload 9, 2) := by decide +kernel
theorem dL_scans_298 : decode cL_scans 298 = .ok (.iload_n 2, 1) := by decide +kernel
theorem dL_scans_299 : decode cL_scans 299 = .ok (.iconst (-1), 1) := by decide +kernel
theorem dL_scans_300 : decode cL_scans 300 = .ok (.ixor, 1) := by decide +kernel
theorem dL_scans_301 : decode cL_scans 301 = .ok (.iand, 1) := by decide +kernel
theorem dL_scans_302 : decode cL_scans 302 = .ok (.iload 11, 2) := by decide +kernel
theorem dL_scans_304 : decode cL_scans 304 = .ok (.ishr, 1) := by decide +kernel
theorem dL_scans_305 : decode cL_scans 305 = .ok (.iconst 1, 1) := by decide +kernel
theorem dL_scans_306 : decode cL_scans 306 = .ok (.iand, 1) := by decide +kernel
theorem dL_scans_307 : decode cL_scans 307 = .ok (.aload_n 0, 1) := by decide +kernel
theorem dL_scans_308 : decode cL_scans 308 = .ok (.iload 11, 2) := by decide +kernel
theorem dL_scans_310 : decode cL_scans 310 = .ok (.iconst 2, 1) := by decide +kernel
theorem dL_scans_311 : decode cL_scans 311 = .ok (.invokevirtual 33, 3) := by decide +kernel
theorem dL_scans_314 : decode cL_scans 314 = .ok (.ifCond .ne 7, 3) := by decide +kernel

