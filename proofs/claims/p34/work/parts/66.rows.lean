theorem dL_cell_0 : decode cL_cell 0 = .ok (.iload_n 1, 1) := by decide +kernel
theorem dL_cell_1 : decode cL_cell 1 = .ok (.aload_n 0, 1) := by decide +kernel
theorem dL_cell_2 : decode cL_cell 2 = .ok (.arraylength, 1) := by decide +kernel
theorem dL_cell_3 : decode cL_cell 3 = .ok (.if_icmp .ge 9, 3) := by decide +kernel
theorem dL_cell_6 : decode cL_cell 6 = .ok (.aload_n 0, 1) := by decide +kernel
theorem dL_cell_7 : decode cL_cell 7 = .ok (.iload_n 1, 1) := by decide +kernel
theorem dL_cell_8 : decode cL_cell 8 = .ok (.iaload, 1) := by decide +kernel
theorem dL_cell_9 : decode cL_cell 9 = .ok (.goto 11, 3) := by decide +kernel
theorem dL_cell_12 : decode cL_cell 12 = .ok (.ldc 7, 2) := by decide +kernel
theorem dL_cell_14 : decode cL_cell 14 = .ok (.iload_n 1, 1) := by decide +kernel
theorem dL_cell_15 : decode cL_cell 15 = .ok (.sipush 271, 3) := by decide +kernel
theorem dL_cell_18 : decode cL_cell 18 = .ok (.iadd, 1) := by decide +kernel
theorem dL_cell_19 : decode cL_cell 19 = .ok (.imul, 1) := by decide +kernel
theorem dL_cell_20 : decode cL_cell 20 = .ok (.ireturn, 1) := by decide +kernel
theorem dL_up_0 : decode cL_up 0 = .ok (.iload_n 0, 1) := by decide +kernel
theorem dL_up_1 : decode cL_up 1 = .ok (.ldc 8, 2) := by decide +kernel
theorem dL_up_3 : decode cL_up 3 = .ok (.iand, 1) := by decide +kernel
theorem dL_up_4 : decode cL_up 4 = .ok (.iload_n 1, 1) := by decide +kernel
theorem dL_up_5 : decode cL_up 5 = .ok (.irem, 1) := by decide +kernel
theorem dL_up_6 : decode cL_up 6 = .ok (.ireturn, 1) := by decide +kernel
theorem dL_bits_0 : decode cL_bits 0 = .ok (.iconst 0, 1) := by decide +kernel
theorem dL_bits_1 : decode cL_bits 1 = .ok (.istore_n 1, 1) := by decide +kernel
theorem dL_bits_2 : decode cL_bits 2 = .ok (.iconst 0, 1) := by decide +kernel
theorem dL_bits_3 : decode cL_bits 3 = .ok (.istore_n 2, 1) := by decide +kernel
theorem dL_bits_4 : decode cL_bits 4 = .ok (.iload_n 2, 1) := by decide +kernel
theorem dL_bits_5 : decode cL_bits 5 = .ok (.bipush 6, 2) := by decide +kernel
theorem dL_bits_7 : decode cL_bits 7 = .ok (.if_icmp .ge 17, 3) := by decide +kernel
theorem dL_bits_10 : decode cL_bits 10 = .ok (.iload_n 1, 1) := by decide +kernel
theorem dL_bits_11 : decode cL_bits 11 = .ok (.iload_n 0, 1) := by decide +kernel
theorem dL_bits_12 : decode cL_bits 12 = .ok (.iload_n 2, 1) := by decide +kernel
theorem dL_bits_13 : decode cL_bits 13 = .ok (.ishr, 1) := by decide +kernel
theorem dL_bits_14 : decode cL_bits 14 = .ok (.iconst 1, 1) := by decide +kernel
theorem dL_bits_15 : decode cL_bits 15 = .ok (.iand, 1) := by decide +kernel
theorem dL_bits_16 : decode cL_bits 16 = .ok (.iadd, 1) := by decide +kernel
theorem dL_bits_17 : decode cL_bits 17 = .ok (.istore_n 1, 1) := by decide +kernel
theorem dL_bits_18 : decode cL_bits 18 = .ok (.iinc 2 1, 3) := by decide +kernel
theorem dL_bits_21 : decode cL_bits 21 = .ok (.goto (-17), 3) := by decide +kernel
theorem dL_bits_24 : decode cL_bits 24 = .ok (.iload_n 1, 1) := by decide +kernel
theorem dL_bits_25 : decode cL_bits 25 = .ok (.ireturn, 1) := by decide +kernel
theorem dL_told_0 : decode cL_told 0 = .ok (.ldc2_w 9, 3) := by decide +kernel
theorem dL_told_3 : decode cL_told 3 = .ok (.ldc2_w 9, 3) := by decide +kernel
theorem dL_told_6 : decode cL_told 6 = .ok (.ldc2_w 9, 3) := by decide +kernel
theorem dL_told_9 : decode cL_told 9 = .ok (.aload_n 0, 1) := by decide +kernel
theorem dL_told_10 : decode cL_told 10 = .ok (.invokevirtual 11, 3) := by decide +kernel
theorem dL_told_13 : decode cL_told 13 = .ok (.i2l, 1) := by decide +kernel
theorem dL_told_14 : decode cL_told 14 = .ok (.lmul, 1) := by decide +kernel
theorem dL_told_15 : decode cL_told 15 = .ok (.aload_n 0, 1) := by decide +kernel
theorem dL_told_16 : decode cL_told 16 = .ok (.invokevirtual 17, 3) := by decide +kernel
theorem dL_told_19 : decode cL_told 19 = .ok (.i2l, 1) := by decide +kernel
theorem dL_told_20 : decode cL_told 20 = .ok (.ladd, 1) := by decide +kernel
theorem dL_told_21 : decode cL_told 21 = .ok (.lmul, 1) := by decide +kernel
theorem dL_told_22 : decode cL_told 22 = .ok (.aload_n 0, 1) := by decide +kernel
theorem dL_told_23 : decode cL_told 23 = .ok (.invokevirtual 20, 3) := by decide +kernel
theorem dL_told_26 : decode cL_told 26 = .ok (.i2l, 1) := by decide +kernel
theorem dL_told_27 : decode cL_told 27 = .ok (.ladd, 1) := by decide +kernel
theorem dL_told_28 : decode cL_told 28 = .ok (.lmul, 1) := by decide +kernel
theorem dL_told_29 : decode cL_told 29 = .ok (.aload_n 0, 1) := by decide +kernel
theorem dL_told_30 : decode cL_told 30 = .ok (.invokevirtual 23, 3) := by decide +kernel
theorem dL_told_33 : decode cL_told 33 = .ok (.i2l, 1) := by decide +kernel
theorem dL_told_34 : decode cL_told 34 = .ok (.ladd, 1) := by decide +kernel
theorem dL_told_35 : decode cL_told 35 = .ok (.lstore_n 1, 1) := by decide +kernel
theorem dL_told_36 : decode cL_told 36 = .ok (.iconst 0, 1) := by decide +kernel
theorem dL_told_37 : decode cL_told 37 = .ok (.istore_n 3, 1) := by decide +kernel
theorem dL_told_38 : decode cL_told 38 = .ok (.iload_n 3, 1) := by decide +kernel
theorem dL_told_39 : decode cL_told 39 = .ok (.bipush 48, 2) := by decide +kernel
theorem dL_told_41 : decode cL_told 41 = .ok (.if_icmp .ge 47, 3) := by decide +kernel
theorem dL_told_44 : decode cL_told 44 = .ok (.ldc2_w 9, 3) := by decide +kernel
theorem dL_told_47 : decode cL_told 47 = .ok (.ldc2_w 9, 3) := by decide +kernel
theorem dL_told_50 : decode cL_told 50 = .ok (.lload_n 1, 1) := by decide +kernel
theorem dL_told_51 : decode cL_told 51 = .ok (.lmul, 1) := by decide +kernel
theorem dL_told_52 : decode cL_told 52 = .ok (.aload_n 0, 1) := by decide +kernel
theorem dL_told_53 : decode cL_told 53 = .ok (.iload_n 3, 1) := by decide +kernel
theorem dL_told_54 : decode cL_told 54 = .ok (.bipush 6, 2) := by decide +kernel
theorem dL_told_56 : decode cL_told 56 = .ok (.idiv, 1) := by decide +kernel
theorem dL_told_57 : decode cL_told 57 = .ok (.iload_n 3, 1) := by decide +kernel
theorem dL_told_58 : decode cL_told 58 = .ok (.bipush 6, 2) := by decide +kernel
theorem dL_told_60 : decode cL_told 60 = .ok (.irem, 1) := by decide +kernel
theorem dL_told_61 : decode cL_told 61 = .ok (.invokevirtual 26, 3) := by decide +kernel
theorem dL_told_64 : decode cL_told 64 = .ok (.i2l, 1) := by decide +kernel
theorem dL_told_65 : decode cL_told 65 = .ok (.ladd, 1) := by decide +kernel
theorem dL_told_66 : decode cL_told 66 = .ok (.lmul, 1) := by decide +kernel
theorem dL_told_67 : decode cL_told 67 = .ok (.aload_n 0, 1) := by decide +kernel
theorem dL_told_68 : decode cL_told 68 = .ok (.iload_n 3, 1) := by decide +kernel
theorem dL_told_69 : decode cL_told 69 = .ok (.bipush 6, 2) := by decide +kernel
theorem dL_told_71 : decode cL_told 71 = .ok (.idiv, 1) := by decide +kernel
theorem dL_told_72 : decode cL_told 72 = .ok (.iload_n 3, 1) := by decide +kernel
theorem dL_told_73 : decode cL_told 73 = .ok (.bipush 6, 2) := by decide +kernel
theorem dL_told_75 : decode cL_told 75 = .ok (.irem, 1) := by decide +kernel
theorem dL_told_76 : decode cL_told 76 = .ok (.invokevirtual 30, 3) := by decide +kernel
theorem dL_told_79 : decode cL_told 79 = .ok (.i2l, 1) := by decide +kernel
theorem dL_told_80 : decode cL_told 80 = .ok (.ladd, 1) := by decide +kernel
theorem dL_told_81 : decode cL_told 81 = .ok (.lstore_n 1, 1) := by decide +kernel
theorem dL_told_82 : decode cL_told 82 = .ok (.iinc 3 1, 3) := by decide +kernel
theorem dL_told_85 : decode cL_told 85 = .ok (.goto (-47), 3) := by decide +kernel
theorem dL_told_88 : decode cL_told 88 = .ok (.iconst 0, 1) := by decide +kernel
theorem dL_told_89 : decode cL_told 89 = .ok (.istore_n 3, 1) := by decide +kernel
theorem dL_told_90 : decode cL_told 90 = .ok (.iload_n 3, 1) := by decide +kernel
theorem dL_told_91 : decode cL_told 91 = .ok (.bipush 24, 2) := by decide +kernel
theorem dL_told_93 : decode cL_told 93 = .ok (.if_icmp .ge 27, 3) := by decide +kernel
theorem dL_told_96 : decode cL_told 96 = .ok (.ldc2_w 9, 3) := by decide +kernel
theorem dL_told_99 : decode cL_told 99 = .ok (.lload_n 1, 1) := by decide +kernel
theorem dL_told_100 : decode cL_told 100 = .ok (.lmul, 1) := by decide +kernel
theorem dL_told_101 : decode cL_told 101 = .ok (.aload_n 0, 1) := by decide +kernel
theorem dL_told_102 : decode cL_told 102 = .ok (.iload_n 3, 1) := by decide +kernel
theorem dL_told_103 : decode cL_told 103 = .ok (.iconst 4, 1) := by decide +kernel
theorem dL_told_104 : decode cL_told 104 = .ok (.idiv, 1) := by decide +kernel
theorem dL_told_105 : decode cL_told 105 = .ok (.iload_n 3, 1) := by decide +kernel
theorem dL_told_106 : decode cL_told 106 = .ok (.iconst 4, 1) := by decide +kernel
theorem dL_told_107 : decode cL_told 107 = .ok (.irem, 1) := by decide +kernel
theorem dL_told_108 : decode cL_told 108 = .ok (.invokevirtual 33, 3) := by decide +kernel
theorem dL_told_111 : decode cL_told 111 = .ok (.i2l, 1) := by decide +kernel
theorem dL_told_112 : decode cL_told 112 = .ok (.ladd, 1) := by decide +kernel
theorem dL_told_113 : decode cL_told 113 = .ok (.lstore_n 1, 1) := by decide +kernel
theorem dL_told_114 : decode cL_told 114 = .ok (.iinc 3 1, 3) := by decide +kernel
theorem dL_told_117 : decode cL_told 117 = .ok (.goto (-27), 3) := by decide +kernel
theorem dL_told_120 : decode cL_told 120 = .ok (.iconst 0, 1) := by decide +kernel
theorem dL_told_121 : decode cL_told 121 = .ok (.istore_n 3, 1) := by decide +kernel
theorem dL_told_122 : decode cL_told 122 = .ok (.iload_n 3, 1) := by decide +kernel
theorem dL_told_123 : decode cL_told 123 = .ok (.iconst 5, 1) := by decide +kernel
theorem dL_told_124 : decode cL_told 124 = .ok (.if_icmp .ge 22, 3) := by decide +kernel
theorem dL_told_127 : decode cL_told 127 = .ok (.ldc2_w 9, 3) := by decide +kernel
theorem dL_told_130 : decode cL_told 130 = .ok (.lload_n 1, 1) := by decide +kernel
theorem dL_told_131 : decode cL_told 131 = .ok (.lmul, 1) := by decide +kernel
theorem dL_told_132 : decode cL_told 132 = .ok (.aload_n 0, 1) := by decide +kernel
theorem dL_told_133 : decode cL_told 133 = .ok (.iload_n 3, 1) := by decide +kernel
theorem dL_told_134 : decode cL_told 134 = .ok (.invokevirtual 36, 3) := by decide +kernel
theorem dL_told_137 : decode cL_told 137 = .ok (.i2l, 1) := by decide +kernel
theorem dL_told_138 : decode cL_told 138 = .ok (.ladd, 1) := by decide +kernel
theorem dL_told_139 : decode cL_told 139 = .ok (.lstore_n 1, 1) := by decide +kernel
theorem dL_told_140 : decode cL_told 140 = .ok (.iinc 3 1, 3) := by decide +kernel
theorem dL_told_143 : decode cL_told 143 = .ok (.goto (-21), 3) := by decide +kernel
theorem dL_told_146 : decode cL_told 146 = .ok (.lload_n 1, 1) := by decide +kernel
theorem dL_told_147 : decode cL_told 147 = .ok (.lreturn, 1) := by decide +kernel
theorem dL_downSet_0 : decode cL_downSet 0 = .ok (.iconst 0, 1) := by decide +kernel
theorem dL_downSet_1 : decode cL_downSet 1 = .ok (.istore_n 1, 1) := by decide +kernel
theorem dL_downSet_2 : decode cL_downSet 2 = .ok (.iconst 0, 1) := by decide +kernel
theorem dL_downSet_3 : decode cL_downSet 3 = .ok (.istore_n 2, 1) := by decide +kernel
theorem dL_downSet_4 : decode cL_downSet 4 = .ok (.iload_n 2, 1) := by decide +kernel
theorem dL_downSet_5 : decode cL_downSet 5 = .ok (.bipush 6, 2) := by decide +kernel
theorem dL_downSet_7 : decode cL_downSet 7 = .ok (.if_icmp .ge 27, 3) := by decide +kernel
theorem dL_downSet_10 : decode cL_downSet 10 = .ok (.iload_n 1, 1) := by decide +kernel
theorem dL_downSet_11 : decode cL_downSet 11 = .ok (.aload_n 0, 1) := by decide +kernel
theorem dL_downSet_12 : decode cL_downSet 12 = .ok (.iload_n 2, 1) := by decide +kernel
theorem dL_downSet_13 : decode cL_downSet 13 = .ok (.invokevirtual 40, 3) := by decide +kernel
theorem dL_downSet_16 : decode cL_downSet 16 = .ok (.ifCond .eq 9, 3) := by decide +kernel
theorem dL_downSet_19 : decode cL_downSet 19 = .ok (.iconst 1, 1) := by decide +kernel
theorem dL_downSet_20 : decode cL_downSet 20 = .ok (.iload_n 2, 1) := by decide +kernel
theorem dL_downSet_21 : decode cL_downSet 21 = .ok (.ishl, 1) := by decide +kernel
theorem dL_downSet_22 : decode cL_downSet 22 = .ok (.goto 4, 3) := by decide +kernel
theorem dL_downSet_25 : decode cL_downSet 25 = .ok (.iconst 0, 1) := by decide +kernel
theorem dL_downSet_26 : decode cL_downSet 26 = .ok (.ior, 1) := by decide +kernel
theorem dL_downSet_27 : decode cL_downSet 27 = .ok (.istore_n 1, 1) := by decide +kernel
theorem dL_downSet_28 : decode cL_downSet 28 = .ok (.iinc 2 1, 3) := by decide +kernel
theorem dL_downSet_31 : decode cL_downSet 31 = .ok (.goto (-27), 3) := by decide +kernel
theorem dL_downSet_34 : decode cL_downSet 34 = .ok (.iload_n 1, 1) := by decide +kernel
theorem dL_downSet_35 : decode cL_downSet 35 = .ok (.ireturn, 1) := by decide +kernel
theorem dL_acts_0 : decode cL_acts 0 = .ok (.iload_n 2, 1) := by decide +kernel
theorem dL_acts_1 : decode cL_acts 1 = .ok (.bipush 8, 2) := by decide +kernel
theorem dL_acts_3 : decode cL_acts 3 = .ok (.invokestatic 44, 3) := by decide +kernel
theorem dL_acts_6 : decode cL_acts 6 = .ok (.istore_n 3, 1) := by decide +kernel
theorem dL_acts_7 : decode cL_acts 7 = .ok (.iload_n 2, 1) := by decide +kernel
theorem dL_acts_8 : decode cL_acts 8 = .ok (.iconst 3, 1) := by decide +kernel
theorem dL_acts_9 : decode cL_acts 9 = .ok (.ishr, 1) := by decide +kernel
theorem dL_acts_10 : decode cL_acts 10 = .ok (.bipush 6, 2) := by decide +kernel
theorem dL_acts_12 : decode cL_acts 12 = .ok (.invokestatic 44, 3) := by decide +kernel
theorem dL_acts_15 : decode cL_acts 15 = .ok (.istore 4, 2) := by decide +kernel
theorem dL_acts_17 : decode cL_acts 17 = .ok (.iload_n 1, 1) := by decide +kernel
theorem dL_acts_18 : decode cL_acts 18 = .ok (.bipush 16, 2) := by decide +kernel
theorem dL_acts_20 : decode cL_acts 20 = .ok (.invokestatic 44, 3) := by decide +kernel
theorem dL_acts_23 : decode cL_acts 23 = .ok (.tableswitch 322 0 7 #[45, 74, 138, 260, 317, 317, 317, 317], 45) := by decide +kernel
theorem dL_acts_68 : decode cL_acts 68 = .ok (.aload_n 0, 1) := by decide +kernel
theorem dL_acts_69 : decode cL_acts 69 = .ok (.invokevirtual 49, 3) := by decide +kernel
theorem dL_acts_72 : decode cL_acts 72 = .ok (.ifCond .lt 23, 3) := by decide +kernel
theorem dL_acts_75 : decode cL_acts 75 = .ok (.aload_n 0, 1) := by decide +kernel
theorem dL_acts_76 : decode cL_acts 76 = .ok (.invokevirtual 23, 3) := by decide +kernel
theorem dL_acts_79 : decode cL_acts 79 = .ok (.ifCond .ne 16, 3) := by decide +kernel
theorem dL_acts_82 : decode cL_acts 82 = .ok (.aload_n 0, 1) := by decide +kernel
theorem dL_acts_83 : decode cL_acts 83 = .ok (.invokevirtual 52, 3) := by decide +kernel
theorem dL_acts_86 : decode cL_acts 86 = .ok (.fconst 0, 1) := by decide +kernel
theorem dL_acts_87 : decode cL_acts 87 = .ok (.fcmp .l, 1) := by decide +kernel
theorem dL_acts_88 : decode cL_acts 88 = .ok (.ifCond .ne 7, 3) := by decide +kernel
theorem dL_acts_91 : decode cL_acts 91 = .ok (.iconst 1, 1) := by decide +kernel
theorem dL_acts_92 : decode cL_acts 92 = .ok (.goto 4, 3) := by decide +kernel
theorem dL_acts_95 : decode cL_acts 95 = .ok (.iconst 0, 1) := by decide +kernel
theorem dL_acts_96 : decode cL_acts 96 = .ok (.ireturn, 1) := by decide +kernel
theorem dL_acts_97 : decode cL_acts 97 = .ok (.iload_n 2, 1) := by decide +kernel
theorem dL_acts_98 : decode cL_acts 98 = .ok (.iconst 3, 1) := by decide +kernel
theorem dL_acts_99 : decode cL_acts 99 = .ok (.iand, 1) := by decide +kernel
theorem dL_acts_100 : decode cL_acts 100 = .ok (.ifCond .le 31, 3) := by decide +kernel
theorem dL_acts_103 : decode cL_acts 103 = .ok (.aload_n 0, 1) := by decide +kernel
theorem dL_acts_104 : decode cL_acts 104 = .ok (.iload_n 3, 1) := by decide +kernel
theorem dL_acts_105 : decode cL_acts 105 = .ok (.iload 4, 2) := by decide +kernel
theorem dL_acts_107 : decode cL_acts 107 = .ok (.iload_n 2, 1) := by decide +kernel
theorem dL_acts_108 : decode cL_acts 108 = .ok (.bipush 6, 2) := by decide +kernel
theorem dL_acts_110 : decode cL_acts 110 = .ok (.ishr, 1) := by decide +kernel
theorem dL_acts_111 : decode cL_acts 111 = .ok (.sipush 256, 3) := by decide +kernel
theorem dL_acts_114 : decode cL_acts 114 = .ok (.invokestatic 44, 3) := by decide +kernel
theorem dL_acts_117 : decode cL_acts 117 = .ok (.invokevirtual 56, 3) := by decide +kernel
theorem dL_acts_120 : decode cL_acts 120 = .ok (.ifCond .lt 7, 3) := by decide +kernel
theorem dL_acts_123 : decode cL_acts 123 = .ok (.iconst 1, 1) := by decide +kernel
theorem dL_acts_124 : decode cL_acts 124 = .ok (.goto 36, 3) := by decide +kernel
theorem dL_acts_127 : decode cL_acts 127 = .ok (.iconst 0, 1) := by decide +kernel
theorem dL_acts_128 : decode cL_acts 128 = .ok (.goto 32, 3) := by decide +kernel
theorem dL_acts_131 : decode cL_acts 131 = .ok (.aload_n 0, 1) := by decide +kernel
theorem dL_acts_132 : decode cL_acts 132 = .ok (.invokevirtual 60, 3) := by decide +kernel
theorem dL_acts_135 : decode cL_acts 135 = .ok (.ifCond .lt 24, 3) := by decide +kernel
theorem dL_acts_138 : decode cL_acts 138 = .ok (.aload_n 0, 1) := by decide +kernel
theorem dL_acts_139 : decode cL_acts 139 = .ok (.invokevirtual 23, 3) := by decide +kernel
theorem dL_acts_142 : decode cL_acts 142 = .ok (.ifCond .ne 17, 3) := by decide +kernel
theorem dL_acts_145 : decode cL_acts 145 = .ok (.aload_n 0, 1) := by decide +kernel
theorem dL_acts_146 : decode cL_acts 146 = .ok (.iload_n 3, 1) := by decide +kernel
theorem dL_acts_147 : decode cL_acts 147 = .ok (.iload 4, 2) := by decide +kernel
theorem dL_acts_149 : decode cL_acts 149 = .ok (.invokevirtual 30, 3) := by decide +kernel
theorem dL_acts_152 : decode cL_acts 152 = .ok (.ifCond .ne 7, 3) := by decide +kernel
theorem dL_acts_155 : decode cL_acts 155 = .ok (.iconst 1, 1) := by decide +kernel
theorem dL_acts_156 : decode cL_acts 156 = .ok (.goto 4, 3) := by decide +kernel
theorem dL_acts_159 : decode cL_acts 159 = .ok (.iconst 0, 1) := by decide +kernel
theorem dL_acts_160 : decode cL_acts 160 = .ok (.ireturn, 1) := by decide +kernel
theorem dL_acts_161 : decode cL_acts 161 = .ok (.iload_n 2, 1) := by decide +kernel
theorem dL_acts_162 : decode cL_acts 162 = .ok (.iconst 5, 1) := by decide +kernel
theorem dL_acts_163 : decode cL_acts 163 = .ok (.invokestatic 44, 3) := by decide +kernel
theorem dL_acts_166 : decode cL_acts 166 = .ok (.istore 5, 2) := by decide +kernel
theorem dL_acts_168 : decode cL_acts 168 = .ok (.iload 5, 2) := by decide +kernel
theorem dL_acts_170 : decode cL_acts 170 = .ok (.ifCond .ne 16, 3) := by decide +kernel
theorem dL_acts_173 : decode cL_acts 173 = .ok (.iconst 1, 1) := by decide +kernel
theorem dL_acts_174 : decode cL_acts 174 = .ok (.iload_n 2, 1) := by decide +kernel
theorem dL_acts_175 : decode cL_acts 175 = .ok (.iconst 3, 1) := by decide +kernel
theorem dL_acts_176 : decode cL_acts 176 = .ok (.ishr, 1) := by decide +kernel
theorem dL_acts_177 : decode cL_acts 177 = .ok (.bipush 100, 2) := by decide +kernel
theorem dL_acts_179 : decode cL_acts 179 = .ok (.invokestatic 44, 3) := by decide +kernel
theorem dL_acts_182 : decode cL_acts 182 = .ok (.iadd, 1) := by decide +kernel
theorem dL_acts_183 : decode cL_acts 183 = .ok (.goto 70, 3) := by decide +kernel
theorem dL_acts_186 : decode cL_acts 186 = .ok (.iload 5, 2) := by decide +kernel
theorem dL_acts_188 : decode cL_acts 188 = .ok (.iconst 1, 1) := by decide +kernel
theorem dL_acts_189 : decode cL_acts 189 = .ok (.if_icmp .ne 16, 3) := by decide +kernel
theorem dL_acts_192 : decode cL_acts 192 = .ok (.iconst 1, 1) := by decide +kernel
theorem dL_acts_193 : decode cL_acts 193 = .ok (.iload_n 2, 1) := by decide +kernel
theorem dL_acts_194 : decode cL_acts 194 = .ok (.iconst 3, 1) := by decide +kernel
theorem dL_acts_195 : decode cL_acts 195 = .ok (.ishr, 1) := by decide +kernel
theorem dL_acts_196 : decode cL_acts 196 = .ok (.bipush 48, 2) := by decide +kernel
theorem dL_acts_198 : decode cL_acts 198 = .ok (.invokestatic 44, 3) := by decide +kernel
theorem dL_acts_201 : decode cL_acts 201 = .ok (.iadd, 1) := by decide +kernel
theorem dL_acts_202 : decode cL_acts 202 = .ok (.goto 51, 3) := by decide +kernel
theorem dL_acts_205 : decode cL_acts 205 = .ok (.iload 5, 2) := by decide +kernel
theorem dL_acts_207 : decode cL_acts 207 = .ok (.iconst 2, 1) := by decide +kernel
theorem dL_acts_208 : decode cL_acts 208 = .ok (.if_icmp .ne 17, 3) := by decide +kernel
theorem dL_acts_211 : decode cL_acts 211 = .ok (.iconst 1, 1) := by decide +kernel
theorem dL_acts_212 : decode cL_acts 212 = .ok (.iload_n 2, 1) := by decide +kernel
theorem dL_acts_213 : decode cL_acts 213 = .ok (.iconst 3, 1) := by decide +kernel
theorem dL_acts_214 : decode cL_acts 214 = .ok (.ishr, 1) := by decide +kernel
theorem dL_acts_215 : decode cL_acts 215 = .ok (.sipush 255, 3) := by decide +kernel
theorem dL_acts_218 : decode cL_acts 218 = .ok (.invokestatic 44, 3) := by decide +kernel
theorem dL_acts_221 : decode cL_acts 221 = .ok (.iadd, 1) := by decide +kernel
theorem dL_acts_222 : decode cL_acts 222 = .ok (.goto 31, 3) := by decide +kernel
theorem dL_acts_225 : decode cL_acts 225 = .ok (.iload 5, 2) := by decide +kernel
theorem dL_acts_227 : decode cL_acts 227 = .ok (.iconst 3, 1) := by decide +kernel
theorem dL_acts_228 : decode cL_acts 228 = .ok (.if_icmp .ne 17, 3) := by decide +kernel
theorem dL_acts_231 : decode cL_acts 231 = .ok (.iconst 1, 1) := by decide +kernel
theorem dL_acts_232 : decode cL_acts 232 = .ok (.iload_n 2, 1) := by decide +kernel
theorem dL_acts_233 : decode cL_acts 233 = .ok (.iconst 3, 1) := by decide +kernel
theorem dL_acts_234 : decode cL_acts 234 = .ok (.ishr, 1) := by decide +kernel
theorem dL_acts_235 : decode cL_acts 235 = .ok (.sipush 1000, 3) := by decide +kernel
theorem dL_acts_238 : decode cL_acts 238 = .ok (.invokestatic 44, 3) := by decide +kernel
theorem dL_acts_241 : decode cL_acts 241 = .ok (.iadd, 1) := by decide +kernel
theorem dL_acts_242 : decode cL_acts 242 = .ok (.goto 11, 3) := by decide +kernel
theorem dL_acts_245 : decode cL_acts 245 = .ok (.iload_n 2, 1) := by decide +kernel
theorem dL_acts_246 : decode cL_acts 246 = .ok (.iconst 3, 1) := by decide +kernel
theorem dL_acts_247 : decode cL_acts 247 = .ok (.ishr, 1) := by decide +kernel
theorem dL_acts_248 : decode cL_acts 248 = .ok (.bipush 6, 2) := by decide +kernel
theorem dL_acts_250 : decode cL_acts 250 = .ok (.invokestatic 44, 3) := by decide +kernel
theorem dL_acts_253 : decode cL_acts 253 = .ok (.istore 6, 2) := by decide +kernel
theorem dL_acts_255 : decode cL_acts 255 = .ok (.aload_n 0, 1) := by decide +kernel
theorem dL_acts_256 : decode cL_acts 256 = .ok (.iload 5, 2) := by decide +kernel
theorem dL_acts_258 : decode cL_acts 258 = .ok (.iload 6, 2) := by decide +kernel
theorem dL_acts_260 : decode cL_acts 260 = .ok (.invokevirtual 63, 3) := by decide +kernel
theorem dL_acts_263 : decode cL_acts 263 = .ok (.ifCond .lt 18, 3) := by decide +kernel
theorem dL_acts_266 : decode cL_acts 266 = .ok (.aload_n 0, 1) := by decide +kernel
theorem dL_acts_267 : decode cL_acts 267 = .ok (.iload 5, 2) := by decide +kernel
theorem dL_acts_269 : decode cL_acts 269 = .ok (.invokevirtual 36, 3) := by decide +kernel
theorem dL_acts_272 : decode cL_acts 272 = .ok (.iload 6, 2) := by decide +kernel
theorem dL_acts_274 : decode cL_acts 274 = .ok (.if_icmp .ne 7, 3) := by decide +kernel
theorem dL_acts_277 : decode cL_acts 277 = .ok (.iconst 1, 1) := by decide +kernel
theorem dL_acts_278 : decode cL_acts 278 = .ok (.goto 4, 3) := by decide +kernel
theorem dL_acts_281 : decode cL_acts 281 = .ok (.iconst 0, 1) := by decide +kernel
theorem dL_acts_282 : decode cL_acts 282 = .ok (.ireturn, 1) := by decide +kernel
theorem dL_acts_283 : decode cL_acts 283 = .ok (.aload_n 0, 1) := by decide +kernel
theorem dL_acts_284 : decode cL_acts 284 = .ok (.iload_n 3, 1) := by decide +kernel
theorem dL_acts_285 : decode cL_acts 285 = .ok (.iload 4, 2) := by decide +kernel
theorem dL_acts_287 : decode cL_acts 287 = .ok (.invokevirtual 26, 3) := by decide +kernel
theorem dL_acts_290 : decode cL_acts 290 = .ok (.istore 7, 2) := by decide +kernel
theorem dL_acts_292 : decode cL_acts 292 = .ok (.aload_n 0, 1) := by decide +kernel
theorem dL_acts_293 : decode cL_acts 293 = .ok (.iload_n 3, 1) := by decide +kernel
theorem dL_acts_294 : decode cL_acts 294 = .ok (.iload 4, 2) := by decide +kernel
theorem dL_acts_296 : decode cL_acts 296 = .ok (.iload_n 2, 1) := by decide +kernel
theorem dL_acts_297 : decode cL_acts 297 = .ok (.bipush 6, 2) := by decide +kernel
theorem dL_acts_299 : decode cL_acts 299 = .ok (.ishr, 1) := by decide +kernel
theorem dL_acts_300 : decode cL_acts 300 = .ok (.sipush 256, 3) := by decide +kernel
theorem dL_acts_303 : decode cL_acts 303 = .ok (.invokestatic 44, 3) := by decide +kernel
theorem dL_acts_306 : decode cL_acts 306 = .ok (.invokevirtual 56, 3) := by decide +kernel
theorem dL_acts_309 : decode cL_acts 309 = .ok (.iload 7, 2) := by decide +kernel
theorem dL_acts_311 : decode cL_acts 311 = .ok (.if_icmp .ne 27, 3) := by decide +kernel
theorem dL_acts_314 : decode cL_acts 314 = .ok (.aload_n 0, 1) := by decide +kernel
theorem dL_acts_315 : decode cL_acts 315 = .ok (.iload_n 3, 1) := by decide +kernel
theorem dL_acts_316 : decode cL_acts 316 = .ok (.iload 4, 2) := by decide +kernel
theorem dL_acts_318 : decode cL_acts 318 = .ok (.invokevirtual 26, 3) := by decide +kernel
theorem dL_acts_321 : decode cL_acts 321 = .ok (.iload_n 2, 1) := by decide +kernel
theorem dL_acts_322 : decode cL_acts 322 = .ok (.bipush 6, 2) := by decide +kernel
theorem dL_acts_324 : decode cL_acts 324 = .ok (.ishr, 1) := by decide +kernel
theorem dL_acts_325 : decode cL_acts 325 = .ok (.sipush 256, 3) := by decide +kernel
theorem dL_acts_328 : decode cL_acts 328 = .ok (.invokestatic 44, 3) := by decide +kernel
theorem dL_acts_331 : decode cL_acts 331 = .ok (.if_icmp .ne 7, 3) := by decide +kernel
theorem dL_acts_334 : decode cL_acts 334 = .ok (.iconst 1, 1) := by decide +kernel
theorem dL_acts_335 : decode cL_acts 335 = .ok (.goto 4, 3) := by decide +kernel
theorem dL_acts_338 : decode cL_acts 338 = .ok (.iconst 0, 1) := by decide +kernel
theorem dL_acts_339 : decode cL_acts 339 = .ok (.ireturn, 1) := by decide +kernel
theorem dL_acts_340 : decode cL_acts 340 = .ok (.aload_n 0, 1) := by decide +kernel
theorem dL_acts_341 : decode cL_acts 341 = .ok (.invokestatic 66, 3) := by decide +kernel
theorem dL_acts_344 : decode cL_acts 344 = .ok (.ireturn, 1) := by decide +kernel
theorem dL_acts_345 : decode cL_acts 345 = .ok (.aload_n 0, 1) := by decide +kernel
theorem dL_acts_346 : decode cL_acts 346 = .ok (.iload_n 3, 1) := by decide +kernel

