theorem dL_holds_577 : decode cL_holds 577 = .ok (.ifCond .lt 43, 3) := by decide +kernel
theorem dL_holds_580 : decode cL_holds 580 = .ok (.aload_n 0, 1) := by decide +kernel
theorem dL_holds_581 : decode cL_holds 581 = .ok (.iload 7, 2) := by decide +kernel
theorem dL_holds_583 : decode cL_holds 583 = .ok (.iconst 0, 1) := by decide +kernel
theorem dL_holds_584 : decode cL_holds 584 = .ok (.invokevirtual 87, 3) := by decide +kernel
theorem dL_holds_587 : decode cL_holds 587 = .ok (.sipush 700, 3) := by decide +kernel
theorem dL_holds_590 : decode cL_holds 590 = .ok (.if_icmp .gt 30, 3) := by decide +kernel
theorem dL_holds_593 : decode cL_holds 593 = .ok (.aload_n 0, 1) := by decide +kernel
theorem dL_holds_594 : decode cL_holds 594 = .ok (.iload 7, 2) := by decide +kernel
theorem dL_holds_596 : decode cL_holds 596 = .ok (.iconst 1, 1) := by decide +kernel
theorem dL_holds_597 : decode cL_holds 597 = .ok (.invokevirtual 87, 3) := by decide +kernel
theorem dL_holds_600 : decode cL_holds 600 = .ok (.ifCond .lt 20, 3) := by decide +kernel
theorem dL_holds_603 : decode cL_holds 603 = .ok (.aload_n 0, 1) := by decide +kernel
theorem dL_holds_604 : decode cL_holds 604 = .ok (.iload 7, 2) := by decide +kernel
theorem dL_holds_606 : decode cL_holds 606 = .ok (.iconst 1, 1) := by decide +kernel
theorem dL_holds_607 : decode cL_holds 607 = .ok (.invokevirtual 87, 3) := by decide +kernel
theorem dL_holds_610 : decode cL_holds 610 = .ok (.sipush 500, 3) := by decide +kernel
theorem dL_holds_613 : decode cL_holds 613 = .ok (.if_icmp .gt 7, 3) := by decide +kernel
theorem dL_holds_616 : decode cL_holds 616 = .ok (.iconst 1, 1) := by decide +kernel
theorem dL_holds_617 : decode cL_holds 617 = .ok (.goto 4, 3) := by decide +kernel
theorem dL_holds_620 : decode cL_holds 620 = .ok (.iconst 0, 1) := by decide +kernel
theorem dL_holds_621 : decode cL_holds 621 = .ok (.istore 6, 2) := by decide +kernel
theorem dL_holds_623 : decode cL_holds 623 = .ok (.iload 8, 2) := by decide +kernel
theorem dL_holds_625 : decode cL_holds 625 = .ok (.istore 4, 2) := by decide +kernel
theorem dL_holds_627 : decode cL_holds 627 = .ok (.iinc 7 1, 3) := by decide +kernel
theorem dL_holds_630 : decode cL_holds 630 = .ok (.goto (-193), 3) := by decide +kernel
theorem dL_holds_633 : decode cL_holds 633 = .ok (.iload 6, 2) := by decide +kernel
theorem dL_holds_635 : decode cL_holds 635 = .ok (.ifCond .eq 65, 3) := by decide +kernel
theorem dL_holds_638 : decode cL_holds 638 = .ok (.iload_n 1, 1) := by decide +kernel
theorem dL_holds_639 : decode cL_holds 639 = .ok (.iload_n 2, 1) := by decide +kernel
theorem dL_holds_640 : decode cL_holds 640 = .ok (.if_icmp .gt 60, 3) := by decide +kernel
theorem dL_holds_643 : decode cL_holds 643 = .ok (.iload_n 2, 1) := by decide +kernel
theorem dL_holds_644 : decode cL_holds 644 = .ok (.ifCond .ne 7, 3) := by decide +kernel
theorem dL_holds_647 : decode cL_holds 647 = .ok (.iconst 1, 1) := by decide +kernel
theorem dL_holds_648 : decode cL_holds 648 = .ok (.goto 4, 3) := by decide +kernel
theorem dL_holds_651 : decode cL_holds 651 = .ok (.iconst 0, 1) := by decide +kernel
theorem dL_holds_652 : decode cL_holds 652 = .ok (.iload_n 1, 1) := by decide +kernel
theorem dL_holds_653 : decode cL_holds 653 = .ok (.ifCond .ne 7, 3) := by decide +kernel
theorem dL_holds_656 : decode cL_holds 656 = .ok (.iconst 1, 1) := by decide +kernel
theorem dL_holds_657 : decode cL_holds 657 = .ok (.goto 4, 3) := by decide +kernel
theorem dL_holds_660 : decode cL_holds 660 = .ok (.iconst 0, 1) := by decide +kernel
theorem dL_holds_661 : decode cL_holds 661 = .ok (.if_icmp .ne 39, 3) := by decide +kernel
theorem dL_holds_664 : decode cL_holds 664 = .ok (.aload_n 0, 1) := by decide +kernel
theorem dL_holds_665 : decode cL_holds 665 = .ok (.iload 5, 2) := by decide +kernel
theorem dL_holds_667 : decode cL_holds 667 = .ok (.iconst 0, 1) := by decide +kernel
theorem dL_holds_668 : decode cL_holds 668 = .ok (.invokevirtual 87, 3) := by decide +kernel
theorem dL_holds_671 : decode cL_holds 671 = .ok (.iconst (-1), 1) := by decide +kernel
theorem dL_holds_672 : decode cL_holds 672 = .ok (.if_icmp .ne 28, 3) := by decide +kernel
theorem dL_holds_675 : decode cL_holds 675 = .ok (.aload_n 0, 1) := by decide +kernel
theorem dL_holds_676 : decode cL_holds 676 = .ok (.invokevirtual 52, 3) := by decide +kernel
theorem dL_holds_679 : decode cL_holds 679 = .ok (.iload_n 2, 1) := by decide +kernel
theorem dL_holds_680 : decode cL_holds 680 = .ok (.ifCond .ne 7, 3) := by decide +kernel
theorem dL_holds_683 : decode cL_holds 683 = .ok (.fconst 0, 1) := by decide +kernel
theorem dL_holds_684 : decode cL_holds 684 = .ok (.goto 8, 3) := by decide +kernel
theorem dL_holds_687 : decode cL_holds 687 = .ok (.iload_n 3, 1) := by decide +kernel
theorem dL_holds_688 : decode cL_holds 688 = .ok (.i2f, 1) := by decide +kernel
theorem dL_holds_689 : decode cL_holds 689 = .ok (.iload_n 2, 1) := by decide +kernel
theorem dL_holds_690 : decode cL_holds 690 = .ok (.i2f, 1) := by decide +kernel
theorem dL_holds_691 : decode cL_holds 691 = .ok (.fdiv, 1) := by decide +kernel
theorem dL_holds_692 : decode cL_holds 692 = .ok (.fcmp .l, 1) := by decide +kernel
theorem dL_holds_693 : decode cL_holds 693 = .ok (.ifCond .ne 7, 3) := by decide +kernel
theorem dL_holds_696 : decode cL_holds 696 = .ok (.iconst 1, 1) := by decide +kernel
theorem dL_holds_697 : decode cL_holds 697 = .ok (.goto 4, 3) := by decide +kernel
theorem dL_holds_700 : decode cL_holds 700 = .ok (.iconst 0, 1) := by decide +kernel
theorem dL_holds_701 : decode cL_holds 701 = .ok (.ireturn, 1) := by decide +kernel
theorem dL_isMatched_0 : decode cL_isMatched 0 = .ok (.aload_n 0, 1) := by decide +kernel
theorem dL_isMatched_1 : decode cL_isMatched 1 = .ok (.iconst 3, 1) := by decide +kernel
theorem dL_isMatched_2 : decode cL_isMatched 2 = .ok (.invokevirtual 36, 3) := by decide +kernel
theorem dL_isMatched_5 : decode cL_isMatched 5 = .ok (.aload_n 0, 1) := by decide +kernel
theorem dL_isMatched_6 : decode cL_isMatched 6 = .ok (.iconst 3, 1) := by decide +kernel
theorem dL_isMatched_7 : decode cL_isMatched 7 = .ok (.invokevirtual 36, 3) := by decide +kernel
theorem dL_isMatched_10 : decode cL_isMatched 10 = .ok (.imul, 1) := by decide +kernel
theorem dL_isMatched_11 : decode cL_isMatched 11 = .ok (.istore_n 1, 1) := by decide +kernel
theorem dL_isMatched_12 : decode cL_isMatched 12 = .ok (.iconst 0, 1) := by decide +kernel
theorem dL_isMatched_13 : decode cL_isMatched 13 = .ok (.istore_n 2, 1) := by decide +kernel
theorem dL_isMatched_14 : decode cL_isMatched 14 = .ok (.iconst 0, 1) := by decide +kernel
theorem dL_isMatched_15 : decode cL_isMatched 15 = .ok (.istore_n 3, 1) := by decide +kernel
theorem dL_isMatched_16 : decode cL_isMatched 16 = .ok (.iconst 0, 1) := by decide +kernel
theorem dL_isMatched_17 : decode cL_isMatched 17 = .ok (.istore 4, 2) := by decide +kernel
theorem dL_isMatched_19 : decode cL_isMatched 19 = .ok (.bipush 6, 2) := by decide +kernel
theorem dL_isMatched_21 : decode cL_isMatched 21 = .ok (.newarray .int, 2) := by decide +kernel
theorem dL_isMatched_23 : decode cL_isMatched 23 = .ok (.astore 5, 2) := by decide +kernel
theorem dL_isMatched_25 : decode cL_isMatched 25 = .ok (.iconst 1, 1) := by decide +kernel
theorem dL_isMatched_26 : decode cL_isMatched 26 = .ok (.istore 6, 2) := by decide +kernel
theorem dL_isMatched_28 : decode cL_isMatched 28 = .ok (.iconst 0, 1) := by decide +kernel
theorem dL_isMatched_29 : decode cL_isMatched 29 = .ok (.istore 7, 2) := by decide +kernel
theorem dL_isMatched_31 : decode cL_isMatched 31 = .ok (.iload 7, 2) := by decide +kernel
theorem dL_isMatched_33 : decode cL_isMatched 33 = .ok (.bipush 6, 2) := by decide +kernel
theorem dL_isMatched_35 : decode cL_isMatched 35 = .ok (.if_icmp .ge 139, 3) := by decide +kernel
theorem dL_isMatched_38 : decode cL_isMatched 38 = .ok (.aload 5, 2) := by decide +kernel
theorem dL_isMatched_40 : decode cL_isMatched 40 = .ok (.iload 7, 2) := by decide +kernel
theorem dL_isMatched_42 : decode cL_isMatched 42 = .ok (.aload_n 0, 1) := by decide +kernel
theorem dL_isMatched_43 : decode cL_isMatched 43 = .ok (.iload 7, 2) := by decide +kernel
theorem dL_isMatched_45 : decode cL_isMatched 45 = .ok (.invokevirtual 84, 3) := by decide +kernel
theorem dL_isMatched_48 : decode cL_isMatched 48 = .ok (.iastore, 1) := by decide +kernel
theorem dL_isMatched_49 : decode cL_isMatched 49 = .ok (.iload 4, 2) := by decide +kernel
theorem dL_isMatched_51 : decode cL_isMatched 51 = .ok (.aload_n 0, 1) := by decide +kernel
theorem dL_isMatched_52 : decode cL_isMatched 52 = .ok (.iload 7, 2) := by decide +kernel
theorem dL_isMatched_54 : decode cL_isMatched 54 = .ok (.invokevirtual 40, 3) := by decide +kernel
theorem dL_isMatched_57 : decode cL_isMatched 57 = .ok (.ifCond .eq 7, 3) := by decide +kernel
theorem dL_isMatched_60 : decode cL_isMatched 60 = .ok (.iconst 1, 1) := by decide +kernel
theorem dL_isMatched_61 : decode cL_isMatched 61 = .ok (.goto 4, 3) := by decide +kernel
theorem dL_isMatched_64 : decode cL_isMatched 64 = .ok (.iconst 0, 1) := by decide +kernel
theorem dL_isMatched_65 : decode cL_isMatched 65 = .ok (.iadd, 1) := by decide +kernel
theorem dL_isMatched_66 : decode cL_isMatched 66 = .ok (.istore 4, 2) := by decide +kernel
theorem dL_isMatched_68 : decode cL_isMatched 68 = .ok (.aload 5, 2) := by decide +kernel
theorem dL_isMatched_70 : decode cL_isMatched 70 = .ok (.iload 7, 2) := by decide +kernel
theorem dL_isMatched_72 : decode cL_isMatched 72 = .ok (.iaload, 1) := by decide +kernel
theorem dL_isMatched_73 : decode cL_isMatched 73 = .ok (.ifCond .lt 78, 3) := by decide +kernel
theorem dL_isMatched_76 : decode cL_isMatched 76 = .ok (.iload 6, 2) := by decide +kernel
theorem dL_isMatched_78 : decode cL_isMatched 78 = .ok (.ifCond .eq 43, 3) := by decide +kernel
theorem dL_isMatched_81 : decode cL_isMatched 81 = .ok (.aload_n 0, 1) := by decide +kernel
theorem dL_isMatched_82 : decode cL_isMatched 82 = .ok (.iload 7, 2) := by decide +kernel
theorem dL_isMatched_84 : decode cL_isMatched 84 = .ok (.invokevirtual 40, 3) := by decide +kernel
theorem dL_isMatched_87 : decode cL_isMatched 87 = .ok (.ifCond .eq 34, 3) := by decide +kernel
theorem dL_isMatched_90 : decode cL_isMatched 90 = .ok (.iload_n 2, 1) := by decide +kernel
theorem dL_isMatched_91 : decode cL_isMatched 91 = .ok (.aload 5, 2) := by decide +kernel
theorem dL_isMatched_93 : decode cL_isMatched 93 = .ok (.iload 7, 2) := by decide +kernel
theorem dL_isMatched_95 : decode cL_isMatched 95 = .ok (.iaload, 1) := by decide +kernel
theorem dL_isMatched_96 : decode cL_isMatched 96 = .ok (.ishr, 1) := by decide +kernel
theorem dL_isMatched_97 : decode cL_isMatched 97 = .ok (.iconst 1, 1) := by decide +kernel
theorem dL_isMatched_98 : decode cL_isMatched 98 = .ok (.iand, 1) := by decide +kernel
theorem dL_isMatched_99 : decode cL_isMatched 99 = .ok (.ifCond .ne 22, 3) := by decide +kernel
theorem dL_isMatched_102 : decode cL_isMatched 102 = .ok (.aload_n 0, 1) := by decide +kernel
theorem dL_isMatched_103 : decode cL_isMatched 103 = .ok (.iload 7, 2) := by decide +kernel
theorem dL_isMatched_105 : decode cL_isMatched 105 = .ok (.aload 5, 2) := by decide +kernel
theorem dL_isMatched_107 : decode cL_isMatched 107 = .ok (.iload 7, 2) := by decide +kernel
theorem dL_isMatched_109 : decode cL_isMatched 109 = .ok (.iaload, 1) := by decide +kernel
theorem dL_isMatched_110 : decode cL_isMatched 110 = .ok (.invokevirtual 105, 3) := by decide +kernel
theorem dL_isMatched_113 : decode cL_isMatched 113 = .ok (.iload_n 1, 1) := by decide +kernel
theorem dL_isMatched_114 : decode cL_isMatched 114 = .ok (.if_icmp .gt 7, 3) := by decide +kernel
theorem dL_isMatched_117 : decode cL_isMatched 117 = .ok (.iconst 1, 1) := by decide +kernel
theorem dL_isMatched_118 : decode cL_isMatched 118 = .ok (.goto 4, 3) := by decide +kernel
theorem dL_isMatched_121 : decode cL_isMatched 121 = .ok (.iconst 0, 1) := by decide +kernel
theorem dL_isMatched_122 : decode cL_isMatched 122 = .ok (.istore 6, 2) := by decide +kernel
theorem dL_isMatched_124 : decode cL_isMatched 124 = .ok (.iload_n 2, 1) := by decide +kernel
theorem dL_isMatched_125 : decode cL_isMatched 125 = .ok (.iconst 1, 1) := by decide +kernel
theorem dL_isMatched_126 : decode cL_isMatched 126 = .ok (.aload 5, 2) := by decide +kernel
theorem dL_isMatched_128 : decode cL_isMatched 128 = .ok (.iload 7, 2) := by decide +kernel
theorem dL_isMatched_130 : decode cL_isMatched 130 = .ok (.iaload, 1) := by decide +kernel
theorem dL_isMatched_131 : decode cL_isMatched 131 = .ok (.ishl, 1) := by decide +kernel
theorem dL_isMatched_132 : decode cL_isMatched 132 = .ok (.ior, 1) := by decide +kernel
theorem dL_isMatched_133 : decode cL_isMatched 133 = .ok (.istore_n 2, 1) := by decide +kernel
theorem dL_isMatched_134 : decode cL_isMatched 134 = .ok (.iload_n 3, 1) := by decide +kernel
theorem dL_isMatched_135 : decode cL_isMatched 135 = .ok (.aload_n 0, 1) := by decide +kernel
theorem dL_isMatched_136 : decode cL_isMatched 136 = .ok (.iload 7, 2) := by decide +kernel
theorem dL_isMatched_138 : decode cL_isMatched 138 = .ok (.aload 5, 2) := by decide +kernel
theorem dL_isMatched_140 : decode cL_isMatched 140 = .ok (.iload 7, 2) := by decide +kernel
theorem dL_isMatched_142 : decode cL_isMatched 142 = .ok (.iaload, 1) := by decide +kernel
theorem dL_isMatched_143 : decode cL_isMatched 143 = .ok (.invokevirtual 105, 3) := by decide +kernel
theorem dL_isMatched_146 : decode cL_isMatched 146 = .ok (.iadd, 1) := by decide +kernel
theorem dL_isMatched_147 : decode cL_isMatched 147 = .ok (.istore_n 3, 1) := by decide +kernel
theorem dL_isMatched_148 : decode cL_isMatched 148 = .ok (.goto 20, 3) := by decide +kernel
theorem dL_isMatched_151 : decode cL_isMatched 151 = .ok (.iload_n 3, 1) := by decide +kernel
theorem dL_isMatched_152 : decode cL_isMatched 152 = .ok (.aload_n 0, 1) := by decide +kernel
theorem dL_isMatched_153 : decode cL_isMatched 153 = .ok (.iload 7, 2) := by decide +kernel
theorem dL_isMatched_155 : decode cL_isMatched 155 = .ok (.invokevirtual 40, 3) := by decide +kernel
theorem dL_isMatched_158 : decode cL_isMatched 158 = .ok (.ifCond .eq 7, 3) := by decide +kernel
theorem dL_isMatched_161 : decode cL_isMatched 161 = .ok (.iload_n 1, 1) := by decide +kernel
theorem dL_isMatched_162 : decode cL_isMatched 162 = .ok (.goto 4, 3) := by decide +kernel
theorem dL_isMatched_165 : decode cL_isMatched 165 = .ok (.iconst 0, 1) := by decide +kernel
theorem dL_isMatched_166 : decode cL_isMatched 166 = .ok (.iadd, 1) := by decide +kernel
theorem dL_isMatched_167 : decode cL_isMatched 167 = .ok (.istore_n 3, 1) := by decide +kernel
theorem dL_isMatched_168 : decode cL_isMatched 168 = .ok (.iinc 7 1, 3) := by decide +kernel
theorem dL_isMatched_171 : decode cL_isMatched 171 = .ok (.goto (-140), 3) := by decide +kernel
theorem dL_isMatched_174 : decode cL_isMatched 174 = .ok (.iload 6, 2) := by decide +kernel
theorem dL_isMatched_176 : decode cL_isMatched 176 = .ok (.ifCond .eq 23, 3) := by decide +kernel
theorem dL_isMatched_179 : decode cL_isMatched 179 = .ok (.aload_n 0, 1) := by decide +kernel
theorem dL_isMatched_180 : decode cL_isMatched 180 = .ok (.invokevirtual 108, 3) := by decide +kernel
theorem dL_isMatched_183 : decode cL_isMatched 183 = .ok (.iload_n 3, 1) := by decide +kernel
theorem dL_isMatched_184 : decode cL_isMatched 184 = .ok (.if_icmp .ne 15, 3) := by decide +kernel
theorem dL_isMatched_187 : decode cL_isMatched 187 = .ok (.iload_n 3, 1) := by decide +kernel
theorem dL_isMatched_188 : decode cL_isMatched 188 = .ok (.iload_n 1, 1) := by decide +kernel
theorem dL_isMatched_189 : decode cL_isMatched 189 = .ok (.iload 4, 2) := by decide +kernel
theorem dL_isMatched_191 : decode cL_isMatched 191 = .ok (.imul, 1) := by decide +kernel
theorem dL_isMatched_192 : decode cL_isMatched 192 = .ok (.if_icmp .gt 7, 3) := by decide +kernel
theorem dL_isMatched_195 : decode cL_isMatched 195 = .ok (.iconst 1, 1) := by decide +kernel
theorem dL_isMatched_196 : decode cL_isMatched 196 = .ok (.goto 4, 3) := by decide +kernel
theorem dL_isMatched_199 : decode cL_isMatched 199 = .ok (.iconst 0, 1) := by decide +kernel
theorem dL_isMatched_200 : decode cL_isMatched 200 = .ok (.istore 6, 2) := by decide +kernel
theorem dL_isMatched_202 : decode cL_isMatched 202 = .ok (.iconst 0, 1) := by decide +kernel
theorem dL_isMatched_203 : decode cL_isMatched 203 = .ok (.istore 7, 2) := by decide +kernel
theorem dL_isMatched_205 : decode cL_isMatched 205 = .ok (.iload 7, 2) := by decide +kernel
theorem dL_isMatched_207 : decode cL_isMatched 207 = .ok (.bipush 36, 2) := by decide +kernel
theorem dL_isMatched_209 : decode cL_isMatched 209 = .ok (.if_icmp .ge 261, 3) := by decide +kernel
theorem dL_isMatched_212 : decode cL_isMatched 212 = .ok (.iload 6, 2) := by decide +kernel
theorem dL_isMatched_214 : decode cL_isMatched 214 = .ok (.ifCond .eq 256, 3) := by decide +kernel
theorem dL_isMatched_217 : decode cL_isMatched 217 = .ok (.iload 7, 2) := by decide +kernel
theorem dL_isMatched_219 : decode cL_isMatched 219 = .ok (.bipush 6, 2) := by decide +kernel
theorem dL_isMatched_221 : decode cL_isMatched 221 = .ok (.idiv, 1) := by decide +kernel
theorem dL_isMatched_222 : decode cL_isMatched 222 = .ok (.istore 8, 2) := by decide +kernel
theorem dL_isMatched_224 : decode cL_isMatched 224 = .ok (.iload 7, 2) := by decide +kernel
theorem dL_isMatched_226 : decode cL_isMatched 226 = .ok (.bipush 6, 2) := by decide +kernel
theorem dL_isMatched_228 : decode cL_isMatched 228 = .ok (.irem, 1) := by decide +kernel
theorem dL_isMatched_229 : decode cL_isMatched 229 = .ok (.istore 9, 2) := by decide +kernel
theorem dL_isMatched_231 : decode cL_isMatched 231 = .ok (.iload 8, 2) := by decide +kernel
theorem dL_isMatched_233 : decode cL_isMatched 233 = .ok (.iload 9, 2) := by decide +kernel
theorem dL_isMatched_235 : decode cL_isMatched 235 = .ok (.if_icmp .eq 23, 3) := by decide +kernel
theorem dL_isMatched_238 : decode cL_isMatched 238 = .ok (.aload 5, 2) := by decide +kernel
theorem dL_isMatched_240 : decode cL_isMatched 240 = .ok (.iload 8, 2) := by decide +kernel
theorem dL_isMatched_242 : decode cL_isMatched 242 = .ok (.iaload, 1) := by decide +kernel
theorem dL_isMatched_243 : decode cL_isMatched 243 = .ok (.ifCond .lt 15, 3) := by decide +kernel
theorem dL_isMatched_246 : decode cL_isMatched 246 = .ok (.aload 5, 2) := by decide +kernel
theorem dL_isMatched_248 : decode cL_isMatched 248 = .ok (.iload 9, 2) := by decide +kernel
theorem dL_isMatched_250 : decode cL_isMatched 250 = .ok (.iaload, 1) := by decide +kernel
theorem dL_isMatched_251 : decode cL_isMatched 251 = .ok (.ifCond .lt 7, 3) := by decide +kernel
theorem dL_isMatched_254 : decode cL_isMatched 254 = .ok (.iconst 1, 1) := by decide +kernel
theorem dL_isMatched_255 : decode cL_isMatched 255 = .ok (.goto 4, 3) := by decide +kernel
theorem dL_isMatched_258 : decode cL_isMatched 258 = .ok (.iconst 0, 1) := by decide +kernel
theorem dL_isMatched_259 : decode cL_isMatched 259 = .ok (.istore 10, 2) := by decide +kernel
theorem dL_isMatched_261 : decode cL_isMatched 261 = .ok (.iload 10, 2) := by decide +kernel
theorem dL_isMatched_263 : decode cL_isMatched 263 = .ok (.ifCond .eq 17, 3) := by decide +kernel
theorem dL_isMatched_266 : decode cL_isMatched 266 = .ok (.aload_n 0, 1) := by decide +kernel
theorem dL_isMatched_267 : decode cL_isMatched 267 = .ok (.iload 8, 2) := by decide +kernel
theorem dL_isMatched_269 : decode cL_isMatched 269 = .ok (.aload 5, 2) := by decide +kernel
theorem dL_isMatched_271 : decode cL_isMatched 271 = .ok (.iload 9, 2) := by decide +kernel
theorem dL_isMatched_273 : decode cL_isMatched 273 = .ok (.iaload, 1) := by decide +kernel
theorem dL_isMatched_274 : decode cL_isMatched 274 = .ok (.invokevirtual 105, 3) := by decide +kernel
theorem dL_isMatched_277 : decode cL_isMatched 277 = .ok (.goto 4, 3) := by decide +kernel
theorem dL_isMatched_280 : decode cL_isMatched 280 = .ok (.iconst 0, 1) := by decide +kernel
theorem dL_isMatched_281 : decode cL_isMatched 281 = .ok (.istore 11, 2) := by decide +kernel
theorem dL_isMatched_283 : decode cL_isMatched 283 = .ok (.iload 10, 2) := by decide +kernel
theorem dL_isMatched_285 : decode cL_isMatched 285 = .ok (.ifCond .eq 17, 3) := by decide +kernel
theorem dL_isMatched_288 : decode cL_isMatched 288 = .ok (.aload_n 0, 1) := by decide +kernel
theorem dL_isMatched_289 : decode cL_isMatched 289 = .ok (.iload 9, 2) := by decide +kernel
theorem dL_isMatched_291 : decode cL_isMatched 291 = .ok (.aload 5, 2) := by decide +kernel
theorem dL_isMatched_293 : decode cL_isMatched 293 = .ok (.iload 8, 2) := by decide +kernel
theorem dL_isMatched_295 : decode cL_isMatched 295 = .ok (.iaload, 1) := by decide +kernel
theorem dL_isMatched_296 : decode cL_isMatched 296 = .ok (.invokevirtual 105, 3) := by decide +kernel
theorem dL_isMatched_299 : decode cL_isMatched 299 = .ok (.goto 4, 3) := by decide +kernel
theorem dL_isMatched_302 : decode cL_isMatched 302 = .ok (.iconst 0, 1) := by decide +kernel
theorem dL_isMatched_303 : decode cL_isMatched 303 = .ok (.istore 12, 2) := by decide +kernel
theorem dL_isMatched_305 : decode cL_isMatched 305 = .ok (.iload 10, 2) := by decide +kernel
theorem dL_isMatched_307 : decode cL_isMatched 307 = .ok (.ifCond .eq 46, 3) := by decide +kernel
theorem dL_isMatched_310 : decode cL_isMatched 310 = .ok (.iload 11, 2) := by decide +kernel
theorem dL_isMatched_312 : decode cL_isMatched 312 = .ok (.iload_n 1, 1) := by decide +kernel
theorem dL_isMatched_313 : decode cL_isMatched 313 = .ok (.if_icmp .gt 40, 3) := by decide +kernel
theorem dL_isMatched_316 : decode cL_isMatched 316 = .ok (.iload 12, 2) := by decide +kernel
theorem dL_isMatched_318 : decode cL_isMatched 318 = .ok (.iload_n 1, 1) := by decide +kernel
theorem dL_isMatched_319 : decode cL_isMatched 319 = .ok (.if_icmp .gt 34, 3) := by decide +kernel
theorem dL_isMatched_322 : decode cL_isMatched 322 = .ok (.iload 11, 2) := by decide +kernel
theorem dL_isMatched_324 : decode cL_isMatched 324 = .ok (.iload 12, 2) := by decide +kernel
theorem dL_isMatched_326 : decode cL_isMatched 326 = .ok (.iadd, 1) := by decide +kernel
theorem dL_isMatched_327 : decode cL_isMatched 327 = .ok (.aload_n 0, 1) := by decide +kernel
theorem dL_isMatched_328 : decode cL_isMatched 328 = .ok (.iload 8, 2) := by decide +kernel
theorem dL_isMatched_330 : decode cL_isMatched 330 = .ok (.aload 5, 2) := by decide +kernel
theorem dL_isMatched_332 : decode cL_isMatched 332 = .ok (.iload 8, 2) := by decide +kernel
theorem dL_isMatched_334 : decode cL_isMatched 334 = .ok (.iaload, 1) := by decide +kernel
theorem dL_isMatched_335 : decode cL_isMatched 335 = .ok (.invokevirtual 105, 3) := by decide +kernel
theorem dL_isMatched_338 : decode cL_isMatched 338 = .ok (.aload_n 0, 1) := by decide +kernel
theorem dL_isMatched_339 : decode cL_isMatched 339 = .ok (.iload 9, 2) := by decide +kernel
theorem dL_isMatched_341 : decode cL_isMatched 341 = .ok (.aload 5, 2) := by decide +kernel
theorem dL_isMatched_343 : decode cL_isMatched 343 = .ok (.iload 9, 2) := by decide +kernel
theorem dL_isMatched_345 : decode cL_isMatched 345 = .ok (.iaload, 1) := by decide +kernel
theorem dL_isMatched_346 : decode cL_isMatched 346 = .ok (.invokevirtual 105, 3) := by decide +kernel
theorem dL_isMatched_349 : decode cL_isMatched 349 = .ok (.iadd, 1) := by decide +kernel
theorem dL_isMatched_350 : decode cL_isMatched 350 = .ok (.if_icmp .lt 7, 3) := by decide +kernel
theorem dL_isMatched_353 : decode cL_isMatched 353 = .ok (.iconst 1, 1) := by decide +kernel
theorem dL_isMatched_354 : decode cL_isMatched 354 = .ok (.goto 4, 3) := by decide +kernel
theorem dL_isMatched_357 : decode cL_isMatched 357 = .ok (.iconst 0, 1) := by decide +kernel
theorem dL_isMatched_358 : decode cL_isMatched 358 = .ok (.istore 6, 2) := by decide +kernel
theorem dL_isMatched_360 : decode cL_isMatched 360 = .ok (.iload 9, 2) := by decide +kernel
theorem dL_isMatched_362 : decode cL_isMatched 362 = .ok (.aload_n 0, 1) := by decide +kernel
theorem dL_isMatched_363 : decode cL_isMatched 363 = .ok (.invokevirtual 23, 3) := by decide +kernel
theorem dL_isMatched_366 : decode cL_isMatched 366 = .ok (.if_icmp .ge 25, 3) := by decide +kernel
theorem dL_isMatched_369 : decode cL_isMatched 369 = .ok (.iload_n 2, 1) := by decide +kernel
theorem dL_isMatched_370 : decode cL_isMatched 370 = .ok (.iload 9, 2) := by decide +kernel
theorem dL_isMatched_372 : decode cL_isMatched 372 = .ok (.ishr, 1) := by decide +kernel
theorem dL_isMatched_373 : decode cL_isMatched 373 = .ok (.iconst 1, 1) := by decide +kernel
theorem dL_isMatched_374 : decode cL_isMatched 374 = .ok (.iand, 1) := by decide +kernel
theorem dL_isMatched_375 : decode cL_isMatched 375 = .ok (.ifCond .ne 16, 3) := by decide +kernel
theorem dL_isMatched_378 : decode cL_isMatched 378 = .ok (.aload_n 0, 1) := by decide +kernel
theorem dL_isMatched_379 : decode cL_isMatched 379 = .ok (.iload 8, 2) := by decide +kernel
theorem dL_isMatched_381 : decode cL_isMatched 381 = .ok (.invokevirtual 40, 3) := by decide +kernel
theorem dL_isMatched_384 : decode cL_isMatched 384 = .ok (.ifCond .eq 7, 3) := by decide +kernel
theorem dL_isMatched_387 : decode cL_isMatched 387 = .ok (.iconst 1, 1) := by decide +kernel
theorem dL_isMatched_388 : decode cL_isMatched 388 = .ok (.goto 4, 3) := by decide +kernel
theorem dL_isMatched_391 : decode cL_isMatched 391 = .ok (.iconst 0, 1) := by decide +kernel
theorem dL_isMatched_392 : decode cL_isMatched 392 = .ok (.istore 13, 2) := by decide +kernel
theorem dL_isMatched_394 : decode cL_isMatched 394 = .ok (.iload 13, 2) := by decide +kernel
theorem dL_isMatched_396 : decode cL_isMatched 396 = .ok (.ifCond .eq 14, 3) := by decide +kernel
theorem dL_isMatched_399 : decode cL_isMatched 399 = .ok (.aload_n 0, 1) := by decide +kernel
theorem dL_isMatched_400 : decode cL_isMatched 400 = .ok (.iload 8, 2) := by decide +kernel
theorem dL_isMatched_402 : decode cL_isMatched 402 = .ok (.iload 9, 2) := by decide +kernel
theorem dL_isMatched_404 : decode cL_isMatched 404 = .ok (.invokevirtual 105, 3) := by decide +kernel
theorem dL_isMatched_407 : decode cL_isMatched 407 = .ok (.goto 4, 3) := by decide +kernel
theorem dL_isMatched_410 : decode cL_isMatched 410 = .ok (.iconst 0, 1) := by decide +kernel
theorem dL_isMatched_411 : decode cL_isMatched 411 = .ok (.istore 14, 2) := by decide +kernel
theorem dL_isMatched_413 : decode cL_isMatched 413 = .ok (.iload 6, 2) := by decide +kernel
theorem dL_isMatched_415 : decode cL_isMatched 415 = .ok (.ifCond .eq 46, 3) := by decide +kernel
theorem dL_isMatched_418 : decode cL_isMatched 418 = .ok (.iload 13, 2) := by decide +kernel
theorem dL_isMatched_420 : decode cL_isMatched 420 = .ok (.ifCond .eq 37, 3) := by decide +kernel
theorem dL_isMatched_423 : decode cL_isMatched 423 = .ok (.iload 14, 2) := by decide +kernel
theorem dL_isMatched_425 : decode cL_isMatched 425 = .ok (.iload_n 1, 1) := by decide +kernel
theorem dL_isMatched_426 : decode cL_isMatched 426 = .ok (.if_icmp .gt 31, 3) := by decide +kernel
theorem dL_isMatched_429 : decode cL_isMatched 429 = .ok (.iload 14, 2) := by decide +kernel
theorem dL_isMatched_431 : decode cL_isMatched 431 = .ok (.aload 5, 2) := by decide +kernel
theorem dL_isMatched_433 : decode cL_isMatched 433 = .ok (.iload 8, 2) := by decide +kernel
theorem dL_isMatched_435 : decode cL_isMatched 435 = .ok (.iaload, 1) := by decide +kernel
theorem dL_isMatched_436 : decode cL_isMatched 436 = .ok (.ifCond .ge 7, 3) := by decide +kernel
theorem dL_isMatched_439 : decode cL_isMatched 439 = .ok (.iload_n 1, 1) := by decide +kernel
theorem dL_isMatched_440 : decode cL_isMatched 440 = .ok (.goto 14, 3) := by decide +kernel
theorem dL_isMatched_443 : decode cL_isMatched 443 = .ok (.aload_n 0, 1) := by decide +kernel
theorem dL_isMatched_444 : decode cL_isMatched 444 = .ok (.iload 8, 2) := by decide +kernel
theorem dL_isMatched_446 : decode cL_isMatched 446 = .ok (.aload 5, 2) := by decide +kernel
theorem dL_isMatched_448 : decode cL_isMatched 448 = .ok (.iload 8, 2) := by decide +kernel
theorem dL_isMatched_450 : decode cL_isMatched 450 = .ok (.iaload, 1) := by decide +kernel
theorem dL_isMatched_451 : decode cL_isMatched 451 = .ok (.invokevirtual 105, 3) := by decide +kernel
theorem dL_isMatched_454 : decode cL_isMatched 454 = .ok (.if_icmp .lt 7, 3) := by decide +kernel
theorem dL_isMatched_457 : decode cL_isMatched 457 = .ok (.iconst 1, 1) := by decide +kernel
theorem dL_isMatched_458 : decode cL_isMatched 458 = .ok (.goto 4, 3) := by decide +kernel
theorem dL_isMatched_461 : decode cL_isMatched 461 = .ok (.iconst 0, 1) := by decide +kernel
theorem dL_isMatched_462 : decode cL_isMatched 462 = .ok (.istore 6, 2) := by decide +kernel
theorem dL_isMatched_464 : decode cL_isMatched 464 = .ok (.iinc 7 1, 3) := by decide +kernel
theorem dL_isMatched_467 : decode cL_isMatched 467 = .ok (.goto (-262), 3) := by decide +kernel
theorem dL_isMatched_470 : decode cL_isMatched 470 = .ok (.iload 6, 2) := by decide +kernel
theorem dL_isMatched_472 : decode cL_isMatched 472 = .ok (.ireturn, 1) := by decide +kernel

