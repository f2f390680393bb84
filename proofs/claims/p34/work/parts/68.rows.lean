theorem dL_scans_317 : decode cL_scans 317 = .ok (.iconst 1, 1) := by decide +kernel
theorem dL_scans_318 : decode cL_scans 318 = .ok (.goto 4, 3) := by decide +kernel
theorem dL_scans_321 : decode cL_scans 321 = .ok (.iconst 0, 1) := by decide +kernel
theorem dL_scans_322 : decode cL_scans 322 = .ok (.if_icmp .gt 7, 3) := by decide +kernel
theorem dL_scans_325 : decode cL_scans 325 = .ok (.iconst 1, 1) := by decide +kernel
theorem dL_scans_326 : decode cL_scans 326 = .ok (.goto 4, 3) := by decide +kernel
theorem dL_scans_329 : decode cL_scans 329 = .ok (.iconst 0, 1) := by decide +kernel
theorem dL_scans_330 : decode cL_scans 330 = .ok (.istore 10, 2) := by decide +kernel
theorem dL_scans_332 : decode cL_scans 332 = .ok (.iinc 11 1, 3) := by decide +kernel
theorem dL_scans_335 : decode cL_scans 335 = .ok (.goto (-116), 3) := by decide +kernel
theorem dL_scans_338 : decode cL_scans 338 = .ok (.iload 10, 2) := by decide +kernel
theorem dL_scans_340 : decode cL_scans 340 = .ok (.ireturn, 1) := by decide +kernel
theorem dL_holds_0 : decode cL_holds 0 = .ok (.iconst 0, 1) := by decide +kernel
theorem dL_holds_1 : decode cL_holds 1 = .ok (.istore_n 1, 1) := by decide +kernel
theorem dL_holds_2 : decode cL_holds 2 = .ok (.iconst 0, 1) := by decide +kernel
theorem dL_holds_3 : decode cL_holds 3 = .ok (.istore_n 2, 1) := by decide +kernel
theorem dL_holds_4 : decode cL_holds 4 = .ok (.iconst 0, 1) := by decide +kernel
theorem dL_holds_5 : decode cL_holds 5 = .ok (.istore_n 3, 1) := by decide +kernel
theorem dL_holds_6 : decode cL_holds 6 = .ok (.iconst (-1), 1) := by decide +kernel
theorem dL_holds_7 : decode cL_holds 7 = .ok (.istore 4, 2) := by decide +kernel
theorem dL_holds_9 : decode cL_holds 9 = .ok (.aload_n 0, 1) := by decide +kernel
theorem dL_holds_10 : decode cL_holds 10 = .ok (.invokevirtual 23, 3) := by decide +kernel
theorem dL_holds_13 : decode cL_holds 13 = .ok (.istore 5, 2) := by decide +kernel
theorem dL_holds_15 : decode cL_holds 15 = .ok (.iload 5, 2) := by decide +kernel
theorem dL_holds_17 : decode cL_holds 17 = .ok (.ifCond .lt 33, 3) := by decide +kernel
theorem dL_holds_20 : decode cL_holds 20 = .ok (.iload 5, 2) := by decide +kernel
theorem dL_holds_22 : decode cL_holds 22 = .ok (.bipush 6, 2) := by decide +kernel
theorem dL_holds_24 : decode cL_holds 24 = .ok (.if_icmp .gt 26, 3) := by decide +kernel
theorem dL_holds_27 : decode cL_holds 27 = .ok (.aload_n 0, 1) := by decide +kernel
theorem dL_holds_28 : decode cL_holds 28 = .ok (.invokevirtual 17, 3) := by decide +kernel
theorem dL_holds_31 : decode cL_holds 31 = .ok (.aload_n 0, 1) := by decide +kernel
theorem dL_holds_32 : decode cL_holds 32 = .ok (.invokevirtual 20, 3) := by decide +kernel
theorem dL_holds_35 : decode cL_holds 35 = .ok (.isub, 1) := by decide +kernel
theorem dL_holds_36 : decode cL_holds 36 = .ok (.aload_n 0, 1) := by decide +kernel
theorem dL_holds_37 : decode cL_holds 37 = .ok (.invokestatic 80, 3) := by decide +kernel
theorem dL_holds_40 : decode cL_holds 40 = .ok (.invokestatic 93, 3) := by decide +kernel
theorem dL_holds_43 : decode cL_holds 43 = .ok (.if_icmp .ne 7, 3) := by decide +kernel
theorem dL_holds_46 : decode cL_holds 46 = .ok (.iconst 1, 1) := by decide +kernel
theorem dL_holds_47 : decode cL_holds 47 = .ok (.goto 4, 3) := by decide +kernel
theorem dL_holds_50 : decode cL_holds 50 = .ok (.iconst 0, 1) := by decide +kernel
theorem dL_holds_51 : decode cL_holds 51 = .ok (.istore 6, 2) := by decide +kernel
theorem dL_holds_53 : decode cL_holds 53 = .ok (.iconst 0, 1) := by decide +kernel
theorem dL_holds_54 : decode cL_holds 54 = .ok (.istore 7, 2) := by decide +kernel
theorem dL_holds_56 : decode cL_holds 56 = .ok (.iload 7, 2) := by decide +kernel
theorem dL_holds_58 : decode cL_holds 58 = .ok (.bipush 48, 2) := by decide +kernel
theorem dL_holds_60 : decode cL_holds 60 = .ok (.if_icmp .ge 350, 3) := by decide +kernel
theorem dL_holds_63 : decode cL_holds 63 = .ok (.aload_n 0, 1) := by decide +kernel
theorem dL_holds_64 : decode cL_holds 64 = .ok (.iload 7, 2) := by decide +kernel
theorem dL_holds_66 : decode cL_holds 66 = .ok (.bipush 6, 2) := by decide +kernel
theorem dL_holds_68 : decode cL_holds 68 = .ok (.idiv, 1) := by decide +kernel
theorem dL_holds_69 : decode cL_holds 69 = .ok (.iload 7, 2) := by decide +kernel
theorem dL_holds_71 : decode cL_holds 71 = .ok (.bipush 6, 2) := by decide +kernel
theorem dL_holds_73 : decode cL_holds 73 = .ok (.irem, 1) := by decide +kernel
theorem dL_holds_74 : decode cL_holds 74 = .ok (.invokevirtual 30, 3) := by decide +kernel
theorem dL_holds_77 : decode cL_holds 77 = .ok (.istore 8, 2) := by decide +kernel
theorem dL_holds_79 : decode cL_holds 79 = .ok (.aload_n 0, 1) := by decide +kernel
theorem dL_holds_80 : decode cL_holds 80 = .ok (.iload 7, 2) := by decide +kernel
theorem dL_holds_82 : decode cL_holds 82 = .ok (.bipush 6, 2) := by decide +kernel
theorem dL_holds_84 : decode cL_holds 84 = .ok (.idiv, 1) := by decide +kernel
theorem dL_holds_85 : decode cL_holds 85 = .ok (.iload 7, 2) := by decide +kernel
theorem dL_holds_87 : decode cL_holds 87 = .ok (.bipush 6, 2) := by decide +kernel
theorem dL_holds_89 : decode cL_holds 89 = .ok (.irem, 1) := by decide +kernel
theorem dL_holds_90 : decode cL_holds 90 = .ok (.invokevirtual 96, 3) := by decide +kernel
theorem dL_holds_93 : decode cL_holds 93 = .ok (.istore 9, 2) := by decide +kernel
theorem dL_holds_95 : decode cL_holds 95 = .ok (.aload_n 0, 1) := by decide +kernel
theorem dL_holds_96 : decode cL_holds 96 = .ok (.iload 7, 2) := by decide +kernel
theorem dL_holds_98 : decode cL_holds 98 = .ok (.bipush 6, 2) := by decide +kernel
theorem dL_holds_100 : decode cL_holds 100 = .ok (.idiv, 1) := by decide +kernel
theorem dL_holds_101 : decode cL_holds 101 = .ok (.iload 7, 2) := by decide +kernel
theorem dL_holds_103 : decode cL_holds 103 = .ok (.bipush 6, 2) := by decide +kernel
theorem dL_holds_105 : decode cL_holds 105 = .ok (.irem, 1) := by decide +kernel
theorem dL_holds_106 : decode cL_holds 106 = .ok (.invokevirtual 99, 3) := by decide +kernel
theorem dL_holds_109 : decode cL_holds 109 = .ok (.istore 10, 2) := by decide +kernel
theorem dL_holds_111 : decode cL_holds 111 = .ok (.iload 8, 2) := by decide +kernel
theorem dL_holds_113 : decode cL_holds 113 = .ok (.aload_n 0, 1) := by decide +kernel
theorem dL_holds_114 : decode cL_holds 114 = .ok (.iconst 0, 1) := by decide +kernel
theorem dL_holds_115 : decode cL_holds 115 = .ok (.invokevirtual 36, 3) := by decide +kernel
theorem dL_holds_118 : decode cL_holds 118 = .ok (.if_icmp .lt 7, 3) := by decide +kernel
theorem dL_holds_121 : decode cL_holds 121 = .ok (.iconst 1, 1) := by decide +kernel
theorem dL_holds_122 : decode cL_holds 122 = .ok (.goto 4, 3) := by decide +kernel
theorem dL_holds_125 : decode cL_holds 125 = .ok (.iconst 0, 1) := by decide +kernel
theorem dL_holds_126 : decode cL_holds 126 = .ok (.istore 11, 2) := by decide +kernel
theorem dL_holds_128 : decode cL_holds 128 = .ok (.iload 6, 2) := by decide +kernel
theorem dL_holds_130 : decode cL_holds 130 = .ok (.ifCond .eq 72, 3) := by decide +kernel
theorem dL_holds_133 : decode cL_holds 133 = .ok (.iload 9, 2) := by decide +kernel
theorem dL_holds_135 : decode cL_holds 135 = .ok (.ifCond .le 7, 3) := by decide +kernel
theorem dL_holds_138 : decode cL_holds 138 = .ok (.iconst 1, 1) := by decide +kernel
theorem dL_holds_139 : decode cL_holds 139 = .ok (.goto 4, 3) := by decide +kernel
theorem dL_holds_142 : decode cL_holds 142 = .ok (.iconst 0, 1) := by decide +kernel
theorem dL_holds_143 : decode cL_holds 143 = .ok (.iload 11, 2) := by decide +kernel
theorem dL_holds_145 : decode cL_holds 145 = .ok (.if_icmp .ne 57, 3) := by decide +kernel
theorem dL_holds_148 : decode cL_holds 148 = .ok (.iload 10, 2) := by decide +kernel
theorem dL_holds_150 : decode cL_holds 150 = .ok (.iconst (-1), 1) := by decide +kernel
theorem dL_holds_151 : decode cL_holds 151 = .ok (.if_icmp .eq 7, 3) := by decide +kernel
theorem dL_holds_154 : decode cL_holds 154 = .ok (.iconst 1, 1) := by decide +kernel
theorem dL_holds_155 : decode cL_holds 155 = .ok (.goto 4, 3) := by decide +kernel
theorem dL_holds_158 : decode cL_holds 158 = .ok (.iconst 0, 1) := by decide +kernel
theorem dL_holds_159 : decode cL_holds 159 = .ok (.iload 11, 2) := by decide +kernel
theorem dL_holds_161 : decode cL_holds 161 = .ok (.if_icmp .ne 41, 3) := by decide +kernel
theorem dL_holds_164 : decode cL_holds 164 = .ok (.iload 11, 2) := by decide +kernel
theorem dL_holds_166 : decode cL_holds 166 = .ok (.ifCond .eq 32, 3) := by decide +kernel
theorem dL_holds_169 : decode cL_holds 169 = .ok (.iload 9, 2) := by decide +kernel
theorem dL_holds_171 : decode cL_holds 171 = .ok (.aload_n 0, 1) := by decide +kernel
theorem dL_holds_172 : decode cL_holds 172 = .ok (.iconst 1, 1) := by decide +kernel
theorem dL_holds_173 : decode cL_holds 173 = .ok (.invokevirtual 36, 3) := by decide +kernel
theorem dL_holds_176 : decode cL_holds 176 = .ok (.if_icmp .le 7, 3) := by decide +kernel
theorem dL_holds_179 : decode cL_holds 179 = .ok (.iconst 1, 1) := by decide +kernel
theorem dL_holds_180 : decode cL_holds 180 = .ok (.goto 4, 3) := by decide +kernel
theorem dL_holds_183 : decode cL_holds 183 = .ok (.iconst 0, 1) := by decide +kernel
theorem dL_holds_184 : decode cL_holds 184 = .ok (.iload 10, 2) := by decide +kernel
theorem dL_holds_186 : decode cL_holds 186 = .ok (.iconst 1, 1) := by decide +kernel
theorem dL_holds_187 : decode cL_holds 187 = .ok (.if_icmp .ne 7, 3) := by decide +kernel
theorem dL_holds_190 : decode cL_holds 190 = .ok (.iconst 1, 1) := by decide +kernel
theorem dL_holds_191 : decode cL_holds 191 = .ok (.goto 4, 3) := by decide +kernel
theorem dL_holds_194 : decode cL_holds 194 = .ok (.iconst 0, 1) := by decide +kernel
theorem dL_holds_195 : decode cL_holds 195 = .ok (.if_icmp .ne 7, 3) := by decide +kernel
theorem dL_holds_198 : decode cL_holds 198 = .ok (.iconst 1, 1) := by decide +kernel
theorem dL_holds_199 : decode cL_holds 199 = .ok (.goto 4, 3) := by decide +kernel
theorem dL_holds_202 : decode cL_holds 202 = .ok (.iconst 0, 1) := by decide +kernel
theorem dL_holds_203 : decode cL_holds 203 = .ok (.istore 6, 2) := by decide +kernel
theorem dL_holds_205 : decode cL_holds 205 = .ok (.iload 6, 2) := by decide +kernel
theorem dL_holds_207 : decode cL_holds 207 = .ok (.ifCond .eq 82, 3) := by decide +kernel
theorem dL_holds_210 : decode cL_holds 210 = .ok (.iload 11, 2) := by decide +kernel
theorem dL_holds_212 : decode cL_holds 212 = .ok (.ifCond .eq 73, 3) := by decide +kernel
theorem dL_holds_215 : decode cL_holds 215 = .ok (.iload 7, 2) := by decide +kernel
theorem dL_holds_217 : decode cL_holds 217 = .ok (.bipush 6, 2) := by decide +kernel
theorem dL_holds_219 : decode cL_holds 219 = .ok (.irem, 1) := by decide +kernel
theorem dL_holds_220 : decode cL_holds 220 = .ok (.iconst 5, 1) := by decide +kernel
theorem dL_holds_221 : decode cL_holds 221 = .ok (.if_icmp .eq 64, 3) := by decide +kernel
theorem dL_holds_224 : decode cL_holds 224 = .ok (.aload_n 0, 1) := by decide +kernel
theorem dL_holds_225 : decode cL_holds 225 = .ok (.iload 7, 2) := by decide +kernel
theorem dL_holds_227 : decode cL_holds 227 = .ok (.bipush 6, 2) := by decide +kernel
theorem dL_holds_229 : decode cL_holds 229 = .ok (.idiv, 1) := by decide +kernel
theorem dL_holds_230 : decode cL_holds 230 = .ok (.iload 7, 2) := by decide +kernel
theorem dL_holds_232 : decode cL_holds 232 = .ok (.bipush 6, 2) := by decide +kernel
theorem dL_holds_234 : decode cL_holds 234 = .ok (.irem, 1) := by decide +kernel
theorem dL_holds_235 : decode cL_holds 235 = .ok (.iconst 1, 1) := by decide +kernel
theorem dL_holds_236 : decode cL_holds 236 = .ok (.iadd, 1) := by decide +kernel
theorem dL_holds_237 : decode cL_holds 237 = .ok (.invokevirtual 96, 3) := by decide +kernel
theorem dL_holds_240 : decode cL_holds 240 = .ok (.ifCond .eq 45, 3) := by decide +kernel
theorem dL_holds_243 : decode cL_holds 243 = .ok (.aload_n 0, 1) := by decide +kernel
theorem dL_holds_244 : decode cL_holds 244 = .ok (.iload 7, 2) := by decide +kernel
theorem dL_holds_246 : decode cL_holds 246 = .ok (.bipush 6, 2) := by decide +kernel
theorem dL_holds_248 : decode cL_holds 248 = .ok (.idiv, 1) := by decide +kernel
theorem dL_holds_249 : decode cL_holds 249 = .ok (.iload 7, 2) := by decide +kernel
theorem dL_holds_251 : decode cL_holds 251 = .ok (.bipush 6, 2) := by decide +kernel
theorem dL_holds_253 : decode cL_holds 253 = .ok (.irem, 1) := by decide +kernel
theorem dL_holds_254 : decode cL_holds 254 = .ok (.iconst 1, 1) := by decide +kernel
theorem dL_holds_255 : decode cL_holds 255 = .ok (.iadd, 1) := by decide +kernel
theorem dL_holds_256 : decode cL_holds 256 = .ok (.invokevirtual 96, 3) := by decide +kernel
theorem dL_holds_259 : decode cL_holds 259 = .ok (.iload 9, 2) := by decide +kernel
theorem dL_holds_261 : decode cL_holds 261 = .ok (.if_icmp .ne 28, 3) := by decide +kernel
theorem dL_holds_264 : decode cL_holds 264 = .ok (.aload_n 0, 1) := by decide +kernel
theorem dL_holds_265 : decode cL_holds 265 = .ok (.iload 7, 2) := by decide +kernel
theorem dL_holds_267 : decode cL_holds 267 = .ok (.bipush 6, 2) := by decide +kernel
theorem dL_holds_269 : decode cL_holds 269 = .ok (.idiv, 1) := by decide +kernel
theorem dL_holds_270 : decode cL_holds 270 = .ok (.iload 7, 2) := by decide +kernel
theorem dL_holds_272 : decode cL_holds 272 = .ok (.bipush 6, 2) := by decide +kernel
theorem dL_holds_274 : decode cL_holds 274 = .ok (.irem, 1) := by decide +kernel
theorem dL_holds_275 : decode cL_holds 275 = .ok (.iconst 1, 1) := by decide +kernel
theorem dL_holds_276 : decode cL_holds 276 = .ok (.iadd, 1) := by decide +kernel
theorem dL_holds_277 : decode cL_holds 277 = .ok (.invokevirtual 99, 3) := by decide +kernel
theorem dL_holds_280 : decode cL_holds 280 = .ok (.iload 10, 2) := by decide +kernel
theorem dL_holds_282 : decode cL_holds 282 = .ok (.if_icmp .ne 7, 3) := by decide +kernel
theorem dL_holds_285 : decode cL_holds 285 = .ok (.iconst 1, 1) := by decide +kernel
theorem dL_holds_286 : decode cL_holds 286 = .ok (.goto 4, 3) := by decide +kernel
theorem dL_holds_289 : decode cL_holds 289 = .ok (.iconst 0, 1) := by decide +kernel
theorem dL_holds_290 : decode cL_holds 290 = .ok (.istore 6, 2) := by decide +kernel
theorem dL_holds_292 : decode cL_holds 292 = .ok (.iload 6, 2) := by decide +kernel
theorem dL_holds_294 : decode cL_holds 294 = .ok (.ifCond .eq 80, 3) := by decide +kernel
theorem dL_holds_297 : decode cL_holds 297 = .ok (.iload 11, 2) := by decide +kernel
theorem dL_holds_299 : decode cL_holds 299 = .ok (.ifCond .eq 71, 3) := by decide +kernel
theorem dL_holds_302 : decode cL_holds 302 = .ok (.iload 7, 2) := by decide +kernel
theorem dL_holds_304 : decode cL_holds 304 = .ok (.bipush 41, 2) := by decide +kernel
theorem dL_holds_306 : decode cL_holds 306 = .ok (.if_icmp .gt 64, 3) := by decide +kernel
theorem dL_holds_309 : decode cL_holds 309 = .ok (.aload_n 0, 1) := by decide +kernel
theorem dL_holds_310 : decode cL_holds 310 = .ok (.iload 7, 2) := by decide +kernel
theorem dL_holds_312 : decode cL_holds 312 = .ok (.bipush 6, 2) := by decide +kernel
theorem dL_holds_314 : decode cL_holds 314 = .ok (.idiv, 1) := by decide +kernel
theorem dL_holds_315 : decode cL_holds 315 = .ok (.iconst 1, 1) := by decide +kernel
theorem dL_holds_316 : decode cL_holds 316 = .ok (.iadd, 1) := by decide +kernel
theorem dL_holds_317 : decode cL_holds 317 = .ok (.iload 7, 2) := by decide +kernel
theorem dL_holds_319 : decode cL_holds 319 = .ok (.bipush 6, 2) := by decide +kernel
theorem dL_holds_321 : decode cL_holds 321 = .ok (.irem, 1) := by decide +kernel
theorem dL_holds_322 : decode cL_holds 322 = .ok (.invokevirtual 96, 3) := by decide +kernel
theorem dL_holds_325 : decode cL_holds 325 = .ok (.ifCond .eq 45, 3) := by decide +kernel
theorem dL_holds_328 : decode cL_holds 328 = .ok (.aload_n 0, 1) := by decide +kernel
theorem dL_holds_329 : decode cL_holds 329 = .ok (.iload 7, 2) := by decide +kernel
theorem dL_holds_331 : decode cL_holds 331 = .ok (.bipush 6, 2) := by decide +kernel
theorem dL_holds_333 : decode cL_holds 333 = .ok (.idiv, 1) := by decide +kernel
theorem dL_holds_334 : decode cL_holds 334 = .ok (.iconst 1, 1) := by decide +kernel
theorem dL_holds_335 : decode cL_holds 335 = .ok (.iadd, 1) := by decide +kernel
theorem dL_holds_336 : decode cL_holds 336 = .ok (.iload 7, 2) := by decide +kernel
theorem dL_holds_338 : decode cL_holds 338 = .ok (.bipush 6, 2) := by decide +kernel
theorem dL_holds_340 : decode cL_holds 340 = .ok (.irem, 1) := by decide +kernel
theorem dL_holds_341 : decode cL_holds 341 = .ok (.invokevirtual 96, 3) := by decide +kernel
theorem dL_holds_344 : decode cL_holds 344 = .ok (.iload 9, 2) := by decide +kernel
theorem dL_holds_346 : decode cL_holds 346 = .ok (.if_icmp .ne 28, 3) := by decide +kernel
theorem dL_holds_349 : decode cL_holds 349 = .ok (.aload_n 0, 1) := by decide +kernel
theorem dL_holds_350 : decode cL_holds 350 = .ok (.iload 7, 2) := by decide +kernel
theorem dL_holds_352 : decode cL_holds 352 = .ok (.bipush 6, 2) := by decide +kernel
theorem dL_holds_354 : decode cL_holds 354 = .ok (.idiv, 1) := by decide +kernel
theorem dL_holds_355 : decode cL_holds 355 = .ok (.iconst 1, 1) := by decide +kernel
theorem dL_holds_356 : decode cL_holds 356 = .ok (.iadd, 1) := by decide +kernel
theorem dL_holds_357 : decode cL_holds 357 = .ok (.iload 7, 2) := by decide +kernel
theorem dL_holds_359 : decode cL_holds 359 = .ok (.bipush 6, 2) := by decide +kernel
theorem dL_holds_361 : decode cL_holds 361 = .ok (.irem, 1) := by decide +kernel
theorem dL_holds_362 : decode cL_holds 362 = .ok (.invokevirtual 99, 3) := by decide +kernel
theorem dL_holds_365 : decode cL_holds 365 = .ok (.iload 10, 2) := by decide +kernel
theorem dL_holds_367 : decode cL_holds 367 = .ok (.if_icmp .ne 7, 3) := by decide +kernel
theorem dL_holds_370 : decode cL_holds 370 = .ok (.iconst 1, 1) := by decide +kernel
theorem dL_holds_371 : decode cL_holds 371 = .ok (.goto 4, 3) := by decide +kernel
theorem dL_holds_374 : decode cL_holds 374 = .ok (.iconst 0, 1) := by decide +kernel
theorem dL_holds_375 : decode cL_holds 375 = .ok (.istore 6, 2) := by decide +kernel
theorem dL_holds_377 : decode cL_holds 377 = .ok (.iload_n 2, 1) := by decide +kernel
theorem dL_holds_378 : decode cL_holds 378 = .ok (.iload 11, 2) := by decide +kernel
theorem dL_holds_380 : decode cL_holds 380 = .ok (.ifCond .eq 7, 3) := by decide +kernel
theorem dL_holds_383 : decode cL_holds 383 = .ok (.iconst 1, 1) := by decide +kernel
theorem dL_holds_384 : decode cL_holds 384 = .ok (.goto 4, 3) := by decide +kernel
theorem dL_holds_387 : decode cL_holds 387 = .ok (.iconst 0, 1) := by decide +kernel
theorem dL_holds_388 : decode cL_holds 388 = .ok (.iadd, 1) := by decide +kernel
theorem dL_holds_389 : decode cL_holds 389 = .ok (.istore_n 2, 1) := by decide +kernel
theorem dL_holds_390 : decode cL_holds 390 = .ok (.iload_n 3, 1) := by decide +kernel
theorem dL_holds_391 : decode cL_holds 391 = .ok (.iload 11, 2) := by decide +kernel
theorem dL_holds_393 : decode cL_holds 393 = .ok (.ifCond .eq 8, 3) := by decide +kernel
theorem dL_holds_396 : decode cL_holds 396 = .ok (.iload 8, 2) := by decide +kernel
theorem dL_holds_398 : decode cL_holds 398 = .ok (.goto 4, 3) := by decide +kernel
theorem dL_holds_401 : decode cL_holds 401 = .ok (.iconst 0, 1) := by decide +kernel
theorem dL_holds_402 : decode cL_holds 402 = .ok (.iadd, 1) := by decide +kernel
theorem dL_holds_403 : decode cL_holds 403 = .ok (.istore_n 3, 1) := by decide +kernel
theorem dL_holds_404 : decode cL_holds 404 = .ok (.iinc 7 1, 3) := by decide +kernel
theorem dL_holds_407 : decode cL_holds 407 = .ok (.goto (-351), 3) := by decide +kernel
theorem dL_holds_410 : decode cL_holds 410 = .ok (.iconst 0, 1) := by decide +kernel
theorem dL_holds_411 : decode cL_holds 411 = .ok (.istore 7, 2) := by decide +kernel
theorem dL_holds_413 : decode cL_holds 413 = .ok (.iload 7, 2) := by decide +kernel
theorem dL_holds_415 : decode cL_holds 415 = .ok (.iconst 3, 1) := by decide +kernel
theorem dL_holds_416 : decode cL_holds 416 = .ok (.if_icmp .ge 18, 3) := by decide +kernel
theorem dL_holds_419 : decode cL_holds 419 = .ok (.iload_n 1, 1) := by decide +kernel
theorem dL_holds_420 : decode cL_holds 420 = .ok (.aload_n 0, 1) := by decide +kernel
theorem dL_holds_421 : decode cL_holds 421 = .ok (.iload 7, 2) := by decide +kernel
theorem dL_holds_423 : decode cL_holds 423 = .ok (.invokevirtual 102, 3) := by decide +kernel
theorem dL_holds_426 : decode cL_holds 426 = .ok (.iadd, 1) := by decide +kernel
theorem dL_holds_427 : decode cL_holds 427 = .ok (.istore_n 1, 1) := by decide +kernel
theorem dL_holds_428 : decode cL_holds 428 = .ok (.iinc 7 1, 3) := by decide +kernel
theorem dL_holds_431 : decode cL_holds 431 = .ok (.goto (-18), 3) := by decide +kernel
theorem dL_holds_434 : decode cL_holds 434 = .ok (.iconst 0, 1) := by decide +kernel
theorem dL_holds_435 : decode cL_holds 435 = .ok (.istore 7, 2) := by decide +kernel
theorem dL_holds_437 : decode cL_holds 437 = .ok (.iload 7, 2) := by decide +kernel
theorem dL_holds_439 : decode cL_holds 439 = .ok (.iload 5, 2) := by decide +kernel
theorem dL_holds_441 : decode cL_holds 441 = .ok (.if_icmp .ge 192, 3) := by decide +kernel
theorem dL_holds_444 : decode cL_holds 444 = .ok (.iload 6, 2) := by decide +kernel
theorem dL_holds_446 : decode cL_holds 446 = .ok (.ifCond .eq 187, 3) := by decide +kernel
theorem dL_holds_449 : decode cL_holds 449 = .ok (.aload_n 0, 1) := by decide +kernel
theorem dL_holds_450 : decode cL_holds 450 = .ok (.iload 7, 2) := by decide +kernel
theorem dL_holds_452 : decode cL_holds 452 = .ok (.iconst 3, 1) := by decide +kernel
theorem dL_holds_453 : decode cL_holds 453 = .ok (.invokevirtual 87, 3) := by decide +kernel
theorem dL_holds_456 : decode cL_holds 456 = .ok (.istore 8, 2) := by decide +kernel
theorem dL_holds_458 : decode cL_holds 458 = .ok (.aload_n 0, 1) := by decide +kernel
theorem dL_holds_459 : decode cL_holds 459 = .ok (.iload 7, 2) := by decide +kernel
theorem dL_holds_461 : decode cL_holds 461 = .ok (.iconst 0, 1) := by decide +kernel
theorem dL_holds_462 : decode cL_holds 462 = .ok (.invokevirtual 87, 3) := by decide +kernel
theorem dL_holds_465 : decode cL_holds 465 = .ok (.bipush 100, 2) := by decide +kernel
theorem dL_holds_467 : decode cL_holds 467 = .ok (.iload 8, 2) := by decide +kernel
theorem dL_holds_469 : decode cL_holds 469 = .ok (.bipush 6, 2) := by decide +kernel
theorem dL_holds_471 : decode cL_holds 471 = .ok (.idiv, 1) := by decide +kernel
theorem dL_holds_472 : decode cL_holds 472 = .ok (.imul, 1) := by decide +kernel
theorem dL_holds_473 : decode cL_holds 473 = .ok (.isub, 1) := by decide +kernel
theorem dL_holds_474 : decode cL_holds 474 = .ok (.istore 9, 2) := by decide +kernel
theorem dL_holds_476 : decode cL_holds 476 = .ok (.aload_n 0, 1) := by decide +kernel
theorem dL_holds_477 : decode cL_holds 477 = .ok (.iload 7, 2) := by decide +kernel
theorem dL_holds_479 : decode cL_holds 479 = .ok (.iconst 1, 1) := by decide +kernel
theorem dL_holds_480 : decode cL_holds 480 = .ok (.invokevirtual 87, 3) := by decide +kernel
theorem dL_holds_483 : decode cL_holds 483 = .ok (.bipush 100, 2) := by decide +kernel
theorem dL_holds_485 : decode cL_holds 485 = .ok (.iload 8, 2) := by decide +kernel
theorem dL_holds_487 : decode cL_holds 487 = .ok (.bipush 6, 2) := by decide +kernel
theorem dL_holds_489 : decode cL_holds 489 = .ok (.irem, 1) := by decide +kernel
theorem dL_holds_490 : decode cL_holds 490 = .ok (.imul, 1) := by decide +kernel
theorem dL_holds_491 : decode cL_holds 491 = .ok (.isub, 1) := by decide +kernel
theorem dL_holds_492 : decode cL_holds 492 = .ok (.istore 10, 2) := by decide +kernel
theorem dL_holds_494 : decode cL_holds 494 = .ok (.iload 8, 2) := by decide +kernel
theorem dL_holds_496 : decode cL_holds 496 = .ok (.iload 4, 2) := by decide +kernel
theorem dL_holds_498 : decode cL_holds 498 = .ok (.if_icmp .le 122, 3) := by decide +kernel
theorem dL_holds_501 : decode cL_holds 501 = .ok (.aload_n 0, 1) := by decide +kernel
theorem dL_holds_502 : decode cL_holds 502 = .ok (.iload 8, 2) := by decide +kernel
theorem dL_holds_504 : decode cL_holds 504 = .ok (.bipush 6, 2) := by decide +kernel
theorem dL_holds_506 : decode cL_holds 506 = .ok (.idiv, 1) := by decide +kernel
theorem dL_holds_507 : decode cL_holds 507 = .ok (.iload 8, 2) := by decide +kernel
theorem dL_holds_509 : decode cL_holds 509 = .ok (.bipush 6, 2) := by decide +kernel
theorem dL_holds_511 : decode cL_holds 511 = .ok (.irem, 1) := by decide +kernel
theorem dL_holds_512 : decode cL_holds 512 = .ok (.invokevirtual 99, 3) := by decide +kernel
theorem dL_holds_515 : decode cL_holds 515 = .ok (.ifCond .ne 105, 3) := by decide +kernel
theorem dL_holds_518 : decode cL_holds 518 = .ok (.aload_n 0, 1) := by decide +kernel
theorem dL_holds_519 : decode cL_holds 519 = .ok (.iload 7, 2) := by decide +kernel
theorem dL_holds_521 : decode cL_holds 521 = .ok (.iconst 2, 1) := by decide +kernel
theorem dL_holds_522 : decode cL_holds 522 = .ok (.invokevirtual 87, 3) := by decide +kernel
theorem dL_holds_525 : decode cL_holds 525 = .ok (.aload_n 0, 1) := by decide +kernel
theorem dL_holds_526 : decode cL_holds 526 = .ok (.iload 8, 2) := by decide +kernel
theorem dL_holds_528 : decode cL_holds 528 = .ok (.bipush 6, 2) := by decide +kernel
theorem dL_holds_530 : decode cL_holds 530 = .ok (.idiv, 1) := by decide +kernel
theorem dL_holds_531 : decode cL_holds 531 = .ok (.iload 8, 2) := by decide +kernel
theorem dL_holds_533 : decode cL_holds 533 = .ok (.bipush 6, 2) := by decide +kernel
theorem dL_holds_535 : decode cL_holds 535 = .ok (.irem, 1) := by decide +kernel
theorem dL_holds_536 : decode cL_holds 536 = .ok (.invokevirtual 30, 3) := by decide +kernel
theorem dL_holds_539 : decode cL_holds 539 = .ok (.if_icmp .lt 81, 3) := by decide +kernel
theorem dL_holds_542 : decode cL_holds 542 = .ok (.iload 9, 2) := by decide +kernel
theorem dL_holds_544 : decode cL_holds 544 = .ok (.bipush (-100), 2) := by decide +kernel
theorem dL_holds_546 : decode cL_holds 546 = .ok (.if_icmp .lt 74, 3) := by decide +kernel
theorem dL_holds_549 : decode cL_holds 549 = .ok (.iload 9, 2) := by decide +kernel
theorem dL_holds_551 : decode cL_holds 551 = .ok (.bipush 100, 2) := by decide +kernel
theorem dL_holds_553 : decode cL_holds 553 = .ok (.if_icmp .gt 67, 3) := by decide +kernel
theorem dL_holds_556 : decode cL_holds 556 = .ok (.iload 10, 2) := by decide +kernel
theorem dL_holds_558 : decode cL_holds 558 = .ok (.bipush (-100), 2) := by decide +kernel
theorem dL_holds_560 : decode cL_holds 560 = .ok (.if_icmp .lt 60, 3) := by decide +kernel
theorem dL_holds_563 : decode cL_holds 563 = .ok (.iload 10, 2) := by decide +kernel
theorem dL_holds_565 : decode cL_holds 565 = .ok (.bipush 100, 2) := by decide +kernel
theorem dL_holds_567 : decode cL_holds 567 = .ok (.if_icmp .gt 53, 3) := by decide +kernel
theorem dL_holds_570 : decode cL_holds 570 = .ok (.aload_n 0, 1) := by decide +kernel
theorem dL_holds_571 : decode cL_holds 571 = .ok (.iload 7, 2) := by decide +kernel
theorem dL_holds_573 : decode cL_holds 573 = .ok (.iconst 0, 1) := by decide +kernel
theorem dL_holds_574 : decode cL_holds 574 = .ok (.invokevirtual 87, 3) := by decide +kernel

