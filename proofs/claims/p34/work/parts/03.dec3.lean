theorem dX4_isSame_331 : decode cX4_isSame 331 = .ok (.aload 9, 2) := by decide +kernel
theorem dX4_isSame_333 : decode cX4_isSame 333 = .ok (.iload 11, 2) := by decide +kernel
theorem dX4_isSame_335 : decode cX4_isSame 335 = .ok (.iaload, 1) := by decide +kernel
theorem dX4_isSame_336 : decode cX4_isSame 336 = .ok (.if_icmp .eq 5, 3) := by decide +kernel
theorem dX4_isSame_339 : decode cX4_isSame 339 = .ok (.iconst 0, 1) := by decide +kernel
theorem dX4_isSame_340 : decode cX4_isSame 340 = .ok (.ireturn, 1) := by decide +kernel
theorem dX4_isSame_341 : decode cX4_isSame 341 = .ok (.iinc 10 1, 3) := by decide +kernel
theorem dX4_isSame_344 : decode cX4_isSame 344 = .ok (.goto (-59), 3) := by decide +kernel
theorem dX4_isSame_347 : decode cX4_isSame 347 = .ok (.aload_n 1, 1) := by decide +kernel
theorem dX4_isSame_348 : decode cX4_isSame 348 = .ok (.invokevirtual 109, 3) := by decide +kernel
theorem dX4_isSame_351 : decode cX4_isSame 351 = .ok (.iload_n 3, 1) := by decide +kernel
theorem dX4_isSame_352 : decode cX4_isSame 352 = .ok (.if_icmp .ne 102, 3) := by decide +kernel
theorem dX4_isSame_355 : decode cX4_isSame 355 = .ok (.aload_n 1, 1) := by decide +kernel
theorem dX4_isSame_356 : decode cX4_isSame 356 = .ok (.invokevirtual 112, 3) := by decide +kernel
theorem dX4_isSame_359 : decode cX4_isSame 359 = .ok (.aload_n 0, 1) := by decide +kernel
theorem dX4_isSame_360 : decode cX4_isSame 360 = .ok (.getfield 7, 3) := by decide +kernel
theorem dX4_isSame_363 : decode cX4_isSame 363 = .ok (.if_icmp .ne 91, 3) := by decide +kernel
theorem dX4_isSame_366 : decode cX4_isSame 366 = .ok (.aload_n 1, 1) := by decide +kernel
theorem dX4_isSame_367 : decode cX4_isSame 367 = .ok (.invokevirtual 114, 3) := by decide +kernel
theorem dX4_isSame_370 : decode cX4_isSame 370 = .ok (.aload_n 0, 1) := by decide +kernel
theorem dX4_isSame_371 : decode cX4_isSame 371 = .ok (.getfield 24, 3) := by decide +kernel
theorem dX4_isSame_374 : decode cX4_isSame 374 = .ok (.if_icmp .ne 80, 3) := by decide +kernel
theorem dX4_isSame_377 : decode cX4_isSame 377 = .ok (.aload_n 1, 1) := by decide +kernel
theorem dX4_isSame_378 : decode cX4_isSame 378 = .ok (.invokevirtual 116, 3) := by decide +kernel
theorem dX4_isSame_381 : decode cX4_isSame 381 = .ok (.aload_n 0, 1) := by decide +kernel
theorem dX4_isSame_382 : decode cX4_isSame 382 = .ok (.getfield 27, 3) := by decide +kernel
theorem dX4_isSame_385 : decode cX4_isSame 385 = .ok (.if_icmp .ne 69, 3) := by decide +kernel
theorem dX4_isSame_388 : decode cX4_isSame 388 = .ok (.aload_n 1, 1) := by decide +kernel
theorem dX4_isSame_389 : decode cX4_isSame 389 = .ok (.invokevirtual 118, 3) := by decide +kernel
theorem dX4_isSame_392 : decode cX4_isSame 392 = .ok (.aload_n 0, 1) := by decide +kernel
theorem dX4_isSame_393 : decode cX4_isSame 393 = .ok (.getfield 30, 3) := by decide +kernel
theorem dX4_isSame_396 : decode cX4_isSame 396 = .ok (.if_icmp .ne 58, 3) := by decide +kernel
theorem dX4_isSame_399 : decode cX4_isSame 399 = .ok (.aload_n 1, 1) := by decide +kernel
theorem dX4_isSame_400 : decode cX4_isSame 400 = .ok (.invokevirtual 120, 3) := by decide +kernel
theorem dX4_isSame_403 : decode cX4_isSame 403 = .ok (.iload 4, 2) := by decide +kernel
theorem dX4_isSame_405 : decode cX4_isSame 405 = .ok (.if_icmp .ne 49, 3) := by decide +kernel
theorem dX4_isSame_408 : decode cX4_isSame 408 = .ok (.aload_n 1, 1) := by decide +kernel
theorem dX4_isSame_409 : decode cX4_isSame 409 = .ok (.invokevirtual 123, 3) := by decide +kernel
theorem dX4_isSame_412 : decode cX4_isSame 412 = .ok (.iload 8, 2) := by decide +kernel
theorem dX4_isSame_414 : decode cX4_isSame 414 = .ok (.if_icmp .ne 40, 3) := by decide +kernel
theorem dX4_isSame_417 : decode cX4_isSame 417 = .ok (.aload_n 1, 1) := by decide +kernel
theorem dX4_isSame_418 : decode cX4_isSame 418 = .ok (.invokevirtual 126, 3) := by decide +kernel
theorem dX4_isSame_421 : decode cX4_isSame 421 = .ok (.aload_n 0, 1) := by decide +kernel
theorem dX4_isSame_422 : decode cX4_isSame 422 = .ok (.invokevirtual 129, 3) := by decide +kernel
theorem dX4_isSame_425 : decode cX4_isSame 425 = .ok (.if_icmp .ne 29, 3) := by decide +kernel
theorem dX4_isSame_428 : decode cX4_isSame 428 = .ok (.aload_n 1, 1) := by decide +kernel
theorem dX4_isSame_429 : decode cX4_isSame 429 = .ok (.invokevirtual 130, 3) := by decide +kernel
theorem dX4_isSame_432 : decode cX4_isSame 432 = .ok (.iload_n 3, 1) := by decide +kernel
theorem dX4_isSame_433 : decode cX4_isSame 433 = .ok (.ifCond .ne 7, 3) := by decide +kernel
theorem dX4_isSame_436 : decode cX4_isSame 436 = .ok (.dconst 0, 1) := by decide +kernel
theorem dX4_isSame_437 : decode cX4_isSame 437 = .ok (.goto 9, 3) := by decide +kernel
theorem dX4_isSame_440 : decode cX4_isSame 440 = .ok (.iload 5, 2) := by decide +kernel
theorem dX4_isSame_442 : decode cX4_isSame 442 = .ok (.i2d, 1) := by decide +kernel
theorem dX4_isSame_443 : decode cX4_isSame 443 = .ok (.iload_n 3, 1) := by decide +kernel
theorem dX4_isSame_444 : decode cX4_isSame 444 = .ok (.i2d, 1) := by decide +kernel
theorem dX4_isSame_445 : decode cX4_isSame 445 = .ok (.ddiv, 1) := by decide +kernel
theorem dX4_isSame_446 : decode cX4_isSame 446 = .ok (.dcmp .l, 1) := by decide +kernel
theorem dX4_isSame_447 : decode cX4_isSame 447 = .ok (.ifCond .ne 7, 3) := by decide +kernel
theorem dX4_isSame_450 : decode cX4_isSame 450 = .ok (.iconst 1, 1) := by decide +kernel
theorem dX4_isSame_451 : decode cX4_isSame 451 = .ok (.goto 4, 3) := by decide +kernel
theorem dX4_isSame_454 : decode cX4_isSame 454 = .ok (.iconst 0, 1) := by decide +kernel
theorem dX4_isSame_455 : decode cX4_isSame 455 = .ok (.ireturn, 1) := by decide +kernel
theorem dL_below_0 : decode cL_below 0 = .ok (.iload_n 0, 1) := by decide +kernel
theorem dL_below_1 : decode cL_below 1 = .ok (.ldc 7, 2) := by decide +kernel
theorem dL_below_3 : decode cL_below 3 = .ok (.iand, 1) := by decide +kernel
theorem dL_below_4 : decode cL_below 4 = .ok (.iload_n 1, 1) := by decide +kernel
theorem dL_below_5 : decode cL_below 5 = .ok (.irem, 1) := by decide +kernel
theorem dL_below_6 : decode cL_below 6 = .ok (.ireturn, 1) := by decide +kernel
theorem dL_cell_0 : decode cL_cell 0 = .ok (.iload_n 1, 1) := by decide +kernel
theorem dL_cell_1 : decode cL_cell 1 = .ok (.aload_n 0, 1) := by decide +kernel
theorem dL_cell_2 : decode cL_cell 2 = .ok (.arraylength, 1) := by decide +kernel
theorem dL_cell_3 : decode cL_cell 3 = .ok (.if_icmp .ge 9, 3) := by decide +kernel
theorem dL_cell_6 : decode cL_cell 6 = .ok (.aload_n 0, 1) := by decide +kernel
theorem dL_cell_7 : decode cL_cell 7 = .ok (.iload_n 1, 1) := by decide +kernel
theorem dL_cell_8 : decode cL_cell 8 = .ok (.iaload, 1) := by decide +kernel
theorem dL_cell_9 : decode cL_cell 9 = .ok (.goto 9, 3) := by decide +kernel
theorem dL_cell_12 : decode cL_cell 12 = .ok (.ldc 8, 2) := by decide +kernel
theorem dL_cell_14 : decode cL_cell 14 = .ok (.iload_n 1, 1) := by decide +kernel
theorem dL_cell_15 : decode cL_cell 15 = .ok (.iconst 3, 1) := by decide +kernel
theorem dL_cell_16 : decode cL_cell 16 = .ok (.iadd, 1) := by decide +kernel
theorem dL_cell_17 : decode cL_cell 17 = .ok (.imul, 1) := by decide +kernel
theorem dL_cell_18 : decode cL_cell 18 = .ok (.ireturn, 1) := by decide +kernel
theorem dL_act_0 : decode cL_act 0 = .ok (.aload_n 1, 1) := by decide +kernel
theorem dL_act_1 : decode cL_act 1 = .ok (.getfield 9, 3) := by decide +kernel
theorem dL_act_4 : decode cL_act 4 = .ok (.arraylength, 1) := by decide +kernel
theorem dL_act_5 : decode cL_act 5 = .ok (.istore_n 3, 1) := by decide +kernel
theorem dL_act_6 : decode cL_act 6 = .ok (.iload_n 3, 1) := by decide +kernel
theorem dL_act_7 : decode cL_act 7 = .ok (.ifCond .ne 7, 3) := by decide +kernel
theorem dL_act_10 : decode cL_act 10 = .ok (.iconst 0, 1) := by decide +kernel
theorem dL_act_11 : decode cL_act 11 = .ok (.goto 10, 3) := by decide +kernel
theorem dL_act_14 : decode cL_act 14 = .ok (.iload_n 2, 1) := by decide +kernel
theorem dL_act_15 : decode cL_act 15 = .ok (.iconst 3, 1) := by decide +kernel
theorem dL_act_16 : decode cL_act 16 = .ok (.ishr, 1) := by decide +kernel
theorem dL_act_17 : decode cL_act 17 = .ok (.iload_n 3, 1) := by decide +kernel
theorem dL_act_18 : decode cL_act 18 = .ok (.invokestatic 15, 3) := by decide +kernel
theorem dL_act_21 : decode cL_act 21 = .ok (.istore 4, 2) := by decide +kernel
theorem dL_act_23 : decode cL_act 23 = .ok (.iconst 1, 1) := by decide +kernel
theorem dL_act_24 : decode cL_act 24 = .ok (.istore 5, 2) := by decide +kernel
theorem dL_act_26 : decode cL_act 26 = .ok (.iload_n 3, 1) := by decide +kernel
theorem dL_act_27 : decode cL_act 27 = .ok (.ifCond .eq 12, 3) := by decide +kernel
theorem dL_act_30 : decode cL_act 30 = .ok (.iload_n 2, 1) := by decide +kernel
theorem dL_act_31 : decode cL_act 31 = .ok (.bipush 13, 2) := by decide +kernel
theorem dL_act_33 : decode cL_act 33 = .ok (.invokestatic 15, 3) := by decide +kernel
theorem dL_act_36 : decode cL_act 36 = .ok (.ifCond .ne 135, 3) := by decide +kernel
theorem dL_act_39 : decode cL_act 39 = .ok (.iconst 1, 1) := by decide +kernel
theorem dL_act_40 : decode cL_act 40 = .ok (.iload_n 2, 1) := by decide +kernel
theorem dL_act_41 : decode cL_act 41 = .ok (.iconst 4, 1) := by decide +kernel
theorem dL_act_42 : decode cL_act 42 = .ok (.ishr, 1) := by decide +kernel
theorem dL_act_43 : decode cL_act 43 = .ok (.iload_n 2, 1) := by decide +kernel
theorem dL_act_44 : decode cL_act 44 = .ok (.bipush 8, 2) := by decide +kernel
theorem dL_act_46 : decode cL_act 46 = .ok (.ishr, 1) := by decide +kernel
theorem dL_act_47 : decode cL_act 47 = .ok (.iconst 2, 1) := by decide +kernel
theorem dL_act_48 : decode cL_act 48 = .ok (.invokestatic 15, 3) := by decide +kernel
theorem dL_act_51 : decode cL_act 51 = .ok (.ifCond .ne 8, 3) := by decide +kernel
theorem dL_act_54 : decode cL_act 54 = .ok (.bipush 60, 2) := by decide +kernel
theorem dL_act_56 : decode cL_act 56 = .ok (.goto 5, 3) := by decide +kernel
theorem dL_act_59 : decode cL_act 59 = .ok (.bipush 12, 2) := by decide +kernel
theorem dL_act_61 : decode cL_act 61 = .ok (.invokestatic 15, 3) := by decide +kernel
theorem dL_act_64 : decode cL_act 64 = .ok (.iadd, 1) := by decide +kernel
theorem dL_act_65 : decode cL_act 65 = .ok (.istore 6, 2) := by decide +kernel
theorem dL_act_67 : decode cL_act 67 = .ok (.iload_n 2, 1) := by decide +kernel
theorem dL_act_68 : decode cL_act 68 = .ok (.iconst 5, 1) := by decide +kernel
theorem dL_act_69 : decode cL_act 69 = .ok (.ishr, 1) := by decide +kernel
theorem dL_act_70 : decode cL_act 70 = .ok (.iload_n 2, 1) := by decide +kernel
theorem dL_act_71 : decode cL_act 71 = .ok (.bipush 7, 2) := by decide +kernel
theorem dL_act_73 : decode cL_act 73 = .ok (.ishr, 1) := by decide +kernel
theorem dL_act_74 : decode cL_act 74 = .ok (.iconst 2, 1) := by decide +kernel
theorem dL_act_75 : decode cL_act 75 = .ok (.invokestatic 15, 3) := by decide +kernel
theorem dL_act_78 : decode cL_act 78 = .ok (.ifCond .ne 8, 3) := by decide +kernel
theorem dL_act_81 : decode cL_act 81 = .ok (.bipush 100, 2) := by decide +kernel
theorem dL_act_83 : decode cL_act 83 = .ok (.goto 5, 3) := by decide +kernel
theorem dL_act_86 : decode cL_act 86 = .ok (.bipush 6, 2) := by decide +kernel
theorem dL_act_88 : decode cL_act 88 = .ok (.invokestatic 15, 3) := by decide +kernel
theorem dL_act_91 : decode cL_act 91 = .ok (.istore 7, 2) := by decide +kernel
theorem dL_act_93 : decode cL_act 93 = .ok (.iload_n 3, 1) := by decide +kernel
theorem dL_act_94 : decode cL_act 94 = .ok (.bipush 8, 2) := by decide +kernel
theorem dL_act_96 : decode cL_act 96 = .ok (.if_icmp .ge 16, 3) := by decide +kernel
theorem dL_act_99 : decode cL_act 99 = .ok (.aload_n 1, 1) := by decide +kernel
theorem dL_act_100 : decode cL_act 100 = .ok (.iload 6, 2) := by decide +kernel
theorem dL_act_102 : decode cL_act 102 = .ok (.invokevirtual 21, 3) := by decide +kernel
theorem dL_act_105 : decode cL_act 105 = .ok (.ifCond .ne 7, 3) := by decide +kernel
theorem dL_act_108 : decode cL_act 108 = .ok (.iconst 1, 1) := by decide +kernel
theorem dL_act_109 : decode cL_act 109 = .ok (.goto 4, 3) := by decide +kernel
theorem dL_act_112 : decode cL_act 112 = .ok (.iconst 0, 1) := by decide +kernel
theorem dL_act_113 : decode cL_act 113 = .ok (.istore 5, 2) := by decide +kernel
theorem dL_act_115 : decode cL_act 115 = .ok (.iload 5, 2) := by decide +kernel
theorem dL_act_117 : decode cL_act 117 = .ok (.ifCond .eq 31, 3) := by decide +kernel
theorem dL_act_120 : decode cL_act 120 = .ok (.aload_n 1, 1) := by decide +kernel
theorem dL_act_121 : decode cL_act 121 = .ok (.aload_n 1, 1) := by decide +kernel
theorem dL_act_122 : decode cL_act 122 = .ok (.getfield 9, 3) := by decide +kernel
theorem dL_act_125 : decode cL_act 125 = .ok (.iconst 3, 1) := by decide +kernel
theorem dL_act_126 : decode cL_act 126 = .ok (.newarray .int, 2) := by decide +kernel
theorem dL_act_128 : decode cL_act 128 = .ok (.dup, 1) := by decide +kernel
theorem dL_act_129 : decode cL_act 129 = .ok (.iconst 0, 1) := by decide +kernel
theorem dL_act_130 : decode cL_act 130 = .ok (.iload 6, 2) := by decide +kernel
theorem dL_act_132 : decode cL_act 132 = .ok (.iastore, 1) := by decide +kernel
theorem dL_act_133 : decode cL_act 133 = .ok (.dup, 1) := by decide +kernel
theorem dL_act_134 : decode cL_act 134 = .ok (.iconst 1, 1) := by decide +kernel
theorem dL_act_135 : decode cL_act 135 = .ok (.iload 7, 2) := by decide +kernel
theorem dL_act_137 : decode cL_act 137 = .ok (.iastore, 1) := by decide +kernel
theorem dL_act_138 : decode cL_act 138 = .ok (.dup, 1) := by decide +kernel
theorem dL_act_139 : decode cL_act 139 = .ok (.iconst 2, 1) := by decide +kernel
theorem dL_act_140 : decode cL_act 140 = .ok (.iconst 0, 1) := by decide +kernel
theorem dL_act_141 : decode cL_act 141 = .ok (.iastore, 1) := by decide +kernel
theorem dL_act_142 : decode cL_act 142 = .ok (.invokestatic 25, 3) := by decide +kernel
theorem dL_act_145 : decode cL_act 145 = .ok (.putfield 9, 3) := by decide +kernel
theorem dL_act_148 : decode cL_act 148 = .ok (.aload_n 0, 1) := by decide +kernel
theorem dL_act_149 : decode cL_act 149 = .ok (.iload 6, 2) := by decide +kernel
theorem dL_act_151 : decode cL_act 151 = .ok (.iload 7, 2) := by decide +kernel
theorem dL_act_153 : decode cL_act 153 = .ok (.invokevirtual 29, 3) := by decide +kernel
theorem dL_act_156 : decode cL_act 156 = .ok (.iload_n 3, 1) := by decide +kernel
theorem dL_act_157 : decode cL_act 157 = .ok (.if_icmp .ne 12, 3) := by decide +kernel
theorem dL_act_160 : decode cL_act 160 = .ok (.iload 5, 2) := by decide +kernel
theorem dL_act_162 : decode cL_act 162 = .ok (.ifCond .eq 7, 3) := by decide +kernel
theorem dL_act_165 : decode cL_act 165 = .ok (.iconst 1, 1) := by decide +kernel
theorem dL_act_166 : decode cL_act 166 = .ok (.goto 4, 3) := by decide +kernel
theorem dL_act_169 : decode cL_act 169 = .ok (.iconst 0, 1) := by decide +kernel
theorem dL_act_170 : decode cL_act 170 = .ok (.ireturn, 1) := by decide +kernel
theorem dL_act_171 : decode cL_act 171 = .ok (.aload_n 1, 1) := by decide +kernel
theorem dL_act_172 : decode cL_act 172 = .ok (.getfield 9, 3) := by decide +kernel
theorem dL_act_175 : decode cL_act 175 = .ok (.iload 4, 2) := by decide +kernel
theorem dL_act_177 : decode cL_act 177 = .ok (.aaload, 1) := by decide +kernel
theorem dL_act_178 : decode cL_act 178 = .ok (.astore 6, 2) := by decide +kernel
theorem dL_act_180 : decode cL_act 180 = .ok (.iload_n 2, 1) := by decide +kernel
theorem dL_act_181 : decode cL_act 181 = .ok (.bipush 13, 2) := by decide +kernel
theorem dL_act_183 : decode cL_act 183 = .ok (.invokestatic 15, 3) := by decide +kernel
theorem dL_act_186 : decode cL_act 186 = .ok (.tableswitch 195 1 5 #[34, 79, 79, 156, 156], 34) := by decide +kernel
theorem dL_act_220 : decode cL_act 220 = .ok (.iload_n 2, 1) := by decide +kernel
theorem dL_act_221 : decode cL_act 221 = .ok (.bipush 6, 2) := by decide +kernel
theorem dL_act_223 : decode cL_act 223 = .ok (.ishr, 1) := by decide +kernel
theorem dL_act_224 : decode cL_act 224 = .ok (.iconst 3, 1) := by decide +kernel
theorem dL_act_225 : decode cL_act 225 = .ok (.invokestatic 15, 3) := by decide +kernel
theorem dL_act_228 : decode cL_act 228 = .ok (.ifCond .le 5, 3) := by decide +kernel
theorem dL_act_231 : decode cL_act 231 = .ok (.iconst 1, 1) := by decide +kernel
theorem dL_act_232 : decode cL_act 232 = .ok (.ireturn, 1) := by decide +kernel
theorem dL_act_233 : decode cL_act 233 = .ok (.aload_n 1, 1) := by decide +kernel
theorem dL_act_234 : decode cL_act 234 = .ok (.aload_n 1, 1) := by decide +kernel
theorem dL_act_235 : decode cL_act 235 = .ok (.getfield 9, 3) := by decide +kernel
theorem dL_act_238 : decode cL_act 238 = .ok (.iload 4, 2) := by decide +kernel
theorem dL_act_240 : decode cL_act 240 = .ok (.invokestatic 34, 3) := by decide +kernel
theorem dL_act_243 : decode cL_act 243 = .ok (.putfield 9, 3) := by decide +kernel
theorem dL_act_246 : decode cL_act 246 = .ok (.aload_n 0, 1) := by decide +kernel
theorem dL_act_247 : decode cL_act 247 = .ok (.iload 4, 2) := by decide +kernel
theorem dL_act_249 : decode cL_act 249 = .ok (.invokevirtual 38, 3) := by decide +kernel
theorem dL_act_252 : decode cL_act 252 = .ok (.aload 6, 2) := by decide +kernel
theorem dL_act_254 : decode cL_act 254 = .ok (.iconst 1, 1) := by decide +kernel
theorem dL_act_255 : decode cL_act 255 = .ok (.iaload, 1) := by decide +kernel
theorem dL_act_256 : decode cL_act 256 = .ok (.if_icmp .ne 7, 3) := by decide +kernel
theorem dL_act_259 : decode cL_act 259 = .ok (.iconst 1, 1) := by decide +kernel
theorem dL_act_260 : decode cL_act 260 = .ok (.goto 4, 3) := by decide +kernel
theorem dL_act_263 : decode cL_act 263 = .ok (.iconst 0, 1) := by decide +kernel
theorem dL_act_264 : decode cL_act 264 = .ok (.ireturn, 1) := by decide +kernel
theorem dL_act_265 : decode cL_act 265 = .ok (.iconst 1, 1) := by decide +kernel
theorem dL_act_266 : decode cL_act 266 = .ok (.iload_n 2, 1) := by decide +kernel
theorem dL_act_267 : decode cL_act 267 = .ok (.iconst 5, 1) := by decide +kernel
theorem dL_act_268 : decode cL_act 268 = .ok (.ishr, 1) := by decide +kernel
theorem dL_act_269 : decode cL_act 269 = .ok (.iload_n 2, 1) := by decide +kernel
theorem dL_act_270 : decode cL_act 270 = .ok (.bipush 7, 2) := by decide +kernel
theorem dL_act_272 : decode cL_act 272 = .ok (.ishr, 1) := by decide +kernel
theorem dL_act_273 : decode cL_act 273 = .ok (.iconst 2, 1) := by decide +kernel
theorem dL_act_274 : decode cL_act 274 = .ok (.invokestatic 15, 3) := by decide +kernel
theorem dL_act_277 : decode cL_act 277 = .ok (.ifCond .ne 8, 3) := by decide +kernel
theorem dL_act_280 : decode cL_act 280 = .ok (.bipush 99, 2) := by decide +kernel
theorem dL_act_282 : decode cL_act 282 = .ok (.goto 5, 3) := by decide +kernel
theorem dL_act_285 : decode cL_act 285 = .ok (.bipush 8, 2) := by decide +kernel
theorem dL_act_287 : decode cL_act 287 = .ok (.invokestatic 15, 3) := by decide +kernel
theorem dL_act_290 : decode cL_act 290 = .ok (.iadd, 1) := by decide +kernel
theorem dL_act_291 : decode cL_act 291 = .ok (.istore 7, 2) := by decide +kernel
theorem dL_act_293 : decode cL_act 293 = .ok (.aload 6, 2) := by decide +kernel
theorem dL_act_295 : decode cL_act 295 = .ok (.iconst 1, 1) := by decide +kernel
theorem dL_act_296 : decode cL_act 296 = .ok (.aload 6, 2) := by decide +kernel
theorem dL_act_298 : decode cL_act 298 = .ok (.iconst 1, 1) := by decide +kernel
theorem dL_act_299 : decode cL_act 299 = .ok (.iaload, 1) := by decide +kernel
theorem dL_act_300 : decode cL_act 300 = .ok (.iload 7, 2) := by decide +kernel
theorem dL_act_302 : decode cL_act 302 = .ok (.iadd, 1) := by decide +kernel
theorem dL_act_303 : decode cL_act 303 = .ok (.bipush 99, 2) := by decide +kernel
theorem dL_act_305 : decode cL_act 305 = .ok (.if_icmp .le 8, 3) := by decide +kernel
theorem dL_act_308 : decode cL_act 308 = .ok (.bipush 99, 2) := by decide +kernel
theorem dL_act_310 : decode cL_act 310 = .ok (.goto 10, 3) := by decide +kernel
theorem dL_act_313 : decode cL_act 313 = .ok (.aload 6, 2) := by decide +kernel
theorem dL_act_315 : decode cL_act 315 = .ok (.iconst 1, 1) := by decide +kernel
theorem dL_act_316 : decode cL_act 316 = .ok (.iaload, 1) := by decide +kernel
theorem dL_act_317 : decode cL_act 317 = .ok (.iload 7, 2) := by decide +kernel
theorem dL_act_319 : decode cL_act 319 = .ok (.iadd, 1) := by decide +kernel
theorem dL_act_320 : decode cL_act 320 = .ok (.iastore, 1) := by decide +kernel
theorem dL_act_321 : decode cL_act 321 = .ok (.aload_n 0, 1) := by decide +kernel
theorem dL_act_322 : decode cL_act 322 = .ok (.iload 4, 2) := by decide +kernel
theorem dL_act_324 : decode cL_act 324 = .ok (.iload 7, 2) := by decide +kernel
theorem dL_act_326 : decode cL_act 326 = .ok (.invokevirtual 42, 3) := by decide +kernel
theorem dL_act_329 : decode cL_act 329 = .ok (.aload 6, 2) := by decide +kernel
theorem dL_act_331 : decode cL_act 331 = .ok (.iconst 1, 1) := by decide +kernel
theorem dL_act_332 : decode cL_act 332 = .ok (.iaload, 1) := by decide +kernel
theorem dL_act_333 : decode cL_act 333 = .ok (.if_icmp .ne 7, 3) := by decide +kernel
theorem dL_act_336 : decode cL_act 336 = .ok (.iconst 1, 1) := by decide +kernel
theorem dL_act_337 : decode cL_act 337 = .ok (.goto 4, 3) := by decide +kernel
theorem dL_act_340 : decode cL_act 340 = .ok (.iconst 0, 1) := by decide +kernel
theorem dL_act_341 : decode cL_act 341 = .ok (.ireturn, 1) := by decide +kernel
theorem dL_act_342 : decode cL_act 342 = .ok (.aload_n 1, 1) := by decide +kernel
theorem dL_act_343 : decode cL_act 343 = .ok (.getfield 45, 3) := by decide +kernel
theorem dL_act_346 : decode cL_act 346 = .ok (.istore 7, 2) := by decide +kernel
theorem dL_act_348 : decode cL_act 348 = .ok (.aload_n 1, 1) := by decide +kernel
theorem dL_act_349 : decode cL_act 349 = .ok (.iconst 1, 1) := by decide +kernel
theorem dL_act_350 : decode cL_act 350 = .ok (.iload_n 2, 1) := by decide +kernel
theorem dL_act_351 : decode cL_act 351 = .ok (.iconst 4, 1) := by decide +kernel
theorem dL_act_352 : decode cL_act 352 = .ok (.ishr, 1) := by decide +kernel
theorem dL_act_353 : decode cL_act 353 = .ok (.bipush 12, 2) := by decide +kernel
theorem dL_act_355 : decode cL_act 355 = .ok (.invokestatic 15, 3) := by decide +kernel
theorem dL_act_358 : decode cL_act 358 = .ok (.iadd, 1) := by decide +kernel
theorem dL_act_359 : decode cL_act 359 = .ok (.putfield 45, 3) := by decide +kernel
theorem dL_act_362 : decode cL_act 362 = .ok (.aload_n 0, 1) := by decide +kernel
theorem dL_act_363 : decode cL_act 363 = .ok (.aload_n 1, 1) := by decide +kernel
theorem dL_act_364 : decode cL_act 364 = .ok (.getfield 45, 3) := by decide +kernel
theorem dL_act_367 : decode cL_act 367 = .ok (.invokevirtual 49, 3) := by decide +kernel
theorem dL_act_370 : decode cL_act 370 = .ok (.iload 7, 2) := by decide +kernel
theorem dL_act_372 : decode cL_act 372 = .ok (.if_icmp .ne 7, 3) := by decide +kernel
theorem dL_act_375 : decode cL_act 375 = .ok (.iconst 1, 1) := by decide +kernel
theorem dL_act_376 : decode cL_act 376 = .ok (.goto 4, 3) := by decide +kernel
theorem dL_act_379 : decode cL_act 379 = .ok (.iconst 0, 1) := by decide +kernel
theorem dL_act_380 : decode cL_act 380 = .ok (.ireturn, 1) := by decide +kernel
theorem dL_act_381 : decode cL_act 381 = .ok (.iconst 1, 1) := by decide +kernel
theorem dL_act_382 : decode cL_act 382 = .ok (.iload_n 2, 1) := by decide +kernel
theorem dL_act_383 : decode cL_act 383 = .ok (.iconst 4, 1) := by decide +kernel
theorem dL_act_384 : decode cL_act 384 = .ok (.ishr, 1) := by decide +kernel
theorem dL_act_385 : decode cL_act 385 = .ok (.iload_n 2, 1) := by decide +kernel
theorem dL_act_386 : decode cL_act 386 = .ok (.bipush 8, 2) := by decide +kernel
theorem dL_act_388 : decode cL_act 388 = .ok (.ishr, 1) := by decide +kernel
theorem dL_act_389 : decode cL_act 389 = .ok (.iconst 2, 1) := by decide +kernel
theorem dL_act_390 : decode cL_act 390 = .ok (.invokestatic 15, 3) := by decide +kernel
theorem dL_act_393 : decode cL_act 393 = .ok (.ifCond .ne 9, 3) := by decide +kernel
theorem dL_act_396 : decode cL_act 396 = .ok (.sipush 300, 3) := by decide +kernel
theorem dL_act_399 : decode cL_act 399 = .ok (.goto 5, 3) := by decide +kernel
theorem dL_act_402 : decode cL_act 402 = .ok (.bipush 60, 2) := by decide +kernel
theorem dL_act_404 : decode cL_act 404 = .ok (.invokestatic 15, 3) := by decide +kernel
theorem dL_act_407 : decode cL_act 407 = .ok (.iadd, 1) := by decide +kernel
theorem dL_act_408 : decode cL_act 408 = .ok (.istore 7, 2) := by decide +kernel
theorem dL_act_410 : decode cL_act 410 = .ok (.aload_n 1, 1) := by decide +kernel
theorem dL_act_411 : decode cL_act 411 = .ok (.getfield 52, 3) := by decide +kernel
theorem dL_act_414 : decode cL_act 414 = .ok (.istore 8, 2) := by decide +kernel
theorem dL_act_416 : decode cL_act 416 = .ok (.aload_n 1, 1) := by decide +kernel
theorem dL_act_417 : decode cL_act 417 = .ok (.iload 7, 2) := by decide +kernel
theorem dL_act_419 : decode cL_act 419 = .ok (.invokevirtual 55, 3) := by decide +kernel
theorem dL_act_422 : decode cL_act 422 = .ok (.istore 5, 2) := by decide +kernel
theorem dL_act_424 : decode cL_act 424 = .ok (.aload_n 0, 1) := by decide +kernel
theorem dL_act_425 : decode cL_act 425 = .ok (.iload 7, 2) := by decide +kernel
theorem dL_act_427 : decode cL_act 427 = .ok (.invokevirtual 58, 3) := by decide +kernel
theorem dL_act_430 : decode cL_act 430 = .ok (.aload_n 1, 1) := by decide +kernel
theorem dL_act_431 : decode cL_act 431 = .ok (.getfield 52, 3) := by decide +kernel
theorem dL_act_434 : decode cL_act 434 = .ok (.iload 8, 2) := by decide +kernel
theorem dL_act_436 : decode cL_act 436 = .ok (.isub, 1) := by decide +kernel
theorem dL_act_437 : decode cL_act 437 = .ok (.if_icmp .ne 12, 3) := by decide +kernel
theorem dL_act_440 : decode cL_act 440 = .ok (.iload 5, 2) := by decide +kernel
theorem dL_act_442 : decode cL_act 442 = .ok (.ifCond .eq 7, 3) := by decide +kernel
theorem dL_act_445 : decode cL_act 445 = .ok (.iconst 1, 1) := by decide +kernel
theorem dL_act_446 : decode cL_act 446 = .ok (.goto 4, 3) := by decide +kernel
theorem dL_act_449 : decode cL_act 449 = .ok (.iconst 0, 1) := by decide +kernel
theorem dL_act_450 : decode cL_act 450 = .ok (.ireturn, 1) := by decide +kernel
theorem dL_act_451 : decode cL_act 451 = .ok (.astore 6, 2) := by decide +kernel
theorem dL_act_453 : decode cL_act 453 = .ok (.iload 5, 2) := by decide +kernel
theorem dL_act_455 : decode cL_act 455 = .ok (.ifCond .ne 7, 3) := by decide +kernel
theorem dL_act_458 : decode cL_act 458 = .ok (.iconst 1, 1) := by decide +kernel
theorem dL_act_459 : decode cL_act 459 = .ok (.goto 4, 3) := by decide +kernel
theorem dL_act_462 : decode cL_act 462 = .ok (.iconst 0, 1) := by decide +kernel
theorem dL_act_463 : decode cL_act 463 = .ok (.ireturn, 1) := by decide +kernel
theorem dL_build_0 : decode cL_build 0 = .ok (.new 10, 3) := by decide +kernel
theorem dL_build_3 : decode cL_build 3 = .ok (.dup, 1) := by decide +kernel
theorem dL_build_4 : decode cL_build 4 = .ok (.invokespecial 62, 3) := by decide +kernel
theorem dL_build_7 : decode cL_build 7 = .ok (.astore_n 2, 1) := by decide +kernel
theorem dL_build_8 : decode cL_build 8 = .ok (.iconst 1, 1) := by decide +kernel
theorem dL_build_9 : decode cL_build 9 = .ok (.aload_n 1, 1) := by decide +kernel
theorem dL_build_10 : decode cL_build 10 = .ok (.iconst 0, 1) := by decide +kernel
theorem dL_build_11 : decode cL_build 11 = .ok (.invokestatic 63, 3) := by decide +kernel
theorem dL_build_14 : decode cL_build 14 = .ok (.bipush 8, 2) := by decide +kernel
theorem dL_build_16 : decode cL_build 16 = .ok (.invokestatic 15, 3) := by decide +kernel
theorem dL_build_19 : decode cL_build 19 = .ok (.iadd, 1) := by decide +kernel
theorem dL_build_20 : decode cL_build 20 = .ok (.istore_n 3, 1) := by decide +kernel
theorem dL_build_21 : decode cL_build 21 = .ok (.aload_n 2, 1) := by decide +kernel
theorem dL_build_22 : decode cL_build 22 = .ok (.iconst 1, 1) := by decide +kernel
theorem dL_build_23 : decode cL_build 23 = .ok (.aload_n 1, 1) := by decide +kernel
theorem dL_build_24 : decode cL_build 24 = .ok (.iconst 0, 1) := by decide +kernel
theorem dL_build_25 : decode cL_build 25 = .ok (.invokestatic 63, 3) := by decide +kernel
theorem dL_build_28 : decode cL_build 28 = .ok (.iconst 4, 1) := by decide +kernel
theorem dL_build_29 : decode cL_build 29 = .ok (.ishr, 1) := by decide +kernel
theorem dL_build_30 : decode cL_build 30 = .ok (.bipush 12, 2) := by decide +kernel
theorem dL_build_32 : decode cL_build 32 = .ok (.invokestatic 15, 3) := by decide +kernel
theorem dL_build_35 : decode cL_build 35 = .ok (.iadd, 1) := by decide +kernel
theorem dL_build_36 : decode cL_build 36 = .ok (.putfield 45, 3) := by decide +kernel
theorem dL_build_39 : decode cL_build 39 = .ok (.aload_n 0, 1) := by decide +kernel
theorem dL_build_40 : decode cL_build 40 = .ok (.aload_n 2, 1) := by decide +kernel
theorem dL_build_41 : decode cL_build 41 = .ok (.getfield 45, 3) := by decide +kernel
theorem dL_build_44 : decode cL_build 44 = .ok (.invokevirtual 49, 3) := by decide +kernel
theorem dL_build_47 : decode cL_build 47 = .ok (.bipush 6, 2) := by decide +kernel
theorem dL_build_49 : decode cL_build 49 = .ok (.if_icmp .eq 5, 3) := by decide +kernel
theorem dL_build_52 : decode cL_build 52 = .ok (.aconst_null, 1) := by decide +kernel
theorem dL_build_53 : decode cL_build 53 = .ok (.areturn, 1) := by decide +kernel
theorem dL_build_54 : decode cL_build 54 = .ok (.iconst 0, 1) := by decide +kernel
theorem dL_build_55 : decode cL_build 55 = .ok (.istore 4, 2) := by decide +kernel
theorem dL_build_57 : decode cL_build 57 = .ok (.iload 4, 2) := by decide +kernel
theorem dL_build_59 : decode cL_build 59 = .ok (.iload_n 3, 1) := by decide +kernel
theorem dL_build_60 : decode cL_build 60 = .ok (.if_icmp .ge 135, 3) := by decide +kernel
theorem dL_build_63 : decode cL_build 63 = .ok (.aload_n 1, 1) := by decide +kernel
theorem dL_build_64 : decode cL_build 64 = .ok (.iconst 1, 1) := by decide +kernel
theorem dL_build_65 : decode cL_build 65 = .ok (.iload 4, 2) := by decide +kernel
theorem dL_build_67 : decode cL_build 67 = .ok (.iadd, 1) := by decide +kernel
theorem dL_build_68 : decode cL_build 68 = .ok (.invokestatic 63, 3) := by decide +kernel
theorem dL_build_71 : decode cL_build 71 = .ok (.iconst 1, 1) := by decide +kernel
theorem dL_build_72 : decode cL_build 72 = .ok (.ishr, 1) := by decide +kernel
theorem dL_build_73 : decode cL_build 73 = .ok (.istore 5, 2) := by decide +kernel
theorem dL_build_75 : decode cL_build 75 = .ok (.iconst 1, 1) := by decide +kernel
theorem dL_build_76 : decode cL_build 76 = .ok (.iload 5, 2) := by decide +kernel
theorem dL_build_78 : decode cL_build 78 = .ok (.iconst 4, 1) := by decide +kernel
theorem dL_build_79 : decode cL_build 79 = .ok (.ishr, 1) := by decide +kernel
theorem dL_build_80 : decode cL_build 80 = .ok (.iload 5, 2) := by decide +kernel
theorem dL_build_82 : decode cL_build 82 = .ok (.iconst 2, 1) := by decide +kernel
theorem dL_build_83 : decode cL_build 83 = .ok (.invokestatic 15, 3) := by decide +kernel
theorem dL_build_86 : decode cL_build 86 = .ok (.ifCond .ne 8, 3) := by decide +kernel
theorem dL_build_89 : decode cL_build 89 = .ok (.bipush 60, 2) := by decide +kernel
theorem dL_build_91 : decode cL_build 91 = .ok (.goto 5, 3) := by decide +kernel
theorem dL_build_94 : decode cL_build 94 = .ok (.bipush 10, 2) := by decide +kernel
theorem dL_build_96 : decode cL_build 96 = .ok (.invokestatic 15, 3) := by decide +kernel
theorem dL_build_99 : decode cL_build 99 = .ok (.iadd, 1) := by decide +kernel
theorem dL_build_100 : decode cL_build 100 = .ok (.istore 6, 2) := by decide +kernel
theorem dL_build_102 : decode cL_build 102 = .ok (.iload 5, 2) := by decide +kernel
theorem dL_build_104 : decode cL_build 104 = .ok (.bipush 6, 2) := by decide +kernel
theorem dL_build_106 : decode cL_build 106 = .ok (.ishr, 1) := by decide +kernel
theorem dL_build_107 : decode cL_build 107 = .ok (.iload 5, 2) := by decide +kernel
theorem dL_build_109 : decode cL_build 109 = .ok (.iconst 2, 1) := by decide +kernel
theorem dL_build_110 : decode cL_build 110 = .ok (.ishr, 1) := by decide +kernel
theorem dL_build_111 : decode cL_build 111 = .ok (.iconst 2, 1) := by decide +kernel
theorem dL_build_112 : decode cL_build 112 = .ok (.invokestatic 15, 3) := by decide +kernel
theorem dL_build_115 : decode cL_build 115 = .ok (.ifCond .ne 8, 3) := by decide +kernel
theorem dL_build_118 : decode cL_build 118 = .ok (.bipush 100, 2) := by decide +kernel
theorem dL_build_120 : decode cL_build 120 = .ok (.goto 4, 3) := by decide +kernel
theorem dL_build_123 : decode cL_build 123 = .ok (.iconst 5, 1) := by decide +kernel
theorem dL_build_124 : decode cL_build 124 = .ok (.invokestatic 15, 3) := by decide +kernel
theorem dL_build_127 : decode cL_build 127 = .ok (.istore 7, 2) := by decide +kernel
theorem dL_build_129 : decode cL_build 129 = .ok (.aload_n 2, 1) := by decide +kernel
theorem dL_build_130 : decode cL_build 130 = .ok (.iload 6, 2) := by decide +kernel
theorem dL_build_132 : decode cL_build 132 = .ok (.invokevirtual 21, 3) := by decide +kernel
theorem dL_build_135 : decode cL_build 135 = .ok (.ifCond .eq 6, 3) := by decide +kernel
theorem dL_build_138 : decode cL_build 138 = .ok (.goto 51, 3) := by decide +kernel
theorem dL_build_141 : decode cL_build 141 = .ok (.aload_n 2, 1) := by decide +kernel
theorem dL_build_142 : decode cL_build 142 = .ok (.aload_n 2, 1) := by decide +kernel
theorem dL_build_143 : decode cL_build 143 = .ok (.getfield 9, 3) := by decide +kernel
theorem dL_build_146 : decode cL_build 146 = .ok (.iconst 3, 1) := by decide +kernel
theorem dL_build_147 : decode cL_build 147 = .ok (.newarray .int, 2) := by decide +kernel
theorem dL_build_149 : decode cL_build 149 = .ok (.dup, 1) := by decide +kernel
theorem dL_build_150 : decode cL_build 150 = .ok (.iconst 0, 1) := by decide +kernel
theorem dL_build_151 : decode cL_build 151 = .ok (.iload 6, 2) := by decide +kernel
theorem dL_build_153 : decode cL_build 153 = .ok (.iastore, 1) := by decide +kernel
theorem dL_build_154 : decode cL_build 154 = .ok (.dup, 1) := by decide +kernel
theorem dL_build_155 : decode cL_build 155 = .ok (.iconst 1, 1) := by decide +kernel
theorem dL_build_156 : decode cL_build 156 = .ok (.iload 7, 2) := by decide +kernel
theorem dL_build_158 : decode cL_build 158 = .ok (.iastore, 1) := by decide +kernel
theorem dL_build_159 : decode cL_build 159 = .ok (.dup, 1) := by decide +kernel
theorem dL_build_160 : decode cL_build 160 = .ok (.iconst 2, 1) := by decide +kernel
theorem dL_build_161 : decode cL_build 161 = .ok (.iconst 0, 1) := by decide +kernel
theorem dL_build_162 : decode cL_build 162 = .ok (.iastore, 1) := by decide +kernel
theorem dL_build_163 : decode cL_build 163 = .ok (.invokestatic 25, 3) := by decide +kernel
theorem dL_build_166 : decode cL_build 166 = .ok (.putfield 9, 3) := by decide +kernel
theorem dL_build_169 : decode cL_build 169 = .ok (.aload_n 0, 1) := by decide +kernel
theorem dL_build_170 : decode cL_build 170 = .ok (.iload 6, 2) := by decide +kernel
theorem dL_build_172 : decode cL_build 172 = .ok (.iload 7, 2) := by decide +kernel
theorem dL_build_174 : decode cL_build 174 = .ok (.invokevirtual 29, 3) := by decide +kernel
theorem dL_build_177 : decode cL_build 177 = .ok (.aload_n 2, 1) := by decide +kernel
theorem dL_build_178 : decode cL_build 178 = .ok (.getfield 9, 3) := by decide +kernel
theorem dL_build_181 : decode cL_build 181 = .ok (.arraylength, 1) := by decide +kernel
theorem dL_build_182 : decode cL_build 182 = .ok (.iconst 1, 1) := by decide +kernel
theorem dL_build_183 : decode cL_build 183 = .ok (.isub, 1) := by decide +kernel
theorem dL_build_184 : decode cL_build 184 = .ok (.if_icmp .eq 5, 3) := by decide +kernel
theorem dL_build_187 : decode cL_build 187 = .ok (.aconst_null, 1) := by decide +kernel
theorem dL_build_188 : decode cL_build 188 = .ok (.areturn, 1) := by decide +kernel
theorem dL_build_189 : decode cL_build 189 = .ok (.iinc 4 1, 3) := by decide +kernel
theorem dL_build_192 : decode cL_build 192 = .ok (.goto (-135), 3) := by decide +kernel
theorem dL_build_195 : decode cL_build 195 = .ok (.aload_n 2, 1) := by decide +kernel
theorem dL_build_196 : decode cL_build 196 = .ok (.areturn, 1) := by decide +kernel
theorem dL_law_0 : decode cL_law 0 = .ok (.new 30, 3) := by decide +kernel
theorem dL_law_3 : decode cL_law 3 = .ok (.dup, 1) := by decide +kernel
theorem dL_law_4 : decode cL_law 4 = .ok (.invokespecial 67, 3) := by decide +kernel
theorem dL_law_7 : decode cL_law 7 = .ok (.astore_n 1, 1) := by decide +kernel
theorem dL_law_8 : decode cL_law 8 = .ok (.aload_n 1, 1) := by decide +kernel
theorem dL_law_9 : decode cL_law 9 = .ok (.aload_n 0, 1) := by decide +kernel
theorem dL_law_10 : decode cL_law 10 = .ok (.invokestatic 68, 3) := by decide +kernel
theorem dL_law_13 : decode cL_law 13 = .ok (.astore_n 2, 1) := by decide +kernel
theorem dL_law_14 : decode cL_law 14 = .ok (.aload_n 2, 1) := by decide +kernel
theorem dL_law_15 : decode cL_law 15 = .ok (.ifnonnull 5, 3) := by decide +kernel
theorem dL_law_18 : decode cL_law 18 = .ok (.iconst 0, 1) := by decide +kernel
theorem dL_law_19 : decode cL_law 19 = .ok (.ireturn, 1) := by decide +kernel
theorem dL_law_20 : decode cL_law 20 = .ok (.iconst 0, 1) := by decide +kernel
theorem dL_law_21 : decode cL_law 21 = .ok (.istore_n 3, 1) := by decide +kernel
theorem dL_law_22 : decode cL_law 22 = .ok (.iload_n 3, 1) := by decide +kernel
theorem dL_law_23 : decode cL_law 23 = .ok (.bipush 8, 2) := by decide +kernel
theorem dL_law_25 : decode cL_law 25 = .ok (.if_icmp .ge 1170, 3) := by decide +kernel
theorem dL_law_28 : decode cL_law 28 = .ok (.aload_n 0, 1) := by decide +kernel
theorem dL_law_29 : decode cL_law 29 = .ok (.iload_n 3, 1) := by decide +kernel
theorem dL_law_30 : decode cL_law 30 = .ok (.iconst 1, 1) := by decide +kernel
theorem dL_law_31 : decode cL_law 31 = .ok (.iadd, 1) := by decide +kernel
theorem dL_law_32 : decode cL_law 32 = .ok (.invokestatic 63, 3) := by decide +kernel
theorem dL_law_35 : decode cL_law 35 = .ok (.iconst 2, 1) := by decide +kernel
theorem dL_law_36 : decode cL_law 36 = .ok (.ishr, 1) := by decide +kernel
theorem dL_law_37 : decode cL_law 37 = .ok (.bipush 53, 2) := by decide +kernel
theorem dL_law_39 : decode cL_law 39 = .ok (.iload_n 3, 1) := by decide +kernel
theorem dL_law_40 : decode cL_law 40 = .ok (.imul, 1) := by decide +kernel
theorem dL_law_41 : decode cL_law 41 = .ok (.iadd, 1) := by decide +kernel
theorem dL_law_42 : decode cL_law 42 = .ok (.istore 4, 2) := by decide +kernel
theorem dL_law_44 : decode cL_law 44 = .ok (.iconst 0, 1) := by decide +kernel
theorem dL_law_45 : decode cL_law 45 = .ok (.istore 5, 2) := by decide +kernel
theorem dL_law_47 : decode cL_law 47 = .ok (.iload 5, 2) := by decide +kernel
theorem dL_law_49 : decode cL_law 49 = .ok (.iconst 3, 1) := by decide +kernel
theorem dL_law_50 : decode cL_law 50 = .ok (.if_icmp .ge 32, 3) := by decide +kernel
theorem dL_law_53 : decode cL_law 53 = .ok (.aload_n 1, 1) := by decide +kernel
theorem dL_law_54 : decode cL_law 54 = .ok (.aload_n 2, 1) := by decide +kernel
theorem dL_law_55 : decode cL_law 55 = .ok (.iload 4, 2) := by decide +kernel
theorem dL_law_57 : decode cL_law 57 = .ok (.iconst 3, 1) := by decide +kernel
theorem dL_law_58 : decode cL_law 58 = .ok (.iload 5, 2) := by decide +kernel
theorem dL_law_60 : decode cL_law 60 = .ok (.imul, 1) := by decide +kernel
theorem dL_law_61 : decode cL_law 61 = .ok (.ishr, 1) := by decide +kernel
theorem dL_law_62 : decode cL_law 62 = .ok (.bipush 29, 2) := by decide +kernel
theorem dL_law_64 : decode cL_law 64 = .ok (.iload 5, 2) := by decide +kernel
theorem dL_law_66 : decode cL_law 66 = .ok (.imul, 1) := by decide +kernel
theorem dL_law_67 : decode cL_law 67 = .ok (.iadd, 1) := by decide +kernel
theorem dL_law_68 : decode cL_law 68 = .ok (.invokestatic 72, 3) := by decide +kernel
theorem dL_law_71 : decode cL_law 71 = .ok (.ifCond .ne 5, 3) := by decide +kernel
theorem dL_law_74 : decode cL_law 74 = .ok (.iconst 0, 1) := by decide +kernel
theorem dL_law_75 : decode cL_law 75 = .ok (.ireturn, 1) := by decide +kernel
theorem dL_law_76 : decode cL_law 76 = .ok (.iinc 5 1, 3) := by decide +kernel
theorem dL_law_79 : decode cL_law 79 = .ok (.goto (-32), 3) := by decide +kernel
theorem dL_law_82 : decode cL_law 82 = .ok (.aload_n 1, 1) := by decide +kernel
theorem dL_law_83 : decode cL_law 83 = .ok (.invokevirtual 76, 3) := by decide +kernel
theorem dL_law_86 : decode cL_law 86 = .ok (.lstore 5, 2) := by decide +kernel
theorem dL_law_88 : decode cL_law 88 = .ok (.aload_n 1, 1) := by decide +kernel
theorem dL_law_89 : decode cL_law 89 = .ok (.invokevirtual 80, 3) := by decide +kernel
theorem dL_law_92 : decode cL_law 92 = .ok (.istore 7, 2) := by decide +kernel
theorem dL_law_94 : decode cL_law 94 = .ok (.aload_n 1, 1) := by decide +kernel
theorem dL_law_95 : decode cL_law 95 = .ok (.invokevirtual 83, 3) := by decide +kernel
theorem dL_law_98 : decode cL_law 98 = .ok (.istore 8, 2) := by decide +kernel
theorem dL_law_100 : decode cL_law 100 = .ok (.iconst 0, 1) := by decide +kernel
theorem dL_law_101 : decode cL_law 101 = .ok (.istore 9, 2) := by decide +kernel
theorem dL_law_103 : decode cL_law 103 = .ok (.iconst 0, 1) := by decide +kernel
theorem dL_law_104 : decode cL_law 104 = .ok (.istore 10, 2) := by decide +kernel
theorem dL_law_106 : decode cL_law 106 = .ok (.iload 10, 2) := by decide +kernel
theorem dL_law_108 : decode cL_law 108 = .ok (.iload 7, 2) := by decide +kernel
theorem dL_law_110 : decode cL_law 110 = .ok (.if_icmp .ge 122, 3) := by decide +kernel
theorem dL_law_113 : decode cL_law 113 = .ok (.iload 9, 2) := by decide +kernel
theorem dL_law_115 : decode cL_law 115 = .ok (.aload_n 1, 1) := by decide +kernel
theorem dL_law_116 : decode cL_law 116 = .ok (.iload 10, 2) := by decide +kernel
theorem dL_law_118 : decode cL_law 118 = .ok (.invokevirtual 85, 3) := by decide +kernel
theorem dL_law_121 : decode cL_law 121 = .ok (.iadd, 1) := by decide +kernel
theorem dL_law_122 : decode cL_law 122 = .ok (.istore 9, 2) := by decide +kernel
theorem dL_law_124 : decode cL_law 124 = .ok (.aload_n 1, 1) := by decide +kernel
theorem dL_law_125 : decode cL_law 125 = .ok (.iload 10, 2) := by decide +kernel
theorem dL_law_127 : decode cL_law 127 = .ok (.invokevirtual 85, 3) := by decide +kernel
theorem dL_law_130 : decode cL_law 130 = .ok (.iconst 1, 1) := by decide +kernel
theorem dL_law_131 : decode cL_law 131 = .ok (.if_icmp .lt 60, 3) := by decide +kernel
theorem dL_law_134 : decode cL_law 134 = .ok (.aload_n 1, 1) := by decide +kernel
theorem dL_law_135 : decode cL_law 135 = .ok (.iload 10, 2) := by decide +kernel
theorem dL_law_137 : decode cL_law 137 = .ok (.invokevirtual 85, 3) := by decide +kernel
theorem dL_law_140 : decode cL_law 140 = .ok (.bipush 60, 2) := by decide +kernel
theorem dL_law_142 : decode cL_law 142 = .ok (.if_icmp .gt 49, 3) := by decide +kernel
theorem dL_law_145 : decode cL_law 145 = .ok (.aload_n 1, 1) := by decide +kernel
theorem dL_law_146 : decode cL_law 146 = .ok (.iload 10, 2) := by decide +kernel
theorem dL_law_148 : decode cL_law 148 = .ok (.invokevirtual 88, 3) := by decide +kernel
theorem dL_law_151 : decode cL_law 151 = .ok (.ifCond .lt 40, 3) := by decide +kernel
theorem dL_law_154 : decode cL_law 154 = .ok (.aload_n 1, 1) := by decide +kernel
theorem dL_law_155 : decode cL_law 155 = .ok (.iload 10, 2) := by decide +kernel
theorem dL_law_157 : decode cL_law 157 = .ok (.invokevirtual 88, 3) := by decide +kernel
theorem dL_law_160 : decode cL_law 160 = .ok (.bipush 99, 2) := by decide +kernel
theorem dL_law_162 : decode cL_law 162 = .ok (.if_icmp .gt 29, 3) := by decide +kernel
theorem dL_law_165 : decode cL_law 165 = .ok (.aload_n 1, 1) := by decide +kernel
theorem dL_law_166 : decode cL_law 166 = .ok (.iload 10, 2) := by decide +kernel
theorem dL_law_168 : decode cL_law 168 = .ok (.invokevirtual 91, 3) := by decide +kernel
theorem dL_law_171 : decode cL_law 171 = .ok (.ifCond .lt 20, 3) := by decide +kernel
theorem dL_law_174 : decode cL_law 174 = .ok (.aload_n 1, 1) := by decide +kernel
theorem dL_law_175 : decode cL_law 175 = .ok (.iload 10, 2) := by decide +kernel
theorem dL_law_177 : decode cL_law 177 = .ok (.invokevirtual 88, 3) := by decide +kernel
theorem dL_law_180 : decode cL_law 180 = .ok (.aload_n 1, 1) := by decide +kernel
theorem dL_law_181 : decode cL_law 181 = .ok (.aload_n 1, 1) := by decide +kernel
theorem dL_law_182 : decode cL_law 182 = .ok (.invokevirtual 94, 3) := by decide +kernel
theorem dL_law_185 : decode cL_law 185 = .ok (.invokevirtual 88, 3) := by decide +kernel
theorem dL_law_188 : decode cL_law 188 = .ok (.if_icmp .ge 5, 3) := by decide +kernel
theorem dL_law_191 : decode cL_law 191 = .ok (.iconst 0, 1) := by decide +kernel
theorem dL_law_192 : decode cL_law 192 = .ok (.ireturn, 1) := by decide +kernel
theorem dL_law_193 : decode cL_law 193 = .ok (.iconst 0, 1) := by decide +kernel
theorem dL_law_194 : decode cL_law 194 = .ok (.istore 11, 2) := by decide +kernel
theorem dL_law_196 : decode cL_law 196 = .ok (.iload 11, 2) := by decide +kernel
theorem dL_law_198 : decode cL_law 198 = .ok (.iload 10, 2) := by decide +kernel
theorem dL_law_200 : decode cL_law 200 = .ok (.if_icmp .ge 26, 3) := by decide +kernel
theorem dL_law_203 : decode cL_law 203 = .ok (.aload_n 1, 1) := by decide +kernel
theorem dL_law_204 : decode cL_law 204 = .ok (.iload 11, 2) := by decide +kernel
theorem dL_law_206 : decode cL_law 206 = .ok (.invokevirtual 85, 3) := by decide +kernel
theorem dL_law_209 : decode cL_law 209 = .ok (.aload_n 1, 1) := by decide +kernel
theorem dL_law_210 : decode cL_law 210 = .ok (.iload 10, 2) := by decide +kernel
theorem dL_law_212 : decode cL_law 212 = .ok (.invokevirtual 85, 3) := by decide +kernel
theorem dL_law_215 : decode cL_law 215 = .ok (.if_icmp .ne 5, 3) := by decide +kernel
theorem dL_law_218 : decode cL_law 218 = .ok (.iconst 0, 1) := by decide +kernel
theorem dL_law_219 : decode cL_law 219 = .ok (.ireturn, 1) := by decide +kernel
theorem dL_law_220 : decode cL_law 220 = .ok (.iinc 11 1, 3) := by decide +kernel
theorem dL_law_223 : decode cL_law 223 = .ok (.goto (-27), 3) := by decide +kernel
theorem dL_law_226 : decode cL_law 226 = .ok (.iinc 10 1, 3) := by decide +kernel
theorem dL_law_229 : decode cL_law 229 = .ok (.goto (-123), 3) := by decide +kernel
theorem dL_law_232 : decode cL_law 232 = .ok (.aload_n 1, 1) := by decide +kernel
theorem dL_law_233 : decode cL_law 233 = .ok (.invokevirtual 97, 3) := by decide +kernel
theorem dL_law_236 : decode cL_law 236 = .ok (.ifCond .lt 38, 3) := by decide +kernel
theorem dL_law_239 : decode cL_law 239 = .ok (.aload_n 1, 1) := by decide +kernel
theorem dL_law_240 : decode cL_law 240 = .ok (.invokevirtual 97, 3) := by decide +kernel
theorem dL_law_243 : decode cL_law 243 = .ok (.aload_n 1, 1) := by decide +kernel
theorem dL_law_244 : decode cL_law 244 = .ok (.invokevirtual 99, 3) := by decide +kernel
theorem dL_law_247 : decode cL_law 247 = .ok (.if_icmp .gt 27, 3) := by decide +kernel
theorem dL_law_250 : decode cL_law 250 = .ok (.aload_n 1, 1) := by decide +kernel
theorem dL_law_251 : decode cL_law 251 = .ok (.invokevirtual 102, 3) := by decide +kernel
theorem dL_law_254 : decode cL_law 254 = .ok (.iload 7, 2) := by decide +kernel
theorem dL_law_256 : decode cL_law 256 = .ok (.ifCond .ne 7, 3) := by decide +kernel
theorem dL_law_259 : decode cL_law 259 = .ok (.dconst 0, 1) := by decide +kernel
theorem dL_law_260 : decode cL_law 260 = .ok (.goto 10, 3) := by decide +kernel
theorem dL_law_263 : decode cL_law 263 = .ok (.iload 9, 2) := by decide +kernel
theorem dL_law_265 : decode cL_law 265 = .ok (.i2d, 1) := by decide +kernel
theorem dL_law_266 : decode cL_law 266 = .ok (.iload 7, 2) := by decide +kernel
theorem dL_law_268 : decode cL_law 268 = .ok (.i2d, 1) := by decide +kernel
theorem dL_law_269 : decode cL_law 269 = .ok (.ddiv, 1) := by decide +kernel
theorem dL_law_270 : decode cL_law 270 = .ok (.dcmp .l, 1) := by decide +kernel
theorem dL_law_271 : decode cL_law 271 = .ok (.ifCond .eq 5, 3) := by decide +kernel
theorem dL_law_274 : decode cL_law 274 = .ok (.iconst 0, 1) := by decide +kernel
theorem dL_law_275 : decode cL_law 275 = .ok (.ireturn, 1) := by decide +kernel
theorem dL_law_276 : decode cL_law 276 = .ok (.iconst 0, 1) := by decide +kernel
theorem dL_law_277 : decode cL_law 277 = .ok (.istore 10, 2) := by decide +kernel
theorem dL_law_279 : decode cL_law 279 = .ok (.iload 10, 2) := by decide +kernel
theorem dL_law_281 : decode cL_law 281 = .ok (.iconst 4, 1) := by decide +kernel
theorem dL_law_282 : decode cL_law 282 = .ok (.if_icmp .ge 493, 3) := by decide +kernel
theorem dL_law_285 : decode cL_law 285 = .ok (.iconst 1, 1) := by decide +kernel
theorem dL_law_286 : decode cL_law 286 = .ok (.iload 4, 2) := by decide +kernel
theorem dL_law_288 : decode cL_law 288 = .ok (.iload 10, 2) := by decide +kernel
theorem dL_law_290 : decode cL_law 290 = .ok (.ishr, 1) := by decide +kernel
theorem dL_law_291 : decode cL_law 291 = .ok (.bipush 37, 2) := by decide +kernel
theorem dL_law_293 : decode cL_law 293 = .ok (.iload 10, 2) := by decide +kernel
theorem dL_law_295 : decode cL_law 295 = .ok (.imul, 1) := by decide +kernel
theorem dL_law_296 : decode cL_law 296 = .ok (.iadd, 1) := by decide +kernel
theorem dL_law_297 : decode cL_law 297 = .ok (.iload 10, 2) := by decide +kernel
theorem dL_law_299 : decode cL_law 299 = .ok (.iconst 2, 1) := by decide +kernel
theorem dL_law_300 : decode cL_law 300 = .ok (.irem, 1) := by decide +kernel
theorem dL_law_301 : decode cL_law 301 = .ok (.ifCond .ne 9, 3) := by decide +kernel
theorem dL_law_304 : decode cL_law 304 = .ok (.sipush 300, 3) := by decide +kernel
theorem dL_law_307 : decode cL_law 307 = .ok (.goto 5, 3) := by decide +kernel
theorem dL_law_310 : decode cL_law 310 = .ok (.bipush 50, 2) := by decide +kernel
theorem dL_law_312 : decode cL_law 312 = .ok (.invokestatic 15, 3) := by decide +kernel
theorem dL_law_315 : decode cL_law 315 = .ok (.iadd, 1) := by decide +kernel
theorem dL_law_316 : decode cL_law 316 = .ok (.istore 11, 2) := by decide +kernel
theorem dL_law_318 : decode cL_law 318 = .ok (.aload_n 1, 1) := by decide +kernel
theorem dL_law_319 : decode cL_law 319 = .ok (.iload 11, 2) := by decide +kernel
theorem dL_law_321 : decode cL_law 321 = .ok (.invokevirtual 106, 3) := by decide +kernel
theorem dL_law_324 : decode cL_law 324 = .ok (.istore 12, 2) := by decide +kernel
theorem dL_law_326 : decode cL_law 326 = .ok (.iconst 0, 1) := by decide +kernel
theorem dL_law_327 : decode cL_law 327 = .ok (.istore 13, 2) := by decide +kernel
theorem dL_law_329 : decode cL_law 329 = .ok (.iconst 0, 1) := by decide +kernel
theorem dL_law_330 : decode cL_law 330 = .ok (.istore 14, 2) := by decide +kernel
theorem dL_law_332 : decode cL_law 332 = .ok (.iconst 0, 1) := by decide +kernel
theorem dL_law_333 : decode cL_law 333 = .ok (.istore 15, 2) := by decide +kernel
theorem dL_law_335 : decode cL_law 335 = .ok (.iconst 0, 1) := by decide +kernel
theorem dL_law_336 : decode cL_law 336 = .ok (.istore 16, 2) := by decide +kernel
theorem dL_law_338 : decode cL_law 338 = .ok (.iconst 0, 1) := by decide +kernel
theorem dL_law_339 : decode cL_law 339 = .ok (.istore 17, 2) := by decide +kernel
theorem dL_law_341 : decode cL_law 341 = .ok (.iload 17, 2) := by decide +kernel
theorem dL_law_343 : decode cL_law 343 = .ok (.iload 7, 2) := by decide +kernel
theorem dL_law_345 : decode cL_law 345 = .ok (.if_icmp .ge 113, 3) := by decide +kernel
theorem dL_law_348 : decode cL_law 348 = .ok (.aload_n 1, 1) := by decide +kernel
theorem dL_law_349 : decode cL_law 349 = .ok (.iload 11, 2) := by decide +kernel
theorem dL_law_351 : decode cL_law 351 = .ok (.iload 17, 2) := by decide +kernel
theorem dL_law_353 : decode cL_law 353 = .ok (.invokevirtual 109, 3) := by decide +kernel
theorem dL_law_356 : decode cL_law 356 = .ok (.istore 18, 2) := by decide +kernel
theorem dL_law_358 : decode cL_law 358 = .ok (.iload 13, 2) := by decide +kernel
theorem dL_law_360 : decode cL_law 360 = .ok (.iload 18, 2) := by decide +kernel
theorem dL_law_362 : decode cL_law 362 = .ok (.aload_n 1, 1) := by decide +kernel
theorem dL_law_363 : decode cL_law 363 = .ok (.iload 17, 2) := by decide +kernel
theorem dL_law_365 : decode cL_law 365 = .ok (.invokevirtual 85, 3) := by decide +kernel
theorem dL_law_368 : decode cL_law 368 = .ok (.imul, 1) := by decide +kernel
theorem dL_law_369 : decode cL_law 369 = .ok (.iadd, 1) := by decide +kernel
theorem dL_law_370 : decode cL_law 370 = .ok (.istore 13, 2) := by decide +kernel
theorem dL_law_372 : decode cL_law 372 = .ok (.iload 14, 2) := by decide +kernel
theorem dL_law_374 : decode cL_law 374 = .ok (.iload 18, 2) := by decide +kernel
theorem dL_law_376 : decode cL_law 376 = .ok (.iadd, 1) := by decide +kernel
theorem dL_law_377 : decode cL_law 377 = .ok (.istore 14, 2) := by decide +kernel
theorem dL_law_379 : decode cL_law 379 = .ok (.iload 18, 2) := by decide +kernel
theorem dL_law_381 : decode cL_law 381 = .ok (.ifCond .lt 14, 3) := by decide +kernel
theorem dL_law_384 : decode cL_law 384 = .ok (.iload 18, 2) := by decide +kernel
theorem dL_law_386 : decode cL_law 386 = .ok (.aload_n 1, 1) := by decide +kernel
theorem dL_law_387 : decode cL_law 387 = .ok (.iload 17, 2) := by decide +kernel
theorem dL_law_389 : decode cL_law 389 = .ok (.invokevirtual 88, 3) := by decide +kernel
theorem dL_law_392 : decode cL_law 392 = .ok (.if_icmp .le 5, 3) := by decide +kernel
theorem dL_law_395 : decode cL_law 395 = .ok (.iconst 0, 1) := by decide +kernel
theorem dL_law_396 : decode cL_law 396 = .ok (.ireturn, 1) := by decide +kernel
theorem dL_law_397 : decode cL_law 397 = .ok (.iload 4, 2) := by decide +kernel
theorem dL_law_399 : decode cL_law 399 = .ok (.iload 17, 2) := by decide +kernel
theorem dL_law_401 : decode cL_law 401 = .ok (.ishr, 1) := by decide +kernel
theorem dL_law_402 : decode cL_law 402 = .ok (.bipush 7, 2) := by decide +kernel
theorem dL_law_404 : decode cL_law 404 = .ok (.iload 10, 2) := by decide +kernel
theorem dL_law_406 : decode cL_law 406 = .ok (.imul, 1) := by decide +kernel
theorem dL_law_407 : decode cL_law 407 = .ok (.iadd, 1) := by decide +kernel
theorem dL_law_408 : decode cL_law 408 = .ok (.iconst 5, 1) := by decide +kernel
theorem dL_law_409 : decode cL_law 409 = .ok (.invokestatic 15, 3) := by decide +kernel
theorem dL_law_412 : decode cL_law 412 = .ok (.aload_n 1, 1) := by decide +kernel
theorem dL_law_413 : decode cL_law 413 = .ok (.iload 17, 2) := by decide +kernel
theorem dL_law_415 : decode cL_law 415 = .ok (.invokevirtual 88, 3) := by decide +kernel
theorem dL_law_418 : decode cL_law 418 = .ok (.iload 8, 2) := by decide +kernel
theorem dL_law_420 : decode cL_law 420 = .ok (.iload 16, 2) := by decide +kernel
theorem dL_law_422 : decode cL_law 422 = .ok (.isub, 1) := by decide +kernel
theorem dL_law_423 : decode cL_law 423 = .ok (.invokestatic 112, 3) := by decide +kernel
theorem dL_law_426 : decode cL_law 426 = .ok (.invokestatic 112, 3) := by decide +kernel
theorem dL_law_429 : decode cL_law 429 = .ok (.istore 19, 2) := by decide +kernel
theorem dL_law_431 : decode cL_law 431 = .ok (.iload 15, 2) := by decide +kernel
theorem dL_law_433 : decode cL_law 433 = .ok (.iload 19, 2) := by decide +kernel
theorem dL_law_435 : decode cL_law 435 = .ok (.aload_n 1, 1) := by decide +kernel
theorem dL_law_436 : decode cL_law 436 = .ok (.iload 17, 2) := by decide +kernel
theorem dL_law_438 : decode cL_law 438 = .ok (.invokevirtual 85, 3) := by decide +kernel
theorem dL_law_441 : decode cL_law 441 = .ok (.imul, 1) := by decide +kernel
theorem dL_law_442 : decode cL_law 442 = .ok (.iadd, 1) := by decide +kernel
theorem dL_law_443 : decode cL_law 443 = .ok (.istore 15, 2) := by decide +kernel
theorem dL_law_445 : decode cL_law 445 = .ok (.iload 16, 2) := by decide +kernel
theorem dL_law_447 : decode cL_law 447 = .ok (.iload 19, 2) := by decide +kernel
theorem dL_law_449 : decode cL_law 449 = .ok (.iadd, 1) := by decide +kernel
theorem dL_law_450 : decode cL_law 450 = .ok (.istore 16, 2) := by decide +kernel
theorem dL_law_452 : decode cL_law 452 = .ok (.iinc 17 1, 3) := by decide +kernel
theorem dL_law_455 : decode cL_law 455 = .ok (.goto (-114), 3) := by decide +kernel
theorem dL_law_458 : decode cL_law 458 = .ok (.iload 12, 2) := by decide +kernel
theorem dL_law_460 : decode cL_law 460 = .ok (.ifCond .lt 7, 3) := by decide +kernel
theorem dL_law_463 : decode cL_law 463 = .ok (.iconst 1, 1) := by decide +kernel
theorem dL_law_464 : decode cL_law 464 = .ok (.goto 4, 3) := by decide +kernel
theorem dL_law_467 : decode cL_law 467 = .ok (.iconst 0, 1) := by decide +kernel
theorem dL_law_468 : decode cL_law 468 = .ok (.istore 17, 2) := by decide +kernel
theorem dL_law_470 : decode cL_law 470 = .ok (.iload 14, 2) := by decide +kernel
theorem dL_law_472 : decode cL_law 472 = .ok (.aload_n 1, 1) := by decide +kernel
theorem dL_law_473 : decode cL_law 473 = .ok (.iload 11, 2) := by decide +kernel
theorem dL_law_475 : decode cL_law 475 = .ok (.invokevirtual 117, 3) := by decide +kernel
theorem dL_law_478 : decode cL_law 478 = .ok (.if_icmp .ne 111, 3) := by decide +kernel
theorem dL_law_481 : decode cL_law 481 = .ok (.iload 14, 2) := by decide +kernel
theorem dL_law_483 : decode cL_law 483 = .ok (.iload 8, 2) := by decide +kernel
theorem dL_law_485 : decode cL_law 485 = .ok (.if_icmp .gt 104, 3) := by decide +kernel
theorem dL_law_488 : decode cL_law 488 = .ok (.iload 17, 2) := by decide +kernel
theorem dL_law_490 : decode cL_law 490 = .ok (.iload 14, 2) := by decide +kernel
theorem dL_law_492 : decode cL_law 492 = .ok (.ifCond .le 7, 3) := by decide +kernel
theorem dL_law_495 : decode cL_law 495 = .ok (.iconst 1, 1) := by decide +kernel
theorem dL_law_496 : decode cL_law 496 = .ok (.goto 4, 3) := by decide +kernel
theorem dL_law_499 : decode cL_law 499 = .ok (.iconst 0, 1) := by decide +kernel
theorem dL_law_500 : decode cL_law 500 = .ok (.if_icmp .ne 89, 3) := by decide +kernel
theorem dL_law_503 : decode cL_law 503 = .ok (.iload 17, 2) := by decide +kernel
theorem dL_law_505 : decode cL_law 505 = .ok (.ifCond .eq 13, 3) := by decide +kernel
theorem dL_law_508 : decode cL_law 508 = .ok (.iload 13, 2) := by decide +kernel
theorem dL_law_510 : decode cL_law 510 = .ok (.iload 11, 2) := by decide +kernel
theorem dL_law_512 : decode cL_law 512 = .ok (.iload 12, 2) := by decide +kernel
theorem dL_law_514 : decode cL_law 514 = .ok (.iadd, 1) := by decide +kernel
theorem dL_law_515 : decode cL_law 515 = .ok (.if_icmp .ne 74, 3) := by decide +kernel
theorem dL_law_518 : decode cL_law 518 = .ok (.aload_n 1, 1) := by decide +kernel
theorem dL_law_519 : decode cL_law 519 = .ok (.iload 11, 2) := by decide +kernel
theorem dL_law_521 : decode cL_law 521 = .ok (.invokevirtual 120, 3) := by decide +kernel
theorem dL_law_524 : decode cL_law 524 = .ok (.iload 12, 2) := by decide +kernel
theorem dL_law_526 : decode cL_law 526 = .ok (.ifCond .ne 7, 3) := by decide +kernel
theorem dL_law_529 : decode cL_law 529 = .ok (.iconst 1, 1) := by decide +kernel
theorem dL_law_530 : decode cL_law 530 = .ok (.goto 4, 3) := by decide +kernel
theorem dL_law_533 : decode cL_law 533 = .ok (.iconst 0, 1) := by decide +kernel
theorem dL_law_534 : decode cL_law 534 = .ok (.if_icmp .ne 55, 3) := by decide +kernel
theorem dL_law_537 : decode cL_law 537 = .ok (.iload 17, 2) := by decide +kernel
theorem dL_law_539 : decode cL_law 539 = .ok (.iload 11, 2) := by decide +kernel
theorem dL_law_541 : decode cL_law 541 = .ok (.aload_n 1, 1) := by decide +kernel
theorem dL_law_542 : decode cL_law 542 = .ok (.invokevirtual 123, 3) := by decide +kernel
theorem dL_law_545 : decode cL_law 545 = .ok (.if_icmp .gt 7, 3) := by decide +kernel
theorem dL_law_548 : decode cL_law 548 = .ok (.iconst 1, 1) := by decide +kernel
theorem dL_law_549 : decode cL_law 549 = .ok (.goto 4, 3) := by decide +kernel
theorem dL_law_552 : decode cL_law 552 = .ok (.iconst 0, 1) := by decide +kernel
theorem dL_law_553 : decode cL_law 553 = .ok (.if_icmp .ne 36, 3) := by decide +kernel
theorem dL_law_556 : decode cL_law 556 = .ok (.iload 15, 2) := by decide +kernel
theorem dL_law_558 : decode cL_law 558 = .ok (.iload 11, 2) := by decide +kernel
theorem dL_law_560 : decode cL_law 560 = .ok (.if_icmp .lt 31, 3) := by decide +kernel
theorem dL_law_563 : decode cL_law 563 = .ok (.iload 17, 2) := by decide +kernel
theorem dL_law_565 : decode cL_law 565 = .ok (.ifCond .eq 24, 3) := by decide +kernel
theorem dL_law_568 : decode cL_law 568 = .ok (.iload 15, 2) := by decide +kernel
theorem dL_law_570 : decode cL_law 570 = .ok (.iload 13, 2) := by decide +kernel
theorem dL_law_572 : decode cL_law 572 = .ok (.if_icmp .lt 17, 3) := by decide +kernel
theorem dL_law_575 : decode cL_law 575 = .ok (.iload 15, 2) := by decide +kernel
theorem dL_law_577 : decode cL_law 577 = .ok (.iload 13, 2) := by decide +kernel
theorem dL_law_579 : decode cL_law 579 = .ok (.if_icmp .ne 12, 3) := by decide +kernel
theorem dL_law_582 : decode cL_law 582 = .ok (.iload 16, 2) := by decide +kernel
theorem dL_law_584 : decode cL_law 584 = .ok (.iload 14, 2) := by decide +kernel
theorem dL_law_586 : decode cL_law 586 = .ok (.if_icmp .ge 5, 3) := by decide +kernel
theorem dL_law_589 : decode cL_law 589 = .ok (.iconst 0, 1) := by decide +kernel
theorem dL_law_590 : decode cL_law 590 = .ok (.ireturn, 1) := by decide +kernel
theorem dL_law_591 : decode cL_law 591 = .ok (.aload_n 1, 1) := by decide +kernel
theorem dL_law_592 : decode cL_law 592 = .ok (.iload 11, 2) := by decide +kernel
theorem dL_law_594 : decode cL_law 594 = .ok (.invokevirtual 126, 3) := by decide +kernel
theorem dL_law_597 : decode cL_law 597 = .ok (.istore 18, 2) := by decide +kernel
theorem dL_law_599 : decode cL_law 599 = .ok (.aload_n 1, 1) := by decide +kernel
theorem dL_law_600 : decode cL_law 600 = .ok (.iconst 1, 1) := by decide +kernel
theorem dL_law_601 : decode cL_law 601 = .ok (.iload 11, 2) := by decide +kernel
theorem dL_law_603 : decode cL_law 603 = .ok (.bipush 60, 2) := by decide +kernel
theorem dL_law_605 : decode cL_law 605 = .ok (.irem, 1) := by decide +kernel
theorem dL_law_606 : decode cL_law 606 = .ok (.iadd, 1) := by decide +kernel
theorem dL_law_607 : decode cL_law 607 = .ok (.invokevirtual 129, 3) := by decide +kernel
theorem dL_law_610 : decode cL_law 610 = .ok (.istore 19, 2) := by decide +kernel
theorem dL_law_612 : decode cL_law 612 = .ok (.iload 18, 2) := by decide +kernel
theorem dL_law_614 : decode cL_law 614 = .ok (.iload 8, 2) := by decide +kernel
theorem dL_law_616 : decode cL_law 616 = .ok (.if_icmp .gt 62, 3) := by decide +kernel
theorem dL_law_619 : decode cL_law 619 = .ok (.iload 18, 2) := by decide +kernel
theorem dL_law_621 : decode cL_law 621 = .ok (.ifCond .eq 57, 3) := by decide +kernel
theorem dL_law_624 : decode cL_law 624 = .ok (.iload 12, 2) := by decide +kernel
theorem dL_law_626 : decode cL_law 626 = .ok (.ifCond .ne 15, 3) := by decide +kernel
theorem dL_law_629 : decode cL_law 629 = .ok (.iload 18, 2) := by decide +kernel
theorem dL_law_631 : decode cL_law 631 = .ok (.ifCond .lt 47, 3) := by decide +kernel
theorem dL_law_634 : decode cL_law 634 = .ok (.iload 18, 2) := by decide +kernel
theorem dL_law_636 : decode cL_law 636 = .ok (.iload 14, 2) := by decide +kernel
theorem dL_law_638 : decode cL_law 638 = .ok (.if_icmp .gt 40, 3) := by decide +kernel
theorem dL_law_641 : decode cL_law 641 = .ok (.iload 19, 2) := by decide +kernel
theorem dL_law_643 : decode cL_law 643 = .ok (.ifCond .lt 35, 3) := by decide +kernel
theorem dL_law_646 : decode cL_law 646 = .ok (.iload 19, 2) := by decide +kernel
theorem dL_law_648 : decode cL_law 648 = .ok (.ifCond .ne 7, 3) := by decide +kernel
theorem dL_law_651 : decode cL_law 651 = .ok (.iconst 1, 1) := by decide +kernel
theorem dL_law_652 : decode cL_law 652 = .ok (.goto 4, 3) := by decide +kernel
theorem dL_law_655 : decode cL_law 655 = .ok (.iconst 0, 1) := by decide +kernel
theorem dL_law_656 : decode cL_law 656 = .ok (.aload_n 1, 1) := by decide +kernel
theorem dL_law_657 : decode cL_law 657 = .ok (.iconst 1, 1) := by decide +kernel
theorem dL_law_658 : decode cL_law 658 = .ok (.iload 11, 2) := by decide +kernel
theorem dL_law_660 : decode cL_law 660 = .ok (.bipush 60, 2) := by decide +kernel
theorem dL_law_662 : decode cL_law 662 = .ok (.irem, 1) := by decide +kernel
theorem dL_law_663 : decode cL_law 663 = .ok (.iadd, 1) := by decide +kernel
theorem dL_law_664 : decode cL_law 664 = .ok (.invokevirtual 126, 3) := by decide +kernel
theorem dL_law_667 : decode cL_law 667 = .ok (.ifCond .ge 7, 3) := by decide +kernel
theorem dL_law_670 : decode cL_law 670 = .ok (.iconst 1, 1) := by decide +kernel
theorem dL_law_671 : decode cL_law 671 = .ok (.goto 4, 3) := by decide +kernel
theorem dL_law_674 : decode cL_law 674 = .ok (.iconst 0, 1) := by decide +kernel
theorem dL_law_675 : decode cL_law 675 = .ok (.if_icmp .eq 5, 3) := by decide +kernel
theorem dL_law_678 : decode cL_law 678 = .ok (.iconst 0, 1) := by decide +kernel
theorem dL_law_679 : decode cL_law 679 = .ok (.ireturn, 1) := by decide +kernel
theorem dL_law_680 : decode cL_law 680 = .ok (.aload_n 1, 1) := by decide +kernel
theorem dL_law_681 : decode cL_law 681 = .ok (.iload 11, 2) := by decide +kernel
theorem dL_law_683 : decode cL_law 683 = .ok (.invokevirtual 132, 3) := by decide +kernel
theorem dL_law_686 : decode cL_law 686 = .ok (.istore 20, 2) := by decide +kernel
theorem dL_law_688 : decode cL_law 688 = .ok (.iload 20, 2) := by decide +kernel
theorem dL_law_690 : decode cL_law 690 = .ok (.ifCond .lt 31, 3) := by decide +kernel
theorem dL_law_693 : decode cL_law 693 = .ok (.iload 20, 2) := by decide +kernel
theorem dL_law_695 : decode cL_law 695 = .ok (.iload 11, 2) := by decide +kernel
theorem dL_law_697 : decode cL_law 697 = .ok (.if_icmp .lt 70, 3) := by decide +kernel
theorem dL_law_700 : decode cL_law 700 = .ok (.aload_n 1, 1) := by decide +kernel
theorem dL_law_701 : decode cL_law 701 = .ok (.iload 20, 2) := by decide +kernel
theorem dL_law_703 : decode cL_law 703 = .ok (.invokevirtual 126, 3) := by decide +kernel
theorem dL_law_706 : decode cL_law 706 = .ok (.ifCond .ge 61, 3) := by decide +kernel
theorem dL_law_709 : decode cL_law 709 = .ok (.iload 20, 2) := by decide +kernel
theorem dL_law_711 : decode cL_law 711 = .ok (.iload 11, 2) := by decide +kernel
theorem dL_law_713 : decode cL_law 713 = .ok (.if_icmp .le 8, 3) := by decide +kernel
theorem dL_law_716 : decode cL_law 716 = .ok (.iload 18, 2) := by decide +kernel
theorem dL_law_718 : decode cL_law 718 = .ok (.ifCond .lt 49, 3) := by decide +kernel
theorem dL_law_721 : decode cL_law 721 = .ok (.iload 20, 2) := by decide +kernel
theorem dL_law_723 : decode cL_law 723 = .ok (.ifCond .ge 8, 3) := by decide +kernel
theorem dL_law_726 : decode cL_law 726 = .ok (.iload 18, 2) := by decide +kernel
theorem dL_law_728 : decode cL_law 728 = .ok (.ifCond .lt 39, 3) := by decide +kernel
theorem dL_law_731 : decode cL_law 731 = .ok (.aload_n 1, 1) := by decide +kernel
theorem dL_law_732 : decode cL_law 732 = .ok (.iload 11, 2) := by decide +kernel
theorem dL_law_734 : decode cL_law 734 = .ok (.invokevirtual 135, 3) := by decide +kernel
theorem dL_law_737 : decode cL_law 737 = .ok (.ifCond .lt 30, 3) := by decide +kernel
theorem dL_law_740 : decode cL_law 740 = .ok (.aload_n 1, 1) := by decide +kernel
theorem dL_law_741 : decode cL_law 741 = .ok (.iload 11, 2) := by decide +kernel
theorem dL_law_743 : decode cL_law 743 = .ok (.invokevirtual 135, 3) := by decide +kernel
theorem dL_law_746 : decode cL_law 746 = .ok (.iload 11, 2) := by decide +kernel
theorem dL_law_748 : decode cL_law 748 = .ok (.if_icmp .gt 19, 3) := by decide +kernel
theorem dL_law_751 : decode cL_law 751 = .ok (.iload 18, 2) := by decide +kernel
theorem dL_law_753 : decode cL_law 753 = .ok (.ifCond .le 16, 3) := by decide +kernel
theorem dL_law_756 : decode cL_law 756 = .ok (.aload_n 1, 1) := by decide +kernel
theorem dL_law_757 : decode cL_law 757 = .ok (.iload 11, 2) := by decide +kernel
theorem dL_law_759 : decode cL_law 759 = .ok (.invokevirtual 135, 3) := by decide +kernel
theorem dL_law_762 : decode cL_law 762 = .ok (.iload 11, 2) := by decide +kernel
theorem dL_law_764 : decode cL_law 764 = .ok (.if_icmp .ne 5, 3) := by decide +kernel
theorem dL_law_767 : decode cL_law 767 = .ok (.iconst 0, 1) := by decide +kernel
theorem dL_law_768 : decode cL_law 768 = .ok (.ireturn, 1) := by decide +kernel
theorem dL_law_769 : decode cL_law 769 = .ok (.iinc 10 1, 3) := by decide +kernel
theorem dL_law_772 : decode cL_law 772 = .ok (.goto (-493), 3) := by decide +kernel
theorem dL_law_775 : decode cL_law 775 = .ok (.aload_n 1, 1) := by decide +kernel
theorem dL_law_776 : decode cL_law 776 = .ok (.invokevirtual 138, 3) := by decide +kernel
theorem dL_law_779 : decode cL_law 779 = .ok (.istore 10, 2) := by decide +kernel
theorem dL_law_781 : decode cL_law 781 = .ok (.aload_n 1, 1) := by decide +kernel
theorem dL_law_782 : decode cL_law 782 = .ok (.invokevirtual 141, 3) := by decide +kernel
theorem dL_law_785 : decode cL_law 785 = .ok (.istore 11, 2) := by decide +kernel
theorem dL_law_787 : decode cL_law 787 = .ok (.iload 11, 2) := by decide +kernel
theorem dL_law_789 : decode cL_law 789 = .ok (.iload 10, 2) := by decide +kernel
theorem dL_law_791 : decode cL_law 791 = .ok (.if_icmp .gt 150, 3) := by decide +kernel
theorem dL_law_794 : decode cL_law 794 = .ok (.iload 10, 2) := by decide +kernel
theorem dL_law_796 : decode cL_law 796 = .ok (.sipush 300, 3) := by decide +kernel
theorem dL_law_799 : decode cL_law 799 = .ok (.if_icmp .gt 142, 3) := by decide +kernel
theorem dL_law_802 : decode cL_law 802 = .ok (.iload 10, 2) := by decide +kernel
theorem dL_law_804 : decode cL_law 804 = .ok (.sipush 300, 3) := by decide +kernel
theorem dL_law_807 : decode cL_law 807 = .ok (.if_icmp .ge 14, 3) := by decide +kernel
theorem dL_law_810 : decode cL_law 810 = .ok (.aload_n 1, 1) := by decide +kernel
theorem dL_law_811 : decode cL_law 811 = .ok (.iload 10, 2) := by decide +kernel
theorem dL_law_813 : decode cL_law 813 = .ok (.iconst 1, 1) := by decide +kernel
theorem dL_law_814 : decode cL_law 814 = .ok (.iadd, 1) := by decide +kernel
theorem dL_law_815 : decode cL_law 815 = .ok (.invokevirtual 126, 3) := by decide +kernel
theorem dL_law_818 : decode cL_law 818 = .ok (.ifCond .ge 123, 3) := by decide +kernel
