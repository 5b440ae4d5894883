theorem dL_others_482 : decode cL_others 482 = .ok (.iload_n 2, 1) := by decide +kernel
theorem dL_others_483 : decode cL_others 483 = .ok (.iload_n 2, 1) := by decide +kernel
theorem dL_others_484 : decode cL_others 484 = .ok (.bipush 9, 2) := by decide +kernel
theorem dL_others_486 : decode cL_others 486 = .ok (.ishr, 1) := by decide +kernel
theorem dL_others_487 : decode cL_others 487 = .ok (.iconst 3, 1) := by decide +kernel
theorem dL_others_488 : decode cL_others 488 = .ok (.iand, 1) := by decide +kernel
theorem dL_others_489 : decode cL_others 489 = .ok (.ifCond .ne 8, 3) := by decide +kernel
theorem dL_others_492 : decode cL_others 492 = .ok (.bipush 60, 2) := by decide +kernel
theorem dL_others_494 : decode cL_others 494 = .ok (.goto 5, 3) := by decide +kernel
theorem dL_others_497 : decode cL_others 497 = .ok (.bipush 7, 2) := by decide +kernel
theorem dL_others_499 : decode cL_others 499 = .ok (.invokestatic 66, 3) := by decide +kernel
theorem dL_others_502 : decode cL_others 502 = .ok (.iadd, 1) := by decide +kernel
theorem dL_others_503 : decode cL_others 503 = .ok (.istore 9, 2) := by decide +kernel
theorem dL_others_505 : decode cL_others 505 = .ok (.aload_n 3, 1) := by decide +kernel
theorem dL_others_506 : decode cL_others 506 = .ok (.bipush 15, 2) := by decide +kernel
theorem dL_others_508 : decode cL_others 508 = .ok (.iaload, 1) := by decide +kernel
theorem dL_others_509 : decode cL_others 509 = .ok (.ifCond .le 30, 3) := by decide +kernel
theorem dL_others_512 : decode cL_others 512 = .ok (.aload_n 0, 1) := by decide +kernel
theorem dL_others_513 : decode cL_others 513 = .ok (.iload 9, 2) := by decide +kernel
theorem dL_others_515 : decode cL_others 515 = .ok (.invokevirtual 88, 3) := by decide +kernel
theorem dL_others_518 : decode cL_others 518 = .ok (.bipush (-4), 2) := by decide +kernel
theorem dL_others_520 : decode cL_others 520 = .ok (.if_icmp .ne 17, 3) := by decide +kernel
theorem dL_others_523 : decode cL_others 523 = .ok (.aload_n 0, 1) := by decide +kernel
theorem dL_others_524 : decode cL_others 524 = .ok (.iconst 0, 1) := by decide +kernel
theorem dL_others_525 : decode cL_others 525 = .ok (.invokevirtual 88, 3) := by decide +kernel
theorem dL_others_528 : decode cL_others 528 = .ok (.bipush (-2), 2) := by decide +kernel
theorem dL_others_530 : decode cL_others 530 = .ok (.if_icmp .ne 7, 3) := by decide +kernel
theorem dL_others_533 : decode cL_others 533 = .ok (.iconst 1, 1) := by decide +kernel
theorem dL_others_534 : decode cL_others 534 = .ok (.goto 4, 3) := by decide +kernel
theorem dL_others_537 : decode cL_others 537 = .ok (.iconst 0, 1) := by decide +kernel
theorem dL_others_538 : decode cL_others 538 = .ok (.ireturn, 1) := by decide +kernel
theorem dL_others_539 : decode cL_others 539 = .ok (.iload 9, 2) := by decide +kernel
theorem dL_others_541 : decode cL_others 541 = .ok (.aload_n 3, 1) := by decide +kernel
theorem dL_others_542 : decode cL_others 542 = .ok (.aload 4, 2) := by decide +kernel
theorem dL_others_544 : decode cL_others 544 = .ok (.aload 5, 2) := by decide +kernel
theorem dL_others_546 : decode cL_others 546 = .ok (.aload 6, 2) := by decide +kernel
theorem dL_others_548 : decode cL_others 548 = .ok (.invokestatic 45, 3) := by decide +kernel
theorem dL_others_551 : decode cL_others 551 = .ok (.istore 10, 2) := by decide +kernel
theorem dL_others_553 : decode cL_others 553 = .ok (.aload_n 0, 1) := by decide +kernel
theorem dL_others_554 : decode cL_others 554 = .ok (.iload 9, 2) := by decide +kernel
theorem dL_others_556 : decode cL_others 556 = .ok (.invokevirtual 88, 3) := by decide +kernel
theorem dL_others_559 : decode cL_others 559 = .ok (.iload 10, 2) := by decide +kernel
theorem dL_others_561 : decode cL_others 561 = .ok (.if_icmp .ne 19, 3) := by decide +kernel
theorem dL_others_564 : decode cL_others 564 = .ok (.aload_n 0, 1) := by decide +kernel
theorem dL_others_565 : decode cL_others 565 = .ok (.sipush 1000, 3) := by decide +kernel
theorem dL_others_568 : decode cL_others 568 = .ok (.invokevirtual 88, 3) := by decide +kernel
theorem dL_others_571 : decode cL_others 571 = .ok (.bipush (-2), 2) := by decide +kernel
theorem dL_others_573 : decode cL_others 573 = .ok (.if_icmp .ne 7, 3) := by decide +kernel
theorem dL_others_576 : decode cL_others 576 = .ok (.iconst 1, 1) := by decide +kernel
theorem dL_others_577 : decode cL_others 577 = .ok (.goto 4, 3) := by decide +kernel
theorem dL_others_580 : decode cL_others 580 = .ok (.iconst 0, 1) := by decide +kernel
theorem dL_others_581 : decode cL_others 581 = .ok (.ireturn, 1) := by decide +kernel
theorem dL_law_0 : decode cL_law 0 = .ok (.new 32, 3) := by decide +kernel
theorem dL_law_3 : decode cL_law 3 = .ok (.dup, 1) := by decide +kernel
theorem dL_law_4 : decode cL_law 4 = .ok (.invokespecial 90, 3) := by decide +kernel
theorem dL_law_7 : decode cL_law 7 = .ok (.astore_n 1, 1) := by decide +kernel
theorem dL_law_8 : decode cL_law 8 = .ok (.bipush 36, 2) := by decide +kernel
theorem dL_law_10 : decode cL_law 10 = .ok (.newarray .int, 2) := by decide +kernel
theorem dL_law_12 : decode cL_law 12 = .ok (.astore_n 2, 1) := by decide +kernel
theorem dL_law_13 : decode cL_law 13 = .ok (.bipush 52, 2) := by decide +kernel
theorem dL_law_15 : decode cL_law 15 = .ok (.newarray .int, 2) := by decide +kernel
theorem dL_law_17 : decode cL_law 17 = .ok (.astore_n 3, 1) := by decide +kernel
theorem dL_law_18 : decode cL_law 18 = .ok (.bipush 48, 2) := by decide +kernel
theorem dL_law_20 : decode cL_law 20 = .ok (.newarray .int, 2) := by decide +kernel
theorem dL_law_22 : decode cL_law 22 = .ok (.astore 4, 2) := by decide +kernel
theorem dL_law_24 : decode cL_law 24 = .ok (.bipush 28, 2) := by decide +kernel
theorem dL_law_26 : decode cL_law 26 = .ok (.newarray .int, 2) := by decide +kernel
theorem dL_law_28 : decode cL_law 28 = .ok (.astore 5, 2) := by decide +kernel
theorem dL_law_30 : decode cL_law 30 = .ok (.iconst 0, 1) := by decide +kernel
theorem dL_law_31 : decode cL_law 31 = .ok (.istore 6, 2) := by decide +kernel
theorem dL_law_33 : decode cL_law 33 = .ok (.iload 6, 2) := by decide +kernel
theorem dL_law_35 : decode cL_law 35 = .ok (.iconst 4, 1) := by decide +kernel
theorem dL_law_36 : decode cL_law 36 = .ok (.if_icmp .ge 15, 3) := by decide +kernel
theorem dL_law_39 : decode cL_law 39 = .ok (.aload_n 2, 1) := by decide +kernel
theorem dL_law_40 : decode cL_law 40 = .ok (.iload 6, 2) := by decide +kernel
theorem dL_law_42 : decode cL_law 42 = .ok (.iload 6, 2) := by decide +kernel
theorem dL_law_44 : decode cL_law 44 = .ok (.iastore, 1) := by decide +kernel
theorem dL_law_45 : decode cL_law 45 = .ok (.iinc 6 1, 3) := by decide +kernel
theorem dL_law_48 : decode cL_law 48 = .ok (.goto (-15), 3) := by decide +kernel
theorem dL_law_51 : decode cL_law 51 = .ok (.aload_n 1, 1) := by decide +kernel
theorem dL_law_52 : decode cL_law 52 = .ok (.aload_n 2, 1) := by decide +kernel
theorem dL_law_53 : decode cL_law 53 = .ok (.aload_n 3, 1) := by decide +kernel
theorem dL_law_54 : decode cL_law 54 = .ok (.aload 4, 2) := by decide +kernel
theorem dL_law_56 : decode cL_law 56 = .ok (.aload 5, 2) := by decide +kernel
theorem dL_law_58 : decode cL_law 58 = .ok (.invokestatic 91, 3) := by decide +kernel
theorem dL_law_61 : decode cL_law 61 = .ok (.ifCond .eq 46, 3) := by decide +kernel
theorem dL_law_64 : decode cL_law 64 = .ok (.aload_n 1, 1) := by decide +kernel
theorem dL_law_65 : decode cL_law 65 = .ok (.iconst 5, 1) := by decide +kernel
theorem dL_law_66 : decode cL_law 66 = .ok (.aload_n 2, 1) := by decide +kernel
theorem dL_law_67 : decode cL_law 67 = .ok (.aload_n 3, 1) := by decide +kernel
theorem dL_law_68 : decode cL_law 68 = .ok (.aload 4, 2) := by decide +kernel
theorem dL_law_70 : decode cL_law 70 = .ok (.aload 5, 2) := by decide +kernel
theorem dL_law_72 : decode cL_law 72 = .ok (.invokestatic 95, 3) := by decide +kernel
theorem dL_law_75 : decode cL_law 75 = .ok (.ifCond .eq 32, 3) := by decide +kernel
theorem dL_law_78 : decode cL_law 78 = .ok (.aload_n 1, 1) := by decide +kernel
theorem dL_law_79 : decode cL_law 79 = .ok (.invokevirtual 99, 3) := by decide +kernel
theorem dL_law_82 : decode cL_law 82 = .ok (.bipush (-5), 2) := by decide +kernel
theorem dL_law_84 : decode cL_law 84 = .ok (.if_icmp .ne 23, 3) := by decide +kernel
theorem dL_law_87 : decode cL_law 87 = .ok (.aload_n 1, 1) := by decide +kernel
theorem dL_law_88 : decode cL_law 88 = .ok (.invokevirtual 102, 3) := by decide +kernel
theorem dL_law_91 : decode cL_law 91 = .ok (.bipush (-5), 2) := by decide +kernel
theorem dL_law_93 : decode cL_law 93 = .ok (.if_icmp .ne 14, 3) := by decide +kernel
theorem dL_law_96 : decode cL_law 96 = .ok (.aload_n 1, 1) := by decide +kernel
theorem dL_law_97 : decode cL_law 97 = .ok (.iconst 0, 1) := by decide +kernel
theorem dL_law_98 : decode cL_law 98 = .ok (.iconst 0, 1) := by decide +kernel
theorem dL_law_99 : decode cL_law 99 = .ok (.invokevirtual 105, 3) := by decide +kernel
theorem dL_law_102 : decode cL_law 102 = .ok (.bipush (-5), 2) := by decide +kernel
theorem dL_law_104 : decode cL_law 104 = .ok (.if_icmp .eq 5, 3) := by decide +kernel
theorem dL_law_107 : decode cL_law 107 = .ok (.iconst 0, 1) := by decide +kernel
theorem dL_law_108 : decode cL_law 108 = .ok (.ireturn, 1) := by decide +kernel
theorem dL_law_109 : decode cL_law 109 = .ok (.iconst 0, 1) := by decide +kernel
theorem dL_law_110 : decode cL_law 110 = .ok (.istore 6, 2) := by decide +kernel
theorem dL_law_112 : decode cL_law 112 = .ok (.iload 6, 2) := by decide +kernel
theorem dL_law_114 : decode cL_law 114 = .ok (.bipush 60, 2) := by decide +kernel
theorem dL_law_116 : decode cL_law 116 = .ok (.if_icmp .ge 146, 3) := by decide +kernel
theorem dL_law_119 : decode cL_law 119 = .ok (.aload_n 0, 1) := by decide +kernel
theorem dL_law_120 : decode cL_law 120 = .ok (.iconst 2, 1) := by decide +kernel
theorem dL_law_121 : decode cL_law 121 = .ok (.iload 6, 2) := by decide +kernel
theorem dL_law_123 : decode cL_law 123 = .ok (.imul, 1) := by decide +kernel
theorem dL_law_124 : decode cL_law 124 = .ok (.invokestatic 108, 3) := by decide +kernel
theorem dL_law_127 : decode cL_law 127 = .ok (.istore 7, 2) := by decide +kernel
theorem dL_law_129 : decode cL_law 129 = .ok (.aload_n 0, 1) := by decide +kernel
theorem dL_law_130 : decode cL_law 130 = .ok (.iconst 2, 1) := by decide +kernel
theorem dL_law_131 : decode cL_law 131 = .ok (.iload 6, 2) := by decide +kernel
theorem dL_law_133 : decode cL_law 133 = .ok (.imul, 1) := by decide +kernel
theorem dL_law_134 : decode cL_law 134 = .ok (.iconst 1, 1) := by decide +kernel
theorem dL_law_135 : decode cL_law 135 = .ok (.iadd, 1) := by decide +kernel
theorem dL_law_136 : decode cL_law 136 = .ok (.invokestatic 108, 3) := by decide +kernel
theorem dL_law_139 : decode cL_law 139 = .ok (.istore 8, 2) := by decide +kernel
theorem dL_law_141 : decode cL_law 141 = .ok (.iload 6, 2) := by decide +kernel
theorem dL_law_143 : decode cL_law 143 = .ok (.bipush 14, 2) := by decide +kernel
theorem dL_law_145 : decode cL_law 145 = .ok (.if_icmp .lt 15, 3) := by decide +kernel
theorem dL_law_148 : decode cL_law 148 = .ok (.iload 7, 2) := by decide +kernel
theorem dL_law_150 : decode cL_law 150 = .ok (.bipush 16, 2) := by decide +kernel
theorem dL_law_152 : decode cL_law 152 = .ok (.ishr, 1) := by decide +kernel
theorem dL_law_153 : decode cL_law 153 = .ok (.iconst 3, 1) := by decide +kernel
theorem dL_law_154 : decode cL_law 154 = .ok (.invokestatic 66, 3) := by decide +kernel
theorem dL_law_157 : decode cL_law 157 = .ok (.ifCond .ne 18, 3) := by decide +kernel
theorem dL_law_160 : decode cL_law 160 = .ok (.aload_n 1, 1) := by decide +kernel
theorem dL_law_161 : decode cL_law 161 = .ok (.iload 7, 2) := by decide +kernel
theorem dL_law_163 : decode cL_law 163 = .ok (.iload 8, 2) := by decide +kernel
theorem dL_law_165 : decode cL_law 165 = .ok (.aload_n 2, 1) := by decide +kernel
theorem dL_law_166 : decode cL_law 166 = .ok (.aload_n 3, 1) := by decide +kernel
theorem dL_law_167 : decode cL_law 167 = .ok (.aload 4, 2) := by decide +kernel
theorem dL_law_169 : decode cL_law 169 = .ok (.invokestatic 112, 3) := by decide +kernel
theorem dL_law_172 : decode cL_law 172 = .ok (.goto 17, 3) := by decide +kernel
theorem dL_law_175 : decode cL_law 175 = .ok (.aload_n 1, 1) := by decide +kernel
theorem dL_law_176 : decode cL_law 176 = .ok (.iload 7, 2) := by decide +kernel
theorem dL_law_178 : decode cL_law 178 = .ok (.iload 8, 2) := by decide +kernel
theorem dL_law_180 : decode cL_law 180 = .ok (.aload_n 2, 1) := by decide +kernel
theorem dL_law_181 : decode cL_law 181 = .ok (.aload_n 3, 1) := by decide +kernel
theorem dL_law_182 : decode cL_law 182 = .ok (.aload 4, 2) := by decide +kernel
theorem dL_law_184 : decode cL_law 184 = .ok (.aload 5, 2) := by decide +kernel
theorem dL_law_186 : decode cL_law 186 = .ok (.invokestatic 116, 3) := by decide +kernel
theorem dL_law_189 : decode cL_law 189 = .ok (.istore 9, 2) := by decide +kernel
theorem dL_law_191 : decode cL_law 191 = .ok (.iload 9, 2) := by decide +kernel
theorem dL_law_193 : decode cL_law 193 = .ok (.ifCond .eq 61, 3) := by decide +kernel
theorem dL_law_196 : decode cL_law 196 = .ok (.aload_n 1, 1) := by decide +kernel
theorem dL_law_197 : decode cL_law 197 = .ok (.aload_n 2, 1) := by decide +kernel
theorem dL_law_198 : decode cL_law 198 = .ok (.aload_n 3, 1) := by decide +kernel
theorem dL_law_199 : decode cL_law 199 = .ok (.aload 4, 2) := by decide +kernel
theorem dL_law_201 : decode cL_law 201 = .ok (.aload 5, 2) := by decide +kernel
theorem dL_law_203 : decode cL_law 203 = .ok (.invokestatic 91, 3) := by decide +kernel
theorem dL_law_206 : decode cL_law 206 = .ok (.ifCond .eq 48, 3) := by decide +kernel
theorem dL_law_209 : decode cL_law 209 = .ok (.iload 6, 2) := by decide +kernel
theorem dL_law_211 : decode cL_law 211 = .ok (.iconst 5, 1) := by decide +kernel
theorem dL_law_212 : decode cL_law 212 = .ok (.irem, 1) := by decide +kernel
theorem dL_law_213 : decode cL_law 213 = .ok (.iconst 4, 1) := by decide +kernel
theorem dL_law_214 : decode cL_law 214 = .ok (.if_icmp .ne 42, 3) := by decide +kernel
theorem dL_law_217 : decode cL_law 217 = .ok (.aload_n 1, 1) := by decide +kernel
theorem dL_law_218 : decode cL_law 218 = .ok (.iconst 1, 1) := by decide +kernel
theorem dL_law_219 : decode cL_law 219 = .ok (.iload 7, 2) := by decide +kernel
theorem dL_law_221 : decode cL_law 221 = .ok (.iconst 4, 1) := by decide +kernel
theorem dL_law_222 : decode cL_law 222 = .ok (.ishr, 1) := by decide +kernel
theorem dL_law_223 : decode cL_law 223 = .ok (.iload 7, 2) := by decide +kernel
theorem dL_law_225 : decode cL_law 225 = .ok (.iconst 1, 1) := by decide +kernel
theorem dL_law_226 : decode cL_law 226 = .ok (.iand, 1) := by decide +kernel
theorem dL_law_227 : decode cL_law 227 = .ok (.ifCond .ne 9, 3) := by decide +kernel
theorem dL_law_230 : decode cL_law 230 = .ok (.sipush 999, 3) := by decide +kernel
theorem dL_law_233 : decode cL_law 233 = .ok (.goto 5, 3) := by decide +kernel
theorem dL_law_236 : decode cL_law 236 = .ok (.bipush 9, 2) := by decide +kernel
theorem dL_law_238 : decode cL_law 238 = .ok (.invokestatic 66, 3) := by decide +kernel
theorem dL_law_241 : decode cL_law 241 = .ok (.iadd, 1) := by decide +kernel
theorem dL_law_242 : decode cL_law 242 = .ok (.aload_n 2, 1) := by decide +kernel
theorem dL_law_243 : decode cL_law 243 = .ok (.aload_n 3, 1) := by decide +kernel
theorem dL_law_244 : decode cL_law 244 = .ok (.aload 4, 2) := by decide +kernel
theorem dL_law_246 : decode cL_law 246 = .ok (.aload 5, 2) := by decide +kernel
theorem dL_law_248 : decode cL_law 248 = .ok (.invokestatic 95, 3) := by decide +kernel
theorem dL_law_251 : decode cL_law 251 = .ok (.ifCond .ne 5, 3) := by decide +kernel
theorem dL_law_254 : decode cL_law 254 = .ok (.iconst 0, 1) := by decide +kernel
theorem dL_law_255 : decode cL_law 255 = .ok (.ireturn, 1) := by decide +kernel
theorem dL_law_256 : decode cL_law 256 = .ok (.iinc 6 1, 3) := by decide +kernel
theorem dL_law_259 : decode cL_law 259 = .ok (.goto (-147), 3) := by decide +kernel
theorem dL_law_262 : decode cL_law 262 = .ok (.iconst 1, 1) := by decide +kernel
theorem dL_law_263 : decode cL_law 263 = .ok (.ireturn, 1) := by decide +kernel
