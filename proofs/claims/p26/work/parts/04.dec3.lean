theorem dL_isAhead_426 : decode cL_isAhead 426 = .ok (.aload_n 0, 1) := by decide +kernel
theorem dL_isAhead_427 : decode cL_isAhead 427 = .ok (.invokevirtual 41, 3) := by decide +kernel
theorem dL_isAhead_430 : decode cL_isAhead 430 = .ok (.aload 9, 2) := by decide +kernel
theorem dL_isAhead_432 : decode cL_isAhead 432 = .ok (.iconst 0, 1) := by decide +kernel
theorem dL_isAhead_433 : decode cL_isAhead 433 = .ok (.iaload, 1) := by decide +kernel
theorem dL_isAhead_434 : decode cL_isAhead 434 = .ok (.aload 5, 2) := by decide +kernel
theorem dL_isAhead_436 : decode cL_isAhead 436 = .ok (.iconst 0, 1) := by decide +kernel
theorem dL_isAhead_437 : decode cL_isAhead 437 = .ok (.iaload, 1) := by decide +kernel
theorem dL_isAhead_438 : decode cL_isAhead 438 = .ok (.if_icmp .ge 8, 3) := by decide +kernel
theorem dL_isAhead_441 : decode cL_isAhead 441 = .ok (.iload 12, 2) := by decide +kernel
theorem dL_isAhead_443 : decode cL_isAhead 443 = .ok (.goto 5, 3) := by decide +kernel
theorem dL_isAhead_446 : decode cL_isAhead 446 = .ok (.bipush (-5), 2) := by decide +kernel
theorem dL_isAhead_448 : decode cL_isAhead 448 = .ok (.if_icmp .ne 7, 3) := by decide +kernel
theorem dL_isAhead_451 : decode cL_isAhead 451 = .ok (.iconst 1, 1) := by decide +kernel
theorem dL_isAhead_452 : decode cL_isAhead 452 = .ok (.goto 4, 3) := by decide +kernel
theorem dL_isAhead_455 : decode cL_isAhead 455 = .ok (.iconst 0, 1) := by decide +kernel
theorem dL_isAhead_456 : decode cL_isAhead 456 = .ok (.ireturn, 1) := by decide +kernel
theorem dL_isSo_0 : decode cL_isSo 0 = .ok (.iconst 0, 1) := by decide +kernel
theorem dL_isSo_1 : decode cL_isSo 1 = .ok (.istore 5, 2) := by decide +kernel
theorem dL_isSo_3 : decode cL_isSo 3 = .ok (.iconst 0, 1) := by decide +kernel
theorem dL_isSo_4 : decode cL_isSo 4 = .ok (.istore 6, 2) := by decide +kernel
theorem dL_isSo_6 : decode cL_isSo 6 = .ok (.iload 6, 2) := by decide +kernel
theorem dL_isSo_8 : decode cL_isSo 8 = .ok (.bipush 8, 2) := by decide +kernel
theorem dL_isSo_10 : decode cL_isSo 10 = .ok (.if_icmp .ge 263, 3) := by decide +kernel
theorem dL_isSo_13 : decode cL_isSo 13 = .ok (.iconst 0, 1) := by decide +kernel
theorem dL_isSo_14 : decode cL_isSo 14 = .ok (.istore 7, 2) := by decide +kernel
theorem dL_isSo_16 : decode cL_isSo 16 = .ok (.iconst 0, 1) := by decide +kernel
theorem dL_isSo_17 : decode cL_isSo 17 = .ok (.istore 8, 2) := by decide +kernel
theorem dL_isSo_19 : decode cL_isSo 19 = .ok (.iconst 0, 1) := by decide +kernel
theorem dL_isSo_20 : decode cL_isSo 20 = .ok (.istore 9, 2) := by decide +kernel
theorem dL_isSo_22 : decode cL_isSo 22 = .ok (.iconst 0, 1) := by decide +kernel
theorem dL_isSo_23 : decode cL_isSo 23 = .ok (.istore 10, 2) := by decide +kernel
theorem dL_isSo_25 : decode cL_isSo 25 = .ok (.iload 10, 2) := by decide +kernel
theorem dL_isSo_27 : decode cL_isSo 27 = .ok (.bipush 16, 2) := by decide +kernel
theorem dL_isSo_29 : decode cL_isSo 29 = .ok (.if_icmp .ge 60, 3) := by decide +kernel
theorem dL_isSo_32 : decode cL_isSo 32 = .ok (.aload_n 0, 1) := by decide +kernel
theorem dL_isSo_33 : decode cL_isSo 33 = .ok (.iload 6, 2) := by decide +kernel
theorem dL_isSo_35 : decode cL_isSo 35 = .ok (.iload 10, 2) := by decide +kernel
theorem dL_isSo_37 : decode cL_isSo 37 = .ok (.invokevirtual 49, 3) := by decide +kernel
theorem dL_isSo_40 : decode cL_isSo 40 = .ok (.aload_n 2, 1) := by decide +kernel
theorem dL_isSo_41 : decode cL_isSo 41 = .ok (.aload_n 3, 1) := by decide +kernel
theorem dL_isSo_42 : decode cL_isSo 42 = .ok (.iload 6, 2) := by decide +kernel
theorem dL_isSo_44 : decode cL_isSo 44 = .ok (.iload 10, 2) := by decide +kernel
theorem dL_isSo_46 : decode cL_isSo 46 = .ok (.invokestatic 9, 3) := by decide +kernel
theorem dL_isSo_49 : decode cL_isSo 49 = .ok (.if_icmp .eq 5, 3) := by decide +kernel
theorem dL_isSo_52 : decode cL_isSo 52 = .ok (.iconst 0, 1) := by decide +kernel
theorem dL_isSo_53 : decode cL_isSo 53 = .ok (.ireturn, 1) := by decide +kernel
theorem dL_isSo_54 : decode cL_isSo 54 = .ok (.iload 7, 2) := by decide +kernel
theorem dL_isSo_56 : decode cL_isSo 56 = .ok (.iload 10, 2) := by decide +kernel
theorem dL_isSo_58 : decode cL_isSo 58 = .ok (.bipush 12, 2) := by decide +kernel
theorem dL_isSo_60 : decode cL_isSo 60 = .ok (.if_icmp .ge 19, 3) := by decide +kernel
theorem dL_isSo_63 : decode cL_isSo 63 = .ok (.aload_n 2, 1) := by decide +kernel
theorem dL_isSo_64 : decode cL_isSo 64 = .ok (.aload_n 3, 1) := by decide +kernel
theorem dL_isSo_65 : decode cL_isSo 65 = .ok (.iload 6, 2) := by decide +kernel
theorem dL_isSo_67 : decode cL_isSo 67 = .ok (.iload 10, 2) := by decide +kernel
theorem dL_isSo_69 : decode cL_isSo 69 = .ok (.invokestatic 9, 3) := by decide +kernel
theorem dL_isSo_72 : decode cL_isSo 72 = .ok (.ifCond .eq 7, 3) := by decide +kernel
theorem dL_isSo_75 : decode cL_isSo 75 = .ok (.iconst 1, 1) := by decide +kernel
theorem dL_isSo_76 : decode cL_isSo 76 = .ok (.goto 4, 3) := by decide +kernel
theorem dL_isSo_79 : decode cL_isSo 79 = .ok (.iconst 0, 1) := by decide +kernel
theorem dL_isSo_80 : decode cL_isSo 80 = .ok (.iadd, 1) := by decide +kernel
theorem dL_isSo_81 : decode cL_isSo 81 = .ok (.istore 7, 2) := by decide +kernel
theorem dL_isSo_83 : decode cL_isSo 83 = .ok (.iinc 10 1, 3) := by decide +kernel
theorem dL_isSo_86 : decode cL_isSo 86 = .ok (.goto (-61), 3) := by decide +kernel
theorem dL_isSo_89 : decode cL_isSo 89 = .ok (.iconst 0, 1) := by decide +kernel
theorem dL_isSo_90 : decode cL_isSo 90 = .ok (.istore 10, 2) := by decide +kernel
theorem dL_isSo_92 : decode cL_isSo 92 = .ok (.iload 10, 2) := by decide +kernel
theorem dL_isSo_94 : decode cL_isSo 94 = .ok (.iconst 4, 1) := by decide +kernel
theorem dL_isSo_95 : decode cL_isSo 95 = .ok (.if_icmp .ge 31, 3) := by decide +kernel
theorem dL_isSo_98 : decode cL_isSo 98 = .ok (.iload 8, 2) := by decide +kernel
theorem dL_isSo_100 : decode cL_isSo 100 = .ok (.aload_n 1, 1) := by decide +kernel
theorem dL_isSo_101 : decode cL_isSo 101 = .ok (.iload 10, 2) := by decide +kernel
theorem dL_isSo_103 : decode cL_isSo 103 = .ok (.iaload, 1) := by decide +kernel
theorem dL_isSo_104 : decode cL_isSo 104 = .ok (.iload 6, 2) := by decide +kernel
theorem dL_isSo_106 : decode cL_isSo 106 = .ok (.if_icmp .ne 10, 3) := by decide +kernel
theorem dL_isSo_109 : decode cL_isSo 109 = .ok (.iconst 1, 1) := by decide +kernel
theorem dL_isSo_110 : decode cL_isSo 110 = .ok (.iload 10, 2) := by decide +kernel
theorem dL_isSo_112 : decode cL_isSo 112 = .ok (.ishl, 1) := by decide +kernel
theorem dL_isSo_113 : decode cL_isSo 113 = .ok (.goto 4, 3) := by decide +kernel
theorem dL_isSo_116 : decode cL_isSo 116 = .ok (.iconst 0, 1) := by decide +kernel
theorem dL_isSo_117 : decode cL_isSo 117 = .ok (.ior, 1) := by decide +kernel
theorem dL_isSo_118 : decode cL_isSo 118 = .ok (.istore 8, 2) := by decide +kernel
theorem dL_isSo_120 : decode cL_isSo 120 = .ok (.iinc 10 1, 3) := by decide +kernel
theorem dL_isSo_123 : decode cL_isSo 123 = .ok (.goto (-31), 3) := by decide +kernel
theorem dL_isSo_126 : decode cL_isSo 126 = .ok (.iconst 0, 1) := by decide +kernel
theorem dL_isSo_127 : decode cL_isSo 127 = .ok (.istore 10, 2) := by decide +kernel
theorem dL_isSo_129 : decode cL_isSo 129 = .ok (.iload 10, 2) := by decide +kernel
theorem dL_isSo_131 : decode cL_isSo 131 = .ok (.aload 4, 2) := by decide +kernel
theorem dL_isSo_133 : decode cL_isSo 133 = .ok (.iconst 0, 1) := by decide +kernel
theorem dL_isSo_134 : decode cL_isSo 134 = .ok (.iaload, 1) := by decide +kernel
theorem dL_isSo_135 : decode cL_isSo 135 = .ok (.if_icmp .ge 33, 3) := by decide +kernel
theorem dL_isSo_138 : decode cL_isSo 138 = .ok (.iload 9, 2) := by decide +kernel
theorem dL_isSo_140 : decode cL_isSo 140 = .ok (.aload 4, 2) := by decide +kernel
theorem dL_isSo_142 : decode cL_isSo 142 = .ok (.iconst 2, 1) := by decide +kernel
theorem dL_isSo_143 : decode cL_isSo 143 = .ok (.iconst 3, 1) := by decide +kernel
theorem dL_isSo_144 : decode cL_isSo 144 = .ok (.iload 10, 2) := by decide +kernel
theorem dL_isSo_146 : decode cL_isSo 146 = .ok (.imul, 1) := by decide +kernel
theorem dL_isSo_147 : decode cL_isSo 147 = .ok (.iadd, 1) := by decide +kernel
theorem dL_isSo_148 : decode cL_isSo 148 = .ok (.iaload, 1) := by decide +kernel
theorem dL_isSo_149 : decode cL_isSo 149 = .ok (.iload 6, 2) := by decide +kernel
theorem dL_isSo_151 : decode cL_isSo 151 = .ok (.if_icmp .ne 7, 3) := by decide +kernel
theorem dL_isSo_154 : decode cL_isSo 154 = .ok (.iconst 1, 1) := by decide +kernel
theorem dL_isSo_155 : decode cL_isSo 155 = .ok (.goto 4, 3) := by decide +kernel
theorem dL_isSo_158 : decode cL_isSo 158 = .ok (.iconst 0, 1) := by decide +kernel
theorem dL_isSo_159 : decode cL_isSo 159 = .ok (.iadd, 1) := by decide +kernel
theorem dL_isSo_160 : decode cL_isSo 160 = .ok (.istore 9, 2) := by decide +kernel
theorem dL_isSo_162 : decode cL_isSo 162 = .ok (.iinc 10 1, 3) := by decide +kernel
theorem dL_isSo_165 : decode cL_isSo 165 = .ok (.goto (-36), 3) := by decide +kernel
theorem dL_isSo_168 : decode cL_isSo 168 = .ok (.iload 5, 2) := by decide +kernel
theorem dL_isSo_170 : decode cL_isSo 170 = .ok (.aload_n 1, 1) := by decide +kernel
theorem dL_isSo_171 : decode cL_isSo 171 = .ok (.iconst 4, 1) := by decide +kernel
theorem dL_isSo_172 : decode cL_isSo 172 = .ok (.iload 6, 2) := by decide +kernel
theorem dL_isSo_174 : decode cL_isSo 174 = .ok (.iadd, 1) := by decide +kernel
theorem dL_isSo_175 : decode cL_isSo 175 = .ok (.iaload, 1) := by decide +kernel
theorem dL_isSo_176 : decode cL_isSo 176 = .ok (.iadd, 1) := by decide +kernel
theorem dL_isSo_177 : decode cL_isSo 177 = .ok (.istore 5, 2) := by decide +kernel
theorem dL_isSo_179 : decode cL_isSo 179 = .ok (.aload_n 0, 1) := by decide +kernel
theorem dL_isSo_180 : decode cL_isSo 180 = .ok (.iload 6, 2) := by decide +kernel
theorem dL_isSo_182 : decode cL_isSo 182 = .ok (.iconst 0, 1) := by decide +kernel
theorem dL_isSo_183 : decode cL_isSo 183 = .ok (.invokevirtual 51, 3) := by decide +kernel
theorem dL_isSo_186 : decode cL_isSo 186 = .ok (.aload_n 1, 1) := by decide +kernel
theorem dL_isSo_187 : decode cL_isSo 187 = .ok (.iconst 4, 1) := by decide +kernel
theorem dL_isSo_188 : decode cL_isSo 188 = .ok (.iload 6, 2) := by decide +kernel
theorem dL_isSo_190 : decode cL_isSo 190 = .ok (.iadd, 1) := by decide +kernel
theorem dL_isSo_191 : decode cL_isSo 191 = .ok (.iaload, 1) := by decide +kernel
theorem dL_isSo_192 : decode cL_isSo 192 = .ok (.if_icmp .ne 73, 3) := by decide +kernel
theorem dL_isSo_195 : decode cL_isSo 195 = .ok (.aload_n 0, 1) := by decide +kernel
theorem dL_isSo_196 : decode cL_isSo 196 = .ok (.iload 6, 2) := by decide +kernel
theorem dL_isSo_198 : decode cL_isSo 198 = .ok (.iconst 1, 1) := by decide +kernel
theorem dL_isSo_199 : decode cL_isSo 199 = .ok (.invokevirtual 51, 3) := by decide +kernel
theorem dL_isSo_202 : decode cL_isSo 202 = .ok (.iload 8, 2) := by decide +kernel
theorem dL_isSo_204 : decode cL_isSo 204 = .ok (.if_icmp .ne 61, 3) := by decide +kernel
theorem dL_isSo_207 : decode cL_isSo 207 = .ok (.aload_n 0, 1) := by decide +kernel
theorem dL_isSo_208 : decode cL_isSo 208 = .ok (.iload 6, 2) := by decide +kernel
theorem dL_isSo_210 : decode cL_isSo 210 = .ok (.iconst 2, 1) := by decide +kernel
theorem dL_isSo_211 : decode cL_isSo 211 = .ok (.invokevirtual 51, 3) := by decide +kernel
theorem dL_isSo_214 : decode cL_isSo 214 = .ok (.iload 7, 2) := by decide +kernel
theorem dL_isSo_216 : decode cL_isSo 216 = .ok (.if_icmp .ne 49, 3) := by decide +kernel
theorem dL_isSo_219 : decode cL_isSo 219 = .ok (.aload_n 0, 1) := by decide +kernel
theorem dL_isSo_220 : decode cL_isSo 220 = .ok (.iload 6, 2) := by decide +kernel
theorem dL_isSo_222 : decode cL_isSo 222 = .ok (.iconst 3, 1) := by decide +kernel
theorem dL_isSo_223 : decode cL_isSo 223 = .ok (.invokevirtual 51, 3) := by decide +kernel
theorem dL_isSo_226 : decode cL_isSo 226 = .ok (.iload 9, 2) := by decide +kernel
theorem dL_isSo_228 : decode cL_isSo 228 = .ok (.if_icmp .ne 37, 3) := by decide +kernel
theorem dL_isSo_231 : decode cL_isSo 231 = .ok (.aload_n 0, 1) := by decide +kernel
theorem dL_isSo_232 : decode cL_isSo 232 = .ok (.iload 6, 2) := by decide +kernel
theorem dL_isSo_234 : decode cL_isSo 234 = .ok (.iconst 4, 1) := by decide +kernel
theorem dL_isSo_235 : decode cL_isSo 235 = .ok (.invokevirtual 51, 3) := by decide +kernel
theorem dL_isSo_238 : decode cL_isSo 238 = .ok (.aload_n 1, 1) := by decide +kernel
theorem dL_isSo_239 : decode cL_isSo 239 = .ok (.bipush 20, 2) := by decide +kernel
theorem dL_isSo_241 : decode cL_isSo 241 = .ok (.iload 6, 2) := by decide +kernel
theorem dL_isSo_243 : decode cL_isSo 243 = .ok (.iadd, 1) := by decide +kernel
theorem dL_isSo_244 : decode cL_isSo 244 = .ok (.iaload, 1) := by decide +kernel
theorem dL_isSo_245 : decode cL_isSo 245 = .ok (.if_icmp .ne 20, 3) := by decide +kernel
theorem dL_isSo_248 : decode cL_isSo 248 = .ok (.aload_n 0, 1) := by decide +kernel
theorem dL_isSo_249 : decode cL_isSo 249 = .ok (.iload 6, 2) := by decide +kernel
theorem dL_isSo_251 : decode cL_isSo 251 = .ok (.iconst 5, 1) := by decide +kernel
theorem dL_isSo_252 : decode cL_isSo 252 = .ok (.invokevirtual 51, 3) := by decide +kernel
theorem dL_isSo_255 : decode cL_isSo 255 = .ok (.aload_n 1, 1) := by decide +kernel
theorem dL_isSo_256 : decode cL_isSo 256 = .ok (.bipush 28, 2) := by decide +kernel
theorem dL_isSo_258 : decode cL_isSo 258 = .ok (.iload 6, 2) := by decide +kernel
theorem dL_isSo_260 : decode cL_isSo 260 = .ok (.iadd, 1) := by decide +kernel
theorem dL_isSo_261 : decode cL_isSo 261 = .ok (.iaload, 1) := by decide +kernel
theorem dL_isSo_262 : decode cL_isSo 262 = .ok (.if_icmp .eq 5, 3) := by decide +kernel
theorem dL_isSo_265 : decode cL_isSo 265 = .ok (.iconst 0, 1) := by decide +kernel
theorem dL_isSo_266 : decode cL_isSo 266 = .ok (.ireturn, 1) := by decide +kernel
theorem dL_isSo_267 : decode cL_isSo 267 = .ok (.iinc 6 1, 3) := by decide +kernel
theorem dL_isSo_270 : decode cL_isSo 270 = .ok (.goto (-264), 3) := by decide +kernel
theorem dL_isSo_273 : decode cL_isSo 273 = .ok (.iconst 0, 1) := by decide +kernel
theorem dL_isSo_274 : decode cL_isSo 274 = .ok (.istore 6, 2) := by decide +kernel
theorem dL_isSo_276 : decode cL_isSo 276 = .ok (.iload 6, 2) := by decide +kernel
theorem dL_isSo_278 : decode cL_isSo 278 = .ok (.iconst 4, 1) := by decide +kernel
theorem dL_isSo_279 : decode cL_isSo 279 = .ok (.if_icmp .ge 24, 3) := by decide +kernel
theorem dL_isSo_282 : decode cL_isSo 282 = .ok (.aload_n 0, 1) := by decide +kernel
theorem dL_isSo_283 : decode cL_isSo 283 = .ok (.iload 6, 2) := by decide +kernel
theorem dL_isSo_285 : decode cL_isSo 285 = .ok (.invokevirtual 54, 3) := by decide +kernel
theorem dL_isSo_288 : decode cL_isSo 288 = .ok (.aload_n 1, 1) := by decide +kernel
theorem dL_isSo_289 : decode cL_isSo 289 = .ok (.iload 6, 2) := by decide +kernel
theorem dL_isSo_291 : decode cL_isSo 291 = .ok (.iaload, 1) := by decide +kernel
theorem dL_isSo_292 : decode cL_isSo 292 = .ok (.if_icmp .eq 5, 3) := by decide +kernel
theorem dL_isSo_295 : decode cL_isSo 295 = .ok (.iconst 0, 1) := by decide +kernel
theorem dL_isSo_296 : decode cL_isSo 296 = .ok (.ireturn, 1) := by decide +kernel
theorem dL_isSo_297 : decode cL_isSo 297 = .ok (.iinc 6 1, 3) := by decide +kernel
theorem dL_isSo_300 : decode cL_isSo 300 = .ok (.goto (-24), 3) := by decide +kernel
theorem dL_isSo_303 : decode cL_isSo 303 = .ok (.iconst 0, 1) := by decide +kernel
theorem dL_isSo_304 : decode cL_isSo 304 = .ok (.istore 6, 2) := by decide +kernel
theorem dL_isSo_306 : decode cL_isSo 306 = .ok (.iload 6, 2) := by decide +kernel
theorem dL_isSo_308 : decode cL_isSo 308 = .ok (.iconst 3, 1) := by decide +kernel
theorem dL_isSo_309 : decode cL_isSo 309 = .ok (.aload 4, 2) := by decide +kernel
theorem dL_isSo_311 : decode cL_isSo 311 = .ok (.iconst 0, 1) := by decide +kernel
theorem dL_isSo_312 : decode cL_isSo 312 = .ok (.iaload, 1) := by decide +kernel
theorem dL_isSo_313 : decode cL_isSo 313 = .ok (.imul, 1) := by decide +kernel
theorem dL_isSo_314 : decode cL_isSo 314 = .ok (.if_icmp .ge 40, 3) := by decide +kernel
theorem dL_isSo_317 : decode cL_isSo 317 = .ok (.aload_n 0, 1) := by decide +kernel
theorem dL_isSo_318 : decode cL_isSo 318 = .ok (.aload 4, 2) := by decide +kernel
theorem dL_isSo_320 : decode cL_isSo 320 = .ok (.iconst 0, 1) := by decide +kernel
theorem dL_isSo_321 : decode cL_isSo 321 = .ok (.iaload, 1) := by decide +kernel
theorem dL_isSo_322 : decode cL_isSo 322 = .ok (.iconst 1, 1) := by decide +kernel
theorem dL_isSo_323 : decode cL_isSo 323 = .ok (.isub, 1) := by decide +kernel
theorem dL_isSo_324 : decode cL_isSo 324 = .ok (.iload 6, 2) := by decide +kernel
theorem dL_isSo_326 : decode cL_isSo 326 = .ok (.iconst 3, 1) := by decide +kernel
theorem dL_isSo_327 : decode cL_isSo 327 = .ok (.idiv, 1) := by decide +kernel
theorem dL_isSo_328 : decode cL_isSo 328 = .ok (.isub, 1) := by decide +kernel
theorem dL_isSo_329 : decode cL_isSo 329 = .ok (.iload 6, 2) := by decide +kernel
theorem dL_isSo_331 : decode cL_isSo 331 = .ok (.iconst 3, 1) := by decide +kernel
theorem dL_isSo_332 : decode cL_isSo 332 = .ok (.irem, 1) := by decide +kernel
theorem dL_isSo_333 : decode cL_isSo 333 = .ok (.invokevirtual 57, 3) := by decide +kernel
theorem dL_isSo_336 : decode cL_isSo 336 = .ok (.aload 4, 2) := by decide +kernel
theorem dL_isSo_338 : decode cL_isSo 338 = .ok (.iconst 1, 1) := by decide +kernel
theorem dL_isSo_339 : decode cL_isSo 339 = .ok (.iload 6, 2) := by decide +kernel
theorem dL_isSo_341 : decode cL_isSo 341 = .ok (.iadd, 1) := by decide +kernel
theorem dL_isSo_342 : decode cL_isSo 342 = .ok (.iaload, 1) := by decide +kernel
theorem dL_isSo_343 : decode cL_isSo 343 = .ok (.if_icmp .eq 5, 3) := by decide +kernel
theorem dL_isSo_346 : decode cL_isSo 346 = .ok (.iconst 0, 1) := by decide +kernel
theorem dL_isSo_347 : decode cL_isSo 347 = .ok (.ireturn, 1) := by decide +kernel
theorem dL_isSo_348 : decode cL_isSo 348 = .ok (.iinc 6 1, 3) := by decide +kernel
theorem dL_isSo_351 : decode cL_isSo 351 = .ok (.goto (-45), 3) := by decide +kernel
theorem dL_isSo_354 : decode cL_isSo 354 = .ok (.iconst 0, 1) := by decide +kernel
theorem dL_isSo_355 : decode cL_isSo 355 = .ok (.istore 6, 2) := by decide +kernel
theorem dL_isSo_357 : decode cL_isSo 357 = .ok (.iload 6, 2) := by decide +kernel
theorem dL_isSo_359 : decode cL_isSo 359 = .ok (.bipush 64, 2) := by decide +kernel
theorem dL_isSo_361 : decode cL_isSo 361 = .ok (.if_icmp .ge 143, 3) := by decide +kernel
theorem dL_isSo_364 : decode cL_isSo 364 = .ok (.bipush (-5), 2) := by decide +kernel
theorem dL_isSo_366 : decode cL_isSo 366 = .ok (.istore 7, 2) := by decide +kernel
theorem dL_isSo_368 : decode cL_isSo 368 = .ok (.iconst 3, 1) := by decide +kernel
theorem dL_isSo_369 : decode cL_isSo 369 = .ok (.istore 8, 2) := by decide +kernel
theorem dL_isSo_371 : decode cL_isSo 371 = .ok (.iload 8, 2) := by decide +kernel
theorem dL_isSo_373 : decode cL_isSo 373 = .ok (.ifCond .lt 61, 3) := by decide +kernel
theorem dL_isSo_376 : decode cL_isSo 376 = .ok (.iload 8, 2) := by decide +kernel
theorem dL_isSo_378 : decode cL_isSo 378 = .ok (.iload 6, 2) := by decide +kernel
theorem dL_isSo_380 : decode cL_isSo 380 = .ok (.bipush 16, 2) := by decide +kernel
theorem dL_isSo_382 : decode cL_isSo 382 = .ok (.idiv, 1) := by decide +kernel
theorem dL_isSo_383 : decode cL_isSo 383 = .ok (.if_icmp .eq 41, 3) := by decide +kernel
theorem dL_isSo_386 : decode cL_isSo 386 = .ok (.aload_n 1, 1) := by decide +kernel
theorem dL_isSo_387 : decode cL_isSo 387 = .ok (.iload 8, 2) := by decide +kernel
theorem dL_isSo_389 : decode cL_isSo 389 = .ok (.iaload, 1) := by decide +kernel
theorem dL_isSo_390 : decode cL_isSo 390 = .ok (.aload_n 1, 1) := by decide +kernel
theorem dL_isSo_391 : decode cL_isSo 391 = .ok (.iload 6, 2) := by decide +kernel
theorem dL_isSo_393 : decode cL_isSo 393 = .ok (.bipush 16, 2) := by decide +kernel
theorem dL_isSo_395 : decode cL_isSo 395 = .ok (.idiv, 1) := by decide +kernel
theorem dL_isSo_396 : decode cL_isSo 396 = .ok (.iaload, 1) := by decide +kernel
theorem dL_isSo_397 : decode cL_isSo 397 = .ok (.if_icmp .eq 13, 3) := by decide +kernel
theorem dL_isSo_400 : decode cL_isSo 400 = .ok (.iload 6, 2) := by decide +kernel
theorem dL_isSo_402 : decode cL_isSo 402 = .ok (.bipush 16, 2) := by decide +kernel
theorem dL_isSo_404 : decode cL_isSo 404 = .ok (.irem, 1) := by decide +kernel
theorem dL_isSo_405 : decode cL_isSo 405 = .ok (.bipush 11, 2) := by decide +kernel
theorem dL_isSo_407 : decode cL_isSo 407 = .ok (.if_icmp .le 17, 3) := by decide +kernel
theorem dL_isSo_410 : decode cL_isSo 410 = .ok (.bipush 16, 2) := by decide +kernel
theorem dL_isSo_412 : decode cL_isSo 412 = .ok (.iload 8, 2) := by decide +kernel
theorem dL_isSo_414 : decode cL_isSo 414 = .ok (.imul, 1) := by decide +kernel
theorem dL_isSo_415 : decode cL_isSo 415 = .ok (.iload 6, 2) := by decide +kernel
theorem dL_isSo_417 : decode cL_isSo 417 = .ok (.bipush 16, 2) := by decide +kernel
theorem dL_isSo_419 : decode cL_isSo 419 = .ok (.irem, 1) := by decide +kernel
theorem dL_isSo_420 : decode cL_isSo 420 = .ok (.iadd, 1) := by decide +kernel
theorem dL_isSo_421 : decode cL_isSo 421 = .ok (.goto 5, 3) := by decide +kernel
theorem dL_isSo_424 : decode cL_isSo 424 = .ok (.iload 7, 2) := by decide +kernel
theorem dL_isSo_426 : decode cL_isSo 426 = .ok (.istore 7, 2) := by decide +kernel
theorem dL_isSo_428 : decode cL_isSo 428 = .ok (.iinc 8 (-1), 3) := by decide +kernel
theorem dL_isSo_431 : decode cL_isSo 431 = .ok (.goto (-60), 3) := by decide +kernel
theorem dL_isSo_434 : decode cL_isSo 434 = .ok (.aload_n 0, 1) := by decide +kernel
theorem dL_isSo_435 : decode cL_isSo 435 = .ok (.iload 6, 2) := by decide +kernel
theorem dL_isSo_437 : decode cL_isSo 437 = .ok (.iconst 0, 1) := by decide +kernel
theorem dL_isSo_438 : decode cL_isSo 438 = .ok (.invokevirtual 60, 3) := by decide +kernel
theorem dL_isSo_441 : decode cL_isSo 441 = .ok (.aload_n 1, 1) := by decide +kernel
theorem dL_isSo_442 : decode cL_isSo 442 = .ok (.aload_n 2, 1) := by decide +kernel
theorem dL_isSo_443 : decode cL_isSo 443 = .ok (.aload_n 3, 1) := by decide +kernel
theorem dL_isSo_444 : decode cL_isSo 444 = .ok (.iload 6, 2) := by decide +kernel
theorem dL_isSo_446 : decode cL_isSo 446 = .ok (.invokestatic 15, 3) := by decide +kernel
theorem dL_isSo_449 : decode cL_isSo 449 = .ok (.if_icmp .ne 47, 3) := by decide +kernel
theorem dL_isSo_452 : decode cL_isSo 452 = .ok (.aload_n 0, 1) := by decide +kernel
theorem dL_isSo_453 : decode cL_isSo 453 = .ok (.iload 6, 2) := by decide +kernel
theorem dL_isSo_455 : decode cL_isSo 455 = .ok (.iconst 1, 1) := by decide +kernel
theorem dL_isSo_456 : decode cL_isSo 456 = .ok (.invokevirtual 60, 3) := by decide +kernel
theorem dL_isSo_459 : decode cL_isSo 459 = .ok (.aload_n 1, 1) := by decide +kernel
theorem dL_isSo_460 : decode cL_isSo 460 = .ok (.iload 6, 2) := by decide +kernel
theorem dL_isSo_462 : decode cL_isSo 462 = .ok (.bipush 16, 2) := by decide +kernel
theorem dL_isSo_464 : decode cL_isSo 464 = .ok (.idiv, 1) := by decide +kernel
theorem dL_isSo_465 : decode cL_isSo 465 = .ok (.iaload, 1) := by decide +kernel
theorem dL_isSo_466 : decode cL_isSo 466 = .ok (.if_icmp .ne 30, 3) := by decide +kernel
theorem dL_isSo_469 : decode cL_isSo 469 = .ok (.aload_n 0, 1) := by decide +kernel
theorem dL_isSo_470 : decode cL_isSo 470 = .ok (.iload 6, 2) := by decide +kernel
theorem dL_isSo_472 : decode cL_isSo 472 = .ok (.iconst 2, 1) := by decide +kernel
theorem dL_isSo_473 : decode cL_isSo 473 = .ok (.invokevirtual 60, 3) := by decide +kernel
theorem dL_isSo_476 : decode cL_isSo 476 = .ok (.iload 6, 2) := by decide +kernel
theorem dL_isSo_478 : decode cL_isSo 478 = .ok (.bipush 16, 2) := by decide +kernel
theorem dL_isSo_480 : decode cL_isSo 480 = .ok (.irem, 1) := by decide +kernel
theorem dL_isSo_481 : decode cL_isSo 481 = .ok (.if_icmp .ne 15, 3) := by decide +kernel
theorem dL_isSo_484 : decode cL_isSo 484 = .ok (.aload_n 0, 1) := by decide +kernel
theorem dL_isSo_485 : decode cL_isSo 485 = .ok (.iload 6, 2) := by decide +kernel
theorem dL_isSo_487 : decode cL_isSo 487 = .ok (.iconst 3, 1) := by decide +kernel
theorem dL_isSo_488 : decode cL_isSo 488 = .ok (.invokevirtual 60, 3) := by decide +kernel
theorem dL_isSo_491 : decode cL_isSo 491 = .ok (.iload 7, 2) := by decide +kernel
theorem dL_isSo_493 : decode cL_isSo 493 = .ok (.if_icmp .eq 5, 3) := by decide +kernel
theorem dL_isSo_496 : decode cL_isSo 496 = .ok (.iconst 0, 1) := by decide +kernel
theorem dL_isSo_497 : decode cL_isSo 497 = .ok (.ireturn, 1) := by decide +kernel
theorem dL_isSo_498 : decode cL_isSo 498 = .ok (.iinc 6 1, 3) := by decide +kernel
theorem dL_isSo_501 : decode cL_isSo 501 = .ok (.goto (-144), 3) := by decide +kernel
theorem dL_isSo_504 : decode cL_isSo 504 = .ok (.aload_n 0, 1) := by decide +kernel
theorem dL_isSo_505 : decode cL_isSo 505 = .ok (.aload 4, 2) := by decide +kernel
theorem dL_isSo_507 : decode cL_isSo 507 = .ok (.iconst 0, 1) := by decide +kernel
theorem dL_isSo_508 : decode cL_isSo 508 = .ok (.iaload, 1) := by decide +kernel
theorem dL_isSo_509 : decode cL_isSo 509 = .ok (.iconst 0, 1) := by decide +kernel
theorem dL_isSo_510 : decode cL_isSo 510 = .ok (.invokevirtual 57, 3) := by decide +kernel
theorem dL_isSo_513 : decode cL_isSo 513 = .ok (.bipush (-5), 2) := by decide +kernel
theorem dL_isSo_515 : decode cL_isSo 515 = .ok (.if_icmp .ne 129, 3) := by decide +kernel
theorem dL_isSo_518 : decode cL_isSo 518 = .ok (.aload_n 0, 1) := by decide +kernel
theorem dL_isSo_519 : decode cL_isSo 519 = .ok (.iconst 0, 1) := by decide +kernel
theorem dL_isSo_520 : decode cL_isSo 520 = .ok (.invokevirtual 63, 3) := by decide +kernel
theorem dL_isSo_523 : decode cL_isSo 523 = .ok (.aload_n 1, 1) := by decide +kernel
theorem dL_isSo_524 : decode cL_isSo 524 = .ok (.bipush 13, 2) := by decide +kernel
theorem dL_isSo_526 : decode cL_isSo 526 = .ok (.iaload, 1) := by decide +kernel
theorem dL_isSo_527 : decode cL_isSo 527 = .ok (.if_icmp .ne 117, 3) := by decide +kernel
theorem dL_isSo_530 : decode cL_isSo 530 = .ok (.aload_n 0, 1) := by decide +kernel
theorem dL_isSo_531 : decode cL_isSo 531 = .ok (.iconst 1, 1) := by decide +kernel
theorem dL_isSo_532 : decode cL_isSo 532 = .ok (.invokevirtual 63, 3) := by decide +kernel
theorem dL_isSo_535 : decode cL_isSo 535 = .ok (.aload_n 1, 1) := by decide +kernel
theorem dL_isSo_536 : decode cL_isSo 536 = .ok (.bipush 14, 2) := by decide +kernel
theorem dL_isSo_538 : decode cL_isSo 538 = .ok (.iaload, 1) := by decide +kernel
theorem dL_isSo_539 : decode cL_isSo 539 = .ok (.if_icmp .ne 105, 3) := by decide +kernel
theorem dL_isSo_542 : decode cL_isSo 542 = .ok (.aload_n 0, 1) := by decide +kernel
theorem dL_isSo_543 : decode cL_isSo 543 = .ok (.iconst 2, 1) := by decide +kernel
theorem dL_isSo_544 : decode cL_isSo 544 = .ok (.invokevirtual 63, 3) := by decide +kernel
theorem dL_isSo_547 : decode cL_isSo 547 = .ok (.aload 4, 2) := by decide +kernel
theorem dL_isSo_549 : decode cL_isSo 549 = .ok (.iconst 0, 1) := by decide +kernel
theorem dL_isSo_550 : decode cL_isSo 550 = .ok (.iaload, 1) := by decide +kernel
theorem dL_isSo_551 : decode cL_isSo 551 = .ok (.if_icmp .ne 93, 3) := by decide +kernel
theorem dL_isSo_554 : decode cL_isSo 554 = .ok (.aload_n 0, 1) := by decide +kernel
theorem dL_isSo_555 : decode cL_isSo 555 = .ok (.iconst 3, 1) := by decide +kernel
theorem dL_isSo_556 : decode cL_isSo 556 = .ok (.invokevirtual 63, 3) := by decide +kernel
theorem dL_isSo_559 : decode cL_isSo 559 = .ok (.aload_n 1, 1) := by decide +kernel
theorem dL_isSo_560 : decode cL_isSo 560 = .ok (.bipush 15, 2) := by decide +kernel
theorem dL_isSo_562 : decode cL_isSo 562 = .ok (.iaload, 1) := by decide +kernel
theorem dL_isSo_563 : decode cL_isSo 563 = .ok (.if_icmp .ne 81, 3) := by decide +kernel
theorem dL_isSo_566 : decode cL_isSo 566 = .ok (.aload_n 0, 1) := by decide +kernel
theorem dL_isSo_567 : decode cL_isSo 567 = .ok (.iconst 4, 1) := by decide +kernel
theorem dL_isSo_568 : decode cL_isSo 568 = .ok (.invokevirtual 63, 3) := by decide +kernel
theorem dL_isSo_571 : decode cL_isSo 571 = .ok (.aload_n 1, 1) := by decide +kernel
theorem dL_isSo_572 : decode cL_isSo 572 = .ok (.bipush 16, 2) := by decide +kernel
theorem dL_isSo_574 : decode cL_isSo 574 = .ok (.iaload, 1) := by decide +kernel
theorem dL_isSo_575 : decode cL_isSo 575 = .ok (.if_icmp .ne 69, 3) := by decide +kernel
theorem dL_isSo_578 : decode cL_isSo 578 = .ok (.aload_n 0, 1) := by decide +kernel
theorem dL_isSo_579 : decode cL_isSo 579 = .ok (.iconst 5, 1) := by decide +kernel
theorem dL_isSo_580 : decode cL_isSo 580 = .ok (.invokevirtual 63, 3) := by decide +kernel
theorem dL_isSo_583 : decode cL_isSo 583 = .ok (.aload_n 1, 1) := by decide +kernel
theorem dL_isSo_584 : decode cL_isSo 584 = .ok (.bipush 17, 2) := by decide +kernel
theorem dL_isSo_586 : decode cL_isSo 586 = .ok (.iaload, 1) := by decide +kernel
theorem dL_isSo_587 : decode cL_isSo 587 = .ok (.if_icmp .ne 57, 3) := by decide +kernel
theorem dL_isSo_590 : decode cL_isSo 590 = .ok (.aload_n 0, 1) := by decide +kernel
theorem dL_isSo_591 : decode cL_isSo 591 = .ok (.bipush 6, 2) := by decide +kernel
theorem dL_isSo_593 : decode cL_isSo 593 = .ok (.invokevirtual 63, 3) := by decide +kernel
theorem dL_isSo_596 : decode cL_isSo 596 = .ok (.aload_n 1, 1) := by decide +kernel
theorem dL_isSo_597 : decode cL_isSo 597 = .ok (.bipush 18, 2) := by decide +kernel
theorem dL_isSo_599 : decode cL_isSo 599 = .ok (.iaload, 1) := by decide +kernel
theorem dL_isSo_600 : decode cL_isSo 600 = .ok (.if_icmp .ne 44, 3) := by decide +kernel
theorem dL_isSo_603 : decode cL_isSo 603 = .ok (.aload_n 0, 1) := by decide +kernel
theorem dL_isSo_604 : decode cL_isSo 604 = .ok (.bipush 7, 2) := by decide +kernel
theorem dL_isSo_606 : decode cL_isSo 606 = .ok (.invokevirtual 63, 3) := by decide +kernel
theorem dL_isSo_609 : decode cL_isSo 609 = .ok (.aload_n 1, 1) := by decide +kernel
theorem dL_isSo_610 : decode cL_isSo 610 = .ok (.bipush 19, 2) := by decide +kernel
theorem dL_isSo_612 : decode cL_isSo 612 = .ok (.iaload, 1) := by decide +kernel
theorem dL_isSo_613 : decode cL_isSo 613 = .ok (.if_icmp .ne 31, 3) := by decide +kernel
theorem dL_isSo_616 : decode cL_isSo 616 = .ok (.aload_n 0, 1) := by decide +kernel
theorem dL_isSo_617 : decode cL_isSo 617 = .ok (.bipush 8, 2) := by decide +kernel
theorem dL_isSo_619 : decode cL_isSo 619 = .ok (.invokevirtual 63, 3) := by decide +kernel
theorem dL_isSo_622 : decode cL_isSo 622 = .ok (.iload 5, 2) := by decide +kernel
theorem dL_isSo_624 : decode cL_isSo 624 = .ok (.if_icmp .ne 20, 3) := by decide +kernel
theorem dL_isSo_627 : decode cL_isSo 627 = .ok (.aload_n 0, 1) := by decide +kernel
theorem dL_isSo_628 : decode cL_isSo 628 = .ok (.bipush 9, 2) := by decide +kernel
theorem dL_isSo_630 : decode cL_isSo 630 = .ok (.invokevirtual 63, 3) := by decide +kernel
theorem dL_isSo_633 : decode cL_isSo 633 = .ok (.aload_n 1, 1) := by decide +kernel
theorem dL_isSo_634 : decode cL_isSo 634 = .ok (.bipush 12, 2) := by decide +kernel
theorem dL_isSo_636 : decode cL_isSo 636 = .ok (.iaload, 1) := by decide +kernel
theorem dL_isSo_637 : decode cL_isSo 637 = .ok (.if_icmp .ne 7, 3) := by decide +kernel
theorem dL_isSo_640 : decode cL_isSo 640 = .ok (.iconst 1, 1) := by decide +kernel
theorem dL_isSo_641 : decode cL_isSo 641 = .ok (.goto 4, 3) := by decide +kernel
theorem dL_isSo_644 : decode cL_isSo 644 = .ok (.iconst 0, 1) := by decide +kernel
theorem dL_isSo_645 : decode cL_isSo 645 = .ok (.ireturn, 1) := by decide +kernel
theorem dL_puts_0 : decode cL_puts 0 = .ok (.iload_n 2, 1) := by decide +kernel
theorem dL_puts_1 : decode cL_puts 1 = .ok (.iload_n 2, 1) := by decide +kernel
theorem dL_puts_2 : decode cL_puts 2 = .ok (.bipush 14, 2) := by decide +kernel
theorem dL_puts_4 : decode cL_puts 4 = .ok (.ishr, 1) := by decide +kernel
theorem dL_puts_5 : decode cL_puts 5 = .ok (.iconst 3, 1) := by decide +kernel
theorem dL_puts_6 : decode cL_puts 6 = .ok (.iand, 1) := by decide +kernel
theorem dL_puts_7 : decode cL_puts 7 = .ok (.ifCond .ne 8, 3) := by decide +kernel
theorem dL_puts_10 : decode cL_puts 10 = .ok (.bipush 8, 2) := by decide +kernel
theorem dL_puts_12 : decode cL_puts 12 = .ok (.goto 4, 3) := by decide +kernel
theorem dL_puts_15 : decode cL_puts 15 = .ok (.iconst 4, 1) := by decide +kernel
theorem dL_puts_16 : decode cL_puts 16 = .ok (.invokestatic 66, 3) := by decide +kernel
theorem dL_puts_19 : decode cL_puts 19 = .ok (.istore 6, 2) := by decide +kernel
theorem dL_puts_21 : decode cL_puts 21 = .ok (.iload_n 2, 1) := by decide +kernel
theorem dL_puts_22 : decode cL_puts 22 = .ok (.iconst 3, 1) := by decide +kernel
theorem dL_puts_23 : decode cL_puts 23 = .ok (.ishr, 1) := by decide +kernel
theorem dL_puts_24 : decode cL_puts 24 = .ok (.bipush 16, 2) := by decide +kernel
theorem dL_puts_26 : decode cL_puts 26 = .ok (.invokestatic 66, 3) := by decide +kernel
theorem dL_puts_29 : decode cL_puts 29 = .ok (.istore 7, 2) := by decide +kernel
theorem dL_puts_31 : decode cL_puts 31 = .ok (.iload_n 1, 1) := by decide +kernel
theorem dL_puts_32 : decode cL_puts 32 = .ok (.iconst 3, 1) := by decide +kernel
theorem dL_puts_33 : decode cL_puts 33 = .ok (.ishr, 1) := by decide +kernel
theorem dL_puts_34 : decode cL_puts 34 = .ok (.bipush 10, 2) := by decide +kernel
theorem dL_puts_36 : decode cL_puts 36 = .ok (.invokestatic 66, 3) := by decide +kernel
theorem dL_puts_39 : decode cL_puts 39 = .ok (.istore 8, 2) := by decide +kernel
theorem dL_puts_41 : decode cL_puts 41 = .ok (.iload 8, 2) := by decide +kernel
theorem dL_puts_43 : decode cL_puts 43 = .ok (.iconst 1, 1) := by decide +kernel
theorem dL_puts_44 : decode cL_puts 44 = .ok (.if_icmp .le 37, 3) := by decide +kernel
theorem dL_puts_47 : decode cL_puts 47 = .ok (.iload 8, 2) := by decide +kernel
theorem dL_puts_49 : decode cL_puts 49 = .ok (.bipush 6, 2) := by decide +kernel
theorem dL_puts_51 : decode cL_puts 51 = .ok (.if_icmp .ge 30, 3) := by decide +kernel
theorem dL_puts_54 : decode cL_puts 54 = .ok (.iload_n 1, 1) := by decide +kernel
theorem dL_puts_55 : decode cL_puts 55 = .ok (.bipush 7, 2) := by decide +kernel
theorem dL_puts_57 : decode cL_puts 57 = .ok (.ishr, 1) := by decide +kernel
theorem dL_puts_58 : decode cL_puts 58 = .ok (.iload_n 1, 1) := by decide +kernel
theorem dL_puts_59 : decode cL_puts 59 = .ok (.bipush 6, 2) := by decide +kernel
theorem dL_puts_61 : decode cL_puts 61 = .ok (.ishr, 1) := by decide +kernel
theorem dL_puts_62 : decode cL_puts 62 = .ok (.bipush 7, 2) := by decide +kernel
theorem dL_puts_64 : decode cL_puts 64 = .ok (.iand, 1) := by decide +kernel
theorem dL_puts_65 : decode cL_puts 65 = .ok (.ifCond .ne 8, 3) := by decide +kernel
theorem dL_puts_68 : decode cL_puts 68 = .ok (.bipush 100, 2) := by decide +kernel
theorem dL_puts_70 : decode cL_puts 70 = .ok (.goto 5, 3) := by decide +kernel
theorem dL_puts_73 : decode cL_puts 73 = .ok (.bipush 64, 2) := by decide +kernel
theorem dL_puts_75 : decode cL_puts 75 = .ok (.invokestatic 66, 3) := by decide +kernel
theorem dL_puts_78 : decode cL_puts 78 = .ok (.goto 88, 3) := by decide +kernel
theorem dL_puts_81 : decode cL_puts 81 = .ok (.iload 8, 2) := by decide +kernel
theorem dL_puts_83 : decode cL_puts 83 = .ok (.bipush 6, 2) := by decide +kernel
theorem dL_puts_85 : decode cL_puts 85 = .ok (.if_icmp .ne 27, 3) := by decide +kernel
theorem dL_puts_88 : decode cL_puts 88 = .ok (.bipush 10, 2) := by decide +kernel
theorem dL_puts_90 : decode cL_puts 90 = .ok (.iload_n 1, 1) := by decide +kernel
theorem dL_puts_91 : decode cL_puts 91 = .ok (.bipush 7, 2) := by decide +kernel
theorem dL_puts_93 : decode cL_puts 93 = .ok (.ishr, 1) := by decide +kernel
theorem dL_puts_94 : decode cL_puts 94 = .ok (.iconst 4, 1) := by decide +kernel
theorem dL_puts_95 : decode cL_puts 95 = .ok (.invokestatic 66, 3) := by decide +kernel
theorem dL_puts_98 : decode cL_puts 98 = .ok (.imul, 1) := by decide +kernel
theorem dL_puts_99 : decode cL_puts 99 = .ok (.iload_n 1, 1) := by decide +kernel
theorem dL_puts_100 : decode cL_puts 100 = .ok (.bipush 10, 2) := by decide +kernel
theorem dL_puts_102 : decode cL_puts 102 = .ok (.ishr, 1) := by decide +kernel
theorem dL_puts_103 : decode cL_puts 103 = .ok (.bipush 8, 2) := by decide +kernel
theorem dL_puts_105 : decode cL_puts 105 = .ok (.invokestatic 66, 3) := by decide +kernel
theorem dL_puts_108 : decode cL_puts 108 = .ok (.iadd, 1) := by decide +kernel
theorem dL_puts_109 : decode cL_puts 109 = .ok (.goto 57, 3) := by decide +kernel
theorem dL_puts_112 : decode cL_puts 112 = .ok (.iload 8, 2) := by decide +kernel
theorem dL_puts_114 : decode cL_puts 114 = .ok (.bipush 7, 2) := by decide +kernel
theorem dL_puts_116 : decode cL_puts 116 = .ok (.if_icmp .ne 41, 3) := by decide +kernel
theorem dL_puts_119 : decode cL_puts 119 = .ok (.bipush 10, 2) := by decide +kernel
theorem dL_puts_121 : decode cL_puts 121 = .ok (.iload_n 1, 1) := by decide +kernel
theorem dL_puts_122 : decode cL_puts 122 = .ok (.bipush 7, 2) := by decide +kernel
theorem dL_puts_124 : decode cL_puts 124 = .ok (.ishr, 1) := by decide +kernel
theorem dL_puts_125 : decode cL_puts 125 = .ok (.iload_n 1, 1) := by decide +kernel
theorem dL_puts_126 : decode cL_puts 126 = .ok (.bipush 6, 2) := by decide +kernel
theorem dL_puts_128 : decode cL_puts 128 = .ok (.ishr, 1) := by decide +kernel
theorem dL_puts_129 : decode cL_puts 129 = .ok (.bipush 7, 2) := by decide +kernel
theorem dL_puts_131 : decode cL_puts 131 = .ok (.iand, 1) := by decide +kernel
theorem dL_puts_132 : decode cL_puts 132 = .ok (.ifCond .ne 8, 3) := by decide +kernel
theorem dL_puts_135 : decode cL_puts 135 = .ok (.bipush 10, 2) := by decide +kernel
theorem dL_puts_137 : decode cL_puts 137 = .ok (.goto 4, 3) := by decide +kernel
theorem dL_puts_140 : decode cL_puts 140 = .ok (.iconst 4, 1) := by decide +kernel
theorem dL_puts_141 : decode cL_puts 141 = .ok (.invokestatic 66, 3) := by decide +kernel
theorem dL_puts_144 : decode cL_puts 144 = .ok (.imul, 1) := by decide +kernel
theorem dL_puts_145 : decode cL_puts 145 = .ok (.iload_n 1, 1) := by decide +kernel
theorem dL_puts_146 : decode cL_puts 146 = .ok (.bipush 11, 2) := by decide +kernel
theorem dL_puts_148 : decode cL_puts 148 = .ok (.ishr, 1) := by decide +kernel
theorem dL_puts_149 : decode cL_puts 149 = .ok (.iconst 3, 1) := by decide +kernel
theorem dL_puts_150 : decode cL_puts 150 = .ok (.invokestatic 66, 3) := by decide +kernel
theorem dL_puts_153 : decode cL_puts 153 = .ok (.iadd, 1) := by decide +kernel
theorem dL_puts_154 : decode cL_puts 154 = .ok (.goto 12, 3) := by decide +kernel
theorem dL_puts_157 : decode cL_puts 157 = .ok (.iload_n 1, 1) := by decide +kernel
theorem dL_puts_158 : decode cL_puts 158 = .ok (.bipush 7, 2) := by decide +kernel
theorem dL_puts_160 : decode cL_puts 160 = .ok (.ishr, 1) := by decide +kernel
theorem dL_puts_161 : decode cL_puts 161 = .ok (.bipush 100, 2) := by decide +kernel
theorem dL_puts_163 : decode cL_puts 163 = .ok (.invokestatic 66, 3) := by decide +kernel
theorem dL_puts_166 : decode cL_puts 166 = .ok (.istore 9, 2) := by decide +kernel
theorem dL_puts_168 : decode cL_puts 168 = .ok (.iload_n 1, 1) := by decide +kernel
theorem dL_puts_169 : decode cL_puts 169 = .ok (.bipush 7, 2) := by decide +kernel
theorem dL_puts_171 : decode cL_puts 171 = .ok (.iand, 1) := by decide +kernel
theorem dL_puts_172 : decode cL_puts 172 = .ok (.ifCond .ne 15, 3) := by decide +kernel
theorem dL_puts_175 : decode cL_puts 175 = .ok (.iload_n 1, 1) := by decide +kernel
theorem dL_puts_176 : decode cL_puts 176 = .ok (.iconst 4, 1) := by decide +kernel
theorem dL_puts_177 : decode cL_puts 177 = .ok (.ishr, 1) := by decide +kernel
theorem dL_puts_178 : decode cL_puts 178 = .ok (.sipush 1000, 3) := by decide +kernel
theorem dL_puts_181 : decode cL_puts 181 = .ok (.invokestatic 66, 3) := by decide +kernel
theorem dL_puts_184 : decode cL_puts 184 = .ok (.goto 11, 3) := by decide +kernel
theorem dL_puts_187 : decode cL_puts 187 = .ok (.bipush 100, 2) := by decide +kernel
theorem dL_puts_189 : decode cL_puts 189 = .ok (.iload 8, 2) := by decide +kernel
theorem dL_puts_191 : decode cL_puts 191 = .ok (.imul, 1) := by decide +kernel
theorem dL_puts_192 : decode cL_puts 192 = .ok (.iload 9, 2) := by decide +kernel
theorem dL_puts_194 : decode cL_puts 194 = .ok (.iadd, 1) := by decide +kernel
theorem dL_puts_195 : decode cL_puts 195 = .ok (.istore 10, 2) := by decide +kernel
theorem dL_puts_197 : decode cL_puts 197 = .ok (.aload 4, 2) := by decide +kernel
theorem dL_puts_199 : decode cL_puts 199 = .ok (.aload 5, 2) := by decide +kernel
theorem dL_puts_201 : decode cL_puts 201 = .ok (.iload 6, 2) := by decide +kernel
theorem dL_puts_203 : decode cL_puts 203 = .ok (.iload 7, 2) := by decide +kernel
theorem dL_puts_205 : decode cL_puts 205 = .ok (.invokestatic 9, 3) := by decide +kernel
theorem dL_puts_208 : decode cL_puts 208 = .ok (.istore 11, 2) := by decide +kernel
theorem dL_puts_210 : decode cL_puts 210 = .ok (.aload 4, 2) := by decide +kernel
theorem dL_puts_212 : decode cL_puts 212 = .ok (.aload 5, 2) := by decide +kernel
theorem dL_puts_214 : decode cL_puts 214 = .ok (.iload 6, 2) := by decide +kernel
theorem dL_puts_216 : decode cL_puts 216 = .ok (.iload 7, 2) := by decide +kernel
theorem dL_puts_218 : decode cL_puts 218 = .ok (.iload 10, 2) := by decide +kernel
theorem dL_puts_220 : decode cL_puts 220 = .ok (.invokestatic 19, 3) := by decide +kernel
theorem dL_puts_223 : decode cL_puts 223 = .ok (.aload_n 0, 1) := by decide +kernel
theorem dL_puts_224 : decode cL_puts 224 = .ok (.iload 6, 2) := by decide +kernel
theorem dL_puts_226 : decode cL_puts 226 = .ok (.iload 7, 2) := by decide +kernel
theorem dL_puts_228 : decode cL_puts 228 = .ok (.iload 10, 2) := by decide +kernel
theorem dL_puts_230 : decode cL_puts 230 = .ok (.invokevirtual 69, 3) := by decide +kernel
theorem dL_puts_233 : decode cL_puts 233 = .ok (.iload 11, 2) := by decide +kernel
theorem dL_puts_235 : decode cL_puts 235 = .ok (.iload 10, 2) := by decide +kernel
theorem dL_puts_237 : decode cL_puts 237 = .ok (.if_icmp .ne 8, 3) := by decide +kernel
theorem dL_puts_240 : decode cL_puts 240 = .ok (.bipush (-5), 2) := by decide +kernel
theorem dL_puts_242 : decode cL_puts 242 = .ok (.goto 5, 3) := by decide +kernel
theorem dL_puts_245 : decode cL_puts 245 = .ok (.iload 11, 2) := by decide +kernel
theorem dL_puts_247 : decode cL_puts 247 = .ok (.if_icmp .ne 47, 3) := by decide +kernel
theorem dL_puts_250 : decode cL_puts 250 = .ok (.aload_n 0, 1) := by decide +kernel
theorem dL_puts_251 : decode cL_puts 251 = .ok (.bipush 8, 2) := by decide +kernel
theorem dL_puts_253 : decode cL_puts 253 = .ok (.iconst 0, 1) := by decide +kernel
theorem dL_puts_254 : decode cL_puts 254 = .ok (.iconst 0, 1) := by decide +kernel
theorem dL_puts_255 : decode cL_puts 255 = .ok (.invokevirtual 69, 3) := by decide +kernel
theorem dL_puts_258 : decode cL_puts 258 = .ok (.iconst (-1), 1) := by decide +kernel
theorem dL_puts_259 : decode cL_puts 259 = .ok (.if_icmp .ne 35, 3) := by decide +kernel
theorem dL_puts_262 : decode cL_puts 262 = .ok (.aload_n 0, 1) := by decide +kernel
theorem dL_puts_263 : decode cL_puts 263 = .ok (.iconst 0, 1) := by decide +kernel
theorem dL_puts_264 : decode cL_puts 264 = .ok (.bipush 16, 2) := by decide +kernel
theorem dL_puts_266 : decode cL_puts 266 = .ok (.sipush 1000, 3) := by decide +kernel
theorem dL_puts_269 : decode cL_puts 269 = .ok (.invokevirtual 69, 3) := by decide +kernel
theorem dL_puts_272 : decode cL_puts 272 = .ok (.iconst (-1), 1) := by decide +kernel
theorem dL_puts_273 : decode cL_puts 273 = .ok (.if_icmp .ne 21, 3) := by decide +kernel
theorem dL_puts_276 : decode cL_puts 276 = .ok (.aload_n 0, 1) := by decide +kernel
theorem dL_puts_277 : decode cL_puts 277 = .ok (.iconst 0, 1) := by decide +kernel
theorem dL_puts_278 : decode cL_puts 278 = .ok (.iconst 0, 1) := by decide +kernel
theorem dL_puts_279 : decode cL_puts 279 = .ok (.sipush 1000, 3) := by decide +kernel
theorem dL_puts_282 : decode cL_puts 282 = .ok (.invokevirtual 69, 3) := by decide +kernel
theorem dL_puts_285 : decode cL_puts 285 = .ok (.bipush (-2), 2) := by decide +kernel
theorem dL_puts_287 : decode cL_puts 287 = .ok (.if_icmp .ne 7, 3) := by decide +kernel
theorem dL_puts_290 : decode cL_puts 290 = .ok (.iconst 1, 1) := by decide +kernel
theorem dL_puts_291 : decode cL_puts 291 = .ok (.goto 4, 3) := by decide +kernel
theorem dL_puts_294 : decode cL_puts 294 = .ok (.iconst 0, 1) := by decide +kernel
theorem dL_puts_295 : decode cL_puts 295 = .ok (.ireturn, 1) := by decide +kernel
theorem dL_others_0 : decode cL_others 0 = .ok (.iload_n 1, 1) := by decide +kernel
theorem dL_others_1 : decode cL_others 1 = .ok (.bipush 9, 2) := by decide +kernel
theorem dL_others_3 : decode cL_others 3 = .ok (.invokestatic 66, 3) := by decide +kernel
theorem dL_others_6 : decode cL_others 6 = .ok (.istore 7, 2) := by decide +kernel
theorem dL_others_8 : decode cL_others 8 = .ok (.iload_n 2, 1) := by decide +kernel
theorem dL_others_9 : decode cL_others 9 = .ok (.bipush 8, 2) := by decide +kernel
theorem dL_others_11 : decode cL_others 11 = .ok (.invokestatic 66, 3) := by decide +kernel
theorem dL_others_14 : decode cL_others 14 = .ok (.istore 8, 2) := by decide +kernel
theorem dL_others_16 : decode cL_others 16 = .ok (.iload 7, 2) := by decide +kernel
theorem dL_others_18 : decode cL_others 18 = .ok (.ifCond .ne 120, 3) := by decide +kernel
theorem dL_others_21 : decode cL_others 21 = .ok (.iload_n 2, 1) := by decide +kernel
theorem dL_others_22 : decode cL_others 22 = .ok (.bipush 8, 2) := by decide +kernel
theorem dL_others_24 : decode cL_others 24 = .ok (.iand, 1) := by decide +kernel
theorem dL_others_25 : decode cL_others 25 = .ok (.ifCond .ne 7, 3) := by decide +kernel
theorem dL_others_28 : decode cL_others 28 = .ok (.iconst 1, 1) := by decide +kernel
theorem dL_others_29 : decode cL_others 29 = .ok (.goto 4, 3) := by decide +kernel
theorem dL_others_32 : decode cL_others 32 = .ok (.iconst 0, 1) := by decide +kernel
theorem dL_others_33 : decode cL_others 33 = .ok (.istore 9, 2) := by decide +kernel
theorem dL_others_35 : decode cL_others 35 = .ok (.aload_n 3, 1) := by decide +kernel
theorem dL_others_36 : decode cL_others 36 = .ok (.iconst 4, 1) := by decide +kernel
theorem dL_others_37 : decode cL_others 37 = .ok (.iload 8, 2) := by decide +kernel
theorem dL_others_39 : decode cL_others 39 = .ok (.iadd, 1) := by decide +kernel
theorem dL_others_40 : decode cL_others 40 = .ok (.iaload, 1) := by decide +kernel
theorem dL_others_41 : decode cL_others 41 = .ok (.iconst 1, 1) := by decide +kernel
theorem dL_others_42 : decode cL_others 42 = .ok (.if_icmp .ne 7, 3) := by decide +kernel
theorem dL_others_45 : decode cL_others 45 = .ok (.iconst 1, 1) := by decide +kernel
theorem dL_others_46 : decode cL_others 46 = .ok (.goto 4, 3) := by decide +kernel
theorem dL_others_49 : decode cL_others 49 = .ok (.iconst 0, 1) := by decide +kernel
theorem dL_others_50 : decode cL_others 50 = .ok (.istore 10, 2) := by decide +kernel
theorem dL_others_52 : decode cL_others 52 = .ok (.aload_n 3, 1) := by decide +kernel
theorem dL_others_53 : decode cL_others 53 = .ok (.iconst 4, 1) := by decide +kernel
theorem dL_others_54 : decode cL_others 54 = .ok (.iload 8, 2) := by decide +kernel
theorem dL_others_56 : decode cL_others 56 = .ok (.iadd, 1) := by decide +kernel
theorem dL_others_57 : decode cL_others 57 = .ok (.iload 9, 2) := by decide +kernel
theorem dL_others_59 : decode cL_others 59 = .ok (.ifCond .eq 7, 3) := by decide +kernel
theorem dL_others_62 : decode cL_others 62 = .ok (.iconst 1, 1) := by decide +kernel
theorem dL_others_63 : decode cL_others 63 = .ok (.goto 4, 3) := by decide +kernel
theorem dL_others_66 : decode cL_others 66 = .ok (.iconst 0, 1) := by decide +kernel
theorem dL_others_67 : decode cL_others 67 = .ok (.iastore, 1) := by decide +kernel
theorem dL_others_68 : decode cL_others 68 = .ok (.iconst 0, 1) := by decide +kernel
theorem dL_others_69 : decode cL_others 69 = .ok (.istore 11, 2) := by decide +kernel
theorem dL_others_71 : decode cL_others 71 = .ok (.iconst 4, 1) := by decide +kernel
theorem dL_others_72 : decode cL_others 72 = .ok (.istore 12, 2) := by decide +kernel
theorem dL_others_74 : decode cL_others 74 = .ok (.iload 12, 2) := by decide +kernel
theorem dL_others_76 : decode cL_others 76 = .ok (.bipush 12, 2) := by decide +kernel
theorem dL_others_78 : decode cL_others 78 = .ok (.if_icmp .ge 18, 3) := by decide +kernel
theorem dL_others_81 : decode cL_others 81 = .ok (.iload 11, 2) := by decide +kernel
theorem dL_others_83 : decode cL_others 83 = .ok (.aload_n 3, 1) := by decide +kernel
theorem dL_others_84 : decode cL_others 84 = .ok (.iload 12, 2) := by decide +kernel
theorem dL_others_86 : decode cL_others 86 = .ok (.iaload, 1) := by decide +kernel
theorem dL_others_87 : decode cL_others 87 = .ok (.iadd, 1) := by decide +kernel
theorem dL_others_88 : decode cL_others 88 = .ok (.istore 11, 2) := by decide +kernel
theorem dL_others_90 : decode cL_others 90 = .ok (.iinc 12 1, 3) := by decide +kernel
theorem dL_others_93 : decode cL_others 93 = .ok (.goto (-19), 3) := by decide +kernel
theorem dL_others_96 : decode cL_others 96 = .ok (.aload_n 0, 1) := by decide +kernel
theorem dL_others_97 : decode cL_others 97 = .ok (.iload 8, 2) := by decide +kernel
theorem dL_others_99 : decode cL_others 99 = .ok (.iload 9, 2) := by decide +kernel
theorem dL_others_101 : decode cL_others 101 = .ok (.invokevirtual 72, 3) := by decide +kernel
theorem dL_others_104 : decode cL_others 104 = .ok (.iload 10, 2) := by decide +kernel
theorem dL_others_106 : decode cL_others 106 = .ok (.iload 9, 2) := by decide +kernel
theorem dL_others_108 : decode cL_others 108 = .ok (.if_icmp .ne 8, 3) := by decide +kernel
theorem dL_others_111 : decode cL_others 111 = .ok (.bipush (-5), 2) := by decide +kernel
theorem dL_others_113 : decode cL_others 113 = .ok (.goto 5, 3) := by decide +kernel
theorem dL_others_116 : decode cL_others 116 = .ok (.iload 11, 2) := by decide +kernel
theorem dL_others_118 : decode cL_others 118 = .ok (.if_icmp .ne 18, 3) := by decide +kernel
theorem dL_others_121 : decode cL_others 121 = .ok (.aload_n 0, 1) := by decide +kernel
theorem dL_others_122 : decode cL_others 122 = .ok (.bipush 8, 2) := by decide +kernel
theorem dL_others_124 : decode cL_others 124 = .ok (.iconst 1, 1) := by decide +kernel
theorem dL_others_125 : decode cL_others 125 = .ok (.invokevirtual 72, 3) := by decide +kernel
theorem dL_others_128 : decode cL_others 128 = .ok (.iconst (-1), 1) := by decide +kernel
theorem dL_others_129 : decode cL_others 129 = .ok (.if_icmp .ne 7, 3) := by decide +kernel
theorem dL_others_132 : decode cL_others 132 = .ok (.iconst 1, 1) := by decide +kernel
theorem dL_others_133 : decode cL_others 133 = .ok (.goto 4, 3) := by decide +kernel
theorem dL_others_136 : decode cL_others 136 = .ok (.iconst 0, 1) := by decide +kernel
theorem dL_others_137 : decode cL_others 137 = .ok (.ireturn, 1) := by decide +kernel
theorem dL_others_138 : decode cL_others 138 = .ok (.iload 7, 2) := by decide +kernel
theorem dL_others_140 : decode cL_others 140 = .ok (.iconst 1, 1) := by decide +kernel
theorem dL_others_141 : decode cL_others 141 = .ok (.if_icmp .ne 76, 3) := by decide +kernel
theorem dL_others_144 : decode cL_others 144 = .ok (.iload_n 2, 1) := by decide +kernel
theorem dL_others_145 : decode cL_others 145 = .ok (.iconst 3, 1) := by decide +kernel
theorem dL_others_146 : decode cL_others 146 = .ok (.ishr, 1) := by decide +kernel
theorem dL_others_147 : decode cL_others 147 = .ok (.iconst 4, 1) := by decide +kernel
theorem dL_others_148 : decode cL_others 148 = .ok (.invokestatic 66, 3) := by decide +kernel
theorem dL_others_151 : decode cL_others 151 = .ok (.istore 9, 2) := by decide +kernel
theorem dL_others_153 : decode cL_others 153 = .ok (.aload_n 3, 1) := by decide +kernel
theorem dL_others_154 : decode cL_others 154 = .ok (.iload 9, 2) := by decide +kernel
theorem dL_others_156 : decode cL_others 156 = .ok (.iaload, 1) := by decide +kernel
theorem dL_others_157 : decode cL_others 157 = .ok (.istore 10, 2) := by decide +kernel
theorem dL_others_159 : decode cL_others 159 = .ok (.aload_n 3, 1) := by decide +kernel
theorem dL_others_160 : decode cL_others 160 = .ok (.iload 9, 2) := by decide +kernel
theorem dL_others_162 : decode cL_others 162 = .ok (.iload 8, 2) := by decide +kernel
theorem dL_others_164 : decode cL_others 164 = .ok (.iastore, 1) := by decide +kernel
theorem dL_others_165 : decode cL_others 165 = .ok (.aload_n 0, 1) := by decide +kernel
theorem dL_others_166 : decode cL_others 166 = .ok (.iload 9, 2) := by decide +kernel
theorem dL_others_168 : decode cL_others 168 = .ok (.iload 8, 2) := by decide +kernel
theorem dL_others_170 : decode cL_others 170 = .ok (.invokevirtual 76, 3) := by decide +kernel
theorem dL_others_173 : decode cL_others 173 = .ok (.iload 10, 2) := by decide +kernel
theorem dL_others_175 : decode cL_others 175 = .ok (.iload 8, 2) := by decide +kernel
theorem dL_others_177 : decode cL_others 177 = .ok (.if_icmp .ne 8, 3) := by decide +kernel
theorem dL_others_180 : decode cL_others 180 = .ok (.bipush (-5), 2) := by decide +kernel
theorem dL_others_182 : decode cL_others 182 = .ok (.goto 5, 3) := by decide +kernel
theorem dL_others_185 : decode cL_others 185 = .ok (.iload 10, 2) := by decide +kernel
theorem dL_others_187 : decode cL_others 187 = .ok (.if_icmp .ne 28, 3) := by decide +kernel
theorem dL_others_190 : decode cL_others 190 = .ok (.aload_n 0, 1) := by decide +kernel
theorem dL_others_191 : decode cL_others 191 = .ok (.iconst 4, 1) := by decide +kernel
theorem dL_others_192 : decode cL_others 192 = .ok (.iconst 0, 1) := by decide +kernel
theorem dL_others_193 : decode cL_others 193 = .ok (.invokevirtual 76, 3) := by decide +kernel
theorem dL_others_196 : decode cL_others 196 = .ok (.iconst (-1), 1) := by decide +kernel
theorem dL_others_197 : decode cL_others 197 = .ok (.if_icmp .ne 18, 3) := by decide +kernel
theorem dL_others_200 : decode cL_others 200 = .ok (.aload_n 0, 1) := by decide +kernel
theorem dL_others_201 : decode cL_others 201 = .ok (.iconst 0, 1) := by decide +kernel
theorem dL_others_202 : decode cL_others 202 = .ok (.bipush 8, 2) := by decide +kernel
theorem dL_others_204 : decode cL_others 204 = .ok (.invokevirtual 76, 3) := by decide +kernel
theorem dL_others_207 : decode cL_others 207 = .ok (.iconst (-1), 1) := by decide +kernel
theorem dL_others_208 : decode cL_others 208 = .ok (.if_icmp .ne 7, 3) := by decide +kernel
theorem dL_others_211 : decode cL_others 211 = .ok (.iconst 1, 1) := by decide +kernel
theorem dL_others_212 : decode cL_others 212 = .ok (.goto 4, 3) := by decide +kernel
theorem dL_others_215 : decode cL_others 215 = .ok (.iconst 0, 1) := by decide +kernel
theorem dL_others_216 : decode cL_others 216 = .ok (.ireturn, 1) := by decide +kernel
theorem dL_others_217 : decode cL_others 217 = .ok (.iload 7, 2) := by decide +kernel
theorem dL_others_219 : decode cL_others 219 = .ok (.iconst 2, 1) := by decide +kernel
theorem dL_others_220 : decode cL_others 220 = .ok (.if_icmp .ne 128, 3) := by decide +kernel
theorem dL_others_223 : decode cL_others 223 = .ok (.iload_n 2, 1) := by decide +kernel
theorem dL_others_224 : decode cL_others 224 = .ok (.iconst 3, 1) := by decide +kernel
theorem dL_others_225 : decode cL_others 225 = .ok (.ishr, 1) := by decide +kernel
theorem dL_others_226 : decode cL_others 226 = .ok (.bipush 8, 2) := by decide +kernel
theorem dL_others_228 : decode cL_others 228 = .ok (.invokestatic 66, 3) := by decide +kernel
theorem dL_others_231 : decode cL_others 231 = .ok (.istore 9, 2) := by decide +kernel
theorem dL_others_233 : decode cL_others 233 = .ok (.iconst 0, 1) := by decide +kernel
theorem dL_others_234 : decode cL_others 234 = .ok (.istore 10, 2) := by decide +kernel
theorem dL_others_236 : decode cL_others 236 = .ok (.iconst 0, 1) := by decide +kernel
theorem dL_others_237 : decode cL_others 237 = .ok (.istore 11, 2) := by decide +kernel
theorem dL_others_239 : decode cL_others 239 = .ok (.iload 11, 2) := by decide +kernel
theorem dL_others_241 : decode cL_others 241 = .ok (.bipush 12, 2) := by decide +kernel
theorem dL_others_243 : decode cL_others 243 = .ok (.if_icmp .ge 66, 3) := by decide +kernel
theorem dL_others_246 : decode cL_others 246 = .ok (.iload 10, 2) := by decide +kernel
theorem dL_others_248 : decode cL_others 248 = .ok (.aload 4, 2) := by decide +kernel
theorem dL_others_250 : decode cL_others 250 = .ok (.aload 5, 2) := by decide +kernel
theorem dL_others_252 : decode cL_others 252 = .ok (.iload 9, 2) := by decide +kernel
theorem dL_others_254 : decode cL_others 254 = .ok (.iload 11, 2) := by decide +kernel
theorem dL_others_256 : decode cL_others 256 = .ok (.invokestatic 9, 3) := by decide +kernel
theorem dL_others_259 : decode cL_others 259 = .ok (.aload 4, 2) := by decide +kernel
theorem dL_others_261 : decode cL_others 261 = .ok (.aload 5, 2) := by decide +kernel
theorem dL_others_263 : decode cL_others 263 = .ok (.iload 8, 2) := by decide +kernel
theorem dL_others_265 : decode cL_others 265 = .ok (.iload 11, 2) := by decide +kernel
theorem dL_others_267 : decode cL_others 267 = .ok (.invokestatic 9, 3) := by decide +kernel
theorem dL_others_270 : decode cL_others 270 = .ok (.if_icmp .eq 7, 3) := by decide +kernel
theorem dL_others_273 : decode cL_others 273 = .ok (.iconst 1, 1) := by decide +kernel
theorem dL_others_274 : decode cL_others 274 = .ok (.goto 4, 3) := by decide +kernel
theorem dL_others_277 : decode cL_others 277 = .ok (.iconst 0, 1) := by decide +kernel
theorem dL_others_278 : decode cL_others 278 = .ok (.iadd, 1) := by decide +kernel
theorem dL_others_279 : decode cL_others 279 = .ok (.istore 10, 2) := by decide +kernel
theorem dL_others_281 : decode cL_others 281 = .ok (.aload 4, 2) := by decide +kernel
theorem dL_others_283 : decode cL_others 283 = .ok (.aload 5, 2) := by decide +kernel
theorem dL_others_285 : decode cL_others 285 = .ok (.iload 8, 2) := by decide +kernel
theorem dL_others_287 : decode cL_others 287 = .ok (.iload 11, 2) := by decide +kernel
theorem dL_others_289 : decode cL_others 289 = .ok (.aload 4, 2) := by decide +kernel
theorem dL_others_291 : decode cL_others 291 = .ok (.aload 5, 2) := by decide +kernel
theorem dL_others_293 : decode cL_others 293 = .ok (.iload 9, 2) := by decide +kernel
theorem dL_others_295 : decode cL_others 295 = .ok (.iload 11, 2) := by decide +kernel
theorem dL_others_297 : decode cL_others 297 = .ok (.invokestatic 9, 3) := by decide +kernel
theorem dL_others_300 : decode cL_others 300 = .ok (.invokestatic 19, 3) := by decide +kernel
theorem dL_others_303 : decode cL_others 303 = .ok (.iinc 11 1, 3) := by decide +kernel
theorem dL_others_306 : decode cL_others 306 = .ok (.goto (-67), 3) := by decide +kernel
theorem dL_others_309 : decode cL_others 309 = .ok (.aload_n 0, 1) := by decide +kernel
theorem dL_others_310 : decode cL_others 310 = .ok (.iload 9, 2) := by decide +kernel
theorem dL_others_312 : decode cL_others 312 = .ok (.iload 8, 2) := by decide +kernel
theorem dL_others_314 : decode cL_others 314 = .ok (.invokevirtual 79, 3) := by decide +kernel
theorem dL_others_317 : decode cL_others 317 = .ok (.iload 10, 2) := by decide +kernel
theorem dL_others_319 : decode cL_others 319 = .ok (.ifCond .ne 8, 3) := by decide +kernel
theorem dL_others_322 : decode cL_others 322 = .ok (.bipush (-5), 2) := by decide +kernel
theorem dL_others_324 : decode cL_others 324 = .ok (.goto 5, 3) := by decide +kernel
theorem dL_others_327 : decode cL_others 327 = .ok (.iload 10, 2) := by decide +kernel
theorem dL_others_329 : decode cL_others 329 = .ok (.if_icmp .ne 17, 3) := by decide +kernel
theorem dL_others_332 : decode cL_others 332 = .ok (.aload_n 0, 1) := by decide +kernel
theorem dL_others_333 : decode cL_others 333 = .ok (.iconst (-1), 1) := by decide +kernel
theorem dL_others_334 : decode cL_others 334 = .ok (.iconst 0, 1) := by decide +kernel
theorem dL_others_335 : decode cL_others 335 = .ok (.invokevirtual 79, 3) := by decide +kernel
theorem dL_others_338 : decode cL_others 338 = .ok (.iconst (-1), 1) := by decide +kernel
theorem dL_others_339 : decode cL_others 339 = .ok (.if_icmp .ne 7, 3) := by decide +kernel
theorem dL_others_342 : decode cL_others 342 = .ok (.iconst 1, 1) := by decide +kernel
theorem dL_others_343 : decode cL_others 343 = .ok (.goto 4, 3) := by decide +kernel
theorem dL_others_346 : decode cL_others 346 = .ok (.iconst 0, 1) := by decide +kernel
theorem dL_others_347 : decode cL_others 347 = .ok (.ireturn, 1) := by decide +kernel
theorem dL_others_348 : decode cL_others 348 = .ok (.iload 7, 2) := by decide +kernel
theorem dL_others_350 : decode cL_others 350 = .ok (.iconst 3, 1) := by decide +kernel
theorem dL_others_351 : decode cL_others 351 = .ok (.if_icmp .ne 61, 3) := by decide +kernel
theorem dL_others_354 : decode cL_others 354 = .ok (.aload_n 3, 1) := by decide +kernel
theorem dL_others_355 : decode cL_others 355 = .ok (.bipush 12, 2) := by decide +kernel
theorem dL_others_357 : decode cL_others 357 = .ok (.iaload, 1) := by decide +kernel
theorem dL_others_358 : decode cL_others 358 = .ok (.istore 9, 2) := by decide +kernel
theorem dL_others_360 : decode cL_others 360 = .ok (.aload_n 3, 1) := by decide +kernel
theorem dL_others_361 : decode cL_others 361 = .ok (.bipush 12, 2) := by decide +kernel
theorem dL_others_363 : decode cL_others 363 = .ok (.iload_n 2, 1) := by decide +kernel
theorem dL_others_364 : decode cL_others 364 = .ok (.iconst 3, 1) := by decide +kernel
theorem dL_others_365 : decode cL_others 365 = .ok (.ishr, 1) := by decide +kernel
theorem dL_others_366 : decode cL_others 366 = .ok (.iconst 1, 1) := by decide +kernel
theorem dL_others_367 : decode cL_others 367 = .ok (.iand, 1) := by decide +kernel
theorem dL_others_368 : decode cL_others 368 = .ok (.iastore, 1) := by decide +kernel
theorem dL_others_369 : decode cL_others 369 = .ok (.aload_n 0, 1) := by decide +kernel
theorem dL_others_370 : decode cL_others 370 = .ok (.aload_n 3, 1) := by decide +kernel
theorem dL_others_371 : decode cL_others 371 = .ok (.bipush 12, 2) := by decide +kernel
theorem dL_others_373 : decode cL_others 373 = .ok (.iaload, 1) := by decide +kernel
theorem dL_others_374 : decode cL_others 374 = .ok (.invokevirtual 82, 3) := by decide +kernel
theorem dL_others_377 : decode cL_others 377 = .ok (.iload 9, 2) := by decide +kernel
theorem dL_others_379 : decode cL_others 379 = .ok (.aload_n 3, 1) := by decide +kernel
theorem dL_others_380 : decode cL_others 380 = .ok (.bipush 12, 2) := by decide +kernel
theorem dL_others_382 : decode cL_others 382 = .ok (.iaload, 1) := by decide +kernel
theorem dL_others_383 : decode cL_others 383 = .ok (.if_icmp .ne 8, 3) := by decide +kernel
theorem dL_others_386 : decode cL_others 386 = .ok (.bipush (-5), 2) := by decide +kernel
theorem dL_others_388 : decode cL_others 388 = .ok (.goto 5, 3) := by decide +kernel
theorem dL_others_391 : decode cL_others 391 = .ok (.iload 9, 2) := by decide +kernel
theorem dL_others_393 : decode cL_others 393 = .ok (.if_icmp .ne 17, 3) := by decide +kernel
theorem dL_others_396 : decode cL_others 396 = .ok (.aload_n 0, 1) := by decide +kernel
theorem dL_others_397 : decode cL_others 397 = .ok (.iconst 2, 1) := by decide +kernel
theorem dL_others_398 : decode cL_others 398 = .ok (.invokevirtual 82, 3) := by decide +kernel
theorem dL_others_401 : decode cL_others 401 = .ok (.bipush (-2), 2) := by decide +kernel
theorem dL_others_403 : decode cL_others 403 = .ok (.if_icmp .ne 7, 3) := by decide +kernel
theorem dL_others_406 : decode cL_others 406 = .ok (.iconst 1, 1) := by decide +kernel
theorem dL_others_407 : decode cL_others 407 = .ok (.goto 4, 3) := by decide +kernel
theorem dL_others_410 : decode cL_others 410 = .ok (.iconst 0, 1) := by decide +kernel
theorem dL_others_411 : decode cL_others 411 = .ok (.ireturn, 1) := by decide +kernel
theorem dL_others_412 : decode cL_others 412 = .ok (.iload 7, 2) := by decide +kernel
theorem dL_others_414 : decode cL_others 414 = .ok (.bipush 6, 2) := by decide +kernel
theorem dL_others_416 : decode cL_others 416 = .ok (.if_icmp .ge 65, 3) := by decide +kernel
theorem dL_others_419 : decode cL_others 419 = .ok (.aload_n 3, 1) := by decide +kernel
theorem dL_others_420 : decode cL_others 420 = .ok (.bipush 14, 2) := by decide +kernel
theorem dL_others_422 : decode cL_others 422 = .ok (.iaload, 1) := by decide +kernel
theorem dL_others_423 : decode cL_others 423 = .ok (.istore 9, 2) := by decide +kernel
theorem dL_others_425 : decode cL_others 425 = .ok (.aload_n 3, 1) := by decide +kernel
theorem dL_others_426 : decode cL_others 426 = .ok (.bipush 14, 2) := by decide +kernel
theorem dL_others_428 : decode cL_others 428 = .ok (.iload_n 2, 1) := by decide +kernel
theorem dL_others_429 : decode cL_others 429 = .ok (.iconst 3, 1) := by decide +kernel
theorem dL_others_430 : decode cL_others 430 = .ok (.ishr, 1) := by decide +kernel
theorem dL_others_431 : decode cL_others 431 = .ok (.bipush 64, 2) := by decide +kernel
theorem dL_others_433 : decode cL_others 433 = .ok (.invokestatic 66, 3) := by decide +kernel
theorem dL_others_436 : decode cL_others 436 = .ok (.iastore, 1) := by decide +kernel
theorem dL_others_437 : decode cL_others 437 = .ok (.aload_n 3, 1) := by decide +kernel
theorem dL_others_438 : decode cL_others 438 = .ok (.bipush 13, 2) := by decide +kernel
theorem dL_others_440 : decode cL_others 440 = .ok (.iconst 0, 1) := by decide +kernel
theorem dL_others_441 : decode cL_others 441 = .ok (.iastore, 1) := by decide +kernel
theorem dL_others_442 : decode cL_others 442 = .ok (.aload_n 3, 1) := by decide +kernel
theorem dL_others_443 : decode cL_others 443 = .ok (.bipush 15, 2) := by decide +kernel
theorem dL_others_445 : decode cL_others 445 = .ok (.iconst 0, 1) := by decide +kernel
theorem dL_others_446 : decode cL_others 446 = .ok (.iastore, 1) := by decide +kernel
theorem dL_others_447 : decode cL_others 447 = .ok (.aload 6, 2) := by decide +kernel
theorem dL_others_449 : decode cL_others 449 = .ok (.iconst 0, 1) := by decide +kernel
theorem dL_others_450 : decode cL_others 450 = .ok (.iconst 0, 1) := by decide +kernel
theorem dL_others_451 : decode cL_others 451 = .ok (.iastore, 1) := by decide +kernel
theorem dL_others_452 : decode cL_others 452 = .ok (.aload_n 0, 1) := by decide +kernel
theorem dL_others_453 : decode cL_others 453 = .ok (.aload_n 3, 1) := by decide +kernel
theorem dL_others_454 : decode cL_others 454 = .ok (.bipush 14, 2) := by decide +kernel
theorem dL_others_456 : decode cL_others 456 = .ok (.iaload, 1) := by decide +kernel
theorem dL_others_457 : decode cL_others 457 = .ok (.invokevirtual 85, 3) := by decide +kernel
theorem dL_others_460 : decode cL_others 460 = .ok (.iload 9, 2) := by decide +kernel
theorem dL_others_462 : decode cL_others 462 = .ok (.if_icmp .ne 17, 3) := by decide +kernel
theorem dL_others_465 : decode cL_others 465 = .ok (.aload_n 0, 1) := by decide +kernel
theorem dL_others_466 : decode cL_others 466 = .ok (.bipush 64, 2) := by decide +kernel
theorem dL_others_468 : decode cL_others 468 = .ok (.invokevirtual 85, 3) := by decide +kernel
theorem dL_others_471 : decode cL_others 471 = .ok (.iconst (-1), 1) := by decide +kernel
theorem dL_others_472 : decode cL_others 472 = .ok (.if_icmp .ne 7, 3) := by decide +kernel
theorem dL_others_475 : decode cL_others 475 = .ok (.iconst 1, 1) := by decide +kernel
theorem dL_others_476 : decode cL_others 476 = .ok (.goto 4, 3) := by decide +kernel
theorem dL_others_479 : decode cL_others 479 = .ok (.iconst 0, 1) := by decide +kernel
theorem dL_others_480 : decode cL_others 480 = .ok (.ireturn, 1) := by decide +kernel
theorem dL_others_481 : decode cL_others 481 = .ok (.iconst 1, 1) := by decide +kernel
