/-! decode rows of the law, as printed -/
theorem dL_isSeen_0 : decode cL_isSeen 0 = .ok (.bipush 40, 2) := by decide +kernel
theorem dL_isSeen_2 : decode cL_isSeen 2 = .ok (.newarray .int, 2) := by decide +kernel
theorem dL_isSeen_4 : decode cL_isSeen 4 = .ok (.astore 10, 2) := by decide +kernel
theorem dL_isSeen_6 : decode cL_isSeen 6 = .ok (.bipush 40, 2) := by decide +kernel
theorem dL_isSeen_8 : decode cL_isSeen 8 = .ok (.newarray .int, 2) := by decide +kernel
theorem dL_isSeen_10 : decode cL_isSeen 10 = .ok (.astore 11, 2) := by decide +kernel
theorem dL_isSeen_12 : decode cL_isSeen 12 = .ok (.bipush 40, 2) := by decide +kernel
theorem dL_isSeen_14 : decode cL_isSeen 14 = .ok (.newarray .int, 2) := by decide +kernel
theorem dL_isSeen_16 : decode cL_isSeen 16 = .ok (.astore 12, 2) := by decide +kernel
theorem dL_isSeen_18 : decode cL_isSeen 18 = .ok (.iload 9, 2) := by decide +kernel
theorem dL_isSeen_20 : decode cL_isSeen 20 = .ok (.iconst 5, 1) := by decide +kernel
theorem dL_isSeen_21 : decode cL_isSeen 21 = .ok (.irem, 1) := by decide +kernel
theorem dL_isSeen_22 : decode cL_isSeen 22 = .ok (.istore 13, 2) := by decide +kernel
theorem dL_isSeen_24 : decode cL_isSeen 24 = .ok (.aload_n 1, 1) := by decide +kernel
theorem dL_isSeen_25 : decode cL_isSeen 25 = .ok (.aload_n 2, 1) := by decide +kernel
theorem dL_isSeen_26 : decode cL_isSeen 26 = .ok (.aload_n 3, 1) := by decide +kernel
theorem dL_isSeen_27 : decode cL_isSeen 27 = .ok (.aload 4, 2) := by decide +kernel
theorem dL_isSeen_29 : decode cL_isSeen 29 = .ok (.aload 5, 2) := by decide +kernel
theorem dL_isSeen_31 : decode cL_isSeen 31 = .ok (.iload 13, 2) := by decide +kernel
theorem dL_isSeen_33 : decode cL_isSeen 33 = .ok (.aload 10, 2) := by decide +kernel
theorem dL_isSeen_35 : decode cL_isSeen 35 = .ok (.aload 11, 2) := by decide +kernel
theorem dL_isSeen_37 : decode cL_isSeen 37 = .ok (.aload 12, 2) := by decide +kernel
theorem dL_isSeen_39 : decode cL_isSeen 39 = .ok (.invokestatic 72, 3) := by decide +kernel
theorem dL_isSeen_42 : decode cL_isSeen 42 = .ok (.iconst 0, 1) := by decide +kernel
theorem dL_isSeen_43 : decode cL_isSeen 43 = .ok (.istore 14, 2) := by decide +kernel
theorem dL_isSeen_45 : decode cL_isSeen 45 = .ok (.iconst 0, 1) := by decide +kernel
theorem dL_isSeen_46 : decode cL_isSeen 46 = .ok (.istore 15, 2) := by decide +kernel
theorem dL_isSeen_48 : decode cL_isSeen 48 = .ok (.iload 15, 2) := by decide +kernel
theorem dL_isSeen_50 : decode cL_isSeen 50 = .ok (.aload_n 1, 1) := by decide +kernel
theorem dL_isSeen_51 : decode cL_isSeen 51 = .ok (.iconst 0, 1) := by decide +kernel
theorem dL_isSeen_52 : decode cL_isSeen 52 = .ok (.iaload, 1) := by decide +kernel
theorem dL_isSeen_53 : decode cL_isSeen 53 = .ok (.if_icmp .ge 24, 3) := by decide +kernel
theorem dL_isSeen_56 : decode cL_isSeen 56 = .ok (.iload 14, 2) := by decide +kernel
theorem dL_isSeen_58 : decode cL_isSeen 58 = .ok (.aload 4, 2) := by decide +kernel
theorem dL_isSeen_60 : decode cL_isSeen 60 = .ok (.iload 15, 2) := by decide +kernel
theorem dL_isSeen_62 : decode cL_isSeen 62 = .ok (.iaload, 1) := by decide +kernel
theorem dL_isSeen_63 : decode cL_isSeen 63 = .ok (.iload 13, 2) := by decide +kernel
theorem dL_isSeen_65 : decode cL_isSeen 65 = .ok (.ishr, 1) := by decide +kernel
theorem dL_isSeen_66 : decode cL_isSeen 66 = .ok (.iconst 1, 1) := by decide +kernel
theorem dL_isSeen_67 : decode cL_isSeen 67 = .ok (.iand, 1) := by decide +kernel
theorem dL_isSeen_68 : decode cL_isSeen 68 = .ok (.iadd, 1) := by decide +kernel
theorem dL_isSeen_69 : decode cL_isSeen 69 = .ok (.istore 14, 2) := by decide +kernel
theorem dL_isSeen_71 : decode cL_isSeen 71 = .ok (.iinc 15 1, 3) := by decide +kernel
theorem dL_isSeen_74 : decode cL_isSeen 74 = .ok (.goto (-26), 3) := by decide +kernel
theorem dL_isSeen_77 : decode cL_isSeen 77 = .ok (.iload 9, 2) := by decide +kernel
theorem dL_isSeen_79 : decode cL_isSeen 79 = .ok (.iconst 5, 1) := by decide +kernel
theorem dL_isSeen_80 : decode cL_isSeen 80 = .ok (.idiv, 1) := by decide +kernel
theorem dL_isSeen_81 : decode cL_isSeen 81 = .ok (.bipush 12, 2) := by decide +kernel
theorem dL_isSeen_83 : decode cL_isSeen 83 = .ok (.irem, 1) := by decide +kernel
theorem dL_isSeen_84 : decode cL_isSeen 84 = .ok (.istore 15, 2) := by decide +kernel
theorem dL_isSeen_86 : decode cL_isSeen 86 = .ok (.aload_n 0, 1) := by decide +kernel
theorem dL_isSeen_87 : decode cL_isSeen 87 = .ok (.invokevirtual 76, 3) := by decide +kernel
theorem dL_isSeen_90 : decode cL_isSeen 90 = .ok (.aload_n 1, 1) := by decide +kernel
theorem dL_isSeen_91 : decode cL_isSeen 91 = .ok (.iconst 0, 1) := by decide +kernel
theorem dL_isSeen_92 : decode cL_isSeen 92 = .ok (.iaload, 1) := by decide +kernel
theorem dL_isSeen_93 : decode cL_isSeen 93 = .ok (.if_icmp .ne 62, 3) := by decide +kernel
theorem dL_isSeen_96 : decode cL_isSeen 96 = .ok (.aload_n 0, 1) := by decide +kernel
theorem dL_isSeen_97 : decode cL_isSeen 97 = .ok (.invokevirtual 80, 3) := by decide +kernel
theorem dL_isSeen_100 : decode cL_isSeen 100 = .ok (.aload_n 1, 1) := by decide +kernel
theorem dL_isSeen_101 : decode cL_isSeen 101 = .ok (.iconst 1, 1) := by decide +kernel
theorem dL_isSeen_102 : decode cL_isSeen 102 = .ok (.iaload, 1) := by decide +kernel
theorem dL_isSeen_103 : decode cL_isSeen 103 = .ok (.if_icmp .ne 52, 3) := by decide +kernel
theorem dL_isSeen_106 : decode cL_isSeen 106 = .ok (.aload_n 0, 1) := by decide +kernel
theorem dL_isSeen_107 : decode cL_isSeen 107 = .ok (.iload 13, 2) := by decide +kernel
theorem dL_isSeen_109 : decode cL_isSeen 109 = .ok (.invokevirtual 83, 3) := by decide +kernel
theorem dL_isSeen_112 : decode cL_isSeen 112 = .ok (.iload 14, 2) := by decide +kernel
theorem dL_isSeen_114 : decode cL_isSeen 114 = .ok (.if_icmp .ne 41, 3) := by decide +kernel
theorem dL_isSeen_117 : decode cL_isSeen 117 = .ok (.aload_n 0, 1) := by decide +kernel
theorem dL_isSeen_118 : decode cL_isSeen 118 = .ok (.iload 13, 2) := by decide +kernel
theorem dL_isSeen_120 : decode cL_isSeen 120 = .ok (.invokevirtual 86, 3) := by decide +kernel
theorem dL_isSeen_123 : decode cL_isSeen 123 = .ok (.aload 6, 2) := by decide +kernel
theorem dL_isSeen_125 : decode cL_isSeen 125 = .ok (.iload 13, 2) := by decide +kernel
theorem dL_isSeen_127 : decode cL_isSeen 127 = .ok (.iaload, 1) := by decide +kernel
theorem dL_isSeen_128 : decode cL_isSeen 128 = .ok (.if_icmp .ne 27, 3) := by decide +kernel
theorem dL_isSeen_131 : decode cL_isSeen 131 = .ok (.aload_n 0, 1) := by decide +kernel
theorem dL_isSeen_132 : decode cL_isSeen 132 = .ok (.iload 13, 2) := by decide +kernel
theorem dL_isSeen_134 : decode cL_isSeen 134 = .ok (.iload 15, 2) := by decide +kernel
theorem dL_isSeen_136 : decode cL_isSeen 136 = .ok (.invokevirtual 89, 3) := by decide +kernel
theorem dL_isSeen_139 : decode cL_isSeen 139 = .ok (.aload 5, 2) := by decide +kernel
theorem dL_isSeen_141 : decode cL_isSeen 141 = .ok (.aload 12, 2) := by decide +kernel
theorem dL_isSeen_143 : decode cL_isSeen 143 = .ok (.iload 15, 2) := by decide +kernel
theorem dL_isSeen_145 : decode cL_isSeen 145 = .ok (.invokestatic 15, 3) := by decide +kernel
theorem dL_isSeen_148 : decode cL_isSeen 148 = .ok (.if_icmp .ne 7, 3) := by decide +kernel
theorem dL_isSeen_151 : decode cL_isSeen 151 = .ok (.iconst 1, 1) := by decide +kernel
theorem dL_isSeen_152 : decode cL_isSeen 152 = .ok (.goto 4, 3) := by decide +kernel
theorem dL_isSeen_155 : decode cL_isSeen 155 = .ok (.iconst 0, 1) := by decide +kernel
theorem dL_isSeen_156 : decode cL_isSeen 156 = .ok (.istore 16, 2) := by decide +kernel
theorem dL_isSeen_158 : decode cL_isSeen 158 = .ok (.iconst 0, 1) := by decide +kernel
theorem dL_isSeen_159 : decode cL_isSeen 159 = .ok (.istore 17, 2) := by decide +kernel
theorem dL_isSeen_161 : decode cL_isSeen 161 = .ok (.iload 17, 2) := by decide +kernel
theorem dL_isSeen_163 : decode cL_isSeen 163 = .ok (.bipush 40, 2) := by decide +kernel
theorem dL_isSeen_165 : decode cL_isSeen 165 = .ok (.if_icmp .ge 102, 3) := by decide +kernel
theorem dL_isSeen_168 : decode cL_isSeen 168 = .ok (.iload 16, 2) := by decide +kernel
theorem dL_isSeen_170 : decode cL_isSeen 170 = .ok (.ifCond .eq 97, 3) := by decide +kernel
theorem dL_isSeen_173 : decode cL_isSeen 173 = .ok (.aload_n 0, 1) := by decide +kernel
theorem dL_isSeen_174 : decode cL_isSeen 174 = .ok (.iload 13, 2) := by decide +kernel
theorem dL_isSeen_176 : decode cL_isSeen 176 = .ok (.iload 17, 2) := by decide +kernel
theorem dL_isSeen_178 : decode cL_isSeen 178 = .ok (.invokevirtual 91, 3) := by decide +kernel
theorem dL_isSeen_181 : decode cL_isSeen 181 = .ok (.aload 10, 2) := by decide +kernel
theorem dL_isSeen_183 : decode cL_isSeen 183 = .ok (.iload 17, 2) := by decide +kernel
theorem dL_isSeen_185 : decode cL_isSeen 185 = .ok (.iaload, 1) := by decide +kernel
theorem dL_isSeen_186 : decode cL_isSeen 186 = .ok (.iconst 1, 1) := by decide +kernel
theorem dL_isSeen_187 : decode cL_isSeen 187 = .ok (.isub, 1) := by decide +kernel
theorem dL_isSeen_188 : decode cL_isSeen 188 = .ok (.if_icmp .ne 70, 3) := by decide +kernel
theorem dL_isSeen_191 : decode cL_isSeen 191 = .ok (.iload 17, 2) := by decide +kernel
theorem dL_isSeen_193 : decode cL_isSeen 193 = .ok (.iconst 3, 1) := by decide +kernel
theorem dL_isSeen_194 : decode cL_isSeen 194 = .ok (.irem, 1) := by decide +kernel
theorem dL_isSeen_195 : decode cL_isSeen 195 = .ok (.iload 9, 2) := by decide +kernel
theorem dL_isSeen_197 : decode cL_isSeen 197 = .ok (.iconst 3, 1) := by decide +kernel
theorem dL_isSeen_198 : decode cL_isSeen 198 = .ok (.irem, 1) := by decide +kernel
theorem dL_isSeen_199 : decode cL_isSeen 199 = .ok (.if_icmp .ne 55, 3) := by decide +kernel
theorem dL_isSeen_202 : decode cL_isSeen 202 = .ok (.aload_n 0, 1) := by decide +kernel
theorem dL_isSeen_203 : decode cL_isSeen 203 = .ok (.iload 13, 2) := by decide +kernel
theorem dL_isSeen_205 : decode cL_isSeen 205 = .ok (.iload 17, 2) := by decide +kernel
theorem dL_isSeen_207 : decode cL_isSeen 207 = .ok (.invokevirtual 94, 3) := by decide +kernel
theorem dL_isSeen_210 : decode cL_isSeen 210 = .ok (.aload_n 1, 1) := by decide +kernel
theorem dL_isSeen_211 : decode cL_isSeen 211 = .ok (.aload 5, 2) := by decide +kernel
theorem dL_isSeen_213 : decode cL_isSeen 213 = .ok (.aload 8, 2) := by decide +kernel
theorem dL_isSeen_215 : decode cL_isSeen 215 = .ok (.aload 10, 2) := by decide +kernel
theorem dL_isSeen_217 : decode cL_isSeen 217 = .ok (.aload 11, 2) := by decide +kernel
theorem dL_isSeen_219 : decode cL_isSeen 219 = .ok (.aload 12, 2) := by decide +kernel
theorem dL_isSeen_221 : decode cL_isSeen 221 = .ok (.iload 17, 2) := by decide +kernel
theorem dL_isSeen_223 : decode cL_isSeen 223 = .ok (.invokestatic 37, 3) := by decide +kernel
theorem dL_isSeen_226 : decode cL_isSeen 226 = .ok (.if_icmp .ne 32, 3) := by decide +kernel
theorem dL_isSeen_229 : decode cL_isSeen 229 = .ok (.aload_n 0, 1) := by decide +kernel
theorem dL_isSeen_230 : decode cL_isSeen 230 = .ok (.iload 13, 2) := by decide +kernel
theorem dL_isSeen_232 : decode cL_isSeen 232 = .ok (.iload 17, 2) := by decide +kernel
theorem dL_isSeen_234 : decode cL_isSeen 234 = .ok (.invokevirtual 97, 3) := by decide +kernel
theorem dL_isSeen_237 : decode cL_isSeen 237 = .ok (.aload_n 1, 1) := by decide +kernel
theorem dL_isSeen_238 : decode cL_isSeen 238 = .ok (.aload_n 2, 1) := by decide +kernel
theorem dL_isSeen_239 : decode cL_isSeen 239 = .ok (.aload_n 3, 1) := by decide +kernel
theorem dL_isSeen_240 : decode cL_isSeen 240 = .ok (.aload 4, 2) := by decide +kernel
theorem dL_isSeen_242 : decode cL_isSeen 242 = .ok (.aload 10, 2) := by decide +kernel
theorem dL_isSeen_244 : decode cL_isSeen 244 = .ok (.iload 13, 2) := by decide +kernel
theorem dL_isSeen_246 : decode cL_isSeen 246 = .ok (.iload 17, 2) := by decide +kernel
theorem dL_isSeen_248 : decode cL_isSeen 248 = .ok (.invokestatic 100, 3) := by decide +kernel
theorem dL_isSeen_251 : decode cL_isSeen 251 = .ok (.if_icmp .ne 7, 3) := by decide +kernel
theorem dL_isSeen_254 : decode cL_isSeen 254 = .ok (.iconst 1, 1) := by decide +kernel
theorem dL_isSeen_255 : decode cL_isSeen 255 = .ok (.goto 4, 3) := by decide +kernel
theorem dL_isSeen_258 : decode cL_isSeen 258 = .ok (.iconst 0, 1) := by decide +kernel
theorem dL_isSeen_259 : decode cL_isSeen 259 = .ok (.istore 16, 2) := by decide +kernel
theorem dL_isSeen_261 : decode cL_isSeen 261 = .ok (.iinc 17 1, 3) := by decide +kernel
theorem dL_isSeen_264 : decode cL_isSeen 264 = .ok (.goto (-103), 3) := by decide +kernel
theorem dL_isSeen_267 : decode cL_isSeen 267 = .ok (.iconst 0, 1) := by decide +kernel
theorem dL_isSeen_268 : decode cL_isSeen 268 = .ok (.istore 17, 2) := by decide +kernel
theorem dL_isSeen_270 : decode cL_isSeen 270 = .ok (.iload 17, 2) := by decide +kernel
theorem dL_isSeen_272 : decode cL_isSeen 272 = .ok (.bipush 8, 2) := by decide +kernel
theorem dL_isSeen_274 : decode cL_isSeen 274 = .ok (.if_icmp .ge 154, 3) := by decide +kernel
theorem dL_isSeen_277 : decode cL_isSeen 277 = .ok (.iload 16, 2) := by decide +kernel
theorem dL_isSeen_279 : decode cL_isSeen 279 = .ok (.ifCond .eq 149, 3) := by decide +kernel
theorem dL_isSeen_282 : decode cL_isSeen 282 = .ok (.iconst 0, 1) := by decide +kernel
theorem dL_isSeen_283 : decode cL_isSeen 283 = .ok (.istore 18, 2) := by decide +kernel
theorem dL_isSeen_285 : decode cL_isSeen 285 = .ok (.iconst 0, 1) := by decide +kernel
theorem dL_isSeen_286 : decode cL_isSeen 286 = .ok (.istore 19, 2) := by decide +kernel
theorem dL_isSeen_288 : decode cL_isSeen 288 = .ok (.iload 17, 2) := by decide +kernel
theorem dL_isSeen_290 : decode cL_isSeen 290 = .ok (.istore 20, 2) := by decide +kernel
theorem dL_isSeen_292 : decode cL_isSeen 292 = .ok (.iload 20, 2) := by decide +kernel
theorem dL_isSeen_294 : decode cL_isSeen 294 = .ok (.bipush 40, 2) := by decide +kernel
theorem dL_isSeen_296 : decode cL_isSeen 296 = .ok (.if_icmp .ge 27, 3) := by decide +kernel
theorem dL_isSeen_299 : decode cL_isSeen 299 = .ok (.iload 18, 2) := by decide +kernel
theorem dL_isSeen_301 : decode cL_isSeen 301 = .ok (.aload 10, 2) := by decide +kernel
theorem dL_isSeen_303 : decode cL_isSeen 303 = .ok (.iload 20, 2) := by decide +kernel
theorem dL_isSeen_305 : decode cL_isSeen 305 = .ok (.iaload, 1) := by decide +kernel
theorem dL_isSeen_306 : decode cL_isSeen 306 = .ok (.ifCond .le 7, 3) := by decide +kernel
theorem dL_isSeen_309 : decode cL_isSeen 309 = .ok (.iconst 1, 1) := by decide +kernel
theorem dL_isSeen_310 : decode cL_isSeen 310 = .ok (.goto 4, 3) := by decide +kernel
theorem dL_isSeen_313 : decode cL_isSeen 313 = .ok (.iconst 0, 1) := by decide +kernel
theorem dL_isSeen_314 : decode cL_isSeen 314 = .ok (.iadd, 1) := by decide +kernel
theorem dL_isSeen_315 : decode cL_isSeen 315 = .ok (.istore 18, 2) := by decide +kernel
theorem dL_isSeen_317 : decode cL_isSeen 317 = .ok (.iinc 20 8, 3) := by decide +kernel
theorem dL_isSeen_320 : decode cL_isSeen 320 = .ok (.goto (-28), 3) := by decide +kernel
theorem dL_isSeen_323 : decode cL_isSeen 323 = .ok (.iconst 0, 1) := by decide +kernel
theorem dL_isSeen_324 : decode cL_isSeen 324 = .ok (.istore 20, 2) := by decide +kernel
theorem dL_isSeen_326 : decode cL_isSeen 326 = .ok (.iload 20, 2) := by decide +kernel
theorem dL_isSeen_328 : decode cL_isSeen 328 = .ok (.aload_n 1, 1) := by decide +kernel
theorem dL_isSeen_329 : decode cL_isSeen 329 = .ok (.iconst 1, 1) := by decide +kernel
theorem dL_isSeen_330 : decode cL_isSeen 330 = .ok (.iaload, 1) := by decide +kernel
theorem dL_isSeen_331 : decode cL_isSeen 331 = .ok (.if_icmp .ge 44, 3) := by decide +kernel
theorem dL_isSeen_334 : decode cL_isSeen 334 = .ok (.iload 19, 2) := by decide +kernel
theorem dL_isSeen_336 : decode cL_isSeen 336 = .ok (.aload 12, 2) := by decide +kernel
theorem dL_isSeen_338 : decode cL_isSeen 338 = .ok (.iload 20, 2) := by decide +kernel
theorem dL_isSeen_340 : decode cL_isSeen 340 = .ok (.invokestatic 29, 3) := by decide +kernel
theorem dL_isSeen_343 : decode cL_isSeen 343 = .ok (.ifCond .eq 22, 3) := by decide +kernel
theorem dL_isSeen_346 : decode cL_isSeen 346 = .ok (.aload 7, 2) := by decide +kernel
theorem dL_isSeen_348 : decode cL_isSeen 348 = .ok (.bipush 8, 2) := by decide +kernel
theorem dL_isSeen_350 : decode cL_isSeen 350 = .ok (.aload 8, 2) := by decide +kernel
theorem dL_isSeen_352 : decode cL_isSeen 352 = .ok (.iconst 2, 1) := by decide +kernel
theorem dL_isSeen_353 : decode cL_isSeen 353 = .ok (.iload 20, 2) := by decide +kernel
theorem dL_isSeen_355 : decode cL_isSeen 355 = .ok (.imul, 1) := by decide +kernel
theorem dL_isSeen_356 : decode cL_isSeen 356 = .ok (.iaload, 1) := by decide +kernel
theorem dL_isSeen_357 : decode cL_isSeen 357 = .ok (.imul, 1) := by decide +kernel
theorem dL_isSeen_358 : decode cL_isSeen 358 = .ok (.iload 17, 2) := by decide +kernel
theorem dL_isSeen_360 : decode cL_isSeen 360 = .ok (.iadd, 1) := by decide +kernel
theorem dL_isSeen_361 : decode cL_isSeen 361 = .ok (.iaload, 1) := by decide +kernel
theorem dL_isSeen_362 : decode cL_isSeen 362 = .ok (.goto 4, 3) := by decide +kernel
theorem dL_isSeen_365 : decode cL_isSeen 365 = .ok (.iconst 0, 1) := by decide +kernel
theorem dL_isSeen_366 : decode cL_isSeen 366 = .ok (.iadd, 1) := by decide +kernel
theorem dL_isSeen_367 : decode cL_isSeen 367 = .ok (.istore 19, 2) := by decide +kernel
theorem dL_isSeen_369 : decode cL_isSeen 369 = .ok (.iinc 20 1, 3) := by decide +kernel
theorem dL_isSeen_372 : decode cL_isSeen 372 = .ok (.goto (-46), 3) := by decide +kernel
theorem dL_isSeen_375 : decode cL_isSeen 375 = .ok (.aload_n 0, 1) := by decide +kernel
theorem dL_isSeen_376 : decode cL_isSeen 376 = .ok (.iload 13, 2) := by decide +kernel
theorem dL_isSeen_378 : decode cL_isSeen 378 = .ok (.iload 17, 2) := by decide +kernel
theorem dL_isSeen_380 : decode cL_isSeen 380 = .ok (.invokevirtual 103, 3) := by decide +kernel
theorem dL_isSeen_383 : decode cL_isSeen 383 = .ok (.iload 18, 2) := by decide +kernel
theorem dL_isSeen_385 : decode cL_isSeen 385 = .ok (.if_icmp .ne 34, 3) := by decide +kernel
theorem dL_isSeen_388 : decode cL_isSeen 388 = .ok (.aload_n 0, 1) := by decide +kernel
theorem dL_isSeen_389 : decode cL_isSeen 389 = .ok (.iload 13, 2) := by decide +kernel
theorem dL_isSeen_391 : decode cL_isSeen 391 = .ok (.iload 17, 2) := by decide +kernel
theorem dL_isSeen_393 : decode cL_isSeen 393 = .ok (.invokevirtual 106, 3) := by decide +kernel
theorem dL_isSeen_396 : decode cL_isSeen 396 = .ok (.iload 19, 2) := by decide +kernel
theorem dL_isSeen_398 : decode cL_isSeen 398 = .ok (.iload 18, 2) := by decide +kernel
theorem dL_isSeen_400 : decode cL_isSeen 400 = .ok (.if_icmp .le 11, 3) := by decide +kernel
theorem dL_isSeen_403 : decode cL_isSeen 403 = .ok (.iload 19, 2) := by decide +kernel
theorem dL_isSeen_405 : decode cL_isSeen 405 = .ok (.iload 18, 2) := by decide +kernel
theorem dL_isSeen_407 : decode cL_isSeen 407 = .ok (.isub, 1) := by decide +kernel
theorem dL_isSeen_408 : decode cL_isSeen 408 = .ok (.goto 4, 3) := by decide +kernel
theorem dL_isSeen_411 : decode cL_isSeen 411 = .ok (.iconst 0, 1) := by decide +kernel
theorem dL_isSeen_412 : decode cL_isSeen 412 = .ok (.if_icmp .ne 7, 3) := by decide +kernel
theorem dL_isSeen_415 : decode cL_isSeen 415 = .ok (.iconst 1, 1) := by decide +kernel
theorem dL_isSeen_416 : decode cL_isSeen 416 = .ok (.goto 4, 3) := by decide +kernel
theorem dL_isSeen_419 : decode cL_isSeen 419 = .ok (.iconst 0, 1) := by decide +kernel
theorem dL_isSeen_420 : decode cL_isSeen 420 = .ok (.istore 16, 2) := by decide +kernel
theorem dL_isSeen_422 : decode cL_isSeen 422 = .ok (.iinc 17 1, 3) := by decide +kernel
theorem dL_isSeen_425 : decode cL_isSeen 425 = .ok (.goto (-155), 3) := by decide +kernel
theorem dL_isSeen_428 : decode cL_isSeen 428 = .ok (.iconst 0, 1) := by decide +kernel
theorem dL_isSeen_429 : decode cL_isSeen 429 = .ok (.istore 17, 2) := by decide +kernel
theorem dL_isSeen_431 : decode cL_isSeen 431 = .ok (.iload 17, 2) := by decide +kernel
theorem dL_isSeen_433 : decode cL_isSeen 433 = .ok (.aload_n 1, 1) := by decide +kernel
theorem dL_isSeen_434 : decode cL_isSeen 434 = .ok (.iconst 1, 1) := by decide +kernel
theorem dL_isSeen_435 : decode cL_isSeen 435 = .ok (.iaload, 1) := by decide +kernel
theorem dL_isSeen_436 : decode cL_isSeen 436 = .ok (.if_icmp .ge 219, 3) := by decide +kernel
theorem dL_isSeen_439 : decode cL_isSeen 439 = .ok (.iload 16, 2) := by decide +kernel
theorem dL_isSeen_441 : decode cL_isSeen 441 = .ok (.ifCond .eq 214, 3) := by decide +kernel
theorem dL_isSeen_444 : decode cL_isSeen 444 = .ok (.aload 12, 2) := by decide +kernel
theorem dL_isSeen_446 : decode cL_isSeen 446 = .ok (.bipush 8, 2) := by decide +kernel
theorem dL_isSeen_448 : decode cL_isSeen 448 = .ok (.iaload, 1) := by decide +kernel
theorem dL_isSeen_449 : decode cL_isSeen 449 = .ok (.iload 17, 2) := by decide +kernel
theorem dL_isSeen_451 : decode cL_isSeen 451 = .ok (.ishr, 1) := by decide +kernel
theorem dL_isSeen_452 : decode cL_isSeen 452 = .ok (.iconst 1, 1) := by decide +kernel
theorem dL_isSeen_453 : decode cL_isSeen 453 = .ok (.iand, 1) := by decide +kernel
theorem dL_isSeen_454 : decode cL_isSeen 454 = .ok (.ifCond .ne 7, 3) := by decide +kernel
theorem dL_isSeen_457 : decode cL_isSeen 457 = .ok (.iconst 0, 1) := by decide +kernel
theorem dL_isSeen_458 : decode cL_isSeen 458 = .ok (.goto 40, 3) := by decide +kernel
theorem dL_isSeen_461 : decode cL_isSeen 461 = .ok (.aload 12, 2) := by decide +kernel
theorem dL_isSeen_463 : decode cL_isSeen 463 = .ok (.bipush 10, 2) := by decide +kernel
theorem dL_isSeen_465 : decode cL_isSeen 465 = .ok (.iaload, 1) := by decide +kernel
theorem dL_isSeen_466 : decode cL_isSeen 466 = .ok (.iload 17, 2) := by decide +kernel
theorem dL_isSeen_468 : decode cL_isSeen 468 = .ok (.ishr, 1) := by decide +kernel
theorem dL_isSeen_469 : decode cL_isSeen 469 = .ok (.iconst 1, 1) := by decide +kernel
theorem dL_isSeen_470 : decode cL_isSeen 470 = .ok (.iand, 1) := by decide +kernel
theorem dL_isSeen_471 : decode cL_isSeen 471 = .ok (.iconst 1, 1) := by decide +kernel
theorem dL_isSeen_472 : decode cL_isSeen 472 = .ok (.if_icmp .ne 7, 3) := by decide +kernel
theorem dL_isSeen_475 : decode cL_isSeen 475 = .ok (.iconst 3, 1) := by decide +kernel
theorem dL_isSeen_476 : decode cL_isSeen 476 = .ok (.goto 22, 3) := by decide +kernel
theorem dL_isSeen_479 : decode cL_isSeen 479 = .ok (.aload 12, 2) := by decide +kernel
theorem dL_isSeen_481 : decode cL_isSeen 481 = .ok (.bipush 9, 2) := by decide +kernel
theorem dL_isSeen_483 : decode cL_isSeen 483 = .ok (.iaload, 1) := by decide +kernel
theorem dL_isSeen_484 : decode cL_isSeen 484 = .ok (.iload 17, 2) := by decide +kernel
theorem dL_isSeen_486 : decode cL_isSeen 486 = .ok (.ishr, 1) := by decide +kernel
theorem dL_isSeen_487 : decode cL_isSeen 487 = .ok (.iconst 1, 1) := by decide +kernel
theorem dL_isSeen_488 : decode cL_isSeen 488 = .ok (.iand, 1) := by decide +kernel
theorem dL_isSeen_489 : decode cL_isSeen 489 = .ok (.iconst 1, 1) := by decide +kernel
theorem dL_isSeen_490 : decode cL_isSeen 490 = .ok (.if_icmp .ne 7, 3) := by decide +kernel
theorem dL_isSeen_493 : decode cL_isSeen 493 = .ok (.iconst 2, 1) := by decide +kernel
theorem dL_isSeen_494 : decode cL_isSeen 494 = .ok (.goto 4, 3) := by decide +kernel
theorem dL_isSeen_497 : decode cL_isSeen 497 = .ok (.iconst 1, 1) := by decide +kernel
theorem dL_isSeen_498 : decode cL_isSeen 498 = .ok (.istore 18, 2) := by decide +kernel
theorem dL_isSeen_500 : decode cL_isSeen 500 = .ok (.iload 9, 2) := by decide +kernel
theorem dL_isSeen_502 : decode cL_isSeen 502 = .ok (.iload 17, 2) := by decide +kernel
theorem dL_isSeen_504 : decode cL_isSeen 504 = .ok (.iadd, 1) := by decide +kernel
theorem dL_isSeen_505 : decode cL_isSeen 505 = .ok (.bipush 8, 2) := by decide +kernel
theorem dL_isSeen_507 : decode cL_isSeen 507 = .ok (.irem, 1) := by decide +kernel
theorem dL_isSeen_508 : decode cL_isSeen 508 = .ok (.istore 19, 2) := by decide +kernel
theorem dL_isSeen_510 : decode cL_isSeen 510 = .ok (.aload_n 0, 1) := by decide +kernel
theorem dL_isSeen_511 : decode cL_isSeen 511 = .ok (.iload 13, 2) := by decide +kernel
theorem dL_isSeen_513 : decode cL_isSeen 513 = .ok (.iload 17, 2) := by decide +kernel
theorem dL_isSeen_515 : decode cL_isSeen 515 = .ok (.invokevirtual 109, 3) := by decide +kernel
theorem dL_isSeen_518 : decode cL_isSeen 518 = .ok (.iload 18, 2) := by decide +kernel
theorem dL_isSeen_520 : decode cL_isSeen 520 = .ok (.if_icmp .ne 126, 3) := by decide +kernel
theorem dL_isSeen_523 : decode cL_isSeen 523 = .ok (.aload_n 0, 1) := by decide +kernel
theorem dL_isSeen_524 : decode cL_isSeen 524 = .ok (.iload 13, 2) := by decide +kernel
theorem dL_isSeen_526 : decode cL_isSeen 526 = .ok (.iload 17, 2) := by decide +kernel
theorem dL_isSeen_528 : decode cL_isSeen 528 = .ok (.iload 19, 2) := by decide +kernel
theorem dL_isSeen_530 : decode cL_isSeen 530 = .ok (.invokevirtual 112, 3) := by decide +kernel
theorem dL_isSeen_533 : decode cL_isSeen 533 = .ok (.aload_n 1, 1) := by decide +kernel
theorem dL_isSeen_534 : decode cL_isSeen 534 = .ok (.aload 5, 2) := by decide +kernel
theorem dL_isSeen_536 : decode cL_isSeen 536 = .ok (.aload 7, 2) := by decide +kernel
theorem dL_isSeen_538 : decode cL_isSeen 538 = .ok (.aload 8, 2) := by decide +kernel
theorem dL_isSeen_540 : decode cL_isSeen 540 = .ok (.aload 10, 2) := by decide +kernel
theorem dL_isSeen_542 : decode cL_isSeen 542 = .ok (.aload 11, 2) := by decide +kernel
theorem dL_isSeen_544 : decode cL_isSeen 544 = .ok (.aload 12, 2) := by decide +kernel
theorem dL_isSeen_546 : decode cL_isSeen 546 = .ok (.iload 17, 2) := by decide +kernel
theorem dL_isSeen_548 : decode cL_isSeen 548 = .ok (.iload 19, 2) := by decide +kernel
theorem dL_isSeen_550 : decode cL_isSeen 550 = .ok (.invokestatic 115, 3) := by decide +kernel
theorem dL_isSeen_553 : decode cL_isSeen 553 = .ok (.if_icmp .ne 93, 3) := by decide +kernel
theorem dL_isSeen_556 : decode cL_isSeen 556 = .ok (.aload_n 0, 1) := by decide +kernel
theorem dL_isSeen_557 : decode cL_isSeen 557 = .ok (.iload 13, 2) := by decide +kernel
theorem dL_isSeen_559 : decode cL_isSeen 559 = .ok (.iload 17, 2) := by decide +kernel
theorem dL_isSeen_561 : decode cL_isSeen 561 = .ok (.invokevirtual 118, 3) := by decide +kernel
theorem dL_isSeen_564 : decode cL_isSeen 564 = .ok (.iload 18, 2) := by decide +kernel
theorem dL_isSeen_566 : decode cL_isSeen 566 = .ok (.iconst 1, 1) := by decide +kernel
theorem dL_isSeen_567 : decode cL_isSeen 567 = .ok (.if_icmp .ne 35, 3) := by decide +kernel
theorem dL_isSeen_570 : decode cL_isSeen 570 = .ok (.aload 5, 2) := by decide +kernel
theorem dL_isSeen_572 : decode cL_isSeen 572 = .ok (.aload 7, 2) := by decide +kernel
theorem dL_isSeen_574 : decode cL_isSeen 574 = .ok (.aload 12, 2) := by decide +kernel
theorem dL_isSeen_576 : decode cL_isSeen 576 = .ok (.aload 8, 2) := by decide +kernel
theorem dL_isSeen_578 : decode cL_isSeen 578 = .ok (.iconst 2, 1) := by decide +kernel
theorem dL_isSeen_579 : decode cL_isSeen 579 = .ok (.iload 17, 2) := by decide +kernel
theorem dL_isSeen_581 : decode cL_isSeen 581 = .ok (.imul, 1) := by decide +kernel
theorem dL_isSeen_582 : decode cL_isSeen 582 = .ok (.iaload, 1) := by decide +kernel
theorem dL_isSeen_583 : decode cL_isSeen 583 = .ok (.aload 8, 2) := by decide +kernel
theorem dL_isSeen_585 : decode cL_isSeen 585 = .ok (.iconst 2, 1) := by decide +kernel
theorem dL_isSeen_586 : decode cL_isSeen 586 = .ok (.iload 17, 2) := by decide +kernel
theorem dL_isSeen_588 : decode cL_isSeen 588 = .ok (.imul, 1) := by decide +kernel
theorem dL_isSeen_589 : decode cL_isSeen 589 = .ok (.iconst 1, 1) := by decide +kernel
theorem dL_isSeen_590 : decode cL_isSeen 590 = .ok (.iadd, 1) := by decide +kernel
theorem dL_isSeen_591 : decode cL_isSeen 591 = .ok (.iaload, 1) := by decide +kernel
theorem dL_isSeen_592 : decode cL_isSeen 592 = .ok (.invokestatic 122, 3) := by decide +kernel
theorem dL_isSeen_595 : decode cL_isSeen 595 = .ok (.ifCond .eq 7, 3) := by decide +kernel
theorem dL_isSeen_598 : decode cL_isSeen 598 = .ok (.iconst 1, 1) := by decide +kernel
theorem dL_isSeen_599 : decode cL_isSeen 599 = .ok (.goto 4, 3) := by decide +kernel
theorem dL_isSeen_602 : decode cL_isSeen 602 = .ok (.iconst 0, 1) := by decide +kernel
theorem dL_isSeen_603 : decode cL_isSeen 603 = .ok (.if_icmp .ne 43, 3) := by decide +kernel
theorem dL_isSeen_606 : decode cL_isSeen 606 = .ok (.aload_n 0, 1) := by decide +kernel
theorem dL_isSeen_607 : decode cL_isSeen 607 = .ok (.iload 13, 2) := by decide +kernel
theorem dL_isSeen_609 : decode cL_isSeen 609 = .ok (.iload 17, 2) := by decide +kernel
theorem dL_isSeen_611 : decode cL_isSeen 611 = .ok (.invokevirtual 126, 3) := by decide +kernel
theorem dL_isSeen_614 : decode cL_isSeen 614 = .ok (.iload 18, 2) := by decide +kernel
theorem dL_isSeen_616 : decode cL_isSeen 616 = .ok (.iconst 3, 1) := by decide +kernel
theorem dL_isSeen_617 : decode cL_isSeen 617 = .ok (.if_icmp .ne 21, 3) := by decide +kernel
theorem dL_isSeen_620 : decode cL_isSeen 620 = .ok (.aload 12, 2) := by decide +kernel
theorem dL_isSeen_622 : decode cL_isSeen 622 = .ok (.bipush 11, 2) := by decide +kernel
theorem dL_isSeen_624 : decode cL_isSeen 624 = .ok (.iaload, 1) := by decide +kernel
theorem dL_isSeen_625 : decode cL_isSeen 625 = .ok (.iload 17, 2) := by decide +kernel
theorem dL_isSeen_627 : decode cL_isSeen 627 = .ok (.ishr, 1) := by decide +kernel
theorem dL_isSeen_628 : decode cL_isSeen 628 = .ok (.iconst 1, 1) := by decide +kernel
theorem dL_isSeen_629 : decode cL_isSeen 629 = .ok (.iand, 1) := by decide +kernel
theorem dL_isSeen_630 : decode cL_isSeen 630 = .ok (.iconst 1, 1) := by decide +kernel
theorem dL_isSeen_631 : decode cL_isSeen 631 = .ok (.if_icmp .ne 7, 3) := by decide +kernel
theorem dL_isSeen_634 : decode cL_isSeen 634 = .ok (.iconst 1, 1) := by decide +kernel
theorem dL_isSeen_635 : decode cL_isSeen 635 = .ok (.goto 4, 3) := by decide +kernel
theorem dL_isSeen_638 : decode cL_isSeen 638 = .ok (.iconst 0, 1) := by decide +kernel
theorem dL_isSeen_639 : decode cL_isSeen 639 = .ok (.if_icmp .ne 7, 3) := by decide +kernel
theorem dL_isSeen_642 : decode cL_isSeen 642 = .ok (.iconst 1, 1) := by decide +kernel
theorem dL_isSeen_643 : decode cL_isSeen 643 = .ok (.goto 4, 3) := by decide +kernel
theorem dL_isSeen_646 : decode cL_isSeen 646 = .ok (.iconst 0, 1) := by decide +kernel
theorem dL_isSeen_647 : decode cL_isSeen 647 = .ok (.istore 16, 2) := by decide +kernel
theorem dL_isSeen_649 : decode cL_isSeen 649 = .ok (.iinc 17 1, 3) := by decide +kernel
theorem dL_isSeen_652 : decode cL_isSeen 652 = .ok (.goto (-221), 3) := by decide +kernel
theorem dL_isSeen_655 : decode cL_isSeen 655 = .ok (.aload_n 1, 1) := by decide +kernel
theorem dL_isSeen_656 : decode cL_isSeen 656 = .ok (.aload_n 2, 1) := by decide +kernel
theorem dL_isSeen_657 : decode cL_isSeen 657 = .ok (.aload_n 3, 1) := by decide +kernel
theorem dL_isSeen_658 : decode cL_isSeen 658 = .ok (.aload 4, 2) := by decide +kernel
theorem dL_isSeen_660 : decode cL_isSeen 660 = .ok (.aload 5, 2) := by decide +kernel
theorem dL_isSeen_662 : decode cL_isSeen 662 = .ok (.iconst 5, 1) := by decide +kernel
theorem dL_isSeen_663 : decode cL_isSeen 663 = .ok (.aload 10, 2) := by decide +kernel
theorem dL_isSeen_665 : decode cL_isSeen 665 = .ok (.aload 11, 2) := by decide +kernel
theorem dL_isSeen_667 : decode cL_isSeen 667 = .ok (.aload 12, 2) := by decide +kernel
theorem dL_isSeen_669 : decode cL_isSeen 669 = .ok (.invokestatic 72, 3) := by decide +kernel
theorem dL_isSeen_672 : decode cL_isSeen 672 = .ok (.iload 9, 2) := by decide +kernel
theorem dL_isSeen_674 : decode cL_isSeen 674 = .ok (.iconst 4, 1) := by decide +kernel
theorem dL_isSeen_675 : decode cL_isSeen 675 = .ok (.irem, 1) := by decide +kernel
theorem dL_isSeen_676 : decode cL_isSeen 676 = .ok (.istore 17, 2) := by decide +kernel
theorem dL_isSeen_678 : decode cL_isSeen 678 = .ok (.iload 17, 2) := by decide +kernel
theorem dL_isSeen_680 : decode cL_isSeen 680 = .ok (.bipush 40, 2) := by decide +kernel
theorem dL_isSeen_682 : decode cL_isSeen 682 = .ok (.if_icmp .ge 62, 3) := by decide +kernel
theorem dL_isSeen_685 : decode cL_isSeen 685 = .ok (.iload 16, 2) := by decide +kernel
theorem dL_isSeen_687 : decode cL_isSeen 687 = .ok (.ifCond .eq 57, 3) := by decide +kernel
theorem dL_isSeen_690 : decode cL_isSeen 690 = .ok (.aload_n 0, 1) := by decide +kernel
theorem dL_isSeen_691 : decode cL_isSeen 691 = .ok (.iload 17, 2) := by decide +kernel
theorem dL_isSeen_693 : decode cL_isSeen 693 = .ok (.invokevirtual 129, 3) := by decide +kernel
theorem dL_isSeen_696 : decode cL_isSeen 696 = .ok (.aload 10, 2) := by decide +kernel
theorem dL_isSeen_698 : decode cL_isSeen 698 = .ok (.iload 17, 2) := by decide +kernel
theorem dL_isSeen_700 : decode cL_isSeen 700 = .ok (.iaload, 1) := by decide +kernel
theorem dL_isSeen_701 : decode cL_isSeen 701 = .ok (.iconst 1, 1) := by decide +kernel
theorem dL_isSeen_702 : decode cL_isSeen 702 = .ok (.isub, 1) := by decide +kernel
theorem dL_isSeen_703 : decode cL_isSeen 703 = .ok (.if_icmp .ne 32, 3) := by decide +kernel
theorem dL_isSeen_706 : decode cL_isSeen 706 = .ok (.aload_n 0, 1) := by decide +kernel
theorem dL_isSeen_707 : decode cL_isSeen 707 = .ok (.iload 17, 2) := by decide +kernel
theorem dL_isSeen_709 : decode cL_isSeen 709 = .ok (.invokevirtual 132, 3) := by decide +kernel
theorem dL_isSeen_712 : decode cL_isSeen 712 = .ok (.aload_n 1, 1) := by decide +kernel
theorem dL_isSeen_713 : decode cL_isSeen 713 = .ok (.aload 5, 2) := by decide +kernel
theorem dL_isSeen_715 : decode cL_isSeen 715 = .ok (.aload 8, 2) := by decide +kernel
theorem dL_isSeen_717 : decode cL_isSeen 717 = .ok (.aload 10, 2) := by decide +kernel
theorem dL_isSeen_719 : decode cL_isSeen 719 = .ok (.aload 11, 2) := by decide +kernel
theorem dL_isSeen_721 : decode cL_isSeen 721 = .ok (.aload 12, 2) := by decide +kernel
theorem dL_isSeen_723 : decode cL_isSeen 723 = .ok (.iload 17, 2) := by decide +kernel
theorem dL_isSeen_725 : decode cL_isSeen 725 = .ok (.invokestatic 37, 3) := by decide +kernel
theorem dL_isSeen_728 : decode cL_isSeen 728 = .ok (.if_icmp .ne 7, 3) := by decide +kernel
theorem dL_isSeen_731 : decode cL_isSeen 731 = .ok (.iconst 1, 1) := by decide +kernel
theorem dL_isSeen_732 : decode cL_isSeen 732 = .ok (.goto 4, 3) := by decide +kernel
theorem dL_isSeen_735 : decode cL_isSeen 735 = .ok (.iconst 0, 1) := by decide +kernel
theorem dL_isSeen_736 : decode cL_isSeen 736 = .ok (.istore 16, 2) := by decide +kernel
theorem dL_isSeen_738 : decode cL_isSeen 738 = .ok (.iinc 17 4, 3) := by decide +kernel
theorem dL_isSeen_741 : decode cL_isSeen 741 = .ok (.goto (-63), 3) := by decide +kernel
theorem dL_isSeen_744 : decode cL_isSeen 744 = .ok (.iconst 0, 1) := by decide +kernel
theorem dL_isSeen_745 : decode cL_isSeen 745 = .ok (.istore 17, 2) := by decide +kernel
theorem dL_isSeen_747 : decode cL_isSeen 747 = .ok (.iload 9, 2) := by decide +kernel
theorem dL_isSeen_749 : decode cL_isSeen 749 = .ok (.bipush 8, 2) := by decide +kernel
theorem dL_isSeen_751 : decode cL_isSeen 751 = .ok (.irem, 1) := by decide +kernel
theorem dL_isSeen_752 : decode cL_isSeen 752 = .ok (.istore 18, 2) := by decide +kernel
theorem dL_isSeen_754 : decode cL_isSeen 754 = .ok (.iload 18, 2) := by decide +kernel
theorem dL_isSeen_756 : decode cL_isSeen 756 = .ok (.bipush 40, 2) := by decide +kernel
theorem dL_isSeen_758 : decode cL_isSeen 758 = .ok (.if_icmp .ge 27, 3) := by decide +kernel
theorem dL_isSeen_761 : decode cL_isSeen 761 = .ok (.iload 17, 2) := by decide +kernel
theorem dL_isSeen_763 : decode cL_isSeen 763 = .ok (.aload 10, 2) := by decide +kernel
theorem dL_isSeen_765 : decode cL_isSeen 765 = .ok (.iload 18, 2) := by decide +kernel
theorem dL_isSeen_767 : decode cL_isSeen 767 = .ok (.iaload, 1) := by decide +kernel
theorem dL_isSeen_768 : decode cL_isSeen 768 = .ok (.ifCond .le 7, 3) := by decide +kernel
theorem dL_isSeen_771 : decode cL_isSeen 771 = .ok (.iconst 1, 1) := by decide +kernel
theorem dL_isSeen_772 : decode cL_isSeen 772 = .ok (.goto 4, 3) := by decide +kernel
theorem dL_isSeen_775 : decode cL_isSeen 775 = .ok (.iconst 0, 1) := by decide +kernel
theorem dL_isSeen_776 : decode cL_isSeen 776 = .ok (.iadd, 1) := by decide +kernel
theorem dL_isSeen_777 : decode cL_isSeen 777 = .ok (.istore 17, 2) := by decide +kernel
theorem dL_isSeen_779 : decode cL_isSeen 779 = .ok (.iinc 18 8, 3) := by decide +kernel
theorem dL_isSeen_782 : decode cL_isSeen 782 = .ok (.goto (-28), 3) := by decide +kernel
theorem dL_isSeen_785 : decode cL_isSeen 785 = .ok (.iload 16, 2) := by decide +kernel
theorem dL_isSeen_787 : decode cL_isSeen 787 = .ok (.ifCond .eq 21, 3) := by decide +kernel
theorem dL_isSeen_790 : decode cL_isSeen 790 = .ok (.aload_n 0, 1) := by decide +kernel
theorem dL_isSeen_791 : decode cL_isSeen 791 = .ok (.iload 9, 2) := by decide +kernel
theorem dL_isSeen_793 : decode cL_isSeen 793 = .ok (.bipush 8, 2) := by decide +kernel
theorem dL_isSeen_795 : decode cL_isSeen 795 = .ok (.irem, 1) := by decide +kernel
theorem dL_isSeen_796 : decode cL_isSeen 796 = .ok (.invokevirtual 135, 3) := by decide +kernel
theorem dL_isSeen_799 : decode cL_isSeen 799 = .ok (.iload 17, 2) := by decide +kernel
theorem dL_isSeen_801 : decode cL_isSeen 801 = .ok (.if_icmp .ne 7, 3) := by decide +kernel
theorem dL_isSeen_804 : decode cL_isSeen 804 = .ok (.iconst 1, 1) := by decide +kernel
theorem dL_isSeen_805 : decode cL_isSeen 805 = .ok (.goto 4, 3) := by decide +kernel
theorem dL_isSeen_808 : decode cL_isSeen 808 = .ok (.iconst 0, 1) := by decide +kernel
theorem dL_isSeen_809 : decode cL_isSeen 809 = .ok (.ireturn, 1) := by decide +kernel
