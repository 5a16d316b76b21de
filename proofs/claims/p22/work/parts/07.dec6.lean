theorem dL_isTicked_0 : decode cL_isTicked 0 = .ok (.aload_n 0, 1) := by decide +kernel
theorem dL_isTicked_1 : decode cL_isTicked 1 = .ok (.invokevirtual 58, 3) := by decide +kernel
theorem dL_isTicked_4 : decode cL_isTicked 4 = .ok (.istore_n 3, 1) := by decide +kernel
theorem dL_isTicked_5 : decode cL_isTicked 5 = .ok (.aload_n 0, 1) := by decide +kernel
theorem dL_isTicked_6 : decode cL_isTicked 6 = .ok (.invokevirtual 43, 3) := by decide +kernel
theorem dL_isTicked_9 : decode cL_isTicked 9 = .ok (.istore 4, 2) := by decide +kernel
theorem dL_isTicked_11 : decode cL_isTicked 11 = .ok (.aload_n 0, 1) := by decide +kernel
theorem dL_isTicked_12 : decode cL_isTicked 12 = .ok (.invokevirtual 78, 3) := by decide +kernel
theorem dL_isTicked_15 : decode cL_isTicked 15 = .ok (.istore 5, 2) := by decide +kernel
theorem dL_isTicked_17 : decode cL_isTicked 17 = .ok (.aload_n 0, 1) := by decide +kernel
theorem dL_isTicked_18 : decode cL_isTicked 18 = .ok (.invokevirtual 83, 3) := by decide +kernel
theorem dL_isTicked_21 : decode cL_isTicked 21 = .ok (.istore 6, 2) := by decide +kernel
theorem dL_isTicked_23 : decode cL_isTicked 23 = .ok (.aload_n 0, 1) := by decide +kernel
theorem dL_isTicked_24 : decode cL_isTicked 24 = .ok (.invokevirtual 63, 3) := by decide +kernel
theorem dL_isTicked_27 : decode cL_isTicked 27 = .ok (.istore 7, 2) := by decide +kernel
theorem dL_isTicked_29 : decode cL_isTicked 29 = .ok (.aload_n 0, 1) := by decide +kernel
theorem dL_isTicked_30 : decode cL_isTicked 30 = .ok (.invokevirtual 73, 3) := by decide +kernel
theorem dL_isTicked_33 : decode cL_isTicked 33 = .ok (.istore 8, 2) := by decide +kernel
theorem dL_isTicked_35 : decode cL_isTicked 35 = .ok (.aload_n 0, 1) := by decide +kernel
theorem dL_isTicked_36 : decode cL_isTicked 36 = .ok (.iload 8, 2) := by decide +kernel
theorem dL_isTicked_38 : decode cL_isTicked 38 = .ok (.invokevirtual 26, 3) := by decide +kernel
theorem dL_isTicked_41 : decode cL_isTicked 41 = .ok (.istore 9, 2) := by decide +kernel
theorem dL_isTicked_43 : decode cL_isTicked 43 = .ok (.aload_n 0, 1) := by decide +kernel
theorem dL_isTicked_44 : decode cL_isTicked 44 = .ok (.invokevirtual 53, 3) := by decide +kernel
theorem dL_isTicked_47 : decode cL_isTicked 47 = .ok (.istore 10, 2) := by decide +kernel
theorem dL_isTicked_49 : decode cL_isTicked 49 = .ok (.aload_n 0, 1) := by decide +kernel
theorem dL_isTicked_50 : decode cL_isTicked 50 = .ok (.invokevirtual 90, 3) := by decide +kernel
theorem dL_isTicked_53 : decode cL_isTicked 53 = .ok (.istore 11, 2) := by decide +kernel
theorem dL_isTicked_55 : decode cL_isTicked 55 = .ok (.aload_n 0, 1) := by decide +kernel
theorem dL_isTicked_56 : decode cL_isTicked 56 = .ok (.invokevirtual 96, 3) := by decide +kernel
theorem dL_isTicked_59 : decode cL_isTicked 59 = .ok (.istore 12, 2) := by decide +kernel
theorem dL_isTicked_61 : decode cL_isTicked 61 = .ok (.aload_n 2, 1) := by decide +kernel
theorem dL_isTicked_62 : decode cL_isTicked 62 = .ok (.iconst 0, 1) := by decide +kernel
theorem dL_isTicked_63 : decode cL_isTicked 63 = .ok (.iaload, 1) := by decide +kernel
theorem dL_isTicked_64 : decode cL_isTicked 64 = .ok (.ifCond .ne 7, 3) := by decide +kernel
theorem dL_isTicked_67 : decode cL_isTicked 67 = .ok (.iconst 0, 1) := by decide +kernel
theorem dL_isTicked_68 : decode cL_isTicked 68 = .ok (.goto 6, 3) := by decide +kernel
theorem dL_isTicked_71 : decode cL_isTicked 71 = .ok (.aload_n 1, 1) := by decide +kernel
theorem dL_isTicked_72 : decode cL_isTicked 72 = .ok (.iconst 0, 1) := by decide +kernel
theorem dL_isTicked_73 : decode cL_isTicked 73 = .ok (.iaload, 1) := by decide +kernel
theorem dL_isTicked_74 : decode cL_isTicked 74 = .ok (.istore 13, 2) := by decide +kernel
theorem dL_isTicked_76 : decode cL_isTicked 76 = .ok (.aload_n 0, 1) := by decide +kernel
theorem dL_isTicked_77 : decode cL_isTicked 77 = .ok (.iconst 1, 1) := by decide +kernel
theorem dL_isTicked_78 : decode cL_isTicked 78 = .ok (.iconst 1, 1) := by decide +kernel
theorem dL_isTicked_79 : decode cL_isTicked 79 = .ok (.iconst 0, 1) := by decide +kernel
theorem dL_isTicked_80 : decode cL_isTicked 80 = .ok (.invokestatic 118, 3) := by decide +kernel
theorem dL_isTicked_83 : decode cL_isTicked 83 = .ok (.istore 14, 2) := by decide +kernel
theorem dL_isTicked_85 : decode cL_isTicked 85 = .ok (.iload 13, 2) := by decide +kernel
theorem dL_isTicked_87 : decode cL_isTicked 87 = .ok (.ifCond .eq 8, 3) := by decide +kernel
theorem dL_isTicked_90 : decode cL_isTicked 90 = .ok (.iload 12, 2) := by decide +kernel
theorem dL_isTicked_92 : decode cL_isTicked 92 = .ok (.ifCond .eq 58, 3) := by decide +kernel
theorem dL_isTicked_95 : decode cL_isTicked 95 = .ok (.iload 14, 2) := by decide +kernel
theorem dL_isTicked_97 : decode cL_isTicked 97 = .ok (.ifCond .ne 51, 3) := by decide +kernel
theorem dL_isTicked_100 : decode cL_isTicked 100 = .ok (.aload_n 0, 1) := by decide +kernel
theorem dL_isTicked_101 : decode cL_isTicked 101 = .ok (.invokevirtual 58, 3) := by decide +kernel
theorem dL_isTicked_104 : decode cL_isTicked 104 = .ok (.iload_n 3, 1) := by decide +kernel
theorem dL_isTicked_105 : decode cL_isTicked 105 = .ok (.if_icmp .ne 43, 3) := by decide +kernel
theorem dL_isTicked_108 : decode cL_isTicked 108 = .ok (.aload_n 0, 1) := by decide +kernel
theorem dL_isTicked_109 : decode cL_isTicked 109 = .ok (.invokevirtual 53, 3) := by decide +kernel
theorem dL_isTicked_112 : decode cL_isTicked 112 = .ok (.iload 10, 2) := by decide +kernel
theorem dL_isTicked_114 : decode cL_isTicked 114 = .ok (.if_icmp .ne 34, 3) := by decide +kernel
theorem dL_isTicked_117 : decode cL_isTicked 117 = .ok (.aload_n 0, 1) := by decide +kernel
theorem dL_isTicked_118 : decode cL_isTicked 118 = .ok (.invokevirtual 63, 3) := by decide +kernel
theorem dL_isTicked_121 : decode cL_isTicked 121 = .ok (.iload 7, 2) := by decide +kernel
theorem dL_isTicked_123 : decode cL_isTicked 123 = .ok (.if_icmp .ne 25, 3) := by decide +kernel
theorem dL_isTicked_126 : decode cL_isTicked 126 = .ok (.aload_n 0, 1) := by decide +kernel
theorem dL_isTicked_127 : decode cL_isTicked 127 = .ok (.invokevirtual 78, 3) := by decide +kernel
theorem dL_isTicked_130 : decode cL_isTicked 130 = .ok (.iload 5, 2) := by decide +kernel
theorem dL_isTicked_132 : decode cL_isTicked 132 = .ok (.if_icmp .ne 16, 3) := by decide +kernel
theorem dL_isTicked_135 : decode cL_isTicked 135 = .ok (.aload_n 0, 1) := by decide +kernel
theorem dL_isTicked_136 : decode cL_isTicked 136 = .ok (.invokevirtual 83, 3) := by decide +kernel
theorem dL_isTicked_139 : decode cL_isTicked 139 = .ok (.iload 6, 2) := by decide +kernel
theorem dL_isTicked_141 : decode cL_isTicked 141 = .ok (.if_icmp .ne 7, 3) := by decide +kernel
theorem dL_isTicked_144 : decode cL_isTicked 144 = .ok (.iconst 1, 1) := by decide +kernel
theorem dL_isTicked_145 : decode cL_isTicked 145 = .ok (.goto 4, 3) := by decide +kernel
theorem dL_isTicked_148 : decode cL_isTicked 148 = .ok (.iconst 0, 1) := by decide +kernel
theorem dL_isTicked_149 : decode cL_isTicked 149 = .ok (.ireturn, 1) := by decide +kernel
theorem dL_isTicked_150 : decode cL_isTicked 150 = .ok (.iload 13, 2) := by decide +kernel
theorem dL_isTicked_152 : decode cL_isTicked 152 = .ok (.iconst 3, 1) := by decide +kernel
theorem dL_isTicked_153 : decode cL_isTicked 153 = .ok (.if_icmp .eq 23, 3) := by decide +kernel
theorem dL_isTicked_156 : decode cL_isTicked 156 = .ok (.iload 11, 2) := by decide +kernel
theorem dL_isTicked_158 : decode cL_isTicked 158 = .ok (.iload 13, 2) := by decide +kernel
theorem dL_isTicked_160 : decode cL_isTicked 160 = .ok (.iconst 2, 1) := by decide +kernel
theorem dL_isTicked_161 : decode cL_isTicked 161 = .ok (.if_icmp .ne 7, 3) := by decide +kernel
theorem dL_isTicked_164 : decode cL_isTicked 164 = .ok (.iconst 1, 1) := by decide +kernel
theorem dL_isTicked_165 : decode cL_isTicked 165 = .ok (.goto 4, 3) := by decide +kernel
theorem dL_isTicked_168 : decode cL_isTicked 168 = .ok (.iconst 0, 1) := by decide +kernel
theorem dL_isTicked_169 : decode cL_isTicked 169 = .ok (.if_icmp .ne 7, 3) := by decide +kernel
theorem dL_isTicked_172 : decode cL_isTicked 172 = .ok (.iconst 1, 1) := by decide +kernel
theorem dL_isTicked_173 : decode cL_isTicked 173 = .ok (.goto 4, 3) := by decide +kernel
theorem dL_isTicked_176 : decode cL_isTicked 176 = .ok (.iconst 0, 1) := by decide +kernel
theorem dL_isTicked_177 : decode cL_isTicked 177 = .ok (.istore 15, 2) := by decide +kernel
theorem dL_isTicked_179 : decode cL_isTicked 179 = .ok (.aload_n 0, 1) := by decide +kernel
theorem dL_isTicked_180 : decode cL_isTicked 180 = .ok (.invokevirtual 43, 3) := by decide +kernel
theorem dL_isTicked_183 : decode cL_isTicked 183 = .ok (.iload 4, 2) := by decide +kernel
theorem dL_isTicked_185 : decode cL_isTicked 185 = .ok (.if_icmp .ge 7, 3) := by decide +kernel
theorem dL_isTicked_188 : decode cL_isTicked 188 = .ok (.iconst 1, 1) := by decide +kernel
theorem dL_isTicked_189 : decode cL_isTicked 189 = .ok (.goto 4, 3) := by decide +kernel
theorem dL_isTicked_192 : decode cL_isTicked 192 = .ok (.iconst 0, 1) := by decide +kernel
theorem dL_isTicked_193 : decode cL_isTicked 193 = .ok (.istore 16, 2) := by decide +kernel
theorem dL_isTicked_195 : decode cL_isTicked 195 = .ok (.iload 14, 2) := by decide +kernel
theorem dL_isTicked_197 : decode cL_isTicked 197 = .ok (.iload 15, 2) := by decide +kernel
theorem dL_isTicked_199 : decode cL_isTicked 199 = .ok (.ifCond .eq 7, 3) := by decide +kernel
theorem dL_isTicked_202 : decode cL_isTicked 202 = .ok (.iconst 1, 1) := by decide +kernel
theorem dL_isTicked_203 : decode cL_isTicked 203 = .ok (.goto 4, 3) := by decide +kernel
theorem dL_isTicked_206 : decode cL_isTicked 206 = .ok (.iconst 0, 1) := by decide +kernel
theorem dL_isTicked_207 : decode cL_isTicked 207 = .ok (.if_icmp .ne 109, 3) := by decide +kernel
theorem dL_isTicked_210 : decode cL_isTicked 210 = .ok (.aload_n 0, 1) := by decide +kernel
theorem dL_isTicked_211 : decode cL_isTicked 211 = .ok (.invokevirtual 58, 3) := by decide +kernel
theorem dL_isTicked_214 : decode cL_isTicked 214 = .ok (.iload_n 3, 1) := by decide +kernel
theorem dL_isTicked_215 : decode cL_isTicked 215 = .ok (.iconst 1, 1) := by decide +kernel
theorem dL_isTicked_216 : decode cL_isTicked 216 = .ok (.isub, 1) := by decide +kernel
theorem dL_isTicked_217 : decode cL_isTicked 217 = .ok (.if_icmp .ne 99, 3) := by decide +kernel
theorem dL_isTicked_220 : decode cL_isTicked 220 = .ok (.aload_n 0, 1) := by decide +kernel
theorem dL_isTicked_221 : decode cL_isTicked 221 = .ok (.invokevirtual 78, 3) := by decide +kernel
theorem dL_isTicked_224 : decode cL_isTicked 224 = .ok (.iload 5, 2) := by decide +kernel
theorem dL_isTicked_226 : decode cL_isTicked 226 = .ok (.iload 15, 2) := by decide +kernel
theorem dL_isTicked_228 : decode cL_isTicked 228 = .ok (.ifCond .eq 13, 3) := by decide +kernel
theorem dL_isTicked_231 : decode cL_isTicked 231 = .ok (.iload 13, 2) := by decide +kernel
theorem dL_isTicked_233 : decode cL_isTicked 233 = .ok (.iconst 1, 1) := by decide +kernel
theorem dL_isTicked_234 : decode cL_isTicked 234 = .ok (.if_icmp .ne 7, 3) := by decide +kernel
theorem dL_isTicked_237 : decode cL_isTicked 237 = .ok (.iconst 1, 1) := by decide +kernel
theorem dL_isTicked_238 : decode cL_isTicked 238 = .ok (.goto 4, 3) := by decide +kernel
theorem dL_isTicked_241 : decode cL_isTicked 241 = .ok (.iconst 0, 1) := by decide +kernel
theorem dL_isTicked_242 : decode cL_isTicked 242 = .ok (.iadd, 1) := by decide +kernel
theorem dL_isTicked_243 : decode cL_isTicked 243 = .ok (.if_icmp .ne 73, 3) := by decide +kernel
theorem dL_isTicked_246 : decode cL_isTicked 246 = .ok (.aload_n 0, 1) := by decide +kernel
theorem dL_isTicked_247 : decode cL_isTicked 247 = .ok (.invokevirtual 83, 3) := by decide +kernel
theorem dL_isTicked_250 : decode cL_isTicked 250 = .ok (.iload 6, 2) := by decide +kernel
theorem dL_isTicked_252 : decode cL_isTicked 252 = .ok (.iload 15, 2) := by decide +kernel
theorem dL_isTicked_254 : decode cL_isTicked 254 = .ok (.ifCond .eq 13, 3) := by decide +kernel
theorem dL_isTicked_257 : decode cL_isTicked 257 = .ok (.iload 13, 2) := by decide +kernel
theorem dL_isTicked_259 : decode cL_isTicked 259 = .ok (.iconst 2, 1) := by decide +kernel
theorem dL_isTicked_260 : decode cL_isTicked 260 = .ok (.if_icmp .ne 7, 3) := by decide +kernel
theorem dL_isTicked_263 : decode cL_isTicked 263 = .ok (.iconst 1, 1) := by decide +kernel
theorem dL_isTicked_264 : decode cL_isTicked 264 = .ok (.goto 4, 3) := by decide +kernel
theorem dL_isTicked_267 : decode cL_isTicked 267 = .ok (.iconst 0, 1) := by decide +kernel
theorem dL_isTicked_268 : decode cL_isTicked 268 = .ok (.iadd, 1) := by decide +kernel
theorem dL_isTicked_269 : decode cL_isTicked 269 = .ok (.if_icmp .ne 47, 3) := by decide +kernel
theorem dL_isTicked_272 : decode cL_isTicked 272 = .ok (.aload_n 0, 1) := by decide +kernel
theorem dL_isTicked_273 : decode cL_isTicked 273 = .ok (.invokevirtual 63, 3) := by decide +kernel
theorem dL_isTicked_276 : decode cL_isTicked 276 = .ok (.iload 7, 2) := by decide +kernel
theorem dL_isTicked_278 : decode cL_isTicked 278 = .ok (.if_icmp .lt 38, 3) := by decide +kernel
theorem dL_isTicked_281 : decode cL_isTicked 281 = .ok (.aload_n 0, 1) := by decide +kernel
theorem dL_isTicked_282 : decode cL_isTicked 282 = .ok (.invokevirtual 63, 3) := by decide +kernel
theorem dL_isTicked_285 : decode cL_isTicked 285 = .ok (.iload 7, 2) := by decide +kernel
theorem dL_isTicked_287 : decode cL_isTicked 287 = .ok (.iconst 1, 1) := by decide +kernel
theorem dL_isTicked_288 : decode cL_isTicked 288 = .ok (.iadd, 1) := by decide +kernel
theorem dL_isTicked_289 : decode cL_isTicked 289 = .ok (.if_icmp .gt 27, 3) := by decide +kernel
theorem dL_isTicked_292 : decode cL_isTicked 292 = .ok (.aload_n 0, 1) := by decide +kernel
theorem dL_isTicked_293 : decode cL_isTicked 293 = .ok (.invokevirtual 43, 3) := by decide +kernel
theorem dL_isTicked_296 : decode cL_isTicked 296 = .ok (.iload 4, 2) := by decide +kernel
theorem dL_isTicked_298 : decode cL_isTicked 298 = .ok (.if_icmp .eq 14, 3) := by decide +kernel
theorem dL_isTicked_301 : decode cL_isTicked 301 = .ok (.aload_n 0, 1) := by decide +kernel
theorem dL_isTicked_302 : decode cL_isTicked 302 = .ok (.invokevirtual 43, 3) := by decide +kernel
theorem dL_isTicked_305 : decode cL_isTicked 305 = .ok (.iload 4, 2) := by decide +kernel
theorem dL_isTicked_307 : decode cL_isTicked 307 = .ok (.iconst 1, 1) := by decide +kernel
theorem dL_isTicked_308 : decode cL_isTicked 308 = .ok (.isub, 1) := by decide +kernel
theorem dL_isTicked_309 : decode cL_isTicked 309 = .ok (.if_icmp .ne 7, 3) := by decide +kernel
theorem dL_isTicked_312 : decode cL_isTicked 312 = .ok (.iconst 1, 1) := by decide +kernel
theorem dL_isTicked_313 : decode cL_isTicked 313 = .ok (.goto 4, 3) := by decide +kernel
theorem dL_isTicked_316 : decode cL_isTicked 316 = .ok (.iconst 0, 1) := by decide +kernel
theorem dL_isTicked_317 : decode cL_isTicked 317 = .ok (.istore 17, 2) := by decide +kernel
theorem dL_isTicked_319 : decode cL_isTicked 319 = .ok (.aload_n 2, 1) := by decide +kernel
theorem dL_isTicked_320 : decode cL_isTicked 320 = .ok (.bipush 7, 2) := by decide +kernel
theorem dL_isTicked_322 : decode cL_isTicked 322 = .ok (.dup2, 1) := by decide +kernel
theorem dL_isTicked_323 : decode cL_isTicked 323 = .ok (.iaload, 1) := by decide +kernel
theorem dL_isTicked_324 : decode cL_isTicked 324 = .ok (.iload 15, 2) := by decide +kernel
theorem dL_isTicked_326 : decode cL_isTicked 326 = .ok (.ifCond .eq 7, 3) := by decide +kernel
theorem dL_isTicked_329 : decode cL_isTicked 329 = .ok (.iconst 1, 1) := by decide +kernel
theorem dL_isTicked_330 : decode cL_isTicked 330 = .ok (.goto 4, 3) := by decide +kernel
theorem dL_isTicked_333 : decode cL_isTicked 333 = .ok (.iconst 0, 1) := by decide +kernel
theorem dL_isTicked_334 : decode cL_isTicked 334 = .ok (.iadd, 1) := by decide +kernel
theorem dL_isTicked_335 : decode cL_isTicked 335 = .ok (.iastore, 1) := by decide +kernel
theorem dL_isTicked_336 : decode cL_isTicked 336 = .ok (.iload 15, 2) := by decide +kernel
theorem dL_isTicked_338 : decode cL_isTicked 338 = .ok (.ifCond .eq 74, 3) := by decide +kernel
theorem dL_isTicked_341 : decode cL_isTicked 341 = .ok (.iload 17, 2) := by decide +kernel
theorem dL_isTicked_343 : decode cL_isTicked 343 = .ok (.ifCond .eq 63, 3) := by decide +kernel
theorem dL_isTicked_346 : decode cL_isTicked 346 = .ok (.aload_n 0, 1) := by decide +kernel
theorem dL_isTicked_347 : decode cL_isTicked 347 = .ok (.invokevirtual 90, 3) := by decide +kernel
theorem dL_isTicked_350 : decode cL_isTicked 350 = .ok (.iload 11, 2) := by decide +kernel
theorem dL_isTicked_352 : decode cL_isTicked 352 = .ok (.if_icmp .ne 54, 3) := by decide +kernel
theorem dL_isTicked_355 : decode cL_isTicked 355 = .ok (.aload_n 0, 1) := by decide +kernel
theorem dL_isTicked_356 : decode cL_isTicked 356 = .ok (.iload 8, 2) := by decide +kernel
theorem dL_isTicked_358 : decode cL_isTicked 358 = .ok (.invokevirtual 26, 3) := by decide +kernel
theorem dL_isTicked_361 : decode cL_isTicked 361 = .ok (.iload 9, 2) := by decide +kernel
theorem dL_isTicked_363 : decode cL_isTicked 363 = .ok (.iload 13, 2) := by decide +kernel
theorem dL_isTicked_365 : decode cL_isTicked 365 = .ok (.iconst 2, 1) := by decide +kernel
theorem dL_isTicked_366 : decode cL_isTicked 366 = .ok (.if_icmp .ne 7, 3) := by decide +kernel
theorem dL_isTicked_369 : decode cL_isTicked 369 = .ok (.iconst 1, 1) := by decide +kernel
theorem dL_isTicked_370 : decode cL_isTicked 370 = .ok (.goto 4, 3) := by decide +kernel
theorem dL_isTicked_373 : decode cL_isTicked 373 = .ok (.iconst 0, 1) := by decide +kernel
theorem dL_isTicked_374 : decode cL_isTicked 374 = .ok (.isub, 1) := by decide +kernel
theorem dL_isTicked_375 : decode cL_isTicked 375 = .ok (.if_icmp .ne 31, 3) := by decide +kernel
theorem dL_isTicked_378 : decode cL_isTicked 378 = .ok (.iload 13, 2) := by decide +kernel
theorem dL_isTicked_380 : decode cL_isTicked 380 = .ok (.iconst 2, 1) := by decide +kernel
theorem dL_isTicked_381 : decode cL_isTicked 381 = .ok (.if_icmp .eq 12, 3) := by decide +kernel
theorem dL_isTicked_384 : decode cL_isTicked 384 = .ok (.aload_n 0, 1) := by decide +kernel
theorem dL_isTicked_385 : decode cL_isTicked 385 = .ok (.invokevirtual 63, 3) := by decide +kernel
theorem dL_isTicked_388 : decode cL_isTicked 388 = .ok (.iload 7, 2) := by decide +kernel
theorem dL_isTicked_390 : decode cL_isTicked 390 = .ok (.if_icmp .ne 16, 3) := by decide +kernel
theorem dL_isTicked_393 : decode cL_isTicked 393 = .ok (.aload_n 0, 1) := by decide +kernel
theorem dL_isTicked_394 : decode cL_isTicked 394 = .ok (.invokevirtual 73, 3) := by decide +kernel
theorem dL_isTicked_397 : decode cL_isTicked 397 = .ok (.iload 8, 2) := by decide +kernel
theorem dL_isTicked_399 : decode cL_isTicked 399 = .ok (.if_icmp .ne 7, 3) := by decide +kernel
theorem dL_isTicked_402 : decode cL_isTicked 402 = .ok (.iconst 1, 1) := by decide +kernel
theorem dL_isTicked_403 : decode cL_isTicked 403 = .ok (.goto 4, 3) := by decide +kernel
theorem dL_isTicked_406 : decode cL_isTicked 406 = .ok (.iconst 0, 1) := by decide +kernel
theorem dL_isTicked_407 : decode cL_isTicked 407 = .ok (.istore 17, 2) := by decide +kernel
theorem dL_isTicked_409 : decode cL_isTicked 409 = .ok (.goto 85, 3) := by decide +kernel
theorem dL_isTicked_412 : decode cL_isTicked 412 = .ok (.iload 17, 2) := by decide +kernel
theorem dL_isTicked_414 : decode cL_isTicked 414 = .ok (.ifCond .eq 77, 3) := by decide +kernel
theorem dL_isTicked_417 : decode cL_isTicked 417 = .ok (.aload_n 0, 1) := by decide +kernel
theorem dL_isTicked_418 : decode cL_isTicked 418 = .ok (.invokevirtual 53, 3) := by decide +kernel
theorem dL_isTicked_421 : decode cL_isTicked 421 = .ok (.iload 10, 2) := by decide +kernel
theorem dL_isTicked_423 : decode cL_isTicked 423 = .ok (.if_icmp .ne 68, 3) := by decide +kernel
theorem dL_isTicked_426 : decode cL_isTicked 426 = .ok (.aload_n 0, 1) := by decide +kernel
theorem dL_isTicked_427 : decode cL_isTicked 427 = .ok (.iload 8, 2) := by decide +kernel
theorem dL_isTicked_429 : decode cL_isTicked 429 = .ok (.invokevirtual 26, 3) := by decide +kernel
theorem dL_isTicked_432 : decode cL_isTicked 432 = .ok (.iload 9, 2) := by decide +kernel
theorem dL_isTicked_434 : decode cL_isTicked 434 = .ok (.if_icmp .ne 57, 3) := by decide +kernel
theorem dL_isTicked_437 : decode cL_isTicked 437 = .ok (.aload_n 0, 1) := by decide +kernel
theorem dL_isTicked_438 : decode cL_isTicked 438 = .ok (.invokevirtual 90, 3) := by decide +kernel
theorem dL_isTicked_441 : decode cL_isTicked 441 = .ok (.iload 11, 2) := by decide +kernel
theorem dL_isTicked_443 : decode cL_isTicked 443 = .ok (.if_icmp .eq 19, 3) := by decide +kernel
theorem dL_isTicked_446 : decode cL_isTicked 446 = .ok (.iload 13, 2) := by decide +kernel
theorem dL_isTicked_448 : decode cL_isTicked 448 = .ok (.iconst 2, 1) := by decide +kernel
theorem dL_isTicked_449 : decode cL_isTicked 449 = .ok (.if_icmp .eq 7, 3) := by decide +kernel
theorem dL_isTicked_452 : decode cL_isTicked 452 = .ok (.iconst 1, 1) := by decide +kernel
theorem dL_isTicked_453 : decode cL_isTicked 453 = .ok (.goto 4, 3) := by decide +kernel
theorem dL_isTicked_456 : decode cL_isTicked 456 = .ok (.iconst 0, 1) := by decide +kernel
theorem dL_isTicked_457 : decode cL_isTicked 457 = .ok (.iload 11, 2) := by decide +kernel
theorem dL_isTicked_459 : decode cL_isTicked 459 = .ok (.if_icmp .ne 32, 3) := by decide +kernel
theorem dL_isTicked_462 : decode cL_isTicked 462 = .ok (.aload_n 0, 1) := by decide +kernel
theorem dL_isTicked_463 : decode cL_isTicked 463 = .ok (.invokevirtual 73, 3) := by decide +kernel
theorem dL_isTicked_466 : decode cL_isTicked 466 = .ok (.iload 8, 2) := by decide +kernel
theorem dL_isTicked_468 : decode cL_isTicked 468 = .ok (.if_icmp .eq 19, 3) := by decide +kernel
theorem dL_isTicked_471 : decode cL_isTicked 471 = .ok (.iload 16, 2) := by decide +kernel
theorem dL_isTicked_473 : decode cL_isTicked 473 = .ok (.ifCond .eq 18, 3) := by decide +kernel
theorem dL_isTicked_476 : decode cL_isTicked 476 = .ok (.iload 13, 2) := by decide +kernel
theorem dL_isTicked_478 : decode cL_isTicked 478 = .ok (.iconst 3, 1) := by decide +kernel
theorem dL_isTicked_479 : decode cL_isTicked 479 = .ok (.if_icmp .ne 12, 3) := by decide +kernel
theorem dL_isTicked_482 : decode cL_isTicked 482 = .ok (.iload 11, 2) := by decide +kernel
theorem dL_isTicked_484 : decode cL_isTicked 484 = .ok (.ifCond .ne 7, 3) := by decide +kernel
theorem dL_isTicked_487 : decode cL_isTicked 487 = .ok (.iconst 1, 1) := by decide +kernel
theorem dL_isTicked_488 : decode cL_isTicked 488 = .ok (.goto 4, 3) := by decide +kernel
theorem dL_isTicked_491 : decode cL_isTicked 491 = .ok (.iconst 0, 1) := by decide +kernel
theorem dL_isTicked_492 : decode cL_isTicked 492 = .ok (.istore 17, 2) := by decide +kernel
theorem dL_isTicked_494 : decode cL_isTicked 494 = .ok (.iload 16, 2) := by decide +kernel
theorem dL_isTicked_496 : decode cL_isTicked 496 = .ok (.ifCond .eq 44, 3) := by decide +kernel
theorem dL_isTicked_499 : decode cL_isTicked 499 = .ok (.iload 17, 2) := by decide +kernel
theorem dL_isTicked_501 : decode cL_isTicked 501 = .ok (.ifCond .eq 31, 3) := by decide +kernel
theorem dL_isTicked_504 : decode cL_isTicked 504 = .ok (.iload 13, 2) := by decide +kernel
theorem dL_isTicked_506 : decode cL_isTicked 506 = .ok (.iconst 3, 1) := by decide +kernel
theorem dL_isTicked_507 : decode cL_isTicked 507 = .ok (.if_icmp .ne 16, 3) := by decide +kernel
theorem dL_isTicked_510 : decode cL_isTicked 510 = .ok (.aload_n 0, 1) := by decide +kernel
theorem dL_isTicked_511 : decode cL_isTicked 511 = .ok (.invokevirtual 73, 3) := by decide +kernel
theorem dL_isTicked_514 : decode cL_isTicked 514 = .ok (.aload_n 1, 1) := by decide +kernel
theorem dL_isTicked_515 : decode cL_isTicked 515 = .ok (.iconst 1, 1) := by decide +kernel
theorem dL_isTicked_516 : decode cL_isTicked 516 = .ok (.iaload, 1) := by decide +kernel
theorem dL_isTicked_517 : decode cL_isTicked 517 = .ok (.if_icmp .ne 15, 3) := by decide +kernel
theorem dL_isTicked_520 : decode cL_isTicked 520 = .ok (.goto 8, 3) := by decide +kernel
theorem dL_isTicked_523 : decode cL_isTicked 523 = .ok (.iload 15, 2) := by decide +kernel
theorem dL_isTicked_525 : decode cL_isTicked 525 = .ok (.ifCond .eq 7, 3) := by decide +kernel
theorem dL_isTicked_528 : decode cL_isTicked 528 = .ok (.iconst 1, 1) := by decide +kernel
theorem dL_isTicked_529 : decode cL_isTicked 529 = .ok (.goto 4, 3) := by decide +kernel
theorem dL_isTicked_532 : decode cL_isTicked 532 = .ok (.iconst 0, 1) := by decide +kernel
theorem dL_isTicked_533 : decode cL_isTicked 533 = .ok (.istore 17, 2) := by decide +kernel
theorem dL_isTicked_535 : decode cL_isTicked 535 = .ok (.aload_n 1, 1) := by decide +kernel
theorem dL_isTicked_536 : decode cL_isTicked 536 = .ok (.aload_n 2, 1) := by decide +kernel
theorem dL_isTicked_537 : decode cL_isTicked 537 = .ok (.invokestatic 126, 3) := by decide +kernel
theorem dL_isTicked_540 : decode cL_isTicked 540 = .ok (.iload 17, 2) := by decide +kernel
theorem dL_isTicked_542 : decode cL_isTicked 542 = .ok (.ireturn, 1) := by decide +kernel
