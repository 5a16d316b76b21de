theorem dL_isSent_0 : decode cL_isSent 0 = .ok (.aload_n 0, 1) := by decide +kernel
theorem dL_isSent_1 : decode cL_isSent 1 = .ok (.invokevirtual 68, 3) := by decide +kernel
theorem dL_isSent_4 : decode cL_isSent 4 = .ok (.istore 6, 2) := by decide +kernel
theorem dL_isSent_6 : decode cL_isSent 6 = .ok (.aload_n 2, 1) := by decide +kernel
theorem dL_isSent_7 : decode cL_isSent 7 = .ok (.iconst 0, 1) := by decide +kernel
theorem dL_isSent_8 : decode cL_isSent 8 = .ok (.iaload, 1) := by decide +kernel
theorem dL_isSent_9 : decode cL_isSent 9 = .ok (.bipush 8, 2) := by decide +kernel
theorem dL_isSent_11 : decode cL_isSent 11 = .ok (.if_icmp .ge 7, 3) := by decide +kernel
theorem dL_isSent_14 : decode cL_isSent 14 = .ok (.iconst 1, 1) := by decide +kernel
theorem dL_isSent_15 : decode cL_isSent 15 = .ok (.goto 4, 3) := by decide +kernel
theorem dL_isSent_18 : decode cL_isSent 18 = .ok (.iconst 0, 1) := by decide +kernel
theorem dL_isSent_19 : decode cL_isSent 19 = .ok (.istore 7, 2) := by decide +kernel
theorem dL_isSent_21 : decode cL_isSent 21 = .ok (.iload 7, 2) := by decide +kernel
theorem dL_isSent_23 : decode cL_isSent 23 = .ok (.ifCond .ne 50, 3) := by decide +kernel
theorem dL_isSent_26 : decode cL_isSent 26 = .ok (.aload_n 0, 1) := by decide +kernel
theorem dL_isSent_27 : decode cL_isSent 27 = .ok (.invokestatic 114, 3) := by decide +kernel
theorem dL_isSent_30 : decode cL_isSent 30 = .ok (.lstore 8, 2) := by decide +kernel
theorem dL_isSent_32 : decode cL_isSent 32 = .ok (.aload_n 0, 1) := by decide +kernel
theorem dL_isSent_33 : decode cL_isSent 33 = .ok (.iconst 0, 1) := by decide +kernel
theorem dL_isSent_34 : decode cL_isSent 34 = .ok (.iload_n 3, 1) := by decide +kernel
theorem dL_isSent_35 : decode cL_isSent 35 = .ok (.iconst 0, 1) := by decide +kernel
theorem dL_isSent_36 : decode cL_isSent 36 = .ok (.invokestatic 118, 3) := by decide +kernel
theorem dL_isSent_39 : decode cL_isSent 39 = .ok (.ifCond .ne 32, 3) := by decide +kernel
theorem dL_isSent_42 : decode cL_isSent 42 = .ok (.aload_n 0, 1) := by decide +kernel
theorem dL_isSent_43 : decode cL_isSent 43 = .ok (.iconst 0, 1) := by decide +kernel
theorem dL_isSent_44 : decode cL_isSent 44 = .ok (.iload 4, 2) := by decide +kernel
theorem dL_isSent_46 : decode cL_isSent 46 = .ok (.sipush 255, 3) := by decide +kernel
theorem dL_isSent_49 : decode cL_isSent 49 = .ok (.iand, 1) := by decide +kernel
theorem dL_isSent_50 : decode cL_isSent 50 = .ok (.iconst 0, 1) := by decide +kernel
theorem dL_isSent_51 : decode cL_isSent 51 = .ok (.invokestatic 118, 3) := by decide +kernel
theorem dL_isSent_54 : decode cL_isSent 54 = .ok (.ifCond .ne 17, 3) := by decide +kernel
theorem dL_isSent_57 : decode cL_isSent 57 = .ok (.aload_n 0, 1) := by decide +kernel
theorem dL_isSent_58 : decode cL_isSent 58 = .ok (.invokestatic 114, 3) := by decide +kernel
theorem dL_isSent_61 : decode cL_isSent 61 = .ok (.lload 8, 2) := by decide +kernel
theorem dL_isSent_63 : decode cL_isSent 63 = .ok (.lcmp, 1) := by decide +kernel
theorem dL_isSent_64 : decode cL_isSent 64 = .ok (.ifCond .ne 7, 3) := by decide +kernel
theorem dL_isSent_67 : decode cL_isSent 67 = .ok (.iconst 1, 1) := by decide +kernel
theorem dL_isSent_68 : decode cL_isSent 68 = .ok (.goto 4, 3) := by decide +kernel
theorem dL_isSent_71 : decode cL_isSent 71 = .ok (.iconst 0, 1) := by decide +kernel
theorem dL_isSent_72 : decode cL_isSent 72 = .ok (.ireturn, 1) := by decide +kernel
theorem dL_isSent_73 : decode cL_isSent 73 = .ok (.aload_n 0, 1) := by decide +kernel
theorem dL_isSent_74 : decode cL_isSent 74 = .ok (.iconst 0, 1) := by decide +kernel
theorem dL_isSent_75 : decode cL_isSent 75 = .ok (.iload_n 3, 1) := by decide +kernel
theorem dL_isSent_76 : decode cL_isSent 76 = .ok (.iconst 0, 1) := by decide +kernel
theorem dL_isSent_77 : decode cL_isSent 77 = .ok (.invokestatic 118, 3) := by decide +kernel
theorem dL_isSent_80 : decode cL_isSent 80 = .ok (.iconst 1, 1) := by decide +kernel
theorem dL_isSent_81 : decode cL_isSent 81 = .ok (.if_icmp .ne 25, 3) := by decide +kernel
theorem dL_isSent_84 : decode cL_isSent 84 = .ok (.aload_n 0, 1) := by decide +kernel
theorem dL_isSent_85 : decode cL_isSent 85 = .ok (.invokevirtual 48, 3) := by decide +kernel
theorem dL_isSent_88 : decode cL_isSent 88 = .ok (.iconst 1, 1) := by decide +kernel
theorem dL_isSent_89 : decode cL_isSent 89 = .ok (.if_icmp .ne 17, 3) := by decide +kernel
theorem dL_isSent_92 : decode cL_isSent 92 = .ok (.aload_n 0, 1) := by decide +kernel
theorem dL_isSent_93 : decode cL_isSent 93 = .ok (.invokevirtual 43, 3) := by decide +kernel
theorem dL_isSent_96 : decode cL_isSent 96 = .ok (.aload_n 2, 1) := by decide +kernel
theorem dL_isSent_97 : decode cL_isSent 97 = .ok (.iconst 0, 1) := by decide +kernel
theorem dL_isSent_98 : decode cL_isSent 98 = .ok (.iaload, 1) := by decide +kernel
theorem dL_isSent_99 : decode cL_isSent 99 = .ok (.if_icmp .ne 7, 3) := by decide +kernel
theorem dL_isSent_102 : decode cL_isSent 102 = .ok (.iconst 1, 1) := by decide +kernel
theorem dL_isSent_103 : decode cL_isSent 103 = .ok (.goto 4, 3) := by decide +kernel
theorem dL_isSent_106 : decode cL_isSent 106 = .ok (.iconst 0, 1) := by decide +kernel
theorem dL_isSent_107 : decode cL_isSent 107 = .ok (.istore 8, 2) := by decide +kernel
theorem dL_isSent_109 : decode cL_isSent 109 = .ok (.iload_n 3, 1) := by decide +kernel
theorem dL_isSent_110 : decode cL_isSent 110 = .ok (.iconst 3, 1) := by decide +kernel
theorem dL_isSent_111 : decode cL_isSent 111 = .ok (.if_icmp .ge 95, 3) := by decide +kernel
theorem dL_isSent_114 : decode cL_isSent 114 = .ok (.iload 8, 2) := by decide +kernel
theorem dL_isSent_116 : decode cL_isSent 116 = .ok (.ifCond .eq 57, 3) := by decide +kernel
theorem dL_isSent_119 : decode cL_isSent 119 = .ok (.aload_n 0, 1) := by decide +kernel
theorem dL_isSent_120 : decode cL_isSent 120 = .ok (.iconst 0, 1) := by decide +kernel
theorem dL_isSent_121 : decode cL_isSent 121 = .ok (.iload 4, 2) := by decide +kernel
theorem dL_isSent_123 : decode cL_isSent 123 = .ok (.sipush 255, 3) := by decide +kernel
theorem dL_isSent_126 : decode cL_isSent 126 = .ok (.iand, 1) := by decide +kernel
theorem dL_isSent_127 : decode cL_isSent 127 = .ok (.iconst 0, 1) := by decide +kernel
theorem dL_isSent_128 : decode cL_isSent 128 = .ok (.invokestatic 118, 3) := by decide +kernel
theorem dL_isSent_131 : decode cL_isSent 131 = .ok (.iconst 1, 1) := by decide +kernel
theorem dL_isSent_132 : decode cL_isSent 132 = .ok (.if_icmp .ne 41, 3) := by decide +kernel
theorem dL_isSent_135 : decode cL_isSent 135 = .ok (.aload_n 0, 1) := by decide +kernel
theorem dL_isSent_136 : decode cL_isSent 136 = .ok (.invokevirtual 48, 3) := by decide +kernel
theorem dL_isSent_139 : decode cL_isSent 139 = .ok (.iconst 2, 1) := by decide +kernel
theorem dL_isSent_140 : decode cL_isSent 140 = .ok (.if_icmp .ne 33, 3) := by decide +kernel
theorem dL_isSent_143 : decode cL_isSent 143 = .ok (.aload_n 0, 1) := by decide +kernel
theorem dL_isSent_144 : decode cL_isSent 144 = .ok (.invokevirtual 37, 3) := by decide +kernel
theorem dL_isSent_147 : decode cL_isSent 147 = .ok (.aload_n 2, 1) := by decide +kernel
theorem dL_isSent_148 : decode cL_isSent 148 = .ok (.iconst 1, 1) := by decide +kernel
theorem dL_isSent_149 : decode cL_isSent 149 = .ok (.iaload, 1) := by decide +kernel
theorem dL_isSent_150 : decode cL_isSent 150 = .ok (.if_icmp .ne 23, 3) := by decide +kernel
theorem dL_isSent_153 : decode cL_isSent 153 = .ok (.aload_n 0, 1) := by decide +kernel
theorem dL_isSent_154 : decode cL_isSent 154 = .ok (.iconst 0, 1) := by decide +kernel
theorem dL_isSent_155 : decode cL_isSent 155 = .ok (.iload 5, 2) := by decide +kernel
theorem dL_isSent_157 : decode cL_isSent 157 = .ok (.sipush 255, 3) := by decide +kernel
theorem dL_isSent_160 : decode cL_isSent 160 = .ok (.iand, 1) := by decide +kernel
theorem dL_isSent_161 : decode cL_isSent 161 = .ok (.iconst 0, 1) := by decide +kernel
theorem dL_isSent_162 : decode cL_isSent 162 = .ok (.invokestatic 118, 3) := by decide +kernel
theorem dL_isSent_165 : decode cL_isSent 165 = .ok (.iconst 1, 1) := by decide +kernel
theorem dL_isSent_166 : decode cL_isSent 166 = .ok (.if_icmp .ne 7, 3) := by decide +kernel
theorem dL_isSent_169 : decode cL_isSent 169 = .ok (.iconst 1, 1) := by decide +kernel
theorem dL_isSent_170 : decode cL_isSent 170 = .ok (.goto 4, 3) := by decide +kernel
theorem dL_isSent_173 : decode cL_isSent 173 = .ok (.iconst 0, 1) := by decide +kernel
theorem dL_isSent_174 : decode cL_isSent 174 = .ok (.istore 8, 2) := by decide +kernel
theorem dL_isSent_176 : decode cL_isSent 176 = .ok (.aload_n 1, 1) := by decide +kernel
theorem dL_isSent_177 : decode cL_isSent 177 = .ok (.aload_n 2, 1) := by decide +kernel
theorem dL_isSent_178 : decode cL_isSent 178 = .ok (.iload_n 3, 1) := by decide +kernel
theorem dL_isSent_179 : decode cL_isSent 179 = .ok (.iload 4, 2) := by decide +kernel
theorem dL_isSent_181 : decode cL_isSent 181 = .ok (.iload 5, 2) := by decide +kernel
theorem dL_isSent_183 : decode cL_isSent 183 = .ok (.invokestatic 122, 3) := by decide +kernel
theorem dL_isSent_186 : decode cL_isSent 186 = .ok (.ifCond .eq 147, 3) := by decide +kernel
theorem dL_isSent_189 : decode cL_isSent 189 = .ok (.aload_n 2, 1) := by decide +kernel
theorem dL_isSent_190 : decode cL_isSent 190 = .ok (.iconst 2, 1) := by decide +kernel
theorem dL_isSent_191 : decode cL_isSent 191 = .ok (.iload_n 3, 1) := by decide +kernel
theorem dL_isSent_192 : decode cL_isSent 192 = .ok (.iastore, 1) := by decide +kernel
theorem dL_isSent_193 : decode cL_isSent 193 = .ok (.aload_n 2, 1) := by decide +kernel
theorem dL_isSent_194 : decode cL_isSent 194 = .ok (.iconst 3, 1) := by decide +kernel
theorem dL_isSent_195 : decode cL_isSent 195 = .ok (.iload 4, 2) := by decide +kernel
theorem dL_isSent_197 : decode cL_isSent 197 = .ok (.iastore, 1) := by decide +kernel
theorem dL_isSent_198 : decode cL_isSent 198 = .ok (.aload_n 2, 1) := by decide +kernel
theorem dL_isSent_199 : decode cL_isSent 199 = .ok (.iconst 4, 1) := by decide +kernel
theorem dL_isSent_200 : decode cL_isSent 200 = .ok (.iload 5, 2) := by decide +kernel
theorem dL_isSent_202 : decode cL_isSent 202 = .ok (.iastore, 1) := by decide +kernel
theorem dL_isSent_203 : decode cL_isSent 203 = .ok (.goto 130, 3) := by decide +kernel
theorem dL_isSent_206 : decode cL_isSent 206 = .ok (.iload 8, 2) := by decide +kernel
theorem dL_isSent_208 : decode cL_isSent 208 = .ok (.ifCond .eq 23, 3) := by decide +kernel
theorem dL_isSent_211 : decode cL_isSent 211 = .ok (.aload_n 0, 1) := by decide +kernel
theorem dL_isSent_212 : decode cL_isSent 212 = .ok (.iconst 0, 1) := by decide +kernel
theorem dL_isSent_213 : decode cL_isSent 213 = .ok (.iload 4, 2) := by decide +kernel
theorem dL_isSent_215 : decode cL_isSent 215 = .ok (.sipush 255, 3) := by decide +kernel
theorem dL_isSent_218 : decode cL_isSent 218 = .ok (.iand, 1) := by decide +kernel
theorem dL_isSent_219 : decode cL_isSent 219 = .ok (.iconst 0, 1) := by decide +kernel
theorem dL_isSent_220 : decode cL_isSent 220 = .ok (.invokestatic 118, 3) := by decide +kernel
theorem dL_isSent_223 : decode cL_isSent 223 = .ok (.iconst 1, 1) := by decide +kernel
theorem dL_isSent_224 : decode cL_isSent 224 = .ok (.if_icmp .ne 7, 3) := by decide +kernel
theorem dL_isSent_227 : decode cL_isSent 227 = .ok (.iconst 1, 1) := by decide +kernel
theorem dL_isSent_228 : decode cL_isSent 228 = .ok (.goto 4, 3) := by decide +kernel
theorem dL_isSent_231 : decode cL_isSent 231 = .ok (.iconst 0, 1) := by decide +kernel
theorem dL_isSent_232 : decode cL_isSent 232 = .ok (.istore 8, 2) := by decide +kernel
theorem dL_isSent_234 : decode cL_isSent 234 = .ok (.iload_n 3, 1) := by decide +kernel
theorem dL_isSent_235 : decode cL_isSent 235 = .ok (.iconst 3, 1) := by decide +kernel
theorem dL_isSent_236 : decode cL_isSent 236 = .ok (.if_icmp .ne 20, 3) := by decide +kernel
theorem dL_isSent_239 : decode cL_isSent 239 = .ok (.aload_n 1, 1) := by decide +kernel
theorem dL_isSent_240 : decode cL_isSent 240 = .ok (.aload_n 2, 1) := by decide +kernel
theorem dL_isSent_241 : decode cL_isSent 241 = .ok (.iconst 3, 1) := by decide +kernel
theorem dL_isSent_242 : decode cL_isSent 242 = .ok (.iload 4, 2) := by decide +kernel
theorem dL_isSent_244 : decode cL_isSent 244 = .ok (.sipush 255, 3) := by decide +kernel
theorem dL_isSent_247 : decode cL_isSent 247 = .ok (.iand, 1) := by decide +kernel
theorem dL_isSent_248 : decode cL_isSent 248 = .ok (.iconst 0, 1) := by decide +kernel
theorem dL_isSent_249 : decode cL_isSent 249 = .ok (.invokestatic 122, 3) := by decide +kernel
theorem dL_isSent_252 : decode cL_isSent 252 = .ok (.pop, 1) := by decide +kernel
theorem dL_isSent_253 : decode cL_isSent 253 = .ok (.goto 80, 3) := by decide +kernel
theorem dL_isSent_256 : decode cL_isSent 256 = .ok (.iload 4, 2) := by decide +kernel
theorem dL_isSent_258 : decode cL_isSent 258 = .ok (.ifCond .le 20, 3) := by decide +kernel
theorem dL_isSent_261 : decode cL_isSent 261 = .ok (.iload 4, 2) := by decide +kernel
theorem dL_isSent_263 : decode cL_isSent 263 = .ok (.bipush 10, 2) := by decide +kernel
theorem dL_isSent_265 : decode cL_isSent 265 = .ok (.if_icmp .ge 13, 3) := by decide +kernel
theorem dL_isSent_268 : decode cL_isSent 268 = .ok (.aload_n 2, 1) := by decide +kernel
theorem dL_isSent_269 : decode cL_isSent 269 = .ok (.iconst 2, 1) := by decide +kernel
theorem dL_isSent_270 : decode cL_isSent 270 = .ok (.iaload, 1) := by decide +kernel
theorem dL_isSent_271 : decode cL_isSent 271 = .ok (.ifCond .le 7, 3) := by decide +kernel
theorem dL_isSent_274 : decode cL_isSent 274 = .ok (.iconst 1, 1) := by decide +kernel
theorem dL_isSent_275 : decode cL_isSent 275 = .ok (.goto 4, 3) := by decide +kernel
theorem dL_isSent_278 : decode cL_isSent 278 = .ok (.iconst 0, 1) := by decide +kernel
theorem dL_isSent_279 : decode cL_isSent 279 = .ok (.istore 9, 2) := by decide +kernel
theorem dL_isSent_281 : decode cL_isSent 281 = .ok (.aload_n 2, 1) := by decide +kernel
theorem dL_isSent_282 : decode cL_isSent 282 = .ok (.iconst 1, 1) := by decide +kernel
theorem dL_isSent_283 : decode cL_isSent 283 = .ok (.dup2, 1) := by decide +kernel
theorem dL_isSent_284 : decode cL_isSent 284 = .ok (.iaload, 1) := by decide +kernel
theorem dL_isSent_285 : decode cL_isSent 285 = .ok (.iload 9, 2) := by decide +kernel
theorem dL_isSent_287 : decode cL_isSent 287 = .ok (.ifCond .eq 7, 3) := by decide +kernel
theorem dL_isSent_290 : decode cL_isSent 290 = .ok (.iconst 0, 1) := by decide +kernel
theorem dL_isSent_291 : decode cL_isSent 291 = .ok (.goto 4, 3) := by decide +kernel
theorem dL_isSent_294 : decode cL_isSent 294 = .ok (.iconst 1, 1) := by decide +kernel
theorem dL_isSent_295 : decode cL_isSent 295 = .ok (.iadd, 1) := by decide +kernel
theorem dL_isSent_296 : decode cL_isSent 296 = .ok (.iastore, 1) := by decide +kernel
theorem dL_isSent_297 : decode cL_isSent 297 = .ok (.iconst 0, 1) := by decide +kernel
theorem dL_isSent_298 : decode cL_isSent 298 = .ok (.istore 10, 2) := by decide +kernel
theorem dL_isSent_300 : decode cL_isSent 300 = .ok (.iload 10, 2) := by decide +kernel
theorem dL_isSent_302 : decode cL_isSent 302 = .ok (.iload 4, 2) := by decide +kernel
theorem dL_isSent_304 : decode cL_isSent 304 = .ok (.if_icmp .ge 29, 3) := by decide +kernel
theorem dL_isSent_307 : decode cL_isSent 307 = .ok (.iload 9, 2) := by decide +kernel
theorem dL_isSent_309 : decode cL_isSent 309 = .ok (.ifCond .eq 24, 3) := by decide +kernel
theorem dL_isSent_312 : decode cL_isSent 312 = .ok (.aload_n 1, 1) := by decide +kernel
theorem dL_isSent_313 : decode cL_isSent 313 = .ok (.aload_n 2, 1) := by decide +kernel
theorem dL_isSent_314 : decode cL_isSent 314 = .ok (.aload_n 2, 1) := by decide +kernel
theorem dL_isSent_315 : decode cL_isSent 315 = .ok (.iconst 2, 1) := by decide +kernel
theorem dL_isSent_316 : decode cL_isSent 316 = .ok (.iaload, 1) := by decide +kernel
theorem dL_isSent_317 : decode cL_isSent 317 = .ok (.aload_n 2, 1) := by decide +kernel
theorem dL_isSent_318 : decode cL_isSent 318 = .ok (.iconst 3, 1) := by decide +kernel
theorem dL_isSent_319 : decode cL_isSent 319 = .ok (.iaload, 1) := by decide +kernel
theorem dL_isSent_320 : decode cL_isSent 320 = .ok (.aload_n 2, 1) := by decide +kernel
theorem dL_isSent_321 : decode cL_isSent 321 = .ok (.iconst 4, 1) := by decide +kernel
theorem dL_isSent_322 : decode cL_isSent 322 = .ok (.iaload, 1) := by decide +kernel
theorem dL_isSent_323 : decode cL_isSent 323 = .ok (.invokestatic 122, 3) := by decide +kernel
theorem dL_isSent_326 : decode cL_isSent 326 = .ok (.pop, 1) := by decide +kernel
theorem dL_isSent_327 : decode cL_isSent 327 = .ok (.iinc 10 1, 3) := by decide +kernel
theorem dL_isSent_330 : decode cL_isSent 330 = .ok (.goto (-30), 3) := by decide +kernel
theorem dL_isSent_333 : decode cL_isSent 333 = .ok (.iload 8, 2) := by decide +kernel
theorem dL_isSent_335 : decode cL_isSent 335 = .ok (.ifCond .eq 42, 3) := by decide +kernel
theorem dL_isSent_338 : decode cL_isSent 338 = .ok (.aload_n 0, 1) := by decide +kernel
theorem dL_isSent_339 : decode cL_isSent 339 = .ok (.invokevirtual 48, 3) := by decide +kernel
theorem dL_isSent_342 : decode cL_isSent 342 = .ok (.ifCond .ne 35, 3) := by decide +kernel
theorem dL_isSent_345 : decode cL_isSent 345 = .ok (.aload_n 0, 1) := by decide +kernel
theorem dL_isSent_346 : decode cL_isSent 346 = .ok (.invokevirtual 68, 3) := by decide +kernel
theorem dL_isSent_349 : decode cL_isSent 349 = .ok (.iload 6, 2) := by decide +kernel
theorem dL_isSent_351 : decode cL_isSent 351 = .ok (.if_icmp .lt 26, 3) := by decide +kernel
theorem dL_isSent_354 : decode cL_isSent 354 = .ok (.iload_n 3, 1) := by decide +kernel
theorem dL_isSent_355 : decode cL_isSent 355 = .ok (.iconst 1, 1) := by decide +kernel
theorem dL_isSent_356 : decode cL_isSent 356 = .ok (.if_icmp .eq 8, 3) := by decide +kernel
theorem dL_isSent_359 : decode cL_isSent 359 = .ok (.iload_n 3, 1) := by decide +kernel
theorem dL_isSent_360 : decode cL_isSent 360 = .ok (.iconst 3, 1) := by decide +kernel
theorem dL_isSent_361 : decode cL_isSent 361 = .ok (.if_icmp .ne 12, 3) := by decide +kernel
theorem dL_isSent_364 : decode cL_isSent 364 = .ok (.aload_n 0, 1) := by decide +kernel
theorem dL_isSent_365 : decode cL_isSent 365 = .ok (.invokevirtual 68, 3) := by decide +kernel
theorem dL_isSent_368 : decode cL_isSent 368 = .ok (.iload 6, 2) := by decide +kernel
theorem dL_isSent_370 : decode cL_isSent 370 = .ok (.if_icmp .ne 7, 3) := by decide +kernel
theorem dL_isSent_373 : decode cL_isSent 373 = .ok (.iconst 1, 1) := by decide +kernel
theorem dL_isSent_374 : decode cL_isSent 374 = .ok (.goto 4, 3) := by decide +kernel
theorem dL_isSent_377 : decode cL_isSent 377 = .ok (.iconst 0, 1) := by decide +kernel
theorem dL_isSent_378 : decode cL_isSent 378 = .ok (.ireturn, 1) := by decide +kernel
theorem dL_isCut_0 : decode cL_isCut 0 = .ok (.aload_n 0, 1) := by decide +kernel
theorem dL_isCut_1 : decode cL_isCut 1 = .ok (.invokevirtual 78, 3) := by decide +kernel
theorem dL_isCut_4 : decode cL_isCut 4 = .ok (.istore_n 3, 1) := by decide +kernel
theorem dL_isCut_5 : decode cL_isCut 5 = .ok (.aload_n 0, 1) := by decide +kernel
theorem dL_isCut_6 : decode cL_isCut 6 = .ok (.invokevirtual 83, 3) := by decide +kernel
theorem dL_isCut_9 : decode cL_isCut 9 = .ok (.istore 4, 2) := by decide +kernel
theorem dL_isCut_11 : decode cL_isCut 11 = .ok (.aload_n 0, 1) := by decide +kernel
theorem dL_isCut_12 : decode cL_isCut 12 = .ok (.invokevirtual 63, 3) := by decide +kernel
theorem dL_isCut_15 : decode cL_isCut 15 = .ok (.istore 5, 2) := by decide +kernel
theorem dL_isCut_17 : decode cL_isCut 17 = .ok (.aload_n 0, 1) := by decide +kernel
theorem dL_isCut_18 : decode cL_isCut 18 = .ok (.invokevirtual 73, 3) := by decide +kernel
theorem dL_isCut_21 : decode cL_isCut 21 = .ok (.istore 6, 2) := by decide +kernel
theorem dL_isCut_23 : decode cL_isCut 23 = .ok (.aload_n 0, 1) := by decide +kernel
theorem dL_isCut_24 : decode cL_isCut 24 = .ok (.invokevirtual 130, 3) := by decide +kernel
theorem dL_isCut_27 : decode cL_isCut 27 = .ok (.istore 7, 2) := by decide +kernel
theorem dL_isCut_29 : decode cL_isCut 29 = .ok (.iload 7, 2) := by decide +kernel
theorem dL_isCut_31 : decode cL_isCut 31 = .ok (.aload_n 2, 1) := by decide +kernel
theorem dL_isCut_32 : decode cL_isCut 32 = .ok (.bipush 7, 2) := by decide +kernel
theorem dL_isCut_34 : decode cL_isCut 34 = .ok (.iaload, 1) := by decide +kernel
theorem dL_isCut_35 : decode cL_isCut 35 = .ok (.bipush 10, 2) := by decide +kernel
theorem dL_isCut_37 : decode cL_isCut 37 = .ok (.irem, 1) := by decide +kernel
theorem dL_isCut_38 : decode cL_isCut 38 = .ok (.if_icmp .ne 7, 3) := by decide +kernel
theorem dL_isCut_41 : decode cL_isCut 41 = .ok (.iconst 1, 1) := by decide +kernel
theorem dL_isCut_42 : decode cL_isCut 42 = .ok (.goto 4, 3) := by decide +kernel
theorem dL_isCut_45 : decode cL_isCut 45 = .ok (.iconst 0, 1) := by decide +kernel
theorem dL_isCut_46 : decode cL_isCut 46 = .ok (.istore 8, 2) := by decide +kernel
theorem dL_isCut_48 : decode cL_isCut 48 = .ok (.aload_n 2, 1) := by decide +kernel
theorem dL_isCut_49 : decode cL_isCut 49 = .ok (.bipush 7, 2) := by decide +kernel
theorem dL_isCut_51 : decode cL_isCut 51 = .ok (.dup2, 1) := by decide +kernel
theorem dL_isCut_52 : decode cL_isCut 52 = .ok (.iaload, 1) := by decide +kernel
theorem dL_isCut_53 : decode cL_isCut 53 = .ok (.iload 7, 2) := by decide +kernel
theorem dL_isCut_55 : decode cL_isCut 55 = .ok (.isub, 1) := by decide +kernel
theorem dL_isCut_56 : decode cL_isCut 56 = .ok (.iastore, 1) := by decide +kernel
theorem dL_isCut_57 : decode cL_isCut 57 = .ok (.iload 8, 2) := by decide +kernel
theorem dL_isCut_59 : decode cL_isCut 59 = .ok (.ifCond .eq 76, 3) := by decide +kernel
theorem dL_isCut_62 : decode cL_isCut 62 = .ok (.aload_n 0, 1) := by decide +kernel
theorem dL_isCut_63 : decode cL_isCut 63 = .ok (.invokevirtual 90, 3) := by decide +kernel
theorem dL_isCut_66 : decode cL_isCut 66 = .ok (.ifCond .ne 69, 3) := by decide +kernel
theorem dL_isCut_69 : decode cL_isCut 69 = .ok (.aload_n 0, 1) := by decide +kernel
theorem dL_isCut_70 : decode cL_isCut 70 = .ok (.invokevirtual 48, 3) := by decide +kernel
theorem dL_isCut_73 : decode cL_isCut 73 = .ok (.ifCond .ne 62, 3) := by decide +kernel
theorem dL_isCut_76 : decode cL_isCut 76 = .ok (.aload_n 0, 1) := by decide +kernel
theorem dL_isCut_77 : decode cL_isCut 77 = .ok (.invokevirtual 78, 3) := by decide +kernel
theorem dL_isCut_80 : decode cL_isCut 80 = .ok (.iload_n 3, 1) := by decide +kernel
theorem dL_isCut_81 : decode cL_isCut 81 = .ok (.if_icmp .ne 54, 3) := by decide +kernel
theorem dL_isCut_84 : decode cL_isCut 84 = .ok (.aload_n 0, 1) := by decide +kernel
theorem dL_isCut_85 : decode cL_isCut 85 = .ok (.invokevirtual 83, 3) := by decide +kernel
theorem dL_isCut_88 : decode cL_isCut 88 = .ok (.iload 4, 2) := by decide +kernel
theorem dL_isCut_90 : decode cL_isCut 90 = .ok (.if_icmp .ne 45, 3) := by decide +kernel
theorem dL_isCut_93 : decode cL_isCut 93 = .ok (.aload_n 0, 1) := by decide +kernel
theorem dL_isCut_94 : decode cL_isCut 94 = .ok (.invokevirtual 63, 3) := by decide +kernel
theorem dL_isCut_97 : decode cL_isCut 97 = .ok (.iload 5, 2) := by decide +kernel
theorem dL_isCut_99 : decode cL_isCut 99 = .ok (.if_icmp .ne 36, 3) := by decide +kernel
theorem dL_isCut_102 : decode cL_isCut 102 = .ok (.aload_n 0, 1) := by decide +kernel
theorem dL_isCut_103 : decode cL_isCut 103 = .ok (.invokevirtual 73, 3) := by decide +kernel
theorem dL_isCut_106 : decode cL_isCut 106 = .ok (.iload 6, 2) := by decide +kernel
theorem dL_isCut_108 : decode cL_isCut 108 = .ok (.if_icmp .ne 27, 3) := by decide +kernel
theorem dL_isCut_111 : decode cL_isCut 111 = .ok (.aload_n 0, 1) := by decide +kernel
theorem dL_isCut_112 : decode cL_isCut 112 = .ok (.invokevirtual 58, 3) := by decide +kernel
theorem dL_isCut_115 : decode cL_isCut 115 = .ok (.aload_n 0, 1) := by decide +kernel
theorem dL_isCut_116 : decode cL_isCut 116 = .ok (.aload_n 1, 1) := by decide +kernel
theorem dL_isCut_117 : decode cL_isCut 117 = .ok (.aload_n 2, 1) := by decide +kernel
theorem dL_isCut_118 : decode cL_isCut 118 = .ok (.invokestatic 106, 3) := by decide +kernel
theorem dL_isCut_121 : decode cL_isCut 121 = .ok (.if_icmp .ne 14, 3) := by decide +kernel
theorem dL_isCut_124 : decode cL_isCut 124 = .ok (.aload_n 0, 1) := by decide +kernel
theorem dL_isCut_125 : decode cL_isCut 125 = .ok (.invokevirtual 130, 3) := by decide +kernel
theorem dL_isCut_128 : decode cL_isCut 128 = .ok (.ifCond .ne 7, 3) := by decide +kernel
theorem dL_isCut_131 : decode cL_isCut 131 = .ok (.iconst 1, 1) := by decide +kernel
theorem dL_isCut_132 : decode cL_isCut 132 = .ok (.goto 4, 3) := by decide +kernel
theorem dL_isCut_135 : decode cL_isCut 135 = .ok (.iconst 0, 1) := by decide +kernel
theorem dL_isCut_136 : decode cL_isCut 136 = .ok (.ireturn, 1) := by decide +kernel
theorem dL_isRefused_0 : decode cL_isRefused 0 = .ok (.iload_n 1, 1) := by decide +kernel
theorem dL_isRefused_1 : decode cL_isRefused 1 = .ok (.iconst 2, 1) := by decide +kernel
theorem dL_isRefused_2 : decode cL_isRefused 2 = .ok (.irem, 1) := by decide +kernel
theorem dL_isRefused_3 : decode cL_isRefused 3 = .ok (.ifCond .ne 7, 3) := by decide +kernel
theorem dL_isRefused_6 : decode cL_isRefused 6 = .ok (.iconst 1, 1) := by decide +kernel
theorem dL_isRefused_7 : decode cL_isRefused 7 = .ok (.goto 4, 3) := by decide +kernel
theorem dL_isRefused_10 : decode cL_isRefused 10 = .ok (.iconst 0, 1) := by decide +kernel
theorem dL_isRefused_11 : decode cL_isRefused 11 = .ok (.istore_n 2, 1) := by decide +kernel
theorem dL_isRefused_12 : decode cL_isRefused 12 = .ok (.iload_n 2, 1) := by decide +kernel
theorem dL_isRefused_13 : decode cL_isRefused 13 = .ok (.ifCond .eq 12, 3) := by decide +kernel
theorem dL_isRefused_16 : decode cL_isRefused 16 = .ok (.iconst (-1), 1) := by decide +kernel
theorem dL_isRefused_17 : decode cL_isRefused 17 = .ok (.iload_n 1, 1) := by decide +kernel
theorem dL_isRefused_18 : decode cL_isRefused 18 = .ok (.bipush 30, 2) := by decide +kernel
theorem dL_isRefused_20 : decode cL_isRefused 20 = .ok (.irem, 1) := by decide +kernel
theorem dL_isRefused_21 : decode cL_isRefused 21 = .ok (.isub, 1) := by decide +kernel
theorem dL_isRefused_22 : decode cL_isRefused 22 = .ok (.goto 9, 3) := by decide +kernel
theorem dL_isRefused_25 : decode cL_isRefused 25 = .ok (.iconst 3, 1) := by decide +kernel
theorem dL_isRefused_26 : decode cL_isRefused 26 = .ok (.iload_n 1, 1) := by decide +kernel
theorem dL_isRefused_27 : decode cL_isRefused 27 = .ok (.bipush 30, 2) := by decide +kernel
theorem dL_isRefused_29 : decode cL_isRefused 29 = .ok (.irem, 1) := by decide +kernel
theorem dL_isRefused_30 : decode cL_isRefused 30 = .ok (.iadd, 1) := by decide +kernel
theorem dL_isRefused_31 : decode cL_isRefused 31 = .ok (.istore_n 3, 1) := by decide +kernel
theorem dL_isRefused_32 : decode cL_isRefused 32 = .ok (.iload_n 2, 1) := by decide +kernel
theorem dL_isRefused_33 : decode cL_isRefused 33 = .ok (.ifCond .eq 12, 3) := by decide +kernel
theorem dL_isRefused_36 : decode cL_isRefused 36 = .ok (.iconst (-1), 1) := by decide +kernel
theorem dL_isRefused_37 : decode cL_isRefused 37 = .ok (.iload_n 1, 1) := by decide +kernel
theorem dL_isRefused_38 : decode cL_isRefused 38 = .ok (.bipush 30, 2) := by decide +kernel
theorem dL_isRefused_40 : decode cL_isRefused 40 = .ok (.irem, 1) := by decide +kernel
theorem dL_isRefused_41 : decode cL_isRefused 41 = .ok (.isub, 1) := by decide +kernel
theorem dL_isRefused_42 : decode cL_isRefused 42 = .ok (.goto 10, 3) := by decide +kernel
theorem dL_isRefused_45 : decode cL_isRefused 45 = .ok (.bipush 100, 2) := by decide +kernel
theorem dL_isRefused_47 : decode cL_isRefused 47 = .ok (.iload_n 1, 1) := by decide +kernel
theorem dL_isRefused_48 : decode cL_isRefused 48 = .ok (.bipush 30, 2) := by decide +kernel
theorem dL_isRefused_50 : decode cL_isRefused 50 = .ok (.irem, 1) := by decide +kernel
theorem dL_isRefused_51 : decode cL_isRefused 51 = .ok (.iadd, 1) := by decide +kernel
theorem dL_isRefused_52 : decode cL_isRefused 52 = .ok (.istore 4, 2) := by decide +kernel
theorem dL_isRefused_54 : decode cL_isRefused 54 = .ok (.aload_n 0, 1) := by decide +kernel
theorem dL_isRefused_55 : decode cL_isRefused 55 = .ok (.invokestatic 114, 3) := by decide +kernel
theorem dL_isRefused_58 : decode cL_isRefused 58 = .ok (.lstore 5, 2) := by decide +kernel
theorem dL_isRefused_60 : decode cL_isRefused 60 = .ok (.aload_n 0, 1) := by decide +kernel
theorem dL_isRefused_61 : decode cL_isRefused 61 = .ok (.iconst 0, 1) := by decide +kernel
theorem dL_isRefused_62 : decode cL_isRefused 62 = .ok (.iload_n 2, 1) := by decide +kernel
theorem dL_isRefused_63 : decode cL_isRefused 63 = .ok (.ifCond .eq 12, 3) := by decide +kernel
theorem dL_isRefused_66 : decode cL_isRefused 66 = .ok (.iconst (-1), 1) := by decide +kernel
theorem dL_isRefused_67 : decode cL_isRefused 67 = .ok (.iload_n 1, 1) := by decide +kernel
theorem dL_isRefused_68 : decode cL_isRefused 68 = .ok (.bipush 30, 2) := by decide +kernel
theorem dL_isRefused_70 : decode cL_isRefused 70 = .ok (.irem, 1) := by decide +kernel
theorem dL_isRefused_71 : decode cL_isRefused 71 = .ok (.isub, 1) := by decide +kernel
theorem dL_isRefused_72 : decode cL_isRefused 72 = .ok (.goto 11, 3) := by decide +kernel
theorem dL_isRefused_75 : decode cL_isRefused 75 = .ok (.sipush 256, 3) := by decide +kernel
theorem dL_isRefused_78 : decode cL_isRefused 78 = .ok (.iload_n 1, 1) := by decide +kernel
theorem dL_isRefused_79 : decode cL_isRefused 79 = .ok (.bipush 30, 2) := by decide +kernel
theorem dL_isRefused_81 : decode cL_isRefused 81 = .ok (.irem, 1) := by decide +kernel
theorem dL_isRefused_82 : decode cL_isRefused 82 = .ok (.iadd, 1) := by decide +kernel
theorem dL_isRefused_83 : decode cL_isRefused 83 = .ok (.iconst 0, 1) := by decide +kernel
theorem dL_isRefused_84 : decode cL_isRefused 84 = .ok (.invokestatic 118, 3) := by decide +kernel
theorem dL_isRefused_87 : decode cL_isRefused 87 = .ok (.sipush (-1152), 3) := by decide +kernel
theorem dL_isRefused_90 : decode cL_isRefused 90 = .ok (.if_icmp .ne 134, 3) := by decide +kernel
theorem dL_isRefused_93 : decode cL_isRefused 93 = .ok (.aload_n 0, 1) := by decide +kernel
theorem dL_isRefused_94 : decode cL_isRefused 94 = .ok (.iconst 1, 1) := by decide +kernel
theorem dL_isRefused_95 : decode cL_isRefused 95 = .ok (.iload_n 2, 1) := by decide +kernel
theorem dL_isRefused_96 : decode cL_isRefused 96 = .ok (.ifCond .eq 12, 3) := by decide +kernel
theorem dL_isRefused_99 : decode cL_isRefused 99 = .ok (.iconst 0, 1) := by decide +kernel
theorem dL_isRefused_100 : decode cL_isRefused 100 = .ok (.iload_n 1, 1) := by decide +kernel
theorem dL_isRefused_101 : decode cL_isRefused 101 = .ok (.bipush 30, 2) := by decide +kernel
theorem dL_isRefused_103 : decode cL_isRefused 103 = .ok (.irem, 1) := by decide +kernel
theorem dL_isRefused_104 : decode cL_isRefused 104 = .ok (.isub, 1) := by decide +kernel
theorem dL_isRefused_105 : decode cL_isRefused 105 = .ok (.goto 6, 3) := by decide +kernel
theorem dL_isRefused_108 : decode cL_isRefused 108 = .ok (.sipush 1001, 3) := by decide +kernel
theorem dL_isRefused_111 : decode cL_isRefused 111 = .ok (.iconst 0, 1) := by decide +kernel
theorem dL_isRefused_112 : decode cL_isRefused 112 = .ok (.invokestatic 118, 3) := by decide +kernel
theorem dL_isRefused_115 : decode cL_isRefused 115 = .ok (.sipush (-1152), 3) := by decide +kernel
theorem dL_isRefused_118 : decode cL_isRefused 118 = .ok (.if_icmp .ne 106, 3) := by decide +kernel
theorem dL_isRefused_121 : decode cL_isRefused 121 = .ok (.aload_n 0, 1) := by decide +kernel
theorem dL_isRefused_122 : decode cL_isRefused 122 = .ok (.iconst 2, 1) := by decide +kernel
theorem dL_isRefused_123 : decode cL_isRefused 123 = .ok (.iload_n 3, 1) := by decide +kernel
theorem dL_isRefused_124 : decode cL_isRefused 124 = .ok (.iconst 0, 1) := by decide +kernel
theorem dL_isRefused_125 : decode cL_isRefused 125 = .ok (.invokestatic 118, 3) := by decide +kernel
theorem dL_isRefused_128 : decode cL_isRefused 128 = .ok (.sipush (-1151), 3) := by decide +kernel
theorem dL_isRefused_131 : decode cL_isRefused 131 = .ok (.if_icmp .ne 93, 3) := by decide +kernel
theorem dL_isRefused_134 : decode cL_isRefused 134 = .ok (.aload_n 0, 1) := by decide +kernel
theorem dL_isRefused_135 : decode cL_isRefused 135 = .ok (.iconst 3, 1) := by decide +kernel
theorem dL_isRefused_136 : decode cL_isRefused 136 = .ok (.iload_n 3, 1) := by decide +kernel
theorem dL_isRefused_137 : decode cL_isRefused 137 = .ok (.iconst 0, 1) := by decide +kernel
theorem dL_isRefused_138 : decode cL_isRefused 138 = .ok (.invokestatic 118, 3) := by decide +kernel
theorem dL_isRefused_141 : decode cL_isRefused 141 = .ok (.sipush (-1151), 3) := by decide +kernel
theorem dL_isRefused_144 : decode cL_isRefused 144 = .ok (.if_icmp .ne 80, 3) := by decide +kernel
theorem dL_isRefused_147 : decode cL_isRefused 147 = .ok (.aload_n 0, 1) := by decide +kernel
theorem dL_isRefused_148 : decode cL_isRefused 148 = .ok (.iconst 3, 1) := by decide +kernel
theorem dL_isRefused_149 : decode cL_isRefused 149 = .ok (.iload_n 1, 1) := by decide +kernel
theorem dL_isRefused_150 : decode cL_isRefused 150 = .ok (.iconst 2, 1) := by decide +kernel
theorem dL_isRefused_151 : decode cL_isRefused 151 = .ok (.idiv, 1) := by decide +kernel
theorem dL_isRefused_152 : decode cL_isRefused 152 = .ok (.iconst 3, 1) := by decide +kernel
theorem dL_isRefused_153 : decode cL_isRefused 153 = .ok (.irem, 1) := by decide +kernel
theorem dL_isRefused_154 : decode cL_isRefused 154 = .ok (.iload_n 2, 1) := by decide +kernel
theorem dL_isRefused_155 : decode cL_isRefused 155 = .ok (.ifCond .eq 12, 3) := by decide +kernel
theorem dL_isRefused_158 : decode cL_isRefused 158 = .ok (.iconst 0, 1) := by decide +kernel
theorem dL_isRefused_159 : decode cL_isRefused 159 = .ok (.iload_n 1, 1) := by decide +kernel
theorem dL_isRefused_160 : decode cL_isRefused 160 = .ok (.bipush 30, 2) := by decide +kernel
theorem dL_isRefused_162 : decode cL_isRefused 162 = .ok (.irem, 1) := by decide +kernel
theorem dL_isRefused_163 : decode cL_isRefused 163 = .ok (.isub, 1) := by decide +kernel
theorem dL_isRefused_164 : decode cL_isRefused 164 = .ok (.goto 6, 3) := by decide +kernel
theorem dL_isRefused_167 : decode cL_isRefused 167 = .ok (.sipush 501, 3) := by decide +kernel
theorem dL_isRefused_170 : decode cL_isRefused 170 = .ok (.invokestatic 118, 3) := by decide +kernel
theorem dL_isRefused_173 : decode cL_isRefused 173 = .ok (.sipush (-1152), 3) := by decide +kernel
theorem dL_isRefused_176 : decode cL_isRefused 176 = .ok (.if_icmp .ne 48, 3) := by decide +kernel
theorem dL_isRefused_179 : decode cL_isRefused 179 = .ok (.aload_n 0, 1) := by decide +kernel
theorem dL_isRefused_180 : decode cL_isRefused 180 = .ok (.iconst 4, 1) := by decide +kernel
theorem dL_isRefused_181 : decode cL_isRefused 181 = .ok (.iload_n 3, 1) := by decide +kernel
theorem dL_isRefused_182 : decode cL_isRefused 182 = .ok (.iconst 0, 1) := by decide +kernel
theorem dL_isRefused_183 : decode cL_isRefused 183 = .ok (.invokestatic 118, 3) := by decide +kernel
theorem dL_isRefused_186 : decode cL_isRefused 186 = .ok (.sipush (-1151), 3) := by decide +kernel
theorem dL_isRefused_189 : decode cL_isRefused 189 = .ok (.if_icmp .ne 35, 3) := by decide +kernel
theorem dL_isRefused_192 : decode cL_isRefused 192 = .ok (.aload_n 0, 1) := by decide +kernel
theorem dL_isRefused_193 : decode cL_isRefused 193 = .ok (.iconst 5, 1) := by decide +kernel
theorem dL_isRefused_194 : decode cL_isRefused 194 = .ok (.iload 4, 2) := by decide +kernel
theorem dL_isRefused_196 : decode cL_isRefused 196 = .ok (.iconst 5, 1) := by decide +kernel
theorem dL_isRefused_197 : decode cL_isRefused 197 = .ok (.invokestatic 118, 3) := by decide +kernel
theorem dL_isRefused_200 : decode cL_isRefused 200 = .ok (.sipush (-1151), 3) := by decide +kernel
theorem dL_isRefused_203 : decode cL_isRefused 203 = .ok (.if_icmp .ne 21, 3) := by decide +kernel
theorem dL_isRefused_206 : decode cL_isRefused 206 = .ok (.aload_n 0, 1) := by decide +kernel
theorem dL_isRefused_207 : decode cL_isRefused 207 = .ok (.iconst 5, 1) := by decide +kernel
theorem dL_isRefused_208 : decode cL_isRefused 208 = .ok (.iconst 5, 1) := by decide +kernel
theorem dL_isRefused_209 : decode cL_isRefused 209 = .ok (.iload 4, 2) := by decide +kernel
theorem dL_isRefused_211 : decode cL_isRefused 211 = .ok (.invokestatic 118, 3) := by decide +kernel
theorem dL_isRefused_214 : decode cL_isRefused 214 = .ok (.sipush (-1151), 3) := by decide +kernel
theorem dL_isRefused_217 : decode cL_isRefused 217 = .ok (.if_icmp .ne 7, 3) := by decide +kernel
theorem dL_isRefused_220 : decode cL_isRefused 220 = .ok (.iconst 1, 1) := by decide +kernel
theorem dL_isRefused_221 : decode cL_isRefused 221 = .ok (.goto 4, 3) := by decide +kernel
theorem dL_isRefused_224 : decode cL_isRefused 224 = .ok (.iconst 0, 1) := by decide +kernel
theorem dL_isRefused_225 : decode cL_isRefused 225 = .ok (.istore 7, 2) := by decide +kernel
theorem dL_isRefused_227 : decode cL_isRefused 227 = .ok (.iload 7, 2) := by decide +kernel
theorem dL_isRefused_229 : decode cL_isRefused 229 = .ok (.ifCond .eq 17, 3) := by decide +kernel
theorem dL_isRefused_232 : decode cL_isRefused 232 = .ok (.aload_n 0, 1) := by decide +kernel
theorem dL_isRefused_233 : decode cL_isRefused 233 = .ok (.invokestatic 114, 3) := by decide +kernel
theorem dL_isRefused_236 : decode cL_isRefused 236 = .ok (.lload 5, 2) := by decide +kernel
theorem dL_isRefused_238 : decode cL_isRefused 238 = .ok (.lcmp, 1) := by decide +kernel
theorem dL_isRefused_239 : decode cL_isRefused 239 = .ok (.ifCond .ne 7, 3) := by decide +kernel
theorem dL_isRefused_242 : decode cL_isRefused 242 = .ok (.iconst 1, 1) := by decide +kernel
theorem dL_isRefused_243 : decode cL_isRefused 243 = .ok (.goto 4, 3) := by decide +kernel
theorem dL_isRefused_246 : decode cL_isRefused 246 = .ok (.iconst 0, 1) := by decide +kernel
theorem dL_isRefused_247 : decode cL_isRefused 247 = .ok (.ireturn, 1) := by decide +kernel
