theorem dL_law_0 : decode cL_law 0 = .ok (.new 44, 3) := by decide +kernel
theorem dL_law_3 : decode cL_law 3 = .ok (.dup, 1) := by decide +kernel
theorem dL_law_4 : decode cL_law 4 = .ok (.invokespecial 142, 3) := by decide +kernel
theorem dL_law_7 : decode cL_law 7 = .ok (.astore_n 1, 1) := by decide +kernel
theorem dL_law_8 : decode cL_law 8 = .ok (.bipush 32, 2) := by decide +kernel
theorem dL_law_10 : decode cL_law 10 = .ok (.newarray .int, 2) := by decide +kernel
theorem dL_law_12 : decode cL_law 12 = .ok (.astore_n 2, 1) := by decide +kernel
theorem dL_law_13 : decode cL_law 13 = .ok (.bipush 32, 2) := by decide +kernel
theorem dL_law_15 : decode cL_law 15 = .ok (.newarray .int, 2) := by decide +kernel
theorem dL_law_17 : decode cL_law 17 = .ok (.astore_n 3, 1) := by decide +kernel
theorem dL_law_18 : decode cL_law 18 = .ok (.bipush 32, 2) := by decide +kernel
theorem dL_law_20 : decode cL_law 20 = .ok (.newarray .int, 2) := by decide +kernel
theorem dL_law_22 : decode cL_law 22 = .ok (.astore 4, 2) := by decide +kernel
theorem dL_law_24 : decode cL_law 24 = .ok (.bipush 32, 2) := by decide +kernel
theorem dL_law_26 : decode cL_law 26 = .ok (.newarray .int, 2) := by decide +kernel
theorem dL_law_28 : decode cL_law 28 = .ok (.astore 5, 2) := by decide +kernel
theorem dL_law_30 : decode cL_law 30 = .ok (.bipush 32, 2) := by decide +kernel
theorem dL_law_32 : decode cL_law 32 = .ok (.newarray .int, 2) := by decide +kernel
theorem dL_law_34 : decode cL_law 34 = .ok (.astore 6, 2) := by decide +kernel
theorem dL_law_36 : decode cL_law 36 = .ok (.bipush 33, 2) := by decide +kernel
theorem dL_law_38 : decode cL_law 38 = .ok (.newarray .int, 2) := by decide +kernel
theorem dL_law_40 : decode cL_law 40 = .ok (.astore 7, 2) := by decide +kernel
theorem dL_law_42 : decode cL_law 42 = .ok (.bipush 8, 2) := by decide +kernel
theorem dL_law_44 : decode cL_law 44 = .ok (.newarray .int, 2) := by decide +kernel
theorem dL_law_46 : decode cL_law 46 = .ok (.astore 8, 2) := by decide +kernel
theorem dL_law_48 : decode cL_law 48 = .ok (.bipush 64, 2) := by decide +kernel
theorem dL_law_50 : decode cL_law 50 = .ok (.newarray .long, 2) := by decide +kernel
theorem dL_law_52 : decode cL_law 52 = .ok (.astore 9, 2) := by decide +kernel
theorem dL_law_54 : decode cL_law 54 = .ok (.iconst 5, 1) := by decide +kernel
theorem dL_law_55 : decode cL_law 55 = .ok (.newarray .long, 2) := by decide +kernel
theorem dL_law_57 : decode cL_law 57 = .ok (.astore 10, 2) := by decide +kernel
theorem dL_law_59 : decode cL_law 59 = .ok (.aload 8, 2) := by decide +kernel
theorem dL_law_61 : decode cL_law 61 = .ok (.iconst 1, 1) := by decide +kernel
theorem dL_law_62 : decode cL_law 62 = .ok (.bipush 100, 2) := by decide +kernel
theorem dL_law_64 : decode cL_law 64 = .ok (.iastore, 1) := by decide +kernel
theorem dL_law_65 : decode cL_law 65 = .ok (.aload 8, 2) := by decide +kernel
theorem dL_law_67 : decode cL_law 67 = .ok (.iconst 2, 1) := by decide +kernel
theorem dL_law_68 : decode cL_law 68 = .ok (.sipush 1000, 3) := by decide +kernel
theorem dL_law_71 : decode cL_law 71 = .ok (.iastore, 1) := by decide +kernel
theorem dL_law_72 : decode cL_law 72 = .ok (.aload_n 1, 1) := by decide +kernel
theorem dL_law_73 : decode cL_law 73 = .ok (.aload_n 2, 1) := by decide +kernel
theorem dL_law_74 : decode cL_law 74 = .ok (.aload_n 3, 1) := by decide +kernel
theorem dL_law_75 : decode cL_law 75 = .ok (.aload 4, 2) := by decide +kernel
theorem dL_law_77 : decode cL_law 77 = .ok (.aload 5, 2) := by decide +kernel
theorem dL_law_79 : decode cL_law 79 = .ok (.aload 7, 2) := by decide +kernel
theorem dL_law_81 : decode cL_law 81 = .ok (.aload 8, 2) := by decide +kernel
theorem dL_law_83 : decode cL_law 83 = .ok (.aload 9, 2) := by decide +kernel
theorem dL_law_85 : decode cL_law 85 = .ok (.aload 10, 2) := by decide +kernel
theorem dL_law_87 : decode cL_law 87 = .ok (.bipush 9, 2) := by decide +kernel
theorem dL_law_89 : decode cL_law 89 = .ok (.invokestatic 143, 3) := by decide +kernel
theorem dL_law_92 : decode cL_law 92 = .ok (.istore 11, 2) := by decide +kernel
theorem dL_law_94 : decode cL_law 94 = .ok (.iconst 0, 1) := by decide +kernel
theorem dL_law_95 : decode cL_law 95 = .ok (.istore 12, 2) := by decide +kernel
theorem dL_law_97 : decode cL_law 97 = .ok (.iload 12, 2) := by decide +kernel
theorem dL_law_99 : decode cL_law 99 = .ok (.bipush 100, 2) := by decide +kernel
theorem dL_law_101 : decode cL_law 101 = .ok (.if_icmp .ge 790, 3) := by decide +kernel
theorem dL_law_104 : decode cL_law 104 = .ok (.iload 11, 2) := by decide +kernel
theorem dL_law_106 : decode cL_law 106 = .ok (.ifCond .eq 785, 3) := by decide +kernel
theorem dL_law_109 : decode cL_law 109 = .ok (.iload 12, 2) := by decide +kernel
theorem dL_law_111 : decode cL_law 111 = .ok (.aload_n 0, 1) := by decide +kernel
theorem dL_law_112 : decode cL_law 112 = .ok (.arraylength, 1) := by decide +kernel
theorem dL_law_113 : decode cL_law 113 = .ok (.if_icmp .ge 13, 3) := by decide +kernel
theorem dL_law_116 : decode cL_law 116 = .ok (.aload_n 0, 1) := by decide +kernel
theorem dL_law_117 : decode cL_law 117 = .ok (.iload 12, 2) := by decide +kernel
theorem dL_law_119 : decode cL_law 119 = .ok (.iaload, 1) := by decide +kernel
theorem dL_law_120 : decode cL_law 120 = .ok (.ldc 147, 2) := by decide +kernel
theorem dL_law_122 : decode cL_law 122 = .ok (.iand, 1) := by decide +kernel
theorem dL_law_123 : decode cL_law 123 = .ok (.goto 24, 3) := by decide +kernel
theorem dL_law_126 : decode cL_law 126 = .ok (.ldc 148, 2) := by decide +kernel
theorem dL_law_128 : decode cL_law 128 = .ok (.iload 12, 2) := by decide +kernel
theorem dL_law_130 : decode cL_law 130 = .ok (.imul, 1) := by decide +kernel
theorem dL_law_131 : decode cL_law 131 = .ok (.iload 12, 2) := by decide +kernel
theorem dL_law_133 : decode cL_law 133 = .ok (.imul, 1) := by decide +kernel
theorem dL_law_134 : decode cL_law 134 = .ok (.sipush 3001, 3) := by decide +kernel
theorem dL_law_137 : decode cL_law 137 = .ok (.iload 12, 2) := by decide +kernel
theorem dL_law_139 : decode cL_law 139 = .ok (.imul, 1) := by decide +kernel
theorem dL_law_140 : decode cL_law 140 = .ok (.iadd, 1) := by decide +kernel
theorem dL_law_141 : decode cL_law 141 = .ok (.bipush 47, 2) := by decide +kernel
theorem dL_law_143 : decode cL_law 143 = .ok (.iadd, 1) := by decide +kernel
theorem dL_law_144 : decode cL_law 144 = .ok (.ldc 147, 2) := by decide +kernel
theorem dL_law_146 : decode cL_law 146 = .ok (.iand, 1) := by decide +kernel
theorem dL_law_147 : decode cL_law 147 = .ok (.istore 13, 2) := by decide +kernel
theorem dL_law_149 : decode cL_law 149 = .ok (.iload 13, 2) := by decide +kernel
theorem dL_law_151 : decode cL_law 151 = .ok (.bipush 16, 2) := by decide +kernel
theorem dL_law_153 : decode cL_law 153 = .ok (.irem, 1) := by decide +kernel
theorem dL_law_154 : decode cL_law 154 = .ok (.istore 14, 2) := by decide +kernel
theorem dL_law_156 : decode cL_law 156 = .ok (.iload 13, 2) := by decide +kernel
theorem dL_law_158 : decode cL_law 158 = .ok (.bipush 16, 2) := by decide +kernel
theorem dL_law_160 : decode cL_law 160 = .ok (.idiv, 1) := by decide +kernel
theorem dL_law_161 : decode cL_law 161 = .ok (.istore 15, 2) := by decide +kernel
theorem dL_law_163 : decode cL_law 163 = .ok (.iload 15, 2) := by decide +kernel
theorem dL_law_165 : decode cL_law 165 = .ok (.iconst 3, 1) := by decide +kernel
theorem dL_law_166 : decode cL_law 166 = .ok (.irem, 1) := by decide +kernel
theorem dL_law_167 : decode cL_law 167 = .ok (.ifCond .ne 13, 3) := by decide +kernel
theorem dL_law_170 : decode cL_law 170 = .ok (.iload 15, 2) := by decide +kernel
theorem dL_law_172 : decode cL_law 172 = .ok (.iconst 3, 1) := by decide +kernel
theorem dL_law_173 : decode cL_law 173 = .ok (.idiv, 1) := by decide +kernel
theorem dL_law_174 : decode cL_law 174 = .ok (.bipush 32, 2) := by decide +kernel
theorem dL_law_176 : decode cL_law 176 = .ok (.irem, 1) := by decide +kernel
theorem dL_law_177 : decode cL_law 177 = .ok (.goto 10, 3) := by decide +kernel
theorem dL_law_180 : decode cL_law 180 = .ok (.iload 15, 2) := by decide +kernel
theorem dL_law_182 : decode cL_law 182 = .ok (.iconst 3, 1) := by decide +kernel
theorem dL_law_183 : decode cL_law 183 = .ok (.idiv, 1) := by decide +kernel
theorem dL_law_184 : decode cL_law 184 = .ok (.bipush 9, 2) := by decide +kernel
theorem dL_law_186 : decode cL_law 186 = .ok (.irem, 1) := by decide +kernel
theorem dL_law_187 : decode cL_law 187 = .ok (.istore 16, 2) := by decide +kernel
theorem dL_law_189 : decode cL_law 189 = .ok (.iload 14, 2) := by decide +kernel
theorem dL_law_191 : decode cL_law 191 = .ok (.bipush 8, 2) := by decide +kernel
theorem dL_law_193 : decode cL_law 193 = .ok (.if_icmp .ge 147, 3) := by decide +kernel
theorem dL_law_196 : decode cL_law 196 = .ok (.iload 15, 2) := by decide +kernel
theorem dL_law_198 : decode cL_law 198 = .ok (.iconst 5, 1) := by decide +kernel
theorem dL_law_199 : decode cL_law 199 = .ok (.irem, 1) := by decide +kernel
theorem dL_law_200 : decode cL_law 200 = .ok (.iconst 2, 1) := by decide +kernel
theorem dL_law_201 : decode cL_law 201 = .ok (.if_icmp .ge 12, 3) := by decide +kernel
theorem dL_law_204 : decode cL_law 204 = .ok (.iconst 5, 1) := by decide +kernel
theorem dL_law_205 : decode cL_law 205 = .ok (.iload 16, 2) := by decide +kernel
theorem dL_law_207 : decode cL_law 207 = .ok (.iconst 3, 1) := by decide +kernel
theorem dL_law_208 : decode cL_law 208 = .ok (.imul, 1) := by decide +kernel
theorem dL_law_209 : decode cL_law 209 = .ok (.iadd, 1) := by decide +kernel
theorem dL_law_210 : decode cL_law 210 = .ok (.goto 13, 3) := by decide +kernel
theorem dL_law_213 : decode cL_law 213 = .ok (.iconst 1, 1) := by decide +kernel
theorem dL_law_214 : decode cL_law 214 = .ok (.iload 15, 2) := by decide +kernel
theorem dL_law_216 : decode cL_law 216 = .ok (.bipush 27, 2) := by decide +kernel
theorem dL_law_218 : decode cL_law 218 = .ok (.idiv, 1) := by decide +kernel
theorem dL_law_219 : decode cL_law 219 = .ok (.bipush 60, 2) := by decide +kernel
theorem dL_law_221 : decode cL_law 221 = .ok (.irem, 1) := by decide +kernel
theorem dL_law_222 : decode cL_law 222 = .ok (.iadd, 1) := by decide +kernel
theorem dL_law_223 : decode cL_law 223 = .ok (.istore 17, 2) := by decide +kernel
theorem dL_law_225 : decode cL_law 225 = .ok (.iload 15, 2) := by decide +kernel
theorem dL_law_227 : decode cL_law 227 = .ok (.bipush 40, 2) := by decide +kernel
theorem dL_law_229 : decode cL_law 229 = .ok (.idiv, 1) := by decide +kernel
theorem dL_law_230 : decode cL_law 230 = .ok (.iconst 3, 1) := by decide +kernel
theorem dL_law_231 : decode cL_law 231 = .ok (.irem, 1) := by decide +kernel
theorem dL_law_232 : decode cL_law 232 = .ok (.ifCond .ne 7, 3) := by decide +kernel
theorem dL_law_235 : decode cL_law 235 = .ok (.iconst 0, 1) := by decide +kernel
theorem dL_law_236 : decode cL_law 236 = .ok (.goto 25, 3) := by decide +kernel
theorem dL_law_239 : decode cL_law 239 = .ok (.iload 15, 2) := by decide +kernel
theorem dL_law_241 : decode cL_law 241 = .ok (.bipush 120, 2) := by decide +kernel
theorem dL_law_243 : decode cL_law 243 = .ok (.idiv, 1) := by decide +kernel
theorem dL_law_244 : decode cL_law 244 = .ok (.iload 15, 2) := by decide +kernel
theorem dL_law_246 : decode cL_law 246 = .ok (.bipush 7, 2) := by decide +kernel
theorem dL_law_248 : decode cL_law 248 = .ok (.irem, 1) := by decide +kernel
theorem dL_law_249 : decode cL_law 249 = .ok (.ifCond .ne 9, 3) := by decide +kernel
theorem dL_law_252 : decode cL_law 252 = .ok (.sipush 1001, 3) := by decide +kernel
theorem dL_law_255 : decode cL_law 255 = .ok (.goto 5, 3) := by decide +kernel
theorem dL_law_258 : decode cL_law 258 = .ok (.bipush 20, 2) := by decide +kernel
theorem dL_law_260 : decode cL_law 260 = .ok (.irem, 1) := by decide +kernel
theorem dL_law_261 : decode cL_law 261 = .ok (.istore 18, 2) := by decide +kernel
theorem dL_law_263 : decode cL_law 263 = .ok (.iconst 1, 1) := by decide +kernel
theorem dL_law_264 : decode cL_law 264 = .ok (.iload 15, 2) := by decide +kernel
theorem dL_law_266 : decode cL_law 266 = .ok (.bipush 11, 2) := by decide +kernel
theorem dL_law_268 : decode cL_law 268 = .ok (.idiv, 1) := by decide +kernel
theorem dL_law_269 : decode cL_law 269 = .ok (.iload 15, 2) := by decide +kernel
theorem dL_law_271 : decode cL_law 271 = .ok (.iconst 4, 1) := by decide +kernel
theorem dL_law_272 : decode cL_law 272 = .ok (.irem, 1) := by decide +kernel
theorem dL_law_273 : decode cL_law 273 = .ok (.ifCond .ne 9, 3) := by decide +kernel
theorem dL_law_276 : decode cL_law 276 = .ok (.sipush 10000, 3) := by decide +kernel
theorem dL_law_279 : decode cL_law 279 = .ok (.goto 5, 3) := by decide +kernel
theorem dL_law_282 : decode cL_law 282 = .ok (.bipush 60, 2) := by decide +kernel
theorem dL_law_284 : decode cL_law 284 = .ok (.irem, 1) := by decide +kernel
theorem dL_law_285 : decode cL_law 285 = .ok (.iadd, 1) := by decide +kernel
theorem dL_law_286 : decode cL_law 286 = .ok (.istore 19, 2) := by decide +kernel
theorem dL_law_288 : decode cL_law 288 = .ok (.aload_n 1, 1) := by decide +kernel
theorem dL_law_289 : decode cL_law 289 = .ok (.iload 16, 2) := by decide +kernel
theorem dL_law_291 : decode cL_law 291 = .ok (.iload 17, 2) := by decide +kernel
theorem dL_law_293 : decode cL_law 293 = .ok (.iload 18, 2) := by decide +kernel
theorem dL_law_295 : decode cL_law 295 = .ok (.iload 19, 2) := by decide +kernel
theorem dL_law_297 : decode cL_law 297 = .ok (.invokevirtual 149, 3) := by decide +kernel
theorem dL_law_300 : decode cL_law 300 = .ok (.aload_n 2, 1) := by decide +kernel
theorem dL_law_301 : decode cL_law 301 = .ok (.aload_n 3, 1) := by decide +kernel
theorem dL_law_302 : decode cL_law 302 = .ok (.aload 4, 2) := by decide +kernel
theorem dL_law_304 : decode cL_law 304 = .ok (.aload 5, 2) := by decide +kernel
theorem dL_law_306 : decode cL_law 306 = .ok (.aload 6, 2) := by decide +kernel
theorem dL_law_308 : decode cL_law 308 = .ok (.aload 7, 2) := by decide +kernel
theorem dL_law_310 : decode cL_law 310 = .ok (.aload 8, 2) := by decide +kernel
theorem dL_law_312 : decode cL_law 312 = .ok (.aload 9, 2) := by decide +kernel
theorem dL_law_314 : decode cL_law 314 = .ok (.aload 10, 2) := by decide +kernel
theorem dL_law_316 : decode cL_law 316 = .ok (.iload 16, 2) := by decide +kernel
theorem dL_law_318 : decode cL_law 318 = .ok (.iload 17, 2) := by decide +kernel
theorem dL_law_320 : decode cL_law 320 = .ok (.iload 18, 2) := by decide +kernel
theorem dL_law_322 : decode cL_law 322 = .ok (.iload 19, 2) := by decide +kernel
theorem dL_law_324 : decode cL_law 324 = .ok (.invokestatic 153, 3) := by decide +kernel
theorem dL_law_327 : decode cL_law 327 = .ok (.if_icmp .ne 7, 3) := by decide +kernel
theorem dL_law_330 : decode cL_law 330 = .ok (.iconst 1, 1) := by decide +kernel
theorem dL_law_331 : decode cL_law 331 = .ok (.goto 4, 3) := by decide +kernel
theorem dL_law_334 : decode cL_law 334 = .ok (.iconst 0, 1) := by decide +kernel
theorem dL_law_335 : decode cL_law 335 = .ok (.istore 11, 2) := by decide +kernel
theorem dL_law_337 : decode cL_law 337 = .ok (.goto 513, 3) := by decide +kernel
theorem dL_law_340 : decode cL_law 340 = .ok (.iload 14, 2) := by decide +kernel
theorem dL_law_342 : decode cL_law 342 = .ok (.bipush 10, 2) := by decide +kernel
theorem dL_law_344 : decode cL_law 344 = .ok (.if_icmp .ge 58, 3) := by decide +kernel
theorem dL_law_347 : decode cL_law 347 = .ok (.iconst 1, 1) := by decide +kernel
theorem dL_law_348 : decode cL_law 348 = .ok (.iload 15, 2) := by decide +kernel
theorem dL_law_350 : decode cL_law 350 = .ok (.iload 15, 2) := by decide +kernel
theorem dL_law_352 : decode cL_law 352 = .ok (.bipush 9, 2) := by decide +kernel
theorem dL_law_354 : decode cL_law 354 = .ok (.irem, 1) := by decide +kernel
theorem dL_law_355 : decode cL_law 355 = .ok (.ifCond .ne 9, 3) := by decide +kernel
theorem dL_law_358 : decode cL_law 358 = .ok (.sipush 10000, 3) := by decide +kernel
theorem dL_law_361 : decode cL_law 361 = .ok (.goto 5, 3) := by decide +kernel
theorem dL_law_364 : decode cL_law 364 = .ok (.bipush 30, 2) := by decide +kernel
theorem dL_law_366 : decode cL_law 366 = .ok (.irem, 1) := by decide +kernel
theorem dL_law_367 : decode cL_law 367 = .ok (.iadd, 1) := by decide +kernel
theorem dL_law_368 : decode cL_law 368 = .ok (.istore 17, 2) := by decide +kernel
theorem dL_law_370 : decode cL_law 370 = .ok (.aload 8, 2) := by decide +kernel
theorem dL_law_372 : decode cL_law 372 = .ok (.iconst 0, 1) := by decide +kernel
theorem dL_law_373 : decode cL_law 373 = .ok (.dup2, 1) := by decide +kernel
theorem dL_law_374 : decode cL_law 374 = .ok (.iaload, 1) := by decide +kernel
theorem dL_law_375 : decode cL_law 375 = .ok (.iload 17, 2) := by decide +kernel
theorem dL_law_377 : decode cL_law 377 = .ok (.iadd, 1) := by decide +kernel
theorem dL_law_378 : decode cL_law 378 = .ok (.iastore, 1) := by decide +kernel
theorem dL_law_379 : decode cL_law 379 = .ok (.aload_n 1, 1) := by decide +kernel
theorem dL_law_380 : decode cL_law 380 = .ok (.iload 17, 2) := by decide +kernel
theorem dL_law_382 : decode cL_law 382 = .ok (.invokevirtual 157, 3) := by decide +kernel
theorem dL_law_385 : decode cL_law 385 = .ok (.aload 8, 2) := by decide +kernel
theorem dL_law_387 : decode cL_law 387 = .ok (.iconst 0, 1) := by decide +kernel
theorem dL_law_388 : decode cL_law 388 = .ok (.iaload, 1) := by decide +kernel
theorem dL_law_389 : decode cL_law 389 = .ok (.if_icmp .ne 7, 3) := by decide +kernel
theorem dL_law_392 : decode cL_law 392 = .ok (.iconst 1, 1) := by decide +kernel
theorem dL_law_393 : decode cL_law 393 = .ok (.goto 4, 3) := by decide +kernel
theorem dL_law_396 : decode cL_law 396 = .ok (.iconst 0, 1) := by decide +kernel
theorem dL_law_397 : decode cL_law 397 = .ok (.istore 11, 2) := by decide +kernel
theorem dL_law_399 : decode cL_law 399 = .ok (.goto 451, 3) := by decide +kernel
theorem dL_law_402 : decode cL_law 402 = .ok (.iload 14, 2) := by decide +kernel
theorem dL_law_404 : decode cL_law 404 = .ok (.bipush 12, 2) := by decide +kernel
theorem dL_law_406 : decode cL_law 406 = .ok (.if_icmp .ge 146, 3) := by decide +kernel
theorem dL_law_409 : decode cL_law 409 = .ok (.iconst 0, 1) := by decide +kernel
theorem dL_law_410 : decode cL_law 410 = .ok (.istore 17, 2) := by decide +kernel
theorem dL_law_412 : decode cL_law 412 = .ok (.iload 17, 2) := by decide +kernel
theorem dL_law_414 : decode cL_law 414 = .ok (.bipush 32, 2) := by decide +kernel
theorem dL_law_416 : decode cL_law 416 = .ok (.if_icmp .ge 32, 3) := by decide +kernel
theorem dL_law_419 : decode cL_law 419 = .ok (.iload 15, 2) := by decide +kernel
theorem dL_law_421 : decode cL_law 421 = .ok (.iconst 4, 1) := by decide +kernel
theorem dL_law_422 : decode cL_law 422 = .ok (.irem, 1) := by decide +kernel
theorem dL_law_423 : decode cL_law 423 = .ok (.ifCond .le 25, 3) := by decide +kernel
theorem dL_law_426 : decode cL_law 426 = .ok (.aload_n 2, 1) := by decide +kernel
theorem dL_law_427 : decode cL_law 427 = .ok (.iload 16, 2) := by decide +kernel
theorem dL_law_429 : decode cL_law 429 = .ok (.iaload, 1) := by decide +kernel
theorem dL_law_430 : decode cL_law 430 = .ok (.ifCond .ne 18, 3) := by decide +kernel
theorem dL_law_433 : decode cL_law 433 = .ok (.iload 16, 2) := by decide +kernel
theorem dL_law_435 : decode cL_law 435 = .ok (.iconst 1, 1) := by decide +kernel
theorem dL_law_436 : decode cL_law 436 = .ok (.iadd, 1) := by decide +kernel
theorem dL_law_437 : decode cL_law 437 = .ok (.bipush 32, 2) := by decide +kernel
theorem dL_law_439 : decode cL_law 439 = .ok (.irem, 1) := by decide +kernel
theorem dL_law_440 : decode cL_law 440 = .ok (.istore 16, 2) := by decide +kernel
theorem dL_law_442 : decode cL_law 442 = .ok (.iinc 17 1, 3) := by decide +kernel
theorem dL_law_445 : decode cL_law 445 = .ok (.goto (-33), 3) := by decide +kernel
theorem dL_law_448 : decode cL_law 448 = .ok (.iload 15, 2) := by decide +kernel
theorem dL_law_450 : decode cL_law 450 = .ok (.bipush 96, 2) := by decide +kernel
theorem dL_law_452 : decode cL_law 452 = .ok (.idiv, 1) := by decide +kernel
theorem dL_law_453 : decode cL_law 453 = .ok (.iconst 3, 1) := by decide +kernel
theorem dL_law_454 : decode cL_law 454 = .ok (.irem, 1) := by decide +kernel
theorem dL_law_455 : decode cL_law 455 = .ok (.ifCond .ne 7, 3) := by decide +kernel
theorem dL_law_458 : decode cL_law 458 = .ok (.iconst 0, 1) := by decide +kernel
theorem dL_law_459 : decode cL_law 459 = .ok (.goto 4, 3) := by decide +kernel
theorem dL_law_462 : decode cL_law 462 = .ok (.iconst 1, 1) := by decide +kernel
theorem dL_law_463 : decode cL_law 463 = .ok (.istore 17, 2) := by decide +kernel
theorem dL_law_465 : decode cL_law 465 = .ok (.aload_n 2, 1) := by decide +kernel
theorem dL_law_466 : decode cL_law 466 = .ok (.iload 16, 2) := by decide +kernel
theorem dL_law_468 : decode cL_law 468 = .ok (.iaload, 1) := by decide +kernel
theorem dL_law_469 : decode cL_law 469 = .ok (.ifCond .ne 8, 3) := by decide +kernel
theorem dL_law_472 : decode cL_law 472 = .ok (.bipush (-13), 2) := by decide +kernel
theorem dL_law_474 : decode cL_law 474 = .ok (.goto 8, 3) := by decide +kernel
theorem dL_law_477 : decode cL_law 477 = .ok (.aload 5, 2) := by decide +kernel
theorem dL_law_479 : decode cL_law 479 = .ok (.iload 16, 2) := by decide +kernel
theorem dL_law_481 : decode cL_law 481 = .ok (.iaload, 1) := by decide +kernel
theorem dL_law_482 : decode cL_law 482 = .ok (.istore 18, 2) := by decide +kernel
theorem dL_law_484 : decode cL_law 484 = .ok (.aload_n 1, 1) := by decide +kernel
theorem dL_law_485 : decode cL_law 485 = .ok (.iconst 0, 1) := by decide +kernel
theorem dL_law_486 : decode cL_law 486 = .ok (.iload 16, 2) := by decide +kernel
theorem dL_law_488 : decode cL_law 488 = .ok (.iload 17, 2) := by decide +kernel
theorem dL_law_490 : decode cL_law 490 = .ok (.invokestatic 160, 3) := by decide +kernel
theorem dL_law_493 : decode cL_law 493 = .ok (.iload 18, 2) := by decide +kernel
theorem dL_law_495 : decode cL_law 495 = .ok (.if_icmp .ne 7, 3) := by decide +kernel
theorem dL_law_498 : decode cL_law 498 = .ok (.iconst 1, 1) := by decide +kernel
theorem dL_law_499 : decode cL_law 499 = .ok (.goto 4, 3) := by decide +kernel
theorem dL_law_502 : decode cL_law 502 = .ok (.iconst 0, 1) := by decide +kernel
theorem dL_law_503 : decode cL_law 503 = .ok (.istore 11, 2) := by decide +kernel
theorem dL_law_505 : decode cL_law 505 = .ok (.iload 18, 2) := by decide +kernel
theorem dL_law_507 : decode cL_law 507 = .ok (.ifCond .lt 42, 3) := by decide +kernel
theorem dL_law_510 : decode cL_law 510 = .ok (.iload 17, 2) := by decide +kernel
theorem dL_law_512 : decode cL_law 512 = .ok (.iload 18, 2) := by decide +kernel
theorem dL_law_514 : decode cL_law 514 = .ok (.if_icmp .eq 35, 3) := by decide +kernel
theorem dL_law_517 : decode cL_law 517 = .ok (.aload 5, 2) := by decide +kernel
theorem dL_law_519 : decode cL_law 519 = .ok (.iload 16, 2) := by decide +kernel
theorem dL_law_521 : decode cL_law 521 = .ok (.iload 17, 2) := by decide +kernel
theorem dL_law_523 : decode cL_law 523 = .ok (.iastore, 1) := by decide +kernel
theorem dL_law_524 : decode cL_law 524 = .ok (.aload 7, 2) := by decide +kernel
theorem dL_law_526 : decode cL_law 526 = .ok (.aload 8, 2) := by decide +kernel
theorem dL_law_528 : decode cL_law 528 = .ok (.iload 16, 2) := by decide +kernel
theorem dL_law_530 : decode cL_law 530 = .ok (.invokestatic 7, 3) := by decide +kernel
theorem dL_law_533 : decode cL_law 533 = .ok (.iload 17, 2) := by decide +kernel
theorem dL_law_535 : decode cL_law 535 = .ok (.ifCond .ne 14, 3) := by decide +kernel
theorem dL_law_538 : decode cL_law 538 = .ok (.aload 7, 2) := by decide +kernel
theorem dL_law_540 : decode cL_law 540 = .ok (.aload 8, 2) := by decide +kernel
theorem dL_law_542 : decode cL_law 542 = .ok (.aload 9, 2) := by decide +kernel
theorem dL_law_544 : decode cL_law 544 = .ok (.iload 16, 2) := by decide +kernel
theorem dL_law_546 : decode cL_law 546 = .ok (.invokestatic 23, 3) := by decide +kernel
theorem dL_law_549 : decode cL_law 549 = .ok (.goto 301, 3) := by decide +kernel
theorem dL_law_552 : decode cL_law 552 = .ok (.iload 14, 2) := by decide +kernel
theorem dL_law_554 : decode cL_law 554 = .ok (.bipush 12, 2) := by decide +kernel
theorem dL_law_556 : decode cL_law 556 = .ok (.if_icmp .ne 54, 3) := by decide +kernel
theorem dL_law_559 : decode cL_law 559 = .ok (.aload_n 2, 1) := by decide +kernel
theorem dL_law_560 : decode cL_law 560 = .ok (.iload 16, 2) := by decide +kernel
theorem dL_law_562 : decode cL_law 562 = .ok (.iaload, 1) := by decide +kernel
theorem dL_law_563 : decode cL_law 563 = .ok (.ifCond .ne 8, 3) := by decide +kernel
theorem dL_law_566 : decode cL_law 566 = .ok (.bipush (-13), 2) := by decide +kernel
theorem dL_law_568 : decode cL_law 568 = .ok (.goto 7, 3) := by decide +kernel
theorem dL_law_571 : decode cL_law 571 = .ok (.aload_n 2, 1) := by decide +kernel
theorem dL_law_572 : decode cL_law 572 = .ok (.iload 16, 2) := by decide +kernel
theorem dL_law_574 : decode cL_law 574 = .ok (.iaload, 1) := by decide +kernel
theorem dL_law_575 : decode cL_law 575 = .ok (.istore 17, 2) := by decide +kernel
theorem dL_law_577 : decode cL_law 577 = .ok (.aload_n 1, 1) := by decide +kernel
theorem dL_law_578 : decode cL_law 578 = .ok (.iconst 1, 1) := by decide +kernel
theorem dL_law_579 : decode cL_law 579 = .ok (.iload 16, 2) := by decide +kernel
theorem dL_law_581 : decode cL_law 581 = .ok (.iconst 0, 1) := by decide +kernel
theorem dL_law_582 : decode cL_law 582 = .ok (.invokestatic 160, 3) := by decide +kernel
theorem dL_law_585 : decode cL_law 585 = .ok (.iload 17, 2) := by decide +kernel
theorem dL_law_587 : decode cL_law 587 = .ok (.if_icmp .ne 7, 3) := by decide +kernel
theorem dL_law_590 : decode cL_law 590 = .ok (.iconst 1, 1) := by decide +kernel
theorem dL_law_591 : decode cL_law 591 = .ok (.goto 4, 3) := by decide +kernel
theorem dL_law_594 : decode cL_law 594 = .ok (.iconst 0, 1) := by decide +kernel
theorem dL_law_595 : decode cL_law 595 = .ok (.istore 11, 2) := by decide +kernel
theorem dL_law_597 : decode cL_law 597 = .ok (.aload_n 2, 1) := by decide +kernel
theorem dL_law_598 : decode cL_law 598 = .ok (.aload 7, 2) := by decide +kernel
theorem dL_law_600 : decode cL_law 600 = .ok (.aload 8, 2) := by decide +kernel
theorem dL_law_602 : decode cL_law 602 = .ok (.iload 16, 2) := by decide +kernel
theorem dL_law_604 : decode cL_law 604 = .ok (.invokestatic 13, 3) := by decide +kernel
theorem dL_law_607 : decode cL_law 607 = .ok (.goto 243, 3) := by decide +kernel
theorem dL_law_610 : decode cL_law 610 = .ok (.iload 14, 2) := by decide +kernel
theorem dL_law_612 : decode cL_law 612 = .ok (.bipush 13, 2) := by decide +kernel
theorem dL_law_614 : decode cL_law 614 = .ok (.if_icmp .ne 30, 3) := by decide +kernel
theorem dL_law_617 : decode cL_law 617 = .ok (.aload_n 1, 1) := by decide +kernel
theorem dL_law_618 : decode cL_law 618 = .ok (.invokevirtual 164, 3) := by decide +kernel
theorem dL_law_621 : decode cL_law 621 = .ok (.aload_n 2, 1) := by decide +kernel
theorem dL_law_622 : decode cL_law 622 = .ok (.aload 4, 2) := by decide +kernel
theorem dL_law_624 : decode cL_law 624 = .ok (.aload 7, 2) := by decide +kernel
theorem dL_law_626 : decode cL_law 626 = .ok (.aload 8, 2) := by decide +kernel
theorem dL_law_628 : decode cL_law 628 = .ok (.invokestatic 31, 3) := by decide +kernel
theorem dL_law_631 : decode cL_law 631 = .ok (.if_icmp .ne 7, 3) := by decide +kernel
theorem dL_law_634 : decode cL_law 634 = .ok (.iconst 1, 1) := by decide +kernel
theorem dL_law_635 : decode cL_law 635 = .ok (.goto 4, 3) := by decide +kernel
theorem dL_law_638 : decode cL_law 638 = .ok (.iconst 0, 1) := by decide +kernel
theorem dL_law_639 : decode cL_law 639 = .ok (.istore 11, 2) := by decide +kernel
theorem dL_law_641 : decode cL_law 641 = .ok (.goto 209, 3) := by decide +kernel
theorem dL_law_644 : decode cL_law 644 = .ok (.iload 14, 2) := by decide +kernel
theorem dL_law_646 : decode cL_law 646 = .ok (.bipush 14, 2) := by decide +kernel
theorem dL_law_648 : decode cL_law 648 = .ok (.if_icmp .ne 150, 3) := by decide +kernel
theorem dL_law_651 : decode cL_law 651 = .ok (.iconst 1, 1) := by decide +kernel
theorem dL_law_652 : decode cL_law 652 = .ok (.iload 15, 2) := by decide +kernel
theorem dL_law_654 : decode cL_law 654 = .ok (.iload 15, 2) := by decide +kernel
theorem dL_law_656 : decode cL_law 656 = .ok (.iconst 5, 1) := by decide +kernel
theorem dL_law_657 : decode cL_law 657 = .ok (.irem, 1) := by decide +kernel
theorem dL_law_658 : decode cL_law 658 = .ok (.ifCond .ne 9, 3) := by decide +kernel
theorem dL_law_661 : decode cL_law 661 = .ok (.sipush 10000, 3) := by decide +kernel
theorem dL_law_664 : decode cL_law 664 = .ok (.goto 6, 3) := by decide +kernel
theorem dL_law_667 : decode cL_law 667 = .ok (.sipush 200, 3) := by decide +kernel
theorem dL_law_670 : decode cL_law 670 = .ok (.irem, 1) := by decide +kernel
theorem dL_law_671 : decode cL_law 671 = .ok (.iadd, 1) := by decide +kernel
theorem dL_law_672 : decode cL_law 672 = .ok (.istore 17, 2) := by decide +kernel
theorem dL_law_674 : decode cL_law 674 = .ok (.aload_n 2, 1) := by decide +kernel
theorem dL_law_675 : decode cL_law 675 = .ok (.aload 4, 2) := by decide +kernel
theorem dL_law_677 : decode cL_law 677 = .ok (.aload 5, 2) := by decide +kernel
theorem dL_law_679 : decode cL_law 679 = .ok (.aload 8, 2) := by decide +kernel
theorem dL_law_681 : decode cL_law 681 = .ok (.iconst 0, 1) := by decide +kernel
theorem dL_law_682 : decode cL_law 682 = .ok (.invokestatic 35, 3) := by decide +kernel
theorem dL_law_685 : decode cL_law 685 = .ok (.iload 17, 2) := by decide +kernel
theorem dL_law_687 : decode cL_law 687 = .ok (.if_icmp .gt 7, 3) := by decide +kernel
theorem dL_law_690 : decode cL_law 690 = .ok (.iconst 1, 1) := by decide +kernel
theorem dL_law_691 : decode cL_law 691 = .ok (.goto 4, 3) := by decide +kernel
theorem dL_law_694 : decode cL_law 694 = .ok (.iconst 0, 1) := by decide +kernel
theorem dL_law_695 : decode cL_law 695 = .ok (.istore 18, 2) := by decide +kernel
theorem dL_law_697 : decode cL_law 697 = .ok (.aload 8, 2) := by decide +kernel
theorem dL_law_699 : decode cL_law 699 = .ok (.bipush 6, 2) := by decide +kernel
theorem dL_law_701 : decode cL_law 701 = .ok (.iaload, 1) := by decide +kernel
theorem dL_law_702 : decode cL_law 702 = .ok (.istore 19, 2) := by decide +kernel
theorem dL_law_704 : decode cL_law 704 = .ok (.iload 18, 2) := by decide +kernel
theorem dL_law_706 : decode cL_law 706 = .ok (.ifCond .eq 53, 3) := by decide +kernel
theorem dL_law_709 : decode cL_law 709 = .ok (.aload 8, 2) := by decide +kernel
theorem dL_law_711 : decode cL_law 711 = .ok (.iconst 1, 1) := by decide +kernel
theorem dL_law_712 : decode cL_law 712 = .ok (.iload 17, 2) := by decide +kernel
theorem dL_law_714 : decode cL_law 714 = .ok (.iastore, 1) := by decide +kernel
theorem dL_law_715 : decode cL_law 715 = .ok (.aload_n 2, 1) := by decide +kernel
theorem dL_law_716 : decode cL_law 716 = .ok (.invokestatic 27, 3) := by decide +kernel
theorem dL_law_719 : decode cL_law 719 = .ok (.iload 17, 2) := by decide +kernel
theorem dL_law_721 : decode cL_law 721 = .ok (.if_icmp .le 14, 3) := by decide +kernel
theorem dL_law_724 : decode cL_law 724 = .ok (.aload_n 2, 1) := by decide +kernel
theorem dL_law_725 : decode cL_law 725 = .ok (.aload 4, 2) := by decide +kernel
theorem dL_law_727 : decode cL_law 727 = .ok (.aload 7, 2) := by decide +kernel
theorem dL_law_729 : decode cL_law 729 = .ok (.aload 8, 2) := by decide +kernel
theorem dL_law_731 : decode cL_law 731 = .ok (.invokestatic 31, 3) := by decide +kernel
theorem dL_law_734 : decode cL_law 734 = .ok (.pop, 1) := by decide +kernel
theorem dL_law_735 : decode cL_law 735 = .ok (.aload_n 2, 1) := by decide +kernel
theorem dL_law_736 : decode cL_law 736 = .ok (.invokestatic 27, 3) := by decide +kernel
theorem dL_law_739 : decode cL_law 739 = .ok (.iload 17, 2) := by decide +kernel
theorem dL_law_741 : decode cL_law 741 = .ok (.if_icmp .le 18, 3) := by decide +kernel
theorem dL_law_744 : decode cL_law 744 = .ok (.aload_n 2, 1) := by decide +kernel
theorem dL_law_745 : decode cL_law 745 = .ok (.aload 7, 2) := by decide +kernel
theorem dL_law_747 : decode cL_law 747 = .ok (.aload 8, 2) := by decide +kernel
theorem dL_law_749 : decode cL_law 749 = .ok (.aload 9, 2) := by decide +kernel
theorem dL_law_751 : decode cL_law 751 = .ok (.aload 10, 2) := by decide +kernel
theorem dL_law_753 : decode cL_law 753 = .ok (.invokestatic 39, 3) := by decide +kernel
theorem dL_law_756 : decode cL_law 756 = .ok (.goto (-21), 3) := by decide +kernel
theorem dL_law_759 : decode cL_law 759 = .ok (.aload_n 1, 1) := by decide +kernel
theorem dL_law_760 : decode cL_law 760 = .ok (.iconst 2, 1) := by decide +kernel
theorem dL_law_761 : decode cL_law 761 = .ok (.iload 17, 2) := by decide +kernel
theorem dL_law_763 : decode cL_law 763 = .ok (.iconst 0, 1) := by decide +kernel
theorem dL_law_764 : decode cL_law 764 = .ok (.invokestatic 160, 3) := by decide +kernel
theorem dL_law_767 : decode cL_law 767 = .ok (.iload 18, 2) := by decide +kernel
theorem dL_law_769 : decode cL_law 769 = .ok (.ifCond .eq 14, 3) := by decide +kernel
theorem dL_law_772 : decode cL_law 772 = .ok (.aload 8, 2) := by decide +kernel
theorem dL_law_774 : decode cL_law 774 = .ok (.bipush 6, 2) := by decide +kernel
theorem dL_law_776 : decode cL_law 776 = .ok (.iaload, 1) := by decide +kernel
theorem dL_law_777 : decode cL_law 777 = .ok (.iload 19, 2) := by decide +kernel
theorem dL_law_779 : decode cL_law 779 = .ok (.isub, 1) := by decide +kernel
theorem dL_law_780 : decode cL_law 780 = .ok (.goto 5, 3) := by decide +kernel
theorem dL_law_783 : decode cL_law 783 = .ok (.bipush (-13), 2) := by decide +kernel
theorem dL_law_785 : decode cL_law 785 = .ok (.if_icmp .ne 7, 3) := by decide +kernel
theorem dL_law_788 : decode cL_law 788 = .ok (.iconst 1, 1) := by decide +kernel
theorem dL_law_789 : decode cL_law 789 = .ok (.goto 4, 3) := by decide +kernel
theorem dL_law_792 : decode cL_law 792 = .ok (.iconst 0, 1) := by decide +kernel
theorem dL_law_793 : decode cL_law 793 = .ok (.istore 11, 2) := by decide +kernel
theorem dL_law_795 : decode cL_law 795 = .ok (.goto 55, 3) := by decide +kernel
theorem dL_law_798 : decode cL_law 798 = .ok (.aload 8, 2) := by decide +kernel
theorem dL_law_800 : decode cL_law 800 = .ok (.iconst 2, 1) := by decide +kernel
theorem dL_law_801 : decode cL_law 801 = .ok (.iaload, 1) := by decide +kernel
theorem dL_law_802 : decode cL_law 802 = .ok (.istore 17, 2) := by decide +kernel
theorem dL_law_804 : decode cL_law 804 = .ok (.aload 8, 2) := by decide +kernel
theorem dL_law_806 : decode cL_law 806 = .ok (.iconst 2, 1) := by decide +kernel
theorem dL_law_807 : decode cL_law 807 = .ok (.iconst 1, 1) := by decide +kernel
theorem dL_law_808 : decode cL_law 808 = .ok (.iload 15, 2) := by decide +kernel
theorem dL_law_810 : decode cL_law 810 = .ok (.iload 15, 2) := by decide +kernel
theorem dL_law_812 : decode cL_law 812 = .ok (.iconst 3, 1) := by decide +kernel
theorem dL_law_813 : decode cL_law 813 = .ok (.irem, 1) := by decide +kernel
theorem dL_law_814 : decode cL_law 814 = .ok (.ifCond .ne 9, 3) := by decide +kernel
theorem dL_law_817 : decode cL_law 817 = .ok (.sipush 1000, 3) := by decide +kernel
theorem dL_law_820 : decode cL_law 820 = .ok (.goto 5, 3) := by decide +kernel
theorem dL_law_823 : decode cL_law 823 = .ok (.bipush 50, 2) := by decide +kernel
theorem dL_law_825 : decode cL_law 825 = .ok (.irem, 1) := by decide +kernel
theorem dL_law_826 : decode cL_law 826 = .ok (.iadd, 1) := by decide +kernel
theorem dL_law_827 : decode cL_law 827 = .ok (.iastore, 1) := by decide +kernel
theorem dL_law_828 : decode cL_law 828 = .ok (.aload_n 1, 1) := by decide +kernel
theorem dL_law_829 : decode cL_law 829 = .ok (.iconst 3, 1) := by decide +kernel
theorem dL_law_830 : decode cL_law 830 = .ok (.aload 8, 2) := by decide +kernel
theorem dL_law_832 : decode cL_law 832 = .ok (.iconst 2, 1) := by decide +kernel
theorem dL_law_833 : decode cL_law 833 = .ok (.iaload, 1) := by decide +kernel
theorem dL_law_834 : decode cL_law 834 = .ok (.iconst 0, 1) := by decide +kernel
theorem dL_law_835 : decode cL_law 835 = .ok (.invokestatic 160, 3) := by decide +kernel
theorem dL_law_838 : decode cL_law 838 = .ok (.iload 17, 2) := by decide +kernel
theorem dL_law_840 : decode cL_law 840 = .ok (.if_icmp .ne 7, 3) := by decide +kernel
theorem dL_law_843 : decode cL_law 843 = .ok (.iconst 1, 1) := by decide +kernel
theorem dL_law_844 : decode cL_law 844 = .ok (.goto 4, 3) := by decide +kernel
theorem dL_law_847 : decode cL_law 847 = .ok (.iconst 0, 1) := by decide +kernel
theorem dL_law_848 : decode cL_law 848 = .ok (.istore 11, 2) := by decide +kernel
theorem dL_law_850 : decode cL_law 850 = .ok (.iload 11, 2) := by decide +kernel
theorem dL_law_852 : decode cL_law 852 = .ok (.ifCond .eq 30, 3) := by decide +kernel
theorem dL_law_855 : decode cL_law 855 = .ok (.aload_n 1, 1) := by decide +kernel
theorem dL_law_856 : decode cL_law 856 = .ok (.aload_n 2, 1) := by decide +kernel
theorem dL_law_857 : decode cL_law 857 = .ok (.aload_n 3, 1) := by decide +kernel
theorem dL_law_858 : decode cL_law 858 = .ok (.aload 4, 2) := by decide +kernel
theorem dL_law_860 : decode cL_law 860 = .ok (.aload 5, 2) := by decide +kernel
theorem dL_law_862 : decode cL_law 862 = .ok (.aload 7, 2) := by decide +kernel
theorem dL_law_864 : decode cL_law 864 = .ok (.aload 8, 2) := by decide +kernel
theorem dL_law_866 : decode cL_law 866 = .ok (.aload 9, 2) := by decide +kernel
theorem dL_law_868 : decode cL_law 868 = .ok (.aload 10, 2) := by decide +kernel
theorem dL_law_870 : decode cL_law 870 = .ok (.iload 15, 2) := by decide +kernel
theorem dL_law_872 : decode cL_law 872 = .ok (.invokestatic 143, 3) := by decide +kernel
theorem dL_law_875 : decode cL_law 875 = .ok (.ifCond .eq 7, 3) := by decide +kernel
theorem dL_law_878 : decode cL_law 878 = .ok (.iconst 1, 1) := by decide +kernel
theorem dL_law_879 : decode cL_law 879 = .ok (.goto 4, 3) := by decide +kernel
theorem dL_law_882 : decode cL_law 882 = .ok (.iconst 0, 1) := by decide +kernel
theorem dL_law_883 : decode cL_law 883 = .ok (.istore 11, 2) := by decide +kernel
theorem dL_law_885 : decode cL_law 885 = .ok (.iinc 12 1, 3) := by decide +kernel
theorem dL_law_888 : decode cL_law 888 = .ok (.goto (-791), 3) := by decide +kernel
theorem dL_law_891 : decode cL_law 891 = .ok (.iload 11, 2) := by decide +kernel
theorem dL_law_893 : decode cL_law 893 = .ok (.ireturn, 1) := by decide +kernel
