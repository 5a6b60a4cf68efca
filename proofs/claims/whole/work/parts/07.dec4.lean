theorem dc_M_init_0 : decode cd_M_init 0 = .ok (.aload_n 0, 1) := by decide +kernel
theorem dc_M_init_1 : decode cd_M_init 1 = .ok (.invokespecial 1, 3) := by decide +kernel
theorem dc_M_init_4 : decode cd_M_init 4 = .ok (.aload_n 0, 1) := by decide +kernel
theorem dc_M_init_5 : decode cd_M_init 5 = .ok (.bipush 36, 2) := by decide +kernel
theorem dc_M_init_7 : decode cd_M_init 7 = .ok (.newarray .int, 2) := by decide +kernel
theorem dc_M_init_9 : decode cd_M_init 9 = .ok (.putfield 7, 3) := by decide +kernel
theorem dc_M_init_12 : decode cd_M_init 12 = .ok (.aload_n 0, 1) := by decide +kernel
theorem dc_M_init_13 : decode cd_M_init 13 = .ok (.bipush 36, 2) := by decide +kernel
theorem dc_M_init_15 : decode cd_M_init 15 = .ok (.newarray .boolean, 2) := by decide +kernel
theorem dc_M_init_17 : decode cd_M_init 17 = .ok (.putfield 13, 3) := by decide +kernel
theorem dc_M_init_20 : decode cd_M_init 20 = .ok (.aload_n 0, 1) := by decide +kernel
theorem dc_M_init_21 : decode cd_M_init 21 = .ok (.bipush 12, 2) := by decide +kernel
theorem dc_M_init_23 : decode cd_M_init 23 = .ok (.newarray .int, 2) := by decide +kernel
theorem dc_M_init_25 : decode cd_M_init 25 = .ok (.putfield 17, 3) := by decide +kernel
theorem dc_M_init_28 : decode cd_M_init 28 = .ok (.aload_n 0, 1) := by decide +kernel
theorem dc_M_init_29 : decode cd_M_init 29 = .ok (.bipush 12, 2) := by decide +kernel
theorem dc_M_init_31 : decode cd_M_init 31 = .ok (.newarray .int, 2) := by decide +kernel
theorem dc_M_init_33 : decode cd_M_init 33 = .ok (.putfield 20, 3) := by decide +kernel
theorem dc_M_init_36 : decode cd_M_init 36 = .ok (.aload_n 0, 1) := by decide +kernel
theorem dc_M_init_37 : decode cd_M_init 37 = .ok (.bipush 12, 2) := by decide +kernel
theorem dc_M_init_39 : decode cd_M_init 39 = .ok (.newarray .int, 2) := by decide +kernel
theorem dc_M_init_41 : decode cd_M_init 41 = .ok (.putfield 23, 3) := by decide +kernel
theorem dc_M_init_44 : decode cd_M_init 44 = .ok (.aload_n 0, 1) := by decide +kernel
theorem dc_M_init_45 : decode cd_M_init 45 = .ok (.bipush 12, 2) := by decide +kernel
theorem dc_M_init_47 : decode cd_M_init 47 = .ok (.newarray .int, 2) := by decide +kernel
theorem dc_M_init_49 : decode cd_M_init 49 = .ok (.putfield 26, 3) := by decide +kernel
theorem dc_M_init_52 : decode cd_M_init 52 = .ok (.aload_n 0, 1) := by decide +kernel
theorem dc_M_init_53 : decode cd_M_init 53 = .ok (.bipush 12, 2) := by decide +kernel
theorem dc_M_init_55 : decode cd_M_init 55 = .ok (.newarray .int, 2) := by decide +kernel
theorem dc_M_init_57 : decode cd_M_init 57 = .ok (.putfield 29, 3) := by decide +kernel
theorem dc_M_init_60 : decode cd_M_init 60 = .ok (.aload_n 0, 1) := by decide +kernel
theorem dc_M_init_61 : decode cd_M_init 61 = .ok (.bipush 12, 2) := by decide +kernel
theorem dc_M_init_63 : decode cd_M_init 63 = .ok (.newarray .boolean, 2) := by decide +kernel
theorem dc_M_init_65 : decode cd_M_init 65 = .ok (.putfield 32, 3) := by decide +kernel
theorem dc_M_init_68 : decode cd_M_init 68 = .ok (.aload_n 0, 1) := by decide +kernel
theorem dc_M_init_69 : decode cd_M_init 69 = .ok (.bipush 12, 2) := by decide +kernel
theorem dc_M_init_71 : decode cd_M_init 71 = .ok (.newarray .boolean, 2) := by decide +kernel
theorem dc_M_init_73 : decode cd_M_init 73 = .ok (.putfield 35, 3) := by decide +kernel
theorem dc_M_init_76 : decode cd_M_init 76 = .ok (.aload_n 0, 1) := by decide +kernel
theorem dc_M_init_77 : decode cd_M_init 77 = .ok (.bipush 12, 2) := by decide +kernel
theorem dc_M_init_79 : decode cd_M_init 79 = .ok (.newarray .boolean, 2) := by decide +kernel
theorem dc_M_init_81 : decode cd_M_init 81 = .ok (.putfield 38, 3) := by decide +kernel
theorem dc_M_init_84 : decode cd_M_init 84 = .ok (.aload_n 0, 1) := by decide +kernel
theorem dc_M_init_85 : decode cd_M_init 85 = .ok (.bipush 12, 2) := by decide +kernel
theorem dc_M_init_87 : decode cd_M_init 87 = .ok (.newarray .boolean, 2) := by decide +kernel
theorem dc_M_init_89 : decode cd_M_init 89 = .ok (.putfield 41, 3) := by decide +kernel
theorem dc_M_init_92 : decode cd_M_init 92 = .ok (.aload_n 0, 1) := by decide +kernel
theorem dc_M_init_93 : decode cd_M_init 93 = .ok (.bipush 12, 2) := by decide +kernel
theorem dc_M_init_95 : decode cd_M_init 95 = .ok (.newarray .boolean, 2) := by decide +kernel
theorem dc_M_init_97 : decode cd_M_init 97 = .ok (.putfield 44, 3) := by decide +kernel
theorem dc_M_init_100 : decode cd_M_init 100 = .ok (.aload_n 0, 1) := by decide +kernel
theorem dc_M_init_101 : decode cd_M_init 101 = .ok (.bipush 96, 2) := by decide +kernel
theorem dc_M_init_103 : decode cd_M_init 103 = .ok (.newarray .int, 2) := by decide +kernel
theorem dc_M_init_105 : decode cd_M_init 105 = .ok (.putfield 47, 3) := by decide +kernel
theorem dc_M_init_108 : decode cd_M_init 108 = .ok (.aload_n 0, 1) := by decide +kernel
theorem dc_M_init_109 : decode cd_M_init 109 = .ok (.bipush 12, 2) := by decide +kernel
theorem dc_M_init_111 : decode cd_M_init 111 = .ok (.newarray .int, 2) := by decide +kernel
theorem dc_M_init_113 : decode cd_M_init 113 = .ok (.putfield 50, 3) := by decide +kernel
theorem dc_M_init_116 : decode cd_M_init 116 = .ok (.aload_n 0, 1) := by decide +kernel
theorem dc_M_init_117 : decode cd_M_init 117 = .ok (.bipush 12, 2) := by decide +kernel
theorem dc_M_init_119 : decode cd_M_init 119 = .ok (.newarray .int, 2) := by decide +kernel
theorem dc_M_init_121 : decode cd_M_init 121 = .ok (.putfield 53, 3) := by decide +kernel
theorem dc_M_init_124 : decode cd_M_init 124 = .ok (.aload_n 0, 1) := by decide +kernel
theorem dc_M_init_125 : decode cd_M_init 125 = .ok (.bipush 12, 2) := by decide +kernel
theorem dc_M_init_127 : decode cd_M_init 127 = .ok (.newarray .int, 2) := by decide +kernel
theorem dc_M_init_129 : decode cd_M_init 129 = .ok (.putfield 56, 3) := by decide +kernel
theorem dc_M_init_132 : decode cd_M_init 132 = .ok (.aload_n 0, 1) := by decide +kernel
theorem dc_M_init_133 : decode cd_M_init 133 = .ok (.bipush 12, 2) := by decide +kernel
theorem dc_M_init_135 : decode cd_M_init 135 = .ok (.newarray .int, 2) := by decide +kernel
theorem dc_M_init_137 : decode cd_M_init 137 = .ok (.putfield 59, 3) := by decide +kernel
theorem dc_M_init_140 : decode cd_M_init 140 = .ok (.aload_n 0, 1) := by decide +kernel
theorem dc_M_init_141 : decode cd_M_init 141 = .ok (.bipush 12, 2) := by decide +kernel
theorem dc_M_init_143 : decode cd_M_init 143 = .ok (.newarray .int, 2) := by decide +kernel
theorem dc_M_init_145 : decode cd_M_init 145 = .ok (.putfield 62, 3) := by decide +kernel
theorem dc_M_init_148 : decode cd_M_init 148 = .ok (.aload_n 0, 1) := by decide +kernel
theorem dc_M_init_149 : decode cd_M_init 149 = .ok (.bipush 12, 2) := by decide +kernel
theorem dc_M_init_151 : decode cd_M_init 151 = .ok (.newarray .boolean, 2) := by decide +kernel
theorem dc_M_init_153 : decode cd_M_init 153 = .ok (.putfield 65, 3) := by decide +kernel
theorem dc_M_init_156 : decode cd_M_init 156 = .ok (.aload_n 0, 1) := by decide +kernel
theorem dc_M_init_157 : decode cd_M_init 157 = .ok (.bipush 48, 2) := by decide +kernel
theorem dc_M_init_159 : decode cd_M_init 159 = .ok (.newarray .int, 2) := by decide +kernel
theorem dc_M_init_161 : decode cd_M_init 161 = .ok (.putfield 68, 3) := by decide +kernel
theorem dc_M_init_164 : decode cd_M_init 164 = .ok (.aload_n 0, 1) := by decide +kernel
theorem dc_M_init_165 : decode cd_M_init 165 = .ok (.bipush 48, 2) := by decide +kernel
theorem dc_M_init_167 : decode cd_M_init 167 = .ok (.newarray .int, 2) := by decide +kernel
theorem dc_M_init_169 : decode cd_M_init 169 = .ok (.putfield 71, 3) := by decide +kernel
theorem dc_M_init_172 : decode cd_M_init 172 = .ok (.aload_n 0, 1) := by decide +kernel
theorem dc_M_init_173 : decode cd_M_init 173 = .ok (.bipush 48, 2) := by decide +kernel
theorem dc_M_init_175 : decode cd_M_init 175 = .ok (.newarray .int, 2) := by decide +kernel
theorem dc_M_init_177 : decode cd_M_init 177 = .ok (.putfield 74, 3) := by decide +kernel
theorem dc_M_init_180 : decode cd_M_init 180 = .ok (.aload_n 0, 1) := by decide +kernel
theorem dc_M_init_181 : decode cd_M_init 181 = .ok (.bipush 48, 2) := by decide +kernel
theorem dc_M_init_183 : decode cd_M_init 183 = .ok (.newarray .int, 2) := by decide +kernel
theorem dc_M_init_185 : decode cd_M_init 185 = .ok (.putfield 77, 3) := by decide +kernel
theorem dc_M_init_188 : decode cd_M_init 188 = .ok (.aload_n 0, 1) := by decide +kernel
theorem dc_M_init_189 : decode cd_M_init 189 = .ok (.bipush 48, 2) := by decide +kernel
theorem dc_M_init_191 : decode cd_M_init 191 = .ok (.newarray .int, 2) := by decide +kernel
theorem dc_M_init_193 : decode cd_M_init 193 = .ok (.putfield 80, 3) := by decide +kernel
theorem dc_M_init_196 : decode cd_M_init 196 = .ok (.aload_n 0, 1) := by decide +kernel
theorem dc_M_init_197 : decode cd_M_init 197 = .ok (.bipush 48, 2) := by decide +kernel
theorem dc_M_init_199 : decode cd_M_init 199 = .ok (.newarray .int, 2) := by decide +kernel
theorem dc_M_init_201 : decode cd_M_init 201 = .ok (.putfield 83, 3) := by decide +kernel
theorem dc_M_init_204 : decode cd_M_init 204 = .ok (.aload_n 0, 1) := by decide +kernel
theorem dc_M_init_205 : decode cd_M_init 205 = .ok (.bipush 48, 2) := by decide +kernel
theorem dc_M_init_207 : decode cd_M_init 207 = .ok (.newarray .int, 2) := by decide +kernel
theorem dc_M_init_209 : decode cd_M_init 209 = .ok (.putfield 86, 3) := by decide +kernel
theorem dc_M_init_212 : decode cd_M_init 212 = .ok (.aload_n 0, 1) := by decide +kernel
theorem dc_M_init_213 : decode cd_M_init 213 = .ok (.bipush 48, 2) := by decide +kernel
theorem dc_M_init_215 : decode cd_M_init 215 = .ok (.newarray .int, 2) := by decide +kernel
theorem dc_M_init_217 : decode cd_M_init 217 = .ok (.putfield 89, 3) := by decide +kernel
theorem dc_M_init_220 : decode cd_M_init 220 = .ok (.aload_n 0, 1) := by decide +kernel
theorem dc_M_init_221 : decode cd_M_init 221 = .ok (.bipush 48, 2) := by decide +kernel
theorem dc_M_init_223 : decode cd_M_init 223 = .ok (.newarray .int, 2) := by decide +kernel
theorem dc_M_init_225 : decode cd_M_init 225 = .ok (.putfield 92, 3) := by decide +kernel
theorem dc_M_init_228 : decode cd_M_init 228 = .ok (.aload_n 0, 1) := by decide +kernel
theorem dc_M_init_229 : decode cd_M_init 229 = .ok (.bipush 72, 2) := by decide +kernel
theorem dc_M_init_231 : decode cd_M_init 231 = .ok (.newarray .int, 2) := by decide +kernel
theorem dc_M_init_233 : decode cd_M_init 233 = .ok (.putfield 95, 3) := by decide +kernel
theorem dc_M_init_236 : decode cd_M_init 236 = .ok (.aload_n 0, 1) := by decide +kernel
theorem dc_M_init_237 : decode cd_M_init 237 = .ok (.bipush 72, 2) := by decide +kernel
theorem dc_M_init_239 : decode cd_M_init 239 = .ok (.newarray .int, 2) := by decide +kernel
theorem dc_M_init_241 : decode cd_M_init 241 = .ok (.putfield 98, 3) := by decide +kernel
theorem dc_M_init_244 : decode cd_M_init 244 = .ok (.aload_n 0, 1) := by decide +kernel
theorem dc_M_init_245 : decode cd_M_init 245 = .ok (.bipush 72, 2) := by decide +kernel
theorem dc_M_init_247 : decode cd_M_init 247 = .ok (.newarray .int, 2) := by decide +kernel
theorem dc_M_init_249 : decode cd_M_init 249 = .ok (.putfield 101, 3) := by decide +kernel
theorem dc_M_init_252 : decode cd_M_init 252 = .ok (.aload_n 0, 1) := by decide +kernel
theorem dc_M_init_253 : decode cd_M_init 253 = .ok (.bipush 72, 2) := by decide +kernel
theorem dc_M_init_255 : decode cd_M_init 255 = .ok (.newarray .int, 2) := by decide +kernel
theorem dc_M_init_257 : decode cd_M_init 257 = .ok (.putfield 104, 3) := by decide +kernel
theorem dc_M_init_260 : decode cd_M_init 260 = .ok (.aload_n 0, 1) := by decide +kernel
theorem dc_M_init_261 : decode cd_M_init 261 = .ok (.bipush 72, 2) := by decide +kernel
theorem dc_M_init_263 : decode cd_M_init 263 = .ok (.newarray .boolean, 2) := by decide +kernel
theorem dc_M_init_265 : decode cd_M_init 265 = .ok (.putfield 107, 3) := by decide +kernel
theorem dc_M_init_268 : decode cd_M_init 268 = .ok (.aload_n 0, 1) := by decide +kernel
theorem dc_M_init_269 : decode cd_M_init 269 = .ok (.bipush 12, 2) := by decide +kernel
theorem dc_M_init_271 : decode cd_M_init 271 = .ok (.newarray .int, 2) := by decide +kernel
theorem dc_M_init_273 : decode cd_M_init 273 = .ok (.putfield 110, 3) := by decide +kernel
theorem dc_M_init_276 : decode cd_M_init 276 = .ok (.aload_n 0, 1) := by decide +kernel
theorem dc_M_init_277 : decode cd_M_init 277 = .ok (.bipush 20, 2) := by decide +kernel
theorem dc_M_init_279 : decode cd_M_init 279 = .ok (.putfield 113, 3) := by decide +kernel
theorem dc_M_init_282 : decode cd_M_init 282 = .ok (.iconst 0, 1) := by decide +kernel
theorem dc_M_init_283 : decode cd_M_init 283 = .ok (.istore_n 1, 1) := by decide +kernel
theorem dc_M_init_284 : decode cd_M_init 284 = .ok (.iload_n 1, 1) := by decide +kernel
theorem dc_M_init_285 : decode cd_M_init 285 = .ok (.bipush 36, 2) := by decide +kernel
theorem dc_M_init_287 : decode cd_M_init 287 = .ok (.if_icmp .ge 16, 3) := by decide +kernel
theorem dc_M_init_290 : decode cd_M_init 290 = .ok (.aload_n 0, 1) := by decide +kernel
theorem dc_M_init_291 : decode cd_M_init 291 = .ok (.getfield 7, 3) := by decide +kernel
theorem dc_M_init_294 : decode cd_M_init 294 = .ok (.iload_n 1, 1) := by decide +kernel
theorem dc_M_init_295 : decode cd_M_init 295 = .ok (.iconst (-1), 1) := by decide +kernel
theorem dc_M_init_296 : decode cd_M_init 296 = .ok (.iastore, 1) := by decide +kernel
theorem dc_M_init_297 : decode cd_M_init 297 = .ok (.iinc 1 1, 3) := by decide +kernel
theorem dc_M_init_300 : decode cd_M_init 300 = .ok (.goto (-16), 3) := by decide +kernel
theorem dc_M_init_303 : decode cd_M_init 303 = .ok (.iconst 0, 1) := by decide +kernel
theorem dc_M_init_304 : decode cd_M_init 304 = .ok (.istore_n 1, 1) := by decide +kernel
theorem dc_M_init_305 : decode cd_M_init 305 = .ok (.iload_n 1, 1) := by decide +kernel
theorem dc_M_init_306 : decode cd_M_init 306 = .ok (.bipush 48, 2) := by decide +kernel
theorem dc_M_init_308 : decode cd_M_init 308 = .ok (.if_icmp .ge 17, 3) := by decide +kernel
theorem dc_M_init_311 : decode cd_M_init 311 = .ok (.aload_n 0, 1) := by decide +kernel
theorem dc_M_init_312 : decode cd_M_init 312 = .ok (.getfield 68, 3) := by decide +kernel
theorem dc_M_init_315 : decode cd_M_init 315 = .ok (.iload_n 1, 1) := by decide +kernel
theorem dc_M_init_316 : decode cd_M_init 316 = .ok (.bipush (-2), 2) := by decide +kernel
theorem dc_M_init_318 : decode cd_M_init 318 = .ok (.iastore, 1) := by decide +kernel
theorem dc_M_init_319 : decode cd_M_init 319 = .ok (.iinc 1 1, 3) := by decide +kernel
theorem dc_M_init_322 : decode cd_M_init 322 = .ok (.goto (-17), 3) := by decide +kernel
theorem dc_M_init_325 : decode cd_M_init 325 = .ok (.iconst 0, 1) := by decide +kernel
theorem dc_M_init_326 : decode cd_M_init 326 = .ok (.istore_n 1, 1) := by decide +kernel
theorem dc_M_init_327 : decode cd_M_init 327 = .ok (.iload_n 1, 1) := by decide +kernel
theorem dc_M_init_328 : decode cd_M_init 328 = .ok (.bipush 12, 2) := by decide +kernel
theorem dc_M_init_330 : decode cd_M_init 330 = .ok (.if_icmp .ge 71, 3) := by decide +kernel
theorem dc_M_init_333 : decode cd_M_init 333 = .ok (.aload_n 0, 1) := by decide +kernel
theorem dc_M_init_334 : decode cd_M_init 334 = .ok (.getfield 41, 3) := by decide +kernel
theorem dc_M_init_337 : decode cd_M_init 337 = .ok (.iload_n 1, 1) := by decide +kernel
theorem dc_M_init_338 : decode cd_M_init 338 = .ok (.iconst 1, 1) := by decide +kernel
theorem dc_M_init_339 : decode cd_M_init 339 = .ok (.bastore, 1) := by decide +kernel
theorem dc_M_init_340 : decode cd_M_init 340 = .ok (.aload_n 0, 1) := by decide +kernel
theorem dc_M_init_341 : decode cd_M_init 341 = .ok (.getfield 50, 3) := by decide +kernel
theorem dc_M_init_344 : decode cd_M_init 344 = .ok (.iload_n 1, 1) := by decide +kernel
theorem dc_M_init_345 : decode cd_M_init 345 = .ok (.aload_n 0, 1) := by decide +kernel
theorem dc_M_init_346 : decode cd_M_init 346 = .ok (.getfield 53, 3) := by decide +kernel
theorem dc_M_init_349 : decode cd_M_init 349 = .ok (.iload_n 1, 1) := by decide +kernel
theorem dc_M_init_350 : decode cd_M_init 350 = .ok (.aload_n 0, 1) := by decide +kernel
theorem dc_M_init_351 : decode cd_M_init 351 = .ok (.getfield 56, 3) := by decide +kernel
theorem dc_M_init_354 : decode cd_M_init 354 = .ok (.iload_n 1, 1) := by decide +kernel
theorem dc_M_init_355 : decode cd_M_init 355 = .ok (.aload_n 0, 1) := by decide +kernel
theorem dc_M_init_356 : decode cd_M_init 356 = .ok (.getfield 59, 3) := by decide +kernel
theorem dc_M_init_359 : decode cd_M_init 359 = .ok (.iload_n 1, 1) := by decide +kernel
theorem dc_M_init_360 : decode cd_M_init 360 = .ok (.iconst (-1), 1) := by decide +kernel
theorem dc_M_init_361 : decode cd_M_init 361 = .ok (.dup_x2, 1) := by decide +kernel
theorem dc_M_init_362 : decode cd_M_init 362 = .ok (.iastore, 1) := by decide +kernel
theorem dc_M_init_363 : decode cd_M_init 363 = .ok (.dup_x2, 1) := by decide +kernel
theorem dc_M_init_364 : decode cd_M_init 364 = .ok (.iastore, 1) := by decide +kernel
theorem dc_M_init_365 : decode cd_M_init 365 = .ok (.dup_x2, 1) := by decide +kernel
theorem dc_M_init_366 : decode cd_M_init 366 = .ok (.iastore, 1) := by decide +kernel
theorem dc_M_init_367 : decode cd_M_init 367 = .ok (.iastore, 1) := by decide +kernel
theorem dc_M_init_368 : decode cd_M_init 368 = .ok (.aload_n 0, 1) := by decide +kernel
theorem dc_M_init_369 : decode cd_M_init 369 = .ok (.getfield 47, 3) := by decide +kernel
theorem dc_M_init_372 : decode cd_M_init 372 = .ok (.bipush 8, 2) := by decide +kernel
theorem dc_M_init_374 : decode cd_M_init 374 = .ok (.iload_n 1, 1) := by decide +kernel
theorem dc_M_init_375 : decode cd_M_init 375 = .ok (.imul, 1) := by decide +kernel
theorem dc_M_init_376 : decode cd_M_init 376 = .ok (.bipush 6, 2) := by decide +kernel
theorem dc_M_init_378 : decode cd_M_init 378 = .ok (.iadd, 1) := by decide +kernel
theorem dc_M_init_379 : decode cd_M_init 379 = .ok (.bipush 100, 2) := by decide +kernel
theorem dc_M_init_381 : decode cd_M_init 381 = .ok (.iastore, 1) := by decide +kernel
theorem dc_M_init_382 : decode cd_M_init 382 = .ok (.aload_n 0, 1) := by decide +kernel
theorem dc_M_init_383 : decode cd_M_init 383 = .ok (.getfield 47, 3) := by decide +kernel
theorem dc_M_init_386 : decode cd_M_init 386 = .ok (.bipush 8, 2) := by decide +kernel
theorem dc_M_init_388 : decode cd_M_init 388 = .ok (.iload_n 1, 1) := by decide +kernel
theorem dc_M_init_389 : decode cd_M_init 389 = .ok (.imul, 1) := by decide +kernel
theorem dc_M_init_390 : decode cd_M_init 390 = .ok (.bipush 7, 2) := by decide +kernel
theorem dc_M_init_392 : decode cd_M_init 392 = .ok (.iadd, 1) := by decide +kernel
theorem dc_M_init_393 : decode cd_M_init 393 = .ok (.iconst (-1), 1) := by decide +kernel
theorem dc_M_init_394 : decode cd_M_init 394 = .ok (.iastore, 1) := by decide +kernel
theorem dc_M_init_395 : decode cd_M_init 395 = .ok (.iinc 1 1, 3) := by decide +kernel
theorem dc_M_init_398 : decode cd_M_init 398 = .ok (.goto (-71), 3) := by decide +kernel
theorem dc_M_init_401 : decode cd_M_init 401 = .ok (.return_, 1) := by decide +kernel
theorem dc_M_thrown_0 : decode cd_M_thrown 0 = .ok (.aload_n 0, 1) := by decide +kernel
theorem dc_M_thrown_1 : decode cd_M_thrown 1 = .ok (.getfield 117, 3) := by decide +kernel
theorem dc_M_thrown_4 : decode cd_M_thrown 4 = .ok (.ireturn, 1) := by decide +kernel
theorem dc_M_fail_0 : decode cd_M_fail 0 = .ok (.aload_n 0, 1) := by decide +kernel
theorem dc_M_fail_1 : decode cd_M_fail 1 = .ok (.iload_n 1, 1) := by decide +kernel
theorem dc_M_fail_2 : decode cd_M_fail 2 = .ok (.putfield 117, 3) := by decide +kernel
theorem dc_M_fail_5 : decode cd_M_fail 5 = .ok (.iconst 0, 1) := by decide +kernel
theorem dc_M_fail_6 : decode cd_M_fail 6 = .ok (.ireturn, 1) := by decide +kernel
theorem dc_M_out_0 : decode cd_M_out 0 = .ok (.iload_n 0, 1) := by decide +kernel
theorem dc_M_out_1 : decode cd_M_out 1 = .ok (.ifCond .lt 8, 3) := by decide +kernel
theorem dc_M_out_4 : decode cd_M_out 4 = .ok (.iload_n 0, 1) := by decide +kernel
theorem dc_M_out_5 : decode cd_M_out 5 = .ok (.iload_n 1, 1) := by decide +kernel
theorem dc_M_out_6 : decode cd_M_out 6 = .ok (.if_icmp .lt 7, 3) := by decide +kernel
theorem dc_M_out_9 : decode cd_M_out 9 = .ok (.iconst 1, 1) := by decide +kernel
theorem dc_M_out_10 : decode cd_M_out 10 = .ok (.goto 4, 3) := by decide +kernel
theorem dc_M_out_13 : decode cd_M_out 13 = .ok (.iconst 0, 1) := by decide +kernel
theorem dc_M_out_14 : decode cd_M_out 14 = .ok (.ireturn, 1) := by decide +kernel
theorem dc_M_plug_0 : decode cd_M_plug 0 = .ok (.aload_n 0, 1) := by decide +kernel
theorem dc_M_plug_1 : decode cd_M_plug 1 = .ok (.iconst 0, 1) := by decide +kernel
theorem dc_M_plug_2 : decode cd_M_plug 2 = .ok (.putfield 117, 3) := by decide +kernel
theorem dc_M_plug_5 : decode cd_M_plug 5 = .ok (.iload_n 1, 1) := by decide +kernel
theorem dc_M_plug_6 : decode cd_M_plug 6 = .ok (.bipush 12, 2) := by decide +kernel
theorem dc_M_plug_8 : decode cd_M_plug 8 = .ok (.invokestatic 120, 3) := by decide +kernel
theorem dc_M_plug_11 : decode cd_M_plug 11 = .ok (.ifCond .ne 12, 3) := by decide +kernel
theorem dc_M_plug_14 : decode cd_M_plug 14 = .ok (.iload_n 3, 1) := by decide +kernel
theorem dc_M_plug_15 : decode cd_M_plug 15 = .ok (.bipush 12, 2) := by decide +kernel
theorem dc_M_plug_17 : decode cd_M_plug 17 = .ok (.invokestatic 120, 3) := by decide +kernel
theorem dc_M_plug_20 : decode cd_M_plug 20 = .ok (.ifCond .eq 9, 3) := by decide +kernel
theorem dc_M_plug_23 : decode cd_M_plug 23 = .ok (.aload_n 0, 1) := by decide +kernel
theorem dc_M_plug_24 : decode cd_M_plug 24 = .ok (.iconst 1, 1) := by decide +kernel
theorem dc_M_plug_25 : decode cd_M_plug 25 = .ok (.invokevirtual 124, 3) := by decide +kernel
theorem dc_M_plug_28 : decode cd_M_plug 28 = .ok (.ireturn, 1) := by decide +kernel
theorem dc_M_plug_29 : decode cd_M_plug 29 = .ok (.iload_n 2, 1) := by decide +kernel
theorem dc_M_plug_30 : decode cd_M_plug 30 = .ok (.iconst 3, 1) := by decide +kernel
theorem dc_M_plug_31 : decode cd_M_plug 31 = .ok (.invokestatic 120, 3) := by decide +kernel
theorem dc_M_plug_34 : decode cd_M_plug 34 = .ok (.ifCond .ne 17, 3) := by decide +kernel
theorem dc_M_plug_37 : decode cd_M_plug 37 = .ok (.iload 4, 2) := by decide +kernel
theorem dc_M_plug_39 : decode cd_M_plug 39 = .ok (.iconst 3, 1) := by decide +kernel
theorem dc_M_plug_40 : decode cd_M_plug 40 = .ok (.invokestatic 120, 3) := by decide +kernel
theorem dc_M_plug_43 : decode cd_M_plug 43 = .ok (.ifCond .ne 8, 3) := by decide +kernel
theorem dc_M_plug_46 : decode cd_M_plug 46 = .ok (.iload_n 1, 1) := by decide +kernel
theorem dc_M_plug_47 : decode cd_M_plug 47 = .ok (.iload_n 3, 1) := by decide +kernel
theorem dc_M_plug_48 : decode cd_M_plug 48 = .ok (.if_icmp .ne 9, 3) := by decide +kernel
theorem dc_M_plug_51 : decode cd_M_plug 51 = .ok (.aload_n 0, 1) := by decide +kernel
theorem dc_M_plug_52 : decode cd_M_plug 52 = .ok (.iconst 2, 1) := by decide +kernel
theorem dc_M_plug_53 : decode cd_M_plug 53 = .ok (.invokevirtual 124, 3) := by decide +kernel
theorem dc_M_plug_56 : decode cd_M_plug 56 = .ok (.ireturn, 1) := by decide +kernel
theorem dc_M_plug_57 : decode cd_M_plug 57 = .ok (.aload_n 0, 1) := by decide +kernel
theorem dc_M_plug_58 : decode cd_M_plug 58 = .ok (.getfield 7, 3) := by decide +kernel
theorem dc_M_plug_61 : decode cd_M_plug 61 = .ok (.iconst 3, 1) := by decide +kernel
theorem dc_M_plug_62 : decode cd_M_plug 62 = .ok (.iload_n 1, 1) := by decide +kernel
theorem dc_M_plug_63 : decode cd_M_plug 63 = .ok (.imul, 1) := by decide +kernel
theorem dc_M_plug_64 : decode cd_M_plug 64 = .ok (.iload_n 2, 1) := by decide +kernel
theorem dc_M_plug_65 : decode cd_M_plug 65 = .ok (.iadd, 1) := by decide +kernel
theorem dc_M_plug_66 : decode cd_M_plug 66 = .ok (.iaload, 1) := by decide +kernel
theorem dc_M_plug_67 : decode cd_M_plug 67 = .ok (.ifCond .ge 17, 3) := by decide +kernel
theorem dc_M_plug_70 : decode cd_M_plug 70 = .ok (.aload_n 0, 1) := by decide +kernel
theorem dc_M_plug_71 : decode cd_M_plug 71 = .ok (.getfield 7, 3) := by decide +kernel
theorem dc_M_plug_74 : decode cd_M_plug 74 = .ok (.iconst 3, 1) := by decide +kernel
theorem dc_M_plug_75 : decode cd_M_plug 75 = .ok (.iload_n 3, 1) := by decide +kernel
theorem dc_M_plug_76 : decode cd_M_plug 76 = .ok (.imul, 1) := by decide +kernel
theorem dc_M_plug_77 : decode cd_M_plug 77 = .ok (.iload 4, 2) := by decide +kernel
theorem dc_M_plug_79 : decode cd_M_plug 79 = .ok (.iadd, 1) := by decide +kernel
theorem dc_M_plug_80 : decode cd_M_plug 80 = .ok (.iaload, 1) := by decide +kernel
theorem dc_M_plug_81 : decode cd_M_plug 81 = .ok (.ifCond .lt 9, 3) := by decide +kernel
theorem dc_M_plug_84 : decode cd_M_plug 84 = .ok (.aload_n 0, 1) := by decide +kernel
theorem dc_M_plug_85 : decode cd_M_plug 85 = .ok (.iconst 3, 1) := by decide +kernel
theorem dc_M_plug_86 : decode cd_M_plug 86 = .ok (.invokevirtual 124, 3) := by decide +kernel
theorem dc_M_plug_89 : decode cd_M_plug 89 = .ok (.ireturn, 1) := by decide +kernel
theorem dc_M_plug_90 : decode cd_M_plug 90 = .ok (.aload_n 0, 1) := by decide +kernel
theorem dc_M_plug_91 : decode cd_M_plug 91 = .ok (.getfield 7, 3) := by decide +kernel
theorem dc_M_plug_94 : decode cd_M_plug 94 = .ok (.iconst 3, 1) := by decide +kernel
theorem dc_M_plug_95 : decode cd_M_plug 95 = .ok (.iload_n 1, 1) := by decide +kernel
theorem dc_M_plug_96 : decode cd_M_plug 96 = .ok (.imul, 1) := by decide +kernel
theorem dc_M_plug_97 : decode cd_M_plug 97 = .ok (.iload_n 2, 1) := by decide +kernel
theorem dc_M_plug_98 : decode cd_M_plug 98 = .ok (.iadd, 1) := by decide +kernel
theorem dc_M_plug_99 : decode cd_M_plug 99 = .ok (.iconst 3, 1) := by decide +kernel
theorem dc_M_plug_100 : decode cd_M_plug 100 = .ok (.iload_n 3, 1) := by decide +kernel
theorem dc_M_plug_101 : decode cd_M_plug 101 = .ok (.imul, 1) := by decide +kernel
theorem dc_M_plug_102 : decode cd_M_plug 102 = .ok (.iload 4, 2) := by decide +kernel
theorem dc_M_plug_104 : decode cd_M_plug 104 = .ok (.iadd, 1) := by decide +kernel
theorem dc_M_plug_105 : decode cd_M_plug 105 = .ok (.iastore, 1) := by decide +kernel
theorem dc_M_plug_106 : decode cd_M_plug 106 = .ok (.aload_n 0, 1) := by decide +kernel
theorem dc_M_plug_107 : decode cd_M_plug 107 = .ok (.getfield 7, 3) := by decide +kernel
theorem dc_M_plug_110 : decode cd_M_plug 110 = .ok (.iconst 3, 1) := by decide +kernel
theorem dc_M_plug_111 : decode cd_M_plug 111 = .ok (.iload_n 3, 1) := by decide +kernel
theorem dc_M_plug_112 : decode cd_M_plug 112 = .ok (.imul, 1) := by decide +kernel
theorem dc_M_plug_113 : decode cd_M_plug 113 = .ok (.iload 4, 2) := by decide +kernel
theorem dc_M_plug_115 : decode cd_M_plug 115 = .ok (.iadd, 1) := by decide +kernel
theorem dc_M_plug_116 : decode cd_M_plug 116 = .ok (.iconst 3, 1) := by decide +kernel
theorem dc_M_plug_117 : decode cd_M_plug 117 = .ok (.iload_n 1, 1) := by decide +kernel
theorem dc_M_plug_118 : decode cd_M_plug 118 = .ok (.imul, 1) := by decide +kernel
theorem dc_M_plug_119 : decode cd_M_plug 119 = .ok (.iload_n 2, 1) := by decide +kernel
theorem dc_M_plug_120 : decode cd_M_plug 120 = .ok (.iadd, 1) := by decide +kernel
theorem dc_M_plug_121 : decode cd_M_plug 121 = .ok (.iastore, 1) := by decide +kernel
theorem dc_M_plug_122 : decode cd_M_plug 122 = .ok (.aload_n 0, 1) := by decide +kernel
theorem dc_M_plug_123 : decode cd_M_plug 123 = .ok (.getfield 41, 3) := by decide +kernel
theorem dc_M_plug_126 : decode cd_M_plug 126 = .ok (.iload_n 1, 1) := by decide +kernel
theorem dc_M_plug_127 : decode cd_M_plug 127 = .ok (.aload_n 0, 1) := by decide +kernel
theorem dc_M_plug_128 : decode cd_M_plug 128 = .ok (.getfield 41, 3) := by decide +kernel
theorem dc_M_plug_131 : decode cd_M_plug 131 = .ok (.iload_n 3, 1) := by decide +kernel
theorem dc_M_plug_132 : decode cd_M_plug 132 = .ok (.iconst 1, 1) := by decide +kernel
theorem dc_M_plug_133 : decode cd_M_plug 133 = .ok (.dup_x2, 1) := by decide +kernel
theorem dc_M_plug_134 : decode cd_M_plug 134 = .ok (.bastore, 1) := by decide +kernel
theorem dc_M_plug_135 : decode cd_M_plug 135 = .ok (.bastore, 1) := by decide +kernel
theorem dc_M_plug_136 : decode cd_M_plug 136 = .ok (.aload_n 0, 1) := by decide +kernel
theorem dc_M_plug_137 : decode cd_M_plug 137 = .ok (.invokevirtual 128, 3) := by decide +kernel
theorem dc_M_plug_140 : decode cd_M_plug 140 = .ok (.ireturn, 1) := by decide +kernel
theorem dc_M_unplug_0 : decode cd_M_unplug 0 = .ok (.aload_n 0, 1) := by decide +kernel
theorem dc_M_unplug_1 : decode cd_M_unplug 1 = .ok (.iconst 0, 1) := by decide +kernel
theorem dc_M_unplug_2 : decode cd_M_unplug 2 = .ok (.putfield 117, 3) := by decide +kernel
theorem dc_M_unplug_5 : decode cd_M_unplug 5 = .ok (.iload_n 1, 1) := by decide +kernel
theorem dc_M_unplug_6 : decode cd_M_unplug 6 = .ok (.bipush 12, 2) := by decide +kernel
theorem dc_M_unplug_8 : decode cd_M_unplug 8 = .ok (.invokestatic 120, 3) := by decide +kernel
theorem dc_M_unplug_11 : decode cd_M_unplug 11 = .ok (.ifCond .eq 9, 3) := by decide +kernel
theorem dc_M_unplug_14 : decode cd_M_unplug 14 = .ok (.aload_n 0, 1) := by decide +kernel
theorem dc_M_unplug_15 : decode cd_M_unplug 15 = .ok (.iconst 1, 1) := by decide +kernel
theorem dc_M_unplug_16 : decode cd_M_unplug 16 = .ok (.invokevirtual 124, 3) := by decide +kernel
theorem dc_M_unplug_19 : decode cd_M_unplug 19 = .ok (.ireturn, 1) := by decide +kernel
theorem dc_M_unplug_20 : decode cd_M_unplug 20 = .ok (.iload_n 2, 1) := by decide +kernel
theorem dc_M_unplug_21 : decode cd_M_unplug 21 = .ok (.iconst 3, 1) := by decide +kernel
theorem dc_M_unplug_22 : decode cd_M_unplug 22 = .ok (.invokestatic 120, 3) := by decide +kernel
theorem dc_M_unplug_25 : decode cd_M_unplug 25 = .ok (.ifCond .eq 9, 3) := by decide +kernel
theorem dc_M_unplug_28 : decode cd_M_unplug 28 = .ok (.aload_n 0, 1) := by decide +kernel
theorem dc_M_unplug_29 : decode cd_M_unplug 29 = .ok (.iconst 2, 1) := by decide +kernel
theorem dc_M_unplug_30 : decode cd_M_unplug 30 = .ok (.invokevirtual 124, 3) := by decide +kernel
theorem dc_M_unplug_33 : decode cd_M_unplug 33 = .ok (.ireturn, 1) := by decide +kernel
theorem dc_M_unplug_34 : decode cd_M_unplug 34 = .ok (.aload_n 0, 1) := by decide +kernel
theorem dc_M_unplug_35 : decode cd_M_unplug 35 = .ok (.getfield 7, 3) := by decide +kernel
theorem dc_M_unplug_38 : decode cd_M_unplug 38 = .ok (.iconst 3, 1) := by decide +kernel
theorem dc_M_unplug_39 : decode cd_M_unplug 39 = .ok (.iload_n 1, 1) := by decide +kernel
theorem dc_M_unplug_40 : decode cd_M_unplug 40 = .ok (.imul, 1) := by decide +kernel
theorem dc_M_unplug_41 : decode cd_M_unplug 41 = .ok (.iload_n 2, 1) := by decide +kernel
theorem dc_M_unplug_42 : decode cd_M_unplug 42 = .ok (.iadd, 1) := by decide +kernel
theorem dc_M_unplug_43 : decode cd_M_unplug 43 = .ok (.iaload, 1) := by decide +kernel
theorem dc_M_unplug_44 : decode cd_M_unplug 44 = .ok (.istore_n 3, 1) := by decide +kernel
theorem dc_M_unplug_45 : decode cd_M_unplug 45 = .ok (.iload_n 3, 1) := by decide +kernel
theorem dc_M_unplug_46 : decode cd_M_unplug 46 = .ok (.ifCond .ge 9, 3) := by decide +kernel
theorem dc_M_unplug_49 : decode cd_M_unplug 49 = .ok (.aload_n 0, 1) := by decide +kernel
theorem dc_M_unplug_50 : decode cd_M_unplug 50 = .ok (.iconst 3, 1) := by decide +kernel
theorem dc_M_unplug_51 : decode cd_M_unplug 51 = .ok (.invokevirtual 124, 3) := by decide +kernel
theorem dc_M_unplug_54 : decode cd_M_unplug 54 = .ok (.ireturn, 1) := by decide +kernel
theorem dc_M_unplug_55 : decode cd_M_unplug 55 = .ok (.aload_n 0, 1) := by decide +kernel
theorem dc_M_unplug_56 : decode cd_M_unplug 56 = .ok (.getfield 7, 3) := by decide +kernel
theorem dc_M_unplug_59 : decode cd_M_unplug 59 = .ok (.iconst 3, 1) := by decide +kernel
theorem dc_M_unplug_60 : decode cd_M_unplug 60 = .ok (.iload_n 1, 1) := by decide +kernel
theorem dc_M_unplug_61 : decode cd_M_unplug 61 = .ok (.imul, 1) := by decide +kernel
theorem dc_M_unplug_62 : decode cd_M_unplug 62 = .ok (.iload_n 2, 1) := by decide +kernel
theorem dc_M_unplug_63 : decode cd_M_unplug 63 = .ok (.iadd, 1) := by decide +kernel
theorem dc_M_unplug_64 : decode cd_M_unplug 64 = .ok (.aload_n 0, 1) := by decide +kernel
theorem dc_M_unplug_65 : decode cd_M_unplug 65 = .ok (.getfield 7, 3) := by decide +kernel
theorem dc_M_unplug_68 : decode cd_M_unplug 68 = .ok (.iload_n 3, 1) := by decide +kernel
theorem dc_M_unplug_69 : decode cd_M_unplug 69 = .ok (.iconst (-1), 1) := by decide +kernel
theorem dc_M_unplug_70 : decode cd_M_unplug 70 = .ok (.dup_x2, 1) := by decide +kernel
theorem dc_M_unplug_71 : decode cd_M_unplug 71 = .ok (.iastore, 1) := by decide +kernel
theorem dc_M_unplug_72 : decode cd_M_unplug 72 = .ok (.iastore, 1) := by decide +kernel
theorem dc_M_unplug_73 : decode cd_M_unplug 73 = .ok (.aload_n 0, 1) := by decide +kernel
theorem dc_M_unplug_74 : decode cd_M_unplug 74 = .ok (.getfield 41, 3) := by decide +kernel
theorem dc_M_unplug_77 : decode cd_M_unplug 77 = .ok (.iload_n 1, 1) := by decide +kernel
theorem dc_M_unplug_78 : decode cd_M_unplug 78 = .ok (.aload_n 0, 1) := by decide +kernel
theorem dc_M_unplug_79 : decode cd_M_unplug 79 = .ok (.getfield 41, 3) := by decide +kernel
theorem dc_M_unplug_82 : decode cd_M_unplug 82 = .ok (.iload_n 3, 1) := by decide +kernel
theorem dc_M_unplug_83 : decode cd_M_unplug 83 = .ok (.iconst 3, 1) := by decide +kernel
theorem dc_M_unplug_84 : decode cd_M_unplug 84 = .ok (.idiv, 1) := by decide +kernel
theorem dc_M_unplug_85 : decode cd_M_unplug 85 = .ok (.iconst 1, 1) := by decide +kernel
theorem dc_M_unplug_86 : decode cd_M_unplug 86 = .ok (.dup_x2, 1) := by decide +kernel
theorem dc_M_unplug_87 : decode cd_M_unplug 87 = .ok (.bastore, 1) := by decide +kernel
theorem dc_M_unplug_88 : decode cd_M_unplug 88 = .ok (.bastore, 1) := by decide +kernel
theorem dc_M_unplug_89 : decode cd_M_unplug 89 = .ok (.iload_n 3, 1) := by decide +kernel
theorem dc_M_unplug_90 : decode cd_M_unplug 90 = .ok (.iconst 3, 1) := by decide +kernel
theorem dc_M_unplug_91 : decode cd_M_unplug 91 = .ok (.idiv, 1) := by decide +kernel
theorem dc_M_unplug_92 : decode cd_M_unplug 92 = .ok (.ireturn, 1) := by decide +kernel
theorem dc_M_cables_0 : decode cd_M_cables 0 = .ok (.iconst 0, 1) := by decide +kernel
theorem dc_M_cables_1 : decode cd_M_cables 1 = .ok (.istore_n 1, 1) := by decide +kernel
theorem dc_M_cables_2 : decode cd_M_cables 2 = .ok (.iconst 0, 1) := by decide +kernel
theorem dc_M_cables_3 : decode cd_M_cables 3 = .ok (.istore_n 2, 1) := by decide +kernel
theorem dc_M_cables_4 : decode cd_M_cables 4 = .ok (.iload_n 2, 1) := by decide +kernel
theorem dc_M_cables_5 : decode cd_M_cables 5 = .ok (.bipush 36, 2) := by decide +kernel
theorem dc_M_cables_7 : decode cd_M_cables 7 = .ok (.if_icmp .ge 22, 3) := by decide +kernel
theorem dc_M_cables_10 : decode cd_M_cables 10 = .ok (.aload_n 0, 1) := by decide +kernel
theorem dc_M_cables_11 : decode cd_M_cables 11 = .ok (.getfield 7, 3) := by decide +kernel
theorem dc_M_cables_14 : decode cd_M_cables 14 = .ok (.iload_n 2, 1) := by decide +kernel
theorem dc_M_cables_15 : decode cd_M_cables 15 = .ok (.iaload, 1) := by decide +kernel
theorem dc_M_cables_16 : decode cd_M_cables 16 = .ok (.iload_n 2, 1) := by decide +kernel
theorem dc_M_cables_17 : decode cd_M_cables 17 = .ok (.if_icmp .le 6, 3) := by decide +kernel
theorem dc_M_cables_20 : decode cd_M_cables 20 = .ok (.iinc 1 1, 3) := by decide +kernel
theorem dc_M_cables_23 : decode cd_M_cables 23 = .ok (.iinc 2 1, 3) := by decide +kernel
theorem dc_M_cables_26 : decode cd_M_cables 26 = .ok (.goto (-22), 3) := by decide +kernel
theorem dc_M_cables_29 : decode cd_M_cables 29 = .ok (.iload_n 1, 1) := by decide +kernel
theorem dc_M_cables_30 : decode cd_M_cables 30 = .ok (.ireturn, 1) := by decide +kernel
theorem dc_M_findBuses_0 : decode cd_M_findBuses 0 = .ok (.iconst 0, 1) := by decide +kernel
theorem dc_M_findBuses_1 : decode cd_M_findBuses 1 = .ok (.istore_n 1, 1) := by decide +kernel
theorem dc_M_findBuses_2 : decode cd_M_findBuses 2 = .ok (.iload_n 1, 1) := by decide +kernel
theorem dc_M_findBuses_3 : decode cd_M_findBuses 3 = .ok (.bipush 12, 2) := by decide +kernel
theorem dc_M_findBuses_5 : decode cd_M_findBuses 5 = .ok (.if_icmp .ge 16, 3) := by decide +kernel
theorem dc_M_findBuses_8 : decode cd_M_findBuses 8 = .ok (.aload_n 0, 1) := by decide +kernel
theorem dc_M_findBuses_9 : decode cd_M_findBuses 9 = .ok (.getfield 62, 3) := by decide +kernel
theorem dc_M_findBuses_12 : decode cd_M_findBuses 12 = .ok (.iload_n 1, 1) := by decide +kernel
theorem dc_M_findBuses_13 : decode cd_M_findBuses 13 = .ok (.iload_n 1, 1) := by decide +kernel
theorem dc_M_findBuses_14 : decode cd_M_findBuses 14 = .ok (.iastore, 1) := by decide +kernel
theorem dc_M_findBuses_15 : decode cd_M_findBuses 15 = .ok (.iinc 1 1, 3) := by decide +kernel
theorem dc_M_findBuses_18 : decode cd_M_findBuses 18 = .ok (.goto (-16), 3) := by decide +kernel
theorem dc_M_findBuses_21 : decode cd_M_findBuses 21 = .ok (.iconst 1, 1) := by decide +kernel
theorem dc_M_findBuses_22 : decode cd_M_findBuses 22 = .ok (.istore_n 1, 1) := by decide +kernel
theorem dc_M_findBuses_23 : decode cd_M_findBuses 23 = .ok (.iload_n 1, 1) := by decide +kernel
theorem dc_M_findBuses_24 : decode cd_M_findBuses 24 = .ok (.ifCond .eq 81, 3) := by decide +kernel
theorem dc_M_findBuses_27 : decode cd_M_findBuses 27 = .ok (.iconst 0, 1) := by decide +kernel
theorem dc_M_findBuses_28 : decode cd_M_findBuses 28 = .ok (.istore_n 1, 1) := by decide +kernel
theorem dc_M_findBuses_29 : decode cd_M_findBuses 29 = .ok (.iconst 0, 1) := by decide +kernel
theorem dc_M_findBuses_30 : decode cd_M_findBuses 30 = .ok (.istore_n 2, 1) := by decide +kernel
theorem dc_M_findBuses_31 : decode cd_M_findBuses 31 = .ok (.iload_n 2, 1) := by decide +kernel
theorem dc_M_findBuses_32 : decode cd_M_findBuses 32 = .ok (.bipush 36, 2) := by decide +kernel
theorem dc_M_findBuses_34 : decode cd_M_findBuses 34 = .ok (.if_icmp .ge 68, 3) := by decide +kernel
theorem dc_M_findBuses_37 : decode cd_M_findBuses 37 = .ok (.aload_n 0, 1) := by decide +kernel
theorem dc_M_findBuses_38 : decode cd_M_findBuses 38 = .ok (.getfield 7, 3) := by decide +kernel
theorem dc_M_findBuses_41 : decode cd_M_findBuses 41 = .ok (.iload_n 2, 1) := by decide +kernel
theorem dc_M_findBuses_42 : decode cd_M_findBuses 42 = .ok (.iaload, 1) := by decide +kernel
theorem dc_M_findBuses_43 : decode cd_M_findBuses 43 = .ok (.ifCond .lt 53, 3) := by decide +kernel
theorem dc_M_findBuses_46 : decode cd_M_findBuses 46 = .ok (.aload_n 0, 1) := by decide +kernel
theorem dc_M_findBuses_47 : decode cd_M_findBuses 47 = .ok (.getfield 62, 3) := by decide +kernel
theorem dc_M_findBuses_50 : decode cd_M_findBuses 50 = .ok (.aload_n 0, 1) := by decide +kernel
theorem dc_M_findBuses_51 : decode cd_M_findBuses 51 = .ok (.getfield 7, 3) := by decide +kernel
theorem dc_M_findBuses_54 : decode cd_M_findBuses 54 = .ok (.iload_n 2, 1) := by decide +kernel
theorem dc_M_findBuses_55 : decode cd_M_findBuses 55 = .ok (.iaload, 1) := by decide +kernel
theorem dc_M_findBuses_56 : decode cd_M_findBuses 56 = .ok (.iconst 3, 1) := by decide +kernel
theorem dc_M_findBuses_57 : decode cd_M_findBuses 57 = .ok (.idiv, 1) := by decide +kernel
theorem dc_M_findBuses_58 : decode cd_M_findBuses 58 = .ok (.iaload, 1) := by decide +kernel
theorem dc_M_findBuses_59 : decode cd_M_findBuses 59 = .ok (.aload_n 0, 1) := by decide +kernel
theorem dc_M_findBuses_60 : decode cd_M_findBuses 60 = .ok (.getfield 62, 3) := by decide +kernel
theorem dc_M_findBuses_63 : decode cd_M_findBuses 63 = .ok (.iload_n 2, 1) := by decide +kernel
theorem dc_M_findBuses_64 : decode cd_M_findBuses 64 = .ok (.iconst 3, 1) := by decide +kernel
theorem dc_M_findBuses_65 : decode cd_M_findBuses 65 = .ok (.idiv, 1) := by decide +kernel
theorem dc_M_findBuses_66 : decode cd_M_findBuses 66 = .ok (.iaload, 1) := by decide +kernel
theorem dc_M_findBuses_67 : decode cd_M_findBuses 67 = .ok (.if_icmp .lt 6, 3) := by decide +kernel
theorem dc_M_findBuses_70 : decode cd_M_findBuses 70 = .ok (.goto 26, 3) := by decide +kernel
theorem dc_M_findBuses_73 : decode cd_M_findBuses 73 = .ok (.aload_n 0, 1) := by decide +kernel
theorem dc_M_findBuses_74 : decode cd_M_findBuses 74 = .ok (.getfield 62, 3) := by decide +kernel
theorem dc_M_findBuses_77 : decode cd_M_findBuses 77 = .ok (.iload_n 2, 1) := by decide +kernel
theorem dc_M_findBuses_78 : decode cd_M_findBuses 78 = .ok (.iconst 3, 1) := by decide +kernel
theorem dc_M_findBuses_79 : decode cd_M_findBuses 79 = .ok (.idiv, 1) := by decide +kernel
theorem dc_M_findBuses_80 : decode cd_M_findBuses 80 = .ok (.aload_n 0, 1) := by decide +kernel
theorem dc_M_findBuses_81 : decode cd_M_findBuses 81 = .ok (.getfield 62, 3) := by decide +kernel
theorem dc_M_findBuses_84 : decode cd_M_findBuses 84 = .ok (.aload_n 0, 1) := by decide +kernel
theorem dc_M_findBuses_85 : decode cd_M_findBuses 85 = .ok (.getfield 7, 3) := by decide +kernel
theorem dc_M_findBuses_88 : decode cd_M_findBuses 88 = .ok (.iload_n 2, 1) := by decide +kernel
theorem dc_M_findBuses_89 : decode cd_M_findBuses 89 = .ok (.iaload, 1) := by decide +kernel
theorem dc_M_findBuses_90 : decode cd_M_findBuses 90 = .ok (.iconst 3, 1) := by decide +kernel
theorem dc_M_findBuses_91 : decode cd_M_findBuses 91 = .ok (.idiv, 1) := by decide +kernel
theorem dc_M_findBuses_92 : decode cd_M_findBuses 92 = .ok (.iaload, 1) := by decide +kernel
theorem dc_M_findBuses_93 : decode cd_M_findBuses 93 = .ok (.iastore, 1) := by decide +kernel
theorem dc_M_findBuses_94 : decode cd_M_findBuses 94 = .ok (.iconst 1, 1) := by decide +kernel
theorem dc_M_findBuses_95 : decode cd_M_findBuses 95 = .ok (.istore_n 1, 1) := by decide +kernel
theorem dc_M_findBuses_96 : decode cd_M_findBuses 96 = .ok (.iinc 2 1, 3) := by decide +kernel
theorem dc_M_findBuses_99 : decode cd_M_findBuses 99 = .ok (.goto (-68), 3) := by decide +kernel
theorem dc_M_findBuses_102 : decode cd_M_findBuses 102 = .ok (.goto (-79), 3) := by decide +kernel
theorem dc_M_findBuses_105 : decode cd_M_findBuses 105 = .ok (.return_, 1) := by decide +kernel
theorem dc_M_busDirty_0 : decode cd_M_busDirty 0 = .ok (.iconst 0, 1) := by decide +kernel
theorem dc_M_busDirty_1 : decode cd_M_busDirty 1 = .ok (.istore_n 2, 1) := by decide +kernel
theorem dc_M_busDirty_2 : decode cd_M_busDirty 2 = .ok (.iconst 0, 1) := by decide +kernel
theorem dc_M_busDirty_3 : decode cd_M_busDirty 3 = .ok (.istore_n 3, 1) := by decide +kernel
theorem dc_M_busDirty_4 : decode cd_M_busDirty 4 = .ok (.iload_n 3, 1) := by decide +kernel
theorem dc_M_busDirty_5 : decode cd_M_busDirty 5 = .ok (.bipush 12, 2) := by decide +kernel
theorem dc_M_busDirty_7 : decode cd_M_busDirty 7 = .ok (.if_icmp .ge 30, 3) := by decide +kernel
theorem dc_M_busDirty_10 : decode cd_M_busDirty 10 = .ok (.aload_n 0, 1) := by decide +kernel
theorem dc_M_busDirty_11 : decode cd_M_busDirty 11 = .ok (.getfield 62, 3) := by decide +kernel
theorem dc_M_busDirty_14 : decode cd_M_busDirty 14 = .ok (.iload_n 3, 1) := by decide +kernel
theorem dc_M_busDirty_15 : decode cd_M_busDirty 15 = .ok (.iaload, 1) := by decide +kernel
theorem dc_M_busDirty_16 : decode cd_M_busDirty 16 = .ok (.iload_n 1, 1) := by decide +kernel
theorem dc_M_busDirty_17 : decode cd_M_busDirty 17 = .ok (.if_icmp .ne 14, 3) := by decide +kernel
theorem dc_M_busDirty_20 : decode cd_M_busDirty 20 = .ok (.aload_n 0, 1) := by decide +kernel
theorem dc_M_busDirty_21 : decode cd_M_busDirty 21 = .ok (.getfield 41, 3) := by decide +kernel
theorem dc_M_busDirty_24 : decode cd_M_busDirty 24 = .ok (.iload_n 3, 1) := by decide +kernel
theorem dc_M_busDirty_25 : decode cd_M_busDirty 25 = .ok (.baload, 1) := by decide +kernel
theorem dc_M_busDirty_26 : decode cd_M_busDirty 26 = .ok (.ifCond .eq 5, 3) := by decide +kernel
theorem dc_M_busDirty_29 : decode cd_M_busDirty 29 = .ok (.iconst 1, 1) := by decide +kernel
theorem dc_M_busDirty_30 : decode cd_M_busDirty 30 = .ok (.istore_n 2, 1) := by decide +kernel
theorem dc_M_busDirty_31 : decode cd_M_busDirty 31 = .ok (.iinc 3 1, 3) := by decide +kernel
theorem dc_M_busDirty_34 : decode cd_M_busDirty 34 = .ok (.goto (-30), 3) := by decide +kernel
theorem dc_M_busDirty_37 : decode cd_M_busDirty 37 = .ok (.iload_n 2, 1) := by decide +kernel
theorem dc_M_busDirty_38 : decode cd_M_busDirty 38 = .ok (.ireturn, 1) := by decide +kernel
theorem dc_M_reset_0 : decode cd_M_reset 0 = .ok (.aload_n 0, 1) := by decide +kernel
theorem dc_M_reset_1 : decode cd_M_reset 1 = .ok (.iconst 0, 1) := by decide +kernel
theorem dc_M_reset_2 : decode cd_M_reset 2 = .ok (.putfield 117, 3) := by decide +kernel
theorem dc_M_reset_5 : decode cd_M_reset 5 = .ok (.iload_n 1, 1) := by decide +kernel
theorem dc_M_reset_6 : decode cd_M_reset 6 = .ok (.bipush 12, 2) := by decide +kernel
theorem dc_M_reset_8 : decode cd_M_reset 8 = .ok (.invokestatic 120, 3) := by decide +kernel
theorem dc_M_reset_11 : decode cd_M_reset 11 = .ok (.ifCond .eq 9, 3) := by decide +kernel
theorem dc_M_reset_14 : decode cd_M_reset 14 = .ok (.aload_n 0, 1) := by decide +kernel
theorem dc_M_reset_15 : decode cd_M_reset 15 = .ok (.iconst 1, 1) := by decide +kernel
theorem dc_M_reset_16 : decode cd_M_reset 16 = .ok (.putfield 117, 3) := by decide +kernel
theorem dc_M_reset_19 : decode cd_M_reset 19 = .ok (.return_, 1) := by decide +kernel
theorem dc_M_reset_20 : decode cd_M_reset 20 = .ok (.aload_n 0, 1) := by decide +kernel
theorem dc_M_reset_21 : decode cd_M_reset 21 = .ok (.getfield 17, 3) := by decide +kernel
theorem dc_M_reset_24 : decode cd_M_reset 24 = .ok (.iload_n 1, 1) := by decide +kernel
theorem dc_M_reset_25 : decode cd_M_reset 25 = .ok (.iload_n 2, 1) := by decide +kernel
theorem dc_M_reset_26 : decode cd_M_reset 26 = .ok (.ldc 132, 2) := by decide +kernel
theorem dc_M_reset_28 : decode cd_M_reset 28 = .ok (.iand, 1) := by decide +kernel
theorem dc_M_reset_29 : decode cd_M_reset 29 = .ok (.iastore, 1) := by decide +kernel
theorem dc_M_reset_30 : decode cd_M_reset 30 = .ok (.aload_n 0, 1) := by decide +kernel
theorem dc_M_reset_31 : decode cd_M_reset 31 = .ok (.getfield 20, 3) := by decide +kernel
theorem dc_M_reset_34 : decode cd_M_reset 34 = .ok (.iload_n 1, 1) := by decide +kernel
theorem dc_M_reset_35 : decode cd_M_reset 35 = .ok (.iconst 0, 1) := by decide +kernel
theorem dc_M_reset_36 : decode cd_M_reset 36 = .ok (.iastore, 1) := by decide +kernel
theorem dc_M_reset_37 : decode cd_M_reset 37 = .ok (.aload_n 0, 1) := by decide +kernel
theorem dc_M_reset_38 : decode cd_M_reset 38 = .ok (.getfield 32, 3) := by decide +kernel
theorem dc_M_reset_41 : decode cd_M_reset 41 = .ok (.iload_n 1, 1) := by decide +kernel
theorem dc_M_reset_42 : decode cd_M_reset 42 = .ok (.iload_n 3, 1) := by decide +kernel
theorem dc_M_reset_43 : decode cd_M_reset 43 = .ok (.bastore, 1) := by decide +kernel
theorem dc_M_reset_44 : decode cd_M_reset 44 = .ok (.aload_n 0, 1) := by decide +kernel
theorem dc_M_reset_45 : decode cd_M_reset 45 = .ok (.getfield 35, 3) := by decide +kernel
theorem dc_M_reset_48 : decode cd_M_reset 48 = .ok (.iload_n 1, 1) := by decide +kernel
theorem dc_M_reset_49 : decode cd_M_reset 49 = .ok (.iload 4, 2) := by decide +kernel
theorem dc_M_reset_51 : decode cd_M_reset 51 = .ok (.bastore, 1) := by decide +kernel
theorem dc_M_reset_52 : decode cd_M_reset 52 = .ok (.aload_n 0, 1) := by decide +kernel
theorem dc_M_reset_53 : decode cd_M_reset 53 = .ok (.getfield 41, 3) := by decide +kernel
theorem dc_M_reset_56 : decode cd_M_reset 56 = .ok (.iload_n 1, 1) := by decide +kernel
theorem dc_M_reset_57 : decode cd_M_reset 57 = .ok (.iconst 1, 1) := by decide +kernel
theorem dc_M_reset_58 : decode cd_M_reset 58 = .ok (.bastore, 1) := by decide +kernel
theorem dc_M_reset_59 : decode cd_M_reset 59 = .ok (.return_, 1) := by decide +kernel
theorem dc_M_ask_0 : decode cd_M_ask 0 = .ok (.aload_n 0, 1) := by decide +kernel
theorem dc_M_ask_1 : decode cd_M_ask 1 = .ok (.iconst 0, 1) := by decide +kernel
theorem dc_M_ask_2 : decode cd_M_ask 2 = .ok (.putfield 117, 3) := by decide +kernel
theorem dc_M_ask_5 : decode cd_M_ask 5 = .ok (.iload_n 1, 1) := by decide +kernel
theorem dc_M_ask_6 : decode cd_M_ask 6 = .ok (.bipush 12, 2) := by decide +kernel
theorem dc_M_ask_8 : decode cd_M_ask 8 = .ok (.invokestatic 120, 3) := by decide +kernel
theorem dc_M_ask_11 : decode cd_M_ask 11 = .ok (.ifCond .ne 12, 3) := by decide +kernel
theorem dc_M_ask_14 : decode cd_M_ask 14 = .ok (.iload_n 2, 1) := by decide +kernel
theorem dc_M_ask_15 : decode cd_M_ask 15 = .ok (.bipush 12, 2) := by decide +kernel
theorem dc_M_ask_17 : decode cd_M_ask 17 = .ok (.invokestatic 120, 3) := by decide +kernel
theorem dc_M_ask_20 : decode cd_M_ask 20 = .ok (.ifCond .eq 9, 3) := by decide +kernel
theorem dc_M_ask_23 : decode cd_M_ask 23 = .ok (.aload_n 0, 1) := by decide +kernel
theorem dc_M_ask_24 : decode cd_M_ask 24 = .ok (.iconst 1, 1) := by decide +kernel
theorem dc_M_ask_25 : decode cd_M_ask 25 = .ok (.invokevirtual 124, 3) := by decide +kernel
theorem dc_M_ask_28 : decode cd_M_ask 28 = .ok (.ireturn, 1) := by decide +kernel
theorem dc_M_ask_29 : decode cd_M_ask 29 = .ok (.iload_n 3, 1) := by decide +kernel
theorem dc_M_ask_30 : decode cd_M_ask 30 = .ok (.iconst 3, 1) := by decide +kernel
theorem dc_M_ask_31 : decode cd_M_ask 31 = .ok (.invokestatic 120, 3) := by decide +kernel
theorem dc_M_ask_34 : decode cd_M_ask 34 = .ok (.ifCond .ne 13, 3) := by decide +kernel
theorem dc_M_ask_37 : decode cd_M_ask 37 = .ok (.iload 4, 2) := by decide +kernel
theorem dc_M_ask_39 : decode cd_M_ask 39 = .ok (.bipush 8, 2) := by decide +kernel
theorem dc_M_ask_41 : decode cd_M_ask 41 = .ok (.invokestatic 120, 3) := by decide +kernel
theorem dc_M_ask_44 : decode cd_M_ask 44 = .ok (.ifCond .eq 9, 3) := by decide +kernel
theorem dc_M_ask_47 : decode cd_M_ask 47 = .ok (.aload_n 0, 1) := by decide +kernel
theorem dc_M_ask_48 : decode cd_M_ask 48 = .ok (.iconst 2, 1) := by decide +kernel
theorem dc_M_ask_49 : decode cd_M_ask 49 = .ok (.invokevirtual 124, 3) := by decide +kernel
theorem dc_M_ask_52 : decode cd_M_ask 52 = .ok (.ireturn, 1) := by decide +kernel
theorem dc_M_ask_53 : decode cd_M_ask 53 = .ok (.iconst 4, 1) := by decide +kernel
theorem dc_M_ask_54 : decode cd_M_ask 54 = .ok (.iload_n 1, 1) := by decide +kernel
theorem dc_M_ask_55 : decode cd_M_ask 55 = .ok (.imul, 1) := by decide +kernel
theorem dc_M_ask_56 : decode cd_M_ask 56 = .ok (.istore 7, 2) := by decide +kernel
theorem dc_M_ask_58 : decode cd_M_ask 58 = .ok (.iload 7, 2) := by decide +kernel
theorem dc_M_ask_60 : decode cd_M_ask 60 = .ok (.iconst 4, 1) := by decide +kernel
theorem dc_M_ask_61 : decode cd_M_ask 61 = .ok (.iload_n 1, 1) := by decide +kernel
theorem dc_M_ask_62 : decode cd_M_ask 62 = .ok (.imul, 1) := by decide +kernel
theorem dc_M_ask_63 : decode cd_M_ask 63 = .ok (.iconst 4, 1) := by decide +kernel
theorem dc_M_ask_64 : decode cd_M_ask 64 = .ok (.iadd, 1) := by decide +kernel
theorem dc_M_ask_65 : decode cd_M_ask 65 = .ok (.if_icmp .ge 20, 3) := by decide +kernel
theorem dc_M_ask_68 : decode cd_M_ask 68 = .ok (.aload_n 0, 1) := by decide +kernel
theorem dc_M_ask_69 : decode cd_M_ask 69 = .ok (.getfield 68, 3) := by decide +kernel
theorem dc_M_ask_72 : decode cd_M_ask 72 = .ok (.iload 7, 2) := by decide +kernel
theorem dc_M_ask_74 : decode cd_M_ask 74 = .ok (.iaload, 1) := by decide +kernel
theorem dc_M_ask_75 : decode cd_M_ask 75 = .ok (.iconst (-1), 1) := by decide +kernel
theorem dc_M_ask_76 : decode cd_M_ask 76 = .ok (.if_icmp .ne 9, 3) := by decide +kernel
theorem dc_M_ask_79 : decode cd_M_ask 79 = .ok (.iinc 7 1, 3) := by decide +kernel
theorem dc_M_ask_82 : decode cd_M_ask 82 = .ok (.goto (-24), 3) := by decide +kernel
theorem dc_M_ask_85 : decode cd_M_ask 85 = .ok (.iload 7, 2) := by decide +kernel
theorem dc_M_ask_87 : decode cd_M_ask 87 = .ok (.iconst 4, 1) := by decide +kernel
theorem dc_M_ask_88 : decode cd_M_ask 88 = .ok (.iload_n 1, 1) := by decide +kernel
theorem dc_M_ask_89 : decode cd_M_ask 89 = .ok (.imul, 1) := by decide +kernel
theorem dc_M_ask_90 : decode cd_M_ask 90 = .ok (.iconst 4, 1) := by decide +kernel
theorem dc_M_ask_91 : decode cd_M_ask 91 = .ok (.iadd, 1) := by decide +kernel
theorem dc_M_ask_92 : decode cd_M_ask 92 = .ok (.if_icmp .ne 9, 3) := by decide +kernel
theorem dc_M_ask_95 : decode cd_M_ask 95 = .ok (.aload_n 0, 1) := by decide +kernel
theorem dc_M_ask_96 : decode cd_M_ask 96 = .ok (.iconst 3, 1) := by decide +kernel
theorem dc_M_ask_97 : decode cd_M_ask 97 = .ok (.invokevirtual 124, 3) := by decide +kernel
theorem dc_M_ask_100 : decode cd_M_ask 100 = .ok (.ireturn, 1) := by decide +kernel
theorem dc_M_ask_101 : decode cd_M_ask 101 = .ok (.aload_n 0, 1) := by decide +kernel
theorem dc_M_ask_102 : decode cd_M_ask 102 = .ok (.getfield 110, 3) := by decide +kernel
theorem dc_M_ask_105 : decode cd_M_ask 105 = .ok (.iload_n 1, 1) := by decide +kernel
theorem dc_M_ask_106 : decode cd_M_ask 106 = .ok (.iaload, 1) := by decide +kernel
theorem dc_M_ask_107 : decode cd_M_ask 107 = .ok (.bipush 6, 2) := by decide +kernel
theorem dc_M_ask_109 : decode cd_M_ask 109 = .ok (.if_icmp .ne 9, 3) := by decide +kernel
theorem dc_M_ask_112 : decode cd_M_ask 112 = .ok (.aload_n 0, 1) := by decide +kernel
theorem dc_M_ask_113 : decode cd_M_ask 113 = .ok (.iconst 4, 1) := by decide +kernel
theorem dc_M_ask_114 : decode cd_M_ask 114 = .ok (.invokevirtual 124, 3) := by decide +kernel
theorem dc_M_ask_117 : decode cd_M_ask 117 = .ok (.ireturn, 1) := by decide +kernel
theorem dc_M_ask_118 : decode cd_M_ask 118 = .ok (.aload_n 0, 1) := by decide +kernel
theorem dc_M_ask_119 : decode cd_M_ask 119 = .ok (.dup, 1) := by decide +kernel
theorem dc_M_ask_120 : decode cd_M_ask 120 = .ok (.getfield 133, 3) := by decide +kernel
theorem dc_M_ask_123 : decode cd_M_ask 123 = .ok (.iconst 1, 1) := by decide +kernel
theorem dc_M_ask_124 : decode cd_M_ask 124 = .ok (.iadd, 1) := by decide +kernel
theorem dc_M_ask_125 : decode cd_M_ask 125 = .ok (.putfield 133, 3) := by decide +kernel
theorem dc_M_ask_128 : decode cd_M_ask 128 = .ok (.aload_n 0, 1) := by decide +kernel
theorem dc_M_ask_129 : decode cd_M_ask 129 = .ok (.getfield 68, 3) := by decide +kernel
theorem dc_M_ask_132 : decode cd_M_ask 132 = .ok (.iload 7, 2) := by decide +kernel
theorem dc_M_ask_134 : decode cd_M_ask 134 = .ok (.iconst (-1), 1) := by decide +kernel
theorem dc_M_ask_135 : decode cd_M_ask 135 = .ok (.iastore, 1) := by decide +kernel
theorem dc_M_ask_136 : decode cd_M_ask 136 = .ok (.aload_n 0, 1) := by decide +kernel
theorem dc_M_ask_137 : decode cd_M_ask 137 = .ok (.getfield 71, 3) := by decide +kernel
theorem dc_M_ask_140 : decode cd_M_ask 140 = .ok (.iload 7, 2) := by decide +kernel
theorem dc_M_ask_142 : decode cd_M_ask 142 = .ok (.iload_n 2, 1) := by decide +kernel
theorem dc_M_ask_143 : decode cd_M_ask 143 = .ok (.iastore, 1) := by decide +kernel
theorem dc_M_ask_144 : decode cd_M_ask 144 = .ok (.aload_n 0, 1) := by decide +kernel
theorem dc_M_ask_145 : decode cd_M_ask 145 = .ok (.getfield 74, 3) := by decide +kernel
theorem dc_M_ask_148 : decode cd_M_ask 148 = .ok (.iload 7, 2) := by decide +kernel
theorem dc_M_ask_150 : decode cd_M_ask 150 = .ok (.iload_n 3, 1) := by decide +kernel
theorem dc_M_ask_151 : decode cd_M_ask 151 = .ok (.iastore, 1) := by decide +kernel
theorem dc_M_ask_152 : decode cd_M_ask 152 = .ok (.aload_n 0, 1) := by decide +kernel
theorem dc_M_ask_153 : decode cd_M_ask 153 = .ok (.getfield 77, 3) := by decide +kernel
theorem dc_M_ask_156 : decode cd_M_ask 156 = .ok (.iload 7, 2) := by decide +kernel
theorem dc_M_ask_158 : decode cd_M_ask 158 = .ok (.iload 4, 2) := by decide +kernel
theorem dc_M_ask_160 : decode cd_M_ask 160 = .ok (.iastore, 1) := by decide +kernel
theorem dc_M_ask_161 : decode cd_M_ask 161 = .ok (.aload_n 0, 1) := by decide +kernel
theorem dc_M_ask_162 : decode cd_M_ask 162 = .ok (.getfield 80, 3) := by decide +kernel
theorem dc_M_ask_165 : decode cd_M_ask 165 = .ok (.iload 7, 2) := by decide +kernel
theorem dc_M_ask_167 : decode cd_M_ask 167 = .ok (.iload 5, 2) := by decide +kernel
theorem dc_M_ask_169 : decode cd_M_ask 169 = .ok (.iastore, 1) := by decide +kernel
theorem dc_M_ask_170 : decode cd_M_ask 170 = .ok (.aload_n 0, 1) := by decide +kernel
theorem dc_M_ask_171 : decode cd_M_ask 171 = .ok (.getfield 83, 3) := by decide +kernel
theorem dc_M_ask_174 : decode cd_M_ask 174 = .ok (.iload 7, 2) := by decide +kernel
theorem dc_M_ask_176 : decode cd_M_ask 176 = .ok (.iload 6, 2) := by decide +kernel
theorem dc_M_ask_178 : decode cd_M_ask 178 = .ok (.iastore, 1) := by decide +kernel
theorem dc_M_ask_179 : decode cd_M_ask 179 = .ok (.aload_n 0, 1) := by decide +kernel
theorem dc_M_ask_180 : decode cd_M_ask 180 = .ok (.getfield 89, 3) := by decide +kernel
theorem dc_M_ask_183 : decode cd_M_ask 183 = .ok (.iload 7, 2) := by decide +kernel
theorem dc_M_ask_185 : decode cd_M_ask 185 = .ok (.aload_n 0, 1) := by decide +kernel
theorem dc_M_ask_186 : decode cd_M_ask 186 = .ok (.getfield 136, 3) := by decide +kernel
theorem dc_M_ask_189 : decode cd_M_ask 189 = .ok (.aload_n 0, 1) := by decide +kernel
theorem dc_M_ask_190 : decode cd_M_ask 190 = .ok (.getfield 113, 3) := by decide +kernel
theorem dc_M_ask_193 : decode cd_M_ask 193 = .ok (.iadd, 1) := by decide +kernel
theorem dc_M_ask_194 : decode cd_M_ask 194 = .ok (.iastore, 1) := by decide +kernel
theorem dc_M_ask_195 : decode cd_M_ask 195 = .ok (.aload_n 0, 1) := by decide +kernel
theorem dc_M_ask_196 : decode cd_M_ask 196 = .ok (.getfield 92, 3) := by decide +kernel
theorem dc_M_ask_199 : decode cd_M_ask 199 = .ok (.iload 7, 2) := by decide +kernel
theorem dc_M_ask_201 : decode cd_M_ask 201 = .ok (.aload_n 0, 1) := by decide +kernel
theorem dc_M_ask_202 : decode cd_M_ask 202 = .ok (.getfield 133, 3) := by decide +kernel
theorem dc_M_ask_205 : decode cd_M_ask 205 = .ok (.iastore, 1) := by decide +kernel
theorem dc_M_ask_206 : decode cd_M_ask 206 = .ok (.aload_n 0, 1) := by decide +kernel
theorem dc_M_ask_207 : decode cd_M_ask 207 = .ok (.iload_n 1, 1) := by decide +kernel
theorem dc_M_ask_208 : decode cd_M_ask 208 = .ok (.iload 7, 2) := by decide +kernel
theorem dc_M_ask_210 : decode cd_M_ask 210 = .ok (.aload_n 0, 1) := by decide +kernel
theorem dc_M_ask_211 : decode cd_M_ask 211 = .ok (.getfield 133, 3) := by decide +kernel
theorem dc_M_ask_214 : decode cd_M_ask 214 = .ok (.iconst 0, 1) := by decide +kernel
theorem dc_M_ask_215 : decode cd_M_ask 215 = .ok (.iconst 0, 1) := by decide +kernel
theorem dc_M_ask_216 : decode cd_M_ask 216 = .ok (.iconst 0, 1) := by decide +kernel
theorem dc_M_ask_217 : decode cd_M_ask 217 = .ok (.invokevirtual 139, 3) := by decide +kernel
theorem dc_M_ask_220 : decode cd_M_ask 220 = .ok (.iload 7, 2) := by decide +kernel
theorem dc_M_ask_222 : decode cd_M_ask 222 = .ok (.iconst 4, 1) := by decide +kernel
theorem dc_M_ask_223 : decode cd_M_ask 223 = .ok (.iload_n 1, 1) := by decide +kernel
theorem dc_M_ask_224 : decode cd_M_ask 224 = .ok (.imul, 1) := by decide +kernel
theorem dc_M_ask_225 : decode cd_M_ask 225 = .ok (.isub, 1) := by decide +kernel
theorem dc_M_ask_226 : decode cd_M_ask 226 = .ok (.ireturn, 1) := by decide +kernel
theorem dc_M_put_0 : decode cd_M_put 0 = .ok (.bipush 6, 2) := by decide +kernel
theorem dc_M_put_2 : decode cd_M_put 2 = .ok (.iload_n 1, 1) := by decide +kernel
theorem dc_M_put_3 : decode cd_M_put 3 = .ok (.imul, 1) := by decide +kernel
theorem dc_M_put_4 : decode cd_M_put 4 = .ok (.aload_n 0, 1) := by decide +kernel
theorem dc_M_put_5 : decode cd_M_put 5 = .ok (.getfield 110, 3) := by decide +kernel
theorem dc_M_put_8 : decode cd_M_put 8 = .ok (.iload_n 1, 1) := by decide +kernel
theorem dc_M_put_9 : decode cd_M_put 9 = .ok (.iaload, 1) := by decide +kernel
theorem dc_M_put_10 : decode cd_M_put 10 = .ok (.iadd, 1) := by decide +kernel
theorem dc_M_put_11 : decode cd_M_put 11 = .ok (.istore 7, 2) := by decide +kernel
theorem dc_M_put_13 : decode cd_M_put 13 = .ok (.aload_n 0, 1) := by decide +kernel
theorem dc_M_put_14 : decode cd_M_put 14 = .ok (.getfield 95, 3) := by decide +kernel
theorem dc_M_put_17 : decode cd_M_put 17 = .ok (.iload 7, 2) := by decide +kernel
theorem dc_M_put_19 : decode cd_M_put 19 = .ok (.iload_n 2, 1) := by decide +kernel
theorem dc_M_put_20 : decode cd_M_put 20 = .ok (.iastore, 1) := by decide +kernel
theorem dc_M_put_21 : decode cd_M_put 21 = .ok (.aload_n 0, 1) := by decide +kernel
theorem dc_M_put_22 : decode cd_M_put 22 = .ok (.getfield 98, 3) := by decide +kernel
theorem dc_M_put_25 : decode cd_M_put 25 = .ok (.iload 7, 2) := by decide +kernel
theorem dc_M_put_27 : decode cd_M_put 27 = .ok (.iload_n 3, 1) := by decide +kernel
theorem dc_M_put_28 : decode cd_M_put 28 = .ok (.iastore, 1) := by decide +kernel
theorem dc_M_put_29 : decode cd_M_put 29 = .ok (.aload_n 0, 1) := by decide +kernel
theorem dc_M_put_30 : decode cd_M_put 30 = .ok (.getfield 101, 3) := by decide +kernel
theorem dc_M_put_33 : decode cd_M_put 33 = .ok (.iload 7, 2) := by decide +kernel
theorem dc_M_put_35 : decode cd_M_put 35 = .ok (.iload 4, 2) := by decide +kernel
theorem dc_M_put_37 : decode cd_M_put 37 = .ok (.iastore, 1) := by decide +kernel
theorem dc_M_put_38 : decode cd_M_put 38 = .ok (.aload_n 0, 1) := by decide +kernel
theorem dc_M_put_39 : decode cd_M_put 39 = .ok (.getfield 107, 3) := by decide +kernel
theorem dc_M_put_42 : decode cd_M_put 42 = .ok (.iload 7, 2) := by decide +kernel
theorem dc_M_put_44 : decode cd_M_put 44 = .ok (.iload 5, 2) := by decide +kernel
theorem dc_M_put_46 : decode cd_M_put 46 = .ok (.bastore, 1) := by decide +kernel
theorem dc_M_put_47 : decode cd_M_put 47 = .ok (.aload_n 0, 1) := by decide +kernel
theorem dc_M_put_48 : decode cd_M_put 48 = .ok (.getfield 104, 3) := by decide +kernel
theorem dc_M_put_51 : decode cd_M_put 51 = .ok (.iload 7, 2) := by decide +kernel
theorem dc_M_put_53 : decode cd_M_put 53 = .ok (.iload 6, 2) := by decide +kernel
theorem dc_M_put_55 : decode cd_M_put 55 = .ok (.iastore, 1) := by decide +kernel
theorem dc_M_put_56 : decode cd_M_put 56 = .ok (.aload_n 0, 1) := by decide +kernel
theorem dc_M_put_57 : decode cd_M_put 57 = .ok (.getfield 110, 3) := by decide +kernel
theorem dc_M_put_60 : decode cd_M_put 60 = .ok (.iload_n 1, 1) := by decide +kernel
theorem dc_M_put_61 : decode cd_M_put 61 = .ok (.dup2, 1) := by decide +kernel
theorem dc_M_put_62 : decode cd_M_put 62 = .ok (.iaload, 1) := by decide +kernel
theorem dc_M_put_63 : decode cd_M_put 63 = .ok (.iconst 1, 1) := by decide +kernel
theorem dc_M_put_64 : decode cd_M_put 64 = .ok (.iadd, 1) := by decide +kernel
theorem dc_M_put_65 : decode cd_M_put 65 = .ok (.iastore, 1) := by decide +kernel
theorem dc_M_put_66 : decode cd_M_put 66 = .ok (.return_, 1) := by decide +kernel
theorem dc_M_take_0 : decode cd_M_take 0 = .ok (.aload_n 0, 1) := by decide +kernel
theorem dc_M_take_1 : decode cd_M_take 1 = .ok (.getfield 110, 3) := by decide +kernel
theorem dc_M_take_4 : decode cd_M_take 4 = .ok (.iload_n 1, 1) := by decide +kernel
theorem dc_M_take_5 : decode cd_M_take 5 = .ok (.dup2, 1) := by decide +kernel
theorem dc_M_take_6 : decode cd_M_take 6 = .ok (.iaload, 1) := by decide +kernel
theorem dc_M_take_7 : decode cd_M_take 7 = .ok (.iconst 1, 1) := by decide +kernel
theorem dc_M_take_8 : decode cd_M_take 8 = .ok (.isub, 1) := by decide +kernel
theorem dc_M_take_9 : decode cd_M_take 9 = .ok (.iastore, 1) := by decide +kernel
theorem dc_M_take_10 : decode cd_M_take 10 = .ok (.bipush 6, 2) := by decide +kernel
theorem dc_M_take_12 : decode cd_M_take 12 = .ok (.iload_n 1, 1) := by decide +kernel
theorem dc_M_take_13 : decode cd_M_take 13 = .ok (.imul, 1) := by decide +kernel
theorem dc_M_take_14 : decode cd_M_take 14 = .ok (.iload_n 2, 1) := by decide +kernel
theorem dc_M_take_15 : decode cd_M_take 15 = .ok (.iadd, 1) := by decide +kernel
theorem dc_M_take_16 : decode cd_M_take 16 = .ok (.istore_n 3, 1) := by decide +kernel
theorem dc_M_take_17 : decode cd_M_take 17 = .ok (.iload_n 3, 1) := by decide +kernel
theorem dc_M_take_18 : decode cd_M_take 18 = .ok (.bipush 6, 2) := by decide +kernel
theorem dc_M_take_20 : decode cd_M_take 20 = .ok (.iload_n 1, 1) := by decide +kernel
theorem dc_M_take_21 : decode cd_M_take 21 = .ok (.imul, 1) := by decide +kernel
theorem dc_M_take_22 : decode cd_M_take 22 = .ok (.aload_n 0, 1) := by decide +kernel
theorem dc_M_take_23 : decode cd_M_take 23 = .ok (.getfield 110, 3) := by decide +kernel
theorem dc_M_take_26 : decode cd_M_take 26 = .ok (.iload_n 1, 1) := by decide +kernel
theorem dc_M_take_27 : decode cd_M_take 27 = .ok (.iaload, 1) := by decide +kernel
theorem dc_M_take_28 : decode cd_M_take 28 = .ok (.iadd, 1) := by decide +kernel
theorem dc_M_take_29 : decode cd_M_take 29 = .ok (.if_icmp .ge 79, 3) := by decide +kernel
theorem dc_M_take_32 : decode cd_M_take 32 = .ok (.aload_n 0, 1) := by decide +kernel
theorem dc_M_take_33 : decode cd_M_take 33 = .ok (.getfield 95, 3) := by decide +kernel
theorem dc_M_take_36 : decode cd_M_take 36 = .ok (.iload_n 3, 1) := by decide +kernel
theorem dc_M_take_37 : decode cd_M_take 37 = .ok (.aload_n 0, 1) := by decide +kernel
theorem dc_M_take_38 : decode cd_M_take 38 = .ok (.getfield 95, 3) := by decide +kernel
theorem dc_M_take_41 : decode cd_M_take 41 = .ok (.iload_n 3, 1) := by decide +kernel
theorem dc_M_take_42 : decode cd_M_take 42 = .ok (.iconst 1, 1) := by decide +kernel
theorem dc_M_take_43 : decode cd_M_take 43 = .ok (.iadd, 1) := by decide +kernel
theorem dc_M_take_44 : decode cd_M_take 44 = .ok (.iaload, 1) := by decide +kernel
theorem dc_M_take_45 : decode cd_M_take 45 = .ok (.iastore, 1) := by decide +kernel
theorem dc_M_take_46 : decode cd_M_take 46 = .ok (.aload_n 0, 1) := by decide +kernel
theorem dc_M_take_47 : decode cd_M_take 47 = .ok (.getfield 98, 3) := by decide +kernel
theorem dc_M_take_50 : decode cd_M_take 50 = .ok (.iload_n 3, 1) := by decide +kernel
theorem dc_M_take_51 : decode cd_M_take 51 = .ok (.aload_n 0, 1) := by decide +kernel
theorem dc_M_take_52 : decode cd_M_take 52 = .ok (.getfield 98, 3) := by decide +kernel
theorem dc_M_take_55 : decode cd_M_take 55 = .ok (.iload_n 3, 1) := by decide +kernel
theorem dc_M_take_56 : decode cd_M_take 56 = .ok (.iconst 1, 1) := by decide +kernel
theorem dc_M_take_57 : decode cd_M_take 57 = .ok (.iadd, 1) := by decide +kernel
theorem dc_M_take_58 : decode cd_M_take 58 = .ok (.iaload, 1) := by decide +kernel
theorem dc_M_take_59 : decode cd_M_take 59 = .ok (.iastore, 1) := by decide +kernel
theorem dc_M_take_60 : decode cd_M_take 60 = .ok (.aload_n 0, 1) := by decide +kernel
theorem dc_M_take_61 : decode cd_M_take 61 = .ok (.getfield 101, 3) := by decide +kernel
theorem dc_M_take_64 : decode cd_M_take 64 = .ok (.iload_n 3, 1) := by decide +kernel
theorem dc_M_take_65 : decode cd_M_take 65 = .ok (.aload_n 0, 1) := by decide +kernel
theorem dc_M_take_66 : decode cd_M_take 66 = .ok (.getfield 101, 3) := by decide +kernel
theorem dc_M_take_69 : decode cd_M_take 69 = .ok (.iload_n 3, 1) := by decide +kernel
theorem dc_M_take_70 : decode cd_M_take 70 = .ok (.iconst 1, 1) := by decide +kernel
theorem dc_M_take_71 : decode cd_M_take 71 = .ok (.iadd, 1) := by decide +kernel
theorem dc_M_take_72 : decode cd_M_take 72 = .ok (.iaload, 1) := by decide +kernel
theorem dc_M_take_73 : decode cd_M_take 73 = .ok (.iastore, 1) := by decide +kernel
theorem dc_M_take_74 : decode cd_M_take 74 = .ok (.aload_n 0, 1) := by decide +kernel
theorem dc_M_take_75 : decode cd_M_take 75 = .ok (.getfield 107, 3) := by decide +kernel
theorem dc_M_take_78 : decode cd_M_take 78 = .ok (.iload_n 3, 1) := by decide +kernel
theorem dc_M_take_79 : decode cd_M_take 79 = .ok (.aload_n 0, 1) := by decide +kernel
theorem dc_M_take_80 : decode cd_M_take 80 = .ok (.getfield 107, 3) := by decide +kernel
theorem dc_M_take_83 : decode cd_M_take 83 = .ok (.iload_n 3, 1) := by decide +kernel
theorem dc_M_take_84 : decode cd_M_take 84 = .ok (.iconst 1, 1) := by decide +kernel
theorem dc_M_take_85 : decode cd_M_take 85 = .ok (.iadd, 1) := by decide +kernel
theorem dc_M_take_86 : decode cd_M_take 86 = .ok (.baload, 1) := by decide +kernel
theorem dc_M_take_87 : decode cd_M_take 87 = .ok (.bastore, 1) := by decide +kernel
theorem dc_M_take_88 : decode cd_M_take 88 = .ok (.aload_n 0, 1) := by decide +kernel
theorem dc_M_take_89 : decode cd_M_take 89 = .ok (.getfield 104, 3) := by decide +kernel
theorem dc_M_take_92 : decode cd_M_take 92 = .ok (.iload_n 3, 1) := by decide +kernel
theorem dc_M_take_93 : decode cd_M_take 93 = .ok (.aload_n 0, 1) := by decide +kernel
theorem dc_M_take_94 : decode cd_M_take 94 = .ok (.getfield 104, 3) := by decide +kernel
theorem dc_M_take_97 : decode cd_M_take 97 = .ok (.iload_n 3, 1) := by decide +kernel
theorem dc_M_take_98 : decode cd_M_take 98 = .ok (.iconst 1, 1) := by decide +kernel
theorem dc_M_take_99 : decode cd_M_take 99 = .ok (.iadd, 1) := by decide +kernel
theorem dc_M_take_100 : decode cd_M_take 100 = .ok (.iaload, 1) := by decide +kernel
theorem dc_M_take_101 : decode cd_M_take 101 = .ok (.iastore, 1) := by decide +kernel
theorem dc_M_take_102 : decode cd_M_take 102 = .ok (.iinc 3 1, 3) := by decide +kernel
theorem dc_M_take_105 : decode cd_M_take 105 = .ok (.goto (-88), 3) := by decide +kernel
theorem dc_M_take_108 : decode cd_M_take 108 = .ok (.return_, 1) := by decide +kernel
theorem dc_M_done_0 : decode cd_M_done 0 = .ok (.bipush 8, 2) := by decide +kernel
theorem dc_M_done_2 : decode cd_M_done 2 = .ok (.aload_n 0, 1) := by decide +kernel
theorem dc_M_done_3 : decode cd_M_done 3 = .ok (.getfield 71, 3) := by decide +kernel
theorem dc_M_done_6 : decode cd_M_done 6 = .ok (.iload_n 1, 1) := by decide +kernel
theorem dc_M_done_7 : decode cd_M_done 7 = .ok (.iaload, 1) := by decide +kernel
theorem dc_M_done_8 : decode cd_M_done 8 = .ok (.imul, 1) := by decide +kernel
theorem dc_M_done_9 : decode cd_M_done 9 = .ok (.aload_n 0, 1) := by decide +kernel
theorem dc_M_done_10 : decode cd_M_done 10 = .ok (.getfield 77, 3) := by decide +kernel
theorem dc_M_done_13 : decode cd_M_done 13 = .ok (.iload_n 1, 1) := by decide +kernel
theorem dc_M_done_14 : decode cd_M_done 14 = .ok (.iaload, 1) := by decide +kernel
theorem dc_M_done_15 : decode cd_M_done 15 = .ok (.iadd, 1) := by decide +kernel
theorem dc_M_done_16 : decode cd_M_done 16 = .ok (.istore_n 2, 1) := by decide +kernel
theorem dc_M_done_17 : decode cd_M_done 17 = .ok (.aload_n 0, 1) := by decide +kernel
theorem dc_M_done_18 : decode cd_M_done 18 = .ok (.getfield 47, 3) := by decide +kernel
theorem dc_M_done_21 : decode cd_M_done 21 = .ok (.iload_n 2, 1) := by decide +kernel
theorem dc_M_done_22 : decode cd_M_done 22 = .ok (.iaload, 1) := by decide +kernel
theorem dc_M_done_23 : decode cd_M_done 23 = .ok (.istore_n 3, 1) := by decide +kernel
theorem dc_M_done_24 : decode cd_M_done 24 = .ok (.aload_n 0, 1) := by decide +kernel
theorem dc_M_done_25 : decode cd_M_done 25 = .ok (.getfield 74, 3) := by decide +kernel
theorem dc_M_done_28 : decode cd_M_done 28 = .ok (.iload_n 1, 1) := by decide +kernel
theorem dc_M_done_29 : decode cd_M_done 29 = .ok (.iaload, 1) := by decide +kernel
theorem dc_M_done_30 : decode cd_M_done 30 = .ok (.iconst 1, 1) := by decide +kernel
theorem dc_M_done_31 : decode cd_M_done 31 = .ok (.if_icmp .eq 23, 3) := by decide +kernel
theorem dc_M_done_34 : decode cd_M_done 34 = .ok (.aload_n 0, 1) := by decide +kernel
theorem dc_M_done_35 : decode cd_M_done 35 = .ok (.getfield 74, 3) := by decide +kernel
theorem dc_M_done_38 : decode cd_M_done 38 = .ok (.iload_n 1, 1) := by decide +kernel
theorem dc_M_done_39 : decode cd_M_done 39 = .ok (.iaload, 1) := by decide +kernel
theorem dc_M_done_40 : decode cd_M_done 40 = .ok (.iconst 2, 1) := by decide +kernel
theorem dc_M_done_41 : decode cd_M_done 41 = .ok (.if_icmp .ne 25, 3) := by decide +kernel
theorem dc_M_done_44 : decode cd_M_done 44 = .ok (.iload_n 3, 1) := by decide +kernel
theorem dc_M_done_45 : decode cd_M_done 45 = .ok (.aload_n 0, 1) := by decide +kernel
theorem dc_M_done_46 : decode cd_M_done 46 = .ok (.getfield 80, 3) := by decide +kernel
theorem dc_M_done_49 : decode cd_M_done 49 = .ok (.iload_n 1, 1) := by decide +kernel
theorem dc_M_done_50 : decode cd_M_done 50 = .ok (.iaload, 1) := by decide +kernel
theorem dc_M_done_51 : decode cd_M_done 51 = .ok (.if_icmp .ne 15, 3) := by decide +kernel
theorem dc_M_done_54 : decode cd_M_done 54 = .ok (.aload_n 0, 1) := by decide +kernel
theorem dc_M_done_55 : decode cd_M_done 55 = .ok (.getfield 47, 3) := by decide +kernel
theorem dc_M_done_58 : decode cd_M_done 58 = .ok (.iload_n 2, 1) := by decide +kernel
theorem dc_M_done_59 : decode cd_M_done 59 = .ok (.aload_n 0, 1) := by decide +kernel
theorem dc_M_done_60 : decode cd_M_done 60 = .ok (.getfield 83, 3) := by decide +kernel
theorem dc_M_done_63 : decode cd_M_done 63 = .ok (.iload_n 1, 1) := by decide +kernel
theorem dc_M_done_64 : decode cd_M_done 64 = .ok (.iaload, 1) := by decide +kernel
theorem dc_M_done_65 : decode cd_M_done 65 = .ok (.iastore, 1) := by decide +kernel
theorem dc_M_done_66 : decode cd_M_done 66 = .ok (.aload_n 0, 1) := by decide +kernel
theorem dc_M_done_67 : decode cd_M_done 67 = .ok (.getfield 74, 3) := by decide +kernel
theorem dc_M_done_70 : decode cd_M_done 70 = .ok (.iload_n 1, 1) := by decide +kernel
theorem dc_M_done_71 : decode cd_M_done 71 = .ok (.iaload, 1) := by decide +kernel
theorem dc_M_done_72 : decode cd_M_done 72 = .ok (.iconst 1, 1) := by decide +kernel
theorem dc_M_done_73 : decode cd_M_done 73 = .ok (.if_icmp .ne 7, 3) := by decide +kernel
theorem dc_M_done_76 : decode cd_M_done 76 = .ok (.iconst 0, 1) := by decide +kernel
theorem dc_M_done_77 : decode cd_M_done 77 = .ok (.goto 4, 3) := by decide +kernel
theorem dc_M_done_80 : decode cd_M_done 80 = .ok (.iload_n 3, 1) := by decide +kernel
theorem dc_M_done_81 : decode cd_M_done 81 = .ok (.ireturn, 1) := by decide +kernel
theorem dc_M_sendRequest_0 : decode cd_M_sendRequest 0 = .ok (.aload_n 0, 1) := by decide +kernel
theorem dc_M_sendRequest_1 : decode cd_M_sendRequest 1 = .ok (.getfield 71, 3) := by decide +kernel
theorem dc_M_sendRequest_4 : decode cd_M_sendRequest 4 = .ok (.iload_n 2, 1) := by decide +kernel
theorem dc_M_sendRequest_5 : decode cd_M_sendRequest 5 = .ok (.iaload, 1) := by decide +kernel
theorem dc_M_sendRequest_6 : decode cd_M_sendRequest 6 = .ok (.istore 5, 2) := by decide +kernel
theorem dc_M_sendRequest_8 : decode cd_M_sendRequest 8 = .ok (.aload_n 0, 1) := by decide +kernel
theorem dc_M_sendRequest_9 : decode cd_M_sendRequest 9 = .ok (.getfield 62, 3) := by decide +kernel
theorem dc_M_sendRequest_12 : decode cd_M_sendRequest 12 = .ok (.iload 5, 2) := by decide +kernel
theorem dc_M_sendRequest_14 : decode cd_M_sendRequest 14 = .ok (.iaload, 1) := by decide +kernel
theorem dc_M_sendRequest_15 : decode cd_M_sendRequest 15 = .ok (.aload_n 0, 1) := by decide +kernel
theorem dc_M_sendRequest_16 : decode cd_M_sendRequest 16 = .ok (.getfield 62, 3) := by decide +kernel
theorem dc_M_sendRequest_19 : decode cd_M_sendRequest 19 = .ok (.iload_n 1, 1) := by decide +kernel
theorem dc_M_sendRequest_20 : decode cd_M_sendRequest 20 = .ok (.iaload, 1) := by decide +kernel
theorem dc_M_sendRequest_21 : decode cd_M_sendRequest 21 = .ok (.if_icmp .eq 13, 3) := by decide +kernel
theorem dc_M_sendRequest_24 : decode cd_M_sendRequest 24 = .ok (.aload_n 0, 1) := by decide +kernel
theorem dc_M_sendRequest_25 : decode cd_M_sendRequest 25 = .ok (.getfield 68, 3) := by decide +kernel
theorem dc_M_sendRequest_28 : decode cd_M_sendRequest 28 = .ok (.iload_n 2, 1) := by decide +kernel
theorem dc_M_sendRequest_29 : decode cd_M_sendRequest 29 = .ok (.iconst 3, 1) := by decide +kernel
theorem dc_M_sendRequest_30 : decode cd_M_sendRequest 30 = .ok (.iastore, 1) := by decide +kernel
theorem dc_M_sendRequest_31 : decode cd_M_sendRequest 31 = .ok (.goto 60, 3) := by decide +kernel
theorem dc_M_sendRequest_34 : decode cd_M_sendRequest 34 = .ok (.aload_n 0, 1) := by decide +kernel
theorem dc_M_sendRequest_35 : decode cd_M_sendRequest 35 = .ok (.getfield 110, 3) := by decide +kernel
theorem dc_M_sendRequest_38 : decode cd_M_sendRequest 38 = .ok (.iload 5, 2) := by decide +kernel
theorem dc_M_sendRequest_40 : decode cd_M_sendRequest 40 = .ok (.iaload, 1) := by decide +kernel
theorem dc_M_sendRequest_41 : decode cd_M_sendRequest 41 = .ok (.bipush 6, 2) := by decide +kernel
theorem dc_M_sendRequest_43 : decode cd_M_sendRequest 43 = .ok (.if_icmp .ge 21, 3) := by decide +kernel
theorem dc_M_sendRequest_46 : decode cd_M_sendRequest 46 = .ok (.aload_n 0, 1) := by decide +kernel
theorem dc_M_sendRequest_47 : decode cd_M_sendRequest 47 = .ok (.iload 5, 2) := by decide +kernel
theorem dc_M_sendRequest_49 : decode cd_M_sendRequest 49 = .ok (.iload_n 2, 1) := by decide +kernel
theorem dc_M_sendRequest_50 : decode cd_M_sendRequest 50 = .ok (.iload_n 3, 1) := by decide +kernel
theorem dc_M_sendRequest_51 : decode cd_M_sendRequest 51 = .ok (.iconst 0, 1) := by decide +kernel
theorem dc_M_sendRequest_52 : decode cd_M_sendRequest 52 = .ok (.iconst 1, 1) := by decide +kernel
theorem dc_M_sendRequest_53 : decode cd_M_sendRequest 53 = .ok (.aload_n 0, 1) := by decide +kernel
theorem dc_M_sendRequest_54 : decode cd_M_sendRequest 54 = .ok (.iload_n 2, 1) := by decide +kernel
theorem dc_M_sendRequest_55 : decode cd_M_sendRequest 55 = .ok (.invokevirtual 143, 3) := by decide +kernel
theorem dc_M_sendRequest_58 : decode cd_M_sendRequest 58 = .ok (.invokevirtual 139, 3) := by decide +kernel
theorem dc_M_sendRequest_61 : decode cd_M_sendRequest 61 = .ok (.goto 30, 3) := by decide +kernel
theorem dc_M_sendRequest_64 : decode cd_M_sendRequest 64 = .ok (.iload 4, 2) := by decide +kernel
theorem dc_M_sendRequest_66 : decode cd_M_sendRequest 66 = .ok (.iconst 4, 1) := by decide +kernel
theorem dc_M_sendRequest_67 : decode cd_M_sendRequest 67 = .ok (.if_icmp .ne 13, 3) := by decide +kernel
theorem dc_M_sendRequest_70 : decode cd_M_sendRequest 70 = .ok (.aload_n 0, 1) := by decide +kernel
theorem dc_M_sendRequest_71 : decode cd_M_sendRequest 71 = .ok (.getfield 68, 3) := by decide +kernel
theorem dc_M_sendRequest_74 : decode cd_M_sendRequest 74 = .ok (.iload_n 2, 1) := by decide +kernel
theorem dc_M_sendRequest_75 : decode cd_M_sendRequest 75 = .ok (.iconst 2, 1) := by decide +kernel
theorem dc_M_sendRequest_76 : decode cd_M_sendRequest 76 = .ok (.iastore, 1) := by decide +kernel
theorem dc_M_sendRequest_77 : decode cd_M_sendRequest 77 = .ok (.goto 14, 3) := by decide +kernel
theorem dc_M_sendRequest_80 : decode cd_M_sendRequest 80 = .ok (.aload_n 0, 1) := by decide +kernel
theorem dc_M_sendRequest_81 : decode cd_M_sendRequest 81 = .ok (.iload_n 1, 1) := by decide +kernel
theorem dc_M_sendRequest_82 : decode cd_M_sendRequest 82 = .ok (.iload_n 2, 1) := by decide +kernel
theorem dc_M_sendRequest_83 : decode cd_M_sendRequest 83 = .ok (.iload_n 3, 1) := by decide +kernel
theorem dc_M_sendRequest_84 : decode cd_M_sendRequest 84 = .ok (.iload 4, 2) := by decide +kernel
theorem dc_M_sendRequest_86 : decode cd_M_sendRequest 86 = .ok (.iconst 0, 1) := by decide +kernel
theorem dc_M_sendRequest_87 : decode cd_M_sendRequest 87 = .ok (.iconst 0, 1) := by decide +kernel
theorem dc_M_sendRequest_88 : decode cd_M_sendRequest 88 = .ok (.invokevirtual 139, 3) := by decide +kernel
theorem dc_M_sendRequest_91 : decode cd_M_sendRequest 91 = .ok (.return_, 1) := by decide +kernel
theorem dc_M_send_0 : decode cd_M_send 0 = .ok (.bipush 6, 2) := by decide +kernel
theorem dc_M_send_2 : decode cd_M_send 2 = .ok (.iload_n 1, 1) := by decide +kernel
theorem dc_M_send_3 : decode cd_M_send 3 = .ok (.imul, 1) := by decide +kernel
theorem dc_M_send_4 : decode cd_M_send 4 = .ok (.istore_n 2, 1) := by decide +kernel
theorem dc_M_send_5 : decode cd_M_send 5 = .ok (.aload_n 0, 1) := by decide +kernel
theorem dc_M_send_6 : decode cd_M_send 6 = .ok (.getfield 95, 3) := by decide +kernel
theorem dc_M_send_9 : decode cd_M_send 9 = .ok (.iload_n 2, 1) := by decide +kernel
theorem dc_M_send_10 : decode cd_M_send 10 = .ok (.iaload, 1) := by decide +kernel
theorem dc_M_send_11 : decode cd_M_send 11 = .ok (.istore_n 3, 1) := by decide +kernel
theorem dc_M_send_12 : decode cd_M_send 12 = .ok (.aload_n 0, 1) := by decide +kernel
theorem dc_M_send_13 : decode cd_M_send 13 = .ok (.getfield 98, 3) := by decide +kernel
theorem dc_M_send_16 : decode cd_M_send 16 = .ok (.iload_n 2, 1) := by decide +kernel
theorem dc_M_send_17 : decode cd_M_send 17 = .ok (.iaload, 1) := by decide +kernel
theorem dc_M_send_18 : decode cd_M_send 18 = .ok (.istore 4, 2) := by decide +kernel
theorem dc_M_send_20 : decode cd_M_send 20 = .ok (.aload_n 0, 1) := by decide +kernel
theorem dc_M_send_21 : decode cd_M_send 21 = .ok (.getfield 101, 3) := by decide +kernel
theorem dc_M_send_24 : decode cd_M_send 24 = .ok (.iload_n 2, 1) := by decide +kernel
theorem dc_M_send_25 : decode cd_M_send 25 = .ok (.iaload, 1) := by decide +kernel
theorem dc_M_send_26 : decode cd_M_send 26 = .ok (.iconst 1, 1) := by decide +kernel
theorem dc_M_send_27 : decode cd_M_send 27 = .ok (.iadd, 1) := by decide +kernel
theorem dc_M_send_28 : decode cd_M_send 28 = .ok (.istore 5, 2) := by decide +kernel
theorem dc_M_send_30 : decode cd_M_send 30 = .ok (.aload_n 0, 1) := by decide +kernel
theorem dc_M_send_31 : decode cd_M_send 31 = .ok (.getfield 104, 3) := by decide +kernel
theorem dc_M_send_34 : decode cd_M_send 34 = .ok (.iload_n 2, 1) := by decide +kernel
theorem dc_M_send_35 : decode cd_M_send 35 = .ok (.iaload, 1) := by decide +kernel
theorem dc_M_send_36 : decode cd_M_send 36 = .ok (.istore 6, 2) := by decide +kernel
theorem dc_M_send_38 : decode cd_M_send 38 = .ok (.aload_n 0, 1) := by decide +kernel
theorem dc_M_send_39 : decode cd_M_send 39 = .ok (.getfield 107, 3) := by decide +kernel
theorem dc_M_send_42 : decode cd_M_send 42 = .ok (.iload_n 2, 1) := by decide +kernel
theorem dc_M_send_43 : decode cd_M_send 43 = .ok (.baload, 1) := by decide +kernel
theorem dc_M_send_44 : decode cd_M_send 44 = .ok (.istore 7, 2) := by decide +kernel
theorem dc_M_send_46 : decode cd_M_send 46 = .ok (.aload_n 0, 1) := by decide +kernel
theorem dc_M_send_47 : decode cd_M_send 47 = .ok (.iload_n 1, 1) := by decide +kernel
theorem dc_M_send_48 : decode cd_M_send 48 = .ok (.iconst 0, 1) := by decide +kernel
theorem dc_M_send_49 : decode cd_M_send 49 = .ok (.invokevirtual 146, 3) := by decide +kernel
theorem dc_M_send_52 : decode cd_M_send 52 = .ok (.aload_n 0, 1) := by decide +kernel
theorem dc_M_send_53 : decode cd_M_send 53 = .ok (.dup, 1) := by decide +kernel
theorem dc_M_send_54 : decode cd_M_send 54 = .ok (.getfield 150, 3) := by decide +kernel
theorem dc_M_send_57 : decode cd_M_send 57 = .ok (.iconst 1, 1) := by decide +kernel
theorem dc_M_send_58 : decode cd_M_send 58 = .ok (.iadd, 1) := by decide +kernel
theorem dc_M_send_59 : decode cd_M_send 59 = .ok (.putfield 150, 3) := by decide +kernel
theorem dc_M_send_62 : decode cd_M_send 62 = .ok (.iload 7, 2) := by decide +kernel
theorem dc_M_send_64 : decode cd_M_send 64 = .ok (.ifCond .ne 16, 3) := by decide +kernel
theorem dc_M_send_67 : decode cd_M_send 67 = .ok (.aload_n 0, 1) := by decide +kernel
theorem dc_M_send_68 : decode cd_M_send 68 = .ok (.iload_n 1, 1) := by decide +kernel
theorem dc_M_send_69 : decode cd_M_send 69 = .ok (.iload_n 3, 1) := by decide +kernel
theorem dc_M_send_70 : decode cd_M_send 70 = .ok (.iload 4, 2) := by decide +kernel
theorem dc_M_send_72 : decode cd_M_send 72 = .ok (.iload 5, 2) := by decide +kernel
theorem dc_M_send_74 : decode cd_M_send 74 = .ok (.invokevirtual 153, 3) := by decide +kernel
theorem dc_M_send_77 : decode cd_M_send 77 = .ok (.goto 39, 3) := by decide +kernel
theorem dc_M_send_80 : decode cd_M_send 80 = .ok (.aload_n 0, 1) := by decide +kernel
theorem dc_M_send_81 : decode cd_M_send 81 = .ok (.getfield 68, 3) := by decide +kernel
theorem dc_M_send_84 : decode cd_M_send 84 = .ok (.iload_n 3, 1) := by decide +kernel
theorem dc_M_send_85 : decode cd_M_send 85 = .ok (.iaload, 1) := by decide +kernel
theorem dc_M_send_86 : decode cd_M_send 86 = .ok (.iconst (-1), 1) := by decide +kernel
theorem dc_M_send_87 : decode cd_M_send 87 = .ok (.if_icmp .ne 29, 3) := by decide +kernel
theorem dc_M_send_90 : decode cd_M_send 90 = .ok (.aload_n 0, 1) := by decide +kernel
theorem dc_M_send_91 : decode cd_M_send 91 = .ok (.getfield 92, 3) := by decide +kernel
theorem dc_M_send_94 : decode cd_M_send 94 = .ok (.iload_n 3, 1) := by decide +kernel
theorem dc_M_send_95 : decode cd_M_send 95 = .ok (.iaload, 1) := by decide +kernel
theorem dc_M_send_96 : decode cd_M_send 96 = .ok (.iload 4, 2) := by decide +kernel
theorem dc_M_send_98 : decode cd_M_send 98 = .ok (.if_icmp .ne 18, 3) := by decide +kernel
theorem dc_M_send_101 : decode cd_M_send 101 = .ok (.aload_n 0, 1) := by decide +kernel
theorem dc_M_send_102 : decode cd_M_send 102 = .ok (.getfield 68, 3) := by decide +kernel
theorem dc_M_send_105 : decode cd_M_send 105 = .ok (.iload_n 3, 1) := by decide +kernel
theorem dc_M_send_106 : decode cd_M_send 106 = .ok (.iconst 0, 1) := by decide +kernel
theorem dc_M_send_107 : decode cd_M_send 107 = .ok (.iastore, 1) := by decide +kernel
theorem dc_M_send_108 : decode cd_M_send 108 = .ok (.aload_n 0, 1) := by decide +kernel
theorem dc_M_send_109 : decode cd_M_send 109 = .ok (.getfield 86, 3) := by decide +kernel
theorem dc_M_send_112 : decode cd_M_send 112 = .ok (.iload_n 3, 1) := by decide +kernel
theorem dc_M_send_113 : decode cd_M_send 113 = .ok (.iload 6, 2) := by decide +kernel
theorem dc_M_send_115 : decode cd_M_send 115 = .ok (.iastore, 1) := by decide +kernel
theorem dc_M_send_116 : decode cd_M_send 116 = .ok (.return_, 1) := by decide +kernel
theorem dc_M_openAt_0 : decode cd_M_openAt 0 = .ok (.iconst 0, 1) := by decide +kernel
theorem dc_M_openAt_1 : decode cd_M_openAt 1 = .ok (.istore_n 2, 1) := by decide +kernel
theorem dc_M_openAt_2 : decode cd_M_openAt 2 = .ok (.iconst 0, 1) := by decide +kernel
theorem dc_M_openAt_3 : decode cd_M_openAt 3 = .ok (.istore_n 3, 1) := by decide +kernel
theorem dc_M_openAt_4 : decode cd_M_openAt 4 = .ok (.iload_n 3, 1) := by decide +kernel
theorem dc_M_openAt_5 : decode cd_M_openAt 5 = .ok (.iconst 3, 1) := by decide +kernel
theorem dc_M_openAt_6 : decode cd_M_openAt 6 = .ok (.if_icmp .ge 25, 3) := by decide +kernel
theorem dc_M_openAt_9 : decode cd_M_openAt 9 = .ok (.aload_n 0, 1) := by decide +kernel
theorem dc_M_openAt_10 : decode cd_M_openAt 10 = .ok (.getfield 13, 3) := by decide +kernel
theorem dc_M_openAt_13 : decode cd_M_openAt 13 = .ok (.iconst 3, 1) := by decide +kernel
theorem dc_M_openAt_14 : decode cd_M_openAt 14 = .ok (.iload_n 1, 1) := by decide +kernel
theorem dc_M_openAt_15 : decode cd_M_openAt 15 = .ok (.imul, 1) := by decide +kernel
theorem dc_M_openAt_16 : decode cd_M_openAt 16 = .ok (.iload_n 3, 1) := by decide +kernel
theorem dc_M_openAt_17 : decode cd_M_openAt 17 = .ok (.iadd, 1) := by decide +kernel
theorem dc_M_openAt_18 : decode cd_M_openAt 18 = .ok (.baload, 1) := by decide +kernel
theorem dc_M_openAt_19 : decode cd_M_openAt 19 = .ok (.ifCond .eq 6, 3) := by decide +kernel
theorem dc_M_openAt_22 : decode cd_M_openAt 22 = .ok (.iinc 2 1, 3) := by decide +kernel
theorem dc_M_openAt_25 : decode cd_M_openAt 25 = .ok (.iinc 3 1, 3) := by decide +kernel
theorem dc_M_openAt_28 : decode cd_M_openAt 28 = .ok (.goto (-24), 3) := by decide +kernel
theorem dc_M_openAt_31 : decode cd_M_openAt 31 = .ok (.iload_n 2, 1) := by decide +kernel
theorem dc_M_openAt_32 : decode cd_M_openAt 32 = .ok (.ireturn, 1) := by decide +kernel
theorem dc_M_nextBit_0 : decode cd_M_nextBit 0 = .ok (.aload_n 0, 1) := by decide +kernel
theorem dc_M_nextBit_1 : decode cd_M_nextBit 1 = .ok (.getfield 17, 3) := by decide +kernel
theorem dc_M_nextBit_4 : decode cd_M_nextBit 4 = .ok (.iload_n 1, 1) := by decide +kernel
theorem dc_M_nextBit_5 : decode cd_M_nextBit 5 = .ok (.iaload, 1) := by decide +kernel
theorem dc_M_nextBit_6 : decode cd_M_nextBit 6 = .ok (.aload_n 0, 1) := by decide +kernel
theorem dc_M_nextBit_7 : decode cd_M_nextBit 7 = .ok (.getfield 20, 3) := by decide +kernel
theorem dc_M_nextBit_10 : decode cd_M_nextBit 10 = .ok (.iload_n 1, 1) := by decide +kernel
theorem dc_M_nextBit_11 : decode cd_M_nextBit 11 = .ok (.iaload, 1) := by decide +kernel
theorem dc_M_nextBit_12 : decode cd_M_nextBit 12 = .ok (.ishr, 1) := by decide +kernel
theorem dc_M_nextBit_13 : decode cd_M_nextBit 13 = .ok (.iconst 1, 1) := by decide +kernel
theorem dc_M_nextBit_14 : decode cd_M_nextBit 14 = .ok (.iand, 1) := by decide +kernel
theorem dc_M_nextBit_15 : decode cd_M_nextBit 15 = .ok (.istore_n 2, 1) := by decide +kernel
theorem dc_M_nextBit_16 : decode cd_M_nextBit 16 = .ok (.aload_n 0, 1) := by decide +kernel
theorem dc_M_nextBit_17 : decode cd_M_nextBit 17 = .ok (.getfield 20, 3) := by decide +kernel
theorem dc_M_nextBit_20 : decode cd_M_nextBit 20 = .ok (.iload_n 1, 1) := by decide +kernel
theorem dc_M_nextBit_21 : decode cd_M_nextBit 21 = .ok (.aload_n 0, 1) := by decide +kernel
theorem dc_M_nextBit_22 : decode cd_M_nextBit 22 = .ok (.getfield 20, 3) := by decide +kernel
theorem dc_M_nextBit_25 : decode cd_M_nextBit 25 = .ok (.iload_n 1, 1) := by decide +kernel
theorem dc_M_nextBit_26 : decode cd_M_nextBit 26 = .ok (.iaload, 1) := by decide +kernel
theorem dc_M_nextBit_27 : decode cd_M_nextBit 27 = .ok (.iconst 1, 1) := by decide +kernel
theorem dc_M_nextBit_28 : decode cd_M_nextBit 28 = .ok (.iadd, 1) := by decide +kernel
theorem dc_M_nextBit_29 : decode cd_M_nextBit 29 = .ok (.bipush 16, 2) := by decide +kernel
theorem dc_M_nextBit_31 : decode cd_M_nextBit 31 = .ok (.irem, 1) := by decide +kernel
theorem dc_M_nextBit_32 : decode cd_M_nextBit 32 = .ok (.iastore, 1) := by decide +kernel
theorem dc_M_nextBit_33 : decode cd_M_nextBit 33 = .ok (.iload_n 2, 1) := by decide +kernel
theorem dc_M_nextBit_34 : decode cd_M_nextBit 34 = .ok (.ireturn, 1) := by decide +kernel
theorem dc_M_close_0 : decode cd_M_close 0 = .ok (.aload_n 0, 1) := by decide +kernel
theorem dc_M_close_1 : decode cd_M_close 1 = .ok (.getfield 13, 3) := by decide +kernel
theorem dc_M_close_4 : decode cd_M_close 4 = .ok (.iload_n 1, 1) := by decide +kernel
theorem dc_M_close_5 : decode cd_M_close 5 = .ok (.aload_n 0, 1) := by decide +kernel
theorem dc_M_close_6 : decode cd_M_close 6 = .ok (.getfield 13, 3) := by decide +kernel
theorem dc_M_close_9 : decode cd_M_close 9 = .ok (.iload_n 2, 1) := by decide +kernel
theorem dc_M_close_10 : decode cd_M_close 10 = .ok (.iconst 0, 1) := by decide +kernel
theorem dc_M_close_11 : decode cd_M_close 11 = .ok (.dup_x2, 1) := by decide +kernel
theorem dc_M_close_12 : decode cd_M_close 12 = .ok (.bastore, 1) := by decide +kernel
theorem dc_M_close_13 : decode cd_M_close 13 = .ok (.bastore, 1) := by decide +kernel
theorem dc_M_close_14 : decode cd_M_close 14 = .ok (.aload_n 0, 1) := by decide +kernel
theorem dc_M_close_15 : decode cd_M_close 15 = .ok (.getfield 50, 3) := by decide +kernel
theorem dc_M_close_18 : decode cd_M_close 18 = .ok (.iload_n 1, 1) := by decide +kernel
theorem dc_M_close_19 : decode cd_M_close 19 = .ok (.iconst 3, 1) := by decide +kernel
theorem dc_M_close_20 : decode cd_M_close 20 = .ok (.idiv, 1) := by decide +kernel
theorem dc_M_close_21 : decode cd_M_close 21 = .ok (.iload_n 2, 1) := by decide +kernel
theorem dc_M_close_22 : decode cd_M_close 22 = .ok (.iconst 3, 1) := by decide +kernel
theorem dc_M_close_23 : decode cd_M_close 23 = .ok (.idiv, 1) := by decide +kernel
theorem dc_M_close_24 : decode cd_M_close 24 = .ok (.iastore, 1) := by decide +kernel
theorem dc_M_close_25 : decode cd_M_close 25 = .ok (.return_, 1) := by decide +kernel
theorem dc_M_round_0 : decode cd_M_round 0 = .ok (.iconst 0, 1) := by decide +kernel
theorem dc_M_round_1 : decode cd_M_round 1 = .ok (.istore_n 3, 1) := by decide +kernel
theorem dc_M_round_2 : decode cd_M_round 2 = .ok (.iload_n 3, 1) := by decide +kernel
theorem dc_M_round_3 : decode cd_M_round 3 = .ok (.bipush 12, 2) := by decide +kernel
theorem dc_M_round_5 : decode cd_M_round 5 = .ok (.if_icmp .ge 53, 3) := by decide +kernel
theorem dc_M_round_8 : decode cd_M_round 8 = .ok (.aload_n 0, 1) := by decide +kernel
theorem dc_M_round_9 : decode cd_M_round 9 = .ok (.getfield 65, 3) := by decide +kernel
theorem dc_M_round_12 : decode cd_M_round 12 = .ok (.iload_n 3, 1) := by decide +kernel
theorem dc_M_round_13 : decode cd_M_round 13 = .ok (.aload_n 0, 1) := by decide +kernel
theorem dc_M_round_14 : decode cd_M_round 14 = .ok (.getfield 62, 3) := by decide +kernel
theorem dc_M_round_17 : decode cd_M_round 17 = .ok (.iload_n 3, 1) := by decide +kernel
theorem dc_M_round_18 : decode cd_M_round 18 = .ok (.iaload, 1) := by decide +kernel
theorem dc_M_round_19 : decode cd_M_round 19 = .ok (.iload_n 1, 1) := by decide +kernel
theorem dc_M_round_20 : decode cd_M_round 20 = .ok (.if_icmp .ne 30, 3) := by decide +kernel
theorem dc_M_round_23 : decode cd_M_round 23 = .ok (.aload_n 0, 1) := by decide +kernel
theorem dc_M_round_24 : decode cd_M_round 24 = .ok (.iload_n 3, 1) := by decide +kernel
theorem dc_M_round_25 : decode cd_M_round 25 = .ok (.invokevirtual 157, 3) := by decide +kernel
theorem dc_M_round_28 : decode cd_M_round 28 = .ok (.iconst 1, 1) := by decide +kernel
theorem dc_M_round_29 : decode cd_M_round 29 = .ok (.if_icmp .ne 21, 3) := by decide +kernel
theorem dc_M_round_32 : decode cd_M_round 32 = .ok (.aload_n 0, 1) := by decide +kernel
theorem dc_M_round_33 : decode cd_M_round 33 = .ok (.getfield 32, 3) := by decide +kernel
theorem dc_M_round_36 : decode cd_M_round 36 = .ok (.iload_n 3, 1) := by decide +kernel
theorem dc_M_round_37 : decode cd_M_round 37 = .ok (.baload, 1) := by decide +kernel
theorem dc_M_round_38 : decode cd_M_round 38 = .ok (.ifCond .eq 8, 3) := by decide +kernel
theorem dc_M_round_41 : decode cd_M_round 41 = .ok (.iload_n 2, 1) := by decide +kernel
theorem dc_M_round_42 : decode cd_M_round 42 = .ok (.iconst 4, 1) := by decide +kernel
theorem dc_M_round_43 : decode cd_M_round 43 = .ok (.if_icmp .le 7, 3) := by decide +kernel
theorem dc_M_round_46 : decode cd_M_round 46 = .ok (.iconst 1, 1) := by decide +kernel
theorem dc_M_round_47 : decode cd_M_round 47 = .ok (.goto 4, 3) := by decide +kernel
theorem dc_M_round_50 : decode cd_M_round 50 = .ok (.iconst 0, 1) := by decide +kernel
theorem dc_M_round_51 : decode cd_M_round 51 = .ok (.bastore, 1) := by decide +kernel
theorem dc_M_round_52 : decode cd_M_round 52 = .ok (.iinc 3 1, 3) := by decide +kernel
theorem dc_M_round_55 : decode cd_M_round 55 = .ok (.goto (-53), 3) := by decide +kernel
theorem dc_M_round_58 : decode cd_M_round 58 = .ok (.iconst 0, 1) := by decide +kernel
theorem dc_M_round_59 : decode cd_M_round 59 = .ok (.istore_n 3, 1) := by decide +kernel
theorem dc_M_round_60 : decode cd_M_round 60 = .ok (.iload_n 3, 1) := by decide +kernel
theorem dc_M_round_61 : decode cd_M_round 61 = .ok (.bipush 36, 2) := by decide +kernel
theorem dc_M_round_63 : decode cd_M_round 63 = .ok (.if_icmp .ge 173, 3) := by decide +kernel
theorem dc_M_round_66 : decode cd_M_round 66 = .ok (.aload_n 0, 1) := by decide +kernel
theorem dc_M_round_67 : decode cd_M_round 67 = .ok (.getfield 62, 3) := by decide +kernel
theorem dc_M_round_70 : decode cd_M_round 70 = .ok (.iload_n 3, 1) := by decide +kernel
theorem dc_M_round_71 : decode cd_M_round 71 = .ok (.iconst 3, 1) := by decide +kernel
theorem dc_M_round_72 : decode cd_M_round 72 = .ok (.idiv, 1) := by decide +kernel
theorem dc_M_round_73 : decode cd_M_round 73 = .ok (.iaload, 1) := by decide +kernel
theorem dc_M_round_74 : decode cd_M_round 74 = .ok (.iload_n 1, 1) := by decide +kernel
theorem dc_M_round_75 : decode cd_M_round 75 = .ok (.if_icmp .ne 155, 3) := by decide +kernel
theorem dc_M_round_78 : decode cd_M_round 78 = .ok (.aload_n 0, 1) := by decide +kernel
theorem dc_M_round_79 : decode cd_M_round 79 = .ok (.getfield 13, 3) := by decide +kernel
theorem dc_M_round_82 : decode cd_M_round 82 = .ok (.iload_n 3, 1) := by decide +kernel
theorem dc_M_round_83 : decode cd_M_round 83 = .ok (.baload, 1) := by decide +kernel
theorem dc_M_round_84 : decode cd_M_round 84 = .ok (.ifCond .eq 146, 3) := by decide +kernel
theorem dc_M_round_87 : decode cd_M_round 87 = .ok (.aload_n 0, 1) := by decide +kernel
theorem dc_M_round_88 : decode cd_M_round 88 = .ok (.getfield 7, 3) := by decide +kernel
theorem dc_M_round_91 : decode cd_M_round 91 = .ok (.iload_n 3, 1) := by decide +kernel
theorem dc_M_round_92 : decode cd_M_round 92 = .ok (.iaload, 1) := by decide +kernel
theorem dc_M_round_93 : decode cd_M_round 93 = .ok (.iload_n 3, 1) := by decide +kernel
theorem dc_M_round_94 : decode cd_M_round 94 = .ok (.if_icmp .ge 6, 3) := by decide +kernel
theorem dc_M_round_97 : decode cd_M_round 97 = .ok (.goto 133, 3) := by decide +kernel
theorem dc_M_round_100 : decode cd_M_round 100 = .ok (.aload_n 0, 1) := by decide +kernel
theorem dc_M_round_101 : decode cd_M_round 101 = .ok (.getfield 7, 3) := by decide +kernel
theorem dc_M_round_104 : decode cd_M_round 104 = .ok (.iload_n 3, 1) := by decide +kernel
theorem dc_M_round_105 : decode cd_M_round 105 = .ok (.iaload, 1) := by decide +kernel
theorem dc_M_round_106 : decode cd_M_round 106 = .ok (.istore 4, 2) := by decide +kernel
theorem dc_M_round_108 : decode cd_M_round 108 = .ok (.iload_n 3, 1) := by decide +kernel
theorem dc_M_round_109 : decode cd_M_round 109 = .ok (.iconst 3, 1) := by decide +kernel
theorem dc_M_round_110 : decode cd_M_round 110 = .ok (.idiv, 1) := by decide +kernel
theorem dc_M_round_111 : decode cd_M_round 111 = .ok (.istore 5, 2) := by decide +kernel
theorem dc_M_round_113 : decode cd_M_round 113 = .ok (.iload 4, 2) := by decide +kernel
theorem dc_M_round_115 : decode cd_M_round 115 = .ok (.iconst 3, 1) := by decide +kernel
theorem dc_M_round_116 : decode cd_M_round 116 = .ok (.idiv, 1) := by decide +kernel
theorem dc_M_round_117 : decode cd_M_round 117 = .ok (.istore 6, 2) := by decide +kernel
theorem dc_M_round_119 : decode cd_M_round 119 = .ok (.aload_n 0, 1) := by decide +kernel
theorem dc_M_round_120 : decode cd_M_round 120 = .ok (.getfield 65, 3) := by decide +kernel
theorem dc_M_round_123 : decode cd_M_round 123 = .ok (.iload 5, 2) := by decide +kernel
theorem dc_M_round_125 : decode cd_M_round 125 = .ok (.baload, 1) := by decide +kernel
theorem dc_M_round_126 : decode cd_M_round 126 = .ok (.ifCond .eq 67, 3) := by decide +kernel
theorem dc_M_round_129 : decode cd_M_round 129 = .ok (.aload_n 0, 1) := by decide +kernel
theorem dc_M_round_130 : decode cd_M_round 130 = .ok (.getfield 65, 3) := by decide +kernel
theorem dc_M_round_133 : decode cd_M_round 133 = .ok (.iload 6, 2) := by decide +kernel
theorem dc_M_round_135 : decode cd_M_round 135 = .ok (.baload, 1) := by decide +kernel
theorem dc_M_round_136 : decode cd_M_round 136 = .ok (.ifCond .eq 57, 3) := by decide +kernel
theorem dc_M_round_139 : decode cd_M_round 139 = .ok (.aload_n 0, 1) := by decide +kernel
theorem dc_M_round_140 : decode cd_M_round 140 = .ok (.iload 5, 2) := by decide +kernel
theorem dc_M_round_142 : decode cd_M_round 142 = .ok (.invokevirtual 160, 3) := by decide +kernel
theorem dc_M_round_145 : decode cd_M_round 145 = .ok (.istore 7, 2) := by decide +kernel
theorem dc_M_round_147 : decode cd_M_round 147 = .ok (.aload_n 0, 1) := by decide +kernel
theorem dc_M_round_148 : decode cd_M_round 148 = .ok (.iload 6, 2) := by decide +kernel
theorem dc_M_round_150 : decode cd_M_round 150 = .ok (.invokevirtual 160, 3) := by decide +kernel
theorem dc_M_round_153 : decode cd_M_round 153 = .ok (.istore 8, 2) := by decide +kernel
theorem dc_M_round_155 : decode cd_M_round 155 = .ok (.iload 7, 2) := by decide +kernel
theorem dc_M_round_157 : decode cd_M_round 157 = .ok (.iload 8, 2) := by decide +kernel
theorem dc_M_round_159 : decode cd_M_round 159 = .ok (.if_icmp .eq 31, 3) := by decide +kernel
theorem dc_M_round_162 : decode cd_M_round 162 = .ok (.aload_n 0, 1) := by decide +kernel
theorem dc_M_round_163 : decode cd_M_round 163 = .ok (.iload 7, 2) := by decide +kernel
theorem dc_M_round_165 : decode cd_M_round 165 = .ok (.iconst 1, 1) := by decide +kernel
theorem dc_M_round_166 : decode cd_M_round 166 = .ok (.if_icmp .ne 8, 3) := by decide +kernel
theorem dc_M_round_169 : decode cd_M_round 169 = .ok (.iload 4, 2) := by decide +kernel
theorem dc_M_round_171 : decode cd_M_round 171 = .ok (.goto 4, 3) := by decide +kernel
theorem dc_M_round_174 : decode cd_M_round 174 = .ok (.iload_n 3, 1) := by decide +kernel
theorem dc_M_round_175 : decode cd_M_round 175 = .ok (.iload 7, 2) := by decide +kernel
theorem dc_M_round_177 : decode cd_M_round 177 = .ok (.iconst 1, 1) := by decide +kernel
theorem dc_M_round_178 : decode cd_M_round 178 = .ok (.if_icmp .ne 7, 3) := by decide +kernel
theorem dc_M_round_181 : decode cd_M_round 181 = .ok (.iload_n 3, 1) := by decide +kernel
theorem dc_M_round_182 : decode cd_M_round 182 = .ok (.goto 5, 3) := by decide +kernel
theorem dc_M_round_185 : decode cd_M_round 185 = .ok (.iload 4, 2) := by decide +kernel
theorem dc_M_round_187 : decode cd_M_round 187 = .ok (.invokevirtual 163, 3) := by decide +kernel
theorem dc_M_round_190 : decode cd_M_round 190 = .ok (.goto 40, 3) := by decide +kernel
theorem dc_M_round_193 : decode cd_M_round 193 = .ok (.aload_n 0, 1) := by decide +kernel
theorem dc_M_round_194 : decode cd_M_round 194 = .ok (.getfield 65, 3) := by decide +kernel
theorem dc_M_round_197 : decode cd_M_round 197 = .ok (.iload 5, 2) := by decide +kernel
theorem dc_M_round_199 : decode cd_M_round 199 = .ok (.baload, 1) := by decide +kernel
theorem dc_M_round_200 : decode cd_M_round 200 = .ok (.ifCond .eq 13, 3) := by decide +kernel
theorem dc_M_round_203 : decode cd_M_round 203 = .ok (.aload_n 0, 1) := by decide +kernel
theorem dc_M_round_204 : decode cd_M_round 204 = .ok (.iload_n 3, 1) := by decide +kernel
