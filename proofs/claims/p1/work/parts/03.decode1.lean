theorem px_d10_71 : decode prog_15_method_17_code 71 = .ok (.new 8, 3) := by decide +kernel
theorem px_d10_74 : decode prog_15_method_17_code 74 = .ok (.dup, 1) := by decide +kernel
theorem px_d10_75 : decode prog_15_method_17_code 75 = .ok (.invokespecial 152, 3) := by decide +kernel
theorem px_d10_78 : decode prog_15_method_17_code 78 = .ok (.putfield 68, 3) := by decide +kernel
theorem px_d10_81 : decode prog_15_method_17_code 81 = .ok (.aload_n 0, 1) := by decide +kernel
theorem px_d10_82 : decode prog_15_method_17_code 82 = .ok (.new 8, 3) := by decide +kernel
theorem px_d10_85 : decode prog_15_method_17_code 85 = .ok (.dup, 1) := by decide +kernel
theorem px_d10_86 : decode prog_15_method_17_code 86 = .ok (.invokespecial 152, 3) := by decide +kernel
theorem px_d10_89 : decode prog_15_method_17_code 89 = .ok (.putfield 82, 3) := by decide +kernel
theorem px_d10_92 : decode prog_15_method_17_code 92 = .ok (.aload_n 0, 1) := by decide +kernel
theorem px_d10_93 : decode prog_15_method_17_code 93 = .ok (.sipush 156, 3) := by decide +kernel
theorem px_d10_96 : decode prog_15_method_17_code 96 = .ok (.anewarray 8, 3) := by decide +kernel
theorem px_d10_99 : decode prog_15_method_17_code 99 = .ok (.putfield 34, 3) := by decide +kernel
theorem px_d10_102 : decode prog_15_method_17_code 102 = .ok (.aload_n 0, 1) := by decide +kernel
theorem px_d10_103 : decode prog_15_method_17_code 103 = .ok (.sipush 156, 3) := by decide +kernel
theorem px_d10_106 : decode prog_15_method_17_code 106 = .ok (.newarray .int, 2) := by decide +kernel
theorem px_d10_108 : decode prog_15_method_17_code 108 = .ok (.putfield 55, 3) := by decide +kernel
theorem px_d10_111 : decode prog_15_method_17_code 111 = .ok (.aload_n 0, 1) := by decide +kernel
theorem px_d10_112 : decode prog_15_method_17_code 112 = .ok (.bipush 13, 2) := by decide +kernel
theorem px_d10_114 : decode prog_15_method_17_code 114 = .ok (.newarray .int, 2) := by decide +kernel
theorem px_d10_116 : decode prog_15_method_17_code 116 = .ok (.putfield 108, 3) := by decide +kernel
theorem px_d10_119 : decode prog_15_method_17_code 119 = .ok (.aload_n 0, 1) := by decide +kernel
theorem px_d10_120 : decode prog_15_method_17_code 120 = .ok (.bipush 12, 2) := by decide +kernel
theorem px_d10_122 : decode prog_15_method_17_code 122 = .ok (.newarray .int, 2) := by decide +kernel
theorem px_d10_124 : decode prog_15_method_17_code 124 = .ok (.putfield 120, 3) := by decide +kernel
theorem px_d10_127 : decode prog_15_method_17_code 127 = .ok (.aload_n 0, 1) := by decide +kernel
theorem px_d10_128 : decode prog_15_method_17_code 128 = .ok (.bipush 12, 2) := by decide +kernel
theorem px_d10_130 : decode prog_15_method_17_code 130 = .ok (.newarray .int, 2) := by decide +kernel
theorem px_d10_132 : decode prog_15_method_17_code 132 = .ok (.putfield 117, 3) := by decide +kernel
theorem px_d10_135 : decode prog_15_method_17_code 135 = .ok (.aload_n 0, 1) := by decide +kernel
theorem px_d10_136 : decode prog_15_method_17_code 136 = .ok (.bipush 36, 2) := by decide +kernel
theorem px_d10_138 : decode prog_15_method_17_code 138 = .ok (.anewarray 8, 3) := by decide +kernel
theorem px_d10_141 : decode prog_15_method_17_code 141 = .ok (.putfield 140, 3) := by decide +kernel
theorem px_d10_144 : decode prog_15_method_17_code 144 = .ok (.aload_n 0, 1) := by decide +kernel
theorem px_d10_145 : decode prog_15_method_17_code 145 = .ok (.bipush 36, 2) := by decide +kernel
theorem px_d10_147 : decode prog_15_method_17_code 147 = .ok (.newarray .int, 2) := by decide +kernel
theorem px_d10_149 : decode prog_15_method_17_code 149 = .ok (.putfield 137, 3) := by decide +kernel
theorem px_d10_152 : decode prog_15_method_17_code 152 = .ok (.aload_n 0, 1) := by decide +kernel
theorem px_d10_153 : decode prog_15_method_17_code 153 = .ok (.bipush 26, 2) := by decide +kernel
theorem px_d10_155 : decode prog_15_method_17_code 155 = .ok (.newarray .boolean, 2) := by decide +kernel
theorem px_d10_157 : decode prog_15_method_17_code 157 = .ok (.putfield 153, 3) := by decide +kernel
theorem px_d10_160 : decode prog_15_method_17_code 160 = .ok (.aload_n 0, 1) := by decide +kernel
theorem px_d10_161 : decode prog_15_method_17_code 161 = .ok (.bipush 26, 2) := by decide +kernel
theorem px_d10_163 : decode prog_15_method_17_code 163 = .ok (.newarray .int, 2) := by decide +kernel
theorem px_d10_165 : decode prog_15_method_17_code 165 = .ok (.putfield 157, 3) := by decide +kernel
theorem px_d10_168 : decode prog_15_method_17_code 168 = .ok (.aload_n 0, 1) := by decide +kernel
theorem px_d10_169 : decode prog_15_method_17_code 169 = .ok (.bipush 26, 2) := by decide +kernel
theorem px_d10_171 : decode prog_15_method_17_code 171 = .ok (.newarray .int, 2) := by decide +kernel
theorem px_d10_173 : decode prog_15_method_17_code 173 = .ok (.putfield 160, 3) := by decide +kernel
theorem px_d10_176 : decode prog_15_method_17_code 176 = .ok (.aload_n 0, 1) := by decide +kernel
theorem px_d10_177 : decode prog_15_method_17_code 177 = .ok (.bipush 26, 2) := by decide +kernel
theorem px_d10_179 : decode prog_15_method_17_code 179 = .ok (.newarray .int, 2) := by decide +kernel
theorem px_d10_181 : decode prog_15_method_17_code 181 = .ok (.putfield 163, 3) := by decide +kernel
theorem px_d10_184 : decode prog_15_method_17_code 184 = .ok (.aload_n 0, 1) := by decide +kernel
theorem px_d10_185 : decode prog_15_method_17_code 185 = .ok (.ldc 166, 2) := by decide +kernel
theorem px_d10_187 : decode prog_15_method_17_code 187 = .ok (.newarray .int, 2) := by decide +kernel
theorem px_d10_189 : decode prog_15_method_17_code 189 = .ok (.putfield 167, 3) := by decide +kernel
theorem px_d10_192 : decode prog_15_method_17_code 192 = .ok (.aload_n 0, 1) := by decide +kernel
theorem px_d10_193 : decode prog_15_method_17_code 193 = .ok (.sipush 3744, 3) := by decide +kernel
theorem px_d10_196 : decode prog_15_method_17_code 196 = .ok (.newarray .int, 2) := by decide +kernel
theorem px_d10_198 : decode prog_15_method_17_code 198 = .ok (.putfield 170, 3) := by decide +kernel
theorem px_d10_201 : decode prog_15_method_17_code 201 = .ok (.aload_n 0, 1) := by decide +kernel
theorem px_d10_202 : decode prog_15_method_17_code 202 = .ok (.sipush 312, 3) := by decide +kernel
theorem px_d10_205 : decode prog_15_method_17_code 205 = .ok (.newarray .int, 2) := by decide +kernel
theorem px_d10_207 : decode prog_15_method_17_code 207 = .ok (.putfield 173, 3) := by decide +kernel
theorem px_d10_210 : decode prog_15_method_17_code 210 = .ok (.aload_n 0, 1) := by decide +kernel
theorem px_d10_211 : decode prog_15_method_17_code 211 = .ok (.ldc 176, 2) := by decide +kernel
theorem px_d10_213 : decode prog_15_method_17_code 213 = .ok (.newarray .byte, 2) := by decide +kernel
theorem px_d10_215 : decode prog_15_method_17_code 215 = .ok (.putfield 177, 3) := by decide +kernel
theorem px_d10_218 : decode prog_15_method_17_code 218 = .ok (.aload_n 0, 1) := by decide +kernel
theorem px_d10_219 : decode prog_15_method_17_code 219 = .ok (.ldc 176, 2) := by decide +kernel
theorem px_d10_221 : decode prog_15_method_17_code 221 = .ok (.newarray .byte, 2) := by decide +kernel
theorem px_d10_223 : decode prog_15_method_17_code 223 = .ok (.putfield 181, 3) := by decide +kernel
theorem px_d10_226 : decode prog_15_method_17_code 226 = .ok (.aload_n 0, 1) := by decide +kernel
theorem px_d10_227 : decode prog_15_method_17_code 227 = .ok (.sipush 4096, 3) := by decide +kernel
theorem px_d10_230 : decode prog_15_method_17_code 230 = .ok (.newarray .int, 2) := by decide +kernel
theorem px_d10_232 : decode prog_15_method_17_code 232 = .ok (.putfield 184, 3) := by decide +kernel
theorem px_d10_235 : decode prog_15_method_17_code 235 = .ok (.aload_n 0, 1) := by decide +kernel
theorem px_d10_236 : decode prog_15_method_17_code 236 = .ok (.sipush 4096, 3) := by decide +kernel
theorem px_d10_239 : decode prog_15_method_17_code 239 = .ok (.newarray .int, 2) := by decide +kernel
theorem px_d10_241 : decode prog_15_method_17_code 241 = .ok (.putfield 187, 3) := by decide +kernel
theorem px_d10_244 : decode prog_15_method_17_code 244 = .ok (.aload_n 0, 1) := by decide +kernel
theorem px_d10_245 : decode prog_15_method_17_code 245 = .ok (.sipush 169, 3) := by decide +kernel
theorem px_d10_248 : decode prog_15_method_17_code 248 = .ok (.newarray .long, 2) := by decide +kernel
theorem px_d10_250 : decode prog_15_method_17_code 250 = .ok (.putfield 190, 3) := by decide +kernel
theorem px_d10_253 : decode prog_15_method_17_code 253 = .ok (.aload_n 0, 1) := by decide +kernel
theorem px_d10_254 : decode prog_15_method_17_code 254 = .ok (.sipush 169, 3) := by decide +kernel
theorem px_d10_257 : decode prog_15_method_17_code 257 = .ok (.newarray .long, 2) := by decide +kernel
theorem px_d10_259 : decode prog_15_method_17_code 259 = .ok (.putfield 194, 3) := by decide +kernel
theorem px_d10_262 : decode prog_15_method_17_code 262 = .ok (.aload_n 0, 1) := by decide +kernel
theorem px_d10_263 : decode prog_15_method_17_code 263 = .ok (.bipush 13, 2) := by decide +kernel
theorem px_d10_265 : decode prog_15_method_17_code 265 = .ok (.newarray .int, 2) := by decide +kernel
theorem px_d10_267 : decode prog_15_method_17_code 267 = .ok (.putfield 197, 3) := by decide +kernel
theorem px_d10_270 : decode prog_15_method_17_code 270 = .ok (.aload_n 0, 1) := by decide +kernel
theorem px_d10_271 : decode prog_15_method_17_code 271 = .ok (.bipush 12, 2) := by decide +kernel
theorem px_d10_273 : decode prog_15_method_17_code 273 = .ok (.newarray .int, 2) := by decide +kernel
theorem px_d10_275 : decode prog_15_method_17_code 275 = .ok (.putfield 200, 3) := by decide +kernel
theorem px_d10_278 : decode prog_15_method_17_code 278 = .ok (.aload_n 0, 1) := by decide +kernel
theorem px_d10_279 : decode prog_15_method_17_code 279 = .ok (.sipush 169, 3) := by decide +kernel
theorem px_d10_282 : decode prog_15_method_17_code 282 = .ok (.newarray .int, 2) := by decide +kernel
theorem px_d10_284 : decode prog_15_method_17_code 284 = .ok (.putfield 203, 3) := by decide +kernel
theorem px_d10_287 : decode prog_15_method_17_code 287 = .ok (.aload_n 0, 1) := by decide +kernel
theorem px_d10_288 : decode prog_15_method_17_code 288 = .ok (.sipush 16384, 3) := by decide +kernel
theorem px_d10_291 : decode prog_15_method_17_code 291 = .ok (.newarray .byte, 2) := by decide +kernel
theorem px_d10_293 : decode prog_15_method_17_code 293 = .ok (.putfield 206, 3) := by decide +kernel
theorem px_d10_296 : decode prog_15_method_17_code 296 = .ok (.aload_n 0, 1) := by decide +kernel
theorem px_d10_297 : decode prog_15_method_17_code 297 = .ok (.iconst (-1), 1) := by decide +kernel
theorem px_d10_298 : decode prog_15_method_17_code 298 = .ok (.putfield 209, 3) := by decide +kernel
theorem px_d10_301 : decode prog_15_method_17_code 301 = .ok (.aload_n 0, 1) := by decide +kernel
theorem px_d10_302 : decode prog_15_method_17_code 302 = .ok (.sipush 256, 3) := by decide +kernel
theorem px_d10_305 : decode prog_15_method_17_code 305 = .ok (.newarray .int, 2) := by decide +kernel
theorem px_d10_307 : decode prog_15_method_17_code 307 = .ok (.putfield 212, 3) := by decide +kernel
theorem px_d10_310 : decode prog_15_method_17_code 310 = .ok (.aload_n 0, 1) := by decide +kernel
theorem px_d10_311 : decode prog_15_method_17_code 311 = .ok (.bipush 12, 2) := by decide +kernel
theorem px_d10_313 : decode prog_15_method_17_code 313 = .ok (.newarray .int, 2) := by decide +kernel
theorem px_d10_315 : decode prog_15_method_17_code 315 = .ok (.putfield 215, 3) := by decide +kernel
theorem px_d10_318 : decode prog_15_method_17_code 318 = .ok (.aload_n 0, 1) := by decide +kernel
theorem px_d10_319 : decode prog_15_method_17_code 319 = .ok (.ldc 218, 2) := by decide +kernel
theorem px_d10_321 : decode prog_15_method_17_code 321 = .ok (.newarray .byte, 2) := by decide +kernel
theorem px_d10_323 : decode prog_15_method_17_code 323 = .ok (.putfield 219, 3) := by decide +kernel
theorem px_d10_326 : decode prog_15_method_17_code 326 = .ok (.aload_n 0, 1) := by decide +kernel
theorem px_d10_327 : decode prog_15_method_17_code 327 = .ok (.sipush 200, 3) := by decide +kernel
theorem px_d10_330 : decode prog_15_method_17_code 330 = .ok (.newarray .byte, 2) := by decide +kernel
theorem px_d10_332 : decode prog_15_method_17_code 332 = .ok (.putfield 222, 3) := by decide +kernel
theorem px_d10_335 : decode prog_15_method_17_code 335 = .ok (.aload_n 0, 1) := by decide +kernel
theorem px_d10_336 : decode prog_15_method_17_code 336 = .ok (.sipush 16384, 3) := by decide +kernel
theorem px_d10_339 : decode prog_15_method_17_code 339 = .ok (.newarray .byte, 2) := by decide +kernel
theorem px_d10_341 : decode prog_15_method_17_code 341 = .ok (.putfield 225, 3) := by decide +kernel
theorem px_d10_344 : decode prog_15_method_17_code 344 = .ok (.iconst 0, 1) := by decide +kernel
theorem px_d10_345 : decode prog_15_method_17_code 345 = .ok (.istore_n 1, 1) := by decide +kernel
theorem px_d10_346 : decode prog_15_method_17_code 346 = .ok (.iload_n 1, 1) := by decide +kernel
theorem px_d10_347 : decode prog_15_method_17_code 347 = .ok (.sipush 156, 3) := by decide +kernel
theorem px_d10_350 : decode prog_15_method_17_code 350 = .ok (.if_icmp .ge 22, 3) := by decide +kernel
theorem px_d10_353 : decode prog_15_method_17_code 353 = .ok (.aload_n 0, 1) := by decide +kernel
theorem px_d10_354 : decode prog_15_method_17_code 354 = .ok (.getfield 34, 3) := by decide +kernel
theorem px_d10_357 : decode prog_15_method_17_code 357 = .ok (.iload_n 1, 1) := by decide +kernel
theorem px_d10_358 : decode prog_15_method_17_code 358 = .ok (.new 8, 3) := by decide +kernel
theorem px_d10_361 : decode prog_15_method_17_code 361 = .ok (.dup, 1) := by decide +kernel
theorem px_d10_362 : decode prog_15_method_17_code 362 = .ok (.invokespecial 152, 3) := by decide +kernel
theorem px_d10_365 : decode prog_15_method_17_code 365 = .ok (.aastore, 1) := by decide +kernel
theorem px_d10_366 : decode prog_15_method_17_code 366 = .ok (.iinc 1 1, 3) := by decide +kernel
theorem px_d10_369 : decode prog_15_method_17_code 369 = .ok (.goto (-23), 3) := by decide +kernel
theorem px_d10_372 : decode prog_15_method_17_code 372 = .ok (.iconst 0, 1) := by decide +kernel
theorem px_d10_373 : decode prog_15_method_17_code 373 = .ok (.istore_n 1, 1) := by decide +kernel
theorem px_d10_374 : decode prog_15_method_17_code 374 = .ok (.iload_n 1, 1) := by decide +kernel
theorem px_d10_375 : decode prog_15_method_17_code 375 = .ok (.bipush 36, 2) := by decide +kernel
theorem px_d10_377 : decode prog_15_method_17_code 377 = .ok (.if_icmp .ge 22, 3) := by decide +kernel
theorem px_d10_380 : decode prog_15_method_17_code 380 = .ok (.aload_n 0, 1) := by decide +kernel
theorem px_d10_381 : decode prog_15_method_17_code 381 = .ok (.getfield 140, 3) := by decide +kernel
theorem px_d10_384 : decode prog_15_method_17_code 384 = .ok (.iload_n 1, 1) := by decide +kernel
theorem px_d10_385 : decode prog_15_method_17_code 385 = .ok (.new 8, 3) := by decide +kernel
theorem px_d10_388 : decode prog_15_method_17_code 388 = .ok (.dup, 1) := by decide +kernel
theorem px_d10_389 : decode prog_15_method_17_code 389 = .ok (.invokespecial 152, 3) := by decide +kernel
theorem px_d10_392 : decode prog_15_method_17_code 392 = .ok (.aastore, 1) := by decide +kernel
theorem px_d10_393 : decode prog_15_method_17_code 393 = .ok (.iinc 1 1, 3) := by decide +kernel
theorem px_d10_396 : decode prog_15_method_17_code 396 = .ok (.goto (-22), 3) := by decide +kernel
theorem px_d10_399 : decode prog_15_method_17_code 399 = .ok (.iconst 0, 1) := by decide +kernel
theorem px_d10_400 : decode prog_15_method_17_code 400 = .ok (.istore_n 1, 1) := by decide +kernel
theorem px_d10_401 : decode prog_15_method_17_code 401 = .ok (.iconst 0, 1) := by decide +kernel
theorem px_d10_402 : decode prog_15_method_17_code 402 = .ok (.istore_n 2, 1) := by decide +kernel
theorem px_d10_403 : decode prog_15_method_17_code 403 = .ok (.iload_n 2, 1) := by decide +kernel
theorem px_d10_404 : decode prog_15_method_17_code 404 = .ok (.bipush 12, 2) := by decide +kernel
theorem px_d10_406 : decode prog_15_method_17_code 406 = .ok (.if_icmp .gt 18, 3) := by decide +kernel
theorem px_d10_409 : decode prog_15_method_17_code 409 = .ok (.aload_n 0, 1) := by decide +kernel
theorem px_d10_410 : decode prog_15_method_17_code 410 = .ok (.iload_n 2, 1) := by decide +kernel
theorem px_d10_411 : decode prog_15_method_17_code 411 = .ok (.iconst 0, 1) := by decide +kernel
theorem px_d10_412 : decode prog_15_method_17_code 412 = .ok (.iconst 0, 1) := by decide +kernel
theorem px_d10_413 : decode prog_15_method_17_code 413 = .ok (.iload_n 1, 1) := by decide +kernel
theorem px_d10_414 : decode prog_15_method_17_code 414 = .ok (.invokevirtual 228, 3) := by decide +kernel
theorem px_d10_417 : decode prog_15_method_17_code 417 = .ok (.istore_n 1, 1) := by decide +kernel
theorem px_d10_418 : decode prog_15_method_17_code 418 = .ok (.iinc 2 1, 3) := by decide +kernel
theorem px_d10_421 : decode prog_15_method_17_code 421 = .ok (.goto (-18), 3) := by decide +kernel
theorem px_d10_424 : decode prog_15_method_17_code 424 = .ok (.return_, 1) := by decide +kernel
theorem px_d11_0 : decode prog_1_method_26_code 0 = .ok (.bipush 24, 2) := by decide +kernel
theorem px_d11_2 : decode prog_1_method_26_code 2 = .ok (.istore_n 2, 1) := by decide +kernel
theorem px_d11_3 : decode prog_1_method_26_code 3 = .ok (.iload_n 2, 1) := by decide +kernel
theorem px_d11_4 : decode prog_1_method_26_code 4 = .ok (.ifCond .lt 32, 3) := by decide +kernel
theorem px_d11_7 : decode prog_1_method_26_code 7 = .ok (.aload_n 0, 1) := by decide +kernel
theorem px_d11_8 : decode prog_1_method_26_code 8 = .ok (.getfield 7, 3) := by decide +kernel
theorem px_d11_11 : decode prog_1_method_26_code 11 = .ok (.aload_n 0, 1) := by decide +kernel
theorem px_d11_12 : decode prog_1_method_26_code 12 = .ok (.getfield 13, 3) := by decide +kernel
theorem px_d11_15 : decode prog_1_method_26_code 15 = .ok (.iload_n 1, 1) := by decide +kernel
theorem px_d11_16 : decode prog_1_method_26_code 16 = .ok (.iload_n 2, 1) := by decide +kernel
theorem px_d11_17 : decode prog_1_method_26_code 17 = .ok (.ishr, 1) := by decide +kernel
theorem px_d11_18 : decode prog_1_method_26_code 18 = .ok (.i2b, 1) := by decide +kernel
theorem px_d11_19 : decode prog_1_method_26_code 19 = .ok (.bastore, 1) := by decide +kernel
theorem px_d11_20 : decode prog_1_method_26_code 20 = .ok (.aload_n 0, 1) := by decide +kernel
theorem px_d11_21 : decode prog_1_method_26_code 21 = .ok (.dup, 1) := by decide +kernel
theorem px_d11_22 : decode prog_1_method_26_code 22 = .ok (.getfield 13, 3) := by decide +kernel
theorem px_d11_25 : decode prog_1_method_26_code 25 = .ok (.iconst 1, 1) := by decide +kernel
theorem px_d11_26 : decode prog_1_method_26_code 26 = .ok (.iadd, 1) := by decide +kernel
theorem px_d11_27 : decode prog_1_method_26_code 27 = .ok (.putfield 13, 3) := by decide +kernel
theorem px_d11_30 : decode prog_1_method_26_code 30 = .ok (.iinc 2 (-8), 3) := by decide +kernel
theorem px_d11_33 : decode prog_1_method_26_code 33 = .ok (.goto (-30), 3) := by decide +kernel
theorem px_d11_36 : decode prog_1_method_26_code 36 = .ok (.return_, 1) := by decide +kernel
theorem px_d12_0 : decode prog_1_method_2_code 0 = .ok (.aload_n 0, 1) := by decide +kernel
theorem px_d12_1 : decode prog_1_method_2_code 1 = .ok (.getfield 13, 3) := by decide +kernel
theorem px_d12_4 : decode prog_1_method_2_code 4 = .ok (.bipush 20, 2) := by decide +kernel
theorem px_d12_6 : decode prog_1_method_2_code 6 = .ok (.iadd, 1) := by decide +kernel
theorem px_d12_7 : decode prog_1_method_2_code 7 = .ok (.sipush 16384, 3) := by decide +kernel
theorem px_d12_10 : decode prog_1_method_2_code 10 = .ok (.if_icmp .le 13, 3) := by decide +kernel
theorem px_d12_23 : decode prog_1_method_2_code 23 = .ok (.aload_n 0, 1) := by decide +kernel
theorem px_d12_24 : decode prog_1_method_2_code 24 = .ok (.getfield 13, 3) := by decide +kernel
theorem px_d12_27 : decode prog_1_method_2_code 27 = .ok (.bipush 20, 2) := by decide +kernel
theorem px_d12_29 : decode prog_1_method_2_code 29 = .ok (.iadd, 1) := by decide +kernel
theorem px_d12_30 : decode prog_1_method_2_code 30 = .ok (.aload_n 0, 1) := by decide +kernel
theorem px_d12_31 : decode prog_1_method_2_code 31 = .ok (.getfield 7, 3) := by decide +kernel
theorem px_d12_34 : decode prog_1_method_2_code 34 = .ok (.arraylength, 1) := by decide +kernel
theorem px_d12_35 : decode prog_1_method_2_code 35 = .ok (.if_icmp .le 21, 3) := by decide +kernel
theorem px_d12_56 : decode prog_1_method_2_code 56 = .ok (.aload_n 0, 1) := by decide +kernel
theorem px_d12_57 : decode prog_1_method_2_code 57 = .ok (.iload_n 1, 1) := by decide +kernel
theorem px_d12_58 : decode prog_1_method_2_code 58 = .ok (.invokevirtual 99, 3) := by decide +kernel
theorem px_d12_61 : decode prog_1_method_2_code 61 = .ok (.aload_n 0, 1) := by decide +kernel
theorem px_d12_62 : decode prog_1_method_2_code 62 = .ok (.iload_n 2, 1) := by decide +kernel
theorem px_d12_63 : decode prog_1_method_2_code 63 = .ok (.invokevirtual 99, 3) := by decide +kernel
theorem px_d12_66 : decode prog_1_method_2_code 66 = .ok (.aload_n 0, 1) := by decide +kernel
theorem px_d12_67 : decode prog_1_method_2_code 67 = .ok (.iload_n 3, 1) := by decide +kernel
theorem px_d12_68 : decode prog_1_method_2_code 68 = .ok (.invokevirtual 99, 3) := by decide +kernel
theorem px_d12_71 : decode prog_1_method_2_code 71 = .ok (.aload_n 0, 1) := by decide +kernel
theorem px_d12_72 : decode prog_1_method_2_code 72 = .ok (.iload 4, 2) := by decide +kernel
theorem px_d12_74 : decode prog_1_method_2_code 74 = .ok (.invokevirtual 99, 3) := by decide +kernel
theorem px_d12_77 : decode prog_1_method_2_code 77 = .ok (.aload_n 0, 1) := by decide +kernel
theorem px_d12_78 : decode prog_1_method_2_code 78 = .ok (.iload 5, 2) := by decide +kernel
theorem px_d12_80 : decode prog_1_method_2_code 80 = .ok (.invokevirtual 99, 3) := by decide +kernel
theorem px_d12_83 : decode prog_1_method_2_code 83 = .ok (.return_, 1) := by decide +kernel
theorem px_d13_0 : decode prog_1_method_3_code 0 = .ok (.iload_n 1, 1) := by decide +kernel
theorem px_d13_1 : decode prog_1_method_3_code 1 = .ok (.ifCond .lt 11, 3) := by decide +kernel
theorem px_d13_4 : decode prog_1_method_3_code 4 = .ok (.iload_n 1, 1) := by decide +kernel
theorem px_d13_5 : decode prog_1_method_3_code 5 = .ok (.aload_n 0, 1) := by decide +kernel
theorem px_d13_6 : decode prog_1_method_3_code 6 = .ok (.getfield 13, 3) := by decide +kernel
theorem px_d13_9 : decode prog_1_method_3_code 9 = .ok (.if_icmp .le 13, 3) := by decide +kernel
theorem px_d13_22 : decode prog_1_method_3_code 22 = .ok (.aload_n 0, 1) := by decide +kernel
theorem px_d13_23 : decode prog_1_method_3_code 23 = .ok (.getfield 13, 3) := by decide +kernel
theorem px_d13_26 : decode prog_1_method_3_code 26 = .ok (.istore_n 2, 1) := by decide +kernel
theorem px_d13_27 : decode prog_1_method_3_code 27 = .ok (.aload_n 0, 1) := by decide +kernel
theorem px_d13_28 : decode prog_1_method_3_code 28 = .ok (.iload_n 1, 1) := by decide +kernel
theorem px_d13_29 : decode prog_1_method_3_code 29 = .ok (.putfield 13, 3) := by decide +kernel
theorem px_d13_32 : decode prog_1_method_3_code 32 = .ok (.iload_n 2, 1) := by decide +kernel
theorem px_d13_33 : decode prog_1_method_3_code 33 = .ok (.ireturn, 1) := by decide +kernel
theorem px_d14_0 : decode prog_10_method_6_code 0 = .ok (.iconst 0, 1) := by decide +kernel
theorem px_d14_1 : decode prog_10_method_6_code 1 = .ok (.istore_n 1, 1) := by decide +kernel
theorem px_d14_2 : decode prog_10_method_6_code 2 = .ok (.aload_n 0, 1) := by decide +kernel
theorem px_d14_3 : decode prog_10_method_6_code 3 = .ok (.getfield 19, 3) := by decide +kernel
theorem px_d14_6 : decode prog_10_method_6_code 6 = .ok (.aload_n 0, 1) := by decide +kernel
theorem px_d14_7 : decode prog_10_method_6_code 7 = .ok (.getfield 15, 3) := by decide +kernel
theorem px_d14_10 : decode prog_10_method_6_code 10 = .ok (.if_icmp .ge 77, 3) := by decide +kernel
theorem px_d14_87 : decode prog_10_method_6_code 87 = .ok (.return_, 1) := by decide +kernel
theorem px_d15_0 : decode prog_10_method_3_code 0 = .ok (.aload_n 0, 1) := by decide +kernel
theorem px_d15_1 : decode prog_10_method_3_code 1 = .ok (.invokevirtual 25, 3) := by decide +kernel
theorem px_d15_4 : decode prog_10_method_3_code 4 = .ok (.aload_n 0, 1) := by decide +kernel
theorem px_d15_5 : decode prog_10_method_3_code 5 = .ok (.aload_n 0, 1) := by decide +kernel
theorem px_d15_6 : decode prog_10_method_3_code 6 = .ok (.getfield 19, 3) := by decide +kernel
theorem px_d15_9 : decode prog_10_method_3_code 9 = .ok (.putfield 28, 3) := by decide +kernel
theorem px_d15_12 : decode prog_10_method_3_code 12 = .ok (.aload_n 0, 1) := by decide +kernel
theorem px_d15_13 : decode prog_10_method_3_code 13 = .ok (.getfield 19, 3) := by decide +kernel
theorem px_d15_16 : decode prog_10_method_3_code 16 = .ok (.aload_n 0, 1) := by decide +kernel
theorem px_d15_17 : decode prog_10_method_3_code 17 = .ok (.getfield 15, 3) := by decide +kernel
theorem px_d15_20 : decode prog_10_method_3_code 20 = .ok (.if_icmp .lt 9, 3) := by decide +kernel
theorem px_d15_23 : decode prog_10_method_3_code 23 = .ok (.aload_n 0, 1) := by decide +kernel
theorem px_d15_24 : decode prog_10_method_3_code 24 = .ok (.iconst 0, 1) := by decide +kernel
theorem px_d15_25 : decode prog_10_method_3_code 25 = .ok (.putfield 31, 3) := by decide +kernel
theorem px_d15_28 : decode prog_10_method_3_code 28 = .ok (.return_, 1) := by decide +kernel
theorem px_d16_0 : decode prog_10_method_2_code 0 = .ok (.aload_n 0, 1) := by decide +kernel
theorem px_d16_1 : decode prog_10_method_2_code 1 = .ok (.aload_n 1, 1) := by decide +kernel
theorem px_d16_2 : decode prog_10_method_2_code 2 = .ok (.putfield 9, 3) := by decide +kernel
theorem px_d16_5 : decode prog_10_method_2_code 5 = .ok (.aload_n 0, 1) := by decide +kernel
theorem px_d16_6 : decode prog_10_method_2_code 6 = .ok (.iload_n 2, 1) := by decide +kernel
theorem px_d16_7 : decode prog_10_method_2_code 7 = .ok (.putfield 15, 3) := by decide +kernel
theorem px_d16_10 : decode prog_10_method_2_code 10 = .ok (.aload_n 0, 1) := by decide +kernel
theorem px_d16_11 : decode prog_10_method_2_code 11 = .ok (.iconst 0, 1) := by decide +kernel
theorem px_d16_12 : decode prog_10_method_2_code 12 = .ok (.putfield 19, 3) := by decide +kernel
theorem px_d16_15 : decode prog_10_method_2_code 15 = .ok (.aload_n 0, 1) := by decide +kernel
theorem px_d16_16 : decode prog_10_method_2_code 16 = .ok (.invokevirtual 22, 3) := by decide +kernel
theorem px_d16_19 : decode prog_10_method_2_code 19 = .ok (.return_, 1) := by decide +kernel
theorem px_d17_0 : decode prog_7_method_2_code 0 = .ok (.aload_n 0, 1) := by decide +kernel
theorem px_d17_1 : decode prog_7_method_2_code 1 = .ok (.iload_n 1, 1) := by decide +kernel
theorem px_d17_2 : decode prog_7_method_2_code 2 = .ok (.putfield 18, 3) := by decide +kernel
theorem px_d17_5 : decode prog_7_method_2_code 5 = .ok (.aload_n 0, 1) := by decide +kernel
theorem px_d17_6 : decode prog_7_method_2_code 6 = .ok (.iconst 0, 1) := by decide +kernel
theorem px_d17_7 : decode prog_7_method_2_code 7 = .ok (.putfield 22, 3) := by decide +kernel
theorem px_d17_10 : decode prog_7_method_2_code 10 = .ok (.return_, 1) := by decide +kernel
theorem px_d18_0 : decode prog_1_method_27_code 0 = .ok (.aload_n 0, 1) := by decide +kernel
theorem px_d18_1 : decode prog_1_method_27_code 1 = .ok (.getfield 66, 3) := by decide +kernel
theorem px_d18_4 : decode prog_1_method_27_code 4 = .ok (.aload_n 0, 1) := by decide +kernel
theorem px_d18_5 : decode prog_1_method_27_code 5 = .ok (.getfield 7, 3) := by decide +kernel
theorem px_d18_8 : decode prog_1_method_27_code 8 = .ok (.iload_n 1, 1) := by decide +kernel
theorem px_d18_9 : decode prog_1_method_27_code 9 = .ok (.invokevirtual 118, 3) := by decide +kernel
theorem px_d18_12 : decode prog_1_method_27_code 12 = .ok (.iconst 0, 1) := by decide +kernel
theorem px_d18_13 : decode prog_1_method_27_code 13 = .ok (.istore_n 2, 1) := by decide +kernel
theorem px_d18_14 : decode prog_1_method_27_code 14 = .ok (.iload_n 2, 1) := by decide +kernel
theorem px_d18_15 : decode prog_1_method_27_code 15 = .ok (.sipush 400, 3) := by decide +kernel
theorem px_d18_18 : decode prog_1_method_27_code 18 = .ok (.if_icmp .ge 31, 3) := by decide +kernel
theorem px_d18_21 : decode prog_1_method_27_code 21 = .ok (.aload_n 0, 1) := by decide +kernel
theorem px_d18_22 : decode prog_1_method_27_code 22 = .ok (.getfield 66, 3) := by decide +kernel
theorem px_d18_25 : decode prog_1_method_27_code 25 = .ok (.getfield 122, 3) := by decide +kernel
theorem px_d18_28 : decode prog_1_method_27_code 28 = .ok (.ifCond .eq 21, 3) := by decide +kernel
theorem px_d18_49 : decode prog_1_method_27_code 49 = .ok (.aload_n 0, 1) := by decide +kernel
theorem px_d18_50 : decode prog_1_method_27_code 50 = .ok (.getfield 66, 3) := by decide +kernel
theorem px_d18_53 : decode prog_1_method_27_code 53 = .ok (.getfield 122, 3) := by decide +kernel
theorem px_d18_56 : decode prog_1_method_27_code 56 = .ok (.ifCond .ne 7, 3) := by decide +kernel
