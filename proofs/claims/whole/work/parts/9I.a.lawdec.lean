theorem px_dL_0 : decode code 0 = .ok (.new 8, 3) := by decide +kernel
theorem px_dL_3 : decode code 3 = .ok (.dup, 1) := by decide +kernel
theorem px_dL_4 : decode code 4 = .ok (.invokespecial 21, 3) := by decide +kernel
theorem px_dL_7 : decode code 7 = .ok (.astore_n 1, 1) := by decide +kernel
theorem px_dL_8 : decode code 8 = .ok (.new 22, 3) := by decide +kernel
theorem px_dL_11 : decode code 11 = .ok (.dup, 1) := by decide +kernel
theorem px_dL_12 : decode code 12 = .ok (.invokespecial 24, 3) := by decide +kernel
theorem px_dL_15 : decode code 15 = .ok (.astore_n 2, 1) := by decide +kernel
theorem px_dL_16 : decode code 16 = .ok (.iconst 1, 1) := by decide +kernel
theorem px_dL_17 : decode code 17 = .ok (.newarray .long, 2) := by decide +kernel
theorem px_dL_19 : decode code 19 = .ok (.astore_n 3, 1) := by decide +kernel
theorem px_dL_20 : decode code 20 = .ok (.iconst 0, 1) := by decide +kernel
theorem px_dL_21 : decode code 21 = .ok (.istore 4, 2) := by decide +kernel
theorem px_dL_23 : decode code 23 = .ok (.iload 4, 2) := by decide +kernel
theorem px_dL_25 : decode code 25 = .ok (.aload_n 0, 1) := by decide +kernel
theorem px_dL_26 : decode code 26 = .ok (.arraylength, 1) := by decide +kernel
theorem px_dL_27 : decode code 27 = .ok (.bipush 6, 2) := by decide +kernel
theorem px_dL_29 : decode code 29 = .ok (.isub, 1) := by decide +kernel
theorem px_dL_30 : decode code 30 = .ok (.if_icmp .gt 893, 3) := by decide +kernel
theorem px_dL_33 : decode code 33 = .ok (.aload_n 0, 1) := by decide +kernel
theorem px_dL_34 : decode code 34 = .ok (.iload 4, 2) := by decide +kernel
theorem px_dL_36 : decode code 36 = .ok (.iaload, 1) := by decide +kernel
theorem px_dL_37 : decode code 37 = .ok (.bipush 31, 2) := by decide +kernel
theorem px_dL_39 : decode code 39 = .ok (.iand, 1) := by decide +kernel
theorem px_dL_40 : decode code 40 = .ok (.tableswitch 877 0 21 #[104, 188, 244, 257, 270, 283, 296, 321, 346, 371, 408, 445, 494, 544, 581, 606, 643, 680, 717, 754, 791, 828], 104) := by decide +kernel
theorem px_dL_144 : decode code 144 = .ok (.aload_n 1, 1) := by decide +kernel
theorem px_dL_145 : decode code 145 = .ok (.aload_n 0, 1) := by decide +kernel
theorem px_dL_146 : decode code 146 = .ok (.iload 4, 2) := by decide +kernel
theorem px_dL_148 : decode code 148 = .ok (.iconst 1, 1) := by decide +kernel
theorem px_dL_149 : decode code 149 = .ok (.iadd, 1) := by decide +kernel
theorem px_dL_150 : decode code 150 = .ok (.iaload, 1) := by decide +kernel
theorem px_dL_151 : decode code 151 = .ok (.aload_n 0, 1) := by decide +kernel
theorem px_dL_152 : decode code 152 = .ok (.iload 4, 2) := by decide +kernel
theorem px_dL_154 : decode code 154 = .ok (.iconst 2, 1) := by decide +kernel
theorem px_dL_155 : decode code 155 = .ok (.iadd, 1) := by decide +kernel
theorem px_dL_156 : decode code 156 = .ok (.iaload, 1) := by decide +kernel
theorem px_dL_157 : decode code 157 = .ok (.aload_n 0, 1) := by decide +kernel
theorem px_dL_158 : decode code 158 = .ok (.iload 4, 2) := by decide +kernel
theorem px_dL_160 : decode code 160 = .ok (.iconst 3, 1) := by decide +kernel
theorem px_dL_161 : decode code 161 = .ok (.iadd, 1) := by decide +kernel
theorem px_dL_162 : decode code 162 = .ok (.iaload, 1) := by decide +kernel
theorem px_dL_163 : decode code 163 = .ok (.aload_n 0, 1) := by decide +kernel
theorem px_dL_164 : decode code 164 = .ok (.iload 4, 2) := by decide +kernel
theorem px_dL_166 : decode code 166 = .ok (.iconst 4, 1) := by decide +kernel
theorem px_dL_167 : decode code 167 = .ok (.iadd, 1) := by decide +kernel
theorem px_dL_168 : decode code 168 = .ok (.iaload, 1) := by decide +kernel
theorem px_dL_169 : decode code 169 = .ok (.aload_n 0, 1) := by decide +kernel
theorem px_dL_170 : decode code 170 = .ok (.iload 4, 2) := by decide +kernel
theorem px_dL_172 : decode code 172 = .ok (.iconst 5, 1) := by decide +kernel
theorem px_dL_173 : decode code 173 = .ok (.iadd, 1) := by decide +kernel
theorem px_dL_174 : decode code 174 = .ok (.iaload, 1) := by decide +kernel
theorem px_dL_175 : decode code 175 = .ok (.invokestatic 25, 3) := by decide +kernel
theorem px_dL_178 : decode code 178 = .ok (.istore 5, 2) := by decide +kernel
theorem px_dL_180 : decode code 180 = .ok (.aload_n 2, 1) := by decide +kernel
theorem px_dL_181 : decode code 181 = .ok (.aload_n 0, 1) := by decide +kernel
theorem px_dL_182 : decode code 182 = .ok (.iload 4, 2) := by decide +kernel
theorem px_dL_184 : decode code 184 = .ok (.iconst 1, 1) := by decide +kernel
theorem px_dL_185 : decode code 185 = .ok (.iadd, 1) := by decide +kernel
theorem px_dL_186 : decode code 186 = .ok (.iaload, 1) := by decide +kernel
theorem px_dL_187 : decode code 187 = .ok (.aload_n 0, 1) := by decide +kernel
theorem px_dL_188 : decode code 188 = .ok (.iload 4, 2) := by decide +kernel
theorem px_dL_190 : decode code 190 = .ok (.iconst 2, 1) := by decide +kernel
theorem px_dL_191 : decode code 191 = .ok (.iadd, 1) := by decide +kernel
theorem px_dL_192 : decode code 192 = .ok (.iaload, 1) := by decide +kernel
theorem px_dL_193 : decode code 193 = .ok (.aload_n 0, 1) := by decide +kernel
theorem px_dL_194 : decode code 194 = .ok (.iload 4, 2) := by decide +kernel
theorem px_dL_196 : decode code 196 = .ok (.iconst 3, 1) := by decide +kernel
theorem px_dL_197 : decode code 197 = .ok (.iadd, 1) := by decide +kernel
theorem px_dL_198 : decode code 198 = .ok (.iaload, 1) := by decide +kernel
theorem px_dL_199 : decode code 199 = .ok (.aload_n 0, 1) := by decide +kernel
theorem px_dL_200 : decode code 200 = .ok (.iload 4, 2) := by decide +kernel
theorem px_dL_202 : decode code 202 = .ok (.iconst 4, 1) := by decide +kernel
theorem px_dL_203 : decode code 203 = .ok (.iadd, 1) := by decide +kernel
theorem px_dL_204 : decode code 204 = .ok (.iaload, 1) := by decide +kernel
theorem px_dL_205 : decode code 205 = .ok (.aload_n 0, 1) := by decide +kernel
theorem px_dL_206 : decode code 206 = .ok (.iload 4, 2) := by decide +kernel
theorem px_dL_208 : decode code 208 = .ok (.iconst 5, 1) := by decide +kernel
theorem px_dL_209 : decode code 209 = .ok (.iadd, 1) := by decide +kernel
theorem px_dL_210 : decode code 210 = .ok (.iaload, 1) := by decide +kernel
theorem px_dL_211 : decode code 211 = .ok (.invokevirtual 30, 3) := by decide +kernel
theorem px_dL_214 : decode code 214 = .ok (.aload_n 2, 1) := by decide +kernel
theorem px_dL_215 : decode code 215 = .ok (.invokevirtual 31, 3) := by decide +kernel
theorem px_dL_218 : decode code 218 = .ok (.iload 5, 2) := by decide +kernel
theorem px_dL_220 : decode code 220 = .ok (.if_icmp .eq 5, 3) := by decide +kernel
theorem px_dL_225 : decode code 225 = .ok (.goto 692, 3) := by decide +kernel
theorem px_dL_228 : decode code 228 = .ok (.aload_n 1, 1) := by decide +kernel
theorem px_dL_229 : decode code 229 = .ok (.aload_n 0, 1) := by decide +kernel
theorem px_dL_230 : decode code 230 = .ok (.iload 4, 2) := by decide +kernel
theorem px_dL_232 : decode code 232 = .ok (.iconst 1, 1) := by decide +kernel
theorem px_dL_233 : decode code 233 = .ok (.iadd, 1) := by decide +kernel
theorem px_dL_234 : decode code 234 = .ok (.iaload, 1) := by decide +kernel
theorem px_dL_235 : decode code 235 = .ok (.aload_n 3, 1) := by decide +kernel
theorem px_dL_236 : decode code 236 = .ok (.invokestatic 35, 3) := by decide +kernel
theorem px_dL_239 : decode code 239 = .ok (.istore 5, 2) := by decide +kernel
theorem px_dL_241 : decode code 241 = .ok (.aload_n 2, 1) := by decide +kernel
theorem px_dL_242 : decode code 242 = .ok (.aload_n 0, 1) := by decide +kernel
theorem px_dL_243 : decode code 243 = .ok (.iload 4, 2) := by decide +kernel
theorem px_dL_245 : decode code 245 = .ok (.iconst 1, 1) := by decide +kernel
theorem px_dL_246 : decode code 246 = .ok (.iadd, 1) := by decide +kernel
theorem px_dL_247 : decode code 247 = .ok (.iaload, 1) := by decide +kernel
theorem px_dL_248 : decode code 248 = .ok (.invokevirtual 38, 3) := by decide +kernel
theorem px_dL_251 : decode code 251 = .ok (.istore 6, 2) := by decide +kernel
theorem px_dL_253 : decode code 253 = .ok (.aload_n 2, 1) := by decide +kernel
theorem px_dL_254 : decode code 254 = .ok (.invokevirtual 31, 3) := by decide +kernel
theorem px_dL_257 : decode code 257 = .ok (.iload 5, 2) := by decide +kernel
theorem px_dL_259 : decode code 259 = .ok (.if_icmp .eq 5, 3) := by decide +kernel
theorem px_dL_264 : decode code 264 = .ok (.iload 5, 2) := by decide +kernel
theorem px_dL_266 : decode code 266 = .ok (.ifCond .ne 15, 3) := by decide +kernel
theorem px_dL_269 : decode code 269 = .ok (.aload_n 3, 1) := by decide +kernel
theorem px_dL_270 : decode code 270 = .ok (.iconst 0, 1) := by decide +kernel
theorem px_dL_271 : decode code 271 = .ok (.laload, 1) := by decide +kernel
theorem px_dL_272 : decode code 272 = .ok (.iload 6, 2) := by decide +kernel
theorem px_dL_274 : decode code 274 = .ok (.i2l, 1) := by decide +kernel
theorem px_dL_275 : decode code 275 = .ok (.lcmp, 1) := by decide +kernel
theorem px_dL_276 : decode code 276 = .ok (.ifCond .eq 5, 3) := by decide +kernel
theorem px_dL_281 : decode code 281 = .ok (.goto 636, 3) := by decide +kernel
theorem px_dL_284 : decode code 284 = .ok (.aload_n 1, 1) := by decide +kernel
theorem px_dL_285 : decode code 285 = .ok (.invokevirtual 39, 3) := by decide +kernel
theorem px_dL_288 : decode code 288 = .ok (.aload_n 2, 1) := by decide +kernel
theorem px_dL_289 : decode code 289 = .ok (.invokevirtual 42, 3) := by decide +kernel
theorem px_dL_292 : decode code 292 = .ok (.if_icmp .eq 625, 3) := by decide +kernel
theorem px_dL_297 : decode code 297 = .ok (.aload_n 1, 1) := by decide +kernel
theorem px_dL_298 : decode code 298 = .ok (.invokevirtual 43, 3) := by decide +kernel
theorem px_dL_301 : decode code 301 = .ok (.aload_n 2, 1) := by decide +kernel
theorem px_dL_302 : decode code 302 = .ok (.invokevirtual 46, 3) := by decide +kernel
theorem px_dL_305 : decode code 305 = .ok (.if_icmp .eq 612, 3) := by decide +kernel
theorem px_dL_310 : decode code 310 = .ok (.aload_n 1, 1) := by decide +kernel
theorem px_dL_311 : decode code 311 = .ok (.invokevirtual 47, 3) := by decide +kernel
theorem px_dL_314 : decode code 314 = .ok (.aload_n 2, 1) := by decide +kernel
theorem px_dL_315 : decode code 315 = .ok (.invokevirtual 50, 3) := by decide +kernel
theorem px_dL_318 : decode code 318 = .ok (.if_icmp .eq 599, 3) := by decide +kernel
theorem px_dL_323 : decode code 323 = .ok (.aload_n 1, 1) := by decide +kernel
theorem px_dL_324 : decode code 324 = .ok (.invokevirtual 51, 3) := by decide +kernel
theorem px_dL_327 : decode code 327 = .ok (.aload_n 2, 1) := by decide +kernel
theorem px_dL_328 : decode code 328 = .ok (.invokevirtual 54, 3) := by decide +kernel
theorem px_dL_331 : decode code 331 = .ok (.if_icmp .eq 586, 3) := by decide +kernel
theorem px_dL_336 : decode code 336 = .ok (.aload_n 1, 1) := by decide +kernel
theorem px_dL_337 : decode code 337 = .ok (.aload_n 0, 1) := by decide +kernel
theorem px_dL_338 : decode code 338 = .ok (.iload 4, 2) := by decide +kernel
theorem px_dL_340 : decode code 340 = .ok (.iconst 1, 1) := by decide +kernel
theorem px_dL_341 : decode code 341 = .ok (.iadd, 1) := by decide +kernel
theorem px_dL_342 : decode code 342 = .ok (.iaload, 1) := by decide +kernel
theorem px_dL_343 : decode code 343 = .ok (.invokevirtual 55, 3) := by decide +kernel
theorem px_dL_346 : decode code 346 = .ok (.aload_n 2, 1) := by decide +kernel
theorem px_dL_347 : decode code 347 = .ok (.aload_n 0, 1) := by decide +kernel
theorem px_dL_348 : decode code 348 = .ok (.iload 4, 2) := by decide +kernel
theorem px_dL_350 : decode code 350 = .ok (.iconst 1, 1) := by decide +kernel
theorem px_dL_351 : decode code 351 = .ok (.iadd, 1) := by decide +kernel
theorem px_dL_352 : decode code 352 = .ok (.iaload, 1) := by decide +kernel
theorem px_dL_353 : decode code 353 = .ok (.invokevirtual 58, 3) := by decide +kernel
theorem px_dL_356 : decode code 356 = .ok (.if_icmp .eq 561, 3) := by decide +kernel
theorem px_dL_361 : decode code 361 = .ok (.aload_n 1, 1) := by decide +kernel
theorem px_dL_362 : decode code 362 = .ok (.aload_n 0, 1) := by decide +kernel
theorem px_dL_363 : decode code 363 = .ok (.iload 4, 2) := by decide +kernel
theorem px_dL_365 : decode code 365 = .ok (.iconst 1, 1) := by decide +kernel
theorem px_dL_366 : decode code 366 = .ok (.iadd, 1) := by decide +kernel
theorem px_dL_367 : decode code 367 = .ok (.iaload, 1) := by decide +kernel
theorem px_dL_368 : decode code 368 = .ok (.invokevirtual 59, 3) := by decide +kernel
theorem px_dL_371 : decode code 371 = .ok (.aload_n 2, 1) := by decide +kernel
theorem px_dL_372 : decode code 372 = .ok (.aload_n 0, 1) := by decide +kernel
theorem px_dL_373 : decode code 373 = .ok (.iload 4, 2) := by decide +kernel
theorem px_dL_375 : decode code 375 = .ok (.iconst 1, 1) := by decide +kernel
theorem px_dL_376 : decode code 376 = .ok (.iadd, 1) := by decide +kernel
theorem px_dL_377 : decode code 377 = .ok (.iaload, 1) := by decide +kernel
theorem px_dL_378 : decode code 378 = .ok (.invokevirtual 62, 3) := by decide +kernel
theorem px_dL_381 : decode code 381 = .ok (.if_icmp .eq 536, 3) := by decide +kernel
theorem px_dL_386 : decode code 386 = .ok (.aload_n 1, 1) := by decide +kernel
theorem px_dL_387 : decode code 387 = .ok (.aload_n 0, 1) := by decide +kernel
theorem px_dL_388 : decode code 388 = .ok (.iload 4, 2) := by decide +kernel
theorem px_dL_390 : decode code 390 = .ok (.iconst 1, 1) := by decide +kernel
theorem px_dL_391 : decode code 391 = .ok (.iadd, 1) := by decide +kernel
theorem px_dL_392 : decode code 392 = .ok (.iaload, 1) := by decide +kernel
theorem px_dL_393 : decode code 393 = .ok (.invokevirtual 63, 3) := by decide +kernel
theorem px_dL_396 : decode code 396 = .ok (.aload_n 2, 1) := by decide +kernel
theorem px_dL_397 : decode code 397 = .ok (.aload_n 0, 1) := by decide +kernel
theorem px_dL_398 : decode code 398 = .ok (.iload 4, 2) := by decide +kernel
theorem px_dL_400 : decode code 400 = .ok (.iconst 1, 1) := by decide +kernel
theorem px_dL_401 : decode code 401 = .ok (.iadd, 1) := by decide +kernel
theorem px_dL_402 : decode code 402 = .ok (.iaload, 1) := by decide +kernel
theorem px_dL_403 : decode code 403 = .ok (.invokevirtual 66, 3) := by decide +kernel
theorem px_dL_406 : decode code 406 = .ok (.if_icmp .eq 511, 3) := by decide +kernel
theorem px_dL_411 : decode code 411 = .ok (.aload_n 1, 1) := by decide +kernel
theorem px_dL_412 : decode code 412 = .ok (.aload_n 0, 1) := by decide +kernel
theorem px_dL_413 : decode code 413 = .ok (.iload 4, 2) := by decide +kernel
theorem px_dL_415 : decode code 415 = .ok (.iconst 1, 1) := by decide +kernel
theorem px_dL_416 : decode code 416 = .ok (.iadd, 1) := by decide +kernel
theorem px_dL_417 : decode code 417 = .ok (.iaload, 1) := by decide +kernel
theorem px_dL_418 : decode code 418 = .ok (.aload_n 0, 1) := by decide +kernel
theorem px_dL_419 : decode code 419 = .ok (.iload 4, 2) := by decide +kernel
theorem px_dL_421 : decode code 421 = .ok (.iconst 2, 1) := by decide +kernel
theorem px_dL_422 : decode code 422 = .ok (.iadd, 1) := by decide +kernel
theorem px_dL_423 : decode code 423 = .ok (.iaload, 1) := by decide +kernel
theorem px_dL_424 : decode code 424 = .ok (.invokevirtual 67, 3) := by decide +kernel
theorem px_dL_427 : decode code 427 = .ok (.aload_n 2, 1) := by decide +kernel
theorem px_dL_428 : decode code 428 = .ok (.aload_n 0, 1) := by decide +kernel
theorem px_dL_429 : decode code 429 = .ok (.iload 4, 2) := by decide +kernel
theorem px_dL_431 : decode code 431 = .ok (.iconst 1, 1) := by decide +kernel
theorem px_dL_432 : decode code 432 = .ok (.iadd, 1) := by decide +kernel
theorem px_dL_433 : decode code 433 = .ok (.iaload, 1) := by decide +kernel
theorem px_dL_434 : decode code 434 = .ok (.aload_n 0, 1) := by decide +kernel
theorem px_dL_435 : decode code 435 = .ok (.iload 4, 2) := by decide +kernel
theorem px_dL_437 : decode code 437 = .ok (.iconst 2, 1) := by decide +kernel
theorem px_dL_438 : decode code 438 = .ok (.iadd, 1) := by decide +kernel
theorem px_dL_439 : decode code 439 = .ok (.iaload, 1) := by decide +kernel
theorem px_dL_440 : decode code 440 = .ok (.invokevirtual 71, 3) := by decide +kernel
theorem px_dL_443 : decode code 443 = .ok (.if_icmp .eq 474, 3) := by decide +kernel
theorem px_dL_448 : decode code 448 = .ok (.aload_n 1, 1) := by decide +kernel
theorem px_dL_449 : decode code 449 = .ok (.aload_n 0, 1) := by decide +kernel
theorem px_dL_450 : decode code 450 = .ok (.iload 4, 2) := by decide +kernel
theorem px_dL_452 : decode code 452 = .ok (.iconst 1, 1) := by decide +kernel
theorem px_dL_453 : decode code 453 = .ok (.iadd, 1) := by decide +kernel
theorem px_dL_454 : decode code 454 = .ok (.iaload, 1) := by decide +kernel
theorem px_dL_455 : decode code 455 = .ok (.aload_n 0, 1) := by decide +kernel
theorem px_dL_456 : decode code 456 = .ok (.iload 4, 2) := by decide +kernel
theorem px_dL_458 : decode code 458 = .ok (.iconst 2, 1) := by decide +kernel
theorem px_dL_459 : decode code 459 = .ok (.iadd, 1) := by decide +kernel
theorem px_dL_460 : decode code 460 = .ok (.iaload, 1) := by decide +kernel
theorem px_dL_461 : decode code 461 = .ok (.invokevirtual 72, 3) := by decide +kernel
theorem px_dL_464 : decode code 464 = .ok (.aload_n 2, 1) := by decide +kernel
theorem px_dL_465 : decode code 465 = .ok (.aload_n 0, 1) := by decide +kernel
theorem px_dL_466 : decode code 466 = .ok (.iload 4, 2) := by decide +kernel
theorem px_dL_468 : decode code 468 = .ok (.iconst 1, 1) := by decide +kernel
theorem px_dL_469 : decode code 469 = .ok (.iadd, 1) := by decide +kernel
theorem px_dL_470 : decode code 470 = .ok (.iaload, 1) := by decide +kernel
theorem px_dL_471 : decode code 471 = .ok (.aload_n 0, 1) := by decide +kernel
theorem px_dL_472 : decode code 472 = .ok (.iload 4, 2) := by decide +kernel
theorem px_dL_474 : decode code 474 = .ok (.iconst 2, 1) := by decide +kernel
theorem px_dL_475 : decode code 475 = .ok (.iadd, 1) := by decide +kernel
theorem px_dL_476 : decode code 476 = .ok (.iaload, 1) := by decide +kernel
theorem px_dL_477 : decode code 477 = .ok (.invokevirtual 75, 3) := by decide +kernel
theorem px_dL_480 : decode code 480 = .ok (.if_icmp .eq 437, 3) := by decide +kernel
theorem px_dL_485 : decode code 485 = .ok (.aload_n 1, 1) := by decide +kernel
theorem px_dL_486 : decode code 486 = .ok (.aload_n 0, 1) := by decide +kernel
theorem px_dL_487 : decode code 487 = .ok (.iload 4, 2) := by decide +kernel
theorem px_dL_489 : decode code 489 = .ok (.iconst 1, 1) := by decide +kernel
theorem px_dL_490 : decode code 490 = .ok (.iadd, 1) := by decide +kernel
theorem px_dL_491 : decode code 491 = .ok (.iaload, 1) := by decide +kernel
theorem px_dL_492 : decode code 492 = .ok (.aload_n 0, 1) := by decide +kernel
theorem px_dL_493 : decode code 493 = .ok (.iload 4, 2) := by decide +kernel
theorem px_dL_495 : decode code 495 = .ok (.iconst 2, 1) := by decide +kernel
theorem px_dL_496 : decode code 496 = .ok (.iadd, 1) := by decide +kernel
theorem px_dL_497 : decode code 497 = .ok (.iaload, 1) := by decide +kernel
theorem px_dL_498 : decode code 498 = .ok (.aload_n 0, 1) := by decide +kernel
theorem px_dL_499 : decode code 499 = .ok (.iload 4, 2) := by decide +kernel
theorem px_dL_501 : decode code 501 = .ok (.iconst 3, 1) := by decide +kernel
theorem px_dL_502 : decode code 502 = .ok (.iadd, 1) := by decide +kernel
theorem px_dL_503 : decode code 503 = .ok (.iaload, 1) := by decide +kernel
theorem px_dL_504 : decode code 504 = .ok (.invokevirtual 76, 3) := by decide +kernel
theorem px_dL_507 : decode code 507 = .ok (.aload_n 2, 1) := by decide +kernel
theorem px_dL_508 : decode code 508 = .ok (.aload_n 0, 1) := by decide +kernel
theorem px_dL_509 : decode code 509 = .ok (.iload 4, 2) := by decide +kernel
theorem px_dL_511 : decode code 511 = .ok (.iconst 1, 1) := by decide +kernel
theorem px_dL_512 : decode code 512 = .ok (.iadd, 1) := by decide +kernel
theorem px_dL_513 : decode code 513 = .ok (.iaload, 1) := by decide +kernel
theorem px_dL_514 : decode code 514 = .ok (.aload_n 0, 1) := by decide +kernel
theorem px_dL_515 : decode code 515 = .ok (.iload 4, 2) := by decide +kernel
theorem px_dL_517 : decode code 517 = .ok (.iconst 2, 1) := by decide +kernel
theorem px_dL_518 : decode code 518 = .ok (.iadd, 1) := by decide +kernel
theorem px_dL_519 : decode code 519 = .ok (.iaload, 1) := by decide +kernel
theorem px_dL_520 : decode code 520 = .ok (.aload_n 0, 1) := by decide +kernel
theorem px_dL_521 : decode code 521 = .ok (.iload 4, 2) := by decide +kernel
theorem px_dL_523 : decode code 523 = .ok (.iconst 3, 1) := by decide +kernel
theorem px_dL_524 : decode code 524 = .ok (.iadd, 1) := by decide +kernel
theorem px_dL_525 : decode code 525 = .ok (.iaload, 1) := by decide +kernel
theorem px_dL_526 : decode code 526 = .ok (.invokevirtual 80, 3) := by decide +kernel
theorem px_dL_529 : decode code 529 = .ok (.if_icmp .eq 388, 3) := by decide +kernel
theorem px_dL_534 : decode code 534 = .ok (.aload_n 1, 1) := by decide +kernel
theorem px_dL_535 : decode code 535 = .ok (.aload_n 0, 1) := by decide +kernel
theorem px_dL_536 : decode code 536 = .ok (.iload 4, 2) := by decide +kernel
theorem px_dL_538 : decode code 538 = .ok (.iconst 1, 1) := by decide +kernel
theorem px_dL_539 : decode code 539 = .ok (.iadd, 1) := by decide +kernel
theorem px_dL_540 : decode code 540 = .ok (.iaload, 1) := by decide +kernel
theorem px_dL_541 : decode code 541 = .ok (.aload_n 0, 1) := by decide +kernel
theorem px_dL_542 : decode code 542 = .ok (.iload 4, 2) := by decide +kernel
theorem px_dL_544 : decode code 544 = .ok (.iconst 2, 1) := by decide +kernel
theorem px_dL_545 : decode code 545 = .ok (.iadd, 1) := by decide +kernel
theorem px_dL_546 : decode code 546 = .ok (.iaload, 1) := by decide +kernel
theorem px_dL_547 : decode code 547 = .ok (.aload_n 0, 1) := by decide +kernel
theorem px_dL_548 : decode code 548 = .ok (.iload 4, 2) := by decide +kernel
theorem px_dL_550 : decode code 550 = .ok (.iconst 3, 1) := by decide +kernel
theorem px_dL_551 : decode code 551 = .ok (.iadd, 1) := by decide +kernel
theorem px_dL_552 : decode code 552 = .ok (.iaload, 1) := by decide +kernel
theorem px_dL_553 : decode code 553 = .ok (.invokevirtual 81, 3) := by decide +kernel
theorem px_dL_556 : decode code 556 = .ok (.aload_n 2, 1) := by decide +kernel
theorem px_dL_557 : decode code 557 = .ok (.aload_n 0, 1) := by decide +kernel
theorem px_dL_558 : decode code 558 = .ok (.iload 4, 2) := by decide +kernel
theorem px_dL_560 : decode code 560 = .ok (.iconst 1, 1) := by decide +kernel
theorem px_dL_561 : decode code 561 = .ok (.iadd, 1) := by decide +kernel
theorem px_dL_562 : decode code 562 = .ok (.iaload, 1) := by decide +kernel
theorem px_dL_563 : decode code 563 = .ok (.aload_n 0, 1) := by decide +kernel
theorem px_dL_564 : decode code 564 = .ok (.iload 4, 2) := by decide +kernel
theorem px_dL_566 : decode code 566 = .ok (.iconst 2, 1) := by decide +kernel
theorem px_dL_567 : decode code 567 = .ok (.iadd, 1) := by decide +kernel
theorem px_dL_568 : decode code 568 = .ok (.iaload, 1) := by decide +kernel
theorem px_dL_569 : decode code 569 = .ok (.aload_n 0, 1) := by decide +kernel
theorem px_dL_570 : decode code 570 = .ok (.iload 4, 2) := by decide +kernel
theorem px_dL_572 : decode code 572 = .ok (.iconst 3, 1) := by decide +kernel
theorem px_dL_573 : decode code 573 = .ok (.iadd, 1) := by decide +kernel
theorem px_dL_574 : decode code 574 = .ok (.iaload, 1) := by decide +kernel
theorem px_dL_575 : decode code 575 = .ok (.invokevirtual 85, 3) := by decide +kernel
theorem px_dL_578 : decode code 578 = .ok (.lcmp, 1) := by decide +kernel
theorem px_dL_579 : decode code 579 = .ok (.ifCond .eq 338, 3) := by decide +kernel
theorem px_dL_584 : decode code 584 = .ok (.aload_n 1, 1) := by decide +kernel
theorem px_dL_585 : decode code 585 = .ok (.aload_n 0, 1) := by decide +kernel
theorem px_dL_586 : decode code 586 = .ok (.iload 4, 2) := by decide +kernel
theorem px_dL_588 : decode code 588 = .ok (.iconst 1, 1) := by decide +kernel
theorem px_dL_589 : decode code 589 = .ok (.iadd, 1) := by decide +kernel
theorem px_dL_590 : decode code 590 = .ok (.iaload, 1) := by decide +kernel
theorem px_dL_591 : decode code 591 = .ok (.aload_n 0, 1) := by decide +kernel
theorem px_dL_592 : decode code 592 = .ok (.iload 4, 2) := by decide +kernel
theorem px_dL_594 : decode code 594 = .ok (.iconst 2, 1) := by decide +kernel
theorem px_dL_595 : decode code 595 = .ok (.iadd, 1) := by decide +kernel
theorem px_dL_596 : decode code 596 = .ok (.iaload, 1) := by decide +kernel
theorem px_dL_597 : decode code 597 = .ok (.invokevirtual 86, 3) := by decide +kernel
theorem px_dL_600 : decode code 600 = .ok (.aload_n 2, 1) := by decide +kernel
theorem px_dL_601 : decode code 601 = .ok (.aload_n 0, 1) := by decide +kernel
theorem px_dL_602 : decode code 602 = .ok (.iload 4, 2) := by decide +kernel
theorem px_dL_604 : decode code 604 = .ok (.iconst 1, 1) := by decide +kernel
theorem px_dL_605 : decode code 605 = .ok (.iadd, 1) := by decide +kernel
theorem px_dL_606 : decode code 606 = .ok (.iaload, 1) := by decide +kernel
theorem px_dL_607 : decode code 607 = .ok (.aload_n 0, 1) := by decide +kernel
theorem px_dL_608 : decode code 608 = .ok (.iload 4, 2) := by decide +kernel
theorem px_dL_610 : decode code 610 = .ok (.iconst 2, 1) := by decide +kernel
theorem px_dL_611 : decode code 611 = .ok (.iadd, 1) := by decide +kernel
theorem px_dL_612 : decode code 612 = .ok (.iaload, 1) := by decide +kernel
theorem px_dL_613 : decode code 613 = .ok (.invokevirtual 89, 3) := by decide +kernel
theorem px_dL_616 : decode code 616 = .ok (.if_icmp .eq 301, 3) := by decide +kernel
theorem px_dL_621 : decode code 621 = .ok (.aload_n 1, 1) := by decide +kernel
theorem px_dL_622 : decode code 622 = .ok (.aload_n 0, 1) := by decide +kernel
theorem px_dL_623 : decode code 623 = .ok (.iload 4, 2) := by decide +kernel
theorem px_dL_625 : decode code 625 = .ok (.iconst 1, 1) := by decide +kernel
theorem px_dL_626 : decode code 626 = .ok (.iadd, 1) := by decide +kernel
theorem px_dL_627 : decode code 627 = .ok (.iaload, 1) := by decide +kernel
theorem px_dL_628 : decode code 628 = .ok (.invokevirtual 90, 3) := by decide +kernel
theorem px_dL_631 : decode code 631 = .ok (.aload_n 2, 1) := by decide +kernel
theorem px_dL_632 : decode code 632 = .ok (.aload_n 0, 1) := by decide +kernel
theorem px_dL_633 : decode code 633 = .ok (.iload 4, 2) := by decide +kernel
theorem px_dL_635 : decode code 635 = .ok (.iconst 1, 1) := by decide +kernel
theorem px_dL_636 : decode code 636 = .ok (.iadd, 1) := by decide +kernel
theorem px_dL_637 : decode code 637 = .ok (.iaload, 1) := by decide +kernel
theorem px_dL_638 : decode code 638 = .ok (.invokevirtual 93, 3) := by decide +kernel
theorem px_dL_641 : decode code 641 = .ok (.if_icmp .eq 276, 3) := by decide +kernel
theorem px_dL_646 : decode code 646 = .ok (.aload_n 1, 1) := by decide +kernel
theorem px_dL_647 : decode code 647 = .ok (.aload_n 0, 1) := by decide +kernel
theorem px_dL_648 : decode code 648 = .ok (.iload 4, 2) := by decide +kernel
theorem px_dL_650 : decode code 650 = .ok (.iconst 1, 1) := by decide +kernel
theorem px_dL_651 : decode code 651 = .ok (.iadd, 1) := by decide +kernel
theorem px_dL_652 : decode code 652 = .ok (.iaload, 1) := by decide +kernel
theorem px_dL_653 : decode code 653 = .ok (.aload_n 0, 1) := by decide +kernel
theorem px_dL_654 : decode code 654 = .ok (.iload 4, 2) := by decide +kernel
theorem px_dL_656 : decode code 656 = .ok (.iconst 2, 1) := by decide +kernel
theorem px_dL_657 : decode code 657 = .ok (.iadd, 1) := by decide +kernel
theorem px_dL_658 : decode code 658 = .ok (.iaload, 1) := by decide +kernel
theorem px_dL_659 : decode code 659 = .ok (.invokevirtual 94, 3) := by decide +kernel
theorem px_dL_662 : decode code 662 = .ok (.aload_n 2, 1) := by decide +kernel
theorem px_dL_663 : decode code 663 = .ok (.aload_n 0, 1) := by decide +kernel
theorem px_dL_664 : decode code 664 = .ok (.iload 4, 2) := by decide +kernel
theorem px_dL_666 : decode code 666 = .ok (.iconst 1, 1) := by decide +kernel
theorem px_dL_667 : decode code 667 = .ok (.iadd, 1) := by decide +kernel
theorem px_dL_668 : decode code 668 = .ok (.iaload, 1) := by decide +kernel
theorem px_dL_669 : decode code 669 = .ok (.aload_n 0, 1) := by decide +kernel
theorem px_dL_670 : decode code 670 = .ok (.iload 4, 2) := by decide +kernel
theorem px_dL_672 : decode code 672 = .ok (.iconst 2, 1) := by decide +kernel
theorem px_dL_673 : decode code 673 = .ok (.iadd, 1) := by decide +kernel
theorem px_dL_674 : decode code 674 = .ok (.iaload, 1) := by decide +kernel
theorem px_dL_675 : decode code 675 = .ok (.invokevirtual 97, 3) := by decide +kernel
theorem px_dL_678 : decode code 678 = .ok (.if_icmp .eq 239, 3) := by decide +kernel
theorem px_dL_683 : decode code 683 = .ok (.aload_n 1, 1) := by decide +kernel
theorem px_dL_684 : decode code 684 = .ok (.aload_n 0, 1) := by decide +kernel
theorem px_dL_685 : decode code 685 = .ok (.iload 4, 2) := by decide +kernel
theorem px_dL_687 : decode code 687 = .ok (.iconst 1, 1) := by decide +kernel
theorem px_dL_688 : decode code 688 = .ok (.iadd, 1) := by decide +kernel
theorem px_dL_689 : decode code 689 = .ok (.iaload, 1) := by decide +kernel
theorem px_dL_690 : decode code 690 = .ok (.aload_n 0, 1) := by decide +kernel
theorem px_dL_691 : decode code 691 = .ok (.iload 4, 2) := by decide +kernel
theorem px_dL_693 : decode code 693 = .ok (.iconst 2, 1) := by decide +kernel
theorem px_dL_694 : decode code 694 = .ok (.iadd, 1) := by decide +kernel
theorem px_dL_695 : decode code 695 = .ok (.iaload, 1) := by decide +kernel
theorem px_dL_696 : decode code 696 = .ok (.invokevirtual 98, 3) := by decide +kernel
theorem px_dL_699 : decode code 699 = .ok (.aload_n 2, 1) := by decide +kernel
theorem px_dL_700 : decode code 700 = .ok (.aload_n 0, 1) := by decide +kernel
theorem px_dL_701 : decode code 701 = .ok (.iload 4, 2) := by decide +kernel
theorem px_dL_703 : decode code 703 = .ok (.iconst 1, 1) := by decide +kernel
theorem px_dL_704 : decode code 704 = .ok (.iadd, 1) := by decide +kernel
theorem px_dL_705 : decode code 705 = .ok (.iaload, 1) := by decide +kernel
theorem px_dL_706 : decode code 706 = .ok (.aload_n 0, 1) := by decide +kernel
theorem px_dL_707 : decode code 707 = .ok (.iload 4, 2) := by decide +kernel
theorem px_dL_709 : decode code 709 = .ok (.iconst 2, 1) := by decide +kernel
theorem px_dL_710 : decode code 710 = .ok (.iadd, 1) := by decide +kernel
theorem px_dL_711 : decode code 711 = .ok (.iaload, 1) := by decide +kernel
theorem px_dL_712 : decode code 712 = .ok (.invokevirtual 101, 3) := by decide +kernel
theorem px_dL_715 : decode code 715 = .ok (.if_icmp .eq 202, 3) := by decide +kernel
theorem px_dL_720 : decode code 720 = .ok (.aload_n 1, 1) := by decide +kernel
theorem px_dL_721 : decode code 721 = .ok (.aload_n 0, 1) := by decide +kernel
theorem px_dL_722 : decode code 722 = .ok (.iload 4, 2) := by decide +kernel
theorem px_dL_724 : decode code 724 = .ok (.iconst 1, 1) := by decide +kernel
theorem px_dL_725 : decode code 725 = .ok (.iadd, 1) := by decide +kernel
theorem px_dL_726 : decode code 726 = .ok (.iaload, 1) := by decide +kernel
theorem px_dL_727 : decode code 727 = .ok (.aload_n 0, 1) := by decide +kernel
theorem px_dL_728 : decode code 728 = .ok (.iload 4, 2) := by decide +kernel
theorem px_dL_730 : decode code 730 = .ok (.iconst 2, 1) := by decide +kernel
theorem px_dL_731 : decode code 731 = .ok (.iadd, 1) := by decide +kernel
theorem px_dL_732 : decode code 732 = .ok (.iaload, 1) := by decide +kernel
theorem px_dL_733 : decode code 733 = .ok (.invokevirtual 102, 3) := by decide +kernel
theorem px_dL_736 : decode code 736 = .ok (.aload_n 2, 1) := by decide +kernel
theorem px_dL_737 : decode code 737 = .ok (.aload_n 0, 1) := by decide +kernel
theorem px_dL_738 : decode code 738 = .ok (.iload 4, 2) := by decide +kernel
theorem px_dL_740 : decode code 740 = .ok (.iconst 1, 1) := by decide +kernel
theorem px_dL_741 : decode code 741 = .ok (.iadd, 1) := by decide +kernel
theorem px_dL_742 : decode code 742 = .ok (.iaload, 1) := by decide +kernel
theorem px_dL_743 : decode code 743 = .ok (.aload_n 0, 1) := by decide +kernel
theorem px_dL_744 : decode code 744 = .ok (.iload 4, 2) := by decide +kernel
theorem px_dL_746 : decode code 746 = .ok (.iconst 2, 1) := by decide +kernel
theorem px_dL_747 : decode code 747 = .ok (.iadd, 1) := by decide +kernel
theorem px_dL_748 : decode code 748 = .ok (.iaload, 1) := by decide +kernel
theorem px_dL_749 : decode code 749 = .ok (.invokevirtual 105, 3) := by decide +kernel
theorem px_dL_752 : decode code 752 = .ok (.if_icmp .eq 165, 3) := by decide +kernel
theorem px_dL_757 : decode code 757 = .ok (.aload_n 1, 1) := by decide +kernel
theorem px_dL_758 : decode code 758 = .ok (.aload_n 0, 1) := by decide +kernel
theorem px_dL_759 : decode code 759 = .ok (.iload 4, 2) := by decide +kernel
theorem px_dL_761 : decode code 761 = .ok (.iconst 1, 1) := by decide +kernel
theorem px_dL_762 : decode code 762 = .ok (.iadd, 1) := by decide +kernel
theorem px_dL_763 : decode code 763 = .ok (.iaload, 1) := by decide +kernel
theorem px_dL_764 : decode code 764 = .ok (.aload_n 0, 1) := by decide +kernel
theorem px_dL_765 : decode code 765 = .ok (.iload 4, 2) := by decide +kernel
theorem px_dL_767 : decode code 767 = .ok (.iconst 2, 1) := by decide +kernel
theorem px_dL_768 : decode code 768 = .ok (.iadd, 1) := by decide +kernel
theorem px_dL_769 : decode code 769 = .ok (.iaload, 1) := by decide +kernel
theorem px_dL_770 : decode code 770 = .ok (.invokevirtual 106, 3) := by decide +kernel
theorem px_dL_773 : decode code 773 = .ok (.aload_n 2, 1) := by decide +kernel
theorem px_dL_774 : decode code 774 = .ok (.aload_n 0, 1) := by decide +kernel
theorem px_dL_775 : decode code 775 = .ok (.iload 4, 2) := by decide +kernel
theorem px_dL_777 : decode code 777 = .ok (.iconst 1, 1) := by decide +kernel
theorem px_dL_778 : decode code 778 = .ok (.iadd, 1) := by decide +kernel
theorem px_dL_779 : decode code 779 = .ok (.iaload, 1) := by decide +kernel
theorem px_dL_780 : decode code 780 = .ok (.aload_n 0, 1) := by decide +kernel
theorem px_dL_781 : decode code 781 = .ok (.iload 4, 2) := by decide +kernel
theorem px_dL_783 : decode code 783 = .ok (.iconst 2, 1) := by decide +kernel
theorem px_dL_784 : decode code 784 = .ok (.iadd, 1) := by decide +kernel
theorem px_dL_785 : decode code 785 = .ok (.iaload, 1) := by decide +kernel
theorem px_dL_786 : decode code 786 = .ok (.invokevirtual 109, 3) := by decide +kernel
theorem px_dL_789 : decode code 789 = .ok (.if_icmp .eq 128, 3) := by decide +kernel
theorem px_dL_794 : decode code 794 = .ok (.aload_n 1, 1) := by decide +kernel
theorem px_dL_795 : decode code 795 = .ok (.aload_n 0, 1) := by decide +kernel
theorem px_dL_796 : decode code 796 = .ok (.iload 4, 2) := by decide +kernel
theorem px_dL_798 : decode code 798 = .ok (.iconst 1, 1) := by decide +kernel
theorem px_dL_799 : decode code 799 = .ok (.iadd, 1) := by decide +kernel
theorem px_dL_800 : decode code 800 = .ok (.iaload, 1) := by decide +kernel
theorem px_dL_801 : decode code 801 = .ok (.aload_n 0, 1) := by decide +kernel
theorem px_dL_802 : decode code 802 = .ok (.iload 4, 2) := by decide +kernel
theorem px_dL_804 : decode code 804 = .ok (.iconst 2, 1) := by decide +kernel
theorem px_dL_805 : decode code 805 = .ok (.iadd, 1) := by decide +kernel
theorem px_dL_806 : decode code 806 = .ok (.iaload, 1) := by decide +kernel
theorem px_dL_807 : decode code 807 = .ok (.invokevirtual 110, 3) := by decide +kernel
theorem px_dL_810 : decode code 810 = .ok (.aload_n 2, 1) := by decide +kernel
theorem px_dL_811 : decode code 811 = .ok (.aload_n 0, 1) := by decide +kernel
theorem px_dL_812 : decode code 812 = .ok (.iload 4, 2) := by decide +kernel
theorem px_dL_814 : decode code 814 = .ok (.iconst 1, 1) := by decide +kernel
theorem px_dL_815 : decode code 815 = .ok (.iadd, 1) := by decide +kernel
theorem px_dL_816 : decode code 816 = .ok (.iaload, 1) := by decide +kernel
theorem px_dL_817 : decode code 817 = .ok (.aload_n 0, 1) := by decide +kernel
theorem px_dL_818 : decode code 818 = .ok (.iload 4, 2) := by decide +kernel
theorem px_dL_820 : decode code 820 = .ok (.iconst 2, 1) := by decide +kernel
theorem px_dL_821 : decode code 821 = .ok (.iadd, 1) := by decide +kernel
theorem px_dL_822 : decode code 822 = .ok (.iaload, 1) := by decide +kernel
theorem px_dL_823 : decode code 823 = .ok (.invokevirtual 113, 3) := by decide +kernel
theorem px_dL_826 : decode code 826 = .ok (.if_icmp .eq 91, 3) := by decide +kernel
theorem px_dL_831 : decode code 831 = .ok (.aload_n 1, 1) := by decide +kernel
theorem px_dL_832 : decode code 832 = .ok (.aload_n 0, 1) := by decide +kernel
theorem px_dL_833 : decode code 833 = .ok (.iload 4, 2) := by decide +kernel
theorem px_dL_835 : decode code 835 = .ok (.iconst 1, 1) := by decide +kernel
theorem px_dL_836 : decode code 836 = .ok (.iadd, 1) := by decide +kernel
theorem px_dL_837 : decode code 837 = .ok (.iaload, 1) := by decide +kernel
theorem px_dL_838 : decode code 838 = .ok (.aload_n 0, 1) := by decide +kernel
theorem px_dL_839 : decode code 839 = .ok (.iload 4, 2) := by decide +kernel
theorem px_dL_841 : decode code 841 = .ok (.iconst 2, 1) := by decide +kernel
theorem px_dL_842 : decode code 842 = .ok (.iadd, 1) := by decide +kernel
theorem px_dL_843 : decode code 843 = .ok (.iaload, 1) := by decide +kernel
theorem px_dL_844 : decode code 844 = .ok (.invokevirtual 114, 3) := by decide +kernel
theorem px_dL_847 : decode code 847 = .ok (.aload_n 2, 1) := by decide +kernel
theorem px_dL_848 : decode code 848 = .ok (.aload_n 0, 1) := by decide +kernel
theorem px_dL_849 : decode code 849 = .ok (.iload 4, 2) := by decide +kernel
theorem px_dL_851 : decode code 851 = .ok (.iconst 1, 1) := by decide +kernel
theorem px_dL_852 : decode code 852 = .ok (.iadd, 1) := by decide +kernel
theorem px_dL_853 : decode code 853 = .ok (.iaload, 1) := by decide +kernel
theorem px_dL_854 : decode code 854 = .ok (.aload_n 0, 1) := by decide +kernel
theorem px_dL_855 : decode code 855 = .ok (.iload 4, 2) := by decide +kernel
theorem px_dL_857 : decode code 857 = .ok (.iconst 2, 1) := by decide +kernel
theorem px_dL_858 : decode code 858 = .ok (.iadd, 1) := by decide +kernel
theorem px_dL_859 : decode code 859 = .ok (.iaload, 1) := by decide +kernel
theorem px_dL_860 : decode code 860 = .ok (.invokevirtual 117, 3) := by decide +kernel
theorem px_dL_863 : decode code 863 = .ok (.if_icmp .eq 54, 3) := by decide +kernel
theorem px_dL_868 : decode code 868 = .ok (.aload_n 1, 1) := by decide +kernel
theorem px_dL_869 : decode code 869 = .ok (.aload_n 0, 1) := by decide +kernel
theorem px_dL_870 : decode code 870 = .ok (.iload 4, 2) := by decide +kernel
theorem px_dL_872 : decode code 872 = .ok (.iconst 1, 1) := by decide +kernel
theorem px_dL_873 : decode code 873 = .ok (.iadd, 1) := by decide +kernel
theorem px_dL_874 : decode code 874 = .ok (.iaload, 1) := by decide +kernel
theorem px_dL_875 : decode code 875 = .ok (.aload_n 0, 1) := by decide +kernel
theorem px_dL_876 : decode code 876 = .ok (.iload 4, 2) := by decide +kernel
theorem px_dL_878 : decode code 878 = .ok (.iconst 2, 1) := by decide +kernel
theorem px_dL_879 : decode code 879 = .ok (.iadd, 1) := by decide +kernel
theorem px_dL_880 : decode code 880 = .ok (.iaload, 1) := by decide +kernel
theorem px_dL_881 : decode code 881 = .ok (.aload_n 0, 1) := by decide +kernel
theorem px_dL_882 : decode code 882 = .ok (.iload 4, 2) := by decide +kernel
theorem px_dL_884 : decode code 884 = .ok (.iconst 3, 1) := by decide +kernel
theorem px_dL_885 : decode code 885 = .ok (.iadd, 1) := by decide +kernel
theorem px_dL_886 : decode code 886 = .ok (.iaload, 1) := by decide +kernel
theorem px_dL_887 : decode code 887 = .ok (.invokevirtual 118, 3) := by decide +kernel
theorem px_dL_890 : decode code 890 = .ok (.aload_n 2, 1) := by decide +kernel
theorem px_dL_891 : decode code 891 = .ok (.aload_n 0, 1) := by decide +kernel
theorem px_dL_892 : decode code 892 = .ok (.iload 4, 2) := by decide +kernel
theorem px_dL_894 : decode code 894 = .ok (.iconst 1, 1) := by decide +kernel
theorem px_dL_895 : decode code 895 = .ok (.iadd, 1) := by decide +kernel
theorem px_dL_896 : decode code 896 = .ok (.iaload, 1) := by decide +kernel
theorem px_dL_897 : decode code 897 = .ok (.aload_n 0, 1) := by decide +kernel
theorem px_dL_898 : decode code 898 = .ok (.iload 4, 2) := by decide +kernel
theorem px_dL_900 : decode code 900 = .ok (.iconst 2, 1) := by decide +kernel
theorem px_dL_901 : decode code 901 = .ok (.iadd, 1) := by decide +kernel
theorem px_dL_902 : decode code 902 = .ok (.iaload, 1) := by decide +kernel
theorem px_dL_903 : decode code 903 = .ok (.aload_n 0, 1) := by decide +kernel
theorem px_dL_904 : decode code 904 = .ok (.iload 4, 2) := by decide +kernel
theorem px_dL_906 : decode code 906 = .ok (.iconst 3, 1) := by decide +kernel
theorem px_dL_907 : decode code 907 = .ok (.iadd, 1) := by decide +kernel
theorem px_dL_908 : decode code 908 = .ok (.iaload, 1) := by decide +kernel
theorem px_dL_909 : decode code 909 = .ok (.invokevirtual 121, 3) := by decide +kernel
theorem px_dL_912 : decode code 912 = .ok (.if_icmp .eq 5, 3) := by decide +kernel
theorem px_dL_917 : decode code 917 = .ok (.iinc 4 6, 3) := by decide +kernel
theorem px_dL_920 : decode code 920 = .ok (.goto (-897), 3) := by decide +kernel
theorem px_dL_923 : decode code 923 = .ok (.iconst 1, 1) := by decide +kernel
theorem px_dL_924 : decode code 924 = .ok (.ireturn, 1) := by decide +kernel
