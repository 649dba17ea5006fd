theorem px_d102_198 : decode prog_15_method_72_code 198 = .ok (.iload_n 1, 1) := by decide +kernel
theorem px_d102_199 : decode prog_15_method_72_code 199 = .ok (.invokevirtual 319, 3) := by decide +kernel
theorem px_d102_202 : decode prog_15_method_72_code 202 = .ok (.return_, 1) := by decide +kernel
theorem px_d102_203 : decode prog_15_method_72_code 203 = .ok (.aload_n 0, 1) := by decide +kernel
theorem px_d102_204 : decode prog_15_method_72_code 204 = .ok (.aload_n 0, 1) := by decide +kernel
theorem px_d102_205 : decode prog_15_method_72_code 205 = .ok (.getfield 153, 3) := by decide +kernel
theorem px_d102_208 : decode prog_15_method_72_code 208 = .ok (.iload_n 3, 1) := by decide +kernel
theorem px_d102_209 : decode prog_15_method_72_code 209 = .ok (.baload, 1) := by decide +kernel
theorem px_d102_210 : decode prog_15_method_72_code 210 = .ok (.iconst 1, 1) := by decide +kernel
theorem px_d102_211 : decode prog_15_method_72_code 211 = .ok (.invokevirtual 404, 3) := by decide +kernel
theorem px_d102_214 : decode prog_15_method_72_code 214 = .ok (.ifCond .ne 4, 3) := by decide +kernel
theorem px_d102_217 : decode prog_15_method_72_code 217 = .ok (.return_, 1) := by decide +kernel
theorem px_d102_218 : decode prog_15_method_72_code 218 = .ok (.iload_n 2, 1) := by decide +kernel
theorem px_d102_219 : decode prog_15_method_72_code 219 = .ok (.iconst 3, 1) := by decide +kernel
theorem px_d102_220 : decode prog_15_method_72_code 220 = .ok (.if_icmp .ne 12, 3) := by decide +kernel
theorem px_d102_223 : decode prog_15_method_72_code 223 = .ok (.aload_n 0, 1) := by decide +kernel
theorem px_d102_224 : decode prog_15_method_72_code 224 = .ok (.iload_n 1, 1) := by decide +kernel
theorem px_d102_225 : decode prog_15_method_72_code 225 = .ok (.iload_n 3, 1) := by decide +kernel
theorem px_d102_226 : decode prog_15_method_72_code 226 = .ok (.invokevirtual 425, 3) := by decide +kernel
theorem px_d102_229 : decode prog_15_method_72_code 229 = .ok (.goto 157, 3) := by decide +kernel
theorem px_d102_232 : decode prog_15_method_72_code 232 = .ok (.iload_n 2, 1) := by decide +kernel
theorem px_d102_233 : decode prog_15_method_72_code 233 = .ok (.iconst 4, 1) := by decide +kernel
theorem px_d102_234 : decode prog_15_method_72_code 234 = .ok (.if_icmp .eq 8, 3) := by decide +kernel
theorem px_d102_237 : decode prog_15_method_72_code 237 = .ok (.iload_n 2, 1) := by decide +kernel
theorem px_d102_238 : decode prog_15_method_72_code 238 = .ok (.iconst 5, 1) := by decide +kernel
theorem px_d102_239 : decode prog_15_method_72_code 239 = .ok (.if_icmp .ne 50, 3) := by decide +kernel
theorem px_d102_242 : decode prog_15_method_72_code 242 = .ok (.aload_n 0, 1) := by decide +kernel
theorem px_d102_243 : decode prog_15_method_72_code 243 = .ok (.iload_n 3, 1) := by decide +kernel
theorem px_d102_244 : decode prog_15_method_72_code 244 = .ok (.invokevirtual 428, 3) := by decide +kernel
theorem px_d102_247 : decode prog_15_method_72_code 247 = .ok (.istore 4, 2) := by decide +kernel
theorem px_d102_249 : decode prog_15_method_72_code 249 = .ok (.aload_n 0, 1) := by decide +kernel
theorem px_d102_250 : decode prog_15_method_72_code 250 = .ok (.getfield 395, 3) := by decide +kernel
theorem px_d102_253 : decode prog_15_method_72_code 253 = .ok (.ifCond .le 4, 3) := by decide +kernel
theorem px_d102_256 : decode prog_15_method_72_code 256 = .ok (.return_, 1) := by decide +kernel
theorem px_d102_257 : decode prog_15_method_72_code 257 = .ok (.iload_n 2, 1) := by decide +kernel
theorem px_d102_258 : decode prog_15_method_72_code 258 = .ok (.iconst 4, 1) := by decide +kernel
theorem px_d102_259 : decode prog_15_method_72_code 259 = .ok (.if_icmp .ne 19, 3) := by decide +kernel
theorem px_d102_262 : decode prog_15_method_72_code 262 = .ok (.aload_n 0, 1) := by decide +kernel
theorem px_d102_263 : decode prog_15_method_72_code 263 = .ok (.iload_n 3, 1) := by decide +kernel
theorem px_d102_264 : decode prog_15_method_72_code 264 = .ok (.iload 4, 2) := by decide +kernel
theorem px_d102_266 : decode prog_15_method_72_code 266 = .ok (.iconst 0, 1) := by decide +kernel
theorem px_d102_267 : decode prog_15_method_72_code 267 = .ok (.invokevirtual 322, 3) := by decide +kernel
theorem px_d102_270 : decode prog_15_method_72_code 270 = .ok (.aload_n 0, 1) := by decide +kernel
theorem px_d102_271 : decode prog_15_method_72_code 271 = .ok (.iload_n 1, 1) := by decide +kernel
theorem px_d102_272 : decode prog_15_method_72_code 272 = .ok (.invokevirtual 319, 3) := by decide +kernel
theorem px_d102_275 : decode prog_15_method_72_code 275 = .ok (.goto 11, 3) := by decide +kernel
theorem px_d102_278 : decode prog_15_method_72_code 278 = .ok (.aload_n 0, 1) := by decide +kernel
theorem px_d102_279 : decode prog_15_method_72_code 279 = .ok (.iload_n 1, 1) := by decide +kernel
theorem px_d102_280 : decode prog_15_method_72_code 280 = .ok (.iload_n 3, 1) := by decide +kernel
theorem px_d102_281 : decode prog_15_method_72_code 281 = .ok (.iload 4, 2) := by decide +kernel
theorem px_d102_283 : decode prog_15_method_72_code 283 = .ok (.invokevirtual 431, 3) := by decide +kernel
theorem px_d102_286 : decode prog_15_method_72_code 286 = .ok (.goto 100, 3) := by decide +kernel
theorem px_d102_289 : decode prog_15_method_72_code 289 = .ok (.iconst 0, 1) := by decide +kernel
theorem px_d102_290 : decode prog_15_method_72_code 290 = .ok (.istore 4, 2) := by decide +kernel
theorem px_d102_292 : decode prog_15_method_72_code 292 = .ok (.iload 4, 2) := by decide +kernel
theorem px_d102_294 : decode prog_15_method_72_code 294 = .ok (.bipush 12, 2) := by decide +kernel
theorem px_d102_296 : decode prog_15_method_72_code 296 = .ok (.if_icmp .ge 28, 3) := by decide +kernel
theorem px_d102_299 : decode prog_15_method_72_code 299 = .ok (.aload_n 0, 1) := by decide +kernel
theorem px_d102_300 : decode prog_15_method_72_code 300 = .ok (.getfield 215, 3) := by decide +kernel
theorem px_d102_303 : decode prog_15_method_72_code 303 = .ok (.iload 4, 2) := by decide +kernel
theorem px_d102_305 : decode prog_15_method_72_code 305 = .ok (.aload_n 0, 1) := by decide +kernel
theorem px_d102_306 : decode prog_15_method_72_code 306 = .ok (.getfield 173, 3) := by decide +kernel
theorem px_d102_309 : decode prog_15_method_72_code 309 = .ok (.bipush 12, 2) := by decide +kernel
theorem px_d102_311 : decode prog_15_method_72_code 311 = .ok (.iload_n 3, 1) := by decide +kernel
theorem px_d102_312 : decode prog_15_method_72_code 312 = .ok (.imul, 1) := by decide +kernel
theorem px_d102_313 : decode prog_15_method_72_code 313 = .ok (.iload 4, 2) := by decide +kernel
theorem px_d102_315 : decode prog_15_method_72_code 315 = .ok (.iadd, 1) := by decide +kernel
theorem px_d102_316 : decode prog_15_method_72_code 316 = .ok (.iaload, 1) := by decide +kernel
theorem px_d102_317 : decode prog_15_method_72_code 317 = .ok (.iastore, 1) := by decide +kernel
theorem px_d102_318 : decode prog_15_method_72_code 318 = .ok (.iinc 4 1, 3) := by decide +kernel
theorem px_d102_321 : decode prog_15_method_72_code 321 = .ok (.goto (-29), 3) := by decide +kernel
theorem px_d102_324 : decode prog_15_method_72_code 324 = .ok (.aload_n 0, 1) := by decide +kernel
theorem px_d102_325 : decode prog_15_method_72_code 325 = .ok (.aload_n 0, 1) := by decide +kernel
theorem px_d102_326 : decode prog_15_method_72_code 326 = .ok (.getfield 160, 3) := by decide +kernel
theorem px_d102_329 : decode prog_15_method_72_code 329 = .ok (.iload_n 3, 1) := by decide +kernel
theorem px_d102_330 : decode prog_15_method_72_code 330 = .ok (.iaload, 1) := by decide +kernel
theorem px_d102_331 : decode prog_15_method_72_code 331 = .ok (.aload_n 0, 1) := by decide +kernel
theorem px_d102_332 : decode prog_15_method_72_code 332 = .ok (.getfield 157, 3) := by decide +kernel
theorem px_d102_335 : decode prog_15_method_72_code 335 = .ok (.iload_n 3, 1) := by decide +kernel
theorem px_d102_336 : decode prog_15_method_72_code 336 = .ok (.iaload, 1) := by decide +kernel
theorem px_d102_337 : decode prog_15_method_72_code 337 = .ok (.invokevirtual 310, 3) := by decide +kernel
theorem px_d102_340 : decode prog_15_method_72_code 340 = .ok (.aload_n 0, 1) := by decide +kernel
theorem px_d102_341 : decode prog_15_method_72_code 341 = .ok (.iload_n 3, 1) := by decide +kernel
theorem px_d102_342 : decode prog_15_method_72_code 342 = .ok (.iconst 0, 1) := by decide +kernel
theorem px_d102_343 : decode prog_15_method_72_code 343 = .ok (.invokevirtual 422, 3) := by decide +kernel
theorem px_d102_346 : decode prog_15_method_72_code 346 = .ok (.aload_n 0, 1) := by decide +kernel
theorem px_d102_347 : decode prog_15_method_72_code 347 = .ok (.iload_n 1, 1) := by decide +kernel
theorem px_d102_348 : decode prog_15_method_72_code 348 = .ok (.invokevirtual 319, 3) := by decide +kernel
theorem px_d102_351 : decode prog_15_method_72_code 351 = .ok (.iconst 0, 1) := by decide +kernel
theorem px_d102_352 : decode prog_15_method_72_code 352 = .ok (.istore 4, 2) := by decide +kernel
theorem px_d102_354 : decode prog_15_method_72_code 354 = .ok (.iload 4, 2) := by decide +kernel
theorem px_d102_356 : decode prog_15_method_72_code 356 = .ok (.bipush 12, 2) := by decide +kernel
theorem px_d102_358 : decode prog_15_method_72_code 358 = .ok (.if_icmp .ge 28, 3) := by decide +kernel
theorem px_d102_361 : decode prog_15_method_72_code 361 = .ok (.aload_n 0, 1) := by decide +kernel
theorem px_d102_362 : decode prog_15_method_72_code 362 = .ok (.getfield 173, 3) := by decide +kernel
theorem px_d102_365 : decode prog_15_method_72_code 365 = .ok (.bipush 12, 2) := by decide +kernel
theorem px_d102_367 : decode prog_15_method_72_code 367 = .ok (.iload_n 1, 1) := by decide +kernel
theorem px_d102_368 : decode prog_15_method_72_code 368 = .ok (.imul, 1) := by decide +kernel
theorem px_d102_369 : decode prog_15_method_72_code 369 = .ok (.iload 4, 2) := by decide +kernel
theorem px_d102_371 : decode prog_15_method_72_code 371 = .ok (.iadd, 1) := by decide +kernel
theorem px_d102_372 : decode prog_15_method_72_code 372 = .ok (.aload_n 0, 1) := by decide +kernel
theorem px_d102_373 : decode prog_15_method_72_code 373 = .ok (.getfield 215, 3) := by decide +kernel
theorem px_d102_376 : decode prog_15_method_72_code 376 = .ok (.iload 4, 2) := by decide +kernel
theorem px_d102_378 : decode prog_15_method_72_code 378 = .ok (.iaload, 1) := by decide +kernel
theorem px_d102_379 : decode prog_15_method_72_code 379 = .ok (.iastore, 1) := by decide +kernel
theorem px_d102_380 : decode prog_15_method_72_code 380 = .ok (.iinc 4 1, 3) := by decide +kernel
theorem px_d102_383 : decode prog_15_method_72_code 383 = .ok (.goto (-29), 3) := by decide +kernel
theorem px_d102_386 : decode prog_15_method_72_code 386 = .ok (.return_, 1) := by decide +kernel
theorem px_d104_0 : decode prog_15_method_74_code 0 = .ok (.aload_n 0, 1) := by decide +kernel
theorem px_d104_1 : decode prog_15_method_74_code 1 = .ok (.invokevirtual 362, 3) := by decide +kernel
theorem px_d104_4 : decode prog_15_method_74_code 4 = .ok (.ifCond .eq 18, 3) := by decide +kernel
theorem px_d104_7 : decode prog_15_method_74_code 7 = .ok (.aload_n 0, 1) := by decide +kernel
theorem px_d104_8 : decode prog_15_method_74_code 8 = .ok (.invokevirtual 419, 3) := by decide +kernel
theorem px_d104_11 : decode prog_15_method_74_code 11 = .ok (.istore_n 1, 1) := by decide +kernel
theorem px_d104_12 : decode prog_15_method_74_code 12 = .ok (.aload_n 0, 1) := by decide +kernel
theorem px_d104_13 : decode prog_15_method_74_code 13 = .ok (.invokevirtual 359, 3) := by decide +kernel
theorem px_d104_16 : decode prog_15_method_74_code 16 = .ok (.aload_n 0, 1) := by decide +kernel
theorem px_d104_17 : decode prog_15_method_74_code 17 = .ok (.iload_n 1, 1) := by decide +kernel
theorem px_d104_18 : decode prog_15_method_74_code 18 = .ok (.invokevirtual 434, 3) := by decide +kernel
theorem px_d104_21 : decode prog_15_method_74_code 21 = .ok (.return_, 1) := by decide +kernel
theorem px_d104_22 : decode prog_15_method_74_code 22 = .ok (.aload_n 0, 1) := by decide +kernel
theorem px_d104_23 : decode prog_15_method_74_code 23 = .ok (.ldc_w 390, 3) := by decide +kernel
theorem px_d104_26 : decode prog_15_method_74_code 26 = .ok (.invokevirtual 374, 3) := by decide +kernel
theorem px_d104_29 : decode prog_15_method_74_code 29 = .ok (.istore_n 1, 1) := by decide +kernel
theorem px_d104_30 : decode prog_15_method_74_code 30 = .ok (.aload_n 0, 1) := by decide +kernel
theorem px_d104_31 : decode prog_15_method_74_code 31 = .ok (.invokevirtual 359, 3) := by decide +kernel
theorem px_d104_34 : decode prog_15_method_74_code 34 = .ok (.aload_n 0, 1) := by decide +kernel
theorem px_d104_35 : decode prog_15_method_74_code 35 = .ok (.invokevirtual 419, 3) := by decide +kernel
theorem px_d104_38 : decode prog_15_method_74_code 38 = .ok (.istore_n 2, 1) := by decide +kernel
theorem px_d104_39 : decode prog_15_method_74_code 39 = .ok (.iload_n 1, 1) := by decide +kernel
theorem px_d104_40 : decode prog_15_method_74_code 40 = .ok (.ifCond .ne 9, 3) := by decide +kernel
theorem px_d104_43 : decode prog_15_method_74_code 43 = .ok (.aload_n 0, 1) := by decide +kernel
theorem px_d104_44 : decode prog_15_method_74_code 44 = .ok (.iload_n 2, 1) := by decide +kernel
theorem px_d104_45 : decode prog_15_method_74_code 45 = .ok (.invokevirtual 437, 3) := by decide +kernel
theorem px_d104_48 : decode prog_15_method_74_code 48 = .ok (.return_, 1) := by decide +kernel
theorem px_d104_49 : decode prog_15_method_74_code 49 = .ok (.iload_n 1, 1) := by decide +kernel
theorem px_d104_50 : decode prog_15_method_74_code 50 = .ok (.bipush 8, 2) := by decide +kernel
theorem px_d104_52 : decode prog_15_method_74_code 52 = .ok (.if_icmp .eq 9, 3) := by decide +kernel
theorem px_d104_55 : decode prog_15_method_74_code 55 = .ok (.iload_n 1, 1) := by decide +kernel
theorem px_d104_56 : decode prog_15_method_74_code 56 = .ok (.bipush 11, 2) := by decide +kernel
theorem px_d104_58 : decode prog_15_method_74_code 58 = .ok (.if_icmp .ne 10, 3) := by decide +kernel
theorem px_d104_61 : decode prog_15_method_74_code 61 = .ok (.aload_n 0, 1) := by decide +kernel
theorem px_d104_62 : decode prog_15_method_74_code 62 = .ok (.invokevirtual 419, 3) := by decide +kernel
theorem px_d104_65 : decode prog_15_method_74_code 65 = .ok (.goto 4, 3) := by decide +kernel
theorem px_d104_68 : decode prog_15_method_74_code 68 = .ok (.iload_n 2, 1) := by decide +kernel
theorem px_d104_69 : decode prog_15_method_74_code 69 = .ok (.istore_n 3, 1) := by decide +kernel
theorem px_d104_70 : decode prog_15_method_74_code 70 = .ok (.aload_n 0, 1) := by decide +kernel
theorem px_d104_71 : decode prog_15_method_74_code 71 = .ok (.aload_n 0, 1) := by decide +kernel
theorem px_d104_72 : decode prog_15_method_74_code 72 = .ok (.getfield 153, 3) := by decide +kernel
theorem px_d104_75 : decode prog_15_method_74_code 75 = .ok (.iload_n 2, 1) := by decide +kernel
theorem px_d104_76 : decode prog_15_method_74_code 76 = .ok (.baload, 1) := by decide +kernel
theorem px_d104_77 : decode prog_15_method_74_code 77 = .ok (.iconst 1, 1) := by decide +kernel
theorem px_d104_78 : decode prog_15_method_74_code 78 = .ok (.invokevirtual 404, 3) := by decide +kernel
theorem px_d104_81 : decode prog_15_method_74_code 81 = .ok (.ifCond .eq 17, 3) := by decide +kernel
theorem px_d104_84 : decode prog_15_method_74_code 84 = .ok (.aload_n 0, 1) := by decide +kernel
theorem px_d104_85 : decode prog_15_method_74_code 85 = .ok (.aload_n 0, 1) := by decide +kernel
theorem px_d104_86 : decode prog_15_method_74_code 86 = .ok (.getfield 153, 3) := by decide +kernel
theorem px_d104_89 : decode prog_15_method_74_code 89 = .ok (.iload_n 3, 1) := by decide +kernel
theorem px_d104_90 : decode prog_15_method_74_code 90 = .ok (.baload, 1) := by decide +kernel
theorem px_d104_91 : decode prog_15_method_74_code 91 = .ok (.iconst 1, 1) := by decide +kernel
theorem px_d104_92 : decode prog_15_method_74_code 92 = .ok (.invokevirtual 404, 3) := by decide +kernel
theorem px_d104_95 : decode prog_15_method_74_code 95 = .ok (.ifCond .ne 4, 3) := by decide +kernel
theorem px_d104_98 : decode prog_15_method_74_code 98 = .ok (.return_, 1) := by decide +kernel
theorem px_d104_99 : decode prog_15_method_74_code 99 = .ok (.iload_n 1, 1) := by decide +kernel
theorem px_d104_100 : decode prog_15_method_74_code 100 = .ok (.bipush 9, 2) := by decide +kernel
theorem px_d104_102 : decode prog_15_method_74_code 102 = .ok (.if_icmp .eq 9, 3) := by decide +kernel
theorem px_d104_105 : decode prog_15_method_74_code 105 = .ok (.iload_n 1, 1) := by decide +kernel
theorem px_d104_106 : decode prog_15_method_74_code 106 = .ok (.bipush 10, 2) := by decide +kernel
theorem px_d104_108 : decode prog_15_method_74_code 108 = .ok (.if_icmp .ne 26, 3) := by decide +kernel
theorem px_d104_111 : decode prog_15_method_74_code 111 = .ok (.aload_n 0, 1) := by decide +kernel
theorem px_d104_112 : decode prog_15_method_74_code 112 = .ok (.aload_n 0, 1) := by decide +kernel
theorem px_d104_113 : decode prog_15_method_74_code 113 = .ok (.getfield 160, 3) := by decide +kernel
theorem px_d104_116 : decode prog_15_method_74_code 116 = .ok (.iload_n 2, 1) := by decide +kernel
theorem px_d104_117 : decode prog_15_method_74_code 117 = .ok (.iaload, 1) := by decide +kernel
theorem px_d104_118 : decode prog_15_method_74_code 118 = .ok (.ifCond .ne 7, 3) := by decide +kernel
theorem px_d104_121 : decode prog_15_method_74_code 121 = .ok (.iconst 1, 1) := by decide +kernel
theorem px_d104_122 : decode prog_15_method_74_code 122 = .ok (.goto 4, 3) := by decide +kernel
theorem px_d104_125 : decode prog_15_method_74_code 125 = .ok (.iconst 0, 1) := by decide +kernel
theorem px_d104_126 : decode prog_15_method_74_code 126 = .ok (.iconst 5, 1) := by decide +kernel
theorem px_d104_127 : decode prog_15_method_74_code 127 = .ok (.invokevirtual 404, 3) := by decide +kernel
theorem px_d104_130 : decode prog_15_method_74_code 130 = .ok (.ifCond .ne 4, 3) := by decide +kernel
theorem px_d104_133 : decode prog_15_method_74_code 133 = .ok (.return_, 1) := by decide +kernel
theorem px_d104_134 : decode prog_15_method_74_code 134 = .ok (.iload_n 1, 1) := by decide +kernel
theorem px_d104_135 : decode prog_15_method_74_code 135 = .ok (.bipush 8, 2) := by decide +kernel
theorem px_d104_137 : decode prog_15_method_74_code 137 = .ok (.if_icmp .ne 32, 3) := by decide +kernel
theorem px_d104_140 : decode prog_15_method_74_code 140 = .ok (.aload_n 0, 1) := by decide +kernel
theorem px_d104_141 : decode prog_15_method_74_code 141 = .ok (.aload_n 0, 1) := by decide +kernel
theorem px_d104_142 : decode prog_15_method_74_code 142 = .ok (.getfield 157, 3) := by decide +kernel
theorem px_d104_145 : decode prog_15_method_74_code 145 = .ok (.iload_n 2, 1) := by decide +kernel
theorem px_d104_146 : decode prog_15_method_74_code 146 = .ok (.iaload, 1) := by decide +kernel
theorem px_d104_147 : decode prog_15_method_74_code 147 = .ok (.aload_n 0, 1) := by decide +kernel
theorem px_d104_148 : decode prog_15_method_74_code 148 = .ok (.getfield 157, 3) := by decide +kernel
theorem px_d104_151 : decode prog_15_method_74_code 151 = .ok (.iload_n 3, 1) := by decide +kernel
theorem px_d104_152 : decode prog_15_method_74_code 152 = .ok (.iaload, 1) := by decide +kernel
theorem px_d104_153 : decode prog_15_method_74_code 153 = .ok (.if_icmp .ne 7, 3) := by decide +kernel
theorem px_d104_156 : decode prog_15_method_74_code 156 = .ok (.iconst 1, 1) := by decide +kernel
theorem px_d104_157 : decode prog_15_method_74_code 157 = .ok (.goto 4, 3) := by decide +kernel
theorem px_d104_160 : decode prog_15_method_74_code 160 = .ok (.iconst 0, 1) := by decide +kernel
theorem px_d104_161 : decode prog_15_method_74_code 161 = .ok (.bipush 6, 2) := by decide +kernel
theorem px_d104_163 : decode prog_15_method_74_code 163 = .ok (.invokevirtual 404, 3) := by decide +kernel
theorem px_d104_166 : decode prog_15_method_74_code 166 = .ok (.ifCond .eq 10, 3) := by decide +kernel
theorem px_d104_169 : decode prog_15_method_74_code 169 = .ok (.aload_n 0, 1) := by decide +kernel
theorem px_d104_170 : decode prog_15_method_74_code 170 = .ok (.iload_n 1, 1) := by decide +kernel
theorem px_d104_171 : decode prog_15_method_74_code 171 = .ok (.iload_n 2, 1) := by decide +kernel
theorem px_d104_172 : decode prog_15_method_74_code 172 = .ok (.iload_n 3, 1) := by decide +kernel
theorem px_d104_173 : decode prog_15_method_74_code 173 = .ok (.invokevirtual 440, 3) := by decide +kernel
theorem px_d104_176 : decode prog_15_method_74_code 176 = .ok (.return_, 1) := by decide +kernel
theorem px_d115_0 : decode prog_15_method_86_code 0 = .ok (.aload_n 0, 1) := by decide +kernel
theorem px_d115_1 : decode prog_15_method_86_code 1 = .ok (.iload_n 1, 1) := by decide +kernel
theorem px_d115_2 : decode prog_15_method_86_code 2 = .ok (.iload_n 2, 1) := by decide +kernel
theorem px_d115_3 : decode prog_15_method_86_code 3 = .ok (.invokevirtual 478, 3) := by decide +kernel
theorem px_d115_6 : decode prog_15_method_86_code 6 = .ok (.ifCond .ne 22, 3) := by decide +kernel
theorem px_d115_9 : decode prog_15_method_86_code 9 = .ok (.aload_n 0, 1) := by decide +kernel
theorem px_d115_10 : decode prog_15_method_86_code 10 = .ok (.bipush 110, 2) := by decide +kernel
theorem px_d115_12 : decode prog_15_method_86_code 12 = .ok (.invokevirtual 446, 3) := by decide +kernel
theorem px_d115_15 : decode prog_15_method_86_code 15 = .ok (.aload_n 0, 1) := by decide +kernel
theorem px_d115_16 : decode prog_15_method_86_code 16 = .ok (.bipush 111, 2) := by decide +kernel
theorem px_d115_18 : decode prog_15_method_86_code 18 = .ok (.invokevirtual 446, 3) := by decide +kernel
theorem px_d115_21 : decode prog_15_method_86_code 21 = .ok (.aload_n 0, 1) := by decide +kernel
theorem px_d115_22 : decode prog_15_method_86_code 22 = .ok (.bipush 10, 2) := by decide +kernel
theorem px_d115_24 : decode prog_15_method_86_code 24 = .ok (.invokevirtual 446, 3) := by decide +kernel
theorem px_d115_27 : decode prog_15_method_86_code 27 = .ok (.return_, 1) := by decide +kernel
theorem px_d115_28 : decode prog_15_method_86_code 28 = .ok (.aload_n 0, 1) := by decide +kernel
theorem px_d115_29 : decode prog_15_method_86_code 29 = .ok (.aload_n 0, 1) := by decide +kernel
theorem px_d115_30 : decode prog_15_method_86_code 30 = .ok (.getfield 304, 3) := by decide +kernel
theorem px_d115_33 : decode prog_15_method_86_code 33 = .ok (.invokevirtual 469, 3) := by decide +kernel
theorem px_d115_36 : decode prog_15_method_86_code 36 = .ok (.aload_n 0, 1) := by decide +kernel
theorem px_d115_37 : decode prog_15_method_86_code 37 = .ok (.aload_n 0, 1) := by decide +kernel
theorem px_d115_38 : decode prog_15_method_86_code 38 = .ok (.iload_n 1, 1) := by decide +kernel
theorem px_d115_39 : decode prog_15_method_86_code 39 = .ok (.invokevirtual 262, 3) := by decide +kernel
theorem px_d115_42 : decode prog_15_method_86_code 42 = .ok (.aload_n 0, 1) := by decide +kernel
theorem px_d115_43 : decode prog_15_method_86_code 43 = .ok (.getfield 304, 3) := by decide +kernel
theorem px_d115_46 : decode prog_15_method_86_code 46 = .ok (.iconst (-1), 1) := by decide +kernel
theorem px_d115_47 : decode prog_15_method_86_code 47 = .ok (.ixor, 1) := by decide +kernel
theorem px_d115_48 : decode prog_15_method_86_code 48 = .ok (.iand, 1) := by decide +kernel
theorem px_d115_49 : decode prog_15_method_86_code 49 = .ok (.aload_n 0, 1) := by decide +kernel
theorem px_d115_50 : decode prog_15_method_86_code 50 = .ok (.getfield 301, 3) := by decide +kernel
theorem px_d115_53 : decode prog_15_method_86_code 53 = .ok (.iconst (-1), 1) := by decide +kernel
theorem px_d115_54 : decode prog_15_method_86_code 54 = .ok (.ixor, 1) := by decide +kernel
theorem px_d115_55 : decode prog_15_method_86_code 55 = .ok (.iand, 1) := by decide +kernel
theorem px_d115_56 : decode prog_15_method_86_code 56 = .ok (.invokevirtual 469, 3) := by decide +kernel
theorem px_d115_59 : decode prog_15_method_86_code 59 = .ok (.iconst 0, 1) := by decide +kernel
theorem px_d115_60 : decode prog_15_method_86_code 60 = .ok (.istore_n 3, 1) := by decide +kernel
theorem px_d115_61 : decode prog_15_method_86_code 61 = .ok (.iload_n 3, 1) := by decide +kernel
theorem px_d115_62 : decode prog_15_method_86_code 62 = .ok (.aload_n 0, 1) := by decide +kernel
theorem px_d115_63 : decode prog_15_method_86_code 63 = .ok (.getfield 157, 3) := by decide +kernel
theorem px_d115_66 : decode prog_15_method_86_code 66 = .ok (.iload_n 2, 1) := by decide +kernel
theorem px_d115_67 : decode prog_15_method_86_code 67 = .ok (.iaload, 1) := by decide +kernel
theorem px_d115_68 : decode prog_15_method_86_code 68 = .ok (.if_icmp .ge 30, 3) := by decide +kernel
theorem px_d115_71 : decode prog_15_method_86_code 71 = .ok (.iload_n 3, 1) := by decide +kernel
theorem px_d115_72 : decode prog_15_method_86_code 72 = .ok (.ifCond .le 9, 3) := by decide +kernel
theorem px_d115_75 : decode prog_15_method_86_code 75 = .ok (.aload_n 0, 1) := by decide +kernel
theorem px_d115_76 : decode prog_15_method_86_code 76 = .ok (.bipush 32, 2) := by decide +kernel
theorem px_d115_78 : decode prog_15_method_86_code 78 = .ok (.invokevirtual 446, 3) := by decide +kernel
theorem px_d115_81 : decode prog_15_method_86_code 81 = .ok (.aload_n 0, 1) := by decide +kernel
theorem px_d115_82 : decode prog_15_method_86_code 82 = .ok (.aload_n 0, 1) := by decide +kernel
theorem px_d115_83 : decode prog_15_method_86_code 83 = .ok (.getfield 200, 3) := by decide +kernel
theorem px_d115_86 : decode prog_15_method_86_code 86 = .ok (.iload_n 3, 1) := by decide +kernel
theorem px_d115_87 : decode prog_15_method_86_code 87 = .ok (.iaload, 1) := by decide +kernel
theorem px_d115_88 : decode prog_15_method_86_code 88 = .ok (.i2l, 1) := by decide +kernel
theorem px_d115_89 : decode prog_15_method_86_code 89 = .ok (.invokevirtual 454, 3) := by decide +kernel
theorem px_d115_92 : decode prog_15_method_86_code 92 = .ok (.iinc 3 1, 3) := by decide +kernel
theorem px_d115_95 : decode prog_15_method_86_code 95 = .ok (.goto (-34), 3) := by decide +kernel
theorem px_d115_98 : decode prog_15_method_86_code 98 = .ok (.aload_n 0, 1) := by decide +kernel
theorem px_d115_99 : decode prog_15_method_86_code 99 = .ok (.bipush 10, 2) := by decide +kernel
theorem px_d115_101 : decode prog_15_method_86_code 101 = .ok (.invokevirtual 446, 3) := by decide +kernel
theorem px_d115_104 : decode prog_15_method_86_code 104 = .ok (.return_, 1) := by decide +kernel
theorem px_d116_0 : decode prog_15_method_87_code 0 = .ok (.aload_n 0, 1) := by decide +kernel
theorem px_d116_1 : decode prog_15_method_87_code 1 = .ok (.getfield 443, 3) := by decide +kernel
theorem px_d116_4 : decode prog_15_method_87_code 4 = .ok (.istore 4, 2) := by decide +kernel
theorem px_d116_6 : decode prog_15_method_87_code 6 = .ok (.iload_n 1, 1) := by decide +kernel
theorem px_d116_7 : decode prog_15_method_87_code 7 = .ok (.iconst 1, 1) := by decide +kernel
theorem px_d116_8 : decode prog_15_method_87_code 8 = .ok (.if_icmp .ne 23, 3) := by decide +kernel
theorem px_d116_11 : decode prog_15_method_87_code 11 = .ok (.aload_n 0, 1) := by decide +kernel
theorem px_d116_12 : decode prog_15_method_87_code 12 = .ok (.aload_n 0, 1) := by decide +kernel
theorem px_d116_13 : decode prog_15_method_87_code 13 = .ok (.getfield 163, 3) := by decide +kernel
theorem px_d116_16 : decode prog_15_method_87_code 16 = .ok (.iload_n 2, 1) := by decide +kernel
theorem px_d116_17 : decode prog_15_method_87_code 17 = .ok (.iaload, 1) := by decide +kernel
theorem px_d116_18 : decode prog_15_method_87_code 18 = .ok (.i2l, 1) := by decide +kernel
theorem px_d116_19 : decode prog_15_method_87_code 19 = .ok (.invokevirtual 454, 3) := by decide +kernel
theorem px_d116_22 : decode prog_15_method_87_code 22 = .ok (.aload_n 0, 1) := by decide +kernel
theorem px_d116_23 : decode prog_15_method_87_code 23 = .ok (.bipush 10, 2) := by decide +kernel
theorem px_d116_25 : decode prog_15_method_87_code 25 = .ok (.invokevirtual 446, 3) := by decide +kernel
theorem px_d116_28 : decode prog_15_method_87_code 28 = .ok (.goto 133, 3) := by decide +kernel
theorem px_d116_31 : decode prog_15_method_87_code 31 = .ok (.iload_n 1, 1) := by decide +kernel
theorem px_d116_32 : decode prog_15_method_87_code 32 = .ok (.iconst 2, 1) := by decide +kernel
theorem px_d116_33 : decode prog_15_method_87_code 33 = .ok (.if_icmp .lt 19, 3) := by decide +kernel
theorem px_d116_36 : decode prog_15_method_87_code 36 = .ok (.iload_n 1, 1) := by decide +kernel
theorem px_d116_37 : decode prog_15_method_87_code 37 = .ok (.iconst 5, 1) := by decide +kernel
theorem px_d116_38 : decode prog_15_method_87_code 38 = .ok (.if_icmp .gt 14, 3) := by decide +kernel
theorem px_d116_41 : decode prog_15_method_87_code 41 = .ok (.aload_n 0, 1) := by decide +kernel
theorem px_d116_42 : decode prog_15_method_87_code 42 = .ok (.iload_n 2, 1) := by decide +kernel
theorem px_d116_43 : decode prog_15_method_87_code 43 = .ok (.iload_n 1, 1) := by decide +kernel
theorem px_d116_44 : decode prog_15_method_87_code 44 = .ok (.iconst 2, 1) := by decide +kernel
theorem px_d116_45 : decode prog_15_method_87_code 45 = .ok (.isub, 1) := by decide +kernel
theorem px_d116_46 : decode prog_15_method_87_code 46 = .ok (.invokevirtual 481, 3) := by decide +kernel
theorem px_d116_49 : decode prog_15_method_87_code 49 = .ok (.goto 112, 3) := by decide +kernel
theorem px_d116_52 : decode prog_15_method_87_code 52 = .ok (.iload_n 1, 1) := by decide +kernel
theorem px_d116_53 : decode prog_15_method_87_code 53 = .ok (.bipush 6, 2) := by decide +kernel
theorem px_d116_55 : decode prog_15_method_87_code 55 = .ok (.if_icmp .ne 11, 3) := by decide +kernel
theorem px_d116_58 : decode prog_15_method_87_code 58 = .ok (.aload_n 0, 1) := by decide +kernel
theorem px_d116_59 : decode prog_15_method_87_code 59 = .ok (.iload_n 2, 1) := by decide +kernel
theorem px_d116_60 : decode prog_15_method_87_code 60 = .ok (.invokevirtual 484, 3) := by decide +kernel
theorem px_d116_63 : decode prog_15_method_87_code 63 = .ok (.goto 98, 3) := by decide +kernel
theorem px_d116_66 : decode prog_15_method_87_code 66 = .ok (.iload_n 1, 1) := by decide +kernel
theorem px_d116_67 : decode prog_15_method_87_code 67 = .ok (.bipush 7, 2) := by decide +kernel
theorem px_d116_69 : decode prog_15_method_87_code 69 = .ok (.if_icmp .ne 15, 3) := by decide +kernel
theorem px_d116_72 : decode prog_15_method_87_code 72 = .ok (.aload_n 0, 1) := by decide +kernel
theorem px_d116_73 : decode prog_15_method_87_code 73 = .ok (.aload_n 0, 1) := by decide +kernel
theorem px_d116_74 : decode prog_15_method_87_code 74 = .ok (.iload_n 2, 1) := by decide +kernel
theorem px_d116_75 : decode prog_15_method_87_code 75 = .ok (.invokevirtual 487, 3) := by decide +kernel
theorem px_d116_78 : decode prog_15_method_87_code 78 = .ok (.invokevirtual 469, 3) := by decide +kernel
theorem px_d116_81 : decode prog_15_method_87_code 81 = .ok (.goto 80, 3) := by decide +kernel
theorem px_d116_84 : decode prog_15_method_87_code 84 = .ok (.iload_n 1, 1) := by decide +kernel
theorem px_d116_85 : decode prog_15_method_87_code 85 = .ok (.bipush 8, 2) := by decide +kernel
theorem px_d116_87 : decode prog_15_method_87_code 87 = .ok (.if_icmp .ne 26, 3) := by decide +kernel
theorem px_d116_90 : decode prog_15_method_87_code 90 = .ok (.aload_n 0, 1) := by decide +kernel
theorem px_d116_91 : decode prog_15_method_87_code 91 = .ok (.aload_n 0, 1) := by decide +kernel
theorem px_d116_92 : decode prog_15_method_87_code 92 = .ok (.iload_n 2, 1) := by decide +kernel
theorem px_d116_93 : decode prog_15_method_87_code 93 = .ok (.iload_n 3, 1) := by decide +kernel
theorem px_d116_94 : decode prog_15_method_87_code 94 = .ok (.invokevirtual 282, 3) := by decide +kernel
theorem px_d116_97 : decode prog_15_method_87_code 97 = .ok (.invokevirtual 469, 3) := by decide +kernel
theorem px_d116_100 : decode prog_15_method_87_code 100 = .ok (.aload_n 0, 1) := by decide +kernel
theorem px_d116_101 : decode prog_15_method_87_code 101 = .ok (.aload_n 0, 1) := by decide +kernel
theorem px_d116_102 : decode prog_15_method_87_code 102 = .ok (.iload_n 2, 1) := by decide +kernel
theorem px_d116_103 : decode prog_15_method_87_code 103 = .ok (.iload_n 3, 1) := by decide +kernel
theorem px_d116_104 : decode prog_15_method_87_code 104 = .ok (.invokevirtual 490, 3) := by decide +kernel
theorem px_d116_107 : decode prog_15_method_87_code 107 = .ok (.invokevirtual 469, 3) := by decide +kernel
theorem px_d116_110 : decode prog_15_method_87_code 110 = .ok (.goto 51, 3) := by decide +kernel
theorem px_d116_113 : decode prog_15_method_87_code 113 = .ok (.iload_n 1, 1) := by decide +kernel
theorem px_d116_114 : decode prog_15_method_87_code 114 = .ok (.bipush 9, 2) := by decide +kernel
theorem px_d116_116 : decode prog_15_method_87_code 116 = .ok (.if_icmp .ne 11, 3) := by decide +kernel
theorem px_d116_119 : decode prog_15_method_87_code 119 = .ok (.aload_n 0, 1) := by decide +kernel
theorem px_d116_120 : decode prog_15_method_87_code 120 = .ok (.iload_n 2, 1) := by decide +kernel
theorem px_d116_121 : decode prog_15_method_87_code 121 = .ok (.invokevirtual 493, 3) := by decide +kernel
theorem px_d116_124 : decode prog_15_method_87_code 124 = .ok (.goto 37, 3) := by decide +kernel
theorem px_d116_127 : decode prog_15_method_87_code 127 = .ok (.iload_n 1, 1) := by decide +kernel
theorem px_d116_128 : decode prog_15_method_87_code 128 = .ok (.bipush 10, 2) := by decide +kernel
theorem px_d116_130 : decode prog_15_method_87_code 130 = .ok (.if_icmp .ne 11, 3) := by decide +kernel
theorem px_d116_133 : decode prog_15_method_87_code 133 = .ok (.aload_n 0, 1) := by decide +kernel
theorem px_d116_134 : decode prog_15_method_87_code 134 = .ok (.iload_n 2, 1) := by decide +kernel
theorem px_d116_135 : decode prog_15_method_87_code 135 = .ok (.invokevirtual 496, 3) := by decide +kernel
theorem px_d116_138 : decode prog_15_method_87_code 138 = .ok (.goto 23, 3) := by decide +kernel
theorem px_d116_141 : decode prog_15_method_87_code 141 = .ok (.iload_n 1, 1) := by decide +kernel
theorem px_d116_142 : decode prog_15_method_87_code 142 = .ok (.bipush 11, 2) := by decide +kernel
theorem px_d116_144 : decode prog_15_method_87_code 144 = .ok (.if_icmp .ne 12, 3) := by decide +kernel
theorem px_d116_147 : decode prog_15_method_87_code 147 = .ok (.aload_n 0, 1) := by decide +kernel
theorem px_d116_148 : decode prog_15_method_87_code 148 = .ok (.iload_n 2, 1) := by decide +kernel
theorem px_d116_149 : decode prog_15_method_87_code 149 = .ok (.iload_n 3, 1) := by decide +kernel
theorem px_d116_150 : decode prog_15_method_87_code 150 = .ok (.invokevirtual 499, 3) := by decide +kernel
theorem px_d116_153 : decode prog_15_method_87_code 153 = .ok (.goto 8, 3) := by decide +kernel
theorem px_d116_156 : decode prog_15_method_87_code 156 = .ok (.aload_n 0, 1) := by decide +kernel
theorem px_d116_157 : decode prog_15_method_87_code 157 = .ok (.iload_n 2, 1) := by decide +kernel
theorem px_d116_158 : decode prog_15_method_87_code 158 = .ok (.invokevirtual 502, 3) := by decide +kernel
theorem px_d116_161 : decode prog_15_method_87_code 161 = .ok (.aload_n 0, 1) := by decide +kernel
theorem px_d116_162 : decode prog_15_method_87_code 162 = .ok (.aload_n 0, 1) := by decide +kernel
theorem px_d116_163 : decode prog_15_method_87_code 163 = .ok (.getfield 395, 3) := by decide +kernel
theorem px_d116_166 : decode prog_15_method_87_code 166 = .ok (.ifCond .le 8, 3) := by decide +kernel
theorem px_d116_169 : decode prog_15_method_87_code 169 = .ok (.iload 4, 2) := by decide +kernel
theorem px_d116_171 : decode prog_15_method_87_code 171 = .ok (.goto 7, 3) := by decide +kernel
theorem px_d116_174 : decode prog_15_method_87_code 174 = .ok (.aload_n 0, 1) := by decide +kernel
theorem px_d116_175 : decode prog_15_method_87_code 175 = .ok (.getfield 443, 3) := by decide +kernel
theorem px_d116_178 : decode prog_15_method_87_code 178 = .ok (.putfield 443, 3) := by decide +kernel
theorem px_d116_181 : decode prog_15_method_87_code 181 = .ok (.return_, 1) := by decide +kernel
theorem px_d117_0 : decode prog_15_method_92_code 0 = .ok (.aload_n 0, 1) := by decide +kernel
theorem px_d117_1 : decode prog_15_method_92_code 1 = .ok (.iconst 0, 1) := by decide +kernel
theorem px_d117_2 : decode prog_15_method_92_code 2 = .ok (.putfield 505, 3) := by decide +kernel
theorem px_d117_5 : decode prog_15_method_92_code 5 = .ok (.iconst 0, 1) := by decide +kernel
theorem px_d117_6 : decode prog_15_method_92_code 6 = .ok (.istore_n 1, 1) := by decide +kernel
theorem px_d117_7 : decode prog_15_method_92_code 7 = .ok (.iload_n 1, 1) := by decide +kernel
theorem px_d117_8 : decode prog_15_method_92_code 8 = .ok (.aload_n 0, 1) := by decide +kernel
theorem px_d117_9 : decode prog_15_method_92_code 9 = .ok (.getfield 508, 3) := by decide +kernel
theorem px_d117_12 : decode prog_15_method_92_code 12 = .ok (.if_icmp .ge 21, 3) := by decide +kernel
theorem px_d117_15 : decode prog_15_method_92_code 15 = .ok (.aload_n 0, 1) := by decide +kernel
theorem px_d117_16 : decode prog_15_method_92_code 16 = .ok (.getfield 206, 3) := by decide +kernel
theorem px_d117_19 : decode prog_15_method_92_code 19 = .ok (.iload_n 1, 1) := by decide +kernel
theorem px_d117_20 : decode prog_15_method_92_code 20 = .ok (.aload_n 0, 1) := by decide +kernel
theorem px_d117_21 : decode prog_15_method_92_code 21 = .ok (.getfield 225, 3) := by decide +kernel
theorem px_d117_24 : decode prog_15_method_92_code 24 = .ok (.iload_n 1, 1) := by decide +kernel
theorem px_d117_25 : decode prog_15_method_92_code 25 = .ok (.baload, 1) := by decide +kernel
theorem px_d117_26 : decode prog_15_method_92_code 26 = .ok (.bastore, 1) := by decide +kernel
theorem px_d117_27 : decode prog_15_method_92_code 27 = .ok (.iinc 1 1, 3) := by decide +kernel
theorem px_d117_30 : decode prog_15_method_92_code 30 = .ok (.goto (-23), 3) := by decide +kernel
theorem px_d117_33 : decode prog_15_method_92_code 33 = .ok (.aload_n 0, 1) := by decide +kernel
theorem px_d117_34 : decode prog_15_method_92_code 34 = .ok (.aload_n 0, 1) := by decide +kernel
theorem px_d117_35 : decode prog_15_method_92_code 35 = .ok (.getfield 508, 3) := by decide +kernel
theorem px_d117_38 : decode prog_15_method_92_code 38 = .ok (.putfield 326, 3) := by decide +kernel
theorem px_d117_41 : decode prog_15_method_92_code 41 = .ok (.aload_n 0, 1) := by decide +kernel
theorem px_d117_42 : decode prog_15_method_92_code 42 = .ok (.iconst 0, 1) := by decide +kernel
theorem px_d117_43 : decode prog_15_method_92_code 43 = .ok (.putfield 508, 3) := by decide +kernel
theorem px_d117_46 : decode prog_15_method_92_code 46 = .ok (.aload_n 0, 1) := by decide +kernel
theorem px_d117_47 : decode prog_15_method_92_code 47 = .ok (.invokevirtual 513, 3) := by decide +kernel
theorem px_d117_50 : decode prog_15_method_92_code 50 = .ok (.ifCond .ne 5, 3) := by decide +kernel
theorem px_d117_53 : decode prog_15_method_92_code 53 = .ok (.iconst (-1), 1) := by decide +kernel
theorem px_d117_54 : decode prog_15_method_92_code 54 = .ok (.ireturn, 1) := by decide +kernel
theorem px_d117_55 : decode prog_15_method_92_code 55 = .ok (.aload_n 0, 1) := by decide +kernel
theorem px_d117_56 : decode prog_15_method_92_code 56 = .ok (.iconst 0, 1) := by decide +kernel
theorem px_d117_57 : decode prog_15_method_92_code 57 = .ok (.putfield 443, 3) := by decide +kernel
theorem px_d117_60 : decode prog_15_method_92_code 60 = .ok (.aload_n 0, 1) := by decide +kernel
theorem px_d117_61 : decode prog_15_method_92_code 61 = .ok (.iconst 0, 1) := by decide +kernel
theorem px_d117_62 : decode prog_15_method_92_code 62 = .ok (.putfield 395, 3) := by decide +kernel
theorem px_d117_65 : decode prog_15_method_92_code 65 = .ok (.iconst 0, 1) := by decide +kernel
theorem px_d117_66 : decode prog_15_method_92_code 66 = .ok (.istore_n 1, 1) := by decide +kernel
theorem px_d117_67 : decode prog_15_method_92_code 67 = .ok (.aload_n 0, 1) := by decide +kernel
theorem px_d117_68 : decode prog_15_method_92_code 68 = .ok (.iconst 0, 1) := by decide +kernel
theorem px_d117_69 : decode prog_15_method_92_code 69 = .ok (.putfield 329, 3) := by decide +kernel
theorem px_d117_72 : decode prog_15_method_92_code 72 = .ok (.aload_n 0, 1) := by decide +kernel
theorem px_d117_73 : decode prog_15_method_92_code 73 = .ok (.invokevirtual 359, 3) := by decide +kernel
theorem px_d117_76 : decode prog_15_method_92_code 76 = .ok (.aload_n 0, 1) := by decide +kernel
theorem px_d117_77 : decode prog_15_method_92_code 77 = .ok (.getfield 338, 3) := by decide +kernel
theorem px_d117_80 : decode prog_15_method_92_code 80 = .ok (.ifCond .eq 31, 3) := by decide +kernel
theorem px_d117_83 : decode prog_15_method_92_code 83 = .ok (.aload_n 0, 1) := by decide +kernel
theorem px_d117_84 : decode prog_15_method_92_code 84 = .ok (.getfield 395, 3) := by decide +kernel
theorem px_d117_87 : decode prog_15_method_92_code 87 = .ok (.ifCond .ne 24, 3) := by decide +kernel
theorem px_d117_90 : decode prog_15_method_92_code 90 = .ok (.aload_n 0, 1) := by decide +kernel
theorem px_d117_91 : decode prog_15_method_92_code 91 = .ok (.invokevirtual 516, 3) := by decide +kernel
theorem px_d117_94 : decode prog_15_method_92_code 94 = .ok (.aload_n 0, 1) := by decide +kernel
theorem px_d117_95 : decode prog_15_method_92_code 95 = .ok (.getfield 395, 3) := by decide +kernel
theorem px_d117_98 : decode prog_15_method_92_code 98 = .ok (.ifCond .ne (-22), 3) := by decide +kernel
theorem px_d117_101 : decode prog_15_method_92_code 101 = .ok (.aload_n 0, 1) := by decide +kernel
theorem px_d117_102 : decode prog_15_method_92_code 102 = .ok (.invokevirtual 359, 3) := by decide +kernel
theorem px_d117_105 : decode prog_15_method_92_code 105 = .ok (.iinc 1 1, 3) := by decide +kernel
theorem px_d117_108 : decode prog_15_method_92_code 108 = .ok (.goto (-32), 3) := by decide +kernel
theorem px_d117_111 : decode prog_15_method_92_code 111 = .ok (.aload_n 0, 1) := by decide +kernel
theorem px_d117_112 : decode prog_15_method_92_code 112 = .ok (.aload_n 0, 1) := by decide +kernel
theorem px_d117_113 : decode prog_15_method_92_code 113 = .ok (.getfield 395, 3) := by decide +kernel
theorem px_d117_116 : decode prog_15_method_92_code 116 = .ok (.putfield 519, 3) := by decide +kernel
theorem px_d117_119 : decode prog_15_method_92_code 119 = .ok (.iload_n 1, 1) := by decide +kernel
theorem px_d117_120 : decode prog_15_method_92_code 120 = .ok (.ireturn, 1) := by decide +kernel
theorem px_d131_0 : decode prog_15_method_110_code 0 = .ok (.aload_n 0, 1) := by decide +kernel
theorem px_d131_1 : decode prog_15_method_110_code 1 = .ok (.iload_n 1, 1) := by decide +kernel
theorem px_d131_2 : decode prog_15_method_110_code 2 = .ok (.invokevirtual 522, 3) := by decide +kernel
theorem px_d131_5 : decode prog_15_method_110_code 5 = .ok (.ifCond .eq 27, 3) := by decide +kernel
theorem px_d131_8 : decode prog_15_method_110_code 8 = .ok (.aload_n 0, 1) := by decide +kernel
theorem px_d131_9 : decode prog_15_method_110_code 9 = .ok (.iload_n 2, 1) := by decide +kernel
theorem px_d131_10 : decode prog_15_method_110_code 10 = .ok (.invokevirtual 522, 3) := by decide +kernel
theorem px_d131_13 : decode prog_15_method_110_code 13 = .ok (.ifCond .eq 19, 3) := by decide +kernel
theorem px_d131_16 : decode prog_15_method_110_code 16 = .ok (.aload_n 0, 1) := by decide +kernel
theorem px_d131_17 : decode prog_15_method_110_code 17 = .ok (.iload_n 1, 1) := by decide +kernel
theorem px_d131_18 : decode prog_15_method_110_code 18 = .ok (.iload_n 2, 1) := by decide +kernel
theorem px_d131_19 : decode prog_15_method_110_code 19 = .ok (.invokevirtual 478, 3) := by decide +kernel
theorem px_d131_22 : decode prog_15_method_110_code 22 = .ok (.ifCond .eq 10, 3) := by decide +kernel
theorem px_d131_25 : decode prog_15_method_110_code 25 = .ok (.aload_n 0, 1) := by decide +kernel
theorem px_d131_26 : decode prog_15_method_110_code 26 = .ok (.getfield 304, 3) := by decide +kernel
theorem px_d131_29 : decode prog_15_method_110_code 29 = .ok (.goto 4, 3) := by decide +kernel
theorem px_d131_32 : decode prog_15_method_110_code 32 = .ok (.iconst (-1), 1) := by decide +kernel
theorem px_d131_33 : decode prog_15_method_110_code 33 = .ok (.ireturn, 1) := by decide +kernel
theorem px_d132_0 : decode prog_15_method_111_code 0 = .ok (.aload_n 0, 1) := by decide +kernel
theorem px_d132_1 : decode prog_15_method_111_code 1 = .ok (.iload_n 1, 1) := by decide +kernel
theorem px_d132_2 : decode prog_15_method_111_code 2 = .ok (.invokevirtual 522, 3) := by decide +kernel
theorem px_d132_5 : decode prog_15_method_111_code 5 = .ok (.ifCond .eq 42, 3) := by decide +kernel
theorem px_d132_8 : decode prog_15_method_111_code 8 = .ok (.aload_n 0, 1) := by decide +kernel
theorem px_d132_9 : decode prog_15_method_111_code 9 = .ok (.iload_n 2, 1) := by decide +kernel
theorem px_d132_10 : decode prog_15_method_111_code 10 = .ok (.invokevirtual 522, 3) := by decide +kernel
theorem px_d132_13 : decode prog_15_method_111_code 13 = .ok (.ifCond .eq 34, 3) := by decide +kernel
theorem px_d132_16 : decode prog_15_method_111_code 16 = .ok (.aload_n 0, 1) := by decide +kernel
theorem px_d132_17 : decode prog_15_method_111_code 17 = .ok (.iload_n 1, 1) := by decide +kernel
theorem px_d132_18 : decode prog_15_method_111_code 18 = .ok (.iload_n 2, 1) := by decide +kernel
theorem px_d132_19 : decode prog_15_method_111_code 19 = .ok (.invokevirtual 478, 3) := by decide +kernel
theorem px_d132_22 : decode prog_15_method_111_code 22 = .ok (.ifCond .eq 25, 3) := by decide +kernel
theorem px_d132_25 : decode prog_15_method_111_code 25 = .ok (.aload_n 0, 1) := by decide +kernel
theorem px_d132_26 : decode prog_15_method_111_code 26 = .ok (.iload_n 1, 1) := by decide +kernel
theorem px_d132_27 : decode prog_15_method_111_code 27 = .ok (.invokevirtual 262, 3) := by decide +kernel
theorem px_d132_30 : decode prog_15_method_111_code 30 = .ok (.aload_n 0, 1) := by decide +kernel
theorem px_d132_31 : decode prog_15_method_111_code 31 = .ok (.getfield 304, 3) := by decide +kernel
theorem px_d132_34 : decode prog_15_method_111_code 34 = .ok (.iconst (-1), 1) := by decide +kernel
theorem px_d132_35 : decode prog_15_method_111_code 35 = .ok (.ixor, 1) := by decide +kernel
theorem px_d132_36 : decode prog_15_method_111_code 36 = .ok (.iand, 1) := by decide +kernel
theorem px_d132_37 : decode prog_15_method_111_code 37 = .ok (.aload_n 0, 1) := by decide +kernel
theorem px_d132_38 : decode prog_15_method_111_code 38 = .ok (.getfield 301, 3) := by decide +kernel
theorem px_d132_41 : decode prog_15_method_111_code 41 = .ok (.iconst (-1), 1) := by decide +kernel
theorem px_d132_42 : decode prog_15_method_111_code 42 = .ok (.ixor, 1) := by decide +kernel
theorem px_d132_43 : decode prog_15_method_111_code 43 = .ok (.iand, 1) := by decide +kernel
theorem px_d132_44 : decode prog_15_method_111_code 44 = .ok (.goto 4, 3) := by decide +kernel
theorem px_d132_47 : decode prog_15_method_111_code 47 = .ok (.iconst (-1), 1) := by decide +kernel
theorem px_d132_48 : decode prog_15_method_111_code 48 = .ok (.ireturn, 1) := by decide +kernel
theorem px_d133_0 : decode prog_15_method_112_code 0 = .ok (.aload_n 0, 1) := by decide +kernel
theorem px_d133_1 : decode prog_15_method_112_code 1 = .ok (.iload_n 1, 1) := by decide +kernel
theorem px_d133_2 : decode prog_15_method_112_code 2 = .ok (.invokevirtual 522, 3) := by decide +kernel
theorem px_d133_5 : decode prog_15_method_112_code 5 = .ok (.ifCond .eq 43, 3) := by decide +kernel
theorem px_d133_8 : decode prog_15_method_112_code 8 = .ok (.aload_n 0, 1) := by decide +kernel
theorem px_d133_9 : decode prog_15_method_112_code 9 = .ok (.iload_n 2, 1) := by decide +kernel
theorem px_d133_10 : decode prog_15_method_112_code 10 = .ok (.invokevirtual 522, 3) := by decide +kernel
theorem px_d133_13 : decode prog_15_method_112_code 13 = .ok (.ifCond .eq 35, 3) := by decide +kernel
theorem px_d133_16 : decode prog_15_method_112_code 16 = .ok (.iload_n 3, 1) := by decide +kernel
theorem px_d133_17 : decode prog_15_method_112_code 17 = .ok (.ifCond .lt 31, 3) := by decide +kernel
theorem px_d133_20 : decode prog_15_method_112_code 20 = .ok (.iload_n 3, 1) := by decide +kernel
theorem px_d133_21 : decode prog_15_method_112_code 21 = .ok (.aload_n 0, 1) := by decide +kernel
theorem px_d133_22 : decode prog_15_method_112_code 22 = .ok (.getfield 157, 3) := by decide +kernel
theorem px_d133_25 : decode prog_15_method_112_code 25 = .ok (.iload_n 2, 1) := by decide +kernel
theorem px_d133_26 : decode prog_15_method_112_code 26 = .ok (.iaload, 1) := by decide +kernel
theorem px_d133_27 : decode prog_15_method_112_code 27 = .ok (.if_icmp .ge 21, 3) := by decide +kernel
theorem px_d133_30 : decode prog_15_method_112_code 30 = .ok (.aload_n 0, 1) := by decide +kernel
theorem px_d133_31 : decode prog_15_method_112_code 31 = .ok (.iload_n 1, 1) := by decide +kernel
theorem px_d133_32 : decode prog_15_method_112_code 32 = .ok (.iload_n 2, 1) := by decide +kernel
theorem px_d133_33 : decode prog_15_method_112_code 33 = .ok (.invokevirtual 478, 3) := by decide +kernel
theorem px_d133_36 : decode prog_15_method_112_code 36 = .ok (.ifCond .eq 12, 3) := by decide +kernel
theorem px_d133_39 : decode prog_15_method_112_code 39 = .ok (.aload_n 0, 1) := by decide +kernel
theorem px_d133_40 : decode prog_15_method_112_code 40 = .ok (.getfield 200, 3) := by decide +kernel
theorem px_d133_43 : decode prog_15_method_112_code 43 = .ok (.iload_n 3, 1) := by decide +kernel
