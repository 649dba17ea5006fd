theorem px_d17_0 : decode prog_16_method_10_code 0 = .ok (.aload_n 2, 1) := by decide +kernel
theorem px_d17_1 : decode prog_16_method_10_code 1 = .ok (.getfield 13, 3) := by decide +kernel
theorem px_d17_4 : decode prog_16_method_10_code 4 = .ok (.ifCond .le 14, 3) := by decide +kernel
theorem px_d17_7 : decode prog_16_method_10_code 7 = .ok (.aload_n 2, 1) := by decide +kernel
theorem px_d17_8 : decode prog_16_method_10_code 8 = .ok (.getfield 17, 3) := by decide +kernel
theorem px_d17_11 : decode prog_16_method_10_code 11 = .ok (.ifCond .ne 7, 3) := by decide +kernel
theorem px_d17_14 : decode prog_16_method_10_code 14 = .ok (.iconst 1, 1) := by decide +kernel
theorem px_d17_15 : decode prog_16_method_10_code 15 = .ok (.goto 4, 3) := by decide +kernel
theorem px_d17_18 : decode prog_16_method_10_code 18 = .ok (.iconst 0, 1) := by decide +kernel
theorem px_d17_19 : decode prog_16_method_10_code 19 = .ok (.istore_n 3, 1) := by decide +kernel
theorem px_d17_20 : decode prog_16_method_10_code 20 = .ok (.aload_n 1, 1) := by decide +kernel
theorem px_d17_21 : decode prog_16_method_10_code 21 = .ok (.getfield 13, 3) := by decide +kernel
theorem px_d17_24 : decode prog_16_method_10_code 24 = .ok (.ifCond .eq 18, 3) := by decide +kernel
theorem px_d17_27 : decode prog_16_method_10_code 27 = .ok (.aload_n 2, 1) := by decide +kernel
theorem px_d17_28 : decode prog_16_method_10_code 28 = .ok (.getfield 13, 3) := by decide +kernel
theorem px_d17_31 : decode prog_16_method_10_code 31 = .ok (.ifCond .eq 11, 3) := by decide +kernel
theorem px_d17_34 : decode prog_16_method_10_code 34 = .ok (.aload_n 1, 1) := by decide +kernel
theorem px_d17_35 : decode prog_16_method_10_code 35 = .ok (.getfield 17, 3) := by decide +kernel
theorem px_d17_38 : decode prog_16_method_10_code 38 = .ok (.iload_n 3, 1) := by decide +kernel
theorem px_d17_39 : decode prog_16_method_10_code 39 = .ok (.if_icmp .ne 152, 3) := by decide +kernel
theorem px_d17_42 : decode prog_16_method_10_code 42 = .ok (.aload_n 1, 1) := by decide +kernel
theorem px_d17_43 : decode prog_16_method_10_code 43 = .ok (.getfield 13, 3) := by decide +kernel
theorem px_d17_46 : decode prog_16_method_10_code 46 = .ok (.aload_n 2, 1) := by decide +kernel
theorem px_d17_47 : decode prog_16_method_10_code 47 = .ok (.getfield 13, 3) := by decide +kernel
theorem px_d17_50 : decode prog_16_method_10_code 50 = .ok (.if_icmp .le 10, 3) := by decide +kernel
theorem px_d17_53 : decode prog_16_method_10_code 53 = .ok (.aload_n 1, 1) := by decide +kernel
theorem px_d17_54 : decode prog_16_method_10_code 54 = .ok (.getfield 13, 3) := by decide +kernel
theorem px_d17_57 : decode prog_16_method_10_code 57 = .ok (.goto 7, 3) := by decide +kernel
theorem px_d17_60 : decode prog_16_method_10_code 60 = .ok (.aload_n 2, 1) := by decide +kernel
theorem px_d17_61 : decode prog_16_method_10_code 61 = .ok (.getfield 13, 3) := by decide +kernel
theorem px_d17_64 : decode prog_16_method_10_code 64 = .ok (.istore 4, 2) := by decide +kernel
theorem px_d17_66 : decode prog_16_method_10_code 66 = .ok (.iconst 0, 1) := by decide +kernel
theorem px_d17_67 : decode prog_16_method_10_code 67 = .ok (.istore 5, 2) := by decide +kernel
theorem px_d17_69 : decode prog_16_method_10_code 69 = .ok (.iconst 0, 1) := by decide +kernel
theorem px_d17_70 : decode prog_16_method_10_code 70 = .ok (.istore 6, 2) := by decide +kernel
theorem px_d17_72 : decode prog_16_method_10_code 72 = .ok (.iload 6, 2) := by decide +kernel
theorem px_d17_74 : decode prog_16_method_10_code 74 = .ok (.iload 4, 2) := by decide +kernel
theorem px_d17_76 : decode prog_16_method_10_code 76 = .ok (.if_icmp .ge 74, 3) := by decide +kernel
theorem px_d17_79 : decode prog_16_method_10_code 79 = .ok (.iload 5, 2) := by decide +kernel
theorem px_d17_81 : decode prog_16_method_10_code 81 = .ok (.iload 6, 2) := by decide +kernel
theorem px_d17_83 : decode prog_16_method_10_code 83 = .ok (.aload_n 1, 1) := by decide +kernel
theorem px_d17_84 : decode prog_16_method_10_code 84 = .ok (.getfield 13, 3) := by decide +kernel
theorem px_d17_87 : decode prog_16_method_10_code 87 = .ok (.if_icmp .ge 13, 3) := by decide +kernel
theorem px_d17_90 : decode prog_16_method_10_code 90 = .ok (.aload_n 1, 1) := by decide +kernel
theorem px_d17_91 : decode prog_16_method_10_code 91 = .ok (.getfield 7, 3) := by decide +kernel
theorem px_d17_94 : decode prog_16_method_10_code 94 = .ok (.iload 6, 2) := by decide +kernel
theorem px_d17_96 : decode prog_16_method_10_code 96 = .ok (.iaload, 1) := by decide +kernel
theorem px_d17_97 : decode prog_16_method_10_code 97 = .ok (.goto 4, 3) := by decide +kernel
theorem px_d17_100 : decode prog_16_method_10_code 100 = .ok (.iconst 0, 1) := by decide +kernel
theorem px_d17_101 : decode prog_16_method_10_code 101 = .ok (.iload 6, 2) := by decide +kernel
theorem px_d17_103 : decode prog_16_method_10_code 103 = .ok (.aload_n 2, 1) := by decide +kernel
theorem px_d17_104 : decode prog_16_method_10_code 104 = .ok (.getfield 13, 3) := by decide +kernel
theorem px_d17_107 : decode prog_16_method_10_code 107 = .ok (.if_icmp .ge 13, 3) := by decide +kernel
theorem px_d17_110 : decode prog_16_method_10_code 110 = .ok (.aload_n 2, 1) := by decide +kernel
theorem px_d17_111 : decode prog_16_method_10_code 111 = .ok (.getfield 7, 3) := by decide +kernel
theorem px_d17_114 : decode prog_16_method_10_code 114 = .ok (.iload 6, 2) := by decide +kernel
theorem px_d17_116 : decode prog_16_method_10_code 116 = .ok (.iaload, 1) := by decide +kernel
theorem px_d17_117 : decode prog_16_method_10_code 117 = .ok (.goto 4, 3) := by decide +kernel
theorem px_d17_120 : decode prog_16_method_10_code 120 = .ok (.iconst 0, 1) := by decide +kernel
theorem px_d17_121 : decode prog_16_method_10_code 121 = .ok (.iadd, 1) := by decide +kernel
theorem px_d17_122 : decode prog_16_method_10_code 122 = .ok (.iadd, 1) := by decide +kernel
theorem px_d17_123 : decode prog_16_method_10_code 123 = .ok (.istore 5, 2) := by decide +kernel
theorem px_d17_125 : decode prog_16_method_10_code 125 = .ok (.aload_n 0, 1) := by decide +kernel
theorem px_d17_126 : decode prog_16_method_10_code 126 = .ok (.getfield 7, 3) := by decide +kernel
theorem px_d17_129 : decode prog_16_method_10_code 129 = .ok (.iload 6, 2) := by decide +kernel
theorem px_d17_131 : decode prog_16_method_10_code 131 = .ok (.iload 5, 2) := by decide +kernel
theorem px_d17_133 : decode prog_16_method_10_code 133 = .ok (.ldc 26, 2) := by decide +kernel
theorem px_d17_135 : decode prog_16_method_10_code 135 = .ok (.irem, 1) := by decide +kernel
theorem px_d17_136 : decode prog_16_method_10_code 136 = .ok (.iastore, 1) := by decide +kernel
theorem px_d17_137 : decode prog_16_method_10_code 137 = .ok (.iload 5, 2) := by decide +kernel
theorem px_d17_139 : decode prog_16_method_10_code 139 = .ok (.ldc 26, 2) := by decide +kernel
theorem px_d17_141 : decode prog_16_method_10_code 141 = .ok (.idiv, 1) := by decide +kernel
theorem px_d17_142 : decode prog_16_method_10_code 142 = .ok (.istore 5, 2) := by decide +kernel
theorem px_d17_144 : decode prog_16_method_10_code 144 = .ok (.iinc 6 1, 3) := by decide +kernel
theorem px_d17_147 : decode prog_16_method_10_code 147 = .ok (.goto (-75), 3) := by decide +kernel
theorem px_d17_150 : decode prog_16_method_10_code 150 = .ok (.aload_n 0, 1) := by decide +kernel
theorem px_d17_151 : decode prog_16_method_10_code 151 = .ok (.getfield 7, 3) := by decide +kernel
theorem px_d17_154 : decode prog_16_method_10_code 154 = .ok (.iload 4, 2) := by decide +kernel
theorem px_d17_156 : decode prog_16_method_10_code 156 = .ok (.iload 5, 2) := by decide +kernel
theorem px_d17_158 : decode prog_16_method_10_code 158 = .ok (.iastore, 1) := by decide +kernel
theorem px_d17_159 : decode prog_16_method_10_code 159 = .ok (.aload_n 0, 1) := by decide +kernel
theorem px_d17_160 : decode prog_16_method_10_code 160 = .ok (.iload 4, 2) := by decide +kernel
theorem px_d17_162 : decode prog_16_method_10_code 162 = .ok (.iconst 1, 1) := by decide +kernel
theorem px_d17_163 : decode prog_16_method_10_code 163 = .ok (.iadd, 1) := by decide +kernel
theorem px_d17_164 : decode prog_16_method_10_code 164 = .ok (.putfield 13, 3) := by decide +kernel
theorem px_d17_167 : decode prog_16_method_10_code 167 = .ok (.aload_n 0, 1) := by decide +kernel
theorem px_d17_168 : decode prog_16_method_10_code 168 = .ok (.aload_n 1, 1) := by decide +kernel
theorem px_d17_169 : decode prog_16_method_10_code 169 = .ok (.getfield 13, 3) := by decide +kernel
theorem px_d17_172 : decode prog_16_method_10_code 172 = .ok (.ifCond .ne 7, 3) := by decide +kernel
theorem px_d17_175 : decode prog_16_method_10_code 175 = .ok (.iload_n 3, 1) := by decide +kernel
theorem px_d17_176 : decode prog_16_method_10_code 176 = .ok (.goto 7, 3) := by decide +kernel
theorem px_d17_179 : decode prog_16_method_10_code 179 = .ok (.aload_n 1, 1) := by decide +kernel
theorem px_d17_180 : decode prog_16_method_10_code 180 = .ok (.getfield 17, 3) := by decide +kernel
theorem px_d17_183 : decode prog_16_method_10_code 183 = .ok (.putfield 17, 3) := by decide +kernel
theorem px_d17_186 : decode prog_16_method_10_code 186 = .ok (.aload_n 0, 1) := by decide +kernel
theorem px_d17_187 : decode prog_16_method_10_code 187 = .ok (.invokevirtual 27, 3) := by decide +kernel
theorem px_d17_190 : decode prog_16_method_10_code 190 = .ok (.return_, 1) := by decide +kernel
theorem px_d17_191 : decode prog_16_method_10_code 191 = .ok (.aload_n 1, 1) := by decide +kernel
theorem px_d17_192 : decode prog_16_method_10_code 192 = .ok (.aload_n 2, 1) := by decide +kernel
theorem px_d17_193 : decode prog_16_method_10_code 193 = .ok (.invokevirtual 30, 3) := by decide +kernel
theorem px_d17_196 : decode prog_16_method_10_code 196 = .ok (.ifCond .lt 7, 3) := by decide +kernel
theorem px_d17_199 : decode prog_16_method_10_code 199 = .ok (.iconst 1, 1) := by decide +kernel
theorem px_d17_200 : decode prog_16_method_10_code 200 = .ok (.goto 4, 3) := by decide +kernel
theorem px_d17_203 : decode prog_16_method_10_code 203 = .ok (.iconst 0, 1) := by decide +kernel
theorem px_d17_204 : decode prog_16_method_10_code 204 = .ok (.istore 4, 2) := by decide +kernel
theorem px_d17_206 : decode prog_16_method_10_code 206 = .ok (.iload 4, 2) := by decide +kernel
theorem px_d17_208 : decode prog_16_method_10_code 208 = .ok (.ifCond .eq 7, 3) := by decide +kernel
theorem px_d17_211 : decode prog_16_method_10_code 211 = .ok (.aload_n 1, 1) := by decide +kernel
theorem px_d17_212 : decode prog_16_method_10_code 212 = .ok (.goto 4, 3) := by decide +kernel
theorem px_d17_215 : decode prog_16_method_10_code 215 = .ok (.aload_n 2, 1) := by decide +kernel
theorem px_d17_216 : decode prog_16_method_10_code 216 = .ok (.astore 5, 2) := by decide +kernel
theorem px_d17_218 : decode prog_16_method_10_code 218 = .ok (.iload 4, 2) := by decide +kernel
theorem px_d17_220 : decode prog_16_method_10_code 220 = .ok (.ifCond .eq 7, 3) := by decide +kernel
theorem px_d17_223 : decode prog_16_method_10_code 223 = .ok (.aload_n 2, 1) := by decide +kernel
theorem px_d17_224 : decode prog_16_method_10_code 224 = .ok (.goto 4, 3) := by decide +kernel
theorem px_d17_227 : decode prog_16_method_10_code 227 = .ok (.aload_n 1, 1) := by decide +kernel
theorem px_d17_228 : decode prog_16_method_10_code 228 = .ok (.astore 6, 2) := by decide +kernel
theorem px_d17_230 : decode prog_16_method_10_code 230 = .ok (.iconst 0, 1) := by decide +kernel
theorem px_d17_231 : decode prog_16_method_10_code 231 = .ok (.istore 7, 2) := by decide +kernel
theorem px_d17_233 : decode prog_16_method_10_code 233 = .ok (.iconst 0, 1) := by decide +kernel
theorem px_d17_234 : decode prog_16_method_10_code 234 = .ok (.istore 8, 2) := by decide +kernel
theorem px_d17_236 : decode prog_16_method_10_code 236 = .ok (.iload 8, 2) := by decide +kernel
theorem px_d17_238 : decode prog_16_method_10_code 238 = .ok (.aload 5, 2) := by decide +kernel
theorem px_d17_240 : decode prog_16_method_10_code 240 = .ok (.getfield 13, 3) := by decide +kernel
theorem px_d17_243 : decode prog_16_method_10_code 243 = .ok (.if_icmp .ge 72, 3) := by decide +kernel
theorem px_d17_246 : decode prog_16_method_10_code 246 = .ok (.aload 5, 2) := by decide +kernel
theorem px_d17_248 : decode prog_16_method_10_code 248 = .ok (.getfield 7, 3) := by decide +kernel
theorem px_d17_251 : decode prog_16_method_10_code 251 = .ok (.iload 8, 2) := by decide +kernel
theorem px_d17_253 : decode prog_16_method_10_code 253 = .ok (.iaload, 1) := by decide +kernel
theorem px_d17_254 : decode prog_16_method_10_code 254 = .ok (.iload 8, 2) := by decide +kernel
theorem px_d17_256 : decode prog_16_method_10_code 256 = .ok (.aload 6, 2) := by decide +kernel
theorem px_d17_258 : decode prog_16_method_10_code 258 = .ok (.getfield 13, 3) := by decide +kernel
theorem px_d17_261 : decode prog_16_method_10_code 261 = .ok (.if_icmp .ge 14, 3) := by decide +kernel
theorem px_d17_264 : decode prog_16_method_10_code 264 = .ok (.aload 6, 2) := by decide +kernel
theorem px_d17_266 : decode prog_16_method_10_code 266 = .ok (.getfield 7, 3) := by decide +kernel
theorem px_d17_269 : decode prog_16_method_10_code 269 = .ok (.iload 8, 2) := by decide +kernel
theorem px_d17_271 : decode prog_16_method_10_code 271 = .ok (.iaload, 1) := by decide +kernel
theorem px_d17_272 : decode prog_16_method_10_code 272 = .ok (.goto 4, 3) := by decide +kernel
theorem px_d17_275 : decode prog_16_method_10_code 275 = .ok (.iconst 0, 1) := by decide +kernel
theorem px_d17_276 : decode prog_16_method_10_code 276 = .ok (.isub, 1) := by decide +kernel
theorem px_d17_277 : decode prog_16_method_10_code 277 = .ok (.iload 7, 2) := by decide +kernel
theorem px_d17_279 : decode prog_16_method_10_code 279 = .ok (.isub, 1) := by decide +kernel
theorem px_d17_280 : decode prog_16_method_10_code 280 = .ok (.istore 9, 2) := by decide +kernel
theorem px_d17_282 : decode prog_16_method_10_code 282 = .ok (.iload 9, 2) := by decide +kernel
theorem px_d17_284 : decode prog_16_method_10_code 284 = .ok (.ifCond .ge 7, 3) := by decide +kernel
theorem px_d17_287 : decode prog_16_method_10_code 287 = .ok (.iconst 1, 1) := by decide +kernel
theorem px_d17_288 : decode prog_16_method_10_code 288 = .ok (.goto 4, 3) := by decide +kernel
theorem px_d17_291 : decode prog_16_method_10_code 291 = .ok (.iconst 0, 1) := by decide +kernel
theorem px_d17_292 : decode prog_16_method_10_code 292 = .ok (.istore 7, 2) := by decide +kernel
theorem px_d17_294 : decode prog_16_method_10_code 294 = .ok (.aload_n 0, 1) := by decide +kernel
theorem px_d17_295 : decode prog_16_method_10_code 295 = .ok (.getfield 7, 3) := by decide +kernel
theorem px_d17_298 : decode prog_16_method_10_code 298 = .ok (.iload 8, 2) := by decide +kernel
theorem px_d17_300 : decode prog_16_method_10_code 300 = .ok (.iload 9, 2) := by decide +kernel
theorem px_d17_302 : decode prog_16_method_10_code 302 = .ok (.ldc 26, 2) := by decide +kernel
theorem px_d17_304 : decode prog_16_method_10_code 304 = .ok (.iload 7, 2) := by decide +kernel
theorem px_d17_306 : decode prog_16_method_10_code 306 = .ok (.imul, 1) := by decide +kernel
theorem px_d17_307 : decode prog_16_method_10_code 307 = .ok (.iadd, 1) := by decide +kernel
theorem px_d17_308 : decode prog_16_method_10_code 308 = .ok (.iastore, 1) := by decide +kernel
theorem px_d17_309 : decode prog_16_method_10_code 309 = .ok (.iinc 8 1, 3) := by decide +kernel
theorem px_d17_312 : decode prog_16_method_10_code 312 = .ok (.goto (-76), 3) := by decide +kernel
theorem px_d17_315 : decode prog_16_method_10_code 315 = .ok (.aload_n 0, 1) := by decide +kernel
theorem px_d17_316 : decode prog_16_method_10_code 316 = .ok (.aload 5, 2) := by decide +kernel
theorem px_d17_318 : decode prog_16_method_10_code 318 = .ok (.getfield 13, 3) := by decide +kernel
theorem px_d17_321 : decode prog_16_method_10_code 321 = .ok (.putfield 13, 3) := by decide +kernel
theorem px_d17_324 : decode prog_16_method_10_code 324 = .ok (.aload_n 0, 1) := by decide +kernel
theorem px_d17_325 : decode prog_16_method_10_code 325 = .ok (.iload 4, 2) := by decide +kernel
theorem px_d17_327 : decode prog_16_method_10_code 327 = .ok (.ifCond .eq 10, 3) := by decide +kernel
theorem px_d17_330 : decode prog_16_method_10_code 330 = .ok (.aload_n 1, 1) := by decide +kernel
theorem px_d17_331 : decode prog_16_method_10_code 331 = .ok (.getfield 17, 3) := by decide +kernel
theorem px_d17_334 : decode prog_16_method_10_code 334 = .ok (.goto 4, 3) := by decide +kernel
theorem px_d17_337 : decode prog_16_method_10_code 337 = .ok (.iload_n 3, 1) := by decide +kernel
theorem px_d17_338 : decode prog_16_method_10_code 338 = .ok (.putfield 17, 3) := by decide +kernel
theorem px_d17_341 : decode prog_16_method_10_code 341 = .ok (.aload_n 0, 1) := by decide +kernel
theorem px_d17_342 : decode prog_16_method_10_code 342 = .ok (.invokevirtual 27, 3) := by decide +kernel
theorem px_d17_345 : decode prog_16_method_10_code 345 = .ok (.return_, 1) := by decide +kernel
theorem px_d46_0 : decode prog_15_method_1_code 0 = .ok (.aload_n 0, 1) := by decide +kernel
theorem px_d46_1 : decode prog_15_method_1_code 1 = .ok (.getfield 1, 3) := by decide +kernel
theorem px_d46_4 : decode prog_15_method_1_code 4 = .ok (.aload_n 1, 1) := by decide +kernel
theorem px_d46_5 : decode prog_15_method_1_code 5 = .ok (.invokevirtual 7, 3) := by decide +kernel
theorem px_d46_8 : decode prog_15_method_1_code 8 = .ok (.aload_n 0, 1) := by decide +kernel
theorem px_d46_9 : decode prog_15_method_1_code 9 = .ok (.getfield 1, 3) := by decide +kernel
theorem px_d46_12 : decode prog_15_method_1_code 12 = .ok (.iconst 0, 1) := by decide +kernel
theorem px_d46_13 : decode prog_15_method_1_code 13 = .ok (.putfield 13, 3) := by decide +kernel
theorem px_d46_16 : decode prog_15_method_1_code 16 = .ok (.aload_n 0, 1) := by decide +kernel
theorem px_d46_17 : decode prog_15_method_1_code 17 = .ok (.getfield 17, 3) := by decide +kernel
theorem px_d46_20 : decode prog_15_method_1_code 20 = .ok (.aload_n 2, 1) := by decide +kernel
theorem px_d46_21 : decode prog_15_method_1_code 21 = .ok (.invokevirtual 7, 3) := by decide +kernel
theorem px_d46_24 : decode prog_15_method_1_code 24 = .ok (.aload_n 0, 1) := by decide +kernel
theorem px_d46_25 : decode prog_15_method_1_code 25 = .ok (.getfield 17, 3) := by decide +kernel
theorem px_d46_28 : decode prog_15_method_1_code 28 = .ok (.iconst 0, 1) := by decide +kernel
theorem px_d46_29 : decode prog_15_method_1_code 29 = .ok (.putfield 13, 3) := by decide +kernel
theorem px_d46_32 : decode prog_15_method_1_code 32 = .ok (.aload_n 0, 1) := by decide +kernel
theorem px_d46_33 : decode prog_15_method_1_code 33 = .ok (.getfield 17, 3) := by decide +kernel
theorem px_d46_36 : decode prog_15_method_1_code 36 = .ok (.getfield 20, 3) := by decide +kernel
theorem px_d46_39 : decode prog_15_method_1_code 39 = .ok (.ifCond .le 47, 3) := by decide +kernel
theorem px_d46_42 : decode prog_15_method_1_code 42 = .ok (.aload_n 0, 1) := by decide +kernel
theorem px_d46_43 : decode prog_15_method_1_code 43 = .ok (.getfield 24, 3) := by decide +kernel
theorem px_d46_46 : decode prog_15_method_1_code 46 = .ok (.aload_n 0, 1) := by decide +kernel
theorem px_d46_47 : decode prog_15_method_1_code 47 = .ok (.getfield 1, 3) := by decide +kernel
theorem px_d46_50 : decode prog_15_method_1_code 50 = .ok (.aload_n 0, 1) := by decide +kernel
theorem px_d46_51 : decode prog_15_method_1_code 51 = .ok (.getfield 17, 3) := by decide +kernel
theorem px_d46_54 : decode prog_15_method_1_code 54 = .ok (.aload_n 0, 1) := by decide +kernel
theorem px_d46_55 : decode prog_15_method_1_code 55 = .ok (.getfield 27, 3) := by decide +kernel
theorem px_d46_58 : decode prog_15_method_1_code 58 = .ok (.invokevirtual 30, 3) := by decide +kernel
theorem px_d46_61 : decode prog_15_method_1_code 61 = .ok (.aload_n 0, 1) := by decide +kernel
theorem px_d46_62 : decode prog_15_method_1_code 62 = .ok (.getfield 1, 3) := by decide +kernel
theorem px_d46_65 : decode prog_15_method_1_code 65 = .ok (.aload_n 0, 1) := by decide +kernel
theorem px_d46_66 : decode prog_15_method_1_code 66 = .ok (.getfield 17, 3) := by decide +kernel
theorem px_d46_69 : decode prog_15_method_1_code 69 = .ok (.invokevirtual 7, 3) := by decide +kernel
theorem px_d46_72 : decode prog_15_method_1_code 72 = .ok (.aload_n 0, 1) := by decide +kernel
theorem px_d46_73 : decode prog_15_method_1_code 73 = .ok (.getfield 17, 3) := by decide +kernel
theorem px_d46_76 : decode prog_15_method_1_code 76 = .ok (.aload_n 0, 1) := by decide +kernel
theorem px_d46_77 : decode prog_15_method_1_code 77 = .ok (.getfield 27, 3) := by decide +kernel
theorem px_d46_80 : decode prog_15_method_1_code 80 = .ok (.invokevirtual 7, 3) := by decide +kernel
theorem px_d46_83 : decode prog_15_method_1_code 83 = .ok (.goto (-51), 3) := by decide +kernel
theorem px_d46_86 : decode prog_15_method_1_code 86 = .ok (.return_, 1) := by decide +kernel
theorem px_d47_0 : decode prog_15_method_2_code 0 = .ok (.aload_n 0, 1) := by decide +kernel
theorem px_d47_1 : decode prog_15_method_2_code 1 = .ok (.getfield 34, 3) := by decide +kernel
theorem px_d47_4 : decode prog_15_method_2_code 4 = .ok (.bipush 12, 2) := by decide +kernel
theorem px_d47_6 : decode prog_15_method_2_code 6 = .ok (.iload_n 1, 1) := by decide +kernel
theorem px_d47_7 : decode prog_15_method_2_code 7 = .ok (.imul, 1) := by decide +kernel
theorem px_d47_8 : decode prog_15_method_2_code 8 = .ok (.iload_n 2, 1) := by decide +kernel
theorem px_d47_9 : decode prog_15_method_2_code 9 = .ok (.iadd, 1) := by decide +kernel
theorem px_d47_10 : decode prog_15_method_2_code 10 = .ok (.aaload, 1) := by decide +kernel
theorem px_d47_11 : decode prog_15_method_2_code 11 = .ok (.areturn, 1) := by decide +kernel
theorem px_d49_0 : decode prog_15_method_4_code 0 = .ok (.aload_n 0, 1) := by decide +kernel
theorem px_d49_1 : decode prog_15_method_4_code 1 = .ok (.getfield 38, 3) := by decide +kernel
theorem px_d49_4 : decode prog_15_method_4_code 4 = .ok (.ifCond .ne 16, 3) := by decide +kernel
theorem px_d49_7 : decode prog_15_method_4_code 7 = .ok (.aload_n 0, 1) := by decide +kernel
theorem px_d49_8 : decode prog_15_method_4_code 8 = .ok (.iload_n 1, 1) := by decide +kernel
theorem px_d49_9 : decode prog_15_method_4_code 9 = .ok (.iload_n 2, 1) := by decide +kernel
theorem px_d49_10 : decode prog_15_method_4_code 10 = .ok (.invokevirtual 47, 3) := by decide +kernel
theorem px_d49_13 : decode prog_15_method_4_code 13 = .ok (.lload_n 3, 1) := by decide +kernel
theorem px_d49_14 : decode prog_15_method_4_code 14 = .ok (.invokevirtual 51, 3) := by decide +kernel
theorem px_d49_17 : decode prog_15_method_4_code 17 = .ok (.goto 34, 3) := by decide +kernel
theorem px_d49_20 : decode prog_15_method_4_code 20 = .ok (.aload_n 0, 1) := by decide +kernel
theorem px_d49_21 : decode prog_15_method_4_code 21 = .ok (.getfield 55, 3) := by decide +kernel
theorem px_d49_24 : decode prog_15_method_4_code 24 = .ok (.bipush 12, 2) := by decide +kernel
theorem px_d49_26 : decode prog_15_method_4_code 26 = .ok (.iload_n 1, 1) := by decide +kernel
theorem px_d49_27 : decode prog_15_method_4_code 27 = .ok (.imul, 1) := by decide +kernel
theorem px_d49_28 : decode prog_15_method_4_code 28 = .ok (.iload_n 2, 1) := by decide +kernel
theorem px_d49_29 : decode prog_15_method_4_code 29 = .ok (.iadd, 1) := by decide +kernel
theorem px_d49_30 : decode prog_15_method_4_code 30 = .ok (.lload_n 3, 1) := by decide +kernel
theorem px_d49_31 : decode prog_15_method_4_code 31 = .ok (.aload_n 0, 1) := by decide +kernel
theorem px_d49_32 : decode prog_15_method_4_code 32 = .ok (.getfield 38, 3) := by decide +kernel
theorem px_d49_35 : decode prog_15_method_4_code 35 = .ok (.i2l, 1) := by decide +kernel
theorem px_d49_36 : decode prog_15_method_4_code 36 = .ok (.lrem, 1) := by decide +kernel
theorem px_d49_37 : decode prog_15_method_4_code 37 = .ok (.aload_n 0, 1) := by decide +kernel
theorem px_d49_38 : decode prog_15_method_4_code 38 = .ok (.getfield 38, 3) := by decide +kernel
theorem px_d49_41 : decode prog_15_method_4_code 41 = .ok (.i2l, 1) := by decide +kernel
theorem px_d49_42 : decode prog_15_method_4_code 42 = .ok (.ladd, 1) := by decide +kernel
theorem px_d49_43 : decode prog_15_method_4_code 43 = .ok (.aload_n 0, 1) := by decide +kernel
theorem px_d49_44 : decode prog_15_method_4_code 44 = .ok (.getfield 38, 3) := by decide +kernel
theorem px_d49_47 : decode prog_15_method_4_code 47 = .ok (.i2l, 1) := by decide +kernel
theorem px_d49_48 : decode prog_15_method_4_code 48 = .ok (.lrem, 1) := by decide +kernel
theorem px_d49_49 : decode prog_15_method_4_code 49 = .ok (.l2i, 1) := by decide +kernel
theorem px_d49_50 : decode prog_15_method_4_code 50 = .ok (.iastore, 1) := by decide +kernel
theorem px_d49_51 : decode prog_15_method_4_code 51 = .ok (.return_, 1) := by decide +kernel
theorem px_d50_0 : decode prog_15_method_5_code 0 = .ok (.aload_n 0, 1) := by decide +kernel
theorem px_d50_1 : decode prog_15_method_5_code 1 = .ok (.getfield 38, 3) := by decide +kernel
theorem px_d50_4 : decode prog_15_method_5_code 4 = .ok (.ifCond .ne 23, 3) := by decide +kernel
theorem px_d50_7 : decode prog_15_method_5_code 7 = .ok (.aload_n 0, 1) := by decide +kernel
theorem px_d50_8 : decode prog_15_method_5_code 8 = .ok (.iload_n 1, 1) := by decide +kernel
theorem px_d50_9 : decode prog_15_method_5_code 9 = .ok (.iload_n 2, 1) := by decide +kernel
theorem px_d50_10 : decode prog_15_method_5_code 10 = .ok (.invokevirtual 47, 3) := by decide +kernel
theorem px_d50_13 : decode prog_15_method_5_code 13 = .ok (.getfield 20, 3) := by decide +kernel
theorem px_d50_16 : decode prog_15_method_5_code 16 = .ok (.ifCond .ne 7, 3) := by decide +kernel
theorem px_d50_19 : decode prog_15_method_5_code 19 = .ok (.iconst 1, 1) := by decide +kernel
theorem px_d50_20 : decode prog_15_method_5_code 20 = .ok (.goto 26, 3) := by decide +kernel
theorem px_d50_23 : decode prog_15_method_5_code 23 = .ok (.iconst 0, 1) := by decide +kernel
theorem px_d50_24 : decode prog_15_method_5_code 24 = .ok (.goto 22, 3) := by decide +kernel
theorem px_d50_27 : decode prog_15_method_5_code 27 = .ok (.aload_n 0, 1) := by decide +kernel
theorem px_d50_28 : decode prog_15_method_5_code 28 = .ok (.getfield 55, 3) := by decide +kernel
theorem px_d50_31 : decode prog_15_method_5_code 31 = .ok (.bipush 12, 2) := by decide +kernel
theorem px_d50_33 : decode prog_15_method_5_code 33 = .ok (.iload_n 1, 1) := by decide +kernel
theorem px_d50_34 : decode prog_15_method_5_code 34 = .ok (.imul, 1) := by decide +kernel
theorem px_d50_35 : decode prog_15_method_5_code 35 = .ok (.iload_n 2, 1) := by decide +kernel
theorem px_d50_36 : decode prog_15_method_5_code 36 = .ok (.iadd, 1) := by decide +kernel
theorem px_d50_37 : decode prog_15_method_5_code 37 = .ok (.iaload, 1) := by decide +kernel
theorem px_d50_38 : decode prog_15_method_5_code 38 = .ok (.ifCond .ne 7, 3) := by decide +kernel
theorem px_d50_41 : decode prog_15_method_5_code 41 = .ok (.iconst 1, 1) := by decide +kernel
theorem px_d50_42 : decode prog_15_method_5_code 42 = .ok (.goto 4, 3) := by decide +kernel
theorem px_d50_45 : decode prog_15_method_5_code 45 = .ok (.iconst 0, 1) := by decide +kernel
theorem px_d50_46 : decode prog_15_method_5_code 46 = .ok (.ireturn, 1) := by decide +kernel
theorem px_d51_0 : decode prog_15_method_6_code 0 = .ok (.iconst 0, 1) := by decide +kernel
theorem px_d51_1 : decode prog_15_method_6_code 1 = .ok (.istore_n 3, 1) := by decide +kernel
theorem px_d51_2 : decode prog_15_method_6_code 2 = .ok (.iload_n 3, 1) := by decide +kernel
theorem px_d51_3 : decode prog_15_method_6_code 3 = .ok (.aload_n 0, 1) := by decide +kernel
theorem px_d51_4 : decode prog_15_method_6_code 4 = .ok (.getfield 41, 3) := by decide +kernel
theorem px_d51_7 : decode prog_15_method_6_code 7 = .ok (.if_icmp .ge 103, 3) := by decide +kernel
theorem px_d51_10 : decode prog_15_method_6_code 10 = .ok (.iload_n 1, 1) := by decide +kernel
theorem px_d51_11 : decode prog_15_method_6_code 11 = .ok (.iload_n 2, 1) := by decide +kernel
theorem px_d51_12 : decode prog_15_method_6_code 12 = .ok (.if_icmp .eq 98, 3) := by decide +kernel
theorem px_d51_15 : decode prog_15_method_6_code 15 = .ok (.aload_n 0, 1) := by decide +kernel
theorem px_d51_16 : decode prog_15_method_6_code 16 = .ok (.getfield 58, 3) := by decide +kernel
theorem px_d51_19 : decode prog_15_method_6_code 19 = .ok (.aload_n 0, 1) := by decide +kernel
theorem px_d51_20 : decode prog_15_method_6_code 20 = .ok (.iload_n 1, 1) := by decide +kernel
theorem px_d51_21 : decode prog_15_method_6_code 21 = .ok (.iload_n 3, 1) := by decide +kernel
theorem px_d51_22 : decode prog_15_method_6_code 22 = .ok (.invokevirtual 47, 3) := by decide +kernel
theorem px_d51_25 : decode prog_15_method_6_code 25 = .ok (.invokevirtual 7, 3) := by decide +kernel
theorem px_d51_28 : decode prog_15_method_6_code 28 = .ok (.aload_n 0, 1) := by decide +kernel
theorem px_d51_29 : decode prog_15_method_6_code 29 = .ok (.iload_n 1, 1) := by decide +kernel
theorem px_d51_30 : decode prog_15_method_6_code 30 = .ok (.iload_n 3, 1) := by decide +kernel
theorem px_d51_31 : decode prog_15_method_6_code 31 = .ok (.invokevirtual 47, 3) := by decide +kernel
theorem px_d51_34 : decode prog_15_method_6_code 34 = .ok (.aload_n 0, 1) := by decide +kernel
theorem px_d51_35 : decode prog_15_method_6_code 35 = .ok (.iload_n 2, 1) := by decide +kernel
theorem px_d51_36 : decode prog_15_method_6_code 36 = .ok (.iload_n 3, 1) := by decide +kernel
theorem px_d51_37 : decode prog_15_method_6_code 37 = .ok (.invokevirtual 47, 3) := by decide +kernel
theorem px_d51_40 : decode prog_15_method_6_code 40 = .ok (.invokevirtual 7, 3) := by decide +kernel
theorem px_d51_43 : decode prog_15_method_6_code 43 = .ok (.aload_n 0, 1) := by decide +kernel
theorem px_d51_44 : decode prog_15_method_6_code 44 = .ok (.iload_n 2, 1) := by decide +kernel
theorem px_d51_45 : decode prog_15_method_6_code 45 = .ok (.iload_n 3, 1) := by decide +kernel
theorem px_d51_46 : decode prog_15_method_6_code 46 = .ok (.invokevirtual 47, 3) := by decide +kernel
theorem px_d51_49 : decode prog_15_method_6_code 49 = .ok (.aload_n 0, 1) := by decide +kernel
theorem px_d51_50 : decode prog_15_method_6_code 50 = .ok (.getfield 58, 3) := by decide +kernel
theorem px_d51_53 : decode prog_15_method_6_code 53 = .ok (.invokevirtual 7, 3) := by decide +kernel
theorem px_d51_56 : decode prog_15_method_6_code 56 = .ok (.aload_n 0, 1) := by decide +kernel
theorem px_d51_57 : decode prog_15_method_6_code 57 = .ok (.getfield 55, 3) := by decide +kernel
theorem px_d51_60 : decode prog_15_method_6_code 60 = .ok (.bipush 12, 2) := by decide +kernel
theorem px_d51_62 : decode prog_15_method_6_code 62 = .ok (.iload_n 1, 1) := by decide +kernel
theorem px_d51_63 : decode prog_15_method_6_code 63 = .ok (.imul, 1) := by decide +kernel
theorem px_d51_64 : decode prog_15_method_6_code 64 = .ok (.iload_n 3, 1) := by decide +kernel
theorem px_d51_65 : decode prog_15_method_6_code 65 = .ok (.iadd, 1) := by decide +kernel
theorem px_d51_66 : decode prog_15_method_6_code 66 = .ok (.iaload, 1) := by decide +kernel
theorem px_d51_67 : decode prog_15_method_6_code 67 = .ok (.istore 4, 2) := by decide +kernel
theorem px_d51_69 : decode prog_15_method_6_code 69 = .ok (.aload_n 0, 1) := by decide +kernel
theorem px_d51_70 : decode prog_15_method_6_code 70 = .ok (.getfield 55, 3) := by decide +kernel
theorem px_d51_73 : decode prog_15_method_6_code 73 = .ok (.bipush 12, 2) := by decide +kernel
theorem px_d51_75 : decode prog_15_method_6_code 75 = .ok (.iload_n 1, 1) := by decide +kernel
theorem px_d51_76 : decode prog_15_method_6_code 76 = .ok (.imul, 1) := by decide +kernel
theorem px_d51_77 : decode prog_15_method_6_code 77 = .ok (.iload_n 3, 1) := by decide +kernel
theorem px_d51_78 : decode prog_15_method_6_code 78 = .ok (.iadd, 1) := by decide +kernel
theorem px_d51_79 : decode prog_15_method_6_code 79 = .ok (.aload_n 0, 1) := by decide +kernel
theorem px_d51_80 : decode prog_15_method_6_code 80 = .ok (.getfield 55, 3) := by decide +kernel
theorem px_d51_83 : decode prog_15_method_6_code 83 = .ok (.bipush 12, 2) := by decide +kernel
theorem px_d51_85 : decode prog_15_method_6_code 85 = .ok (.iload_n 2, 1) := by decide +kernel
theorem px_d51_86 : decode prog_15_method_6_code 86 = .ok (.imul, 1) := by decide +kernel
theorem px_d51_87 : decode prog_15_method_6_code 87 = .ok (.iload_n 3, 1) := by decide +kernel
theorem px_d51_88 : decode prog_15_method_6_code 88 = .ok (.iadd, 1) := by decide +kernel
theorem px_d51_89 : decode prog_15_method_6_code 89 = .ok (.iaload, 1) := by decide +kernel
theorem px_d51_90 : decode prog_15_method_6_code 90 = .ok (.iastore, 1) := by decide +kernel
theorem px_d51_91 : decode prog_15_method_6_code 91 = .ok (.aload_n 0, 1) := by decide +kernel
theorem px_d51_92 : decode prog_15_method_6_code 92 = .ok (.getfield 55, 3) := by decide +kernel
theorem px_d51_95 : decode prog_15_method_6_code 95 = .ok (.bipush 12, 2) := by decide +kernel
theorem px_d51_97 : decode prog_15_method_6_code 97 = .ok (.iload_n 2, 1) := by decide +kernel
theorem px_d51_98 : decode prog_15_method_6_code 98 = .ok (.imul, 1) := by decide +kernel
theorem px_d51_99 : decode prog_15_method_6_code 99 = .ok (.iload_n 3, 1) := by decide +kernel
theorem px_d51_100 : decode prog_15_method_6_code 100 = .ok (.iadd, 1) := by decide +kernel
theorem px_d51_101 : decode prog_15_method_6_code 101 = .ok (.iload 4, 2) := by decide +kernel
theorem px_d51_103 : decode prog_15_method_6_code 103 = .ok (.iastore, 1) := by decide +kernel
theorem px_d51_104 : decode prog_15_method_6_code 104 = .ok (.iinc 3 1, 3) := by decide +kernel
theorem px_d51_107 : decode prog_15_method_6_code 107 = .ok (.goto (-105), 3) := by decide +kernel
theorem px_d51_110 : decode prog_15_method_6_code 110 = .ok (.return_, 1) := by decide +kernel
theorem px_d53_0 : decode prog_15_method_8_code 0 = .ok (.aload_n 0, 1) := by decide +kernel
theorem px_d53_1 : decode prog_15_method_8_code 1 = .ok (.getfield 38, 3) := by decide +kernel
theorem px_d53_4 : decode prog_15_method_8_code 4 = .ok (.ifCond .le 120, 3) := by decide +kernel
theorem px_d53_7 : decode prog_15_method_8_code 7 = .ok (.aload_n 0, 1) := by decide +kernel
theorem px_d53_8 : decode prog_15_method_8_code 8 = .ok (.getfield 55, 3) := by decide +kernel
theorem px_d53_11 : decode prog_15_method_8_code 11 = .ok (.bipush 12, 2) := by decide +kernel
theorem px_d53_13 : decode prog_15_method_8_code 13 = .ok (.iload_n 1, 1) := by decide +kernel
theorem px_d53_14 : decode prog_15_method_8_code 14 = .ok (.imul, 1) := by decide +kernel
theorem px_d53_15 : decode prog_15_method_8_code 15 = .ok (.iload_n 3, 1) := by decide +kernel
theorem px_d53_16 : decode prog_15_method_8_code 16 = .ok (.iadd, 1) := by decide +kernel
theorem px_d53_17 : decode prog_15_method_8_code 17 = .ok (.iaload, 1) := by decide +kernel
theorem px_d53_18 : decode prog_15_method_8_code 18 = .ok (.aload_n 0, 1) := by decide +kernel
theorem px_d53_19 : decode prog_15_method_8_code 19 = .ok (.aload_n 0, 1) := by decide +kernel
theorem px_d53_20 : decode prog_15_method_8_code 20 = .ok (.getfield 55, 3) := by decide +kernel
theorem px_d53_23 : decode prog_15_method_8_code 23 = .ok (.bipush 12, 2) := by decide +kernel
theorem px_d53_25 : decode prog_15_method_8_code 25 = .ok (.iload_n 2, 1) := by decide +kernel
theorem px_d53_26 : decode prog_15_method_8_code 26 = .ok (.imul, 1) := by decide +kernel
theorem px_d53_27 : decode prog_15_method_8_code 27 = .ok (.iload_n 3, 1) := by decide +kernel
theorem px_d53_28 : decode prog_15_method_8_code 28 = .ok (.iadd, 1) := by decide +kernel
theorem px_d53_29 : decode prog_15_method_8_code 29 = .ok (.iaload, 1) := by decide +kernel
theorem px_d53_30 : decode prog_15_method_8_code 30 = .ok (.invokevirtual 61, 3) := by decide +kernel
theorem px_d53_33 : decode prog_15_method_8_code 33 = .ok (.imul, 1) := by decide +kernel
theorem px_d53_34 : decode prog_15_method_8_code 34 = .ok (.aload_n 0, 1) := by decide +kernel
theorem px_d53_35 : decode prog_15_method_8_code 35 = .ok (.getfield 38, 3) := by decide +kernel
theorem px_d53_38 : decode prog_15_method_8_code 38 = .ok (.irem, 1) := by decide +kernel
theorem px_d53_39 : decode prog_15_method_8_code 39 = .ok (.istore 4, 2) := by decide +kernel
theorem px_d53_41 : decode prog_15_method_8_code 41 = .ok (.iconst 0, 1) := by decide +kernel
theorem px_d53_42 : decode prog_15_method_8_code 42 = .ok (.istore 5, 2) := by decide +kernel
theorem px_d53_44 : decode prog_15_method_8_code 44 = .ok (.iload 5, 2) := by decide +kernel
theorem px_d53_46 : decode prog_15_method_8_code 46 = .ok (.aload_n 0, 1) := by decide +kernel
theorem px_d53_47 : decode prog_15_method_8_code 47 = .ok (.getfield 41, 3) := by decide +kernel
theorem px_d53_50 : decode prog_15_method_8_code 50 = .ok (.if_icmp .ge 73, 3) := by decide +kernel
theorem px_d53_53 : decode prog_15_method_8_code 53 = .ok (.aload_n 0, 1) := by decide +kernel
theorem px_d53_54 : decode prog_15_method_8_code 54 = .ok (.getfield 55, 3) := by decide +kernel
theorem px_d53_57 : decode prog_15_method_8_code 57 = .ok (.bipush 12, 2) := by decide +kernel
theorem px_d53_59 : decode prog_15_method_8_code 59 = .ok (.iload_n 1, 1) := by decide +kernel
theorem px_d53_60 : decode prog_15_method_8_code 60 = .ok (.imul, 1) := by decide +kernel
theorem px_d53_61 : decode prog_15_method_8_code 61 = .ok (.iload 5, 2) := by decide +kernel
theorem px_d53_63 : decode prog_15_method_8_code 63 = .ok (.iadd, 1) := by decide +kernel
theorem px_d53_64 : decode prog_15_method_8_code 64 = .ok (.iaload, 1) := by decide +kernel
theorem px_d53_65 : decode prog_15_method_8_code 65 = .ok (.iload 4, 2) := by decide +kernel
theorem px_d53_67 : decode prog_15_method_8_code 67 = .ok (.aload_n 0, 1) := by decide +kernel
theorem px_d53_68 : decode prog_15_method_8_code 68 = .ok (.getfield 55, 3) := by decide +kernel
theorem px_d53_71 : decode prog_15_method_8_code 71 = .ok (.bipush 12, 2) := by decide +kernel
theorem px_d53_73 : decode prog_15_method_8_code 73 = .ok (.iload_n 2, 1) := by decide +kernel
theorem px_d53_74 : decode prog_15_method_8_code 74 = .ok (.imul, 1) := by decide +kernel
theorem px_d53_75 : decode prog_15_method_8_code 75 = .ok (.iload 5, 2) := by decide +kernel
theorem px_d53_77 : decode prog_15_method_8_code 77 = .ok (.iadd, 1) := by decide +kernel
theorem px_d53_78 : decode prog_15_method_8_code 78 = .ok (.iaload, 1) := by decide +kernel
theorem px_d53_79 : decode prog_15_method_8_code 79 = .ok (.imul, 1) := by decide +kernel
theorem px_d53_80 : decode prog_15_method_8_code 80 = .ok (.aload_n 0, 1) := by decide +kernel
theorem px_d53_81 : decode prog_15_method_8_code 81 = .ok (.getfield 38, 3) := by decide +kernel
theorem px_d53_84 : decode prog_15_method_8_code 84 = .ok (.irem, 1) := by decide +kernel
theorem px_d53_85 : decode prog_15_method_8_code 85 = .ok (.isub, 1) := by decide +kernel
theorem px_d53_86 : decode prog_15_method_8_code 86 = .ok (.istore 6, 2) := by decide +kernel
theorem px_d53_88 : decode prog_15_method_8_code 88 = .ok (.aload_n 0, 1) := by decide +kernel
theorem px_d53_89 : decode prog_15_method_8_code 89 = .ok (.getfield 55, 3) := by decide +kernel
theorem px_d53_92 : decode prog_15_method_8_code 92 = .ok (.bipush 12, 2) := by decide +kernel
theorem px_d53_94 : decode prog_15_method_8_code 94 = .ok (.iload_n 1, 1) := by decide +kernel
theorem px_d53_95 : decode prog_15_method_8_code 95 = .ok (.imul, 1) := by decide +kernel
theorem px_d53_96 : decode prog_15_method_8_code 96 = .ok (.iload 5, 2) := by decide +kernel
theorem px_d53_98 : decode prog_15_method_8_code 98 = .ok (.iadd, 1) := by decide +kernel
theorem px_d53_99 : decode prog_15_method_8_code 99 = .ok (.iload 6, 2) := by decide +kernel
theorem px_d53_101 : decode prog_15_method_8_code 101 = .ok (.ifCond .ge 13, 3) := by decide +kernel
theorem px_d53_104 : decode prog_15_method_8_code 104 = .ok (.iload 6, 2) := by decide +kernel
theorem px_d53_106 : decode prog_15_method_8_code 106 = .ok (.aload_n 0, 1) := by decide +kernel
theorem px_d53_107 : decode prog_15_method_8_code 107 = .ok (.getfield 38, 3) := by decide +kernel
theorem px_d53_110 : decode prog_15_method_8_code 110 = .ok (.iadd, 1) := by decide +kernel
theorem px_d53_111 : decode prog_15_method_8_code 111 = .ok (.goto 5, 3) := by decide +kernel
theorem px_d53_114 : decode prog_15_method_8_code 114 = .ok (.iload 6, 2) := by decide +kernel
theorem px_d53_116 : decode prog_15_method_8_code 116 = .ok (.iastore, 1) := by decide +kernel
theorem px_d53_117 : decode prog_15_method_8_code 117 = .ok (.iinc 5 1, 3) := by decide +kernel
theorem px_d53_120 : decode prog_15_method_8_code 120 = .ok (.goto (-76), 3) := by decide +kernel
theorem px_d53_123 : decode prog_15_method_8_code 123 = .ok (.return_, 1) := by decide +kernel
theorem px_d53_124 : decode prog_15_method_8_code 124 = .ok (.aload_n 0, 1) := by decide +kernel
theorem px_d53_125 : decode prog_15_method_8_code 125 = .ok (.getfield 65, 3) := by decide +kernel
theorem px_d53_128 : decode prog_15_method_8_code 128 = .ok (.aload_n 0, 1) := by decide +kernel
theorem px_d53_129 : decode prog_15_method_8_code 129 = .ok (.iload_n 2, 1) := by decide +kernel
theorem px_d53_130 : decode prog_15_method_8_code 130 = .ok (.iload_n 3, 1) := by decide +kernel
theorem px_d53_131 : decode prog_15_method_8_code 131 = .ok (.invokevirtual 47, 3) := by decide +kernel
theorem px_d53_134 : decode prog_15_method_8_code 134 = .ok (.invokevirtual 7, 3) := by decide +kernel
theorem px_d53_137 : decode prog_15_method_8_code 137 = .ok (.aload_n 0, 1) := by decide +kernel
theorem px_d53_138 : decode prog_15_method_8_code 138 = .ok (.getfield 68, 3) := by decide +kernel
theorem px_d53_141 : decode prog_15_method_8_code 141 = .ok (.aload_n 0, 1) := by decide +kernel
theorem px_d53_142 : decode prog_15_method_8_code 142 = .ok (.iload_n 1, 1) := by decide +kernel
theorem px_d53_143 : decode prog_15_method_8_code 143 = .ok (.iload_n 3, 1) := by decide +kernel
theorem px_d53_144 : decode prog_15_method_8_code 144 = .ok (.invokevirtual 47, 3) := by decide +kernel
theorem px_d53_147 : decode prog_15_method_8_code 147 = .ok (.invokevirtual 7, 3) := by decide +kernel
theorem px_d53_150 : decode prog_15_method_8_code 150 = .ok (.iconst 0, 1) := by decide +kernel
theorem px_d53_151 : decode prog_15_method_8_code 151 = .ok (.istore 4, 2) := by decide +kernel
theorem px_d53_153 : decode prog_15_method_8_code 153 = .ok (.iload 4, 2) := by decide +kernel
theorem px_d53_155 : decode prog_15_method_8_code 155 = .ok (.aload_n 0, 1) := by decide +kernel
theorem px_d53_156 : decode prog_15_method_8_code 156 = .ok (.getfield 41, 3) := by decide +kernel
theorem px_d53_159 : decode prog_15_method_8_code 159 = .ok (.if_icmp .ge 63, 3) := by decide +kernel
theorem px_d53_162 : decode prog_15_method_8_code 162 = .ok (.aload_n 0, 1) := by decide +kernel
theorem px_d53_163 : decode prog_15_method_8_code 163 = .ok (.getfield 58, 3) := by decide +kernel
theorem px_d53_166 : decode prog_15_method_8_code 166 = .ok (.aload_n 0, 1) := by decide +kernel
theorem px_d53_167 : decode prog_15_method_8_code 167 = .ok (.iload_n 1, 1) := by decide +kernel
theorem px_d53_168 : decode prog_15_method_8_code 168 = .ok (.iload 4, 2) := by decide +kernel
theorem px_d53_170 : decode prog_15_method_8_code 170 = .ok (.invokevirtual 47, 3) := by decide +kernel
theorem px_d53_173 : decode prog_15_method_8_code 173 = .ok (.aload_n 0, 1) := by decide +kernel
theorem px_d53_174 : decode prog_15_method_8_code 174 = .ok (.getfield 65, 3) := by decide +kernel
theorem px_d53_177 : decode prog_15_method_8_code 177 = .ok (.invokevirtual 71, 3) := by decide +kernel
theorem px_d53_180 : decode prog_15_method_8_code 180 = .ok (.aload_n 0, 1) := by decide +kernel
theorem px_d53_181 : decode prog_15_method_8_code 181 = .ok (.getfield 27, 3) := by decide +kernel
theorem px_d53_184 : decode prog_15_method_8_code 184 = .ok (.aload_n 0, 1) := by decide +kernel
theorem px_d53_185 : decode prog_15_method_8_code 185 = .ok (.iload_n 2, 1) := by decide +kernel
theorem px_d53_186 : decode prog_15_method_8_code 186 = .ok (.iload 4, 2) := by decide +kernel
theorem px_d53_188 : decode prog_15_method_8_code 188 = .ok (.invokevirtual 47, 3) := by decide +kernel
theorem px_d53_191 : decode prog_15_method_8_code 191 = .ok (.aload_n 0, 1) := by decide +kernel
theorem px_d53_192 : decode prog_15_method_8_code 192 = .ok (.getfield 68, 3) := by decide +kernel
theorem px_d53_195 : decode prog_15_method_8_code 195 = .ok (.invokevirtual 71, 3) := by decide +kernel
theorem px_d53_198 : decode prog_15_method_8_code 198 = .ok (.aload_n 0, 1) := by decide +kernel
theorem px_d53_199 : decode prog_15_method_8_code 199 = .ok (.iload_n 1, 1) := by decide +kernel
theorem px_d53_200 : decode prog_15_method_8_code 200 = .ok (.iload 4, 2) := by decide +kernel
theorem px_d53_202 : decode prog_15_method_8_code 202 = .ok (.invokevirtual 47, 3) := by decide +kernel
theorem px_d53_205 : decode prog_15_method_8_code 205 = .ok (.aload_n 0, 1) := by decide +kernel
theorem px_d53_206 : decode prog_15_method_8_code 206 = .ok (.getfield 58, 3) := by decide +kernel
theorem px_d53_209 : decode prog_15_method_8_code 209 = .ok (.aload_n 0, 1) := by decide +kernel
theorem px_d53_210 : decode prog_15_method_8_code 210 = .ok (.getfield 27, 3) := by decide +kernel
theorem px_d53_213 : decode prog_15_method_8_code 213 = .ok (.invokevirtual 75, 3) := by decide +kernel
theorem px_d53_216 : decode prog_15_method_8_code 216 = .ok (.iinc 4 1, 3) := by decide +kernel
theorem px_d53_219 : decode prog_15_method_8_code 219 = .ok (.goto (-66), 3) := by decide +kernel
theorem px_d53_222 : decode prog_15_method_8_code 222 = .ok (.aload_n 0, 1) := by decide +kernel
theorem px_d53_223 : decode prog_15_method_8_code 223 = .ok (.iload_n 1, 1) := by decide +kernel
theorem px_d53_224 : decode prog_15_method_8_code 224 = .ok (.invokevirtual 78, 3) := by decide +kernel
theorem px_d53_227 : decode prog_15_method_8_code 227 = .ok (.return_, 1) := by decide +kernel
theorem px_d54_0 : decode prog_15_method_9_code 0 = .ok (.aload_n 0, 1) := by decide +kernel
theorem px_d54_1 : decode prog_15_method_9_code 1 = .ok (.getfield 82, 3) := by decide +kernel
theorem px_d54_4 : decode prog_15_method_9_code 4 = .ok (.invokevirtual 85, 3) := by decide +kernel
theorem px_d54_7 : decode prog_15_method_9_code 7 = .ok (.iconst 0, 1) := by decide +kernel
theorem px_d54_8 : decode prog_15_method_9_code 8 = .ok (.istore_n 2, 1) := by decide +kernel
theorem px_d54_9 : decode prog_15_method_9_code 9 = .ok (.iload_n 2, 1) := by decide +kernel
theorem px_d54_10 : decode prog_15_method_9_code 10 = .ok (.aload_n 0, 1) := by decide +kernel
theorem px_d54_11 : decode prog_15_method_9_code 11 = .ok (.getfield 41, 3) := by decide +kernel
theorem px_d54_14 : decode prog_15_method_9_code 14 = .ok (.if_icmp .ge 34, 3) := by decide +kernel
theorem px_d54_17 : decode prog_15_method_9_code 17 = .ok (.aload_n 0, 1) := by decide +kernel
theorem px_d54_18 : decode prog_15_method_9_code 18 = .ok (.aload_n 0, 1) := by decide +kernel
theorem px_d54_19 : decode prog_15_method_9_code 19 = .ok (.getfield 82, 3) := by decide +kernel
theorem px_d54_22 : decode prog_15_method_9_code 22 = .ok (.aload_n 0, 1) := by decide +kernel
theorem px_d54_23 : decode prog_15_method_9_code 23 = .ok (.iload_n 1, 1) := by decide +kernel
theorem px_d54_24 : decode prog_15_method_9_code 24 = .ok (.iload_n 2, 1) := by decide +kernel
theorem px_d54_25 : decode prog_15_method_9_code 25 = .ok (.invokevirtual 47, 3) := by decide +kernel
theorem px_d54_28 : decode prog_15_method_9_code 28 = .ok (.invokevirtual 89, 3) := by decide +kernel
theorem px_d54_31 : decode prog_15_method_9_code 31 = .ok (.aload_n 0, 1) := by decide +kernel
theorem px_d54_32 : decode prog_15_method_9_code 32 = .ok (.getfield 82, 3) := by decide +kernel
theorem px_d54_35 : decode prog_15_method_9_code 35 = .ok (.aload_n 0, 1) := by decide +kernel
theorem px_d54_36 : decode prog_15_method_9_code 36 = .ok (.getfield 1, 3) := by decide +kernel
theorem px_d54_39 : decode prog_15_method_9_code 39 = .ok (.invokevirtual 7, 3) := by decide +kernel
theorem px_d54_42 : decode prog_15_method_9_code 42 = .ok (.iinc 2 1, 3) := by decide +kernel
theorem px_d54_45 : decode prog_15_method_9_code 45 = .ok (.goto (-36), 3) := by decide +kernel
theorem px_d54_48 : decode prog_15_method_9_code 48 = .ok (.iconst 0, 1) := by decide +kernel
theorem px_d54_49 : decode prog_15_method_9_code 49 = .ok (.istore_n 2, 1) := by decide +kernel
theorem px_d54_50 : decode prog_15_method_9_code 50 = .ok (.iload_n 2, 1) := by decide +kernel
theorem px_d54_51 : decode prog_15_method_9_code 51 = .ok (.aload_n 0, 1) := by decide +kernel
theorem px_d54_52 : decode prog_15_method_9_code 52 = .ok (.getfield 41, 3) := by decide +kernel
theorem px_d54_55 : decode prog_15_method_9_code 55 = .ok (.if_icmp .ge 63, 3) := by decide +kernel
theorem px_d54_58 : decode prog_15_method_9_code 58 = .ok (.aload_n 0, 1) := by decide +kernel
theorem px_d54_59 : decode prog_15_method_9_code 59 = .ok (.getfield 82, 3) := by decide +kernel
theorem px_d54_62 : decode prog_15_method_9_code 62 = .ok (.getfield 20, 3) := by decide +kernel
theorem px_d54_65 : decode prog_15_method_9_code 65 = .ok (.ifCond .le 53, 3) := by decide +kernel
theorem px_d54_68 : decode prog_15_method_9_code 68 = .ok (.aload_n 0, 1) := by decide +kernel
theorem px_d54_69 : decode prog_15_method_9_code 69 = .ok (.getfield 82, 3) := by decide +kernel
theorem px_d54_72 : decode prog_15_method_9_code 72 = .ok (.invokevirtual 92, 3) := by decide +kernel
theorem px_d54_75 : decode prog_15_method_9_code 75 = .ok (.ifCond .ne 43, 3) := by decide +kernel
theorem px_d54_78 : decode prog_15_method_9_code 78 = .ok (.aload_n 0, 1) := by decide +kernel
theorem px_d54_79 : decode prog_15_method_9_code 79 = .ok (.getfield 58, 3) := by decide +kernel
theorem px_d54_82 : decode prog_15_method_9_code 82 = .ok (.aload_n 0, 1) := by decide +kernel
theorem px_d54_83 : decode prog_15_method_9_code 83 = .ok (.iload_n 1, 1) := by decide +kernel
theorem px_d54_84 : decode prog_15_method_9_code 84 = .ok (.iload_n 2, 1) := by decide +kernel
theorem px_d54_85 : decode prog_15_method_9_code 85 = .ok (.invokevirtual 47, 3) := by decide +kernel
theorem px_d54_88 : decode prog_15_method_9_code 88 = .ok (.aload_n 0, 1) := by decide +kernel
theorem px_d54_89 : decode prog_15_method_9_code 89 = .ok (.getfield 82, 3) := by decide +kernel
theorem px_d54_92 : decode prog_15_method_9_code 92 = .ok (.aload_n 0, 1) := by decide +kernel
theorem px_d54_93 : decode prog_15_method_9_code 93 = .ok (.getfield 27, 3) := by decide +kernel
theorem px_d54_96 : decode prog_15_method_9_code 96 = .ok (.invokevirtual 30, 3) := by decide +kernel
theorem px_d54_99 : decode prog_15_method_9_code 99 = .ok (.aload_n 0, 1) := by decide +kernel
theorem px_d54_100 : decode prog_15_method_9_code 100 = .ok (.iload_n 1, 1) := by decide +kernel
theorem px_d54_101 : decode prog_15_method_9_code 101 = .ok (.iload_n 2, 1) := by decide +kernel
theorem px_d54_102 : decode prog_15_method_9_code 102 = .ok (.invokevirtual 47, 3) := by decide +kernel
theorem px_d54_105 : decode prog_15_method_9_code 105 = .ok (.aload_n 0, 1) := by decide +kernel
theorem px_d54_106 : decode prog_15_method_9_code 106 = .ok (.getfield 58, 3) := by decide +kernel
theorem px_d54_109 : decode prog_15_method_9_code 109 = .ok (.invokevirtual 7, 3) := by decide +kernel
theorem px_d54_112 : decode prog_15_method_9_code 112 = .ok (.iinc 2 1, 3) := by decide +kernel
theorem px_d54_115 : decode prog_15_method_9_code 115 = .ok (.goto (-65), 3) := by decide +kernel
theorem px_d54_118 : decode prog_15_method_9_code 118 = .ok (.return_, 1) := by decide +kernel
theorem px_d55_0 : decode prog_15_method_10_code 0 = .ok (.iconst 0, 1) := by decide +kernel
theorem px_d55_1 : decode prog_15_method_10_code 1 = .ok (.istore_n 1, 1) := by decide +kernel
theorem px_d55_2 : decode prog_15_method_10_code 2 = .ok (.iconst 0, 1) := by decide +kernel
theorem px_d55_3 : decode prog_15_method_10_code 3 = .ok (.istore_n 2, 1) := by decide +kernel
theorem px_d55_4 : decode prog_15_method_10_code 4 = .ok (.iload_n 2, 1) := by decide +kernel
theorem px_d55_5 : decode prog_15_method_10_code 5 = .ok (.aload_n 0, 1) := by decide +kernel
theorem px_d55_6 : decode prog_15_method_10_code 6 = .ok (.getfield 41, 3) := by decide +kernel
theorem px_d55_9 : decode prog_15_method_10_code 9 = .ok (.if_icmp .ge 103, 3) := by decide +kernel
theorem px_d55_12 : decode prog_15_method_10_code 12 = .ok (.iload_n 1, 1) := by decide +kernel
theorem px_d55_13 : decode prog_15_method_10_code 13 = .ok (.istore_n 3, 1) := by decide +kernel
theorem px_d55_14 : decode prog_15_method_10_code 14 = .ok (.iload_n 3, 1) := by decide +kernel
theorem px_d55_15 : decode prog_15_method_10_code 15 = .ok (.aload_n 0, 1) := by decide +kernel
theorem px_d55_16 : decode prog_15_method_10_code 16 = .ok (.getfield 44, 3) := by decide +kernel
theorem px_d55_19 : decode prog_15_method_10_code 19 = .ok (.if_icmp .ge 18, 3) := by decide +kernel
theorem px_d55_22 : decode prog_15_method_10_code 22 = .ok (.aload_n 0, 1) := by decide +kernel
theorem px_d55_23 : decode prog_15_method_10_code 23 = .ok (.iload_n 3, 1) := by decide +kernel
theorem px_d55_24 : decode prog_15_method_10_code 24 = .ok (.iload_n 2, 1) := by decide +kernel
theorem px_d55_25 : decode prog_15_method_10_code 25 = .ok (.invokevirtual 96, 3) := by decide +kernel
theorem px_d55_28 : decode prog_15_method_10_code 28 = .ok (.ifCond .eq 9, 3) := by decide +kernel
theorem px_d55_31 : decode prog_15_method_10_code 31 = .ok (.iinc 3 1, 3) := by decide +kernel
theorem px_d55_34 : decode prog_15_method_10_code 34 = .ok (.goto (-20), 3) := by decide +kernel
theorem px_d55_37 : decode prog_15_method_10_code 37 = .ok (.iload_n 3, 1) := by decide +kernel
theorem px_d55_38 : decode prog_15_method_10_code 38 = .ok (.aload_n 0, 1) := by decide +kernel
theorem px_d55_39 : decode prog_15_method_10_code 39 = .ok (.getfield 44, 3) := by decide +kernel
theorem px_d55_42 : decode prog_15_method_10_code 42 = .ok (.if_icmp .ne 6, 3) := by decide +kernel
theorem px_d55_45 : decode prog_15_method_10_code 45 = .ok (.goto 61, 3) := by decide +kernel
theorem px_d55_48 : decode prog_15_method_10_code 48 = .ok (.aload_n 0, 1) := by decide +kernel
theorem px_d55_49 : decode prog_15_method_10_code 49 = .ok (.iload_n 3, 1) := by decide +kernel
theorem px_d55_50 : decode prog_15_method_10_code 50 = .ok (.iload_n 1, 1) := by decide +kernel
theorem px_d55_51 : decode prog_15_method_10_code 51 = .ok (.invokevirtual 100, 3) := by decide +kernel
theorem px_d55_54 : decode prog_15_method_10_code 54 = .ok (.iconst 0, 1) := by decide +kernel
theorem px_d55_55 : decode prog_15_method_10_code 55 = .ok (.istore 4, 2) := by decide +kernel
theorem px_d55_57 : decode prog_15_method_10_code 57 = .ok (.iload 4, 2) := by decide +kernel
theorem px_d55_59 : decode prog_15_method_10_code 59 = .ok (.aload_n 0, 1) := by decide +kernel
theorem px_d55_60 : decode prog_15_method_10_code 60 = .ok (.getfield 44, 3) := by decide +kernel
theorem px_d55_63 : decode prog_15_method_10_code 63 = .ok (.if_icmp .ge 33, 3) := by decide +kernel
theorem px_d55_66 : decode prog_15_method_10_code 66 = .ok (.iload 4, 2) := by decide +kernel
theorem px_d55_68 : decode prog_15_method_10_code 68 = .ok (.iload_n 1, 1) := by decide +kernel
theorem px_d55_69 : decode prog_15_method_10_code 69 = .ok (.if_icmp .eq 21, 3) := by decide +kernel
theorem px_d55_72 : decode prog_15_method_10_code 72 = .ok (.aload_n 0, 1) := by decide +kernel
theorem px_d55_73 : decode prog_15_method_10_code 73 = .ok (.iload 4, 2) := by decide +kernel
theorem px_d55_75 : decode prog_15_method_10_code 75 = .ok (.iload_n 2, 1) := by decide +kernel
theorem px_d55_76 : decode prog_15_method_10_code 76 = .ok (.invokevirtual 96, 3) := by decide +kernel
theorem px_d55_79 : decode prog_15_method_10_code 79 = .ok (.ifCond .ne 11, 3) := by decide +kernel
theorem px_d55_82 : decode prog_15_method_10_code 82 = .ok (.aload_n 0, 1) := by decide +kernel
theorem px_d55_83 : decode prog_15_method_10_code 83 = .ok (.iload 4, 2) := by decide +kernel
theorem px_d55_85 : decode prog_15_method_10_code 85 = .ok (.iload_n 1, 1) := by decide +kernel
theorem px_d55_86 : decode prog_15_method_10_code 86 = .ok (.iload_n 2, 1) := by decide +kernel
theorem px_d55_87 : decode prog_15_method_10_code 87 = .ok (.invokevirtual 104, 3) := by decide +kernel
theorem px_d55_90 : decode prog_15_method_10_code 90 = .ok (.iinc 4 1, 3) := by decide +kernel
theorem px_d55_93 : decode prog_15_method_10_code 93 = .ok (.goto (-36), 3) := by decide +kernel
theorem px_d55_96 : decode prog_15_method_10_code 96 = .ok (.aload_n 0, 1) := by decide +kernel
theorem px_d55_97 : decode prog_15_method_10_code 97 = .ok (.getfield 108, 3) := by decide +kernel
theorem px_d55_100 : decode prog_15_method_10_code 100 = .ok (.iload_n 1, 1) := by decide +kernel
theorem px_d55_101 : decode prog_15_method_10_code 101 = .ok (.iload_n 2, 1) := by decide +kernel
theorem px_d55_102 : decode prog_15_method_10_code 102 = .ok (.iastore, 1) := by decide +kernel
theorem px_d55_103 : decode prog_15_method_10_code 103 = .ok (.iinc 1 1, 3) := by decide +kernel
theorem px_d55_106 : decode prog_15_method_10_code 106 = .ok (.iinc 2 1, 3) := by decide +kernel
theorem px_d55_109 : decode prog_15_method_10_code 109 = .ok (.goto (-105), 3) := by decide +kernel
theorem px_d55_112 : decode prog_15_method_10_code 112 = .ok (.aload_n 0, 1) := by decide +kernel
theorem px_d55_113 : decode prog_15_method_10_code 113 = .ok (.iload_n 1, 1) := by decide +kernel
theorem px_d55_114 : decode prog_15_method_10_code 114 = .ok (.putfield 44, 3) := by decide +kernel
theorem px_d55_117 : decode prog_15_method_10_code 117 = .ok (.iconst 0, 1) := by decide +kernel
theorem px_d55_118 : decode prog_15_method_10_code 118 = .ok (.istore_n 2, 1) := by decide +kernel
theorem px_d55_119 : decode prog_15_method_10_code 119 = .ok (.iload_n 2, 1) := by decide +kernel
theorem px_d55_120 : decode prog_15_method_10_code 120 = .ok (.aload_n 0, 1) := by decide +kernel
theorem px_d55_121 : decode prog_15_method_10_code 121 = .ok (.getfield 44, 3) := by decide +kernel
theorem px_d55_124 : decode prog_15_method_10_code 124 = .ok (.if_icmp .ge 14, 3) := by decide +kernel
theorem px_d55_127 : decode prog_15_method_10_code 127 = .ok (.aload_n 0, 1) := by decide +kernel
theorem px_d55_128 : decode prog_15_method_10_code 128 = .ok (.iload_n 2, 1) := by decide +kernel
theorem px_d55_129 : decode prog_15_method_10_code 129 = .ok (.invokevirtual 111, 3) := by decide +kernel
theorem px_d55_132 : decode prog_15_method_10_code 132 = .ok (.iinc 2 1, 3) := by decide +kernel
theorem px_d55_135 : decode prog_15_method_10_code 135 = .ok (.goto (-16), 3) := by decide +kernel
theorem px_d55_138 : decode prog_15_method_10_code 138 = .ok (.return_, 1) := by decide +kernel
theorem px_d56_0 : decode prog_15_method_11_code 0 = .ok (.aload_n 0, 1) := by decide +kernel
theorem px_d56_1 : decode prog_15_method_11_code 1 = .ok (.getfield 38, 3) := by decide +kernel
theorem px_d56_4 : decode prog_15_method_11_code 4 = .ok (.ifCond .le 70, 3) := by decide +kernel
theorem px_d56_7 : decode prog_15_method_11_code 7 = .ok (.aload_n 0, 1) := by decide +kernel
theorem px_d56_8 : decode prog_15_method_11_code 8 = .ok (.aload_n 0, 1) := by decide +kernel
theorem px_d56_9 : decode prog_15_method_11_code 9 = .ok (.getfield 55, 3) := by decide +kernel
theorem px_d56_12 : decode prog_15_method_11_code 12 = .ok (.bipush 12, 2) := by decide +kernel
theorem px_d56_14 : decode prog_15_method_11_code 14 = .ok (.iload_n 1, 1) := by decide +kernel
theorem px_d56_15 : decode prog_15_method_11_code 15 = .ok (.imul, 1) := by decide +kernel
theorem px_d56_16 : decode prog_15_method_11_code 16 = .ok (.aload_n 0, 1) := by decide +kernel
theorem px_d56_17 : decode prog_15_method_11_code 17 = .ok (.getfield 108, 3) := by decide +kernel
theorem px_d56_20 : decode prog_15_method_11_code 20 = .ok (.iload_n 1, 1) := by decide +kernel
theorem px_d56_21 : decode prog_15_method_11_code 21 = .ok (.iaload, 1) := by decide +kernel
theorem px_d56_22 : decode prog_15_method_11_code 22 = .ok (.iadd, 1) := by decide +kernel
theorem px_d56_23 : decode prog_15_method_11_code 23 = .ok (.iaload, 1) := by decide +kernel
theorem px_d56_24 : decode prog_15_method_11_code 24 = .ok (.invokevirtual 61, 3) := by decide +kernel
theorem px_d56_27 : decode prog_15_method_11_code 27 = .ok (.istore_n 2, 1) := by decide +kernel
theorem px_d56_28 : decode prog_15_method_11_code 28 = .ok (.iconst 0, 1) := by decide +kernel
theorem px_d56_29 : decode prog_15_method_11_code 29 = .ok (.istore_n 3, 1) := by decide +kernel
theorem px_d56_30 : decode prog_15_method_11_code 30 = .ok (.iload_n 3, 1) := by decide +kernel
theorem px_d56_31 : decode prog_15_method_11_code 31 = .ok (.aload_n 0, 1) := by decide +kernel
theorem px_d56_32 : decode prog_15_method_11_code 32 = .ok (.getfield 41, 3) := by decide +kernel
theorem px_d56_35 : decode prog_15_method_11_code 35 = .ok (.if_icmp .ge 38, 3) := by decide +kernel
theorem px_d56_38 : decode prog_15_method_11_code 38 = .ok (.aload_n 0, 1) := by decide +kernel
theorem px_d56_39 : decode prog_15_method_11_code 39 = .ok (.getfield 55, 3) := by decide +kernel
theorem px_d56_42 : decode prog_15_method_11_code 42 = .ok (.bipush 12, 2) := by decide +kernel
theorem px_d56_44 : decode prog_15_method_11_code 44 = .ok (.iload_n 1, 1) := by decide +kernel
theorem px_d56_45 : decode prog_15_method_11_code 45 = .ok (.imul, 1) := by decide +kernel
theorem px_d56_46 : decode prog_15_method_11_code 46 = .ok (.iload_n 3, 1) := by decide +kernel
theorem px_d56_47 : decode prog_15_method_11_code 47 = .ok (.iadd, 1) := by decide +kernel
theorem px_d56_48 : decode prog_15_method_11_code 48 = .ok (.aload_n 0, 1) := by decide +kernel
theorem px_d56_49 : decode prog_15_method_11_code 49 = .ok (.getfield 55, 3) := by decide +kernel
theorem px_d56_52 : decode prog_15_method_11_code 52 = .ok (.bipush 12, 2) := by decide +kernel
theorem px_d56_54 : decode prog_15_method_11_code 54 = .ok (.iload_n 1, 1) := by decide +kernel
theorem px_d56_55 : decode prog_15_method_11_code 55 = .ok (.imul, 1) := by decide +kernel
theorem px_d56_56 : decode prog_15_method_11_code 56 = .ok (.iload_n 3, 1) := by decide +kernel
theorem px_d56_57 : decode prog_15_method_11_code 57 = .ok (.iadd, 1) := by decide +kernel
theorem px_d56_58 : decode prog_15_method_11_code 58 = .ok (.iaload, 1) := by decide +kernel
theorem px_d56_59 : decode prog_15_method_11_code 59 = .ok (.iload_n 2, 1) := by decide +kernel
theorem px_d56_60 : decode prog_15_method_11_code 60 = .ok (.imul, 1) := by decide +kernel
theorem px_d56_61 : decode prog_15_method_11_code 61 = .ok (.aload_n 0, 1) := by decide +kernel
theorem px_d56_62 : decode prog_15_method_11_code 62 = .ok (.getfield 38, 3) := by decide +kernel
theorem px_d56_65 : decode prog_15_method_11_code 65 = .ok (.irem, 1) := by decide +kernel
theorem px_d56_66 : decode prog_15_method_11_code 66 = .ok (.iastore, 1) := by decide +kernel
theorem px_d56_67 : decode prog_15_method_11_code 67 = .ok (.iinc 3 1, 3) := by decide +kernel
theorem px_d56_70 : decode prog_15_method_11_code 70 = .ok (.goto (-40), 3) := by decide +kernel
theorem px_d56_73 : decode prog_15_method_11_code 73 = .ok (.return_, 1) := by decide +kernel
theorem px_d56_74 : decode prog_15_method_11_code 74 = .ok (.aload_n 0, 1) := by decide +kernel
theorem px_d56_75 : decode prog_15_method_11_code 75 = .ok (.iload_n 1, 1) := by decide +kernel
theorem px_d56_76 : decode prog_15_method_11_code 76 = .ok (.invokevirtual 78, 3) := by decide +kernel
theorem px_d56_79 : decode prog_15_method_11_code 79 = .ok (.aload_n 0, 1) := by decide +kernel
theorem px_d56_80 : decode prog_15_method_11_code 80 = .ok (.iload_n 1, 1) := by decide +kernel
theorem px_d56_81 : decode prog_15_method_11_code 81 = .ok (.aload_n 0, 1) := by decide +kernel
theorem px_d56_82 : decode prog_15_method_11_code 82 = .ok (.getfield 108, 3) := by decide +kernel
theorem px_d56_85 : decode prog_15_method_11_code 85 = .ok (.iload_n 1, 1) := by decide +kernel
theorem px_d56_86 : decode prog_15_method_11_code 86 = .ok (.iaload, 1) := by decide +kernel
theorem px_d56_87 : decode prog_15_method_11_code 87 = .ok (.invokevirtual 47, 3) := by decide +kernel
theorem px_d56_90 : decode prog_15_method_11_code 90 = .ok (.getfield 13, 3) := by decide +kernel
theorem px_d56_93 : decode prog_15_method_11_code 93 = .ok (.ifCond .eq 28, 3) := by decide +kernel
theorem px_d56_96 : decode prog_15_method_11_code 96 = .ok (.iconst 0, 1) := by decide +kernel
theorem px_d56_97 : decode prog_15_method_11_code 97 = .ok (.istore_n 2, 1) := by decide +kernel
theorem px_d56_98 : decode prog_15_method_11_code 98 = .ok (.iload_n 2, 1) := by decide +kernel
theorem px_d56_99 : decode prog_15_method_11_code 99 = .ok (.aload_n 0, 1) := by decide +kernel
theorem px_d56_100 : decode prog_15_method_11_code 100 = .ok (.getfield 41, 3) := by decide +kernel
theorem px_d56_103 : decode prog_15_method_11_code 103 = .ok (.if_icmp .ge 18, 3) := by decide +kernel
theorem px_d56_106 : decode prog_15_method_11_code 106 = .ok (.aload_n 0, 1) := by decide +kernel
theorem px_d56_107 : decode prog_15_method_11_code 107 = .ok (.iload_n 1, 1) := by decide +kernel
theorem px_d56_108 : decode prog_15_method_11_code 108 = .ok (.iload_n 2, 1) := by decide +kernel
theorem px_d56_109 : decode prog_15_method_11_code 109 = .ok (.invokevirtual 47, 3) := by decide +kernel
theorem px_d56_112 : decode prog_15_method_11_code 112 = .ok (.invokevirtual 114, 3) := by decide +kernel
theorem px_d56_115 : decode prog_15_method_11_code 115 = .ok (.iinc 2 1, 3) := by decide +kernel
theorem px_d56_118 : decode prog_15_method_11_code 118 = .ok (.goto (-20), 3) := by decide +kernel
theorem px_d56_121 : decode prog_15_method_11_code 121 = .ok (.return_, 1) := by decide +kernel
theorem px_d57_0 : decode prog_15_method_12_code 0 = .ok (.iconst 0, 1) := by decide +kernel
theorem px_d57_1 : decode prog_15_method_12_code 1 = .ok (.istore_n 2, 1) := by decide +kernel
theorem px_d57_2 : decode prog_15_method_12_code 2 = .ok (.iconst 0, 1) := by decide +kernel
theorem px_d57_3 : decode prog_15_method_12_code 3 = .ok (.istore_n 3, 1) := by decide +kernel
theorem px_d57_4 : decode prog_15_method_12_code 4 = .ok (.iload_n 3, 1) := by decide +kernel
theorem px_d57_5 : decode prog_15_method_12_code 5 = .ok (.aload_n 0, 1) := by decide +kernel
theorem px_d57_6 : decode prog_15_method_12_code 6 = .ok (.getfield 41, 3) := by decide +kernel
theorem px_d57_9 : decode prog_15_method_12_code 9 = .ok (.if_icmp .ge 28, 3) := by decide +kernel
theorem px_d57_12 : decode prog_15_method_12_code 12 = .ok (.iload_n 1, 1) := by decide +kernel
theorem px_d57_13 : decode prog_15_method_12_code 13 = .ok (.iload_n 3, 1) := by decide +kernel
theorem px_d57_14 : decode prog_15_method_12_code 14 = .ok (.ishr, 1) := by decide +kernel
theorem px_d57_15 : decode prog_15_method_12_code 15 = .ok (.iconst 1, 1) := by decide +kernel
theorem px_d57_16 : decode prog_15_method_12_code 16 = .ok (.iand, 1) := by decide +kernel
theorem px_d57_17 : decode prog_15_method_12_code 17 = .ok (.iconst 1, 1) := by decide +kernel
theorem px_d57_18 : decode prog_15_method_12_code 18 = .ok (.if_icmp .ne 13, 3) := by decide +kernel
theorem px_d57_21 : decode prog_15_method_12_code 21 = .ok (.aload_n 0, 1) := by decide +kernel
theorem px_d57_22 : decode prog_15_method_12_code 22 = .ok (.getfield 117, 3) := by decide +kernel
theorem px_d57_25 : decode prog_15_method_12_code 25 = .ok (.iload_n 2, 1) := by decide +kernel
theorem px_d57_26 : decode prog_15_method_12_code 26 = .ok (.iload_n 3, 1) := by decide +kernel
theorem px_d57_27 : decode prog_15_method_12_code 27 = .ok (.iastore, 1) := by decide +kernel
theorem px_d57_28 : decode prog_15_method_12_code 28 = .ok (.iinc 2 1, 3) := by decide +kernel
theorem px_d57_31 : decode prog_15_method_12_code 31 = .ok (.iinc 3 1, 3) := by decide +kernel
theorem px_d57_34 : decode prog_15_method_12_code 34 = .ok (.goto (-30), 3) := by decide +kernel
theorem px_d57_37 : decode prog_15_method_12_code 37 = .ok (.iconst 0, 1) := by decide +kernel
theorem px_d57_38 : decode prog_15_method_12_code 38 = .ok (.istore_n 3, 1) := by decide +kernel
theorem px_d57_39 : decode prog_15_method_12_code 39 = .ok (.iload_n 3, 1) := by decide +kernel
theorem px_d57_40 : decode prog_15_method_12_code 40 = .ok (.aload_n 0, 1) := by decide +kernel
theorem px_d57_41 : decode prog_15_method_12_code 41 = .ok (.getfield 44, 3) := by decide +kernel
theorem px_d57_44 : decode prog_15_method_12_code 44 = .ok (.if_icmp .ge 16, 3) := by decide +kernel
theorem px_d57_47 : decode prog_15_method_12_code 47 = .ok (.aload_n 0, 1) := by decide +kernel
theorem px_d57_48 : decode prog_15_method_12_code 48 = .ok (.getfield 120, 3) := by decide +kernel
theorem px_d57_51 : decode prog_15_method_12_code 51 = .ok (.iload_n 3, 1) := by decide +kernel
theorem px_d57_52 : decode prog_15_method_12_code 52 = .ok (.iload_n 3, 1) := by decide +kernel
theorem px_d57_53 : decode prog_15_method_12_code 53 = .ok (.iastore, 1) := by decide +kernel
theorem px_d57_54 : decode prog_15_method_12_code 54 = .ok (.iinc 3 1, 3) := by decide +kernel
theorem px_d57_57 : decode prog_15_method_12_code 57 = .ok (.goto (-18), 3) := by decide +kernel
theorem px_d57_60 : decode prog_15_method_12_code 60 = .ok (.iconst 1, 1) := by decide +kernel
theorem px_d57_61 : decode prog_15_method_12_code 61 = .ok (.istore_n 3, 1) := by decide +kernel
theorem px_d57_62 : decode prog_15_method_12_code 62 = .ok (.iconst 0, 1) := by decide +kernel
theorem px_d57_63 : decode prog_15_method_12_code 63 = .ok (.istore 4, 2) := by decide +kernel
theorem px_d57_65 : decode prog_15_method_12_code 65 = .ok (.iload 4, 2) := by decide +kernel
theorem px_d57_67 : decode prog_15_method_12_code 67 = .ok (.aload_n 0, 1) := by decide +kernel
theorem px_d57_68 : decode prog_15_method_12_code 68 = .ok (.getfield 44, 3) := by decide +kernel
theorem px_d57_71 : decode prog_15_method_12_code 71 = .ok (.if_icmp .ge 93, 3) := by decide +kernel
theorem px_d57_74 : decode prog_15_method_12_code 74 = .ok (.iload_n 1, 1) := by decide +kernel
theorem px_d57_75 : decode prog_15_method_12_code 75 = .ok (.aload_n 0, 1) := by decide +kernel
theorem px_d57_76 : decode prog_15_method_12_code 76 = .ok (.getfield 108, 3) := by decide +kernel
theorem px_d57_79 : decode prog_15_method_12_code 79 = .ok (.iload 4, 2) := by decide +kernel
theorem px_d57_81 : decode prog_15_method_12_code 81 = .ok (.iaload, 1) := by decide +kernel
theorem px_d57_82 : decode prog_15_method_12_code 82 = .ok (.ishr, 1) := by decide +kernel
theorem px_d57_83 : decode prog_15_method_12_code 83 = .ok (.iconst 1, 1) := by decide +kernel
theorem px_d57_84 : decode prog_15_method_12_code 84 = .ok (.iand, 1) := by decide +kernel
theorem px_d57_85 : decode prog_15_method_12_code 85 = .ok (.iconst 1, 1) := by decide +kernel
theorem px_d57_86 : decode prog_15_method_12_code 86 = .ok (.if_icmp .ne 72, 3) := by decide +kernel
theorem px_d57_89 : decode prog_15_method_12_code 89 = .ok (.aload_n 0, 1) := by decide +kernel
theorem px_d57_90 : decode prog_15_method_12_code 90 = .ok (.getfield 120, 3) := by decide +kernel
theorem px_d57_93 : decode prog_15_method_12_code 93 = .ok (.iload_n 2, 1) := by decide +kernel
theorem px_d57_94 : decode prog_15_method_12_code 94 = .ok (.iload 4, 2) := by decide +kernel
theorem px_d57_96 : decode prog_15_method_12_code 96 = .ok (.invokestatic 123, 3) := by decide +kernel
theorem px_d57_99 : decode prog_15_method_12_code 99 = .ok (.istore 5, 2) := by decide +kernel
theorem px_d57_101 : decode prog_15_method_12_code 101 = .ok (.aload_n 0, 1) := by decide +kernel
theorem px_d57_102 : decode prog_15_method_12_code 102 = .ok (.getfield 117, 3) := by decide +kernel
theorem px_d57_105 : decode prog_15_method_12_code 105 = .ok (.iload_n 2, 1) := by decide +kernel
theorem px_d57_106 : decode prog_15_method_12_code 106 = .ok (.aload_n 0, 1) := by decide +kernel
theorem px_d57_107 : decode prog_15_method_12_code 107 = .ok (.getfield 108, 3) := by decide +kernel
theorem px_d57_110 : decode prog_15_method_12_code 110 = .ok (.iload 4, 2) := by decide +kernel
theorem px_d57_112 : decode prog_15_method_12_code 112 = .ok (.iaload, 1) := by decide +kernel
theorem px_d57_113 : decode prog_15_method_12_code 113 = .ok (.invokestatic 123, 3) := by decide +kernel
theorem px_d57_116 : decode prog_15_method_12_code 116 = .ok (.istore 6, 2) := by decide +kernel
theorem px_d57_118 : decode prog_15_method_12_code 118 = .ok (.iload 5, 2) := by decide +kernel
theorem px_d57_120 : decode prog_15_method_12_code 120 = .ok (.iload 6, 2) := by decide +kernel
theorem px_d57_122 : decode prog_15_method_12_code 122 = .ok (.iadd, 1) := by decide +kernel
theorem px_d57_123 : decode prog_15_method_12_code 123 = .ok (.iconst 2, 1) := by decide +kernel
theorem px_d57_124 : decode prog_15_method_12_code 124 = .ok (.irem, 1) := by decide +kernel
theorem px_d57_125 : decode prog_15_method_12_code 125 = .ok (.ifCond .ne 7, 3) := by decide +kernel
theorem px_d57_128 : decode prog_15_method_12_code 128 = .ok (.iload_n 3, 1) := by decide +kernel
theorem px_d57_129 : decode prog_15_method_12_code 129 = .ok (.goto 5, 3) := by decide +kernel
theorem px_d57_132 : decode prog_15_method_12_code 132 = .ok (.iload_n 3, 1) := by decide +kernel
theorem px_d57_133 : decode prog_15_method_12_code 133 = .ok (.ineg, 1) := by decide +kernel
theorem px_d57_134 : decode prog_15_method_12_code 134 = .ok (.istore_n 3, 1) := by decide +kernel
theorem px_d57_135 : decode prog_15_method_12_code 135 = .ok (.aload_n 0, 1) := by decide +kernel
theorem px_d57_136 : decode prog_15_method_12_code 136 = .ok (.getfield 120, 3) := by decide +kernel
theorem px_d57_139 : decode prog_15_method_12_code 139 = .ok (.iload_n 2, 1) := by decide +kernel
theorem px_d57_140 : decode prog_15_method_12_code 140 = .ok (.iload 5, 2) := by decide +kernel
theorem px_d57_142 : decode prog_15_method_12_code 142 = .ok (.invokestatic 127, 3) := by decide +kernel
theorem px_d57_145 : decode prog_15_method_12_code 145 = .ok (.aload_n 0, 1) := by decide +kernel
theorem px_d57_146 : decode prog_15_method_12_code 146 = .ok (.getfield 117, 3) := by decide +kernel
theorem px_d57_149 : decode prog_15_method_12_code 149 = .ok (.iload_n 2, 1) := by decide +kernel
theorem px_d57_150 : decode prog_15_method_12_code 150 = .ok (.iload 6, 2) := by decide +kernel
theorem px_d57_152 : decode prog_15_method_12_code 152 = .ok (.invokestatic 127, 3) := by decide +kernel
theorem px_d57_155 : decode prog_15_method_12_code 155 = .ok (.iinc 2 (-1), 3) := by decide +kernel
theorem px_d57_158 : decode prog_15_method_12_code 158 = .ok (.iinc 4 1, 3) := by decide +kernel
theorem px_d57_161 : decode prog_15_method_12_code 161 = .ok (.goto (-96), 3) := by decide +kernel
theorem px_d57_164 : decode prog_15_method_12_code 164 = .ok (.aload_n 0, 1) := by decide +kernel
theorem px_d57_165 : decode prog_15_method_12_code 165 = .ok (.getfield 38, 3) := by decide +kernel
theorem px_d57_168 : decode prog_15_method_12_code 168 = .ok (.ifCond .le 11, 3) := by decide +kernel
theorem px_d57_171 : decode prog_15_method_12_code 171 = .ok (.aload_n 0, 1) := by decide +kernel
theorem px_d57_172 : decode prog_15_method_12_code 172 = .ok (.iload_n 2, 1) := by decide +kernel
theorem px_d57_173 : decode prog_15_method_12_code 173 = .ok (.invokevirtual 131, 3) := by decide +kernel
theorem px_d57_176 : decode prog_15_method_12_code 176 = .ok (.goto 8, 3) := by decide +kernel
theorem px_d57_179 : decode prog_15_method_12_code 179 = .ok (.aload_n 0, 1) := by decide +kernel
theorem px_d57_180 : decode prog_15_method_12_code 180 = .ok (.iload_n 2, 1) := by decide +kernel
theorem px_d57_181 : decode prog_15_method_12_code 181 = .ok (.invokevirtual 134, 3) := by decide +kernel
theorem px_d57_184 : decode prog_15_method_12_code 184 = .ok (.istore 4, 2) := by decide +kernel
theorem px_d57_186 : decode prog_15_method_12_code 186 = .ok (.aload_n 0, 1) := by decide +kernel
theorem px_d57_187 : decode prog_15_method_12_code 187 = .ok (.getfield 38, 3) := by decide +kernel
theorem px_d57_190 : decode prog_15_method_12_code 190 = .ok (.ifCond .le 8, 3) := by decide +kernel
theorem px_d57_193 : decode prog_15_method_12_code 193 = .ok (.iload 4, 2) := by decide +kernel
theorem px_d57_195 : decode prog_15_method_12_code 195 = .ok (.goto 7, 3) := by decide +kernel
theorem px_d57_198 : decode prog_15_method_12_code 198 = .ok (.iload_n 3, 1) := by decide +kernel
theorem px_d57_199 : decode prog_15_method_12_code 199 = .ok (.iload 4, 2) := by decide +kernel
theorem px_d57_201 : decode prog_15_method_12_code 201 = .ok (.imul, 1) := by decide +kernel
theorem px_d57_202 : decode prog_15_method_12_code 202 = .ok (.ireturn, 1) := by decide +kernel
theorem px_d61_0 : decode prog_15_method_16_code 0 = .ok (.iconst 0, 1) := by decide +kernel
theorem px_d61_1 : decode prog_15_method_16_code 1 = .ok (.istore_n 2, 1) := by decide +kernel
theorem px_d61_2 : decode prog_15_method_16_code 2 = .ok (.iload_n 2, 1) := by decide +kernel
theorem px_d61_3 : decode prog_15_method_16_code 3 = .ok (.iload_n 1, 1) := by decide +kernel
theorem px_d61_4 : decode prog_15_method_16_code 4 = .ok (.if_icmp .ge 52, 3) := by decide +kernel
theorem px_d61_7 : decode prog_15_method_16_code 7 = .ok (.iconst 0, 1) := by decide +kernel
theorem px_d61_8 : decode prog_15_method_16_code 8 = .ok (.istore_n 3, 1) := by decide +kernel
theorem px_d61_9 : decode prog_15_method_16_code 9 = .ok (.iload_n 3, 1) := by decide +kernel
theorem px_d61_10 : decode prog_15_method_16_code 10 = .ok (.iload_n 1, 1) := by decide +kernel
theorem px_d61_11 : decode prog_15_method_16_code 11 = .ok (.if_icmp .ge 39, 3) := by decide +kernel
theorem px_d61_14 : decode prog_15_method_16_code 14 = .ok (.aload_n 0, 1) := by decide +kernel
theorem px_d61_15 : decode prog_15_method_16_code 15 = .ok (.getfield 140, 3) := by decide +kernel
theorem px_d61_18 : decode prog_15_method_16_code 18 = .ok (.bipush 6, 2) := by decide +kernel
theorem px_d61_20 : decode prog_15_method_16_code 20 = .ok (.iload_n 2, 1) := by decide +kernel
theorem px_d61_21 : decode prog_15_method_16_code 21 = .ok (.imul, 1) := by decide +kernel
theorem px_d61_22 : decode prog_15_method_16_code 22 = .ok (.iload_n 3, 1) := by decide +kernel
theorem px_d61_23 : decode prog_15_method_16_code 23 = .ok (.iadd, 1) := by decide +kernel
theorem px_d61_24 : decode prog_15_method_16_code 24 = .ok (.aaload, 1) := by decide +kernel
theorem px_d61_25 : decode prog_15_method_16_code 25 = .ok (.aload_n 0, 1) := by decide +kernel
theorem px_d61_26 : decode prog_15_method_16_code 26 = .ok (.aload_n 0, 1) := by decide +kernel
theorem px_d61_27 : decode prog_15_method_16_code 27 = .ok (.getfield 120, 3) := by decide +kernel
theorem px_d61_30 : decode prog_15_method_16_code 30 = .ok (.iload_n 2, 1) := by decide +kernel
theorem px_d61_31 : decode prog_15_method_16_code 31 = .ok (.iaload, 1) := by decide +kernel
theorem px_d61_32 : decode prog_15_method_16_code 32 = .ok (.aload_n 0, 1) := by decide +kernel
theorem px_d61_33 : decode prog_15_method_16_code 33 = .ok (.getfield 117, 3) := by decide +kernel
theorem px_d61_36 : decode prog_15_method_16_code 36 = .ok (.iload_n 3, 1) := by decide +kernel
theorem px_d61_37 : decode prog_15_method_16_code 37 = .ok (.iaload, 1) := by decide +kernel
theorem px_d61_38 : decode prog_15_method_16_code 38 = .ok (.invokevirtual 47, 3) := by decide +kernel
theorem px_d61_41 : decode prog_15_method_16_code 41 = .ok (.invokevirtual 7, 3) := by decide +kernel
theorem px_d61_44 : decode prog_15_method_16_code 44 = .ok (.iinc 3 1, 3) := by decide +kernel
theorem px_d61_47 : decode prog_15_method_16_code 47 = .ok (.goto (-38), 3) := by decide +kernel
theorem px_d61_50 : decode prog_15_method_16_code 50 = .ok (.iinc 2 1, 3) := by decide +kernel
theorem px_d61_53 : decode prog_15_method_16_code 53 = .ok (.goto (-51), 3) := by decide +kernel
theorem px_d61_56 : decode prog_15_method_16_code 56 = .ok (.iconst 1, 1) := by decide +kernel
theorem px_d61_57 : decode prog_15_method_16_code 57 = .ok (.istore_n 2, 1) := by decide +kernel
theorem px_d61_58 : decode prog_15_method_16_code 58 = .ok (.iconst 0, 1) := by decide +kernel
theorem px_d61_59 : decode prog_15_method_16_code 59 = .ok (.istore_n 3, 1) := by decide +kernel
theorem px_d61_60 : decode prog_15_method_16_code 60 = .ok (.iload_n 3, 1) := by decide +kernel
theorem px_d61_61 : decode prog_15_method_16_code 61 = .ok (.iload_n 1, 1) := by decide +kernel
theorem px_d61_62 : decode prog_15_method_16_code 62 = .ok (.if_icmp .ge 339, 3) := by decide +kernel
theorem px_d61_65 : decode prog_15_method_16_code 65 = .ok (.iload_n 3, 1) := by decide +kernel
theorem px_d61_66 : decode prog_15_method_16_code 66 = .ok (.istore 4, 2) := by decide +kernel
theorem px_d61_68 : decode prog_15_method_16_code 68 = .ok (.iload 4, 2) := by decide +kernel
theorem px_d61_70 : decode prog_15_method_16_code 70 = .ok (.iload_n 1, 1) := by decide +kernel
theorem px_d61_71 : decode prog_15_method_16_code 71 = .ok (.if_icmp .ge 27, 3) := by decide +kernel
theorem px_d61_74 : decode prog_15_method_16_code 74 = .ok (.aload_n 0, 1) := by decide +kernel
theorem px_d61_75 : decode prog_15_method_16_code 75 = .ok (.getfield 140, 3) := by decide +kernel
theorem px_d61_78 : decode prog_15_method_16_code 78 = .ok (.bipush 6, 2) := by decide +kernel
theorem px_d61_80 : decode prog_15_method_16_code 80 = .ok (.iload 4, 2) := by decide +kernel
theorem px_d61_82 : decode prog_15_method_16_code 82 = .ok (.imul, 1) := by decide +kernel
theorem px_d61_83 : decode prog_15_method_16_code 83 = .ok (.iload_n 3, 1) := by decide +kernel
theorem px_d61_84 : decode prog_15_method_16_code 84 = .ok (.iadd, 1) := by decide +kernel
theorem px_d61_85 : decode prog_15_method_16_code 85 = .ok (.aaload, 1) := by decide +kernel
theorem px_d61_86 : decode prog_15_method_16_code 86 = .ok (.getfield 20, 3) := by decide +kernel
theorem px_d61_89 : decode prog_15_method_16_code 89 = .ok (.ifCond .ne 9, 3) := by decide +kernel
theorem px_d61_92 : decode prog_15_method_16_code 92 = .ok (.iinc 4 1, 3) := by decide +kernel
theorem px_d61_95 : decode prog_15_method_16_code 95 = .ok (.goto (-27), 3) := by decide +kernel
theorem px_d61_98 : decode prog_15_method_16_code 98 = .ok (.iload 4, 2) := by decide +kernel
theorem px_d61_100 : decode prog_15_method_16_code 100 = .ok (.iload_n 1, 1) := by decide +kernel
theorem px_d61_101 : decode prog_15_method_16_code 101 = .ok (.if_icmp .ne 5, 3) := by decide +kernel
theorem px_d61_104 : decode prog_15_method_16_code 104 = .ok (.iconst 0, 1) := by decide +kernel
theorem px_d61_105 : decode prog_15_method_16_code 105 = .ok (.ireturn, 1) := by decide +kernel
theorem px_d61_106 : decode prog_15_method_16_code 106 = .ok (.iconst 0, 1) := by decide +kernel
theorem px_d61_107 : decode prog_15_method_16_code 107 = .ok (.istore 5, 2) := by decide +kernel
theorem px_d61_109 : decode prog_15_method_16_code 109 = .ok (.iload 5, 2) := by decide +kernel
theorem px_d61_111 : decode prog_15_method_16_code 111 = .ok (.iload_n 1, 1) := by decide +kernel
theorem px_d61_112 : decode prog_15_method_16_code 112 = .ok (.if_icmp .ge 82, 3) := by decide +kernel
theorem px_d61_115 : decode prog_15_method_16_code 115 = .ok (.iload 4, 2) := by decide +kernel
theorem px_d61_117 : decode prog_15_method_16_code 117 = .ok (.iload_n 3, 1) := by decide +kernel
theorem px_d61_118 : decode prog_15_method_16_code 118 = .ok (.if_icmp .eq 76, 3) := by decide +kernel
theorem px_d61_121 : decode prog_15_method_16_code 121 = .ok (.aload_n 0, 1) := by decide +kernel
theorem px_d61_122 : decode prog_15_method_16_code 122 = .ok (.getfield 58, 3) := by decide +kernel
theorem px_d61_125 : decode prog_15_method_16_code 125 = .ok (.aload_n 0, 1) := by decide +kernel
theorem px_d61_126 : decode prog_15_method_16_code 126 = .ok (.getfield 140, 3) := by decide +kernel
theorem px_d61_129 : decode prog_15_method_16_code 129 = .ok (.bipush 6, 2) := by decide +kernel
theorem px_d61_131 : decode prog_15_method_16_code 131 = .ok (.iload 4, 2) := by decide +kernel
theorem px_d61_133 : decode prog_15_method_16_code 133 = .ok (.imul, 1) := by decide +kernel
theorem px_d61_134 : decode prog_15_method_16_code 134 = .ok (.iload 5, 2) := by decide +kernel
theorem px_d61_136 : decode prog_15_method_16_code 136 = .ok (.iadd, 1) := by decide +kernel
theorem px_d61_137 : decode prog_15_method_16_code 137 = .ok (.aaload, 1) := by decide +kernel
theorem px_d61_138 : decode prog_15_method_16_code 138 = .ok (.invokevirtual 7, 3) := by decide +kernel
theorem px_d61_141 : decode prog_15_method_16_code 141 = .ok (.aload_n 0, 1) := by decide +kernel
theorem px_d61_142 : decode prog_15_method_16_code 142 = .ok (.getfield 140, 3) := by decide +kernel
theorem px_d61_145 : decode prog_15_method_16_code 145 = .ok (.bipush 6, 2) := by decide +kernel
theorem px_d61_147 : decode prog_15_method_16_code 147 = .ok (.iload 4, 2) := by decide +kernel
theorem px_d61_149 : decode prog_15_method_16_code 149 = .ok (.imul, 1) := by decide +kernel
theorem px_d61_150 : decode prog_15_method_16_code 150 = .ok (.iload 5, 2) := by decide +kernel
theorem px_d61_152 : decode prog_15_method_16_code 152 = .ok (.iadd, 1) := by decide +kernel
theorem px_d61_153 : decode prog_15_method_16_code 153 = .ok (.aaload, 1) := by decide +kernel
theorem px_d61_154 : decode prog_15_method_16_code 154 = .ok (.aload_n 0, 1) := by decide +kernel
theorem px_d61_155 : decode prog_15_method_16_code 155 = .ok (.getfield 140, 3) := by decide +kernel
theorem px_d61_158 : decode prog_15_method_16_code 158 = .ok (.bipush 6, 2) := by decide +kernel
theorem px_d61_160 : decode prog_15_method_16_code 160 = .ok (.iload_n 3, 1) := by decide +kernel
theorem px_d61_161 : decode prog_15_method_16_code 161 = .ok (.imul, 1) := by decide +kernel
theorem px_d61_162 : decode prog_15_method_16_code 162 = .ok (.iload 5, 2) := by decide +kernel
theorem px_d61_164 : decode prog_15_method_16_code 164 = .ok (.iadd, 1) := by decide +kernel
theorem px_d61_165 : decode prog_15_method_16_code 165 = .ok (.aaload, 1) := by decide +kernel
theorem px_d61_166 : decode prog_15_method_16_code 166 = .ok (.invokevirtual 7, 3) := by decide +kernel
theorem px_d61_169 : decode prog_15_method_16_code 169 = .ok (.aload_n 0, 1) := by decide +kernel
theorem px_d61_170 : decode prog_15_method_16_code 170 = .ok (.getfield 140, 3) := by decide +kernel
theorem px_d61_173 : decode prog_15_method_16_code 173 = .ok (.bipush 6, 2) := by decide +kernel
theorem px_d61_175 : decode prog_15_method_16_code 175 = .ok (.iload_n 3, 1) := by decide +kernel
theorem px_d61_176 : decode prog_15_method_16_code 176 = .ok (.imul, 1) := by decide +kernel
theorem px_d61_177 : decode prog_15_method_16_code 177 = .ok (.iload 5, 2) := by decide +kernel
theorem px_d61_179 : decode prog_15_method_16_code 179 = .ok (.iadd, 1) := by decide +kernel
theorem px_d61_180 : decode prog_15_method_16_code 180 = .ok (.aaload, 1) := by decide +kernel
theorem px_d61_181 : decode prog_15_method_16_code 181 = .ok (.aload_n 0, 1) := by decide +kernel
theorem px_d61_182 : decode prog_15_method_16_code 182 = .ok (.getfield 58, 3) := by decide +kernel
theorem px_d61_185 : decode prog_15_method_16_code 185 = .ok (.invokevirtual 7, 3) := by decide +kernel
theorem px_d61_188 : decode prog_15_method_16_code 188 = .ok (.iinc 5 1, 3) := by decide +kernel
theorem px_d61_191 : decode prog_15_method_16_code 191 = .ok (.goto (-82), 3) := by decide +kernel
theorem px_d61_194 : decode prog_15_method_16_code 194 = .ok (.iload 4, 2) := by decide +kernel
theorem px_d61_196 : decode prog_15_method_16_code 196 = .ok (.iload_n 3, 1) := by decide +kernel
theorem px_d61_197 : decode prog_15_method_16_code 197 = .ok (.if_icmp .eq 8, 3) := by decide +kernel
theorem px_d61_200 : decode prog_15_method_16_code 200 = .ok (.iload_n 2, 1) := by decide +kernel
theorem px_d61_201 : decode prog_15_method_16_code 201 = .ok (.ineg, 1) := by decide +kernel
theorem px_d61_202 : decode prog_15_method_16_code 202 = .ok (.goto 4, 3) := by decide +kernel
theorem px_d61_205 : decode prog_15_method_16_code 205 = .ok (.iload_n 2, 1) := by decide +kernel
theorem px_d61_206 : decode prog_15_method_16_code 206 = .ok (.istore_n 2, 1) := by decide +kernel
theorem px_d61_207 : decode prog_15_method_16_code 207 = .ok (.iload_n 3, 1) := by decide +kernel
theorem px_d61_208 : decode prog_15_method_16_code 208 = .ok (.iconst 1, 1) := by decide +kernel
theorem px_d61_209 : decode prog_15_method_16_code 209 = .ok (.iadd, 1) := by decide +kernel
theorem px_d61_210 : decode prog_15_method_16_code 210 = .ok (.istore 5, 2) := by decide +kernel
theorem px_d61_212 : decode prog_15_method_16_code 212 = .ok (.iload 5, 2) := by decide +kernel
theorem px_d61_214 : decode prog_15_method_16_code 214 = .ok (.iload_n 1, 1) := by decide +kernel
theorem px_d61_215 : decode prog_15_method_16_code 215 = .ok (.if_icmp .ge 180, 3) := by decide +kernel
theorem px_d61_218 : decode prog_15_method_16_code 218 = .ok (.iload_n 3, 1) := by decide +kernel
theorem px_d61_219 : decode prog_15_method_16_code 219 = .ok (.iconst 1, 1) := by decide +kernel
theorem px_d61_220 : decode prog_15_method_16_code 220 = .ok (.iadd, 1) := by decide +kernel
theorem px_d61_221 : decode prog_15_method_16_code 221 = .ok (.istore 6, 2) := by decide +kernel
theorem px_d61_223 : decode prog_15_method_16_code 223 = .ok (.iload 6, 2) := by decide +kernel
theorem px_d61_225 : decode prog_15_method_16_code 225 = .ok (.iload_n 1, 1) := by decide +kernel
theorem px_d61_226 : decode prog_15_method_16_code 226 = .ok (.if_icmp .ge 163, 3) := by decide +kernel
theorem px_d61_229 : decode prog_15_method_16_code 229 = .ok (.aload_n 0, 1) := by decide +kernel
theorem px_d61_230 : decode prog_15_method_16_code 230 = .ok (.getfield 58, 3) := by decide +kernel
theorem px_d61_233 : decode prog_15_method_16_code 233 = .ok (.aload_n 0, 1) := by decide +kernel
theorem px_d61_234 : decode prog_15_method_16_code 234 = .ok (.getfield 140, 3) := by decide +kernel
theorem px_d61_237 : decode prog_15_method_16_code 237 = .ok (.bipush 6, 2) := by decide +kernel
theorem px_d61_239 : decode prog_15_method_16_code 239 = .ok (.iload 5, 2) := by decide +kernel
theorem px_d61_241 : decode prog_15_method_16_code 241 = .ok (.imul, 1) := by decide +kernel
theorem px_d61_242 : decode prog_15_method_16_code 242 = .ok (.iload 6, 2) := by decide +kernel
theorem px_d61_244 : decode prog_15_method_16_code 244 = .ok (.iadd, 1) := by decide +kernel
theorem px_d61_245 : decode prog_15_method_16_code 245 = .ok (.aaload, 1) := by decide +kernel
theorem px_d61_246 : decode prog_15_method_16_code 246 = .ok (.aload_n 0, 1) := by decide +kernel
theorem px_d61_247 : decode prog_15_method_16_code 247 = .ok (.getfield 140, 3) := by decide +kernel
theorem px_d61_250 : decode prog_15_method_16_code 250 = .ok (.bipush 6, 2) := by decide +kernel
theorem px_d61_252 : decode prog_15_method_16_code 252 = .ok (.iload_n 3, 1) := by decide +kernel
theorem px_d61_253 : decode prog_15_method_16_code 253 = .ok (.imul, 1) := by decide +kernel
theorem px_d61_254 : decode prog_15_method_16_code 254 = .ok (.iload_n 3, 1) := by decide +kernel
theorem px_d61_255 : decode prog_15_method_16_code 255 = .ok (.iadd, 1) := by decide +kernel
theorem px_d61_256 : decode prog_15_method_16_code 256 = .ok (.aaload, 1) := by decide +kernel
theorem px_d61_257 : decode prog_15_method_16_code 257 = .ok (.invokevirtual 71, 3) := by decide +kernel
theorem px_d61_260 : decode prog_15_method_16_code 260 = .ok (.aload_n 0, 1) := by decide +kernel
theorem px_d61_261 : decode prog_15_method_16_code 261 = .ok (.getfield 27, 3) := by decide +kernel
theorem px_d61_264 : decode prog_15_method_16_code 264 = .ok (.aload_n 0, 1) := by decide +kernel
theorem px_d61_265 : decode prog_15_method_16_code 265 = .ok (.getfield 140, 3) := by decide +kernel
theorem px_d61_268 : decode prog_15_method_16_code 268 = .ok (.bipush 6, 2) := by decide +kernel
theorem px_d61_270 : decode prog_15_method_16_code 270 = .ok (.iload 5, 2) := by decide +kernel
theorem px_d61_272 : decode prog_15_method_16_code 272 = .ok (.imul, 1) := by decide +kernel
theorem px_d61_273 : decode prog_15_method_16_code 273 = .ok (.iload_n 3, 1) := by decide +kernel
theorem px_d61_274 : decode prog_15_method_16_code 274 = .ok (.iadd, 1) := by decide +kernel
theorem px_d61_275 : decode prog_15_method_16_code 275 = .ok (.aaload, 1) := by decide +kernel
theorem px_d61_276 : decode prog_15_method_16_code 276 = .ok (.aload_n 0, 1) := by decide +kernel
theorem px_d61_277 : decode prog_15_method_16_code 277 = .ok (.getfield 140, 3) := by decide +kernel
theorem px_d61_280 : decode prog_15_method_16_code 280 = .ok (.bipush 6, 2) := by decide +kernel
theorem px_d61_282 : decode prog_15_method_16_code 282 = .ok (.iload_n 3, 1) := by decide +kernel
theorem px_d61_283 : decode prog_15_method_16_code 283 = .ok (.imul, 1) := by decide +kernel
theorem px_d61_284 : decode prog_15_method_16_code 284 = .ok (.iload 6, 2) := by decide +kernel
theorem px_d61_286 : decode prog_15_method_16_code 286 = .ok (.iadd, 1) := by decide +kernel
theorem px_d61_287 : decode prog_15_method_16_code 287 = .ok (.aaload, 1) := by decide +kernel
theorem px_d61_288 : decode prog_15_method_16_code 288 = .ok (.invokevirtual 71, 3) := by decide +kernel
theorem px_d61_291 : decode prog_15_method_16_code 291 = .ok (.aload_n 0, 1) := by decide +kernel
theorem px_d61_292 : decode prog_15_method_16_code 292 = .ok (.getfield 24, 3) := by decide +kernel
theorem px_d61_295 : decode prog_15_method_16_code 295 = .ok (.aload_n 0, 1) := by decide +kernel
theorem px_d61_296 : decode prog_15_method_16_code 296 = .ok (.getfield 58, 3) := by decide +kernel
theorem px_d61_299 : decode prog_15_method_16_code 299 = .ok (.aload_n 0, 1) := by decide +kernel
theorem px_d61_300 : decode prog_15_method_16_code 300 = .ok (.getfield 27, 3) := by decide +kernel
theorem px_d61_303 : decode prog_15_method_16_code 303 = .ok (.invokevirtual 75, 3) := by decide +kernel
theorem px_d61_306 : decode prog_15_method_16_code 306 = .ok (.iload_n 3, 1) := by decide +kernel
theorem px_d61_307 : decode prog_15_method_16_code 307 = .ok (.ifCond .le 56, 3) := by decide +kernel
theorem px_d61_310 : decode prog_15_method_16_code 310 = .ok (.aload_n 0, 1) := by decide +kernel
theorem px_d61_311 : decode prog_15_method_16_code 311 = .ok (.getfield 58, 3) := by decide +kernel
theorem px_d61_314 : decode prog_15_method_16_code 314 = .ok (.aload_n 0, 1) := by decide +kernel
theorem px_d61_315 : decode prog_15_method_16_code 315 = .ok (.getfield 24, 3) := by decide +kernel
theorem px_d61_318 : decode prog_15_method_16_code 318 = .ok (.aload_n 0, 1) := by decide +kernel
theorem px_d61_319 : decode prog_15_method_16_code 319 = .ok (.getfield 140, 3) := by decide +kernel
theorem px_d61_322 : decode prog_15_method_16_code 322 = .ok (.bipush 6, 2) := by decide +kernel
theorem px_d61_324 : decode prog_15_method_16_code 324 = .ok (.iload_n 3, 1) := by decide +kernel
theorem px_d61_325 : decode prog_15_method_16_code 325 = .ok (.iconst 1, 1) := by decide +kernel
theorem px_d61_326 : decode prog_15_method_16_code 326 = .ok (.isub, 1) := by decide +kernel
theorem px_d61_327 : decode prog_15_method_16_code 327 = .ok (.imul, 1) := by decide +kernel
theorem px_d61_328 : decode prog_15_method_16_code 328 = .ok (.iload_n 3, 1) := by decide +kernel
theorem px_d61_329 : decode prog_15_method_16_code 329 = .ok (.iadd, 1) := by decide +kernel
theorem px_d61_330 : decode prog_15_method_16_code 330 = .ok (.iconst 1, 1) := by decide +kernel
theorem px_d61_331 : decode prog_15_method_16_code 331 = .ok (.isub, 1) := by decide +kernel
theorem px_d61_332 : decode prog_15_method_16_code 332 = .ok (.aaload, 1) := by decide +kernel
theorem px_d61_333 : decode prog_15_method_16_code 333 = .ok (.aload_n 0, 1) := by decide +kernel
theorem px_d61_334 : decode prog_15_method_16_code 334 = .ok (.getfield 27, 3) := by decide +kernel
theorem px_d61_337 : decode prog_15_method_16_code 337 = .ok (.invokevirtual 30, 3) := by decide +kernel
theorem px_d61_340 : decode prog_15_method_16_code 340 = .ok (.aload_n 0, 1) := by decide +kernel
theorem px_d61_341 : decode prog_15_method_16_code 341 = .ok (.getfield 140, 3) := by decide +kernel
theorem px_d61_344 : decode prog_15_method_16_code 344 = .ok (.bipush 6, 2) := by decide +kernel
theorem px_d61_346 : decode prog_15_method_16_code 346 = .ok (.iload 5, 2) := by decide +kernel
theorem px_d61_348 : decode prog_15_method_16_code 348 = .ok (.imul, 1) := by decide +kernel
theorem px_d61_349 : decode prog_15_method_16_code 349 = .ok (.iload 6, 2) := by decide +kernel
theorem px_d61_351 : decode prog_15_method_16_code 351 = .ok (.iadd, 1) := by decide +kernel
theorem px_d61_352 : decode prog_15_method_16_code 352 = .ok (.aaload, 1) := by decide +kernel
theorem px_d61_353 : decode prog_15_method_16_code 353 = .ok (.aload_n 0, 1) := by decide +kernel
theorem px_d61_354 : decode prog_15_method_16_code 354 = .ok (.getfield 58, 3) := by decide +kernel
theorem px_d61_357 : decode prog_15_method_16_code 357 = .ok (.invokevirtual 7, 3) := by decide +kernel
theorem px_d61_360 : decode prog_15_method_16_code 360 = .ok (.goto 23, 3) := by decide +kernel
theorem px_d61_363 : decode prog_15_method_16_code 363 = .ok (.aload_n 0, 1) := by decide +kernel
theorem px_d61_364 : decode prog_15_method_16_code 364 = .ok (.getfield 140, 3) := by decide +kernel
theorem px_d61_367 : decode prog_15_method_16_code 367 = .ok (.bipush 6, 2) := by decide +kernel
theorem px_d61_369 : decode prog_15_method_16_code 369 = .ok (.iload 5, 2) := by decide +kernel
theorem px_d61_371 : decode prog_15_method_16_code 371 = .ok (.imul, 1) := by decide +kernel
theorem px_d61_372 : decode prog_15_method_16_code 372 = .ok (.iload 6, 2) := by decide +kernel
theorem px_d61_374 : decode prog_15_method_16_code 374 = .ok (.iadd, 1) := by decide +kernel
theorem px_d61_375 : decode prog_15_method_16_code 375 = .ok (.aaload, 1) := by decide +kernel
theorem px_d61_376 : decode prog_15_method_16_code 376 = .ok (.aload_n 0, 1) := by decide +kernel
theorem px_d61_377 : decode prog_15_method_16_code 377 = .ok (.getfield 24, 3) := by decide +kernel
theorem px_d61_380 : decode prog_15_method_16_code 380 = .ok (.invokevirtual 7, 3) := by decide +kernel
theorem px_d61_383 : decode prog_15_method_16_code 383 = .ok (.iinc 6 1, 3) := by decide +kernel
theorem px_d61_386 : decode prog_15_method_16_code 386 = .ok (.goto (-163), 3) := by decide +kernel
theorem px_d61_389 : decode prog_15_method_16_code 389 = .ok (.iinc 5 1, 3) := by decide +kernel
theorem px_d61_392 : decode prog_15_method_16_code 392 = .ok (.goto (-180), 3) := by decide +kernel
theorem px_d61_395 : decode prog_15_method_16_code 395 = .ok (.iinc 3 1, 3) := by decide +kernel
theorem px_d61_398 : decode prog_15_method_16_code 398 = .ok (.goto (-338), 3) := by decide +kernel
theorem px_d61_401 : decode prog_15_method_16_code 401 = .ok (.iload_n 1, 1) := by decide +kernel
theorem px_d61_402 : decode prog_15_method_16_code 402 = .ok (.ifCond .ne 7, 3) := by decide +kernel
theorem px_d61_405 : decode prog_15_method_16_code 405 = .ok (.iconst 1, 1) := by decide +kernel
theorem px_d61_406 : decode prog_15_method_16_code 406 = .ok (.goto 23, 3) := by decide +kernel
theorem px_d61_409 : decode prog_15_method_16_code 409 = .ok (.iload_n 2, 1) := by decide +kernel
theorem px_d61_410 : decode prog_15_method_16_code 410 = .ok (.aload_n 0, 1) := by decide +kernel
theorem px_d61_411 : decode prog_15_method_16_code 411 = .ok (.getfield 140, 3) := by decide +kernel
theorem px_d61_414 : decode prog_15_method_16_code 414 = .ok (.bipush 6, 2) := by decide +kernel
theorem px_d61_416 : decode prog_15_method_16_code 416 = .ok (.iload_n 1, 1) := by decide +kernel
theorem px_d61_417 : decode prog_15_method_16_code 417 = .ok (.iconst 1, 1) := by decide +kernel
theorem px_d61_418 : decode prog_15_method_16_code 418 = .ok (.isub, 1) := by decide +kernel
theorem px_d61_419 : decode prog_15_method_16_code 419 = .ok (.imul, 1) := by decide +kernel
theorem px_d61_420 : decode prog_15_method_16_code 420 = .ok (.iload_n 1, 1) := by decide +kernel
theorem px_d61_421 : decode prog_15_method_16_code 421 = .ok (.iadd, 1) := by decide +kernel
theorem px_d61_422 : decode prog_15_method_16_code 422 = .ok (.iconst 1, 1) := by decide +kernel
theorem px_d61_423 : decode prog_15_method_16_code 423 = .ok (.isub, 1) := by decide +kernel
theorem px_d61_424 : decode prog_15_method_16_code 424 = .ok (.aaload, 1) := by decide +kernel
theorem px_d61_425 : decode prog_15_method_16_code 425 = .ok (.invokevirtual 143, 3) := by decide +kernel
theorem px_d61_428 : decode prog_15_method_16_code 428 = .ok (.imul, 1) := by decide +kernel
theorem px_d61_429 : decode prog_15_method_16_code 429 = .ok (.ireturn, 1) := by decide +kernel
theorem px_d64_0 : decode prog_15_method_19_code 0 = .ok (.aload_n 0, 1) := by decide +kernel
theorem px_d64_1 : decode prog_15_method_19_code 1 = .ok (.getfield 167, 3) := by decide +kernel
theorem px_d64_4 : decode prog_15_method_19_code 4 = .ok (.iload_n 2, 1) := by decide +kernel
theorem px_d64_5 : decode prog_15_method_19_code 5 = .ok (.aload_n 1, 1) := by decide +kernel
theorem px_d64_6 : decode prog_15_method_19_code 6 = .ok (.getfield 13, 3) := by decide +kernel
theorem px_d64_9 : decode prog_15_method_19_code 9 = .ok (.ifCond .eq 11, 3) := by decide +kernel
theorem px_d64_12 : decode prog_15_method_19_code 12 = .ok (.aload_n 1, 1) := by decide +kernel
theorem px_d64_13 : decode prog_15_method_19_code 13 = .ok (.getfield 20, 3) := by decide +kernel
theorem px_d64_16 : decode prog_15_method_19_code 16 = .ok (.ineg, 1) := by decide +kernel
theorem px_d64_17 : decode prog_15_method_19_code 17 = .ok (.goto 7, 3) := by decide +kernel
theorem px_d64_20 : decode prog_15_method_19_code 20 = .ok (.aload_n 1, 1) := by decide +kernel
theorem px_d64_21 : decode prog_15_method_19_code 21 = .ok (.getfield 20, 3) := by decide +kernel
theorem px_d64_24 : decode prog_15_method_19_code 24 = .ok (.iastore, 1) := by decide +kernel
theorem px_d64_25 : decode prog_15_method_19_code 25 = .ok (.iconst 0, 1) := by decide +kernel
theorem px_d64_26 : decode prog_15_method_19_code 26 = .ok (.istore_n 3, 1) := by decide +kernel
theorem px_d64_27 : decode prog_15_method_19_code 27 = .ok (.iload_n 3, 1) := by decide +kernel
theorem px_d64_28 : decode prog_15_method_19_code 28 = .ok (.aload_n 1, 1) := by decide +kernel
theorem px_d64_29 : decode prog_15_method_19_code 29 = .ok (.getfield 20, 3) := by decide +kernel
theorem px_d64_32 : decode prog_15_method_19_code 32 = .ok (.if_icmp .ge 25, 3) := by decide +kernel
theorem px_d64_35 : decode prog_15_method_19_code 35 = .ok (.aload_n 0, 1) := by decide +kernel
theorem px_d64_36 : decode prog_15_method_19_code 36 = .ok (.getfield 167, 3) := by decide +kernel
theorem px_d64_39 : decode prog_15_method_19_code 39 = .ok (.iload_n 2, 1) := by decide +kernel
theorem px_d64_40 : decode prog_15_method_19_code 40 = .ok (.iconst 1, 1) := by decide +kernel
theorem px_d64_41 : decode prog_15_method_19_code 41 = .ok (.iadd, 1) := by decide +kernel
theorem px_d64_42 : decode prog_15_method_19_code 42 = .ok (.iload_n 3, 1) := by decide +kernel
theorem px_d64_43 : decode prog_15_method_19_code 43 = .ok (.iadd, 1) := by decide +kernel
theorem px_d64_44 : decode prog_15_method_19_code 44 = .ok (.aload_n 1, 1) := by decide +kernel
theorem px_d64_45 : decode prog_15_method_19_code 45 = .ok (.getfield 231, 3) := by decide +kernel
theorem px_d64_48 : decode prog_15_method_19_code 48 = .ok (.iload_n 3, 1) := by decide +kernel
theorem px_d64_49 : decode prog_15_method_19_code 49 = .ok (.iaload, 1) := by decide +kernel
theorem px_d64_50 : decode prog_15_method_19_code 50 = .ok (.iastore, 1) := by decide +kernel
theorem px_d64_51 : decode prog_15_method_19_code 51 = .ok (.iinc 3 1, 3) := by decide +kernel
theorem px_d64_54 : decode prog_15_method_19_code 54 = .ok (.goto (-27), 3) := by decide +kernel
theorem px_d64_57 : decode prog_15_method_19_code 57 = .ok (.return_, 1) := by decide +kernel
theorem px_d65_0 : decode prog_15_method_20_code 0 = .ok (.aload_n 1, 1) := by decide +kernel
theorem px_d65_1 : decode prog_15_method_20_code 1 = .ok (.aload_n 0, 1) := by decide +kernel
theorem px_d65_2 : decode prog_15_method_20_code 2 = .ok (.getfield 167, 3) := by decide +kernel
theorem px_d65_5 : decode prog_15_method_20_code 5 = .ok (.iload_n 2, 1) := by decide +kernel
theorem px_d65_6 : decode prog_15_method_20_code 6 = .ok (.iaload, 1) := by decide +kernel
theorem px_d65_7 : decode prog_15_method_20_code 7 = .ok (.ifCond .ge 7, 3) := by decide +kernel
theorem px_d65_10 : decode prog_15_method_20_code 10 = .ok (.iconst 1, 1) := by decide +kernel
theorem px_d65_11 : decode prog_15_method_20_code 11 = .ok (.goto 4, 3) := by decide +kernel
theorem px_d65_14 : decode prog_15_method_20_code 14 = .ok (.iconst 0, 1) := by decide +kernel
theorem px_d65_15 : decode prog_15_method_20_code 15 = .ok (.putfield 13, 3) := by decide +kernel
theorem px_d65_18 : decode prog_15_method_20_code 18 = .ok (.aload_n 1, 1) := by decide +kernel
theorem px_d65_19 : decode prog_15_method_20_code 19 = .ok (.aload_n 0, 1) := by decide +kernel
theorem px_d65_20 : decode prog_15_method_20_code 20 = .ok (.getfield 167, 3) := by decide +kernel
theorem px_d65_23 : decode prog_15_method_20_code 23 = .ok (.iload_n 2, 1) := by decide +kernel
theorem px_d65_24 : decode prog_15_method_20_code 24 = .ok (.iaload, 1) := by decide +kernel
theorem px_d65_25 : decode prog_15_method_20_code 25 = .ok (.ifCond .ge 13, 3) := by decide +kernel
theorem px_d65_28 : decode prog_15_method_20_code 28 = .ok (.aload_n 0, 1) := by decide +kernel
theorem px_d65_29 : decode prog_15_method_20_code 29 = .ok (.getfield 167, 3) := by decide +kernel
theorem px_d65_32 : decode prog_15_method_20_code 32 = .ok (.iload_n 2, 1) := by decide +kernel
theorem px_d65_33 : decode prog_15_method_20_code 33 = .ok (.iaload, 1) := by decide +kernel
theorem px_d65_34 : decode prog_15_method_20_code 34 = .ok (.ineg, 1) := by decide +kernel
theorem px_d65_35 : decode prog_15_method_20_code 35 = .ok (.goto 9, 3) := by decide +kernel
theorem px_d65_38 : decode prog_15_method_20_code 38 = .ok (.aload_n 0, 1) := by decide +kernel
theorem px_d65_39 : decode prog_15_method_20_code 39 = .ok (.getfield 167, 3) := by decide +kernel
theorem px_d65_42 : decode prog_15_method_20_code 42 = .ok (.iload_n 2, 1) := by decide +kernel
theorem px_d65_43 : decode prog_15_method_20_code 43 = .ok (.iaload, 1) := by decide +kernel
theorem px_d65_44 : decode prog_15_method_20_code 44 = .ok (.putfield 20, 3) := by decide +kernel
theorem px_d65_47 : decode prog_15_method_20_code 47 = .ok (.iconst 0, 1) := by decide +kernel
theorem px_d65_48 : decode prog_15_method_20_code 48 = .ok (.istore_n 3, 1) := by decide +kernel
theorem px_d65_49 : decode prog_15_method_20_code 49 = .ok (.iload_n 3, 1) := by decide +kernel
theorem px_d65_50 : decode prog_15_method_20_code 50 = .ok (.aload_n 1, 1) := by decide +kernel
theorem px_d65_51 : decode prog_15_method_20_code 51 = .ok (.getfield 20, 3) := by decide +kernel
theorem px_d65_54 : decode prog_15_method_20_code 54 = .ok (.if_icmp .ge 25, 3) := by decide +kernel
theorem px_d65_57 : decode prog_15_method_20_code 57 = .ok (.aload_n 1, 1) := by decide +kernel
theorem px_d65_58 : decode prog_15_method_20_code 58 = .ok (.getfield 231, 3) := by decide +kernel
theorem px_d65_61 : decode prog_15_method_20_code 61 = .ok (.iload_n 3, 1) := by decide +kernel
theorem px_d65_62 : decode prog_15_method_20_code 62 = .ok (.aload_n 0, 1) := by decide +kernel
theorem px_d65_63 : decode prog_15_method_20_code 63 = .ok (.getfield 167, 3) := by decide +kernel
theorem px_d65_66 : decode prog_15_method_20_code 66 = .ok (.iload_n 2, 1) := by decide +kernel
theorem px_d65_67 : decode prog_15_method_20_code 67 = .ok (.iconst 1, 1) := by decide +kernel
theorem px_d65_68 : decode prog_15_method_20_code 68 = .ok (.iadd, 1) := by decide +kernel
theorem px_d65_69 : decode prog_15_method_20_code 69 = .ok (.iload_n 3, 1) := by decide +kernel
theorem px_d65_70 : decode prog_15_method_20_code 70 = .ok (.iadd, 1) := by decide +kernel
theorem px_d65_71 : decode prog_15_method_20_code 71 = .ok (.iaload, 1) := by decide +kernel
theorem px_d65_72 : decode prog_15_method_20_code 72 = .ok (.iastore, 1) := by decide +kernel
theorem px_d65_73 : decode prog_15_method_20_code 73 = .ok (.iinc 3 1, 3) := by decide +kernel
theorem px_d65_76 : decode prog_15_method_20_code 76 = .ok (.goto (-27), 3) := by decide +kernel
theorem px_d65_79 : decode prog_15_method_20_code 79 = .ok (.return_, 1) := by decide +kernel
theorem px_d66_0 : decode prog_15_method_21_code 0 = .ok (.aload_n 0, 1) := by decide +kernel
theorem px_d66_1 : decode prog_15_method_21_code 1 = .ok (.invokevirtual 234, 3) := by decide +kernel
theorem px_d66_4 : decode prog_15_method_21_code 4 = .ok (.aload_n 0, 1) := by decide +kernel
theorem px_d66_5 : decode prog_15_method_21_code 5 = .ok (.getfield 153, 3) := by decide +kernel
theorem px_d66_8 : decode prog_15_method_21_code 8 = .ok (.iload_n 1, 1) := by decide +kernel
theorem px_d66_9 : decode prog_15_method_21_code 9 = .ok (.iconst 1, 1) := by decide +kernel
theorem px_d66_10 : decode prog_15_method_21_code 10 = .ok (.bastore, 1) := by decide +kernel
theorem px_d66_11 : decode prog_15_method_21_code 11 = .ok (.aload_n 0, 1) := by decide +kernel
theorem px_d66_12 : decode prog_15_method_21_code 12 = .ok (.getfield 157, 3) := by decide +kernel
theorem px_d66_15 : decode prog_15_method_21_code 15 = .ok (.iload_n 1, 1) := by decide +kernel
theorem px_d66_16 : decode prog_15_method_21_code 16 = .ok (.aload_n 0, 1) := by decide +kernel
theorem px_d66_17 : decode prog_15_method_21_code 17 = .ok (.getfield 41, 3) := by decide +kernel
theorem px_d66_20 : decode prog_15_method_21_code 20 = .ok (.iastore, 1) := by decide +kernel
theorem px_d66_21 : decode prog_15_method_21_code 21 = .ok (.aload_n 0, 1) := by decide +kernel
theorem px_d66_22 : decode prog_15_method_21_code 22 = .ok (.getfield 160, 3) := by decide +kernel
theorem px_d66_25 : decode prog_15_method_21_code 25 = .ok (.iload_n 1, 1) := by decide +kernel
theorem px_d66_26 : decode prog_15_method_21_code 26 = .ok (.aload_n 0, 1) := by decide +kernel
theorem px_d66_27 : decode prog_15_method_21_code 27 = .ok (.getfield 38, 3) := by decide +kernel
theorem px_d66_30 : decode prog_15_method_21_code 30 = .ok (.iastore, 1) := by decide +kernel
theorem px_d66_31 : decode prog_15_method_21_code 31 = .ok (.aload_n 0, 1) := by decide +kernel
theorem px_d66_32 : decode prog_15_method_21_code 32 = .ok (.getfield 163, 3) := by decide +kernel
theorem px_d66_35 : decode prog_15_method_21_code 35 = .ok (.iload_n 1, 1) := by decide +kernel
theorem px_d66_36 : decode prog_15_method_21_code 36 = .ok (.aload_n 0, 1) := by decide +kernel
theorem px_d66_37 : decode prog_15_method_21_code 37 = .ok (.getfield 44, 3) := by decide +kernel
theorem px_d66_40 : decode prog_15_method_21_code 40 = .ok (.iastore, 1) := by decide +kernel
theorem px_d66_41 : decode prog_15_method_21_code 41 = .ok (.iconst 0, 1) := by decide +kernel
theorem px_d66_42 : decode prog_15_method_21_code 42 = .ok (.istore_n 2, 1) := by decide +kernel
theorem px_d66_43 : decode prog_15_method_21_code 43 = .ok (.iload_n 2, 1) := by decide +kernel
theorem px_d66_44 : decode prog_15_method_21_code 44 = .ok (.aload_n 0, 1) := by decide +kernel
theorem px_d66_45 : decode prog_15_method_21_code 45 = .ok (.getfield 44, 3) := by decide +kernel
theorem px_d66_48 : decode prog_15_method_21_code 48 = .ok (.if_icmp .ge 79, 3) := by decide +kernel
theorem px_d66_51 : decode prog_15_method_21_code 51 = .ok (.iconst 0, 1) := by decide +kernel
theorem px_d66_52 : decode prog_15_method_21_code 52 = .ok (.istore_n 3, 1) := by decide +kernel
theorem px_d66_53 : decode prog_15_method_21_code 53 = .ok (.iload_n 3, 1) := by decide +kernel
theorem px_d66_54 : decode prog_15_method_21_code 54 = .ok (.aload_n 0, 1) := by decide +kernel
theorem px_d66_55 : decode prog_15_method_21_code 55 = .ok (.getfield 41, 3) := by decide +kernel
theorem px_d66_58 : decode prog_15_method_21_code 58 = .ok (.if_icmp .ge 63, 3) := by decide +kernel
theorem px_d66_61 : decode prog_15_method_21_code 61 = .ok (.sipush 144, 3) := by decide +kernel
theorem px_d66_64 : decode prog_15_method_21_code 64 = .ok (.iload_n 1, 1) := by decide +kernel
theorem px_d66_65 : decode prog_15_method_21_code 65 = .ok (.imul, 1) := by decide +kernel
theorem px_d66_66 : decode prog_15_method_21_code 66 = .ok (.bipush 12, 2) := by decide +kernel
theorem px_d66_68 : decode prog_15_method_21_code 68 = .ok (.iload_n 2, 1) := by decide +kernel
theorem px_d66_69 : decode prog_15_method_21_code 69 = .ok (.imul, 1) := by decide +kernel
theorem px_d66_70 : decode prog_15_method_21_code 70 = .ok (.iadd, 1) := by decide +kernel
theorem px_d66_71 : decode prog_15_method_21_code 71 = .ok (.iload_n 3, 1) := by decide +kernel
theorem px_d66_72 : decode prog_15_method_21_code 72 = .ok (.iadd, 1) := by decide +kernel
theorem px_d66_73 : decode prog_15_method_21_code 73 = .ok (.istore 4, 2) := by decide +kernel
theorem px_d66_75 : decode prog_15_method_21_code 75 = .ok (.aload_n 0, 1) := by decide +kernel
theorem px_d66_76 : decode prog_15_method_21_code 76 = .ok (.getfield 170, 3) := by decide +kernel
theorem px_d66_79 : decode prog_15_method_21_code 79 = .ok (.iload 4, 2) := by decide +kernel
theorem px_d66_81 : decode prog_15_method_21_code 81 = .ok (.aload_n 0, 1) := by decide +kernel
theorem px_d66_82 : decode prog_15_method_21_code 82 = .ok (.getfield 55, 3) := by decide +kernel
theorem px_d66_85 : decode prog_15_method_21_code 85 = .ok (.bipush 12, 2) := by decide +kernel
theorem px_d66_87 : decode prog_15_method_21_code 87 = .ok (.iload_n 2, 1) := by decide +kernel
theorem px_d66_88 : decode prog_15_method_21_code 88 = .ok (.imul, 1) := by decide +kernel
theorem px_d66_89 : decode prog_15_method_21_code 89 = .ok (.iload_n 3, 1) := by decide +kernel
theorem px_d66_90 : decode prog_15_method_21_code 90 = .ok (.iadd, 1) := by decide +kernel
theorem px_d66_91 : decode prog_15_method_21_code 91 = .ok (.iaload, 1) := by decide +kernel
theorem px_d66_92 : decode prog_15_method_21_code 92 = .ok (.iastore, 1) := by decide +kernel
theorem px_d66_93 : decode prog_15_method_21_code 93 = .ok (.aload_n 0, 1) := by decide +kernel
theorem px_d66_94 : decode prog_15_method_21_code 94 = .ok (.getfield 38, 3) := by decide +kernel
theorem px_d66_97 : decode prog_15_method_21_code 97 = .ok (.ifCond .ne 18, 3) := by decide +kernel
theorem px_d66_100 : decode prog_15_method_21_code 100 = .ok (.aload_n 0, 1) := by decide +kernel
theorem px_d66_101 : decode prog_15_method_21_code 101 = .ok (.aload_n 0, 1) := by decide +kernel
theorem px_d66_102 : decode prog_15_method_21_code 102 = .ok (.iload_n 2, 1) := by decide +kernel
theorem px_d66_103 : decode prog_15_method_21_code 103 = .ok (.iload_n 3, 1) := by decide +kernel
theorem px_d66_104 : decode prog_15_method_21_code 104 = .ok (.invokevirtual 47, 3) := by decide +kernel
theorem px_d66_107 : decode prog_15_method_21_code 107 = .ok (.bipush 24, 2) := by decide +kernel
theorem px_d66_109 : decode prog_15_method_21_code 109 = .ok (.iload 4, 2) := by decide +kernel
theorem px_d66_111 : decode prog_15_method_21_code 111 = .ok (.imul, 1) := by decide +kernel
theorem px_d66_112 : decode prog_15_method_21_code 112 = .ok (.invokevirtual 237, 3) := by decide +kernel
theorem px_d66_115 : decode prog_15_method_21_code 115 = .ok (.iinc 3 1, 3) := by decide +kernel
theorem px_d66_118 : decode prog_15_method_21_code 118 = .ok (.goto (-65), 3) := by decide +kernel
theorem px_d66_121 : decode prog_15_method_21_code 121 = .ok (.iinc 2 1, 3) := by decide +kernel
theorem px_d66_124 : decode prog_15_method_21_code 124 = .ok (.goto (-81), 3) := by decide +kernel
theorem px_d66_127 : decode prog_15_method_21_code 127 = .ok (.iconst 0, 1) := by decide +kernel
theorem px_d66_128 : decode prog_15_method_21_code 128 = .ok (.istore_n 2, 1) := by decide +kernel
theorem px_d66_129 : decode prog_15_method_21_code 129 = .ok (.iload_n 2, 1) := by decide +kernel
theorem px_d66_130 : decode prog_15_method_21_code 130 = .ok (.bipush 12, 2) := by decide +kernel
theorem px_d66_132 : decode prog_15_method_21_code 132 = .ok (.if_icmp .ge 21, 3) := by decide +kernel
theorem px_d66_135 : decode prog_15_method_21_code 135 = .ok (.aload_n 0, 1) := by decide +kernel
theorem px_d66_136 : decode prog_15_method_21_code 136 = .ok (.getfield 173, 3) := by decide +kernel
theorem px_d66_139 : decode prog_15_method_21_code 139 = .ok (.bipush 12, 2) := by decide +kernel
theorem px_d66_141 : decode prog_15_method_21_code 141 = .ok (.iload_n 1, 1) := by decide +kernel
theorem px_d66_142 : decode prog_15_method_21_code 142 = .ok (.imul, 1) := by decide +kernel
theorem px_d66_143 : decode prog_15_method_21_code 143 = .ok (.iload_n 2, 1) := by decide +kernel
theorem px_d66_144 : decode prog_15_method_21_code 144 = .ok (.iadd, 1) := by decide +kernel
theorem px_d66_145 : decode prog_15_method_21_code 145 = .ok (.iconst 0, 1) := by decide +kernel
theorem px_d66_146 : decode prog_15_method_21_code 146 = .ok (.iastore, 1) := by decide +kernel
theorem px_d66_147 : decode prog_15_method_21_code 147 = .ok (.iinc 2 1, 3) := by decide +kernel
theorem px_d66_150 : decode prog_15_method_21_code 150 = .ok (.goto (-21), 3) := by decide +kernel
theorem px_d66_153 : decode prog_15_method_21_code 153 = .ok (.aload_n 0, 1) := by decide +kernel
theorem px_d66_154 : decode prog_15_method_21_code 154 = .ok (.iload_n 1, 1) := by decide +kernel
theorem px_d66_155 : decode prog_15_method_21_code 155 = .ok (.invokevirtual 241, 3) := by decide +kernel
theorem px_d66_158 : decode prog_15_method_21_code 158 = .ok (.return_, 1) := by decide +kernel
theorem px_d67_0 : decode prog_15_method_22_code 0 = .ok (.iconst 0, 1) := by decide +kernel
theorem px_d67_1 : decode prog_15_method_22_code 1 = .ok (.istore_n 3, 1) := by decide +kernel
theorem px_d67_2 : decode prog_15_method_22_code 2 = .ok (.iload_n 3, 1) := by decide +kernel
theorem px_d67_3 : decode prog_15_method_22_code 3 = .ok (.aload_n 0, 1) := by decide +kernel
theorem px_d67_4 : decode prog_15_method_22_code 4 = .ok (.getfield 163, 3) := by decide +kernel
theorem px_d67_7 : decode prog_15_method_22_code 7 = .ok (.iload_n 1, 1) := by decide +kernel
theorem px_d67_8 : decode prog_15_method_22_code 8 = .ok (.iaload, 1) := by decide +kernel
theorem px_d67_9 : decode prog_15_method_22_code 9 = .ok (.if_icmp .ge 84, 3) := by decide +kernel
theorem px_d67_12 : decode prog_15_method_22_code 12 = .ok (.iconst 0, 1) := by decide +kernel
theorem px_d67_13 : decode prog_15_method_22_code 13 = .ok (.istore 4, 2) := by decide +kernel
theorem px_d67_15 : decode prog_15_method_22_code 15 = .ok (.iload 4, 2) := by decide +kernel
theorem px_d67_17 : decode prog_15_method_22_code 17 = .ok (.aload_n 0, 1) := by decide +kernel
theorem px_d67_18 : decode prog_15_method_22_code 18 = .ok (.getfield 41, 3) := by decide +kernel
theorem px_d67_21 : decode prog_15_method_22_code 21 = .ok (.if_icmp .ge 20, 3) := by decide +kernel
theorem px_d67_24 : decode prog_15_method_22_code 24 = .ok (.aload_n 0, 1) := by decide +kernel
theorem px_d67_25 : decode prog_15_method_22_code 25 = .ok (.aload_n 0, 1) := by decide +kernel
theorem px_d67_26 : decode prog_15_method_22_code 26 = .ok (.getfield 44, 3) := by decide +kernel
theorem px_d67_29 : decode prog_15_method_22_code 29 = .ok (.iload 4, 2) := by decide +kernel
theorem px_d67_31 : decode prog_15_method_22_code 31 = .ok (.lconst 0, 1) := by decide +kernel
theorem px_d67_32 : decode prog_15_method_22_code 32 = .ok (.invokevirtual 244, 3) := by decide +kernel
theorem px_d67_35 : decode prog_15_method_22_code 35 = .ok (.iinc 4 1, 3) := by decide +kernel
theorem px_d67_38 : decode prog_15_method_22_code 38 = .ok (.goto (-23), 3) := by decide +kernel
theorem px_d67_41 : decode prog_15_method_22_code 41 = .ok (.iconst 0, 1) := by decide +kernel
theorem px_d67_42 : decode prog_15_method_22_code 42 = .ok (.istore 4, 2) := by decide +kernel
theorem px_d67_44 : decode prog_15_method_22_code 44 = .ok (.iload 4, 2) := by decide +kernel
theorem px_d67_46 : decode prog_15_method_22_code 46 = .ok (.aload_n 0, 1) := by decide +kernel
theorem px_d67_47 : decode prog_15_method_22_code 47 = .ok (.getfield 157, 3) := by decide +kernel
theorem px_d67_50 : decode prog_15_method_22_code 50 = .ok (.iload_n 1, 1) := by decide +kernel
theorem px_d67_51 : decode prog_15_method_22_code 51 = .ok (.iaload, 1) := by decide +kernel
theorem px_d67_52 : decode prog_15_method_22_code 52 = .ok (.if_icmp .ge 25, 3) := by decide +kernel
theorem px_d67_55 : decode prog_15_method_22_code 55 = .ok (.aload_n 0, 1) := by decide +kernel
theorem px_d67_56 : decode prog_15_method_22_code 56 = .ok (.iload_n 1, 1) := by decide +kernel
theorem px_d67_57 : decode prog_15_method_22_code 57 = .ok (.iload_n 3, 1) := by decide +kernel
theorem px_d67_58 : decode prog_15_method_22_code 58 = .ok (.iload 4, 2) := by decide +kernel
theorem px_d67_60 : decode prog_15_method_22_code 60 = .ok (.aload_n 0, 1) := by decide +kernel
theorem px_d67_61 : decode prog_15_method_22_code 61 = .ok (.getfield 44, 3) := by decide +kernel
theorem px_d67_64 : decode prog_15_method_22_code 64 = .ok (.iload_n 2, 1) := by decide +kernel
theorem px_d67_65 : decode prog_15_method_22_code 65 = .ok (.iload 4, 2) := by decide +kernel
theorem px_d67_67 : decode prog_15_method_22_code 67 = .ok (.iadd, 1) := by decide +kernel
theorem px_d67_68 : decode prog_15_method_22_code 68 = .ok (.invokevirtual 248, 3) := by decide +kernel
theorem px_d67_71 : decode prog_15_method_22_code 71 = .ok (.iinc 4 1, 3) := by decide +kernel
theorem px_d67_74 : decode prog_15_method_22_code 74 = .ok (.goto (-30), 3) := by decide +kernel
theorem px_d67_77 : decode prog_15_method_22_code 77 = .ok (.aload_n 0, 1) := by decide +kernel
theorem px_d67_78 : decode prog_15_method_22_code 78 = .ok (.dup, 1) := by decide +kernel
theorem px_d67_79 : decode prog_15_method_22_code 79 = .ok (.getfield 44, 3) := by decide +kernel
theorem px_d67_82 : decode prog_15_method_22_code 82 = .ok (.iconst 1, 1) := by decide +kernel
theorem px_d67_83 : decode prog_15_method_22_code 83 = .ok (.iadd, 1) := by decide +kernel
theorem px_d67_84 : decode prog_15_method_22_code 84 = .ok (.putfield 44, 3) := by decide +kernel
theorem px_d67_87 : decode prog_15_method_22_code 87 = .ok (.iinc 3 1, 3) := by decide +kernel
theorem px_d67_90 : decode prog_15_method_22_code 90 = .ok (.goto (-88), 3) := by decide +kernel
theorem px_d67_93 : decode prog_15_method_22_code 93 = .ok (.return_, 1) := by decide +kernel
theorem px_d68_0 : decode prog_15_method_23_code 0 = .ok (.sipush 144, 3) := by decide +kernel
theorem px_d68_3 : decode prog_15_method_23_code 3 = .ok (.iload_n 1, 1) := by decide +kernel
theorem px_d68_4 : decode prog_15_method_23_code 4 = .ok (.imul, 1) := by decide +kernel
theorem px_d68_5 : decode prog_15_method_23_code 5 = .ok (.bipush 12, 2) := by decide +kernel
theorem px_d68_7 : decode prog_15_method_23_code 7 = .ok (.iload_n 2, 1) := by decide +kernel
theorem px_d68_8 : decode prog_15_method_23_code 8 = .ok (.imul, 1) := by decide +kernel
theorem px_d68_9 : decode prog_15_method_23_code 9 = .ok (.iadd, 1) := by decide +kernel
theorem px_d68_10 : decode prog_15_method_23_code 10 = .ok (.iload_n 3, 1) := by decide +kernel
theorem px_d68_11 : decode prog_15_method_23_code 11 = .ok (.iadd, 1) := by decide +kernel
theorem px_d68_12 : decode prog_15_method_23_code 12 = .ok (.istore 6, 2) := by decide +kernel
theorem px_d68_14 : decode prog_15_method_23_code 14 = .ok (.aload_n 0, 1) := by decide +kernel
theorem px_d68_15 : decode prog_15_method_23_code 15 = .ok (.getfield 55, 3) := by decide +kernel
theorem px_d68_18 : decode prog_15_method_23_code 18 = .ok (.bipush 12, 2) := by decide +kernel
theorem px_d68_20 : decode prog_15_method_23_code 20 = .ok (.iload 4, 2) := by decide +kernel
theorem px_d68_22 : decode prog_15_method_23_code 22 = .ok (.imul, 1) := by decide +kernel
theorem px_d68_23 : decode prog_15_method_23_code 23 = .ok (.iload 5, 2) := by decide +kernel
theorem px_d68_25 : decode prog_15_method_23_code 25 = .ok (.iadd, 1) := by decide +kernel
theorem px_d68_26 : decode prog_15_method_23_code 26 = .ok (.aload_n 0, 1) := by decide +kernel
theorem px_d68_27 : decode prog_15_method_23_code 27 = .ok (.getfield 170, 3) := by decide +kernel
theorem px_d68_30 : decode prog_15_method_23_code 30 = .ok (.iload 6, 2) := by decide +kernel
theorem px_d68_32 : decode prog_15_method_23_code 32 = .ok (.iaload, 1) := by decide +kernel
theorem px_d68_33 : decode prog_15_method_23_code 33 = .ok (.iastore, 1) := by decide +kernel
theorem px_d68_34 : decode prog_15_method_23_code 34 = .ok (.aload_n 0, 1) := by decide +kernel
theorem px_d68_35 : decode prog_15_method_23_code 35 = .ok (.getfield 38, 3) := by decide +kernel
theorem px_d68_38 : decode prog_15_method_23_code 38 = .ok (.ifCond .ne 20, 3) := by decide +kernel
theorem px_d68_41 : decode prog_15_method_23_code 41 = .ok (.aload_n 0, 1) := by decide +kernel
theorem px_d68_42 : decode prog_15_method_23_code 42 = .ok (.aload_n 0, 1) := by decide +kernel
theorem px_d68_43 : decode prog_15_method_23_code 43 = .ok (.iload 4, 2) := by decide +kernel
theorem px_d68_45 : decode prog_15_method_23_code 45 = .ok (.iload 5, 2) := by decide +kernel
theorem px_d68_47 : decode prog_15_method_23_code 47 = .ok (.invokevirtual 47, 3) := by decide +kernel
theorem px_d68_50 : decode prog_15_method_23_code 50 = .ok (.bipush 24, 2) := by decide +kernel
theorem px_d68_52 : decode prog_15_method_23_code 52 = .ok (.iload 6, 2) := by decide +kernel
theorem px_d68_54 : decode prog_15_method_23_code 54 = .ok (.imul, 1) := by decide +kernel
theorem px_d68_55 : decode prog_15_method_23_code 55 = .ok (.invokevirtual 252, 3) := by decide +kernel
theorem px_d68_58 : decode prog_15_method_23_code 58 = .ok (.return_, 1) := by decide +kernel
theorem px_d69_0 : decode prog_15_method_24_code 0 = .ok (.iconst 1, 1) := by decide +kernel
theorem px_d69_1 : decode prog_15_method_24_code 1 = .ok (.aload_n 0, 1) := by decide +kernel
theorem px_d69_2 : decode prog_15_method_24_code 2 = .ok (.getfield 41, 3) := by decide +kernel
theorem px_d69_5 : decode prog_15_method_24_code 5 = .ok (.ishl, 1) := by decide +kernel
theorem px_d69_6 : decode prog_15_method_24_code 6 = .ok (.istore_n 2, 1) := by decide +kernel
theorem px_d69_7 : decode prog_15_method_24_code 7 = .ok (.iconst 0, 1) := by decide +kernel
theorem px_d69_8 : decode prog_15_method_24_code 8 = .ok (.istore_n 3, 1) := by decide +kernel
theorem px_d69_9 : decode prog_15_method_24_code 9 = .ok (.iconst 0, 1) := by decide +kernel
theorem px_d69_10 : decode prog_15_method_24_code 10 = .ok (.istore 4, 2) := by decide +kernel
theorem px_d69_12 : decode prog_15_method_24_code 12 = .ok (.iload 4, 2) := by decide +kernel
theorem px_d69_14 : decode prog_15_method_24_code 14 = .ok (.sipush 4096, 3) := by decide +kernel
theorem px_d69_17 : decode prog_15_method_24_code 17 = .ok (.if_icmp .ge 94, 3) := by decide +kernel
theorem px_d69_20 : decode prog_15_method_24_code 20 = .ok (.aload_n 0, 1) := by decide +kernel
theorem px_d69_21 : decode prog_15_method_24_code 21 = .ok (.getfield 184, 3) := by decide +kernel
theorem px_d69_24 : decode prog_15_method_24_code 24 = .ok (.iload 4, 2) := by decide +kernel
theorem px_d69_26 : decode prog_15_method_24_code 26 = .ok (.iaload, 1) := by decide +kernel
theorem px_d69_27 : decode prog_15_method_24_code 27 = .ok (.istore 5, 2) := by decide +kernel
theorem px_d69_29 : decode prog_15_method_24_code 29 = .ok (.iload 5, 2) := by decide +kernel
theorem px_d69_31 : decode prog_15_method_24_code 31 = .ok (.iload_n 2, 1) := by decide +kernel
theorem px_d69_32 : decode prog_15_method_24_code 32 = .ok (.if_icmp .lt 6, 3) := by decide +kernel
theorem px_d69_35 : decode prog_15_method_24_code 35 = .ok (.goto 70, 3) := by decide +kernel
theorem px_d69_38 : decode prog_15_method_24_code 38 = .ok (.aload_n 0, 1) := by decide +kernel
theorem px_d69_39 : decode prog_15_method_24_code 39 = .ok (.getfield 187, 3) := by decide +kernel
theorem px_d69_42 : decode prog_15_method_24_code 42 = .ok (.iload 5, 2) := by decide +kernel
theorem px_d69_44 : decode prog_15_method_24_code 44 = .ok (.iaload, 1) := by decide +kernel
theorem px_d69_45 : decode prog_15_method_24_code 45 = .ok (.aload_n 0, 1) := by decide +kernel
theorem px_d69_46 : decode prog_15_method_24_code 46 = .ok (.getfield 44, 3) := by decide +kernel
theorem px_d69_49 : decode prog_15_method_24_code 49 = .ok (.if_icmp .ne 12, 3) := by decide +kernel
theorem px_d69_52 : decode prog_15_method_24_code 52 = .ok (.aload_n 0, 1) := by decide +kernel
theorem px_d69_53 : decode prog_15_method_24_code 53 = .ok (.iload 5, 2) := by decide +kernel
theorem px_d69_55 : decode prog_15_method_24_code 55 = .ok (.invokevirtual 255, 3) := by decide +kernel
theorem px_d69_58 : decode prog_15_method_24_code 58 = .ok (.goto 4, 3) := by decide +kernel
theorem px_d69_61 : decode prog_15_method_24_code 61 = .ok (.iconst 0, 1) := by decide +kernel
theorem px_d69_62 : decode prog_15_method_24_code 62 = .ok (.istore 6, 2) := by decide +kernel
theorem px_d69_64 : decode prog_15_method_24_code 64 = .ok (.iload_n 3, 1) := by decide +kernel
theorem px_d69_65 : decode prog_15_method_24_code 65 = .ok (.ifCond .ne 8, 3) := by decide +kernel
theorem px_d69_68 : decode prog_15_method_24_code 68 = .ok (.iload 6, 2) := by decide +kernel
theorem px_d69_70 : decode prog_15_method_24_code 70 = .ok (.goto 4, 3) := by decide +kernel
theorem px_d69_73 : decode prog_15_method_24_code 73 = .ok (.iload_n 3, 1) := by decide +kernel
theorem px_d69_74 : decode prog_15_method_24_code 74 = .ok (.istore_n 3, 1) := by decide +kernel
theorem px_d69_75 : decode prog_15_method_24_code 75 = .ok (.aload_n 0, 1) := by decide +kernel
theorem px_d69_76 : decode prog_15_method_24_code 76 = .ok (.getfield 181, 3) := by decide +kernel
theorem px_d69_79 : decode prog_15_method_24_code 79 = .ok (.sipush 4096, 3) := by decide +kernel
theorem px_d69_82 : decode prog_15_method_24_code 82 = .ok (.iload_n 1, 1) := by decide +kernel
theorem px_d69_83 : decode prog_15_method_24_code 83 = .ok (.imul, 1) := by decide +kernel
theorem px_d69_84 : decode prog_15_method_24_code 84 = .ok (.iload 5, 2) := by decide +kernel
theorem px_d69_86 : decode prog_15_method_24_code 86 = .ok (.iadd, 1) := by decide +kernel
theorem px_d69_87 : decode prog_15_method_24_code 87 = .ok (.aload_n 0, 1) := by decide +kernel
theorem px_d69_88 : decode prog_15_method_24_code 88 = .ok (.getfield 38, 3) := by decide +kernel
theorem px_d69_91 : decode prog_15_method_24_code 91 = .ok (.ifCond .le 8, 3) := by decide +kernel
theorem px_d69_94 : decode prog_15_method_24_code 94 = .ok (.iload 6, 2) := by decide +kernel
theorem px_d69_96 : decode prog_15_method_24_code 96 = .ok (.goto 7, 3) := by decide +kernel
theorem px_d69_99 : decode prog_15_method_24_code 99 = .ok (.iload 6, 2) := by decide +kernel
theorem px_d69_101 : decode prog_15_method_24_code 101 = .ok (.iload_n 3, 1) := by decide +kernel
theorem px_d69_102 : decode prog_15_method_24_code 102 = .ok (.imul, 1) := by decide +kernel
theorem px_d69_103 : decode prog_15_method_24_code 103 = .ok (.i2b, 1) := by decide +kernel
theorem px_d69_104 : decode prog_15_method_24_code 104 = .ok (.bastore, 1) := by decide +kernel
theorem px_d69_105 : decode prog_15_method_24_code 105 = .ok (.iinc 4 1, 3) := by decide +kernel
theorem px_d69_108 : decode prog_15_method_24_code 108 = .ok (.goto (-96), 3) := by decide +kernel
theorem px_d69_111 : decode prog_15_method_24_code 111 = .ok (.iload_n 2, 1) := by decide +kernel
theorem px_d69_112 : decode prog_15_method_24_code 112 = .ok (.iconst 1, 1) := by decide +kernel
theorem px_d69_113 : decode prog_15_method_24_code 113 = .ok (.isub, 1) := by decide +kernel
theorem px_d69_114 : decode prog_15_method_24_code 114 = .ok (.istore 4, 2) := by decide +kernel
theorem px_d69_116 : decode prog_15_method_24_code 116 = .ok (.iload 4, 2) := by decide +kernel
theorem px_d69_118 : decode prog_15_method_24_code 118 = .ok (.ifCond .lt 132, 3) := by decide +kernel
theorem px_d69_121 : decode prog_15_method_24_code 121 = .ok (.aload_n 0, 1) := by decide +kernel
theorem px_d69_122 : decode prog_15_method_24_code 122 = .ok (.getfield 187, 3) := by decide +kernel
theorem px_d69_125 : decode prog_15_method_24_code 125 = .ok (.iload 4, 2) := by decide +kernel
theorem px_d69_127 : decode prog_15_method_24_code 127 = .ok (.iaload, 1) := by decide +kernel
theorem px_d69_128 : decode prog_15_method_24_code 128 = .ok (.aload_n 0, 1) := by decide +kernel
theorem px_d69_129 : decode prog_15_method_24_code 129 = .ok (.getfield 44, 3) := by decide +kernel
theorem px_d69_132 : decode prog_15_method_24_code 132 = .ok (.if_icmp .ne 23, 3) := by decide +kernel
theorem px_d69_135 : decode prog_15_method_24_code 135 = .ok (.aload_n 0, 1) := by decide +kernel
theorem px_d69_136 : decode prog_15_method_24_code 136 = .ok (.getfield 181, 3) := by decide +kernel
theorem px_d69_139 : decode prog_15_method_24_code 139 = .ok (.sipush 4096, 3) := by decide +kernel
theorem px_d69_142 : decode prog_15_method_24_code 142 = .ok (.iload_n 1, 1) := by decide +kernel
theorem px_d69_143 : decode prog_15_method_24_code 143 = .ok (.imul, 1) := by decide +kernel
theorem px_d69_144 : decode prog_15_method_24_code 144 = .ok (.iload 4, 2) := by decide +kernel
theorem px_d69_146 : decode prog_15_method_24_code 146 = .ok (.iadd, 1) := by decide +kernel
theorem px_d69_147 : decode prog_15_method_24_code 147 = .ok (.baload, 1) := by decide +kernel
theorem px_d69_148 : decode prog_15_method_24_code 148 = .ok (.ifCond .eq 7, 3) := by decide +kernel
theorem px_d69_151 : decode prog_15_method_24_code 151 = .ok (.iconst 1, 1) := by decide +kernel
theorem px_d69_152 : decode prog_15_method_24_code 152 = .ok (.goto 4, 3) := by decide +kernel
theorem px_d69_155 : decode prog_15_method_24_code 155 = .ok (.iconst 0, 1) := by decide +kernel
theorem px_d69_156 : decode prog_15_method_24_code 156 = .ok (.istore 5, 2) := by decide +kernel
theorem px_d69_158 : decode prog_15_method_24_code 158 = .ok (.iconst 0, 1) := by decide +kernel
theorem px_d69_159 : decode prog_15_method_24_code 159 = .ok (.istore 6, 2) := by decide +kernel
theorem px_d69_161 : decode prog_15_method_24_code 161 = .ok (.iload 6, 2) := by decide +kernel
theorem px_d69_163 : decode prog_15_method_24_code 163 = .ok (.aload_n 0, 1) := by decide +kernel
theorem px_d69_164 : decode prog_15_method_24_code 164 = .ok (.getfield 41, 3) := by decide +kernel
theorem px_d69_167 : decode prog_15_method_24_code 167 = .ok (.if_icmp .ge 53, 3) := by decide +kernel
theorem px_d69_170 : decode prog_15_method_24_code 170 = .ok (.iload 5, 2) := by decide +kernel
theorem px_d69_172 : decode prog_15_method_24_code 172 = .ok (.ifCond .ne 48, 3) := by decide +kernel
theorem px_d69_175 : decode prog_15_method_24_code 175 = .ok (.iload 4, 2) := by decide +kernel
theorem px_d69_177 : decode prog_15_method_24_code 177 = .ok (.iload 6, 2) := by decide +kernel
theorem px_d69_179 : decode prog_15_method_24_code 179 = .ok (.ishr, 1) := by decide +kernel
theorem px_d69_180 : decode prog_15_method_24_code 180 = .ok (.iconst 1, 1) := by decide +kernel
theorem px_d69_181 : decode prog_15_method_24_code 181 = .ok (.iand, 1) := by decide +kernel
theorem px_d69_182 : decode prog_15_method_24_code 182 = .ok (.ifCond .ne 29, 3) := by decide +kernel
theorem px_d69_185 : decode prog_15_method_24_code 185 = .ok (.aload_n 0, 1) := by decide +kernel
theorem px_d69_186 : decode prog_15_method_24_code 186 = .ok (.getfield 177, 3) := by decide +kernel
theorem px_d69_189 : decode prog_15_method_24_code 189 = .ok (.sipush 4096, 3) := by decide +kernel
theorem px_d69_192 : decode prog_15_method_24_code 192 = .ok (.iload_n 1, 1) := by decide +kernel
theorem px_d69_193 : decode prog_15_method_24_code 193 = .ok (.imul, 1) := by decide +kernel
theorem px_d69_194 : decode prog_15_method_24_code 194 = .ok (.iload 4, 2) := by decide +kernel
theorem px_d69_196 : decode prog_15_method_24_code 196 = .ok (.iconst 1, 1) := by decide +kernel
theorem px_d69_197 : decode prog_15_method_24_code 197 = .ok (.iload 6, 2) := by decide +kernel
theorem px_d69_199 : decode prog_15_method_24_code 199 = .ok (.ishl, 1) := by decide +kernel
theorem px_d69_200 : decode prog_15_method_24_code 200 = .ok (.ior, 1) := by decide +kernel
theorem px_d69_201 : decode prog_15_method_24_code 201 = .ok (.iadd, 1) := by decide +kernel
theorem px_d69_202 : decode prog_15_method_24_code 202 = .ok (.baload, 1) := by decide +kernel
theorem px_d69_203 : decode prog_15_method_24_code 203 = .ok (.iconst 1, 1) := by decide +kernel
theorem px_d69_204 : decode prog_15_method_24_code 204 = .ok (.if_icmp .ne 7, 3) := by decide +kernel
theorem px_d69_207 : decode prog_15_method_24_code 207 = .ok (.iconst 1, 1) := by decide +kernel
theorem px_d69_208 : decode prog_15_method_24_code 208 = .ok (.goto 4, 3) := by decide +kernel
theorem px_d69_211 : decode prog_15_method_24_code 211 = .ok (.iconst 0, 1) := by decide +kernel
theorem px_d69_212 : decode prog_15_method_24_code 212 = .ok (.istore 5, 2) := by decide +kernel
theorem px_d69_214 : decode prog_15_method_24_code 214 = .ok (.iinc 6 1, 3) := by decide +kernel
theorem px_d69_217 : decode prog_15_method_24_code 217 = .ok (.goto (-56), 3) := by decide +kernel
theorem px_d69_220 : decode prog_15_method_24_code 220 = .ok (.aload_n 0, 1) := by decide +kernel
theorem px_d69_221 : decode prog_15_method_24_code 221 = .ok (.getfield 177, 3) := by decide +kernel
theorem px_d69_224 : decode prog_15_method_24_code 224 = .ok (.sipush 4096, 3) := by decide +kernel
theorem px_d69_227 : decode prog_15_method_24_code 227 = .ok (.iload_n 1, 1) := by decide +kernel
theorem px_d69_228 : decode prog_15_method_24_code 228 = .ok (.imul, 1) := by decide +kernel
theorem px_d69_229 : decode prog_15_method_24_code 229 = .ok (.iload 4, 2) := by decide +kernel
theorem px_d69_231 : decode prog_15_method_24_code 231 = .ok (.iadd, 1) := by decide +kernel
theorem px_d69_232 : decode prog_15_method_24_code 232 = .ok (.iload 5, 2) := by decide +kernel
theorem px_d69_234 : decode prog_15_method_24_code 234 = .ok (.ifCond .eq 7, 3) := by decide +kernel
theorem px_d69_237 : decode prog_15_method_24_code 237 = .ok (.iconst 1, 1) := by decide +kernel
theorem px_d69_238 : decode prog_15_method_24_code 238 = .ok (.goto 4, 3) := by decide +kernel
theorem px_d69_241 : decode prog_15_method_24_code 241 = .ok (.iconst 0, 1) := by decide +kernel
theorem px_d69_242 : decode prog_15_method_24_code 242 = .ok (.i2b, 1) := by decide +kernel
theorem px_d69_243 : decode prog_15_method_24_code 243 = .ok (.bastore, 1) := by decide +kernel
theorem px_d69_244 : decode prog_15_method_24_code 244 = .ok (.iinc 4 (-1), 3) := by decide +kernel
theorem px_d69_247 : decode prog_15_method_24_code 247 = .ok (.goto (-131), 3) := by decide +kernel
theorem px_d69_250 : decode prog_15_method_24_code 250 = .ok (.iconst 0, 1) := by decide +kernel
theorem px_d69_251 : decode prog_15_method_24_code 251 = .ok (.istore 4, 2) := by decide +kernel
theorem px_d69_253 : decode prog_15_method_24_code 253 = .ok (.iload 4, 2) := by decide +kernel
theorem px_d69_255 : decode prog_15_method_24_code 255 = .ok (.iload_n 2, 1) := by decide +kernel
theorem px_d69_256 : decode prog_15_method_24_code 256 = .ok (.if_icmp .ge 124, 3) := by decide +kernel
theorem px_d69_259 : decode prog_15_method_24_code 259 = .ok (.aload_n 0, 1) := by decide +kernel
theorem px_d69_260 : decode prog_15_method_24_code 260 = .ok (.getfield 177, 3) := by decide +kernel
theorem px_d69_263 : decode prog_15_method_24_code 263 = .ok (.sipush 4096, 3) := by decide +kernel
theorem px_d69_266 : decode prog_15_method_24_code 266 = .ok (.iload_n 1, 1) := by decide +kernel
theorem px_d69_267 : decode prog_15_method_24_code 267 = .ok (.imul, 1) := by decide +kernel
theorem px_d69_268 : decode prog_15_method_24_code 268 = .ok (.iload 4, 2) := by decide +kernel
theorem px_d69_270 : decode prog_15_method_24_code 270 = .ok (.iadd, 1) := by decide +kernel
theorem px_d69_271 : decode prog_15_method_24_code 271 = .ok (.baload, 1) := by decide +kernel
theorem px_d69_272 : decode prog_15_method_24_code 272 = .ok (.iconst 1, 1) := by decide +kernel
theorem px_d69_273 : decode prog_15_method_24_code 273 = .ok (.if_icmp .ne 13, 3) := by decide +kernel
theorem px_d69_276 : decode prog_15_method_24_code 276 = .ok (.aload_n 0, 1) := by decide +kernel
theorem px_d69_277 : decode prog_15_method_24_code 277 = .ok (.getfield 187, 3) := by decide +kernel
theorem px_d69_280 : decode prog_15_method_24_code 280 = .ok (.iload 4, 2) := by decide +kernel
theorem px_d69_282 : decode prog_15_method_24_code 282 = .ok (.iaload, 1) := by decide +kernel
theorem px_d69_283 : decode prog_15_method_24_code 283 = .ok (.goto 4, 3) := by decide +kernel
theorem px_d69_286 : decode prog_15_method_24_code 286 = .ok (.iconst 0, 1) := by decide +kernel
theorem px_d69_287 : decode prog_15_method_24_code 287 = .ok (.istore 5, 2) := by decide +kernel
theorem px_d69_289 : decode prog_15_method_24_code 289 = .ok (.iconst 0, 1) := by decide +kernel
theorem px_d69_290 : decode prog_15_method_24_code 290 = .ok (.istore 6, 2) := by decide +kernel
theorem px_d69_292 : decode prog_15_method_24_code 292 = .ok (.iload 6, 2) := by decide +kernel
theorem px_d69_294 : decode prog_15_method_24_code 294 = .ok (.aload_n 0, 1) := by decide +kernel
theorem px_d69_295 : decode prog_15_method_24_code 295 = .ok (.getfield 41, 3) := by decide +kernel
theorem px_d69_298 : decode prog_15_method_24_code 298 = .ok (.if_icmp .ge 60, 3) := by decide +kernel
theorem px_d69_301 : decode prog_15_method_24_code 301 = .ok (.iload 4, 2) := by decide +kernel
theorem px_d69_303 : decode prog_15_method_24_code 303 = .ok (.iload 6, 2) := by decide +kernel
theorem px_d69_305 : decode prog_15_method_24_code 305 = .ok (.ishr, 1) := by decide +kernel
theorem px_d69_306 : decode prog_15_method_24_code 306 = .ok (.iconst 1, 1) := by decide +kernel
theorem px_d69_307 : decode prog_15_method_24_code 307 = .ok (.iand, 1) := by decide +kernel
theorem px_d69_308 : decode prog_15_method_24_code 308 = .ok (.iconst 1, 1) := by decide +kernel
theorem px_d69_309 : decode prog_15_method_24_code 309 = .ok (.if_icmp .ne 24, 3) := by decide +kernel
theorem px_d69_312 : decode prog_15_method_24_code 312 = .ok (.aload_n 0, 1) := by decide +kernel
theorem px_d69_313 : decode prog_15_method_24_code 313 = .ok (.getfield 177, 3) := by decide +kernel
theorem px_d69_316 : decode prog_15_method_24_code 316 = .ok (.sipush 4096, 3) := by decide +kernel
theorem px_d69_319 : decode prog_15_method_24_code 319 = .ok (.iload_n 1, 1) := by decide +kernel
theorem px_d69_320 : decode prog_15_method_24_code 320 = .ok (.imul, 1) := by decide +kernel
theorem px_d69_321 : decode prog_15_method_24_code 321 = .ok (.iload 4, 2) := by decide +kernel
theorem px_d69_323 : decode prog_15_method_24_code 323 = .ok (.iconst 1, 1) := by decide +kernel
theorem px_d69_324 : decode prog_15_method_24_code 324 = .ok (.iload 6, 2) := by decide +kernel
theorem px_d69_326 : decode prog_15_method_24_code 326 = .ok (.ishl, 1) := by decide +kernel
theorem px_d69_327 : decode prog_15_method_24_code 327 = .ok (.ixor, 1) := by decide +kernel
theorem px_d69_328 : decode prog_15_method_24_code 328 = .ok (.iadd, 1) := by decide +kernel
theorem px_d69_329 : decode prog_15_method_24_code 329 = .ok (.baload, 1) := by decide +kernel
theorem px_d69_330 : decode prog_15_method_24_code 330 = .ok (.goto 4, 3) := by decide +kernel
theorem px_d69_333 : decode prog_15_method_24_code 333 = .ok (.iconst 0, 1) := by decide +kernel
theorem px_d69_334 : decode prog_15_method_24_code 334 = .ok (.istore 7, 2) := by decide +kernel
theorem px_d69_336 : decode prog_15_method_24_code 336 = .ok (.iload 7, 2) := by decide +kernel
theorem px_d69_338 : decode prog_15_method_24_code 338 = .ok (.iload 5, 2) := by decide +kernel
theorem px_d69_340 : decode prog_15_method_24_code 340 = .ok (.if_icmp .le 8, 3) := by decide +kernel
theorem px_d69_343 : decode prog_15_method_24_code 343 = .ok (.iload 7, 2) := by decide +kernel
theorem px_d69_345 : decode prog_15_method_24_code 345 = .ok (.goto 5, 3) := by decide +kernel
theorem px_d69_348 : decode prog_15_method_24_code 348 = .ok (.iload 5, 2) := by decide +kernel
theorem px_d69_350 : decode prog_15_method_24_code 350 = .ok (.istore 5, 2) := by decide +kernel
theorem px_d69_352 : decode prog_15_method_24_code 352 = .ok (.iinc 6 1, 3) := by decide +kernel
theorem px_d69_355 : decode prog_15_method_24_code 355 = .ok (.goto (-63), 3) := by decide +kernel
theorem px_d69_358 : decode prog_15_method_24_code 358 = .ok (.aload_n 0, 1) := by decide +kernel
theorem px_d69_359 : decode prog_15_method_24_code 359 = .ok (.getfield 177, 3) := by decide +kernel
theorem px_d69_362 : decode prog_15_method_24_code 362 = .ok (.sipush 4096, 3) := by decide +kernel
theorem px_d69_365 : decode prog_15_method_24_code 365 = .ok (.iload_n 1, 1) := by decide +kernel
theorem px_d69_366 : decode prog_15_method_24_code 366 = .ok (.imul, 1) := by decide +kernel
theorem px_d69_367 : decode prog_15_method_24_code 367 = .ok (.iload 4, 2) := by decide +kernel
theorem px_d69_369 : decode prog_15_method_24_code 369 = .ok (.iadd, 1) := by decide +kernel
theorem px_d69_370 : decode prog_15_method_24_code 370 = .ok (.iload 5, 2) := by decide +kernel
theorem px_d69_372 : decode prog_15_method_24_code 372 = .ok (.i2b, 1) := by decide +kernel
theorem px_d69_373 : decode prog_15_method_24_code 373 = .ok (.bastore, 1) := by decide +kernel
theorem px_d69_374 : decode prog_15_method_24_code 374 = .ok (.iinc 4 1, 3) := by decide +kernel
theorem px_d69_377 : decode prog_15_method_24_code 377 = .ok (.goto (-124), 3) := by decide +kernel
theorem px_d69_380 : decode prog_15_method_24_code 380 = .ok (.return_, 1) := by decide +kernel
theorem px_d91_0 : decode prog_15_method_46_code 0 = .ok (.aload_n 0, 1) := by decide +kernel
theorem px_d91_1 : decode prog_15_method_46_code 1 = .ok (.aload_n 0, 1) := by decide +kernel
theorem px_d91_2 : decode prog_15_method_46_code 2 = .ok (.getfield 160, 3) := by decide +kernel
theorem px_d91_5 : decode prog_15_method_46_code 5 = .ok (.iload_n 2, 1) := by decide +kernel
theorem px_d91_6 : decode prog_15_method_46_code 6 = .ok (.iaload, 1) := by decide +kernel
theorem px_d91_7 : decode prog_15_method_46_code 7 = .ok (.aload_n 0, 1) := by decide +kernel
theorem px_d91_8 : decode prog_15_method_46_code 8 = .ok (.getfield 157, 3) := by decide +kernel
theorem px_d91_11 : decode prog_15_method_46_code 11 = .ok (.iload_n 2, 1) := by decide +kernel
theorem px_d91_12 : decode prog_15_method_46_code 12 = .ok (.iaload, 1) := by decide +kernel
theorem px_d91_13 : decode prog_15_method_46_code 13 = .ok (.invokevirtual 310, 3) := by decide +kernel
theorem px_d91_16 : decode prog_15_method_46_code 16 = .ok (.iconst 0, 1) := by decide +kernel
theorem px_d91_17 : decode prog_15_method_46_code 17 = .ok (.istore_n 3, 1) := by decide +kernel
theorem px_d91_18 : decode prog_15_method_46_code 18 = .ok (.aload_n 0, 1) := by decide +kernel
theorem px_d91_19 : decode prog_15_method_46_code 19 = .ok (.getfield 82, 3) := by decide +kernel
theorem px_d91_22 : decode prog_15_method_46_code 22 = .ok (.lconst 1, 1) := by decide +kernel
theorem px_d91_23 : decode prog_15_method_46_code 23 = .ok (.invokevirtual 51, 3) := by decide +kernel
theorem px_d91_26 : decode prog_15_method_46_code 26 = .ok (.iconst 0, 1) := by decide +kernel
theorem px_d91_27 : decode prog_15_method_46_code 27 = .ok (.istore 4, 2) := by decide +kernel
theorem px_d91_29 : decode prog_15_method_46_code 29 = .ok (.iload 4, 2) := by decide +kernel
theorem px_d91_31 : decode prog_15_method_46_code 31 = .ok (.aload_n 0, 1) := by decide +kernel
theorem px_d91_32 : decode prog_15_method_46_code 32 = .ok (.getfield 163, 3) := by decide +kernel
theorem px_d91_35 : decode prog_15_method_46_code 35 = .ok (.iload_n 2, 1) := by decide +kernel
theorem px_d91_36 : decode prog_15_method_46_code 36 = .ok (.iaload, 1) := by decide +kernel
theorem px_d91_37 : decode prog_15_method_46_code 37 = .ok (.if_icmp .ge 103, 3) := by decide +kernel
theorem px_d91_40 : decode prog_15_method_46_code 40 = .ok (.aload_n 0, 1) := by decide +kernel
theorem px_d91_41 : decode prog_15_method_46_code 41 = .ok (.iload_n 2, 1) := by decide +kernel
theorem px_d91_42 : decode prog_15_method_46_code 42 = .ok (.iload 4, 2) := by decide +kernel
theorem px_d91_44 : decode prog_15_method_46_code 44 = .ok (.invokevirtual 313, 3) := by decide +kernel
theorem px_d91_47 : decode prog_15_method_46_code 47 = .ok (.istore 5, 2) := by decide +kernel
theorem px_d91_49 : decode prog_15_method_46_code 49 = .ok (.iload_n 3, 1) := by decide +kernel
theorem px_d91_50 : decode prog_15_method_46_code 50 = .ok (.iconst 1, 1) := by decide +kernel
theorem px_d91_51 : decode prog_15_method_46_code 51 = .ok (.iload 5, 2) := by decide +kernel
theorem px_d91_53 : decode prog_15_method_46_code 53 = .ok (.ishl, 1) := by decide +kernel
theorem px_d91_54 : decode prog_15_method_46_code 54 = .ok (.ior, 1) := by decide +kernel
theorem px_d91_55 : decode prog_15_method_46_code 55 = .ok (.istore_n 3, 1) := by decide +kernel
theorem px_d91_56 : decode prog_15_method_46_code 56 = .ok (.aload_n 0, 1) := by decide +kernel
theorem px_d91_57 : decode prog_15_method_46_code 57 = .ok (.getfield 38, 3) := by decide +kernel
theorem px_d91_60 : decode prog_15_method_46_code 60 = .ok (.ifCond .ne 74, 3) := by decide +kernel
theorem px_d91_63 : decode prog_15_method_46_code 63 = .ok (.aload_n 0, 1) := by decide +kernel
theorem px_d91_64 : decode prog_15_method_46_code 64 = .ok (.aload_n 0, 1) := by decide +kernel
theorem px_d91_65 : decode prog_15_method_46_code 65 = .ok (.getfield 65, 3) := by decide +kernel
theorem px_d91_68 : decode prog_15_method_46_code 68 = .ok (.bipush 24, 2) := by decide +kernel
theorem px_d91_70 : decode prog_15_method_46_code 70 = .ok (.sipush 144, 3) := by decide +kernel
theorem px_d91_73 : decode prog_15_method_46_code 73 = .ok (.iload_n 2, 1) := by decide +kernel
theorem px_d91_74 : decode prog_15_method_46_code 74 = .ok (.imul, 1) := by decide +kernel
theorem px_d91_75 : decode prog_15_method_46_code 75 = .ok (.bipush 12, 2) := by decide +kernel
theorem px_d91_77 : decode prog_15_method_46_code 77 = .ok (.iload 4, 2) := by decide +kernel
theorem px_d91_79 : decode prog_15_method_46_code 79 = .ok (.imul, 1) := by decide +kernel
theorem px_d91_80 : decode prog_15_method_46_code 80 = .ok (.iadd, 1) := by decide +kernel
theorem px_d91_81 : decode prog_15_method_46_code 81 = .ok (.iload 5, 2) := by decide +kernel
theorem px_d91_83 : decode prog_15_method_46_code 83 = .ok (.iadd, 1) := by decide +kernel
theorem px_d91_84 : decode prog_15_method_46_code 84 = .ok (.imul, 1) := by decide +kernel
theorem px_d91_85 : decode prog_15_method_46_code 85 = .ok (.invokevirtual 252, 3) := by decide +kernel
theorem px_d91_88 : decode prog_15_method_46_code 88 = .ok (.aload_n 0, 1) := by decide +kernel
theorem px_d91_89 : decode prog_15_method_46_code 89 = .ok (.aload_n 0, 1) := by decide +kernel
theorem px_d91_90 : decode prog_15_method_46_code 90 = .ok (.getfield 82, 3) := by decide +kernel
theorem px_d91_93 : decode prog_15_method_46_code 93 = .ok (.aload_n 0, 1) := by decide +kernel
theorem px_d91_94 : decode prog_15_method_46_code 94 = .ok (.getfield 65, 3) := by decide +kernel
theorem px_d91_97 : decode prog_15_method_46_code 97 = .ok (.invokevirtual 89, 3) := by decide +kernel
theorem px_d91_100 : decode prog_15_method_46_code 100 = .ok (.aload_n 0, 1) := by decide +kernel
theorem px_d91_101 : decode prog_15_method_46_code 101 = .ok (.getfield 68, 3) := by decide +kernel
theorem px_d91_104 : decode prog_15_method_46_code 104 = .ok (.aload_n 0, 1) := by decide +kernel
theorem px_d91_105 : decode prog_15_method_46_code 105 = .ok (.getfield 82, 3) := by decide +kernel
theorem px_d91_108 : decode prog_15_method_46_code 108 = .ok (.aload_n 0, 1) := by decide +kernel
theorem px_d91_109 : decode prog_15_method_46_code 109 = .ok (.getfield 1, 3) := by decide +kernel
theorem px_d91_112 : decode prog_15_method_46_code 112 = .ok (.aload_n 0, 1) := by decide +kernel
theorem px_d91_113 : decode prog_15_method_46_code 113 = .ok (.getfield 27, 3) := by decide +kernel
theorem px_d91_116 : decode prog_15_method_46_code 116 = .ok (.invokevirtual 30, 3) := by decide +kernel
theorem px_d91_119 : decode prog_15_method_46_code 119 = .ok (.aload_n 0, 1) := by decide +kernel
theorem px_d91_120 : decode prog_15_method_46_code 120 = .ok (.getfield 82, 3) := by decide +kernel
theorem px_d91_123 : decode prog_15_method_46_code 123 = .ok (.aload_n 0, 1) := by decide +kernel
theorem px_d91_124 : decode prog_15_method_46_code 124 = .ok (.getfield 68, 3) := by decide +kernel
theorem px_d91_127 : decode prog_15_method_46_code 127 = .ok (.aload_n 0, 1) := by decide +kernel
theorem px_d91_128 : decode prog_15_method_46_code 128 = .ok (.getfield 65, 3) := by decide +kernel
theorem px_d91_131 : decode prog_15_method_46_code 131 = .ok (.invokevirtual 71, 3) := by decide +kernel
theorem px_d91_134 : decode prog_15_method_46_code 134 = .ok (.iinc 4 1, 3) := by decide +kernel
theorem px_d91_137 : decode prog_15_method_46_code 137 = .ok (.goto (-108), 3) := by decide +kernel
theorem px_d91_140 : decode prog_15_method_46_code 140 = .ok (.iconst 0, 1) := by decide +kernel
theorem px_d91_141 : decode prog_15_method_46_code 141 = .ok (.istore 4, 2) := by decide +kernel
theorem px_d91_143 : decode prog_15_method_46_code 143 = .ok (.iload 4, 2) := by decide +kernel
theorem px_d91_145 : decode prog_15_method_46_code 145 = .ok (.aload_n 0, 1) := by decide +kernel
theorem px_d91_146 : decode prog_15_method_46_code 146 = .ok (.getfield 41, 3) := by decide +kernel
theorem px_d91_149 : decode prog_15_method_46_code 149 = .ok (.if_icmp .ge 132, 3) := by decide +kernel
theorem px_d91_152 : decode prog_15_method_46_code 152 = .ok (.iload_n 3, 1) := by decide +kernel
theorem px_d91_153 : decode prog_15_method_46_code 153 = .ok (.iload 4, 2) := by decide +kernel
theorem px_d91_155 : decode prog_15_method_46_code 155 = .ok (.ishr, 1) := by decide +kernel
theorem px_d91_156 : decode prog_15_method_46_code 156 = .ok (.iconst 1, 1) := by decide +kernel
theorem px_d91_157 : decode prog_15_method_46_code 157 = .ok (.iand, 1) := by decide +kernel
theorem px_d91_158 : decode prog_15_method_46_code 158 = .ok (.iconst 1, 1) := by decide +kernel
theorem px_d91_159 : decode prog_15_method_46_code 159 = .ok (.if_icmp .ne 6, 3) := by decide +kernel
theorem px_d91_162 : decode prog_15_method_46_code 162 = .ok (.goto 113, 3) := by decide +kernel
theorem px_d91_165 : decode prog_15_method_46_code 165 = .ok (.iconst 0, 1) := by decide +kernel
theorem px_d91_166 : decode prog_15_method_46_code 166 = .ok (.istore 5, 2) := by decide +kernel
theorem px_d91_168 : decode prog_15_method_46_code 168 = .ok (.iload 5, 2) := by decide +kernel
theorem px_d91_170 : decode prog_15_method_46_code 170 = .ok (.aload_n 0, 1) := by decide +kernel
theorem px_d91_171 : decode prog_15_method_46_code 171 = .ok (.getfield 41, 3) := by decide +kernel
theorem px_d91_174 : decode prog_15_method_46_code 174 = .ok (.if_icmp .ge 38, 3) := by decide +kernel
theorem px_d91_177 : decode prog_15_method_46_code 177 = .ok (.aload_n 0, 1) := by decide +kernel
theorem px_d91_178 : decode prog_15_method_46_code 178 = .ok (.aload_n 0, 1) := by decide +kernel
theorem px_d91_179 : decode prog_15_method_46_code 179 = .ok (.getfield 44, 3) := by decide +kernel
theorem px_d91_182 : decode prog_15_method_46_code 182 = .ok (.iload 5, 2) := by decide +kernel
theorem px_d91_184 : decode prog_15_method_46_code 184 = .ok (.iload 5, 2) := by decide +kernel
theorem px_d91_186 : decode prog_15_method_46_code 186 = .ok (.iload 4, 2) := by decide +kernel
theorem px_d91_188 : decode prog_15_method_46_code 188 = .ok (.if_icmp .ne 14, 3) := by decide +kernel
theorem px_d91_191 : decode prog_15_method_46_code 191 = .ok (.aload_n 0, 1) := by decide +kernel
theorem px_d91_192 : decode prog_15_method_46_code 192 = .ok (.getfield 38, 3) := by decide +kernel
theorem px_d91_195 : decode prog_15_method_46_code 195 = .ok (.ifCond .le 7, 3) := by decide +kernel
theorem px_d91_198 : decode prog_15_method_46_code 198 = .ok (.lconst 1, 1) := by decide +kernel
theorem px_d91_199 : decode prog_15_method_46_code 199 = .ok (.goto 4, 3) := by decide +kernel
theorem px_d91_202 : decode prog_15_method_46_code 202 = .ok (.lconst 0, 1) := by decide +kernel
theorem px_d91_203 : decode prog_15_method_46_code 203 = .ok (.invokevirtual 244, 3) := by decide +kernel
theorem px_d91_206 : decode prog_15_method_46_code 206 = .ok (.iinc 5 1, 3) := by decide +kernel
theorem px_d91_209 : decode prog_15_method_46_code 209 = .ok (.goto (-41), 3) := by decide +kernel
theorem px_d91_212 : decode prog_15_method_46_code 212 = .ok (.aload_n 0, 1) := by decide +kernel
theorem px_d91_213 : decode prog_15_method_46_code 213 = .ok (.getfield 38, 3) := by decide +kernel
theorem px_d91_216 : decode prog_15_method_46_code 216 = .ok (.ifCond .ne 20, 3) := by decide +kernel
theorem px_d91_219 : decode prog_15_method_46_code 219 = .ok (.aload_n 0, 1) := by decide +kernel
theorem px_d91_220 : decode prog_15_method_46_code 220 = .ok (.aload_n 0, 1) := by decide +kernel
theorem px_d91_221 : decode prog_15_method_46_code 221 = .ok (.getfield 44, 3) := by decide +kernel
theorem px_d91_224 : decode prog_15_method_46_code 224 = .ok (.iload 4, 2) := by decide +kernel
theorem px_d91_226 : decode prog_15_method_46_code 226 = .ok (.invokevirtual 47, 3) := by decide +kernel
theorem px_d91_229 : decode prog_15_method_46_code 229 = .ok (.aload_n 0, 1) := by decide +kernel
theorem px_d91_230 : decode prog_15_method_46_code 230 = .ok (.getfield 82, 3) := by decide +kernel
theorem px_d91_233 : decode prog_15_method_46_code 233 = .ok (.invokevirtual 7, 3) := by decide +kernel
theorem px_d91_236 : decode prog_15_method_46_code 236 = .ok (.iconst 0, 1) := by decide +kernel
theorem px_d91_237 : decode prog_15_method_46_code 237 = .ok (.istore 5, 2) := by decide +kernel
theorem px_d91_239 : decode prog_15_method_46_code 239 = .ok (.iload 5, 2) := by decide +kernel
theorem px_d91_241 : decode prog_15_method_46_code 241 = .ok (.aload_n 0, 1) := by decide +kernel
theorem px_d91_242 : decode prog_15_method_46_code 242 = .ok (.getfield 163, 3) := by decide +kernel
theorem px_d91_245 : decode prog_15_method_46_code 245 = .ok (.iload_n 2, 1) := by decide +kernel
theorem px_d91_246 : decode prog_15_method_46_code 246 = .ok (.iaload, 1) := by decide +kernel
theorem px_d91_247 : decode prog_15_method_46_code 247 = .ok (.if_icmp .ge 18, 3) := by decide +kernel
theorem px_d91_250 : decode prog_15_method_46_code 250 = .ok (.aload_n 0, 1) := by decide +kernel
theorem px_d91_251 : decode prog_15_method_46_code 251 = .ok (.iload_n 2, 1) := by decide +kernel
theorem px_d91_252 : decode prog_15_method_46_code 252 = .ok (.iload 5, 2) := by decide +kernel
theorem px_d91_254 : decode prog_15_method_46_code 254 = .ok (.iload 4, 2) := by decide +kernel
theorem px_d91_256 : decode prog_15_method_46_code 256 = .ok (.invokevirtual 316, 3) := by decide +kernel
theorem px_d91_259 : decode prog_15_method_46_code 259 = .ok (.iinc 5 1, 3) := by decide +kernel
theorem px_d91_262 : decode prog_15_method_46_code 262 = .ok (.goto (-23), 3) := by decide +kernel
theorem px_d91_265 : decode prog_15_method_46_code 265 = .ok (.aload_n 0, 1) := by decide +kernel
theorem px_d91_266 : decode prog_15_method_46_code 266 = .ok (.dup, 1) := by decide +kernel
theorem px_d91_267 : decode prog_15_method_46_code 267 = .ok (.getfield 44, 3) := by decide +kernel
theorem px_d91_270 : decode prog_15_method_46_code 270 = .ok (.iconst 1, 1) := by decide +kernel
theorem px_d91_271 : decode prog_15_method_46_code 271 = .ok (.iadd, 1) := by decide +kernel
theorem px_d91_272 : decode prog_15_method_46_code 272 = .ok (.putfield 44, 3) := by decide +kernel
theorem px_d91_275 : decode prog_15_method_46_code 275 = .ok (.iinc 4 1, 3) := by decide +kernel
theorem px_d91_278 : decode prog_15_method_46_code 278 = .ok (.goto (-135), 3) := by decide +kernel
theorem px_d91_281 : decode prog_15_method_46_code 281 = .ok (.aload_n 0, 1) := by decide +kernel
theorem px_d91_282 : decode prog_15_method_46_code 282 = .ok (.iload_n 1, 1) := by decide +kernel
theorem px_d91_283 : decode prog_15_method_46_code 283 = .ok (.invokevirtual 319, 3) := by decide +kernel
theorem px_d91_286 : decode prog_15_method_46_code 286 = .ok (.return_, 1) := by decide +kernel
theorem px_d92_0 : decode prog_15_method_47_code 0 = .ok (.aload_n 0, 1) := by decide +kernel
theorem px_d92_1 : decode prog_15_method_47_code 1 = .ok (.iload_n 1, 1) := by decide +kernel
theorem px_d92_2 : decode prog_15_method_47_code 2 = .ok (.iload_n 2, 1) := by decide +kernel
theorem px_d92_3 : decode prog_15_method_47_code 3 = .ok (.invokevirtual 313, 3) := by decide +kernel
theorem px_d92_6 : decode prog_15_method_47_code 6 = .ok (.istore 4, 2) := by decide +kernel
theorem px_d92_8 : decode prog_15_method_47_code 8 = .ok (.aload_n 0, 1) := by decide +kernel
theorem px_d92_9 : decode prog_15_method_47_code 9 = .ok (.getfield 38, 3) := by decide +kernel
theorem px_d92_12 : decode prog_15_method_47_code 12 = .ok (.ifCond .le 33, 3) := by decide +kernel
theorem px_d92_15 : decode prog_15_method_47_code 15 = .ok (.aload_n 0, 1) := by decide +kernel
theorem px_d92_16 : decode prog_15_method_47_code 16 = .ok (.aload_n 0, 1) := by decide +kernel
theorem px_d92_17 : decode prog_15_method_47_code 17 = .ok (.getfield 44, 3) := by decide +kernel
theorem px_d92_20 : decode prog_15_method_47_code 20 = .ok (.iload 4, 2) := by decide +kernel
theorem px_d92_22 : decode prog_15_method_47_code 22 = .ok (.aload_n 0, 1) := by decide +kernel
theorem px_d92_23 : decode prog_15_method_47_code 23 = .ok (.getfield 170, 3) := by decide +kernel
theorem px_d92_26 : decode prog_15_method_47_code 26 = .ok (.sipush 144, 3) := by decide +kernel
theorem px_d92_29 : decode prog_15_method_47_code 29 = .ok (.iload_n 1, 1) := by decide +kernel
theorem px_d92_30 : decode prog_15_method_47_code 30 = .ok (.imul, 1) := by decide +kernel
theorem px_d92_31 : decode prog_15_method_47_code 31 = .ok (.bipush 12, 2) := by decide +kernel
theorem px_d92_33 : decode prog_15_method_47_code 33 = .ok (.iload_n 2, 1) := by decide +kernel
theorem px_d92_34 : decode prog_15_method_47_code 34 = .ok (.imul, 1) := by decide +kernel
theorem px_d92_35 : decode prog_15_method_47_code 35 = .ok (.iadd, 1) := by decide +kernel
theorem px_d92_36 : decode prog_15_method_47_code 36 = .ok (.iload_n 3, 1) := by decide +kernel
theorem px_d92_37 : decode prog_15_method_47_code 37 = .ok (.iadd, 1) := by decide +kernel
theorem px_d92_38 : decode prog_15_method_47_code 38 = .ok (.iaload, 1) := by decide +kernel
theorem px_d92_39 : decode prog_15_method_47_code 39 = .ok (.ineg, 1) := by decide +kernel
theorem px_d92_40 : decode prog_15_method_47_code 40 = .ok (.i2l, 1) := by decide +kernel
theorem px_d92_41 : decode prog_15_method_47_code 41 = .ok (.invokevirtual 244, 3) := by decide +kernel
theorem px_d92_44 : decode prog_15_method_47_code 44 = .ok (.return_, 1) := by decide +kernel
theorem px_d92_45 : decode prog_15_method_47_code 45 = .ok (.aload_n 0, 1) := by decide +kernel
theorem px_d92_46 : decode prog_15_method_47_code 46 = .ok (.aload_n 0, 1) := by decide +kernel
theorem px_d92_47 : decode prog_15_method_47_code 47 = .ok (.getfield 65, 3) := by decide +kernel
theorem px_d92_50 : decode prog_15_method_47_code 50 = .ok (.bipush 24, 2) := by decide +kernel
theorem px_d92_52 : decode prog_15_method_47_code 52 = .ok (.sipush 144, 3) := by decide +kernel
theorem px_d92_55 : decode prog_15_method_47_code 55 = .ok (.iload_n 1, 1) := by decide +kernel
theorem px_d92_56 : decode prog_15_method_47_code 56 = .ok (.imul, 1) := by decide +kernel
theorem px_d92_57 : decode prog_15_method_47_code 57 = .ok (.bipush 12, 2) := by decide +kernel
theorem px_d92_59 : decode prog_15_method_47_code 59 = .ok (.iload_n 2, 1) := by decide +kernel
theorem px_d92_60 : decode prog_15_method_47_code 60 = .ok (.imul, 1) := by decide +kernel
theorem px_d92_61 : decode prog_15_method_47_code 61 = .ok (.iadd, 1) := by decide +kernel
theorem px_d92_62 : decode prog_15_method_47_code 62 = .ok (.iload 4, 2) := by decide +kernel
theorem px_d92_64 : decode prog_15_method_47_code 64 = .ok (.iadd, 1) := by decide +kernel
theorem px_d92_65 : decode prog_15_method_47_code 65 = .ok (.imul, 1) := by decide +kernel
theorem px_d92_66 : decode prog_15_method_47_code 66 = .ok (.invokevirtual 252, 3) := by decide +kernel
theorem px_d92_69 : decode prog_15_method_47_code 69 = .ok (.aload_n 0, 1) := by decide +kernel
theorem px_d92_70 : decode prog_15_method_47_code 70 = .ok (.getfield 68, 3) := by decide +kernel
theorem px_d92_73 : decode prog_15_method_47_code 73 = .ok (.aload_n 0, 1) := by decide +kernel
theorem px_d92_74 : decode prog_15_method_47_code 74 = .ok (.getfield 82, 3) := by decide +kernel
theorem px_d92_77 : decode prog_15_method_47_code 77 = .ok (.aload_n 0, 1) := by decide +kernel
theorem px_d92_78 : decode prog_15_method_47_code 78 = .ok (.getfield 65, 3) := by decide +kernel
theorem px_d92_81 : decode prog_15_method_47_code 81 = .ok (.aload_n 0, 1) := by decide +kernel
theorem px_d92_82 : decode prog_15_method_47_code 82 = .ok (.getfield 27, 3) := by decide +kernel
theorem px_d92_85 : decode prog_15_method_47_code 85 = .ok (.invokevirtual 30, 3) := by decide +kernel
theorem px_d92_88 : decode prog_15_method_47_code 88 = .ok (.aload_n 0, 1) := by decide +kernel
theorem px_d92_89 : decode prog_15_method_47_code 89 = .ok (.aload_n 0, 1) := by decide +kernel
theorem px_d92_90 : decode prog_15_method_47_code 90 = .ok (.getfield 65, 3) := by decide +kernel
theorem px_d92_93 : decode prog_15_method_47_code 93 = .ok (.bipush 24, 2) := by decide +kernel
theorem px_d92_95 : decode prog_15_method_47_code 95 = .ok (.sipush 144, 3) := by decide +kernel
theorem px_d92_98 : decode prog_15_method_47_code 98 = .ok (.iload_n 1, 1) := by decide +kernel
theorem px_d92_99 : decode prog_15_method_47_code 99 = .ok (.imul, 1) := by decide +kernel
theorem px_d92_100 : decode prog_15_method_47_code 100 = .ok (.bipush 12, 2) := by decide +kernel
theorem px_d92_102 : decode prog_15_method_47_code 102 = .ok (.iload_n 2, 1) := by decide +kernel
theorem px_d92_103 : decode prog_15_method_47_code 103 = .ok (.imul, 1) := by decide +kernel
theorem px_d92_104 : decode prog_15_method_47_code 104 = .ok (.iadd, 1) := by decide +kernel
theorem px_d92_105 : decode prog_15_method_47_code 105 = .ok (.iload_n 3, 1) := by decide +kernel
theorem px_d92_106 : decode prog_15_method_47_code 106 = .ok (.iadd, 1) := by decide +kernel
theorem px_d92_107 : decode prog_15_method_47_code 107 = .ok (.imul, 1) := by decide +kernel
theorem px_d92_108 : decode prog_15_method_47_code 108 = .ok (.invokevirtual 252, 3) := by decide +kernel
theorem px_d92_111 : decode prog_15_method_47_code 111 = .ok (.aload_n 0, 1) := by decide +kernel
theorem px_d92_112 : decode prog_15_method_47_code 112 = .ok (.aload_n 0, 1) := by decide +kernel
theorem px_d92_113 : decode prog_15_method_47_code 113 = .ok (.getfield 44, 3) := by decide +kernel
theorem px_d92_116 : decode prog_15_method_47_code 116 = .ok (.iload 4, 2) := by decide +kernel
theorem px_d92_118 : decode prog_15_method_47_code 118 = .ok (.invokevirtual 47, 3) := by decide +kernel
theorem px_d92_121 : decode prog_15_method_47_code 121 = .ok (.aload_n 0, 1) := by decide +kernel
theorem px_d92_122 : decode prog_15_method_47_code 122 = .ok (.getfield 68, 3) := by decide +kernel
theorem px_d92_125 : decode prog_15_method_47_code 125 = .ok (.aload_n 0, 1) := by decide +kernel
theorem px_d92_126 : decode prog_15_method_47_code 126 = .ok (.getfield 65, 3) := by decide +kernel
theorem px_d92_129 : decode prog_15_method_47_code 129 = .ok (.invokevirtual 71, 3) := by decide +kernel
theorem px_d92_132 : decode prog_15_method_47_code 132 = .ok (.aload_n 0, 1) := by decide +kernel
theorem px_d92_133 : decode prog_15_method_47_code 133 = .ok (.aload_n 0, 1) := by decide +kernel
theorem px_d92_134 : decode prog_15_method_47_code 134 = .ok (.getfield 44, 3) := by decide +kernel
theorem px_d92_137 : decode prog_15_method_47_code 137 = .ok (.iload 4, 2) := by decide +kernel
theorem px_d92_139 : decode prog_15_method_47_code 139 = .ok (.invokevirtual 47, 3) := by decide +kernel
theorem px_d92_142 : decode prog_15_method_47_code 142 = .ok (.invokevirtual 114, 3) := by decide +kernel
theorem px_d92_145 : decode prog_15_method_47_code 145 = .ok (.return_, 1) := by decide +kernel
theorem px_d93_0 : decode prog_15_method_48_code 0 = .ok (.iload_n 3, 1) := by decide +kernel
theorem px_d93_1 : decode prog_15_method_48_code 1 = .ok (.ifCond .eq 12, 3) := by decide +kernel
theorem px_d93_4 : decode prog_15_method_48_code 4 = .ok (.aload_n 0, 1) := by decide +kernel
theorem px_d93_5 : decode prog_15_method_48_code 5 = .ok (.getfield 157, 3) := by decide +kernel
theorem px_d93_8 : decode prog_15_method_48_code 8 = .ok (.iload_n 1, 1) := by decide +kernel
theorem px_d93_9 : decode prog_15_method_48_code 9 = .ok (.iaload, 1) := by decide +kernel
theorem px_d93_10 : decode prog_15_method_48_code 10 = .ok (.goto 16, 3) := by decide +kernel
theorem px_d93_13 : decode prog_15_method_48_code 13 = .ok (.aload_n 0, 1) := by decide +kernel
theorem px_d93_14 : decode prog_15_method_48_code 14 = .ok (.getfield 157, 3) := by decide +kernel
theorem px_d93_17 : decode prog_15_method_48_code 17 = .ok (.iload_n 1, 1) := by decide +kernel
theorem px_d93_18 : decode prog_15_method_48_code 18 = .ok (.iaload, 1) := by decide +kernel
theorem px_d93_19 : decode prog_15_method_48_code 19 = .ok (.aload_n 0, 1) := by decide +kernel
theorem px_d93_20 : decode prog_15_method_48_code 20 = .ok (.getfield 187, 3) := by decide +kernel
theorem px_d93_23 : decode prog_15_method_48_code 23 = .ok (.iload_n 2, 1) := by decide +kernel
theorem px_d93_24 : decode prog_15_method_48_code 24 = .ok (.iaload, 1) := by decide +kernel
theorem px_d93_25 : decode prog_15_method_48_code 25 = .ok (.isub, 1) := by decide +kernel
theorem px_d93_26 : decode prog_15_method_48_code 26 = .ok (.istore 4, 2) := by decide +kernel
theorem px_d93_28 : decode prog_15_method_48_code 28 = .ok (.aload_n 0, 1) := by decide +kernel
theorem px_d93_29 : decode prog_15_method_48_code 29 = .ok (.aload_n 0, 1) := by decide +kernel
theorem px_d93_30 : decode prog_15_method_48_code 30 = .ok (.getfield 160, 3) := by decide +kernel
theorem px_d93_33 : decode prog_15_method_48_code 33 = .ok (.iload_n 1, 1) := by decide +kernel
theorem px_d93_34 : decode prog_15_method_48_code 34 = .ok (.iaload, 1) := by decide +kernel
theorem px_d93_35 : decode prog_15_method_48_code 35 = .ok (.iload 4, 2) := by decide +kernel
theorem px_d93_37 : decode prog_15_method_48_code 37 = .ok (.invokevirtual 310, 3) := by decide +kernel
theorem px_d93_40 : decode prog_15_method_48_code 40 = .ok (.aload_n 0, 1) := by decide +kernel
theorem px_d93_41 : decode prog_15_method_48_code 41 = .ok (.aload_n 0, 1) := by decide +kernel
theorem px_d93_42 : decode prog_15_method_48_code 42 = .ok (.getfield 163, 3) := by decide +kernel
theorem px_d93_45 : decode prog_15_method_48_code 45 = .ok (.iload_n 1, 1) := by decide +kernel
theorem px_d93_46 : decode prog_15_method_48_code 46 = .ok (.iaload, 1) := by decide +kernel
theorem px_d93_47 : decode prog_15_method_48_code 47 = .ok (.putfield 44, 3) := by decide +kernel
theorem px_d93_50 : decode prog_15_method_48_code 50 = .ok (.iconst 0, 1) := by decide +kernel
theorem px_d93_51 : decode prog_15_method_48_code 51 = .ok (.istore 5, 2) := by decide +kernel
theorem px_d93_53 : decode prog_15_method_48_code 53 = .ok (.iload 5, 2) := by decide +kernel
theorem px_d93_55 : decode prog_15_method_48_code 55 = .ok (.aload_n 0, 1) := by decide +kernel
theorem px_d93_56 : decode prog_15_method_48_code 56 = .ok (.getfield 44, 3) := by decide +kernel
theorem px_d93_59 : decode prog_15_method_48_code 59 = .ok (.if_icmp .ge 81, 3) := by decide +kernel
theorem px_d93_62 : decode prog_15_method_48_code 62 = .ok (.iconst 0, 1) := by decide +kernel
theorem px_d93_63 : decode prog_15_method_48_code 63 = .ok (.istore 6, 2) := by decide +kernel
theorem px_d93_65 : decode prog_15_method_48_code 65 = .ok (.iload_n 3, 1) := by decide +kernel
theorem px_d93_66 : decode prog_15_method_48_code 66 = .ok (.ifCond .eq 7, 3) := by decide +kernel
theorem px_d93_69 : decode prog_15_method_48_code 69 = .ok (.iconst 1, 1) := by decide +kernel
theorem px_d93_70 : decode prog_15_method_48_code 70 = .ok (.goto 4, 3) := by decide +kernel
theorem px_d93_73 : decode prog_15_method_48_code 73 = .ok (.iconst 0, 1) := by decide +kernel
theorem px_d93_74 : decode prog_15_method_48_code 74 = .ok (.istore 7, 2) := by decide +kernel
theorem px_d93_76 : decode prog_15_method_48_code 76 = .ok (.iload 7, 2) := by decide +kernel
theorem px_d93_78 : decode prog_15_method_48_code 78 = .ok (.ifCond .lt 56, 3) := by decide +kernel
theorem px_d93_81 : decode prog_15_method_48_code 81 = .ok (.iconst 0, 1) := by decide +kernel
theorem px_d93_82 : decode prog_15_method_48_code 82 = .ok (.istore 8, 2) := by decide +kernel
theorem px_d93_84 : decode prog_15_method_48_code 84 = .ok (.iload 8, 2) := by decide +kernel
theorem px_d93_86 : decode prog_15_method_48_code 86 = .ok (.aload_n 0, 1) := by decide +kernel
theorem px_d93_87 : decode prog_15_method_48_code 87 = .ok (.getfield 157, 3) := by decide +kernel
theorem px_d93_90 : decode prog_15_method_48_code 90 = .ok (.iload_n 1, 1) := by decide +kernel
theorem px_d93_91 : decode prog_15_method_48_code 91 = .ok (.iaload, 1) := by decide +kernel
theorem px_d93_92 : decode prog_15_method_48_code 92 = .ok (.if_icmp .ge 36, 3) := by decide +kernel
theorem px_d93_95 : decode prog_15_method_48_code 95 = .ok (.iload_n 2, 1) := by decide +kernel
theorem px_d93_96 : decode prog_15_method_48_code 96 = .ok (.iload 8, 2) := by decide +kernel
theorem px_d93_98 : decode prog_15_method_48_code 98 = .ok (.ishr, 1) := by decide +kernel
theorem px_d93_99 : decode prog_15_method_48_code 99 = .ok (.iconst 1, 1) := by decide +kernel
theorem px_d93_100 : decode prog_15_method_48_code 100 = .ok (.iand, 1) := by decide +kernel
theorem px_d93_101 : decode prog_15_method_48_code 101 = .ok (.iload 7, 2) := by decide +kernel
theorem px_d93_103 : decode prog_15_method_48_code 103 = .ok (.if_icmp .ne 19, 3) := by decide +kernel
theorem px_d93_106 : decode prog_15_method_48_code 106 = .ok (.aload_n 0, 1) := by decide +kernel
theorem px_d93_107 : decode prog_15_method_48_code 107 = .ok (.iload_n 1, 1) := by decide +kernel
theorem px_d93_108 : decode prog_15_method_48_code 108 = .ok (.iload 5, 2) := by decide +kernel
theorem px_d93_110 : decode prog_15_method_48_code 110 = .ok (.iload 8, 2) := by decide +kernel
theorem px_d93_112 : decode prog_15_method_48_code 112 = .ok (.iload 5, 2) := by decide +kernel
theorem px_d93_114 : decode prog_15_method_48_code 114 = .ok (.iload 6, 2) := by decide +kernel
theorem px_d93_116 : decode prog_15_method_48_code 116 = .ok (.invokevirtual 248, 3) := by decide +kernel
theorem px_d93_119 : decode prog_15_method_48_code 119 = .ok (.iinc 6 1, 3) := by decide +kernel
theorem px_d93_122 : decode prog_15_method_48_code 122 = .ok (.iinc 8 1, 3) := by decide +kernel
theorem px_d93_125 : decode prog_15_method_48_code 125 = .ok (.goto (-41), 3) := by decide +kernel
theorem px_d93_128 : decode prog_15_method_48_code 128 = .ok (.iinc 7 (-1), 3) := by decide +kernel
theorem px_d93_131 : decode prog_15_method_48_code 131 = .ok (.goto (-55), 3) := by decide +kernel
theorem px_d93_134 : decode prog_15_method_48_code 134 = .ok (.iinc 5 1, 3) := by decide +kernel
theorem px_d93_137 : decode prog_15_method_48_code 137 = .ok (.goto (-84), 3) := by decide +kernel
theorem px_d93_140 : decode prog_15_method_48_code 140 = .ok (.return_, 1) := by decide +kernel
theorem px_d94_0 : decode prog_15_method_49_code 0 = .ok (.aload_n 0, 1) := by decide +kernel
theorem px_d94_1 : decode prog_15_method_49_code 1 = .ok (.iload_n 2, 1) := by decide +kernel
theorem px_d94_2 : decode prog_15_method_49_code 2 = .ok (.iload_n 3, 1) := by decide +kernel
theorem px_d94_3 : decode prog_15_method_49_code 3 = .ok (.iconst 1, 1) := by decide +kernel
theorem px_d94_4 : decode prog_15_method_49_code 4 = .ok (.invokevirtual 322, 3) := by decide +kernel
theorem px_d94_7 : decode prog_15_method_49_code 7 = .ok (.aload_n 0, 1) := by decide +kernel
theorem px_d94_8 : decode prog_15_method_49_code 8 = .ok (.invokevirtual 234, 3) := by decide +kernel
theorem px_d94_11 : decode prog_15_method_49_code 11 = .ok (.aload_n 0, 1) := by decide +kernel
theorem px_d94_12 : decode prog_15_method_49_code 12 = .ok (.getfield 187, 3) := by decide +kernel
theorem px_d94_15 : decode prog_15_method_49_code 15 = .ok (.iload_n 3, 1) := by decide +kernel
theorem px_d94_16 : decode prog_15_method_49_code 16 = .ok (.iaload, 1) := by decide +kernel
theorem px_d94_17 : decode prog_15_method_49_code 17 = .ok (.istore 4, 2) := by decide +kernel
theorem px_d94_19 : decode prog_15_method_49_code 19 = .ok (.iconst 0, 1) := by decide +kernel
theorem px_d94_20 : decode prog_15_method_49_code 20 = .ok (.istore 5, 2) := by decide +kernel
theorem px_d94_22 : decode prog_15_method_49_code 22 = .ok (.iload 5, 2) := by decide +kernel
theorem px_d94_24 : decode prog_15_method_49_code 24 = .ok (.aload_n 0, 1) := by decide +kernel
theorem px_d94_25 : decode prog_15_method_49_code 25 = .ok (.getfield 44, 3) := by decide +kernel
theorem px_d94_28 : decode prog_15_method_49_code 28 = .ok (.if_icmp .ge 21, 3) := by decide +kernel
theorem px_d94_31 : decode prog_15_method_49_code 31 = .ok (.aload_n 0, 1) := by decide +kernel
theorem px_d94_32 : decode prog_15_method_49_code 32 = .ok (.getfield 108, 3) := by decide +kernel
theorem px_d94_35 : decode prog_15_method_49_code 35 = .ok (.iload 5, 2) := by decide +kernel
theorem px_d94_37 : decode prog_15_method_49_code 37 = .ok (.iaload, 1) := by decide +kernel
theorem px_d94_38 : decode prog_15_method_49_code 38 = .ok (.iload 4, 2) := by decide +kernel
theorem px_d94_40 : decode prog_15_method_49_code 40 = .ok (.if_icmp .ge 9, 3) := by decide +kernel
theorem px_d94_43 : decode prog_15_method_49_code 43 = .ok (.iinc 5 1, 3) := by decide +kernel
theorem px_d94_46 : decode prog_15_method_49_code 46 = .ok (.goto (-24), 3) := by decide +kernel
theorem px_d94_49 : decode prog_15_method_49_code 49 = .ok (.iload 5, 2) := by decide +kernel
theorem px_d94_51 : decode prog_15_method_49_code 51 = .ok (.istore 6, 2) := by decide +kernel
theorem px_d94_53 : decode prog_15_method_49_code 53 = .ok (.iload 6, 2) := by decide +kernel
theorem px_d94_55 : decode prog_15_method_49_code 55 = .ok (.aload_n 0, 1) := by decide +kernel
theorem px_d94_56 : decode prog_15_method_49_code 56 = .ok (.getfield 44, 3) := by decide +kernel
theorem px_d94_59 : decode prog_15_method_49_code 59 = .ok (.if_icmp .ge 96, 3) := by decide +kernel
theorem px_d94_62 : decode prog_15_method_49_code 62 = .ok (.iload 4, 2) := by decide +kernel
theorem px_d94_64 : decode prog_15_method_49_code 64 = .ok (.istore 7, 2) := by decide +kernel
theorem px_d94_66 : decode prog_15_method_49_code 66 = .ok (.iload 7, 2) := by decide +kernel
theorem px_d94_68 : decode prog_15_method_49_code 68 = .ok (.aload_n 0, 1) := by decide +kernel
theorem px_d94_69 : decode prog_15_method_49_code 69 = .ok (.getfield 41, 3) := by decide +kernel
theorem px_d94_72 : decode prog_15_method_49_code 72 = .ok (.if_icmp .ge 77, 3) := by decide +kernel
theorem px_d94_75 : decode prog_15_method_49_code 75 = .ok (.aload_n 0, 1) := by decide +kernel
theorem px_d94_76 : decode prog_15_method_49_code 76 = .ok (.getfield 55, 3) := by decide +kernel
theorem px_d94_79 : decode prog_15_method_49_code 79 = .ok (.bipush 12, 2) := by decide +kernel
theorem px_d94_81 : decode prog_15_method_49_code 81 = .ok (.iload 6, 2) := by decide +kernel
theorem px_d94_83 : decode prog_15_method_49_code 83 = .ok (.iload 5, 2) := by decide +kernel
theorem px_d94_85 : decode prog_15_method_49_code 85 = .ok (.isub, 1) := by decide +kernel
theorem px_d94_86 : decode prog_15_method_49_code 86 = .ok (.imul, 1) := by decide +kernel
theorem px_d94_87 : decode prog_15_method_49_code 87 = .ok (.iload 7, 2) := by decide +kernel
theorem px_d94_89 : decode prog_15_method_49_code 89 = .ok (.iadd, 1) := by decide +kernel
theorem px_d94_90 : decode prog_15_method_49_code 90 = .ok (.iload 4, 2) := by decide +kernel
theorem px_d94_92 : decode prog_15_method_49_code 92 = .ok (.isub, 1) := by decide +kernel
theorem px_d94_93 : decode prog_15_method_49_code 93 = .ok (.aload_n 0, 1) := by decide +kernel
theorem px_d94_94 : decode prog_15_method_49_code 94 = .ok (.getfield 55, 3) := by decide +kernel
theorem px_d94_97 : decode prog_15_method_49_code 97 = .ok (.bipush 12, 2) := by decide +kernel
theorem px_d94_99 : decode prog_15_method_49_code 99 = .ok (.iload 6, 2) := by decide +kernel
theorem px_d94_101 : decode prog_15_method_49_code 101 = .ok (.imul, 1) := by decide +kernel
theorem px_d94_102 : decode prog_15_method_49_code 102 = .ok (.iload 7, 2) := by decide +kernel
theorem px_d94_104 : decode prog_15_method_49_code 104 = .ok (.iadd, 1) := by decide +kernel
theorem px_d94_105 : decode prog_15_method_49_code 105 = .ok (.iaload, 1) := by decide +kernel
theorem px_d94_106 : decode prog_15_method_49_code 106 = .ok (.iastore, 1) := by decide +kernel
theorem px_d94_107 : decode prog_15_method_49_code 107 = .ok (.aload_n 0, 1) := by decide +kernel
theorem px_d94_108 : decode prog_15_method_49_code 108 = .ok (.getfield 58, 3) := by decide +kernel
theorem px_d94_111 : decode prog_15_method_49_code 111 = .ok (.aload_n 0, 1) := by decide +kernel
theorem px_d94_112 : decode prog_15_method_49_code 112 = .ok (.iload 6, 2) := by decide +kernel
theorem px_d94_114 : decode prog_15_method_49_code 114 = .ok (.iload 7, 2) := by decide +kernel
theorem px_d94_116 : decode prog_15_method_49_code 116 = .ok (.invokevirtual 47, 3) := by decide +kernel
theorem px_d94_119 : decode prog_15_method_49_code 119 = .ok (.invokevirtual 7, 3) := by decide +kernel
theorem px_d94_122 : decode prog_15_method_49_code 122 = .ok (.aload_n 0, 1) := by decide +kernel
theorem px_d94_123 : decode prog_15_method_49_code 123 = .ok (.iload 6, 2) := by decide +kernel
theorem px_d94_125 : decode prog_15_method_49_code 125 = .ok (.iload 5, 2) := by decide +kernel
theorem px_d94_127 : decode prog_15_method_49_code 127 = .ok (.isub, 1) := by decide +kernel
theorem px_d94_128 : decode prog_15_method_49_code 128 = .ok (.iload 7, 2) := by decide +kernel
theorem px_d94_130 : decode prog_15_method_49_code 130 = .ok (.iload 4, 2) := by decide +kernel
theorem px_d94_132 : decode prog_15_method_49_code 132 = .ok (.isub, 1) := by decide +kernel
theorem px_d94_133 : decode prog_15_method_49_code 133 = .ok (.invokevirtual 47, 3) := by decide +kernel
theorem px_d94_136 : decode prog_15_method_49_code 136 = .ok (.aload_n 0, 1) := by decide +kernel
theorem px_d94_137 : decode prog_15_method_49_code 137 = .ok (.getfield 58, 3) := by decide +kernel
theorem px_d94_140 : decode prog_15_method_49_code 140 = .ok (.invokevirtual 7, 3) := by decide +kernel
theorem px_d94_143 : decode prog_15_method_49_code 143 = .ok (.iinc 7 1, 3) := by decide +kernel
theorem px_d94_146 : decode prog_15_method_49_code 146 = .ok (.goto (-80), 3) := by decide +kernel
theorem px_d94_149 : decode prog_15_method_49_code 149 = .ok (.iinc 6 1, 3) := by decide +kernel
theorem px_d94_152 : decode prog_15_method_49_code 152 = .ok (.goto (-99), 3) := by decide +kernel
theorem px_d94_155 : decode prog_15_method_49_code 155 = .ok (.aload_n 0, 1) := by decide +kernel
theorem px_d94_156 : decode prog_15_method_49_code 156 = .ok (.dup, 1) := by decide +kernel
theorem px_d94_157 : decode prog_15_method_49_code 157 = .ok (.getfield 44, 3) := by decide +kernel
theorem px_d94_160 : decode prog_15_method_49_code 160 = .ok (.iload 5, 2) := by decide +kernel
theorem px_d94_162 : decode prog_15_method_49_code 162 = .ok (.isub, 1) := by decide +kernel
theorem px_d94_163 : decode prog_15_method_49_code 163 = .ok (.putfield 44, 3) := by decide +kernel
theorem px_d94_166 : decode prog_15_method_49_code 166 = .ok (.aload_n 0, 1) := by decide +kernel
theorem px_d94_167 : decode prog_15_method_49_code 167 = .ok (.dup, 1) := by decide +kernel
theorem px_d94_168 : decode prog_15_method_49_code 168 = .ok (.getfield 41, 3) := by decide +kernel
theorem px_d94_171 : decode prog_15_method_49_code 171 = .ok (.iload 4, 2) := by decide +kernel
theorem px_d94_173 : decode prog_15_method_49_code 173 = .ok (.isub, 1) := by decide +kernel
theorem px_d94_174 : decode prog_15_method_49_code 174 = .ok (.putfield 41, 3) := by decide +kernel
theorem px_d94_177 : decode prog_15_method_49_code 177 = .ok (.aload_n 0, 1) := by decide +kernel
theorem px_d94_178 : decode prog_15_method_49_code 178 = .ok (.iload_n 1, 1) := by decide +kernel
theorem px_d94_179 : decode prog_15_method_49_code 179 = .ok (.invokevirtual 319, 3) := by decide +kernel
theorem px_d94_182 : decode prog_15_method_49_code 182 = .ok (.return_, 1) := by decide +kernel
theorem px_d98_0 : decode prog_15_method_68_code 0 = .ok (.aload_n 0, 1) := by decide +kernel
theorem px_d98_1 : decode prog_15_method_68_code 1 = .ok (.getfield 338, 3) := by decide +kernel
theorem px_d98_4 : decode prog_15_method_68_code 4 = .ok (.iconst 1, 1) := by decide +kernel
theorem px_d98_5 : decode prog_15_method_68_code 5 = .ok (.if_icmp .ne 7, 3) := by decide +kernel
theorem px_d98_8 : decode prog_15_method_68_code 8 = .ok (.iconst 1, 1) := by decide +kernel
theorem px_d98_9 : decode prog_15_method_68_code 9 = .ok (.goto 4, 3) := by decide +kernel
theorem px_d98_12 : decode prog_15_method_68_code 12 = .ok (.iconst 0, 1) := by decide +kernel
theorem px_d98_13 : decode prog_15_method_68_code 13 = .ok (.istore_n 2, 1) := by decide +kernel
theorem px_d98_14 : decode prog_15_method_68_code 14 = .ok (.iload_n 2, 1) := by decide +kernel
theorem px_d98_15 : decode prog_15_method_68_code 15 = .ok (.ifCond .eq 7, 3) := by decide +kernel
theorem px_d98_18 : decode prog_15_method_68_code 18 = .ok (.iconst 0, 1) := by decide +kernel
theorem px_d98_19 : decode prog_15_method_68_code 19 = .ok (.goto 7, 3) := by decide +kernel
theorem px_d98_22 : decode prog_15_method_68_code 22 = .ok (.aload_n 0, 1) := by decide +kernel
theorem px_d98_23 : decode prog_15_method_68_code 23 = .ok (.invokevirtual 392, 3) := by decide +kernel
theorem px_d98_26 : decode prog_15_method_68_code 26 = .ok (.istore_n 3, 1) := by decide +kernel
theorem px_d98_27 : decode prog_15_method_68_code 27 = .ok (.aload_n 0, 1) := by decide +kernel
theorem px_d98_28 : decode prog_15_method_68_code 28 = .ok (.invokevirtual 359, 3) := by decide +kernel
theorem px_d98_31 : decode prog_15_method_68_code 31 = .ok (.aload_n 0, 1) := by decide +kernel
theorem px_d98_32 : decode prog_15_method_68_code 32 = .ok (.invokevirtual 398, 3) := by decide +kernel
theorem px_d98_35 : decode prog_15_method_68_code 35 = .ok (.istore 4, 2) := by decide +kernel
theorem px_d98_37 : decode prog_15_method_68_code 37 = .ok (.iload_n 2, 1) := by decide +kernel
theorem px_d98_38 : decode prog_15_method_68_code 38 = .ok (.ifCond .ne 10, 3) := by decide +kernel
theorem px_d98_41 : decode prog_15_method_68_code 41 = .ok (.iload_n 3, 1) := by decide +kernel
theorem px_d98_42 : decode prog_15_method_68_code 42 = .ok (.invokestatic 401, 3) := by decide +kernel
theorem px_d98_45 : decode prog_15_method_68_code 45 = .ok (.ifCond .eq 19, 3) := by decide +kernel
theorem px_d98_48 : decode prog_15_method_68_code 48 = .ok (.iload 4, 2) := by decide +kernel
theorem px_d98_50 : decode prog_15_method_68_code 50 = .ok (.ifCond .lt 14, 3) := by decide +kernel
theorem px_d98_53 : decode prog_15_method_68_code 53 = .ok (.iload 4, 2) := by decide +kernel
theorem px_d98_55 : decode prog_15_method_68_code 55 = .ok (.bipush 12, 2) := by decide +kernel
theorem px_d98_57 : decode prog_15_method_68_code 57 = .ok (.if_icmp .gt 7, 3) := by decide +kernel
theorem px_d98_60 : decode prog_15_method_68_code 60 = .ok (.iconst 1, 1) := by decide +kernel
theorem px_d98_61 : decode prog_15_method_68_code 61 = .ok (.goto 4, 3) := by decide +kernel
theorem px_d98_64 : decode prog_15_method_68_code 64 = .ok (.iconst 0, 1) := by decide +kernel
theorem px_d98_65 : decode prog_15_method_68_code 65 = .ok (.istore 5, 2) := by decide +kernel
theorem px_d98_67 : decode prog_15_method_68_code 67 = .ok (.aload_n 0, 1) := by decide +kernel
theorem px_d98_68 : decode prog_15_method_68_code 68 = .ok (.iload 5, 2) := by decide +kernel
theorem px_d98_70 : decode prog_15_method_68_code 70 = .ok (.ifCond .eq 7, 3) := by decide +kernel
theorem px_d98_73 : decode prog_15_method_68_code 73 = .ok (.iload_n 3, 1) := by decide +kernel
theorem px_d98_74 : decode prog_15_method_68_code 74 = .ok (.goto 4, 3) := by decide +kernel
theorem px_d98_77 : decode prog_15_method_68_code 77 = .ok (.iconst 0, 1) := by decide +kernel
theorem px_d98_78 : decode prog_15_method_68_code 78 = .ok (.iload 5, 2) := by decide +kernel
theorem px_d98_80 : decode prog_15_method_68_code 80 = .ok (.ifCond .eq 8, 3) := by decide +kernel
theorem px_d98_83 : decode prog_15_method_68_code 83 = .ok (.iload 4, 2) := by decide +kernel
theorem px_d98_85 : decode prog_15_method_68_code 85 = .ok (.goto 4, 3) := by decide +kernel
theorem px_d98_88 : decode prog_15_method_68_code 88 = .ok (.iconst 0, 1) := by decide +kernel
theorem px_d98_89 : decode prog_15_method_68_code 89 = .ok (.invokevirtual 310, 3) := by decide +kernel
theorem px_d98_92 : decode prog_15_method_68_code 92 = .ok (.aload_n 0, 1) := by decide +kernel
theorem px_d98_93 : decode prog_15_method_68_code 93 = .ok (.invokevirtual 359, 3) := by decide +kernel
theorem px_d98_96 : decode prog_15_method_68_code 96 = .ok (.aload_n 0, 1) := by decide +kernel
theorem px_d98_97 : decode prog_15_method_68_code 97 = .ok (.getfield 338, 3) := by decide +kernel
theorem px_d98_100 : decode prog_15_method_68_code 100 = .ok (.bipush 125, 2) := by decide +kernel
theorem px_d98_102 : decode prog_15_method_68_code 102 = .ok (.if_icmp .eq 7, 3) := by decide +kernel
theorem px_d98_105 : decode prog_15_method_68_code 105 = .ok (.iconst 1, 1) := by decide +kernel
theorem px_d98_106 : decode prog_15_method_68_code 106 = .ok (.goto 4, 3) := by decide +kernel
theorem px_d98_109 : decode prog_15_method_68_code 109 = .ok (.iconst 0, 1) := by decide +kernel
theorem px_d98_110 : decode prog_15_method_68_code 110 = .ok (.istore 6, 2) := by decide +kernel
theorem px_d98_112 : decode prog_15_method_68_code 112 = .ok (.iconst 0, 1) := by decide +kernel
theorem px_d98_113 : decode prog_15_method_68_code 113 = .ok (.istore 7, 2) := by decide +kernel
theorem px_d98_115 : decode prog_15_method_68_code 115 = .ok (.iconst 0, 1) := by decide +kernel
theorem px_d98_116 : decode prog_15_method_68_code 116 = .ok (.istore 8, 2) := by decide +kernel
theorem px_d98_118 : decode prog_15_method_68_code 118 = .ok (.aload_n 0, 1) := by decide +kernel
theorem px_d98_119 : decode prog_15_method_68_code 119 = .ok (.getfield 338, 3) := by decide +kernel
theorem px_d98_122 : decode prog_15_method_68_code 122 = .ok (.bipush 125, 2) := by decide +kernel
theorem px_d98_124 : decode prog_15_method_68_code 124 = .ok (.if_icmp .eq 82, 3) := by decide +kernel
theorem px_d98_127 : decode prog_15_method_68_code 127 = .ok (.aload_n 0, 1) := by decide +kernel
theorem px_d98_128 : decode prog_15_method_68_code 128 = .ok (.getfield 338, 3) := by decide +kernel
theorem px_d98_131 : decode prog_15_method_68_code 131 = .ok (.bipush 44, 2) := by decide +kernel
theorem px_d98_133 : decode prog_15_method_68_code 133 = .ok (.if_icmp .ne 31, 3) := by decide +kernel
theorem px_d98_136 : decode prog_15_method_68_code 136 = .ok (.iload 5, 2) := by decide +kernel
theorem px_d98_138 : decode prog_15_method_68_code 138 = .ok (.ifCond .eq 14, 3) := by decide +kernel
theorem px_d98_141 : decode prog_15_method_68_code 141 = .ok (.iload 7, 2) := by decide +kernel
theorem px_d98_143 : decode prog_15_method_68_code 143 = .ok (.iload 4, 2) := by decide +kernel
theorem px_d98_145 : decode prog_15_method_68_code 145 = .ok (.if_icmp .ne 7, 3) := by decide +kernel
theorem px_d98_148 : decode prog_15_method_68_code 148 = .ok (.iconst 1, 1) := by decide +kernel
theorem px_d98_149 : decode prog_15_method_68_code 149 = .ok (.goto 4, 3) := by decide +kernel
theorem px_d98_152 : decode prog_15_method_68_code 152 = .ok (.iconst 0, 1) := by decide +kernel
theorem px_d98_153 : decode prog_15_method_68_code 153 = .ok (.istore 5, 2) := by decide +kernel
theorem px_d98_155 : decode prog_15_method_68_code 155 = .ok (.iconst 0, 1) := by decide +kernel
theorem px_d98_156 : decode prog_15_method_68_code 156 = .ok (.istore 7, 2) := by decide +kernel
theorem px_d98_158 : decode prog_15_method_68_code 158 = .ok (.iinc 8 1, 3) := by decide +kernel
theorem px_d98_161 : decode prog_15_method_68_code 161 = .ok (.goto 38, 3) := by decide +kernel
theorem px_d98_164 : decode prog_15_method_68_code 164 = .ok (.iload 5, 2) := by decide +kernel
theorem px_d98_166 : decode prog_15_method_68_code 166 = .ok (.ifCond .eq 30, 3) := by decide +kernel
theorem px_d98_169 : decode prog_15_method_68_code 169 = .ok (.iload 8, 2) := by decide +kernel
theorem px_d98_171 : decode prog_15_method_68_code 171 = .ok (.bipush 12, 2) := by decide +kernel
theorem px_d98_173 : decode prog_15_method_68_code 173 = .ok (.if_icmp .ge 23, 3) := by decide +kernel
theorem px_d98_176 : decode prog_15_method_68_code 176 = .ok (.iload 7, 2) := by decide +kernel
theorem px_d98_178 : decode prog_15_method_68_code 178 = .ok (.iload 4, 2) := by decide +kernel
theorem px_d98_180 : decode prog_15_method_68_code 180 = .ok (.if_icmp .ge 16, 3) := by decide +kernel
theorem px_d98_183 : decode prog_15_method_68_code 183 = .ok (.aload_n 0, 1) := by decide +kernel
theorem px_d98_184 : decode prog_15_method_68_code 184 = .ok (.iload 8, 2) := by decide +kernel
theorem px_d98_186 : decode prog_15_method_68_code 186 = .ok (.iload 7, 2) := by decide +kernel
theorem px_d98_188 : decode prog_15_method_68_code 188 = .ok (.aload_n 0, 1) := by decide +kernel
theorem px_d98_189 : decode prog_15_method_68_code 189 = .ok (.invokevirtual 392, 3) := by decide +kernel
theorem px_d98_192 : decode prog_15_method_68_code 192 = .ok (.i2l, 1) := by decide +kernel
theorem px_d98_193 : decode prog_15_method_68_code 193 = .ok (.invokevirtual 244, 3) := by decide +kernel
theorem px_d98_196 : decode prog_15_method_68_code 196 = .ok (.iinc 7 1, 3) := by decide +kernel
theorem px_d98_199 : decode prog_15_method_68_code 199 = .ok (.aload_n 0, 1) := by decide +kernel
theorem px_d98_200 : decode prog_15_method_68_code 200 = .ok (.invokevirtual 359, 3) := by decide +kernel
theorem px_d98_203 : decode prog_15_method_68_code 203 = .ok (.goto (-85), 3) := by decide +kernel
theorem px_d98_206 : decode prog_15_method_68_code 206 = .ok (.iload 5, 2) := by decide +kernel
theorem px_d98_208 : decode prog_15_method_68_code 208 = .ok (.ifCond .eq 26, 3) := by decide +kernel
theorem px_d98_211 : decode prog_15_method_68_code 211 = .ok (.iload 6, 2) := by decide +kernel
theorem px_d98_213 : decode prog_15_method_68_code 213 = .ok (.ifCond .eq 10, 3) := by decide +kernel
theorem px_d98_216 : decode prog_15_method_68_code 216 = .ok (.iload 7, 2) := by decide +kernel
theorem px_d98_218 : decode prog_15_method_68_code 218 = .ok (.iload 4, 2) := by decide +kernel
theorem px_d98_220 : decode prog_15_method_68_code 220 = .ok (.if_icmp .ne 14, 3) := by decide +kernel
theorem px_d98_223 : decode prog_15_method_68_code 223 = .ok (.iload 8, 2) := by decide +kernel
theorem px_d98_225 : decode prog_15_method_68_code 225 = .ok (.bipush 12, 2) := by decide +kernel
theorem px_d98_227 : decode prog_15_method_68_code 227 = .ok (.if_icmp .ge 7, 3) := by decide +kernel
theorem px_d98_230 : decode prog_15_method_68_code 230 = .ok (.iconst 1, 1) := by decide +kernel
theorem px_d98_231 : decode prog_15_method_68_code 231 = .ok (.goto 4, 3) := by decide +kernel
theorem px_d98_234 : decode prog_15_method_68_code 234 = .ok (.iconst 0, 1) := by decide +kernel
theorem px_d98_235 : decode prog_15_method_68_code 235 = .ok (.istore 5, 2) := by decide +kernel
theorem px_d98_237 : decode prog_15_method_68_code 237 = .ok (.aload_n 0, 1) := by decide +kernel
theorem px_d98_238 : decode prog_15_method_68_code 238 = .ok (.invokevirtual 359, 3) := by decide +kernel
theorem px_d98_241 : decode prog_15_method_68_code 241 = .ok (.aload_n 0, 1) := by decide +kernel
theorem px_d98_242 : decode prog_15_method_68_code 242 = .ok (.iload 5, 2) := by decide +kernel
theorem px_d98_244 : decode prog_15_method_68_code 244 = .ok (.iconst 2, 1) := by decide +kernel
theorem px_d98_245 : decode prog_15_method_68_code 245 = .ok (.invokevirtual 404, 3) := by decide +kernel
theorem px_d98_248 : decode prog_15_method_68_code 248 = .ok (.ifCond .eq 25, 3) := by decide +kernel
theorem px_d98_251 : decode prog_15_method_68_code 251 = .ok (.aload_n 0, 1) := by decide +kernel
theorem px_d98_252 : decode prog_15_method_68_code 252 = .ok (.iload 6, 2) := by decide +kernel
theorem px_d98_254 : decode prog_15_method_68_code 254 = .ok (.ifCond .eq 10, 3) := by decide +kernel
theorem px_d98_257 : decode prog_15_method_68_code 257 = .ok (.iload 8, 2) := by decide +kernel
theorem px_d98_259 : decode prog_15_method_68_code 259 = .ok (.iconst 1, 1) := by decide +kernel
theorem px_d98_260 : decode prog_15_method_68_code 260 = .ok (.iadd, 1) := by decide +kernel
theorem px_d98_261 : decode prog_15_method_68_code 261 = .ok (.goto 4, 3) := by decide +kernel
theorem px_d98_264 : decode prog_15_method_68_code 264 = .ok (.iconst 0, 1) := by decide +kernel
theorem px_d98_265 : decode prog_15_method_68_code 265 = .ok (.putfield 44, 3) := by decide +kernel
theorem px_d98_268 : decode prog_15_method_68_code 268 = .ok (.aload_n 0, 1) := by decide +kernel
theorem px_d98_269 : decode prog_15_method_68_code 269 = .ok (.iload_n 1, 1) := by decide +kernel
theorem px_d98_270 : decode prog_15_method_68_code 270 = .ok (.invokevirtual 319, 3) := by decide +kernel
theorem px_d98_273 : decode prog_15_method_68_code 273 = .ok (.return_, 1) := by decide +kernel
theorem px_d99_0 : decode prog_15_method_69_code 0 = .ok (.aload_n 0, 1) := by decide +kernel
theorem px_d99_1 : decode prog_15_method_69_code 1 = .ok (.invokevirtual 398, 3) := by decide +kernel
theorem px_d99_4 : decode prog_15_method_69_code 4 = .ok (.istore_n 2, 1) := by decide +kernel
theorem px_d99_5 : decode prog_15_method_69_code 5 = .ok (.iload_n 2, 1) := by decide +kernel
theorem px_d99_6 : decode prog_15_method_69_code 6 = .ok (.iconst 1, 1) := by decide +kernel
theorem px_d99_7 : decode prog_15_method_69_code 7 = .ok (.if_icmp .lt 13, 3) := by decide +kernel
theorem px_d99_10 : decode prog_15_method_69_code 10 = .ok (.iload_n 2, 1) := by decide +kernel
theorem px_d99_11 : decode prog_15_method_69_code 11 = .ok (.bipush 13, 2) := by decide +kernel
theorem px_d99_13 : decode prog_15_method_69_code 13 = .ok (.if_icmp .gt 7, 3) := by decide +kernel
theorem px_d99_16 : decode prog_15_method_69_code 16 = .ok (.iconst 1, 1) := by decide +kernel
theorem px_d99_17 : decode prog_15_method_69_code 17 = .ok (.goto 4, 3) := by decide +kernel
theorem px_d99_20 : decode prog_15_method_69_code 20 = .ok (.iconst 0, 1) := by decide +kernel
theorem px_d99_21 : decode prog_15_method_69_code 21 = .ok (.istore_n 3, 1) := by decide +kernel
theorem px_d99_22 : decode prog_15_method_69_code 22 = .ok (.aload_n 0, 1) := by decide +kernel
theorem px_d99_23 : decode prog_15_method_69_code 23 = .ok (.invokevirtual 359, 3) := by decide +kernel
theorem px_d99_26 : decode prog_15_method_69_code 26 = .ok (.iconst 0, 1) := by decide +kernel
theorem px_d99_27 : decode prog_15_method_69_code 27 = .ok (.istore 4, 2) := by decide +kernel
theorem px_d99_29 : decode prog_15_method_69_code 29 = .ok (.aload_n 0, 1) := by decide +kernel
theorem px_d99_30 : decode prog_15_method_69_code 30 = .ok (.getfield 338, 3) := by decide +kernel
theorem px_d99_33 : decode prog_15_method_69_code 33 = .ok (.bipush 125, 2) := by decide +kernel
theorem px_d99_35 : decode prog_15_method_69_code 35 = .ok (.if_icmp .eq 101, 3) := by decide +kernel
theorem px_d99_38 : decode prog_15_method_69_code 38 = .ok (.aload_n 0, 1) := by decide +kernel
theorem px_d99_39 : decode prog_15_method_69_code 39 = .ok (.invokevirtual 398, 3) := by decide +kernel
theorem px_d99_42 : decode prog_15_method_69_code 42 = .ok (.istore 5, 2) := by decide +kernel
theorem px_d99_44 : decode prog_15_method_69_code 44 = .ok (.aload_n 0, 1) := by decide +kernel
theorem px_d99_45 : decode prog_15_method_69_code 45 = .ok (.invokevirtual 398, 3) := by decide +kernel
theorem px_d99_48 : decode prog_15_method_69_code 48 = .ok (.istore 6, 2) := by decide +kernel
theorem px_d99_50 : decode prog_15_method_69_code 50 = .ok (.iload_n 3, 1) := by decide +kernel
theorem px_d99_51 : decode prog_15_method_69_code 51 = .ok (.ifCond .eq 36, 3) := by decide +kernel
theorem px_d99_54 : decode prog_15_method_69_code 54 = .ok (.iload 5, 2) := by decide +kernel
theorem px_d99_56 : decode prog_15_method_69_code 56 = .ok (.ifCond .lt 31, 3) := by decide +kernel
theorem px_d99_59 : decode prog_15_method_69_code 59 = .ok (.iload 5, 2) := by decide +kernel
theorem px_d99_61 : decode prog_15_method_69_code 61 = .ok (.iload_n 2, 1) := by decide +kernel
theorem px_d99_62 : decode prog_15_method_69_code 62 = .ok (.if_icmp .ge 25, 3) := by decide +kernel
theorem px_d99_65 : decode prog_15_method_69_code 65 = .ok (.iload 6, 2) := by decide +kernel
theorem px_d99_67 : decode prog_15_method_69_code 67 = .ok (.ifCond .lt 20, 3) := by decide +kernel
theorem px_d99_70 : decode prog_15_method_69_code 70 = .ok (.iload 6, 2) := by decide +kernel
theorem px_d99_72 : decode prog_15_method_69_code 72 = .ok (.iload_n 2, 1) := by decide +kernel
theorem px_d99_73 : decode prog_15_method_69_code 73 = .ok (.if_icmp .ge 14, 3) := by decide +kernel
theorem px_d99_76 : decode prog_15_method_69_code 76 = .ok (.iload 4, 2) := by decide +kernel
theorem px_d99_78 : decode prog_15_method_69_code 78 = .ok (.bipush 12, 2) := by decide +kernel
theorem px_d99_80 : decode prog_15_method_69_code 80 = .ok (.if_icmp .ge 7, 3) := by decide +kernel
theorem px_d99_83 : decode prog_15_method_69_code 83 = .ok (.iconst 1, 1) := by decide +kernel
theorem px_d99_84 : decode prog_15_method_69_code 84 = .ok (.goto 4, 3) := by decide +kernel
theorem px_d99_87 : decode prog_15_method_69_code 87 = .ok (.iconst 0, 1) := by decide +kernel
theorem px_d99_88 : decode prog_15_method_69_code 88 = .ok (.istore_n 3, 1) := by decide +kernel
theorem px_d99_89 : decode prog_15_method_69_code 89 = .ok (.iload_n 3, 1) := by decide +kernel
theorem px_d99_90 : decode prog_15_method_69_code 90 = .ok (.ifCond .eq 27, 3) := by decide +kernel
theorem px_d99_93 : decode prog_15_method_69_code 93 = .ok (.aload_n 0, 1) := by decide +kernel
theorem px_d99_94 : decode prog_15_method_69_code 94 = .ok (.getfield 212, 3) := by decide +kernel
theorem px_d99_97 : decode prog_15_method_69_code 97 = .ok (.iconst 2, 1) := by decide +kernel
theorem px_d99_98 : decode prog_15_method_69_code 98 = .ok (.iload 4, 2) := by decide +kernel
theorem px_d99_100 : decode prog_15_method_69_code 100 = .ok (.imul, 1) := by decide +kernel
theorem px_d99_101 : decode prog_15_method_69_code 101 = .ok (.iload 5, 2) := by decide +kernel
theorem px_d99_103 : decode prog_15_method_69_code 103 = .ok (.iastore, 1) := by decide +kernel
theorem px_d99_104 : decode prog_15_method_69_code 104 = .ok (.aload_n 0, 1) := by decide +kernel
theorem px_d99_105 : decode prog_15_method_69_code 105 = .ok (.getfield 212, 3) := by decide +kernel
theorem px_d99_108 : decode prog_15_method_69_code 108 = .ok (.iconst 2, 1) := by decide +kernel
theorem px_d99_109 : decode prog_15_method_69_code 109 = .ok (.iload 4, 2) := by decide +kernel
theorem px_d99_111 : decode prog_15_method_69_code 111 = .ok (.imul, 1) := by decide +kernel
theorem px_d99_112 : decode prog_15_method_69_code 112 = .ok (.iconst 1, 1) := by decide +kernel
theorem px_d99_113 : decode prog_15_method_69_code 113 = .ok (.iadd, 1) := by decide +kernel
theorem px_d99_114 : decode prog_15_method_69_code 114 = .ok (.iload 6, 2) := by decide +kernel
theorem px_d99_116 : decode prog_15_method_69_code 116 = .ok (.iastore, 1) := by decide +kernel
theorem px_d99_117 : decode prog_15_method_69_code 117 = .ok (.iinc 4 1, 3) := by decide +kernel
theorem px_d99_120 : decode prog_15_method_69_code 120 = .ok (.aload_n 0, 1) := by decide +kernel
theorem px_d99_121 : decode prog_15_method_69_code 121 = .ok (.getfield 338, 3) := by decide +kernel
theorem px_d99_124 : decode prog_15_method_69_code 124 = .ok (.bipush 44, 2) := by decide +kernel
theorem px_d99_126 : decode prog_15_method_69_code 126 = .ok (.if_icmp .ne 7, 3) := by decide +kernel
theorem px_d99_129 : decode prog_15_method_69_code 129 = .ok (.aload_n 0, 1) := by decide +kernel
theorem px_d99_130 : decode prog_15_method_69_code 130 = .ok (.invokevirtual 359, 3) := by decide +kernel
theorem px_d99_133 : decode prog_15_method_69_code 133 = .ok (.goto (-104), 3) := by decide +kernel
theorem px_d99_136 : decode prog_15_method_69_code 136 = .ok (.aload_n 0, 1) := by decide +kernel
theorem px_d99_137 : decode prog_15_method_69_code 137 = .ok (.invokevirtual 359, 3) := by decide +kernel
theorem px_d99_140 : decode prog_15_method_69_code 140 = .ok (.aload_n 0, 1) := by decide +kernel
theorem px_d99_141 : decode prog_15_method_69_code 141 = .ok (.iload_n 3, 1) := by decide +kernel
theorem px_d99_142 : decode prog_15_method_69_code 142 = .ok (.iconst 2, 1) := by decide +kernel
theorem px_d99_143 : decode prog_15_method_69_code 143 = .ok (.invokevirtual 404, 3) := by decide +kernel
theorem px_d99_146 : decode prog_15_method_69_code 146 = .ok (.ifCond .ne 4, 3) := by decide +kernel
theorem px_d99_149 : decode prog_15_method_69_code 149 = .ok (.return_, 1) := by decide +kernel
theorem px_d99_150 : decode prog_15_method_69_code 150 = .ok (.aload_n 0, 1) := by decide +kernel
theorem px_d99_151 : decode prog_15_method_69_code 151 = .ok (.iconst 0, 1) := by decide +kernel
theorem px_d99_152 : decode prog_15_method_69_code 152 = .ok (.iload 4, 2) := by decide +kernel
theorem px_d99_154 : decode prog_15_method_69_code 154 = .ok (.invokevirtual 310, 3) := by decide +kernel
theorem px_d99_157 : decode prog_15_method_69_code 157 = .ok (.iconst 0, 1) := by decide +kernel
theorem px_d99_158 : decode prog_15_method_69_code 158 = .ok (.istore 5, 2) := by decide +kernel
theorem px_d99_160 : decode prog_15_method_69_code 160 = .ok (.iload 5, 2) := by decide +kernel
theorem px_d99_162 : decode prog_15_method_69_code 162 = .ok (.iload_n 2, 1) := by decide +kernel
theorem px_d99_163 : decode prog_15_method_69_code 163 = .ok (.if_icmp .ge 96, 3) := by decide +kernel
theorem px_d99_166 : decode prog_15_method_69_code 166 = .ok (.iconst 0, 1) := by decide +kernel
theorem px_d99_167 : decode prog_15_method_69_code 167 = .ok (.istore 6, 2) := by decide +kernel
theorem px_d99_169 : decode prog_15_method_69_code 169 = .ok (.iload 6, 2) := by decide +kernel
theorem px_d99_171 : decode prog_15_method_69_code 171 = .ok (.iload 4, 2) := by decide +kernel
theorem px_d99_173 : decode prog_15_method_69_code 173 = .ok (.if_icmp .ge 80, 3) := by decide +kernel
theorem px_d99_176 : decode prog_15_method_69_code 176 = .ok (.aload_n 0, 1) := by decide +kernel
theorem px_d99_177 : decode prog_15_method_69_code 177 = .ok (.getfield 212, 3) := by decide +kernel
theorem px_d99_180 : decode prog_15_method_69_code 180 = .ok (.iconst 2, 1) := by decide +kernel
theorem px_d99_181 : decode prog_15_method_69_code 181 = .ok (.iload 6, 2) := by decide +kernel
theorem px_d99_183 : decode prog_15_method_69_code 183 = .ok (.imul, 1) := by decide +kernel
theorem px_d99_184 : decode prog_15_method_69_code 184 = .ok (.iaload, 1) := by decide +kernel
theorem px_d99_185 : decode prog_15_method_69_code 185 = .ok (.istore 7, 2) := by decide +kernel
theorem px_d99_187 : decode prog_15_method_69_code 187 = .ok (.aload_n 0, 1) := by decide +kernel
theorem px_d99_188 : decode prog_15_method_69_code 188 = .ok (.getfield 212, 3) := by decide +kernel
theorem px_d99_191 : decode prog_15_method_69_code 191 = .ok (.iconst 2, 1) := by decide +kernel
theorem px_d99_192 : decode prog_15_method_69_code 192 = .ok (.iload 6, 2) := by decide +kernel
theorem px_d99_194 : decode prog_15_method_69_code 194 = .ok (.imul, 1) := by decide +kernel
theorem px_d99_195 : decode prog_15_method_69_code 195 = .ok (.iconst 1, 1) := by decide +kernel
theorem px_d99_196 : decode prog_15_method_69_code 196 = .ok (.iadd, 1) := by decide +kernel
theorem px_d99_197 : decode prog_15_method_69_code 197 = .ok (.iaload, 1) := by decide +kernel
theorem px_d99_198 : decode prog_15_method_69_code 198 = .ok (.istore 8, 2) := by decide +kernel
theorem px_d99_200 : decode prog_15_method_69_code 200 = .ok (.aload_n 0, 1) := by decide +kernel
theorem px_d99_201 : decode prog_15_method_69_code 201 = .ok (.iload 5, 2) := by decide +kernel
theorem px_d99_203 : decode prog_15_method_69_code 203 = .ok (.iload 6, 2) := by decide +kernel
theorem px_d99_205 : decode prog_15_method_69_code 205 = .ok (.iload 7, 2) := by decide +kernel
theorem px_d99_207 : decode prog_15_method_69_code 207 = .ok (.iload 8, 2) := by decide +kernel
theorem px_d99_209 : decode prog_15_method_69_code 209 = .ok (.if_icmp .eq 17, 3) := by decide +kernel
theorem px_d99_212 : decode prog_15_method_69_code 212 = .ok (.iload 7, 2) := by decide +kernel
theorem px_d99_214 : decode prog_15_method_69_code 214 = .ok (.iload 5, 2) := by decide +kernel
theorem px_d99_216 : decode prog_15_method_69_code 216 = .ok (.if_icmp .eq 14, 3) := by decide +kernel
theorem px_d99_219 : decode prog_15_method_69_code 219 = .ok (.iload 8, 2) := by decide +kernel
theorem px_d99_221 : decode prog_15_method_69_code 221 = .ok (.iload 5, 2) := by decide +kernel
theorem px_d99_223 : decode prog_15_method_69_code 223 = .ok (.if_icmp .eq 7, 3) := by decide +kernel
theorem px_d99_226 : decode prog_15_method_69_code 226 = .ok (.lconst 0, 1) := by decide +kernel
theorem px_d99_227 : decode prog_15_method_69_code 227 = .ok (.goto 17, 3) := by decide +kernel
theorem px_d99_230 : decode prog_15_method_69_code 230 = .ok (.iload 7, 2) := by decide +kernel
theorem px_d99_232 : decode prog_15_method_69_code 232 = .ok (.iload 5, 2) := by decide +kernel
theorem px_d99_234 : decode prog_15_method_69_code 234 = .ok (.if_icmp .ne 9, 3) := by decide +kernel
theorem px_d99_237 : decode prog_15_method_69_code 237 = .ok (.ldc2_w 408, 3) := by decide +kernel
theorem px_d99_240 : decode prog_15_method_69_code 240 = .ok (.goto 4, 3) := by decide +kernel
theorem px_d99_243 : decode prog_15_method_69_code 243 = .ok (.lconst 1, 1) := by decide +kernel
theorem px_d99_244 : decode prog_15_method_69_code 244 = .ok (.invokevirtual 244, 3) := by decide +kernel
theorem px_d99_247 : decode prog_15_method_69_code 247 = .ok (.iinc 6 1, 3) := by decide +kernel
theorem px_d99_250 : decode prog_15_method_69_code 250 = .ok (.goto (-81), 3) := by decide +kernel
theorem px_d99_253 : decode prog_15_method_69_code 253 = .ok (.iinc 5 1, 3) := by decide +kernel
theorem px_d99_256 : decode prog_15_method_69_code 256 = .ok (.goto (-96), 3) := by decide +kernel
theorem px_d99_259 : decode prog_15_method_69_code 259 = .ok (.aload_n 0, 1) := by decide +kernel
theorem px_d99_260 : decode prog_15_method_69_code 260 = .ok (.iload_n 2, 1) := by decide +kernel
theorem px_d99_261 : decode prog_15_method_69_code 261 = .ok (.putfield 44, 3) := by decide +kernel
theorem px_d99_264 : decode prog_15_method_69_code 264 = .ok (.aload_n 0, 1) := by decide +kernel
theorem px_d99_265 : decode prog_15_method_69_code 265 = .ok (.iload_n 1, 1) := by decide +kernel
theorem px_d99_266 : decode prog_15_method_69_code 266 = .ok (.invokevirtual 319, 3) := by decide +kernel
theorem px_d99_269 : decode prog_15_method_69_code 269 = .ok (.return_, 1) := by decide +kernel
theorem px_d100_0 : decode prog_15_method_70_code 0 = .ok (.aload_n 0, 1) := by decide +kernel
theorem px_d100_1 : decode prog_15_method_70_code 1 = .ok (.invokevirtual 398, 3) := by decide +kernel
theorem px_d100_4 : decode prog_15_method_70_code 4 = .ok (.istore_n 2, 1) := by decide +kernel
theorem px_d100_5 : decode prog_15_method_70_code 5 = .ok (.aload_n 0, 1) := by decide +kernel
theorem px_d100_6 : decode prog_15_method_70_code 6 = .ok (.invokevirtual 398, 3) := by decide +kernel
theorem px_d100_9 : decode prog_15_method_70_code 9 = .ok (.istore_n 3, 1) := by decide +kernel
theorem px_d100_10 : decode prog_15_method_70_code 10 = .ok (.aload_n 0, 1) := by decide +kernel
theorem px_d100_11 : decode prog_15_method_70_code 11 = .ok (.iload_n 3, 1) := by decide +kernel
theorem px_d100_12 : decode prog_15_method_70_code 12 = .ok (.ifCond .lt 22, 3) := by decide +kernel
theorem px_d100_15 : decode prog_15_method_70_code 15 = .ok (.iload_n 3, 1) := by decide +kernel
theorem px_d100_16 : decode prog_15_method_70_code 16 = .ok (.bipush 12, 2) := by decide +kernel
theorem px_d100_18 : decode prog_15_method_70_code 18 = .ok (.if_icmp .gt 16, 3) := by decide +kernel
theorem px_d100_21 : decode prog_15_method_70_code 21 = .ok (.iload_n 2, 1) := by decide +kernel
theorem px_d100_22 : decode prog_15_method_70_code 22 = .ok (.ifCond .lt 12, 3) := by decide +kernel
theorem px_d100_25 : decode prog_15_method_70_code 25 = .ok (.iload_n 2, 1) := by decide +kernel
theorem px_d100_26 : decode prog_15_method_70_code 26 = .ok (.iload_n 3, 1) := by decide +kernel
theorem px_d100_27 : decode prog_15_method_70_code 27 = .ok (.if_icmp .gt 7, 3) := by decide +kernel
theorem px_d100_30 : decode prog_15_method_70_code 30 = .ok (.iconst 1, 1) := by decide +kernel
theorem px_d100_31 : decode prog_15_method_70_code 31 = .ok (.goto 4, 3) := by decide +kernel
theorem px_d100_34 : decode prog_15_method_70_code 34 = .ok (.iconst 0, 1) := by decide +kernel
theorem px_d100_35 : decode prog_15_method_70_code 35 = .ok (.iconst 2, 1) := by decide +kernel
theorem px_d100_36 : decode prog_15_method_70_code 36 = .ok (.invokevirtual 404, 3) := by decide +kernel
theorem px_d100_39 : decode prog_15_method_70_code 39 = .ok (.ifCond .ne 4, 3) := by decide +kernel
theorem px_d100_42 : decode prog_15_method_70_code 42 = .ok (.return_, 1) := by decide +kernel
theorem px_d100_43 : decode prog_15_method_70_code 43 = .ok (.aload_n 0, 1) := by decide +kernel
theorem px_d100_44 : decode prog_15_method_70_code 44 = .ok (.iconst 0, 1) := by decide +kernel
theorem px_d100_45 : decode prog_15_method_70_code 45 = .ok (.iload_n 3, 1) := by decide +kernel
theorem px_d100_46 : decode prog_15_method_70_code 46 = .ok (.invokevirtual 310, 3) := by decide +kernel
theorem px_d100_49 : decode prog_15_method_70_code 49 = .ok (.iconst 0, 1) := by decide +kernel
theorem px_d100_50 : decode prog_15_method_70_code 50 = .ok (.istore 4, 2) := by decide +kernel
theorem px_d100_52 : decode prog_15_method_70_code 52 = .ok (.iload 4, 2) := by decide +kernel
theorem px_d100_54 : decode prog_15_method_70_code 54 = .ok (.iload_n 3, 1) := by decide +kernel
theorem px_d100_55 : decode prog_15_method_70_code 55 = .ok (.if_icmp .ge 45, 3) := by decide +kernel
theorem px_d100_58 : decode prog_15_method_70_code 58 = .ok (.lconst 1, 1) := by decide +kernel
theorem px_d100_59 : decode prog_15_method_70_code 59 = .ok (.lstore 5, 2) := by decide +kernel
theorem px_d100_61 : decode prog_15_method_70_code 61 = .ok (.iconst 0, 1) := by decide +kernel
theorem px_d100_62 : decode prog_15_method_70_code 62 = .ok (.istore 7, 2) := by decide +kernel
theorem px_d100_64 : decode prog_15_method_70_code 64 = .ok (.iload 7, 2) := by decide +kernel
theorem px_d100_66 : decode prog_15_method_70_code 66 = .ok (.iload_n 2, 1) := by decide +kernel
theorem px_d100_67 : decode prog_15_method_70_code 67 = .ok (.if_icmp .ge 27, 3) := by decide +kernel
theorem px_d100_70 : decode prog_15_method_70_code 70 = .ok (.aload_n 0, 1) := by decide +kernel
theorem px_d100_71 : decode prog_15_method_70_code 71 = .ok (.iload 7, 2) := by decide +kernel
theorem px_d100_73 : decode prog_15_method_70_code 73 = .ok (.iload 4, 2) := by decide +kernel
theorem px_d100_75 : decode prog_15_method_70_code 75 = .ok (.lload 5, 2) := by decide +kernel
theorem px_d100_77 : decode prog_15_method_70_code 77 = .ok (.invokevirtual 244, 3) := by decide +kernel
theorem px_d100_80 : decode prog_15_method_70_code 80 = .ok (.lload 5, 2) := by decide +kernel
theorem px_d100_82 : decode prog_15_method_70_code 82 = .ok (.iload 4, 2) := by decide +kernel
theorem px_d100_84 : decode prog_15_method_70_code 84 = .ok (.i2l, 1) := by decide +kernel
theorem px_d100_85 : decode prog_15_method_70_code 85 = .ok (.lmul, 1) := by decide +kernel
theorem px_d100_86 : decode prog_15_method_70_code 86 = .ok (.lstore 5, 2) := by decide +kernel
theorem px_d100_88 : decode prog_15_method_70_code 88 = .ok (.iinc 7 1, 3) := by decide +kernel
theorem px_d100_91 : decode prog_15_method_70_code 91 = .ok (.goto (-27), 3) := by decide +kernel
theorem px_d100_94 : decode prog_15_method_70_code 94 = .ok (.iinc 4 1, 3) := by decide +kernel
theorem px_d100_97 : decode prog_15_method_70_code 97 = .ok (.goto (-45), 3) := by decide +kernel
theorem px_d100_100 : decode prog_15_method_70_code 100 = .ok (.aload_n 0, 1) := by decide +kernel
theorem px_d100_101 : decode prog_15_method_70_code 101 = .ok (.iload_n 2, 1) := by decide +kernel
theorem px_d100_102 : decode prog_15_method_70_code 102 = .ok (.putfield 44, 3) := by decide +kernel
theorem px_d100_105 : decode prog_15_method_70_code 105 = .ok (.aload_n 0, 1) := by decide +kernel
theorem px_d100_106 : decode prog_15_method_70_code 106 = .ok (.iload_n 1, 1) := by decide +kernel
theorem px_d100_107 : decode prog_15_method_70_code 107 = .ok (.invokevirtual 319, 3) := by decide +kernel
theorem px_d100_110 : decode prog_15_method_70_code 110 = .ok (.return_, 1) := by decide +kernel
theorem px_d107_0 : decode prog_15_method_78_code 0 = .ok (.aload_n 1, 1) := by decide +kernel
theorem px_d107_1 : decode prog_15_method_78_code 1 = .ok (.getfield 20, 3) := by decide +kernel
theorem px_d107_4 : decode prog_15_method_78_code 4 = .ok (.ifCond .ne 10, 3) := by decide +kernel
theorem px_d107_7 : decode prog_15_method_78_code 7 = .ok (.aload_n 0, 1) := by decide +kernel
theorem px_d107_8 : decode prog_15_method_78_code 8 = .ok (.bipush 48, 2) := by decide +kernel
theorem px_d107_10 : decode prog_15_method_78_code 10 = .ok (.invokevirtual 446, 3) := by decide +kernel
theorem px_d107_13 : decode prog_15_method_78_code 13 = .ok (.return_, 1) := by decide +kernel
theorem px_d107_14 : decode prog_15_method_78_code 14 = .ok (.aload_n 1, 1) := by decide +kernel
theorem px_d107_15 : decode prog_15_method_78_code 15 = .ok (.getfield 13, 3) := by decide +kernel
theorem px_d107_18 : decode prog_15_method_78_code 18 = .ok (.ifCond .eq 9, 3) := by decide +kernel
theorem px_d107_21 : decode prog_15_method_78_code 21 = .ok (.aload_n 0, 1) := by decide +kernel
theorem px_d107_22 : decode prog_15_method_78_code 22 = .ok (.bipush 45, 2) := by decide +kernel
theorem px_d107_24 : decode prog_15_method_78_code 24 = .ok (.invokevirtual 446, 3) := by decide +kernel
theorem px_d107_27 : decode prog_15_method_78_code 27 = .ok (.aload_n 0, 1) := by decide +kernel
theorem px_d107_28 : decode prog_15_method_78_code 28 = .ok (.getfield 1, 3) := by decide +kernel
theorem px_d107_31 : decode prog_15_method_78_code 31 = .ok (.aload_n 1, 1) := by decide +kernel
theorem px_d107_32 : decode prog_15_method_78_code 32 = .ok (.invokevirtual 7, 3) := by decide +kernel
theorem px_d107_35 : decode prog_15_method_78_code 35 = .ok (.aload_n 0, 1) := by decide +kernel
theorem px_d107_36 : decode prog_15_method_78_code 36 = .ok (.getfield 1, 3) := by decide +kernel
theorem px_d107_39 : decode prog_15_method_78_code 39 = .ok (.iconst 0, 1) := by decide +kernel
theorem px_d107_40 : decode prog_15_method_78_code 40 = .ok (.putfield 13, 3) := by decide +kernel
theorem px_d107_43 : decode prog_15_method_78_code 43 = .ok (.iconst 0, 1) := by decide +kernel
theorem px_d107_44 : decode prog_15_method_78_code 44 = .ok (.istore_n 2, 1) := by decide +kernel
theorem px_d107_45 : decode prog_15_method_78_code 45 = .ok (.aload_n 0, 1) := by decide +kernel
theorem px_d107_46 : decode prog_15_method_78_code 46 = .ok (.getfield 1, 3) := by decide +kernel
theorem px_d107_49 : decode prog_15_method_78_code 49 = .ok (.getfield 20, 3) := by decide +kernel
theorem px_d107_52 : decode prog_15_method_78_code 52 = .ok (.ifCond .le 89, 3) := by decide +kernel
theorem px_d107_55 : decode prog_15_method_78_code 55 = .ok (.iconst 0, 1) := by decide +kernel
theorem px_d107_56 : decode prog_15_method_78_code 56 = .ok (.istore_n 3, 1) := by decide +kernel
theorem px_d107_57 : decode prog_15_method_78_code 57 = .ok (.aload_n 0, 1) := by decide +kernel
theorem px_d107_58 : decode prog_15_method_78_code 58 = .ok (.getfield 1, 3) := by decide +kernel
theorem px_d107_61 : decode prog_15_method_78_code 61 = .ok (.getfield 20, 3) := by decide +kernel
theorem px_d107_64 : decode prog_15_method_78_code 64 = .ok (.iconst 1, 1) := by decide +kernel
theorem px_d107_65 : decode prog_15_method_78_code 65 = .ok (.isub, 1) := by decide +kernel
theorem px_d107_66 : decode prog_15_method_78_code 66 = .ok (.istore 4, 2) := by decide +kernel
theorem px_d107_68 : decode prog_15_method_78_code 68 = .ok (.iload 4, 2) := by decide +kernel
theorem px_d107_70 : decode prog_15_method_78_code 70 = .ok (.ifCond .lt 47, 3) := by decide +kernel
theorem px_d107_73 : decode prog_15_method_78_code 73 = .ok (.ldc 218, 2) := by decide +kernel
theorem px_d107_75 : decode prog_15_method_78_code 75 = .ok (.iload_n 3, 1) := by decide +kernel
theorem px_d107_76 : decode prog_15_method_78_code 76 = .ok (.imul, 1) := by decide +kernel
theorem px_d107_77 : decode prog_15_method_78_code 77 = .ok (.aload_n 0, 1) := by decide +kernel
theorem px_d107_78 : decode prog_15_method_78_code 78 = .ok (.getfield 1, 3) := by decide +kernel
theorem px_d107_81 : decode prog_15_method_78_code 81 = .ok (.getfield 231, 3) := by decide +kernel
theorem px_d107_84 : decode prog_15_method_78_code 84 = .ok (.iload 4, 2) := by decide +kernel
theorem px_d107_86 : decode prog_15_method_78_code 86 = .ok (.iaload, 1) := by decide +kernel
theorem px_d107_87 : decode prog_15_method_78_code 87 = .ok (.iadd, 1) := by decide +kernel
theorem px_d107_88 : decode prog_15_method_78_code 88 = .ok (.istore 5, 2) := by decide +kernel
theorem px_d107_90 : decode prog_15_method_78_code 90 = .ok (.aload_n 0, 1) := by decide +kernel
theorem px_d107_91 : decode prog_15_method_78_code 91 = .ok (.getfield 1, 3) := by decide +kernel
theorem px_d107_94 : decode prog_15_method_78_code 94 = .ok (.getfield 231, 3) := by decide +kernel
theorem px_d107_97 : decode prog_15_method_78_code 97 = .ok (.iload 4, 2) := by decide +kernel
theorem px_d107_99 : decode prog_15_method_78_code 99 = .ok (.iload 5, 2) := by decide +kernel
theorem px_d107_101 : decode prog_15_method_78_code 101 = .ok (.bipush 10, 2) := by decide +kernel
theorem px_d107_103 : decode prog_15_method_78_code 103 = .ok (.idiv, 1) := by decide +kernel
theorem px_d107_104 : decode prog_15_method_78_code 104 = .ok (.iastore, 1) := by decide +kernel
theorem px_d107_105 : decode prog_15_method_78_code 105 = .ok (.iload 5, 2) := by decide +kernel
theorem px_d107_107 : decode prog_15_method_78_code 107 = .ok (.bipush 10, 2) := by decide +kernel
theorem px_d107_109 : decode prog_15_method_78_code 109 = .ok (.irem, 1) := by decide +kernel
theorem px_d107_110 : decode prog_15_method_78_code 110 = .ok (.istore_n 3, 1) := by decide +kernel
theorem px_d107_111 : decode prog_15_method_78_code 111 = .ok (.iinc 4 (-1), 3) := by decide +kernel
theorem px_d107_114 : decode prog_15_method_78_code 114 = .ok (.goto (-46), 3) := by decide +kernel
theorem px_d107_117 : decode prog_15_method_78_code 117 = .ok (.aload_n 0, 1) := by decide +kernel
theorem px_d107_118 : decode prog_15_method_78_code 118 = .ok (.getfield 1, 3) := by decide +kernel
theorem px_d107_121 : decode prog_15_method_78_code 121 = .ok (.invokevirtual 457, 3) := by decide +kernel
theorem px_d107_124 : decode prog_15_method_78_code 124 = .ok (.aload_n 0, 1) := by decide +kernel
theorem px_d107_125 : decode prog_15_method_78_code 125 = .ok (.getfield 222, 3) := by decide +kernel
theorem px_d107_128 : decode prog_15_method_78_code 128 = .ok (.iload_n 2, 1) := by decide +kernel
theorem px_d107_129 : decode prog_15_method_78_code 129 = .ok (.bipush 48, 2) := by decide +kernel
theorem px_d107_131 : decode prog_15_method_78_code 131 = .ok (.iload_n 3, 1) := by decide +kernel
theorem px_d107_132 : decode prog_15_method_78_code 132 = .ok (.iadd, 1) := by decide +kernel
theorem px_d107_133 : decode prog_15_method_78_code 133 = .ok (.i2b, 1) := by decide +kernel
theorem px_d107_134 : decode prog_15_method_78_code 134 = .ok (.bastore, 1) := by decide +kernel
theorem px_d107_135 : decode prog_15_method_78_code 135 = .ok (.iinc 2 1, 3) := by decide +kernel
theorem px_d107_138 : decode prog_15_method_78_code 138 = .ok (.goto (-93), 3) := by decide +kernel
theorem px_d107_141 : decode prog_15_method_78_code 141 = .ok (.iload_n 2, 1) := by decide +kernel
theorem px_d107_142 : decode prog_15_method_78_code 142 = .ok (.ifCond .le 19, 3) := by decide +kernel
theorem px_d107_145 : decode prog_15_method_78_code 145 = .ok (.iinc 2 (-1), 3) := by decide +kernel
theorem px_d107_148 : decode prog_15_method_78_code 148 = .ok (.aload_n 0, 1) := by decide +kernel
theorem px_d107_149 : decode prog_15_method_78_code 149 = .ok (.aload_n 0, 1) := by decide +kernel
theorem px_d107_150 : decode prog_15_method_78_code 150 = .ok (.getfield 222, 3) := by decide +kernel
theorem px_d107_153 : decode prog_15_method_78_code 153 = .ok (.iload_n 2, 1) := by decide +kernel
theorem px_d107_154 : decode prog_15_method_78_code 154 = .ok (.baload, 1) := by decide +kernel
theorem px_d107_155 : decode prog_15_method_78_code 155 = .ok (.invokevirtual 446, 3) := by decide +kernel
theorem px_d107_158 : decode prog_15_method_78_code 158 = .ok (.goto (-17), 3) := by decide +kernel
theorem px_d107_161 : decode prog_15_method_78_code 161 = .ok (.return_, 1) := by decide +kernel
theorem px_d108_0 : decode prog_15_method_79_code 0 = .ok (.iconst 0, 1) := by decide +kernel
theorem px_d108_1 : decode prog_15_method_79_code 1 = .ok (.istore_n 2, 1) := by decide +kernel
theorem px_d108_2 : decode prog_15_method_79_code 2 = .ok (.iload_n 2, 1) := by decide +kernel
theorem px_d108_3 : decode prog_15_method_79_code 3 = .ok (.aload_n 0, 1) := by decide +kernel
theorem px_d108_4 : decode prog_15_method_79_code 4 = .ok (.getfield 163, 3) := by decide +kernel
theorem px_d108_7 : decode prog_15_method_79_code 7 = .ok (.iload_n 1, 1) := by decide +kernel
theorem px_d108_8 : decode prog_15_method_79_code 8 = .ok (.iaload, 1) := by decide +kernel
theorem px_d108_9 : decode prog_15_method_79_code 9 = .ok (.if_icmp .ge 221, 3) := by decide +kernel
theorem px_d108_12 : decode prog_15_method_79_code 12 = .ok (.aload_n 0, 1) := by decide +kernel
theorem px_d108_13 : decode prog_15_method_79_code 13 = .ok (.iload_n 1, 1) := by decide +kernel
theorem px_d108_14 : decode prog_15_method_79_code 14 = .ok (.iload_n 2, 1) := by decide +kernel
theorem px_d108_15 : decode prog_15_method_79_code 15 = .ok (.invokevirtual 313, 3) := by decide +kernel
theorem px_d108_18 : decode prog_15_method_79_code 18 = .ok (.istore_n 3, 1) := by decide +kernel
theorem px_d108_19 : decode prog_15_method_79_code 19 = .ok (.iconst 0, 1) := by decide +kernel
theorem px_d108_20 : decode prog_15_method_79_code 20 = .ok (.istore 4, 2) := by decide +kernel
theorem px_d108_22 : decode prog_15_method_79_code 22 = .ok (.iload 4, 2) := by decide +kernel
theorem px_d108_24 : decode prog_15_method_79_code 24 = .ok (.aload_n 0, 1) := by decide +kernel
theorem px_d108_25 : decode prog_15_method_79_code 25 = .ok (.getfield 157, 3) := by decide +kernel
theorem px_d108_28 : decode prog_15_method_79_code 28 = .ok (.iload_n 1, 1) := by decide +kernel
theorem px_d108_29 : decode prog_15_method_79_code 29 = .ok (.iaload, 1) := by decide +kernel
theorem px_d108_30 : decode prog_15_method_79_code 30 = .ok (.if_icmp .ge 188, 3) := by decide +kernel
theorem px_d108_33 : decode prog_15_method_79_code 33 = .ok (.iload 4, 2) := by decide +kernel
theorem px_d108_35 : decode prog_15_method_79_code 35 = .ok (.ifCond .le 9, 3) := by decide +kernel
theorem px_d108_38 : decode prog_15_method_79_code 38 = .ok (.aload_n 0, 1) := by decide +kernel
theorem px_d108_39 : decode prog_15_method_79_code 39 = .ok (.bipush 32, 2) := by decide +kernel
theorem px_d108_41 : decode prog_15_method_79_code 41 = .ok (.invokevirtual 446, 3) := by decide +kernel
theorem px_d108_44 : decode prog_15_method_79_code 44 = .ok (.sipush 144, 3) := by decide +kernel
theorem px_d108_47 : decode prog_15_method_79_code 47 = .ok (.iload_n 1, 1) := by decide +kernel
theorem px_d108_48 : decode prog_15_method_79_code 48 = .ok (.imul, 1) := by decide +kernel
theorem px_d108_49 : decode prog_15_method_79_code 49 = .ok (.bipush 12, 2) := by decide +kernel
theorem px_d108_51 : decode prog_15_method_79_code 51 = .ok (.iload_n 2, 1) := by decide +kernel
theorem px_d108_52 : decode prog_15_method_79_code 52 = .ok (.imul, 1) := by decide +kernel
theorem px_d108_53 : decode prog_15_method_79_code 53 = .ok (.iadd, 1) := by decide +kernel
theorem px_d108_54 : decode prog_15_method_79_code 54 = .ok (.iload 4, 2) := by decide +kernel
theorem px_d108_56 : decode prog_15_method_79_code 56 = .ok (.iadd, 1) := by decide +kernel
theorem px_d108_57 : decode prog_15_method_79_code 57 = .ok (.istore 5, 2) := by decide +kernel
theorem px_d108_59 : decode prog_15_method_79_code 59 = .ok (.aload_n 0, 1) := by decide +kernel
theorem px_d108_60 : decode prog_15_method_79_code 60 = .ok (.getfield 160, 3) := by decide +kernel
theorem px_d108_63 : decode prog_15_method_79_code 63 = .ok (.iload_n 1, 1) := by decide +kernel
theorem px_d108_64 : decode prog_15_method_79_code 64 = .ok (.iaload, 1) := by decide +kernel
theorem px_d108_65 : decode prog_15_method_79_code 65 = .ok (.ifCond .le 18, 3) := by decide +kernel
theorem px_d108_68 : decode prog_15_method_79_code 68 = .ok (.aload_n 0, 1) := by decide +kernel
theorem px_d108_69 : decode prog_15_method_79_code 69 = .ok (.aload_n 0, 1) := by decide +kernel
theorem px_d108_70 : decode prog_15_method_79_code 70 = .ok (.getfield 170, 3) := by decide +kernel
theorem px_d108_73 : decode prog_15_method_79_code 73 = .ok (.iload 5, 2) := by decide +kernel
theorem px_d108_75 : decode prog_15_method_79_code 75 = .ok (.iaload, 1) := by decide +kernel
theorem px_d108_76 : decode prog_15_method_79_code 76 = .ok (.i2l, 1) := by decide +kernel
theorem px_d108_77 : decode prog_15_method_79_code 77 = .ok (.invokevirtual 454, 3) := by decide +kernel
theorem px_d108_80 : decode prog_15_method_79_code 80 = .ok (.goto 132, 3) := by decide +kernel
theorem px_d108_83 : decode prog_15_method_79_code 83 = .ok (.aload_n 0, 1) := by decide +kernel
theorem px_d108_84 : decode prog_15_method_79_code 84 = .ok (.aload_n 0, 1) := by decide +kernel
theorem px_d108_85 : decode prog_15_method_79_code 85 = .ok (.getfield 65, 3) := by decide +kernel
theorem px_d108_88 : decode prog_15_method_79_code 88 = .ok (.bipush 24, 2) := by decide +kernel
theorem px_d108_90 : decode prog_15_method_79_code 90 = .ok (.iload 5, 2) := by decide +kernel
theorem px_d108_92 : decode prog_15_method_79_code 92 = .ok (.imul, 1) := by decide +kernel
theorem px_d108_93 : decode prog_15_method_79_code 93 = .ok (.invokevirtual 252, 3) := by decide +kernel
theorem px_d108_96 : decode prog_15_method_79_code 96 = .ok (.aload_n 0, 1) := by decide +kernel
theorem px_d108_97 : decode prog_15_method_79_code 97 = .ok (.aload_n 0, 1) := by decide +kernel
theorem px_d108_98 : decode prog_15_method_79_code 98 = .ok (.getfield 68, 3) := by decide +kernel
theorem px_d108_101 : decode prog_15_method_79_code 101 = .ok (.bipush 24, 2) := by decide +kernel
theorem px_d108_103 : decode prog_15_method_79_code 103 = .ok (.sipush 144, 3) := by decide +kernel
theorem px_d108_106 : decode prog_15_method_79_code 106 = .ok (.iload_n 1, 1) := by decide +kernel
theorem px_d108_107 : decode prog_15_method_79_code 107 = .ok (.imul, 1) := by decide +kernel
theorem px_d108_108 : decode prog_15_method_79_code 108 = .ok (.bipush 12, 2) := by decide +kernel
theorem px_d108_110 : decode prog_15_method_79_code 110 = .ok (.iload_n 2, 1) := by decide +kernel
theorem px_d108_111 : decode prog_15_method_79_code 111 = .ok (.imul, 1) := by decide +kernel
theorem px_d108_112 : decode prog_15_method_79_code 112 = .ok (.iadd, 1) := by decide +kernel
theorem px_d108_113 : decode prog_15_method_79_code 113 = .ok (.iload_n 3, 1) := by decide +kernel
theorem px_d108_114 : decode prog_15_method_79_code 114 = .ok (.iadd, 1) := by decide +kernel
theorem px_d108_115 : decode prog_15_method_79_code 115 = .ok (.imul, 1) := by decide +kernel
theorem px_d108_116 : decode prog_15_method_79_code 116 = .ok (.invokevirtual 252, 3) := by decide +kernel
theorem px_d108_119 : decode prog_15_method_79_code 119 = .ok (.aload_n 0, 1) := by decide +kernel
theorem px_d108_120 : decode prog_15_method_79_code 120 = .ok (.aload_n 0, 1) := by decide +kernel
theorem px_d108_121 : decode prog_15_method_79_code 121 = .ok (.getfield 65, 3) := by decide +kernel
theorem px_d108_124 : decode prog_15_method_79_code 124 = .ok (.aload_n 0, 1) := by decide +kernel
theorem px_d108_125 : decode prog_15_method_79_code 125 = .ok (.getfield 68, 3) := by decide +kernel
theorem px_d108_128 : decode prog_15_method_79_code 128 = .ok (.invokevirtual 89, 3) := by decide +kernel
theorem px_d108_131 : decode prog_15_method_79_code 131 = .ok (.aload_n 0, 1) := by decide +kernel
theorem px_d108_132 : decode prog_15_method_79_code 132 = .ok (.getfield 82, 3) := by decide +kernel
theorem px_d108_135 : decode prog_15_method_79_code 135 = .ok (.aload_n 0, 1) := by decide +kernel
theorem px_d108_136 : decode prog_15_method_79_code 136 = .ok (.getfield 1, 3) := by decide +kernel
theorem px_d108_139 : decode prog_15_method_79_code 139 = .ok (.invokevirtual 7, 3) := by decide +kernel
theorem px_d108_142 : decode prog_15_method_79_code 142 = .ok (.aload_n 0, 1) := by decide +kernel
theorem px_d108_143 : decode prog_15_method_79_code 143 = .ok (.getfield 58, 3) := by decide +kernel
theorem px_d108_146 : decode prog_15_method_79_code 146 = .ok (.aload_n 0, 1) := by decide +kernel
theorem px_d108_147 : decode prog_15_method_79_code 147 = .ok (.getfield 65, 3) := by decide +kernel
theorem px_d108_150 : decode prog_15_method_79_code 150 = .ok (.aload_n 0, 1) := by decide +kernel
theorem px_d108_151 : decode prog_15_method_79_code 151 = .ok (.getfield 82, 3) := by decide +kernel
theorem px_d108_154 : decode prog_15_method_79_code 154 = .ok (.aload_n 0, 1) := by decide +kernel
theorem px_d108_155 : decode prog_15_method_79_code 155 = .ok (.getfield 27, 3) := by decide +kernel
theorem px_d108_158 : decode prog_15_method_79_code 158 = .ok (.invokevirtual 30, 3) := by decide +kernel
theorem px_d108_161 : decode prog_15_method_79_code 161 = .ok (.aload_n 0, 1) := by decide +kernel
theorem px_d108_162 : decode prog_15_method_79_code 162 = .ok (.aload_n 0, 1) := by decide +kernel
theorem px_d108_163 : decode prog_15_method_79_code 163 = .ok (.getfield 58, 3) := by decide +kernel
theorem px_d108_166 : decode prog_15_method_79_code 166 = .ok (.invokevirtual 460, 3) := by decide +kernel
theorem px_d108_169 : decode prog_15_method_79_code 169 = .ok (.aload_n 0, 1) := by decide +kernel
theorem px_d108_170 : decode prog_15_method_79_code 170 = .ok (.getfield 58, 3) := by decide +kernel
theorem px_d108_173 : decode prog_15_method_79_code 173 = .ok (.aload_n 0, 1) := by decide +kernel
theorem px_d108_174 : decode prog_15_method_79_code 174 = .ok (.getfield 68, 3) := by decide +kernel
theorem px_d108_177 : decode prog_15_method_79_code 177 = .ok (.aload_n 0, 1) := by decide +kernel
theorem px_d108_178 : decode prog_15_method_79_code 178 = .ok (.getfield 82, 3) := by decide +kernel
theorem px_d108_181 : decode prog_15_method_79_code 181 = .ok (.aload_n 0, 1) := by decide +kernel
theorem px_d108_182 : decode prog_15_method_79_code 182 = .ok (.getfield 27, 3) := by decide +kernel
theorem px_d108_185 : decode prog_15_method_79_code 185 = .ok (.invokevirtual 30, 3) := by decide +kernel
theorem px_d108_188 : decode prog_15_method_79_code 188 = .ok (.aload_n 0, 1) := by decide +kernel
theorem px_d108_189 : decode prog_15_method_79_code 189 = .ok (.getfield 58, 3) := by decide +kernel
theorem px_d108_192 : decode prog_15_method_79_code 192 = .ok (.invokevirtual 92, 3) := by decide +kernel
theorem px_d108_195 : decode prog_15_method_79_code 195 = .ok (.ifCond .ne 17, 3) := by decide +kernel
theorem px_d108_198 : decode prog_15_method_79_code 198 = .ok (.aload_n 0, 1) := by decide +kernel
theorem px_d108_199 : decode prog_15_method_79_code 199 = .ok (.bipush 47, 2) := by decide +kernel
theorem px_d108_201 : decode prog_15_method_79_code 201 = .ok (.invokevirtual 446, 3) := by decide +kernel
theorem px_d108_204 : decode prog_15_method_79_code 204 = .ok (.aload_n 0, 1) := by decide +kernel
theorem px_d108_205 : decode prog_15_method_79_code 205 = .ok (.aload_n 0, 1) := by decide +kernel
theorem px_d108_206 : decode prog_15_method_79_code 206 = .ok (.getfield 58, 3) := by decide +kernel
theorem px_d108_209 : decode prog_15_method_79_code 209 = .ok (.invokevirtual 460, 3) := by decide +kernel
theorem px_d108_212 : decode prog_15_method_79_code 212 = .ok (.iinc 4 1, 3) := by decide +kernel
theorem px_d108_215 : decode prog_15_method_79_code 215 = .ok (.goto (-193), 3) := by decide +kernel
theorem px_d108_218 : decode prog_15_method_79_code 218 = .ok (.aload_n 0, 1) := by decide +kernel
theorem px_d108_219 : decode prog_15_method_79_code 219 = .ok (.bipush 10, 2) := by decide +kernel
theorem px_d108_221 : decode prog_15_method_79_code 221 = .ok (.invokevirtual 446, 3) := by decide +kernel
theorem px_d108_224 : decode prog_15_method_79_code 224 = .ok (.iinc 2 1, 3) := by decide +kernel
theorem px_d108_227 : decode prog_15_method_79_code 227 = .ok (.goto (-225), 3) := by decide +kernel
theorem px_d108_230 : decode prog_15_method_79_code 230 = .ok (.return_, 1) := by decide +kernel
