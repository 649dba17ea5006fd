theorem px_d23_0 : decode prog_15_method_51_code 0 = .ok (.iload_n 0, 1) := by decide +kernel
theorem px_d23_1 : decode prog_15_method_51_code 1 = .ok (.bipush 97, 2) := by decide +kernel
theorem px_d23_3 : decode prog_15_method_51_code 3 = .ok (.if_icmp .lt 9, 3) := by decide +kernel
theorem px_d23_6 : decode prog_15_method_51_code 6 = .ok (.iload_n 0, 1) := by decide +kernel
theorem px_d23_7 : decode prog_15_method_51_code 7 = .ok (.bipush 122, 2) := by decide +kernel
theorem px_d23_9 : decode prog_15_method_51_code 9 = .ok (.if_icmp .le 15, 3) := by decide +kernel
theorem px_d23_12 : decode prog_15_method_51_code 12 = .ok (.iload_n 0, 1) := by decide +kernel
theorem px_d23_13 : decode prog_15_method_51_code 13 = .ok (.bipush 65, 2) := by decide +kernel
theorem px_d23_15 : decode prog_15_method_51_code 15 = .ok (.if_icmp .lt 13, 3) := by decide +kernel
theorem px_d23_18 : decode prog_15_method_51_code 18 = .ok (.iload_n 0, 1) := by decide +kernel
theorem px_d23_19 : decode prog_15_method_51_code 19 = .ok (.bipush 90, 2) := by decide +kernel
theorem px_d23_21 : decode prog_15_method_51_code 21 = .ok (.if_icmp .gt 7, 3) := by decide +kernel
theorem px_d23_24 : decode prog_15_method_51_code 24 = .ok (.iconst 1, 1) := by decide +kernel
theorem px_d23_25 : decode prog_15_method_51_code 25 = .ok (.goto 4, 3) := by decide +kernel
theorem px_d23_28 : decode prog_15_method_51_code 28 = .ok (.iconst 0, 1) := by decide +kernel
theorem px_d23_29 : decode prog_15_method_51_code 29 = .ok (.ireturn, 1) := by decide +kernel
theorem px_d24_0 : decode prog_15_method_52_code 0 = .ok (.iload_n 0, 1) := by decide +kernel
theorem px_d24_1 : decode prog_15_method_52_code 1 = .ok (.bipush 48, 2) := by decide +kernel
theorem px_d24_3 : decode prog_15_method_52_code 3 = .ok (.if_icmp .lt 13, 3) := by decide +kernel
theorem px_d24_6 : decode prog_15_method_52_code 6 = .ok (.iload_n 0, 1) := by decide +kernel
theorem px_d24_7 : decode prog_15_method_52_code 7 = .ok (.bipush 57, 2) := by decide +kernel
theorem px_d24_9 : decode prog_15_method_52_code 9 = .ok (.if_icmp .gt 7, 3) := by decide +kernel
theorem px_d24_12 : decode prog_15_method_52_code 12 = .ok (.iconst 1, 1) := by decide +kernel
theorem px_d24_13 : decode prog_15_method_52_code 13 = .ok (.goto 4, 3) := by decide +kernel
theorem px_d24_16 : decode prog_15_method_52_code 16 = .ok (.iconst 0, 1) := by decide +kernel
theorem px_d24_17 : decode prog_15_method_52_code 17 = .ok (.ireturn, 1) := by decide +kernel
theorem px_d25_0 : decode prog_15_method_53_code 0 = .ok (.aload_n 0, 1) := by decide +kernel
theorem px_d25_1 : decode prog_15_method_53_code 1 = .ok (.getfield 329, 3) := by decide +kernel
theorem px_d25_4 : decode prog_15_method_53_code 4 = .ok (.istore_n 1, 1) := by decide +kernel
theorem px_d25_5 : decode prog_15_method_53_code 5 = .ok (.aload_n 0, 1) := by decide +kernel
theorem px_d25_6 : decode prog_15_method_53_code 6 = .ok (.iload_n 1, 1) := by decide +kernel
theorem px_d25_7 : decode prog_15_method_53_code 7 = .ok (.invokevirtual 332, 3) := by decide +kernel
theorem px_d25_10 : decode prog_15_method_53_code 10 = .ok (.istore_n 2, 1) := by decide +kernel
theorem px_d25_11 : decode prog_15_method_53_code 11 = .ok (.iload_n 2, 1) := by decide +kernel
theorem px_d25_12 : decode prog_15_method_53_code 12 = .ok (.bipush 32, 2) := by decide +kernel
theorem px_d25_14 : decode prog_15_method_53_code 14 = .ok (.if_icmp .eq 27, 3) := by decide +kernel
theorem px_d25_17 : decode prog_15_method_53_code 17 = .ok (.iload_n 2, 1) := by decide +kernel
theorem px_d25_18 : decode prog_15_method_53_code 18 = .ok (.bipush 10, 2) := by decide +kernel
theorem px_d25_20 : decode prog_15_method_53_code 20 = .ok (.if_icmp .eq 21, 3) := by decide +kernel
theorem px_d25_23 : decode prog_15_method_53_code 23 = .ok (.iload_n 2, 1) := by decide +kernel
theorem px_d25_24 : decode prog_15_method_53_code 24 = .ok (.bipush 13, 2) := by decide +kernel
theorem px_d25_26 : decode prog_15_method_53_code 26 = .ok (.if_icmp .eq 15, 3) := by decide +kernel
theorem px_d25_29 : decode prog_15_method_53_code 29 = .ok (.iload_n 2, 1) := by decide +kernel
theorem px_d25_30 : decode prog_15_method_53_code 30 = .ok (.bipush 9, 2) := by decide +kernel
theorem px_d25_32 : decode prog_15_method_53_code 32 = .ok (.if_icmp .eq 9, 3) := by decide +kernel
theorem px_d25_35 : decode prog_15_method_53_code 35 = .ok (.iload_n 2, 1) := by decide +kernel
theorem px_d25_36 : decode prog_15_method_53_code 36 = .ok (.bipush 35, 2) := by decide +kernel
theorem px_d25_38 : decode prog_15_method_53_code 38 = .ok (.if_icmp .ne 46, 3) := by decide +kernel
theorem px_d25_41 : decode prog_15_method_53_code 41 = .ok (.iload_n 2, 1) := by decide +kernel
theorem px_d25_42 : decode prog_15_method_53_code 42 = .ok (.bipush 35, 2) := by decide +kernel
theorem px_d25_44 : decode prog_15_method_53_code 44 = .ok (.if_icmp .ne 28, 3) := by decide +kernel
theorem px_d25_47 : decode prog_15_method_53_code 47 = .ok (.iload_n 1, 1) := by decide +kernel
theorem px_d25_48 : decode prog_15_method_53_code 48 = .ok (.aload_n 0, 1) := by decide +kernel
theorem px_d25_49 : decode prog_15_method_53_code 49 = .ok (.getfield 326, 3) := by decide +kernel
theorem px_d25_52 : decode prog_15_method_53_code 52 = .ok (.if_icmp .ge 23, 3) := by decide +kernel
theorem px_d25_55 : decode prog_15_method_53_code 55 = .ok (.aload_n 0, 1) := by decide +kernel
theorem px_d25_56 : decode prog_15_method_53_code 56 = .ok (.getfield 206, 3) := by decide +kernel
theorem px_d25_59 : decode prog_15_method_53_code 59 = .ok (.iload_n 1, 1) := by decide +kernel
theorem px_d25_60 : decode prog_15_method_53_code 60 = .ok (.baload, 1) := by decide +kernel
theorem px_d25_61 : decode prog_15_method_53_code 61 = .ok (.bipush 10, 2) := by decide +kernel
theorem px_d25_63 : decode prog_15_method_53_code 63 = .ok (.if_icmp .eq 12, 3) := by decide +kernel
theorem px_d25_66 : decode prog_15_method_53_code 66 = .ok (.iinc 1 1, 3) := by decide +kernel
theorem px_d25_69 : decode prog_15_method_53_code 69 = .ok (.goto (-22), 3) := by decide +kernel
theorem px_d25_72 : decode prog_15_method_53_code 72 = .ok (.iinc 1 1, 3) := by decide +kernel
theorem px_d25_75 : decode prog_15_method_53_code 75 = .ok (.aload_n 0, 1) := by decide +kernel
theorem px_d25_76 : decode prog_15_method_53_code 76 = .ok (.iload_n 1, 1) := by decide +kernel
theorem px_d25_77 : decode prog_15_method_53_code 77 = .ok (.invokevirtual 332, 3) := by decide +kernel
theorem px_d25_80 : decode prog_15_method_53_code 80 = .ok (.istore_n 2, 1) := by decide +kernel
theorem px_d25_81 : decode prog_15_method_53_code 81 = .ok (.goto (-70), 3) := by decide +kernel
theorem px_d25_84 : decode prog_15_method_53_code 84 = .ok (.aload_n 0, 1) := by decide +kernel
theorem px_d25_85 : decode prog_15_method_53_code 85 = .ok (.iload_n 1, 1) := by decide +kernel
theorem px_d25_86 : decode prog_15_method_53_code 86 = .ok (.putfield 335, 3) := by decide +kernel
theorem px_d25_89 : decode prog_15_method_53_code 89 = .ok (.aload_n 0, 1) := by decide +kernel
theorem px_d25_90 : decode prog_15_method_53_code 90 = .ok (.iload_n 1, 1) := by decide +kernel
theorem px_d25_91 : decode prog_15_method_53_code 91 = .ok (.iconst 1, 1) := by decide +kernel
theorem px_d25_92 : decode prog_15_method_53_code 92 = .ok (.iadd, 1) := by decide +kernel
theorem px_d25_93 : decode prog_15_method_53_code 93 = .ok (.putfield 329, 3) := by decide +kernel
theorem px_d25_96 : decode prog_15_method_53_code 96 = .ok (.iload_n 1, 1) := by decide +kernel
theorem px_d25_97 : decode prog_15_method_53_code 97 = .ok (.aload_n 0, 1) := by decide +kernel
theorem px_d25_98 : decode prog_15_method_53_code 98 = .ok (.getfield 326, 3) := by decide +kernel
theorem px_d25_101 : decode prog_15_method_53_code 101 = .ok (.if_icmp .lt 16, 3) := by decide +kernel
theorem px_d25_104 : decode prog_15_method_53_code 104 = .ok (.aload_n 0, 1) := by decide +kernel
theorem px_d25_105 : decode prog_15_method_53_code 105 = .ok (.iconst 0, 1) := by decide +kernel
theorem px_d25_106 : decode prog_15_method_53_code 106 = .ok (.putfield 338, 3) := by decide +kernel
theorem px_d25_109 : decode prog_15_method_53_code 109 = .ok (.aload_n 0, 1) := by decide +kernel
theorem px_d25_110 : decode prog_15_method_53_code 110 = .ok (.iload_n 1, 1) := by decide +kernel
theorem px_d25_111 : decode prog_15_method_53_code 111 = .ok (.putfield 329, 3) := by decide +kernel
theorem px_d25_114 : decode prog_15_method_53_code 114 = .ok (.goto 162, 3) := by decide +kernel
theorem px_d25_117 : decode prog_15_method_53_code 117 = .ok (.iload_n 2, 1) := by decide +kernel
theorem px_d25_118 : decode prog_15_method_53_code 118 = .ok (.invokestatic 341, 3) := by decide +kernel
theorem px_d25_121 : decode prog_15_method_53_code 121 = .ok (.ifCond .eq 35, 3) := by decide +kernel
theorem px_d25_124 : decode prog_15_method_53_code 124 = .ok (.aload_n 0, 1) := by decide +kernel
theorem px_d25_125 : decode prog_15_method_53_code 125 = .ok (.iconst 1, 1) := by decide +kernel
theorem px_d25_126 : decode prog_15_method_53_code 126 = .ok (.putfield 338, 3) := by decide +kernel
theorem px_d25_129 : decode prog_15_method_53_code 129 = .ok (.aload_n 0, 1) := by decide +kernel
theorem px_d25_130 : decode prog_15_method_53_code 130 = .ok (.aload_n 0, 1) := by decide +kernel
theorem px_d25_131 : decode prog_15_method_53_code 131 = .ok (.getfield 329, 3) := by decide +kernel
theorem px_d25_134 : decode prog_15_method_53_code 134 = .ok (.invokevirtual 332, 3) := by decide +kernel
theorem px_d25_137 : decode prog_15_method_53_code 137 = .ok (.invokestatic 341, 3) := by decide +kernel
theorem px_d25_140 : decode prog_15_method_53_code 140 = .ok (.ifCond .eq 136, 3) := by decide +kernel
theorem px_d25_143 : decode prog_15_method_53_code 143 = .ok (.aload_n 0, 1) := by decide +kernel
theorem px_d25_144 : decode prog_15_method_53_code 144 = .ok (.dup, 1) := by decide +kernel
theorem px_d25_145 : decode prog_15_method_53_code 145 = .ok (.getfield 329, 3) := by decide +kernel
theorem px_d25_148 : decode prog_15_method_53_code 148 = .ok (.iconst 1, 1) := by decide +kernel
theorem px_d25_149 : decode prog_15_method_53_code 149 = .ok (.iadd, 1) := by decide +kernel
theorem px_d25_150 : decode prog_15_method_53_code 150 = .ok (.putfield 329, 3) := by decide +kernel
theorem px_d25_153 : decode prog_15_method_53_code 153 = .ok (.goto (-24), 3) := by decide +kernel
theorem px_d25_156 : decode prog_15_method_53_code 156 = .ok (.iload_n 2, 1) := by decide +kernel
theorem px_d25_157 : decode prog_15_method_53_code 157 = .ok (.bipush 45, 2) := by decide +kernel
theorem px_d25_159 : decode prog_15_method_53_code 159 = .ok (.if_icmp .eq 10, 3) := by decide +kernel
theorem px_d25_162 : decode prog_15_method_53_code 162 = .ok (.iload_n 2, 1) := by decide +kernel
theorem px_d25_163 : decode prog_15_method_53_code 163 = .ok (.invokestatic 345, 3) := by decide +kernel
theorem px_d25_166 : decode prog_15_method_53_code 166 = .ok (.ifCond .eq 71, 3) := by decide +kernel
theorem px_d25_169 : decode prog_15_method_53_code 169 = .ok (.iload_n 2, 1) := by decide +kernel
theorem px_d25_170 : decode prog_15_method_53_code 170 = .ok (.bipush 45, 2) := by decide +kernel
theorem px_d25_172 : decode prog_15_method_53_code 172 = .ok (.if_icmp .ne 9, 3) := by decide +kernel
theorem px_d25_175 : decode prog_15_method_53_code 175 = .ok (.iload_n 1, 1) := by decide +kernel
theorem px_d25_176 : decode prog_15_method_53_code 176 = .ok (.iconst 1, 1) := by decide +kernel
theorem px_d25_177 : decode prog_15_method_53_code 177 = .ok (.iadd, 1) := by decide +kernel
theorem px_d25_178 : decode prog_15_method_53_code 178 = .ok (.goto 4, 3) := by decide +kernel
theorem px_d25_181 : decode prog_15_method_53_code 181 = .ok (.iload_n 1, 1) := by decide +kernel
theorem px_d25_182 : decode prog_15_method_53_code 182 = .ok (.istore_n 3, 1) := by decide +kernel
theorem px_d25_183 : decode prog_15_method_53_code 183 = .ok (.iconst 0, 1) := by decide +kernel
theorem px_d25_184 : decode prog_15_method_53_code 184 = .ok (.istore 4, 2) := by decide +kernel
theorem px_d25_186 : decode prog_15_method_53_code 186 = .ok (.aload_n 0, 1) := by decide +kernel
theorem px_d25_187 : decode prog_15_method_53_code 187 = .ok (.iload_n 3, 1) := by decide +kernel
theorem px_d25_188 : decode prog_15_method_53_code 188 = .ok (.iload 4, 2) := by decide +kernel
theorem px_d25_190 : decode prog_15_method_53_code 190 = .ok (.iadd, 1) := by decide +kernel
theorem px_d25_191 : decode prog_15_method_53_code 191 = .ok (.invokevirtual 332, 3) := by decide +kernel
theorem px_d25_194 : decode prog_15_method_53_code 194 = .ok (.invokestatic 345, 3) := by decide +kernel
theorem px_d25_197 : decode prog_15_method_53_code 197 = .ok (.ifCond .eq 9, 3) := by decide +kernel
theorem px_d25_200 : decode prog_15_method_53_code 200 = .ok (.iinc 4 1, 3) := by decide +kernel
theorem px_d25_203 : decode prog_15_method_53_code 203 = .ok (.goto (-17), 3) := by decide +kernel
theorem px_d25_206 : decode prog_15_method_53_code 206 = .ok (.aload_n 0, 1) := by decide +kernel
theorem px_d25_207 : decode prog_15_method_53_code 207 = .ok (.iload 4, 2) := by decide +kernel
theorem px_d25_209 : decode prog_15_method_53_code 209 = .ok (.ifCond .le 13, 3) := by decide +kernel
theorem px_d25_212 : decode prog_15_method_53_code 212 = .ok (.iload 4, 2) := by decide +kernel
theorem px_d25_214 : decode prog_15_method_53_code 214 = .ok (.iconst 4, 1) := by decide +kernel
theorem px_d25_215 : decode prog_15_method_53_code 215 = .ok (.if_icmp .ge 7, 3) := by decide +kernel
theorem px_d25_218 : decode prog_15_method_53_code 218 = .ok (.iconst 2, 1) := by decide +kernel
theorem px_d25_219 : decode prog_15_method_53_code 219 = .ok (.goto 4, 3) := by decide +kernel
theorem px_d25_222 : decode prog_15_method_53_code 222 = .ok (.iconst 3, 1) := by decide +kernel
theorem px_d25_223 : decode prog_15_method_53_code 223 = .ok (.putfield 338, 3) := by decide +kernel
theorem px_d25_226 : decode prog_15_method_53_code 226 = .ok (.aload_n 0, 1) := by decide +kernel
theorem px_d25_227 : decode prog_15_method_53_code 227 = .ok (.iload_n 3, 1) := by decide +kernel
theorem px_d25_228 : decode prog_15_method_53_code 228 = .ok (.iload 4, 2) := by decide +kernel
theorem px_d25_230 : decode prog_15_method_53_code 230 = .ok (.iadd, 1) := by decide +kernel
theorem px_d25_231 : decode prog_15_method_53_code 231 = .ok (.putfield 329, 3) := by decide +kernel
theorem px_d25_234 : decode prog_15_method_53_code 234 = .ok (.goto 42, 3) := by decide +kernel
theorem px_d25_237 : decode prog_15_method_53_code 237 = .ok (.aload_n 0, 1) := by decide +kernel
theorem px_d25_238 : decode prog_15_method_53_code 238 = .ok (.iload_n 2, 1) := by decide +kernel
theorem px_d25_239 : decode prog_15_method_53_code 239 = .ok (.bipush 123, 2) := by decide +kernel
theorem px_d25_241 : decode prog_15_method_53_code 241 = .ok (.if_icmp .eq 27, 3) := by decide +kernel
theorem px_d25_244 : decode prog_15_method_53_code 244 = .ok (.iload_n 2, 1) := by decide +kernel
theorem px_d25_245 : decode prog_15_method_53_code 245 = .ok (.bipush 125, 2) := by decide +kernel
theorem px_d25_247 : decode prog_15_method_53_code 247 = .ok (.if_icmp .eq 21, 3) := by decide +kernel
theorem px_d25_250 : decode prog_15_method_53_code 250 = .ok (.iload_n 2, 1) := by decide +kernel
theorem px_d25_251 : decode prog_15_method_53_code 251 = .ok (.bipush 44, 2) := by decide +kernel
theorem px_d25_253 : decode prog_15_method_53_code 253 = .ok (.if_icmp .eq 15, 3) := by decide +kernel
theorem px_d25_256 : decode prog_15_method_53_code 256 = .ok (.iload_n 2, 1) := by decide +kernel
theorem px_d25_257 : decode prog_15_method_53_code 257 = .ok (.bipush 61, 2) := by decide +kernel
theorem px_d25_259 : decode prog_15_method_53_code 259 = .ok (.if_icmp .eq 9, 3) := by decide +kernel
theorem px_d25_262 : decode prog_15_method_53_code 262 = .ok (.iload_n 2, 1) := by decide +kernel
theorem px_d25_263 : decode prog_15_method_53_code 263 = .ok (.bipush 59, 2) := by decide +kernel
theorem px_d25_265 : decode prog_15_method_53_code 265 = .ok (.if_icmp .ne 7, 3) := by decide +kernel
theorem px_d25_268 : decode prog_15_method_53_code 268 = .ok (.iload_n 2, 1) := by decide +kernel
theorem px_d25_269 : decode prog_15_method_53_code 269 = .ok (.goto 4, 3) := by decide +kernel
theorem px_d25_272 : decode prog_15_method_53_code 272 = .ok (.iconst 3, 1) := by decide +kernel
theorem px_d25_273 : decode prog_15_method_53_code 273 = .ok (.putfield 338, 3) := by decide +kernel
theorem px_d25_276 : decode prog_15_method_53_code 276 = .ok (.return_, 1) := by decide +kernel
theorem px_d26_0 : decode prog_15_method_54_code 0 = .ok (.iconst 0, 1) := by decide +kernel
theorem px_d26_1 : decode prog_15_method_54_code 1 = .ok (.istore_n 1, 1) := by decide +kernel
theorem px_d26_2 : decode prog_15_method_54_code 2 = .ok (.aload_n 0, 1) := by decide +kernel
theorem px_d26_3 : decode prog_15_method_54_code 3 = .ok (.getfield 335, 3) := by decide +kernel
theorem px_d26_6 : decode prog_15_method_54_code 6 = .ok (.istore_n 2, 1) := by decide +kernel
theorem px_d26_7 : decode prog_15_method_54_code 7 = .ok (.iload_n 2, 1) := by decide +kernel
theorem px_d26_8 : decode prog_15_method_54_code 8 = .ok (.aload_n 0, 1) := by decide +kernel
theorem px_d26_9 : decode prog_15_method_54_code 9 = .ok (.getfield 329, 3) := by decide +kernel
theorem px_d26_12 : decode prog_15_method_54_code 12 = .ok (.if_icmp .ge 40, 3) := by decide +kernel
theorem px_d26_15 : decode prog_15_method_54_code 15 = .ok (.aload_n 0, 1) := by decide +kernel
theorem px_d26_16 : decode prog_15_method_54_code 16 = .ok (.getfield 206, 3) := by decide +kernel
theorem px_d26_19 : decode prog_15_method_54_code 19 = .ok (.iload_n 2, 1) := by decide +kernel
theorem px_d26_20 : decode prog_15_method_54_code 20 = .ok (.baload, 1) := by decide +kernel
theorem px_d26_21 : decode prog_15_method_54_code 21 = .ok (.invokestatic 345, 3) := by decide +kernel
theorem px_d26_24 : decode prog_15_method_54_code 24 = .ok (.ifCond .eq 20, 3) := by decide +kernel
theorem px_d26_27 : decode prog_15_method_54_code 27 = .ok (.bipush 10, 2) := by decide +kernel
theorem px_d26_29 : decode prog_15_method_54_code 29 = .ok (.iload_n 1, 1) := by decide +kernel
theorem px_d26_30 : decode prog_15_method_54_code 30 = .ok (.imul, 1) := by decide +kernel
theorem px_d26_31 : decode prog_15_method_54_code 31 = .ok (.aload_n 0, 1) := by decide +kernel
theorem px_d26_32 : decode prog_15_method_54_code 32 = .ok (.getfield 206, 3) := by decide +kernel
theorem px_d26_35 : decode prog_15_method_54_code 35 = .ok (.iload_n 2, 1) := by decide +kernel
theorem px_d26_36 : decode prog_15_method_54_code 36 = .ok (.baload, 1) := by decide +kernel
theorem px_d26_37 : decode prog_15_method_54_code 37 = .ok (.iadd, 1) := by decide +kernel
theorem px_d26_38 : decode prog_15_method_54_code 38 = .ok (.bipush 48, 2) := by decide +kernel
theorem px_d26_40 : decode prog_15_method_54_code 40 = .ok (.isub, 1) := by decide +kernel
theorem px_d26_41 : decode prog_15_method_54_code 41 = .ok (.goto 4, 3) := by decide +kernel
theorem px_d26_44 : decode prog_15_method_54_code 44 = .ok (.iload_n 1, 1) := by decide +kernel
theorem px_d26_45 : decode prog_15_method_54_code 45 = .ok (.istore_n 1, 1) := by decide +kernel
theorem px_d26_46 : decode prog_15_method_54_code 46 = .ok (.iinc 2 1, 3) := by decide +kernel
theorem px_d26_49 : decode prog_15_method_54_code 49 = .ok (.goto (-42), 3) := by decide +kernel
theorem px_d26_52 : decode prog_15_method_54_code 52 = .ok (.aload_n 0, 1) := by decide +kernel
theorem px_d26_53 : decode prog_15_method_54_code 53 = .ok (.getfield 206, 3) := by decide +kernel
theorem px_d26_56 : decode prog_15_method_54_code 56 = .ok (.aload_n 0, 1) := by decide +kernel
theorem px_d26_57 : decode prog_15_method_54_code 57 = .ok (.getfield 335, 3) := by decide +kernel
theorem px_d26_60 : decode prog_15_method_54_code 60 = .ok (.baload, 1) := by decide +kernel
theorem px_d26_61 : decode prog_15_method_54_code 61 = .ok (.bipush 45, 2) := by decide +kernel
theorem px_d26_63 : decode prog_15_method_54_code 63 = .ok (.if_icmp .ne 8, 3) := by decide +kernel
theorem px_d26_66 : decode prog_15_method_54_code 66 = .ok (.iload_n 1, 1) := by decide +kernel
theorem px_d26_67 : decode prog_15_method_54_code 67 = .ok (.ineg, 1) := by decide +kernel
theorem px_d26_68 : decode prog_15_method_54_code 68 = .ok (.goto 4, 3) := by decide +kernel
theorem px_d26_71 : decode prog_15_method_54_code 71 = .ok (.iload_n 1, 1) := by decide +kernel
theorem px_d26_72 : decode prog_15_method_54_code 72 = .ok (.ireturn, 1) := by decide +kernel
theorem px_d27_0 : decode prog_15_method_55_code 0 = .ok (.aload_n 0, 1) := by decide +kernel
theorem px_d27_1 : decode prog_15_method_55_code 1 = .ok (.getfield 338, 3) := by decide +kernel
theorem px_d27_4 : decode prog_15_method_55_code 4 = .ok (.iconst 1, 1) := by decide +kernel
theorem px_d27_5 : decode prog_15_method_55_code 5 = .ok (.if_icmp .ne 34, 3) := by decide +kernel
theorem px_d27_8 : decode prog_15_method_55_code 8 = .ok (.aload_n 0, 1) := by decide +kernel
theorem px_d27_9 : decode prog_15_method_55_code 9 = .ok (.getfield 329, 3) := by decide +kernel
theorem px_d27_12 : decode prog_15_method_55_code 12 = .ok (.aload_n 0, 1) := by decide +kernel
theorem px_d27_13 : decode prog_15_method_55_code 13 = .ok (.getfield 335, 3) := by decide +kernel
theorem px_d27_16 : decode prog_15_method_55_code 16 = .ok (.iconst 1, 1) := by decide +kernel
theorem px_d27_17 : decode prog_15_method_55_code 17 = .ok (.iadd, 1) := by decide +kernel
theorem px_d27_18 : decode prog_15_method_55_code 18 = .ok (.if_icmp .ne 21, 3) := by decide +kernel
theorem px_d27_21 : decode prog_15_method_55_code 21 = .ok (.aload_n 0, 1) := by decide +kernel
theorem px_d27_22 : decode prog_15_method_55_code 22 = .ok (.getfield 206, 3) := by decide +kernel
theorem px_d27_25 : decode prog_15_method_55_code 25 = .ok (.aload_n 0, 1) := by decide +kernel
theorem px_d27_26 : decode prog_15_method_55_code 26 = .ok (.getfield 335, 3) := by decide +kernel
theorem px_d27_29 : decode prog_15_method_55_code 29 = .ok (.baload, 1) := by decide +kernel
theorem px_d27_30 : decode prog_15_method_55_code 30 = .ok (.bipush 97, 2) := by decide +kernel
theorem px_d27_32 : decode prog_15_method_55_code 32 = .ok (.if_icmp .lt 7, 3) := by decide +kernel
theorem px_d27_35 : decode prog_15_method_55_code 35 = .ok (.iconst 1, 1) := by decide +kernel
theorem px_d27_36 : decode prog_15_method_55_code 36 = .ok (.goto 4, 3) := by decide +kernel
theorem px_d27_39 : decode prog_15_method_55_code 39 = .ok (.iconst 0, 1) := by decide +kernel
theorem px_d27_40 : decode prog_15_method_55_code 40 = .ok (.ireturn, 1) := by decide +kernel
theorem px_d28_0 : decode prog_15_method_57_code 0 = .ok (.aload_n 0, 1) := by decide +kernel
theorem px_d28_1 : decode prog_15_method_57_code 1 = .ok (.getfield 356, 3) := by decide +kernel
theorem px_d28_4 : decode prog_15_method_57_code 4 = .ok (.ifCond .ne 20, 3) := by decide +kernel
theorem px_d28_7 : decode prog_15_method_57_code 7 = .ok (.iload_n 1, 1) := by decide +kernel
theorem px_d28_8 : decode prog_15_method_57_code 8 = .ok (.ifCond .ne 16, 3) := by decide +kernel
theorem px_d28_11 : decode prog_15_method_57_code 11 = .ok (.aload_n 0, 1) := by decide +kernel
theorem px_d28_12 : decode prog_15_method_57_code 12 = .ok (.iconst 1, 1) := by decide +kernel
theorem px_d28_13 : decode prog_15_method_57_code 13 = .ok (.putfield 356, 3) := by decide +kernel
theorem px_d28_16 : decode prog_15_method_57_code 16 = .ok (.aload_n 0, 1) := by decide +kernel
theorem px_d28_17 : decode prog_15_method_57_code 17 = .ok (.aload_n 0, 1) := by decide +kernel
theorem px_d28_18 : decode prog_15_method_57_code 18 = .ok (.getfield 335, 3) := by decide +kernel
theorem px_d28_21 : decode prog_15_method_57_code 21 = .ok (.putfield 209, 3) := by decide +kernel
theorem px_d28_24 : decode prog_15_method_57_code 24 = .ok (.aload_n 0, 1) := by decide +kernel
theorem px_d28_25 : decode prog_15_method_57_code 25 = .ok (.getfield 356, 3) := by decide +kernel
theorem px_d28_28 : decode prog_15_method_57_code 28 = .ok (.ifCond .ne 7, 3) := by decide +kernel
theorem px_d28_31 : decode prog_15_method_57_code 31 = .ok (.aload_n 0, 1) := by decide +kernel
theorem px_d28_32 : decode prog_15_method_57_code 32 = .ok (.invokevirtual 359, 3) := by decide +kernel
theorem px_d28_35 : decode prog_15_method_57_code 35 = .ok (.return_, 1) := by decide +kernel
theorem px_d29_0 : decode prog_15_method_58_code 0 = .ok (.aload_n 0, 1) := by decide +kernel
theorem px_d29_1 : decode prog_15_method_58_code 1 = .ok (.aload_n 0, 1) := by decide +kernel
theorem px_d29_2 : decode prog_15_method_58_code 2 = .ok (.invokevirtual 362, 3) := by decide +kernel
theorem px_d29_5 : decode prog_15_method_58_code 5 = .ok (.invokevirtual 365, 3) := by decide +kernel
theorem px_d29_8 : decode prog_15_method_58_code 8 = .ok (.return_, 1) := by decide +kernel
theorem px_d30_0 : decode prog_15_method_59_code 0 = .ok (.aload_n 0, 1) := by decide +kernel
theorem px_d30_1 : decode prog_15_method_59_code 1 = .ok (.aload_n 0, 1) := by decide +kernel
theorem px_d30_2 : decode prog_15_method_59_code 2 = .ok (.getfield 338, 3) := by decide +kernel
theorem px_d30_5 : decode prog_15_method_59_code 5 = .ok (.iconst 2, 1) := by decide +kernel
theorem px_d30_6 : decode prog_15_method_59_code 6 = .ok (.if_icmp .ne 7, 3) := by decide +kernel
theorem px_d30_9 : decode prog_15_method_59_code 9 = .ok (.iconst 1, 1) := by decide +kernel
theorem px_d30_10 : decode prog_15_method_59_code 10 = .ok (.goto 4, 3) := by decide +kernel
theorem px_d30_13 : decode prog_15_method_59_code 13 = .ok (.iconst 0, 1) := by decide +kernel
theorem px_d30_14 : decode prog_15_method_59_code 14 = .ok (.invokevirtual 365, 3) := by decide +kernel
theorem px_d30_17 : decode prog_15_method_59_code 17 = .ok (.return_, 1) := by decide +kernel
theorem px_d31_0 : decode prog_15_method_60_code 0 = .ok (.aload_n 0, 1) := by decide +kernel
theorem px_d31_1 : decode prog_15_method_60_code 1 = .ok (.aload_n 0, 1) := by decide +kernel
theorem px_d31_2 : decode prog_15_method_60_code 2 = .ok (.getfield 338, 3) := by decide +kernel
theorem px_d31_5 : decode prog_15_method_60_code 5 = .ok (.bipush 123, 2) := by decide +kernel
theorem px_d31_7 : decode prog_15_method_60_code 7 = .ok (.if_icmp .ne 7, 3) := by decide +kernel
theorem px_d31_10 : decode prog_15_method_60_code 10 = .ok (.iconst 1, 1) := by decide +kernel
theorem px_d31_11 : decode prog_15_method_60_code 11 = .ok (.goto 4, 3) := by decide +kernel
theorem px_d31_14 : decode prog_15_method_60_code 14 = .ok (.iconst 0, 1) := by decide +kernel
theorem px_d31_15 : decode prog_15_method_60_code 15 = .ok (.invokevirtual 365, 3) := by decide +kernel
theorem px_d31_18 : decode prog_15_method_60_code 18 = .ok (.aload_n 0, 1) := by decide +kernel
theorem px_d31_19 : decode prog_15_method_60_code 19 = .ok (.getfield 356, 3) := by decide +kernel
theorem px_d31_22 : decode prog_15_method_60_code 22 = .ok (.ifCond .ne 31, 3) := by decide +kernel
theorem px_d31_25 : decode prog_15_method_60_code 25 = .ok (.aload_n 0, 1) := by decide +kernel
theorem px_d31_26 : decode prog_15_method_60_code 26 = .ok (.getfield 338, 3) := by decide +kernel
theorem px_d31_29 : decode prog_15_method_60_code 29 = .ok (.iconst 2, 1) := by decide +kernel
theorem px_d31_30 : decode prog_15_method_60_code 30 = .ok (.if_icmp .eq 16, 3) := by decide +kernel
theorem px_d31_33 : decode prog_15_method_60_code 33 = .ok (.iload_n 1, 1) := by decide +kernel
theorem px_d31_34 : decode prog_15_method_60_code 34 = .ok (.ifCond .eq 19, 3) := by decide +kernel
theorem px_d31_37 : decode prog_15_method_60_code 37 = .ok (.aload_n 0, 1) := by decide +kernel
theorem px_d31_38 : decode prog_15_method_60_code 38 = .ok (.getfield 338, 3) := by decide +kernel
theorem px_d31_41 : decode prog_15_method_60_code 41 = .ok (.bipush 44, 2) := by decide +kernel
theorem px_d31_43 : decode prog_15_method_60_code 43 = .ok (.if_icmp .ne 10, 3) := by decide +kernel
theorem px_d31_46 : decode prog_15_method_60_code 46 = .ok (.aload_n 0, 1) := by decide +kernel
theorem px_d31_47 : decode prog_15_method_60_code 47 = .ok (.invokevirtual 359, 3) := by decide +kernel
theorem px_d31_50 : decode prog_15_method_60_code 50 = .ok (.goto (-32), 3) := by decide +kernel
theorem px_d31_53 : decode prog_15_method_60_code 53 = .ok (.aload_n 0, 1) := by decide +kernel
theorem px_d31_54 : decode prog_15_method_60_code 54 = .ok (.aload_n 0, 1) := by decide +kernel
theorem px_d31_55 : decode prog_15_method_60_code 55 = .ok (.getfield 338, 3) := by decide +kernel
theorem px_d31_58 : decode prog_15_method_60_code 58 = .ok (.bipush 125, 2) := by decide +kernel
theorem px_d31_60 : decode prog_15_method_60_code 60 = .ok (.if_icmp .ne 7, 3) := by decide +kernel
theorem px_d31_63 : decode prog_15_method_60_code 63 = .ok (.iconst 1, 1) := by decide +kernel
theorem px_d31_64 : decode prog_15_method_60_code 64 = .ok (.goto 4, 3) := by decide +kernel
theorem px_d31_67 : decode prog_15_method_60_code 67 = .ok (.iconst 0, 1) := by decide +kernel
theorem px_d31_68 : decode prog_15_method_60_code 68 = .ok (.invokevirtual 365, 3) := by decide +kernel
theorem px_d31_71 : decode prog_15_method_60_code 71 = .ok (.return_, 1) := by decide +kernel
theorem px_d32_0 : decode prog_15_method_61_code 0 = .ok (.aload_n 0, 1) := by decide +kernel
theorem px_d32_1 : decode prog_15_method_61_code 1 = .ok (.aload_n 0, 1) := by decide +kernel
theorem px_d32_2 : decode prog_15_method_61_code 2 = .ok (.getfield 338, 3) := by decide +kernel
theorem px_d32_5 : decode prog_15_method_61_code 5 = .ok (.bipush 123, 2) := by decide +kernel
theorem px_d32_7 : decode prog_15_method_61_code 7 = .ok (.if_icmp .ne 7, 3) := by decide +kernel
theorem px_d32_10 : decode prog_15_method_61_code 10 = .ok (.iconst 1, 1) := by decide +kernel
theorem px_d32_11 : decode prog_15_method_61_code 11 = .ok (.goto 4, 3) := by decide +kernel
theorem px_d32_14 : decode prog_15_method_61_code 14 = .ok (.iconst 0, 1) := by decide +kernel
theorem px_d32_15 : decode prog_15_method_61_code 15 = .ok (.invokevirtual 365, 3) := by decide +kernel
theorem px_d32_18 : decode prog_15_method_61_code 18 = .ok (.aload_n 0, 1) := by decide +kernel
theorem px_d32_19 : decode prog_15_method_61_code 19 = .ok (.getfield 356, 3) := by decide +kernel
theorem px_d32_22 : decode prog_15_method_61_code 22 = .ok (.ifCond .ne 15, 3) := by decide +kernel
theorem px_d32_25 : decode prog_15_method_61_code 25 = .ok (.aload_n 0, 1) := by decide +kernel
theorem px_d32_26 : decode prog_15_method_61_code 26 = .ok (.getfield 338, 3) := by decide +kernel
theorem px_d32_29 : decode prog_15_method_61_code 29 = .ok (.iconst 2, 1) := by decide +kernel
theorem px_d32_30 : decode prog_15_method_61_code 30 = .ok (.if_icmp .ne 7, 3) := by decide +kernel
theorem px_d32_33 : decode prog_15_method_61_code 33 = .ok (.iconst 1, 1) := by decide +kernel
theorem px_d32_34 : decode prog_15_method_61_code 34 = .ok (.goto 4, 3) := by decide +kernel
theorem px_d32_37 : decode prog_15_method_61_code 37 = .ok (.iconst 0, 1) := by decide +kernel
theorem px_d32_38 : decode prog_15_method_61_code 38 = .ok (.istore_n 1, 1) := by decide +kernel
theorem px_d32_39 : decode prog_15_method_61_code 39 = .ok (.iload_n 1, 1) := by decide +kernel
theorem px_d32_40 : decode prog_15_method_61_code 40 = .ok (.ifCond .eq 51, 3) := by decide +kernel
theorem px_d32_43 : decode prog_15_method_61_code 43 = .ok (.aload_n 0, 1) := by decide +kernel
theorem px_d32_44 : decode prog_15_method_61_code 44 = .ok (.getfield 356, 3) := by decide +kernel
theorem px_d32_47 : decode prog_15_method_61_code 47 = .ok (.ifCond .ne 44, 3) := by decide +kernel
theorem px_d32_50 : decode prog_15_method_61_code 50 = .ok (.aload_n 0, 1) := by decide +kernel
theorem px_d32_51 : decode prog_15_method_61_code 51 = .ok (.invokevirtual 369, 3) := by decide +kernel
theorem px_d32_54 : decode prog_15_method_61_code 54 = .ok (.aload_n 0, 1) := by decide +kernel
theorem px_d32_55 : decode prog_15_method_61_code 55 = .ok (.invokevirtual 369, 3) := by decide +kernel
theorem px_d32_58 : decode prog_15_method_61_code 58 = .ok (.aload_n 0, 1) := by decide +kernel
theorem px_d32_59 : decode prog_15_method_61_code 59 = .ok (.getfield 356, 3) := by decide +kernel
theorem px_d32_62 : decode prog_15_method_61_code 62 = .ok (.ifCond .ne 16, 3) := by decide +kernel
theorem px_d32_65 : decode prog_15_method_61_code 65 = .ok (.aload_n 0, 1) := by decide +kernel
theorem px_d32_66 : decode prog_15_method_61_code 66 = .ok (.getfield 338, 3) := by decide +kernel
theorem px_d32_69 : decode prog_15_method_61_code 69 = .ok (.bipush 44, 2) := by decide +kernel
theorem px_d32_71 : decode prog_15_method_61_code 71 = .ok (.if_icmp .ne 7, 3) := by decide +kernel
theorem px_d32_74 : decode prog_15_method_61_code 74 = .ok (.iconst 1, 1) := by decide +kernel
theorem px_d32_75 : decode prog_15_method_61_code 75 = .ok (.goto 4, 3) := by decide +kernel
theorem px_d32_78 : decode prog_15_method_61_code 78 = .ok (.iconst 0, 1) := by decide +kernel
theorem px_d32_79 : decode prog_15_method_61_code 79 = .ok (.istore_n 1, 1) := by decide +kernel
theorem px_d32_80 : decode prog_15_method_61_code 80 = .ok (.iload_n 1, 1) := by decide +kernel
theorem px_d32_81 : decode prog_15_method_61_code 81 = .ok (.ifCond .eq (-42), 3) := by decide +kernel
theorem px_d32_84 : decode prog_15_method_61_code 84 = .ok (.aload_n 0, 1) := by decide +kernel
theorem px_d32_85 : decode prog_15_method_61_code 85 = .ok (.invokevirtual 359, 3) := by decide +kernel
theorem px_d32_88 : decode prog_15_method_61_code 88 = .ok (.goto (-49), 3) := by decide +kernel
theorem px_d32_91 : decode prog_15_method_61_code 91 = .ok (.aload_n 0, 1) := by decide +kernel
theorem px_d32_92 : decode prog_15_method_61_code 92 = .ok (.aload_n 0, 1) := by decide +kernel
theorem px_d32_93 : decode prog_15_method_61_code 93 = .ok (.getfield 338, 3) := by decide +kernel
theorem px_d32_96 : decode prog_15_method_61_code 96 = .ok (.bipush 125, 2) := by decide +kernel
theorem px_d32_98 : decode prog_15_method_61_code 98 = .ok (.if_icmp .ne 7, 3) := by decide +kernel
theorem px_d32_101 : decode prog_15_method_61_code 101 = .ok (.iconst 1, 1) := by decide +kernel
theorem px_d32_102 : decode prog_15_method_61_code 102 = .ok (.goto 4, 3) := by decide +kernel
theorem px_d32_105 : decode prog_15_method_61_code 105 = .ok (.iconst 0, 1) := by decide +kernel
theorem px_d32_106 : decode prog_15_method_61_code 106 = .ok (.invokevirtual 365, 3) := by decide +kernel
theorem px_d32_109 : decode prog_15_method_61_code 109 = .ok (.return_, 1) := by decide +kernel
theorem px_d33_0 : decode prog_15_method_66_code 0 = .ok (.aload_n 0, 1) := by decide +kernel
theorem px_d33_1 : decode prog_15_method_66_code 1 = .ok (.getfield 395, 3) := by decide +kernel
theorem px_d33_4 : decode prog_15_method_66_code 4 = .ok (.ifCond .ne 12, 3) := by decide +kernel
theorem px_d33_7 : decode prog_15_method_66_code 7 = .ok (.iload_n 1, 1) := by decide +kernel
theorem px_d33_8 : decode prog_15_method_66_code 8 = .ok (.ifCond .ne 8, 3) := by decide +kernel
theorem px_d33_11 : decode prog_15_method_66_code 11 = .ok (.aload_n 0, 1) := by decide +kernel
theorem px_d33_12 : decode prog_15_method_66_code 12 = .ok (.iload_n 2, 1) := by decide +kernel
theorem px_d33_13 : decode prog_15_method_66_code 13 = .ok (.putfield 395, 3) := by decide +kernel
theorem px_d33_16 : decode prog_15_method_66_code 16 = .ok (.aload_n 0, 1) := by decide +kernel
theorem px_d33_17 : decode prog_15_method_66_code 17 = .ok (.getfield 395, 3) := by decide +kernel
theorem px_d33_20 : decode prog_15_method_66_code 20 = .ok (.ifCond .ne 7, 3) := by decide +kernel
theorem px_d33_23 : decode prog_15_method_66_code 23 = .ok (.iconst 1, 1) := by decide +kernel
theorem px_d33_24 : decode prog_15_method_66_code 24 = .ok (.goto 4, 3) := by decide +kernel
theorem px_d33_27 : decode prog_15_method_66_code 27 = .ok (.iconst 0, 1) := by decide +kernel
theorem px_d33_28 : decode prog_15_method_66_code 28 = .ok (.ireturn, 1) := by decide +kernel
theorem px_d34_0 : decode prog_15_method_67_code 0 = .ok (.iload_n 0, 1) := by decide +kernel
theorem px_d34_1 : decode prog_15_method_67_code 1 = .ok (.iconst 2, 1) := by decide +kernel
theorem px_d34_2 : decode prog_15_method_67_code 2 = .ok (.if_icmp .lt 14, 3) := by decide +kernel
theorem px_d34_5 : decode prog_15_method_67_code 5 = .ok (.iload_n 0, 1) := by decide +kernel
theorem px_d34_6 : decode prog_15_method_67_code 6 = .ok (.sipush 251, 3) := by decide +kernel
theorem px_d34_9 : decode prog_15_method_67_code 9 = .ok (.if_icmp .gt 7, 3) := by decide +kernel
theorem px_d34_12 : decode prog_15_method_67_code 12 = .ok (.iconst 1, 1) := by decide +kernel
theorem px_d34_13 : decode prog_15_method_67_code 13 = .ok (.goto 4, 3) := by decide +kernel
theorem px_d34_16 : decode prog_15_method_67_code 16 = .ok (.iconst 0, 1) := by decide +kernel
theorem px_d34_17 : decode prog_15_method_67_code 17 = .ok (.istore_n 1, 1) := by decide +kernel
theorem px_d34_18 : decode prog_15_method_67_code 18 = .ok (.iconst 2, 1) := by decide +kernel
theorem px_d34_19 : decode prog_15_method_67_code 19 = .ok (.istore_n 2, 1) := by decide +kernel
theorem px_d34_20 : decode prog_15_method_67_code 20 = .ok (.iload_n 2, 1) := by decide +kernel
theorem px_d34_21 : decode prog_15_method_67_code 21 = .ok (.iload_n 2, 1) := by decide +kernel
theorem px_d34_22 : decode prog_15_method_67_code 22 = .ok (.imul, 1) := by decide +kernel
theorem px_d34_23 : decode prog_15_method_67_code 23 = .ok (.iload_n 0, 1) := by decide +kernel
theorem px_d34_24 : decode prog_15_method_67_code 24 = .ok (.if_icmp .gt 25, 3) := by decide +kernel
theorem px_d34_27 : decode prog_15_method_67_code 27 = .ok (.iload_n 1, 1) := by decide +kernel
theorem px_d34_28 : decode prog_15_method_67_code 28 = .ok (.ifCond .eq 21, 3) := by decide +kernel
theorem px_d34_31 : decode prog_15_method_67_code 31 = .ok (.iload_n 0, 1) := by decide +kernel
theorem px_d34_32 : decode prog_15_method_67_code 32 = .ok (.iload_n 2, 1) := by decide +kernel
theorem px_d34_33 : decode prog_15_method_67_code 33 = .ok (.irem, 1) := by decide +kernel
theorem px_d34_34 : decode prog_15_method_67_code 34 = .ok (.ifCond .eq 7, 3) := by decide +kernel
theorem px_d34_37 : decode prog_15_method_67_code 37 = .ok (.iconst 1, 1) := by decide +kernel
theorem px_d34_38 : decode prog_15_method_67_code 38 = .ok (.goto 4, 3) := by decide +kernel
theorem px_d34_41 : decode prog_15_method_67_code 41 = .ok (.iconst 0, 1) := by decide +kernel
theorem px_d34_42 : decode prog_15_method_67_code 42 = .ok (.istore_n 1, 1) := by decide +kernel
theorem px_d34_43 : decode prog_15_method_67_code 43 = .ok (.iinc 2 1, 3) := by decide +kernel
theorem px_d34_46 : decode prog_15_method_67_code 46 = .ok (.goto (-26), 3) := by decide +kernel
theorem px_d34_49 : decode prog_15_method_67_code 49 = .ok (.iload_n 1, 1) := by decide +kernel
theorem px_d34_50 : decode prog_15_method_67_code 50 = .ok (.ireturn, 1) := by decide +kernel
theorem px_d35_0 : decode prog_15_method_64_code 0 = .ok (.aload_n 0, 1) := by decide +kernel
theorem px_d35_1 : decode prog_15_method_64_code 1 = .ok (.getfield 206, 3) := by decide +kernel
theorem px_d35_4 : decode prog_15_method_64_code 4 = .ok (.aload_n 0, 1) := by decide +kernel
theorem px_d35_5 : decode prog_15_method_64_code 5 = .ok (.getfield 335, 3) := by decide +kernel
theorem px_d35_8 : decode prog_15_method_64_code 8 = .ok (.baload, 1) := by decide +kernel
theorem px_d35_9 : decode prog_15_method_64_code 9 = .ok (.bipush 97, 2) := by decide +kernel
theorem px_d35_11 : decode prog_15_method_64_code 11 = .ok (.isub, 1) := by decide +kernel
theorem px_d35_12 : decode prog_15_method_64_code 12 = .ok (.istore_n 1, 1) := by decide +kernel
theorem px_d35_13 : decode prog_15_method_64_code 13 = .ok (.aload_n 0, 1) := by decide +kernel
theorem px_d35_14 : decode prog_15_method_64_code 14 = .ok (.invokevirtual 359, 3) := by decide +kernel
theorem px_d35_17 : decode prog_15_method_64_code 17 = .ok (.iload_n 1, 1) := by decide +kernel
theorem px_d35_18 : decode prog_15_method_64_code 18 = .ok (.ireturn, 1) := by decide +kernel
theorem px_d36_0 : decode prog_15_method_65_code 0 = .ok (.aload_n 0, 1) := by decide +kernel
theorem px_d36_1 : decode prog_15_method_65_code 1 = .ok (.invokevirtual 392, 3) := by decide +kernel
theorem px_d36_4 : decode prog_15_method_65_code 4 = .ok (.istore_n 1, 1) := by decide +kernel
theorem px_d36_5 : decode prog_15_method_65_code 5 = .ok (.aload_n 0, 1) := by decide +kernel
theorem px_d36_6 : decode prog_15_method_65_code 6 = .ok (.invokevirtual 359, 3) := by decide +kernel
theorem px_d36_9 : decode prog_15_method_65_code 9 = .ok (.iload_n 1, 1) := by decide +kernel
theorem px_d36_10 : decode prog_15_method_65_code 10 = .ok (.ireturn, 1) := by decide +kernel
theorem px_d37_0 : decode prog_15_method_75_code 0 = .ok (.aload_n 0, 1) := by decide +kernel
theorem px_d37_1 : decode prog_15_method_75_code 1 = .ok (.getfield 443, 3) := by decide +kernel
theorem px_d37_4 : decode prog_15_method_75_code 4 = .ok (.ldc 218, 2) := by decide +kernel
theorem px_d37_6 : decode prog_15_method_75_code 6 = .ok (.if_icmp .ne 14, 3) := by decide +kernel
theorem px_d37_9 : decode prog_15_method_75_code 9 = .ok (.aload_n 0, 1) := by decide +kernel
theorem px_d37_10 : decode prog_15_method_75_code 10 = .ok (.iconst 0, 1) := by decide +kernel
theorem px_d37_11 : decode prog_15_method_75_code 11 = .ok (.bipush 7, 2) := by decide +kernel
theorem px_d37_13 : decode prog_15_method_75_code 13 = .ok (.invokevirtual 404, 3) := by decide +kernel
theorem px_d37_16 : decode prog_15_method_75_code 16 = .ok (.istore_n 2, 1) := by decide +kernel
theorem px_d37_17 : decode prog_15_method_75_code 17 = .ok (.goto 24, 3) := by decide +kernel
theorem px_d37_20 : decode prog_15_method_75_code 20 = .ok (.aload_n 0, 1) := by decide +kernel
theorem px_d37_21 : decode prog_15_method_75_code 21 = .ok (.getfield 219, 3) := by decide +kernel
theorem px_d37_24 : decode prog_15_method_75_code 24 = .ok (.aload_n 0, 1) := by decide +kernel
theorem px_d37_25 : decode prog_15_method_75_code 25 = .ok (.getfield 443, 3) := by decide +kernel
theorem px_d37_28 : decode prog_15_method_75_code 28 = .ok (.iload_n 1, 1) := by decide +kernel
theorem px_d37_29 : decode prog_15_method_75_code 29 = .ok (.i2b, 1) := by decide +kernel
theorem px_d37_30 : decode prog_15_method_75_code 30 = .ok (.bastore, 1) := by decide +kernel
theorem px_d37_31 : decode prog_15_method_75_code 31 = .ok (.aload_n 0, 1) := by decide +kernel
theorem px_d37_32 : decode prog_15_method_75_code 32 = .ok (.dup, 1) := by decide +kernel
theorem px_d37_33 : decode prog_15_method_75_code 33 = .ok (.getfield 443, 3) := by decide +kernel
theorem px_d37_36 : decode prog_15_method_75_code 36 = .ok (.iconst 1, 1) := by decide +kernel
theorem px_d37_37 : decode prog_15_method_75_code 37 = .ok (.iadd, 1) := by decide +kernel
theorem px_d37_38 : decode prog_15_method_75_code 38 = .ok (.putfield 443, 3) := by decide +kernel
theorem px_d37_41 : decode prog_15_method_75_code 41 = .ok (.return_, 1) := by decide +kernel
theorem px_d40_0 : decode prog_15_method_90_code 0 = .ok (.aload_n 0, 1) := by decide +kernel
theorem px_d40_1 : decode prog_15_method_90_code 1 = .ok (.aload_n 0, 1) := by decide +kernel
theorem px_d40_2 : decode prog_15_method_90_code 2 = .ok (.getfield 508, 3) := by decide +kernel
theorem px_d40_5 : decode prog_15_method_90_code 5 = .ok (.bipush 20, 2) := by decide +kernel
theorem px_d40_7 : decode prog_15_method_90_code 7 = .ok (.iadd, 1) := by decide +kernel
theorem px_d40_8 : decode prog_15_method_90_code 8 = .ok (.sipush 16384, 3) := by decide +kernel
theorem px_d40_11 : decode prog_15_method_90_code 11 = .ok (.if_icmp .le 7, 3) := by decide +kernel
theorem px_d40_14 : decode prog_15_method_90_code 14 = .ok (.iconst 1, 1) := by decide +kernel
theorem px_d40_15 : decode prog_15_method_90_code 15 = .ok (.goto 4, 3) := by decide +kernel
theorem px_d40_18 : decode prog_15_method_90_code 18 = .ok (.iconst 0, 1) := by decide +kernel
theorem px_d40_19 : decode prog_15_method_90_code 19 = .ok (.putfield 505, 3) := by decide +kernel
theorem px_d40_22 : decode prog_15_method_90_code 22 = .ok (.aload_n 0, 1) := by decide +kernel
theorem px_d40_23 : decode prog_15_method_90_code 23 = .ok (.getfield 505, 3) := by decide +kernel
theorem px_d40_26 : decode prog_15_method_90_code 26 = .ok (.ifCond .ne 30, 3) := by decide +kernel
theorem px_d40_29 : decode prog_15_method_90_code 29 = .ok (.aload_n 0, 1) := by decide +kernel
theorem px_d40_30 : decode prog_15_method_90_code 30 = .ok (.iload_n 1, 1) := by decide +kernel
theorem px_d40_31 : decode prog_15_method_90_code 31 = .ok (.invokevirtual 511, 3) := by decide +kernel
theorem px_d40_34 : decode prog_15_method_90_code 34 = .ok (.aload_n 0, 1) := by decide +kernel
theorem px_d40_35 : decode prog_15_method_90_code 35 = .ok (.iload_n 2, 1) := by decide +kernel
theorem px_d40_36 : decode prog_15_method_90_code 36 = .ok (.invokevirtual 511, 3) := by decide +kernel
theorem px_d40_39 : decode prog_15_method_90_code 39 = .ok (.aload_n 0, 1) := by decide +kernel
theorem px_d40_40 : decode prog_15_method_90_code 40 = .ok (.iload_n 3, 1) := by decide +kernel
theorem px_d40_41 : decode prog_15_method_90_code 41 = .ok (.invokevirtual 511, 3) := by decide +kernel
theorem px_d40_44 : decode prog_15_method_90_code 44 = .ok (.aload_n 0, 1) := by decide +kernel
theorem px_d40_45 : decode prog_15_method_90_code 45 = .ok (.iload 4, 2) := by decide +kernel
theorem px_d40_47 : decode prog_15_method_90_code 47 = .ok (.invokevirtual 511, 3) := by decide +kernel
theorem px_d40_50 : decode prog_15_method_90_code 50 = .ok (.aload_n 0, 1) := by decide +kernel
theorem px_d40_51 : decode prog_15_method_90_code 51 = .ok (.iload 5, 2) := by decide +kernel
theorem px_d40_53 : decode prog_15_method_90_code 53 = .ok (.invokevirtual 511, 3) := by decide +kernel
theorem px_d40_56 : decode prog_15_method_90_code 56 = .ok (.return_, 1) := by decide +kernel
