theorem px_d171_3 : decode prog_9_method_3_code 3 = .ok (.aload_n 0, 1) := by decide +kernel
theorem px_d171_4 : decode prog_9_method_3_code 4 = .ok (.getfield 25, 3) := by decide +kernel
theorem px_d171_7 : decode prog_9_method_3_code 7 = .ok (.invokevirtual 70, 3) := by decide +kernel
theorem px_d171_10 : decode prog_9_method_3_code 10 = .ok (.iaload, 1) := by decide +kernel
theorem px_d171_11 : decode prog_9_method_3_code 11 = .ok (.tableswitch 257 1 18 #[85, 131, 257, 214, 214, 243, 257, 257, 257, 257, 257, 257, 257, 257, 257, 257, 257, 174], 85) := by decide +kernel
theorem px_d171_96 : decode prog_9_method_3_code 96 = .ok (.aload_n 0, 1) := by decide +kernel
theorem px_d171_97 : decode prog_9_method_3_code 97 = .ok (.getfield 74, 3) := by decide +kernel
theorem px_d171_100 : decode prog_9_method_3_code 100 = .ok (.iconst (-1), 1) := by decide +kernel
theorem px_d171_101 : decode prog_9_method_3_code 101 = .ok (.if_icmp .eq 35, 3) := by decide +kernel
theorem px_d171_104 : decode prog_9_method_3_code 104 = .ok (.aload_n 0, 1) := by decide +kernel
theorem px_d171_105 : decode prog_9_method_3_code 105 = .ok (.getfield 77, 3) := by decide +kernel
theorem px_d171_108 : decode prog_9_method_3_code 108 = .ok (.ifCond .lt 28, 3) := by decide +kernel
theorem px_d171_111 : decode prog_9_method_3_code 111 = .ok (.aload_n 0, 1) := by decide +kernel
theorem px_d171_112 : decode prog_9_method_3_code 112 = .ok (.getfield 77, 3) := by decide +kernel
theorem px_d171_115 : decode prog_9_method_3_code 115 = .ok (.bipush 12, 2) := by decide +kernel
theorem px_d171_117 : decode prog_9_method_3_code 117 = .ok (.if_icmp .gt 19, 3) := by decide +kernel
theorem px_d171_120 : decode prog_9_method_3_code 120 = .ok (.aload_n 0, 1) := by decide +kernel
theorem px_d171_121 : decode prog_9_method_3_code 121 = .ok (.getfield 38, 3) := by decide +kernel
theorem px_d171_124 : decode prog_9_method_3_code 124 = .ok (.bipush 12, 2) := by decide +kernel
theorem px_d171_126 : decode prog_9_method_3_code 126 = .ok (.if_icmp .gt 10, 3) := by decide +kernel
theorem px_d171_129 : decode prog_9_method_3_code 129 = .ok (.aload_n 0, 1) := by decide +kernel
theorem px_d171_130 : decode prog_9_method_3_code 130 = .ok (.getfield 41, 3) := by decide +kernel
theorem px_d171_133 : decode prog_9_method_3_code 133 = .ok (.ifCond .ne 7, 3) := by decide +kernel
theorem px_d171_136 : decode prog_9_method_3_code 136 = .ok (.iconst 1, 1) := by decide +kernel
theorem px_d171_137 : decode prog_9_method_3_code 137 = .ok (.goto 4, 3) := by decide +kernel
theorem px_d171_140 : decode prog_9_method_3_code 140 = .ok (.iconst 0, 1) := by decide +kernel
theorem px_d171_141 : decode prog_9_method_3_code 141 = .ok (.ireturn, 1) := by decide +kernel
theorem px_d171_142 : decode prog_9_method_3_code 142 = .ok (.aload_n 0, 1) := by decide +kernel
theorem px_d171_143 : decode prog_9_method_3_code 143 = .ok (.getfield 77, 3) := by decide +kernel
theorem px_d171_146 : decode prog_9_method_3_code 146 = .ok (.iconst 1, 1) := by decide +kernel
theorem px_d171_147 : decode prog_9_method_3_code 147 = .ok (.if_icmp .lt 32, 3) := by decide +kernel
theorem px_d171_150 : decode prog_9_method_3_code 150 = .ok (.aload_n 0, 1) := by decide +kernel
theorem px_d171_151 : decode prog_9_method_3_code 151 = .ok (.getfield 77, 3) := by decide +kernel
theorem px_d171_154 : decode prog_9_method_3_code 154 = .ok (.bipush 13, 2) := by decide +kernel
theorem px_d171_156 : decode prog_9_method_3_code 156 = .ok (.if_icmp .gt 23, 3) := by decide +kernel
theorem px_d171_159 : decode prog_9_method_3_code 159 = .ok (.aload_n 0, 1) := by decide +kernel
theorem px_d171_160 : decode prog_9_method_3_code 160 = .ok (.getfield 35, 3) := by decide +kernel
theorem px_d171_163 : decode prog_9_method_3_code 163 = .ok (.bipush 24, 2) := by decide +kernel
theorem px_d171_165 : decode prog_9_method_3_code 165 = .ok (.if_icmp .gt 14, 3) := by decide +kernel
theorem px_d171_168 : decode prog_9_method_3_code 168 = .ok (.aload_n 0, 1) := by decide +kernel
theorem px_d171_169 : decode prog_9_method_3_code 169 = .ok (.aload_n 0, 1) := by decide +kernel
theorem px_d171_170 : decode prog_9_method_3_code 170 = .ok (.getfield 77, 3) := by decide +kernel
theorem px_d171_173 : decode prog_9_method_3_code 173 = .ok (.invokevirtual 80, 3) := by decide +kernel
theorem px_d171_176 : decode prog_9_method_3_code 176 = .ok (.ifCond .ne 7, 3) := by decide +kernel
theorem px_d171_179 : decode prog_9_method_3_code 179 = .ok (.iconst 1, 1) := by decide +kernel
theorem px_d171_180 : decode prog_9_method_3_code 180 = .ok (.goto 4, 3) := by decide +kernel
theorem px_d171_183 : decode prog_9_method_3_code 183 = .ok (.iconst 0, 1) := by decide +kernel
theorem px_d171_184 : decode prog_9_method_3_code 184 = .ok (.ireturn, 1) := by decide +kernel
theorem px_d171_185 : decode prog_9_method_3_code 185 = .ok (.aload_n 0, 1) := by decide +kernel
theorem px_d171_186 : decode prog_9_method_3_code 186 = .ok (.getfield 83, 3) := by decide +kernel
theorem px_d171_189 : decode prog_9_method_3_code 189 = .ok (.ifCond .lt 30, 3) := by decide +kernel
theorem px_d171_192 : decode prog_9_method_3_code 192 = .ok (.aload_n 0, 1) := by decide +kernel
theorem px_d171_193 : decode prog_9_method_3_code 193 = .ok (.getfield 83, 3) := by decide +kernel
theorem px_d171_196 : decode prog_9_method_3_code 196 = .ok (.bipush 12, 2) := by decide +kernel
theorem px_d171_198 : decode prog_9_method_3_code 198 = .ok (.if_icmp .gt 21, 3) := by decide +kernel
theorem px_d171_201 : decode prog_9_method_3_code 201 = .ok (.aload_n 0, 1) := by decide +kernel
theorem px_d171_202 : decode prog_9_method_3_code 202 = .ok (.getfield 77, 3) := by decide +kernel
theorem px_d171_205 : decode prog_9_method_3_code 205 = .ok (.ifCond .lt 14, 3) := by decide +kernel
theorem px_d171_208 : decode prog_9_method_3_code 208 = .ok (.aload_n 0, 1) := by decide +kernel
theorem px_d171_209 : decode prog_9_method_3_code 209 = .ok (.getfield 77, 3) := by decide +kernel
theorem px_d171_212 : decode prog_9_method_3_code 212 = .ok (.aload_n 0, 1) := by decide +kernel
theorem px_d171_213 : decode prog_9_method_3_code 213 = .ok (.getfield 83, 3) := by decide +kernel
theorem px_d171_216 : decode prog_9_method_3_code 216 = .ok (.if_icmp .le 7, 3) := by decide +kernel
theorem px_d171_219 : decode prog_9_method_3_code 219 = .ok (.iconst 1, 1) := by decide +kernel
theorem px_d171_220 : decode prog_9_method_3_code 220 = .ok (.goto 4, 3) := by decide +kernel
theorem px_d171_223 : decode prog_9_method_3_code 223 = .ok (.iconst 0, 1) := by decide +kernel
theorem px_d171_224 : decode prog_9_method_3_code 224 = .ok (.ireturn, 1) := by decide +kernel
theorem px_d171_225 : decode prog_9_method_3_code 225 = .ok (.aload_n 0, 1) := by decide +kernel
theorem px_d171_226 : decode prog_9_method_3_code 226 = .ok (.getfield 35, 3) := by decide +kernel
theorem px_d171_229 : decode prog_9_method_3_code 229 = .ok (.iload_n 1, 1) := by decide +kernel
theorem px_d171_230 : decode prog_9_method_3_code 230 = .ok (.if_icmp .gt 18, 3) := by decide +kernel
theorem px_d171_233 : decode prog_9_method_3_code 233 = .ok (.aload_n 0, 1) := by decide +kernel
theorem px_d171_234 : decode prog_9_method_3_code 234 = .ok (.iload_n 1, 1) := by decide +kernel
theorem px_d171_235 : decode prog_9_method_3_code 235 = .ok (.invokevirtual 80, 3) := by decide +kernel
theorem px_d171_238 : decode prog_9_method_3_code 238 = .ok (.ifCond .eq 10, 3) := by decide +kernel
theorem px_d171_241 : decode prog_9_method_3_code 241 = .ok (.aload_n 0, 1) := by decide +kernel
theorem px_d171_242 : decode prog_9_method_3_code 242 = .ok (.invokevirtual 86, 3) := by decide +kernel
theorem px_d171_245 : decode prog_9_method_3_code 245 = .ok (.ifCond .ne 7, 3) := by decide +kernel
theorem px_d171_248 : decode prog_9_method_3_code 248 = .ok (.iconst 1, 1) := by decide +kernel
theorem px_d171_249 : decode prog_9_method_3_code 249 = .ok (.goto 4, 3) := by decide +kernel
theorem px_d171_252 : decode prog_9_method_3_code 252 = .ok (.iconst 0, 1) := by decide +kernel
theorem px_d171_253 : decode prog_9_method_3_code 253 = .ok (.ireturn, 1) := by decide +kernel
theorem px_d171_254 : decode prog_9_method_3_code 254 = .ok (.aload_n 0, 1) := by decide +kernel
theorem px_d171_255 : decode prog_9_method_3_code 255 = .ok (.getfield 35, 3) := by decide +kernel
theorem px_d171_258 : decode prog_9_method_3_code 258 = .ok (.iload_n 1, 1) := by decide +kernel
theorem px_d171_259 : decode prog_9_method_3_code 259 = .ok (.if_icmp .eq 7, 3) := by decide +kernel
theorem px_d171_262 : decode prog_9_method_3_code 262 = .ok (.iconst 1, 1) := by decide +kernel
theorem px_d171_263 : decode prog_9_method_3_code 263 = .ok (.goto 4, 3) := by decide +kernel
theorem px_d171_266 : decode prog_9_method_3_code 266 = .ok (.iconst 0, 1) := by decide +kernel
theorem px_d171_267 : decode prog_9_method_3_code 267 = .ok (.ireturn, 1) := by decide +kernel
theorem px_d171_268 : decode prog_9_method_3_code 268 = .ok (.iconst 0, 1) := by decide +kernel
theorem px_d171_269 : decode prog_9_method_3_code 269 = .ok (.ireturn, 1) := by decide +kernel
theorem px_d172_0 : decode prog_19_method_2_code 0 = .ok (.aload_n 0, 1) := by decide +kernel
theorem px_d172_1 : decode prog_19_method_2_code 1 = .ok (.getfield 7, 3) := by decide +kernel
theorem px_d172_4 : decode prog_19_method_2_code 4 = .ok (.ireturn, 1) := by decide +kernel
theorem px_d173_0 : decode prog_9_method_14_code 0 = .ok (.iconst 0, 1) := by decide +kernel
theorem px_d173_1 : decode prog_9_method_14_code 1 = .ok (.istore_n 2, 1) := by decide +kernel
theorem px_d173_2 : decode prog_9_method_14_code 2 = .ok (.iload_n 2, 1) := by decide +kernel
theorem px_d173_3 : decode prog_9_method_14_code 3 = .ok (.aload_n 0, 1) := by decide +kernel
theorem px_d173_4 : decode prog_9_method_14_code 4 = .ok (.getfield 35, 3) := by decide +kernel
theorem px_d173_7 : decode prog_9_method_14_code 7 = .ok (.if_icmp .ge 37, 3) := by decide +kernel
theorem px_d173_10 : decode prog_9_method_14_code 10 = .ok (.iload_n 2, 1) := by decide +kernel
theorem px_d173_11 : decode prog_9_method_14_code 11 = .ok (.sipush 160, 3) := by decide +kernel
theorem px_d173_14 : decode prog_9_method_14_code 14 = .ok (.if_icmp .ge 30, 3) := by decide +kernel
theorem px_d173_17 : decode prog_9_method_14_code 17 = .ok (.aload_n 0, 1) := by decide +kernel
theorem px_d173_18 : decode prog_9_method_14_code 18 = .ok (.getfield 15, 3) := by decide +kernel
theorem px_d173_21 : decode prog_9_method_14_code 21 = .ok (.iload_n 2, 1) := by decide +kernel
theorem px_d173_22 : decode prog_9_method_14_code 22 = .ok (.iaload, 1) := by decide +kernel
theorem px_d173_23 : decode prog_9_method_14_code 23 = .ok (.ifCond .lt 13, 3) := by decide +kernel
theorem px_d173_26 : decode prog_9_method_14_code 26 = .ok (.aload_n 0, 1) := by decide +kernel
theorem px_d173_27 : decode prog_9_method_14_code 27 = .ok (.getfield 15, 3) := by decide +kernel
theorem px_d173_30 : decode prog_9_method_14_code 30 = .ok (.iload_n 2, 1) := by decide +kernel
theorem px_d173_31 : decode prog_9_method_14_code 31 = .ok (.iaload, 1) := by decide +kernel
theorem px_d173_32 : decode prog_9_method_14_code 32 = .ok (.iload_n 1, 1) := by decide +kernel
theorem px_d173_33 : decode prog_9_method_14_code 33 = .ok (.if_icmp .lt 5, 3) := by decide +kernel
theorem px_d173_36 : decode prog_9_method_14_code 36 = .ok (.iconst 0, 1) := by decide +kernel
theorem px_d173_37 : decode prog_9_method_14_code 37 = .ok (.ireturn, 1) := by decide +kernel
theorem px_d173_38 : decode prog_9_method_14_code 38 = .ok (.iinc 2 1, 3) := by decide +kernel
theorem px_d173_41 : decode prog_9_method_14_code 41 = .ok (.goto (-39), 3) := by decide +kernel
theorem px_d173_44 : decode prog_9_method_14_code 44 = .ok (.iconst 1, 1) := by decide +kernel
theorem px_d173_45 : decode prog_9_method_14_code 45 = .ok (.ireturn, 1) := by decide +kernel
theorem px_d174_0 : decode prog_9_method_15_code 0 = .ok (.iconst 1, 1) := by decide +kernel
theorem px_d174_1 : decode prog_9_method_15_code 1 = .ok (.istore_n 1, 1) := by decide +kernel
theorem px_d174_2 : decode prog_9_method_15_code 2 = .ok (.iload_n 1, 1) := by decide +kernel
theorem px_d174_3 : decode prog_9_method_15_code 3 = .ok (.aload_n 0, 1) := by decide +kernel
theorem px_d174_4 : decode prog_9_method_15_code 4 = .ok (.getfield 35, 3) := by decide +kernel
theorem px_d174_7 : decode prog_9_method_15_code 7 = .ok (.if_icmp .ge 35, 3) := by decide +kernel
theorem px_d174_10 : decode prog_9_method_15_code 10 = .ok (.iload_n 1, 1) := by decide +kernel
theorem px_d174_11 : decode prog_9_method_15_code 11 = .ok (.sipush 160, 3) := by decide +kernel
theorem px_d174_14 : decode prog_9_method_15_code 14 = .ok (.if_icmp .ge 28, 3) := by decide +kernel
theorem px_d174_17 : decode prog_9_method_15_code 17 = .ok (.aload_n 0, 1) := by decide +kernel
theorem px_d174_18 : decode prog_9_method_15_code 18 = .ok (.getfield 15, 3) := by decide +kernel
theorem px_d174_21 : decode prog_9_method_15_code 21 = .ok (.iload_n 1, 1) := by decide +kernel
theorem px_d174_22 : decode prog_9_method_15_code 22 = .ok (.iaload, 1) := by decide +kernel
theorem px_d174_23 : decode prog_9_method_15_code 23 = .ok (.aload_n 0, 1) := by decide +kernel
theorem px_d174_24 : decode prog_9_method_15_code 24 = .ok (.getfield 15, 3) := by decide +kernel
theorem px_d174_27 : decode prog_9_method_15_code 27 = .ok (.iload_n 1, 1) := by decide +kernel
theorem px_d174_28 : decode prog_9_method_15_code 28 = .ok (.iconst 1, 1) := by decide +kernel
theorem px_d174_29 : decode prog_9_method_15_code 29 = .ok (.isub, 1) := by decide +kernel
theorem px_d174_30 : decode prog_9_method_15_code 30 = .ok (.iaload, 1) := by decide +kernel
theorem px_d174_31 : decode prog_9_method_15_code 31 = .ok (.if_icmp .gt 5, 3) := by decide +kernel
theorem px_d174_34 : decode prog_9_method_15_code 34 = .ok (.iconst 0, 1) := by decide +kernel
theorem px_d174_35 : decode prog_9_method_15_code 35 = .ok (.ireturn, 1) := by decide +kernel
theorem px_d174_36 : decode prog_9_method_15_code 36 = .ok (.iinc 1 1, 3) := by decide +kernel
theorem px_d174_39 : decode prog_9_method_15_code 39 = .ok (.goto (-37), 3) := by decide +kernel
theorem px_d174_42 : decode prog_9_method_15_code 42 = .ok (.iconst 1, 1) := by decide +kernel
theorem px_d174_43 : decode prog_9_method_15_code 43 = .ok (.ireturn, 1) := by decide +kernel
theorem px_d179_0 : decode prog_4_method_2_code 0 = .ok (.aload_n 0, 1) := by decide +kernel
theorem px_d179_1 : decode prog_4_method_2_code 1 = .ok (.iload_n 1, 1) := by decide +kernel
theorem px_d179_2 : decode prog_4_method_2_code 2 = .ok (.iload_n 2, 1) := by decide +kernel
theorem px_d179_3 : decode prog_4_method_2_code 3 = .ok (.invokevirtual 39, 3) := by decide +kernel
theorem px_d179_6 : decode prog_4_method_2_code 6 = .ok (.iload 4, 2) := by decide +kernel
theorem px_d179_8 : decode prog_4_method_2_code 8 = .ok (.iload_n 2, 1) := by decide +kernel
theorem px_d179_9 : decode prog_4_method_2_code 9 = .ok (.invokestatic 43, 3) := by decide +kernel
theorem px_d179_12 : decode prog_4_method_2_code 12 = .ok (.iload_n 2, 1) := by decide +kernel
theorem px_d179_13 : decode prog_4_method_2_code 13 = .ok (.imul, 1) := by decide +kernel
theorem px_d179_14 : decode prog_4_method_2_code 14 = .ok (.newarray .int, 2) := by decide +kernel
theorem px_d179_16 : decode prog_4_method_2_code 16 = .ok (.astore 5, 2) := by decide +kernel
theorem px_d179_18 : decode prog_4_method_2_code 18 = .ok (.iconst 0, 1) := by decide +kernel
theorem px_d179_19 : decode prog_4_method_2_code 19 = .ok (.istore 6, 2) := by decide +kernel
theorem px_d179_21 : decode prog_4_method_2_code 21 = .ok (.iload 6, 2) := by decide +kernel
theorem px_d179_23 : decode prog_4_method_2_code 23 = .ok (.iload 4, 2) := by decide +kernel
theorem px_d179_25 : decode prog_4_method_2_code 25 = .ok (.if_icmp .ge 40, 3) := by decide +kernel
theorem px_d179_28 : decode prog_4_method_2_code 28 = .ok (.aload_n 0, 1) := by decide +kernel
theorem px_d179_29 : decode prog_4_method_2_code 29 = .ok (.aload_n 3, 1) := by decide +kernel
theorem px_d179_30 : decode prog_4_method_2_code 30 = .ok (.iload 6, 2) := by decide +kernel
theorem px_d179_32 : decode prog_4_method_2_code 32 = .ok (.iload_n 2, 1) := by decide +kernel
theorem px_d179_33 : decode prog_4_method_2_code 33 = .ok (.imul, 1) := by decide +kernel
theorem px_d179_34 : decode prog_4_method_2_code 34 = .ok (.invokevirtual 49, 3) := by decide +kernel
theorem px_d179_37 : decode prog_4_method_2_code 37 = .ok (.ifCond .eq 22, 3) := by decide +kernel
theorem px_d179_40 : decode prog_4_method_2_code 40 = .ok (.aload_n 3, 1) := by decide +kernel
theorem px_d179_41 : decode prog_4_method_2_code 41 = .ok (.iload 6, 2) := by decide +kernel
theorem px_d179_43 : decode prog_4_method_2_code 43 = .ok (.iload_n 2, 1) := by decide +kernel
theorem px_d179_44 : decode prog_4_method_2_code 44 = .ok (.imul, 1) := by decide +kernel
theorem px_d179_45 : decode prog_4_method_2_code 45 = .ok (.aload 5, 2) := by decide +kernel
theorem px_d179_47 : decode prog_4_method_2_code 47 = .ok (.aload_n 0, 1) := by decide +kernel
theorem px_d179_48 : decode prog_4_method_2_code 48 = .ok (.getfield 53, 3) := by decide +kernel
theorem px_d179_51 : decode prog_4_method_2_code 51 = .ok (.iconst 1, 1) := by decide +kernel
theorem px_d179_52 : decode prog_4_method_2_code 52 = .ok (.isub, 1) := by decide +kernel
theorem px_d179_53 : decode prog_4_method_2_code 53 = .ok (.iload_n 2, 1) := by decide +kernel
theorem px_d179_54 : decode prog_4_method_2_code 54 = .ok (.imul, 1) := by decide +kernel
theorem px_d179_55 : decode prog_4_method_2_code 55 = .ok (.iload_n 2, 1) := by decide +kernel
theorem px_d179_56 : decode prog_4_method_2_code 56 = .ok (.invokestatic 57, 3) := by decide +kernel
theorem px_d179_59 : decode prog_4_method_2_code 59 = .ok (.iinc 6 1, 3) := by decide +kernel
theorem px_d179_62 : decode prog_4_method_2_code 62 = .ok (.goto (-41), 3) := by decide +kernel
theorem px_d179_65 : decode prog_4_method_2_code 65 = .ok (.aload_n 0, 1) := by decide +kernel
theorem px_d179_66 : decode prog_4_method_2_code 66 = .ok (.new 63, 3) := by decide +kernel
theorem px_d179_69 : decode prog_4_method_2_code 69 = .ok (.dup, 1) := by decide +kernel
theorem px_d179_70 : decode prog_4_method_2_code 70 = .ok (.iload_n 1, 1) := by decide +kernel
theorem px_d179_71 : decode prog_4_method_2_code 71 = .ok (.iload_n 2, 1) := by decide +kernel
theorem px_d179_72 : decode prog_4_method_2_code 72 = .ok (.aload_n 0, 1) := by decide +kernel
theorem px_d179_73 : decode prog_4_method_2_code 73 = .ok (.getfield 53, 3) := by decide +kernel
theorem px_d179_76 : decode prog_4_method_2_code 76 = .ok (.aload 5, 2) := by decide +kernel
theorem px_d179_78 : decode prog_4_method_2_code 78 = .ok (.invokespecial 65, 3) := by decide +kernel
theorem px_d179_81 : decode prog_4_method_2_code 81 = .ok (.putfield 68, 3) := by decide +kernel
theorem px_d179_84 : decode prog_4_method_2_code 84 = .ok (.aload_n 0, 1) := by decide +kernel
theorem px_d179_85 : decode prog_4_method_2_code 85 = .ok (.getfield 68, 3) := by decide +kernel
theorem px_d179_88 : decode prog_4_method_2_code 88 = .ok (.areturn, 1) := by decide +kernel
theorem px_d180_0 : decode prog_4_method_7_code 0 = .ok (.iconst 1, 1) := by decide +kernel
theorem px_d180_1 : decode prog_4_method_7_code 1 = .ok (.iload_n 2, 1) := by decide +kernel
theorem px_d180_2 : decode prog_4_method_7_code 2 = .ok (.ishl, 1) := by decide +kernel
theorem px_d180_3 : decode prog_4_method_7_code 3 = .ok (.istore_n 3, 1) := by decide +kernel
theorem px_d180_4 : decode prog_4_method_7_code 4 = .ok (.iload_n 3, 1) := by decide +kernel
theorem px_d180_5 : decode prog_4_method_7_code 5 = .ok (.aload_n 0, 1) := by decide +kernel
theorem px_d180_6 : decode prog_4_method_7_code 6 = .ok (.getfield 29, 3) := by decide +kernel
theorem px_d180_9 : decode prog_4_method_7_code 9 = .ok (.arraylength, 1) := by decide +kernel
theorem px_d180_10 : decode prog_4_method_7_code 10 = .ok (.if_icmp .le 24, 3) := by decide +kernel
theorem px_d180_13 : decode prog_4_method_7_code 13 = .ok (.aload_n 0, 1) := by decide +kernel
theorem px_d180_14 : decode prog_4_method_7_code 14 = .ok (.iload_n 3, 1) := by decide +kernel
theorem px_d180_15 : decode prog_4_method_7_code 15 = .ok (.newarray .long, 2) := by decide +kernel
theorem px_d180_17 : decode prog_4_method_7_code 17 = .ok (.putfield 29, 3) := by decide +kernel
theorem px_d180_20 : decode prog_4_method_7_code 20 = .ok (.aload_n 0, 1) := by decide +kernel
theorem px_d180_21 : decode prog_4_method_7_code 21 = .ok (.iload_n 3, 1) := by decide +kernel
theorem px_d180_22 : decode prog_4_method_7_code 22 = .ok (.newarray .long, 2) := by decide +kernel
theorem px_d180_24 : decode prog_4_method_7_code 24 = .ok (.putfield 33, 3) := by decide +kernel
theorem px_d180_27 : decode prog_4_method_7_code 27 = .ok (.aload_n 0, 1) := by decide +kernel
theorem px_d180_28 : decode prog_4_method_7_code 28 = .ok (.iload_n 3, 1) := by decide +kernel
theorem px_d180_29 : decode prog_4_method_7_code 29 = .ok (.newarray .long, 2) := by decide +kernel
theorem px_d180_31 : decode prog_4_method_7_code 31 = .ok (.putfield 36, 3) := by decide +kernel
theorem px_d180_34 : decode prog_4_method_7_code 34 = .ok (.aload_n 0, 1) := by decide +kernel
theorem px_d180_35 : decode prog_4_method_7_code 35 = .ok (.getfield 7, 3) := by decide +kernel
theorem px_d180_38 : decode prog_4_method_7_code 38 = .ok (.iload_n 2, 1) := by decide +kernel
theorem px_d180_39 : decode prog_4_method_7_code 39 = .ok (.invokevirtual 139, 3) := by decide +kernel
theorem px_d180_42 : decode prog_4_method_7_code 42 = .ok (.aload_n 0, 1) := by decide +kernel
theorem px_d180_43 : decode prog_4_method_7_code 43 = .ok (.iload_n 1, 1) := by decide +kernel
theorem px_d180_44 : decode prog_4_method_7_code 44 = .ok (.putfield 89, 3) := by decide +kernel
theorem px_d180_47 : decode prog_4_method_7_code 47 = .ok (.aload_n 0, 1) := by decide +kernel
theorem px_d180_48 : decode prog_4_method_7_code 48 = .ok (.iload_n 2, 1) := by decide +kernel
theorem px_d180_49 : decode prog_4_method_7_code 49 = .ok (.putfield 144, 3) := by decide +kernel
theorem px_d180_52 : decode prog_4_method_7_code 52 = .ok (.aload_n 0, 1) := by decide +kernel
theorem px_d180_53 : decode prog_4_method_7_code 53 = .ok (.iconst 0, 1) := by decide +kernel
theorem px_d180_54 : decode prog_4_method_7_code 54 = .ok (.putfield 53, 3) := by decide +kernel
theorem px_d180_57 : decode prog_4_method_7_code 57 = .ok (.aload_n 0, 1) := by decide +kernel
theorem px_d180_58 : decode prog_4_method_7_code 58 = .ok (.aconst_null, 1) := by decide +kernel
theorem px_d180_59 : decode prog_4_method_7_code 59 = .ok (.putfield 68, 3) := by decide +kernel
theorem px_d180_62 : decode prog_4_method_7_code 62 = .ok (.aload_n 0, 1) := by decide +kernel
theorem px_d180_63 : decode prog_4_method_7_code 63 = .ok (.getfield 29, 3) := by decide +kernel
theorem px_d180_66 : decode prog_4_method_7_code 66 = .ok (.iconst 0, 1) := by decide +kernel
theorem px_d180_67 : decode prog_4_method_7_code 67 = .ok (.iload_n 3, 1) := by decide +kernel
theorem px_d180_68 : decode prog_4_method_7_code 68 = .ok (.lconst 0, 1) := by decide +kernel
theorem px_d180_69 : decode prog_4_method_7_code 69 = .ok (.invokestatic 145, 3) := by decide +kernel
theorem px_d180_72 : decode prog_4_method_7_code 72 = .ok (.aload_n 0, 1) := by decide +kernel
theorem px_d180_73 : decode prog_4_method_7_code 73 = .ok (.getfield 33, 3) := by decide +kernel
theorem px_d180_76 : decode prog_4_method_7_code 76 = .ok (.iconst 0, 1) := by decide +kernel
theorem px_d180_77 : decode prog_4_method_7_code 77 = .ok (.iload_n 3, 1) := by decide +kernel
theorem px_d180_78 : decode prog_4_method_7_code 78 = .ok (.lconst 0, 1) := by decide +kernel
theorem px_d180_79 : decode prog_4_method_7_code 79 = .ok (.invokestatic 145, 3) := by decide +kernel
theorem px_d180_82 : decode prog_4_method_7_code 82 = .ok (.aload_n 0, 1) := by decide +kernel
theorem px_d180_83 : decode prog_4_method_7_code 83 = .ok (.getfield 36, 3) := by decide +kernel
theorem px_d180_86 : decode prog_4_method_7_code 86 = .ok (.iconst 0, 1) := by decide +kernel
theorem px_d180_87 : decode prog_4_method_7_code 87 = .ok (.iload_n 3, 1) := by decide +kernel
theorem px_d180_88 : decode prog_4_method_7_code 88 = .ok (.lconst 0, 1) := by decide +kernel
theorem px_d180_89 : decode prog_4_method_7_code 89 = .ok (.invokestatic 145, 3) := by decide +kernel
theorem px_d180_92 : decode prog_4_method_7_code 92 = .ok (.aload_n 0, 1) := by decide +kernel
theorem px_d180_93 : decode prog_4_method_7_code 93 = .ok (.getfield 29, 3) := by decide +kernel
theorem px_d180_96 : decode prog_4_method_7_code 96 = .ok (.iconst 0, 1) := by decide +kernel
theorem px_d180_97 : decode prog_4_method_7_code 97 = .ok (.lconst 1, 1) := by decide +kernel
theorem px_d180_98 : decode prog_4_method_7_code 98 = .ok (.lastore, 1) := by decide +kernel
theorem px_d180_99 : decode prog_4_method_7_code 99 = .ok (.return_, 1) := by decide +kernel
theorem px_d181_0 : decode prog_5_method_2_code 0 = .ok (.iconst 2, 1) := by decide +kernel
theorem px_d181_1 : decode prog_5_method_2_code 1 = .ok (.iload_n 1, 1) := by decide +kernel
theorem px_d181_2 : decode prog_5_method_2_code 2 = .ok (.ishl, 1) := by decide +kernel
theorem px_d181_3 : decode prog_5_method_2_code 3 = .ok (.aload_n 0, 1) := by decide +kernel
theorem px_d181_4 : decode prog_5_method_2_code 4 = .ok (.getfield 9, 3) := by decide +kernel
theorem px_d181_7 : decode prog_5_method_2_code 7 = .ok (.arraylength, 1) := by decide +kernel
theorem px_d181_8 : decode prog_5_method_2_code 8 = .ok (.if_icmp .le 17, 3) := by decide +kernel
theorem px_d181_11 : decode prog_5_method_2_code 11 = .ok (.aload_n 0, 1) := by decide +kernel
theorem px_d181_12 : decode prog_5_method_2_code 12 = .ok (.aload_n 0, 1) := by decide +kernel
theorem px_d181_13 : decode prog_5_method_2_code 13 = .ok (.getfield 9, 3) := by decide +kernel
theorem px_d181_16 : decode prog_5_method_2_code 16 = .ok (.iconst 2, 1) := by decide +kernel
theorem px_d181_17 : decode prog_5_method_2_code 17 = .ok (.iload_n 1, 1) := by decide +kernel
theorem px_d181_18 : decode prog_5_method_2_code 18 = .ok (.ishl, 1) := by decide +kernel
theorem px_d181_19 : decode prog_5_method_2_code 19 = .ok (.invokestatic 22, 3) := by decide +kernel
theorem px_d181_22 : decode prog_5_method_2_code 22 = .ok (.putfield 9, 3) := by decide +kernel
theorem px_d181_25 : decode prog_5_method_2_code 25 = .ok (.aload_n 0, 1) := by decide +kernel
theorem px_d181_26 : decode prog_5_method_2_code 26 = .ok (.getfield 18, 3) := by decide +kernel
theorem px_d181_29 : decode prog_5_method_2_code 29 = .ok (.iload_n 1, 1) := by decide +kernel
theorem px_d181_30 : decode prog_5_method_2_code 30 = .ok (.if_icmp .ge 26, 3) := by decide +kernel
theorem px_d181_33 : decode prog_5_method_2_code 33 = .ok (.aload_n 0, 1) := by decide +kernel
theorem px_d181_34 : decode prog_5_method_2_code 34 = .ok (.aload_n 0, 1) := by decide +kernel
theorem px_d181_35 : decode prog_5_method_2_code 35 = .ok (.getfield 18, 3) := by decide +kernel
theorem px_d181_38 : decode prog_5_method_2_code 38 = .ok (.iconst 1, 1) := by decide +kernel
theorem px_d181_39 : decode prog_5_method_2_code 39 = .ok (.iadd, 1) := by decide +kernel
theorem px_d181_40 : decode prog_5_method_2_code 40 = .ok (.invokevirtual 28, 3) := by decide +kernel
theorem px_d181_43 : decode prog_5_method_2_code 43 = .ok (.aload_n 0, 1) := by decide +kernel
theorem px_d181_44 : decode prog_5_method_2_code 44 = .ok (.dup, 1) := by decide +kernel
theorem px_d181_45 : decode prog_5_method_2_code 45 = .ok (.getfield 18, 3) := by decide +kernel
theorem px_d181_48 : decode prog_5_method_2_code 48 = .ok (.iconst 1, 1) := by decide +kernel
theorem px_d181_49 : decode prog_5_method_2_code 49 = .ok (.iadd, 1) := by decide +kernel
theorem px_d181_50 : decode prog_5_method_2_code 50 = .ok (.putfield 18, 3) := by decide +kernel
theorem px_d181_53 : decode prog_5_method_2_code 53 = .ok (.goto (-28), 3) := by decide +kernel
theorem px_d181_56 : decode prog_5_method_2_code 56 = .ok (.return_, 1) := by decide +kernel
theorem px_d182_0 : decode prog_33_method_123_code 0 = .ok (.iload_n 1, 1) := by decide +kernel
theorem px_d182_1 : decode prog_33_method_123_code 1 = .ok (.aload_n 0, 1) := by decide +kernel
theorem px_d182_2 : decode prog_33_method_123_code 2 = .ok (.arraylength, 1) := by decide +kernel
theorem px_d182_3 : decode prog_33_method_123_code 3 = .ok (.if_icmp .ne 11, 3) := by decide +kernel
theorem px_d182_6 : decode prog_33_method_123_code 6 = .ok (.aload_n 0, 1) := by decide +kernel
theorem px_d182_14 : decode prog_33_method_123_code 14 = .ok (.iload_n 1, 1) := by decide +kernel
theorem px_d182_15 : decode prog_33_method_123_code 15 = .ok (.newarray .int, 2) := by decide +kernel
theorem px_d182_17 : decode prog_33_method_123_code 17 = .ok (.astore_n 2, 1) := by decide +kernel
theorem px_d182_18 : decode prog_33_method_123_code 18 = .ok (.aload_n 0, 1) := by decide +kernel
theorem px_d182_19 : decode prog_33_method_123_code 19 = .ok (.iconst 0, 1) := by decide +kernel
theorem px_d182_20 : decode prog_33_method_123_code 20 = .ok (.aload_n 2, 1) := by decide +kernel
theorem px_d182_21 : decode prog_33_method_123_code 21 = .ok (.iconst 0, 1) := by decide +kernel
theorem px_d182_22 : decode prog_33_method_123_code 22 = .ok (.aload_n 0, 1) := by decide +kernel
theorem px_d182_23 : decode prog_33_method_123_code 23 = .ok (.arraylength, 1) := by decide +kernel
theorem px_d182_24 : decode prog_33_method_123_code 24 = .ok (.iload_n 1, 1) := by decide +kernel
theorem px_d182_25 : decode prog_33_method_123_code 25 = .ok (.invokestatic 304, 3) := by decide +kernel
theorem px_d182_28 : decode prog_33_method_123_code 28 = .ok (.invokestatic 150, 3) := by decide +kernel
theorem px_d182_31 : decode prog_33_method_123_code 31 = .ok (.aload_n 2, 1) := by decide +kernel
theorem px_d182_32 : decode prog_33_method_123_code 32 = .ok (.areturn, 1) := by decide +kernel
theorem px_d183_0 : decode prog_25_method_69_code 0 = .ok (.iload_n 0, 1) := by decide +kernel
theorem px_d183_1 : decode prog_25_method_69_code 1 = .ok (.iload_n 1, 1) := by decide +kernel
theorem px_d183_2 : decode prog_25_method_69_code 2 = .ok (.if_icmp .gt 7, 3) := by decide +kernel
theorem px_d183_5 : decode prog_25_method_69_code 5 = .ok (.iload_n 0, 1) := by decide +kernel
theorem px_d183_6 : decode prog_25_method_69_code 6 = .ok (.goto 4, 3) := by decide +kernel
theorem px_d183_9 : decode prog_25_method_69_code 9 = .ok (.iload_n 1, 1) := by decide +kernel
theorem px_d183_10 : decode prog_25_method_69_code 10 = .ok (.ireturn, 1) := by decide +kernel
theorem px_d184_0 : decode prog_5_method_5_code 0 = .ok (.iconst 1, 1) := by decide +kernel
theorem px_d184_1 : decode prog_5_method_5_code 1 = .ok (.iload_n 1, 1) := by decide +kernel
theorem px_d184_2 : decode prog_5_method_5_code 2 = .ok (.iconst 1, 1) := by decide +kernel
theorem px_d184_3 : decode prog_5_method_5_code 3 = .ok (.isub, 1) := by decide +kernel
theorem px_d184_4 : decode prog_5_method_5_code 4 = .ok (.ishl, 1) := by decide +kernel
theorem px_d184_5 : decode prog_5_method_5_code 5 = .ok (.istore_n 2, 1) := by decide +kernel
theorem px_d184_6 : decode prog_5_method_5_code 6 = .ok (.iconst 1, 1) := by decide +kernel
theorem px_d184_7 : decode prog_5_method_5_code 7 = .ok (.iload_n 1, 1) := by decide +kernel
theorem px_d184_8 : decode prog_5_method_5_code 8 = .ok (.ishl, 1) := by decide +kernel
theorem px_d184_9 : decode prog_5_method_5_code 9 = .ok (.istore_n 3, 1) := by decide +kernel
theorem px_d184_10 : decode prog_5_method_5_code 10 = .ok (.iconst 0, 1) := by decide +kernel
theorem px_d184_11 : decode prog_5_method_5_code 11 = .ok (.istore 4, 2) := by decide +kernel
theorem px_d184_13 : decode prog_5_method_5_code 13 = .ok (.iload 4, 2) := by decide +kernel
theorem px_d184_15 : decode prog_5_method_5_code 15 = .ok (.iload_n 1, 1) := by decide +kernel
theorem px_d184_16 : decode prog_5_method_5_code 16 = .ok (.if_icmp .gt 125, 3) := by decide +kernel
theorem px_d184_19 : decode prog_5_method_5_code 19 = .ok (.aload_n 0, 1) := by decide +kernel
theorem px_d184_20 : decode prog_5_method_5_code 20 = .ok (.getfield 15, 3) := by decide +kernel
theorem px_d184_23 : decode prog_5_method_5_code 23 = .ok (.iload_n 1, 1) := by decide +kernel
theorem px_d184_24 : decode prog_5_method_5_code 24 = .ok (.bipush 14, 2) := by decide +kernel
theorem px_d184_26 : decode prog_5_method_5_code 26 = .ok (.imul, 1) := by decide +kernel
theorem px_d184_27 : decode prog_5_method_5_code 27 = .ok (.iload 4, 2) := by decide +kernel
theorem px_d184_29 : decode prog_5_method_5_code 29 = .ok (.iadd, 1) := by decide +kernel
theorem px_d184_30 : decode prog_5_method_5_code 30 = .ok (.iload_n 3, 1) := by decide +kernel
theorem px_d184_31 : decode prog_5_method_5_code 31 = .ok (.iconst 1, 1) := by decide +kernel
theorem px_d184_32 : decode prog_5_method_5_code 32 = .ok (.iload_n 1, 1) := by decide +kernel
theorem px_d184_33 : decode prog_5_method_5_code 33 = .ok (.ishl, 1) := by decide +kernel
theorem px_d184_34 : decode prog_5_method_5_code 34 = .ok (.isub, 1) := by decide +kernel
theorem px_d184_35 : decode prog_5_method_5_code 35 = .ok (.iastore, 1) := by decide +kernel
theorem px_d184_36 : decode prog_5_method_5_code 36 = .ok (.iconst 1, 1) := by decide +kernel
theorem px_d184_37 : decode prog_5_method_5_code 37 = .ok (.istore 5, 2) := by decide +kernel
theorem px_d184_39 : decode prog_5_method_5_code 39 = .ok (.iload 5, 2) := by decide +kernel
theorem px_d184_41 : decode prog_5_method_5_code 41 = .ok (.ifCond .lt 94, 3) := by decide +kernel
theorem px_d184_44 : decode prog_5_method_5_code 44 = .ok (.iload_n 1, 1) := by decide +kernel
theorem px_d184_45 : decode prog_5_method_5_code 45 = .ok (.iconst 1, 1) := by decide +kernel
theorem px_d184_46 : decode prog_5_method_5_code 46 = .ok (.isub, 1) := by decide +kernel
theorem px_d184_47 : decode prog_5_method_5_code 47 = .ok (.bipush 14, 2) := by decide +kernel
theorem px_d184_49 : decode prog_5_method_5_code 49 = .ok (.imul, 1) := by decide +kernel
theorem px_d184_50 : decode prog_5_method_5_code 50 = .ok (.iconst 0, 1) := by decide +kernel
theorem px_d184_51 : decode prog_5_method_5_code 51 = .ok (.iload 4, 2) := by decide +kernel
theorem px_d184_53 : decode prog_5_method_5_code 53 = .ok (.iload 5, 2) := by decide +kernel
theorem px_d184_55 : decode prog_5_method_5_code 55 = .ok (.isub, 1) := by decide +kernel
theorem px_d184_56 : decode prog_5_method_5_code 56 = .ok (.invokestatic 32, 3) := by decide +kernel
theorem px_d184_59 : decode prog_5_method_5_code 59 = .ok (.iadd, 1) := by decide +kernel
theorem px_d184_60 : decode prog_5_method_5_code 60 = .ok (.istore 6, 2) := by decide +kernel
theorem px_d184_62 : decode prog_5_method_5_code 62 = .ok (.iload 4, 2) := by decide +kernel
theorem px_d184_64 : decode prog_5_method_5_code 64 = .ok (.iload 5, 2) := by decide +kernel
theorem px_d184_66 : decode prog_5_method_5_code 66 = .ok (.if_icmp .ge 7, 3) := by decide +kernel
theorem px_d184_69 : decode prog_5_method_5_code 69 = .ok (.iconst 0, 1) := by decide +kernel
theorem px_d184_70 : decode prog_5_method_5_code 70 = .ok (.goto 12, 3) := by decide +kernel
theorem px_d184_73 : decode prog_5_method_5_code 73 = .ok (.aload_n 0, 1) := by decide +kernel
theorem px_d184_74 : decode prog_5_method_5_code 74 = .ok (.getfield 15, 3) := by decide +kernel
theorem px_d184_77 : decode prog_5_method_5_code 77 = .ok (.iload 6, 2) := by decide +kernel
theorem px_d184_79 : decode prog_5_method_5_code 79 = .ok (.iconst 1, 1) := by decide +kernel
theorem px_d184_80 : decode prog_5_method_5_code 80 = .ok (.iadd, 1) := by decide +kernel
theorem px_d184_81 : decode prog_5_method_5_code 81 = .ok (.iaload, 1) := by decide +kernel
theorem px_d184_82 : decode prog_5_method_5_code 82 = .ok (.istore 7, 2) := by decide +kernel
theorem px_d184_84 : decode prog_5_method_5_code 84 = .ok (.aload_n 0, 1) := by decide +kernel
theorem px_d184_85 : decode prog_5_method_5_code 85 = .ok (.getfield 15, 3) := by decide +kernel
theorem px_d184_88 : decode prog_5_method_5_code 88 = .ok (.iload 6, 2) := by decide +kernel
theorem px_d184_90 : decode prog_5_method_5_code 90 = .ok (.iaload, 1) := by decide +kernel
theorem px_d184_91 : decode prog_5_method_5_code 91 = .ok (.istore 8, 2) := by decide +kernel
theorem px_d184_93 : decode prog_5_method_5_code 93 = .ok (.iload 8, 2) := by decide +kernel
theorem px_d184_95 : decode prog_5_method_5_code 95 = .ok (.iload 7, 2) := by decide +kernel
theorem px_d184_97 : decode prog_5_method_5_code 97 = .ok (.if_icmp .ge 32, 3) := by decide +kernel
theorem px_d184_100 : decode prog_5_method_5_code 100 = .ok (.aload_n 0, 1) := by decide +kernel
theorem px_d184_101 : decode prog_5_method_5_code 101 = .ok (.getfield 9, 3) := by decide +kernel
theorem px_d184_104 : decode prog_5_method_5_code 104 = .ok (.iload_n 3, 1) := by decide +kernel
theorem px_d184_105 : decode prog_5_method_5_code 105 = .ok (.aload_n 0, 1) := by decide +kernel
theorem px_d184_106 : decode prog_5_method_5_code 106 = .ok (.getfield 9, 3) := by decide +kernel
theorem px_d184_109 : decode prog_5_method_5_code 109 = .ok (.iload_n 2, 1) := by decide +kernel
theorem px_d184_110 : decode prog_5_method_5_code 110 = .ok (.iload 8, 2) := by decide +kernel
theorem px_d184_112 : decode prog_5_method_5_code 112 = .ok (.iadd, 1) := by decide +kernel
theorem px_d184_113 : decode prog_5_method_5_code 113 = .ok (.iaload, 1) := by decide +kernel
theorem px_d184_114 : decode prog_5_method_5_code 114 = .ok (.iconst 1, 1) := by decide +kernel
theorem px_d184_115 : decode prog_5_method_5_code 115 = .ok (.ishl, 1) := by decide +kernel
theorem px_d184_116 : decode prog_5_method_5_code 116 = .ok (.iload 5, 2) := by decide +kernel
theorem px_d184_118 : decode prog_5_method_5_code 118 = .ok (.ior, 1) := by decide +kernel
theorem px_d184_119 : decode prog_5_method_5_code 119 = .ok (.iastore, 1) := by decide +kernel
theorem px_d184_120 : decode prog_5_method_5_code 120 = .ok (.iinc 3 1, 3) := by decide +kernel
theorem px_d184_123 : decode prog_5_method_5_code 123 = .ok (.iinc 8 1, 3) := by decide +kernel
theorem px_d184_126 : decode prog_5_method_5_code 126 = .ok (.goto (-33), 3) := by decide +kernel
theorem px_d184_129 : decode prog_5_method_5_code 129 = .ok (.iinc 5 (-1), 3) := by decide +kernel
theorem px_d184_132 : decode prog_5_method_5_code 132 = .ok (.goto (-93), 3) := by decide +kernel
theorem px_d184_135 : decode prog_5_method_5_code 135 = .ok (.iinc 4 1, 3) := by decide +kernel
theorem px_d184_138 : decode prog_5_method_5_code 138 = .ok (.goto (-125), 3) := by decide +kernel
theorem px_d184_141 : decode prog_5_method_5_code 141 = .ok (.aload_n 0, 1) := by decide +kernel
theorem px_d184_142 : decode prog_5_method_5_code 142 = .ok (.getfield 15, 3) := by decide +kernel
theorem px_d184_145 : decode prog_5_method_5_code 145 = .ok (.iload_n 1, 1) := by decide +kernel
theorem px_d184_146 : decode prog_5_method_5_code 146 = .ok (.bipush 14, 2) := by decide +kernel
theorem px_d184_148 : decode prog_5_method_5_code 148 = .ok (.imul, 1) := by decide +kernel
theorem px_d184_149 : decode prog_5_method_5_code 149 = .ok (.iload_n 1, 1) := by decide +kernel
theorem px_d184_150 : decode prog_5_method_5_code 150 = .ok (.iadd, 1) := by decide +kernel
theorem px_d184_151 : decode prog_5_method_5_code 151 = .ok (.iconst 1, 1) := by decide +kernel
theorem px_d184_152 : decode prog_5_method_5_code 152 = .ok (.iadd, 1) := by decide +kernel
theorem px_d184_153 : decode prog_5_method_5_code 153 = .ok (.iconst 1, 1) := by decide +kernel
theorem px_d184_154 : decode prog_5_method_5_code 154 = .ok (.iload_n 1, 1) := by decide +kernel
theorem px_d184_155 : decode prog_5_method_5_code 155 = .ok (.ishl, 1) := by decide +kernel
theorem px_d184_156 : decode prog_5_method_5_code 156 = .ok (.iastore, 1) := by decide +kernel
theorem px_d184_157 : decode prog_5_method_5_code 157 = .ok (.return_, 1) := by decide +kernel
theorem px_d185_0 : decode prog_25_method_65_code 0 = .ok (.iload_n 0, 1) := by decide +kernel
theorem px_d185_1 : decode prog_25_method_65_code 1 = .ok (.iload_n 1, 1) := by decide +kernel
theorem px_d185_2 : decode prog_25_method_65_code 2 = .ok (.if_icmp .lt 7, 3) := by decide +kernel
theorem px_d185_5 : decode prog_25_method_65_code 5 = .ok (.iload_n 0, 1) := by decide +kernel
theorem px_d185_6 : decode prog_25_method_65_code 6 = .ok (.goto 4, 3) := by decide +kernel
theorem px_d185_9 : decode prog_25_method_65_code 9 = .ok (.iload_n 1, 1) := by decide +kernel
theorem px_d185_10 : decode prog_25_method_65_code 10 = .ok (.ireturn, 1) := by decide +kernel
theorem px_d186_0 : decode prog_33_method_102_code 0 = .ok (.aload_n 0, 1) := by decide +kernel
theorem px_d186_1 : decode prog_33_method_102_code 1 = .ok (.arraylength, 1) := by decide +kernel
theorem px_d186_2 : decode prog_33_method_102_code 2 = .ok (.iload_n 1, 1) := by decide +kernel
theorem px_d186_3 : decode prog_33_method_102_code 3 = .ok (.iload_n 2, 1) := by decide +kernel
theorem px_d186_4 : decode prog_33_method_102_code 4 = .ok (.invokestatic 13, 3) := by decide +kernel
theorem px_d186_7 : decode prog_33_method_102_code 7 = .ok (.iload_n 1, 1) := by decide +kernel
theorem px_d186_8 : decode prog_33_method_102_code 8 = .ok (.istore 5, 2) := by decide +kernel
theorem px_d186_10 : decode prog_33_method_102_code 10 = .ok (.iload 5, 2) := by decide +kernel
theorem px_d186_12 : decode prog_33_method_102_code 12 = .ok (.iload_n 2, 1) := by decide +kernel
theorem px_d186_13 : decode prog_33_method_102_code 13 = .ok (.if_icmp .ge 14, 3) := by decide +kernel
theorem px_d186_16 : decode prog_33_method_102_code 16 = .ok (.aload_n 0, 1) := by decide +kernel
theorem px_d186_17 : decode prog_33_method_102_code 17 = .ok (.iload 5, 2) := by decide +kernel
theorem px_d186_19 : decode prog_33_method_102_code 19 = .ok (.lload_n 3, 1) := by decide +kernel
theorem px_d186_20 : decode prog_33_method_102_code 20 = .ok (.lastore, 1) := by decide +kernel
theorem px_d186_21 : decode prog_33_method_102_code 21 = .ok (.iinc 5 1, 3) := by decide +kernel
theorem px_d186_24 : decode prog_33_method_102_code 24 = .ok (.goto (-14), 3) := by decide +kernel
theorem px_d186_27 : decode prog_33_method_102_code 27 = .ok (.return_, 1) := by decide +kernel
theorem px_d187_0 : decode prog_33_method_30_code 0 = .ok (.iload_n 1, 1) := by decide +kernel
theorem px_d187_1 : decode prog_33_method_30_code 1 = .ok (.iload_n 2, 1) := by decide +kernel
theorem px_d187_2 : decode prog_33_method_30_code 2 = .ok (.if_icmp .le 44, 3) := by decide +kernel
theorem px_d187_46 : decode prog_33_method_30_code 46 = .ok (.iload_n 1, 1) := by decide +kernel
theorem px_d187_47 : decode prog_33_method_30_code 47 = .ok (.ifCond .ge 12, 3) := by decide +kernel
theorem px_d187_59 : decode prog_33_method_30_code 59 = .ok (.iload_n 2, 1) := by decide +kernel
theorem px_d187_60 : decode prog_33_method_30_code 60 = .ok (.iload_n 0, 1) := by decide +kernel
theorem px_d187_61 : decode prog_33_method_30_code 61 = .ok (.if_icmp .le 12, 3) := by decide +kernel
theorem px_d187_73 : decode prog_33_method_30_code 73 = .ok (.return_, 1) := by decide +kernel
theorem px_d200_0 : decode prog_33_method_121_code 0 = .ok (.iload_n 1, 1) := by decide +kernel
theorem px_d200_1 : decode prog_33_method_121_code 1 = .ok (.aload_n 0, 1) := by decide +kernel
theorem px_d200_2 : decode prog_33_method_121_code 2 = .ok (.arraylength, 1) := by decide +kernel
theorem px_d200_3 : decode prog_33_method_121_code 3 = .ok (.if_icmp .ne 11, 3) := by decide +kernel
theorem px_d200_6 : decode prog_33_method_121_code 6 = .ok (.aload_n 0, 1) := by decide +kernel
theorem px_d200_14 : decode prog_33_method_121_code 14 = .ok (.iload_n 1, 1) := by decide +kernel
theorem px_d200_15 : decode prog_33_method_121_code 15 = .ok (.newarray .byte, 2) := by decide +kernel
theorem px_d200_17 : decode prog_33_method_121_code 17 = .ok (.astore_n 2, 1) := by decide +kernel
theorem px_d200_18 : decode prog_33_method_121_code 18 = .ok (.aload_n 0, 1) := by decide +kernel
theorem px_d200_19 : decode prog_33_method_121_code 19 = .ok (.iconst 0, 1) := by decide +kernel
theorem px_d200_20 : decode prog_33_method_121_code 20 = .ok (.aload_n 2, 1) := by decide +kernel
theorem px_d200_21 : decode prog_33_method_121_code 21 = .ok (.iconst 0, 1) := by decide +kernel
theorem px_d200_22 : decode prog_33_method_121_code 22 = .ok (.aload_n 0, 1) := by decide +kernel
theorem px_d200_23 : decode prog_33_method_121_code 23 = .ok (.arraylength, 1) := by decide +kernel
theorem px_d200_24 : decode prog_33_method_121_code 24 = .ok (.iload_n 1, 1) := by decide +kernel
theorem px_d200_25 : decode prog_33_method_121_code 25 = .ok (.invokestatic 304, 3) := by decide +kernel
theorem px_d200_28 : decode prog_33_method_121_code 28 = .ok (.invokestatic 150, 3) := by decide +kernel
theorem px_d200_31 : decode prog_33_method_121_code 31 = .ok (.aload_n 2, 1) := by decide +kernel
theorem px_d200_32 : decode prog_33_method_121_code 32 = .ok (.areturn, 1) := by decide +kernel
theorem px_d238_0 : decode prog_4_method_8_code 0 = .ok (.aload_n 0, 1) := by decide +kernel
theorem px_d238_1 : decode prog_4_method_8_code 1 = .ok (.getfield 53, 3) := by decide +kernel
theorem px_d238_4 : decode prog_4_method_8_code 4 = .ok (.aload_n 0, 1) := by decide +kernel
theorem px_d238_5 : decode prog_4_method_8_code 5 = .ok (.getfield 144, 3) := by decide +kernel
theorem px_d238_8 : decode prog_4_method_8_code 8 = .ok (.if_icmp .lt 5, 3) := by decide +kernel
theorem px_d238_11 : decode prog_4_method_8_code 11 = .ok (.iconst 0, 1) := by decide +kernel
theorem px_d238_12 : decode prog_4_method_8_code 12 = .ok (.ireturn, 1) := by decide +kernel
theorem px_d238_13 : decode prog_4_method_8_code 13 = .ok (.iconst 0, 1) := by decide +kernel
theorem px_d238_14 : decode prog_4_method_8_code 14 = .ok (.istore_n 3, 1) := by decide +kernel
theorem px_d238_15 : decode prog_4_method_8_code 15 = .ok (.aload_n 0, 1) := by decide +kernel
theorem px_d238_16 : decode prog_4_method_8_code 16 = .ok (.getfield 7, 3) := by decide +kernel
theorem px_d238_19 : decode prog_4_method_8_code 19 = .ok (.aload_n 0, 1) := by decide +kernel
theorem px_d238_20 : decode prog_4_method_8_code 20 = .ok (.getfield 144, 3) := by decide +kernel
theorem px_d238_23 : decode prog_4_method_8_code 23 = .ok (.aload_n 0, 1) := by decide +kernel
theorem px_d238_24 : decode prog_4_method_8_code 24 = .ok (.getfield 53, 3) := by decide +kernel
theorem px_d238_27 : decode prog_4_method_8_code 27 = .ok (.iconst 2, 1) := by decide +kernel
theorem px_d238_28 : decode prog_4_method_8_code 28 = .ok (.iadd, 1) := by decide +kernel
theorem px_d238_29 : decode prog_4_method_8_code 29 = .ok (.invokevirtual 151, 3) := by decide +kernel
theorem px_d238_32 : decode prog_4_method_8_code 32 = .ok (.istore 4, 2) := by decide +kernel
theorem px_d238_34 : decode prog_4_method_8_code 34 = .ok (.aload_n 0, 1) := by decide +kernel
theorem px_d238_35 : decode prog_4_method_8_code 35 = .ok (.getfield 7, 3) := by decide +kernel
theorem px_d238_38 : decode prog_4_method_8_code 38 = .ok (.aload_n 0, 1) := by decide +kernel
theorem px_d238_39 : decode prog_4_method_8_code 39 = .ok (.getfield 144, 3) := by decide +kernel
theorem px_d238_42 : decode prog_4_method_8_code 42 = .ok (.aload_n 0, 1) := by decide +kernel
theorem px_d238_43 : decode prog_4_method_8_code 43 = .ok (.getfield 53, 3) := by decide +kernel
theorem px_d238_46 : decode prog_4_method_8_code 46 = .ok (.iconst 1, 1) := by decide +kernel
theorem px_d238_47 : decode prog_4_method_8_code 47 = .ok (.iadd, 1) := by decide +kernel
theorem px_d238_48 : decode prog_4_method_8_code 48 = .ok (.invokevirtual 151, 3) := by decide +kernel
theorem px_d238_51 : decode prog_4_method_8_code 51 = .ok (.istore 5, 2) := by decide +kernel
theorem px_d238_53 : decode prog_4_method_8_code 53 = .ok (.iload 5, 2) := by decide +kernel
theorem px_d238_55 : decode prog_4_method_8_code 55 = .ok (.iload 4, 2) := by decide +kernel
