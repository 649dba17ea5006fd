theorem px_d79_0 : decode prog_15_method_34_code 0 = .ok (.iconst 0, 1) := by decide +kernel
theorem px_d79_1 : decode prog_15_method_34_code 1 = .ok (.istore_n 2, 1) := by decide +kernel
theorem px_d79_2 : decode prog_15_method_34_code 2 = .ok (.iload_n 2, 1) := by decide +kernel
theorem px_d79_3 : decode prog_15_method_34_code 3 = .ok (.sipush 169, 3) := by decide +kernel
theorem px_d79_6 : decode prog_15_method_34_code 6 = .ok (.if_icmp .ge 16, 3) := by decide +kernel
theorem px_d79_9 : decode prog_15_method_34_code 9 = .ok (.aload_n 0, 1) := by decide +kernel
theorem px_d79_10 : decode prog_15_method_34_code 10 = .ok (.getfield 190, 3) := by decide +kernel
theorem px_d79_13 : decode prog_15_method_34_code 13 = .ok (.iload_n 2, 1) := by decide +kernel
theorem px_d79_14 : decode prog_15_method_34_code 14 = .ok (.lconst 0, 1) := by decide +kernel
theorem px_d79_15 : decode prog_15_method_34_code 15 = .ok (.lastore, 1) := by decide +kernel
theorem px_d79_16 : decode prog_15_method_34_code 16 = .ok (.iinc 2 1, 3) := by decide +kernel
theorem px_d79_19 : decode prog_15_method_34_code 19 = .ok (.goto (-17), 3) := by decide +kernel
theorem px_d79_22 : decode prog_15_method_34_code 22 = .ok (.iconst 0, 1) := by decide +kernel
theorem px_d79_23 : decode prog_15_method_34_code 23 = .ok (.istore_n 2, 1) := by decide +kernel
theorem px_d79_24 : decode prog_15_method_34_code 24 = .ok (.iload_n 2, 1) := by decide +kernel
theorem px_d79_25 : decode prog_15_method_34_code 25 = .ok (.bipush 13, 2) := by decide +kernel
theorem px_d79_27 : decode prog_15_method_34_code 27 = .ok (.if_icmp .ge 79, 3) := by decide +kernel
theorem px_d79_30 : decode prog_15_method_34_code 30 = .ok (.iconst 0, 1) := by decide +kernel
theorem px_d79_31 : decode prog_15_method_34_code 31 = .ok (.istore_n 3, 1) := by decide +kernel
theorem px_d79_32 : decode prog_15_method_34_code 32 = .ok (.iload_n 3, 1) := by decide +kernel
theorem px_d79_33 : decode prog_15_method_34_code 33 = .ok (.bipush 13, 2) := by decide +kernel
theorem px_d79_35 : decode prog_15_method_34_code 35 = .ok (.if_icmp .ge 65, 3) := by decide +kernel
theorem px_d79_38 : decode prog_15_method_34_code 38 = .ok (.aload_n 0, 1) := by decide +kernel
theorem px_d79_39 : decode prog_15_method_34_code 39 = .ok (.getfield 194, 3) := by decide +kernel
theorem px_d79_42 : decode prog_15_method_34_code 42 = .ok (.bipush 13, 2) := by decide +kernel
theorem px_d79_44 : decode prog_15_method_34_code 44 = .ok (.iload_n 2, 1) := by decide +kernel
theorem px_d79_45 : decode prog_15_method_34_code 45 = .ok (.imul, 1) := by decide +kernel
theorem px_d79_46 : decode prog_15_method_34_code 46 = .ok (.iload_n 3, 1) := by decide +kernel
theorem px_d79_47 : decode prog_15_method_34_code 47 = .ok (.iadd, 1) := by decide +kernel
theorem px_d79_48 : decode prog_15_method_34_code 48 = .ok (.iload_n 3, 1) := by decide +kernel
theorem px_d79_49 : decode prog_15_method_34_code 49 = .ok (.ifCond .ne 7, 3) := by decide +kernel
theorem px_d79_52 : decode prog_15_method_34_code 52 = .ok (.lconst 1, 1) := by decide +kernel
theorem px_d79_53 : decode prog_15_method_34_code 53 = .ok (.goto 40, 3) := by decide +kernel
theorem px_d79_56 : decode prog_15_method_34_code 56 = .ok (.iload_n 2, 1) := by decide +kernel
theorem px_d79_57 : decode prog_15_method_34_code 57 = .ok (.ifCond .ne 7, 3) := by decide +kernel
theorem px_d79_60 : decode prog_15_method_34_code 60 = .ok (.lconst 0, 1) := by decide +kernel
theorem px_d79_61 : decode prog_15_method_34_code 61 = .ok (.goto 32, 3) := by decide +kernel
theorem px_d79_64 : decode prog_15_method_34_code 64 = .ok (.aload_n 0, 1) := by decide +kernel
theorem px_d79_65 : decode prog_15_method_34_code 65 = .ok (.getfield 194, 3) := by decide +kernel
theorem px_d79_68 : decode prog_15_method_34_code 68 = .ok (.bipush 13, 2) := by decide +kernel
theorem px_d79_70 : decode prog_15_method_34_code 70 = .ok (.iload_n 2, 1) := by decide +kernel
theorem px_d79_71 : decode prog_15_method_34_code 71 = .ok (.iconst 1, 1) := by decide +kernel
theorem px_d79_72 : decode prog_15_method_34_code 72 = .ok (.isub, 1) := by decide +kernel
theorem px_d79_73 : decode prog_15_method_34_code 73 = .ok (.imul, 1) := by decide +kernel
theorem px_d79_74 : decode prog_15_method_34_code 74 = .ok (.iload_n 3, 1) := by decide +kernel
theorem px_d79_75 : decode prog_15_method_34_code 75 = .ok (.iadd, 1) := by decide +kernel
theorem px_d79_76 : decode prog_15_method_34_code 76 = .ok (.laload, 1) := by decide +kernel
theorem px_d79_77 : decode prog_15_method_34_code 77 = .ok (.aload_n 0, 1) := by decide +kernel
theorem px_d79_78 : decode prog_15_method_34_code 78 = .ok (.getfield 194, 3) := by decide +kernel
theorem px_d79_81 : decode prog_15_method_34_code 81 = .ok (.bipush 13, 2) := by decide +kernel
theorem px_d79_83 : decode prog_15_method_34_code 83 = .ok (.iload_n 2, 1) := by decide +kernel
theorem px_d79_84 : decode prog_15_method_34_code 84 = .ok (.iconst 1, 1) := by decide +kernel
theorem px_d79_85 : decode prog_15_method_34_code 85 = .ok (.isub, 1) := by decide +kernel
theorem px_d79_86 : decode prog_15_method_34_code 86 = .ok (.imul, 1) := by decide +kernel
theorem px_d79_87 : decode prog_15_method_34_code 87 = .ok (.iload_n 3, 1) := by decide +kernel
theorem px_d79_88 : decode prog_15_method_34_code 88 = .ok (.iadd, 1) := by decide +kernel
theorem px_d79_89 : decode prog_15_method_34_code 89 = .ok (.iconst 1, 1) := by decide +kernel
theorem px_d79_90 : decode prog_15_method_34_code 90 = .ok (.isub, 1) := by decide +kernel
theorem px_d79_91 : decode prog_15_method_34_code 91 = .ok (.laload, 1) := by decide +kernel
theorem px_d79_92 : decode prog_15_method_34_code 92 = .ok (.ladd, 1) := by decide +kernel
theorem px_d79_93 : decode prog_15_method_34_code 93 = .ok (.lastore, 1) := by decide +kernel
theorem px_d79_94 : decode prog_15_method_34_code 94 = .ok (.iinc 3 1, 3) := by decide +kernel
theorem px_d79_97 : decode prog_15_method_34_code 97 = .ok (.goto (-65), 3) := by decide +kernel
theorem px_d79_100 : decode prog_15_method_34_code 100 = .ok (.iinc 2 1, 3) := by decide +kernel
theorem px_d79_103 : decode prog_15_method_34_code 103 = .ok (.goto (-79), 3) := by decide +kernel
theorem px_d79_106 : decode prog_15_method_34_code 106 = .ok (.iconst 0, 1) := by decide +kernel
theorem px_d79_107 : decode prog_15_method_34_code 107 = .ok (.istore_n 2, 1) := by decide +kernel
theorem px_d79_108 : decode prog_15_method_34_code 108 = .ok (.iload_n 2, 1) := by decide +kernel
theorem px_d79_109 : decode prog_15_method_34_code 109 = .ok (.aload_n 0, 1) := by decide +kernel
theorem px_d79_110 : decode prog_15_method_34_code 110 = .ok (.iload_n 1, 1) := by decide +kernel
theorem px_d79_111 : decode prog_15_method_34_code 111 = .ok (.invokevirtual 262, 3) := by decide +kernel
theorem px_d79_114 : decode prog_15_method_34_code 114 = .ok (.if_icmp .gt 136, 3) := by decide +kernel
theorem px_d79_117 : decode prog_15_method_34_code 117 = .ok (.aload_n 0, 1) := by decide +kernel
theorem px_d79_118 : decode prog_15_method_34_code 118 = .ok (.getfield 163, 3) := by decide +kernel
theorem px_d79_121 : decode prog_15_method_34_code 121 = .ok (.iload_n 1, 1) := by decide +kernel
theorem px_d79_122 : decode prog_15_method_34_code 122 = .ok (.iaload, 1) := by decide +kernel
theorem px_d79_123 : decode prog_15_method_34_code 123 = .ok (.aload_n 0, 1) := by decide +kernel
theorem px_d79_124 : decode prog_15_method_34_code 124 = .ok (.iload_n 1, 1) := by decide +kernel
theorem px_d79_125 : decode prog_15_method_34_code 125 = .ok (.iload_n 2, 1) := by decide +kernel
theorem px_d79_126 : decode prog_15_method_34_code 126 = .ok (.invokevirtual 258, 3) := by decide +kernel
theorem px_d79_129 : decode prog_15_method_34_code 129 = .ok (.isub, 1) := by decide +kernel
theorem px_d79_130 : decode prog_15_method_34_code 130 = .ok (.istore_n 3, 1) := by decide +kernel
theorem px_d79_131 : decode prog_15_method_34_code 131 = .ok (.aload_n 0, 1) := by decide +kernel
theorem px_d79_132 : decode prog_15_method_34_code 132 = .ok (.getfield 187, 3) := by decide +kernel
theorem px_d79_135 : decode prog_15_method_34_code 135 = .ok (.iload_n 2, 1) := by decide +kernel
theorem px_d79_136 : decode prog_15_method_34_code 136 = .ok (.iaload, 1) := by decide +kernel
theorem px_d79_137 : decode prog_15_method_34_code 137 = .ok (.aload_n 0, 1) := by decide +kernel
theorem px_d79_138 : decode prog_15_method_34_code 138 = .ok (.iload_n 1, 1) := by decide +kernel
theorem px_d79_139 : decode prog_15_method_34_code 139 = .ok (.iload_n 2, 1) := by decide +kernel
theorem px_d79_140 : decode prog_15_method_34_code 140 = .ok (.invokevirtual 258, 3) := by decide +kernel
theorem px_d79_143 : decode prog_15_method_34_code 143 = .ok (.isub, 1) := by decide +kernel
theorem px_d79_144 : decode prog_15_method_34_code 144 = .ok (.istore 4, 2) := by decide +kernel
theorem px_d79_146 : decode prog_15_method_34_code 146 = .ok (.iconst 0, 1) := by decide +kernel
theorem px_d79_147 : decode prog_15_method_34_code 147 = .ok (.istore 5, 2) := by decide +kernel
theorem px_d79_149 : decode prog_15_method_34_code 149 = .ok (.iload 5, 2) := by decide +kernel
theorem px_d79_151 : decode prog_15_method_34_code 151 = .ok (.iload_n 3, 1) := by decide +kernel
theorem px_d79_152 : decode prog_15_method_34_code 152 = .ok (.if_icmp .gt 92, 3) := by decide +kernel
theorem px_d79_155 : decode prog_15_method_34_code 155 = .ok (.iconst 0, 1) := by decide +kernel
theorem px_d79_156 : decode prog_15_method_34_code 156 = .ok (.istore 6, 2) := by decide +kernel
theorem px_d79_158 : decode prog_15_method_34_code 158 = .ok (.iload 6, 2) := by decide +kernel
theorem px_d79_160 : decode prog_15_method_34_code 160 = .ok (.iload 4, 2) := by decide +kernel
theorem px_d79_162 : decode prog_15_method_34_code 162 = .ok (.if_icmp .gt 76, 3) := by decide +kernel
theorem px_d79_165 : decode prog_15_method_34_code 165 = .ok (.aload_n 0, 1) := by decide +kernel
theorem px_d79_166 : decode prog_15_method_34_code 166 = .ok (.getfield 194, 3) := by decide +kernel
theorem px_d79_169 : decode prog_15_method_34_code 169 = .ok (.bipush 13, 2) := by decide +kernel
theorem px_d79_171 : decode prog_15_method_34_code 171 = .ok (.iload_n 3, 1) := by decide +kernel
theorem px_d79_172 : decode prog_15_method_34_code 172 = .ok (.imul, 1) := by decide +kernel
theorem px_d79_173 : decode prog_15_method_34_code 173 = .ok (.iload 5, 2) := by decide +kernel
theorem px_d79_175 : decode prog_15_method_34_code 175 = .ok (.iadd, 1) := by decide +kernel
theorem px_d79_176 : decode prog_15_method_34_code 176 = .ok (.laload, 1) := by decide +kernel
theorem px_d79_177 : decode prog_15_method_34_code 177 = .ok (.aload_n 0, 1) := by decide +kernel
theorem px_d79_178 : decode prog_15_method_34_code 178 = .ok (.getfield 194, 3) := by decide +kernel
theorem px_d79_181 : decode prog_15_method_34_code 181 = .ok (.bipush 13, 2) := by decide +kernel
theorem px_d79_183 : decode prog_15_method_34_code 183 = .ok (.iload 4, 2) := by decide +kernel
theorem px_d79_185 : decode prog_15_method_34_code 185 = .ok (.imul, 1) := by decide +kernel
theorem px_d79_186 : decode prog_15_method_34_code 186 = .ok (.iload 6, 2) := by decide +kernel
theorem px_d79_188 : decode prog_15_method_34_code 188 = .ok (.iadd, 1) := by decide +kernel
theorem px_d79_189 : decode prog_15_method_34_code 189 = .ok (.laload, 1) := by decide +kernel
theorem px_d79_190 : decode prog_15_method_34_code 190 = .ok (.lmul, 1) := by decide +kernel
theorem px_d79_191 : decode prog_15_method_34_code 191 = .ok (.lstore 7, 2) := by decide +kernel
theorem px_d79_193 : decode prog_15_method_34_code 193 = .ok (.aload_n 0, 1) := by decide +kernel
theorem px_d79_194 : decode prog_15_method_34_code 194 = .ok (.getfield 190, 3) := by decide +kernel
theorem px_d79_197 : decode prog_15_method_34_code 197 = .ok (.bipush 13, 2) := by decide +kernel
theorem px_d79_199 : decode prog_15_method_34_code 199 = .ok (.iload 5, 2) := by decide +kernel
theorem px_d79_201 : decode prog_15_method_34_code 201 = .ok (.imul, 1) := by decide +kernel
theorem px_d79_202 : decode prog_15_method_34_code 202 = .ok (.iload 6, 2) := by decide +kernel
theorem px_d79_204 : decode prog_15_method_34_code 204 = .ok (.iadd, 1) := by decide +kernel
theorem px_d79_205 : decode prog_15_method_34_code 205 = .ok (.dup2, 1) := by decide +kernel
theorem px_d79_206 : decode prog_15_method_34_code 206 = .ok (.laload, 1) := by decide +kernel
theorem px_d79_207 : decode prog_15_method_34_code 207 = .ok (.iload_n 3, 1) := by decide +kernel
theorem px_d79_208 : decode prog_15_method_34_code 208 = .ok (.iload 5, 2) := by decide +kernel
theorem px_d79_210 : decode prog_15_method_34_code 210 = .ok (.isub, 1) := by decide +kernel
theorem px_d79_211 : decode prog_15_method_34_code 211 = .ok (.iload 4, 2) := by decide +kernel
theorem px_d79_213 : decode prog_15_method_34_code 213 = .ok (.iadd, 1) := by decide +kernel
theorem px_d79_214 : decode prog_15_method_34_code 214 = .ok (.iload 6, 2) := by decide +kernel
theorem px_d79_216 : decode prog_15_method_34_code 216 = .ok (.isub, 1) := by decide +kernel
theorem px_d79_217 : decode prog_15_method_34_code 217 = .ok (.iconst 2, 1) := by decide +kernel
theorem px_d79_218 : decode prog_15_method_34_code 218 = .ok (.irem, 1) := by decide +kernel
theorem px_d79_219 : decode prog_15_method_34_code 219 = .ok (.ifCond .ne 8, 3) := by decide +kernel
theorem px_d79_222 : decode prog_15_method_34_code 222 = .ok (.lload 7, 2) := by decide +kernel
theorem px_d79_224 : decode prog_15_method_34_code 224 = .ok (.goto 6, 3) := by decide +kernel
theorem px_d79_227 : decode prog_15_method_34_code 227 = .ok (.lload 7, 2) := by decide +kernel
theorem px_d79_229 : decode prog_15_method_34_code 229 = .ok (.lneg, 1) := by decide +kernel
theorem px_d79_230 : decode prog_15_method_34_code 230 = .ok (.ladd, 1) := by decide +kernel
theorem px_d79_231 : decode prog_15_method_34_code 231 = .ok (.lastore, 1) := by decide +kernel
theorem px_d79_232 : decode prog_15_method_34_code 232 = .ok (.iinc 6 1, 3) := by decide +kernel
theorem px_d79_235 : decode prog_15_method_34_code 235 = .ok (.goto (-77), 3) := by decide +kernel
theorem px_d79_238 : decode prog_15_method_34_code 238 = .ok (.iinc 5 1, 3) := by decide +kernel
theorem px_d79_241 : decode prog_15_method_34_code 241 = .ok (.goto (-92), 3) := by decide +kernel
theorem px_d79_244 : decode prog_15_method_34_code 244 = .ok (.iinc 2 1, 3) := by decide +kernel
theorem px_d79_247 : decode prog_15_method_34_code 247 = .ok (.goto (-139), 3) := by decide +kernel
theorem px_d79_250 : decode prog_15_method_34_code 250 = .ok (.return_, 1) := by decide +kernel
theorem px_d87_0 : decode prog_15_method_42_code 0 = .ok (.aload_n 0, 1) := by decide +kernel
theorem px_d87_1 : decode prog_15_method_42_code 1 = .ok (.iload_n 1, 1) := by decide +kernel
theorem px_d87_2 : decode prog_15_method_42_code 2 = .ok (.iload 4, 2) := by decide +kernel
theorem px_d87_4 : decode prog_15_method_42_code 4 = .ok (.invokevirtual 258, 3) := by decide +kernel
theorem px_d87_7 : decode prog_15_method_42_code 7 = .ok (.istore 5, 2) := by decide +kernel
theorem px_d87_9 : decode prog_15_method_42_code 9 = .ok (.aload_n 0, 1) := by decide +kernel
theorem px_d87_10 : decode prog_15_method_42_code 10 = .ok (.iload_n 1, 1) := by decide +kernel
theorem px_d87_11 : decode prog_15_method_42_code 11 = .ok (.iload_n 3, 1) := by decide +kernel
theorem px_d87_12 : decode prog_15_method_42_code 12 = .ok (.iload 4, 2) := by decide +kernel
theorem px_d87_14 : decode prog_15_method_42_code 14 = .ok (.ior, 1) := by decide +kernel
theorem px_d87_15 : decode prog_15_method_42_code 15 = .ok (.invokevirtual 258, 3) := by decide +kernel
theorem px_d87_18 : decode prog_15_method_42_code 18 = .ok (.iload 5, 2) := by decide +kernel
theorem px_d87_20 : decode prog_15_method_42_code 20 = .ok (.isub, 1) := by decide +kernel
theorem px_d87_21 : decode prog_15_method_42_code 21 = .ok (.aload_n 0, 1) := by decide +kernel
theorem px_d87_22 : decode prog_15_method_42_code 22 = .ok (.getfield 163, 3) := by decide +kernel
theorem px_d87_25 : decode prog_15_method_42_code 25 = .ok (.iload_n 2, 1) := by decide +kernel
theorem px_d87_26 : decode prog_15_method_42_code 26 = .ok (.iaload, 1) := by decide +kernel
theorem px_d87_27 : decode prog_15_method_42_code 27 = .ok (.if_icmp .eq 5, 3) := by decide +kernel
theorem px_d87_30 : decode prog_15_method_42_code 30 = .ok (.iconst 0, 1) := by decide +kernel
theorem px_d87_31 : decode prog_15_method_42_code 31 = .ok (.ireturn, 1) := by decide +kernel
theorem px_d87_32 : decode prog_15_method_42_code 32 = .ok (.iconst 0, 1) := by decide +kernel
theorem px_d87_33 : decode prog_15_method_42_code 33 = .ok (.istore 6, 2) := by decide +kernel
theorem px_d87_35 : decode prog_15_method_42_code 35 = .ok (.iload 6, 2) := by decide +kernel
theorem px_d87_37 : decode prog_15_method_42_code 37 = .ok (.sipush 169, 3) := by decide +kernel
theorem px_d87_40 : decode prog_15_method_42_code 40 = .ok (.if_icmp .ge 17, 3) := by decide +kernel
theorem px_d87_43 : decode prog_15_method_42_code 43 = .ok (.aload_n 0, 1) := by decide +kernel
theorem px_d87_44 : decode prog_15_method_42_code 44 = .ok (.getfield 203, 3) := by decide +kernel
theorem px_d87_47 : decode prog_15_method_42_code 47 = .ok (.iload 6, 2) := by decide +kernel
theorem px_d87_49 : decode prog_15_method_42_code 49 = .ok (.iconst 0, 1) := by decide +kernel
theorem px_d87_50 : decode prog_15_method_42_code 50 = .ok (.iastore, 1) := by decide +kernel
theorem px_d87_51 : decode prog_15_method_42_code 51 = .ok (.iinc 6 1, 3) := by decide +kernel
theorem px_d87_54 : decode prog_15_method_42_code 54 = .ok (.goto (-19), 3) := by decide +kernel
theorem px_d87_57 : decode prog_15_method_42_code 57 = .ok (.iconst 0, 1) := by decide +kernel
theorem px_d87_58 : decode prog_15_method_42_code 58 = .ok (.istore 6, 2) := by decide +kernel
theorem px_d87_60 : decode prog_15_method_42_code 60 = .ok (.iload 6, 2) := by decide +kernel
theorem px_d87_62 : decode prog_15_method_42_code 62 = .ok (.aload_n 0, 1) := by decide +kernel
theorem px_d87_63 : decode prog_15_method_42_code 63 = .ok (.iload_n 2, 1) := by decide +kernel
theorem px_d87_64 : decode prog_15_method_42_code 64 = .ok (.invokevirtual 262, 3) := by decide +kernel
theorem px_d87_67 : decode prog_15_method_42_code 67 = .ok (.if_icmp .gt 36, 3) := by decide +kernel
theorem px_d87_70 : decode prog_15_method_42_code 70 = .ok (.aload_n 0, 1) := by decide +kernel
theorem px_d87_71 : decode prog_15_method_42_code 71 = .ok (.getfield 203, 3) := by decide +kernel
theorem px_d87_74 : decode prog_15_method_42_code 74 = .ok (.bipush 13, 2) := by decide +kernel
theorem px_d87_76 : decode prog_15_method_42_code 76 = .ok (.aload_n 0, 1) := by decide +kernel
theorem px_d87_77 : decode prog_15_method_42_code 77 = .ok (.getfield 187, 3) := by decide +kernel
theorem px_d87_80 : decode prog_15_method_42_code 80 = .ok (.iload 6, 2) := by decide +kernel
theorem px_d87_82 : decode prog_15_method_42_code 82 = .ok (.iaload, 1) := by decide +kernel
theorem px_d87_83 : decode prog_15_method_42_code 83 = .ok (.imul, 1) := by decide +kernel
theorem px_d87_84 : decode prog_15_method_42_code 84 = .ok (.aload_n 0, 1) := by decide +kernel
theorem px_d87_85 : decode prog_15_method_42_code 85 = .ok (.iload_n 2, 1) := by decide +kernel
theorem px_d87_86 : decode prog_15_method_42_code 86 = .ok (.iload 6, 2) := by decide +kernel
theorem px_d87_88 : decode prog_15_method_42_code 88 = .ok (.invokevirtual 258, 3) := by decide +kernel
theorem px_d87_91 : decode prog_15_method_42_code 91 = .ok (.iadd, 1) := by decide +kernel
theorem px_d87_92 : decode prog_15_method_42_code 92 = .ok (.dup2, 1) := by decide +kernel
theorem px_d87_93 : decode prog_15_method_42_code 93 = .ok (.iaload, 1) := by decide +kernel
theorem px_d87_94 : decode prog_15_method_42_code 94 = .ok (.iconst 1, 1) := by decide +kernel
theorem px_d87_95 : decode prog_15_method_42_code 95 = .ok (.iadd, 1) := by decide +kernel
theorem px_d87_96 : decode prog_15_method_42_code 96 = .ok (.iastore, 1) := by decide +kernel
theorem px_d87_97 : decode prog_15_method_42_code 97 = .ok (.iinc 6 1, 3) := by decide +kernel
theorem px_d87_100 : decode prog_15_method_42_code 100 = .ok (.goto (-40), 3) := by decide +kernel
theorem px_d87_103 : decode prog_15_method_42_code 103 = .ok (.iload_n 3, 1) := by decide +kernel
theorem px_d87_104 : decode prog_15_method_42_code 104 = .ok (.istore 6, 2) := by decide +kernel
theorem px_d87_106 : decode prog_15_method_42_code 106 = .ok (.iload 6, 2) := by decide +kernel
theorem px_d87_108 : decode prog_15_method_42_code 108 = .ok (.ifCond .lt 56, 3) := by decide +kernel
theorem px_d87_111 : decode prog_15_method_42_code 111 = .ok (.aload_n 0, 1) := by decide +kernel
theorem px_d87_112 : decode prog_15_method_42_code 112 = .ok (.getfield 203, 3) := by decide +kernel
theorem px_d87_115 : decode prog_15_method_42_code 115 = .ok (.bipush 13, 2) := by decide +kernel
theorem px_d87_117 : decode prog_15_method_42_code 117 = .ok (.aload_n 0, 1) := by decide +kernel
theorem px_d87_118 : decode prog_15_method_42_code 118 = .ok (.getfield 187, 3) := by decide +kernel
theorem px_d87_121 : decode prog_15_method_42_code 121 = .ok (.iload 6, 2) := by decide +kernel
theorem px_d87_123 : decode prog_15_method_42_code 123 = .ok (.iaload, 1) := by decide +kernel
theorem px_d87_124 : decode prog_15_method_42_code 124 = .ok (.imul, 1) := by decide +kernel
theorem px_d87_125 : decode prog_15_method_42_code 125 = .ok (.aload_n 0, 1) := by decide +kernel
theorem px_d87_126 : decode prog_15_method_42_code 126 = .ok (.iload_n 1, 1) := by decide +kernel
theorem px_d87_127 : decode prog_15_method_42_code 127 = .ok (.iload 6, 2) := by decide +kernel
theorem px_d87_129 : decode prog_15_method_42_code 129 = .ok (.iload 4, 2) := by decide +kernel
theorem px_d87_131 : decode prog_15_method_42_code 131 = .ok (.ior, 1) := by decide +kernel
theorem px_d87_132 : decode prog_15_method_42_code 132 = .ok (.invokevirtual 258, 3) := by decide +kernel
theorem px_d87_135 : decode prog_15_method_42_code 135 = .ok (.iadd, 1) := by decide +kernel
theorem px_d87_136 : decode prog_15_method_42_code 136 = .ok (.iload 5, 2) := by decide +kernel
theorem px_d87_138 : decode prog_15_method_42_code 138 = .ok (.isub, 1) := by decide +kernel
theorem px_d87_139 : decode prog_15_method_42_code 139 = .ok (.dup2, 1) := by decide +kernel
theorem px_d87_140 : decode prog_15_method_42_code 140 = .ok (.iaload, 1) := by decide +kernel
theorem px_d87_141 : decode prog_15_method_42_code 141 = .ok (.iconst 1, 1) := by decide +kernel
theorem px_d87_142 : decode prog_15_method_42_code 142 = .ok (.isub, 1) := by decide +kernel
theorem px_d87_143 : decode prog_15_method_42_code 143 = .ok (.iastore, 1) := by decide +kernel
theorem px_d87_144 : decode prog_15_method_42_code 144 = .ok (.iload 6, 2) := by decide +kernel
theorem px_d87_146 : decode prog_15_method_42_code 146 = .ok (.ifCond .ne 7, 3) := by decide +kernel
theorem px_d87_149 : decode prog_15_method_42_code 149 = .ok (.iconst (-1), 1) := by decide +kernel
theorem px_d87_150 : decode prog_15_method_42_code 150 = .ok (.goto 9, 3) := by decide +kernel
theorem px_d87_153 : decode prog_15_method_42_code 153 = .ok (.iload 6, 2) := by decide +kernel
theorem px_d87_155 : decode prog_15_method_42_code 155 = .ok (.iconst 1, 1) := by decide +kernel
theorem px_d87_156 : decode prog_15_method_42_code 156 = .ok (.isub, 1) := by decide +kernel
theorem px_d87_157 : decode prog_15_method_42_code 157 = .ok (.iload_n 3, 1) := by decide +kernel
theorem px_d87_158 : decode prog_15_method_42_code 158 = .ok (.iand, 1) := by decide +kernel
theorem px_d87_159 : decode prog_15_method_42_code 159 = .ok (.istore 6, 2) := by decide +kernel
theorem px_d87_161 : decode prog_15_method_42_code 161 = .ok (.goto (-55), 3) := by decide +kernel
theorem px_d87_164 : decode prog_15_method_42_code 164 = .ok (.iconst 1, 1) := by decide +kernel
theorem px_d87_165 : decode prog_15_method_42_code 165 = .ok (.istore 6, 2) := by decide +kernel
theorem px_d87_167 : decode prog_15_method_42_code 167 = .ok (.iconst 0, 1) := by decide +kernel
theorem px_d87_168 : decode prog_15_method_42_code 168 = .ok (.istore 7, 2) := by decide +kernel
theorem px_d87_170 : decode prog_15_method_42_code 170 = .ok (.iload 7, 2) := by decide +kernel
theorem px_d87_172 : decode prog_15_method_42_code 172 = .ok (.sipush 169, 3) := by decide +kernel
theorem px_d87_175 : decode prog_15_method_42_code 175 = .ok (.if_icmp .ge 31, 3) := by decide +kernel
theorem px_d87_178 : decode prog_15_method_42_code 178 = .ok (.iload 6, 2) := by decide +kernel
theorem px_d87_180 : decode prog_15_method_42_code 180 = .ok (.ifCond .eq 17, 3) := by decide +kernel
theorem px_d87_183 : decode prog_15_method_42_code 183 = .ok (.aload_n 0, 1) := by decide +kernel
theorem px_d87_184 : decode prog_15_method_42_code 184 = .ok (.getfield 203, 3) := by decide +kernel
theorem px_d87_187 : decode prog_15_method_42_code 187 = .ok (.iload 7, 2) := by decide +kernel
theorem px_d87_189 : decode prog_15_method_42_code 189 = .ok (.iaload, 1) := by decide +kernel
theorem px_d87_190 : decode prog_15_method_42_code 190 = .ok (.ifCond .ne 7, 3) := by decide +kernel
theorem px_d87_193 : decode prog_15_method_42_code 193 = .ok (.iconst 1, 1) := by decide +kernel
theorem px_d87_194 : decode prog_15_method_42_code 194 = .ok (.goto 4, 3) := by decide +kernel
theorem px_d87_197 : decode prog_15_method_42_code 197 = .ok (.iconst 0, 1) := by decide +kernel
theorem px_d87_198 : decode prog_15_method_42_code 198 = .ok (.istore 6, 2) := by decide +kernel
theorem px_d87_200 : decode prog_15_method_42_code 200 = .ok (.iinc 7 1, 3) := by decide +kernel
theorem px_d87_203 : decode prog_15_method_42_code 203 = .ok (.goto (-33), 3) := by decide +kernel
theorem px_d87_206 : decode prog_15_method_42_code 206 = .ok (.iload 6, 2) := by decide +kernel
theorem px_d87_208 : decode prog_15_method_42_code 208 = .ok (.ireturn, 1) := by decide +kernel
theorem px_d103_0 : decode prog_15_method_73_code 0 = .ok (.aload_n 0, 1) := by decide +kernel
theorem px_d103_1 : decode prog_15_method_73_code 1 = .ok (.invokevirtual 359, 3) := by decide +kernel
theorem px_d103_4 : decode prog_15_method_73_code 4 = .ok (.iconst 0, 1) := by decide +kernel
theorem px_d103_5 : decode prog_15_method_73_code 5 = .ok (.istore_n 2, 1) := by decide +kernel
theorem px_d103_6 : decode prog_15_method_73_code 6 = .ok (.aload_n 0, 1) := by decide +kernel
theorem px_d103_7 : decode prog_15_method_73_code 7 = .ok (.getfield 338, 3) := by decide +kernel
theorem px_d103_10 : decode prog_15_method_73_code 10 = .ok (.bipush 125, 2) := by decide +kernel
theorem px_d103_12 : decode prog_15_method_73_code 12 = .ok (.if_icmp .eq 36, 3) := by decide +kernel
theorem px_d103_15 : decode prog_15_method_73_code 15 = .ok (.aload_n 0, 1) := by decide +kernel
theorem px_d103_16 : decode prog_15_method_73_code 16 = .ok (.getfield 212, 3) := by decide +kernel
theorem px_d103_19 : decode prog_15_method_73_code 19 = .ok (.iload_n 2, 1) := by decide +kernel
theorem px_d103_20 : decode prog_15_method_73_code 20 = .ok (.sipush 255, 3) := by decide +kernel
theorem px_d103_23 : decode prog_15_method_73_code 23 = .ok (.if_icmp .ge 7, 3) := by decide +kernel
theorem px_d103_26 : decode prog_15_method_73_code 26 = .ok (.iload_n 2, 1) := by decide +kernel
theorem px_d103_27 : decode prog_15_method_73_code 27 = .ok (.goto 6, 3) := by decide +kernel
theorem px_d103_30 : decode prog_15_method_73_code 30 = .ok (.sipush 255, 3) := by decide +kernel
theorem px_d103_33 : decode prog_15_method_73_code 33 = .ok (.aload_n 0, 1) := by decide +kernel
theorem px_d103_34 : decode prog_15_method_73_code 34 = .ok (.invokevirtual 392, 3) := by decide +kernel
theorem px_d103_37 : decode prog_15_method_73_code 37 = .ok (.iastore, 1) := by decide +kernel
theorem px_d103_38 : decode prog_15_method_73_code 38 = .ok (.iinc 2 1, 3) := by decide +kernel
theorem px_d103_41 : decode prog_15_method_73_code 41 = .ok (.aload_n 0, 1) := by decide +kernel
theorem px_d103_42 : decode prog_15_method_73_code 42 = .ok (.invokevirtual 359, 3) := by decide +kernel
theorem px_d103_45 : decode prog_15_method_73_code 45 = .ok (.goto (-39), 3) := by decide +kernel
theorem px_d103_48 : decode prog_15_method_73_code 48 = .ok (.aload_n 0, 1) := by decide +kernel
theorem px_d103_49 : decode prog_15_method_73_code 49 = .ok (.invokevirtual 359, 3) := by decide +kernel
theorem px_d103_52 : decode prog_15_method_73_code 52 = .ok (.aload_n 0, 1) := by decide +kernel
theorem px_d103_53 : decode prog_15_method_73_code 53 = .ok (.aload_n 0, 1) := by decide +kernel
theorem px_d103_54 : decode prog_15_method_73_code 54 = .ok (.getfield 153, 3) := by decide +kernel
theorem px_d103_57 : decode prog_15_method_73_code 57 = .ok (.iload_n 1, 1) := by decide +kernel
theorem px_d103_58 : decode prog_15_method_73_code 58 = .ok (.baload, 1) := by decide +kernel
theorem px_d103_59 : decode prog_15_method_73_code 59 = .ok (.iconst 1, 1) := by decide +kernel
theorem px_d103_60 : decode prog_15_method_73_code 60 = .ok (.invokevirtual 404, 3) := by decide +kernel
theorem px_d103_63 : decode prog_15_method_73_code 63 = .ok (.ifCond .eq 56, 3) := by decide +kernel
theorem px_d103_66 : decode prog_15_method_73_code 66 = .ok (.aload_n 0, 1) := by decide +kernel
theorem px_d103_67 : decode prog_15_method_73_code 67 = .ok (.iload_n 2, 1) := by decide +kernel
theorem px_d103_68 : decode prog_15_method_73_code 68 = .ok (.aload_n 0, 1) := by decide +kernel
theorem px_d103_69 : decode prog_15_method_73_code 69 = .ok (.getfield 157, 3) := by decide +kernel
theorem px_d103_72 : decode prog_15_method_73_code 72 = .ok (.iload_n 1, 1) := by decide +kernel
theorem px_d103_73 : decode prog_15_method_73_code 73 = .ok (.iaload, 1) := by decide +kernel
theorem px_d103_74 : decode prog_15_method_73_code 74 = .ok (.if_icmp .ne 7, 3) := by decide +kernel
theorem px_d103_77 : decode prog_15_method_73_code 77 = .ok (.iconst 1, 1) := by decide +kernel
theorem px_d103_78 : decode prog_15_method_73_code 78 = .ok (.goto 4, 3) := by decide +kernel
theorem px_d103_81 : decode prog_15_method_73_code 81 = .ok (.iconst 0, 1) := by decide +kernel
theorem px_d110_0 : decode prog_15_method_81_code 0 = .ok (.aload_n 0, 1) := by decide +kernel
theorem px_d110_1 : decode prog_15_method_81_code 1 = .ok (.iload_n 1, 1) := by decide +kernel
theorem px_d110_2 : decode prog_15_method_81_code 2 = .ok (.invokevirtual 463, 3) := by decide +kernel
theorem px_d110_5 : decode prog_15_method_81_code 5 = .ok (.iconst 1, 1) := by decide +kernel
theorem px_d110_6 : decode prog_15_method_81_code 6 = .ok (.istore_n 2, 1) := by decide +kernel
theorem px_d110_7 : decode prog_15_method_81_code 7 = .ok (.bipush 12, 2) := by decide +kernel
theorem px_d110_9 : decode prog_15_method_81_code 9 = .ok (.istore_n 3, 1) := by decide +kernel
theorem px_d110_10 : decode prog_15_method_81_code 10 = .ok (.iload_n 3, 1) := by decide +kernel
theorem px_d110_11 : decode prog_15_method_81_code 11 = .ok (.ifCond .lt 158, 3) := by decide +kernel
theorem px_d110_14 : decode prog_15_method_81_code 14 = .ok (.bipush 12, 2) := by decide +kernel
theorem px_d110_16 : decode prog_15_method_81_code 16 = .ok (.istore 4, 2) := by decide +kernel
theorem px_d110_18 : decode prog_15_method_81_code 18 = .ok (.iload 4, 2) := by decide +kernel
theorem px_d110_20 : decode prog_15_method_81_code 20 = .ok (.ifCond .lt 143, 3) := by decide +kernel
theorem px_d110_23 : decode prog_15_method_81_code 23 = .ok (.aload_n 0, 1) := by decide +kernel
theorem px_d110_24 : decode prog_15_method_81_code 24 = .ok (.getfield 190, 3) := by decide +kernel
theorem px_d110_27 : decode prog_15_method_81_code 27 = .ok (.bipush 13, 2) := by decide +kernel
theorem px_d110_29 : decode prog_15_method_81_code 29 = .ok (.iload_n 3, 1) := by decide +kernel
theorem px_d110_30 : decode prog_15_method_81_code 30 = .ok (.imul, 1) := by decide +kernel
theorem px_d110_31 : decode prog_15_method_81_code 31 = .ok (.iload 4, 2) := by decide +kernel
theorem px_d110_33 : decode prog_15_method_81_code 33 = .ok (.iadd, 1) := by decide +kernel
theorem px_d110_34 : decode prog_15_method_81_code 34 = .ok (.laload, 1) := by decide +kernel
theorem px_d110_35 : decode prog_15_method_81_code 35 = .ok (.lstore 5, 2) := by decide +kernel
theorem px_d110_37 : decode prog_15_method_81_code 37 = .ok (.lload 5, 2) := by decide +kernel
theorem px_d110_39 : decode prog_15_method_81_code 39 = .ok (.lconst 0, 1) := by decide +kernel
theorem px_d110_40 : decode prog_15_method_81_code 40 = .ok (.lcmp, 1) := by decide +kernel
theorem px_d110_41 : decode prog_15_method_81_code 41 = .ok (.ifCond .ne 6, 3) := by decide +kernel
theorem px_d110_44 : decode prog_15_method_81_code 44 = .ok (.goto 113, 3) := by decide +kernel
theorem px_d110_47 : decode prog_15_method_81_code 47 = .ok (.iload_n 2, 1) := by decide +kernel
theorem px_d110_48 : decode prog_15_method_81_code 48 = .ok (.ifCond .ne 21, 3) := by decide +kernel
theorem px_d110_51 : decode prog_15_method_81_code 51 = .ok (.aload_n 0, 1) := by decide +kernel
theorem px_d110_52 : decode prog_15_method_81_code 52 = .ok (.bipush 32, 2) := by decide +kernel
theorem px_d110_54 : decode prog_15_method_81_code 54 = .ok (.invokevirtual 446, 3) := by decide +kernel
theorem px_d110_57 : decode prog_15_method_81_code 57 = .ok (.aload_n 0, 1) := by decide +kernel
theorem px_d110_58 : decode prog_15_method_81_code 58 = .ok (.bipush 43, 2) := by decide +kernel
theorem px_d110_60 : decode prog_15_method_81_code 60 = .ok (.invokevirtual 446, 3) := by decide +kernel
theorem px_d110_63 : decode prog_15_method_81_code 63 = .ok (.aload_n 0, 1) := by decide +kernel
theorem px_d110_64 : decode prog_15_method_81_code 64 = .ok (.bipush 32, 2) := by decide +kernel
theorem px_d110_66 : decode prog_15_method_81_code 66 = .ok (.invokevirtual 446, 3) := by decide +kernel
theorem px_d110_69 : decode prog_15_method_81_code 69 = .ok (.iconst 0, 1) := by decide +kernel
theorem px_d110_70 : decode prog_15_method_81_code 70 = .ok (.istore_n 2, 1) := by decide +kernel
theorem px_d110_71 : decode prog_15_method_81_code 71 = .ok (.iload_n 3, 1) := by decide +kernel
theorem px_d110_72 : decode prog_15_method_81_code 72 = .ok (.iload 4, 2) := by decide +kernel
theorem px_d110_74 : decode prog_15_method_81_code 74 = .ok (.iadd, 1) := by decide +kernel
theorem px_d110_75 : decode prog_15_method_81_code 75 = .ok (.ifCond .ne 7, 3) := by decide +kernel
theorem px_d110_78 : decode prog_15_method_81_code 78 = .ok (.iconst 1, 1) := by decide +kernel
theorem px_d110_79 : decode prog_15_method_81_code 79 = .ok (.goto 4, 3) := by decide +kernel
theorem px_d110_82 : decode prog_15_method_81_code 82 = .ok (.iconst 0, 1) := by decide +kernel
theorem px_d110_83 : decode prog_15_method_81_code 83 = .ok (.istore 7, 2) := by decide +kernel
theorem px_d110_85 : decode prog_15_method_81_code 85 = .ok (.iload 7, 2) := by decide +kernel
theorem px_d110_87 : decode prog_15_method_81_code 87 = .ok (.ifCond .ne 10, 3) := by decide +kernel
theorem px_d110_90 : decode prog_15_method_81_code 90 = .ok (.lload 5, 2) := by decide +kernel
theorem px_d110_92 : decode prog_15_method_81_code 92 = .ok (.lconst 1, 1) := by decide +kernel
theorem px_d110_93 : decode prog_15_method_81_code 93 = .ok (.lcmp, 1) := by decide +kernel
theorem px_d110_94 : decode prog_15_method_81_code 94 = .ok (.ifCond .eq 9, 3) := by decide +kernel
theorem px_d110_97 : decode prog_15_method_81_code 97 = .ok (.aload_n 0, 1) := by decide +kernel
theorem px_d110_98 : decode prog_15_method_81_code 98 = .ok (.lload 5, 2) := by decide +kernel
theorem px_d110_100 : decode prog_15_method_81_code 100 = .ok (.invokevirtual 454, 3) := by decide +kernel
theorem px_d110_103 : decode prog_15_method_81_code 103 = .ok (.iload_n 3, 1) := by decide +kernel
theorem px_d110_104 : decode prog_15_method_81_code 104 = .ok (.ifCond .le 23, 3) := by decide +kernel
theorem px_d110_107 : decode prog_15_method_81_code 107 = .ok (.lload 5, 2) := by decide +kernel
theorem px_d110_109 : decode prog_15_method_81_code 109 = .ok (.lconst 1, 1) := by decide +kernel
theorem px_d110_110 : decode prog_15_method_81_code 110 = .ok (.lcmp, 1) := by decide +kernel
theorem px_d110_111 : decode prog_15_method_81_code 111 = .ok (.ifCond .eq 9, 3) := by decide +kernel
theorem px_d110_114 : decode prog_15_method_81_code 114 = .ok (.aload_n 0, 1) := by decide +kernel
theorem px_d110_115 : decode prog_15_method_81_code 115 = .ok (.bipush 32, 2) := by decide +kernel
theorem px_d110_117 : decode prog_15_method_81_code 117 = .ok (.invokevirtual 446, 3) := by decide +kernel
theorem px_d110_120 : decode prog_15_method_81_code 120 = .ok (.aload_n 0, 1) := by decide +kernel
theorem px_d110_121 : decode prog_15_method_81_code 121 = .ok (.bipush 120, 2) := by decide +kernel
theorem px_d110_123 : decode prog_15_method_81_code 123 = .ok (.iload_n 3, 1) := by decide +kernel
theorem px_d110_124 : decode prog_15_method_81_code 124 = .ok (.invokevirtual 466, 3) := by decide +kernel
theorem px_d110_127 : decode prog_15_method_81_code 127 = .ok (.iload 4, 2) := by decide +kernel
theorem px_d110_129 : decode prog_15_method_81_code 129 = .ok (.ifCond .le 28, 3) := by decide +kernel
theorem px_d110_132 : decode prog_15_method_81_code 132 = .ok (.lload 5, 2) := by decide +kernel
theorem px_d110_134 : decode prog_15_method_81_code 134 = .ok (.lconst 1, 1) := by decide +kernel
theorem px_d110_135 : decode prog_15_method_81_code 135 = .ok (.lcmp, 1) := by decide +kernel
theorem px_d110_136 : decode prog_15_method_81_code 136 = .ok (.ifCond .ne 7, 3) := by decide +kernel
theorem px_d110_139 : decode prog_15_method_81_code 139 = .ok (.iload_n 3, 1) := by decide +kernel
theorem px_d110_140 : decode prog_15_method_81_code 140 = .ok (.ifCond .le 9, 3) := by decide +kernel
theorem px_d110_143 : decode prog_15_method_81_code 143 = .ok (.aload_n 0, 1) := by decide +kernel
theorem px_d110_144 : decode prog_15_method_81_code 144 = .ok (.bipush 32, 2) := by decide +kernel
theorem px_d110_146 : decode prog_15_method_81_code 146 = .ok (.invokevirtual 446, 3) := by decide +kernel
theorem px_d110_149 : decode prog_15_method_81_code 149 = .ok (.aload_n 0, 1) := by decide +kernel
theorem px_d110_150 : decode prog_15_method_81_code 150 = .ok (.bipush 121, 2) := by decide +kernel
theorem px_d110_152 : decode prog_15_method_81_code 152 = .ok (.iload 4, 2) := by decide +kernel
theorem px_d110_154 : decode prog_15_method_81_code 154 = .ok (.invokevirtual 466, 3) := by decide +kernel
theorem px_d110_157 : decode prog_15_method_81_code 157 = .ok (.iinc 4 (-1), 3) := by decide +kernel
theorem px_d110_160 : decode prog_15_method_81_code 160 = .ok (.goto (-142), 3) := by decide +kernel
theorem px_d110_163 : decode prog_15_method_81_code 163 = .ok (.iinc 3 (-1), 3) := by decide +kernel
theorem px_d110_166 : decode prog_15_method_81_code 166 = .ok (.goto (-156), 3) := by decide +kernel
theorem px_d110_169 : decode prog_15_method_81_code 169 = .ok (.aload_n 0, 1) := by decide +kernel
theorem px_d110_170 : decode prog_15_method_81_code 170 = .ok (.bipush 10, 2) := by decide +kernel
theorem px_d110_172 : decode prog_15_method_81_code 172 = .ok (.invokevirtual 446, 3) := by decide +kernel
theorem px_d110_175 : decode prog_15_method_81_code 175 = .ok (.return_, 1) := by decide +kernel
theorem px_d124_0 : decode prog_15_method_103_code 0 = .ok (.aload_n 0, 1) := by decide +kernel
theorem px_d124_1 : decode prog_15_method_103_code 1 = .ok (.iload_n 1, 1) := by decide +kernel
theorem px_d124_2 : decode prog_15_method_103_code 2 = .ok (.invokevirtual 522, 3) := by decide +kernel
theorem px_d124_5 : decode prog_15_method_103_code 5 = .ok (.ifCond .eq 23, 3) := by decide +kernel
theorem px_d124_8 : decode prog_15_method_103_code 8 = .ok (.iload_n 2, 1) := by decide +kernel
theorem px_d124_9 : decode prog_15_method_103_code 9 = .ok (.ifCond .lt 19, 3) := by decide +kernel
theorem px_d124_12 : decode prog_15_method_103_code 12 = .ok (.iload_n 3, 1) := by decide +kernel
theorem px_d124_13 : decode prog_15_method_103_code 13 = .ok (.ifCond .lt 15, 3) := by decide +kernel
theorem px_d124_16 : decode prog_15_method_103_code 16 = .ok (.iload_n 2, 1) := by decide +kernel
theorem px_d124_17 : decode prog_15_method_103_code 17 = .ok (.bipush 12, 2) := by decide +kernel
theorem px_d124_19 : decode prog_15_method_103_code 19 = .ok (.if_icmp .gt 9, 3) := by decide +kernel
theorem px_d124_22 : decode prog_15_method_103_code 22 = .ok (.iload_n 3, 1) := by decide +kernel
theorem px_d124_23 : decode prog_15_method_103_code 23 = .ok (.bipush 12, 2) := by decide +kernel
theorem px_d124_25 : decode prog_15_method_103_code 25 = .ok (.if_icmp .le 5, 3) := by decide +kernel
theorem px_d124_28 : decode prog_15_method_103_code 28 = .ok (.lconst 0, 1) := by decide +kernel
theorem px_d124_29 : decode prog_15_method_103_code 29 = .ok (.lreturn, 1) := by decide +kernel
theorem px_d124_30 : decode prog_15_method_103_code 30 = .ok (.aload_n 0, 1) := by decide +kernel
theorem px_d124_31 : decode prog_15_method_103_code 31 = .ok (.iload_n 1, 1) := by decide +kernel
theorem px_d124_32 : decode prog_15_method_103_code 32 = .ok (.invokevirtual 463, 3) := by decide +kernel
theorem px_d124_35 : decode prog_15_method_103_code 35 = .ok (.aload_n 0, 1) := by decide +kernel
theorem px_d124_36 : decode prog_15_method_103_code 36 = .ok (.getfield 190, 3) := by decide +kernel
theorem px_d124_39 : decode prog_15_method_103_code 39 = .ok (.bipush 13, 2) := by decide +kernel
theorem px_d124_41 : decode prog_15_method_103_code 41 = .ok (.iload_n 2, 1) := by decide +kernel
theorem px_d124_42 : decode prog_15_method_103_code 42 = .ok (.imul, 1) := by decide +kernel
theorem px_d124_43 : decode prog_15_method_103_code 43 = .ok (.iload_n 3, 1) := by decide +kernel
theorem px_d124_44 : decode prog_15_method_103_code 44 = .ok (.iadd, 1) := by decide +kernel
theorem px_d124_45 : decode prog_15_method_103_code 45 = .ok (.laload, 1) := by decide +kernel
theorem px_d124_46 : decode prog_15_method_103_code 46 = .ok (.lreturn, 1) := by decide +kernel
