theorem px_d48_0 : decode prog_15_method_3_code 0 = .ok (.aload_n 0, 1) := by decide +kernel
theorem px_d48_1 : decode prog_15_method_3_code 1 = .ok (.iload_n 1, 1) := by decide +kernel
theorem px_d48_2 : decode prog_15_method_3_code 2 = .ok (.putfield 38, 3) := by decide +kernel
theorem px_d48_5 : decode prog_15_method_3_code 5 = .ok (.aload_n 0, 1) := by decide +kernel
theorem px_d48_6 : decode prog_15_method_3_code 6 = .ok (.iload_n 2, 1) := by decide +kernel
theorem px_d48_7 : decode prog_15_method_3_code 7 = .ok (.putfield 41, 3) := by decide +kernel
theorem px_d48_10 : decode prog_15_method_3_code 10 = .ok (.aload_n 0, 1) := by decide +kernel
theorem px_d48_11 : decode prog_15_method_3_code 11 = .ok (.iconst 0, 1) := by decide +kernel
theorem px_d48_12 : decode prog_15_method_3_code 12 = .ok (.putfield 44, 3) := by decide +kernel
theorem px_d48_15 : decode prog_15_method_3_code 15 = .ok (.return_, 1) := by decide +kernel
theorem px_d52_0 : decode prog_15_method_7_code 0 = .ok (.iconst 1, 1) := by decide +kernel
theorem px_d52_1 : decode prog_15_method_7_code 1 = .ok (.istore_n 2, 1) := by decide +kernel
theorem px_d52_2 : decode prog_15_method_7_code 2 = .ok (.iload_n 2, 1) := by decide +kernel
theorem px_d52_3 : decode prog_15_method_7_code 3 = .ok (.iload_n 1, 1) := by decide +kernel
theorem px_d52_4 : decode prog_15_method_7_code 4 = .ok (.imul, 1) := by decide +kernel
theorem px_d52_5 : decode prog_15_method_7_code 5 = .ok (.aload_n 0, 1) := by decide +kernel
theorem px_d52_6 : decode prog_15_method_7_code 6 = .ok (.getfield 38, 3) := by decide +kernel
theorem px_d52_9 : decode prog_15_method_7_code 9 = .ok (.irem, 1) := by decide +kernel
theorem px_d52_10 : decode prog_15_method_7_code 10 = .ok (.iconst 1, 1) := by decide +kernel
theorem px_d52_11 : decode prog_15_method_7_code 11 = .ok (.if_icmp .eq 9, 3) := by decide +kernel
theorem px_d52_14 : decode prog_15_method_7_code 14 = .ok (.iinc 2 1, 3) := by decide +kernel
theorem px_d52_17 : decode prog_15_method_7_code 17 = .ok (.goto (-15), 3) := by decide +kernel
theorem px_d52_20 : decode prog_15_method_7_code 20 = .ok (.iload_n 2, 1) := by decide +kernel
theorem px_d52_21 : decode prog_15_method_7_code 21 = .ok (.ireturn, 1) := by decide +kernel
theorem px_d58_0 : decode prog_15_method_13_code 0 = .ok (.iconst 0, 1) := by decide +kernel
theorem px_d58_1 : decode prog_15_method_13_code 1 = .ok (.istore_n 3, 1) := by decide +kernel
theorem px_d58_2 : decode prog_15_method_13_code 2 = .ok (.iload_n 3, 1) := by decide +kernel
theorem px_d58_3 : decode prog_15_method_13_code 3 = .ok (.iload_n 1, 1) := by decide +kernel
theorem px_d58_4 : decode prog_15_method_13_code 4 = .ok (.if_icmp .ge 16, 3) := by decide +kernel
theorem px_d58_7 : decode prog_15_method_13_code 7 = .ok (.aload_n 0, 1) := by decide +kernel
theorem px_d58_8 : decode prog_15_method_13_code 8 = .ok (.iload_n 3, 1) := by decide +kernel
theorem px_d58_9 : decode prog_15_method_13_code 9 = .ok (.iaload, 1) := by decide +kernel
theorem px_d58_10 : decode prog_15_method_13_code 10 = .ok (.iload_n 2, 1) := by decide +kernel
theorem px_d58_11 : decode prog_15_method_13_code 11 = .ok (.if_icmp .eq 9, 3) := by decide +kernel
theorem px_d58_14 : decode prog_15_method_13_code 14 = .ok (.iinc 3 1, 3) := by decide +kernel
theorem px_d58_17 : decode prog_15_method_13_code 17 = .ok (.goto (-15), 3) := by decide +kernel
theorem px_d58_20 : decode prog_15_method_13_code 20 = .ok (.iload_n 3, 1) := by decide +kernel
theorem px_d58_21 : decode prog_15_method_13_code 21 = .ok (.ireturn, 1) := by decide +kernel
theorem px_d59_0 : decode prog_15_method_14_code 0 = .ok (.iload_n 2, 1) := by decide +kernel
theorem px_d59_1 : decode prog_15_method_14_code 1 = .ok (.istore_n 3, 1) := by decide +kernel
theorem px_d59_2 : decode prog_15_method_14_code 2 = .ok (.iload_n 3, 1) := by decide +kernel
theorem px_d59_3 : decode prog_15_method_14_code 3 = .ok (.iconst 1, 1) := by decide +kernel
theorem px_d59_4 : decode prog_15_method_14_code 4 = .ok (.iadd, 1) := by decide +kernel
theorem px_d59_5 : decode prog_15_method_14_code 5 = .ok (.iload_n 1, 1) := by decide +kernel
theorem px_d59_6 : decode prog_15_method_14_code 6 = .ok (.if_icmp .ge 17, 3) := by decide +kernel
theorem px_d59_9 : decode prog_15_method_14_code 9 = .ok (.aload_n 0, 1) := by decide +kernel
theorem px_d59_10 : decode prog_15_method_14_code 10 = .ok (.iload_n 3, 1) := by decide +kernel
theorem px_d59_11 : decode prog_15_method_14_code 11 = .ok (.aload_n 0, 1) := by decide +kernel
theorem px_d59_12 : decode prog_15_method_14_code 12 = .ok (.iload_n 3, 1) := by decide +kernel
theorem px_d59_13 : decode prog_15_method_14_code 13 = .ok (.iconst 1, 1) := by decide +kernel
theorem px_d59_14 : decode prog_15_method_14_code 14 = .ok (.iadd, 1) := by decide +kernel
theorem px_d59_15 : decode prog_15_method_14_code 15 = .ok (.iaload, 1) := by decide +kernel
theorem px_d59_16 : decode prog_15_method_14_code 16 = .ok (.iastore, 1) := by decide +kernel
theorem px_d59_17 : decode prog_15_method_14_code 17 = .ok (.iinc 3 1, 3) := by decide +kernel
theorem px_d59_20 : decode prog_15_method_14_code 20 = .ok (.goto (-18), 3) := by decide +kernel
theorem px_d59_23 : decode prog_15_method_14_code 23 = .ok (.return_, 1) := by decide +kernel
theorem px_d60_0 : decode prog_15_method_15_code 0 = .ok (.iconst 0, 1) := by decide +kernel
theorem px_d60_1 : decode prog_15_method_15_code 1 = .ok (.istore_n 2, 1) := by decide +kernel
theorem px_d60_2 : decode prog_15_method_15_code 2 = .ok (.iload_n 2, 1) := by decide +kernel
theorem px_d60_3 : decode prog_15_method_15_code 3 = .ok (.iload_n 1, 1) := by decide +kernel
theorem px_d60_4 : decode prog_15_method_15_code 4 = .ok (.if_icmp .ge 54, 3) := by decide +kernel
theorem px_d60_7 : decode prog_15_method_15_code 7 = .ok (.iconst 0, 1) := by decide +kernel
theorem px_d60_8 : decode prog_15_method_15_code 8 = .ok (.istore_n 3, 1) := by decide +kernel
theorem px_d60_9 : decode prog_15_method_15_code 9 = .ok (.iload_n 3, 1) := by decide +kernel
theorem px_d60_10 : decode prog_15_method_15_code 10 = .ok (.iload_n 1, 1) := by decide +kernel
theorem px_d60_11 : decode prog_15_method_15_code 11 = .ok (.if_icmp .ge 41, 3) := by decide +kernel
theorem px_d60_14 : decode prog_15_method_15_code 14 = .ok (.aload_n 0, 1) := by decide +kernel
theorem px_d60_15 : decode prog_15_method_15_code 15 = .ok (.getfield 137, 3) := by decide +kernel
theorem px_d60_18 : decode prog_15_method_15_code 18 = .ok (.bipush 6, 2) := by decide +kernel
theorem px_d60_20 : decode prog_15_method_15_code 20 = .ok (.iload_n 2, 1) := by decide +kernel
theorem px_d60_21 : decode prog_15_method_15_code 21 = .ok (.imul, 1) := by decide +kernel
theorem px_d60_22 : decode prog_15_method_15_code 22 = .ok (.iload_n 3, 1) := by decide +kernel
theorem px_d60_23 : decode prog_15_method_15_code 23 = .ok (.iadd, 1) := by decide +kernel
theorem px_d60_24 : decode prog_15_method_15_code 24 = .ok (.aload_n 0, 1) := by decide +kernel
theorem px_d60_25 : decode prog_15_method_15_code 25 = .ok (.getfield 55, 3) := by decide +kernel
theorem px_d60_28 : decode prog_15_method_15_code 28 = .ok (.bipush 12, 2) := by decide +kernel
theorem px_d60_30 : decode prog_15_method_15_code 30 = .ok (.aload_n 0, 1) := by decide +kernel
theorem px_d60_31 : decode prog_15_method_15_code 31 = .ok (.getfield 120, 3) := by decide +kernel
theorem px_d60_34 : decode prog_15_method_15_code 34 = .ok (.iload_n 2, 1) := by decide +kernel
theorem px_d60_35 : decode prog_15_method_15_code 35 = .ok (.iaload, 1) := by decide +kernel
theorem px_d60_36 : decode prog_15_method_15_code 36 = .ok (.imul, 1) := by decide +kernel
theorem px_d60_37 : decode prog_15_method_15_code 37 = .ok (.aload_n 0, 1) := by decide +kernel
theorem px_d60_38 : decode prog_15_method_15_code 38 = .ok (.getfield 117, 3) := by decide +kernel
theorem px_d60_41 : decode prog_15_method_15_code 41 = .ok (.iload_n 3, 1) := by decide +kernel
theorem px_d60_42 : decode prog_15_method_15_code 42 = .ok (.iaload, 1) := by decide +kernel
theorem px_d60_43 : decode prog_15_method_15_code 43 = .ok (.iadd, 1) := by decide +kernel
theorem px_d60_44 : decode prog_15_method_15_code 44 = .ok (.iaload, 1) := by decide +kernel
theorem px_d60_45 : decode prog_15_method_15_code 45 = .ok (.iastore, 1) := by decide +kernel
theorem px_d60_46 : decode prog_15_method_15_code 46 = .ok (.iinc 3 1, 3) := by decide +kernel
theorem px_d60_49 : decode prog_15_method_15_code 49 = .ok (.goto (-40), 3) := by decide +kernel
theorem px_d60_52 : decode prog_15_method_15_code 52 = .ok (.iinc 2 1, 3) := by decide +kernel
theorem px_d60_55 : decode prog_15_method_15_code 55 = .ok (.goto (-53), 3) := by decide +kernel
theorem px_d60_58 : decode prog_15_method_15_code 58 = .ok (.iconst 0, 1) := by decide +kernel
theorem px_d60_59 : decode prog_15_method_15_code 59 = .ok (.istore_n 2, 1) := by decide +kernel
theorem px_d60_60 : decode prog_15_method_15_code 60 = .ok (.iload_n 2, 1) := by decide +kernel
theorem px_d60_61 : decode prog_15_method_15_code 61 = .ok (.iload_n 1, 1) := by decide +kernel
theorem px_d60_62 : decode prog_15_method_15_code 62 = .ok (.if_icmp .ge 233, 3) := by decide +kernel
theorem px_d60_65 : decode prog_15_method_15_code 65 = .ok (.iload_n 2, 1) := by decide +kernel
theorem px_d60_66 : decode prog_15_method_15_code 66 = .ok (.istore_n 3, 1) := by decide +kernel
theorem px_d60_67 : decode prog_15_method_15_code 67 = .ok (.iload_n 3, 1) := by decide +kernel
theorem px_d60_68 : decode prog_15_method_15_code 68 = .ok (.iload_n 1, 1) := by decide +kernel
theorem px_d60_69 : decode prog_15_method_15_code 69 = .ok (.if_icmp .ge 23, 3) := by decide +kernel
theorem px_d60_72 : decode prog_15_method_15_code 72 = .ok (.aload_n 0, 1) := by decide +kernel
theorem px_d60_73 : decode prog_15_method_15_code 73 = .ok (.getfield 137, 3) := by decide +kernel
theorem px_d60_76 : decode prog_15_method_15_code 76 = .ok (.bipush 6, 2) := by decide +kernel
theorem px_d60_78 : decode prog_15_method_15_code 78 = .ok (.iload_n 3, 1) := by decide +kernel
theorem px_d60_79 : decode prog_15_method_15_code 79 = .ok (.imul, 1) := by decide +kernel
theorem px_d60_80 : decode prog_15_method_15_code 80 = .ok (.iload_n 2, 1) := by decide +kernel
theorem px_d60_81 : decode prog_15_method_15_code 81 = .ok (.iadd, 1) := by decide +kernel
theorem px_d60_82 : decode prog_15_method_15_code 82 = .ok (.iaload, 1) := by decide +kernel
theorem px_d60_83 : decode prog_15_method_15_code 83 = .ok (.ifCond .ne 9, 3) := by decide +kernel
theorem px_d60_86 : decode prog_15_method_15_code 86 = .ok (.iinc 3 1, 3) := by decide +kernel
theorem px_d60_89 : decode prog_15_method_15_code 89 = .ok (.goto (-22), 3) := by decide +kernel
theorem px_d60_92 : decode prog_15_method_15_code 92 = .ok (.iload_n 3, 1) := by decide +kernel
theorem px_d60_93 : decode prog_15_method_15_code 93 = .ok (.iload_n 1, 1) := by decide +kernel
theorem px_d60_94 : decode prog_15_method_15_code 94 = .ok (.if_icmp .ne 5, 3) := by decide +kernel
theorem px_d60_97 : decode prog_15_method_15_code 97 = .ok (.iconst 0, 1) := by decide +kernel
theorem px_d60_98 : decode prog_15_method_15_code 98 = .ok (.ireturn, 1) := by decide +kernel
theorem px_d60_99 : decode prog_15_method_15_code 99 = .ok (.iconst 0, 1) := by decide +kernel
theorem px_d60_100 : decode prog_15_method_15_code 100 = .ok (.istore 4, 2) := by decide +kernel
theorem px_d60_102 : decode prog_15_method_15_code 102 = .ok (.iload 4, 2) := by decide +kernel
theorem px_d60_104 : decode prog_15_method_15_code 104 = .ok (.iload_n 1, 1) := by decide +kernel
theorem px_d60_105 : decode prog_15_method_15_code 105 = .ok (.if_icmp .ge 61, 3) := by decide +kernel
theorem px_d60_108 : decode prog_15_method_15_code 108 = .ok (.aload_n 0, 1) := by decide +kernel
theorem px_d60_109 : decode prog_15_method_15_code 109 = .ok (.getfield 137, 3) := by decide +kernel
theorem px_d60_112 : decode prog_15_method_15_code 112 = .ok (.bipush 6, 2) := by decide +kernel
theorem px_d60_114 : decode prog_15_method_15_code 114 = .ok (.iload_n 3, 1) := by decide +kernel
theorem px_d60_115 : decode prog_15_method_15_code 115 = .ok (.imul, 1) := by decide +kernel
theorem px_d60_116 : decode prog_15_method_15_code 116 = .ok (.iload 4, 2) := by decide +kernel
theorem px_d60_118 : decode prog_15_method_15_code 118 = .ok (.iadd, 1) := by decide +kernel
theorem px_d60_119 : decode prog_15_method_15_code 119 = .ok (.iaload, 1) := by decide +kernel
theorem px_d60_120 : decode prog_15_method_15_code 120 = .ok (.istore 5, 2) := by decide +kernel
theorem px_d60_122 : decode prog_15_method_15_code 122 = .ok (.aload_n 0, 1) := by decide +kernel
theorem px_d60_123 : decode prog_15_method_15_code 123 = .ok (.getfield 137, 3) := by decide +kernel
theorem px_d60_126 : decode prog_15_method_15_code 126 = .ok (.bipush 6, 2) := by decide +kernel
theorem px_d60_128 : decode prog_15_method_15_code 128 = .ok (.iload_n 3, 1) := by decide +kernel
theorem px_d60_129 : decode prog_15_method_15_code 129 = .ok (.imul, 1) := by decide +kernel
theorem px_d60_130 : decode prog_15_method_15_code 130 = .ok (.iload 4, 2) := by decide +kernel
theorem px_d60_132 : decode prog_15_method_15_code 132 = .ok (.iadd, 1) := by decide +kernel
theorem px_d60_133 : decode prog_15_method_15_code 133 = .ok (.aload_n 0, 1) := by decide +kernel
theorem px_d60_134 : decode prog_15_method_15_code 134 = .ok (.getfield 137, 3) := by decide +kernel
theorem px_d60_137 : decode prog_15_method_15_code 137 = .ok (.bipush 6, 2) := by decide +kernel
theorem px_d60_139 : decode prog_15_method_15_code 139 = .ok (.iload_n 2, 1) := by decide +kernel
theorem px_d60_140 : decode prog_15_method_15_code 140 = .ok (.imul, 1) := by decide +kernel
theorem px_d60_141 : decode prog_15_method_15_code 141 = .ok (.iload 4, 2) := by decide +kernel
theorem px_d60_143 : decode prog_15_method_15_code 143 = .ok (.iadd, 1) := by decide +kernel
theorem px_d60_144 : decode prog_15_method_15_code 144 = .ok (.iaload, 1) := by decide +kernel
theorem px_d60_145 : decode prog_15_method_15_code 145 = .ok (.iastore, 1) := by decide +kernel
theorem px_d60_146 : decode prog_15_method_15_code 146 = .ok (.aload_n 0, 1) := by decide +kernel
theorem px_d60_147 : decode prog_15_method_15_code 147 = .ok (.getfield 137, 3) := by decide +kernel
theorem px_d60_150 : decode prog_15_method_15_code 150 = .ok (.bipush 6, 2) := by decide +kernel
theorem px_d60_152 : decode prog_15_method_15_code 152 = .ok (.iload_n 2, 1) := by decide +kernel
theorem px_d60_153 : decode prog_15_method_15_code 153 = .ok (.imul, 1) := by decide +kernel
theorem px_d60_154 : decode prog_15_method_15_code 154 = .ok (.iload 4, 2) := by decide +kernel
theorem px_d60_156 : decode prog_15_method_15_code 156 = .ok (.iadd, 1) := by decide +kernel
theorem px_d60_157 : decode prog_15_method_15_code 157 = .ok (.iload 5, 2) := by decide +kernel
theorem px_d60_159 : decode prog_15_method_15_code 159 = .ok (.iastore, 1) := by decide +kernel
theorem px_d60_160 : decode prog_15_method_15_code 160 = .ok (.iinc 4 1, 3) := by decide +kernel
theorem px_d60_163 : decode prog_15_method_15_code 163 = .ok (.goto (-61), 3) := by decide +kernel
theorem px_d60_166 : decode prog_15_method_15_code 166 = .ok (.aload_n 0, 1) := by decide +kernel
theorem px_d60_167 : decode prog_15_method_15_code 167 = .ok (.aload_n 0, 1) := by decide +kernel
theorem px_d60_168 : decode prog_15_method_15_code 168 = .ok (.getfield 137, 3) := by decide +kernel
theorem px_d60_171 : decode prog_15_method_15_code 171 = .ok (.bipush 6, 2) := by decide +kernel
theorem px_d60_173 : decode prog_15_method_15_code 173 = .ok (.iload_n 2, 1) := by decide +kernel
theorem px_d60_174 : decode prog_15_method_15_code 174 = .ok (.imul, 1) := by decide +kernel
theorem px_d60_175 : decode prog_15_method_15_code 175 = .ok (.iload_n 2, 1) := by decide +kernel
theorem px_d60_176 : decode prog_15_method_15_code 176 = .ok (.iadd, 1) := by decide +kernel
theorem px_d60_177 : decode prog_15_method_15_code 177 = .ok (.iaload, 1) := by decide +kernel
theorem px_d60_178 : decode prog_15_method_15_code 178 = .ok (.invokevirtual 61, 3) := by decide +kernel
theorem px_d60_181 : decode prog_15_method_15_code 181 = .ok (.istore 4, 2) := by decide +kernel
theorem px_d60_183 : decode prog_15_method_15_code 183 = .ok (.iload_n 2, 1) := by decide +kernel
theorem px_d60_184 : decode prog_15_method_15_code 184 = .ok (.iconst 1, 1) := by decide +kernel
theorem px_d60_185 : decode prog_15_method_15_code 185 = .ok (.iadd, 1) := by decide +kernel
theorem px_d60_186 : decode prog_15_method_15_code 186 = .ok (.istore 5, 2) := by decide +kernel
theorem px_d60_188 : decode prog_15_method_15_code 188 = .ok (.iload 5, 2) := by decide +kernel
theorem px_d60_190 : decode prog_15_method_15_code 190 = .ok (.iload_n 1, 1) := by decide +kernel
theorem px_d60_191 : decode prog_15_method_15_code 191 = .ok (.if_icmp .ge 98, 3) := by decide +kernel
theorem px_d60_194 : decode prog_15_method_15_code 194 = .ok (.aload_n 0, 1) := by decide +kernel
theorem px_d60_195 : decode prog_15_method_15_code 195 = .ok (.getfield 137, 3) := by decide +kernel
theorem px_d60_198 : decode prog_15_method_15_code 198 = .ok (.bipush 6, 2) := by decide +kernel
theorem px_d60_200 : decode prog_15_method_15_code 200 = .ok (.iload 5, 2) := by decide +kernel
theorem px_d60_202 : decode prog_15_method_15_code 202 = .ok (.imul, 1) := by decide +kernel
theorem px_d60_203 : decode prog_15_method_15_code 203 = .ok (.iload_n 2, 1) := by decide +kernel
theorem px_d60_204 : decode prog_15_method_15_code 204 = .ok (.iadd, 1) := by decide +kernel
theorem px_d60_205 : decode prog_15_method_15_code 205 = .ok (.iaload, 1) := by decide +kernel
theorem px_d60_206 : decode prog_15_method_15_code 206 = .ok (.iload 4, 2) := by decide +kernel
theorem px_d60_208 : decode prog_15_method_15_code 208 = .ok (.imul, 1) := by decide +kernel
theorem px_d60_209 : decode prog_15_method_15_code 209 = .ok (.aload_n 0, 1) := by decide +kernel
theorem px_d60_210 : decode prog_15_method_15_code 210 = .ok (.getfield 38, 3) := by decide +kernel
theorem px_d60_213 : decode prog_15_method_15_code 213 = .ok (.irem, 1) := by decide +kernel
theorem px_d60_214 : decode prog_15_method_15_code 214 = .ok (.istore 6, 2) := by decide +kernel
theorem px_d60_216 : decode prog_15_method_15_code 216 = .ok (.iload_n 2, 1) := by decide +kernel
theorem px_d60_217 : decode prog_15_method_15_code 217 = .ok (.istore 7, 2) := by decide +kernel
theorem px_d60_219 : decode prog_15_method_15_code 219 = .ok (.iload 7, 2) := by decide +kernel
theorem px_d60_221 : decode prog_15_method_15_code 221 = .ok (.iload_n 1, 1) := by decide +kernel
theorem px_d60_222 : decode prog_15_method_15_code 222 = .ok (.if_icmp .ge 61, 3) := by decide +kernel
theorem px_d60_225 : decode prog_15_method_15_code 225 = .ok (.aload_n 0, 1) := by decide +kernel
theorem px_d60_226 : decode prog_15_method_15_code 226 = .ok (.getfield 137, 3) := by decide +kernel
theorem px_d60_229 : decode prog_15_method_15_code 229 = .ok (.bipush 6, 2) := by decide +kernel
theorem px_d60_231 : decode prog_15_method_15_code 231 = .ok (.iload 5, 2) := by decide +kernel
theorem px_d60_233 : decode prog_15_method_15_code 233 = .ok (.imul, 1) := by decide +kernel
theorem px_d60_234 : decode prog_15_method_15_code 234 = .ok (.iload 7, 2) := by decide +kernel
theorem px_d60_236 : decode prog_15_method_15_code 236 = .ok (.iadd, 1) := by decide +kernel
theorem px_d60_237 : decode prog_15_method_15_code 237 = .ok (.aload_n 0, 1) := by decide +kernel
theorem px_d60_238 : decode prog_15_method_15_code 238 = .ok (.getfield 137, 3) := by decide +kernel
theorem px_d60_241 : decode prog_15_method_15_code 241 = .ok (.bipush 6, 2) := by decide +kernel
theorem px_d60_243 : decode prog_15_method_15_code 243 = .ok (.iload 5, 2) := by decide +kernel
theorem px_d60_245 : decode prog_15_method_15_code 245 = .ok (.imul, 1) := by decide +kernel
theorem px_d60_246 : decode prog_15_method_15_code 246 = .ok (.iload 7, 2) := by decide +kernel
theorem px_d60_248 : decode prog_15_method_15_code 248 = .ok (.iadd, 1) := by decide +kernel
theorem px_d60_249 : decode prog_15_method_15_code 249 = .ok (.iaload, 1) := by decide +kernel
theorem px_d60_250 : decode prog_15_method_15_code 250 = .ok (.aload_n 0, 1) := by decide +kernel
theorem px_d60_251 : decode prog_15_method_15_code 251 = .ok (.getfield 38, 3) := by decide +kernel
theorem px_d60_254 : decode prog_15_method_15_code 254 = .ok (.iload 6, 2) := by decide +kernel
theorem px_d60_256 : decode prog_15_method_15_code 256 = .ok (.isub, 1) := by decide +kernel
theorem px_d60_257 : decode prog_15_method_15_code 257 = .ok (.aload_n 0, 1) := by decide +kernel
theorem px_d60_258 : decode prog_15_method_15_code 258 = .ok (.getfield 137, 3) := by decide +kernel
theorem px_d60_261 : decode prog_15_method_15_code 261 = .ok (.bipush 6, 2) := by decide +kernel
theorem px_d60_263 : decode prog_15_method_15_code 263 = .ok (.iload_n 2, 1) := by decide +kernel
theorem px_d60_264 : decode prog_15_method_15_code 264 = .ok (.imul, 1) := by decide +kernel
theorem px_d60_265 : decode prog_15_method_15_code 265 = .ok (.iload 7, 2) := by decide +kernel
theorem px_d60_267 : decode prog_15_method_15_code 267 = .ok (.iadd, 1) := by decide +kernel
theorem px_d60_268 : decode prog_15_method_15_code 268 = .ok (.iaload, 1) := by decide +kernel
theorem px_d60_269 : decode prog_15_method_15_code 269 = .ok (.imul, 1) := by decide +kernel
theorem px_d60_270 : decode prog_15_method_15_code 270 = .ok (.iadd, 1) := by decide +kernel
theorem px_d60_271 : decode prog_15_method_15_code 271 = .ok (.aload_n 0, 1) := by decide +kernel
theorem px_d60_272 : decode prog_15_method_15_code 272 = .ok (.getfield 38, 3) := by decide +kernel
theorem px_d60_275 : decode prog_15_method_15_code 275 = .ok (.irem, 1) := by decide +kernel
theorem px_d60_276 : decode prog_15_method_15_code 276 = .ok (.iastore, 1) := by decide +kernel
theorem px_d60_277 : decode prog_15_method_15_code 277 = .ok (.iinc 7 1, 3) := by decide +kernel
theorem px_d60_280 : decode prog_15_method_15_code 280 = .ok (.goto (-61), 3) := by decide +kernel
theorem px_d60_283 : decode prog_15_method_15_code 283 = .ok (.iinc 5 1, 3) := by decide +kernel
theorem px_d60_286 : decode prog_15_method_15_code 286 = .ok (.goto (-98), 3) := by decide +kernel
theorem px_d60_289 : decode prog_15_method_15_code 289 = .ok (.iinc 2 1, 3) := by decide +kernel
theorem px_d60_292 : decode prog_15_method_15_code 292 = .ok (.goto (-232), 3) := by decide +kernel
theorem px_d60_295 : decode prog_15_method_15_code 295 = .ok (.iconst 1, 1) := by decide +kernel
theorem px_d60_296 : decode prog_15_method_15_code 296 = .ok (.ireturn, 1) := by decide +kernel
theorem px_d70_0 : decode prog_15_method_25_code 0 = .ok (.aload_n 0, 1) := by decide +kernel
theorem px_d70_1 : decode prog_15_method_25_code 1 = .ok (.getfield 177, 3) := by decide +kernel
theorem px_d70_4 : decode prog_15_method_25_code 4 = .ok (.sipush 4096, 3) := by decide +kernel
theorem px_d70_7 : decode prog_15_method_25_code 7 = .ok (.iload_n 1, 1) := by decide +kernel
theorem px_d70_8 : decode prog_15_method_25_code 8 = .ok (.imul, 1) := by decide +kernel
theorem px_d70_9 : decode prog_15_method_25_code 9 = .ok (.iload_n 2, 1) := by decide +kernel
theorem px_d70_10 : decode prog_15_method_25_code 10 = .ok (.iadd, 1) := by decide +kernel
theorem px_d70_11 : decode prog_15_method_25_code 11 = .ok (.baload, 1) := by decide +kernel
theorem px_d70_12 : decode prog_15_method_25_code 12 = .ok (.ireturn, 1) := by decide +kernel
theorem px_d71_0 : decode prog_15_method_26_code 0 = .ok (.iconst 1, 1) := by decide +kernel
theorem px_d71_1 : decode prog_15_method_26_code 1 = .ok (.aload_n 0, 1) := by decide +kernel
theorem px_d71_2 : decode prog_15_method_26_code 2 = .ok (.getfield 157, 3) := by decide +kernel
theorem px_d71_5 : decode prog_15_method_26_code 5 = .ok (.iload_n 1, 1) := by decide +kernel
theorem px_d71_6 : decode prog_15_method_26_code 6 = .ok (.iaload, 1) := by decide +kernel
theorem px_d71_7 : decode prog_15_method_26_code 7 = .ok (.ishl, 1) := by decide +kernel
theorem px_d71_8 : decode prog_15_method_26_code 8 = .ok (.iconst 1, 1) := by decide +kernel
theorem px_d71_9 : decode prog_15_method_26_code 9 = .ok (.isub, 1) := by decide +kernel
theorem px_d71_10 : decode prog_15_method_26_code 10 = .ok (.ireturn, 1) := by decide +kernel
theorem px_d72_0 : decode prog_15_method_27_code 0 = .ok (.aload_n 0, 1) := by decide +kernel
theorem px_d72_1 : decode prog_15_method_27_code 1 = .ok (.iload_n 1, 1) := by decide +kernel
theorem px_d72_2 : decode prog_15_method_27_code 2 = .ok (.iload_n 2, 1) := by decide +kernel
theorem px_d72_3 : decode prog_15_method_27_code 3 = .ok (.invokevirtual 258, 3) := by decide +kernel
theorem px_d72_6 : decode prog_15_method_27_code 6 = .ok (.aload_n 0, 1) := by decide +kernel
theorem px_d72_7 : decode prog_15_method_27_code 7 = .ok (.getfield 187, 3) := by decide +kernel
theorem px_d72_10 : decode prog_15_method_27_code 10 = .ok (.iload_n 2, 1) := by decide +kernel
theorem px_d72_11 : decode prog_15_method_27_code 11 = .ok (.iaload, 1) := by decide +kernel
theorem px_d72_12 : decode prog_15_method_27_code 12 = .ok (.if_icmp .ne 7, 3) := by decide +kernel
theorem px_d72_15 : decode prog_15_method_27_code 15 = .ok (.iconst 1, 1) := by decide +kernel
theorem px_d72_16 : decode prog_15_method_27_code 16 = .ok (.goto 4, 3) := by decide +kernel
theorem px_d72_19 : decode prog_15_method_27_code 19 = .ok (.iconst 0, 1) := by decide +kernel
theorem px_d72_20 : decode prog_15_method_27_code 20 = .ok (.ireturn, 1) := by decide +kernel
theorem px_d73_0 : decode prog_15_method_28_code 0 = .ok (.aload_n 0, 1) := by decide +kernel
theorem px_d73_1 : decode prog_15_method_28_code 1 = .ok (.getfield 187, 3) := by decide +kernel
theorem px_d73_4 : decode prog_15_method_28_code 4 = .ok (.iload_n 2, 1) := by decide +kernel
theorem px_d73_5 : decode prog_15_method_28_code 5 = .ok (.iaload, 1) := by decide +kernel
theorem px_d73_6 : decode prog_15_method_28_code 6 = .ok (.aload_n 0, 1) := by decide +kernel
theorem px_d73_7 : decode prog_15_method_28_code 7 = .ok (.getfield 163, 3) := by decide +kernel
theorem px_d73_10 : decode prog_15_method_28_code 10 = .ok (.iload_n 1, 1) := by decide +kernel
theorem px_d73_11 : decode prog_15_method_28_code 11 = .ok (.iaload, 1) := by decide +kernel
theorem px_d73_12 : decode prog_15_method_28_code 12 = .ok (.isub, 1) := by decide +kernel
theorem px_d73_13 : decode prog_15_method_28_code 13 = .ok (.aload_n 0, 1) := by decide +kernel
theorem px_d73_14 : decode prog_15_method_28_code 14 = .ok (.iload_n 1, 1) := by decide +kernel
theorem px_d73_15 : decode prog_15_method_28_code 15 = .ok (.aload_n 0, 1) := by decide +kernel
theorem px_d73_16 : decode prog_15_method_28_code 16 = .ok (.iload_n 1, 1) := by decide +kernel
theorem px_d73_17 : decode prog_15_method_28_code 17 = .ok (.invokevirtual 262, 3) := by decide +kernel
theorem px_d73_20 : decode prog_15_method_28_code 20 = .ok (.iload_n 2, 1) := by decide +kernel
theorem px_d73_21 : decode prog_15_method_28_code 21 = .ok (.iconst (-1), 1) := by decide +kernel
theorem px_d73_22 : decode prog_15_method_28_code 22 = .ok (.ixor, 1) := by decide +kernel
theorem px_d73_23 : decode prog_15_method_28_code 23 = .ok (.iand, 1) := by decide +kernel
theorem px_d73_24 : decode prog_15_method_28_code 24 = .ok (.invokevirtual 258, 3) := by decide +kernel
theorem px_d73_27 : decode prog_15_method_28_code 27 = .ok (.iadd, 1) := by decide +kernel
theorem px_d73_28 : decode prog_15_method_28_code 28 = .ok (.ireturn, 1) := by decide +kernel
theorem px_d74_0 : decode prog_15_method_29_code 0 = .ok (.iload_n 3, 1) := by decide +kernel
theorem px_d74_1 : decode prog_15_method_29_code 1 = .ok (.ifCond .eq 12, 3) := by decide +kernel
theorem px_d74_4 : decode prog_15_method_29_code 4 = .ok (.aload_n 0, 1) := by decide +kernel
theorem px_d74_5 : decode prog_15_method_29_code 5 = .ok (.iload_n 1, 1) := by decide +kernel
theorem px_d74_6 : decode prog_15_method_29_code 6 = .ok (.iload_n 2, 1) := by decide +kernel
theorem px_d74_7 : decode prog_15_method_29_code 7 = .ok (.invokevirtual 265, 3) := by decide +kernel
theorem px_d74_10 : decode prog_15_method_29_code 10 = .ok (.goto 9, 3) := by decide +kernel
theorem px_d74_13 : decode prog_15_method_29_code 13 = .ok (.aload_n 0, 1) := by decide +kernel
theorem px_d74_14 : decode prog_15_method_29_code 14 = .ok (.iload_n 1, 1) := by decide +kernel
theorem px_d74_15 : decode prog_15_method_29_code 15 = .ok (.iload_n 2, 1) := by decide +kernel
theorem px_d74_16 : decode prog_15_method_29_code 16 = .ok (.invokevirtual 258, 3) := by decide +kernel
theorem px_d74_19 : decode prog_15_method_29_code 19 = .ok (.aload_n 0, 1) := by decide +kernel
theorem px_d74_20 : decode prog_15_method_29_code 20 = .ok (.getfield 187, 3) := by decide +kernel
theorem px_d74_23 : decode prog_15_method_29_code 23 = .ok (.iload_n 2, 1) := by decide +kernel
theorem px_d74_24 : decode prog_15_method_29_code 24 = .ok (.iaload, 1) := by decide +kernel
theorem px_d74_25 : decode prog_15_method_29_code 25 = .ok (.if_icmp .ge 7, 3) := by decide +kernel
theorem px_d74_28 : decode prog_15_method_29_code 28 = .ok (.iconst 1, 1) := by decide +kernel
theorem px_d74_29 : decode prog_15_method_29_code 29 = .ok (.goto 4, 3) := by decide +kernel
theorem px_d74_32 : decode prog_15_method_29_code 32 = .ok (.iconst 0, 1) := by decide +kernel
theorem px_d74_33 : decode prog_15_method_29_code 33 = .ok (.istore 4, 2) := by decide +kernel
theorem px_d74_35 : decode prog_15_method_29_code 35 = .ok (.iconst 0, 1) := by decide +kernel
theorem px_d74_36 : decode prog_15_method_29_code 36 = .ok (.istore 5, 2) := by decide +kernel
theorem px_d74_38 : decode prog_15_method_29_code 38 = .ok (.iload 5, 2) := by decide +kernel
theorem px_d74_40 : decode prog_15_method_29_code 40 = .ok (.aload_n 0, 1) := by decide +kernel
theorem px_d74_41 : decode prog_15_method_29_code 41 = .ok (.getfield 157, 3) := by decide +kernel
theorem px_d74_44 : decode prog_15_method_29_code 44 = .ok (.iload_n 1, 1) := by decide +kernel
theorem px_d74_45 : decode prog_15_method_29_code 45 = .ok (.iaload, 1) := by decide +kernel
theorem px_d74_46 : decode prog_15_method_29_code 46 = .ok (.if_icmp .ge 70, 3) := by decide +kernel
theorem px_d74_49 : decode prog_15_method_29_code 49 = .ok (.iload 4, 2) := by decide +kernel
theorem px_d74_51 : decode prog_15_method_29_code 51 = .ok (.ifCond .eq 65, 3) := by decide +kernel
theorem px_d74_54 : decode prog_15_method_29_code 54 = .ok (.iload_n 2, 1) := by decide +kernel
theorem px_d74_55 : decode prog_15_method_29_code 55 = .ok (.iload 5, 2) := by decide +kernel
theorem px_d74_57 : decode prog_15_method_29_code 57 = .ok (.ishr, 1) := by decide +kernel
theorem px_d74_58 : decode prog_15_method_29_code 58 = .ok (.iconst 1, 1) := by decide +kernel
theorem px_d74_59 : decode prog_15_method_29_code 59 = .ok (.iand, 1) := by decide +kernel
theorem px_d74_60 : decode prog_15_method_29_code 60 = .ok (.iconst 1, 1) := by decide +kernel
theorem px_d74_61 : decode prog_15_method_29_code 61 = .ok (.if_icmp .ne 49, 3) := by decide +kernel
theorem px_d74_64 : decode prog_15_method_29_code 64 = .ok (.iload_n 2, 1) := by decide +kernel
theorem px_d74_65 : decode prog_15_method_29_code 65 = .ok (.iconst 1, 1) := by decide +kernel
theorem px_d74_66 : decode prog_15_method_29_code 66 = .ok (.iload 5, 2) := by decide +kernel
theorem px_d74_68 : decode prog_15_method_29_code 68 = .ok (.ishl, 1) := by decide +kernel
theorem px_d74_69 : decode prog_15_method_29_code 69 = .ok (.ixor, 1) := by decide +kernel
theorem px_d74_70 : decode prog_15_method_29_code 70 = .ok (.istore 6, 2) := by decide +kernel
theorem px_d74_72 : decode prog_15_method_29_code 72 = .ok (.iload_n 3, 1) := by decide +kernel
theorem px_d74_73 : decode prog_15_method_29_code 73 = .ok (.ifCond .eq 13, 3) := by decide +kernel
theorem px_d74_76 : decode prog_15_method_29_code 76 = .ok (.aload_n 0, 1) := by decide +kernel
theorem px_d74_77 : decode prog_15_method_29_code 77 = .ok (.iload_n 1, 1) := by decide +kernel
theorem px_d74_78 : decode prog_15_method_29_code 78 = .ok (.iload 6, 2) := by decide +kernel
theorem px_d74_80 : decode prog_15_method_29_code 80 = .ok (.invokevirtual 265, 3) := by decide +kernel
theorem px_d74_83 : decode prog_15_method_29_code 83 = .ok (.goto 10, 3) := by decide +kernel
theorem px_d74_86 : decode prog_15_method_29_code 86 = .ok (.aload_n 0, 1) := by decide +kernel
theorem px_d74_87 : decode prog_15_method_29_code 87 = .ok (.iload_n 1, 1) := by decide +kernel
theorem px_d74_88 : decode prog_15_method_29_code 88 = .ok (.iload 6, 2) := by decide +kernel
theorem px_d74_90 : decode prog_15_method_29_code 90 = .ok (.invokevirtual 258, 3) := by decide +kernel
theorem px_d74_93 : decode prog_15_method_29_code 93 = .ok (.aload_n 0, 1) := by decide +kernel
theorem px_d74_94 : decode prog_15_method_29_code 94 = .ok (.getfield 187, 3) := by decide +kernel
theorem px_d74_97 : decode prog_15_method_29_code 97 = .ok (.iload 6, 2) := by decide +kernel
theorem px_d74_99 : decode prog_15_method_29_code 99 = .ok (.iaload, 1) := by decide +kernel
theorem px_d74_100 : decode prog_15_method_29_code 100 = .ok (.if_icmp .ne 7, 3) := by decide +kernel
theorem px_d74_103 : decode prog_15_method_29_code 103 = .ok (.iconst 1, 1) := by decide +kernel
theorem px_d74_104 : decode prog_15_method_29_code 104 = .ok (.goto 4, 3) := by decide +kernel
theorem px_d74_107 : decode prog_15_method_29_code 107 = .ok (.iconst 0, 1) := by decide +kernel
theorem px_d74_108 : decode prog_15_method_29_code 108 = .ok (.istore 4, 2) := by decide +kernel
theorem px_d74_110 : decode prog_15_method_29_code 110 = .ok (.iinc 5 1, 3) := by decide +kernel
theorem px_d74_113 : decode prog_15_method_29_code 113 = .ok (.goto (-75), 3) := by decide +kernel
theorem px_d74_116 : decode prog_15_method_29_code 116 = .ok (.iload 4, 2) := by decide +kernel
theorem px_d74_118 : decode prog_15_method_29_code 118 = .ok (.ireturn, 1) := by decide +kernel
theorem px_d75_0 : decode prog_15_method_30_code 0 = .ok (.iconst 1, 1) := by decide +kernel
theorem px_d75_1 : decode prog_15_method_30_code 1 = .ok (.istore_n 3, 1) := by decide +kernel
theorem px_d75_2 : decode prog_15_method_30_code 2 = .ok (.iconst 0, 1) := by decide +kernel
theorem px_d75_3 : decode prog_15_method_30_code 3 = .ok (.istore 4, 2) := by decide +kernel
theorem px_d75_5 : decode prog_15_method_30_code 5 = .ok (.iload 4, 2) := by decide +kernel
theorem px_d75_7 : decode prog_15_method_30_code 7 = .ok (.aload_n 0, 1) := by decide +kernel
theorem px_d75_8 : decode prog_15_method_30_code 8 = .ok (.getfield 157, 3) := by decide +kernel
theorem px_d75_11 : decode prog_15_method_30_code 11 = .ok (.iload_n 1, 1) := by decide +kernel
theorem px_d75_12 : decode prog_15_method_30_code 12 = .ok (.iaload, 1) := by decide +kernel
theorem px_d75_13 : decode prog_15_method_30_code 13 = .ok (.if_icmp .ge 49, 3) := by decide +kernel
theorem px_d75_16 : decode prog_15_method_30_code 16 = .ok (.iload_n 3, 1) := by decide +kernel
theorem px_d75_17 : decode prog_15_method_30_code 17 = .ok (.ifCond .eq 45, 3) := by decide +kernel
theorem px_d75_20 : decode prog_15_method_30_code 20 = .ok (.iload_n 2, 1) := by decide +kernel
theorem px_d75_21 : decode prog_15_method_30_code 21 = .ok (.iload 4, 2) := by decide +kernel
theorem px_d75_23 : decode prog_15_method_30_code 23 = .ok (.ishr, 1) := by decide +kernel
theorem px_d75_24 : decode prog_15_method_30_code 24 = .ok (.iconst 1, 1) := by decide +kernel
theorem px_d75_25 : decode prog_15_method_30_code 25 = .ok (.iand, 1) := by decide +kernel
theorem px_d75_26 : decode prog_15_method_30_code 26 = .ok (.iconst 1, 1) := by decide +kernel
theorem px_d75_27 : decode prog_15_method_30_code 27 = .ok (.if_icmp .eq 23, 3) := by decide +kernel
theorem px_d75_30 : decode prog_15_method_30_code 30 = .ok (.aload_n 0, 1) := by decide +kernel
theorem px_d75_31 : decode prog_15_method_30_code 31 = .ok (.iload_n 1, 1) := by decide +kernel
theorem px_d75_32 : decode prog_15_method_30_code 32 = .ok (.iload_n 2, 1) := by decide +kernel
theorem px_d75_33 : decode prog_15_method_30_code 33 = .ok (.iconst 1, 1) := by decide +kernel
theorem px_d75_34 : decode prog_15_method_30_code 34 = .ok (.iload 4, 2) := by decide +kernel
theorem px_d75_36 : decode prog_15_method_30_code 36 = .ok (.ishl, 1) := by decide +kernel
theorem px_d75_37 : decode prog_15_method_30_code 37 = .ok (.ior, 1) := by decide +kernel
theorem px_d75_38 : decode prog_15_method_30_code 38 = .ok (.invokevirtual 258, 3) := by decide +kernel
theorem px_d75_41 : decode prog_15_method_30_code 41 = .ok (.aload_n 0, 1) := by decide +kernel
theorem px_d75_42 : decode prog_15_method_30_code 42 = .ok (.iload_n 1, 1) := by decide +kernel
theorem px_d75_43 : decode prog_15_method_30_code 43 = .ok (.iload_n 2, 1) := by decide +kernel
theorem px_d75_44 : decode prog_15_method_30_code 44 = .ok (.invokevirtual 258, 3) := by decide +kernel
theorem px_d75_47 : decode prog_15_method_30_code 47 = .ok (.if_icmp .le 7, 3) := by decide +kernel
theorem px_d75_50 : decode prog_15_method_30_code 50 = .ok (.iconst 1, 1) := by decide +kernel
theorem px_d75_51 : decode prog_15_method_30_code 51 = .ok (.goto 4, 3) := by decide +kernel
theorem px_d75_54 : decode prog_15_method_30_code 54 = .ok (.iconst 0, 1) := by decide +kernel
theorem px_d75_55 : decode prog_15_method_30_code 55 = .ok (.istore_n 3, 1) := by decide +kernel
theorem px_d75_56 : decode prog_15_method_30_code 56 = .ok (.iinc 4 1, 3) := by decide +kernel
theorem px_d75_59 : decode prog_15_method_30_code 59 = .ok (.goto (-54), 3) := by decide +kernel
theorem px_d75_62 : decode prog_15_method_30_code 62 = .ok (.iload_n 3, 1) := by decide +kernel
theorem px_d75_63 : decode prog_15_method_30_code 63 = .ok (.ireturn, 1) := by decide +kernel
theorem px_d76_0 : decode prog_15_method_31_code 0 = .ok (.iload_n 2, 1) := by decide +kernel
theorem px_d76_1 : decode prog_15_method_31_code 1 = .ok (.ifCond .ne 35, 3) := by decide +kernel
theorem px_d76_4 : decode prog_15_method_31_code 4 = .ok (.aload_n 0, 1) := by decide +kernel
theorem px_d76_5 : decode prog_15_method_31_code 5 = .ok (.getfield 187, 3) := by decide +kernel
theorem px_d76_8 : decode prog_15_method_31_code 8 = .ok (.iload_n 3, 1) := by decide +kernel
theorem px_d76_9 : decode prog_15_method_31_code 9 = .ok (.iaload, 1) := by decide +kernel
theorem px_d76_10 : decode prog_15_method_31_code 10 = .ok (.aload_n 0, 1) := by decide +kernel
theorem px_d76_11 : decode prog_15_method_31_code 11 = .ok (.getfield 163, 3) := by decide +kernel
theorem px_d76_14 : decode prog_15_method_31_code 14 = .ok (.iload_n 1, 1) := by decide +kernel
theorem px_d76_15 : decode prog_15_method_31_code 15 = .ok (.iaload, 1) := by decide +kernel
theorem px_d76_16 : decode prog_15_method_31_code 16 = .ok (.if_icmp .ne 16, 3) := by decide +kernel
theorem px_d76_19 : decode prog_15_method_31_code 19 = .ok (.aload_n 0, 1) := by decide +kernel
theorem px_d76_20 : decode prog_15_method_31_code 20 = .ok (.iload_n 1, 1) := by decide +kernel
theorem px_d76_21 : decode prog_15_method_31_code 21 = .ok (.iload_n 3, 1) := by decide +kernel
theorem px_d76_22 : decode prog_15_method_31_code 22 = .ok (.invokevirtual 268, 3) := by decide +kernel
theorem px_d76_25 : decode prog_15_method_31_code 25 = .ok (.ifCond .eq 7, 3) := by decide +kernel
theorem px_d76_28 : decode prog_15_method_31_code 28 = .ok (.iconst 1, 1) := by decide +kernel
theorem px_d76_29 : decode prog_15_method_31_code 29 = .ok (.goto 37, 3) := by decide +kernel
theorem px_d76_32 : decode prog_15_method_31_code 32 = .ok (.iconst 0, 1) := by decide +kernel
theorem px_d76_33 : decode prog_15_method_31_code 33 = .ok (.goto 33, 3) := by decide +kernel
theorem px_d76_36 : decode prog_15_method_31_code 36 = .ok (.iload_n 2, 1) := by decide +kernel
theorem px_d76_37 : decode prog_15_method_31_code 37 = .ok (.iconst 3, 1) := by decide +kernel
theorem px_d76_38 : decode prog_15_method_31_code 38 = .ok (.if_icmp .ne 12, 3) := by decide +kernel
theorem px_d76_41 : decode prog_15_method_31_code 41 = .ok (.aload_n 0, 1) := by decide +kernel
theorem px_d76_42 : decode prog_15_method_31_code 42 = .ok (.iload_n 1, 1) := by decide +kernel
theorem px_d76_43 : decode prog_15_method_31_code 43 = .ok (.iload_n 3, 1) := by decide +kernel
theorem px_d76_44 : decode prog_15_method_31_code 44 = .ok (.invokevirtual 271, 3) := by decide +kernel
theorem px_d76_47 : decode prog_15_method_31_code 47 = .ok (.goto 19, 3) := by decide +kernel
theorem px_d76_50 : decode prog_15_method_31_code 50 = .ok (.aload_n 0, 1) := by decide +kernel
theorem px_d76_51 : decode prog_15_method_31_code 51 = .ok (.iload_n 1, 1) := by decide +kernel
theorem px_d76_52 : decode prog_15_method_31_code 52 = .ok (.iload_n 3, 1) := by decide +kernel
theorem px_d76_53 : decode prog_15_method_31_code 53 = .ok (.iload_n 2, 1) := by decide +kernel
theorem px_d76_54 : decode prog_15_method_31_code 54 = .ok (.iconst 2, 1) := by decide +kernel
theorem px_d76_55 : decode prog_15_method_31_code 55 = .ok (.if_icmp .ne 7, 3) := by decide +kernel
theorem px_d76_58 : decode prog_15_method_31_code 58 = .ok (.iconst 1, 1) := by decide +kernel
theorem px_d76_59 : decode prog_15_method_31_code 59 = .ok (.goto 4, 3) := by decide +kernel
theorem px_d76_62 : decode prog_15_method_31_code 62 = .ok (.iconst 0, 1) := by decide +kernel
theorem px_d76_63 : decode prog_15_method_31_code 63 = .ok (.invokevirtual 274, 3) := by decide +kernel
theorem px_d76_66 : decode prog_15_method_31_code 66 = .ok (.ireturn, 1) := by decide +kernel
theorem px_d77_0 : decode prog_15_method_32_code 0 = .ok (.iconst 0, 1) := by decide +kernel
theorem px_d77_1 : decode prog_15_method_32_code 1 = .ok (.istore_n 3, 1) := by decide +kernel
theorem px_d77_2 : decode prog_15_method_32_code 2 = .ok (.iconst 0, 1) := by decide +kernel
theorem px_d77_3 : decode prog_15_method_32_code 3 = .ok (.istore 4, 2) := by decide +kernel
theorem px_d77_5 : decode prog_15_method_32_code 5 = .ok (.iload 4, 2) := by decide +kernel
theorem px_d77_7 : decode prog_15_method_32_code 7 = .ok (.aload_n 0, 1) := by decide +kernel
theorem px_d77_8 : decode prog_15_method_32_code 8 = .ok (.iload_n 1, 1) := by decide +kernel
theorem px_d77_9 : decode prog_15_method_32_code 9 = .ok (.invokevirtual 262, 3) := by decide +kernel
theorem px_d77_12 : decode prog_15_method_32_code 12 = .ok (.if_icmp .gt 28, 3) := by decide +kernel
theorem px_d77_15 : decode prog_15_method_32_code 15 = .ok (.aload_n 0, 1) := by decide +kernel
theorem px_d77_16 : decode prog_15_method_32_code 16 = .ok (.iload_n 1, 1) := by decide +kernel
theorem px_d77_17 : decode prog_15_method_32_code 17 = .ok (.iload_n 2, 1) := by decide +kernel
theorem px_d77_18 : decode prog_15_method_32_code 18 = .ok (.iload 4, 2) := by decide +kernel
theorem px_d77_20 : decode prog_15_method_32_code 20 = .ok (.invokevirtual 278, 3) := by decide +kernel
theorem px_d77_23 : decode prog_15_method_32_code 23 = .ok (.ifCond .eq 9, 3) := by decide +kernel
theorem px_d77_26 : decode prog_15_method_32_code 26 = .ok (.iload_n 3, 1) := by decide +kernel
theorem px_d77_27 : decode prog_15_method_32_code 27 = .ok (.iconst 1, 1) := by decide +kernel
theorem px_d77_28 : decode prog_15_method_32_code 28 = .ok (.iadd, 1) := by decide +kernel
theorem px_d77_29 : decode prog_15_method_32_code 29 = .ok (.goto 4, 3) := by decide +kernel
theorem px_d77_32 : decode prog_15_method_32_code 32 = .ok (.iload_n 3, 1) := by decide +kernel
theorem px_d77_33 : decode prog_15_method_32_code 33 = .ok (.istore_n 3, 1) := by decide +kernel
theorem px_d77_34 : decode prog_15_method_32_code 34 = .ok (.iinc 4 1, 3) := by decide +kernel
theorem px_d77_37 : decode prog_15_method_32_code 37 = .ok (.goto (-32), 3) := by decide +kernel
theorem px_d77_40 : decode prog_15_method_32_code 40 = .ok (.iload_n 3, 1) := by decide +kernel
theorem px_d77_41 : decode prog_15_method_32_code 41 = .ok (.ireturn, 1) := by decide +kernel
theorem px_d78_0 : decode prog_15_method_33_code 0 = .ok (.iconst 0, 1) := by decide +kernel
theorem px_d78_1 : decode prog_15_method_33_code 1 = .ok (.istore 4, 2) := by decide +kernel
theorem px_d78_3 : decode prog_15_method_33_code 3 = .ok (.iconst 0, 1) := by decide +kernel
theorem px_d78_4 : decode prog_15_method_33_code 4 = .ok (.istore 5, 2) := by decide +kernel
theorem px_d78_6 : decode prog_15_method_33_code 6 = .ok (.iload 5, 2) := by decide +kernel
theorem px_d78_8 : decode prog_15_method_33_code 8 = .ok (.sipush 4096, 3) := by decide +kernel
theorem px_d78_11 : decode prog_15_method_33_code 11 = .ok (.if_icmp .ge 61, 3) := by decide +kernel
theorem px_d78_14 : decode prog_15_method_33_code 14 = .ok (.iload_n 3, 1) := by decide +kernel
theorem px_d78_15 : decode prog_15_method_33_code 15 = .ok (.ifCond .lt 57, 3) := by decide +kernel
theorem px_d78_18 : decode prog_15_method_33_code 18 = .ok (.aload_n 0, 1) := by decide +kernel
theorem px_d78_19 : decode prog_15_method_33_code 19 = .ok (.getfield 184, 3) := by decide +kernel
theorem px_d78_22 : decode prog_15_method_33_code 22 = .ok (.iload 5, 2) := by decide +kernel
theorem px_d78_24 : decode prog_15_method_33_code 24 = .ok (.iaload, 1) := by decide +kernel
theorem px_d78_25 : decode prog_15_method_33_code 25 = .ok (.aload_n 0, 1) := by decide +kernel
theorem px_d78_26 : decode prog_15_method_33_code 26 = .ok (.iload_n 1, 1) := by decide +kernel
theorem px_d78_27 : decode prog_15_method_33_code 27 = .ok (.invokevirtual 262, 3) := by decide +kernel
theorem px_d78_30 : decode prog_15_method_33_code 30 = .ok (.if_icmp .gt 36, 3) := by decide +kernel
theorem px_d78_33 : decode prog_15_method_33_code 33 = .ok (.aload_n 0, 1) := by decide +kernel
theorem px_d78_34 : decode prog_15_method_33_code 34 = .ok (.iload_n 1, 1) := by decide +kernel
theorem px_d78_35 : decode prog_15_method_33_code 35 = .ok (.iload_n 2, 1) := by decide +kernel
theorem px_d78_36 : decode prog_15_method_33_code 36 = .ok (.aload_n 0, 1) := by decide +kernel
theorem px_d78_37 : decode prog_15_method_33_code 37 = .ok (.getfield 184, 3) := by decide +kernel
theorem px_d78_40 : decode prog_15_method_33_code 40 = .ok (.iload 5, 2) := by decide +kernel
theorem px_d78_42 : decode prog_15_method_33_code 42 = .ok (.iaload, 1) := by decide +kernel
theorem px_d78_43 : decode prog_15_method_33_code 43 = .ok (.invokevirtual 278, 3) := by decide +kernel
theorem px_d78_46 : decode prog_15_method_33_code 46 = .ok (.ifCond .eq 20, 3) := by decide +kernel
theorem px_d78_49 : decode prog_15_method_33_code 49 = .ok (.iload 4, 2) := by decide +kernel
theorem px_d78_51 : decode prog_15_method_33_code 51 = .ok (.iload_n 3, 1) := by decide +kernel
theorem px_d78_52 : decode prog_15_method_33_code 52 = .ok (.if_icmp .ne 11, 3) := by decide +kernel
theorem px_d78_55 : decode prog_15_method_33_code 55 = .ok (.aload_n 0, 1) := by decide +kernel
theorem px_d78_56 : decode prog_15_method_33_code 56 = .ok (.getfield 184, 3) := by decide +kernel
theorem px_d78_59 : decode prog_15_method_33_code 59 = .ok (.iload 5, 2) := by decide +kernel
theorem px_d78_61 : decode prog_15_method_33_code 61 = .ok (.iaload, 1) := by decide +kernel
theorem px_d78_62 : decode prog_15_method_33_code 62 = .ok (.ireturn, 1) := by decide +kernel
theorem px_d78_63 : decode prog_15_method_33_code 63 = .ok (.iinc 4 1, 3) := by decide +kernel
theorem px_d78_66 : decode prog_15_method_33_code 66 = .ok (.iinc 5 1, 3) := by decide +kernel
theorem px_d78_69 : decode prog_15_method_33_code 69 = .ok (.goto (-63), 3) := by decide +kernel
theorem px_d78_72 : decode prog_15_method_33_code 72 = .ok (.iconst (-1), 1) := by decide +kernel
theorem px_d78_73 : decode prog_15_method_33_code 73 = .ok (.ireturn, 1) := by decide +kernel
theorem px_d80_0 : decode prog_15_method_35_code 0 = .ok (.iconst (-1), 1) := by decide +kernel
theorem px_d80_1 : decode prog_15_method_35_code 1 = .ok (.istore_n 2, 1) := by decide +kernel
theorem px_d80_2 : decode prog_15_method_35_code 2 = .ok (.iconst 0, 1) := by decide +kernel
theorem px_d80_3 : decode prog_15_method_35_code 3 = .ok (.istore_n 3, 1) := by decide +kernel
theorem px_d80_4 : decode prog_15_method_35_code 4 = .ok (.iconst 0, 1) := by decide +kernel
theorem px_d80_5 : decode prog_15_method_35_code 5 = .ok (.istore 4, 2) := by decide +kernel
theorem px_d80_7 : decode prog_15_method_35_code 7 = .ok (.iload 4, 2) := by decide +kernel
theorem px_d80_9 : decode prog_15_method_35_code 9 = .ok (.sipush 4096, 3) := by decide +kernel
theorem px_d80_12 : decode prog_15_method_35_code 12 = .ok (.if_icmp .ge 106, 3) := by decide +kernel
theorem px_d80_15 : decode prog_15_method_35_code 15 = .ok (.aload_n 0, 1) := by decide +kernel
theorem px_d80_16 : decode prog_15_method_35_code 16 = .ok (.getfield 184, 3) := by decide +kernel
theorem px_d80_19 : decode prog_15_method_35_code 19 = .ok (.iload 4, 2) := by decide +kernel
theorem px_d80_21 : decode prog_15_method_35_code 21 = .ok (.iaload, 1) := by decide +kernel
theorem px_d80_22 : decode prog_15_method_35_code 22 = .ok (.istore 5, 2) := by decide +kernel
theorem px_d80_24 : decode prog_15_method_35_code 24 = .ok (.iload 5, 2) := by decide +kernel
theorem px_d80_26 : decode prog_15_method_35_code 26 = .ok (.aload_n 0, 1) := by decide +kernel
theorem px_d80_27 : decode prog_15_method_35_code 27 = .ok (.iload_n 1, 1) := by decide +kernel
theorem px_d80_28 : decode prog_15_method_35_code 28 = .ok (.invokevirtual 262, 3) := by decide +kernel
theorem px_d80_31 : decode prog_15_method_35_code 31 = .ok (.if_icmp .gt 81, 3) := by decide +kernel
theorem px_d80_34 : decode prog_15_method_35_code 34 = .ok (.aload_n 0, 1) := by decide +kernel
theorem px_d80_35 : decode prog_15_method_35_code 35 = .ok (.iload_n 1, 1) := by decide +kernel
theorem px_d80_36 : decode prog_15_method_35_code 36 = .ok (.iconst 0, 1) := by decide +kernel
theorem px_d80_37 : decode prog_15_method_35_code 37 = .ok (.iload 5, 2) := by decide +kernel
theorem px_d80_39 : decode prog_15_method_35_code 39 = .ok (.invokevirtual 278, 3) := by decide +kernel
theorem px_d80_42 : decode prog_15_method_35_code 42 = .ok (.ifCond .ne 6, 3) := by decide +kernel
theorem px_d80_45 : decode prog_15_method_35_code 45 = .ok (.goto 67, 3) := by decide +kernel
theorem px_d80_48 : decode prog_15_method_35_code 48 = .ok (.iconst 0, 1) := by decide +kernel
theorem px_d80_49 : decode prog_15_method_35_code 49 = .ok (.istore 6, 2) := by decide +kernel
theorem px_d80_51 : decode prog_15_method_35_code 51 = .ok (.iconst 0, 1) := by decide +kernel
theorem px_d80_52 : decode prog_15_method_35_code 52 = .ok (.istore 7, 2) := by decide +kernel
theorem px_d80_54 : decode prog_15_method_35_code 54 = .ok (.iload 7, 2) := by decide +kernel
theorem px_d80_56 : decode prog_15_method_35_code 56 = .ok (.aload_n 0, 1) := by decide +kernel
theorem px_d80_57 : decode prog_15_method_35_code 57 = .ok (.getfield 157, 3) := by decide +kernel
theorem px_d80_60 : decode prog_15_method_35_code 60 = .ok (.iload_n 1, 1) := by decide +kernel
theorem px_d80_61 : decode prog_15_method_35_code 61 = .ok (.iaload, 1) := by decide +kernel
theorem px_d80_62 : decode prog_15_method_35_code 62 = .ok (.if_icmp .ge 34, 3) := by decide +kernel
theorem px_d80_65 : decode prog_15_method_35_code 65 = .ok (.iload 6, 2) := by decide +kernel
theorem px_d80_67 : decode prog_15_method_35_code 67 = .ok (.iload 5, 2) := by decide +kernel
theorem px_d80_69 : decode prog_15_method_35_code 69 = .ok (.iload 7, 2) := by decide +kernel
theorem px_d80_71 : decode prog_15_method_35_code 71 = .ok (.ishr, 1) := by decide +kernel
theorem px_d80_72 : decode prog_15_method_35_code 72 = .ok (.iconst 1, 1) := by decide +kernel
theorem px_d80_73 : decode prog_15_method_35_code 73 = .ok (.iand, 1) := by decide +kernel
theorem px_d80_74 : decode prog_15_method_35_code 74 = .ok (.aload_n 0, 1) := by decide +kernel
theorem px_d80_75 : decode prog_15_method_35_code 75 = .ok (.getfield 173, 3) := by decide +kernel
theorem px_d80_78 : decode prog_15_method_35_code 78 = .ok (.bipush 12, 2) := by decide +kernel
theorem px_d80_80 : decode prog_15_method_35_code 80 = .ok (.iload_n 1, 1) := by decide +kernel
theorem px_d80_81 : decode prog_15_method_35_code 81 = .ok (.imul, 1) := by decide +kernel
theorem px_d80_82 : decode prog_15_method_35_code 82 = .ok (.iload 7, 2) := by decide +kernel
theorem px_d80_84 : decode prog_15_method_35_code 84 = .ok (.iadd, 1) := by decide +kernel
theorem px_d80_85 : decode prog_15_method_35_code 85 = .ok (.iaload, 1) := by decide +kernel
theorem px_d80_86 : decode prog_15_method_35_code 86 = .ok (.imul, 1) := by decide +kernel
theorem px_d80_87 : decode prog_15_method_35_code 87 = .ok (.iadd, 1) := by decide +kernel
theorem px_d80_88 : decode prog_15_method_35_code 88 = .ok (.istore 6, 2) := by decide +kernel
theorem px_d80_90 : decode prog_15_method_35_code 90 = .ok (.iinc 7 1, 3) := by decide +kernel
theorem px_d80_93 : decode prog_15_method_35_code 93 = .ok (.goto (-39), 3) := by decide +kernel
theorem px_d80_96 : decode prog_15_method_35_code 96 = .ok (.iload_n 2, 1) := by decide +kernel
theorem px_d80_97 : decode prog_15_method_35_code 97 = .ok (.ifCond .lt 9, 3) := by decide +kernel
theorem px_d80_100 : decode prog_15_method_35_code 100 = .ok (.iload 6, 2) := by decide +kernel
theorem px_d80_102 : decode prog_15_method_35_code 102 = .ok (.iload_n 3, 1) := by decide +kernel
theorem px_d80_103 : decode prog_15_method_35_code 103 = .ok (.if_icmp .le 9, 3) := by decide +kernel
theorem px_d80_106 : decode prog_15_method_35_code 106 = .ok (.iload 5, 2) := by decide +kernel
theorem px_d80_108 : decode prog_15_method_35_code 108 = .ok (.istore_n 2, 1) := by decide +kernel
theorem px_d80_109 : decode prog_15_method_35_code 109 = .ok (.iload 6, 2) := by decide +kernel
theorem px_d80_111 : decode prog_15_method_35_code 111 = .ok (.istore_n 3, 1) := by decide +kernel
theorem px_d80_112 : decode prog_15_method_35_code 112 = .ok (.iinc 4 1, 3) := by decide +kernel
theorem px_d80_115 : decode prog_15_method_35_code 115 = .ok (.goto (-108), 3) := by decide +kernel
theorem px_d80_118 : decode prog_15_method_35_code 118 = .ok (.iload_n 2, 1) := by decide +kernel
theorem px_d80_119 : decode prog_15_method_35_code 119 = .ok (.ireturn, 1) := by decide +kernel
theorem px_d81_0 : decode prog_15_method_36_code 0 = .ok (.iconst 0, 1) := by decide +kernel
theorem px_d81_1 : decode prog_15_method_36_code 1 = .ok (.istore_n 3, 1) := by decide +kernel
theorem px_d81_2 : decode prog_15_method_36_code 2 = .ok (.iconst 0, 1) := by decide +kernel
theorem px_d81_3 : decode prog_15_method_36_code 3 = .ok (.istore 4, 2) := by decide +kernel
theorem px_d81_5 : decode prog_15_method_36_code 5 = .ok (.iload 4, 2) := by decide +kernel
theorem px_d81_7 : decode prog_15_method_36_code 7 = .ok (.sipush 4096, 3) := by decide +kernel
theorem px_d81_10 : decode prog_15_method_36_code 10 = .ok (.if_icmp .ge 67, 3) := by decide +kernel
theorem px_d81_13 : decode prog_15_method_36_code 13 = .ok (.aload_n 0, 1) := by decide +kernel
theorem px_d81_14 : decode prog_15_method_36_code 14 = .ok (.getfield 184, 3) := by decide +kernel
theorem px_d81_17 : decode prog_15_method_36_code 17 = .ok (.iload 4, 2) := by decide +kernel
theorem px_d81_19 : decode prog_15_method_36_code 19 = .ok (.iaload, 1) := by decide +kernel
theorem px_d81_20 : decode prog_15_method_36_code 20 = .ok (.istore 5, 2) := by decide +kernel
theorem px_d81_22 : decode prog_15_method_36_code 22 = .ok (.iload 5, 2) := by decide +kernel
theorem px_d81_24 : decode prog_15_method_36_code 24 = .ok (.aload_n 0, 1) := by decide +kernel
theorem px_d81_25 : decode prog_15_method_36_code 25 = .ok (.iload_n 1, 1) := by decide +kernel
theorem px_d81_26 : decode prog_15_method_36_code 26 = .ok (.invokevirtual 262, 3) := by decide +kernel
theorem px_d81_29 : decode prog_15_method_36_code 29 = .ok (.if_icmp .gt 42, 3) := by decide +kernel
theorem px_d81_32 : decode prog_15_method_36_code 32 = .ok (.aload_n 0, 1) := by decide +kernel
theorem px_d81_33 : decode prog_15_method_36_code 33 = .ok (.getfield 187, 3) := by decide +kernel
theorem px_d81_36 : decode prog_15_method_36_code 36 = .ok (.iload 5, 2) := by decide +kernel
theorem px_d81_38 : decode prog_15_method_36_code 38 = .ok (.iaload, 1) := by decide +kernel
theorem px_d81_39 : decode prog_15_method_36_code 39 = .ok (.aload_n 0, 1) := by decide +kernel
theorem px_d81_40 : decode prog_15_method_36_code 40 = .ok (.getfield 187, 3) := by decide +kernel
theorem px_d81_43 : decode prog_15_method_36_code 43 = .ok (.iload_n 3, 1) := by decide +kernel
theorem px_d81_44 : decode prog_15_method_36_code 44 = .ok (.iaload, 1) := by decide +kernel
theorem px_d81_45 : decode prog_15_method_36_code 45 = .ok (.if_icmp .le 26, 3) := by decide +kernel
theorem px_d81_48 : decode prog_15_method_36_code 48 = .ok (.aload_n 0, 1) := by decide +kernel
theorem px_d81_49 : decode prog_15_method_36_code 49 = .ok (.iload_n 1, 1) := by decide +kernel
theorem px_d81_50 : decode prog_15_method_36_code 50 = .ok (.iload 5, 2) := by decide +kernel
theorem px_d81_52 : decode prog_15_method_36_code 52 = .ok (.invokevirtual 268, 3) := by decide +kernel
theorem px_d81_55 : decode prog_15_method_36_code 55 = .ok (.ifCond .eq 16, 3) := by decide +kernel
theorem px_d81_58 : decode prog_15_method_36_code 58 = .ok (.aload_n 0, 1) := by decide +kernel
theorem px_d81_59 : decode prog_15_method_36_code 59 = .ok (.iload_n 2, 1) := by decide +kernel
theorem px_d81_60 : decode prog_15_method_36_code 60 = .ok (.iload 5, 2) := by decide +kernel
theorem px_d81_62 : decode prog_15_method_36_code 62 = .ok (.invokevirtual 268, 3) := by decide +kernel
theorem px_d81_65 : decode prog_15_method_36_code 65 = .ok (.ifCond .eq 6, 3) := by decide +kernel
theorem px_d81_68 : decode prog_15_method_36_code 68 = .ok (.iload 5, 2) := by decide +kernel
theorem px_d81_70 : decode prog_15_method_36_code 70 = .ok (.istore_n 3, 1) := by decide +kernel
theorem px_d81_71 : decode prog_15_method_36_code 71 = .ok (.iinc 4 1, 3) := by decide +kernel
theorem px_d81_74 : decode prog_15_method_36_code 74 = .ok (.goto (-69), 3) := by decide +kernel
theorem px_d81_77 : decode prog_15_method_36_code 77 = .ok (.iload_n 3, 1) := by decide +kernel
theorem px_d81_78 : decode prog_15_method_36_code 78 = .ok (.ireturn, 1) := by decide +kernel
theorem px_d82_0 : decode prog_15_method_37_code 0 = .ok (.aload_n 0, 1) := by decide +kernel
theorem px_d82_1 : decode prog_15_method_37_code 1 = .ok (.getfield 187, 3) := by decide +kernel
theorem px_d82_4 : decode prog_15_method_37_code 4 = .ok (.aload_n 0, 1) := by decide +kernel
theorem px_d82_5 : decode prog_15_method_37_code 5 = .ok (.iload_n 1, 1) := by decide +kernel
theorem px_d82_6 : decode prog_15_method_37_code 6 = .ok (.iload_n 2, 1) := by decide +kernel
theorem px_d82_7 : decode prog_15_method_37_code 7 = .ok (.invokevirtual 282, 3) := by decide +kernel
theorem px_d82_10 : decode prog_15_method_37_code 10 = .ok (.iaload, 1) := by decide +kernel
theorem px_d82_11 : decode prog_15_method_37_code 11 = .ok (.istore_n 3, 1) := by decide +kernel
theorem px_d82_12 : decode prog_15_method_37_code 12 = .ok (.aload_n 0, 1) := by decide +kernel
theorem px_d82_13 : decode prog_15_method_37_code 13 = .ok (.iload_n 1, 1) := by decide +kernel
theorem px_d82_14 : decode prog_15_method_37_code 14 = .ok (.invokevirtual 262, 3) := by decide +kernel
theorem px_d82_17 : decode prog_15_method_37_code 17 = .ok (.istore 4, 2) := by decide +kernel
theorem px_d82_19 : decode prog_15_method_37_code 19 = .ok (.iload 4, 2) := by decide +kernel
theorem px_d82_21 : decode prog_15_method_37_code 21 = .ok (.istore 5, 2) := by decide +kernel
theorem px_d82_23 : decode prog_15_method_37_code 23 = .ok (.iconst 0, 1) := by decide +kernel
theorem px_d82_24 : decode prog_15_method_37_code 24 = .ok (.istore 6, 2) := by decide +kernel
theorem px_d82_26 : decode prog_15_method_37_code 26 = .ok (.iload 6, 2) := by decide +kernel
theorem px_d82_28 : decode prog_15_method_37_code 28 = .ok (.iload 4, 2) := by decide +kernel
theorem px_d82_30 : decode prog_15_method_37_code 30 = .ok (.if_icmp .gt 45, 3) := by decide +kernel
theorem px_d82_33 : decode prog_15_method_37_code 33 = .ok (.aload_n 0, 1) := by decide +kernel
theorem px_d82_34 : decode prog_15_method_37_code 34 = .ok (.iload_n 1, 1) := by decide +kernel
theorem px_d82_35 : decode prog_15_method_37_code 35 = .ok (.iload 6, 2) := by decide +kernel
theorem px_d82_37 : decode prog_15_method_37_code 37 = .ok (.invokevirtual 258, 3) := by decide +kernel
theorem px_d82_40 : decode prog_15_method_37_code 40 = .ok (.aload_n 0, 1) := by decide +kernel
theorem px_d82_41 : decode prog_15_method_37_code 41 = .ok (.iload_n 2, 1) := by decide +kernel
theorem px_d82_42 : decode prog_15_method_37_code 42 = .ok (.iload 4, 2) := by decide +kernel
theorem px_d82_44 : decode prog_15_method_37_code 44 = .ok (.iload 6, 2) := by decide +kernel
theorem px_d82_46 : decode prog_15_method_37_code 46 = .ok (.iconst (-1), 1) := by decide +kernel
theorem px_d82_47 : decode prog_15_method_37_code 47 = .ok (.ixor, 1) := by decide +kernel
theorem px_d82_48 : decode prog_15_method_37_code 48 = .ok (.iand, 1) := by decide +kernel
theorem px_d82_49 : decode prog_15_method_37_code 49 = .ok (.invokevirtual 258, 3) := by decide +kernel
theorem px_d82_52 : decode prog_15_method_37_code 52 = .ok (.iadd, 1) := by decide +kernel
theorem px_d82_53 : decode prog_15_method_37_code 53 = .ok (.iload_n 3, 1) := by decide +kernel
theorem px_d82_54 : decode prog_15_method_37_code 54 = .ok (.if_icmp .ne 11, 3) := by decide +kernel
theorem px_d82_57 : decode prog_15_method_37_code 57 = .ok (.iload 5, 2) := by decide +kernel
theorem px_d82_59 : decode prog_15_method_37_code 59 = .ok (.iload 6, 2) := by decide +kernel
theorem px_d82_61 : decode prog_15_method_37_code 61 = .ok (.iand, 1) := by decide +kernel
theorem px_d82_62 : decode prog_15_method_37_code 62 = .ok (.goto 5, 3) := by decide +kernel
theorem px_d82_65 : decode prog_15_method_37_code 65 = .ok (.iload 5, 2) := by decide +kernel
theorem px_d82_67 : decode prog_15_method_37_code 67 = .ok (.istore 5, 2) := by decide +kernel
theorem px_d82_69 : decode prog_15_method_37_code 69 = .ok (.iinc 6 1, 3) := by decide +kernel
theorem px_d82_72 : decode prog_15_method_37_code 72 = .ok (.goto (-46), 3) := by decide +kernel
theorem px_d82_75 : decode prog_15_method_37_code 75 = .ok (.iload 5, 2) := by decide +kernel
theorem px_d82_77 : decode prog_15_method_37_code 77 = .ok (.ireturn, 1) := by decide +kernel
theorem px_d83_0 : decode prog_15_method_38_code 0 = .ok (.iconst 0, 1) := by decide +kernel
theorem px_d83_1 : decode prog_15_method_38_code 1 = .ok (.istore_n 2, 1) := by decide +kernel
theorem px_d83_2 : decode prog_15_method_38_code 2 = .ok (.iconst 0, 1) := by decide +kernel
theorem px_d83_3 : decode prog_15_method_38_code 3 = .ok (.istore_n 3, 1) := by decide +kernel
theorem px_d83_4 : decode prog_15_method_38_code 4 = .ok (.iload_n 3, 1) := by decide +kernel
theorem px_d83_5 : decode prog_15_method_38_code 5 = .ok (.iload_n 1, 1) := by decide +kernel
theorem px_d83_6 : decode prog_15_method_38_code 6 = .ok (.if_icmp .ge 42, 3) := by decide +kernel
theorem px_d83_9 : decode prog_15_method_38_code 9 = .ok (.iconst 0, 1) := by decide +kernel
theorem px_d83_10 : decode prog_15_method_38_code 10 = .ok (.istore 4, 2) := by decide +kernel
theorem px_d83_12 : decode prog_15_method_38_code 12 = .ok (.iload 4, 2) := by decide +kernel
theorem px_d83_14 : decode prog_15_method_38_code 14 = .ok (.iload_n 3, 1) := by decide +kernel
theorem px_d83_15 : decode prog_15_method_38_code 15 = .ok (.if_icmp .ge 27, 3) := by decide +kernel
theorem px_d83_18 : decode prog_15_method_38_code 18 = .ok (.aload_n 0, 1) := by decide +kernel
theorem px_d83_19 : decode prog_15_method_38_code 19 = .ok (.iload 4, 2) := by decide +kernel
theorem px_d83_21 : decode prog_15_method_38_code 21 = .ok (.iaload, 1) := by decide +kernel
theorem px_d83_22 : decode prog_15_method_38_code 22 = .ok (.aload_n 0, 1) := by decide +kernel
theorem px_d83_23 : decode prog_15_method_38_code 23 = .ok (.iload_n 3, 1) := by decide +kernel
theorem px_d83_24 : decode prog_15_method_38_code 24 = .ok (.iaload, 1) := by decide +kernel
theorem px_d83_25 : decode prog_15_method_38_code 25 = .ok (.if_icmp .le 9, 3) := by decide +kernel
theorem px_d83_28 : decode prog_15_method_38_code 28 = .ok (.iload_n 2, 1) := by decide +kernel
theorem px_d83_29 : decode prog_15_method_38_code 29 = .ok (.iconst 1, 1) := by decide +kernel
theorem px_d83_30 : decode prog_15_method_38_code 30 = .ok (.iadd, 1) := by decide +kernel
theorem px_d83_31 : decode prog_15_method_38_code 31 = .ok (.goto 4, 3) := by decide +kernel
theorem px_d83_34 : decode prog_15_method_38_code 34 = .ok (.iload_n 2, 1) := by decide +kernel
theorem px_d83_35 : decode prog_15_method_38_code 35 = .ok (.istore_n 2, 1) := by decide +kernel
theorem px_d83_36 : decode prog_15_method_38_code 36 = .ok (.iinc 4 1, 3) := by decide +kernel
theorem px_d83_39 : decode prog_15_method_38_code 39 = .ok (.goto (-27), 3) := by decide +kernel
theorem px_d83_42 : decode prog_15_method_38_code 42 = .ok (.iinc 3 1, 3) := by decide +kernel
theorem px_d83_45 : decode prog_15_method_38_code 45 = .ok (.goto (-41), 3) := by decide +kernel
theorem px_d83_48 : decode prog_15_method_38_code 48 = .ok (.iload_n 2, 1) := by decide +kernel
theorem px_d83_49 : decode prog_15_method_38_code 49 = .ok (.iconst 2, 1) := by decide +kernel
theorem px_d83_50 : decode prog_15_method_38_code 50 = .ok (.irem, 1) := by decide +kernel
theorem px_d83_51 : decode prog_15_method_38_code 51 = .ok (.ifCond .ne 7, 3) := by decide +kernel
theorem px_d83_54 : decode prog_15_method_38_code 54 = .ok (.iconst 1, 1) := by decide +kernel
theorem px_d83_55 : decode prog_15_method_38_code 55 = .ok (.goto 4, 3) := by decide +kernel
theorem px_d83_58 : decode prog_15_method_38_code 58 = .ok (.iconst 0, 1) := by decide +kernel
theorem px_d83_59 : decode prog_15_method_38_code 59 = .ok (.ireturn, 1) := by decide +kernel
theorem px_d84_0 : decode prog_15_method_39_code 0 = .ok (.iconst 0, 1) := by decide +kernel
theorem px_d84_1 : decode prog_15_method_39_code 1 = .ok (.istore_n 3, 1) := by decide +kernel
theorem px_d84_2 : decode prog_15_method_39_code 2 = .ok (.iload_n 2, 1) := by decide +kernel
theorem px_d84_3 : decode prog_15_method_39_code 3 = .ok (.iload_n 3, 1) := by decide +kernel
theorem px_d84_4 : decode prog_15_method_39_code 4 = .ok (.ishr, 1) := by decide +kernel
theorem px_d84_5 : decode prog_15_method_39_code 5 = .ok (.iconst 1, 1) := by decide +kernel
theorem px_d84_6 : decode prog_15_method_39_code 6 = .ok (.iand, 1) := by decide +kernel
theorem px_d84_7 : decode prog_15_method_39_code 7 = .ok (.ifCond .ne 9, 3) := by decide +kernel
theorem px_d84_10 : decode prog_15_method_39_code 10 = .ok (.iinc 3 1, 3) := by decide +kernel
theorem px_d84_13 : decode prog_15_method_39_code 13 = .ok (.goto (-11), 3) := by decide +kernel
theorem px_d84_16 : decode prog_15_method_39_code 16 = .ok (.iconst 0, 1) := by decide +kernel
theorem px_d84_17 : decode prog_15_method_39_code 17 = .ok (.istore 4, 2) := by decide +kernel
theorem px_d84_19 : decode prog_15_method_39_code 19 = .ok (.iload_n 2, 1) := by decide +kernel
theorem px_d84_20 : decode prog_15_method_39_code 20 = .ok (.iconst 1, 1) := by decide +kernel
theorem px_d84_21 : decode prog_15_method_39_code 21 = .ok (.iload_n 3, 1) := by decide +kernel
theorem px_d84_22 : decode prog_15_method_39_code 22 = .ok (.ishl, 1) := by decide +kernel
theorem px_d84_23 : decode prog_15_method_39_code 23 = .ok (.ixor, 1) := by decide +kernel
theorem px_d84_24 : decode prog_15_method_39_code 24 = .ok (.istore 5, 2) := by decide +kernel
theorem px_d84_26 : decode prog_15_method_39_code 26 = .ok (.iconst 0, 1) := by decide +kernel
theorem px_d84_27 : decode prog_15_method_39_code 27 = .ok (.istore 6, 2) := by decide +kernel
theorem px_d84_29 : decode prog_15_method_39_code 29 = .ok (.iload 6, 2) := by decide +kernel
theorem px_d84_31 : decode prog_15_method_39_code 31 = .ok (.aload_n 0, 1) := by decide +kernel
theorem px_d84_32 : decode prog_15_method_39_code 32 = .ok (.getfield 157, 3) := by decide +kernel
theorem px_d84_35 : decode prog_15_method_39_code 35 = .ok (.iload_n 1, 1) := by decide +kernel
theorem px_d84_36 : decode prog_15_method_39_code 36 = .ok (.iaload, 1) := by decide +kernel
theorem px_d84_37 : decode prog_15_method_39_code 37 = .ok (.if_icmp .ge 61, 3) := by decide +kernel
theorem px_d84_40 : decode prog_15_method_39_code 40 = .ok (.iload 5, 2) := by decide +kernel
theorem px_d84_42 : decode prog_15_method_39_code 42 = .ok (.iload 4, 2) := by decide +kernel
theorem px_d84_44 : decode prog_15_method_39_code 44 = .ok (.ior, 1) := by decide +kernel
theorem px_d84_45 : decode prog_15_method_39_code 45 = .ok (.istore 7, 2) := by decide +kernel
theorem px_d84_47 : decode prog_15_method_39_code 47 = .ok (.iload_n 2, 1) := by decide +kernel
theorem px_d84_48 : decode prog_15_method_39_code 48 = .ok (.iload 6, 2) := by decide +kernel
theorem px_d84_50 : decode prog_15_method_39_code 50 = .ok (.ishr, 1) := by decide +kernel
theorem px_d84_51 : decode prog_15_method_39_code 51 = .ok (.iconst 1, 1) := by decide +kernel
theorem px_d84_52 : decode prog_15_method_39_code 52 = .ok (.iand, 1) := by decide +kernel
theorem px_d84_53 : decode prog_15_method_39_code 53 = .ok (.ifCond .ne 35, 3) := by decide +kernel
theorem px_d84_56 : decode prog_15_method_39_code 56 = .ok (.aload_n 0, 1) := by decide +kernel
theorem px_d84_57 : decode prog_15_method_39_code 57 = .ok (.iload_n 1, 1) := by decide +kernel
theorem px_d84_58 : decode prog_15_method_39_code 58 = .ok (.iload 7, 2) := by decide +kernel
theorem px_d84_60 : decode prog_15_method_39_code 60 = .ok (.iconst 1, 1) := by decide +kernel
theorem px_d84_61 : decode prog_15_method_39_code 61 = .ok (.iload 6, 2) := by decide +kernel
theorem px_d84_63 : decode prog_15_method_39_code 63 = .ok (.ishl, 1) := by decide +kernel
theorem px_d84_64 : decode prog_15_method_39_code 64 = .ok (.ior, 1) := by decide +kernel
theorem px_d84_65 : decode prog_15_method_39_code 65 = .ok (.invokevirtual 258, 3) := by decide +kernel
theorem px_d84_68 : decode prog_15_method_39_code 68 = .ok (.aload_n 0, 1) := by decide +kernel
theorem px_d84_69 : decode prog_15_method_39_code 69 = .ok (.iload_n 1, 1) := by decide +kernel
theorem px_d84_70 : decode prog_15_method_39_code 70 = .ok (.iload 7, 2) := by decide +kernel
theorem px_d84_72 : decode prog_15_method_39_code 72 = .ok (.invokevirtual 258, 3) := by decide +kernel
theorem px_d84_75 : decode prog_15_method_39_code 75 = .ok (.if_icmp .le 13, 3) := by decide +kernel
theorem px_d84_78 : decode prog_15_method_39_code 78 = .ok (.iload 4, 2) := by decide +kernel
theorem px_d84_80 : decode prog_15_method_39_code 80 = .ok (.iconst 1, 1) := by decide +kernel
theorem px_d84_81 : decode prog_15_method_39_code 81 = .ok (.iload 6, 2) := by decide +kernel
theorem px_d84_83 : decode prog_15_method_39_code 83 = .ok (.ishl, 1) := by decide +kernel
theorem px_d84_84 : decode prog_15_method_39_code 84 = .ok (.ior, 1) := by decide +kernel
theorem px_d84_85 : decode prog_15_method_39_code 85 = .ok (.goto 5, 3) := by decide +kernel
theorem px_d84_88 : decode prog_15_method_39_code 88 = .ok (.iload 4, 2) := by decide +kernel
theorem px_d84_90 : decode prog_15_method_39_code 90 = .ok (.istore 4, 2) := by decide +kernel
theorem px_d84_92 : decode prog_15_method_39_code 92 = .ok (.iinc 6 1, 3) := by decide +kernel
theorem px_d84_95 : decode prog_15_method_39_code 95 = .ok (.goto (-66), 3) := by decide +kernel
theorem px_d84_98 : decode prog_15_method_39_code 98 = .ok (.iconst 0, 1) := by decide +kernel
theorem px_d84_99 : decode prog_15_method_39_code 99 = .ok (.istore 6, 2) := by decide +kernel
theorem px_d84_101 : decode prog_15_method_39_code 101 = .ok (.iconst 0, 1) := by decide +kernel
theorem px_d84_102 : decode prog_15_method_39_code 102 = .ok (.istore 7, 2) := by decide +kernel
theorem px_d84_104 : decode prog_15_method_39_code 104 = .ok (.iconst 0, 1) := by decide +kernel
theorem px_d84_105 : decode prog_15_method_39_code 105 = .ok (.istore 8, 2) := by decide +kernel
theorem px_d84_107 : decode prog_15_method_39_code 107 = .ok (.iconst 0, 1) := by decide +kernel
theorem px_d84_108 : decode prog_15_method_39_code 108 = .ok (.istore 9, 2) := by decide +kernel
theorem px_d84_110 : decode prog_15_method_39_code 110 = .ok (.iload 9, 2) := by decide +kernel
theorem px_d84_112 : decode prog_15_method_39_code 112 = .ok (.aload_n 0, 1) := by decide +kernel
theorem px_d84_113 : decode prog_15_method_39_code 113 = .ok (.getfield 157, 3) := by decide +kernel
theorem px_d84_116 : decode prog_15_method_39_code 116 = .ok (.iload_n 1, 1) := by decide +kernel
theorem px_d84_117 : decode prog_15_method_39_code 117 = .ok (.iaload, 1) := by decide +kernel
theorem px_d84_118 : decode prog_15_method_39_code 118 = .ok (.if_icmp .ge 91, 3) := by decide +kernel
theorem px_d84_121 : decode prog_15_method_39_code 121 = .ok (.iload_n 2, 1) := by decide +kernel
theorem px_d84_122 : decode prog_15_method_39_code 122 = .ok (.iload 9, 2) := by decide +kernel
theorem px_d84_124 : decode prog_15_method_39_code 124 = .ok (.ishr, 1) := by decide +kernel
theorem px_d84_125 : decode prog_15_method_39_code 125 = .ok (.iconst 1, 1) := by decide +kernel
theorem px_d84_126 : decode prog_15_method_39_code 126 = .ok (.iand, 1) := by decide +kernel
theorem px_d84_127 : decode prog_15_method_39_code 127 = .ok (.ifCond .ne 6, 3) := by decide +kernel
theorem px_d84_130 : decode prog_15_method_39_code 130 = .ok (.goto 73, 3) := by decide +kernel
theorem px_d84_133 : decode prog_15_method_39_code 133 = .ok (.aload_n 0, 1) := by decide +kernel
theorem px_d84_134 : decode prog_15_method_39_code 134 = .ok (.iload_n 1, 1) := by decide +kernel
theorem px_d84_135 : decode prog_15_method_39_code 135 = .ok (.iload_n 2, 1) := by decide +kernel
theorem px_d84_136 : decode prog_15_method_39_code 136 = .ok (.iconst 1, 1) := by decide +kernel
theorem px_d84_137 : decode prog_15_method_39_code 137 = .ok (.iload 9, 2) := by decide +kernel
theorem px_d84_139 : decode prog_15_method_39_code 139 = .ok (.ishl, 1) := by decide +kernel
theorem px_d84_140 : decode prog_15_method_39_code 140 = .ok (.ixor, 1) := by decide +kernel
theorem px_d84_141 : decode prog_15_method_39_code 141 = .ok (.iload 4, 2) := by decide +kernel
theorem px_d84_143 : decode prog_15_method_39_code 143 = .ok (.invokevirtual 285, 3) := by decide +kernel
theorem px_d84_146 : decode prog_15_method_39_code 146 = .ok (.istore 10, 2) := by decide +kernel
theorem px_d84_148 : decode prog_15_method_39_code 148 = .ok (.iload 8, 2) := by decide +kernel
theorem px_d84_150 : decode prog_15_method_39_code 150 = .ok (.iconst 2, 1) := by decide +kernel
theorem px_d84_151 : decode prog_15_method_39_code 151 = .ok (.irem, 1) := by decide +kernel
theorem px_d84_152 : decode prog_15_method_39_code 152 = .ok (.ifCond .ne 8, 3) := by decide +kernel
theorem px_d84_155 : decode prog_15_method_39_code 155 = .ok (.iload 10, 2) := by decide +kernel
theorem px_d84_157 : decode prog_15_method_39_code 157 = .ok (.goto 6, 3) := by decide +kernel
theorem px_d84_160 : decode prog_15_method_39_code 160 = .ok (.iload 10, 2) := by decide +kernel
theorem px_d84_162 : decode prog_15_method_39_code 162 = .ok (.ineg, 1) := by decide +kernel
theorem px_d84_163 : decode prog_15_method_39_code 163 = .ok (.istore 10, 2) := by decide +kernel
theorem px_d84_165 : decode prog_15_method_39_code 165 = .ok (.iload 8, 2) := by decide +kernel
theorem px_d84_167 : decode prog_15_method_39_code 167 = .ok (.ifCond .ne 8, 3) := by decide +kernel
theorem px_d84_170 : decode prog_15_method_39_code 170 = .ok (.iload 10, 2) := by decide +kernel
theorem px_d84_172 : decode prog_15_method_39_code 172 = .ok (.goto 5, 3) := by decide +kernel
theorem px_d84_175 : decode prog_15_method_39_code 175 = .ok (.iload 7, 2) := by decide +kernel
theorem px_d84_177 : decode prog_15_method_39_code 177 = .ok (.istore 7, 2) := by decide +kernel
theorem px_d84_179 : decode prog_15_method_39_code 179 = .ok (.iload 10, 2) := by decide +kernel
theorem px_d84_181 : decode prog_15_method_39_code 181 = .ok (.iload 7, 2) := by decide +kernel
theorem px_d84_183 : decode prog_15_method_39_code 183 = .ok (.if_icmp .ne 8, 3) := by decide +kernel
theorem px_d84_186 : decode prog_15_method_39_code 186 = .ok (.iload 6, 2) := by decide +kernel
theorem px_d84_188 : decode prog_15_method_39_code 188 = .ok (.goto 10, 3) := by decide +kernel
theorem px_d84_191 : decode prog_15_method_39_code 191 = .ok (.iload 6, 2) := by decide +kernel
theorem px_d84_193 : decode prog_15_method_39_code 193 = .ok (.iconst 1, 1) := by decide +kernel
theorem px_d84_194 : decode prog_15_method_39_code 194 = .ok (.iload 9, 2) := by decide +kernel
theorem px_d84_196 : decode prog_15_method_39_code 196 = .ok (.ishl, 1) := by decide +kernel
theorem px_d84_197 : decode prog_15_method_39_code 197 = .ok (.ior, 1) := by decide +kernel
theorem px_d84_198 : decode prog_15_method_39_code 198 = .ok (.istore 6, 2) := by decide +kernel
theorem px_d84_200 : decode prog_15_method_39_code 200 = .ok (.iinc 8 1, 3) := by decide +kernel
theorem px_d84_203 : decode prog_15_method_39_code 203 = .ok (.iinc 9 1, 3) := by decide +kernel
theorem px_d84_206 : decode prog_15_method_39_code 206 = .ok (.goto (-96), 3) := by decide +kernel
theorem px_d84_209 : decode prog_15_method_39_code 209 = .ok (.iload 6, 2) := by decide +kernel
theorem px_d84_211 : decode prog_15_method_39_code 211 = .ok (.ireturn, 1) := by decide +kernel
theorem px_d85_0 : decode prog_15_method_40_code 0 = .ok (.iconst 0, 1) := by decide +kernel
theorem px_d85_1 : decode prog_15_method_40_code 1 = .ok (.istore 4, 2) := by decide +kernel
theorem px_d85_3 : decode prog_15_method_40_code 3 = .ok (.iconst 0, 1) := by decide +kernel
theorem px_d85_4 : decode prog_15_method_40_code 4 = .ok (.istore 5, 2) := by decide +kernel
theorem px_d85_6 : decode prog_15_method_40_code 6 = .ok (.iload 5, 2) := by decide +kernel
theorem px_d85_8 : decode prog_15_method_40_code 8 = .ok (.iconst 2, 1) := by decide +kernel
theorem px_d85_9 : decode prog_15_method_40_code 9 = .ok (.if_icmp .ge 60, 3) := by decide +kernel
theorem px_d85_12 : decode prog_15_method_40_code 12 = .ok (.iconst 0, 1) := by decide +kernel
theorem px_d85_13 : decode prog_15_method_40_code 13 = .ok (.istore 6, 2) := by decide +kernel
theorem px_d85_15 : decode prog_15_method_40_code 15 = .ok (.iload 6, 2) := by decide +kernel
theorem px_d85_17 : decode prog_15_method_40_code 17 = .ok (.aload_n 0, 1) := by decide +kernel
theorem px_d85_18 : decode prog_15_method_40_code 18 = .ok (.getfield 157, 3) := by decide +kernel
theorem px_d85_21 : decode prog_15_method_40_code 21 = .ok (.iload_n 1, 1) := by decide +kernel
theorem px_d85_22 : decode prog_15_method_40_code 22 = .ok (.iaload, 1) := by decide +kernel
theorem px_d85_23 : decode prog_15_method_40_code 23 = .ok (.if_icmp .ge 40, 3) := by decide +kernel
theorem px_d85_26 : decode prog_15_method_40_code 26 = .ok (.iload 5, 2) := by decide +kernel
theorem px_d85_28 : decode prog_15_method_40_code 28 = .ok (.ifCond .ne 7, 3) := by decide +kernel
theorem px_d85_31 : decode prog_15_method_40_code 31 = .ok (.iload_n 2, 1) := by decide +kernel
theorem px_d85_32 : decode prog_15_method_40_code 32 = .ok (.goto 4, 3) := by decide +kernel
theorem px_d85_35 : decode prog_15_method_40_code 35 = .ok (.iload_n 3, 1) := by decide +kernel
theorem px_d85_36 : decode prog_15_method_40_code 36 = .ok (.iload 6, 2) := by decide +kernel
theorem px_d85_38 : decode prog_15_method_40_code 38 = .ok (.ishr, 1) := by decide +kernel
theorem px_d85_39 : decode prog_15_method_40_code 39 = .ok (.iconst 1, 1) := by decide +kernel
theorem px_d85_40 : decode prog_15_method_40_code 40 = .ok (.iand, 1) := by decide +kernel
theorem px_d85_41 : decode prog_15_method_40_code 41 = .ok (.iconst 1, 1) := by decide +kernel
theorem px_d85_42 : decode prog_15_method_40_code 42 = .ok (.if_icmp .ne 15, 3) := by decide +kernel
theorem px_d85_45 : decode prog_15_method_40_code 45 = .ok (.aload_n 0, 1) := by decide +kernel
theorem px_d85_46 : decode prog_15_method_40_code 46 = .ok (.getfield 197, 3) := by decide +kernel
theorem px_d85_49 : decode prog_15_method_40_code 49 = .ok (.iload 4, 2) := by decide +kernel
theorem px_d85_51 : decode prog_15_method_40_code 51 = .ok (.iload 6, 2) := by decide +kernel
theorem px_d85_53 : decode prog_15_method_40_code 53 = .ok (.iastore, 1) := by decide +kernel
theorem px_d85_54 : decode prog_15_method_40_code 54 = .ok (.iinc 4 1, 3) := by decide +kernel
theorem px_d85_57 : decode prog_15_method_40_code 57 = .ok (.iinc 6 1, 3) := by decide +kernel
theorem px_d85_60 : decode prog_15_method_40_code 60 = .ok (.goto (-45), 3) := by decide +kernel
theorem px_d85_63 : decode prog_15_method_40_code 63 = .ok (.iinc 5 1, 3) := by decide +kernel
theorem px_d85_66 : decode prog_15_method_40_code 66 = .ok (.goto (-60), 3) := by decide +kernel
theorem px_d85_69 : decode prog_15_method_40_code 69 = .ok (.aload_n 0, 1) := by decide +kernel
theorem px_d85_70 : decode prog_15_method_40_code 70 = .ok (.getfield 181, 3) := by decide +kernel
theorem px_d85_73 : decode prog_15_method_40_code 73 = .ok (.sipush 4096, 3) := by decide +kernel
theorem px_d85_76 : decode prog_15_method_40_code 76 = .ok (.iload_n 1, 1) := by decide +kernel
theorem px_d85_77 : decode prog_15_method_40_code 77 = .ok (.imul, 1) := by decide +kernel
theorem px_d85_78 : decode prog_15_method_40_code 78 = .ok (.iload_n 2, 1) := by decide +kernel
theorem px_d85_79 : decode prog_15_method_40_code 79 = .ok (.iload_n 3, 1) := by decide +kernel
theorem px_d85_80 : decode prog_15_method_40_code 80 = .ok (.ior, 1) := by decide +kernel
theorem px_d85_81 : decode prog_15_method_40_code 81 = .ok (.iadd, 1) := by decide +kernel
theorem px_d85_82 : decode prog_15_method_40_code 82 = .ok (.baload, 1) := by decide +kernel
theorem px_d85_83 : decode prog_15_method_40_code 83 = .ok (.istore 5, 2) := by decide +kernel
theorem px_d85_85 : decode prog_15_method_40_code 85 = .ok (.aload_n 0, 1) := by decide +kernel
theorem px_d85_86 : decode prog_15_method_40_code 86 = .ok (.getfield 197, 3) := by decide +kernel
theorem px_d85_89 : decode prog_15_method_40_code 89 = .ok (.iload 4, 2) := by decide +kernel
theorem px_d85_91 : decode prog_15_method_40_code 91 = .ok (.invokestatic 289, 3) := by decide +kernel
theorem px_d85_94 : decode prog_15_method_40_code 94 = .ok (.ifCond .eq 8, 3) := by decide +kernel
theorem px_d85_97 : decode prog_15_method_40_code 97 = .ok (.iload 5, 2) := by decide +kernel
theorem px_d85_99 : decode prog_15_method_40_code 99 = .ok (.goto 6, 3) := by decide +kernel
theorem px_d85_102 : decode prog_15_method_40_code 102 = .ok (.iload 5, 2) := by decide +kernel
theorem px_d85_104 : decode prog_15_method_40_code 104 = .ok (.ineg, 1) := by decide +kernel
theorem px_d85_105 : decode prog_15_method_40_code 105 = .ok (.ireturn, 1) := by decide +kernel
theorem px_d89_0 : decode prog_15_method_44_code 0 = .ok (.iconst 1, 1) := by decide +kernel
theorem px_d89_1 : decode prog_15_method_44_code 1 = .ok (.istore 5, 2) := by decide +kernel
theorem px_d89_3 : decode prog_15_method_44_code 3 = .ok (.iconst 1, 1) := by decide +kernel
theorem px_d89_4 : decode prog_15_method_44_code 4 = .ok (.iload 4, 2) := by decide +kernel
theorem px_d89_6 : decode prog_15_method_44_code 6 = .ok (.ishl, 1) := by decide +kernel
theorem px_d89_7 : decode prog_15_method_44_code 7 = .ok (.istore 6, 2) := by decide +kernel
theorem px_d89_9 : decode prog_15_method_44_code 9 = .ok (.iload 6, 2) := by decide +kernel
theorem px_d89_11 : decode prog_15_method_44_code 11 = .ok (.iconst 2, 1) := by decide +kernel
theorem px_d89_12 : decode prog_15_method_44_code 12 = .ok (.iload 4, 2) := by decide +kernel
theorem px_d89_14 : decode prog_15_method_44_code 14 = .ok (.ishl, 1) := by decide +kernel
theorem px_d89_15 : decode prog_15_method_44_code 15 = .ok (.if_icmp .ge 96, 3) := by decide +kernel
theorem px_d89_18 : decode prog_15_method_44_code 18 = .ok (.iload 5, 2) := by decide +kernel
theorem px_d89_20 : decode prog_15_method_44_code 20 = .ok (.ifCond .eq 91, 3) := by decide +kernel
theorem px_d89_23 : decode prog_15_method_44_code 23 = .ok (.iconst 0, 1) := by decide +kernel
theorem px_d89_24 : decode prog_15_method_44_code 24 = .ok (.istore 7, 2) := by decide +kernel
theorem px_d89_26 : decode prog_15_method_44_code 26 = .ok (.iconst 0, 1) := by decide +kernel
theorem px_d89_27 : decode prog_15_method_44_code 27 = .ok (.istore 8, 2) := by decide +kernel
theorem px_d89_29 : decode prog_15_method_44_code 29 = .ok (.iload 8, 2) := by decide +kernel
theorem px_d89_31 : decode prog_15_method_44_code 31 = .ok (.iload 4, 2) := by decide +kernel
theorem px_d89_33 : decode prog_15_method_44_code 33 = .ok (.if_icmp .gt 39, 3) := by decide +kernel
theorem px_d89_36 : decode prog_15_method_44_code 36 = .ok (.iload 6, 2) := by decide +kernel
theorem px_d89_38 : decode prog_15_method_44_code 38 = .ok (.iload 8, 2) := by decide +kernel
theorem px_d89_40 : decode prog_15_method_44_code 40 = .ok (.ishr, 1) := by decide +kernel
theorem px_d89_41 : decode prog_15_method_44_code 41 = .ok (.iconst 1, 1) := by decide +kernel
theorem px_d89_42 : decode prog_15_method_44_code 42 = .ok (.iand, 1) := by decide +kernel
theorem px_d89_43 : decode prog_15_method_44_code 43 = .ok (.iconst 1, 1) := by decide +kernel
theorem px_d89_44 : decode prog_15_method_44_code 44 = .ok (.if_icmp .ne 18, 3) := by decide +kernel
theorem px_d89_47 : decode prog_15_method_44_code 47 = .ok (.iload 7, 2) := by decide +kernel
theorem px_d89_49 : decode prog_15_method_44_code 49 = .ok (.iconst 1, 1) := by decide +kernel
theorem px_d89_50 : decode prog_15_method_44_code 50 = .ok (.aload_n 0, 1) := by decide +kernel
theorem px_d89_51 : decode prog_15_method_44_code 51 = .ok (.getfield 200, 3) := by decide +kernel
theorem px_d89_54 : decode prog_15_method_44_code 54 = .ok (.iload 8, 2) := by decide +kernel
theorem px_d89_56 : decode prog_15_method_44_code 56 = .ok (.iaload, 1) := by decide +kernel
theorem px_d89_57 : decode prog_15_method_44_code 57 = .ok (.ishl, 1) := by decide +kernel
theorem px_d89_58 : decode prog_15_method_44_code 58 = .ok (.ior, 1) := by decide +kernel
theorem px_d89_59 : decode prog_15_method_44_code 59 = .ok (.goto 5, 3) := by decide +kernel
theorem px_d89_62 : decode prog_15_method_44_code 62 = .ok (.iload 7, 2) := by decide +kernel
theorem px_d89_64 : decode prog_15_method_44_code 64 = .ok (.istore 7, 2) := by decide +kernel
theorem px_d89_66 : decode prog_15_method_44_code 66 = .ok (.iinc 8 1, 3) := by decide +kernel
theorem px_d89_69 : decode prog_15_method_44_code 69 = .ok (.goto (-40), 3) := by decide +kernel
theorem px_d89_72 : decode prog_15_method_44_code 72 = .ok (.aload_n 0, 1) := by decide +kernel
theorem px_d89_73 : decode prog_15_method_44_code 73 = .ok (.iload_n 1, 1) := by decide +kernel
theorem px_d89_74 : decode prog_15_method_44_code 74 = .ok (.iload 7, 2) := by decide +kernel
theorem px_d89_76 : decode prog_15_method_44_code 76 = .ok (.iload_n 3, 1) := by decide +kernel
theorem px_d89_77 : decode prog_15_method_44_code 77 = .ok (.ior, 1) := by decide +kernel
theorem px_d89_78 : decode prog_15_method_44_code 78 = .ok (.invokevirtual 258, 3) := by decide +kernel
theorem px_d89_81 : decode prog_15_method_44_code 81 = .ok (.aload_n 0, 1) := by decide +kernel
theorem px_d89_82 : decode prog_15_method_44_code 82 = .ok (.iload_n 1, 1) := by decide +kernel
theorem px_d89_83 : decode prog_15_method_44_code 83 = .ok (.iload_n 3, 1) := by decide +kernel
theorem px_d89_84 : decode prog_15_method_44_code 84 = .ok (.invokevirtual 258, 3) := by decide +kernel
theorem px_d89_87 : decode prog_15_method_44_code 87 = .ok (.isub, 1) := by decide +kernel
theorem px_d89_88 : decode prog_15_method_44_code 88 = .ok (.aload_n 0, 1) := by decide +kernel
theorem px_d89_89 : decode prog_15_method_44_code 89 = .ok (.iload_n 2, 1) := by decide +kernel
theorem px_d89_90 : decode prog_15_method_44_code 90 = .ok (.iload 6, 2) := by decide +kernel
theorem px_d89_92 : decode prog_15_method_44_code 92 = .ok (.invokevirtual 258, 3) := by decide +kernel
theorem px_d89_95 : decode prog_15_method_44_code 95 = .ok (.if_icmp .ne 7, 3) := by decide +kernel
theorem px_d89_98 : decode prog_15_method_44_code 98 = .ok (.iconst 1, 1) := by decide +kernel
theorem px_d89_99 : decode prog_15_method_44_code 99 = .ok (.goto 4, 3) := by decide +kernel
theorem px_d89_102 : decode prog_15_method_44_code 102 = .ok (.iconst 0, 1) := by decide +kernel
theorem px_d89_103 : decode prog_15_method_44_code 103 = .ok (.istore 5, 2) := by decide +kernel
theorem px_d89_105 : decode prog_15_method_44_code 105 = .ok (.iinc 6 1, 3) := by decide +kernel
theorem px_d89_108 : decode prog_15_method_44_code 108 = .ok (.goto (-99), 3) := by decide +kernel
theorem px_d89_111 : decode prog_15_method_44_code 111 = .ok (.iload 5, 2) := by decide +kernel
theorem px_d89_113 : decode prog_15_method_44_code 113 = .ok (.ireturn, 1) := by decide +kernel
theorem px_d90_0 : decode prog_15_method_45_code 0 = .ok (.iconst 0, 1) := by decide +kernel
theorem px_d90_1 : decode prog_15_method_45_code 1 = .ok (.istore_n 3, 1) := by decide +kernel
theorem px_d90_2 : decode prog_15_method_45_code 2 = .ok (.aload_n 0, 1) := by decide +kernel
theorem px_d90_3 : decode prog_15_method_45_code 3 = .ok (.getfield 160, 3) := by decide +kernel
theorem px_d90_6 : decode prog_15_method_45_code 6 = .ok (.iload_n 1, 1) := by decide +kernel
theorem px_d90_7 : decode prog_15_method_45_code 7 = .ok (.iaload, 1) := by decide +kernel
theorem px_d90_8 : decode prog_15_method_45_code 8 = .ok (.ifCond .ne 29, 3) := by decide +kernel
theorem px_d90_11 : decode prog_15_method_45_code 11 = .ok (.aload_n 0, 1) := by decide +kernel
theorem px_d90_12 : decode prog_15_method_45_code 12 = .ok (.getfield 167, 3) := by decide +kernel
theorem px_d90_15 : decode prog_15_method_45_code 15 = .ok (.bipush 24, 2) := by decide +kernel
theorem px_d90_17 : decode prog_15_method_45_code 17 = .ok (.sipush 144, 3) := by decide +kernel
theorem px_d90_20 : decode prog_15_method_45_code 20 = .ok (.iload_n 1, 1) := by decide +kernel
theorem px_d90_21 : decode prog_15_method_45_code 21 = .ok (.imul, 1) := by decide +kernel
theorem px_d90_22 : decode prog_15_method_45_code 22 = .ok (.bipush 12, 2) := by decide +kernel
theorem px_d90_24 : decode prog_15_method_45_code 24 = .ok (.iload_n 2, 1) := by decide +kernel
theorem px_d90_25 : decode prog_15_method_45_code 25 = .ok (.imul, 1) := by decide +kernel
theorem px_d90_26 : decode prog_15_method_45_code 26 = .ok (.iadd, 1) := by decide +kernel
theorem px_d90_27 : decode prog_15_method_45_code 27 = .ok (.iload_n 3, 1) := by decide +kernel
theorem px_d90_28 : decode prog_15_method_45_code 28 = .ok (.iadd, 1) := by decide +kernel
theorem px_d90_29 : decode prog_15_method_45_code 29 = .ok (.imul, 1) := by decide +kernel
theorem px_d90_30 : decode prog_15_method_45_code 30 = .ok (.iaload, 1) := by decide +kernel
theorem px_d90_31 : decode prog_15_method_45_code 31 = .ok (.ifCond .ne 32, 3) := by decide +kernel
theorem px_d90_34 : decode prog_15_method_45_code 34 = .ok (.goto 23, 3) := by decide +kernel
theorem px_d90_37 : decode prog_15_method_45_code 37 = .ok (.aload_n 0, 1) := by decide +kernel
theorem px_d90_38 : decode prog_15_method_45_code 38 = .ok (.getfield 170, 3) := by decide +kernel
theorem px_d90_41 : decode prog_15_method_45_code 41 = .ok (.sipush 144, 3) := by decide +kernel
theorem px_d90_44 : decode prog_15_method_45_code 44 = .ok (.iload_n 1, 1) := by decide +kernel
theorem px_d90_45 : decode prog_15_method_45_code 45 = .ok (.imul, 1) := by decide +kernel
theorem px_d90_46 : decode prog_15_method_45_code 46 = .ok (.bipush 12, 2) := by decide +kernel
theorem px_d90_48 : decode prog_15_method_45_code 48 = .ok (.iload_n 2, 1) := by decide +kernel
theorem px_d90_49 : decode prog_15_method_45_code 49 = .ok (.imul, 1) := by decide +kernel
theorem px_d90_50 : decode prog_15_method_45_code 50 = .ok (.iadd, 1) := by decide +kernel
theorem px_d90_51 : decode prog_15_method_45_code 51 = .ok (.iload_n 3, 1) := by decide +kernel
theorem px_d90_52 : decode prog_15_method_45_code 52 = .ok (.iadd, 1) := by decide +kernel
theorem px_d90_53 : decode prog_15_method_45_code 53 = .ok (.iaload, 1) := by decide +kernel
theorem px_d90_54 : decode prog_15_method_45_code 54 = .ok (.ifCond .ne 9, 3) := by decide +kernel
theorem px_d90_57 : decode prog_15_method_45_code 57 = .ok (.iinc 3 1, 3) := by decide +kernel
theorem px_d90_60 : decode prog_15_method_45_code 60 = .ok (.goto (-58), 3) := by decide +kernel
theorem px_d90_63 : decode prog_15_method_45_code 63 = .ok (.iload_n 3, 1) := by decide +kernel
theorem px_d90_64 : decode prog_15_method_45_code 64 = .ok (.ireturn, 1) := by decide +kernel
theorem px_d101_0 : decode prog_15_method_71_code 0 = .ok (.iconst 0, 1) := by decide +kernel
theorem px_d101_1 : decode prog_15_method_71_code 1 = .ok (.istore_n 2, 1) := by decide +kernel
theorem px_d101_2 : decode prog_15_method_71_code 2 = .ok (.iconst (-1), 1) := by decide +kernel
theorem px_d101_3 : decode prog_15_method_71_code 3 = .ok (.istore_n 3, 1) := by decide +kernel
theorem px_d101_4 : decode prog_15_method_71_code 4 = .ok (.iconst 1, 1) := by decide +kernel
theorem px_d101_5 : decode prog_15_method_71_code 5 = .ok (.istore 4, 2) := by decide +kernel
theorem px_d101_7 : decode prog_15_method_71_code 7 = .ok (.aload_n 0, 1) := by decide +kernel
theorem px_d101_8 : decode prog_15_method_71_code 8 = .ok (.invokevirtual 359, 3) := by decide +kernel
theorem px_d101_11 : decode prog_15_method_71_code 11 = .ok (.aload_n 0, 1) := by decide +kernel
theorem px_d101_12 : decode prog_15_method_71_code 12 = .ok (.getfield 338, 3) := by decide +kernel
theorem px_d101_15 : decode prog_15_method_71_code 15 = .ok (.bipush 125, 2) := by decide +kernel
theorem px_d101_17 : decode prog_15_method_71_code 17 = .ok (.if_icmp .eq 60, 3) := by decide +kernel
theorem px_d101_20 : decode prog_15_method_71_code 20 = .ok (.aload_n 0, 1) := by decide +kernel
theorem px_d101_21 : decode prog_15_method_71_code 21 = .ok (.invokevirtual 398, 3) := by decide +kernel
theorem px_d101_24 : decode prog_15_method_71_code 24 = .ok (.istore 5, 2) := by decide +kernel
theorem px_d101_26 : decode prog_15_method_71_code 26 = .ok (.iload 4, 2) := by decide +kernel
theorem px_d101_28 : decode prog_15_method_71_code 28 = .ok (.ifCond .eq 24, 3) := by decide +kernel
theorem px_d101_31 : decode prog_15_method_71_code 31 = .ok (.iload 5, 2) := by decide +kernel
theorem px_d101_33 : decode prog_15_method_71_code 33 = .ok (.iload_n 3, 1) := by decide +kernel
theorem px_d101_34 : decode prog_15_method_71_code 34 = .ok (.if_icmp .le 18, 3) := by decide +kernel
theorem px_d101_37 : decode prog_15_method_71_code 37 = .ok (.iload 5, 2) := by decide +kernel
theorem px_d101_39 : decode prog_15_method_71_code 39 = .ok (.aload_n 0, 1) := by decide +kernel
theorem px_d101_40 : decode prog_15_method_71_code 40 = .ok (.getfield 157, 3) := by decide +kernel
theorem px_d101_43 : decode prog_15_method_71_code 43 = .ok (.iload_n 1, 1) := by decide +kernel
theorem px_d101_44 : decode prog_15_method_71_code 44 = .ok (.iaload, 1) := by decide +kernel
theorem px_d101_45 : decode prog_15_method_71_code 45 = .ok (.if_icmp .ge 7, 3) := by decide +kernel
theorem px_d101_48 : decode prog_15_method_71_code 48 = .ok (.iconst 1, 1) := by decide +kernel
theorem px_d101_49 : decode prog_15_method_71_code 49 = .ok (.goto 4, 3) := by decide +kernel
theorem px_d101_52 : decode prog_15_method_71_code 52 = .ok (.iconst 0, 1) := by decide +kernel
theorem px_d101_53 : decode prog_15_method_71_code 53 = .ok (.istore 4, 2) := by decide +kernel
theorem px_d101_55 : decode prog_15_method_71_code 55 = .ok (.iload 5, 2) := by decide +kernel
theorem px_d101_57 : decode prog_15_method_71_code 57 = .ok (.istore_n 3, 1) := by decide +kernel
theorem px_d101_58 : decode prog_15_method_71_code 58 = .ok (.iload 4, 2) := by decide +kernel
theorem px_d101_60 : decode prog_15_method_71_code 60 = .ok (.ifCond .eq 12, 3) := by decide +kernel
theorem px_d101_63 : decode prog_15_method_71_code 63 = .ok (.iload_n 2, 1) := by decide +kernel
theorem px_d101_64 : decode prog_15_method_71_code 64 = .ok (.iconst 1, 1) := by decide +kernel
theorem px_d101_65 : decode prog_15_method_71_code 65 = .ok (.iload 5, 2) := by decide +kernel
theorem px_d101_67 : decode prog_15_method_71_code 67 = .ok (.ishl, 1) := by decide +kernel
theorem px_d101_68 : decode prog_15_method_71_code 68 = .ok (.ior, 1) := by decide +kernel
theorem px_d101_69 : decode prog_15_method_71_code 69 = .ok (.goto 4, 3) := by decide +kernel
theorem px_d101_72 : decode prog_15_method_71_code 72 = .ok (.iload_n 2, 1) := by decide +kernel
theorem px_d101_73 : decode prog_15_method_71_code 73 = .ok (.istore_n 2, 1) := by decide +kernel
theorem px_d101_74 : decode prog_15_method_71_code 74 = .ok (.goto (-63), 3) := by decide +kernel
theorem px_d101_77 : decode prog_15_method_71_code 77 = .ok (.aload_n 0, 1) := by decide +kernel
theorem px_d101_78 : decode prog_15_method_71_code 78 = .ok (.invokevirtual 359, 3) := by decide +kernel
theorem px_d101_81 : decode prog_15_method_71_code 81 = .ok (.aload_n 0, 1) := by decide +kernel
theorem px_d101_82 : decode prog_15_method_71_code 82 = .ok (.iload 4, 2) := by decide +kernel
theorem px_d101_84 : decode prog_15_method_71_code 84 = .ok (.iconst 2, 1) := by decide +kernel
theorem px_d101_85 : decode prog_15_method_71_code 85 = .ok (.invokevirtual 404, 3) := by decide +kernel
theorem px_d101_88 : decode prog_15_method_71_code 88 = .ok (.istore 4, 2) := by decide +kernel
theorem px_d101_90 : decode prog_15_method_71_code 90 = .ok (.iload_n 2, 1) := by decide +kernel
theorem px_d101_91 : decode prog_15_method_71_code 91 = .ok (.ireturn, 1) := by decide +kernel
theorem px_d103_82 : decode prog_15_method_73_code 82 = .ok (.iconst 2, 1) := by decide +kernel
theorem px_d103_83 : decode prog_15_method_73_code 83 = .ok (.invokevirtual 404, 3) := by decide +kernel
theorem px_d103_86 : decode prog_15_method_73_code 86 = .ok (.ifCond .eq 33, 3) := by decide +kernel
theorem px_d103_89 : decode prog_15_method_73_code 89 = .ok (.iconst 0, 1) := by decide +kernel
theorem px_d103_90 : decode prog_15_method_73_code 90 = .ok (.istore_n 3, 1) := by decide +kernel
theorem px_d103_91 : decode prog_15_method_73_code 91 = .ok (.iload_n 3, 1) := by decide +kernel
theorem px_d103_92 : decode prog_15_method_73_code 92 = .ok (.iload_n 2, 1) := by decide +kernel
theorem px_d103_93 : decode prog_15_method_73_code 93 = .ok (.if_icmp .ge 26, 3) := by decide +kernel
theorem px_d103_96 : decode prog_15_method_73_code 96 = .ok (.aload_n 0, 1) := by decide +kernel
theorem px_d103_97 : decode prog_15_method_73_code 97 = .ok (.getfield 173, 3) := by decide +kernel
theorem px_d103_100 : decode prog_15_method_73_code 100 = .ok (.bipush 12, 2) := by decide +kernel
theorem px_d103_102 : decode prog_15_method_73_code 102 = .ok (.iload_n 1, 1) := by decide +kernel
theorem px_d103_103 : decode prog_15_method_73_code 103 = .ok (.imul, 1) := by decide +kernel
theorem px_d103_104 : decode prog_15_method_73_code 104 = .ok (.iload_n 3, 1) := by decide +kernel
theorem px_d103_105 : decode prog_15_method_73_code 105 = .ok (.iadd, 1) := by decide +kernel
theorem px_d103_106 : decode prog_15_method_73_code 106 = .ok (.aload_n 0, 1) := by decide +kernel
theorem px_d103_107 : decode prog_15_method_73_code 107 = .ok (.getfield 212, 3) := by decide +kernel
theorem px_d103_110 : decode prog_15_method_73_code 110 = .ok (.iload_n 3, 1) := by decide +kernel
theorem px_d103_111 : decode prog_15_method_73_code 111 = .ok (.iaload, 1) := by decide +kernel
theorem px_d103_112 : decode prog_15_method_73_code 112 = .ok (.iastore, 1) := by decide +kernel
theorem px_d103_113 : decode prog_15_method_73_code 113 = .ok (.iinc 3 1, 3) := by decide +kernel
theorem px_d103_116 : decode prog_15_method_73_code 116 = .ok (.goto (-25), 3) := by decide +kernel
theorem px_d103_119 : decode prog_15_method_73_code 119 = .ok (.return_, 1) := by decide +kernel
theorem px_d105_0 : decode prog_15_method_76_code 0 = .ok (.lload_n 1, 1) := by decide +kernel
theorem px_d105_1 : decode prog_15_method_76_code 1 = .ok (.lconst 0, 1) := by decide +kernel
theorem px_d105_2 : decode prog_15_method_76_code 2 = .ok (.lcmp, 1) := by decide +kernel
theorem px_d105_3 : decode prog_15_method_76_code 3 = .ok (.ifCond .ge 9, 3) := by decide +kernel
theorem px_d105_6 : decode prog_15_method_76_code 6 = .ok (.aload_n 0, 1) := by decide +kernel
theorem px_d105_7 : decode prog_15_method_76_code 7 = .ok (.bipush 45, 2) := by decide +kernel
theorem px_d105_9 : decode prog_15_method_76_code 9 = .ok (.invokevirtual 446, 3) := by decide +kernel
theorem px_d105_12 : decode prog_15_method_76_code 12 = .ok (.lconst 1, 1) := by decide +kernel
theorem px_d105_13 : decode prog_15_method_76_code 13 = .ok (.lstore_n 3, 1) := by decide +kernel
theorem px_d105_14 : decode prog_15_method_76_code 14 = .ok (.lload_n 1, 1) := by decide +kernel
theorem px_d105_15 : decode prog_15_method_76_code 15 = .ok (.lload_n 3, 1) := by decide +kernel
theorem px_d105_16 : decode prog_15_method_76_code 16 = .ok (.ldiv, 1) := by decide +kernel
theorem px_d105_17 : decode prog_15_method_76_code 17 = .ok (.ldc2_w 448, 3) := by decide +kernel
theorem px_d105_20 : decode prog_15_method_76_code 20 = .ok (.lcmp, 1) := by decide +kernel
theorem px_d105_21 : decode prog_15_method_76_code 21 = .ok (.ifCond .gt 13, 3) := by decide +kernel
theorem px_d105_24 : decode prog_15_method_76_code 24 = .ok (.lload_n 1, 1) := by decide +kernel
theorem px_d105_25 : decode prog_15_method_76_code 25 = .ok (.lload_n 3, 1) := by decide +kernel
theorem px_d105_26 : decode prog_15_method_76_code 26 = .ok (.ldiv, 1) := by decide +kernel
theorem px_d105_27 : decode prog_15_method_76_code 27 = .ok (.ldc2_w 450, 3) := by decide +kernel
theorem px_d105_30 : decode prog_15_method_76_code 30 = .ok (.lcmp, 1) := by decide +kernel
theorem px_d105_31 : decode prog_15_method_76_code 31 = .ok (.ifCond .ge 12, 3) := by decide +kernel
theorem px_d105_34 : decode prog_15_method_76_code 34 = .ok (.lload_n 3, 1) := by decide +kernel
theorem px_d105_35 : decode prog_15_method_76_code 35 = .ok (.ldc2_w 452, 3) := by decide +kernel
theorem px_d105_38 : decode prog_15_method_76_code 38 = .ok (.lmul, 1) := by decide +kernel
theorem px_d105_39 : decode prog_15_method_76_code 39 = .ok (.lstore_n 3, 1) := by decide +kernel
theorem px_d105_40 : decode prog_15_method_76_code 40 = .ok (.goto (-26), 3) := by decide +kernel
theorem px_d105_43 : decode prog_15_method_76_code 43 = .ok (.lload_n 3, 1) := by decide +kernel
theorem px_d105_44 : decode prog_15_method_76_code 44 = .ok (.lconst 0, 1) := by decide +kernel
theorem px_d105_45 : decode prog_15_method_76_code 45 = .ok (.lcmp, 1) := by decide +kernel
theorem px_d105_46 : decode prog_15_method_76_code 46 = .ok (.ifCond .le 44, 3) := by decide +kernel
theorem px_d105_49 : decode prog_15_method_76_code 49 = .ok (.lload_n 1, 1) := by decide +kernel
theorem px_d105_50 : decode prog_15_method_76_code 50 = .ok (.lload_n 3, 1) := by decide +kernel
theorem px_d105_51 : decode prog_15_method_76_code 51 = .ok (.ldiv, 1) := by decide +kernel
theorem px_d105_52 : decode prog_15_method_76_code 52 = .ok (.ldc2_w 452, 3) := by decide +kernel
theorem px_d105_55 : decode prog_15_method_76_code 55 = .ok (.lrem, 1) := by decide +kernel
theorem px_d105_56 : decode prog_15_method_76_code 56 = .ok (.lstore 5, 2) := by decide +kernel
theorem px_d105_58 : decode prog_15_method_76_code 58 = .ok (.aload_n 0, 1) := by decide +kernel
theorem px_d105_59 : decode prog_15_method_76_code 59 = .ok (.bipush 48, 2) := by decide +kernel
theorem px_d105_61 : decode prog_15_method_76_code 61 = .ok (.lload 5, 2) := by decide +kernel
theorem px_d105_63 : decode prog_15_method_76_code 63 = .ok (.lconst 0, 1) := by decide +kernel
theorem px_d105_64 : decode prog_15_method_76_code 64 = .ok (.lcmp, 1) := by decide +kernel
theorem px_d105_65 : decode prog_15_method_76_code 65 = .ok (.ifCond .ge 9, 3) := by decide +kernel
theorem px_d105_68 : decode prog_15_method_76_code 68 = .ok (.lload 5, 2) := by decide +kernel
theorem px_d105_70 : decode prog_15_method_76_code 70 = .ok (.lneg, 1) := by decide +kernel
theorem px_d105_71 : decode prog_15_method_76_code 71 = .ok (.goto 5, 3) := by decide +kernel
theorem px_d105_74 : decode prog_15_method_76_code 74 = .ok (.lload 5, 2) := by decide +kernel
theorem px_d105_76 : decode prog_15_method_76_code 76 = .ok (.l2i, 1) := by decide +kernel
theorem px_d105_77 : decode prog_15_method_76_code 77 = .ok (.iadd, 1) := by decide +kernel
theorem px_d105_78 : decode prog_15_method_76_code 78 = .ok (.invokevirtual 446, 3) := by decide +kernel
theorem px_d105_81 : decode prog_15_method_76_code 81 = .ok (.lload_n 3, 1) := by decide +kernel
theorem px_d105_82 : decode prog_15_method_76_code 82 = .ok (.ldc2_w 452, 3) := by decide +kernel
theorem px_d105_85 : decode prog_15_method_76_code 85 = .ok (.ldiv, 1) := by decide +kernel
theorem px_d105_86 : decode prog_15_method_76_code 86 = .ok (.lstore_n 3, 1) := by decide +kernel
theorem px_d105_87 : decode prog_15_method_76_code 87 = .ok (.goto (-44), 3) := by decide +kernel
theorem px_d105_90 : decode prog_15_method_76_code 90 = .ok (.return_, 1) := by decide +kernel
theorem px_d106_0 : decode prog_15_method_77_code 0 = .ok (.aload_n 0, 1) := by decide +kernel
theorem px_d106_1 : decode prog_15_method_77_code 1 = .ok (.bipush 123, 2) := by decide +kernel
theorem px_d106_3 : decode prog_15_method_77_code 3 = .ok (.invokevirtual 446, 3) := by decide +kernel
theorem px_d106_6 : decode prog_15_method_77_code 6 = .ok (.iconst 1, 1) := by decide +kernel
theorem px_d106_7 : decode prog_15_method_77_code 7 = .ok (.istore_n 2, 1) := by decide +kernel
theorem px_d106_8 : decode prog_15_method_77_code 8 = .ok (.iconst 0, 1) := by decide +kernel
theorem px_d106_9 : decode prog_15_method_77_code 9 = .ok (.istore_n 3, 1) := by decide +kernel
theorem px_d106_10 : decode prog_15_method_77_code 10 = .ok (.iload_n 3, 1) := by decide +kernel
theorem px_d106_11 : decode prog_15_method_77_code 11 = .ok (.bipush 12, 2) := by decide +kernel
theorem px_d106_13 : decode prog_15_method_77_code 13 = .ok (.if_icmp .ge 36, 3) := by decide +kernel
theorem px_d106_16 : decode prog_15_method_77_code 16 = .ok (.iload_n 1, 1) := by decide +kernel
theorem px_d106_17 : decode prog_15_method_77_code 17 = .ok (.iload_n 3, 1) := by decide +kernel
theorem px_d106_18 : decode prog_15_method_77_code 18 = .ok (.ishr, 1) := by decide +kernel
theorem px_d106_19 : decode prog_15_method_77_code 19 = .ok (.iconst 1, 1) := by decide +kernel
theorem px_d106_20 : decode prog_15_method_77_code 20 = .ok (.iand, 1) := by decide +kernel
theorem px_d106_21 : decode prog_15_method_77_code 21 = .ok (.iconst 1, 1) := by decide +kernel
theorem px_d106_22 : decode prog_15_method_77_code 22 = .ok (.if_icmp .ne 21, 3) := by decide +kernel
theorem px_d106_25 : decode prog_15_method_77_code 25 = .ok (.iload_n 2, 1) := by decide +kernel
theorem px_d106_26 : decode prog_15_method_77_code 26 = .ok (.ifCond .ne 9, 3) := by decide +kernel
theorem px_d106_29 : decode prog_15_method_77_code 29 = .ok (.aload_n 0, 1) := by decide +kernel
theorem px_d106_30 : decode prog_15_method_77_code 30 = .ok (.bipush 32, 2) := by decide +kernel
theorem px_d106_32 : decode prog_15_method_77_code 32 = .ok (.invokevirtual 446, 3) := by decide +kernel
theorem px_d106_35 : decode prog_15_method_77_code 35 = .ok (.aload_n 0, 1) := by decide +kernel
theorem px_d106_36 : decode prog_15_method_77_code 36 = .ok (.iload_n 3, 1) := by decide +kernel
theorem px_d106_37 : decode prog_15_method_77_code 37 = .ok (.i2l, 1) := by decide +kernel
theorem px_d106_38 : decode prog_15_method_77_code 38 = .ok (.invokevirtual 454, 3) := by decide +kernel
theorem px_d106_41 : decode prog_15_method_77_code 41 = .ok (.iconst 0, 1) := by decide +kernel
theorem px_d106_42 : decode prog_15_method_77_code 42 = .ok (.istore_n 2, 1) := by decide +kernel
theorem px_d106_43 : decode prog_15_method_77_code 43 = .ok (.iinc 3 1, 3) := by decide +kernel
theorem px_d106_46 : decode prog_15_method_77_code 46 = .ok (.goto (-36), 3) := by decide +kernel
theorem px_d106_49 : decode prog_15_method_77_code 49 = .ok (.aload_n 0, 1) := by decide +kernel
theorem px_d106_50 : decode prog_15_method_77_code 50 = .ok (.bipush 125, 2) := by decide +kernel
theorem px_d106_52 : decode prog_15_method_77_code 52 = .ok (.invokevirtual 446, 3) := by decide +kernel
theorem px_d106_55 : decode prog_15_method_77_code 55 = .ok (.aload_n 0, 1) := by decide +kernel
theorem px_d106_56 : decode prog_15_method_77_code 56 = .ok (.bipush 10, 2) := by decide +kernel
theorem px_d106_58 : decode prog_15_method_77_code 58 = .ok (.invokevirtual 446, 3) := by decide +kernel
theorem px_d106_61 : decode prog_15_method_77_code 61 = .ok (.return_, 1) := by decide +kernel
theorem px_d109_0 : decode prog_15_method_80_code 0 = .ok (.aload_n 0, 1) := by decide +kernel
theorem px_d109_1 : decode prog_15_method_80_code 1 = .ok (.iload_n 1, 1) := by decide +kernel
theorem px_d109_2 : decode prog_15_method_80_code 2 = .ok (.invokevirtual 446, 3) := by decide +kernel
theorem px_d109_5 : decode prog_15_method_80_code 5 = .ok (.iload_n 2, 1) := by decide +kernel
theorem px_d109_6 : decode prog_15_method_80_code 6 = .ok (.iconst 1, 1) := by decide +kernel
theorem px_d109_7 : decode prog_15_method_80_code 7 = .ok (.if_icmp .le 15, 3) := by decide +kernel
theorem px_d109_10 : decode prog_15_method_80_code 10 = .ok (.aload_n 0, 1) := by decide +kernel
theorem px_d109_11 : decode prog_15_method_80_code 11 = .ok (.bipush 94, 2) := by decide +kernel
theorem px_d109_13 : decode prog_15_method_80_code 13 = .ok (.invokevirtual 446, 3) := by decide +kernel
theorem px_d109_16 : decode prog_15_method_80_code 16 = .ok (.aload_n 0, 1) := by decide +kernel
theorem px_d109_17 : decode prog_15_method_80_code 17 = .ok (.iload_n 2, 1) := by decide +kernel
theorem px_d109_18 : decode prog_15_method_80_code 18 = .ok (.i2l, 1) := by decide +kernel
theorem px_d109_19 : decode prog_15_method_80_code 19 = .ok (.invokevirtual 454, 3) := by decide +kernel
theorem px_d109_22 : decode prog_15_method_80_code 22 = .ok (.return_, 1) := by decide +kernel
theorem px_d111_0 : decode prog_15_method_82_code 0 = .ok (.iconst 0, 1) := by decide +kernel
theorem px_d111_1 : decode prog_15_method_82_code 1 = .ok (.istore_n 3, 1) := by decide +kernel
theorem px_d111_2 : decode prog_15_method_82_code 2 = .ok (.iload_n 3, 1) := by decide +kernel
theorem px_d111_3 : decode prog_15_method_82_code 3 = .ok (.sipush 4096, 3) := by decide +kernel
theorem px_d111_6 : decode prog_15_method_82_code 6 = .ok (.if_icmp .ge 48, 3) := by decide +kernel
theorem px_d111_9 : decode prog_15_method_82_code 9 = .ok (.aload_n 0, 1) := by decide +kernel
theorem px_d111_10 : decode prog_15_method_82_code 10 = .ok (.getfield 184, 3) := by decide +kernel
theorem px_d111_13 : decode prog_15_method_82_code 13 = .ok (.iload_n 3, 1) := by decide +kernel
theorem px_d111_14 : decode prog_15_method_82_code 14 = .ok (.iaload, 1) := by decide +kernel
theorem px_d111_15 : decode prog_15_method_82_code 15 = .ok (.aload_n 0, 1) := by decide +kernel
theorem px_d111_16 : decode prog_15_method_82_code 16 = .ok (.iload_n 1, 1) := by decide +kernel
theorem px_d111_17 : decode prog_15_method_82_code 17 = .ok (.invokevirtual 262, 3) := by decide +kernel
theorem px_d111_20 : decode prog_15_method_82_code 20 = .ok (.if_icmp .gt 28, 3) := by decide +kernel
theorem px_d111_23 : decode prog_15_method_82_code 23 = .ok (.aload_n 0, 1) := by decide +kernel
theorem px_d111_24 : decode prog_15_method_82_code 24 = .ok (.iload_n 1, 1) := by decide +kernel
theorem px_d111_25 : decode prog_15_method_82_code 25 = .ok (.iload_n 2, 1) := by decide +kernel
theorem px_d111_26 : decode prog_15_method_82_code 26 = .ok (.aload_n 0, 1) := by decide +kernel
theorem px_d111_27 : decode prog_15_method_82_code 27 = .ok (.getfield 184, 3) := by decide +kernel
theorem px_d111_30 : decode prog_15_method_82_code 30 = .ok (.iload_n 3, 1) := by decide +kernel
theorem px_d111_31 : decode prog_15_method_82_code 31 = .ok (.iaload, 1) := by decide +kernel
theorem px_d111_32 : decode prog_15_method_82_code 32 = .ok (.invokevirtual 278, 3) := by decide +kernel
theorem px_d111_35 : decode prog_15_method_82_code 35 = .ok (.ifCond .eq 13, 3) := by decide +kernel
theorem px_d111_38 : decode prog_15_method_82_code 38 = .ok (.aload_n 0, 1) := by decide +kernel
theorem px_d111_39 : decode prog_15_method_82_code 39 = .ok (.aload_n 0, 1) := by decide +kernel
theorem px_d111_40 : decode prog_15_method_82_code 40 = .ok (.getfield 184, 3) := by decide +kernel
theorem px_d111_43 : decode prog_15_method_82_code 43 = .ok (.iload_n 3, 1) := by decide +kernel
theorem px_d111_44 : decode prog_15_method_82_code 44 = .ok (.iaload, 1) := by decide +kernel
theorem px_d111_45 : decode prog_15_method_82_code 45 = .ok (.invokevirtual 469, 3) := by decide +kernel
theorem px_d111_48 : decode prog_15_method_82_code 48 = .ok (.iinc 3 1, 3) := by decide +kernel
theorem px_d111_51 : decode prog_15_method_82_code 51 = .ok (.goto (-49), 3) := by decide +kernel
theorem px_d111_54 : decode prog_15_method_82_code 54 = .ok (.return_, 1) := by decide +kernel
theorem px_d112_0 : decode prog_15_method_83_code 0 = .ok (.iload_n 0, 1) := by decide +kernel
theorem px_d112_1 : decode prog_15_method_83_code 1 = .ok (.ifCond .ge 8, 3) := by decide +kernel
theorem px_d112_4 : decode prog_15_method_83_code 4 = .ok (.bipush 45, 2) := by decide +kernel
theorem px_d112_6 : decode prog_15_method_83_code 6 = .ok (.goto 14, 3) := by decide +kernel
theorem px_d112_9 : decode prog_15_method_83_code 9 = .ok (.iload_n 0, 1) := by decide +kernel
theorem px_d112_10 : decode prog_15_method_83_code 10 = .ok (.ifCond .le 8, 3) := by decide +kernel
theorem px_d112_13 : decode prog_15_method_83_code 13 = .ok (.bipush 43, 2) := by decide +kernel
theorem px_d112_15 : decode prog_15_method_83_code 15 = .ok (.goto 5, 3) := by decide +kernel
theorem px_d112_18 : decode prog_15_method_83_code 18 = .ok (.bipush 48, 2) := by decide +kernel
theorem px_d112_20 : decode prog_15_method_83_code 20 = .ok (.ireturn, 1) := by decide +kernel
theorem px_d113_0 : decode prog_15_method_84_code 0 = .ok (.iconst 0, 1) := by decide +kernel
theorem px_d113_1 : decode prog_15_method_84_code 1 = .ok (.istore_n 2, 1) := by decide +kernel
theorem px_d113_2 : decode prog_15_method_84_code 2 = .ok (.iload_n 2, 1) := by decide +kernel
theorem px_d113_3 : decode prog_15_method_84_code 3 = .ok (.sipush 4096, 3) := by decide +kernel
theorem px_d113_6 : decode prog_15_method_84_code 6 = .ok (.if_icmp .ge 67, 3) := by decide +kernel
theorem px_d113_9 : decode prog_15_method_84_code 9 = .ok (.aload_n 0, 1) := by decide +kernel
theorem px_d113_10 : decode prog_15_method_84_code 10 = .ok (.getfield 184, 3) := by decide +kernel
theorem px_d113_13 : decode prog_15_method_84_code 13 = .ok (.iload_n 2, 1) := by decide +kernel
theorem px_d113_14 : decode prog_15_method_84_code 14 = .ok (.iaload, 1) := by decide +kernel
theorem px_d113_15 : decode prog_15_method_84_code 15 = .ok (.aload_n 0, 1) := by decide +kernel
theorem px_d113_16 : decode prog_15_method_84_code 16 = .ok (.iload_n 1, 1) := by decide +kernel
theorem px_d113_17 : decode prog_15_method_84_code 17 = .ok (.invokevirtual 262, 3) := by decide +kernel
theorem px_d113_20 : decode prog_15_method_84_code 20 = .ok (.if_icmp .gt 47, 3) := by decide +kernel
theorem px_d113_23 : decode prog_15_method_84_code 23 = .ok (.aload_n 0, 1) := by decide +kernel
theorem px_d113_24 : decode prog_15_method_84_code 24 = .ok (.getfield 187, 3) := by decide +kernel
theorem px_d113_27 : decode prog_15_method_84_code 27 = .ok (.aload_n 0, 1) := by decide +kernel
theorem px_d113_28 : decode prog_15_method_84_code 28 = .ok (.getfield 184, 3) := by decide +kernel
theorem px_d113_31 : decode prog_15_method_84_code 31 = .ok (.iload_n 2, 1) := by decide +kernel
theorem px_d113_32 : decode prog_15_method_84_code 32 = .ok (.iaload, 1) := by decide +kernel
theorem px_d113_33 : decode prog_15_method_84_code 33 = .ok (.iaload, 1) := by decide +kernel
theorem px_d113_34 : decode prog_15_method_84_code 34 = .ok (.aload_n 0, 1) := by decide +kernel
theorem px_d113_35 : decode prog_15_method_84_code 35 = .ok (.getfield 163, 3) := by decide +kernel
theorem px_d113_38 : decode prog_15_method_84_code 38 = .ok (.iload_n 1, 1) := by decide +kernel
theorem px_d113_39 : decode prog_15_method_84_code 39 = .ok (.iaload, 1) := by decide +kernel
theorem px_d113_40 : decode prog_15_method_84_code 40 = .ok (.if_icmp .ne 27, 3) := by decide +kernel
theorem px_d113_43 : decode prog_15_method_84_code 43 = .ok (.aload_n 0, 1) := by decide +kernel
theorem px_d113_44 : decode prog_15_method_84_code 44 = .ok (.aload_n 0, 1) := by decide +kernel
theorem px_d113_45 : decode prog_15_method_84_code 45 = .ok (.getfield 181, 3) := by decide +kernel
theorem px_d113_48 : decode prog_15_method_84_code 48 = .ok (.sipush 4096, 3) := by decide +kernel
theorem px_d113_51 : decode prog_15_method_84_code 51 = .ok (.iload_n 1, 1) := by decide +kernel
theorem px_d113_52 : decode prog_15_method_84_code 52 = .ok (.imul, 1) := by decide +kernel
theorem px_d113_53 : decode prog_15_method_84_code 53 = .ok (.aload_n 0, 1) := by decide +kernel
theorem px_d113_54 : decode prog_15_method_84_code 54 = .ok (.getfield 184, 3) := by decide +kernel
theorem px_d113_57 : decode prog_15_method_84_code 57 = .ok (.iload_n 2, 1) := by decide +kernel
theorem px_d113_58 : decode prog_15_method_84_code 58 = .ok (.iaload, 1) := by decide +kernel
theorem px_d113_59 : decode prog_15_method_84_code 59 = .ok (.iadd, 1) := by decide +kernel
theorem px_d113_60 : decode prog_15_method_84_code 60 = .ok (.baload, 1) := by decide +kernel
theorem px_d113_61 : decode prog_15_method_84_code 61 = .ok (.invokestatic 472, 3) := by decide +kernel
theorem px_d113_64 : decode prog_15_method_84_code 64 = .ok (.invokevirtual 446, 3) := by decide +kernel
theorem px_d113_67 : decode prog_15_method_84_code 67 = .ok (.iinc 2 1, 3) := by decide +kernel
theorem px_d113_70 : decode prog_15_method_84_code 70 = .ok (.goto (-68), 3) := by decide +kernel
theorem px_d113_73 : decode prog_15_method_84_code 73 = .ok (.aload_n 0, 1) := by decide +kernel
theorem px_d113_74 : decode prog_15_method_84_code 74 = .ok (.bipush 10, 2) := by decide +kernel
theorem px_d113_76 : decode prog_15_method_84_code 76 = .ok (.invokevirtual 446, 3) := by decide +kernel
theorem px_d113_79 : decode prog_15_method_84_code 79 = .ok (.return_, 1) := by decide +kernel
theorem px_d114_0 : decode prog_15_method_85_code 0 = .ok (.iconst 0, 1) := by decide +kernel
theorem px_d114_1 : decode prog_15_method_85_code 1 = .ok (.istore_n 2, 1) := by decide +kernel
theorem px_d114_2 : decode prog_15_method_85_code 2 = .ok (.iload_n 2, 1) := by decide +kernel
theorem px_d114_3 : decode prog_15_method_85_code 3 = .ok (.sipush 4096, 3) := by decide +kernel
theorem px_d114_6 : decode prog_15_method_85_code 6 = .ok (.if_icmp .ge 108, 3) := by decide +kernel
theorem px_d114_9 : decode prog_15_method_85_code 9 = .ok (.aload_n 0, 1) := by decide +kernel
theorem px_d114_10 : decode prog_15_method_85_code 10 = .ok (.getfield 184, 3) := by decide +kernel
theorem px_d114_13 : decode prog_15_method_85_code 13 = .ok (.iload_n 2, 1) := by decide +kernel
theorem px_d114_14 : decode prog_15_method_85_code 14 = .ok (.iaload, 1) := by decide +kernel
theorem px_d114_15 : decode prog_15_method_85_code 15 = .ok (.istore_n 3, 1) := by decide +kernel
theorem px_d114_16 : decode prog_15_method_85_code 16 = .ok (.iload_n 3, 1) := by decide +kernel
theorem px_d114_17 : decode prog_15_method_85_code 17 = .ok (.aload_n 0, 1) := by decide +kernel
theorem px_d114_18 : decode prog_15_method_85_code 18 = .ok (.iload_n 1, 1) := by decide +kernel
theorem px_d114_19 : decode prog_15_method_85_code 19 = .ok (.invokevirtual 262, 3) := by decide +kernel
theorem px_d114_22 : decode prog_15_method_85_code 22 = .ok (.if_icmp .gt 86, 3) := by decide +kernel
theorem px_d114_25 : decode prog_15_method_85_code 25 = .ok (.aload_n 0, 1) := by decide +kernel
theorem px_d114_26 : decode prog_15_method_85_code 26 = .ok (.iload_n 1, 1) := by decide +kernel
theorem px_d114_27 : decode prog_15_method_85_code 27 = .ok (.iload_n 3, 1) := by decide +kernel
theorem px_d114_28 : decode prog_15_method_85_code 28 = .ok (.iconst 0, 1) := by decide +kernel
theorem px_d114_29 : decode prog_15_method_85_code 29 = .ok (.invokevirtual 274, 3) := by decide +kernel
theorem px_d114_32 : decode prog_15_method_85_code 32 = .ok (.ifCond .ne 6, 3) := by decide +kernel
theorem px_d114_35 : decode prog_15_method_85_code 35 = .ok (.goto 73, 3) := by decide +kernel
theorem px_d114_38 : decode prog_15_method_85_code 38 = .ok (.aload_n 0, 1) := by decide +kernel
theorem px_d114_39 : decode prog_15_method_85_code 39 = .ok (.iload_n 1, 1) := by decide +kernel
theorem px_d114_40 : decode prog_15_method_85_code 40 = .ok (.iload_n 3, 1) := by decide +kernel
theorem px_d114_41 : decode prog_15_method_85_code 41 = .ok (.invokevirtual 475, 3) := by decide +kernel
theorem px_d114_44 : decode prog_15_method_85_code 44 = .ok (.istore 4, 2) := by decide +kernel
theorem px_d114_46 : decode prog_15_method_85_code 46 = .ok (.iconst 0, 1) := by decide +kernel
theorem px_d114_47 : decode prog_15_method_85_code 47 = .ok (.istore 5, 2) := by decide +kernel
theorem px_d114_49 : decode prog_15_method_85_code 49 = .ok (.iload 5, 2) := by decide +kernel
theorem px_d114_51 : decode prog_15_method_85_code 51 = .ok (.aload_n 0, 1) := by decide +kernel
theorem px_d114_52 : decode prog_15_method_85_code 52 = .ok (.getfield 157, 3) := by decide +kernel
theorem px_d114_55 : decode prog_15_method_85_code 55 = .ok (.iload_n 1, 1) := by decide +kernel
theorem px_d114_56 : decode prog_15_method_85_code 56 = .ok (.iaload, 1) := by decide +kernel
theorem px_d114_57 : decode prog_15_method_85_code 57 = .ok (.if_icmp .ge 45, 3) := by decide +kernel
theorem px_d114_60 : decode prog_15_method_85_code 60 = .ok (.aload_n 0, 1) := by decide +kernel
theorem px_d114_61 : decode prog_15_method_85_code 61 = .ok (.iload_n 3, 1) := by decide +kernel
theorem px_d114_62 : decode prog_15_method_85_code 62 = .ok (.iload 5, 2) := by decide +kernel
theorem px_d114_64 : decode prog_15_method_85_code 64 = .ok (.ishr, 1) := by decide +kernel
theorem px_d114_65 : decode prog_15_method_85_code 65 = .ok (.iconst 1, 1) := by decide +kernel
theorem px_d114_66 : decode prog_15_method_85_code 66 = .ok (.iand, 1) := by decide +kernel
theorem px_d114_67 : decode prog_15_method_85_code 67 = .ok (.ifCond .ne 8, 3) := by decide +kernel
theorem px_d114_70 : decode prog_15_method_85_code 70 = .ok (.bipush 48, 2) := by decide +kernel
theorem px_d114_72 : decode prog_15_method_85_code 72 = .ok (.goto 21, 3) := by decide +kernel
theorem px_d114_75 : decode prog_15_method_85_code 75 = .ok (.iload 4, 2) := by decide +kernel
theorem px_d114_77 : decode prog_15_method_85_code 77 = .ok (.iload 5, 2) := by decide +kernel
theorem px_d114_79 : decode prog_15_method_85_code 79 = .ok (.ishr, 1) := by decide +kernel
theorem px_d114_80 : decode prog_15_method_85_code 80 = .ok (.iconst 1, 1) := by decide +kernel
theorem px_d114_81 : decode prog_15_method_85_code 81 = .ok (.iand, 1) := by decide +kernel
theorem px_d114_82 : decode prog_15_method_85_code 82 = .ok (.iconst 1, 1) := by decide +kernel
theorem px_d114_83 : decode prog_15_method_85_code 83 = .ok (.if_icmp .ne 8, 3) := by decide +kernel
theorem px_d114_86 : decode prog_15_method_85_code 86 = .ok (.bipush 45, 2) := by decide +kernel
theorem px_d114_88 : decode prog_15_method_85_code 88 = .ok (.goto 5, 3) := by decide +kernel
theorem px_d114_91 : decode prog_15_method_85_code 91 = .ok (.bipush 43, 2) := by decide +kernel
theorem px_d114_93 : decode prog_15_method_85_code 93 = .ok (.invokevirtual 446, 3) := by decide +kernel
theorem px_d114_96 : decode prog_15_method_85_code 96 = .ok (.iinc 5 1, 3) := by decide +kernel
theorem px_d114_99 : decode prog_15_method_85_code 99 = .ok (.goto (-50), 3) := by decide +kernel
theorem px_d114_102 : decode prog_15_method_85_code 102 = .ok (.aload_n 0, 1) := by decide +kernel
theorem px_d114_103 : decode prog_15_method_85_code 103 = .ok (.bipush 10, 2) := by decide +kernel
theorem px_d114_105 : decode prog_15_method_85_code 105 = .ok (.invokevirtual 446, 3) := by decide +kernel
theorem px_d114_108 : decode prog_15_method_85_code 108 = .ok (.iinc 2 1, 3) := by decide +kernel
theorem px_d114_111 : decode prog_15_method_85_code 111 = .ok (.goto (-109), 3) := by decide +kernel
theorem px_d114_114 : decode prog_15_method_85_code 114 = .ok (.return_, 1) := by decide +kernel
theorem px_d118_0 : decode prog_15_method_97_code 0 = .ok (.aload_n 0, 1) := by decide +kernel
theorem px_d118_1 : decode prog_15_method_97_code 1 = .ok (.iconst 0, 1) := by decide +kernel
theorem px_d118_2 : decode prog_15_method_97_code 2 = .ok (.putfield 505, 3) := by decide +kernel
theorem px_d118_5 : decode prog_15_method_97_code 5 = .ok (.iload_n 1, 1) := by decide +kernel
theorem px_d118_6 : decode prog_15_method_97_code 6 = .ok (.ifCond .lt 22, 3) := by decide +kernel
theorem px_d118_9 : decode prog_15_method_97_code 9 = .ok (.iload_n 1, 1) := by decide +kernel
theorem px_d118_10 : decode prog_15_method_97_code 10 = .ok (.bipush 26, 2) := by decide +kernel
theorem px_d118_12 : decode prog_15_method_97_code 12 = .ok (.if_icmp .ge 16, 3) := by decide +kernel
theorem px_d118_15 : decode prog_15_method_97_code 15 = .ok (.aload_n 0, 1) := by decide +kernel
theorem px_d118_16 : decode prog_15_method_97_code 16 = .ok (.getfield 153, 3) := by decide +kernel
theorem px_d118_19 : decode prog_15_method_97_code 19 = .ok (.iload_n 1, 1) := by decide +kernel
theorem px_d118_20 : decode prog_15_method_97_code 20 = .ok (.baload, 1) := by decide +kernel
theorem px_d118_21 : decode prog_15_method_97_code 21 = .ok (.ifCond .eq 7, 3) := by decide +kernel
theorem px_d118_24 : decode prog_15_method_97_code 24 = .ok (.iconst 1, 1) := by decide +kernel
theorem px_d118_25 : decode prog_15_method_97_code 25 = .ok (.goto 4, 3) := by decide +kernel
theorem px_d118_28 : decode prog_15_method_97_code 28 = .ok (.iconst 0, 1) := by decide +kernel
theorem px_d118_29 : decode prog_15_method_97_code 29 = .ok (.ireturn, 1) := by decide +kernel
theorem px_d119_0 : decode prog_15_method_98_code 0 = .ok (.aload_n 0, 1) := by decide +kernel
theorem px_d119_1 : decode prog_15_method_98_code 1 = .ok (.iload_n 1, 1) := by decide +kernel
theorem px_d119_2 : decode prog_15_method_98_code 2 = .ok (.invokevirtual 522, 3) := by decide +kernel
theorem px_d119_5 : decode prog_15_method_98_code 5 = .ok (.ifCond .eq 12, 3) := by decide +kernel
theorem px_d119_8 : decode prog_15_method_98_code 8 = .ok (.aload_n 0, 1) := by decide +kernel
theorem px_d119_9 : decode prog_15_method_98_code 9 = .ok (.getfield 157, 3) := by decide +kernel
theorem px_d119_12 : decode prog_15_method_98_code 12 = .ok (.iload_n 1, 1) := by decide +kernel
theorem px_d119_13 : decode prog_15_method_98_code 13 = .ok (.iaload, 1) := by decide +kernel
theorem px_d119_14 : decode prog_15_method_98_code 14 = .ok (.goto 4, 3) := by decide +kernel
theorem px_d119_17 : decode prog_15_method_98_code 17 = .ok (.iconst (-1), 1) := by decide +kernel
theorem px_d119_18 : decode prog_15_method_98_code 18 = .ok (.ireturn, 1) := by decide +kernel
theorem px_d120_0 : decode prog_15_method_99_code 0 = .ok (.aload_n 0, 1) := by decide +kernel
theorem px_d120_1 : decode prog_15_method_99_code 1 = .ok (.iload_n 1, 1) := by decide +kernel
theorem px_d120_2 : decode prog_15_method_99_code 2 = .ok (.invokevirtual 522, 3) := by decide +kernel
theorem px_d120_5 : decode prog_15_method_99_code 5 = .ok (.ifCond .eq 12, 3) := by decide +kernel
theorem px_d120_8 : decode prog_15_method_99_code 8 = .ok (.aload_n 0, 1) := by decide +kernel
theorem px_d120_9 : decode prog_15_method_99_code 9 = .ok (.getfield 160, 3) := by decide +kernel
theorem px_d120_12 : decode prog_15_method_99_code 12 = .ok (.iload_n 1, 1) := by decide +kernel
theorem px_d120_13 : decode prog_15_method_99_code 13 = .ok (.iaload, 1) := by decide +kernel
theorem px_d120_14 : decode prog_15_method_99_code 14 = .ok (.goto 4, 3) := by decide +kernel
theorem px_d120_17 : decode prog_15_method_99_code 17 = .ok (.iconst (-1), 1) := by decide +kernel
theorem px_d120_18 : decode prog_15_method_99_code 18 = .ok (.ireturn, 1) := by decide +kernel
theorem px_d121_0 : decode prog_15_method_100_code 0 = .ok (.aload_n 0, 1) := by decide +kernel
theorem px_d121_1 : decode prog_15_method_100_code 1 = .ok (.iload_n 1, 1) := by decide +kernel
theorem px_d121_2 : decode prog_15_method_100_code 2 = .ok (.invokevirtual 522, 3) := by decide +kernel
theorem px_d121_5 : decode prog_15_method_100_code 5 = .ok (.ifCond .eq 25, 3) := by decide +kernel
theorem px_d121_8 : decode prog_15_method_100_code 8 = .ok (.iload_n 2, 1) := by decide +kernel
theorem px_d121_9 : decode prog_15_method_100_code 9 = .ok (.ifCond .lt 21, 3) := by decide +kernel
theorem px_d121_12 : decode prog_15_method_100_code 12 = .ok (.iload_n 2, 1) := by decide +kernel
theorem px_d121_13 : decode prog_15_method_100_code 13 = .ok (.aload_n 0, 1) := by decide +kernel
theorem px_d121_14 : decode prog_15_method_100_code 14 = .ok (.iload_n 1, 1) := by decide +kernel
theorem px_d121_15 : decode prog_15_method_100_code 15 = .ok (.invokevirtual 262, 3) := by decide +kernel
theorem px_d121_18 : decode prog_15_method_100_code 18 = .ok (.if_icmp .gt 12, 3) := by decide +kernel
theorem px_d121_21 : decode prog_15_method_100_code 21 = .ok (.aload_n 0, 1) := by decide +kernel
theorem px_d121_22 : decode prog_15_method_100_code 22 = .ok (.iload_n 1, 1) := by decide +kernel
theorem px_d121_23 : decode prog_15_method_100_code 23 = .ok (.iload_n 2, 1) := by decide +kernel
theorem px_d121_24 : decode prog_15_method_100_code 24 = .ok (.invokevirtual 258, 3) := by decide +kernel
theorem px_d121_27 : decode prog_15_method_100_code 27 = .ok (.goto 4, 3) := by decide +kernel
theorem px_d121_30 : decode prog_15_method_100_code 30 = .ok (.iconst (-1), 1) := by decide +kernel
theorem px_d121_31 : decode prog_15_method_100_code 31 = .ok (.ireturn, 1) := by decide +kernel
theorem px_d122_0 : decode prog_15_method_101_code 0 = .ok (.aload_n 0, 1) := by decide +kernel
theorem px_d122_1 : decode prog_15_method_101_code 1 = .ok (.iload_n 1, 1) := by decide +kernel
theorem px_d122_2 : decode prog_15_method_101_code 2 = .ok (.invokevirtual 522, 3) := by decide +kernel
theorem px_d122_5 : decode prog_15_method_101_code 5 = .ok (.ifCond .eq 21, 3) := by decide +kernel
theorem px_d122_8 : decode prog_15_method_101_code 8 = .ok (.iload_n 2, 1) := by decide +kernel
theorem px_d122_9 : decode prog_15_method_101_code 9 = .ok (.ifCond .lt 17, 3) := by decide +kernel
theorem px_d122_12 : decode prog_15_method_101_code 12 = .ok (.iload_n 2, 1) := by decide +kernel
theorem px_d122_13 : decode prog_15_method_101_code 13 = .ok (.iconst 3, 1) := by decide +kernel
theorem px_d122_14 : decode prog_15_method_101_code 14 = .ok (.if_icmp .gt 12, 3) := by decide +kernel
theorem px_d122_17 : decode prog_15_method_101_code 17 = .ok (.aload_n 0, 1) := by decide +kernel
theorem px_d122_18 : decode prog_15_method_101_code 18 = .ok (.iload_n 1, 1) := by decide +kernel
theorem px_d122_19 : decode prog_15_method_101_code 19 = .ok (.iload_n 2, 1) := by decide +kernel
theorem px_d122_20 : decode prog_15_method_101_code 20 = .ok (.invokevirtual 525, 3) := by decide +kernel
theorem px_d122_23 : decode prog_15_method_101_code 23 = .ok (.goto 4, 3) := by decide +kernel
theorem px_d122_26 : decode prog_15_method_101_code 26 = .ok (.iconst (-1), 1) := by decide +kernel
theorem px_d122_27 : decode prog_15_method_101_code 27 = .ok (.ireturn, 1) := by decide +kernel
theorem px_d123_0 : decode prog_15_method_102_code 0 = .ok (.aload_n 0, 1) := by decide +kernel
theorem px_d123_1 : decode prog_15_method_102_code 1 = .ok (.iload_n 1, 1) := by decide +kernel
theorem px_d123_2 : decode prog_15_method_102_code 2 = .ok (.invokevirtual 522, 3) := by decide +kernel
theorem px_d123_5 : decode prog_15_method_102_code 5 = .ok (.ifCond .eq 22, 3) := by decide +kernel
theorem px_d123_8 : decode prog_15_method_102_code 8 = .ok (.iload_n 2, 1) := by decide +kernel
theorem px_d123_9 : decode prog_15_method_102_code 9 = .ok (.ifCond .lt 18, 3) := by decide +kernel
theorem px_d123_12 : decode prog_15_method_102_code 12 = .ok (.iload_n 2, 1) := by decide +kernel
theorem px_d123_13 : decode prog_15_method_102_code 13 = .ok (.iconst 3, 1) := by decide +kernel
theorem px_d123_14 : decode prog_15_method_102_code 14 = .ok (.if_icmp .gt 13, 3) := by decide +kernel
theorem px_d123_17 : decode prog_15_method_102_code 17 = .ok (.aload_n 0, 1) := by decide +kernel
theorem px_d123_18 : decode prog_15_method_102_code 18 = .ok (.iload_n 1, 1) := by decide +kernel
theorem px_d123_19 : decode prog_15_method_102_code 19 = .ok (.iload_n 2, 1) := by decide +kernel
theorem px_d123_20 : decode prog_15_method_102_code 20 = .ok (.iload_n 3, 1) := by decide +kernel
theorem px_d123_21 : decode prog_15_method_102_code 21 = .ok (.invokevirtual 528, 3) := by decide +kernel
theorem px_d123_24 : decode prog_15_method_102_code 24 = .ok (.goto 4, 3) := by decide +kernel
theorem px_d123_27 : decode prog_15_method_102_code 27 = .ok (.iconst (-1), 1) := by decide +kernel
theorem px_d123_28 : decode prog_15_method_102_code 28 = .ok (.ireturn, 1) := by decide +kernel
theorem px_d125_0 : decode prog_15_method_104_code 0 = .ok (.aload_n 0, 1) := by decide +kernel
theorem px_d125_1 : decode prog_15_method_104_code 1 = .ok (.iload_n 1, 1) := by decide +kernel
theorem px_d125_2 : decode prog_15_method_104_code 2 = .ok (.invokevirtual 522, 3) := by decide +kernel
theorem px_d125_5 : decode prog_15_method_104_code 5 = .ok (.ifCond .eq 31, 3) := by decide +kernel
theorem px_d125_8 : decode prog_15_method_104_code 8 = .ok (.iload_n 2, 1) := by decide +kernel
theorem px_d125_9 : decode prog_15_method_104_code 9 = .ok (.ifCond .lt 27, 3) := by decide +kernel
theorem px_d125_12 : decode prog_15_method_104_code 12 = .ok (.iload_n 2, 1) := by decide +kernel
theorem px_d125_13 : decode prog_15_method_104_code 13 = .ok (.aload_n 0, 1) := by decide +kernel
theorem px_d125_14 : decode prog_15_method_104_code 14 = .ok (.getfield 157, 3) := by decide +kernel
theorem px_d125_17 : decode prog_15_method_104_code 17 = .ok (.iload_n 1, 1) := by decide +kernel
theorem px_d125_18 : decode prog_15_method_104_code 18 = .ok (.iaload, 1) := by decide +kernel
theorem px_d125_19 : decode prog_15_method_104_code 19 = .ok (.if_icmp .ge 17, 3) := by decide +kernel
theorem px_d125_22 : decode prog_15_method_104_code 22 = .ok (.aload_n 0, 1) := by decide +kernel
theorem px_d125_23 : decode prog_15_method_104_code 23 = .ok (.getfield 173, 3) := by decide +kernel
theorem px_d125_26 : decode prog_15_method_104_code 26 = .ok (.bipush 12, 2) := by decide +kernel
theorem px_d125_28 : decode prog_15_method_104_code 28 = .ok (.iload_n 1, 1) := by decide +kernel
theorem px_d125_29 : decode prog_15_method_104_code 29 = .ok (.imul, 1) := by decide +kernel
theorem px_d125_30 : decode prog_15_method_104_code 30 = .ok (.iload_n 2, 1) := by decide +kernel
theorem px_d125_31 : decode prog_15_method_104_code 31 = .ok (.iadd, 1) := by decide +kernel
theorem px_d125_32 : decode prog_15_method_104_code 32 = .ok (.iaload, 1) := by decide +kernel
theorem px_d125_33 : decode prog_15_method_104_code 33 = .ok (.goto 4, 3) := by decide +kernel
theorem px_d125_36 : decode prog_15_method_104_code 36 = .ok (.iconst 0, 1) := by decide +kernel
theorem px_d125_37 : decode prog_15_method_104_code 37 = .ok (.ireturn, 1) := by decide +kernel
theorem px_d126_0 : decode prog_15_method_105_code 0 = .ok (.aload_n 0, 1) := by decide +kernel
theorem px_d126_1 : decode prog_15_method_105_code 1 = .ok (.iload_n 1, 1) := by decide +kernel
theorem px_d126_2 : decode prog_15_method_105_code 2 = .ok (.invokevirtual 522, 3) := by decide +kernel
theorem px_d126_5 : decode prog_15_method_105_code 5 = .ok (.ifCond .eq 11, 3) := by decide +kernel
theorem px_d126_8 : decode prog_15_method_105_code 8 = .ok (.aload_n 0, 1) := by decide +kernel
theorem px_d126_9 : decode prog_15_method_105_code 9 = .ok (.iload_n 1, 1) := by decide +kernel
theorem px_d126_10 : decode prog_15_method_105_code 10 = .ok (.invokevirtual 487, 3) := by decide +kernel
theorem px_d126_13 : decode prog_15_method_105_code 13 = .ok (.goto 4, 3) := by decide +kernel
theorem px_d126_16 : decode prog_15_method_105_code 16 = .ok (.iconst (-1), 1) := by decide +kernel
theorem px_d126_17 : decode prog_15_method_105_code 17 = .ok (.ireturn, 1) := by decide +kernel
theorem px_d127_0 : decode prog_15_method_106_code 0 = .ok (.aload_n 0, 1) := by decide +kernel
theorem px_d127_1 : decode prog_15_method_106_code 1 = .ok (.iload_n 1, 1) := by decide +kernel
theorem px_d127_2 : decode prog_15_method_106_code 2 = .ok (.invokevirtual 522, 3) := by decide +kernel
theorem px_d127_5 : decode prog_15_method_106_code 5 = .ok (.ifCond .eq 35, 3) := by decide +kernel
theorem px_d127_8 : decode prog_15_method_106_code 8 = .ok (.aload_n 0, 1) := by decide +kernel
theorem px_d127_9 : decode prog_15_method_106_code 9 = .ok (.iload_n 2, 1) := by decide +kernel
theorem px_d127_10 : decode prog_15_method_106_code 10 = .ok (.invokevirtual 522, 3) := by decide +kernel
theorem px_d127_13 : decode prog_15_method_106_code 13 = .ok (.ifCond .eq 27, 3) := by decide +kernel
theorem px_d127_16 : decode prog_15_method_106_code 16 = .ok (.aload_n 0, 1) := by decide +kernel
theorem px_d127_17 : decode prog_15_method_106_code 17 = .ok (.getfield 157, 3) := by decide +kernel
theorem px_d127_20 : decode prog_15_method_106_code 20 = .ok (.iload_n 1, 1) := by decide +kernel
theorem px_d127_21 : decode prog_15_method_106_code 21 = .ok (.iaload, 1) := by decide +kernel
theorem px_d127_22 : decode prog_15_method_106_code 22 = .ok (.aload_n 0, 1) := by decide +kernel
theorem px_d127_23 : decode prog_15_method_106_code 23 = .ok (.getfield 157, 3) := by decide +kernel
theorem px_d127_26 : decode prog_15_method_106_code 26 = .ok (.iload_n 2, 1) := by decide +kernel
theorem px_d127_27 : decode prog_15_method_106_code 27 = .ok (.iaload, 1) := by decide +kernel
theorem px_d127_28 : decode prog_15_method_106_code 28 = .ok (.if_icmp .ne 12, 3) := by decide +kernel
theorem px_d127_31 : decode prog_15_method_106_code 31 = .ok (.aload_n 0, 1) := by decide +kernel
theorem px_d127_32 : decode prog_15_method_106_code 32 = .ok (.iload_n 1, 1) := by decide +kernel
theorem px_d127_33 : decode prog_15_method_106_code 33 = .ok (.iload_n 2, 1) := by decide +kernel
theorem px_d127_34 : decode prog_15_method_106_code 34 = .ok (.invokevirtual 282, 3) := by decide +kernel
theorem px_d127_37 : decode prog_15_method_106_code 37 = .ok (.goto 4, 3) := by decide +kernel
theorem px_d127_40 : decode prog_15_method_106_code 40 = .ok (.iconst (-1), 1) := by decide +kernel
theorem px_d127_41 : decode prog_15_method_106_code 41 = .ok (.ireturn, 1) := by decide +kernel
theorem px_d128_0 : decode prog_15_method_107_code 0 = .ok (.aload_n 0, 1) := by decide +kernel
theorem px_d128_1 : decode prog_15_method_107_code 1 = .ok (.iload_n 1, 1) := by decide +kernel
theorem px_d128_2 : decode prog_15_method_107_code 2 = .ok (.invokevirtual 522, 3) := by decide +kernel
theorem px_d128_5 : decode prog_15_method_107_code 5 = .ok (.ifCond .eq 35, 3) := by decide +kernel
theorem px_d128_8 : decode prog_15_method_107_code 8 = .ok (.aload_n 0, 1) := by decide +kernel
theorem px_d128_9 : decode prog_15_method_107_code 9 = .ok (.iload_n 2, 1) := by decide +kernel
theorem px_d128_10 : decode prog_15_method_107_code 10 = .ok (.invokevirtual 522, 3) := by decide +kernel
theorem px_d128_13 : decode prog_15_method_107_code 13 = .ok (.ifCond .eq 27, 3) := by decide +kernel
theorem px_d128_16 : decode prog_15_method_107_code 16 = .ok (.aload_n 0, 1) := by decide +kernel
theorem px_d128_17 : decode prog_15_method_107_code 17 = .ok (.getfield 157, 3) := by decide +kernel
theorem px_d128_20 : decode prog_15_method_107_code 20 = .ok (.iload_n 1, 1) := by decide +kernel
theorem px_d128_21 : decode prog_15_method_107_code 21 = .ok (.iaload, 1) := by decide +kernel
theorem px_d128_22 : decode prog_15_method_107_code 22 = .ok (.aload_n 0, 1) := by decide +kernel
theorem px_d128_23 : decode prog_15_method_107_code 23 = .ok (.getfield 157, 3) := by decide +kernel
theorem px_d128_26 : decode prog_15_method_107_code 26 = .ok (.iload_n 2, 1) := by decide +kernel
theorem px_d128_27 : decode prog_15_method_107_code 27 = .ok (.iaload, 1) := by decide +kernel
theorem px_d128_28 : decode prog_15_method_107_code 28 = .ok (.if_icmp .ne 12, 3) := by decide +kernel
theorem px_d128_31 : decode prog_15_method_107_code 31 = .ok (.aload_n 0, 1) := by decide +kernel
theorem px_d128_32 : decode prog_15_method_107_code 32 = .ok (.iload_n 1, 1) := by decide +kernel
theorem px_d128_33 : decode prog_15_method_107_code 33 = .ok (.iload_n 2, 1) := by decide +kernel
theorem px_d128_34 : decode prog_15_method_107_code 34 = .ok (.invokevirtual 490, 3) := by decide +kernel
theorem px_d128_37 : decode prog_15_method_107_code 37 = .ok (.goto 4, 3) := by decide +kernel
theorem px_d128_40 : decode prog_15_method_107_code 40 = .ok (.iconst (-1), 1) := by decide +kernel
theorem px_d128_41 : decode prog_15_method_107_code 41 = .ok (.ireturn, 1) := by decide +kernel
theorem px_d129_0 : decode prog_15_method_108_code 0 = .ok (.aload_n 0, 1) := by decide +kernel
theorem px_d129_1 : decode prog_15_method_108_code 1 = .ok (.iload_n 1, 1) := by decide +kernel
theorem px_d129_2 : decode prog_15_method_108_code 2 = .ok (.invokevirtual 522, 3) := by decide +kernel
theorem px_d129_5 : decode prog_15_method_108_code 5 = .ok (.ifCond .eq 44, 3) := by decide +kernel
theorem px_d129_8 : decode prog_15_method_108_code 8 = .ok (.aload_n 0, 1) := by decide +kernel
theorem px_d129_9 : decode prog_15_method_108_code 9 = .ok (.getfield 160, 3) := by decide +kernel
theorem px_d129_12 : decode prog_15_method_108_code 12 = .ok (.iload_n 1, 1) := by decide +kernel
theorem px_d129_13 : decode prog_15_method_108_code 13 = .ok (.iaload, 1) := by decide +kernel
theorem px_d129_14 : decode prog_15_method_108_code 14 = .ok (.ifCond .ne 35, 3) := by decide +kernel
theorem px_d129_17 : decode prog_15_method_108_code 17 = .ok (.iload_n 2, 1) := by decide +kernel
theorem px_d129_18 : decode prog_15_method_108_code 18 = .ok (.ifCond .lt 31, 3) := by decide +kernel
theorem px_d129_21 : decode prog_15_method_108_code 21 = .ok (.iload_n 2, 1) := by decide +kernel
theorem px_d129_22 : decode prog_15_method_108_code 22 = .ok (.aload_n 0, 1) := by decide +kernel
theorem px_d129_23 : decode prog_15_method_108_code 23 = .ok (.iload_n 1, 1) := by decide +kernel
theorem px_d129_24 : decode prog_15_method_108_code 24 = .ok (.invokevirtual 262, 3) := by decide +kernel
theorem px_d129_27 : decode prog_15_method_108_code 27 = .ok (.if_icmp .gt 22, 3) := by decide +kernel
theorem px_d129_30 : decode prog_15_method_108_code 30 = .ok (.aload_n 0, 1) := by decide +kernel
theorem px_d129_31 : decode prog_15_method_108_code 31 = .ok (.getfield 187, 3) := by decide +kernel
theorem px_d129_34 : decode prog_15_method_108_code 34 = .ok (.iload_n 2, 1) := by decide +kernel
theorem px_d129_35 : decode prog_15_method_108_code 35 = .ok (.iaload, 1) := by decide +kernel
theorem px_d129_36 : decode prog_15_method_108_code 36 = .ok (.aload_n 0, 1) := by decide +kernel
theorem px_d129_37 : decode prog_15_method_108_code 37 = .ok (.getfield 163, 3) := by decide +kernel
theorem px_d129_40 : decode prog_15_method_108_code 40 = .ok (.iload_n 1, 1) := by decide +kernel
theorem px_d129_41 : decode prog_15_method_108_code 41 = .ok (.iaload, 1) := by decide +kernel
theorem px_d129_42 : decode prog_15_method_108_code 42 = .ok (.if_icmp .ne 7, 3) := by decide +kernel
theorem px_d129_45 : decode prog_15_method_108_code 45 = .ok (.iconst 1, 1) := by decide +kernel
theorem px_d129_46 : decode prog_15_method_108_code 46 = .ok (.goto 4, 3) := by decide +kernel
theorem px_d129_49 : decode prog_15_method_108_code 49 = .ok (.iconst 0, 1) := by decide +kernel
theorem px_d129_50 : decode prog_15_method_108_code 50 = .ok (.istore_n 3, 1) := by decide +kernel
theorem px_d129_51 : decode prog_15_method_108_code 51 = .ok (.iload_n 3, 1) := by decide +kernel
theorem px_d129_52 : decode prog_15_method_108_code 52 = .ok (.ifCond .eq 18, 3) := by decide +kernel
theorem px_d129_55 : decode prog_15_method_108_code 55 = .ok (.aload_n 0, 1) := by decide +kernel
theorem px_d129_56 : decode prog_15_method_108_code 56 = .ok (.getfield 181, 3) := by decide +kernel
theorem px_d129_59 : decode prog_15_method_108_code 59 = .ok (.sipush 4096, 3) := by decide +kernel
theorem px_d129_62 : decode prog_15_method_108_code 62 = .ok (.iload_n 1, 1) := by decide +kernel
theorem px_d129_63 : decode prog_15_method_108_code 63 = .ok (.imul, 1) := by decide +kernel
theorem px_d129_64 : decode prog_15_method_108_code 64 = .ok (.iload_n 2, 1) := by decide +kernel
theorem px_d129_65 : decode prog_15_method_108_code 65 = .ok (.iadd, 1) := by decide +kernel
theorem px_d129_66 : decode prog_15_method_108_code 66 = .ok (.baload, 1) := by decide +kernel
theorem px_d129_67 : decode prog_15_method_108_code 67 = .ok (.goto 4, 3) := by decide +kernel
theorem px_d129_70 : decode prog_15_method_108_code 70 = .ok (.iconst 2, 1) := by decide +kernel
theorem px_d129_71 : decode prog_15_method_108_code 71 = .ok (.ireturn, 1) := by decide +kernel
theorem px_d130_0 : decode prog_15_method_109_code 0 = .ok (.aload_n 0, 1) := by decide +kernel
theorem px_d130_1 : decode prog_15_method_109_code 1 = .ok (.iload_n 1, 1) := by decide +kernel
theorem px_d130_2 : decode prog_15_method_109_code 2 = .ok (.invokevirtual 522, 3) := by decide +kernel
theorem px_d130_5 : decode prog_15_method_109_code 5 = .ok (.ifCond .eq 22, 3) := by decide +kernel
theorem px_d130_8 : decode prog_15_method_109_code 8 = .ok (.aload_n 0, 1) := by decide +kernel
theorem px_d130_9 : decode prog_15_method_109_code 9 = .ok (.getfield 160, 3) := by decide +kernel
theorem px_d130_12 : decode prog_15_method_109_code 12 = .ok (.iload_n 1, 1) := by decide +kernel
theorem px_d130_13 : decode prog_15_method_109_code 13 = .ok (.iaload, 1) := by decide +kernel
theorem px_d130_14 : decode prog_15_method_109_code 14 = .ok (.ifCond .ne 13, 3) := by decide +kernel
theorem px_d130_17 : decode prog_15_method_109_code 17 = .ok (.aload_n 0, 1) := by decide +kernel
theorem px_d130_18 : decode prog_15_method_109_code 18 = .ok (.iload_n 1, 1) := by decide +kernel
theorem px_d130_19 : decode prog_15_method_109_code 19 = .ok (.iconst 1, 1) := by decide +kernel
theorem px_d130_20 : decode prog_15_method_109_code 20 = .ok (.iload_n 2, 1) := by decide +kernel
theorem px_d130_21 : decode prog_15_method_109_code 21 = .ok (.invokevirtual 528, 3) := by decide +kernel
theorem px_d130_24 : decode prog_15_method_109_code 24 = .ok (.goto 4, 3) := by decide +kernel
theorem px_d130_27 : decode prog_15_method_109_code 27 = .ok (.iconst (-1), 1) := by decide +kernel
theorem px_d130_28 : decode prog_15_method_109_code 28 = .ok (.istore_n 3, 1) := by decide +kernel
theorem px_d130_29 : decode prog_15_method_109_code 29 = .ok (.iload_n 3, 1) := by decide +kernel
theorem px_d130_30 : decode prog_15_method_109_code 30 = .ok (.ifCond .ge 7, 3) := by decide +kernel
theorem px_d130_33 : decode prog_15_method_109_code 33 = .ok (.iconst (-1), 1) := by decide +kernel
theorem px_d130_34 : decode prog_15_method_109_code 34 = .ok (.goto 9, 3) := by decide +kernel
theorem px_d130_37 : decode prog_15_method_109_code 37 = .ok (.aload_n 0, 1) := by decide +kernel
theorem px_d130_38 : decode prog_15_method_109_code 38 = .ok (.iload_n 1, 1) := by decide +kernel
theorem px_d130_39 : decode prog_15_method_109_code 39 = .ok (.iload_n 3, 1) := by decide +kernel
theorem px_d130_40 : decode prog_15_method_109_code 40 = .ok (.invokevirtual 475, 3) := by decide +kernel
theorem px_d130_43 : decode prog_15_method_109_code 43 = .ok (.ireturn, 1) := by decide +kernel
