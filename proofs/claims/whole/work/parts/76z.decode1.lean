theorem px_d255_69 : decode prog_1_method_34_code 69 = .ok (.iload_n 2, 1) := by decide +kernel
theorem px_d255_70 : decode prog_1_method_34_code 70 = .ok (.isub, 1) := by decide +kernel
theorem px_d255_71 : decode prog_1_method_34_code 71 = .ok (.iconst 1, 1) := by decide +kernel
theorem px_d255_72 : decode prog_1_method_34_code 72 = .ok (.isub, 1) := by decide +kernel
theorem px_d255_73 : decode prog_1_method_34_code 73 = .ok (.iaload, 1) := by decide +kernel
theorem px_d255_74 : decode prog_1_method_34_code 74 = .ok (.iadd, 1) := by decide +kernel
theorem px_d255_75 : decode prog_1_method_34_code 75 = .ok (.iastore, 1) := by decide +kernel
theorem px_d255_76 : decode prog_1_method_34_code 76 = .ok (.iinc 4 1, 3) := by decide +kernel
theorem px_d255_79 : decode prog_1_method_34_code 79 = .ok (.goto (-69), 3) := by decide +kernel
theorem px_d255_82 : decode prog_1_method_34_code 82 = .ok (.iinc 3 1, 3) := by decide +kernel
theorem px_d255_85 : decode prog_1_method_34_code 85 = .ok (.goto (-83), 3) := by decide +kernel
theorem px_d255_88 : decode prog_1_method_34_code 88 = .ok (.return_, 1) := by decide +kernel
theorem px_d256_0 : decode prog_1_method_32_code 0 = .ok (.aload_n 0, 1) := by decide +kernel
theorem px_d256_1 : decode prog_1_method_32_code 1 = .ok (.aload_n 0, 1) := by decide +kernel
theorem px_d256_2 : decode prog_1_method_32_code 2 = .ok (.getfield 75, 3) := by decide +kernel
theorem px_d256_5 : decode prog_1_method_32_code 5 = .ok (.getfield 232, 3) := by decide +kernel
theorem px_d256_8 : decode prog_1_method_32_code 8 = .ok (.invokevirtual 152, 3) := by decide +kernel
theorem px_d256_11 : decode prog_1_method_32_code 11 = .ok (.astore_n 3, 1) := by decide +kernel
theorem px_d256_12 : decode prog_1_method_32_code 12 = .ok (.aload_n 0, 1) := by decide +kernel
theorem px_d256_13 : decode prog_1_method_32_code 13 = .ok (.getfield 75, 3) := by decide +kernel
theorem px_d256_16 : decode prog_1_method_32_code 16 = .ok (.aload_n 2, 1) := by decide +kernel
theorem px_d256_17 : decode prog_1_method_32_code 17 = .ok (.getfield 164, 3) := by decide +kernel
theorem px_d256_20 : decode prog_1_method_32_code 20 = .ok (.invokevirtual 310, 3) := by decide +kernel
theorem px_d256_23 : decode prog_1_method_32_code 23 = .ok (.istore 4, 2) := by decide +kernel
theorem px_d256_25 : decode prog_1_method_32_code 25 = .ok (.getstatic 274, 3) := by decide +kernel
theorem px_d256_28 : decode prog_1_method_32_code 28 = .ok (.aload_n 0, 1) := by decide +kernel
theorem px_d256_29 : decode prog_1_method_32_code 29 = .ok (.getfield 75, 3) := by decide +kernel
theorem px_d256_32 : decode prog_1_method_32_code 32 = .ok (.getfield 136, 3) := by decide +kernel
theorem px_d256_35 : decode prog_1_method_32_code 35 = .ok (.invokevirtual 279, 3) := by decide +kernel
theorem px_d256_38 : decode prog_1_method_32_code 38 = .ok (.iaload, 1) := by decide +kernel
theorem px_d256_39 : decode prog_1_method_32_code 39 = .ok (.tableswitch 75 3 5 #[25, 33, 58], 25) := by decide +kernel
theorem px_d256_64 : decode prog_1_method_32_code 64 = .ok (.aload_n 1, 1) := by decide +kernel
theorem px_d256_65 : decode prog_1_method_32_code 65 = .ok (.aload_n 2, 1) := by decide +kernel
theorem px_d256_66 : decode prog_1_method_32_code 66 = .ok (.invokevirtual 313, 3) := by decide +kernel
theorem px_d256_69 : decode prog_1_method_32_code 69 = .ok (.goto 63, 3) := by decide +kernel
theorem px_d256_72 : decode prog_1_method_32_code 72 = .ok (.aload_n 1, 1) := by decide +kernel
theorem px_d256_73 : decode prog_1_method_32_code 73 = .ok (.aload_n 2, 1) := by decide +kernel
theorem px_d256_74 : decode prog_1_method_32_code 74 = .ok (.iload 4, 2) := by decide +kernel
theorem px_d256_76 : decode prog_1_method_32_code 76 = .ok (.aload_n 2, 1) := by decide +kernel
theorem px_d256_77 : decode prog_1_method_32_code 77 = .ok (.aload_n 2, 1) := by decide +kernel
theorem px_d256_78 : decode prog_1_method_32_code 78 = .ok (.invokevirtual 316, 3) := by decide +kernel
theorem px_d256_81 : decode prog_1_method_32_code 81 = .ok (.iload 4, 2) := by decide +kernel
theorem px_d256_83 : decode prog_1_method_32_code 83 = .ok (.iconst (-1), 1) := by decide +kernel
theorem px_d256_84 : decode prog_1_method_32_code 84 = .ok (.ixor, 1) := by decide +kernel
theorem px_d256_85 : decode prog_1_method_32_code 85 = .ok (.iand, 1) := by decide +kernel
theorem px_d256_86 : decode prog_1_method_32_code 86 = .ok (.iload 4, 2) := by decide +kernel
theorem px_d256_88 : decode prog_1_method_32_code 88 = .ok (.invokevirtual 319, 3) := by decide +kernel
theorem px_d256_91 : decode prog_1_method_32_code 91 = .ok (.invokevirtual 323, 3) := by decide +kernel
theorem px_d256_94 : decode prog_1_method_32_code 94 = .ok (.goto 38, 3) := by decide +kernel
theorem px_d256_97 : decode prog_1_method_32_code 97 = .ok (.aload_n 1, 1) := by decide +kernel
theorem px_d256_98 : decode prog_1_method_32_code 98 = .ok (.aload_n 2, 1) := by decide +kernel
theorem px_d256_99 : decode prog_1_method_32_code 99 = .ok (.iload 4, 2) := by decide +kernel
theorem px_d256_101 : decode prog_1_method_32_code 101 = .ok (.aload_n 2, 1) := by decide +kernel
theorem px_d256_102 : decode prog_1_method_32_code 102 = .ok (.iconst 0, 1) := by decide +kernel
theorem px_d256_103 : decode prog_1_method_32_code 103 = .ok (.iload 4, 2) := by decide +kernel
theorem px_d256_105 : decode prog_1_method_32_code 105 = .ok (.invokevirtual 319, 3) := by decide +kernel
theorem px_d256_108 : decode prog_1_method_32_code 108 = .ok (.invokevirtual 323, 3) := by decide +kernel
theorem px_d256_111 : decode prog_1_method_32_code 111 = .ok (.goto 21, 3) := by decide +kernel
theorem px_d256_114 : decode prog_1_method_32_code 114 = .ok (.aload_n 3, 1) := by decide +kernel
theorem px_d256_115 : decode prog_1_method_32_code 115 = .ok (.ifnonnull 11, 3) := by decide +kernel
theorem px_d256_118 : decode prog_1_method_32_code 118 = .ok (.aload_n 1, 1) := by decide +kernel
theorem px_d256_119 : decode prog_1_method_32_code 119 = .ok (.aload_n 2, 1) := by decide +kernel
theorem px_d256_120 : decode prog_1_method_32_code 120 = .ok (.invokevirtual 327, 3) := by decide +kernel
theorem px_d256_123 : decode prog_1_method_32_code 123 = .ok (.goto 9, 3) := by decide +kernel
theorem px_d256_126 : decode prog_1_method_32_code 126 = .ok (.aload_n 1, 1) := by decide +kernel
theorem px_d256_127 : decode prog_1_method_32_code 127 = .ok (.aload_n 2, 1) := by decide +kernel
theorem px_d256_128 : decode prog_1_method_32_code 128 = .ok (.aload_n 3, 1) := by decide +kernel
theorem px_d256_129 : decode prog_1_method_32_code 129 = .ok (.invokevirtual 330, 3) := by decide +kernel
theorem px_d256_132 : decode prog_1_method_32_code 132 = .ok (.return_, 1) := by decide +kernel
theorem px_d268_0 : decode prog_1_method_35_code 0 = .ok (.aload_n 1, 1) := by decide +kernel
theorem px_d268_1 : decode prog_1_method_35_code 1 = .ok (.ifnonnull 4, 3) := by decide +kernel
theorem px_d268_4 : decode prog_1_method_35_code 4 = .ok (.return_, 1) := by decide +kernel
theorem px_d268_5 : decode prog_1_method_35_code 5 = .ok (.getstatic 274, 3) := by decide +kernel
theorem px_d268_8 : decode prog_1_method_35_code 8 = .ok (.aload_n 0, 1) := by decide +kernel
theorem px_d268_9 : decode prog_1_method_35_code 9 = .ok (.getfield 75, 3) := by decide +kernel
theorem px_d268_12 : decode prog_1_method_35_code 12 = .ok (.getfield 136, 3) := by decide +kernel
theorem px_d268_15 : decode prog_1_method_35_code 15 = .ok (.invokevirtual 279, 3) := by decide +kernel
theorem px_d268_18 : decode prog_1_method_35_code 18 = .ok (.iaload, 1) := by decide +kernel
theorem px_d268_19 : decode prog_1_method_35_code 19 = .ok (.tableswitch 220 6 17 #[61, 84, 108, 117, 126, 135, 144, 152, 166, 185, 193, 201], 61) := by decide +kernel
theorem px_d268_80 : decode prog_1_method_35_code 80 = .ok (.aload_n 0, 1) := by decide +kernel
theorem px_d268_81 : decode prog_1_method_35_code 81 = .ok (.getfield 75, 3) := by decide +kernel
theorem px_d268_84 : decode prog_1_method_35_code 84 = .ok (.getfield 283, 3) := by decide +kernel
theorem px_d268_87 : decode prog_1_method_35_code 87 = .ok (.iconst 0, 1) := by decide +kernel
theorem px_d268_88 : decode prog_1_method_35_code 88 = .ok (.aload_n 1, 1) := by decide +kernel
theorem px_d268_89 : decode prog_1_method_35_code 89 = .ok (.getfield 188, 3) := by decide +kernel
theorem px_d268_92 : decode prog_1_method_35_code 92 = .ok (.iconst 0, 1) := by decide +kernel
theorem px_d268_93 : decode prog_1_method_35_code 93 = .ok (.aload_n 1, 1) := by decide +kernel
theorem px_d268_94 : decode prog_1_method_35_code 94 = .ok (.getfield 164, 3) := by decide +kernel
theorem px_d268_97 : decode prog_1_method_35_code 97 = .ok (.invokestatic 337, 3) := by decide +kernel
theorem px_d268_100 : decode prog_1_method_35_code 100 = .ok (.goto 144, 3) := by decide +kernel
theorem px_d268_103 : decode prog_1_method_35_code 103 = .ok (.aload_n 0, 1) := by decide +kernel
theorem px_d268_104 : decode prog_1_method_35_code 104 = .ok (.getfield 82, 3) := by decide +kernel
theorem px_d268_107 : decode prog_1_method_35_code 107 = .ok (.aload_n 1, 1) := by decide +kernel
theorem px_d268_108 : decode prog_1_method_35_code 108 = .ok (.getfield 206, 3) := by decide +kernel
theorem px_d268_111 : decode prog_1_method_35_code 111 = .ok (.i2l, 1) := by decide +kernel
theorem px_d268_112 : decode prog_1_method_35_code 112 = .ok (.invokevirtual 343, 3) := by decide +kernel
theorem px_d268_115 : decode prog_1_method_35_code 115 = .ok (.aload_n 0, 1) := by decide +kernel
theorem px_d268_116 : decode prog_1_method_35_code 116 = .ok (.getfield 82, 3) := by decide +kernel
theorem px_d268_119 : decode prog_1_method_35_code 119 = .ok (.bipush 10, 2) := by decide +kernel
theorem px_d268_121 : decode prog_1_method_35_code 121 = .ok (.invokevirtual 347, 3) := by decide +kernel
theorem px_d268_124 : decode prog_1_method_35_code 124 = .ok (.goto 120, 3) := by decide +kernel
theorem px_d268_127 : decode prog_1_method_35_code 127 = .ok (.aload_n 0, 1) := by decide +kernel
theorem px_d268_128 : decode prog_1_method_35_code 128 = .ok (.aload_n 1, 1) := by decide +kernel
theorem px_d268_129 : decode prog_1_method_35_code 129 = .ok (.iconst 0, 1) := by decide +kernel
theorem px_d268_130 : decode prog_1_method_35_code 130 = .ok (.invokevirtual 350, 3) := by decide +kernel
theorem px_d268_133 : decode prog_1_method_35_code 133 = .ok (.goto 111, 3) := by decide +kernel
theorem px_d268_136 : decode prog_1_method_35_code 136 = .ok (.aload_n 0, 1) := by decide +kernel
theorem px_d268_137 : decode prog_1_method_35_code 137 = .ok (.aload_n 1, 1) := by decide +kernel
theorem px_d268_138 : decode prog_1_method_35_code 138 = .ok (.iconst 1, 1) := by decide +kernel
theorem px_d268_139 : decode prog_1_method_35_code 139 = .ok (.invokevirtual 350, 3) := by decide +kernel
theorem px_d268_142 : decode prog_1_method_35_code 142 = .ok (.goto 102, 3) := by decide +kernel
theorem px_d268_145 : decode prog_1_method_35_code 145 = .ok (.aload_n 0, 1) := by decide +kernel
theorem px_d268_146 : decode prog_1_method_35_code 146 = .ok (.aload_n 1, 1) := by decide +kernel
theorem px_d268_147 : decode prog_1_method_35_code 147 = .ok (.iconst 2, 1) := by decide +kernel
theorem px_d268_148 : decode prog_1_method_35_code 148 = .ok (.invokevirtual 350, 3) := by decide +kernel
theorem px_d268_151 : decode prog_1_method_35_code 151 = .ok (.goto 93, 3) := by decide +kernel
theorem px_d268_154 : decode prog_1_method_35_code 154 = .ok (.aload_n 0, 1) := by decide +kernel
theorem px_d268_155 : decode prog_1_method_35_code 155 = .ok (.aload_n 1, 1) := by decide +kernel
theorem px_d268_156 : decode prog_1_method_35_code 156 = .ok (.iconst 3, 1) := by decide +kernel
theorem px_d268_157 : decode prog_1_method_35_code 157 = .ok (.invokevirtual 350, 3) := by decide +kernel
theorem px_d268_160 : decode prog_1_method_35_code 160 = .ok (.goto 84, 3) := by decide +kernel
theorem px_d268_163 : decode prog_1_method_35_code 163 = .ok (.aload_n 0, 1) := by decide +kernel
theorem px_d268_164 : decode prog_1_method_35_code 164 = .ok (.aload_n 1, 1) := by decide +kernel
theorem px_d268_165 : decode prog_1_method_35_code 165 = .ok (.invokevirtual 354, 3) := by decide +kernel
theorem px_d268_168 : decode prog_1_method_35_code 168 = .ok (.goto 76, 3) := by decide +kernel
theorem px_d268_171 : decode prog_1_method_35_code 171 = .ok (.aload_n 0, 1) := by decide +kernel
theorem px_d268_172 : decode prog_1_method_35_code 172 = .ok (.getfield 82, 3) := by decide +kernel
theorem px_d268_175 : decode prog_1_method_35_code 175 = .ok (.aload_n 1, 1) := by decide +kernel
theorem px_d268_176 : decode prog_1_method_35_code 176 = .ok (.invokevirtual 191, 3) := by decide +kernel
theorem px_d268_179 : decode prog_1_method_35_code 179 = .ok (.invokevirtual 357, 3) := by decide +kernel
theorem px_d268_182 : decode prog_1_method_35_code 182 = .ok (.goto 62, 3) := by decide +kernel
theorem px_d268_185 : decode prog_1_method_35_code 185 = .ok (.aload_n 0, 1) := by decide +kernel
theorem px_d268_186 : decode prog_1_method_35_code 186 = .ok (.aload_n 1, 1) := by decide +kernel
theorem px_d268_187 : decode prog_1_method_35_code 187 = .ok (.aload_n 0, 1) := by decide +kernel
theorem px_d268_188 : decode prog_1_method_35_code 188 = .ok (.aload_n 0, 1) := by decide +kernel
theorem px_d268_189 : decode prog_1_method_35_code 189 = .ok (.getfield 75, 3) := by decide +kernel
theorem px_d268_192 : decode prog_1_method_35_code 192 = .ok (.getfield 232, 3) := by decide +kernel
theorem px_d268_195 : decode prog_1_method_35_code 195 = .ok (.invokevirtual 152, 3) := by decide +kernel
theorem px_d268_198 : decode prog_1_method_35_code 198 = .ok (.invokevirtual 360, 3) := by decide +kernel
theorem px_d268_201 : decode prog_1_method_35_code 201 = .ok (.goto 43, 3) := by decide +kernel
theorem px_d268_204 : decode prog_1_method_35_code 204 = .ok (.aload_n 0, 1) := by decide +kernel
theorem px_d268_205 : decode prog_1_method_35_code 205 = .ok (.aload_n 1, 1) := by decide +kernel
theorem px_d268_206 : decode prog_1_method_35_code 206 = .ok (.invokevirtual 363, 3) := by decide +kernel
theorem px_d268_209 : decode prog_1_method_35_code 209 = .ok (.goto 35, 3) := by decide +kernel
theorem px_d268_212 : decode prog_1_method_35_code 212 = .ok (.aload_n 0, 1) := by decide +kernel
theorem px_d268_213 : decode prog_1_method_35_code 213 = .ok (.aload_n 1, 1) := by decide +kernel
theorem px_d268_214 : decode prog_1_method_35_code 214 = .ok (.invokevirtual 366, 3) := by decide +kernel
theorem px_d268_217 : decode prog_1_method_35_code 217 = .ok (.goto 27, 3) := by decide +kernel
theorem px_d268_220 : decode prog_1_method_35_code 220 = .ok (.aload_n 0, 1) := by decide +kernel
theorem px_d268_221 : decode prog_1_method_35_code 221 = .ok (.aload_n 1, 1) := by decide +kernel
theorem px_d268_222 : decode prog_1_method_35_code 222 = .ok (.aload_n 0, 1) := by decide +kernel
theorem px_d268_223 : decode prog_1_method_35_code 223 = .ok (.aload_n 0, 1) := by decide +kernel
theorem px_d268_224 : decode prog_1_method_35_code 224 = .ok (.getfield 75, 3) := by decide +kernel
theorem px_d268_227 : decode prog_1_method_35_code 227 = .ok (.getfield 232, 3) := by decide +kernel
theorem px_d268_230 : decode prog_1_method_35_code 230 = .ok (.invokevirtual 152, 3) := by decide +kernel
theorem px_d268_233 : decode prog_1_method_35_code 233 = .ok (.invokevirtual 369, 3) := by decide +kernel
theorem px_d268_236 : decode prog_1_method_35_code 236 = .ok (.goto 8, 3) := by decide +kernel
theorem px_d268_239 : decode prog_1_method_35_code 239 = .ok (.aload_n 0, 1) := by decide +kernel
theorem px_d268_240 : decode prog_1_method_35_code 240 = .ok (.aload_n 1, 1) := by decide +kernel
theorem px_d268_241 : decode prog_1_method_35_code 241 = .ok (.invokevirtual 372, 3) := by decide +kernel
theorem px_d268_244 : decode prog_1_method_35_code 244 = .ok (.return_, 1) := by decide +kernel
theorem px_d271_0 : decode prog_1_method_36_code 0 = .ok (.aload_n 1, 1) := by decide +kernel
theorem px_d271_1 : decode prog_1_method_36_code 1 = .ok (.iload_n 2, 1) := by decide +kernel
theorem px_d271_2 : decode prog_1_method_36_code 2 = .ok (.invokevirtual 177, 3) := by decide +kernel
theorem px_d271_5 : decode prog_1_method_36_code 5 = .ok (.istore_n 3, 1) := by decide +kernel
theorem px_d271_6 : decode prog_1_method_36_code 6 = .ok (.iconst 0, 1) := by decide +kernel
theorem px_d271_7 : decode prog_1_method_36_code 7 = .ok (.istore 4, 2) := by decide +kernel
theorem px_d271_9 : decode prog_1_method_36_code 9 = .ok (.iload 4, 2) := by decide +kernel
theorem px_d271_11 : decode prog_1_method_36_code 11 = .ok (.iload_n 3, 1) := by decide +kernel
theorem px_d271_12 : decode prog_1_method_36_code 12 = .ok (.if_icmp .ge 25, 3) := by decide +kernel
theorem px_d271_15 : decode prog_1_method_36_code 15 = .ok (.aload_n 0, 1) := by decide +kernel
theorem px_d271_16 : decode prog_1_method_36_code 16 = .ok (.getfield 82, 3) := by decide +kernel
theorem px_d271_19 : decode prog_1_method_36_code 19 = .ok (.aload_n 1, 1) := by decide +kernel
theorem px_d271_20 : decode prog_1_method_36_code 20 = .ok (.getfield 180, 3) := by decide +kernel
theorem px_d271_23 : decode prog_1_method_36_code 23 = .ok (.iload_n 2, 1) := by decide +kernel
theorem px_d271_24 : decode prog_1_method_36_code 24 = .ok (.aaload, 1) := by decide +kernel
theorem px_d271_25 : decode prog_1_method_36_code 25 = .ok (.iload 4, 2) := by decide +kernel
theorem px_d271_27 : decode prog_1_method_36_code 27 = .ok (.iaload, 1) := by decide +kernel
theorem px_d271_28 : decode prog_1_method_36_code 28 = .ok (.invokevirtual 357, 3) := by decide +kernel
theorem px_d271_31 : decode prog_1_method_36_code 31 = .ok (.iinc 4 1, 3) := by decide +kernel
theorem px_d271_34 : decode prog_1_method_36_code 34 = .ok (.goto (-25), 3) := by decide +kernel
theorem px_d271_37 : decode prog_1_method_36_code 37 = .ok (.return_, 1) := by decide +kernel
theorem px_d279_0 : decode prog_1_method_37_code 0 = .ok (.iconst 1, 1) := by decide +kernel
theorem px_d279_1 : decode prog_1_method_37_code 1 = .ok (.istore_n 2, 1) := by decide +kernel
theorem px_d279_2 : decode prog_1_method_37_code 2 = .ok (.aload_n 1, 1) := by decide +kernel
theorem px_d279_3 : decode prog_1_method_37_code 3 = .ok (.getfield 206, 3) := by decide +kernel
theorem px_d279_6 : decode prog_1_method_37_code 6 = .ok (.istore_n 3, 1) := by decide +kernel
theorem px_d279_7 : decode prog_1_method_37_code 7 = .ok (.iload_n 3, 1) := by decide +kernel
theorem px_d279_8 : decode prog_1_method_37_code 8 = .ok (.ifCond .lt 81, 3) := by decide +kernel
theorem px_d279_11 : decode prog_1_method_37_code 11 = .ok (.aload_n 1, 1) := by decide +kernel
theorem px_d279_12 : decode prog_1_method_37_code 12 = .ok (.getfield 164, 3) := by decide +kernel
theorem px_d279_15 : decode prog_1_method_37_code 15 = .ok (.aload_n 1, 1) := by decide +kernel
theorem px_d279_16 : decode prog_1_method_37_code 16 = .ok (.getfield 206, 3) := by decide +kernel
theorem px_d279_19 : decode prog_1_method_37_code 19 = .ok (.isub, 1) := by decide +kernel
theorem px_d279_20 : decode prog_1_method_37_code 20 = .ok (.istore 4, 2) := by decide +kernel
theorem px_d279_22 : decode prog_1_method_37_code 22 = .ok (.iload 4, 2) := by decide +kernel
theorem px_d279_24 : decode prog_1_method_37_code 24 = .ok (.ifCond .lt 59, 3) := by decide +kernel
theorem px_d279_27 : decode prog_1_method_37_code 27 = .ok (.aload_n 1, 1) := by decide +kernel
theorem px_d279_28 : decode prog_1_method_37_code 28 = .ok (.iload_n 3, 1) := by decide +kernel
theorem px_d279_29 : decode prog_1_method_37_code 29 = .ok (.iload 4, 2) := by decide +kernel
theorem px_d279_31 : decode prog_1_method_37_code 31 = .ok (.invokevirtual 184, 3) := by decide +kernel
theorem px_d279_34 : decode prog_1_method_37_code 34 = .ok (.lstore 5, 2) := by decide +kernel
theorem px_d279_36 : decode prog_1_method_37_code 36 = .ok (.lload 5, 2) := by decide +kernel
theorem px_d279_38 : decode prog_1_method_37_code 38 = .ok (.lconst 0, 1) := by decide +kernel
theorem px_d279_39 : decode prog_1_method_37_code 39 = .ok (.lcmp, 1) := by decide +kernel
theorem px_d279_40 : decode prog_1_method_37_code 40 = .ok (.ifCond .eq 37, 3) := by decide +kernel
theorem px_d279_43 : decode prog_1_method_37_code 43 = .ok (.aload_n 0, 1) := by decide +kernel
theorem px_d279_44 : decode prog_1_method_37_code 44 = .ok (.getfield 82, 3) := by decide +kernel
theorem px_d279_47 : decode prog_1_method_37_code 47 = .ok (.iload_n 2, 1) := by decide +kernel
theorem px_d279_48 : decode prog_1_method_37_code 48 = .ok (.ifCond .eq 9, 3) := by decide +kernel
theorem px_d279_51 : decode prog_1_method_37_code 51 = .ok (.ldc_w 375, 3) := by decide +kernel
theorem px_d279_54 : decode prog_1_method_37_code 54 = .ok (.goto 6, 3) := by decide +kernel
theorem px_d279_57 : decode prog_1_method_37_code 57 = .ok (.ldc_w 377, 3) := by decide +kernel
theorem px_d279_60 : decode prog_1_method_37_code 60 = .ok (.invokevirtual 379, 3) := by decide +kernel
theorem px_d279_63 : decode prog_1_method_37_code 63 = .ok (.aload_n 0, 1) := by decide +kernel
theorem px_d279_64 : decode prog_1_method_37_code 64 = .ok (.getfield 82, 3) := by decide +kernel
theorem px_d279_67 : decode prog_1_method_37_code 67 = .ok (.lload 5, 2) := by decide +kernel
theorem px_d279_69 : decode prog_1_method_37_code 69 = .ok (.iload_n 3, 1) := by decide +kernel
theorem px_d279_70 : decode prog_1_method_37_code 70 = .ok (.iload 4, 2) := by decide +kernel
theorem px_d279_72 : decode prog_1_method_37_code 72 = .ok (.invokevirtual 382, 3) := by decide +kernel
theorem px_d279_75 : decode prog_1_method_37_code 75 = .ok (.iconst 0, 1) := by decide +kernel
theorem px_d279_76 : decode prog_1_method_37_code 76 = .ok (.istore_n 2, 1) := by decide +kernel
theorem px_d279_77 : decode prog_1_method_37_code 77 = .ok (.iinc 4 (-1), 3) := by decide +kernel
theorem px_d279_80 : decode prog_1_method_37_code 80 = .ok (.goto (-58), 3) := by decide +kernel
theorem px_d279_83 : decode prog_1_method_37_code 83 = .ok (.iinc 3 (-1), 3) := by decide +kernel
theorem px_d279_86 : decode prog_1_method_37_code 86 = .ok (.goto (-79), 3) := by decide +kernel
theorem px_d279_89 : decode prog_1_method_37_code 89 = .ok (.aload_n 0, 1) := by decide +kernel
theorem px_d279_90 : decode prog_1_method_37_code 90 = .ok (.getfield 82, 3) := by decide +kernel
theorem px_d279_93 : decode prog_1_method_37_code 93 = .ok (.bipush 10, 2) := by decide +kernel
theorem px_d279_95 : decode prog_1_method_37_code 95 = .ok (.invokevirtual 347, 3) := by decide +kernel
theorem px_d279_98 : decode prog_1_method_37_code 98 = .ok (.return_, 1) := by decide +kernel
theorem px_d287_0 : decode prog_1_method_38_code 0 = .ok (.aload_n 2, 1) := by decide +kernel
theorem px_d287_1 : decode prog_1_method_38_code 1 = .ok (.ifnull 27, 3) := by decide +kernel
theorem px_d287_4 : decode prog_1_method_38_code 4 = .ok (.aload_n 0, 1) := by decide +kernel
theorem px_d287_5 : decode prog_1_method_38_code 5 = .ok (.getfield 82, 3) := by decide +kernel
theorem px_d287_8 : decode prog_1_method_38_code 8 = .ok (.aload_n 1, 1) := by decide +kernel
theorem px_d287_9 : decode prog_1_method_38_code 9 = .ok (.aload_n 2, 1) := by decide +kernel
theorem px_d287_10 : decode prog_1_method_38_code 10 = .ok (.invokevirtual 194, 3) := by decide +kernel
theorem px_d287_13 : decode prog_1_method_38_code 13 = .ok (.invokevirtual 357, 3) := by decide +kernel
theorem px_d287_16 : decode prog_1_method_38_code 16 = .ok (.aload_n 0, 1) := by decide +kernel
theorem px_d287_17 : decode prog_1_method_38_code 17 = .ok (.getfield 82, 3) := by decide +kernel
theorem px_d287_20 : decode prog_1_method_38_code 20 = .ok (.aload_n 1, 1) := by decide +kernel
theorem px_d287_21 : decode prog_1_method_38_code 21 = .ok (.aload_n 2, 1) := by decide +kernel
theorem px_d287_22 : decode prog_1_method_38_code 22 = .ok (.invokevirtual 198, 3) := by decide +kernel
theorem px_d287_25 : decode prog_1_method_38_code 25 = .ok (.invokevirtual 357, 3) := by decide +kernel
theorem px_d287_28 : decode prog_1_method_38_code 28 = .ok (.return_, 1) := by decide +kernel
theorem px_d290_0 : decode prog_1_method_39_code 0 = .ok (.aload_n 0, 1) := by decide +kernel
theorem px_d290_1 : decode prog_1_method_39_code 1 = .ok (.getfield 43, 3) := by decide +kernel
theorem px_d290_4 : decode prog_1_method_39_code 4 = .ok (.aload_n 1, 1) := by decide +kernel
theorem px_d290_5 : decode prog_1_method_39_code 5 = .ok (.getfield 164, 3) := by decide +kernel
theorem px_d290_8 : decode prog_1_method_39_code 8 = .ok (.aload_n 1, 1) := by decide +kernel
theorem px_d290_9 : decode prog_1_method_39_code 9 = .ok (.getfield 206, 3) := by decide +kernel
theorem px_d290_12 : decode prog_1_method_39_code 12 = .ok (.iconst 1, 1) := by decide +kernel
theorem px_d290_13 : decode prog_1_method_39_code 13 = .ok (.iadd, 1) := by decide +kernel
theorem px_d290_14 : decode prog_1_method_39_code 14 = .ok (.invokevirtual 386, 3) := by decide +kernel
theorem px_d290_17 : decode prog_1_method_39_code 17 = .ok (.istore_n 2, 1) := by decide +kernel
theorem px_d290_18 : decode prog_1_method_39_code 18 = .ok (.aload_n 0, 1) := by decide +kernel
theorem px_d290_19 : decode prog_1_method_39_code 19 = .ok (.getfield 43, 3) := by decide +kernel
theorem px_d290_22 : decode prog_1_method_39_code 22 = .ok (.aload_n 1, 1) := by decide +kernel
theorem px_d290_23 : decode prog_1_method_39_code 23 = .ok (.getfield 164, 3) := by decide +kernel
theorem px_d290_26 : decode prog_1_method_39_code 26 = .ok (.aload_n 1, 1) := by decide +kernel
theorem px_d290_27 : decode prog_1_method_39_code 27 = .ok (.getfield 206, 3) := by decide +kernel
theorem px_d290_30 : decode prog_1_method_39_code 30 = .ok (.invokevirtual 386, 3) := by decide +kernel
theorem px_d290_33 : decode prog_1_method_39_code 33 = .ok (.istore_n 3, 1) := by decide +kernel
theorem px_d290_34 : decode prog_1_method_39_code 34 = .ok (.iload_n 3, 1) := by decide +kernel
theorem px_d290_35 : decode prog_1_method_39_code 35 = .ok (.iload_n 2, 1) := by decide +kernel
theorem px_d290_36 : decode prog_1_method_39_code 36 = .ok (.if_icmp .ge 33, 3) := by decide +kernel
theorem px_d290_39 : decode prog_1_method_39_code 39 = .ok (.aload_n 0, 1) := by decide +kernel
theorem px_d290_40 : decode prog_1_method_39_code 40 = .ok (.getfield 82, 3) := by decide +kernel
theorem px_d290_43 : decode prog_1_method_39_code 43 = .ok (.aload_n 1, 1) := by decide +kernel
theorem px_d290_44 : decode prog_1_method_39_code 44 = .ok (.getfield 209, 3) := by decide +kernel
theorem px_d290_47 : decode prog_1_method_39_code 47 = .ok (.aload_n 0, 1) := by decide +kernel
theorem px_d290_48 : decode prog_1_method_39_code 48 = .ok (.getfield 43, 3) := by decide +kernel
theorem px_d290_51 : decode prog_1_method_39_code 51 = .ok (.aload_n 1, 1) := by decide +kernel
theorem px_d290_52 : decode prog_1_method_39_code 52 = .ok (.getfield 164, 3) := by decide +kernel
theorem px_d290_55 : decode prog_1_method_39_code 55 = .ok (.iload_n 3, 1) := by decide +kernel
theorem px_d290_56 : decode prog_1_method_39_code 56 = .ok (.invokevirtual 388, 3) := by decide +kernel
theorem px_d290_59 : decode prog_1_method_39_code 59 = .ok (.baload, 1) := by decide +kernel
theorem px_d290_60 : decode prog_1_method_39_code 60 = .ok (.invokevirtual 391, 3) := by decide +kernel
theorem px_d290_63 : decode prog_1_method_39_code 63 = .ok (.iinc 3 1, 3) := by decide +kernel
theorem px_d290_66 : decode prog_1_method_39_code 66 = .ok (.goto (-32), 3) := by decide +kernel
theorem px_d290_69 : decode prog_1_method_39_code 69 = .ok (.aload_n 0, 1) := by decide +kernel
theorem px_d290_70 : decode prog_1_method_39_code 70 = .ok (.getfield 82, 3) := by decide +kernel
theorem px_d290_73 : decode prog_1_method_39_code 73 = .ok (.bipush 10, 2) := by decide +kernel
theorem px_d290_75 : decode prog_1_method_39_code 75 = .ok (.invokevirtual 347, 3) := by decide +kernel
theorem px_d290_78 : decode prog_1_method_39_code 78 = .ok (.return_, 1) := by decide +kernel
theorem px_d292_0 : decode prog_1_method_40_code 0 = .ok (.aload_n 1, 1) := by decide +kernel
theorem px_d292_1 : decode prog_1_method_40_code 1 = .ok (.iconst 1, 1) := by decide +kernel
theorem px_d292_2 : decode prog_1_method_40_code 2 = .ok (.invokevirtual 177, 3) := by decide +kernel
theorem px_d292_5 : decode prog_1_method_40_code 5 = .ok (.istore_n 2, 1) := by decide +kernel
theorem px_d292_6 : decode prog_1_method_40_code 6 = .ok (.iconst 0, 1) := by decide +kernel
theorem px_d292_7 : decode prog_1_method_40_code 7 = .ok (.istore_n 3, 1) := by decide +kernel
theorem px_d292_8 : decode prog_1_method_40_code 8 = .ok (.iload_n 3, 1) := by decide +kernel
theorem px_d292_9 : decode prog_1_method_40_code 9 = .ok (.iload_n 2, 1) := by decide +kernel
theorem px_d292_10 : decode prog_1_method_40_code 10 = .ok (.if_icmp .ge 78, 3) := by decide +kernel
theorem px_d292_13 : decode prog_1_method_40_code 13 = .ok (.aload_n 1, 1) := by decide +kernel
theorem px_d292_14 : decode prog_1_method_40_code 14 = .ok (.getfield 180, 3) := by decide +kernel
theorem px_d292_17 : decode prog_1_method_40_code 17 = .ok (.iconst 1, 1) := by decide +kernel
theorem px_d292_18 : decode prog_1_method_40_code 18 = .ok (.aaload, 1) := by decide +kernel
theorem px_d292_19 : decode prog_1_method_40_code 19 = .ok (.iload_n 3, 1) := by decide +kernel
theorem px_d292_20 : decode prog_1_method_40_code 20 = .ok (.iaload, 1) := by decide +kernel
theorem px_d292_21 : decode prog_1_method_40_code 21 = .ok (.istore 4, 2) := by decide +kernel
theorem px_d292_23 : decode prog_1_method_40_code 23 = .ok (.aload_n 1, 1) := by decide +kernel
theorem px_d292_24 : decode prog_1_method_40_code 24 = .ok (.iload 4, 2) := by decide +kernel
theorem px_d292_26 : decode prog_1_method_40_code 26 = .ok (.invokevirtual 212, 3) := by decide +kernel
theorem px_d292_29 : decode prog_1_method_40_code 29 = .ok (.istore 5, 2) := by decide +kernel
theorem px_d292_31 : decode prog_1_method_40_code 31 = .ok (.iconst 0, 1) := by decide +kernel
theorem px_d292_32 : decode prog_1_method_40_code 32 = .ok (.istore 6, 2) := by decide +kernel
theorem px_d292_34 : decode prog_1_method_40_code 34 = .ok (.iload 6, 2) := by decide +kernel
theorem px_d292_36 : decode prog_1_method_40_code 36 = .ok (.aload_n 1, 1) := by decide +kernel
theorem px_d292_37 : decode prog_1_method_40_code 37 = .ok (.getfield 164, 3) := by decide +kernel
theorem px_d292_40 : decode prog_1_method_40_code 40 = .ok (.if_icmp .ge 33, 3) := by decide +kernel
theorem px_d292_43 : decode prog_1_method_40_code 43 = .ok (.aload_n 0, 1) := by decide +kernel
theorem px_d292_44 : decode prog_1_method_40_code 44 = .ok (.getfield 82, 3) := by decide +kernel
theorem px_d292_47 : decode prog_1_method_40_code 47 = .ok (.iload 4, 2) := by decide +kernel
theorem px_d292_49 : decode prog_1_method_40_code 49 = .ok (.iload 6, 2) := by decide +kernel
theorem px_d292_51 : decode prog_1_method_40_code 51 = .ok (.ishr, 1) := by decide +kernel
theorem px_d292_52 : decode prog_1_method_40_code 52 = .ok (.iconst 1, 1) := by decide +kernel
theorem px_d292_53 : decode prog_1_method_40_code 53 = .ok (.iand, 1) := by decide +kernel
theorem px_d292_54 : decode prog_1_method_40_code 54 = .ok (.iconst 2, 1) := by decide +kernel
theorem px_d292_55 : decode prog_1_method_40_code 55 = .ok (.iload 5, 2) := by decide +kernel
theorem px_d292_57 : decode prog_1_method_40_code 57 = .ok (.iload 6, 2) := by decide +kernel
theorem px_d292_59 : decode prog_1_method_40_code 59 = .ok (.ishr, 1) := by decide +kernel
theorem px_d292_60 : decode prog_1_method_40_code 60 = .ok (.iconst 1, 1) := by decide +kernel
theorem px_d292_61 : decode prog_1_method_40_code 61 = .ok (.iand, 1) := by decide +kernel
theorem px_d292_62 : decode prog_1_method_40_code 62 = .ok (.imul, 1) := by decide +kernel
theorem px_d292_63 : decode prog_1_method_40_code 63 = .ok (.isub, 1) := by decide +kernel
theorem px_d292_64 : decode prog_1_method_40_code 64 = .ok (.invokevirtual 391, 3) := by decide +kernel
theorem px_d292_67 : decode prog_1_method_40_code 67 = .ok (.iinc 6 1, 3) := by decide +kernel
theorem px_d292_70 : decode prog_1_method_40_code 70 = .ok (.goto (-36), 3) := by decide +kernel
theorem px_d292_73 : decode prog_1_method_40_code 73 = .ok (.aload_n 0, 1) := by decide +kernel
theorem px_d292_74 : decode prog_1_method_40_code 74 = .ok (.getfield 82, 3) := by decide +kernel
theorem px_d292_77 : decode prog_1_method_40_code 77 = .ok (.bipush 10, 2) := by decide +kernel
theorem px_d292_79 : decode prog_1_method_40_code 79 = .ok (.invokevirtual 347, 3) := by decide +kernel
theorem px_d292_82 : decode prog_1_method_40_code 82 = .ok (.iinc 3 1, 3) := by decide +kernel
theorem px_d292_85 : decode prog_1_method_40_code 85 = .ok (.goto (-77), 3) := by decide +kernel
theorem px_d292_88 : decode prog_1_method_40_code 88 = .ok (.return_, 1) := by decide +kernel
theorem px_d295_0 : decode prog_1_method_41_code 0 = .ok (.aload_n 2, 1) := by decide +kernel
theorem px_d295_1 : decode prog_1_method_41_code 1 = .ok (.ifnull 15, 3) := by decide +kernel
theorem px_d295_4 : decode prog_1_method_41_code 4 = .ok (.aload_n 0, 1) := by decide +kernel
theorem px_d295_5 : decode prog_1_method_41_code 5 = .ok (.getfield 59, 3) := by decide +kernel
theorem px_d295_8 : decode prog_1_method_41_code 8 = .ok (.aload_n 1, 1) := by decide +kernel
theorem px_d295_9 : decode prog_1_method_41_code 9 = .ok (.aload_n 2, 1) := by decide +kernel
theorem px_d295_10 : decode prog_1_method_41_code 10 = .ok (.invokevirtual 228, 3) := by decide +kernel
theorem px_d295_13 : decode prog_1_method_41_code 13 = .ok (.ifCond .ne 14, 3) := by decide +kernel
theorem px_d295_16 : decode prog_1_method_41_code 16 = .ok (.aload_n 0, 1) := by decide +kernel
theorem px_d295_17 : decode prog_1_method_41_code 17 = .ok (.getfield 82, 3) := by decide +kernel
theorem px_d295_20 : decode prog_1_method_41_code 20 = .ok (.ldc_w 394, 3) := by decide +kernel
theorem px_d295_23 : decode prog_1_method_41_code 23 = .ok (.invokevirtual 379, 3) := by decide +kernel
theorem px_d295_26 : decode prog_1_method_41_code 26 = .ok (.return_, 1) := by decide +kernel
theorem px_d295_27 : decode prog_1_method_41_code 27 = .ok (.aload_n 0, 1) := by decide +kernel
theorem px_d295_28 : decode prog_1_method_41_code 28 = .ok (.getfield 82, 3) := by decide +kernel
theorem px_d295_31 : decode prog_1_method_41_code 31 = .ok (.aload_n 0, 1) := by decide +kernel
theorem px_d295_32 : decode prog_1_method_41_code 32 = .ok (.getfield 59, 3) := by decide +kernel
theorem px_d295_35 : decode prog_1_method_41_code 35 = .ok (.getfield 219, 3) := by decide +kernel
theorem px_d295_38 : decode prog_1_method_41_code 38 = .ok (.invokevirtual 357, 3) := by decide +kernel
theorem px_d295_41 : decode prog_1_method_41_code 41 = .ok (.aload_n 0, 1) := by decide +kernel
theorem px_d295_42 : decode prog_1_method_41_code 42 = .ok (.getfield 82, 3) := by decide +kernel
theorem px_d295_45 : decode prog_1_method_41_code 45 = .ok (.aload_n 0, 1) := by decide +kernel
theorem px_d295_46 : decode prog_1_method_41_code 46 = .ok (.getfield 59, 3) := by decide +kernel
theorem px_d295_49 : decode prog_1_method_41_code 49 = .ok (.getfield 222, 3) := by decide +kernel
theorem px_d295_52 : decode prog_1_method_41_code 52 = .ok (.invokevirtual 357, 3) := by decide +kernel
theorem px_d295_55 : decode prog_1_method_41_code 55 = .ok (.iconst 0, 1) := by decide +kernel
theorem px_d295_56 : decode prog_1_method_41_code 56 = .ok (.istore_n 3, 1) := by decide +kernel
theorem px_d295_57 : decode prog_1_method_41_code 57 = .ok (.iload_n 3, 1) := by decide +kernel
theorem px_d295_58 : decode prog_1_method_41_code 58 = .ok (.aload_n 2, 1) := by decide +kernel
theorem px_d295_59 : decode prog_1_method_41_code 59 = .ok (.getfield 164, 3) := by decide +kernel
theorem px_d295_62 : decode prog_1_method_41_code 62 = .ok (.if_icmp .ge 45, 3) := by decide +kernel
theorem px_d295_65 : decode prog_1_method_41_code 65 = .ok (.aload_n 0, 1) := by decide +kernel
theorem px_d295_66 : decode prog_1_method_41_code 66 = .ok (.getfield 82, 3) := by decide +kernel
theorem px_d295_69 : decode prog_1_method_41_code 69 = .ok (.iload_n 3, 1) := by decide +kernel
theorem px_d295_70 : decode prog_1_method_41_code 70 = .ok (.ifCond .ne 9, 3) := by decide +kernel
theorem px_d295_73 : decode prog_1_method_41_code 73 = .ok (.ldc_w 375, 3) := by decide +kernel
theorem px_d295_76 : decode prog_1_method_41_code 76 = .ok (.goto 6, 3) := by decide +kernel
theorem px_d295_79 : decode prog_1_method_41_code 79 = .ok (.ldc_w 396, 3) := by decide +kernel
theorem px_d295_82 : decode prog_1_method_41_code 82 = .ok (.invokevirtual 379, 3) := by decide +kernel
theorem px_d295_85 : decode prog_1_method_41_code 85 = .ok (.aload_n 0, 1) := by decide +kernel
theorem px_d295_86 : decode prog_1_method_41_code 86 = .ok (.getfield 82, 3) := by decide +kernel
theorem px_d295_89 : decode prog_1_method_41_code 89 = .ok (.aload_n 0, 1) := by decide +kernel
theorem px_d295_90 : decode prog_1_method_41_code 90 = .ok (.getfield 59, 3) := by decide +kernel
theorem px_d295_93 : decode prog_1_method_41_code 93 = .ok (.iload_n 3, 1) := by decide +kernel
theorem px_d295_94 : decode prog_1_method_41_code 94 = .ok (.invokevirtual 225, 3) := by decide +kernel
theorem px_d295_97 : decode prog_1_method_41_code 97 = .ok (.i2l, 1) := by decide +kernel
theorem px_d295_98 : decode prog_1_method_41_code 98 = .ok (.invokevirtual 343, 3) := by decide +kernel
theorem px_d295_101 : decode prog_1_method_41_code 101 = .ok (.iinc 3 1, 3) := by decide +kernel
theorem px_d295_104 : decode prog_1_method_41_code 104 = .ok (.goto (-47), 3) := by decide +kernel
theorem px_d295_107 : decode prog_1_method_41_code 107 = .ok (.aload_n 0, 1) := by decide +kernel
theorem px_d295_108 : decode prog_1_method_41_code 108 = .ok (.getfield 82, 3) := by decide +kernel
theorem px_d295_111 : decode prog_1_method_41_code 111 = .ok (.bipush 10, 2) := by decide +kernel
theorem px_d295_113 : decode prog_1_method_41_code 113 = .ok (.invokevirtual 347, 3) := by decide +kernel
theorem px_d295_116 : decode prog_1_method_41_code 116 = .ok (.return_, 1) := by decide +kernel
theorem px_d310_0 : decode prog_1_method_42_code 0 = .ok (.aload_n 1, 1) := by decide +kernel
theorem px_d310_1 : decode prog_1_method_42_code 1 = .ok (.invokevirtual 398, 3) := by decide +kernel
theorem px_d310_4 : decode prog_1_method_42_code 4 = .ok (.istore_n 2, 1) := by decide +kernel
theorem px_d310_5 : decode prog_1_method_42_code 5 = .ok (.iconst 0, 1) := by decide +kernel
theorem px_d310_6 : decode prog_1_method_42_code 6 = .ok (.istore_n 3, 1) := by decide +kernel
theorem px_d310_7 : decode prog_1_method_42_code 7 = .ok (.iload_n 3, 1) := by decide +kernel
theorem px_d310_8 : decode prog_1_method_42_code 8 = .ok (.aload_n 1, 1) := by decide +kernel
theorem px_d310_9 : decode prog_1_method_42_code 9 = .ok (.getfield 164, 3) := by decide +kernel
theorem px_d310_12 : decode prog_1_method_42_code 12 = .ok (.if_icmp .ge 24, 3) := by decide +kernel
theorem px_d310_15 : decode prog_1_method_42_code 15 = .ok (.iload_n 2, 1) := by decide +kernel
theorem px_d310_16 : decode prog_1_method_42_code 16 = .ok (.iload_n 3, 1) := by decide +kernel
theorem px_d310_17 : decode prog_1_method_42_code 17 = .ok (.ishr, 1) := by decide +kernel
theorem px_d310_18 : decode prog_1_method_42_code 18 = .ok (.iconst 1, 1) := by decide +kernel
theorem px_d310_19 : decode prog_1_method_42_code 19 = .ok (.iand, 1) := by decide +kernel
theorem px_d310_20 : decode prog_1_method_42_code 20 = .ok (.ifCond .eq 10, 3) := by decide +kernel
theorem px_d310_23 : decode prog_1_method_42_code 23 = .ok (.aload_n 0, 1) := by decide +kernel
theorem px_d310_24 : decode prog_1_method_42_code 24 = .ok (.aload_n 1, 1) := by decide +kernel
theorem px_d310_25 : decode prog_1_method_42_code 25 = .ok (.iload_n 2, 1) := by decide +kernel
theorem px_d310_26 : decode prog_1_method_42_code 26 = .ok (.iload_n 3, 1) := by decide +kernel
theorem px_d310_27 : decode prog_1_method_42_code 27 = .ok (.invokevirtual 401, 3) := by decide +kernel
theorem px_d310_30 : decode prog_1_method_42_code 30 = .ok (.iinc 3 1, 3) := by decide +kernel
theorem px_d310_33 : decode prog_1_method_42_code 33 = .ok (.goto (-26), 3) := by decide +kernel
theorem px_d310_36 : decode prog_1_method_42_code 36 = .ok (.return_, 1) := by decide +kernel
theorem px_d312_0 : decode prog_1_method_43_code 0 = .ok (.aload_n 1, 1) := by decide +kernel
theorem px_d312_1 : decode prog_1_method_43_code 1 = .ok (.getfield 404, 3) := by decide +kernel
theorem px_d312_4 : decode prog_1_method_43_code 4 = .ok (.iload_n 3, 1) := by decide +kernel
theorem px_d312_5 : decode prog_1_method_43_code 5 = .ok (.aaload, 1) := by decide +kernel
theorem px_d312_6 : decode prog_1_method_43_code 6 = .ok (.astore 4, 2) := by decide +kernel
theorem px_d312_8 : decode prog_1_method_43_code 8 = .ok (.aload 4, 2) := by decide +kernel
theorem px_d312_10 : decode prog_1_method_43_code 10 = .ok (.ifnonnull 4, 3) := by decide +kernel
theorem px_d312_13 : decode prog_1_method_43_code 13 = .ok (.return_, 1) := by decide +kernel
theorem px_d312_14 : decode prog_1_method_43_code 14 = .ok (.aload_n 1, 1) := by decide +kernel
theorem px_d312_15 : decode prog_1_method_43_code 15 = .ok (.aload 4, 2) := by decide +kernel
theorem px_d312_17 : decode prog_1_method_43_code 17 = .ok (.iload_n 2, 1) := by decide +kernel
theorem px_d312_18 : decode prog_1_method_43_code 18 = .ok (.invokevirtual 408, 3) := by decide +kernel
theorem px_d312_21 : decode prog_1_method_43_code 21 = .ok (.istore 5, 2) := by decide +kernel
theorem px_d312_23 : decode prog_1_method_43_code 23 = .ok (.iconst 1, 1) := by decide +kernel
theorem px_d312_24 : decode prog_1_method_43_code 24 = .ok (.aload_n 1, 1) := by decide +kernel
theorem px_d312_25 : decode prog_1_method_43_code 25 = .ok (.getfield 412, 3) := by decide +kernel
theorem px_d312_28 : decode prog_1_method_43_code 28 = .ok (.iload_n 3, 1) := by decide +kernel
theorem px_d312_29 : decode prog_1_method_43_code 29 = .ok (.iaload, 1) := by decide +kernel
theorem px_d312_30 : decode prog_1_method_43_code 30 = .ok (.ishl, 1) := by decide +kernel
theorem px_d312_31 : decode prog_1_method_43_code 31 = .ok (.istore 6, 2) := by decide +kernel
theorem px_d312_33 : decode prog_1_method_43_code 33 = .ok (.aload_n 0, 1) := by decide +kernel
theorem px_d312_34 : decode prog_1_method_43_code 34 = .ok (.getfield 52, 3) := by decide +kernel
theorem px_d312_37 : decode prog_1_method_43_code 37 = .ok (.aload 4, 2) := by decide +kernel
theorem px_d312_39 : decode prog_1_method_43_code 39 = .ok (.getfield 415, 3) := by decide +kernel
theorem px_d312_42 : decode prog_1_method_43_code 42 = .ok (.invokevirtual 421, 3) := by decide +kernel
theorem px_d312_45 : decode prog_1_method_43_code 45 = .ok (.iconst 0, 1) := by decide +kernel
theorem px_d312_46 : decode prog_1_method_43_code 46 = .ok (.istore 7, 2) := by decide +kernel
theorem px_d312_48 : decode prog_1_method_43_code 48 = .ok (.iload 7, 2) := by decide +kernel
theorem px_d312_50 : decode prog_1_method_43_code 50 = .ok (.aload_n 1, 1) := by decide +kernel
theorem px_d312_51 : decode prog_1_method_43_code 51 = .ok (.getfield 164, 3) := by decide +kernel
theorem px_d312_54 : decode prog_1_method_43_code 54 = .ok (.if_icmp .ge 111, 3) := by decide +kernel
theorem px_d312_57 : decode prog_1_method_43_code 57 = .ok (.aload_n 0, 1) := by decide +kernel
theorem px_d312_58 : decode prog_1_method_43_code 58 = .ok (.getfield 82, 3) := by decide +kernel
theorem px_d312_61 : decode prog_1_method_43_code 61 = .ok (.iload 7, 2) := by decide +kernel
theorem px_d312_63 : decode prog_1_method_43_code 63 = .ok (.ifCond .ne 9, 3) := by decide +kernel
theorem px_d312_66 : decode prog_1_method_43_code 66 = .ok (.ldc_w 375, 3) := by decide +kernel
theorem px_d312_69 : decode prog_1_method_43_code 69 = .ok (.goto 6, 3) := by decide +kernel
theorem px_d312_72 : decode prog_1_method_43_code 72 = .ok (.ldc_w 396, 3) := by decide +kernel
theorem px_d312_75 : decode prog_1_method_43_code 75 = .ok (.invokevirtual 379, 3) := by decide +kernel
theorem px_d312_78 : decode prog_1_method_43_code 78 = .ok (.iload 7, 2) := by decide +kernel
theorem px_d312_80 : decode prog_1_method_43_code 80 = .ok (.iload_n 3, 1) := by decide +kernel
theorem px_d312_81 : decode prog_1_method_43_code 81 = .ok (.if_icmp .ne 15, 3) := by decide +kernel
theorem px_d312_84 : decode prog_1_method_43_code 84 = .ok (.aload_n 0, 1) := by decide +kernel
theorem px_d312_85 : decode prog_1_method_43_code 85 = .ok (.getfield 82, 3) := by decide +kernel
theorem px_d312_88 : decode prog_1_method_43_code 88 = .ok (.bipush 49, 2) := by decide +kernel
theorem px_d312_90 : decode prog_1_method_43_code 90 = .ok (.invokevirtual 347, 3) := by decide +kernel
theorem px_d312_93 : decode prog_1_method_43_code 93 = .ok (.goto 66, 3) := by decide +kernel
theorem px_d312_96 : decode prog_1_method_43_code 96 = .ok (.iload_n 2, 1) := by decide +kernel
theorem px_d312_97 : decode prog_1_method_43_code 97 = .ok (.iload 7, 2) := by decide +kernel
theorem px_d312_99 : decode prog_1_method_43_code 99 = .ok (.ishr, 1) := by decide +kernel
theorem px_d312_100 : decode prog_1_method_43_code 100 = .ok (.iconst 1, 1) := by decide +kernel
theorem px_d312_101 : decode prog_1_method_43_code 101 = .ok (.iand, 1) := by decide +kernel
theorem px_d312_102 : decode prog_1_method_43_code 102 = .ok (.ifCond .ne 15, 3) := by decide +kernel
theorem px_d312_105 : decode prog_1_method_43_code 105 = .ok (.aload_n 1, 1) := by decide +kernel
theorem px_d312_106 : decode prog_1_method_43_code 106 = .ok (.getfield 404, 3) := by decide +kernel
theorem px_d312_109 : decode prog_1_method_43_code 109 = .ok (.iload 7, 2) := by decide +kernel
theorem px_d312_111 : decode prog_1_method_43_code 111 = .ok (.aaload, 1) := by decide +kernel
theorem px_d312_112 : decode prog_1_method_43_code 112 = .ok (.aload 4, 2) := by decide +kernel
theorem px_d312_114 : decode prog_1_method_43_code 114 = .ok (.if_acmp .eq 15, 3) := by decide +kernel
theorem px_d312_117 : decode prog_1_method_43_code 117 = .ok (.aload_n 0, 1) := by decide +kernel
theorem px_d312_118 : decode prog_1_method_43_code 118 = .ok (.getfield 82, 3) := by decide +kernel
theorem px_d312_121 : decode prog_1_method_43_code 121 = .ok (.bipush 48, 2) := by decide +kernel
theorem px_d312_123 : decode prog_1_method_43_code 123 = .ok (.invokevirtual 347, 3) := by decide +kernel
theorem px_d312_126 : decode prog_1_method_43_code 126 = .ok (.goto 33, 3) := by decide +kernel
theorem px_d312_129 : decode prog_1_method_43_code 129 = .ok (.aload_n 0, 1) := by decide +kernel
theorem px_d312_130 : decode prog_1_method_43_code 130 = .ok (.getfield 52, 3) := by decide +kernel
theorem px_d312_133 : decode prog_1_method_43_code 133 = .ok (.aload_n 0, 1) := by decide +kernel
theorem px_d312_134 : decode prog_1_method_43_code 134 = .ok (.getfield 82, 3) := by decide +kernel
theorem px_d312_137 : decode prog_1_method_43_code 137 = .ok (.iload 5, 2) := by decide +kernel
theorem px_d312_139 : decode prog_1_method_43_code 139 = .ok (.iload 6, 2) := by decide +kernel
theorem px_d312_141 : decode prog_1_method_43_code 141 = .ok (.iconst 1, 1) := by decide +kernel
theorem px_d312_142 : decode prog_1_method_43_code 142 = .ok (.aload_n 1, 1) := by decide +kernel
theorem px_d312_143 : decode prog_1_method_43_code 143 = .ok (.getfield 412, 3) := by decide +kernel
theorem px_d312_146 : decode prog_1_method_43_code 146 = .ok (.iload 7, 2) := by decide +kernel
theorem px_d312_148 : decode prog_1_method_43_code 148 = .ok (.iaload, 1) := by decide +kernel
theorem px_d312_149 : decode prog_1_method_43_code 149 = .ok (.ishl, 1) := by decide +kernel
theorem px_d312_150 : decode prog_1_method_43_code 150 = .ok (.ior, 1) := by decide +kernel
theorem px_d312_151 : decode prog_1_method_43_code 151 = .ok (.aload 4, 2) := by decide +kernel
theorem px_d312_153 : decode prog_1_method_43_code 153 = .ok (.getfield 425, 3) := by decide +kernel
theorem px_d312_156 : decode prog_1_method_43_code 156 = .ok (.invokevirtual 428, 3) := by decide +kernel
theorem px_d312_159 : decode prog_1_method_43_code 159 = .ok (.iinc 7 1, 3) := by decide +kernel
theorem px_d312_162 : decode prog_1_method_43_code 162 = .ok (.goto (-114), 3) := by decide +kernel
theorem px_d312_165 : decode prog_1_method_43_code 165 = .ok (.aload_n 0, 1) := by decide +kernel
theorem px_d312_166 : decode prog_1_method_43_code 166 = .ok (.getfield 82, 3) := by decide +kernel
theorem px_d312_169 : decode prog_1_method_43_code 169 = .ok (.bipush 10, 2) := by decide +kernel
theorem px_d312_171 : decode prog_1_method_43_code 171 = .ok (.invokevirtual 347, 3) := by decide +kernel
