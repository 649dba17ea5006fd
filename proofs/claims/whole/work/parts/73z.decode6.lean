theorem px_d260_32 : decode prog_3_method_21_code 32 = .ok (.getfield 17, 3) := by decide +kernel
theorem px_d260_35 : decode prog_3_method_21_code 35 = .ok (.iload 5, 2) := by decide +kernel
theorem px_d260_37 : decode prog_3_method_21_code 37 = .ok (.aaload, 1) := by decide +kernel
theorem px_d260_38 : decode prog_3_method_21_code 38 = .ok (.aload_n 1, 1) := by decide +kernel
theorem px_d260_39 : decode prog_3_method_21_code 39 = .ok (.if_acmp .ne 35, 3) := by decide +kernel
theorem px_d260_42 : decode prog_3_method_21_code 42 = .ok (.iload_n 2, 1) := by decide +kernel
theorem px_d260_43 : decode prog_3_method_21_code 43 = .ok (.iload 5, 2) := by decide +kernel
theorem px_d260_45 : decode prog_3_method_21_code 45 = .ok (.ishr, 1) := by decide +kernel
theorem px_d260_46 : decode prog_3_method_21_code 46 = .ok (.iconst 1, 1) := by decide +kernel
theorem px_d260_47 : decode prog_3_method_21_code 47 = .ok (.iand, 1) := by decide +kernel
theorem px_d260_48 : decode prog_3_method_21_code 48 = .ok (.ifCond .eq 26, 3) := by decide +kernel
theorem px_d260_51 : decode prog_3_method_21_code 51 = .ok (.iload 6, 2) := by decide +kernel
theorem px_d260_53 : decode prog_3_method_21_code 53 = .ok (.aload_n 1, 1) := by decide +kernel
theorem px_d260_54 : decode prog_3_method_21_code 54 = .ok (.getfield 150, 3) := by decide +kernel
theorem px_d260_57 : decode prog_3_method_21_code 57 = .ok (.if_icmp .eq 17, 3) := by decide +kernel
theorem px_d260_60 : decode prog_3_method_21_code 60 = .ok (.iload 4, 2) := by decide +kernel
theorem px_d260_62 : decode prog_3_method_21_code 62 = .ok (.iconst 1, 1) := by decide +kernel
theorem px_d260_63 : decode prog_3_method_21_code 63 = .ok (.aload_n 0, 1) := by decide +kernel
theorem px_d260_64 : decode prog_3_method_21_code 64 = .ok (.getfield 21, 3) := by decide +kernel
theorem px_d260_67 : decode prog_3_method_21_code 67 = .ok (.iload 5, 2) := by decide +kernel
theorem px_d260_69 : decode prog_3_method_21_code 69 = .ok (.iaload, 1) := by decide +kernel
theorem px_d260_70 : decode prog_3_method_21_code 70 = .ok (.ishl, 1) := by decide +kernel
theorem px_d260_71 : decode prog_3_method_21_code 71 = .ok (.ior, 1) := by decide +kernel
theorem px_d260_72 : decode prog_3_method_21_code 72 = .ok (.istore 4, 2) := by decide +kernel
theorem px_d260_74 : decode prog_3_method_21_code 74 = .ok (.iinc 5 1, 3) := by decide +kernel
theorem px_d260_77 : decode prog_3_method_21_code 77 = .ok (.goto (-71), 3) := by decide +kernel
theorem px_d260_80 : decode prog_3_method_21_code 80 = .ok (.iload 4, 2) := by decide +kernel
theorem px_d260_82 : decode prog_3_method_21_code 82 = .ok (.ireturn, 1) := by decide +kernel
theorem px_d261_0 : decode prog_3_method_12_code 0 = .ok (.iload_n 1, 1) := by decide +kernel
theorem px_d261_1 : decode prog_3_method_12_code 1 = .ok (.istore_n 3, 1) := by decide +kernel
theorem px_d261_2 : decode prog_3_method_12_code 2 = .ok (.iconst 0, 1) := by decide +kernel
theorem px_d261_3 : decode prog_3_method_12_code 3 = .ok (.istore 4, 2) := by decide +kernel
theorem px_d261_5 : decode prog_3_method_12_code 5 = .ok (.iload 4, 2) := by decide +kernel
theorem px_d261_7 : decode prog_3_method_12_code 7 = .ok (.aload_n 0, 1) := by decide +kernel
theorem px_d261_8 : decode prog_3_method_12_code 8 = .ok (.getfield 66, 3) := by decide +kernel
theorem px_d261_11 : decode prog_3_method_12_code 11 = .ok (.if_icmp .ge 38, 3) := by decide +kernel
theorem px_d261_14 : decode prog_3_method_12_code 14 = .ok (.iload_n 2, 1) := by decide +kernel
theorem px_d261_15 : decode prog_3_method_12_code 15 = .ok (.iconst 1, 1) := by decide +kernel
theorem px_d261_16 : decode prog_3_method_12_code 16 = .ok (.iload 4, 2) := by decide +kernel
theorem px_d261_18 : decode prog_3_method_12_code 18 = .ok (.ishl, 1) := by decide +kernel
theorem px_d261_19 : decode prog_3_method_12_code 19 = .ok (.iand, 1) := by decide +kernel
theorem px_d261_20 : decode prog_3_method_12_code 20 = .ok (.istore 5, 2) := by decide +kernel
theorem px_d261_22 : decode prog_3_method_12_code 22 = .ok (.aload_n 0, 1) := by decide +kernel
theorem px_d261_23 : decode prog_3_method_12_code 23 = .ok (.iload_n 3, 1) := by decide +kernel
theorem px_d261_24 : decode prog_3_method_12_code 24 = .ok (.iload 5, 2) := by decide +kernel
theorem px_d261_26 : decode prog_3_method_12_code 26 = .ok (.ior, 1) := by decide +kernel
theorem px_d261_27 : decode prog_3_method_12_code 27 = .ok (.invokevirtual 110, 3) := by decide +kernel
theorem px_d261_30 : decode prog_3_method_12_code 30 = .ok (.aload_n 0, 1) := by decide +kernel
theorem px_d261_31 : decode prog_3_method_12_code 31 = .ok (.iload_n 3, 1) := by decide +kernel
theorem px_d261_32 : decode prog_3_method_12_code 32 = .ok (.invokevirtual 110, 3) := by decide +kernel
theorem px_d261_35 : decode prog_3_method_12_code 35 = .ok (.if_icmp .le 8, 3) := by decide +kernel
theorem px_d261_38 : decode prog_3_method_12_code 38 = .ok (.iload_n 3, 1) := by decide +kernel
theorem px_d261_39 : decode prog_3_method_12_code 39 = .ok (.iload 5, 2) := by decide +kernel
theorem px_d261_41 : decode prog_3_method_12_code 41 = .ok (.ior, 1) := by decide +kernel
theorem px_d261_42 : decode prog_3_method_12_code 42 = .ok (.istore_n 3, 1) := by decide +kernel
theorem px_d261_43 : decode prog_3_method_12_code 43 = .ok (.iinc 4 1, 3) := by decide +kernel
theorem px_d261_46 : decode prog_3_method_12_code 46 = .ok (.goto (-41), 3) := by decide +kernel
theorem px_d261_49 : decode prog_3_method_12_code 49 = .ok (.iload_n 3, 1) := by decide +kernel
theorem px_d261_50 : decode prog_3_method_12_code 50 = .ok (.iload_n 2, 1) := by decide +kernel
theorem px_d261_51 : decode prog_3_method_12_code 51 = .ok (.iand, 1) := by decide +kernel
theorem px_d261_52 : decode prog_3_method_12_code 52 = .ok (.ireturn, 1) := by decide +kernel
theorem px_d262_0 : decode prog_3_method_9_code 0 = .ok (.aload_n 0, 1) := by decide +kernel
theorem px_d262_1 : decode prog_3_method_9_code 1 = .ok (.getfield 103, 3) := by decide +kernel
theorem px_d262_4 : decode prog_3_method_9_code 4 = .ok (.ifCond .ne 7, 3) := by decide +kernel
theorem px_d262_7 : decode prog_3_method_9_code 7 = .ok (.aload_n 0, 1) := by decide +kernel
theorem px_d262_8 : decode prog_3_method_9_code 8 = .ok (.invokevirtual 107, 3) := by decide +kernel
theorem px_d262_11 : decode prog_3_method_9_code 11 = .ok (.aload_n 0, 1) := by decide +kernel
theorem px_d262_12 : decode prog_3_method_9_code 12 = .ok (.getfield 40, 3) := by decide +kernel
theorem px_d262_15 : decode prog_3_method_9_code 15 = .ok (.iload_n 1, 1) := by decide +kernel
theorem px_d262_16 : decode prog_3_method_9_code 16 = .ok (.baload, 1) := by decide +kernel
theorem px_d262_17 : decode prog_3_method_9_code 17 = .ok (.ireturn, 1) := by decide +kernel
theorem px_d263_0 : decode prog_3_method_24_code 0 = .ok (.iconst 1, 1) := by decide +kernel
theorem px_d263_1 : decode prog_3_method_24_code 1 = .ok (.aload_n 0, 1) := by decide +kernel
theorem px_d263_2 : decode prog_3_method_24_code 2 = .ok (.getfield 66, 3) := by decide +kernel
theorem px_d263_5 : decode prog_3_method_24_code 5 = .ok (.ishl, 1) := by decide +kernel
theorem px_d263_6 : decode prog_3_method_24_code 6 = .ok (.istore_n 1, 1) := by decide +kernel
theorem px_d263_7 : decode prog_3_method_24_code 7 = .ok (.aload_n 0, 1) := by decide +kernel
theorem px_d263_8 : decode prog_3_method_24_code 8 = .ok (.getfield 40, 3) := by decide +kernel
theorem px_d263_11 : decode prog_3_method_24_code 11 = .ok (.arraylength, 1) := by decide +kernel
theorem px_d263_12 : decode prog_3_method_24_code 12 = .ok (.iload_n 1, 1) := by decide +kernel
theorem px_d263_13 : decode prog_3_method_24_code 13 = .ok (.if_icmp .ge 10, 3) := by decide +kernel
theorem px_d263_16 : decode prog_3_method_24_code 16 = .ok (.aload_n 0, 1) := by decide +kernel
theorem px_d263_17 : decode prog_3_method_24_code 17 = .ok (.iload_n 1, 1) := by decide +kernel
theorem px_d263_18 : decode prog_3_method_24_code 18 = .ok (.newarray .byte, 2) := by decide +kernel
theorem px_d263_20 : decode prog_3_method_24_code 20 = .ok (.putfield 40, 3) := by decide +kernel
theorem px_d263_23 : decode prog_3_method_24_code 23 = .ok (.iconst 0, 1) := by decide +kernel
theorem px_d263_24 : decode prog_3_method_24_code 24 = .ok (.istore_n 2, 1) := by decide +kernel
theorem px_d263_25 : decode prog_3_method_24_code 25 = .ok (.iload_n 2, 1) := by decide +kernel
theorem px_d263_26 : decode prog_3_method_24_code 26 = .ok (.iload_n 1, 1) := by decide +kernel
theorem px_d263_27 : decode prog_3_method_24_code 27 = .ok (.if_icmp .ge 30, 3) := by decide +kernel
theorem px_d263_30 : decode prog_3_method_24_code 30 = .ok (.aload_n 0, 1) := by decide +kernel
theorem px_d263_31 : decode prog_3_method_24_code 31 = .ok (.getfield 40, 3) := by decide +kernel
theorem px_d263_34 : decode prog_3_method_24_code 34 = .ok (.iload_n 2, 1) := by decide +kernel
theorem px_d263_35 : decode prog_3_method_24_code 35 = .ok (.aload_n 0, 1) := by decide +kernel
theorem px_d263_36 : decode prog_3_method_24_code 36 = .ok (.getfield 36, 3) := by decide +kernel
theorem px_d263_39 : decode prog_3_method_24_code 39 = .ok (.iload_n 2, 1) := by decide +kernel
theorem px_d263_40 : decode prog_3_method_24_code 40 = .ok (.baload, 1) := by decide +kernel
theorem px_d263_41 : decode prog_3_method_24_code 41 = .ok (.ifCond .ne 7, 3) := by decide +kernel
theorem px_d263_44 : decode prog_3_method_24_code 44 = .ok (.iconst 0, 1) := by decide +kernel
theorem px_d263_45 : decode prog_3_method_24_code 45 = .ok (.goto 4, 3) := by decide +kernel
theorem px_d263_48 : decode prog_3_method_24_code 48 = .ok (.iconst 1, 1) := by decide +kernel
theorem px_d263_49 : decode prog_3_method_24_code 49 = .ok (.i2b, 1) := by decide +kernel
theorem px_d263_50 : decode prog_3_method_24_code 50 = .ok (.bastore, 1) := by decide +kernel
theorem px_d263_51 : decode prog_3_method_24_code 51 = .ok (.iinc 2 1, 3) := by decide +kernel
theorem px_d263_54 : decode prog_3_method_24_code 54 = .ok (.goto (-29), 3) := by decide +kernel
theorem px_d263_57 : decode prog_3_method_24_code 57 = .ok (.iconst 0, 1) := by decide +kernel
theorem px_d263_58 : decode prog_3_method_24_code 58 = .ok (.istore_n 2, 1) := by decide +kernel
theorem px_d263_59 : decode prog_3_method_24_code 59 = .ok (.iload_n 2, 1) := by decide +kernel
theorem px_d263_60 : decode prog_3_method_24_code 60 = .ok (.aload_n 0, 1) := by decide +kernel
theorem px_d263_61 : decode prog_3_method_24_code 61 = .ok (.getfield 66, 3) := by decide +kernel
theorem px_d263_64 : decode prog_3_method_24_code 64 = .ok (.if_icmp .ge 42, 3) := by decide +kernel
theorem px_d263_67 : decode prog_3_method_24_code 67 = .ok (.iconst 0, 1) := by decide +kernel
theorem px_d263_68 : decode prog_3_method_24_code 68 = .ok (.istore_n 3, 1) := by decide +kernel
theorem px_d263_69 : decode prog_3_method_24_code 69 = .ok (.iload_n 3, 1) := by decide +kernel
theorem px_d263_70 : decode prog_3_method_24_code 70 = .ok (.iload_n 1, 1) := by decide +kernel
theorem px_d263_71 : decode prog_3_method_24_code 71 = .ok (.if_icmp .ge 29, 3) := by decide +kernel
theorem px_d263_74 : decode prog_3_method_24_code 74 = .ok (.aload_n 0, 1) := by decide +kernel
theorem px_d263_75 : decode prog_3_method_24_code 75 = .ok (.getfield 40, 3) := by decide +kernel
theorem px_d263_78 : decode prog_3_method_24_code 78 = .ok (.iload_n 3, 1) := by decide +kernel
theorem px_d263_79 : decode prog_3_method_24_code 79 = .ok (.dup2, 1) := by decide +kernel
theorem px_d263_80 : decode prog_3_method_24_code 80 = .ok (.baload, 1) := by decide +kernel
theorem px_d263_81 : decode prog_3_method_24_code 81 = .ok (.aload_n 0, 1) := by decide +kernel
theorem px_d263_82 : decode prog_3_method_24_code 82 = .ok (.getfield 40, 3) := by decide +kernel
theorem px_d263_85 : decode prog_3_method_24_code 85 = .ok (.iload_n 3, 1) := by decide +kernel
theorem px_d263_86 : decode prog_3_method_24_code 86 = .ok (.iconst 1, 1) := by decide +kernel
theorem px_d263_87 : decode prog_3_method_24_code 87 = .ok (.iload_n 2, 1) := by decide +kernel
theorem px_d263_88 : decode prog_3_method_24_code 88 = .ok (.ishl, 1) := by decide +kernel
theorem px_d263_89 : decode prog_3_method_24_code 89 = .ok (.ior, 1) := by decide +kernel
theorem px_d263_90 : decode prog_3_method_24_code 90 = .ok (.baload, 1) := by decide +kernel
theorem px_d263_91 : decode prog_3_method_24_code 91 = .ok (.ior, 1) := by decide +kernel
theorem px_d263_92 : decode prog_3_method_24_code 92 = .ok (.i2b, 1) := by decide +kernel
theorem px_d263_93 : decode prog_3_method_24_code 93 = .ok (.bastore, 1) := by decide +kernel
theorem px_d263_94 : decode prog_3_method_24_code 94 = .ok (.iinc 3 1, 3) := by decide +kernel
theorem px_d263_97 : decode prog_3_method_24_code 97 = .ok (.goto (-28), 3) := by decide +kernel
theorem px_d263_100 : decode prog_3_method_24_code 100 = .ok (.iinc 2 1, 3) := by decide +kernel
theorem px_d263_103 : decode prog_3_method_24_code 103 = .ok (.goto (-44), 3) := by decide +kernel
theorem px_d263_106 : decode prog_3_method_24_code 106 = .ok (.iconst 0, 1) := by decide +kernel
theorem px_d263_107 : decode prog_3_method_24_code 107 = .ok (.istore_n 2, 1) := by decide +kernel
theorem px_d263_108 : decode prog_3_method_24_code 108 = .ok (.iload_n 2, 1) := by decide +kernel
theorem px_d263_109 : decode prog_3_method_24_code 109 = .ok (.iload_n 1, 1) := by decide +kernel
theorem px_d263_110 : decode prog_3_method_24_code 110 = .ok (.if_icmp .ge 27, 3) := by decide +kernel
theorem px_d263_113 : decode prog_3_method_24_code 113 = .ok (.aload_n 0, 1) := by decide +kernel
theorem px_d263_114 : decode prog_3_method_24_code 114 = .ok (.getfield 40, 3) := by decide +kernel
theorem px_d263_117 : decode prog_3_method_24_code 117 = .ok (.iload_n 2, 1) := by decide +kernel
theorem px_d263_118 : decode prog_3_method_24_code 118 = .ok (.aload_n 0, 1) := by decide +kernel
theorem px_d263_119 : decode prog_3_method_24_code 119 = .ok (.getfield 40, 3) := by decide +kernel
theorem px_d263_122 : decode prog_3_method_24_code 122 = .ok (.iload_n 2, 1) := by decide +kernel
theorem px_d263_123 : decode prog_3_method_24_code 123 = .ok (.baload, 1) := by decide +kernel
theorem px_d263_124 : decode prog_3_method_24_code 124 = .ok (.iload_n 2, 1) := by decide +kernel
theorem px_d263_125 : decode prog_3_method_24_code 125 = .ok (.invokestatic 71, 3) := by decide +kernel
theorem px_d263_128 : decode prog_3_method_24_code 128 = .ok (.imul, 1) := by decide +kernel
theorem px_d263_129 : decode prog_3_method_24_code 129 = .ok (.i2b, 1) := by decide +kernel
theorem px_d263_130 : decode prog_3_method_24_code 130 = .ok (.bastore, 1) := by decide +kernel
theorem px_d263_131 : decode prog_3_method_24_code 131 = .ok (.iinc 2 1, 3) := by decide +kernel
theorem px_d263_134 : decode prog_3_method_24_code 134 = .ok (.goto (-26), 3) := by decide +kernel
theorem px_d263_137 : decode prog_3_method_24_code 137 = .ok (.iconst 0, 1) := by decide +kernel
theorem px_d263_138 : decode prog_3_method_24_code 138 = .ok (.istore_n 2, 1) := by decide +kernel
theorem px_d263_139 : decode prog_3_method_24_code 139 = .ok (.iload_n 2, 1) := by decide +kernel
theorem px_d263_140 : decode prog_3_method_24_code 140 = .ok (.aload_n 0, 1) := by decide +kernel
theorem px_d263_141 : decode prog_3_method_24_code 141 = .ok (.getfield 66, 3) := by decide +kernel
theorem px_d263_144 : decode prog_3_method_24_code 144 = .ok (.if_icmp .ge 50, 3) := by decide +kernel
theorem px_d263_147 : decode prog_3_method_24_code 147 = .ok (.iconst 0, 1) := by decide +kernel
theorem px_d263_148 : decode prog_3_method_24_code 148 = .ok (.istore_n 3, 1) := by decide +kernel
theorem px_d263_149 : decode prog_3_method_24_code 149 = .ok (.iload_n 3, 1) := by decide +kernel
theorem px_d263_150 : decode prog_3_method_24_code 150 = .ok (.iload_n 1, 1) := by decide +kernel
theorem px_d263_151 : decode prog_3_method_24_code 151 = .ok (.if_icmp .ge 37, 3) := by decide +kernel
theorem px_d263_154 : decode prog_3_method_24_code 154 = .ok (.aload_n 0, 1) := by decide +kernel
theorem px_d263_155 : decode prog_3_method_24_code 155 = .ok (.getfield 40, 3) := by decide +kernel
theorem px_d263_158 : decode prog_3_method_24_code 158 = .ok (.iload_n 3, 1) := by decide +kernel
theorem px_d263_159 : decode prog_3_method_24_code 159 = .ok (.aload_n 0, 1) := by decide +kernel
theorem px_d263_160 : decode prog_3_method_24_code 160 = .ok (.getfield 40, 3) := by decide +kernel
theorem px_d263_163 : decode prog_3_method_24_code 163 = .ok (.iload_n 3, 1) := by decide +kernel
theorem px_d263_164 : decode prog_3_method_24_code 164 = .ok (.baload, 1) := by decide +kernel
theorem px_d263_165 : decode prog_3_method_24_code 165 = .ok (.aload_n 0, 1) := by decide +kernel
theorem px_d263_166 : decode prog_3_method_24_code 166 = .ok (.getfield 40, 3) := by decide +kernel
theorem px_d263_169 : decode prog_3_method_24_code 169 = .ok (.iload_n 3, 1) := by decide +kernel
theorem px_d263_170 : decode prog_3_method_24_code 170 = .ok (.iconst 1, 1) := by decide +kernel
theorem px_d263_171 : decode prog_3_method_24_code 171 = .ok (.iload_n 2, 1) := by decide +kernel
theorem px_d263_172 : decode prog_3_method_24_code 172 = .ok (.ishl, 1) := by decide +kernel
theorem px_d263_173 : decode prog_3_method_24_code 173 = .ok (.iconst (-1), 1) := by decide +kernel
theorem px_d263_174 : decode prog_3_method_24_code 174 = .ok (.ixor, 1) := by decide +kernel
theorem px_d263_175 : decode prog_3_method_24_code 175 = .ok (.iand, 1) := by decide +kernel
theorem px_d263_176 : decode prog_3_method_24_code 176 = .ok (.baload, 1) := by decide +kernel
theorem px_d263_177 : decode prog_3_method_24_code 177 = .ok (.invokestatic 173, 3) := by decide +kernel
theorem px_d263_180 : decode prog_3_method_24_code 180 = .ok (.i2b, 1) := by decide +kernel
theorem px_d263_181 : decode prog_3_method_24_code 181 = .ok (.bastore, 1) := by decide +kernel
theorem px_d263_182 : decode prog_3_method_24_code 182 = .ok (.iinc 3 1, 3) := by decide +kernel
theorem px_d263_185 : decode prog_3_method_24_code 185 = .ok (.goto (-36), 3) := by decide +kernel
theorem px_d263_188 : decode prog_3_method_24_code 188 = .ok (.iinc 2 1, 3) := by decide +kernel
theorem px_d263_191 : decode prog_3_method_24_code 191 = .ok (.goto (-52), 3) := by decide +kernel
theorem px_d263_194 : decode prog_3_method_24_code 194 = .ok (.aload_n 0, 1) := by decide +kernel
theorem px_d263_195 : decode prog_3_method_24_code 195 = .ok (.iconst 1, 1) := by decide +kernel
theorem px_d263_196 : decode prog_3_method_24_code 196 = .ok (.putfield 103, 3) := by decide +kernel
theorem px_d263_199 : decode prog_3_method_24_code 199 = .ok (.return_, 1) := by decide +kernel
theorem px_d264_0 : decode prog_3_method_4_code 0 = .ok (.aload_n 1, 1) := by decide +kernel
theorem px_d264_1 : decode prog_3_method_4_code 1 = .ok (.invokevirtual 67, 3) := by decide +kernel
theorem px_d264_4 : decode prog_3_method_4_code 4 = .ok (.iload_n 2, 1) := by decide +kernel
theorem px_d264_5 : decode prog_3_method_4_code 5 = .ok (.iconst (-1), 1) := by decide +kernel
theorem px_d264_6 : decode prog_3_method_4_code 6 = .ok (.ixor, 1) := by decide +kernel
theorem px_d264_7 : decode prog_3_method_4_code 7 = .ok (.iand, 1) := by decide +kernel
theorem px_d264_8 : decode prog_3_method_4_code 8 = .ok (.istore 4, 2) := by decide +kernel
theorem px_d264_10 : decode prog_3_method_4_code 10 = .ok (.aload_n 0, 1) := by decide +kernel
theorem px_d264_11 : decode prog_3_method_4_code 11 = .ok (.aload_n 1, 1) := by decide +kernel
theorem px_d264_12 : decode prog_3_method_4_code 12 = .ok (.getfield 88, 3) := by decide +kernel
theorem px_d264_15 : decode prog_3_method_4_code 15 = .ok (.iload 4, 2) := by decide +kernel
theorem px_d264_17 : decode prog_3_method_4_code 17 = .ok (.invokestatic 71, 3) := by decide +kernel
theorem px_d264_20 : decode prog_3_method_4_code 20 = .ok (.aload_n 1, 1) := by decide +kernel
theorem px_d264_21 : decode prog_3_method_4_code 21 = .ok (.getfield 77, 3) := by decide +kernel
theorem px_d264_24 : decode prog_3_method_4_code 24 = .ok (.iload_n 3, 1) := by decide +kernel
theorem px_d264_25 : decode prog_3_method_4_code 25 = .ok (.invokestatic 71, 3) := by decide +kernel
theorem px_d264_28 : decode prog_3_method_4_code 28 = .ok (.isub, 1) := by decide +kernel
theorem px_d264_29 : decode prog_3_method_4_code 29 = .ok (.invokevirtual 59, 3) := by decide +kernel
theorem px_d264_32 : decode prog_3_method_4_code 32 = .ok (.aload_n 0, 1) := by decide +kernel
theorem px_d264_33 : decode prog_3_method_4_code 33 = .ok (.aload_n 1, 1) := by decide +kernel
theorem px_d264_34 : decode prog_3_method_4_code 34 = .ok (.iconst 0, 1) := by decide +kernel
theorem px_d264_35 : decode prog_3_method_4_code 35 = .ok (.iload_n 2, 1) := by decide +kernel
theorem px_d264_36 : decode prog_3_method_4_code 36 = .ok (.iload_n 3, 1) := by decide +kernel
theorem px_d264_37 : decode prog_3_method_4_code 37 = .ok (.iconst 0, 1) := by decide +kernel
theorem px_d264_38 : decode prog_3_method_4_code 38 = .ok (.invokevirtual 89, 3) := by decide +kernel
theorem px_d264_41 : decode prog_3_method_4_code 41 = .ok (.iconst 0, 1) := by decide +kernel
theorem px_d264_42 : decode prog_3_method_4_code 42 = .ok (.istore 5, 2) := by decide +kernel
theorem px_d264_44 : decode prog_3_method_4_code 44 = .ok (.iconst 0, 1) := by decide +kernel
theorem px_d264_45 : decode prog_3_method_4_code 45 = .ok (.istore 6, 2) := by decide +kernel
theorem px_d264_47 : decode prog_3_method_4_code 47 = .ok (.iload 6, 2) := by decide +kernel
theorem px_d264_49 : decode prog_3_method_4_code 49 = .ok (.aload_n 0, 1) := by decide +kernel
theorem px_d264_50 : decode prog_3_method_4_code 50 = .ok (.invokevirtual 67, 3) := by decide +kernel
theorem px_d264_53 : decode prog_3_method_4_code 53 = .ok (.if_icmp .gt 56, 3) := by decide +kernel
theorem px_d264_56 : decode prog_3_method_4_code 56 = .ok (.aload_n 1, 1) := by decide +kernel
theorem px_d264_57 : decode prog_3_method_4_code 57 = .ok (.getfield 36, 3) := by decide +kernel
theorem px_d264_60 : decode prog_3_method_4_code 60 = .ok (.iload 5, 2) := by decide +kernel
theorem px_d264_62 : decode prog_3_method_4_code 62 = .ok (.iload_n 3, 1) := by decide +kernel
theorem px_d264_63 : decode prog_3_method_4_code 63 = .ok (.ior, 1) := by decide +kernel
theorem px_d264_64 : decode prog_3_method_4_code 64 = .ok (.baload, 1) := by decide +kernel
theorem px_d264_65 : decode prog_3_method_4_code 65 = .ok (.istore 7, 2) := by decide +kernel
theorem px_d264_67 : decode prog_3_method_4_code 67 = .ok (.aload_n 0, 1) := by decide +kernel
theorem px_d264_68 : decode prog_3_method_4_code 68 = .ok (.getfield 36, 3) := by decide +kernel
theorem px_d264_71 : decode prog_3_method_4_code 71 = .ok (.iload 6, 2) := by decide +kernel
theorem px_d264_73 : decode prog_3_method_4_code 73 = .ok (.aload_n 0, 1) := by decide +kernel
theorem px_d264_74 : decode prog_3_method_4_code 74 = .ok (.iload 5, 2) := by decide +kernel
theorem px_d264_76 : decode prog_3_method_4_code 76 = .ok (.iload_n 3, 1) := by decide +kernel
theorem px_d264_77 : decode prog_3_method_4_code 77 = .ok (.invokevirtual 93, 3) := by decide +kernel
theorem px_d264_80 : decode prog_3_method_4_code 80 = .ok (.ifCond .eq 9, 3) := by decide +kernel
theorem px_d264_83 : decode prog_3_method_4_code 83 = .ok (.iload 7, 2) := by decide +kernel
theorem px_d264_85 : decode prog_3_method_4_code 85 = .ok (.ineg, 1) := by decide +kernel
theorem px_d264_86 : decode prog_3_method_4_code 86 = .ok (.goto 5, 3) := by decide +kernel
theorem px_d264_89 : decode prog_3_method_4_code 89 = .ok (.iload 7, 2) := by decide +kernel
theorem px_d264_91 : decode prog_3_method_4_code 91 = .ok (.i2b, 1) := by decide +kernel
theorem px_d264_92 : decode prog_3_method_4_code 92 = .ok (.bastore, 1) := by decide +kernel
theorem px_d264_93 : decode prog_3_method_4_code 93 = .ok (.iload 5, 2) := by decide +kernel
theorem px_d264_95 : decode prog_3_method_4_code 95 = .ok (.iload 4, 2) := by decide +kernel
theorem px_d264_97 : decode prog_3_method_4_code 97 = .ok (.isub, 1) := by decide +kernel
theorem px_d264_98 : decode prog_3_method_4_code 98 = .ok (.iload 4, 2) := by decide +kernel
theorem px_d264_100 : decode prog_3_method_4_code 100 = .ok (.iand, 1) := by decide +kernel
theorem px_d264_101 : decode prog_3_method_4_code 101 = .ok (.istore 5, 2) := by decide +kernel
theorem px_d264_103 : decode prog_3_method_4_code 103 = .ok (.iinc 6 1, 3) := by decide +kernel
theorem px_d264_106 : decode prog_3_method_4_code 106 = .ok (.goto (-59), 3) := by decide +kernel
theorem px_d264_109 : decode prog_3_method_4_code 109 = .ok (.aload_n 0, 1) := by decide +kernel
theorem px_d264_110 : decode prog_3_method_4_code 110 = .ok (.invokevirtual 85, 3) := by decide +kernel
theorem px_d264_113 : decode prog_3_method_4_code 113 = .ok (.return_, 1) := by decide +kernel
theorem px_d265_0 : decode prog_3_method_22_code 0 = .ok (.iconst 0, 1) := by decide +kernel
theorem px_d265_1 : decode prog_3_method_22_code 1 = .ok (.istore_n 3, 1) := by decide +kernel
theorem px_d265_2 : decode prog_3_method_22_code 2 = .ok (.iconst 0, 1) := by decide +kernel
theorem px_d265_3 : decode prog_3_method_22_code 3 = .ok (.istore 4, 2) := by decide +kernel
theorem px_d265_5 : decode prog_3_method_22_code 5 = .ok (.iload 4, 2) := by decide +kernel
theorem px_d265_7 : decode prog_3_method_22_code 7 = .ok (.bipush 12, 2) := by decide +kernel
theorem px_d265_9 : decode prog_3_method_22_code 9 = .ok (.if_icmp .ge 28, 3) := by decide +kernel
theorem px_d265_12 : decode prog_3_method_22_code 12 = .ok (.iload_n 2, 1) := by decide +kernel
theorem px_d265_13 : decode prog_3_method_22_code 13 = .ok (.iload 4, 2) := by decide +kernel
theorem px_d265_15 : decode prog_3_method_22_code 15 = .ok (.ishr, 1) := by decide +kernel
theorem px_d265_16 : decode prog_3_method_22_code 16 = .ok (.iconst 1, 1) := by decide +kernel
theorem px_d265_17 : decode prog_3_method_22_code 17 = .ok (.iand, 1) := by decide +kernel
theorem px_d265_18 : decode prog_3_method_22_code 18 = .ok (.ifCond .eq 13, 3) := by decide +kernel
theorem px_d265_21 : decode prog_3_method_22_code 21 = .ok (.iload_n 3, 1) := by decide +kernel
theorem px_d265_22 : decode prog_3_method_22_code 22 = .ok (.iload_n 1, 1) := by decide +kernel
theorem px_d265_23 : decode prog_3_method_22_code 23 = .ok (.iload 4, 2) := by decide +kernel
theorem px_d265_25 : decode prog_3_method_22_code 25 = .ok (.ishr, 1) := by decide +kernel
theorem px_d265_26 : decode prog_3_method_22_code 26 = .ok (.invokestatic 71, 3) := by decide +kernel
theorem px_d265_29 : decode prog_3_method_22_code 29 = .ok (.iadd, 1) := by decide +kernel
theorem px_d265_30 : decode prog_3_method_22_code 30 = .ok (.istore_n 3, 1) := by decide +kernel
theorem px_d265_31 : decode prog_3_method_22_code 31 = .ok (.iinc 4 1, 3) := by decide +kernel
theorem px_d265_34 : decode prog_3_method_22_code 34 = .ok (.goto (-29), 3) := by decide +kernel
theorem px_d265_37 : decode prog_3_method_22_code 37 = .ok (.iload_n 3, 1) := by decide +kernel
theorem px_d265_38 : decode prog_3_method_22_code 38 = .ok (.iconst 1, 1) := by decide +kernel
theorem px_d265_39 : decode prog_3_method_22_code 39 = .ok (.iand, 1) := by decide +kernel
theorem px_d265_40 : decode prog_3_method_22_code 40 = .ok (.ifCond .eq 7, 3) := by decide +kernel
theorem px_d265_43 : decode prog_3_method_22_code 43 = .ok (.iconst 1, 1) := by decide +kernel
theorem px_d265_44 : decode prog_3_method_22_code 44 = .ok (.goto 4, 3) := by decide +kernel
theorem px_d265_47 : decode prog_3_method_22_code 47 = .ok (.iconst 0, 1) := by decide +kernel
theorem px_d265_48 : decode prog_3_method_22_code 48 = .ok (.ireturn, 1) := by decide +kernel
theorem px_d266_0 : decode prog_3_method_6_code 0 = .ok (.aload_n 0, 1) := by decide +kernel
theorem px_d266_1 : decode prog_3_method_6_code 1 = .ok (.aload_n 1, 1) := by decide +kernel
theorem px_d266_2 : decode prog_3_method_6_code 2 = .ok (.getfield 88, 3) := by decide +kernel
theorem px_d266_5 : decode prog_3_method_6_code 5 = .ok (.aload_n 1, 1) := by decide +kernel
theorem px_d266_6 : decode prog_3_method_6_code 6 = .ok (.getfield 66, 3) := by decide +kernel
theorem px_d266_9 : decode prog_3_method_6_code 9 = .ok (.aload_n 1, 1) := by decide +kernel
theorem px_d266_10 : decode prog_3_method_6_code 10 = .ok (.getfield 77, 3) := by decide +kernel
theorem px_d266_13 : decode prog_3_method_6_code 13 = .ok (.invokevirtual 59, 3) := by decide +kernel
theorem px_d266_16 : decode prog_3_method_6_code 16 = .ok (.aload_n 0, 1) := by decide +kernel
theorem px_d266_17 : decode prog_3_method_6_code 17 = .ok (.aload_n 1, 1) := by decide +kernel
theorem px_d266_18 : decode prog_3_method_6_code 18 = .ok (.iconst 0, 1) := by decide +kernel
theorem px_d266_19 : decode prog_3_method_6_code 19 = .ok (.iconst 0, 1) := by decide +kernel
theorem px_d266_20 : decode prog_3_method_6_code 20 = .ok (.iconst 0, 1) := by decide +kernel
theorem px_d266_21 : decode prog_3_method_6_code 21 = .ok (.iconst 0, 1) := by decide +kernel
theorem px_d266_22 : decode prog_3_method_6_code 22 = .ok (.invokevirtual 89, 3) := by decide +kernel
theorem px_d266_25 : decode prog_3_method_6_code 25 = .ok (.aload_n 1, 1) := by decide +kernel
theorem px_d266_26 : decode prog_3_method_6_code 26 = .ok (.getfield 25, 3) := by decide +kernel
theorem px_d266_29 : decode prog_3_method_6_code 29 = .ok (.iconst 0, 1) := by decide +kernel
theorem px_d266_30 : decode prog_3_method_6_code 30 = .ok (.aload_n 0, 1) := by decide +kernel
theorem px_d266_31 : decode prog_3_method_6_code 31 = .ok (.getfield 25, 3) := by decide +kernel
theorem px_d266_34 : decode prog_3_method_6_code 34 = .ok (.iconst 0, 1) := by decide +kernel
theorem px_d266_35 : decode prog_3_method_6_code 35 = .ok (.aload_n 0, 1) := by decide +kernel
theorem px_d266_36 : decode prog_3_method_6_code 36 = .ok (.getfield 66, 3) := by decide +kernel
theorem px_d266_39 : decode prog_3_method_6_code 39 = .ok (.invokestatic 97, 3) := by decide +kernel
theorem px_d266_42 : decode prog_3_method_6_code 42 = .ok (.aload_n 1, 1) := by decide +kernel
theorem px_d266_43 : decode prog_3_method_6_code 43 = .ok (.getfield 36, 3) := by decide +kernel
theorem px_d266_46 : decode prog_3_method_6_code 46 = .ok (.iconst 0, 1) := by decide +kernel
theorem px_d266_47 : decode prog_3_method_6_code 47 = .ok (.aload_n 0, 1) := by decide +kernel
theorem px_d266_48 : decode prog_3_method_6_code 48 = .ok (.getfield 36, 3) := by decide +kernel
theorem px_d266_51 : decode prog_3_method_6_code 51 = .ok (.iconst 0, 1) := by decide +kernel
theorem px_d266_52 : decode prog_3_method_6_code 52 = .ok (.iconst 1, 1) := by decide +kernel
theorem px_d266_53 : decode prog_3_method_6_code 53 = .ok (.aload_n 0, 1) := by decide +kernel
theorem px_d266_54 : decode prog_3_method_6_code 54 = .ok (.getfield 66, 3) := by decide +kernel
theorem px_d266_57 : decode prog_3_method_6_code 57 = .ok (.ishl, 1) := by decide +kernel
theorem px_d266_58 : decode prog_3_method_6_code 58 = .ok (.invokestatic 97, 3) := by decide +kernel
theorem px_d266_61 : decode prog_3_method_6_code 61 = .ok (.return_, 1) := by decide +kernel
theorem px_d267_0 : decode prog_3_method_5_code 0 = .ok (.aload_n 0, 1) := by decide +kernel
theorem px_d267_1 : decode prog_3_method_5_code 1 = .ok (.aload_n 1, 1) := by decide +kernel
theorem px_d267_2 : decode prog_3_method_5_code 2 = .ok (.getfield 88, 3) := by decide +kernel
theorem px_d267_5 : decode prog_3_method_5_code 5 = .ok (.aload_n 1, 1) := by decide +kernel
theorem px_d267_6 : decode prog_3_method_5_code 6 = .ok (.getfield 66, 3) := by decide +kernel
theorem px_d267_9 : decode prog_3_method_5_code 9 = .ok (.aload_n 2, 1) := by decide +kernel
theorem px_d267_10 : decode prog_3_method_5_code 10 = .ok (.getfield 66, 3) := by decide +kernel
theorem px_d267_13 : decode prog_3_method_5_code 13 = .ok (.iadd, 1) := by decide +kernel
theorem px_d267_14 : decode prog_3_method_5_code 14 = .ok (.aload_n 1, 1) := by decide +kernel
theorem px_d267_15 : decode prog_3_method_5_code 15 = .ok (.getfield 77, 3) := by decide +kernel
theorem px_d267_18 : decode prog_3_method_5_code 18 = .ok (.aload_n 2, 1) := by decide +kernel
theorem px_d267_19 : decode prog_3_method_5_code 19 = .ok (.getfield 77, 3) := by decide +kernel
theorem px_d267_22 : decode prog_3_method_5_code 22 = .ok (.iadd, 1) := by decide +kernel
theorem px_d267_23 : decode prog_3_method_5_code 23 = .ok (.invokevirtual 59, 3) := by decide +kernel
theorem px_d267_26 : decode prog_3_method_5_code 26 = .ok (.aload_n 0, 1) := by decide +kernel
theorem px_d267_27 : decode prog_3_method_5_code 27 = .ok (.aload_n 1, 1) := by decide +kernel
theorem px_d267_28 : decode prog_3_method_5_code 28 = .ok (.iconst 0, 1) := by decide +kernel
theorem px_d267_29 : decode prog_3_method_5_code 29 = .ok (.iconst 0, 1) := by decide +kernel
theorem px_d267_30 : decode prog_3_method_5_code 30 = .ok (.iconst 0, 1) := by decide +kernel
theorem px_d267_31 : decode prog_3_method_5_code 31 = .ok (.iconst 0, 1) := by decide +kernel
theorem px_d267_32 : decode prog_3_method_5_code 32 = .ok (.invokevirtual 89, 3) := by decide +kernel
theorem px_d267_35 : decode prog_3_method_5_code 35 = .ok (.aload_n 0, 1) := by decide +kernel
theorem px_d267_36 : decode prog_3_method_5_code 36 = .ok (.aload_n 2, 1) := by decide +kernel
theorem px_d267_37 : decode prog_3_method_5_code 37 = .ok (.aload_n 1, 1) := by decide +kernel
theorem px_d267_38 : decode prog_3_method_5_code 38 = .ok (.getfield 66, 3) := by decide +kernel
theorem px_d267_41 : decode prog_3_method_5_code 41 = .ok (.iconst 0, 1) := by decide +kernel
theorem px_d267_42 : decode prog_3_method_5_code 42 = .ok (.iconst 0, 1) := by decide +kernel
theorem px_d267_43 : decode prog_3_method_5_code 43 = .ok (.iconst 0, 1) := by decide +kernel
theorem px_d267_44 : decode prog_3_method_5_code 44 = .ok (.invokevirtual 89, 3) := by decide +kernel
theorem px_d267_47 : decode prog_3_method_5_code 47 = .ok (.iconst 0, 1) := by decide +kernel
theorem px_d267_48 : decode prog_3_method_5_code 48 = .ok (.istore_n 3, 1) := by decide +kernel
theorem px_d267_49 : decode prog_3_method_5_code 49 = .ok (.iload_n 3, 1) := by decide +kernel
theorem px_d267_50 : decode prog_3_method_5_code 50 = .ok (.aload_n 0, 1) := by decide +kernel
theorem px_d267_51 : decode prog_3_method_5_code 51 = .ok (.invokevirtual 67, 3) := by decide +kernel
theorem px_d267_54 : decode prog_3_method_5_code 54 = .ok (.if_icmp .gt 39, 3) := by decide +kernel
theorem px_d267_57 : decode prog_3_method_5_code 57 = .ok (.aload_n 0, 1) := by decide +kernel
theorem px_d267_58 : decode prog_3_method_5_code 58 = .ok (.getfield 36, 3) := by decide +kernel
theorem px_d267_61 : decode prog_3_method_5_code 61 = .ok (.iload_n 3, 1) := by decide +kernel
theorem px_d267_62 : decode prog_3_method_5_code 62 = .ok (.aload_n 1, 1) := by decide +kernel
theorem px_d267_63 : decode prog_3_method_5_code 63 = .ok (.getfield 36, 3) := by decide +kernel
theorem px_d267_66 : decode prog_3_method_5_code 66 = .ok (.iload_n 3, 1) := by decide +kernel
theorem px_d267_67 : decode prog_3_method_5_code 67 = .ok (.aload_n 1, 1) := by decide +kernel
theorem px_d267_68 : decode prog_3_method_5_code 68 = .ok (.invokevirtual 67, 3) := by decide +kernel
theorem px_d267_71 : decode prog_3_method_5_code 71 = .ok (.iand, 1) := by decide +kernel
theorem px_d267_72 : decode prog_3_method_5_code 72 = .ok (.baload, 1) := by decide +kernel
theorem px_d267_73 : decode prog_3_method_5_code 73 = .ok (.aload_n 2, 1) := by decide +kernel
theorem px_d267_74 : decode prog_3_method_5_code 74 = .ok (.getfield 36, 3) := by decide +kernel
theorem px_d267_77 : decode prog_3_method_5_code 77 = .ok (.iload_n 3, 1) := by decide +kernel
theorem px_d267_78 : decode prog_3_method_5_code 78 = .ok (.aload_n 1, 1) := by decide +kernel
theorem px_d267_79 : decode prog_3_method_5_code 79 = .ok (.getfield 66, 3) := by decide +kernel
theorem px_d267_82 : decode prog_3_method_5_code 82 = .ok (.ishr, 1) := by decide +kernel
theorem px_d267_83 : decode prog_3_method_5_code 83 = .ok (.baload, 1) := by decide +kernel
theorem px_d267_84 : decode prog_3_method_5_code 84 = .ok (.imul, 1) := by decide +kernel
theorem px_d267_85 : decode prog_3_method_5_code 85 = .ok (.i2b, 1) := by decide +kernel
theorem px_d267_86 : decode prog_3_method_5_code 86 = .ok (.bastore, 1) := by decide +kernel
theorem px_d267_87 : decode prog_3_method_5_code 87 = .ok (.iinc 3 1, 3) := by decide +kernel
theorem px_d267_90 : decode prog_3_method_5_code 90 = .ok (.goto (-41), 3) := by decide +kernel
theorem px_d267_93 : decode prog_3_method_5_code 93 = .ok (.return_, 1) := by decide +kernel
theorem px_d269_0 : decode prog_7_method_5_code 0 = .ok (.lload_n 1, 1) := by decide +kernel
theorem px_d269_1 : decode prog_7_method_5_code 1 = .ok (.lstore_n 3, 1) := by decide +kernel
theorem px_d269_2 : decode prog_7_method_5_code 2 = .ok (.iconst 0, 1) := by decide +kernel
theorem px_d269_3 : decode prog_7_method_5_code 3 = .ok (.istore 5, 2) := by decide +kernel
theorem px_d269_5 : decode prog_7_method_5_code 5 = .ok (.iconst 0, 1) := by decide +kernel
theorem px_d269_6 : decode prog_7_method_5_code 6 = .ok (.istore 6, 2) := by decide +kernel
theorem px_d269_8 : decode prog_7_method_5_code 8 = .ok (.iload 6, 2) := by decide +kernel
theorem px_d269_10 : decode prog_7_method_5_code 10 = .ok (.bipush 48, 2) := by decide +kernel
theorem px_d269_12 : decode prog_7_method_5_code 12 = .ok (.if_icmp .ge 47, 3) := by decide +kernel
theorem px_d269_15 : decode prog_7_method_5_code 15 = .ok (.iload 6, 2) := by decide +kernel
theorem px_d269_17 : decode prog_7_method_5_code 17 = .ok (.ifCond .eq 9, 3) := by decide +kernel
theorem px_d269_20 : decode prog_7_method_5_code 20 = .ok (.lload_n 3, 1) := by decide +kernel
theorem px_d269_21 : decode prog_7_method_5_code 21 = .ok (.lconst 0, 1) := by decide +kernel
theorem px_d269_22 : decode prog_7_method_5_code 22 = .ok (.lcmp, 1) := by decide +kernel
theorem px_d269_23 : decode prog_7_method_5_code 23 = .ok (.ifCond .eq 36, 3) := by decide +kernel
theorem px_d269_26 : decode prog_7_method_5_code 26 = .ok (.aload_n 0, 1) := by decide +kernel
theorem px_d269_27 : decode prog_7_method_5_code 27 = .ok (.getfield 15, 3) := by decide +kernel
theorem px_d269_30 : decode prog_7_method_5_code 30 = .ok (.iload 6, 2) := by decide +kernel
theorem px_d269_32 : decode prog_7_method_5_code 32 = .ok (.ldc2_w 46, 3) := by decide +kernel
theorem px_d269_35 : decode prog_7_method_5_code 35 = .ok (.lload_n 3, 1) := by decide +kernel
theorem px_d269_36 : decode prog_7_method_5_code 36 = .ok (.ldc2_w 48, 3) := by decide +kernel
theorem px_d269_39 : decode prog_7_method_5_code 39 = .ok (.lrem, 1) := by decide +kernel
theorem px_d269_40 : decode prog_7_method_5_code 40 = .ok (.ladd, 1) := by decide +kernel
theorem px_d269_41 : decode prog_7_method_5_code 41 = .ok (.l2i, 1) := by decide +kernel
theorem px_d269_42 : decode prog_7_method_5_code 42 = .ok (.i2b, 1) := by decide +kernel
theorem px_d269_43 : decode prog_7_method_5_code 43 = .ok (.bastore, 1) := by decide +kernel
theorem px_d269_44 : decode prog_7_method_5_code 44 = .ok (.lload_n 3, 1) := by decide +kernel
theorem px_d269_45 : decode prog_7_method_5_code 45 = .ok (.ldc2_w 48, 3) := by decide +kernel
theorem px_d269_48 : decode prog_7_method_5_code 48 = .ok (.ldiv, 1) := by decide +kernel
theorem px_d269_49 : decode prog_7_method_5_code 49 = .ok (.lstore_n 3, 1) := by decide +kernel
theorem px_d269_50 : decode prog_7_method_5_code 50 = .ok (.iinc 5 1, 3) := by decide +kernel
theorem px_d269_53 : decode prog_7_method_5_code 53 = .ok (.iinc 6 1, 3) := by decide +kernel
theorem px_d269_56 : decode prog_7_method_5_code 56 = .ok (.goto (-48), 3) := by decide +kernel
theorem px_d269_59 : decode prog_7_method_5_code 59 = .ok (.iload 5, 2) := by decide +kernel
theorem px_d269_61 : decode prog_7_method_5_code 61 = .ok (.iconst 1, 1) := by decide +kernel
theorem px_d269_62 : decode prog_7_method_5_code 62 = .ok (.isub, 1) := by decide +kernel
theorem px_d269_63 : decode prog_7_method_5_code 63 = .ok (.istore 6, 2) := by decide +kernel
theorem px_d269_65 : decode prog_7_method_5_code 65 = .ok (.iload 6, 2) := by decide +kernel
theorem px_d269_67 : decode prog_7_method_5_code 67 = .ok (.ifCond .lt 20, 3) := by decide +kernel
theorem px_d269_70 : decode prog_7_method_5_code 70 = .ok (.aload_n 0, 1) := by decide +kernel
theorem px_d269_71 : decode prog_7_method_5_code 71 = .ok (.aload_n 0, 1) := by decide +kernel
theorem px_d269_72 : decode prog_7_method_5_code 72 = .ok (.getfield 15, 3) := by decide +kernel
theorem px_d269_75 : decode prog_7_method_5_code 75 = .ok (.iload 6, 2) := by decide +kernel
theorem px_d269_77 : decode prog_7_method_5_code 77 = .ok (.baload, 1) := by decide +kernel
theorem px_d269_78 : decode prog_7_method_5_code 78 = .ok (.invokevirtual 42, 3) := by decide +kernel
theorem px_d269_81 : decode prog_7_method_5_code 81 = .ok (.iinc 6 (-1), 3) := by decide +kernel
theorem px_d269_84 : decode prog_7_method_5_code 84 = .ok (.goto (-19), 3) := by decide +kernel
theorem px_d269_87 : decode prog_7_method_5_code 87 = .ok (.return_, 1) := by decide +kernel
theorem px_d270_0 : decode prog_7_method_3_code 0 = .ok (.aload_n 0, 1) := by decide +kernel
theorem px_d270_1 : decode prog_7_method_3_code 1 = .ok (.getfield 18, 3) := by decide +kernel
theorem px_d270_4 : decode prog_7_method_3_code 4 = .ok (.ldc 26, 2) := by decide +kernel
theorem px_d270_6 : decode prog_7_method_3_code 6 = .ok (.if_icmp .lt 9, 3) := by decide +kernel
theorem px_d270_9 : decode prog_7_method_3_code 9 = .ok (.aload_n 0, 1) := by decide +kernel
theorem px_d270_10 : decode prog_7_method_3_code 10 = .ok (.iconst 1, 1) := by decide +kernel
theorem px_d270_11 : decode prog_7_method_3_code 11 = .ok (.putfield 22, 3) := by decide +kernel
theorem px_d270_14 : decode prog_7_method_3_code 14 = .ok (.return_, 1) := by decide +kernel
theorem px_d270_15 : decode prog_7_method_3_code 15 = .ok (.aload_n 0, 1) := by decide +kernel
theorem px_d270_16 : decode prog_7_method_3_code 16 = .ok (.getfield 18, 3) := by decide +kernel
theorem px_d270_19 : decode prog_7_method_3_code 19 = .ok (.aload_n 0, 1) := by decide +kernel
theorem px_d270_20 : decode prog_7_method_3_code 20 = .ok (.getfield 9, 3) := by decide +kernel
theorem px_d270_23 : decode prog_7_method_3_code 23 = .ok (.arraylength, 1) := by decide +kernel
theorem px_d270_24 : decode prog_7_method_3_code 24 = .ok (.if_icmp .ne 20, 3) := by decide +kernel
theorem px_d270_27 : decode prog_7_method_3_code 27 = .ok (.aload_n 0, 1) := by decide +kernel
theorem px_d270_28 : decode prog_7_method_3_code 28 = .ok (.aload_n 0, 1) := by decide +kernel
theorem px_d270_29 : decode prog_7_method_3_code 29 = .ok (.getfield 9, 3) := by decide +kernel
theorem px_d270_32 : decode prog_7_method_3_code 32 = .ok (.iconst 2, 1) := by decide +kernel
theorem px_d270_33 : decode prog_7_method_3_code 33 = .ok (.aload_n 0, 1) := by decide +kernel
theorem px_d270_34 : decode prog_7_method_3_code 34 = .ok (.getfield 18, 3) := by decide +kernel
theorem px_d270_37 : decode prog_7_method_3_code 37 = .ok (.imul, 1) := by decide +kernel
theorem px_d270_38 : decode prog_7_method_3_code 38 = .ok (.invokestatic 27, 3) := by decide +kernel
theorem px_d270_41 : decode prog_7_method_3_code 41 = .ok (.putfield 9, 3) := by decide +kernel
theorem px_d270_44 : decode prog_7_method_3_code 44 = .ok (.aload_n 0, 1) := by decide +kernel
theorem px_d270_45 : decode prog_7_method_3_code 45 = .ok (.getfield 9, 3) := by decide +kernel
theorem px_d270_48 : decode prog_7_method_3_code 48 = .ok (.aload_n 0, 1) := by decide +kernel
theorem px_d270_49 : decode prog_7_method_3_code 49 = .ok (.getfield 18, 3) := by decide +kernel
theorem px_d270_52 : decode prog_7_method_3_code 52 = .ok (.iload_n 1, 1) := by decide +kernel
theorem px_d270_53 : decode prog_7_method_3_code 53 = .ok (.i2b, 1) := by decide +kernel
theorem px_d270_54 : decode prog_7_method_3_code 54 = .ok (.bastore, 1) := by decide +kernel
theorem px_d270_55 : decode prog_7_method_3_code 55 = .ok (.aload_n 0, 1) := by decide +kernel
theorem px_d270_56 : decode prog_7_method_3_code 56 = .ok (.dup, 1) := by decide +kernel
theorem px_d270_57 : decode prog_7_method_3_code 57 = .ok (.getfield 18, 3) := by decide +kernel
theorem px_d270_60 : decode prog_7_method_3_code 60 = .ok (.iconst 1, 1) := by decide +kernel
theorem px_d270_61 : decode prog_7_method_3_code 61 = .ok (.iadd, 1) := by decide +kernel
theorem px_d270_62 : decode prog_7_method_3_code 62 = .ok (.putfield 18, 3) := by decide +kernel
theorem px_d270_65 : decode prog_7_method_3_code 65 = .ok (.return_, 1) := by decide +kernel
theorem px_d272_0 : decode prog_3_method_10_code 0 = .ok (.aload_n 0, 1) := by decide +kernel
theorem px_d272_1 : decode prog_3_method_10_code 1 = .ok (.getfield 33, 3) := by decide +kernel
theorem px_d272_4 : decode prog_3_method_10_code 4 = .ok (.iload_n 1, 1) := by decide +kernel
theorem px_d272_5 : decode prog_3_method_10_code 5 = .ok (.iaload, 1) := by decide +kernel
theorem px_d272_6 : decode prog_3_method_10_code 6 = .ok (.iconst (-1), 1) := by decide +kernel
theorem px_d272_7 : decode prog_3_method_10_code 7 = .ok (.if_icmp .ne 14, 3) := by decide +kernel
theorem px_d272_10 : decode prog_3_method_10_code 10 = .ok (.aload_n 0, 1) := by decide +kernel
theorem px_d272_11 : decode prog_3_method_10_code 11 = .ok (.iconst 0, 1) := by decide +kernel
theorem px_d272_12 : decode prog_3_method_10_code 12 = .ok (.invokevirtual 110, 3) := by decide +kernel
theorem px_d272_15 : decode prog_3_method_10_code 15 = .ok (.pop, 1) := by decide +kernel
theorem px_d272_16 : decode prog_3_method_10_code 16 = .ok (.aload_n 0, 1) := by decide +kernel
theorem px_d272_17 : decode prog_3_method_10_code 17 = .ok (.iload_n 1, 1) := by decide +kernel
theorem px_d272_18 : decode prog_3_method_10_code 18 = .ok (.invokevirtual 113, 3) := by decide +kernel
theorem px_d272_21 : decode prog_3_method_10_code 21 = .ok (.aload_n 0, 1) := by decide +kernel
theorem px_d272_22 : decode prog_3_method_10_code 22 = .ok (.getfield 33, 3) := by decide +kernel
theorem px_d272_25 : decode prog_3_method_10_code 25 = .ok (.iload_n 1, 1) := by decide +kernel
theorem px_d272_26 : decode prog_3_method_10_code 26 = .ok (.iaload, 1) := by decide +kernel
theorem px_d272_27 : decode prog_3_method_10_code 27 = .ok (.ireturn, 1) := by decide +kernel
theorem px_d273_0 : decode prog_3_method_25_code 0 = .ok (.iconst 1, 1) := by decide +kernel
theorem px_d273_1 : decode prog_3_method_25_code 1 = .ok (.aload_n 0, 1) := by decide +kernel
theorem px_d273_2 : decode prog_3_method_25_code 2 = .ok (.getfield 66, 3) := by decide +kernel
theorem px_d273_5 : decode prog_3_method_25_code 5 = .ok (.ishl, 1) := by decide +kernel
theorem px_d273_6 : decode prog_3_method_25_code 6 = .ok (.istore_n 2, 1) := by decide +kernel
theorem px_d273_7 : decode prog_3_method_25_code 7 = .ok (.iconst 0, 1) := by decide +kernel
theorem px_d273_8 : decode prog_3_method_25_code 8 = .ok (.istore_n 3, 1) := by decide +kernel
theorem px_d273_9 : decode prog_3_method_25_code 9 = .ok (.iconst 0, 1) := by decide +kernel
theorem px_d273_10 : decode prog_3_method_25_code 10 = .ok (.istore 4, 2) := by decide +kernel
theorem px_d273_12 : decode prog_3_method_25_code 12 = .ok (.iload 4, 2) := by decide +kernel
theorem px_d273_14 : decode prog_3_method_25_code 14 = .ok (.iload_n 2, 1) := by decide +kernel
theorem px_d273_15 : decode prog_3_method_25_code 15 = .ok (.if_icmp .ge 76, 3) := by decide +kernel
theorem px_d273_18 : decode prog_3_method_25_code 18 = .ok (.aload_n 0, 1) := by decide +kernel
theorem px_d273_19 : decode prog_3_method_25_code 19 = .ok (.getfield 9, 3) := by decide +kernel
