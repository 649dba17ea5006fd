theorem px_d238_57 : decode prog_4_method_8_code 57 = .ok (.if_icmp .ge 51, 3) := by decide +kernel
theorem px_d238_60 : decode prog_4_method_8_code 60 = .ok (.aload_n 0, 1) := by decide +kernel
theorem px_d238_61 : decode prog_4_method_8_code 61 = .ok (.getfield 7, 3) := by decide +kernel
theorem px_d238_64 : decode prog_4_method_8_code 64 = .ok (.aload_n 0, 1) := by decide +kernel
theorem px_d238_65 : decode prog_4_method_8_code 65 = .ok (.getfield 144, 3) := by decide +kernel
theorem px_d238_68 : decode prog_4_method_8_code 68 = .ok (.iload 5, 2) := by decide +kernel
theorem px_d238_70 : decode prog_4_method_8_code 70 = .ok (.invokevirtual 154, 3) := by decide +kernel
theorem px_d238_73 : decode prog_4_method_8_code 73 = .ok (.istore 6, 2) := by decide +kernel
theorem px_d238_75 : decode prog_4_method_8_code 75 = .ok (.aload_n 0, 1) := by decide +kernel
theorem px_d238_76 : decode prog_4_method_8_code 76 = .ok (.iload 6, 2) := by decide +kernel
theorem px_d238_78 : decode prog_4_method_8_code 78 = .ok (.aload_n 1, 1) := by decide +kernel
theorem px_d238_79 : decode prog_4_method_8_code 79 = .ok (.iload_n 2, 1) := by decide +kernel
theorem px_d238_80 : decode prog_4_method_8_code 80 = .ok (.invokevirtual 157, 3) := by decide +kernel
theorem px_d238_83 : decode prog_4_method_8_code 83 = .ok (.iload_n 3, 1) := by decide +kernel
theorem px_d238_84 : decode prog_4_method_8_code 84 = .ok (.ifCond .ne 12, 3) := by decide +kernel
theorem px_d238_87 : decode prog_4_method_8_code 87 = .ok (.aload_n 0, 1) := by decide +kernel
theorem px_d238_88 : decode prog_4_method_8_code 88 = .ok (.iload 6, 2) := by decide +kernel
theorem px_d238_90 : decode prog_4_method_8_code 90 = .ok (.invokevirtual 161, 3) := by decide +kernel
theorem px_d238_93 : decode prog_4_method_8_code 93 = .ok (.ifCond .eq 7, 3) := by decide +kernel
theorem px_d238_96 : decode prog_4_method_8_code 96 = .ok (.iconst 1, 1) := by decide +kernel
theorem px_d238_97 : decode prog_4_method_8_code 97 = .ok (.goto 4, 3) := by decide +kernel
theorem px_d238_100 : decode prog_4_method_8_code 100 = .ok (.iconst 0, 1) := by decide +kernel
theorem px_d238_101 : decode prog_4_method_8_code 101 = .ok (.istore_n 3, 1) := by decide +kernel
theorem px_d238_102 : decode prog_4_method_8_code 102 = .ok (.iinc 5 1, 3) := by decide +kernel
theorem px_d238_105 : decode prog_4_method_8_code 105 = .ok (.goto (-52), 3) := by decide +kernel
theorem px_d238_108 : decode prog_4_method_8_code 108 = .ok (.aload_n 0, 1) := by decide +kernel
theorem px_d238_109 : decode prog_4_method_8_code 109 = .ok (.dup, 1) := by decide +kernel
theorem px_d238_110 : decode prog_4_method_8_code 110 = .ok (.getfield 53, 3) := by decide +kernel
theorem px_d238_113 : decode prog_4_method_8_code 113 = .ok (.iload_n 3, 1) := by decide +kernel
theorem px_d238_114 : decode prog_4_method_8_code 114 = .ok (.ifCond .eq 7, 3) := by decide +kernel
theorem px_d238_117 : decode prog_4_method_8_code 117 = .ok (.iconst 1, 1) := by decide +kernel
theorem px_d238_118 : decode prog_4_method_8_code 118 = .ok (.goto 4, 3) := by decide +kernel
theorem px_d238_121 : decode prog_4_method_8_code 121 = .ok (.iconst 0, 1) := by decide +kernel
theorem px_d238_122 : decode prog_4_method_8_code 122 = .ok (.iadd, 1) := by decide +kernel
theorem px_d238_123 : decode prog_4_method_8_code 123 = .ok (.putfield 53, 3) := by decide +kernel
theorem px_d238_126 : decode prog_4_method_8_code 126 = .ok (.iload_n 3, 1) := by decide +kernel
theorem px_d238_127 : decode prog_4_method_8_code 127 = .ok (.ireturn, 1) := by decide +kernel
theorem px_d239_0 : decode prog_5_method_4_code 0 = .ok (.aload_n 0, 1) := by decide +kernel
theorem px_d239_1 : decode prog_5_method_4_code 1 = .ok (.getfield 15, 3) := by decide +kernel
theorem px_d239_4 : decode prog_5_method_4_code 4 = .ok (.iload_n 1, 1) := by decide +kernel
theorem px_d239_5 : decode prog_5_method_4_code 5 = .ok (.bipush 14, 2) := by decide +kernel
theorem px_d239_7 : decode prog_5_method_4_code 7 = .ok (.imul, 1) := by decide +kernel
theorem px_d239_8 : decode prog_5_method_4_code 8 = .ok (.iload_n 2, 1) := by decide +kernel
theorem px_d239_9 : decode prog_5_method_4_code 9 = .ok (.iadd, 1) := by decide +kernel
theorem px_d239_10 : decode prog_5_method_4_code 10 = .ok (.iaload, 1) := by decide +kernel
theorem px_d239_11 : decode prog_5_method_4_code 11 = .ok (.ireturn, 1) := by decide +kernel
theorem px_d240_0 : decode prog_5_method_3_code 0 = .ok (.aload_n 0, 1) := by decide +kernel
theorem px_d240_1 : decode prog_5_method_3_code 1 = .ok (.getfield 9, 3) := by decide +kernel
theorem px_d240_4 : decode prog_5_method_3_code 4 = .ok (.iconst 1, 1) := by decide +kernel
theorem px_d240_5 : decode prog_5_method_3_code 5 = .ok (.iload_n 1, 1) := by decide +kernel
theorem px_d240_6 : decode prog_5_method_3_code 6 = .ok (.ishl, 1) := by decide +kernel
theorem px_d240_7 : decode prog_5_method_3_code 7 = .ok (.iload_n 2, 1) := by decide +kernel
theorem px_d240_8 : decode prog_5_method_3_code 8 = .ok (.iadd, 1) := by decide +kernel
theorem px_d240_9 : decode prog_5_method_3_code 9 = .ok (.iaload, 1) := by decide +kernel
theorem px_d240_10 : decode prog_5_method_3_code 10 = .ok (.ireturn, 1) := by decide +kernel
theorem px_d241_0 : decode prog_4_method_9_code 0 = .ok (.lconst 0, 1) := by decide +kernel
theorem px_d241_1 : decode prog_4_method_9_code 1 = .ok (.lstore 4, 2) := by decide +kernel
theorem px_d241_3 : decode prog_4_method_9_code 3 = .ok (.lconst 0, 1) := by decide +kernel
theorem px_d241_4 : decode prog_4_method_9_code 4 = .ok (.lstore 6, 2) := by decide +kernel
theorem px_d241_6 : decode prog_4_method_9_code 6 = .ok (.lconst 0, 1) := by decide +kernel
theorem px_d241_7 : decode prog_4_method_9_code 7 = .ok (.lstore 8, 2) := by decide +kernel
theorem px_d241_9 : decode prog_4_method_9_code 9 = .ok (.iconst 1, 1) := by decide +kernel
theorem px_d241_10 : decode prog_4_method_9_code 10 = .ok (.istore 10, 2) := by decide +kernel
theorem px_d241_12 : decode prog_4_method_9_code 12 = .ok (.aload_n 0, 1) := by decide +kernel
theorem px_d241_13 : decode prog_4_method_9_code 13 = .ok (.getfield 144, 3) := by decide +kernel
theorem px_d241_16 : decode prog_4_method_9_code 16 = .ok (.iconst 1, 1) := by decide +kernel
theorem px_d241_17 : decode prog_4_method_9_code 17 = .ok (.isub, 1) := by decide +kernel
theorem px_d241_18 : decode prog_4_method_9_code 18 = .ok (.istore 11, 2) := by decide +kernel
theorem px_d241_20 : decode prog_4_method_9_code 20 = .ok (.iload 11, 2) := by decide +kernel
theorem px_d241_22 : decode prog_4_method_9_code 22 = .ok (.ifCond .lt 88, 3) := by decide +kernel
theorem px_d241_25 : decode prog_4_method_9_code 25 = .ok (.iload_n 1, 1) := by decide +kernel
theorem px_d241_26 : decode prog_4_method_9_code 26 = .ok (.iload 11, 2) := by decide +kernel
theorem px_d241_28 : decode prog_4_method_9_code 28 = .ok (.ishr, 1) := by decide +kernel
theorem px_d241_29 : decode prog_4_method_9_code 29 = .ok (.iconst 1, 1) := by decide +kernel
theorem px_d241_30 : decode prog_4_method_9_code 30 = .ok (.iand, 1) := by decide +kernel
theorem px_d241_31 : decode prog_4_method_9_code 31 = .ok (.ifCond .eq 73, 3) := by decide +kernel
theorem px_d241_34 : decode prog_4_method_9_code 34 = .ok (.iload 10, 2) := by decide +kernel
theorem px_d241_36 : decode prog_4_method_9_code 36 = .ok (.aload_n 2, 1) := by decide +kernel
theorem px_d241_37 : decode prog_4_method_9_code 37 = .ok (.iload_n 3, 1) := by decide +kernel
theorem px_d241_38 : decode prog_4_method_9_code 38 = .ok (.iload 11, 2) := by decide +kernel
theorem px_d241_40 : decode prog_4_method_9_code 40 = .ok (.iadd, 1) := by decide +kernel
theorem px_d241_41 : decode prog_4_method_9_code 41 = .ok (.iaload, 1) := by decide +kernel
theorem px_d241_42 : decode prog_4_method_9_code 42 = .ok (.imul, 1) := by decide +kernel
theorem px_d241_43 : decode prog_4_method_9_code 43 = .ok (.i2l, 1) := by decide +kernel
theorem px_d241_44 : decode prog_4_method_9_code 44 = .ok (.lstore 12, 2) := by decide +kernel
theorem px_d241_46 : decode prog_4_method_9_code 46 = .ok (.iload_n 1, 1) := by decide +kernel
theorem px_d241_47 : decode prog_4_method_9_code 47 = .ok (.iconst 1, 1) := by decide +kernel
theorem px_d241_48 : decode prog_4_method_9_code 48 = .ok (.iload 11, 2) := by decide +kernel
theorem px_d241_50 : decode prog_4_method_9_code 50 = .ok (.ishl, 1) := by decide +kernel
theorem px_d241_51 : decode prog_4_method_9_code 51 = .ok (.ixor, 1) := by decide +kernel
theorem px_d241_52 : decode prog_4_method_9_code 52 = .ok (.istore 14, 2) := by decide +kernel
theorem px_d241_54 : decode prog_4_method_9_code 54 = .ok (.lload 4, 2) := by decide +kernel
theorem px_d241_56 : decode prog_4_method_9_code 56 = .ok (.lload 12, 2) := by decide +kernel
theorem px_d241_58 : decode prog_4_method_9_code 58 = .ok (.aload_n 0, 1) := by decide +kernel
theorem px_d241_59 : decode prog_4_method_9_code 59 = .ok (.getfield 29, 3) := by decide +kernel
theorem px_d241_62 : decode prog_4_method_9_code 62 = .ok (.iload 14, 2) := by decide +kernel
theorem px_d241_64 : decode prog_4_method_9_code 64 = .ok (.laload, 1) := by decide +kernel
theorem px_d241_65 : decode prog_4_method_9_code 65 = .ok (.lmul, 1) := by decide +kernel
theorem px_d241_66 : decode prog_4_method_9_code 66 = .ok (.ladd, 1) := by decide +kernel
theorem px_d241_67 : decode prog_4_method_9_code 67 = .ok (.lstore 4, 2) := by decide +kernel
theorem px_d241_69 : decode prog_4_method_9_code 69 = .ok (.lload 6, 2) := by decide +kernel
theorem px_d241_71 : decode prog_4_method_9_code 71 = .ok (.lload 12, 2) := by decide +kernel
theorem px_d241_73 : decode prog_4_method_9_code 73 = .ok (.aload_n 0, 1) := by decide +kernel
theorem px_d241_74 : decode prog_4_method_9_code 74 = .ok (.getfield 33, 3) := by decide +kernel
theorem px_d241_77 : decode prog_4_method_9_code 77 = .ok (.iload 14, 2) := by decide +kernel
theorem px_d241_79 : decode prog_4_method_9_code 79 = .ok (.laload, 1) := by decide +kernel
theorem px_d241_80 : decode prog_4_method_9_code 80 = .ok (.lmul, 1) := by decide +kernel
theorem px_d241_81 : decode prog_4_method_9_code 81 = .ok (.ladd, 1) := by decide +kernel
theorem px_d241_82 : decode prog_4_method_9_code 82 = .ok (.lstore 6, 2) := by decide +kernel
theorem px_d241_84 : decode prog_4_method_9_code 84 = .ok (.lload 8, 2) := by decide +kernel
theorem px_d241_86 : decode prog_4_method_9_code 86 = .ok (.lload 12, 2) := by decide +kernel
theorem px_d241_88 : decode prog_4_method_9_code 88 = .ok (.aload_n 0, 1) := by decide +kernel
theorem px_d241_89 : decode prog_4_method_9_code 89 = .ok (.getfield 36, 3) := by decide +kernel
theorem px_d241_92 : decode prog_4_method_9_code 92 = .ok (.iload 14, 2) := by decide +kernel
theorem px_d241_94 : decode prog_4_method_9_code 94 = .ok (.laload, 1) := by decide +kernel
theorem px_d241_95 : decode prog_4_method_9_code 95 = .ok (.lmul, 1) := by decide +kernel
theorem px_d241_96 : decode prog_4_method_9_code 96 = .ok (.ladd, 1) := by decide +kernel
theorem px_d241_97 : decode prog_4_method_9_code 97 = .ok (.lstore 8, 2) := by decide +kernel
theorem px_d241_99 : decode prog_4_method_9_code 99 = .ok (.iload 10, 2) := by decide +kernel
theorem px_d241_101 : decode prog_4_method_9_code 101 = .ok (.ineg, 1) := by decide +kernel
theorem px_d241_102 : decode prog_4_method_9_code 102 = .ok (.istore 10, 2) := by decide +kernel
theorem px_d241_104 : decode prog_4_method_9_code 104 = .ok (.iinc 11 (-1), 3) := by decide +kernel
theorem px_d241_107 : decode prog_4_method_9_code 107 = .ok (.goto (-87), 3) := by decide +kernel
theorem px_d241_110 : decode prog_4_method_9_code 110 = .ok (.aload_n 0, 1) := by decide +kernel
theorem px_d241_111 : decode prog_4_method_9_code 111 = .ok (.getfield 89, 3) := by decide +kernel
theorem px_d241_114 : decode prog_4_method_9_code 114 = .ok (.ifCond .eq 20, 3) := by decide +kernel
theorem px_d241_117 : decode prog_4_method_9_code 117 = .ok (.aload_n 0, 1) := by decide +kernel
theorem px_d241_118 : decode prog_4_method_9_code 118 = .ok (.getfield 29, 3) := by decide +kernel
theorem px_d241_121 : decode prog_4_method_9_code 121 = .ok (.iload_n 1, 1) := by decide +kernel
theorem px_d241_122 : decode prog_4_method_9_code 122 = .ok (.lload 4, 2) := by decide +kernel
theorem px_d241_124 : decode prog_4_method_9_code 124 = .ok (.aload_n 0, 1) := by decide +kernel
theorem px_d241_125 : decode prog_4_method_9_code 125 = .ok (.getfield 89, 3) := by decide +kernel
theorem px_d241_128 : decode prog_4_method_9_code 128 = .ok (.i2l, 1) := by decide +kernel
theorem px_d241_129 : decode prog_4_method_9_code 129 = .ok (.invokestatic 94, 3) := by decide +kernel
theorem px_d241_132 : decode prog_4_method_9_code 132 = .ok (.lastore, 1) := by decide +kernel
theorem px_d241_133 : decode prog_4_method_9_code 133 = .ok (.return_, 1) := by decide +kernel
theorem px_d241_134 : decode prog_4_method_9_code 134 = .ok (.lload 6, 2) := by decide +kernel
theorem px_d241_136 : decode prog_4_method_9_code 136 = .ok (.lload 4, 2) := by decide +kernel
theorem px_d241_138 : decode prog_4_method_9_code 138 = .ok (.bipush 48, 2) := by decide +kernel
theorem px_d241_140 : decode prog_4_method_9_code 140 = .ok (.lshr, 1) := by decide +kernel
theorem px_d241_141 : decode prog_4_method_9_code 141 = .ok (.ladd, 1) := by decide +kernel
theorem px_d241_142 : decode prog_4_method_9_code 142 = .ok (.lstore 6, 2) := by decide +kernel
theorem px_d241_144 : decode prog_4_method_9_code 144 = .ok (.aload_n 0, 1) := by decide +kernel
theorem px_d241_145 : decode prog_4_method_9_code 145 = .ok (.getfield 29, 3) := by decide +kernel
theorem px_d241_148 : decode prog_4_method_9_code 148 = .ok (.iload_n 1, 1) := by decide +kernel
theorem px_d241_149 : decode prog_4_method_9_code 149 = .ok (.lload 4, 2) := by decide +kernel
theorem px_d241_151 : decode prog_4_method_9_code 151 = .ok (.ldc2_w 165, 3) := by decide +kernel
theorem px_d241_154 : decode prog_4_method_9_code 154 = .ok (.land, 1) := by decide +kernel
theorem px_d241_155 : decode prog_4_method_9_code 155 = .ok (.lastore, 1) := by decide +kernel
theorem px_d241_156 : decode prog_4_method_9_code 156 = .ok (.aload_n 0, 1) := by decide +kernel
theorem px_d241_157 : decode prog_4_method_9_code 157 = .ok (.getfield 33, 3) := by decide +kernel
theorem px_d241_160 : decode prog_4_method_9_code 160 = .ok (.iload_n 1, 1) := by decide +kernel
theorem px_d241_161 : decode prog_4_method_9_code 161 = .ok (.lload 6, 2) := by decide +kernel
theorem px_d241_163 : decode prog_4_method_9_code 163 = .ok (.ldc2_w 165, 3) := by decide +kernel
theorem px_d241_166 : decode prog_4_method_9_code 166 = .ok (.land, 1) := by decide +kernel
theorem px_d241_167 : decode prog_4_method_9_code 167 = .ok (.lastore, 1) := by decide +kernel
theorem px_d241_168 : decode prog_4_method_9_code 168 = .ok (.aload_n 0, 1) := by decide +kernel
theorem px_d241_169 : decode prog_4_method_9_code 169 = .ok (.getfield 36, 3) := by decide +kernel
theorem px_d241_172 : decode prog_4_method_9_code 172 = .ok (.iload_n 1, 1) := by decide +kernel
theorem px_d241_173 : decode prog_4_method_9_code 173 = .ok (.lload 8, 2) := by decide +kernel
theorem px_d241_175 : decode prog_4_method_9_code 175 = .ok (.lload 6, 2) := by decide +kernel
theorem px_d241_177 : decode prog_4_method_9_code 177 = .ok (.bipush 48, 2) := by decide +kernel
theorem px_d241_179 : decode prog_4_method_9_code 179 = .ok (.lshr, 1) := by decide +kernel
theorem px_d241_180 : decode prog_4_method_9_code 180 = .ok (.ladd, 1) := by decide +kernel
theorem px_d241_181 : decode prog_4_method_9_code 181 = .ok (.lastore, 1) := by decide +kernel
theorem px_d241_182 : decode prog_4_method_9_code 182 = .ok (.return_, 1) := by decide +kernel
theorem px_d242_0 : decode prog_25_method_52_code 0 = .ok (.lload_n 0, 1) := by decide +kernel
theorem px_d242_1 : decode prog_25_method_52_code 1 = .ok (.lload_n 2, 1) := by decide +kernel
theorem px_d242_2 : decode prog_25_method_52_code 2 = .ok (.lrem, 1) := by decide +kernel
theorem px_d242_3 : decode prog_25_method_52_code 3 = .ok (.lstore 4, 2) := by decide +kernel
theorem px_d242_5 : decode prog_25_method_52_code 5 = .ok (.lload_n 0, 1) := by decide +kernel
theorem px_d242_6 : decode prog_25_method_52_code 6 = .ok (.lload_n 2, 1) := by decide +kernel
theorem px_d242_7 : decode prog_25_method_52_code 7 = .ok (.lxor, 1) := by decide +kernel
theorem px_d242_8 : decode prog_25_method_52_code 8 = .ok (.lconst 0, 1) := by decide +kernel
theorem px_d242_9 : decode prog_25_method_52_code 9 = .ok (.lcmp, 1) := by decide +kernel
theorem px_d242_10 : decode prog_25_method_52_code 10 = .ok (.ifCond .ge 15, 3) := by decide +kernel
theorem px_d242_13 : decode prog_25_method_52_code 13 = .ok (.lload 4, 2) := by decide +kernel
theorem px_d242_15 : decode prog_25_method_52_code 15 = .ok (.lconst 0, 1) := by decide +kernel
theorem px_d242_16 : decode prog_25_method_52_code 16 = .ok (.lcmp, 1) := by decide +kernel
theorem px_d242_17 : decode prog_25_method_52_code 17 = .ok (.ifCond .eq 8, 3) := by decide +kernel
theorem px_d242_20 : decode prog_25_method_52_code 20 = .ok (.lload 4, 2) := by decide +kernel
theorem px_d242_22 : decode prog_25_method_52_code 22 = .ok (.lload_n 2, 1) := by decide +kernel
theorem px_d242_23 : decode prog_25_method_52_code 23 = .ok (.ladd, 1) := by decide +kernel
theorem px_d242_24 : decode prog_25_method_52_code 24 = .ok (.lreturn, 1) := by decide +kernel
theorem px_d242_25 : decode prog_25_method_52_code 25 = .ok (.lload 4, 2) := by decide +kernel
theorem px_d242_27 : decode prog_25_method_52_code 27 = .ok (.lreturn, 1) := by decide +kernel
theorem px_d243_0 : decode prog_4_method_4_code 0 = .ok (.aload_n 0, 1) := by decide +kernel
theorem px_d243_1 : decode prog_4_method_4_code 1 = .ok (.getfield 36, 3) := by decide +kernel
theorem px_d243_4 : decode prog_4_method_4_code 4 = .ok (.iload_n 1, 1) := by decide +kernel
theorem px_d243_5 : decode prog_4_method_4_code 5 = .ok (.laload, 1) := by decide +kernel
theorem px_d243_6 : decode prog_4_method_4_code 6 = .ok (.lconst 0, 1) := by decide +kernel
theorem px_d243_7 : decode prog_4_method_4_code 7 = .ok (.lcmp, 1) := by decide +kernel
theorem px_d243_8 : decode prog_4_method_4_code 8 = .ok (.ifCond .ge 5, 3) := by decide +kernel
theorem px_d243_11 : decode prog_4_method_4_code 11 = .ok (.iconst (-1), 1) := by decide +kernel
theorem px_d243_12 : decode prog_4_method_4_code 12 = .ok (.ireturn, 1) := by decide +kernel
theorem px_d243_13 : decode prog_4_method_4_code 13 = .ok (.aload_n 0, 1) := by decide +kernel
theorem px_d243_14 : decode prog_4_method_4_code 14 = .ok (.getfield 29, 3) := by decide +kernel
theorem px_d243_17 : decode prog_4_method_4_code 17 = .ok (.iload_n 1, 1) := by decide +kernel
theorem px_d243_18 : decode prog_4_method_4_code 18 = .ok (.laload, 1) := by decide +kernel
theorem px_d243_19 : decode prog_4_method_4_code 19 = .ok (.aload_n 0, 1) := by decide +kernel
theorem px_d243_20 : decode prog_4_method_4_code 20 = .ok (.getfield 33, 3) := by decide +kernel
theorem px_d243_23 : decode prog_4_method_4_code 23 = .ok (.iload_n 1, 1) := by decide +kernel
theorem px_d243_24 : decode prog_4_method_4_code 24 = .ok (.laload, 1) := by decide +kernel
theorem px_d243_25 : decode prog_4_method_4_code 25 = .ok (.lor, 1) := by decide +kernel
theorem px_d243_26 : decode prog_4_method_4_code 26 = .ok (.aload_n 0, 1) := by decide +kernel
theorem px_d243_27 : decode prog_4_method_4_code 27 = .ok (.getfield 36, 3) := by decide +kernel
theorem px_d243_30 : decode prog_4_method_4_code 30 = .ok (.iload_n 1, 1) := by decide +kernel
theorem px_d243_31 : decode prog_4_method_4_code 31 = .ok (.laload, 1) := by decide +kernel
theorem px_d243_32 : decode prog_4_method_4_code 32 = .ok (.lor, 1) := by decide +kernel
theorem px_d243_33 : decode prog_4_method_4_code 33 = .ok (.lconst 0, 1) := by decide +kernel
theorem px_d243_34 : decode prog_4_method_4_code 34 = .ok (.lcmp, 1) := by decide +kernel
theorem px_d243_35 : decode prog_4_method_4_code 35 = .ok (.ifCond .ne 7, 3) := by decide +kernel
theorem px_d243_38 : decode prog_4_method_4_code 38 = .ok (.iconst 0, 1) := by decide +kernel
theorem px_d243_39 : decode prog_4_method_4_code 39 = .ok (.goto 4, 3) := by decide +kernel
theorem px_d243_42 : decode prog_4_method_4_code 42 = .ok (.iconst 1, 1) := by decide +kernel
theorem px_d243_43 : decode prog_4_method_4_code 43 = .ok (.ireturn, 1) := by decide +kernel
theorem px_d244_0 : decode prog_8_method_1_code 0 = .ok (.aload_n 0, 1) := by decide +kernel
theorem px_d244_1 : decode prog_8_method_1_code 1 = .ok (.invokespecial 1, 3) := by decide +kernel
theorem px_d244_4 : decode prog_8_method_1_code 4 = .ok (.aload_n 0, 1) := by decide +kernel
theorem px_d244_5 : decode prog_8_method_1_code 5 = .ok (.iload_n 1, 1) := by decide +kernel
theorem px_d244_6 : decode prog_8_method_1_code 6 = .ok (.putfield 7, 3) := by decide +kernel
theorem px_d244_9 : decode prog_8_method_1_code 9 = .ok (.aload_n 0, 1) := by decide +kernel
theorem px_d244_10 : decode prog_8_method_1_code 10 = .ok (.iload_n 2, 1) := by decide +kernel
theorem px_d244_11 : decode prog_8_method_1_code 11 = .ok (.putfield 13, 3) := by decide +kernel
theorem px_d244_14 : decode prog_8_method_1_code 14 = .ok (.aload_n 0, 1) := by decide +kernel
theorem px_d244_15 : decode prog_8_method_1_code 15 = .ok (.iload_n 3, 1) := by decide +kernel
theorem px_d244_16 : decode prog_8_method_1_code 16 = .ok (.putfield 16, 3) := by decide +kernel
theorem px_d244_19 : decode prog_8_method_1_code 19 = .ok (.aload_n 0, 1) := by decide +kernel
theorem px_d244_20 : decode prog_8_method_1_code 20 = .ok (.aload 4, 2) := by decide +kernel
theorem px_d244_22 : decode prog_8_method_1_code 22 = .ok (.putfield 19, 3) := by decide +kernel
theorem px_d244_25 : decode prog_8_method_1_code 25 = .ok (.return_, 1) := by decide +kernel
theorem px_d247_0 : decode prog_33_method_103_code 0 = .ok (.iconst 0, 1) := by decide +kernel
theorem px_d247_1 : decode prog_33_method_103_code 1 = .ok (.istore_n 2, 1) := by decide +kernel
theorem px_d247_2 : decode prog_33_method_103_code 2 = .ok (.aload_n 0, 1) := by decide +kernel
theorem px_d247_3 : decode prog_33_method_103_code 3 = .ok (.arraylength, 1) := by decide +kernel
theorem px_d247_4 : decode prog_33_method_103_code 4 = .ok (.istore_n 3, 1) := by decide +kernel
theorem px_d247_5 : decode prog_33_method_103_code 5 = .ok (.iload_n 2, 1) := by decide +kernel
theorem px_d247_6 : decode prog_33_method_103_code 6 = .ok (.iload_n 3, 1) := by decide +kernel
theorem px_d247_7 : decode prog_33_method_103_code 7 = .ok (.if_icmp .ge 13, 3) := by decide +kernel
theorem px_d247_10 : decode prog_33_method_103_code 10 = .ok (.aload_n 0, 1) := by decide +kernel
theorem px_d247_11 : decode prog_33_method_103_code 11 = .ok (.iload_n 2, 1) := by decide +kernel
theorem px_d247_12 : decode prog_33_method_103_code 12 = .ok (.iload_n 1, 1) := by decide +kernel
theorem px_d247_13 : decode prog_33_method_103_code 13 = .ok (.iastore, 1) := by decide +kernel
theorem px_d247_14 : decode prog_33_method_103_code 14 = .ok (.iinc 2 1, 3) := by decide +kernel
theorem px_d247_17 : decode prog_33_method_103_code 17 = .ok (.goto (-12), 3) := by decide +kernel
theorem px_d247_20 : decode prog_33_method_103_code 20 = .ok (.return_, 1) := by decide +kernel
theorem px_d250_0 : decode prog_23_method_49_code 0 = .ok (.iload_n 0, 1) := by decide +kernel
theorem px_d250_1 : decode prog_23_method_49_code 1 = .ok (.iload_n 0, 1) := by decide +kernel
theorem px_d250_2 : decode prog_23_method_49_code 2 = .ok (.iconst 1, 1) := by decide +kernel
theorem px_d250_3 : decode prog_23_method_49_code 3 = .ok (.iushr, 1) := by decide +kernel
theorem px_d250_4 : decode prog_23_method_49_code 4 = .ok (.ldc_w 265, 3) := by decide +kernel
theorem px_d250_7 : decode prog_23_method_49_code 7 = .ok (.iand, 1) := by decide +kernel
theorem px_d250_8 : decode prog_23_method_49_code 8 = .ok (.isub, 1) := by decide +kernel
theorem px_d250_9 : decode prog_23_method_49_code 9 = .ok (.istore_n 0, 1) := by decide +kernel
theorem px_d250_10 : decode prog_23_method_49_code 10 = .ok (.iload_n 0, 1) := by decide +kernel
theorem px_d250_11 : decode prog_23_method_49_code 11 = .ok (.ldc_w 266, 3) := by decide +kernel
theorem px_d250_14 : decode prog_23_method_49_code 14 = .ok (.iand, 1) := by decide +kernel
theorem px_d250_15 : decode prog_23_method_49_code 15 = .ok (.iload_n 0, 1) := by decide +kernel
theorem px_d250_16 : decode prog_23_method_49_code 16 = .ok (.iconst 2, 1) := by decide +kernel
theorem px_d250_17 : decode prog_23_method_49_code 17 = .ok (.iushr, 1) := by decide +kernel
theorem px_d250_18 : decode prog_23_method_49_code 18 = .ok (.ldc_w 266, 3) := by decide +kernel
theorem px_d250_21 : decode prog_23_method_49_code 21 = .ok (.iand, 1) := by decide +kernel
theorem px_d250_22 : decode prog_23_method_49_code 22 = .ok (.iadd, 1) := by decide +kernel
theorem px_d250_23 : decode prog_23_method_49_code 23 = .ok (.istore_n 0, 1) := by decide +kernel
theorem px_d250_24 : decode prog_23_method_49_code 24 = .ok (.iload_n 0, 1) := by decide +kernel
theorem px_d250_25 : decode prog_23_method_49_code 25 = .ok (.iload_n 0, 1) := by decide +kernel
theorem px_d250_26 : decode prog_23_method_49_code 26 = .ok (.iconst 4, 1) := by decide +kernel
theorem px_d250_27 : decode prog_23_method_49_code 27 = .ok (.iushr, 1) := by decide +kernel
theorem px_d250_28 : decode prog_23_method_49_code 28 = .ok (.iadd, 1) := by decide +kernel
theorem px_d250_29 : decode prog_23_method_49_code 29 = .ok (.ldc_w 267, 3) := by decide +kernel
theorem px_d250_32 : decode prog_23_method_49_code 32 = .ok (.iand, 1) := by decide +kernel
theorem px_d250_33 : decode prog_23_method_49_code 33 = .ok (.istore_n 0, 1) := by decide +kernel
theorem px_d250_34 : decode prog_23_method_49_code 34 = .ok (.iload_n 0, 1) := by decide +kernel
theorem px_d250_35 : decode prog_23_method_49_code 35 = .ok (.iload_n 0, 1) := by decide +kernel
theorem px_d250_36 : decode prog_23_method_49_code 36 = .ok (.bipush 8, 2) := by decide +kernel
theorem px_d250_38 : decode prog_23_method_49_code 38 = .ok (.iushr, 1) := by decide +kernel
theorem px_d250_39 : decode prog_23_method_49_code 39 = .ok (.iadd, 1) := by decide +kernel
theorem px_d250_40 : decode prog_23_method_49_code 40 = .ok (.istore_n 0, 1) := by decide +kernel
theorem px_d250_41 : decode prog_23_method_49_code 41 = .ok (.iload_n 0, 1) := by decide +kernel
theorem px_d250_42 : decode prog_23_method_49_code 42 = .ok (.iload_n 0, 1) := by decide +kernel
theorem px_d250_43 : decode prog_23_method_49_code 43 = .ok (.bipush 16, 2) := by decide +kernel
theorem px_d250_45 : decode prog_23_method_49_code 45 = .ok (.iushr, 1) := by decide +kernel
theorem px_d250_46 : decode prog_23_method_49_code 46 = .ok (.iadd, 1) := by decide +kernel
theorem px_d250_47 : decode prog_23_method_49_code 47 = .ok (.istore_n 0, 1) := by decide +kernel
theorem px_d250_48 : decode prog_23_method_49_code 48 = .ok (.iload_n 0, 1) := by decide +kernel
theorem px_d250_49 : decode prog_23_method_49_code 49 = .ok (.bipush 63, 2) := by decide +kernel
theorem px_d250_51 : decode prog_23_method_49_code 51 = .ok (.iand, 1) := by decide +kernel
theorem px_d250_52 : decode prog_23_method_49_code 52 = .ok (.ireturn, 1) := by decide +kernel
theorem px_d252_0 : decode prog_25_method_59_code 0 = .ok (.iload_n 0, 1) := by decide +kernel
theorem px_d252_1 : decode prog_25_method_59_code 1 = .ok (.ifCond .ge 8, 3) := by decide +kernel
theorem px_d252_4 : decode prog_25_method_59_code 4 = .ok (.iload_n 0, 1) := by decide +kernel
theorem px_d252_5 : decode prog_25_method_59_code 5 = .ok (.ineg, 1) := by decide +kernel
theorem px_d252_6 : decode prog_25_method_59_code 6 = .ok (.goto 4, 3) := by decide +kernel
theorem px_d252_9 : decode prog_25_method_59_code 9 = .ok (.iload_n 0, 1) := by decide +kernel
theorem px_d252_10 : decode prog_25_method_59_code 10 = .ok (.ireturn, 1) := by decide +kernel
theorem px_d254_0 : decode prog_33_method_104_code 0 = .ok (.aload_n 0, 1) := by decide +kernel
theorem px_d254_1 : decode prog_33_method_104_code 1 = .ok (.arraylength, 1) := by decide +kernel
theorem px_d254_2 : decode prog_33_method_104_code 2 = .ok (.iload_n 1, 1) := by decide +kernel
theorem px_d254_3 : decode prog_33_method_104_code 3 = .ok (.iload_n 2, 1) := by decide +kernel
theorem px_d254_4 : decode prog_33_method_104_code 4 = .ok (.invokestatic 13, 3) := by decide +kernel
theorem px_d254_7 : decode prog_33_method_104_code 7 = .ok (.iload_n 1, 1) := by decide +kernel
theorem px_d254_8 : decode prog_33_method_104_code 8 = .ok (.istore 4, 2) := by decide +kernel
theorem px_d254_10 : decode prog_33_method_104_code 10 = .ok (.iload 4, 2) := by decide +kernel
theorem px_d254_12 : decode prog_33_method_104_code 12 = .ok (.iload_n 2, 1) := by decide +kernel
theorem px_d254_13 : decode prog_33_method_104_code 13 = .ok (.if_icmp .ge 14, 3) := by decide +kernel
theorem px_d254_16 : decode prog_33_method_104_code 16 = .ok (.aload_n 0, 1) := by decide +kernel
theorem px_d254_17 : decode prog_33_method_104_code 17 = .ok (.iload 4, 2) := by decide +kernel
theorem px_d254_19 : decode prog_33_method_104_code 19 = .ok (.iload_n 3, 1) := by decide +kernel
theorem px_d254_20 : decode prog_33_method_104_code 20 = .ok (.iastore, 1) := by decide +kernel
theorem px_d254_21 : decode prog_33_method_104_code 21 = .ok (.iinc 4 1, 3) := by decide +kernel
theorem px_d254_24 : decode prog_33_method_104_code 24 = .ok (.goto (-14), 3) := by decide +kernel
theorem px_d254_27 : decode prog_33_method_104_code 27 = .ok (.return_, 1) := by decide +kernel
theorem px_d257_0 : decode prog_9_method_4_code 0 = .ok (.iconst 0, 1) := by decide +kernel
theorem px_d257_1 : decode prog_9_method_4_code 1 = .ok (.istore_n 2, 1) := by decide +kernel
theorem px_d257_2 : decode prog_9_method_4_code 2 = .ok (.iconst 0, 1) := by decide +kernel
theorem px_d257_3 : decode prog_9_method_4_code 3 = .ok (.istore_n 3, 1) := by decide +kernel
theorem px_d257_4 : decode prog_9_method_4_code 4 = .ok (.iload_n 3, 1) := by decide +kernel
theorem px_d257_5 : decode prog_9_method_4_code 5 = .ok (.aload_n 0, 1) := by decide +kernel
theorem px_d257_6 : decode prog_9_method_4_code 6 = .ok (.getfield 35, 3) := by decide +kernel
theorem px_d257_9 : decode prog_9_method_4_code 9 = .ok (.if_icmp .ge 25, 3) := by decide +kernel
theorem px_d257_12 : decode prog_9_method_4_code 12 = .ok (.iload_n 3, 1) := by decide +kernel
theorem px_d257_13 : decode prog_9_method_4_code 13 = .ok (.iload_n 1, 1) := by decide +kernel
theorem px_d257_14 : decode prog_9_method_4_code 14 = .ok (.if_icmp .ge 20, 3) := by decide +kernel
theorem px_d257_17 : decode prog_9_method_4_code 17 = .ok (.iload_n 2, 1) := by decide +kernel
theorem px_d257_18 : decode prog_9_method_4_code 18 = .ok (.iconst 1, 1) := by decide +kernel
theorem px_d257_19 : decode prog_9_method_4_code 19 = .ok (.aload_n 0, 1) := by decide +kernel
theorem px_d257_20 : decode prog_9_method_4_code 20 = .ok (.getfield 15, 3) := by decide +kernel
theorem px_d257_23 : decode prog_9_method_4_code 23 = .ok (.iload_n 3, 1) := by decide +kernel
theorem px_d257_24 : decode prog_9_method_4_code 24 = .ok (.iaload, 1) := by decide +kernel
theorem px_d257_25 : decode prog_9_method_4_code 25 = .ok (.ishl, 1) := by decide +kernel
theorem px_d257_26 : decode prog_9_method_4_code 26 = .ok (.ior, 1) := by decide +kernel
theorem px_d257_27 : decode prog_9_method_4_code 27 = .ok (.istore_n 2, 1) := by decide +kernel
theorem px_d257_28 : decode prog_9_method_4_code 28 = .ok (.iinc 3 1, 3) := by decide +kernel
theorem px_d257_31 : decode prog_9_method_4_code 31 = .ok (.goto (-27), 3) := by decide +kernel
theorem px_d257_34 : decode prog_9_method_4_code 34 = .ok (.iload_n 2, 1) := by decide +kernel
theorem px_d257_35 : decode prog_9_method_4_code 35 = .ok (.ireturn, 1) := by decide +kernel
theorem px_d269_0 : decode prog_7_method_5_code 0 = .ok (.lload_n 1, 1) := by decide +kernel
theorem px_d269_1 : decode prog_7_method_5_code 1 = .ok (.lstore_n 3, 1) := by decide +kernel
theorem px_d269_2 : decode prog_7_method_5_code 2 = .ok (.iconst 0, 1) := by decide +kernel
theorem px_d269_3 : decode prog_7_method_5_code 3 = .ok (.istore 5, 2) := by decide +kernel
theorem px_d269_5 : decode prog_7_method_5_code 5 = .ok (.iconst 0, 1) := by decide +kernel
theorem px_d269_6 : decode prog_7_method_5_code 6 = .ok (.istore 6, 2) := by decide +kernel
theorem px_d269_8 : decode prog_7_method_5_code 8 = .ok (.iload 6, 2) := by decide +kernel
theorem px_d269_10 : decode prog_7_method_5_code 10 = .ok (.bipush 48, 2) := by decide +kernel
theorem px_d269_12 : decode prog_7_method_5_code 12 = .ok (.if_icmp .ge 47, 3) := by decide +kernel
theorem px_d269_15 : decode prog_7_method_5_code 15 = .ok (.iload 6, 2) := by decide +kernel
theorem px_d269_17 : decode prog_7_method_5_code 17 = .ok (.ifCond .eq 9, 3) := by decide +kernel
theorem px_d269_20 : decode prog_7_method_5_code 20 = .ok (.lload_n 3, 1) := by decide +kernel
theorem px_d269_21 : decode prog_7_method_5_code 21 = .ok (.lconst 0, 1) := by decide +kernel
theorem px_d269_22 : decode prog_7_method_5_code 22 = .ok (.lcmp, 1) := by decide +kernel
theorem px_d269_23 : decode prog_7_method_5_code 23 = .ok (.ifCond .eq 36, 3) := by decide +kernel
theorem px_d269_26 : decode prog_7_method_5_code 26 = .ok (.aload_n 0, 1) := by decide +kernel
theorem px_d269_27 : decode prog_7_method_5_code 27 = .ok (.getfield 15, 3) := by decide +kernel
theorem px_d269_30 : decode prog_7_method_5_code 30 = .ok (.iload 6, 2) := by decide +kernel
theorem px_d269_32 : decode prog_7_method_5_code 32 = .ok (.ldc2_w 46, 3) := by decide +kernel
theorem px_d269_35 : decode prog_7_method_5_code 35 = .ok (.lload_n 3, 1) := by decide +kernel
theorem px_d269_36 : decode prog_7_method_5_code 36 = .ok (.ldc2_w 48, 3) := by decide +kernel
theorem px_d269_39 : decode prog_7_method_5_code 39 = .ok (.lrem, 1) := by decide +kernel
theorem px_d269_40 : decode prog_7_method_5_code 40 = .ok (.ladd, 1) := by decide +kernel
theorem px_d269_41 : decode prog_7_method_5_code 41 = .ok (.l2i, 1) := by decide +kernel
theorem px_d269_42 : decode prog_7_method_5_code 42 = .ok (.i2b, 1) := by decide +kernel
theorem px_d269_43 : decode prog_7_method_5_code 43 = .ok (.bastore, 1) := by decide +kernel
theorem px_d269_44 : decode prog_7_method_5_code 44 = .ok (.lload_n 3, 1) := by decide +kernel
theorem px_d269_45 : decode prog_7_method_5_code 45 = .ok (.ldc2_w 48, 3) := by decide +kernel
theorem px_d269_48 : decode prog_7_method_5_code 48 = .ok (.ldiv, 1) := by decide +kernel
theorem px_d269_49 : decode prog_7_method_5_code 49 = .ok (.lstore_n 3, 1) := by decide +kernel
theorem px_d269_50 : decode prog_7_method_5_code 50 = .ok (.iinc 5 1, 3) := by decide +kernel
theorem px_d269_53 : decode prog_7_method_5_code 53 = .ok (.iinc 6 1, 3) := by decide +kernel
theorem px_d269_56 : decode prog_7_method_5_code 56 = .ok (.goto (-48), 3) := by decide +kernel
theorem px_d269_59 : decode prog_7_method_5_code 59 = .ok (.iload 5, 2) := by decide +kernel
theorem px_d269_61 : decode prog_7_method_5_code 61 = .ok (.iconst 1, 1) := by decide +kernel
theorem px_d269_62 : decode prog_7_method_5_code 62 = .ok (.isub, 1) := by decide +kernel
theorem px_d269_63 : decode prog_7_method_5_code 63 = .ok (.istore 6, 2) := by decide +kernel
theorem px_d269_65 : decode prog_7_method_5_code 65 = .ok (.iload 6, 2) := by decide +kernel
theorem px_d269_67 : decode prog_7_method_5_code 67 = .ok (.ifCond .lt 20, 3) := by decide +kernel
theorem px_d269_70 : decode prog_7_method_5_code 70 = .ok (.aload_n 0, 1) := by decide +kernel
theorem px_d269_71 : decode prog_7_method_5_code 71 = .ok (.aload_n 0, 1) := by decide +kernel
theorem px_d269_72 : decode prog_7_method_5_code 72 = .ok (.getfield 15, 3) := by decide +kernel
theorem px_d269_75 : decode prog_7_method_5_code 75 = .ok (.iload 6, 2) := by decide +kernel
theorem px_d269_77 : decode prog_7_method_5_code 77 = .ok (.baload, 1) := by decide +kernel
theorem px_d269_78 : decode prog_7_method_5_code 78 = .ok (.invokevirtual 42, 3) := by decide +kernel
theorem px_d269_81 : decode prog_7_method_5_code 81 = .ok (.iinc 6 (-1), 3) := by decide +kernel
theorem px_d269_84 : decode prog_7_method_5_code 84 = .ok (.goto (-19), 3) := by decide +kernel
theorem px_d269_87 : decode prog_7_method_5_code 87 = .ok (.return_, 1) := by decide +kernel
theorem px_d270_0 : decode prog_7_method_3_code 0 = .ok (.aload_n 0, 1) := by decide +kernel
theorem px_d270_1 : decode prog_7_method_3_code 1 = .ok (.getfield 18, 3) := by decide +kernel
theorem px_d270_4 : decode prog_7_method_3_code 4 = .ok (.ldc 26, 2) := by decide +kernel
theorem px_d270_6 : decode prog_7_method_3_code 6 = .ok (.if_icmp .lt 9, 3) := by decide +kernel
theorem px_d270_9 : decode prog_7_method_3_code 9 = .ok (.aload_n 0, 1) := by decide +kernel
theorem px_d270_10 : decode prog_7_method_3_code 10 = .ok (.iconst 1, 1) := by decide +kernel
theorem px_d270_11 : decode prog_7_method_3_code 11 = .ok (.putfield 22, 3) := by decide +kernel
theorem px_d270_14 : decode prog_7_method_3_code 14 = .ok (.return_, 1) := by decide +kernel
theorem px_d270_15 : decode prog_7_method_3_code 15 = .ok (.aload_n 0, 1) := by decide +kernel
theorem px_d270_16 : decode prog_7_method_3_code 16 = .ok (.getfield 18, 3) := by decide +kernel
theorem px_d270_19 : decode prog_7_method_3_code 19 = .ok (.aload_n 0, 1) := by decide +kernel
theorem px_d270_20 : decode prog_7_method_3_code 20 = .ok (.getfield 9, 3) := by decide +kernel
theorem px_d270_23 : decode prog_7_method_3_code 23 = .ok (.arraylength, 1) := by decide +kernel
theorem px_d270_24 : decode prog_7_method_3_code 24 = .ok (.if_icmp .ne 20, 3) := by decide +kernel
theorem px_d270_27 : decode prog_7_method_3_code 27 = .ok (.aload_n 0, 1) := by decide +kernel
theorem px_d270_28 : decode prog_7_method_3_code 28 = .ok (.aload_n 0, 1) := by decide +kernel
theorem px_d270_29 : decode prog_7_method_3_code 29 = .ok (.getfield 9, 3) := by decide +kernel
theorem px_d270_32 : decode prog_7_method_3_code 32 = .ok (.iconst 2, 1) := by decide +kernel
theorem px_d270_33 : decode prog_7_method_3_code 33 = .ok (.aload_n 0, 1) := by decide +kernel
theorem px_d270_34 : decode prog_7_method_3_code 34 = .ok (.getfield 18, 3) := by decide +kernel
theorem px_d270_37 : decode prog_7_method_3_code 37 = .ok (.imul, 1) := by decide +kernel
theorem px_d270_38 : decode prog_7_method_3_code 38 = .ok (.invokestatic 27, 3) := by decide +kernel
theorem px_d270_41 : decode prog_7_method_3_code 41 = .ok (.putfield 9, 3) := by decide +kernel
theorem px_d270_44 : decode prog_7_method_3_code 44 = .ok (.aload_n 0, 1) := by decide +kernel
theorem px_d270_45 : decode prog_7_method_3_code 45 = .ok (.getfield 9, 3) := by decide +kernel
theorem px_d270_48 : decode prog_7_method_3_code 48 = .ok (.aload_n 0, 1) := by decide +kernel
theorem px_d270_49 : decode prog_7_method_3_code 49 = .ok (.getfield 18, 3) := by decide +kernel
theorem px_d270_52 : decode prog_7_method_3_code 52 = .ok (.iload_n 1, 1) := by decide +kernel
theorem px_d270_53 : decode prog_7_method_3_code 53 = .ok (.i2b, 1) := by decide +kernel
theorem px_d270_54 : decode prog_7_method_3_code 54 = .ok (.bastore, 1) := by decide +kernel
theorem px_d270_55 : decode prog_7_method_3_code 55 = .ok (.aload_n 0, 1) := by decide +kernel
theorem px_d270_56 : decode prog_7_method_3_code 56 = .ok (.dup, 1) := by decide +kernel
theorem px_d270_57 : decode prog_7_method_3_code 57 = .ok (.getfield 18, 3) := by decide +kernel
theorem px_d270_60 : decode prog_7_method_3_code 60 = .ok (.iconst 1, 1) := by decide +kernel
theorem px_d270_61 : decode prog_7_method_3_code 61 = .ok (.iadd, 1) := by decide +kernel
theorem px_d270_62 : decode prog_7_method_3_code 62 = .ok (.putfield 18, 3) := by decide +kernel
theorem px_d270_65 : decode prog_7_method_3_code 65 = .ok (.return_, 1) := by decide +kernel
theorem px_d277_0 : decode prog_7_method_8_code 0 = .ok (.aload_n 0, 1) := by decide +kernel
theorem px_d277_1 : decode prog_7_method_8_code 1 = .ok (.bipush 123, 2) := by decide +kernel
theorem px_d277_3 : decode prog_7_method_8_code 3 = .ok (.invokevirtual 42, 3) := by decide +kernel
theorem px_d277_6 : decode prog_7_method_8_code 6 = .ok (.iconst 1, 1) := by decide +kernel
theorem px_d277_7 : decode prog_7_method_8_code 7 = .ok (.istore_n 2, 1) := by decide +kernel
theorem px_d277_8 : decode prog_7_method_8_code 8 = .ok (.iconst 0, 1) := by decide +kernel
theorem px_d277_9 : decode prog_7_method_8_code 9 = .ok (.istore_n 3, 1) := by decide +kernel
theorem px_d277_10 : decode prog_7_method_8_code 10 = .ok (.iload_n 3, 1) := by decide +kernel
theorem px_d277_11 : decode prog_7_method_8_code 11 = .ok (.bipush 12, 2) := by decide +kernel
theorem px_d277_13 : decode prog_7_method_8_code 13 = .ok (.if_icmp .ge 40, 3) := by decide +kernel
theorem px_d277_16 : decode prog_7_method_8_code 16 = .ok (.iload_n 1, 1) := by decide +kernel
theorem px_d277_17 : decode prog_7_method_8_code 17 = .ok (.iload_n 3, 1) := by decide +kernel
theorem px_d277_18 : decode prog_7_method_8_code 18 = .ok (.ishr, 1) := by decide +kernel
theorem px_d277_19 : decode prog_7_method_8_code 19 = .ok (.iconst 1, 1) := by decide +kernel
theorem px_d277_20 : decode prog_7_method_8_code 20 = .ok (.iand, 1) := by decide +kernel
theorem px_d277_21 : decode prog_7_method_8_code 21 = .ok (.ifCond .eq 26, 3) := by decide +kernel
theorem px_d277_24 : decode prog_7_method_8_code 24 = .ok (.aload_n 0, 1) := by decide +kernel
theorem px_d277_25 : decode prog_7_method_8_code 25 = .ok (.iload_n 2, 1) := by decide +kernel
theorem px_d277_26 : decode prog_7_method_8_code 26 = .ok (.ifCond .eq 8, 3) := by decide +kernel
theorem px_d277_29 : decode prog_7_method_8_code 29 = .ok (.ldc 59, 2) := by decide +kernel
theorem px_d277_31 : decode prog_7_method_8_code 31 = .ok (.goto 5, 3) := by decide +kernel
theorem px_d277_34 : decode prog_7_method_8_code 34 = .ok (.ldc 61, 2) := by decide +kernel
theorem px_d277_36 : decode prog_7_method_8_code 36 = .ok (.invokevirtual 63, 3) := by decide +kernel
theorem px_d277_39 : decode prog_7_method_8_code 39 = .ok (.aload_n 0, 1) := by decide +kernel
theorem px_d277_40 : decode prog_7_method_8_code 40 = .ok (.iload_n 3, 1) := by decide +kernel
theorem px_d277_41 : decode prog_7_method_8_code 41 = .ok (.i2l, 1) := by decide +kernel
theorem px_d277_42 : decode prog_7_method_8_code 42 = .ok (.invokevirtual 67, 3) := by decide +kernel
theorem px_d277_45 : decode prog_7_method_8_code 45 = .ok (.iconst 0, 1) := by decide +kernel
theorem px_d277_46 : decode prog_7_method_8_code 46 = .ok (.istore_n 2, 1) := by decide +kernel
theorem px_d277_47 : decode prog_7_method_8_code 47 = .ok (.iinc 3 1, 3) := by decide +kernel
theorem px_d277_50 : decode prog_7_method_8_code 50 = .ok (.goto (-40), 3) := by decide +kernel
theorem px_d277_53 : decode prog_7_method_8_code 53 = .ok (.aload_n 0, 1) := by decide +kernel
theorem px_d277_54 : decode prog_7_method_8_code 54 = .ok (.ldc 71, 2) := by decide +kernel
theorem px_d277_56 : decode prog_7_method_8_code 56 = .ok (.invokevirtual 63, 3) := by decide +kernel
theorem px_d277_59 : decode prog_7_method_8_code 59 = .ok (.return_, 1) := by decide +kernel
theorem px_d278_0 : decode prog_7_method_4_code 0 = .ok (.iconst 0, 1) := by decide +kernel
theorem px_d278_1 : decode prog_7_method_4_code 1 = .ok (.istore_n 2, 1) := by decide +kernel
theorem px_d278_2 : decode prog_7_method_4_code 2 = .ok (.iload_n 2, 1) := by decide +kernel
theorem px_d278_3 : decode prog_7_method_4_code 3 = .ok (.aload_n 1, 1) := by decide +kernel
theorem px_d278_4 : decode prog_7_method_4_code 4 = .ok (.invokevirtual 33, 3) := by decide +kernel
theorem px_d278_7 : decode prog_7_method_4_code 7 = .ok (.if_icmp .ge 18, 3) := by decide +kernel
theorem px_d278_10 : decode prog_7_method_4_code 10 = .ok (.aload_n 0, 1) := by decide +kernel
theorem px_d278_11 : decode prog_7_method_4_code 11 = .ok (.aload_n 1, 1) := by decide +kernel
theorem px_d278_12 : decode prog_7_method_4_code 12 = .ok (.iload_n 2, 1) := by decide +kernel
theorem px_d278_13 : decode prog_7_method_4_code 13 = .ok (.invokevirtual 38, 3) := by decide +kernel
theorem px_d278_16 : decode prog_7_method_4_code 16 = .ok (.invokevirtual 42, 3) := by decide +kernel
theorem px_d278_19 : decode prog_7_method_4_code 19 = .ok (.iinc 2 1, 3) := by decide +kernel
theorem px_d278_22 : decode prog_7_method_4_code 22 = .ok (.goto (-20), 3) := by decide +kernel
theorem px_d278_25 : decode prog_7_method_4_code 25 = .ok (.return_, 1) := by decide +kernel
theorem px_d282_0 : decode prog_33_method_101_code 0 = .ok (.iconst 0, 1) := by decide +kernel
theorem px_d282_1 : decode prog_33_method_101_code 1 = .ok (.istore_n 3, 1) := by decide +kernel
theorem px_d282_2 : decode prog_33_method_101_code 2 = .ok (.aload_n 0, 1) := by decide +kernel
theorem px_d282_3 : decode prog_33_method_101_code 3 = .ok (.arraylength, 1) := by decide +kernel
theorem px_d282_4 : decode prog_33_method_101_code 4 = .ok (.istore 4, 2) := by decide +kernel
theorem px_d282_6 : decode prog_33_method_101_code 6 = .ok (.iload_n 3, 1) := by decide +kernel
theorem px_d282_7 : decode prog_33_method_101_code 7 = .ok (.iload 4, 2) := by decide +kernel
theorem px_d282_9 : decode prog_33_method_101_code 9 = .ok (.if_icmp .ge 13, 3) := by decide +kernel
theorem px_d282_12 : decode prog_33_method_101_code 12 = .ok (.aload_n 0, 1) := by decide +kernel
theorem px_d282_13 : decode prog_33_method_101_code 13 = .ok (.iload_n 3, 1) := by decide +kernel
theorem px_d282_14 : decode prog_33_method_101_code 14 = .ok (.lload_n 1, 1) := by decide +kernel
theorem px_d282_15 : decode prog_33_method_101_code 15 = .ok (.lastore, 1) := by decide +kernel
theorem px_d282_16 : decode prog_33_method_101_code 16 = .ok (.iinc 3 1, 3) := by decide +kernel
theorem px_d282_19 : decode prog_33_method_101_code 19 = .ok (.goto (-13), 3) := by decide +kernel
theorem px_d282_22 : decode prog_33_method_101_code 22 = .ok (.return_, 1) := by decide +kernel
theorem px_d284_0 : decode prog_7_method_9_code 0 = .ok (.iload_n 3, 1) := by decide +kernel
theorem px_d284_1 : decode prog_7_method_9_code 1 = .ok (.ifCond .ne 12, 3) := by decide +kernel
theorem px_d284_4 : decode prog_7_method_9_code 4 = .ok (.iload 4, 2) := by decide +kernel
theorem px_d284_6 : decode prog_7_method_9_code 6 = .ok (.ifCond .ne 7, 3) := by decide +kernel
theorem px_d284_9 : decode prog_7_method_9_code 9 = .ok (.iconst 1, 1) := by decide +kernel
theorem px_d284_10 : decode prog_7_method_9_code 10 = .ok (.goto 4, 3) := by decide +kernel
theorem px_d284_13 : decode prog_7_method_9_code 13 = .ok (.iconst 0, 1) := by decide +kernel
theorem px_d284_14 : decode prog_7_method_9_code 14 = .ok (.istore 5, 2) := by decide +kernel
theorem px_d284_16 : decode prog_7_method_9_code 16 = .ok (.lload_n 1, 1) := by decide +kernel
theorem px_d284_17 : decode prog_7_method_9_code 17 = .ok (.lconst 1, 1) := by decide +kernel
theorem px_d284_18 : decode prog_7_method_9_code 18 = .ok (.lcmp, 1) := by decide +kernel
theorem px_d284_19 : decode prog_7_method_9_code 19 = .ok (.ifCond .ne 8, 3) := by decide +kernel
theorem px_d284_22 : decode prog_7_method_9_code 22 = .ok (.iload 5, 2) := by decide +kernel
theorem px_d284_24 : decode prog_7_method_9_code 24 = .ok (.ifCond .eq 24, 3) := by decide +kernel
theorem px_d284_27 : decode prog_7_method_9_code 27 = .ok (.aload_n 0, 1) := by decide +kernel
