theorem px_d20_26 : decode prog_16_method_13_code 26 = .ok (.ifCond .eq 9, 3) := by decide +kernel
theorem px_d20_29 : decode prog_16_method_13_code 29 = .ok (.iload 4, 2) := by decide +kernel
theorem px_d20_31 : decode prog_16_method_13_code 31 = .ok (.istore_n 2, 1) := by decide +kernel
theorem px_d20_32 : decode prog_16_method_13_code 32 = .ok (.goto 8, 3) := by decide +kernel
theorem px_d20_35 : decode prog_16_method_13_code 35 = .ok (.iload 4, 2) := by decide +kernel
theorem px_d20_37 : decode prog_16_method_13_code 37 = .ok (.iconst 1, 1) := by decide +kernel
theorem px_d20_38 : decode prog_16_method_13_code 38 = .ok (.isub, 1) := by decide +kernel
theorem px_d20_39 : decode prog_16_method_13_code 39 = .ok (.istore_n 3, 1) := by decide +kernel
theorem px_d20_40 : decode prog_16_method_13_code 40 = .ok (.goto (-35), 3) := by decide +kernel
theorem px_d20_43 : decode prog_16_method_13_code 43 = .ok (.lconst 0, 1) := by decide +kernel
theorem px_d20_44 : decode prog_16_method_13_code 44 = .ok (.lstore 4, 2) := by decide +kernel
theorem px_d20_46 : decode prog_16_method_13_code 46 = .ok (.iconst 0, 1) := by decide +kernel
theorem px_d20_47 : decode prog_16_method_13_code 47 = .ok (.istore 6, 2) := by decide +kernel
theorem px_d20_49 : decode prog_16_method_13_code 49 = .ok (.iload 6, 2) := by decide +kernel
theorem px_d20_51 : decode prog_16_method_13_code 51 = .ok (.aload_n 0, 1) := by decide +kernel
theorem px_d20_52 : decode prog_16_method_13_code 52 = .ok (.getfield 13, 3) := by decide +kernel
theorem px_d20_55 : decode prog_16_method_13_code 55 = .ok (.if_icmp .ge 87, 3) := by decide +kernel
theorem px_d20_58 : decode prog_16_method_13_code 58 = .ok (.aload_n 0, 1) := by decide +kernel
theorem px_d20_59 : decode prog_16_method_13_code 59 = .ok (.getfield 7, 3) := by decide +kernel
theorem px_d20_62 : decode prog_16_method_13_code 62 = .ok (.iload 6, 2) := by decide +kernel
theorem px_d20_64 : decode prog_16_method_13_code 64 = .ok (.iaload, 1) := by decide +kernel
theorem px_d20_65 : decode prog_16_method_13_code 65 = .ok (.i2l, 1) := by decide +kernel
theorem px_d20_66 : decode prog_16_method_13_code 66 = .ok (.lload 4, 2) := by decide +kernel
theorem px_d20_68 : decode prog_16_method_13_code 68 = .ok (.lsub, 1) := by decide +kernel
theorem px_d20_69 : decode prog_16_method_13_code 69 = .ok (.iload 6, 2) := by decide +kernel
theorem px_d20_71 : decode prog_16_method_13_code 71 = .ok (.aload_n 1, 1) := by decide +kernel
theorem px_d20_72 : decode prog_16_method_13_code 72 = .ok (.getfield 13, 3) := by decide +kernel
theorem px_d20_75 : decode prog_16_method_13_code 75 = .ok (.if_icmp .ge 17, 3) := by decide +kernel
theorem px_d20_78 : decode prog_16_method_13_code 78 = .ok (.aload_n 1, 1) := by decide +kernel
theorem px_d20_79 : decode prog_16_method_13_code 79 = .ok (.getfield 7, 3) := by decide +kernel
theorem px_d20_82 : decode prog_16_method_13_code 82 = .ok (.iload 6, 2) := by decide +kernel
theorem px_d20_84 : decode prog_16_method_13_code 84 = .ok (.iaload, 1) := by decide +kernel
theorem px_d20_85 : decode prog_16_method_13_code 85 = .ok (.i2l, 1) := by decide +kernel
theorem px_d20_86 : decode prog_16_method_13_code 86 = .ok (.iload_n 2, 1) := by decide +kernel
theorem px_d20_87 : decode prog_16_method_13_code 87 = .ok (.i2l, 1) := by decide +kernel
theorem px_d20_88 : decode prog_16_method_13_code 88 = .ok (.lmul, 1) := by decide +kernel
theorem px_d20_89 : decode prog_16_method_13_code 89 = .ok (.goto 4, 3) := by decide +kernel
theorem px_d20_92 : decode prog_16_method_13_code 92 = .ok (.lconst 0, 1) := by decide +kernel
theorem px_d20_93 : decode prog_16_method_13_code 93 = .ok (.lsub, 1) := by decide +kernel
theorem px_d20_94 : decode prog_16_method_13_code 94 = .ok (.lstore 7, 2) := by decide +kernel
theorem px_d20_96 : decode prog_16_method_13_code 96 = .ok (.lload 7, 2) := by decide +kernel
theorem px_d20_98 : decode prog_16_method_13_code 98 = .ok (.lconst 0, 1) := by decide +kernel
theorem px_d20_99 : decode prog_16_method_13_code 99 = .ok (.lcmp, 1) := by decide +kernel
theorem px_d20_100 : decode prog_16_method_13_code 100 = .ok (.ifCond .ge 16, 3) := by decide +kernel
theorem px_d20_103 : decode prog_16_method_13_code 103 = .ok (.ldc2_w 43, 3) := by decide +kernel
theorem px_d20_106 : decode prog_16_method_13_code 106 = .ok (.lload 7, 2) := by decide +kernel
theorem px_d20_108 : decode prog_16_method_13_code 108 = .ok (.lsub, 1) := by decide +kernel
theorem px_d20_109 : decode prog_16_method_13_code 109 = .ok (.ldc2_w 24, 3) := by decide +kernel
theorem px_d20_112 : decode prog_16_method_13_code 112 = .ok (.ldiv, 1) := by decide +kernel
theorem px_d20_113 : decode prog_16_method_13_code 113 = .ok (.goto 4, 3) := by decide +kernel
theorem px_d20_116 : decode prog_16_method_13_code 116 = .ok (.lconst 0, 1) := by decide +kernel
theorem px_d20_117 : decode prog_16_method_13_code 117 = .ok (.lstore 4, 2) := by decide +kernel
theorem px_d20_119 : decode prog_16_method_13_code 119 = .ok (.aload_n 0, 1) := by decide +kernel
theorem px_d20_120 : decode prog_16_method_13_code 120 = .ok (.getfield 7, 3) := by decide +kernel
theorem px_d20_123 : decode prog_16_method_13_code 123 = .ok (.iload 6, 2) := by decide +kernel
theorem px_d20_125 : decode prog_16_method_13_code 125 = .ok (.lload 7, 2) := by decide +kernel
theorem px_d20_127 : decode prog_16_method_13_code 127 = .ok (.ldc2_w 24, 3) := by decide +kernel
theorem px_d20_130 : decode prog_16_method_13_code 130 = .ok (.lload 4, 2) := by decide +kernel
theorem px_d20_132 : decode prog_16_method_13_code 132 = .ok (.lmul, 1) := by decide +kernel
theorem px_d20_133 : decode prog_16_method_13_code 133 = .ok (.ladd, 1) := by decide +kernel
theorem px_d20_134 : decode prog_16_method_13_code 134 = .ok (.l2i, 1) := by decide +kernel
theorem px_d20_135 : decode prog_16_method_13_code 135 = .ok (.iastore, 1) := by decide +kernel
theorem px_d20_136 : decode prog_16_method_13_code 136 = .ok (.iinc 6 1, 3) := by decide +kernel
theorem px_d20_139 : decode prog_16_method_13_code 139 = .ok (.goto (-90), 3) := by decide +kernel
theorem px_d20_142 : decode prog_16_method_13_code 142 = .ok (.aload_n 0, 1) := by decide +kernel
theorem px_d20_143 : decode prog_16_method_13_code 143 = .ok (.invokevirtual 27, 3) := by decide +kernel
theorem px_d20_146 : decode prog_16_method_13_code 146 = .ok (.iload_n 2, 1) := by decide +kernel
theorem px_d20_147 : decode prog_16_method_13_code 147 = .ok (.ireturn, 1) := by decide +kernel
theorem px_d21_0 : decode prog_16_method_14_code 0 = .ok (.lconst 0, 1) := by decide +kernel
theorem px_d21_1 : decode prog_16_method_14_code 1 = .ok (.lstore_n 3, 1) := by decide +kernel
theorem px_d21_2 : decode prog_16_method_14_code 2 = .ok (.iconst 0, 1) := by decide +kernel
theorem px_d21_3 : decode prog_16_method_14_code 3 = .ok (.istore 5, 2) := by decide +kernel
theorem px_d21_5 : decode prog_16_method_14_code 5 = .ok (.iload 5, 2) := by decide +kernel
theorem px_d21_7 : decode prog_16_method_14_code 7 = .ok (.aload_n 2, 1) := by decide +kernel
theorem px_d21_8 : decode prog_16_method_14_code 8 = .ok (.getfield 13, 3) := by decide +kernel
theorem px_d21_11 : decode prog_16_method_14_code 11 = .ok (.if_icmp .ge 68, 3) := by decide +kernel
theorem px_d21_14 : decode prog_16_method_14_code 14 = .ok (.aload_n 2, 1) := by decide +kernel
theorem px_d21_15 : decode prog_16_method_14_code 15 = .ok (.getfield 7, 3) := by decide +kernel
theorem px_d21_18 : decode prog_16_method_14_code 18 = .ok (.iload 5, 2) := by decide +kernel
theorem px_d21_20 : decode prog_16_method_14_code 20 = .ok (.iaload, 1) := by decide +kernel
theorem px_d21_21 : decode prog_16_method_14_code 21 = .ok (.i2l, 1) := by decide +kernel
theorem px_d21_22 : decode prog_16_method_14_code 22 = .ok (.lload_n 3, 1) := by decide +kernel
theorem px_d21_23 : decode prog_16_method_14_code 23 = .ok (.lsub, 1) := by decide +kernel
theorem px_d21_24 : decode prog_16_method_14_code 24 = .ok (.iload 5, 2) := by decide +kernel
theorem px_d21_26 : decode prog_16_method_14_code 26 = .ok (.aload_n 0, 1) := by decide +kernel
theorem px_d21_27 : decode prog_16_method_14_code 27 = .ok (.getfield 13, 3) := by decide +kernel
theorem px_d21_30 : decode prog_16_method_14_code 30 = .ok (.if_icmp .ge 17, 3) := by decide +kernel
theorem px_d21_33 : decode prog_16_method_14_code 33 = .ok (.aload_n 0, 1) := by decide +kernel
theorem px_d21_34 : decode prog_16_method_14_code 34 = .ok (.getfield 7, 3) := by decide +kernel
theorem px_d21_37 : decode prog_16_method_14_code 37 = .ok (.iload 5, 2) := by decide +kernel
theorem px_d21_39 : decode prog_16_method_14_code 39 = .ok (.iaload, 1) := by decide +kernel
theorem px_d21_40 : decode prog_16_method_14_code 40 = .ok (.i2l, 1) := by decide +kernel
theorem px_d21_41 : decode prog_16_method_14_code 41 = .ok (.iload_n 1, 1) := by decide +kernel
theorem px_d21_42 : decode prog_16_method_14_code 42 = .ok (.i2l, 1) := by decide +kernel
theorem px_d21_43 : decode prog_16_method_14_code 43 = .ok (.lmul, 1) := by decide +kernel
theorem px_d21_44 : decode prog_16_method_14_code 44 = .ok (.goto 4, 3) := by decide +kernel
theorem px_d21_47 : decode prog_16_method_14_code 47 = .ok (.lconst 0, 1) := by decide +kernel
theorem px_d21_48 : decode prog_16_method_14_code 48 = .ok (.lsub, 1) := by decide +kernel
theorem px_d21_49 : decode prog_16_method_14_code 49 = .ok (.lstore 6, 2) := by decide +kernel
theorem px_d21_51 : decode prog_16_method_14_code 51 = .ok (.lload 6, 2) := by decide +kernel
theorem px_d21_53 : decode prog_16_method_14_code 53 = .ok (.lconst 0, 1) := by decide +kernel
theorem px_d21_54 : decode prog_16_method_14_code 54 = .ok (.lcmp, 1) := by decide +kernel
theorem px_d21_55 : decode prog_16_method_14_code 55 = .ok (.ifCond .ge 16, 3) := by decide +kernel
theorem px_d21_58 : decode prog_16_method_14_code 58 = .ok (.ldc2_w 43, 3) := by decide +kernel
theorem px_d21_61 : decode prog_16_method_14_code 61 = .ok (.lload 6, 2) := by decide +kernel
theorem px_d21_63 : decode prog_16_method_14_code 63 = .ok (.lsub, 1) := by decide +kernel
theorem px_d21_64 : decode prog_16_method_14_code 64 = .ok (.ldc2_w 24, 3) := by decide +kernel
theorem px_d21_67 : decode prog_16_method_14_code 67 = .ok (.ldiv, 1) := by decide +kernel
theorem px_d21_68 : decode prog_16_method_14_code 68 = .ok (.goto 4, 3) := by decide +kernel
theorem px_d21_71 : decode prog_16_method_14_code 71 = .ok (.lconst 0, 1) := by decide +kernel
theorem px_d21_72 : decode prog_16_method_14_code 72 = .ok (.lstore_n 3, 1) := by decide +kernel
theorem px_d21_73 : decode prog_16_method_14_code 73 = .ok (.iinc 5 1, 3) := by decide +kernel
theorem px_d21_76 : decode prog_16_method_14_code 76 = .ok (.goto (-71), 3) := by decide +kernel
theorem px_d21_79 : decode prog_16_method_14_code 79 = .ok (.lload_n 3, 1) := by decide +kernel
theorem px_d21_80 : decode prog_16_method_14_code 80 = .ok (.lconst 0, 1) := by decide +kernel
theorem px_d21_81 : decode prog_16_method_14_code 81 = .ok (.lcmp, 1) := by decide +kernel
theorem px_d21_82 : decode prog_16_method_14_code 82 = .ok (.ifCond .ne 7, 3) := by decide +kernel
theorem px_d21_85 : decode prog_16_method_14_code 85 = .ok (.iconst 1, 1) := by decide +kernel
theorem px_d21_86 : decode prog_16_method_14_code 86 = .ok (.goto 4, 3) := by decide +kernel
theorem px_d21_89 : decode prog_16_method_14_code 89 = .ok (.iconst 0, 1) := by decide +kernel
theorem px_d21_90 : decode prog_16_method_14_code 90 = .ok (.ireturn, 1) := by decide +kernel
theorem px_d22_0 : decode prog_15_method_50_code 0 = .ok (.iload_n 1, 1) := by decide +kernel
theorem px_d22_1 : decode prog_15_method_50_code 1 = .ok (.aload_n 0, 1) := by decide +kernel
theorem px_d22_2 : decode prog_15_method_50_code 2 = .ok (.getfield 326, 3) := by decide +kernel
theorem px_d22_5 : decode prog_15_method_50_code 5 = .ok (.if_icmp .ge 12, 3) := by decide +kernel
theorem px_d22_8 : decode prog_15_method_50_code 8 = .ok (.aload_n 0, 1) := by decide +kernel
theorem px_d22_9 : decode prog_15_method_50_code 9 = .ok (.getfield 206, 3) := by decide +kernel
theorem px_d22_12 : decode prog_15_method_50_code 12 = .ok (.iload_n 1, 1) := by decide +kernel
theorem px_d22_13 : decode prog_15_method_50_code 13 = .ok (.baload, 1) := by decide +kernel
theorem px_d22_14 : decode prog_15_method_50_code 14 = .ok (.goto 4, 3) := by decide +kernel
theorem px_d22_17 : decode prog_15_method_50_code 17 = .ok (.iconst (-1), 1) := by decide +kernel
theorem px_d22_18 : decode prog_15_method_50_code 18 = .ok (.ireturn, 1) := by decide +kernel
theorem px_d38_0 : decode prog_15_method_88_code 0 = .ok (.aload_n 0, 1) := by decide +kernel
theorem px_d38_1 : decode prog_15_method_88_code 1 = .ok (.getfield 505, 3) := by decide +kernel
theorem px_d38_4 : decode prog_15_method_88_code 4 = .ok (.ireturn, 1) := by decide +kernel
theorem px_d39_0 : decode prog_15_method_89_code 0 = .ok (.bipush 24, 2) := by decide +kernel
theorem px_d39_2 : decode prog_15_method_89_code 2 = .ok (.istore_n 2, 1) := by decide +kernel
theorem px_d39_3 : decode prog_15_method_89_code 3 = .ok (.iload_n 2, 1) := by decide +kernel
theorem px_d39_4 : decode prog_15_method_89_code 4 = .ok (.ifCond .lt 32, 3) := by decide +kernel
theorem px_d39_7 : decode prog_15_method_89_code 7 = .ok (.aload_n 0, 1) := by decide +kernel
theorem px_d39_8 : decode prog_15_method_89_code 8 = .ok (.getfield 225, 3) := by decide +kernel
theorem px_d39_11 : decode prog_15_method_89_code 11 = .ok (.aload_n 0, 1) := by decide +kernel
theorem px_d39_12 : decode prog_15_method_89_code 12 = .ok (.getfield 508, 3) := by decide +kernel
theorem px_d39_15 : decode prog_15_method_89_code 15 = .ok (.iload_n 1, 1) := by decide +kernel
theorem px_d39_16 : decode prog_15_method_89_code 16 = .ok (.iload_n 2, 1) := by decide +kernel
theorem px_d39_17 : decode prog_15_method_89_code 17 = .ok (.ishr, 1) := by decide +kernel
theorem px_d39_18 : decode prog_15_method_89_code 18 = .ok (.i2b, 1) := by decide +kernel
theorem px_d39_19 : decode prog_15_method_89_code 19 = .ok (.bastore, 1) := by decide +kernel
theorem px_d39_20 : decode prog_15_method_89_code 20 = .ok (.aload_n 0, 1) := by decide +kernel
theorem px_d39_21 : decode prog_15_method_89_code 21 = .ok (.dup, 1) := by decide +kernel
theorem px_d39_22 : decode prog_15_method_89_code 22 = .ok (.getfield 508, 3) := by decide +kernel
theorem px_d39_25 : decode prog_15_method_89_code 25 = .ok (.iconst 1, 1) := by decide +kernel
theorem px_d39_26 : decode prog_15_method_89_code 26 = .ok (.iadd, 1) := by decide +kernel
theorem px_d39_27 : decode prog_15_method_89_code 27 = .ok (.putfield 508, 3) := by decide +kernel
theorem px_d39_30 : decode prog_15_method_89_code 30 = .ok (.iinc 2 (-8), 3) := by decide +kernel
theorem px_d39_33 : decode prog_15_method_89_code 33 = .ok (.goto (-30), 3) := by decide +kernel
theorem px_d39_36 : decode prog_15_method_89_code 36 = .ok (.return_, 1) := by decide +kernel
theorem px_d41_0 : decode prog_15_method_91_code 0 = .ok (.aload_n 0, 1) := by decide +kernel
theorem px_d41_1 : decode prog_15_method_91_code 1 = .ok (.iload_n 1, 1) := by decide +kernel
theorem px_d41_2 : decode prog_15_method_91_code 2 = .ok (.ifCond .lt 11, 3) := by decide +kernel
theorem px_d41_5 : decode prog_15_method_91_code 5 = .ok (.iload_n 1, 1) := by decide +kernel
theorem px_d41_6 : decode prog_15_method_91_code 6 = .ok (.aload_n 0, 1) := by decide +kernel
theorem px_d41_7 : decode prog_15_method_91_code 7 = .ok (.getfield 508, 3) := by decide +kernel
theorem px_d41_10 : decode prog_15_method_91_code 10 = .ok (.if_icmp .le 7, 3) := by decide +kernel
theorem px_d41_13 : decode prog_15_method_91_code 13 = .ok (.iconst 1, 1) := by decide +kernel
theorem px_d41_14 : decode prog_15_method_91_code 14 = .ok (.goto 4, 3) := by decide +kernel
theorem px_d41_17 : decode prog_15_method_91_code 17 = .ok (.iconst 0, 1) := by decide +kernel
theorem px_d41_18 : decode prog_15_method_91_code 18 = .ok (.putfield 505, 3) := by decide +kernel
theorem px_d41_21 : decode prog_15_method_91_code 21 = .ok (.aload_n 0, 1) := by decide +kernel
theorem px_d41_22 : decode prog_15_method_91_code 22 = .ok (.getfield 505, 3) := by decide +kernel
theorem px_d41_25 : decode prog_15_method_91_code 25 = .ok (.ifCond .le 5, 3) := by decide +kernel
theorem px_d41_28 : decode prog_15_method_91_code 28 = .ok (.iconst 0, 1) := by decide +kernel
theorem px_d41_29 : decode prog_15_method_91_code 29 = .ok (.ireturn, 1) := by decide +kernel
theorem px_d41_30 : decode prog_15_method_91_code 30 = .ok (.aload_n 0, 1) := by decide +kernel
theorem px_d41_31 : decode prog_15_method_91_code 31 = .ok (.getfield 508, 3) := by decide +kernel
theorem px_d41_34 : decode prog_15_method_91_code 34 = .ok (.istore_n 2, 1) := by decide +kernel
theorem px_d41_35 : decode prog_15_method_91_code 35 = .ok (.aload_n 0, 1) := by decide +kernel
theorem px_d41_36 : decode prog_15_method_91_code 36 = .ok (.iload_n 1, 1) := by decide +kernel
theorem px_d41_37 : decode prog_15_method_91_code 37 = .ok (.putfield 508, 3) := by decide +kernel
theorem px_d41_40 : decode prog_15_method_91_code 40 = .ok (.iload_n 2, 1) := by decide +kernel
theorem px_d41_41 : decode prog_15_method_91_code 41 = .ok (.ireturn, 1) := by decide +kernel
theorem px_d42_0 : decode prog_15_method_93_code 0 = .ok (.aload_n 0, 1) := by decide +kernel
theorem px_d42_1 : decode prog_15_method_93_code 1 = .ok (.iconst 0, 1) := by decide +kernel
theorem px_d42_2 : decode prog_15_method_93_code 2 = .ok (.putfield 505, 3) := by decide +kernel
theorem px_d42_5 : decode prog_15_method_93_code 5 = .ok (.aload_n 0, 1) := by decide +kernel
theorem px_d42_6 : decode prog_15_method_93_code 6 = .ok (.getfield 209, 3) := by decide +kernel
theorem px_d42_9 : decode prog_15_method_93_code 9 = .ok (.ireturn, 1) := by decide +kernel
theorem px_d43_0 : decode prog_15_method_94_code 0 = .ok (.aload_n 0, 1) := by decide +kernel
theorem px_d43_1 : decode prog_15_method_94_code 1 = .ok (.iconst 0, 1) := by decide +kernel
theorem px_d43_2 : decode prog_15_method_94_code 2 = .ok (.putfield 505, 3) := by decide +kernel
theorem px_d43_5 : decode prog_15_method_94_code 5 = .ok (.aload_n 0, 1) := by decide +kernel
theorem px_d43_6 : decode prog_15_method_94_code 6 = .ok (.getfield 519, 3) := by decide +kernel
theorem px_d43_9 : decode prog_15_method_94_code 9 = .ok (.ireturn, 1) := by decide +kernel
theorem px_d44_0 : decode prog_15_method_95_code 0 = .ok (.aload_n 0, 1) := by decide +kernel
theorem px_d44_1 : decode prog_15_method_95_code 1 = .ok (.iconst 0, 1) := by decide +kernel
theorem px_d44_2 : decode prog_15_method_95_code 2 = .ok (.putfield 505, 3) := by decide +kernel
theorem px_d44_5 : decode prog_15_method_95_code 5 = .ok (.aload_n 0, 1) := by decide +kernel
theorem px_d44_6 : decode prog_15_method_95_code 6 = .ok (.getfield 443, 3) := by decide +kernel
theorem px_d44_9 : decode prog_15_method_95_code 9 = .ok (.ireturn, 1) := by decide +kernel
theorem px_d45_0 : decode prog_15_method_96_code 0 = .ok (.aload_n 0, 1) := by decide +kernel
theorem px_d45_1 : decode prog_15_method_96_code 1 = .ok (.iconst 0, 1) := by decide +kernel
theorem px_d45_2 : decode prog_15_method_96_code 2 = .ok (.putfield 505, 3) := by decide +kernel
theorem px_d45_5 : decode prog_15_method_96_code 5 = .ok (.iload_n 1, 1) := by decide +kernel
theorem px_d45_6 : decode prog_15_method_96_code 6 = .ok (.ifCond .lt 20, 3) := by decide +kernel
theorem px_d45_9 : decode prog_15_method_96_code 9 = .ok (.iload_n 1, 1) := by decide +kernel
theorem px_d45_10 : decode prog_15_method_96_code 10 = .ok (.aload_n 0, 1) := by decide +kernel
theorem px_d45_11 : decode prog_15_method_96_code 11 = .ok (.getfield 443, 3) := by decide +kernel
theorem px_d45_14 : decode prog_15_method_96_code 14 = .ok (.if_icmp .ge 12, 3) := by decide +kernel
theorem px_d45_17 : decode prog_15_method_96_code 17 = .ok (.aload_n 0, 1) := by decide +kernel
theorem px_d45_18 : decode prog_15_method_96_code 18 = .ok (.getfield 219, 3) := by decide +kernel
theorem px_d45_21 : decode prog_15_method_96_code 21 = .ok (.iload_n 1, 1) := by decide +kernel
theorem px_d45_22 : decode prog_15_method_96_code 22 = .ok (.baload, 1) := by decide +kernel
theorem px_d45_23 : decode prog_15_method_96_code 23 = .ok (.goto 4, 3) := by decide +kernel
theorem px_d45_26 : decode prog_15_method_96_code 26 = .ok (.iconst (-1), 1) := by decide +kernel
theorem px_d45_27 : decode prog_15_method_96_code 27 = .ok (.ireturn, 1) := by decide +kernel
