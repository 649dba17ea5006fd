theorem px_d12_22 : decode prog_16_method_5_code 22 = .ok (.ifCond .ne 7, 3) := by decide +kernel
theorem px_d12_25 : decode prog_16_method_5_code 25 = .ok (.iconst 1, 1) := by decide +kernel
theorem px_d12_26 : decode prog_16_method_5_code 26 = .ok (.goto 4, 3) := by decide +kernel
theorem px_d12_29 : decode prog_16_method_5_code 29 = .ok (.iconst 0, 1) := by decide +kernel
theorem px_d12_30 : decode prog_16_method_5_code 30 = .ok (.ireturn, 1) := by decide +kernel
theorem px_d13_0 : decode prog_16_method_6_code 0 = .ok (.aload_n 0, 1) := by decide +kernel
theorem px_d13_1 : decode prog_16_method_6_code 1 = .ok (.getfield 13, 3) := by decide +kernel
theorem px_d13_4 : decode prog_16_method_6_code 4 = .ok (.ifCond .ne 7, 3) := by decide +kernel
theorem px_d13_7 : decode prog_16_method_6_code 7 = .ok (.iconst 0, 1) := by decide +kernel
theorem px_d13_8 : decode prog_16_method_6_code 8 = .ok (.goto 15, 3) := by decide +kernel
theorem px_d13_11 : decode prog_16_method_6_code 11 = .ok (.aload_n 0, 1) := by decide +kernel
theorem px_d13_12 : decode prog_16_method_6_code 12 = .ok (.getfield 17, 3) := by decide +kernel
theorem px_d13_15 : decode prog_16_method_6_code 15 = .ok (.ifCond .eq 7, 3) := by decide +kernel
theorem px_d13_18 : decode prog_16_method_6_code 18 = .ok (.iconst (-1), 1) := by decide +kernel
theorem px_d13_19 : decode prog_16_method_6_code 19 = .ok (.goto 4, 3) := by decide +kernel
theorem px_d13_22 : decode prog_16_method_6_code 22 = .ok (.iconst 1, 1) := by decide +kernel
theorem px_d13_23 : decode prog_16_method_6_code 23 = .ok (.ireturn, 1) := by decide +kernel
theorem px_d14_0 : decode prog_16_method_7_code 0 = .ok (.aload_n 0, 1) := by decide +kernel
theorem px_d14_1 : decode prog_16_method_7_code 1 = .ok (.aload_n 0, 1) := by decide +kernel
theorem px_d14_2 : decode prog_16_method_7_code 2 = .ok (.getfield 13, 3) := by decide +kernel
theorem px_d14_5 : decode prog_16_method_7_code 5 = .ok (.ifCond .le 14, 3) := by decide +kernel
theorem px_d14_8 : decode prog_16_method_7_code 8 = .ok (.aload_n 0, 1) := by decide +kernel
theorem px_d14_9 : decode prog_16_method_7_code 9 = .ok (.getfield 17, 3) := by decide +kernel
theorem px_d14_12 : decode prog_16_method_7_code 12 = .ok (.ifCond .ne 7, 3) := by decide +kernel
theorem px_d14_15 : decode prog_16_method_7_code 15 = .ok (.iconst 1, 1) := by decide +kernel
theorem px_d14_16 : decode prog_16_method_7_code 16 = .ok (.goto 4, 3) := by decide +kernel
theorem px_d14_19 : decode prog_16_method_7_code 19 = .ok (.iconst 0, 1) := by decide +kernel
theorem px_d14_20 : decode prog_16_method_7_code 20 = .ok (.putfield 17, 3) := by decide +kernel
theorem px_d14_23 : decode prog_16_method_7_code 23 = .ok (.return_, 1) := by decide +kernel
theorem px_d15_0 : decode prog_16_method_8_code 0 = .ok (.aload_n 0, 1) := by decide +kernel
theorem px_d15_1 : decode prog_16_method_8_code 1 = .ok (.getfield 13, 3) := by decide +kernel
theorem px_d15_4 : decode prog_16_method_8_code 4 = .ok (.ifCond .le 30, 3) := by decide +kernel
theorem px_d15_7 : decode prog_16_method_8_code 7 = .ok (.aload_n 0, 1) := by decide +kernel
theorem px_d15_8 : decode prog_16_method_8_code 8 = .ok (.getfield 7, 3) := by decide +kernel
theorem px_d15_11 : decode prog_16_method_8_code 11 = .ok (.aload_n 0, 1) := by decide +kernel
theorem px_d15_12 : decode prog_16_method_8_code 12 = .ok (.getfield 13, 3) := by decide +kernel
theorem px_d15_15 : decode prog_16_method_8_code 15 = .ok (.iconst 1, 1) := by decide +kernel
theorem px_d15_16 : decode prog_16_method_8_code 16 = .ok (.isub, 1) := by decide +kernel
theorem px_d15_17 : decode prog_16_method_8_code 17 = .ok (.iaload, 1) := by decide +kernel
theorem px_d15_18 : decode prog_16_method_8_code 18 = .ok (.ifCond .ne 16, 3) := by decide +kernel
theorem px_d15_21 : decode prog_16_method_8_code 21 = .ok (.aload_n 0, 1) := by decide +kernel
theorem px_d15_22 : decode prog_16_method_8_code 22 = .ok (.dup, 1) := by decide +kernel
theorem px_d15_23 : decode prog_16_method_8_code 23 = .ok (.getfield 13, 3) := by decide +kernel
theorem px_d15_26 : decode prog_16_method_8_code 26 = .ok (.iconst 1, 1) := by decide +kernel
theorem px_d15_27 : decode prog_16_method_8_code 27 = .ok (.isub, 1) := by decide +kernel
theorem px_d15_28 : decode prog_16_method_8_code 28 = .ok (.putfield 13, 3) := by decide +kernel
theorem px_d15_31 : decode prog_16_method_8_code 31 = .ok (.goto (-31), 3) := by decide +kernel
theorem px_d15_34 : decode prog_16_method_8_code 34 = .ok (.aload_n 0, 1) := by decide +kernel
theorem px_d15_35 : decode prog_16_method_8_code 35 = .ok (.aload_n 0, 1) := by decide +kernel
theorem px_d15_36 : decode prog_16_method_8_code 36 = .ok (.getfield 17, 3) := by decide +kernel
theorem px_d15_39 : decode prog_16_method_8_code 39 = .ok (.ifCond .eq 14, 3) := by decide +kernel
theorem px_d15_42 : decode prog_16_method_8_code 42 = .ok (.aload_n 0, 1) := by decide +kernel
theorem px_d15_43 : decode prog_16_method_8_code 43 = .ok (.getfield 13, 3) := by decide +kernel
theorem px_d15_46 : decode prog_16_method_8_code 46 = .ok (.ifCond .le 7, 3) := by decide +kernel
theorem px_d15_49 : decode prog_16_method_8_code 49 = .ok (.iconst 1, 1) := by decide +kernel
theorem px_d15_50 : decode prog_16_method_8_code 50 = .ok (.goto 4, 3) := by decide +kernel
theorem px_d15_53 : decode prog_16_method_8_code 53 = .ok (.iconst 0, 1) := by decide +kernel
theorem px_d15_54 : decode prog_16_method_8_code 54 = .ok (.putfield 17, 3) := by decide +kernel
theorem px_d15_57 : decode prog_16_method_8_code 57 = .ok (.return_, 1) := by decide +kernel
theorem px_d16_0 : decode prog_16_method_9_code 0 = .ok (.aload_n 0, 1) := by decide +kernel
theorem px_d16_1 : decode prog_16_method_9_code 1 = .ok (.getfield 13, 3) := by decide +kernel
theorem px_d16_4 : decode prog_16_method_9_code 4 = .ok (.aload_n 1, 1) := by decide +kernel
theorem px_d16_5 : decode prog_16_method_9_code 5 = .ok (.getfield 13, 3) := by decide +kernel
theorem px_d16_8 : decode prog_16_method_9_code 8 = .ok (.if_icmp .eq 20, 3) := by decide +kernel
theorem px_d16_11 : decode prog_16_method_9_code 11 = .ok (.aload_n 0, 1) := by decide +kernel
theorem px_d16_12 : decode prog_16_method_9_code 12 = .ok (.getfield 13, 3) := by decide +kernel
theorem px_d16_15 : decode prog_16_method_9_code 15 = .ok (.aload_n 1, 1) := by decide +kernel
theorem px_d16_16 : decode prog_16_method_9_code 16 = .ok (.getfield 13, 3) := by decide +kernel
theorem px_d16_19 : decode prog_16_method_9_code 19 = .ok (.if_icmp .ge 7, 3) := by decide +kernel
theorem px_d16_22 : decode prog_16_method_9_code 22 = .ok (.iconst (-1), 1) := by decide +kernel
theorem px_d16_23 : decode prog_16_method_9_code 23 = .ok (.goto 4, 3) := by decide +kernel
theorem px_d16_26 : decode prog_16_method_9_code 26 = .ok (.iconst 1, 1) := by decide +kernel
theorem px_d16_27 : decode prog_16_method_9_code 27 = .ok (.ireturn, 1) := by decide +kernel
theorem px_d16_28 : decode prog_16_method_9_code 28 = .ok (.aload_n 0, 1) := by decide +kernel
theorem px_d16_29 : decode prog_16_method_9_code 29 = .ok (.getfield 13, 3) := by decide +kernel
theorem px_d16_32 : decode prog_16_method_9_code 32 = .ok (.iconst 1, 1) := by decide +kernel
theorem px_d16_33 : decode prog_16_method_9_code 33 = .ok (.isub, 1) := by decide +kernel
theorem px_d16_34 : decode prog_16_method_9_code 34 = .ok (.istore_n 2, 1) := by decide +kernel
theorem px_d16_35 : decode prog_16_method_9_code 35 = .ok (.iload_n 2, 1) := by decide +kernel
theorem px_d16_36 : decode prog_16_method_9_code 36 = .ok (.ifCond .lt 24, 3) := by decide +kernel
theorem px_d16_39 : decode prog_16_method_9_code 39 = .ok (.aload_n 0, 1) := by decide +kernel
theorem px_d16_40 : decode prog_16_method_9_code 40 = .ok (.getfield 7, 3) := by decide +kernel
theorem px_d16_43 : decode prog_16_method_9_code 43 = .ok (.iload_n 2, 1) := by decide +kernel
theorem px_d16_44 : decode prog_16_method_9_code 44 = .ok (.iaload, 1) := by decide +kernel
theorem px_d16_45 : decode prog_16_method_9_code 45 = .ok (.aload_n 1, 1) := by decide +kernel
theorem px_d16_46 : decode prog_16_method_9_code 46 = .ok (.getfield 7, 3) := by decide +kernel
theorem px_d16_49 : decode prog_16_method_9_code 49 = .ok (.iload_n 2, 1) := by decide +kernel
theorem px_d16_50 : decode prog_16_method_9_code 50 = .ok (.iaload, 1) := by decide +kernel
theorem px_d16_51 : decode prog_16_method_9_code 51 = .ok (.if_icmp .ne 9, 3) := by decide +kernel
theorem px_d16_54 : decode prog_16_method_9_code 54 = .ok (.iinc 2 (-1), 3) := by decide +kernel
theorem px_d16_57 : decode prog_16_method_9_code 57 = .ok (.goto (-22), 3) := by decide +kernel
theorem px_d16_60 : decode prog_16_method_9_code 60 = .ok (.iload_n 2, 1) := by decide +kernel
theorem px_d16_61 : decode prog_16_method_9_code 61 = .ok (.ifCond .ge 7, 3) := by decide +kernel
theorem px_d16_64 : decode prog_16_method_9_code 64 = .ok (.iconst 0, 1) := by decide +kernel
theorem px_d16_65 : decode prog_16_method_9_code 65 = .ok (.goto 23, 3) := by decide +kernel
theorem px_d16_68 : decode prog_16_method_9_code 68 = .ok (.aload_n 0, 1) := by decide +kernel
theorem px_d16_69 : decode prog_16_method_9_code 69 = .ok (.getfield 7, 3) := by decide +kernel
theorem px_d16_72 : decode prog_16_method_9_code 72 = .ok (.iload_n 2, 1) := by decide +kernel
theorem px_d16_73 : decode prog_16_method_9_code 73 = .ok (.iaload, 1) := by decide +kernel
theorem px_d16_74 : decode prog_16_method_9_code 74 = .ok (.aload_n 1, 1) := by decide +kernel
theorem px_d16_75 : decode prog_16_method_9_code 75 = .ok (.getfield 7, 3) := by decide +kernel
theorem px_d16_78 : decode prog_16_method_9_code 78 = .ok (.iload_n 2, 1) := by decide +kernel
theorem px_d16_79 : decode prog_16_method_9_code 79 = .ok (.iaload, 1) := by decide +kernel
theorem px_d16_80 : decode prog_16_method_9_code 80 = .ok (.if_icmp .ge 7, 3) := by decide +kernel
theorem px_d16_83 : decode prog_16_method_9_code 83 = .ok (.iconst (-1), 1) := by decide +kernel
theorem px_d16_84 : decode prog_16_method_9_code 84 = .ok (.goto 4, 3) := by decide +kernel
theorem px_d16_87 : decode prog_16_method_9_code 87 = .ok (.iconst 1, 1) := by decide +kernel
theorem px_d16_88 : decode prog_16_method_9_code 88 = .ok (.ireturn, 1) := by decide +kernel
theorem px_d18_0 : decode prog_16_method_11_code 0 = .ok (.aload_n 0, 1) := by decide +kernel
theorem px_d18_1 : decode prog_16_method_11_code 1 = .ok (.aload_n 1, 1) := by decide +kernel
theorem px_d18_2 : decode prog_16_method_11_code 2 = .ok (.getfield 13, 3) := by decide +kernel
theorem px_d18_5 : decode prog_16_method_11_code 5 = .ok (.aload_n 2, 1) := by decide +kernel
theorem px_d18_6 : decode prog_16_method_11_code 6 = .ok (.getfield 13, 3) := by decide +kernel
theorem px_d18_9 : decode prog_16_method_11_code 9 = .ok (.iadd, 1) := by decide +kernel
theorem px_d18_10 : decode prog_16_method_11_code 10 = .ok (.putfield 13, 3) := by decide +kernel
theorem px_d18_13 : decode prog_16_method_11_code 13 = .ok (.iconst 0, 1) := by decide +kernel
theorem px_d18_14 : decode prog_16_method_11_code 14 = .ok (.istore_n 3, 1) := by decide +kernel
theorem px_d18_15 : decode prog_16_method_11_code 15 = .ok (.iload_n 3, 1) := by decide +kernel
theorem px_d18_16 : decode prog_16_method_11_code 16 = .ok (.aload_n 0, 1) := by decide +kernel
theorem px_d18_17 : decode prog_16_method_11_code 17 = .ok (.getfield 13, 3) := by decide +kernel
theorem px_d18_20 : decode prog_16_method_11_code 20 = .ok (.if_icmp .ge 16, 3) := by decide +kernel
theorem px_d18_23 : decode prog_16_method_11_code 23 = .ok (.aload_n 0, 1) := by decide +kernel
theorem px_d18_24 : decode prog_16_method_11_code 24 = .ok (.getfield 7, 3) := by decide +kernel
theorem px_d18_27 : decode prog_16_method_11_code 27 = .ok (.iload_n 3, 1) := by decide +kernel
theorem px_d18_28 : decode prog_16_method_11_code 28 = .ok (.iconst 0, 1) := by decide +kernel
theorem px_d18_29 : decode prog_16_method_11_code 29 = .ok (.iastore, 1) := by decide +kernel
theorem px_d18_30 : decode prog_16_method_11_code 30 = .ok (.iinc 3 1, 3) := by decide +kernel
theorem px_d18_33 : decode prog_16_method_11_code 33 = .ok (.goto (-18), 3) := by decide +kernel
theorem px_d18_36 : decode prog_16_method_11_code 36 = .ok (.iconst 0, 1) := by decide +kernel
theorem px_d18_37 : decode prog_16_method_11_code 37 = .ok (.istore_n 3, 1) := by decide +kernel
theorem px_d18_38 : decode prog_16_method_11_code 38 = .ok (.iload_n 3, 1) := by decide +kernel
theorem px_d18_39 : decode prog_16_method_11_code 39 = .ok (.aload_n 1, 1) := by decide +kernel
theorem px_d18_40 : decode prog_16_method_11_code 40 = .ok (.getfield 13, 3) := by decide +kernel
theorem px_d18_43 : decode prog_16_method_11_code 43 = .ok (.if_icmp .ge 100, 3) := by decide +kernel
theorem px_d18_46 : decode prog_16_method_11_code 46 = .ok (.lconst 0, 1) := by decide +kernel
theorem px_d18_47 : decode prog_16_method_11_code 47 = .ok (.lstore 4, 2) := by decide +kernel
theorem px_d18_49 : decode prog_16_method_11_code 49 = .ok (.iconst 0, 1) := by decide +kernel
theorem px_d18_50 : decode prog_16_method_11_code 50 = .ok (.istore 6, 2) := by decide +kernel
theorem px_d18_52 : decode prog_16_method_11_code 52 = .ok (.iload 6, 2) := by decide +kernel
theorem px_d18_54 : decode prog_16_method_11_code 54 = .ok (.aload_n 2, 1) := by decide +kernel
theorem px_d18_55 : decode prog_16_method_11_code 55 = .ok (.getfield 13, 3) := by decide +kernel
theorem px_d18_58 : decode prog_16_method_11_code 58 = .ok (.if_icmp .ge 65, 3) := by decide +kernel
theorem px_d18_61 : decode prog_16_method_11_code 61 = .ok (.lload 4, 2) := by decide +kernel
theorem px_d18_63 : decode prog_16_method_11_code 63 = .ok (.aload_n 1, 1) := by decide +kernel
theorem px_d18_64 : decode prog_16_method_11_code 64 = .ok (.getfield 7, 3) := by decide +kernel
theorem px_d18_67 : decode prog_16_method_11_code 67 = .ok (.iload_n 3, 1) := by decide +kernel
theorem px_d18_68 : decode prog_16_method_11_code 68 = .ok (.iaload, 1) := by decide +kernel
theorem px_d18_69 : decode prog_16_method_11_code 69 = .ok (.i2l, 1) := by decide +kernel
theorem px_d18_70 : decode prog_16_method_11_code 70 = .ok (.aload_n 2, 1) := by decide +kernel
theorem px_d18_71 : decode prog_16_method_11_code 71 = .ok (.getfield 7, 3) := by decide +kernel
theorem px_d18_74 : decode prog_16_method_11_code 74 = .ok (.iload 6, 2) := by decide +kernel
theorem px_d18_76 : decode prog_16_method_11_code 76 = .ok (.iaload, 1) := by decide +kernel
theorem px_d18_77 : decode prog_16_method_11_code 77 = .ok (.i2l, 1) := by decide +kernel
theorem px_d18_78 : decode prog_16_method_11_code 78 = .ok (.lmul, 1) := by decide +kernel
theorem px_d18_79 : decode prog_16_method_11_code 79 = .ok (.aload_n 0, 1) := by decide +kernel
theorem px_d18_80 : decode prog_16_method_11_code 80 = .ok (.getfield 7, 3) := by decide +kernel
theorem px_d18_83 : decode prog_16_method_11_code 83 = .ok (.iload_n 3, 1) := by decide +kernel
theorem px_d18_84 : decode prog_16_method_11_code 84 = .ok (.iload 6, 2) := by decide +kernel
theorem px_d18_86 : decode prog_16_method_11_code 86 = .ok (.iadd, 1) := by decide +kernel
theorem px_d18_87 : decode prog_16_method_11_code 87 = .ok (.iaload, 1) := by decide +kernel
theorem px_d18_88 : decode prog_16_method_11_code 88 = .ok (.i2l, 1) := by decide +kernel
theorem px_d18_89 : decode prog_16_method_11_code 89 = .ok (.ladd, 1) := by decide +kernel
theorem px_d18_90 : decode prog_16_method_11_code 90 = .ok (.ladd, 1) := by decide +kernel
theorem px_d18_91 : decode prog_16_method_11_code 91 = .ok (.lstore 4, 2) := by decide +kernel
theorem px_d18_93 : decode prog_16_method_11_code 93 = .ok (.aload_n 0, 1) := by decide +kernel
theorem px_d18_94 : decode prog_16_method_11_code 94 = .ok (.getfield 7, 3) := by decide +kernel
theorem px_d18_97 : decode prog_16_method_11_code 97 = .ok (.iload_n 3, 1) := by decide +kernel
theorem px_d18_98 : decode prog_16_method_11_code 98 = .ok (.iload 6, 2) := by decide +kernel
theorem px_d18_100 : decode prog_16_method_11_code 100 = .ok (.iadd, 1) := by decide +kernel
theorem px_d18_101 : decode prog_16_method_11_code 101 = .ok (.lload 4, 2) := by decide +kernel
theorem px_d18_103 : decode prog_16_method_11_code 103 = .ok (.ldc2_w 24, 3) := by decide +kernel
theorem px_d18_106 : decode prog_16_method_11_code 106 = .ok (.lrem, 1) := by decide +kernel
theorem px_d18_107 : decode prog_16_method_11_code 107 = .ok (.l2i, 1) := by decide +kernel
theorem px_d18_108 : decode prog_16_method_11_code 108 = .ok (.iastore, 1) := by decide +kernel
theorem px_d18_109 : decode prog_16_method_11_code 109 = .ok (.lload 4, 2) := by decide +kernel
theorem px_d18_111 : decode prog_16_method_11_code 111 = .ok (.ldc2_w 24, 3) := by decide +kernel
theorem px_d18_114 : decode prog_16_method_11_code 114 = .ok (.ldiv, 1) := by decide +kernel
theorem px_d18_115 : decode prog_16_method_11_code 115 = .ok (.lstore 4, 2) := by decide +kernel
theorem px_d18_117 : decode prog_16_method_11_code 117 = .ok (.iinc 6 1, 3) := by decide +kernel
theorem px_d18_120 : decode prog_16_method_11_code 120 = .ok (.goto (-68), 3) := by decide +kernel
theorem px_d18_123 : decode prog_16_method_11_code 123 = .ok (.aload_n 0, 1) := by decide +kernel
theorem px_d18_124 : decode prog_16_method_11_code 124 = .ok (.getfield 7, 3) := by decide +kernel
theorem px_d18_127 : decode prog_16_method_11_code 127 = .ok (.iload_n 3, 1) := by decide +kernel
theorem px_d18_128 : decode prog_16_method_11_code 128 = .ok (.aload_n 2, 1) := by decide +kernel
theorem px_d18_129 : decode prog_16_method_11_code 129 = .ok (.getfield 13, 3) := by decide +kernel
theorem px_d18_132 : decode prog_16_method_11_code 132 = .ok (.iadd, 1) := by decide +kernel
theorem px_d18_133 : decode prog_16_method_11_code 133 = .ok (.lload 4, 2) := by decide +kernel
theorem px_d18_135 : decode prog_16_method_11_code 135 = .ok (.l2i, 1) := by decide +kernel
theorem px_d18_136 : decode prog_16_method_11_code 136 = .ok (.iastore, 1) := by decide +kernel
theorem px_d18_137 : decode prog_16_method_11_code 137 = .ok (.iinc 3 1, 3) := by decide +kernel
theorem px_d18_140 : decode prog_16_method_11_code 140 = .ok (.goto (-102), 3) := by decide +kernel
theorem px_d18_143 : decode prog_16_method_11_code 143 = .ok (.aload_n 0, 1) := by decide +kernel
theorem px_d18_144 : decode prog_16_method_11_code 144 = .ok (.aload_n 1, 1) := by decide +kernel
theorem px_d18_145 : decode prog_16_method_11_code 145 = .ok (.getfield 17, 3) := by decide +kernel
theorem px_d18_148 : decode prog_16_method_11_code 148 = .ok (.aload_n 2, 1) := by decide +kernel
theorem px_d18_149 : decode prog_16_method_11_code 149 = .ok (.getfield 17, 3) := by decide +kernel
theorem px_d18_152 : decode prog_16_method_11_code 152 = .ok (.if_icmp .eq 7, 3) := by decide +kernel
theorem px_d18_155 : decode prog_16_method_11_code 155 = .ok (.iconst 1, 1) := by decide +kernel
theorem px_d18_156 : decode prog_16_method_11_code 156 = .ok (.goto 4, 3) := by decide +kernel
theorem px_d18_159 : decode prog_16_method_11_code 159 = .ok (.iconst 0, 1) := by decide +kernel
theorem px_d18_160 : decode prog_16_method_11_code 160 = .ok (.putfield 17, 3) := by decide +kernel
theorem px_d18_163 : decode prog_16_method_11_code 163 = .ok (.aload_n 0, 1) := by decide +kernel
theorem px_d18_164 : decode prog_16_method_11_code 164 = .ok (.invokevirtual 27, 3) := by decide +kernel
theorem px_d18_167 : decode prog_16_method_11_code 167 = .ok (.return_, 1) := by decide +kernel
theorem px_d19_0 : decode prog_16_method_12_code 0 = .ok (.aload_n 3, 1) := by decide +kernel
theorem px_d19_1 : decode prog_16_method_12_code 1 = .ok (.invokevirtual 21, 3) := by decide +kernel
theorem px_d19_4 : decode prog_16_method_12_code 4 = .ok (.aload_n 1, 1) := by decide +kernel
theorem px_d19_5 : decode prog_16_method_12_code 5 = .ok (.getfield 13, 3) := by decide +kernel
theorem px_d19_8 : decode prog_16_method_12_code 8 = .ok (.iconst 1, 1) := by decide +kernel
theorem px_d19_9 : decode prog_16_method_12_code 9 = .ok (.isub, 1) := by decide +kernel
theorem px_d19_10 : decode prog_16_method_12_code 10 = .ok (.istore 4, 2) := by decide +kernel
theorem px_d19_12 : decode prog_16_method_12_code 12 = .ok (.iload 4, 2) := by decide +kernel
theorem px_d19_14 : decode prog_16_method_12_code 14 = .ok (.ifCond .lt 97, 3) := by decide +kernel
theorem px_d19_17 : decode prog_16_method_12_code 17 = .ok (.aload_n 3, 1) := by decide +kernel
theorem px_d19_18 : decode prog_16_method_12_code 18 = .ok (.getfield 13, 3) := by decide +kernel
theorem px_d19_21 : decode prog_16_method_12_code 21 = .ok (.istore 5, 2) := by decide +kernel
theorem px_d19_23 : decode prog_16_method_12_code 23 = .ok (.iload 5, 2) := by decide +kernel
theorem px_d19_25 : decode prog_16_method_12_code 25 = .ok (.ifCond .le 25, 3) := by decide +kernel
theorem px_d19_28 : decode prog_16_method_12_code 28 = .ok (.aload_n 3, 1) := by decide +kernel
theorem px_d19_29 : decode prog_16_method_12_code 29 = .ok (.getfield 7, 3) := by decide +kernel
theorem px_d19_32 : decode prog_16_method_12_code 32 = .ok (.iload 5, 2) := by decide +kernel
theorem px_d19_34 : decode prog_16_method_12_code 34 = .ok (.aload_n 3, 1) := by decide +kernel
theorem px_d19_35 : decode prog_16_method_12_code 35 = .ok (.getfield 7, 3) := by decide +kernel
theorem px_d19_38 : decode prog_16_method_12_code 38 = .ok (.iload 5, 2) := by decide +kernel
theorem px_d19_40 : decode prog_16_method_12_code 40 = .ok (.iconst 1, 1) := by decide +kernel
theorem px_d19_41 : decode prog_16_method_12_code 41 = .ok (.isub, 1) := by decide +kernel
theorem px_d19_42 : decode prog_16_method_12_code 42 = .ok (.iaload, 1) := by decide +kernel
theorem px_d19_43 : decode prog_16_method_12_code 43 = .ok (.iastore, 1) := by decide +kernel
theorem px_d19_44 : decode prog_16_method_12_code 44 = .ok (.iinc 5 (-1), 3) := by decide +kernel
theorem px_d19_47 : decode prog_16_method_12_code 47 = .ok (.goto (-24), 3) := by decide +kernel
theorem px_d19_50 : decode prog_16_method_12_code 50 = .ok (.aload_n 3, 1) := by decide +kernel
theorem px_d19_51 : decode prog_16_method_12_code 51 = .ok (.getfield 7, 3) := by decide +kernel
theorem px_d19_54 : decode prog_16_method_12_code 54 = .ok (.iconst 0, 1) := by decide +kernel
theorem px_d19_55 : decode prog_16_method_12_code 55 = .ok (.aload_n 1, 1) := by decide +kernel
theorem px_d19_56 : decode prog_16_method_12_code 56 = .ok (.getfield 7, 3) := by decide +kernel
theorem px_d19_59 : decode prog_16_method_12_code 59 = .ok (.iload 4, 2) := by decide +kernel
theorem px_d19_61 : decode prog_16_method_12_code 61 = .ok (.iaload, 1) := by decide +kernel
theorem px_d19_62 : decode prog_16_method_12_code 62 = .ok (.iastore, 1) := by decide +kernel
theorem px_d19_63 : decode prog_16_method_12_code 63 = .ok (.aload_n 3, 1) := by decide +kernel
theorem px_d19_64 : decode prog_16_method_12_code 64 = .ok (.dup, 1) := by decide +kernel
theorem px_d19_65 : decode prog_16_method_12_code 65 = .ok (.getfield 13, 3) := by decide +kernel
theorem px_d19_68 : decode prog_16_method_12_code 68 = .ok (.iconst 1, 1) := by decide +kernel
theorem px_d19_69 : decode prog_16_method_12_code 69 = .ok (.iadd, 1) := by decide +kernel
theorem px_d19_70 : decode prog_16_method_12_code 70 = .ok (.putfield 13, 3) := by decide +kernel
theorem px_d19_73 : decode prog_16_method_12_code 73 = .ok (.aload_n 3, 1) := by decide +kernel
theorem px_d19_74 : decode prog_16_method_12_code 74 = .ok (.invokevirtual 27, 3) := by decide +kernel
theorem px_d19_77 : decode prog_16_method_12_code 77 = .ok (.aload_n 0, 1) := by decide +kernel
theorem px_d19_78 : decode prog_16_method_12_code 78 = .ok (.getfield 7, 3) := by decide +kernel
theorem px_d19_81 : decode prog_16_method_12_code 81 = .ok (.iload 4, 2) := by decide +kernel
theorem px_d19_83 : decode prog_16_method_12_code 83 = .ok (.iconst 0, 1) := by decide +kernel
theorem px_d19_84 : decode prog_16_method_12_code 84 = .ok (.iastore, 1) := by decide +kernel
theorem px_d19_85 : decode prog_16_method_12_code 85 = .ok (.aload_n 3, 1) := by decide +kernel
theorem px_d19_86 : decode prog_16_method_12_code 86 = .ok (.aload_n 2, 1) := by decide +kernel
theorem px_d19_87 : decode prog_16_method_12_code 87 = .ok (.invokevirtual 30, 3) := by decide +kernel
theorem px_d19_90 : decode prog_16_method_12_code 90 = .ok (.ifCond .lt 15, 3) := by decide +kernel
theorem px_d19_93 : decode prog_16_method_12_code 93 = .ok (.aload_n 0, 1) := by decide +kernel
theorem px_d19_94 : decode prog_16_method_12_code 94 = .ok (.getfield 7, 3) := by decide +kernel
theorem px_d19_97 : decode prog_16_method_12_code 97 = .ok (.iload 4, 2) := by decide +kernel
theorem px_d19_99 : decode prog_16_method_12_code 99 = .ok (.aload_n 3, 1) := by decide +kernel
theorem px_d19_100 : decode prog_16_method_12_code 100 = .ok (.aload_n 2, 1) := by decide +kernel
theorem px_d19_101 : decode prog_16_method_12_code 101 = .ok (.invokestatic 34, 3) := by decide +kernel
theorem px_d19_104 : decode prog_16_method_12_code 104 = .ok (.iastore, 1) := by decide +kernel
theorem px_d19_105 : decode prog_16_method_12_code 105 = .ok (.iinc 4 (-1), 3) := by decide +kernel
theorem px_d19_108 : decode prog_16_method_12_code 108 = .ok (.goto (-96), 3) := by decide +kernel
theorem px_d19_111 : decode prog_16_method_12_code 111 = .ok (.aload_n 0, 1) := by decide +kernel
theorem px_d19_112 : decode prog_16_method_12_code 112 = .ok (.aload_n 1, 1) := by decide +kernel
theorem px_d19_113 : decode prog_16_method_12_code 113 = .ok (.getfield 13, 3) := by decide +kernel
theorem px_d19_116 : decode prog_16_method_12_code 116 = .ok (.putfield 13, 3) := by decide +kernel
theorem px_d19_119 : decode prog_16_method_12_code 119 = .ok (.aload_n 0, 1) := by decide +kernel
theorem px_d19_120 : decode prog_16_method_12_code 120 = .ok (.aload_n 1, 1) := by decide +kernel
theorem px_d19_121 : decode prog_16_method_12_code 121 = .ok (.getfield 17, 3) := by decide +kernel
theorem px_d19_124 : decode prog_16_method_12_code 124 = .ok (.aload_n 2, 1) := by decide +kernel
theorem px_d19_125 : decode prog_16_method_12_code 125 = .ok (.getfield 17, 3) := by decide +kernel
theorem px_d19_128 : decode prog_16_method_12_code 128 = .ok (.if_icmp .eq 7, 3) := by decide +kernel
theorem px_d19_131 : decode prog_16_method_12_code 131 = .ok (.iconst 1, 1) := by decide +kernel
theorem px_d19_132 : decode prog_16_method_12_code 132 = .ok (.goto 4, 3) := by decide +kernel
theorem px_d19_135 : decode prog_16_method_12_code 135 = .ok (.iconst 0, 1) := by decide +kernel
theorem px_d19_136 : decode prog_16_method_12_code 136 = .ok (.putfield 17, 3) := by decide +kernel
theorem px_d19_139 : decode prog_16_method_12_code 139 = .ok (.aload_n 0, 1) := by decide +kernel
theorem px_d19_140 : decode prog_16_method_12_code 140 = .ok (.invokevirtual 27, 3) := by decide +kernel
theorem px_d19_143 : decode prog_16_method_12_code 143 = .ok (.return_, 1) := by decide +kernel
theorem px_d20_0 : decode prog_16_method_13_code 0 = .ok (.iconst 1, 1) := by decide +kernel
theorem px_d20_1 : decode prog_16_method_13_code 1 = .ok (.istore_n 2, 1) := by decide +kernel
theorem px_d20_2 : decode prog_16_method_13_code 2 = .ok (.ldc 38, 2) := by decide +kernel
theorem px_d20_4 : decode prog_16_method_13_code 4 = .ok (.istore_n 3, 1) := by decide +kernel
theorem px_d20_5 : decode prog_16_method_13_code 5 = .ok (.iload_n 2, 1) := by decide +kernel
theorem px_d20_6 : decode prog_16_method_13_code 6 = .ok (.iload_n 3, 1) := by decide +kernel
theorem px_d20_7 : decode prog_16_method_13_code 7 = .ok (.if_icmp .ge 36, 3) := by decide +kernel
theorem px_d20_10 : decode prog_16_method_13_code 10 = .ok (.iload_n 2, 1) := by decide +kernel
theorem px_d20_11 : decode prog_16_method_13_code 11 = .ok (.iload_n 3, 1) := by decide +kernel
theorem px_d20_12 : decode prog_16_method_13_code 12 = .ok (.iadd, 1) := by decide +kernel
theorem px_d20_13 : decode prog_16_method_13_code 13 = .ok (.iconst 1, 1) := by decide +kernel
theorem px_d20_14 : decode prog_16_method_13_code 14 = .ok (.iadd, 1) := by decide +kernel
theorem px_d20_15 : decode prog_16_method_13_code 15 = .ok (.iconst 2, 1) := by decide +kernel
theorem px_d20_16 : decode prog_16_method_13_code 16 = .ok (.idiv, 1) := by decide +kernel
theorem px_d20_17 : decode prog_16_method_13_code 17 = .ok (.istore 4, 2) := by decide +kernel
theorem px_d20_19 : decode prog_16_method_13_code 19 = .ok (.aload_n 1, 1) := by decide +kernel
theorem px_d20_20 : decode prog_16_method_13_code 20 = .ok (.iload 4, 2) := by decide +kernel
theorem px_d20_22 : decode prog_16_method_13_code 22 = .ok (.aload_n 0, 1) := by decide +kernel
theorem px_d20_23 : decode prog_16_method_13_code 23 = .ok (.invokestatic 39, 3) := by decide +kernel
