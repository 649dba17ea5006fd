theorem px_d284_28 : decode prog_7_method_9_code 28 = .ok (.lload_n 1, 1) := by decide +kernel
theorem px_d284_29 : decode prog_7_method_9_code 29 = .ok (.invokevirtual 67, 3) := by decide +kernel
theorem px_d284_32 : decode prog_7_method_9_code 32 = .ok (.aload_n 0, 1) := by decide +kernel
theorem px_d284_33 : decode prog_7_method_9_code 33 = .ok (.iload 5, 2) := by decide +kernel
theorem px_d284_35 : decode prog_7_method_9_code 35 = .ok (.ifCond .eq 8, 3) := by decide +kernel
theorem px_d284_38 : decode prog_7_method_9_code 38 = .ok (.ldc 59, 2) := by decide +kernel
theorem px_d284_40 : decode prog_7_method_9_code 40 = .ok (.goto 5, 3) := by decide +kernel
theorem px_d284_43 : decode prog_7_method_9_code 43 = .ok (.ldc 61, 2) := by decide +kernel
theorem px_d284_45 : decode prog_7_method_9_code 45 = .ok (.invokevirtual 63, 3) := by decide +kernel
theorem px_d284_48 : decode prog_7_method_9_code 48 = .ok (.aload_n 0, 1) := by decide +kernel
theorem px_d284_49 : decode prog_7_method_9_code 49 = .ok (.bipush 120, 2) := by decide +kernel
theorem px_d284_51 : decode prog_7_method_9_code 51 = .ok (.iload_n 3, 1) := by decide +kernel
theorem px_d284_52 : decode prog_7_method_9_code 52 = .ok (.invokevirtual 73, 3) := by decide +kernel
theorem px_d284_55 : decode prog_7_method_9_code 55 = .ok (.aload_n 0, 1) := by decide +kernel
theorem px_d284_56 : decode prog_7_method_9_code 56 = .ok (.iload_n 3, 1) := by decide +kernel
theorem px_d284_57 : decode prog_7_method_9_code 57 = .ok (.ifCond .le 13, 3) := by decide +kernel
theorem px_d284_60 : decode prog_7_method_9_code 60 = .ok (.iload 4, 2) := by decide +kernel
theorem px_d284_62 : decode prog_7_method_9_code 62 = .ok (.ifCond .le 8, 3) := by decide +kernel
theorem px_d284_65 : decode prog_7_method_9_code 65 = .ok (.ldc 61, 2) := by decide +kernel
theorem px_d284_67 : decode prog_7_method_9_code 67 = .ok (.goto 5, 3) := by decide +kernel
theorem px_d284_70 : decode prog_7_method_9_code 70 = .ok (.ldc 59, 2) := by decide +kernel
theorem px_d284_72 : decode prog_7_method_9_code 72 = .ok (.invokevirtual 63, 3) := by decide +kernel
theorem px_d284_75 : decode prog_7_method_9_code 75 = .ok (.aload_n 0, 1) := by decide +kernel
theorem px_d284_76 : decode prog_7_method_9_code 76 = .ok (.bipush 121, 2) := by decide +kernel
theorem px_d284_78 : decode prog_7_method_9_code 78 = .ok (.iload 4, 2) := by decide +kernel
theorem px_d284_80 : decode prog_7_method_9_code 80 = .ok (.invokevirtual 73, 3) := by decide +kernel
theorem px_d284_83 : decode prog_7_method_9_code 83 = .ok (.return_, 1) := by decide +kernel
theorem px_d285_0 : decode prog_7_method_10_code 0 = .ok (.iload_n 2, 1) := by decide +kernel
theorem px_d285_1 : decode prog_7_method_10_code 1 = .ok (.ifCond .le 8, 3) := by decide +kernel
theorem px_d285_4 : decode prog_7_method_10_code 4 = .ok (.aload_n 0, 1) := by decide +kernel
theorem px_d285_5 : decode prog_7_method_10_code 5 = .ok (.iload_n 1, 1) := by decide +kernel
theorem px_d285_6 : decode prog_7_method_10_code 6 = .ok (.invokevirtual 42, 3) := by decide +kernel
theorem px_d285_9 : decode prog_7_method_10_code 9 = .ok (.iload_n 2, 1) := by decide +kernel
theorem px_d285_10 : decode prog_7_method_10_code 10 = .ok (.iconst 1, 1) := by decide +kernel
theorem px_d285_11 : decode prog_7_method_10_code 11 = .ok (.if_icmp .le 15, 3) := by decide +kernel
theorem px_d285_14 : decode prog_7_method_10_code 14 = .ok (.aload_n 0, 1) := by decide +kernel
theorem px_d285_15 : decode prog_7_method_10_code 15 = .ok (.bipush 94, 2) := by decide +kernel
theorem px_d285_17 : decode prog_7_method_10_code 17 = .ok (.invokevirtual 42, 3) := by decide +kernel
theorem px_d285_20 : decode prog_7_method_10_code 20 = .ok (.aload_n 0, 1) := by decide +kernel
theorem px_d285_21 : decode prog_7_method_10_code 21 = .ok (.iload_n 2, 1) := by decide +kernel
theorem px_d285_22 : decode prog_7_method_10_code 22 = .ok (.i2l, 1) := by decide +kernel
theorem px_d285_23 : decode prog_7_method_10_code 23 = .ok (.invokevirtual 67, 3) := by decide +kernel
theorem px_d285_26 : decode prog_7_method_10_code 26 = .ok (.return_, 1) := by decide +kernel
theorem px_d291_0 : decode prog_7_method_7_code 0 = .ok (.aload_n 0, 1) := by decide +kernel
theorem px_d291_1 : decode prog_7_method_7_code 1 = .ok (.iload_n 1, 1) := by decide +kernel
theorem px_d291_2 : decode prog_7_method_7_code 2 = .ok (.ifCond .ne 8, 3) := by decide +kernel
theorem px_d291_5 : decode prog_7_method_7_code 5 = .ok (.bipush 48, 2) := by decide +kernel
theorem px_d291_7 : decode prog_7_method_7_code 7 = .ok (.goto 14, 3) := by decide +kernel
theorem px_d291_10 : decode prog_7_method_7_code 10 = .ok (.iload_n 1, 1) := by decide +kernel
theorem px_d291_11 : decode prog_7_method_7_code 11 = .ok (.ifCond .ge 8, 3) := by decide +kernel
theorem px_d291_14 : decode prog_7_method_7_code 14 = .ok (.bipush 45, 2) := by decide +kernel
theorem px_d291_16 : decode prog_7_method_7_code 16 = .ok (.goto 5, 3) := by decide +kernel
theorem px_d291_19 : decode prog_7_method_7_code 19 = .ok (.bipush 43, 2) := by decide +kernel
theorem px_d291_21 : decode prog_7_method_7_code 21 = .ok (.invokevirtual 42, 3) := by decide +kernel
theorem px_d291_24 : decode prog_7_method_7_code 24 = .ok (.return_, 1) := by decide +kernel
theorem px_d294_0 : decode prog_1_method_44_code 0 = .ok (.iload_n 1, 1) := by decide +kernel
theorem px_d294_1 : decode prog_1_method_44_code 1 = .ok (.iload_n 1, 1) := by decide +kernel
theorem px_d294_2 : decode prog_1_method_44_code 2 = .ok (.ineg, 1) := by decide +kernel
theorem px_d294_3 : decode prog_1_method_44_code 3 = .ok (.iand, 1) := by decide +kernel
theorem px_d294_4 : decode prog_1_method_44_code 4 = .ok (.istore_n 2, 1) := by decide +kernel
theorem px_d294_5 : decode prog_1_method_44_code 5 = .ok (.iload_n 1, 1) := by decide +kernel
theorem px_d294_6 : decode prog_1_method_44_code 6 = .ok (.iload_n 2, 1) := by decide +kernel
theorem px_d294_7 : decode prog_1_method_44_code 7 = .ok (.ixor, 1) := by decide +kernel
theorem px_d294_8 : decode prog_1_method_44_code 8 = .ok (.iconst 1, 1) := by decide +kernel
theorem px_d294_9 : decode prog_1_method_44_code 9 = .ok (.isub, 1) := by decide +kernel
theorem px_d294_10 : decode prog_1_method_44_code 10 = .ok (.iconst 2, 1) := by decide +kernel
theorem px_d294_11 : decode prog_1_method_44_code 11 = .ok (.iload_n 2, 1) := by decide +kernel
theorem px_d294_12 : decode prog_1_method_44_code 12 = .ok (.imul, 1) := by decide +kernel
theorem px_d294_13 : decode prog_1_method_44_code 13 = .ok (.iconst 1, 1) := by decide +kernel
theorem px_d294_14 : decode prog_1_method_44_code 14 = .ok (.isub, 1) := by decide +kernel
theorem px_d294_15 : decode prog_1_method_44_code 15 = .ok (.iconst (-1), 1) := by decide +kernel
theorem px_d294_16 : decode prog_1_method_44_code 16 = .ok (.ixor, 1) := by decide +kernel
theorem px_d294_17 : decode prog_1_method_44_code 17 = .ok (.iand, 1) := by decide +kernel
theorem px_d294_18 : decode prog_1_method_44_code 18 = .ok (.istore_n 3, 1) := by decide +kernel
theorem px_d294_19 : decode prog_1_method_44_code 19 = .ok (.iload_n 0, 1) := by decide +kernel
theorem px_d294_20 : decode prog_1_method_44_code 20 = .ok (.iload_n 3, 1) := by decide +kernel
theorem px_d294_21 : decode prog_1_method_44_code 21 = .ok (.iand, 1) := by decide +kernel
theorem px_d294_22 : decode prog_1_method_44_code 22 = .ok (.invokestatic 201, 3) := by decide +kernel
theorem px_d294_25 : decode prog_1_method_44_code 25 = .ok (.iconst 1, 1) := by decide +kernel
theorem px_d294_26 : decode prog_1_method_44_code 26 = .ok (.iand, 1) := by decide +kernel
theorem px_d294_27 : decode prog_1_method_44_code 27 = .ok (.ifCond .eq 7, 3) := by decide +kernel
theorem px_d294_30 : decode prog_1_method_44_code 30 = .ok (.iconst 1, 1) := by decide +kernel
theorem px_d294_31 : decode prog_1_method_44_code 31 = .ok (.goto 4, 3) := by decide +kernel
theorem px_d294_34 : decode prog_1_method_44_code 34 = .ok (.iconst 0, 1) := by decide +kernel
theorem px_d294_35 : decode prog_1_method_44_code 35 = .ok (.ireturn, 1) := by decide +kernel
theorem px_d314_0 : decode prog_4_method_3_code 0 = .ok (.aload_n 1, 1) := by decide +kernel
theorem px_d314_1 : decode prog_4_method_3_code 1 = .ok (.aload_n 0, 1) := by decide +kernel
theorem px_d314_2 : decode prog_4_method_3_code 2 = .ok (.getfield 68, 3) := by decide +kernel
theorem px_d314_5 : decode prog_4_method_3_code 5 = .ok (.if_acmp .ne 4, 3) := by decide +kernel
theorem px_d314_8 : decode prog_4_method_3_code 8 = .ok (.return_, 1) := by decide +kernel
theorem px_d314_9 : decode prog_4_method_3_code 9 = .ok (.aload_n 0, 1) := by decide +kernel
theorem px_d314_10 : decode prog_4_method_3_code 10 = .ok (.aload_n 1, 1) := by decide +kernel
theorem px_d314_11 : decode prog_4_method_3_code 11 = .ok (.getfield 72, 3) := by decide +kernel
theorem px_d314_14 : decode prog_4_method_3_code 14 = .ok (.aload_n 1, 1) := by decide +kernel
theorem px_d314_15 : decode prog_4_method_3_code 15 = .ok (.getfield 75, 3) := by decide +kernel
theorem px_d314_18 : decode prog_4_method_3_code 18 = .ok (.invokevirtual 39, 3) := by decide +kernel
theorem px_d314_21 : decode prog_4_method_3_code 21 = .ok (.iconst 0, 1) := by decide +kernel
theorem px_d314_22 : decode prog_4_method_3_code 22 = .ok (.istore_n 2, 1) := by decide +kernel
theorem px_d314_23 : decode prog_4_method_3_code 23 = .ok (.iload_n 2, 1) := by decide +kernel
theorem px_d314_24 : decode prog_4_method_3_code 24 = .ok (.aload_n 1, 1) := by decide +kernel
theorem px_d314_25 : decode prog_4_method_3_code 25 = .ok (.getfield 78, 3) := by decide +kernel
theorem px_d314_28 : decode prog_4_method_3_code 28 = .ok (.if_icmp .ge 24, 3) := by decide +kernel
theorem px_d314_31 : decode prog_4_method_3_code 31 = .ok (.aload_n 0, 1) := by decide +kernel
theorem px_d314_32 : decode prog_4_method_3_code 32 = .ok (.aload_n 1, 1) := by decide +kernel
theorem px_d314_33 : decode prog_4_method_3_code 33 = .ok (.getfield 79, 3) := by decide +kernel
theorem px_d314_36 : decode prog_4_method_3_code 36 = .ok (.iload_n 2, 1) := by decide +kernel
theorem px_d314_37 : decode prog_4_method_3_code 37 = .ok (.aload_n 1, 1) := by decide +kernel
theorem px_d314_38 : decode prog_4_method_3_code 38 = .ok (.getfield 75, 3) := by decide +kernel
theorem px_d314_41 : decode prog_4_method_3_code 41 = .ok (.imul, 1) := by decide +kernel
theorem px_d314_42 : decode prog_4_method_3_code 42 = .ok (.invokevirtual 49, 3) := by decide +kernel
theorem px_d314_45 : decode prog_4_method_3_code 45 = .ok (.pop, 1) := by decide +kernel
theorem px_d314_46 : decode prog_4_method_3_code 46 = .ok (.iinc 2 1, 3) := by decide +kernel
theorem px_d314_49 : decode prog_4_method_3_code 49 = .ok (.goto (-26), 3) := by decide +kernel
theorem px_d314_52 : decode prog_4_method_3_code 52 = .ok (.aload_n 0, 1) := by decide +kernel
theorem px_d314_53 : decode prog_4_method_3_code 53 = .ok (.aload_n 1, 1) := by decide +kernel
theorem px_d314_54 : decode prog_4_method_3_code 54 = .ok (.putfield 68, 3) := by decide +kernel
theorem px_d314_57 : decode prog_4_method_3_code 57 = .ok (.return_, 1) := by decide +kernel
theorem px_d315_0 : decode prog_4_method_5_code 0 = .ok (.iload 4, 2) := by decide +kernel
theorem px_d315_2 : decode prog_4_method_5_code 2 = .ok (.iload_n 2, 1) := by decide +kernel
theorem px_d315_3 : decode prog_4_method_5_code 3 = .ok (.iload_n 3, 1) := by decide +kernel
theorem px_d315_4 : decode prog_4_method_5_code 4 = .ok (.invokestatic 83, 3) := by decide +kernel
theorem px_d315_7 : decode prog_4_method_5_code 7 = .ok (.ixor, 1) := by decide +kernel
theorem px_d315_8 : decode prog_4_method_5_code 8 = .ok (.istore 5, 2) := by decide +kernel
theorem px_d315_10 : decode prog_4_method_5_code 10 = .ok (.iload_n 2, 1) := by decide +kernel
theorem px_d315_11 : decode prog_4_method_5_code 11 = .ok (.iload_n 3, 1) := by decide +kernel
theorem px_d315_12 : decode prog_4_method_5_code 12 = .ok (.ixor, 1) := by decide +kernel
theorem px_d315_13 : decode prog_4_method_5_code 13 = .ok (.istore 6, 2) := by decide +kernel
theorem px_d315_15 : decode prog_4_method_5_code 15 = .ok (.aload_n 0, 1) := by decide +kernel
theorem px_d315_16 : decode prog_4_method_5_code 16 = .ok (.getfield 89, 3) := by decide +kernel
theorem px_d315_19 : decode prog_4_method_5_code 19 = .ok (.ifCond .eq 55, 3) := by decide +kernel
theorem px_d315_22 : decode prog_4_method_5_code 22 = .ok (.aload_n 0, 1) := by decide +kernel
theorem px_d315_23 : decode prog_4_method_5_code 23 = .ok (.getfield 29, 3) := by decide +kernel
theorem px_d315_26 : decode prog_4_method_5_code 26 = .ok (.iload 6, 2) := by decide +kernel
theorem px_d315_28 : decode prog_4_method_5_code 28 = .ok (.laload, 1) := by decide +kernel
theorem px_d315_29 : decode prog_4_method_5_code 29 = .ok (.aload_n 0, 1) := by decide +kernel
theorem px_d315_30 : decode prog_4_method_5_code 30 = .ok (.aload_n 0, 1) := by decide +kernel
theorem px_d315_31 : decode prog_4_method_5_code 31 = .ok (.getfield 29, 3) := by decide +kernel
theorem px_d315_34 : decode prog_4_method_5_code 34 = .ok (.iload_n 2, 1) := by decide +kernel
theorem px_d315_35 : decode prog_4_method_5_code 35 = .ok (.laload, 1) := by decide +kernel
theorem px_d315_36 : decode prog_4_method_5_code 36 = .ok (.invokevirtual 90, 3) := by decide +kernel
theorem px_d315_39 : decode prog_4_method_5_code 39 = .ok (.lmul, 1) := by decide +kernel
theorem px_d315_40 : decode prog_4_method_5_code 40 = .ok (.aload_n 0, 1) := by decide +kernel
theorem px_d315_41 : decode prog_4_method_5_code 41 = .ok (.getfield 89, 3) := by decide +kernel
theorem px_d315_44 : decode prog_4_method_5_code 44 = .ok (.i2l, 1) := by decide +kernel
theorem px_d315_45 : decode prog_4_method_5_code 45 = .ok (.lrem, 1) := by decide +kernel
theorem px_d315_46 : decode prog_4_method_5_code 46 = .ok (.lstore 7, 2) := by decide +kernel
theorem px_d315_48 : decode prog_4_method_5_code 48 = .ok (.aload_n 1, 1) := by decide +kernel
theorem px_d315_49 : decode prog_4_method_5_code 49 = .ok (.iload 5, 2) := by decide +kernel
theorem px_d315_51 : decode prog_4_method_5_code 51 = .ok (.ifCond .eq 17, 3) := by decide +kernel
theorem px_d315_54 : decode prog_4_method_5_code 54 = .ok (.lload 7, 2) := by decide +kernel
theorem px_d315_56 : decode prog_4_method_5_code 56 = .ok (.lneg, 1) := by decide +kernel
theorem px_d315_57 : decode prog_4_method_5_code 57 = .ok (.aload_n 0, 1) := by decide +kernel
theorem px_d315_58 : decode prog_4_method_5_code 58 = .ok (.getfield 89, 3) := by decide +kernel
theorem px_d315_61 : decode prog_4_method_5_code 61 = .ok (.i2l, 1) := by decide +kernel
theorem px_d315_62 : decode prog_4_method_5_code 62 = .ok (.invokestatic 94, 3) := by decide +kernel
theorem px_d315_65 : decode prog_4_method_5_code 65 = .ok (.goto 5, 3) := by decide +kernel
theorem px_d315_68 : decode prog_4_method_5_code 68 = .ok (.lload 7, 2) := by decide +kernel
theorem px_d315_70 : decode prog_4_method_5_code 70 = .ok (.invokevirtual 98, 3) := by decide +kernel
theorem px_d315_73 : decode prog_4_method_5_code 73 = .ok (.return_, 1) := by decide +kernel
theorem px_d315_74 : decode prog_4_method_5_code 74 = .ok (.iload 5, 2) := by decide +kernel
theorem px_d315_76 : decode prog_4_method_5_code 76 = .ok (.aload_n 0, 1) := by decide +kernel
theorem px_d315_77 : decode prog_4_method_5_code 77 = .ok (.getfield 16, 3) := by decide +kernel
theorem px_d315_80 : decode prog_4_method_5_code 80 = .ok (.aload_n 0, 1) := by decide +kernel
theorem px_d315_81 : decode prog_4_method_5_code 81 = .ok (.getfield 29, 3) := by decide +kernel
theorem px_d315_84 : decode prog_4_method_5_code 84 = .ok (.iload 6, 2) := by decide +kernel
theorem px_d315_86 : decode prog_4_method_5_code 86 = .ok (.laload, 1) := by decide +kernel
theorem px_d315_87 : decode prog_4_method_5_code 87 = .ok (.aload_n 0, 1) := by decide +kernel
theorem px_d315_88 : decode prog_4_method_5_code 88 = .ok (.getfield 33, 3) := by decide +kernel
theorem px_d315_91 : decode prog_4_method_5_code 91 = .ok (.iload 6, 2) := by decide +kernel
theorem px_d315_93 : decode prog_4_method_5_code 93 = .ok (.laload, 1) := by decide +kernel
theorem px_d315_94 : decode prog_4_method_5_code 94 = .ok (.aload_n 0, 1) := by decide +kernel
theorem px_d315_95 : decode prog_4_method_5_code 95 = .ok (.getfield 36, 3) := by decide +kernel
theorem px_d315_98 : decode prog_4_method_5_code 98 = .ok (.iload 6, 2) := by decide +kernel
theorem px_d315_100 : decode prog_4_method_5_code 100 = .ok (.laload, 1) := by decide +kernel
theorem px_d315_101 : decode prog_4_method_5_code 101 = .ok (.invokevirtual 104, 3) := by decide +kernel
theorem px_d315_104 : decode prog_4_method_5_code 104 = .ok (.ixor, 1) := by decide +kernel
theorem px_d315_105 : decode prog_4_method_5_code 105 = .ok (.istore 5, 2) := by decide +kernel
theorem px_d315_107 : decode prog_4_method_5_code 107 = .ok (.iload 5, 2) := by decide +kernel
theorem px_d315_109 : decode prog_4_method_5_code 109 = .ok (.aload_n 0, 1) := by decide +kernel
theorem px_d315_110 : decode prog_4_method_5_code 110 = .ok (.getfield 20, 3) := by decide +kernel
theorem px_d315_113 : decode prog_4_method_5_code 113 = .ok (.aload_n 0, 1) := by decide +kernel
theorem px_d315_114 : decode prog_4_method_5_code 114 = .ok (.getfield 29, 3) := by decide +kernel
theorem px_d315_117 : decode prog_4_method_5_code 117 = .ok (.iload_n 2, 1) := by decide +kernel
theorem px_d315_118 : decode prog_4_method_5_code 118 = .ok (.laload, 1) := by decide +kernel
theorem px_d315_119 : decode prog_4_method_5_code 119 = .ok (.aload_n 0, 1) := by decide +kernel
theorem px_d315_120 : decode prog_4_method_5_code 120 = .ok (.getfield 33, 3) := by decide +kernel
theorem px_d315_123 : decode prog_4_method_5_code 123 = .ok (.iload_n 2, 1) := by decide +kernel
theorem px_d315_124 : decode prog_4_method_5_code 124 = .ok (.laload, 1) := by decide +kernel
theorem px_d315_125 : decode prog_4_method_5_code 125 = .ok (.aload_n 0, 1) := by decide +kernel
theorem px_d315_126 : decode prog_4_method_5_code 126 = .ok (.getfield 36, 3) := by decide +kernel
theorem px_d315_129 : decode prog_4_method_5_code 129 = .ok (.iload_n 2, 1) := by decide +kernel
theorem px_d315_130 : decode prog_4_method_5_code 130 = .ok (.laload, 1) := by decide +kernel
theorem px_d315_131 : decode prog_4_method_5_code 131 = .ok (.invokevirtual 104, 3) := by decide +kernel
theorem px_d315_134 : decode prog_4_method_5_code 134 = .ok (.ixor, 1) := by decide +kernel
theorem px_d315_135 : decode prog_4_method_5_code 135 = .ok (.istore 5, 2) := by decide +kernel
theorem px_d315_137 : decode prog_4_method_5_code 137 = .ok (.aload_n 0, 1) := by decide +kernel
theorem px_d315_138 : decode prog_4_method_5_code 138 = .ok (.getfield 16, 3) := by decide +kernel
theorem px_d315_141 : decode prog_4_method_5_code 141 = .ok (.invokevirtual 108, 3) := by decide +kernel
theorem px_d315_144 : decode prog_4_method_5_code 144 = .ok (.ifCond .ne 13, 3) := by decide +kernel
theorem px_d315_147 : decode prog_4_method_5_code 147 = .ok (.aload_n 0, 1) := by decide +kernel
theorem px_d315_148 : decode prog_4_method_5_code 148 = .ok (.getfield 20, 3) := by decide +kernel
theorem px_d315_151 : decode prog_4_method_5_code 151 = .ok (.invokevirtual 108, 3) := by decide +kernel
theorem px_d315_154 : decode prog_4_method_5_code 154 = .ok (.ifCond .eq 10, 3) := by decide +kernel
theorem px_d315_157 : decode prog_4_method_5_code 157 = .ok (.aload_n 1, 1) := by decide +kernel
theorem px_d315_158 : decode prog_4_method_5_code 158 = .ok (.bipush 48, 2) := by decide +kernel
theorem px_d315_160 : decode prog_4_method_5_code 160 = .ok (.invokevirtual 112, 3) := by decide +kernel
theorem px_d315_163 : decode prog_4_method_5_code 163 = .ok (.return_, 1) := by decide +kernel
theorem px_d315_164 : decode prog_4_method_5_code 164 = .ok (.aload_n 0, 1) := by decide +kernel
theorem px_d315_165 : decode prog_4_method_5_code 165 = .ok (.getfield 23, 3) := by decide +kernel
theorem px_d315_168 : decode prog_4_method_5_code 168 = .ok (.aload_n 0, 1) := by decide +kernel
theorem px_d315_169 : decode prog_4_method_5_code 169 = .ok (.getfield 16, 3) := by decide +kernel
theorem px_d315_172 : decode prog_4_method_5_code 172 = .ok (.aload_n 0, 1) := by decide +kernel
theorem px_d315_173 : decode prog_4_method_5_code 173 = .ok (.getfield 20, 3) := by decide +kernel
theorem px_d315_176 : decode prog_4_method_5_code 176 = .ok (.aload_n 0, 1) := by decide +kernel
theorem px_d315_177 : decode prog_4_method_5_code 177 = .ok (.getfield 26, 3) := by decide +kernel
theorem px_d315_180 : decode prog_4_method_5_code 180 = .ok (.invokevirtual 116, 3) := by decide +kernel
theorem px_d315_183 : decode prog_4_method_5_code 183 = .ok (.aload_n 0, 1) := by decide +kernel
theorem px_d315_184 : decode prog_4_method_5_code 184 = .ok (.getfield 16, 3) := by decide +kernel
theorem px_d315_187 : decode prog_4_method_5_code 187 = .ok (.aload_n 0, 1) := by decide +kernel
theorem px_d315_188 : decode prog_4_method_5_code 188 = .ok (.getfield 23, 3) := by decide +kernel
theorem px_d315_191 : decode prog_4_method_5_code 191 = .ok (.aload_n 0, 1) := by decide +kernel
theorem px_d315_192 : decode prog_4_method_5_code 192 = .ok (.getfield 26, 3) := by decide +kernel
theorem px_d315_195 : decode prog_4_method_5_code 195 = .ok (.invokevirtual 120, 3) := by decide +kernel
theorem px_d315_198 : decode prog_4_method_5_code 198 = .ok (.aload_n 0, 1) := by decide +kernel
theorem px_d315_199 : decode prog_4_method_5_code 199 = .ok (.getfield 20, 3) := by decide +kernel
theorem px_d315_202 : decode prog_4_method_5_code 202 = .ok (.aload_n 0, 1) := by decide +kernel
theorem px_d315_203 : decode prog_4_method_5_code 203 = .ok (.getfield 23, 3) := by decide +kernel
theorem px_d315_206 : decode prog_4_method_5_code 206 = .ok (.aload_n 0, 1) := by decide +kernel
theorem px_d315_207 : decode prog_4_method_5_code 207 = .ok (.getfield 26, 3) := by decide +kernel
theorem px_d315_210 : decode prog_4_method_5_code 210 = .ok (.invokevirtual 120, 3) := by decide +kernel
theorem px_d315_213 : decode prog_4_method_5_code 213 = .ok (.aload_n 1, 1) := by decide +kernel
theorem px_d315_214 : decode prog_4_method_5_code 214 = .ok (.iload 5, 2) := by decide +kernel
theorem px_d315_216 : decode prog_4_method_5_code 216 = .ok (.ifCond .eq 8, 3) := by decide +kernel
theorem px_d315_219 : decode prog_4_method_5_code 219 = .ok (.ldc 124, 2) := by decide +kernel
theorem px_d315_221 : decode prog_4_method_5_code 221 = .ok (.goto 5, 3) := by decide +kernel
theorem px_d315_224 : decode prog_4_method_5_code 224 = .ok (.ldc 126, 2) := by decide +kernel
theorem px_d315_226 : decode prog_4_method_5_code 226 = .ok (.invokevirtual 128, 3) := by decide +kernel
theorem px_d315_229 : decode prog_4_method_5_code 229 = .ok (.aload_n 1, 1) := by decide +kernel
theorem px_d315_230 : decode prog_4_method_5_code 230 = .ok (.aload_n 0, 1) := by decide +kernel
theorem px_d315_231 : decode prog_4_method_5_code 231 = .ok (.getfield 16, 3) := by decide +kernel
theorem px_d315_234 : decode prog_4_method_5_code 234 = .ok (.invokevirtual 132, 3) := by decide +kernel
theorem px_d315_237 : decode prog_4_method_5_code 237 = .ok (.aload_n 0, 1) := by decide +kernel
theorem px_d315_238 : decode prog_4_method_5_code 238 = .ok (.getfield 20, 3) := by decide +kernel
theorem px_d315_241 : decode prog_4_method_5_code 241 = .ok (.invokevirtual 136, 3) := by decide +kernel
theorem px_d315_244 : decode prog_4_method_5_code 244 = .ok (.ifCond .ne 17, 3) := by decide +kernel
theorem px_d315_247 : decode prog_4_method_5_code 247 = .ok (.aload_n 1, 1) := by decide +kernel
theorem px_d315_248 : decode prog_4_method_5_code 248 = .ok (.bipush 47, 2) := by decide +kernel
theorem px_d315_250 : decode prog_4_method_5_code 250 = .ok (.invokevirtual 112, 3) := by decide +kernel
theorem px_d315_253 : decode prog_4_method_5_code 253 = .ok (.aload_n 1, 1) := by decide +kernel
theorem px_d315_254 : decode prog_4_method_5_code 254 = .ok (.aload_n 0, 1) := by decide +kernel
theorem px_d315_255 : decode prog_4_method_5_code 255 = .ok (.getfield 20, 3) := by decide +kernel
theorem px_d315_258 : decode prog_4_method_5_code 258 = .ok (.invokevirtual 132, 3) := by decide +kernel
theorem px_d315_261 : decode prog_4_method_5_code 261 = .ok (.return_, 1) := by decide +kernel
theorem px_d316_0 : decode prog_4_method_6_code 0 = .ok (.lconst 1, 1) := by decide +kernel
theorem px_d316_1 : decode prog_4_method_6_code 1 = .ok (.lstore_n 3, 1) := by decide +kernel
theorem px_d316_2 : decode prog_4_method_6_code 2 = .ok (.lload_n 3, 1) := by decide +kernel
theorem px_d316_3 : decode prog_4_method_6_code 3 = .ok (.aload_n 0, 1) := by decide +kernel
theorem px_d316_4 : decode prog_4_method_6_code 4 = .ok (.getfield 89, 3) := by decide +kernel
theorem px_d316_7 : decode prog_4_method_6_code 7 = .ok (.i2l, 1) := by decide +kernel
theorem px_d316_8 : decode prog_4_method_6_code 8 = .ok (.lcmp, 1) := by decide +kernel
theorem px_d316_9 : decode prog_4_method_6_code 9 = .ok (.ifCond .ge 26, 3) := by decide +kernel
theorem px_d316_12 : decode prog_4_method_6_code 12 = .ok (.lload_n 1, 1) := by decide +kernel
theorem px_d316_13 : decode prog_4_method_6_code 13 = .ok (.lload_n 3, 1) := by decide +kernel
theorem px_d316_14 : decode prog_4_method_6_code 14 = .ok (.lmul, 1) := by decide +kernel
theorem px_d316_15 : decode prog_4_method_6_code 15 = .ok (.aload_n 0, 1) := by decide +kernel
theorem px_d316_16 : decode prog_4_method_6_code 16 = .ok (.getfield 89, 3) := by decide +kernel
theorem px_d316_19 : decode prog_4_method_6_code 19 = .ok (.i2l, 1) := by decide +kernel
theorem px_d316_20 : decode prog_4_method_6_code 20 = .ok (.lrem, 1) := by decide +kernel
theorem px_d316_21 : decode prog_4_method_6_code 21 = .ok (.lconst 1, 1) := by decide +kernel
theorem px_d316_22 : decode prog_4_method_6_code 22 = .ok (.lcmp, 1) := by decide +kernel
theorem px_d316_23 : decode prog_4_method_6_code 23 = .ok (.ifCond .ne 5, 3) := by decide +kernel
theorem px_d316_26 : decode prog_4_method_6_code 26 = .ok (.lload_n 3, 1) := by decide +kernel
theorem px_d316_27 : decode prog_4_method_6_code 27 = .ok (.lreturn, 1) := by decide +kernel
theorem px_d316_28 : decode prog_4_method_6_code 28 = .ok (.lload_n 3, 1) := by decide +kernel
theorem px_d316_29 : decode prog_4_method_6_code 29 = .ok (.lconst 1, 1) := by decide +kernel
theorem px_d316_30 : decode prog_4_method_6_code 30 = .ok (.ladd, 1) := by decide +kernel
theorem px_d316_31 : decode prog_4_method_6_code 31 = .ok (.lstore_n 3, 1) := by decide +kernel
theorem px_d316_32 : decode prog_4_method_6_code 32 = .ok (.goto (-30), 3) := by decide +kernel
theorem px_d316_35 : decode prog_4_method_6_code 35 = .ok (.lconst 0, 1) := by decide +kernel
theorem px_d316_36 : decode prog_4_method_6_code 36 = .ok (.lreturn, 1) := by decide +kernel
theorem px_d317_0 : decode prog_12_method_2_code 0 = .ok (.lload 5, 2) := by decide +kernel
theorem px_d317_2 : decode prog_12_method_2_code 2 = .ok (.lconst 0, 1) := by decide +kernel
theorem px_d317_3 : decode prog_12_method_2_code 3 = .ok (.lcmp, 1) := by decide +kernel
theorem px_d317_4 : decode prog_12_method_2_code 4 = .ok (.ifCond .ge 7, 3) := by decide +kernel
theorem px_d317_7 : decode prog_12_method_2_code 7 = .ok (.iconst 1, 1) := by decide +kernel
theorem px_d317_8 : decode prog_12_method_2_code 8 = .ok (.goto 4, 3) := by decide +kernel
theorem px_d317_11 : decode prog_12_method_2_code 11 = .ok (.iconst 0, 1) := by decide +kernel
theorem px_d317_12 : decode prog_12_method_2_code 12 = .ok (.istore 7, 2) := by decide +kernel
theorem px_d317_14 : decode prog_12_method_2_code 14 = .ok (.iload 7, 2) := by decide +kernel
theorem px_d317_16 : decode prog_12_method_2_code 16 = .ok (.ifCond .eq 8, 3) := by decide +kernel
theorem px_d317_19 : decode prog_12_method_2_code 19 = .ok (.lload_n 1, 1) := by decide +kernel
theorem px_d317_20 : decode prog_12_method_2_code 20 = .ok (.lneg, 1) := by decide +kernel
theorem px_d317_21 : decode prog_12_method_2_code 21 = .ok (.goto 4, 3) := by decide +kernel
theorem px_d317_24 : decode prog_12_method_2_code 24 = .ok (.lload_n 1, 1) := by decide +kernel
theorem px_d317_25 : decode prog_12_method_2_code 25 = .ok (.lstore 8, 2) := by decide +kernel
theorem px_d317_27 : decode prog_12_method_2_code 27 = .ok (.iload 7, 2) := by decide +kernel
theorem px_d317_29 : decode prog_12_method_2_code 29 = .ok (.ifCond .eq 8, 3) := by decide +kernel
theorem px_d317_32 : decode prog_12_method_2_code 32 = .ok (.lload_n 3, 1) := by decide +kernel
theorem px_d317_33 : decode prog_12_method_2_code 33 = .ok (.lneg, 1) := by decide +kernel
theorem px_d317_34 : decode prog_12_method_2_code 34 = .ok (.goto 4, 3) := by decide +kernel
theorem px_d317_37 : decode prog_12_method_2_code 37 = .ok (.lload_n 3, 1) := by decide +kernel
theorem px_d317_38 : decode prog_12_method_2_code 38 = .ok (.lload 8, 2) := by decide +kernel
theorem px_d317_40 : decode prog_12_method_2_code 40 = .ok (.bipush 48, 2) := by decide +kernel
theorem px_d317_42 : decode prog_12_method_2_code 42 = .ok (.lshr, 1) := by decide +kernel
theorem px_d317_43 : decode prog_12_method_2_code 43 = .ok (.ladd, 1) := by decide +kernel
theorem px_d317_44 : decode prog_12_method_2_code 44 = .ok (.lstore 10, 2) := by decide +kernel
theorem px_d317_46 : decode prog_12_method_2_code 46 = .ok (.aload_n 0, 1) := by decide +kernel
theorem px_d317_47 : decode prog_12_method_2_code 47 = .ok (.lload 8, 2) := by decide +kernel
theorem px_d317_49 : decode prog_12_method_2_code 49 = .ok (.ldc2_w 9, 3) := by decide +kernel
theorem px_d317_52 : decode prog_12_method_2_code 52 = .ok (.land, 1) := by decide +kernel
theorem px_d317_53 : decode prog_12_method_2_code 53 = .ok (.putfield 11, 3) := by decide +kernel
theorem px_d317_56 : decode prog_12_method_2_code 56 = .ok (.aload_n 0, 1) := by decide +kernel
theorem px_d317_57 : decode prog_12_method_2_code 57 = .ok (.lload 10, 2) := by decide +kernel
theorem px_d317_59 : decode prog_12_method_2_code 59 = .ok (.ldc2_w 9, 3) := by decide +kernel
theorem px_d317_62 : decode prog_12_method_2_code 62 = .ok (.land, 1) := by decide +kernel
theorem px_d317_63 : decode prog_12_method_2_code 63 = .ok (.putfield 15, 3) := by decide +kernel
theorem px_d317_66 : decode prog_12_method_2_code 66 = .ok (.aload_n 0, 1) := by decide +kernel
theorem px_d317_67 : decode prog_12_method_2_code 67 = .ok (.iload 7, 2) := by decide +kernel
theorem px_d317_69 : decode prog_12_method_2_code 69 = .ok (.ifCond .eq 9, 3) := by decide +kernel
theorem px_d317_72 : decode prog_12_method_2_code 72 = .ok (.lload 5, 2) := by decide +kernel
theorem px_d317_74 : decode prog_12_method_2_code 74 = .ok (.lneg, 1) := by decide +kernel
theorem px_d317_75 : decode prog_12_method_2_code 75 = .ok (.goto 5, 3) := by decide +kernel
theorem px_d317_78 : decode prog_12_method_2_code 78 = .ok (.lload 5, 2) := by decide +kernel
theorem px_d317_80 : decode prog_12_method_2_code 80 = .ok (.lload 10, 2) := by decide +kernel
theorem px_d317_82 : decode prog_12_method_2_code 82 = .ok (.bipush 48, 2) := by decide +kernel
theorem px_d317_84 : decode prog_12_method_2_code 84 = .ok (.lshr, 1) := by decide +kernel
theorem px_d317_85 : decode prog_12_method_2_code 85 = .ok (.ladd, 1) := by decide +kernel
theorem px_d317_86 : decode prog_12_method_2_code 86 = .ok (.putfield 18, 3) := by decide +kernel
theorem px_d317_89 : decode prog_12_method_2_code 89 = .ok (.iload 7, 2) := by decide +kernel
theorem px_d317_91 : decode prog_12_method_2_code 91 = .ok (.ireturn, 1) := by decide +kernel
theorem px_d318_0 : decode prog_12_method_3_code 0 = .ok (.aload_n 0, 1) := by decide +kernel
theorem px_d318_1 : decode prog_12_method_3_code 1 = .ok (.getfield 11, 3) := by decide +kernel
theorem px_d318_4 : decode prog_12_method_3_code 4 = .ok (.aload_n 0, 1) := by decide +kernel
theorem px_d318_5 : decode prog_12_method_3_code 5 = .ok (.getfield 15, 3) := by decide +kernel
theorem px_d318_8 : decode prog_12_method_3_code 8 = .ok (.lor, 1) := by decide +kernel
theorem px_d318_9 : decode prog_12_method_3_code 9 = .ok (.aload_n 0, 1) := by decide +kernel
theorem px_d318_10 : decode prog_12_method_3_code 10 = .ok (.getfield 18, 3) := by decide +kernel
theorem px_d318_13 : decode prog_12_method_3_code 13 = .ok (.lor, 1) := by decide +kernel
theorem px_d318_14 : decode prog_12_method_3_code 14 = .ok (.lconst 0, 1) := by decide +kernel
theorem px_d318_15 : decode prog_12_method_3_code 15 = .ok (.lcmp, 1) := by decide +kernel
theorem px_d318_16 : decode prog_12_method_3_code 16 = .ok (.ifCond .ne 7, 3) := by decide +kernel
theorem px_d318_19 : decode prog_12_method_3_code 19 = .ok (.iconst 1, 1) := by decide +kernel
theorem px_d318_20 : decode prog_12_method_3_code 20 = .ok (.goto 4, 3) := by decide +kernel
theorem px_d318_23 : decode prog_12_method_3_code 23 = .ok (.iconst 0, 1) := by decide +kernel
theorem px_d318_24 : decode prog_12_method_3_code 24 = .ok (.ireturn, 1) := by decide +kernel
theorem px_d319_0 : decode prog_12_method_7_code 0 = .ok (.aload_n 1, 1) := by decide +kernel
theorem px_d319_1 : decode prog_12_method_7_code 1 = .ok (.invokevirtual 21, 3) := by decide +kernel
theorem px_d319_4 : decode prog_12_method_7_code 4 = .ok (.ifCond .eq 23, 3) := by decide +kernel
theorem px_d319_7 : decode prog_12_method_7_code 7 = .ok (.aload_n 2, 1) := by decide +kernel
theorem px_d319_8 : decode prog_12_method_7_code 8 = .ok (.invokevirtual 21, 3) := by decide +kernel
theorem px_d319_11 : decode prog_12_method_7_code 11 = .ok (.ifCond .eq 16, 3) := by decide +kernel
theorem px_d319_14 : decode prog_12_method_7_code 14 = .ok (.aload_n 0, 1) := by decide +kernel
theorem px_d319_15 : decode prog_12_method_7_code 15 = .ok (.aload_n 1, 1) := by decide +kernel
theorem px_d319_16 : decode prog_12_method_7_code 16 = .ok (.invokevirtual 25, 3) := by decide +kernel
theorem px_d319_19 : decode prog_12_method_7_code 19 = .ok (.aload_n 2, 1) := by decide +kernel
theorem px_d319_20 : decode prog_12_method_7_code 20 = .ok (.invokevirtual 25, 3) := by decide +kernel
theorem px_d319_23 : decode prog_12_method_7_code 23 = .ok (.invokevirtual 29, 3) := by decide +kernel
theorem px_d319_26 : decode prog_12_method_7_code 26 = .ok (.return_, 1) := by decide +kernel
theorem px_d319_27 : decode prog_12_method_7_code 27 = .ok (.aload_n 0, 1) := by decide +kernel
theorem px_d319_28 : decode prog_12_method_7_code 28 = .ok (.aload_n 1, 1) := by decide +kernel
theorem px_d319_29 : decode prog_12_method_7_code 29 = .ok (.invokevirtual 33, 3) := by decide +kernel
theorem px_d319_32 : decode prog_12_method_7_code 32 = .ok (.aload_n 3, 1) := by decide +kernel
theorem px_d319_33 : decode prog_12_method_7_code 33 = .ok (.aload_n 2, 1) := by decide +kernel
theorem px_d319_34 : decode prog_12_method_7_code 34 = .ok (.invokevirtual 33, 3) := by decide +kernel
theorem px_d319_37 : decode prog_12_method_7_code 37 = .ok (.iconst 0, 1) := by decide +kernel
theorem px_d319_38 : decode prog_12_method_7_code 38 = .ok (.istore 4, 2) := by decide +kernel
theorem px_d319_40 : decode prog_12_method_7_code 40 = .ok (.iconst 0, 1) := by decide +kernel
theorem px_d319_41 : decode prog_12_method_7_code 41 = .ok (.istore 5, 2) := by decide +kernel
theorem px_d319_43 : decode prog_12_method_7_code 43 = .ok (.iload 5, 2) := by decide +kernel
theorem px_d319_45 : decode prog_12_method_7_code 45 = .ok (.sipush 768, 3) := by decide +kernel
theorem px_d319_48 : decode prog_12_method_7_code 48 = .ok (.if_icmp .ge 118, 3) := by decide +kernel
theorem px_d319_51 : decode prog_12_method_7_code 51 = .ok (.aload_n 3, 1) := by decide +kernel
theorem px_d319_52 : decode prog_12_method_7_code 52 = .ok (.invokevirtual 37, 3) := by decide +kernel
theorem px_d319_55 : decode prog_12_method_7_code 55 = .ok (.ifCond .ne 111, 3) := by decide +kernel
theorem px_d319_58 : decode prog_12_method_7_code 58 = .ok (.aload_n 0, 1) := by decide +kernel
theorem px_d319_59 : decode prog_12_method_7_code 59 = .ok (.getfield 11, 3) := by decide +kernel
theorem px_d319_62 : decode prog_12_method_7_code 62 = .ok (.lconst 1, 1) := by decide +kernel
theorem px_d319_63 : decode prog_12_method_7_code 63 = .ok (.land, 1) := by decide +kernel
theorem px_d319_64 : decode prog_12_method_7_code 64 = .ok (.lconst 0, 1) := by decide +kernel
theorem px_d319_65 : decode prog_12_method_7_code 65 = .ok (.lcmp, 1) := by decide +kernel
theorem px_d319_66 : decode prog_12_method_7_code 66 = .ok (.ifCond .ne 7, 3) := by decide +kernel
theorem px_d319_69 : decode prog_12_method_7_code 69 = .ok (.iconst 1, 1) := by decide +kernel
theorem px_d319_70 : decode prog_12_method_7_code 70 = .ok (.goto 4, 3) := by decide +kernel
theorem px_d319_73 : decode prog_12_method_7_code 73 = .ok (.iconst 0, 1) := by decide +kernel
theorem px_d319_74 : decode prog_12_method_7_code 74 = .ok (.istore 6, 2) := by decide +kernel
theorem px_d319_76 : decode prog_12_method_7_code 76 = .ok (.aload_n 3, 1) := by decide +kernel
theorem px_d319_77 : decode prog_12_method_7_code 77 = .ok (.getfield 11, 3) := by decide +kernel
theorem px_d319_80 : decode prog_12_method_7_code 80 = .ok (.lconst 1, 1) := by decide +kernel
theorem px_d319_81 : decode prog_12_method_7_code 81 = .ok (.land, 1) := by decide +kernel
theorem px_d319_82 : decode prog_12_method_7_code 82 = .ok (.lconst 0, 1) := by decide +kernel
theorem px_d319_83 : decode prog_12_method_7_code 83 = .ok (.lcmp, 1) := by decide +kernel
theorem px_d319_84 : decode prog_12_method_7_code 84 = .ok (.ifCond .ne 7, 3) := by decide +kernel
theorem px_d319_87 : decode prog_12_method_7_code 87 = .ok (.iconst 1, 1) := by decide +kernel
theorem px_d319_88 : decode prog_12_method_7_code 88 = .ok (.goto 4, 3) := by decide +kernel
theorem px_d319_91 : decode prog_12_method_7_code 91 = .ok (.iconst 0, 1) := by decide +kernel
theorem px_d319_92 : decode prog_12_method_7_code 92 = .ok (.istore 7, 2) := by decide +kernel
theorem px_d319_94 : decode prog_12_method_7_code 94 = .ok (.iload 6, 2) := by decide +kernel
theorem px_d319_96 : decode prog_12_method_7_code 96 = .ok (.ifCond .eq 7, 3) := by decide +kernel
theorem px_d319_99 : decode prog_12_method_7_code 99 = .ok (.aload_n 0, 1) := by decide +kernel
theorem px_d319_100 : decode prog_12_method_7_code 100 = .ok (.invokevirtual 40, 3) := by decide +kernel
theorem px_d319_103 : decode prog_12_method_7_code 103 = .ok (.iload 7, 2) := by decide +kernel
theorem px_d319_105 : decode prog_12_method_7_code 105 = .ok (.ifCond .eq 7, 3) := by decide +kernel
theorem px_d319_108 : decode prog_12_method_7_code 108 = .ok (.aload_n 3, 1) := by decide +kernel
theorem px_d319_109 : decode prog_12_method_7_code 109 = .ok (.invokevirtual 40, 3) := by decide +kernel
theorem px_d319_112 : decode prog_12_method_7_code 112 = .ok (.iload 4, 2) := by decide +kernel
theorem px_d319_114 : decode prog_12_method_7_code 114 = .ok (.iload 6, 2) := by decide +kernel
theorem px_d319_116 : decode prog_12_method_7_code 116 = .ok (.ifCond .eq 12, 3) := by decide +kernel
theorem px_d319_119 : decode prog_12_method_7_code 119 = .ok (.iload 7, 2) := by decide +kernel
theorem px_d319_121 : decode prog_12_method_7_code 121 = .ok (.ifCond .eq 7, 3) := by decide +kernel
theorem px_d319_124 : decode prog_12_method_7_code 124 = .ok (.iconst 1, 1) := by decide +kernel
theorem px_d319_125 : decode prog_12_method_7_code 125 = .ok (.goto 4, 3) := by decide +kernel
theorem px_d319_128 : decode prog_12_method_7_code 128 = .ok (.iconst 0, 1) := by decide +kernel
theorem px_d319_129 : decode prog_12_method_7_code 129 = .ok (.iadd, 1) := by decide +kernel
theorem px_d319_130 : decode prog_12_method_7_code 130 = .ok (.istore 4, 2) := by decide +kernel
theorem px_d319_132 : decode prog_12_method_7_code 132 = .ok (.iload 6, 2) := by decide +kernel
theorem px_d319_134 : decode prog_12_method_7_code 134 = .ok (.ifCond .ne 26, 3) := by decide +kernel
theorem px_d319_137 : decode prog_12_method_7_code 137 = .ok (.iload 7, 2) := by decide +kernel
theorem px_d319_139 : decode prog_12_method_7_code 139 = .ok (.ifCond .ne 21, 3) := by decide +kernel
theorem px_d319_142 : decode prog_12_method_7_code 142 = .ok (.aload_n 0, 1) := by decide +kernel
theorem px_d319_143 : decode prog_12_method_7_code 143 = .ok (.aload_n 3, 1) := by decide +kernel
theorem px_d319_144 : decode prog_12_method_7_code 144 = .ok (.invokevirtual 43, 3) := by decide +kernel
theorem px_d319_147 : decode prog_12_method_7_code 147 = .ok (.ifCond .le 8, 3) := by decide +kernel
theorem px_d319_150 : decode prog_12_method_7_code 150 = .ok (.aload_n 0, 1) := by decide +kernel
theorem px_d319_151 : decode prog_12_method_7_code 151 = .ok (.aload_n 3, 1) := by decide +kernel
theorem px_d319_152 : decode prog_12_method_7_code 152 = .ok (.invokevirtual 47, 3) := by decide +kernel
theorem px_d319_155 : decode prog_12_method_7_code 155 = .ok (.aload_n 3, 1) := by decide +kernel
theorem px_d319_156 : decode prog_12_method_7_code 156 = .ok (.aload_n 0, 1) := by decide +kernel
theorem px_d319_157 : decode prog_12_method_7_code 157 = .ok (.invokevirtual 50, 3) := by decide +kernel
theorem px_d319_160 : decode prog_12_method_7_code 160 = .ok (.iinc 5 1, 3) := by decide +kernel
theorem px_d319_163 : decode prog_12_method_7_code 163 = .ok (.goto (-120), 3) := by decide +kernel
theorem px_d319_166 : decode prog_12_method_7_code 166 = .ok (.iconst 0, 1) := by decide +kernel
theorem px_d319_167 : decode prog_12_method_7_code 167 = .ok (.istore 5, 2) := by decide +kernel
theorem px_d319_169 : decode prog_12_method_7_code 169 = .ok (.iload 5, 2) := by decide +kernel
theorem px_d319_171 : decode prog_12_method_7_code 171 = .ok (.iload 4, 2) := by decide +kernel
theorem px_d319_173 : decode prog_12_method_7_code 173 = .ok (.if_icmp .ge 14, 3) := by decide +kernel
theorem px_d319_176 : decode prog_12_method_7_code 176 = .ok (.aload_n 0, 1) := by decide +kernel
theorem px_d319_177 : decode prog_12_method_7_code 177 = .ok (.iconst 0, 1) := by decide +kernel
theorem px_d319_178 : decode prog_12_method_7_code 178 = .ok (.invokevirtual 53, 3) := by decide +kernel
theorem px_d319_181 : decode prog_12_method_7_code 181 = .ok (.iinc 5 1, 3) := by decide +kernel
theorem px_d319_184 : decode prog_12_method_7_code 184 = .ok (.goto (-15), 3) := by decide +kernel
theorem px_d319_187 : decode prog_12_method_7_code 187 = .ok (.return_, 1) := by decide +kernel
theorem px_d320_0 : decode prog_12_method_5_code 0 = .ok (.aload_n 0, 1) := by decide +kernel
theorem px_d320_1 : decode prog_12_method_5_code 1 = .ok (.getfield 18, 3) := by decide +kernel
theorem px_d320_4 : decode prog_12_method_5_code 4 = .ok (.lconst 0, 1) := by decide +kernel
theorem px_d320_5 : decode prog_12_method_5_code 5 = .ok (.lcmp, 1) := by decide +kernel
theorem px_d320_6 : decode prog_12_method_5_code 6 = .ok (.ifCond .ne 19, 3) := by decide +kernel
theorem px_d320_9 : decode prog_12_method_5_code 9 = .ok (.aload_n 0, 1) := by decide +kernel
theorem px_d320_10 : decode prog_12_method_5_code 10 = .ok (.getfield 15, 3) := by decide +kernel
theorem px_d320_13 : decode prog_12_method_5_code 13 = .ok (.bipush 15, 2) := by decide +kernel
theorem px_d320_15 : decode prog_12_method_5_code 15 = .ok (.lshr, 1) := by decide +kernel
theorem px_d320_16 : decode prog_12_method_5_code 16 = .ok (.lconst 0, 1) := by decide +kernel
theorem px_d320_17 : decode prog_12_method_5_code 17 = .ok (.lcmp, 1) := by decide +kernel
theorem px_d320_18 : decode prog_12_method_5_code 18 = .ok (.ifCond .ne 7, 3) := by decide +kernel
theorem px_d320_21 : decode prog_12_method_5_code 21 = .ok (.iconst 1, 1) := by decide +kernel
theorem px_d320_22 : decode prog_12_method_5_code 22 = .ok (.goto 4, 3) := by decide +kernel
theorem px_d320_25 : decode prog_12_method_5_code 25 = .ok (.iconst 0, 1) := by decide +kernel
theorem px_d320_26 : decode prog_12_method_5_code 26 = .ok (.ireturn, 1) := by decide +kernel
theorem px_d321_0 : decode prog_12_method_6_code 0 = .ok (.aload_n 0, 1) := by decide +kernel
theorem px_d321_1 : decode prog_12_method_6_code 1 = .ok (.getfield 15, 3) := by decide +kernel
theorem px_d321_4 : decode prog_12_method_6_code 4 = .ok (.bipush 48, 2) := by decide +kernel
theorem px_d321_6 : decode prog_12_method_6_code 6 = .ok (.lshl, 1) := by decide +kernel
theorem px_d321_7 : decode prog_12_method_6_code 7 = .ok (.aload_n 0, 1) := by decide +kernel
theorem px_d321_8 : decode prog_12_method_6_code 8 = .ok (.getfield 11, 3) := by decide +kernel
theorem px_d321_11 : decode prog_12_method_6_code 11 = .ok (.lor, 1) := by decide +kernel
theorem px_d321_12 : decode prog_12_method_6_code 12 = .ok (.lreturn, 1) := by decide +kernel
theorem px_d322_0 : decode prog_12_method_10_code 0 = .ok (.lload_n 1, 1) := by decide +kernel
theorem px_d322_1 : decode prog_12_method_10_code 1 = .ok (.lstore 5, 2) := by decide +kernel
theorem px_d322_3 : decode prog_12_method_10_code 3 = .ok (.lload_n 3, 1) := by decide +kernel
theorem px_d322_4 : decode prog_12_method_10_code 4 = .ok (.lstore 7, 2) := by decide +kernel
theorem px_d322_6 : decode prog_12_method_10_code 6 = .ok (.iconst 0, 1) := by decide +kernel
theorem px_d322_7 : decode prog_12_method_10_code 7 = .ok (.istore 9, 2) := by decide +kernel
theorem px_d322_9 : decode prog_12_method_10_code 9 = .ok (.iload 9, 2) := by decide +kernel
theorem px_d322_11 : decode prog_12_method_10_code 11 = .ok (.bipush 100, 2) := by decide +kernel
theorem px_d322_13 : decode prog_12_method_10_code 13 = .ok (.if_icmp .ge 31, 3) := by decide +kernel
theorem px_d322_16 : decode prog_12_method_10_code 16 = .ok (.lload 7, 2) := by decide +kernel
theorem px_d322_18 : decode prog_12_method_10_code 18 = .ok (.lconst 0, 1) := by decide +kernel
theorem px_d322_19 : decode prog_12_method_10_code 19 = .ok (.lcmp, 1) := by decide +kernel
theorem px_d322_20 : decode prog_12_method_10_code 20 = .ok (.ifCond .eq 24, 3) := by decide +kernel
theorem px_d322_23 : decode prog_12_method_10_code 23 = .ok (.lload 5, 2) := by decide +kernel
theorem px_d322_25 : decode prog_12_method_10_code 25 = .ok (.lload 7, 2) := by decide +kernel
theorem px_d322_27 : decode prog_12_method_10_code 27 = .ok (.lrem, 1) := by decide +kernel
theorem px_d322_28 : decode prog_12_method_10_code 28 = .ok (.lstore 10, 2) := by decide +kernel
theorem px_d322_30 : decode prog_12_method_10_code 30 = .ok (.lload 7, 2) := by decide +kernel
theorem px_d322_32 : decode prog_12_method_10_code 32 = .ok (.lstore 5, 2) := by decide +kernel
theorem px_d322_34 : decode prog_12_method_10_code 34 = .ok (.lload 10, 2) := by decide +kernel
theorem px_d322_36 : decode prog_12_method_10_code 36 = .ok (.lstore 7, 2) := by decide +kernel
theorem px_d322_38 : decode prog_12_method_10_code 38 = .ok (.iinc 9 1, 3) := by decide +kernel
theorem px_d322_41 : decode prog_12_method_10_code 41 = .ok (.goto (-32), 3) := by decide +kernel
theorem px_d322_44 : decode prog_12_method_10_code 44 = .ok (.aload_n 0, 1) := by decide +kernel
theorem px_d322_45 : decode prog_12_method_10_code 45 = .ok (.lload 5, 2) := by decide +kernel
theorem px_d322_47 : decode prog_12_method_10_code 47 = .ok (.lconst 0, 1) := by decide +kernel
theorem px_d322_48 : decode prog_12_method_10_code 48 = .ok (.lconst 0, 1) := by decide +kernel
theorem px_d322_49 : decode prog_12_method_10_code 49 = .ok (.invokevirtual 57, 3) := by decide +kernel
theorem px_d322_52 : decode prog_12_method_10_code 52 = .ok (.pop, 1) := by decide +kernel
theorem px_d322_53 : decode prog_12_method_10_code 53 = .ok (.return_, 1) := by decide +kernel
theorem px_d323_0 : decode prog_12_method_12_code 0 = .ok (.aload_n 0, 1) := by decide +kernel
theorem px_d323_1 : decode prog_12_method_12_code 1 = .ok (.aload_n 1, 1) := by decide +kernel
theorem px_d323_2 : decode prog_12_method_12_code 2 = .ok (.getfield 11, 3) := by decide +kernel
theorem px_d323_5 : decode prog_12_method_12_code 5 = .ok (.putfield 11, 3) := by decide +kernel
theorem px_d323_8 : decode prog_12_method_12_code 8 = .ok (.aload_n 0, 1) := by decide +kernel
