theorem px_d43_41 : decode prog_15_method_91_code 41 = .ok (.ireturn, 1) := by decide +kernel
theorem px_d44_0 : decode prog_15_method_88_code 0 = .ok (.aload_n 0, 1) := by decide +kernel
theorem px_d44_1 : decode prog_15_method_88_code 1 = .ok (.getfield 505, 3) := by decide +kernel
theorem px_d44_4 : decode prog_15_method_88_code 4 = .ok (.ireturn, 1) := by decide +kernel
theorem px_d45_0 : decode prog_15_method_50_code 0 = .ok (.iload_n 1, 1) := by decide +kernel
theorem px_d45_1 : decode prog_15_method_50_code 1 = .ok (.aload_n 0, 1) := by decide +kernel
theorem px_d45_2 : decode prog_15_method_50_code 2 = .ok (.getfield 326, 3) := by decide +kernel
theorem px_d45_5 : decode prog_15_method_50_code 5 = .ok (.if_icmp .ge 12, 3) := by decide +kernel
theorem px_d45_17 : decode prog_15_method_50_code 17 = .ok (.iconst (-1), 1) := by decide +kernel
theorem px_d45_18 : decode prog_15_method_50_code 18 = .ok (.ireturn, 1) := by decide +kernel
theorem px_d46_0 : decode prog_15_method_53_code 0 = .ok (.aload_n 0, 1) := by decide +kernel
theorem px_d46_1 : decode prog_15_method_53_code 1 = .ok (.getfield 329, 3) := by decide +kernel
theorem px_d46_4 : decode prog_15_method_53_code 4 = .ok (.istore_n 1, 1) := by decide +kernel
theorem px_d46_5 : decode prog_15_method_53_code 5 = .ok (.aload_n 0, 1) := by decide +kernel
theorem px_d46_6 : decode prog_15_method_53_code 6 = .ok (.iload_n 1, 1) := by decide +kernel
theorem px_d46_7 : decode prog_15_method_53_code 7 = .ok (.invokevirtual 332, 3) := by decide +kernel
theorem px_d46_10 : decode prog_15_method_53_code 10 = .ok (.istore_n 2, 1) := by decide +kernel
theorem px_d46_11 : decode prog_15_method_53_code 11 = .ok (.iload_n 2, 1) := by decide +kernel
theorem px_d46_12 : decode prog_15_method_53_code 12 = .ok (.bipush 32, 2) := by decide +kernel
theorem px_d46_14 : decode prog_15_method_53_code 14 = .ok (.if_icmp .eq 27, 3) := by decide +kernel
theorem px_d46_17 : decode prog_15_method_53_code 17 = .ok (.iload_n 2, 1) := by decide +kernel
theorem px_d46_18 : decode prog_15_method_53_code 18 = .ok (.bipush 10, 2) := by decide +kernel
theorem px_d46_20 : decode prog_15_method_53_code 20 = .ok (.if_icmp .eq 21, 3) := by decide +kernel
theorem px_d46_23 : decode prog_15_method_53_code 23 = .ok (.iload_n 2, 1) := by decide +kernel
theorem px_d46_24 : decode prog_15_method_53_code 24 = .ok (.bipush 13, 2) := by decide +kernel
theorem px_d46_26 : decode prog_15_method_53_code 26 = .ok (.if_icmp .eq 15, 3) := by decide +kernel
theorem px_d46_29 : decode prog_15_method_53_code 29 = .ok (.iload_n 2, 1) := by decide +kernel
theorem px_d46_30 : decode prog_15_method_53_code 30 = .ok (.bipush 9, 2) := by decide +kernel
theorem px_d46_32 : decode prog_15_method_53_code 32 = .ok (.if_icmp .eq 9, 3) := by decide +kernel
theorem px_d46_35 : decode prog_15_method_53_code 35 = .ok (.iload_n 2, 1) := by decide +kernel
theorem px_d46_36 : decode prog_15_method_53_code 36 = .ok (.bipush 35, 2) := by decide +kernel
theorem px_d46_38 : decode prog_15_method_53_code 38 = .ok (.if_icmp .ne 46, 3) := by decide +kernel
theorem px_d46_84 : decode prog_15_method_53_code 84 = .ok (.aload_n 0, 1) := by decide +kernel
theorem px_d46_85 : decode prog_15_method_53_code 85 = .ok (.iload_n 1, 1) := by decide +kernel
theorem px_d46_86 : decode prog_15_method_53_code 86 = .ok (.putfield 335, 3) := by decide +kernel
theorem px_d46_89 : decode prog_15_method_53_code 89 = .ok (.aload_n 0, 1) := by decide +kernel
theorem px_d46_90 : decode prog_15_method_53_code 90 = .ok (.iload_n 1, 1) := by decide +kernel
theorem px_d46_91 : decode prog_15_method_53_code 91 = .ok (.iconst 1, 1) := by decide +kernel
theorem px_d46_92 : decode prog_15_method_53_code 92 = .ok (.iadd, 1) := by decide +kernel
theorem px_d46_93 : decode prog_15_method_53_code 93 = .ok (.putfield 329, 3) := by decide +kernel
theorem px_d46_96 : decode prog_15_method_53_code 96 = .ok (.iload_n 1, 1) := by decide +kernel
theorem px_d46_97 : decode prog_15_method_53_code 97 = .ok (.aload_n 0, 1) := by decide +kernel
theorem px_d46_98 : decode prog_15_method_53_code 98 = .ok (.getfield 326, 3) := by decide +kernel
theorem px_d46_101 : decode prog_15_method_53_code 101 = .ok (.if_icmp .lt 16, 3) := by decide +kernel
theorem px_d46_104 : decode prog_15_method_53_code 104 = .ok (.aload_n 0, 1) := by decide +kernel
theorem px_d46_105 : decode prog_15_method_53_code 105 = .ok (.iconst 0, 1) := by decide +kernel
theorem px_d46_106 : decode prog_15_method_53_code 106 = .ok (.putfield 338, 3) := by decide +kernel
theorem px_d46_109 : decode prog_15_method_53_code 109 = .ok (.aload_n 0, 1) := by decide +kernel
theorem px_d46_110 : decode prog_15_method_53_code 110 = .ok (.iload_n 1, 1) := by decide +kernel
theorem px_d46_111 : decode prog_15_method_53_code 111 = .ok (.putfield 329, 3) := by decide +kernel
theorem px_d46_114 : decode prog_15_method_53_code 114 = .ok (.goto 162, 3) := by decide +kernel
theorem px_d46_276 : decode prog_15_method_53_code 276 = .ok (.return_, 1) := by decide +kernel
theorem px_d47_0 : decode prog_15_method_63_code 0 = .ok (.aload_n 0, 1) := by decide +kernel
theorem px_d47_1 : decode prog_15_method_63_code 1 = .ok (.iconst 0, 1) := by decide +kernel
theorem px_d47_2 : decode prog_15_method_63_code 2 = .ok (.putfield 356, 3) := by decide +kernel
theorem px_d47_5 : decode prog_15_method_63_code 5 = .ok (.aload_n 0, 1) := by decide +kernel
theorem px_d47_6 : decode prog_15_method_63_code 6 = .ok (.iconst 0, 1) := by decide +kernel
theorem px_d47_7 : decode prog_15_method_63_code 7 = .ok (.putfield 329, 3) := by decide +kernel
theorem px_d47_10 : decode prog_15_method_63_code 10 = .ok (.aload_n 0, 1) := by decide +kernel
theorem px_d47_11 : decode prog_15_method_63_code 11 = .ok (.invokevirtual 359, 3) := by decide +kernel
theorem px_d47_14 : decode prog_15_method_63_code 14 = .ok (.iconst 0, 1) := by decide +kernel
theorem px_d47_15 : decode prog_15_method_63_code 15 = .ok (.istore_n 1, 1) := by decide +kernel
theorem px_d47_16 : decode prog_15_method_63_code 16 = .ok (.aload_n 0, 1) := by decide +kernel
theorem px_d47_17 : decode prog_15_method_63_code 17 = .ok (.getfield 356, 3) := by decide +kernel
theorem px_d47_20 : decode prog_15_method_63_code 20 = .ok (.ifCond .ne 138, 3) := by decide +kernel
theorem px_d47_23 : decode prog_15_method_63_code 23 = .ok (.aload_n 0, 1) := by decide +kernel
theorem px_d47_24 : decode prog_15_method_63_code 24 = .ok (.getfield 338, 3) := by decide +kernel
theorem px_d47_27 : decode prog_15_method_63_code 27 = .ok (.ifCond .eq 131, 3) := by decide +kernel
theorem px_d47_158 : decode prog_15_method_63_code 158 = .ok (.aload_n 0, 1) := by decide +kernel
theorem px_d47_159 : decode prog_15_method_63_code 159 = .ok (.getfield 356, 3) := by decide +kernel
theorem px_d47_162 : decode prog_15_method_63_code 162 = .ok (.ifCond .ne 7, 3) := by decide +kernel
theorem px_d47_165 : decode prog_15_method_63_code 165 = .ok (.iconst 1, 1) := by decide +kernel
theorem px_d47_166 : decode prog_15_method_63_code 166 = .ok (.goto 4, 3) := by decide +kernel
theorem px_d47_170 : decode prog_15_method_63_code 170 = .ok (.ireturn, 1) := by decide +kernel
theorem px_d48_0 : decode prog_15_method_92_code 0 = .ok (.aload_n 0, 1) := by decide +kernel
theorem px_d48_1 : decode prog_15_method_92_code 1 = .ok (.iconst 0, 1) := by decide +kernel
theorem px_d48_2 : decode prog_15_method_92_code 2 = .ok (.putfield 505, 3) := by decide +kernel
theorem px_d48_5 : decode prog_15_method_92_code 5 = .ok (.iconst 0, 1) := by decide +kernel
theorem px_d48_6 : decode prog_15_method_92_code 6 = .ok (.istore_n 1, 1) := by decide +kernel
theorem px_d48_7 : decode prog_15_method_92_code 7 = .ok (.iload_n 1, 1) := by decide +kernel
theorem px_d48_8 : decode prog_15_method_92_code 8 = .ok (.aload_n 0, 1) := by decide +kernel
theorem px_d48_9 : decode prog_15_method_92_code 9 = .ok (.getfield 508, 3) := by decide +kernel
theorem px_d48_12 : decode prog_15_method_92_code 12 = .ok (.if_icmp .ge 21, 3) := by decide +kernel
theorem px_d48_33 : decode prog_15_method_92_code 33 = .ok (.aload_n 0, 1) := by decide +kernel
theorem px_d48_34 : decode prog_15_method_92_code 34 = .ok (.aload_n 0, 1) := by decide +kernel
theorem px_d48_35 : decode prog_15_method_92_code 35 = .ok (.getfield 508, 3) := by decide +kernel
theorem px_d48_38 : decode prog_15_method_92_code 38 = .ok (.putfield 326, 3) := by decide +kernel
theorem px_d48_41 : decode prog_15_method_92_code 41 = .ok (.aload_n 0, 1) := by decide +kernel
theorem px_d48_42 : decode prog_15_method_92_code 42 = .ok (.iconst 0, 1) := by decide +kernel
theorem px_d48_43 : decode prog_15_method_92_code 43 = .ok (.putfield 508, 3) := by decide +kernel
theorem px_d48_46 : decode prog_15_method_92_code 46 = .ok (.aload_n 0, 1) := by decide +kernel
theorem px_d48_47 : decode prog_15_method_92_code 47 = .ok (.invokevirtual 513, 3) := by decide +kernel
theorem px_d48_50 : decode prog_15_method_92_code 50 = .ok (.ifCond .ne 5, 3) := by decide +kernel
theorem px_d48_55 : decode prog_15_method_92_code 55 = .ok (.aload_n 0, 1) := by decide +kernel
theorem px_d48_56 : decode prog_15_method_92_code 56 = .ok (.iconst 0, 1) := by decide +kernel
theorem px_d48_57 : decode prog_15_method_92_code 57 = .ok (.putfield 443, 3) := by decide +kernel
theorem px_d48_60 : decode prog_15_method_92_code 60 = .ok (.aload_n 0, 1) := by decide +kernel
theorem px_d48_61 : decode prog_15_method_92_code 61 = .ok (.iconst 0, 1) := by decide +kernel
theorem px_d48_62 : decode prog_15_method_92_code 62 = .ok (.putfield 395, 3) := by decide +kernel
theorem px_d48_65 : decode prog_15_method_92_code 65 = .ok (.iconst 0, 1) := by decide +kernel
theorem px_d48_66 : decode prog_15_method_92_code 66 = .ok (.istore_n 1, 1) := by decide +kernel
theorem px_d48_67 : decode prog_15_method_92_code 67 = .ok (.aload_n 0, 1) := by decide +kernel
theorem px_d48_68 : decode prog_15_method_92_code 68 = .ok (.iconst 0, 1) := by decide +kernel
theorem px_d48_69 : decode prog_15_method_92_code 69 = .ok (.putfield 329, 3) := by decide +kernel
theorem px_d48_72 : decode prog_15_method_92_code 72 = .ok (.aload_n 0, 1) := by decide +kernel
theorem px_d48_73 : decode prog_15_method_92_code 73 = .ok (.invokevirtual 359, 3) := by decide +kernel
theorem px_d48_76 : decode prog_15_method_92_code 76 = .ok (.aload_n 0, 1) := by decide +kernel
theorem px_d48_77 : decode prog_15_method_92_code 77 = .ok (.getfield 338, 3) := by decide +kernel
theorem px_d48_80 : decode prog_15_method_92_code 80 = .ok (.ifCond .eq 31, 3) := by decide +kernel
theorem px_d48_111 : decode prog_15_method_92_code 111 = .ok (.aload_n 0, 1) := by decide +kernel
theorem px_d48_112 : decode prog_15_method_92_code 112 = .ok (.aload_n 0, 1) := by decide +kernel
theorem px_d48_113 : decode prog_15_method_92_code 113 = .ok (.getfield 395, 3) := by decide +kernel
theorem px_d48_116 : decode prog_15_method_92_code 116 = .ok (.putfield 519, 3) := by decide +kernel
theorem px_d48_119 : decode prog_15_method_92_code 119 = .ok (.iload_n 1, 1) := by decide +kernel
theorem px_d48_120 : decode prog_15_method_92_code 120 = .ok (.ireturn, 1) := by decide +kernel
theorem px_d49_0 : decode prog_15_method_93_code 0 = .ok (.aload_n 0, 1) := by decide +kernel
theorem px_d49_1 : decode prog_15_method_93_code 1 = .ok (.iconst 0, 1) := by decide +kernel
theorem px_d49_2 : decode prog_15_method_93_code 2 = .ok (.putfield 505, 3) := by decide +kernel
theorem px_d49_5 : decode prog_15_method_93_code 5 = .ok (.aload_n 0, 1) := by decide +kernel
theorem px_d49_6 : decode prog_15_method_93_code 6 = .ok (.getfield 209, 3) := by decide +kernel
theorem px_d49_9 : decode prog_15_method_93_code 9 = .ok (.ireturn, 1) := by decide +kernel
theorem px_d50_0 : decode prog_15_method_94_code 0 = .ok (.aload_n 0, 1) := by decide +kernel
theorem px_d50_1 : decode prog_15_method_94_code 1 = .ok (.iconst 0, 1) := by decide +kernel
theorem px_d50_2 : decode prog_15_method_94_code 2 = .ok (.putfield 505, 3) := by decide +kernel
theorem px_d50_5 : decode prog_15_method_94_code 5 = .ok (.aload_n 0, 1) := by decide +kernel
theorem px_d50_6 : decode prog_15_method_94_code 6 = .ok (.getfield 519, 3) := by decide +kernel
theorem px_d50_9 : decode prog_15_method_94_code 9 = .ok (.ireturn, 1) := by decide +kernel
theorem px_d51_0 : decode prog_15_method_95_code 0 = .ok (.aload_n 0, 1) := by decide +kernel
theorem px_d51_1 : decode prog_15_method_95_code 1 = .ok (.iconst 0, 1) := by decide +kernel
theorem px_d51_2 : decode prog_15_method_95_code 2 = .ok (.putfield 505, 3) := by decide +kernel
theorem px_d51_5 : decode prog_15_method_95_code 5 = .ok (.aload_n 0, 1) := by decide +kernel
theorem px_d51_6 : decode prog_15_method_95_code 6 = .ok (.getfield 443, 3) := by decide +kernel
theorem px_d51_9 : decode prog_15_method_95_code 9 = .ok (.ireturn, 1) := by decide +kernel
theorem px_d52_0 : decode prog_15_method_96_code 0 = .ok (.aload_n 0, 1) := by decide +kernel
theorem px_d52_1 : decode prog_15_method_96_code 1 = .ok (.iconst 0, 1) := by decide +kernel
theorem px_d52_2 : decode prog_15_method_96_code 2 = .ok (.putfield 505, 3) := by decide +kernel
theorem px_d52_5 : decode prog_15_method_96_code 5 = .ok (.iload_n 1, 1) := by decide +kernel
theorem px_d52_6 : decode prog_15_method_96_code 6 = .ok (.ifCond .lt 20, 3) := by decide +kernel
theorem px_d52_9 : decode prog_15_method_96_code 9 = .ok (.iload_n 1, 1) := by decide +kernel
theorem px_d52_10 : decode prog_15_method_96_code 10 = .ok (.aload_n 0, 1) := by decide +kernel
theorem px_d52_11 : decode prog_15_method_96_code 11 = .ok (.getfield 443, 3) := by decide +kernel
theorem px_d52_14 : decode prog_15_method_96_code 14 = .ok (.if_icmp .ge 12, 3) := by decide +kernel
theorem px_d52_26 : decode prog_15_method_96_code 26 = .ok (.iconst (-1), 1) := by decide +kernel
theorem px_d52_27 : decode prog_15_method_96_code 27 = .ok (.ireturn, 1) := by decide +kernel
theorem px_d53_0 : decode prog_15_method_97_code 0 = .ok (.aload_n 0, 1) := by decide +kernel
theorem px_d53_1 : decode prog_15_method_97_code 1 = .ok (.iconst 0, 1) := by decide +kernel
theorem px_d53_2 : decode prog_15_method_97_code 2 = .ok (.putfield 505, 3) := by decide +kernel
theorem px_d53_5 : decode prog_15_method_97_code 5 = .ok (.iload_n 1, 1) := by decide +kernel
theorem px_d53_6 : decode prog_15_method_97_code 6 = .ok (.ifCond .lt 22, 3) := by decide +kernel
theorem px_d53_9 : decode prog_15_method_97_code 9 = .ok (.iload_n 1, 1) := by decide +kernel
theorem px_d53_10 : decode prog_15_method_97_code 10 = .ok (.bipush 26, 2) := by decide +kernel
theorem px_d53_12 : decode prog_15_method_97_code 12 = .ok (.if_icmp .ge 16, 3) := by decide +kernel
theorem px_d53_15 : decode prog_15_method_97_code 15 = .ok (.aload_n 0, 1) := by decide +kernel
theorem px_d53_16 : decode prog_15_method_97_code 16 = .ok (.getfield 153, 3) := by decide +kernel
theorem px_d53_19 : decode prog_15_method_97_code 19 = .ok (.iload_n 1, 1) := by decide +kernel
theorem px_d53_20 : decode prog_15_method_97_code 20 = .ok (.baload, 1) := by decide +kernel
theorem px_d53_21 : decode prog_15_method_97_code 21 = .ok (.ifCond .eq 7, 3) := by decide +kernel
theorem px_d53_28 : decode prog_15_method_97_code 28 = .ok (.iconst 0, 1) := by decide +kernel
theorem px_d53_29 : decode prog_15_method_97_code 29 = .ok (.ireturn, 1) := by decide +kernel
theorem px_d54_0 : decode prog_15_method_98_code 0 = .ok (.aload_n 0, 1) := by decide +kernel
theorem px_d54_1 : decode prog_15_method_98_code 1 = .ok (.iload_n 1, 1) := by decide +kernel
theorem px_d54_2 : decode prog_15_method_98_code 2 = .ok (.invokevirtual 522, 3) := by decide +kernel
theorem px_d54_5 : decode prog_15_method_98_code 5 = .ok (.ifCond .eq 12, 3) := by decide +kernel
theorem px_d54_17 : decode prog_15_method_98_code 17 = .ok (.iconst (-1), 1) := by decide +kernel
theorem px_d54_18 : decode prog_15_method_98_code 18 = .ok (.ireturn, 1) := by decide +kernel
theorem px_d55_0 : decode prog_15_method_99_code 0 = .ok (.aload_n 0, 1) := by decide +kernel
theorem px_d55_1 : decode prog_15_method_99_code 1 = .ok (.iload_n 1, 1) := by decide +kernel
theorem px_d55_2 : decode prog_15_method_99_code 2 = .ok (.invokevirtual 522, 3) := by decide +kernel
theorem px_d55_5 : decode prog_15_method_99_code 5 = .ok (.ifCond .eq 12, 3) := by decide +kernel
theorem px_d55_17 : decode prog_15_method_99_code 17 = .ok (.iconst (-1), 1) := by decide +kernel
theorem px_d55_18 : decode prog_15_method_99_code 18 = .ok (.ireturn, 1) := by decide +kernel
theorem px_d56_0 : decode prog_15_method_100_code 0 = .ok (.aload_n 0, 1) := by decide +kernel
theorem px_d56_1 : decode prog_15_method_100_code 1 = .ok (.iload_n 1, 1) := by decide +kernel
theorem px_d56_2 : decode prog_15_method_100_code 2 = .ok (.invokevirtual 522, 3) := by decide +kernel
theorem px_d56_5 : decode prog_15_method_100_code 5 = .ok (.ifCond .eq 25, 3) := by decide +kernel
theorem px_d56_30 : decode prog_15_method_100_code 30 = .ok (.iconst (-1), 1) := by decide +kernel
theorem px_d56_31 : decode prog_15_method_100_code 31 = .ok (.ireturn, 1) := by decide +kernel
theorem px_d57_0 : decode prog_15_method_101_code 0 = .ok (.aload_n 0, 1) := by decide +kernel
theorem px_d57_1 : decode prog_15_method_101_code 1 = .ok (.iload_n 1, 1) := by decide +kernel
theorem px_d57_2 : decode prog_15_method_101_code 2 = .ok (.invokevirtual 522, 3) := by decide +kernel
theorem px_d57_5 : decode prog_15_method_101_code 5 = .ok (.ifCond .eq 21, 3) := by decide +kernel
theorem px_d57_26 : decode prog_15_method_101_code 26 = .ok (.iconst (-1), 1) := by decide +kernel
theorem px_d57_27 : decode prog_15_method_101_code 27 = .ok (.ireturn, 1) := by decide +kernel
theorem px_d58_0 : decode prog_15_method_102_code 0 = .ok (.aload_n 0, 1) := by decide +kernel
theorem px_d58_1 : decode prog_15_method_102_code 1 = .ok (.iload_n 1, 1) := by decide +kernel
theorem px_d58_2 : decode prog_15_method_102_code 2 = .ok (.invokevirtual 522, 3) := by decide +kernel
theorem px_d58_5 : decode prog_15_method_102_code 5 = .ok (.ifCond .eq 22, 3) := by decide +kernel
theorem px_d58_27 : decode prog_15_method_102_code 27 = .ok (.iconst (-1), 1) := by decide +kernel
theorem px_d58_28 : decode prog_15_method_102_code 28 = .ok (.ireturn, 1) := by decide +kernel
theorem px_d59_0 : decode prog_15_method_103_code 0 = .ok (.aload_n 0, 1) := by decide +kernel
theorem px_d59_1 : decode prog_15_method_103_code 1 = .ok (.iload_n 1, 1) := by decide +kernel
theorem px_d59_2 : decode prog_15_method_103_code 2 = .ok (.invokevirtual 522, 3) := by decide +kernel
theorem px_d59_5 : decode prog_15_method_103_code 5 = .ok (.ifCond .eq 23, 3) := by decide +kernel
theorem px_d59_28 : decode prog_15_method_103_code 28 = .ok (.lconst 0, 1) := by decide +kernel
theorem px_d59_29 : decode prog_15_method_103_code 29 = .ok (.lreturn, 1) := by decide +kernel
theorem px_d60_0 : decode prog_15_method_104_code 0 = .ok (.aload_n 0, 1) := by decide +kernel
theorem px_d60_1 : decode prog_15_method_104_code 1 = .ok (.iload_n 1, 1) := by decide +kernel
theorem px_d60_2 : decode prog_15_method_104_code 2 = .ok (.invokevirtual 522, 3) := by decide +kernel
theorem px_d60_5 : decode prog_15_method_104_code 5 = .ok (.ifCond .eq 31, 3) := by decide +kernel
theorem px_d60_36 : decode prog_15_method_104_code 36 = .ok (.iconst 0, 1) := by decide +kernel
theorem px_d60_37 : decode prog_15_method_104_code 37 = .ok (.ireturn, 1) := by decide +kernel
theorem px_d61_0 : decode prog_15_method_105_code 0 = .ok (.aload_n 0, 1) := by decide +kernel
theorem px_d61_1 : decode prog_15_method_105_code 1 = .ok (.iload_n 1, 1) := by decide +kernel
theorem px_d61_2 : decode prog_15_method_105_code 2 = .ok (.invokevirtual 522, 3) := by decide +kernel
theorem px_d61_5 : decode prog_15_method_105_code 5 = .ok (.ifCond .eq 11, 3) := by decide +kernel
theorem px_d61_16 : decode prog_15_method_105_code 16 = .ok (.iconst (-1), 1) := by decide +kernel
theorem px_d61_17 : decode prog_15_method_105_code 17 = .ok (.ireturn, 1) := by decide +kernel
theorem px_d62_0 : decode prog_15_method_106_code 0 = .ok (.aload_n 0, 1) := by decide +kernel
theorem px_d62_1 : decode prog_15_method_106_code 1 = .ok (.iload_n 1, 1) := by decide +kernel
theorem px_d62_2 : decode prog_15_method_106_code 2 = .ok (.invokevirtual 522, 3) := by decide +kernel
theorem px_d62_5 : decode prog_15_method_106_code 5 = .ok (.ifCond .eq 35, 3) := by decide +kernel
theorem px_d62_40 : decode prog_15_method_106_code 40 = .ok (.iconst (-1), 1) := by decide +kernel
theorem px_d62_41 : decode prog_15_method_106_code 41 = .ok (.ireturn, 1) := by decide +kernel
theorem px_d63_0 : decode prog_15_method_107_code 0 = .ok (.aload_n 0, 1) := by decide +kernel
theorem px_d63_1 : decode prog_15_method_107_code 1 = .ok (.iload_n 1, 1) := by decide +kernel
theorem px_d63_2 : decode prog_15_method_107_code 2 = .ok (.invokevirtual 522, 3) := by decide +kernel
theorem px_d63_5 : decode prog_15_method_107_code 5 = .ok (.ifCond .eq 35, 3) := by decide +kernel
theorem px_d63_40 : decode prog_15_method_107_code 40 = .ok (.iconst (-1), 1) := by decide +kernel
theorem px_d63_41 : decode prog_15_method_107_code 41 = .ok (.ireturn, 1) := by decide +kernel
theorem px_d64_0 : decode prog_15_method_108_code 0 = .ok (.aload_n 0, 1) := by decide +kernel
theorem px_d64_1 : decode prog_15_method_108_code 1 = .ok (.iload_n 1, 1) := by decide +kernel
theorem px_d64_2 : decode prog_15_method_108_code 2 = .ok (.invokevirtual 522, 3) := by decide +kernel
theorem px_d64_5 : decode prog_15_method_108_code 5 = .ok (.ifCond .eq 44, 3) := by decide +kernel
theorem px_d64_49 : decode prog_15_method_108_code 49 = .ok (.iconst 0, 1) := by decide +kernel
theorem px_d64_50 : decode prog_15_method_108_code 50 = .ok (.istore_n 3, 1) := by decide +kernel
theorem px_d64_51 : decode prog_15_method_108_code 51 = .ok (.iload_n 3, 1) := by decide +kernel
theorem px_d64_52 : decode prog_15_method_108_code 52 = .ok (.ifCond .eq 18, 3) := by decide +kernel
theorem px_d64_70 : decode prog_15_method_108_code 70 = .ok (.iconst 2, 1) := by decide +kernel
theorem px_d64_71 : decode prog_15_method_108_code 71 = .ok (.ireturn, 1) := by decide +kernel
theorem px_d65_0 : decode prog_15_method_109_code 0 = .ok (.aload_n 0, 1) := by decide +kernel
theorem px_d65_1 : decode prog_15_method_109_code 1 = .ok (.iload_n 1, 1) := by decide +kernel
theorem px_d65_2 : decode prog_15_method_109_code 2 = .ok (.invokevirtual 522, 3) := by decide +kernel
theorem px_d65_5 : decode prog_15_method_109_code 5 = .ok (.ifCond .eq 22, 3) := by decide +kernel
theorem px_d65_27 : decode prog_15_method_109_code 27 = .ok (.iconst (-1), 1) := by decide +kernel
theorem px_d65_28 : decode prog_15_method_109_code 28 = .ok (.istore_n 3, 1) := by decide +kernel
theorem px_d65_29 : decode prog_15_method_109_code 29 = .ok (.iload_n 3, 1) := by decide +kernel
theorem px_d65_30 : decode prog_15_method_109_code 30 = .ok (.ifCond .ge 7, 3) := by decide +kernel
theorem px_d65_33 : decode prog_15_method_109_code 33 = .ok (.iconst (-1), 1) := by decide +kernel
theorem px_d65_34 : decode prog_15_method_109_code 34 = .ok (.goto 9, 3) := by decide +kernel
theorem px_d65_43 : decode prog_15_method_109_code 43 = .ok (.ireturn, 1) := by decide +kernel
theorem px_d66_0 : decode prog_15_method_110_code 0 = .ok (.aload_n 0, 1) := by decide +kernel
theorem px_d66_1 : decode prog_15_method_110_code 1 = .ok (.iload_n 1, 1) := by decide +kernel
theorem px_d66_2 : decode prog_15_method_110_code 2 = .ok (.invokevirtual 522, 3) := by decide +kernel
theorem px_d66_5 : decode prog_15_method_110_code 5 = .ok (.ifCond .eq 27, 3) := by decide +kernel
theorem px_d66_32 : decode prog_15_method_110_code 32 = .ok (.iconst (-1), 1) := by decide +kernel
theorem px_d66_33 : decode prog_15_method_110_code 33 = .ok (.ireturn, 1) := by decide +kernel
theorem px_d67_0 : decode prog_15_method_111_code 0 = .ok (.aload_n 0, 1) := by decide +kernel
theorem px_d67_1 : decode prog_15_method_111_code 1 = .ok (.iload_n 1, 1) := by decide +kernel
theorem px_d67_2 : decode prog_15_method_111_code 2 = .ok (.invokevirtual 522, 3) := by decide +kernel
theorem px_d67_5 : decode prog_15_method_111_code 5 = .ok (.ifCond .eq 42, 3) := by decide +kernel
theorem px_d67_47 : decode prog_15_method_111_code 47 = .ok (.iconst (-1), 1) := by decide +kernel
theorem px_d67_48 : decode prog_15_method_111_code 48 = .ok (.ireturn, 1) := by decide +kernel
theorem px_d68_0 : decode prog_15_method_112_code 0 = .ok (.aload_n 0, 1) := by decide +kernel
theorem px_d68_1 : decode prog_15_method_112_code 1 = .ok (.iload_n 1, 1) := by decide +kernel
theorem px_d68_2 : decode prog_15_method_112_code 2 = .ok (.invokevirtual 522, 3) := by decide +kernel
theorem px_d68_5 : decode prog_15_method_112_code 5 = .ok (.ifCond .eq 43, 3) := by decide +kernel
theorem px_d68_48 : decode prog_15_method_112_code 48 = .ok (.iconst (-1), 1) := by decide +kernel
theorem px_d68_49 : decode prog_15_method_112_code 49 = .ok (.ireturn, 1) := by decide +kernel
