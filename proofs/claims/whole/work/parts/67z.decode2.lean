theorem px_d301_12 : decode prog_13_method_9_code 12 = .ok (.getfield 34, 3) := by decide +kernel
theorem px_d301_15 : decode prog_13_method_9_code 15 = .ok (.getfield 60, 3) := by decide +kernel
theorem px_d301_18 : decode prog_13_method_9_code 18 = .ok (.if_icmp .ge 55, 3) := by decide +kernel
theorem px_d301_21 : decode prog_13_method_9_code 21 = .ok (.iload_n 2, 1) := by decide +kernel
theorem px_d301_22 : decode prog_13_method_9_code 22 = .ok (.iload 4, 2) := by decide +kernel
theorem px_d301_24 : decode prog_13_method_9_code 24 = .ok (.ishr, 1) := by decide +kernel
theorem px_d301_25 : decode prog_13_method_9_code 25 = .ok (.iconst 1, 1) := by decide +kernel
theorem px_d301_26 : decode prog_13_method_9_code 26 = .ok (.iand, 1) := by decide +kernel
theorem px_d301_27 : decode prog_13_method_9_code 27 = .ok (.ifCond .eq 40, 3) := by decide +kernel
theorem px_d301_30 : decode prog_13_method_9_code 30 = .ok (.iconst 0, 1) := by decide +kernel
theorem px_d301_31 : decode prog_13_method_9_code 31 = .ok (.istore 5, 2) := by decide +kernel
theorem px_d301_33 : decode prog_13_method_9_code 33 = .ok (.iload 5, 2) := by decide +kernel
theorem px_d301_35 : decode prog_13_method_9_code 35 = .ok (.iconst 1, 1) := by decide +kernel
theorem px_d301_36 : decode prog_13_method_9_code 36 = .ok (.iload_n 3, 1) := by decide +kernel
theorem px_d301_37 : decode prog_13_method_9_code 37 = .ok (.ishl, 1) := by decide +kernel
theorem px_d301_38 : decode prog_13_method_9_code 38 = .ok (.if_icmp .ge 26, 3) := by decide +kernel
theorem px_d301_41 : decode prog_13_method_9_code 41 = .ok (.aload_n 1, 1) := by decide +kernel
theorem px_d301_42 : decode prog_13_method_9_code 42 = .ok (.iload 5, 2) := by decide +kernel
theorem px_d301_44 : decode prog_13_method_9_code 44 = .ok (.iconst 1, 1) := by decide +kernel
theorem px_d301_45 : decode prog_13_method_9_code 45 = .ok (.iload_n 3, 1) := by decide +kernel
theorem px_d301_46 : decode prog_13_method_9_code 46 = .ok (.ishl, 1) := by decide +kernel
theorem px_d301_47 : decode prog_13_method_9_code 47 = .ok (.ior, 1) := by decide +kernel
theorem px_d301_48 : decode prog_13_method_9_code 48 = .ok (.aload_n 1, 1) := by decide +kernel
theorem px_d301_49 : decode prog_13_method_9_code 49 = .ok (.iload 5, 2) := by decide +kernel
theorem px_d301_51 : decode prog_13_method_9_code 51 = .ok (.iaload, 1) := by decide +kernel
theorem px_d301_52 : decode prog_13_method_9_code 52 = .ok (.iconst 1, 1) := by decide +kernel
theorem px_d301_53 : decode prog_13_method_9_code 53 = .ok (.iload 4, 2) := by decide +kernel
theorem px_d301_55 : decode prog_13_method_9_code 55 = .ok (.ishl, 1) := by decide +kernel
theorem px_d301_56 : decode prog_13_method_9_code 56 = .ok (.ior, 1) := by decide +kernel
theorem px_d301_57 : decode prog_13_method_9_code 57 = .ok (.iastore, 1) := by decide +kernel
theorem px_d301_58 : decode prog_13_method_9_code 58 = .ok (.iinc 5 1, 3) := by decide +kernel
theorem px_d301_61 : decode prog_13_method_9_code 61 = .ok (.goto (-28), 3) := by decide +kernel
theorem px_d301_64 : decode prog_13_method_9_code 64 = .ok (.iinc 3 1, 3) := by decide +kernel
theorem px_d301_67 : decode prog_13_method_9_code 67 = .ok (.iinc 4 1, 3) := by decide +kernel
theorem px_d301_70 : decode prog_13_method_9_code 70 = .ok (.goto (-61), 3) := by decide +kernel
theorem px_d301_73 : decode prog_13_method_9_code 73 = .ok (.return_, 1) := by decide +kernel
theorem px_d302_0 : decode prog_13_method_10_code 0 = .ok (.aload_n 0, 1) := by decide +kernel
theorem px_d302_1 : decode prog_13_method_10_code 1 = .ok (.getfield 9, 3) := by decide +kernel
theorem px_d302_4 : decode prog_13_method_10_code 4 = .ok (.aload_n 0, 1) := by decide +kernel
theorem px_d302_5 : decode prog_13_method_10_code 5 = .ok (.getfield 38, 3) := by decide +kernel
theorem px_d302_8 : decode prog_13_method_10_code 8 = .ok (.getfield 60, 3) := by decide +kernel
theorem px_d302_11 : decode prog_13_method_10_code 11 = .ok (.aload_n 0, 1) := by decide +kernel
theorem px_d302_12 : decode prog_13_method_10_code 12 = .ok (.getfield 38, 3) := by decide +kernel
theorem px_d302_15 : decode prog_13_method_10_code 15 = .ok (.getfield 57, 3) := by decide +kernel
theorem px_d302_18 : decode prog_13_method_10_code 18 = .ok (.iconst 1, 1) := by decide +kernel
theorem px_d302_19 : decode prog_13_method_10_code 19 = .ok (.iadd, 1) := by decide +kernel
theorem px_d302_20 : decode prog_13_method_10_code 20 = .ok (.invokevirtual 69, 3) := by decide +kernel
theorem px_d302_23 : decode prog_13_method_10_code 23 = .ok (.istore_n 1, 1) := by decide +kernel
theorem px_d302_24 : decode prog_13_method_10_code 24 = .ok (.iconst 0, 1) := by decide +kernel
theorem px_d302_25 : decode prog_13_method_10_code 25 = .ok (.istore_n 2, 1) := by decide +kernel
theorem px_d302_26 : decode prog_13_method_10_code 26 = .ok (.aload_n 0, 1) := by decide +kernel
theorem px_d302_27 : decode prog_13_method_10_code 27 = .ok (.getfield 9, 3) := by decide +kernel
theorem px_d302_30 : decode prog_13_method_10_code 30 = .ok (.aload_n 0, 1) := by decide +kernel
theorem px_d302_31 : decode prog_13_method_10_code 31 = .ok (.getfield 38, 3) := by decide +kernel
theorem px_d302_34 : decode prog_13_method_10_code 34 = .ok (.getfield 60, 3) := by decide +kernel
theorem px_d302_37 : decode prog_13_method_10_code 37 = .ok (.aload_n 0, 1) := by decide +kernel
theorem px_d302_38 : decode prog_13_method_10_code 38 = .ok (.getfield 38, 3) := by decide +kernel
theorem px_d302_41 : decode prog_13_method_10_code 41 = .ok (.getfield 57, 3) := by decide +kernel
theorem px_d302_44 : decode prog_13_method_10_code 44 = .ok (.invokevirtual 69, 3) := by decide +kernel
theorem px_d302_47 : decode prog_13_method_10_code 47 = .ok (.istore_n 3, 1) := by decide +kernel
theorem px_d302_48 : decode prog_13_method_10_code 48 = .ok (.iload_n 3, 1) := by decide +kernel
theorem px_d302_49 : decode prog_13_method_10_code 49 = .ok (.iload_n 1, 1) := by decide +kernel
theorem px_d302_50 : decode prog_13_method_10_code 50 = .ok (.if_icmp .ge 47, 3) := by decide +kernel
theorem px_d302_53 : decode prog_13_method_10_code 53 = .ok (.iload_n 2, 1) := by decide +kernel
theorem px_d302_54 : decode prog_13_method_10_code 54 = .ok (.aload_n 0, 1) := by decide +kernel
theorem px_d302_55 : decode prog_13_method_10_code 55 = .ok (.getfield 100, 3) := by decide +kernel
theorem px_d302_58 : decode prog_13_method_10_code 58 = .ok (.if_icmp .gt 39, 3) := by decide +kernel
theorem px_d302_61 : decode prog_13_method_10_code 61 = .ok (.iload_n 2, 1) := by decide +kernel
theorem px_d302_62 : decode prog_13_method_10_code 62 = .ok (.aload_n 0, 1) := by decide +kernel
theorem px_d302_63 : decode prog_13_method_10_code 63 = .ok (.aload_n 0, 1) := by decide +kernel
theorem px_d302_64 : decode prog_13_method_10_code 64 = .ok (.getfield 9, 3) := by decide +kernel
theorem px_d302_67 : decode prog_13_method_10_code 67 = .ok (.aload_n 0, 1) := by decide +kernel
theorem px_d302_68 : decode prog_13_method_10_code 68 = .ok (.getfield 38, 3) := by decide +kernel
theorem px_d302_71 : decode prog_13_method_10_code 71 = .ok (.getfield 60, 3) := by decide +kernel
theorem px_d302_74 : decode prog_13_method_10_code 74 = .ok (.iload_n 3, 1) := by decide +kernel
theorem px_d302_75 : decode prog_13_method_10_code 75 = .ok (.invokevirtual 75, 3) := by decide +kernel
theorem px_d302_78 : decode prog_13_method_10_code 78 = .ok (.invokevirtual 150, 3) := by decide +kernel
theorem px_d302_81 : decode prog_13_method_10_code 81 = .ok (.ifCond .eq 7, 3) := by decide +kernel
theorem px_d302_84 : decode prog_13_method_10_code 84 = .ok (.iconst 1, 1) := by decide +kernel
theorem px_d302_85 : decode prog_13_method_10_code 85 = .ok (.goto 4, 3) := by decide +kernel
theorem px_d302_88 : decode prog_13_method_10_code 88 = .ok (.iconst 0, 1) := by decide +kernel
theorem px_d302_89 : decode prog_13_method_10_code 89 = .ok (.iadd, 1) := by decide +kernel
theorem px_d302_90 : decode prog_13_method_10_code 90 = .ok (.istore_n 2, 1) := by decide +kernel
theorem px_d302_91 : decode prog_13_method_10_code 91 = .ok (.iinc 3 1, 3) := by decide +kernel
theorem px_d302_94 : decode prog_13_method_10_code 94 = .ok (.goto (-46), 3) := by decide +kernel
theorem px_d302_97 : decode prog_13_method_10_code 97 = .ok (.iload_n 2, 1) := by decide +kernel
theorem px_d302_98 : decode prog_13_method_10_code 98 = .ok (.aload_n 0, 1) := by decide +kernel
theorem px_d302_99 : decode prog_13_method_10_code 99 = .ok (.getfield 100, 3) := by decide +kernel
theorem px_d302_102 : decode prog_13_method_10_code 102 = .ok (.if_icmp .ne 7, 3) := by decide +kernel
theorem px_d302_105 : decode prog_13_method_10_code 105 = .ok (.iconst 1, 1) := by decide +kernel
theorem px_d302_106 : decode prog_13_method_10_code 106 = .ok (.goto 4, 3) := by decide +kernel
theorem px_d302_109 : decode prog_13_method_10_code 109 = .ok (.iconst 0, 1) := by decide +kernel
theorem px_d302_110 : decode prog_13_method_10_code 110 = .ok (.ireturn, 1) := by decide +kernel
theorem px_d303_0 : decode prog_13_method_11_code 0 = .ok (.aload_n 0, 1) := by decide +kernel
theorem px_d303_1 : decode prog_13_method_11_code 1 = .ok (.getfield 34, 3) := by decide +kernel
theorem px_d303_4 : decode prog_13_method_11_code 4 = .ok (.getfield 120, 3) := by decide +kernel
theorem px_d303_7 : decode prog_13_method_11_code 7 = .ok (.aload_n 0, 1) := by decide +kernel
theorem px_d303_8 : decode prog_13_method_11_code 8 = .ok (.getfield 25, 3) := by decide +kernel
theorem px_d303_11 : decode prog_13_method_11_code 11 = .ok (.iload_n 1, 1) := by decide +kernel
theorem px_d303_12 : decode prog_13_method_11_code 12 = .ok (.iaload, 1) := by decide +kernel
theorem px_d303_13 : decode prog_13_method_11_code 13 = .ok (.aload_n 0, 1) := by decide +kernel
theorem px_d303_14 : decode prog_13_method_11_code 14 = .ok (.getfield 131, 3) := by decide +kernel
theorem px_d303_17 : decode prog_13_method_11_code 17 = .ok (.ior, 1) := by decide +kernel
theorem px_d303_18 : decode prog_13_method_11_code 18 = .ok (.baload, 1) := by decide +kernel
theorem px_d303_19 : decode prog_13_method_11_code 19 = .ok (.aload_n 0, 1) := by decide +kernel
theorem px_d303_20 : decode prog_13_method_11_code 20 = .ok (.getfield 38, 3) := by decide +kernel
theorem px_d303_23 : decode prog_13_method_11_code 23 = .ok (.getfield 57, 3) := by decide +kernel
theorem px_d303_26 : decode prog_13_method_11_code 26 = .ok (.aload_n 0, 1) := by decide +kernel
theorem px_d303_27 : decode prog_13_method_11_code 27 = .ok (.getfield 134, 3) := by decide +kernel
theorem px_d303_30 : decode prog_13_method_11_code 30 = .ok (.iadd, 1) := by decide +kernel
theorem px_d303_31 : decode prog_13_method_11_code 31 = .ok (.if_icmp .ne 7, 3) := by decide +kernel
theorem px_d303_34 : decode prog_13_method_11_code 34 = .ok (.iconst 1, 1) := by decide +kernel
theorem px_d303_35 : decode prog_13_method_11_code 35 = .ok (.goto 4, 3) := by decide +kernel
theorem px_d303_38 : decode prog_13_method_11_code 38 = .ok (.iconst 0, 1) := by decide +kernel
theorem px_d303_39 : decode prog_13_method_11_code 39 = .ok (.ireturn, 1) := by decide +kernel
theorem px_d304_0 : decode prog_13_method_12_code 0 = .ok (.aload_n 0, 1) := by decide +kernel
theorem px_d304_1 : decode prog_13_method_12_code 1 = .ok (.iconst 0, 1) := by decide +kernel
theorem px_d304_2 : decode prog_13_method_12_code 2 = .ok (.putfield 153, 3) := by decide +kernel
theorem px_d304_5 : decode prog_13_method_12_code 5 = .ok (.aload_n 0, 1) := by decide +kernel
theorem px_d304_6 : decode prog_13_method_12_code 6 = .ok (.getfield 31, 3) := by decide +kernel
theorem px_d304_9 : decode prog_13_method_12_code 9 = .ok (.iconst 0, 1) := by decide +kernel
theorem px_d304_10 : decode prog_13_method_12_code 10 = .ok (.aload_n 0, 1) := by decide +kernel
theorem px_d304_11 : decode prog_13_method_12_code 11 = .ok (.getfield 131, 3) := by decide +kernel
theorem px_d304_14 : decode prog_13_method_12_code 14 = .ok (.iastore, 1) := by decide +kernel
theorem px_d304_15 : decode prog_13_method_12_code 15 = .ok (.aload_n 0, 1) := by decide +kernel
theorem px_d304_16 : decode prog_13_method_12_code 16 = .ok (.getfield 22, 3) := by decide +kernel
theorem px_d304_19 : decode prog_13_method_12_code 19 = .ok (.iconst 0, 1) := by decide +kernel
theorem px_d304_20 : decode prog_13_method_12_code 20 = .ok (.invokestatic 94, 3) := by decide +kernel
theorem px_d304_23 : decode prog_13_method_12_code 23 = .ok (.aload_n 0, 1) := by decide +kernel
theorem px_d304_24 : decode prog_13_method_12_code 24 = .ok (.getfield 9, 3) := by decide +kernel
theorem px_d304_27 : decode prog_13_method_12_code 27 = .ok (.aload_n 0, 1) := by decide +kernel
theorem px_d304_28 : decode prog_13_method_12_code 28 = .ok (.getfield 38, 3) := by decide +kernel
theorem px_d304_31 : decode prog_13_method_12_code 31 = .ok (.getfield 60, 3) := by decide +kernel
theorem px_d304_34 : decode prog_13_method_12_code 34 = .ok (.aload_n 0, 1) := by decide +kernel
theorem px_d304_35 : decode prog_13_method_12_code 35 = .ok (.getfield 38, 3) := by decide +kernel
theorem px_d304_38 : decode prog_13_method_12_code 38 = .ok (.getfield 57, 3) := by decide +kernel
theorem px_d304_41 : decode prog_13_method_12_code 41 = .ok (.iconst 1, 1) := by decide +kernel
theorem px_d304_42 : decode prog_13_method_12_code 42 = .ok (.iadd, 1) := by decide +kernel
theorem px_d304_43 : decode prog_13_method_12_code 43 = .ok (.invokevirtual 69, 3) := by decide +kernel
theorem px_d304_46 : decode prog_13_method_12_code 46 = .ok (.istore_n 1, 1) := by decide +kernel
theorem px_d304_47 : decode prog_13_method_12_code 47 = .ok (.aload_n 0, 1) := by decide +kernel
theorem px_d304_48 : decode prog_13_method_12_code 48 = .ok (.getfield 9, 3) := by decide +kernel
theorem px_d304_51 : decode prog_13_method_12_code 51 = .ok (.aload_n 0, 1) := by decide +kernel
theorem px_d304_52 : decode prog_13_method_12_code 52 = .ok (.getfield 38, 3) := by decide +kernel
theorem px_d304_55 : decode prog_13_method_12_code 55 = .ok (.getfield 60, 3) := by decide +kernel
theorem px_d304_58 : decode prog_13_method_12_code 58 = .ok (.aload_n 0, 1) := by decide +kernel
theorem px_d304_59 : decode prog_13_method_12_code 59 = .ok (.getfield 38, 3) := by decide +kernel
theorem px_d304_62 : decode prog_13_method_12_code 62 = .ok (.getfield 57, 3) := by decide +kernel
theorem px_d304_65 : decode prog_13_method_12_code 65 = .ok (.invokevirtual 69, 3) := by decide +kernel
theorem px_d304_68 : decode prog_13_method_12_code 68 = .ok (.istore_n 2, 1) := by decide +kernel
theorem px_d304_69 : decode prog_13_method_12_code 69 = .ok (.iload_n 2, 1) := by decide +kernel
theorem px_d304_70 : decode prog_13_method_12_code 70 = .ok (.iload_n 1, 1) := by decide +kernel
theorem px_d304_71 : decode prog_13_method_12_code 71 = .ok (.if_icmp .ge 42, 3) := by decide +kernel
theorem px_d304_74 : decode prog_13_method_12_code 74 = .ok (.aload_n 0, 1) := by decide +kernel
theorem px_d304_75 : decode prog_13_method_12_code 75 = .ok (.getfield 9, 3) := by decide +kernel
theorem px_d304_78 : decode prog_13_method_12_code 78 = .ok (.aload_n 0, 1) := by decide +kernel
theorem px_d304_79 : decode prog_13_method_12_code 79 = .ok (.getfield 38, 3) := by decide +kernel
theorem px_d304_82 : decode prog_13_method_12_code 82 = .ok (.getfield 60, 3) := by decide +kernel
theorem px_d304_85 : decode prog_13_method_12_code 85 = .ok (.iload_n 2, 1) := by decide +kernel
theorem px_d304_86 : decode prog_13_method_12_code 86 = .ok (.invokevirtual 75, 3) := by decide +kernel
theorem px_d304_89 : decode prog_13_method_12_code 89 = .ok (.istore_n 3, 1) := by decide +kernel
theorem px_d304_90 : decode prog_13_method_12_code 90 = .ok (.aload_n 0, 1) := by decide +kernel
theorem px_d304_91 : decode prog_13_method_12_code 91 = .ok (.iload_n 3, 1) := by decide +kernel
theorem px_d304_92 : decode prog_13_method_12_code 92 = .ok (.invokevirtual 150, 3) := by decide +kernel
theorem px_d304_95 : decode prog_13_method_12_code 95 = .ok (.ifCond .eq 12, 3) := by decide +kernel
theorem px_d304_98 : decode prog_13_method_12_code 98 = .ok (.aload_n 0, 1) := by decide +kernel
theorem px_d304_99 : decode prog_13_method_12_code 99 = .ok (.aload_n 0, 1) := by decide +kernel
theorem px_d304_100 : decode prog_13_method_12_code 100 = .ok (.getfield 22, 3) := by decide +kernel
theorem px_d304_103 : decode prog_13_method_12_code 103 = .ok (.iload_n 3, 1) := by decide +kernel
theorem px_d304_104 : decode prog_13_method_12_code 104 = .ok (.invokevirtual 111, 3) := by decide +kernel
theorem px_d304_107 : decode prog_13_method_12_code 107 = .ok (.iinc 2 1, 3) := by decide +kernel
theorem px_d304_110 : decode prog_13_method_12_code 110 = .ok (.goto (-41), 3) := by decide +kernel
theorem px_d304_113 : decode prog_13_method_12_code 113 = .ok (.bipush 13, 2) := by decide +kernel
theorem px_d304_115 : decode prog_13_method_12_code 115 = .ok (.istore_n 2, 1) := by decide +kernel
theorem px_d304_116 : decode prog_13_method_12_code 116 = .ok (.iconst 0, 1) := by decide +kernel
theorem px_d304_117 : decode prog_13_method_12_code 117 = .ok (.istore_n 3, 1) := by decide +kernel
theorem px_d304_118 : decode prog_13_method_12_code 118 = .ok (.iconst 0, 1) := by decide +kernel
theorem px_d304_119 : decode prog_13_method_12_code 119 = .ok (.istore 4, 2) := by decide +kernel
theorem px_d304_121 : decode prog_13_method_12_code 121 = .ok (.iload 4, 2) := by decide +kernel
theorem px_d304_123 : decode prog_13_method_12_code 123 = .ok (.aload_n 0, 1) := by decide +kernel
theorem px_d304_124 : decode prog_13_method_12_code 124 = .ok (.getfield 38, 3) := by decide +kernel
theorem px_d304_127 : decode prog_13_method_12_code 127 = .ok (.getfield 60, 3) := by decide +kernel
theorem px_d304_130 : decode prog_13_method_12_code 130 = .ok (.if_icmp .ge 92, 3) := by decide +kernel
theorem px_d304_133 : decode prog_13_method_12_code 133 = .ok (.iload_n 3, 1) := by decide +kernel
theorem px_d304_134 : decode prog_13_method_12_code 134 = .ok (.ifCond .ne 88, 3) := by decide +kernel
theorem px_d304_137 : decode prog_13_method_12_code 137 = .ok (.iconst 0, 1) := by decide +kernel
theorem px_d304_138 : decode prog_13_method_12_code 138 = .ok (.istore 5, 2) := by decide +kernel
theorem px_d304_140 : decode prog_13_method_12_code 140 = .ok (.iload 5, 2) := by decide +kernel
theorem px_d304_142 : decode prog_13_method_12_code 142 = .ok (.aload_n 0, 1) := by decide +kernel
theorem px_d304_143 : decode prog_13_method_12_code 143 = .ok (.getfield 38, 3) := by decide +kernel
theorem px_d304_146 : decode prog_13_method_12_code 146 = .ok (.getfield 60, 3) := by decide +kernel
theorem px_d304_149 : decode prog_13_method_12_code 149 = .ok (.if_icmp .ge 67, 3) := by decide +kernel
theorem px_d304_152 : decode prog_13_method_12_code 152 = .ok (.iload_n 3, 1) := by decide +kernel
theorem px_d304_153 : decode prog_13_method_12_code 153 = .ok (.aload_n 0, 1) := by decide +kernel
theorem px_d304_154 : decode prog_13_method_12_code 154 = .ok (.getfield 19, 3) := by decide +kernel
theorem px_d304_157 : decode prog_13_method_12_code 157 = .ok (.iload 5, 2) := by decide +kernel
theorem px_d304_159 : decode prog_13_method_12_code 159 = .ok (.iload_n 2, 1) := by decide +kernel
theorem px_d304_160 : decode prog_13_method_12_code 160 = .ok (.imul, 1) := by decide +kernel
theorem px_d304_161 : decode prog_13_method_12_code 161 = .ok (.iaload, 1) := by decide +kernel
theorem px_d304_162 : decode prog_13_method_12_code 162 = .ok (.aload_n 0, 1) := by decide +kernel
theorem px_d304_163 : decode prog_13_method_12_code 163 = .ok (.getfield 19, 3) := by decide +kernel
theorem px_d304_166 : decode prog_13_method_12_code 166 = .ok (.iload 4, 2) := by decide +kernel
theorem px_d304_168 : decode prog_13_method_12_code 168 = .ok (.iload_n 2, 1) := by decide +kernel
theorem px_d304_169 : decode prog_13_method_12_code 169 = .ok (.imul, 1) := by decide +kernel
theorem px_d304_170 : decode prog_13_method_12_code 170 = .ok (.iaload, 1) := by decide +kernel
theorem px_d304_171 : decode prog_13_method_12_code 171 = .ok (.if_icmp .ne 7, 3) := by decide +kernel
theorem px_d304_174 : decode prog_13_method_12_code 174 = .ok (.iconst 1, 1) := by decide +kernel
theorem px_d304_175 : decode prog_13_method_12_code 175 = .ok (.goto 4, 3) := by decide +kernel
theorem px_d304_178 : decode prog_13_method_12_code 178 = .ok (.iconst 0, 1) := by decide +kernel
theorem px_d304_179 : decode prog_13_method_12_code 179 = .ok (.iadd, 1) := by decide +kernel
theorem px_d304_180 : decode prog_13_method_12_code 180 = .ok (.istore_n 3, 1) := by decide +kernel
theorem px_d304_181 : decode prog_13_method_12_code 181 = .ok (.iload_n 3, 1) := by decide +kernel
theorem px_d304_182 : decode prog_13_method_12_code 182 = .ok (.aload_n 0, 1) := by decide +kernel
theorem px_d304_183 : decode prog_13_method_12_code 183 = .ok (.getfield 22, 3) := by decide +kernel
theorem px_d304_186 : decode prog_13_method_12_code 186 = .ok (.iload 5, 2) := by decide +kernel
theorem px_d304_188 : decode prog_13_method_12_code 188 = .ok (.iload_n 2, 1) := by decide +kernel
theorem px_d304_189 : decode prog_13_method_12_code 189 = .ok (.imul, 1) := by decide +kernel
theorem px_d304_190 : decode prog_13_method_12_code 190 = .ok (.iaload, 1) := by decide +kernel
theorem px_d304_191 : decode prog_13_method_12_code 191 = .ok (.aload_n 0, 1) := by decide +kernel
theorem px_d304_192 : decode prog_13_method_12_code 192 = .ok (.getfield 19, 3) := by decide +kernel
theorem px_d304_195 : decode prog_13_method_12_code 195 = .ok (.iload 4, 2) := by decide +kernel
theorem px_d304_197 : decode prog_13_method_12_code 197 = .ok (.iload_n 2, 1) := by decide +kernel
theorem px_d304_198 : decode prog_13_method_12_code 198 = .ok (.imul, 1) := by decide +kernel
theorem px_d304_199 : decode prog_13_method_12_code 199 = .ok (.iaload, 1) := by decide +kernel
theorem px_d304_200 : decode prog_13_method_12_code 200 = .ok (.if_icmp .ne 7, 3) := by decide +kernel
theorem px_d304_203 : decode prog_13_method_12_code 203 = .ok (.iconst 1, 1) := by decide +kernel
theorem px_d304_204 : decode prog_13_method_12_code 204 = .ok (.goto 4, 3) := by decide +kernel
theorem px_d304_207 : decode prog_13_method_12_code 207 = .ok (.iconst 0, 1) := by decide +kernel
theorem px_d304_208 : decode prog_13_method_12_code 208 = .ok (.isub, 1) := by decide +kernel
theorem px_d304_209 : decode prog_13_method_12_code 209 = .ok (.istore_n 3, 1) := by decide +kernel
theorem px_d304_210 : decode prog_13_method_12_code 210 = .ok (.iinc 5 1, 3) := by decide +kernel
theorem px_d304_213 : decode prog_13_method_12_code 213 = .ok (.goto (-73), 3) := by decide +kernel
theorem px_d304_216 : decode prog_13_method_12_code 216 = .ok (.iinc 4 1, 3) := by decide +kernel
theorem px_d304_219 : decode prog_13_method_12_code 219 = .ok (.goto (-98), 3) := by decide +kernel
theorem px_d304_222 : decode prog_13_method_12_code 222 = .ok (.iload_n 3, 1) := by decide +kernel
theorem px_d304_223 : decode prog_13_method_12_code 223 = .ok (.ifCond .ne 7, 3) := by decide +kernel
theorem px_d304_226 : decode prog_13_method_12_code 226 = .ok (.iconst 1, 1) := by decide +kernel
theorem px_d304_227 : decode prog_13_method_12_code 227 = .ok (.goto 4, 3) := by decide +kernel
theorem px_d304_230 : decode prog_13_method_12_code 230 = .ok (.iconst 0, 1) := by decide +kernel
theorem px_d304_231 : decode prog_13_method_12_code 231 = .ok (.ireturn, 1) := by decide +kernel
theorem px_d305_0 : decode prog_13_method_13_code 0 = .ok (.iload_n 1, 1) := by decide +kernel
theorem px_d305_1 : decode prog_13_method_13_code 1 = .ok (.aload_n 0, 1) := by decide +kernel
theorem px_d305_2 : decode prog_13_method_13_code 2 = .ok (.getfield 38, 3) := by decide +kernel
theorem px_d305_5 : decode prog_13_method_13_code 5 = .ok (.getfield 60, 3) := by decide +kernel
theorem px_d305_8 : decode prog_13_method_13_code 8 = .ok (.if_icmp .lt 5, 3) := by decide +kernel
theorem px_d305_11 : decode prog_13_method_13_code 11 = .ok (.iconst 1, 1) := by decide +kernel
theorem px_d305_12 : decode prog_13_method_13_code 12 = .ok (.ireturn, 1) := by decide +kernel
theorem px_d305_13 : decode prog_13_method_13_code 13 = .ok (.iconst 0, 1) := by decide +kernel
theorem px_d305_14 : decode prog_13_method_13_code 14 = .ok (.istore_n 2, 1) := by decide +kernel
theorem px_d305_15 : decode prog_13_method_13_code 15 = .ok (.iload_n 2, 1) := by decide +kernel
theorem px_d305_16 : decode prog_13_method_13_code 16 = .ok (.aload_n 0, 1) := by decide +kernel
theorem px_d305_17 : decode prog_13_method_13_code 17 = .ok (.getfield 38, 3) := by decide +kernel
theorem px_d305_20 : decode prog_13_method_13_code 20 = .ok (.getfield 60, 3) := by decide +kernel
theorem px_d305_23 : decode prog_13_method_13_code 23 = .ok (.if_icmp .ge 81, 3) := by decide +kernel
theorem px_d305_26 : decode prog_13_method_13_code 26 = .ok (.aload_n 0, 1) := by decide +kernel
theorem px_d305_27 : decode prog_13_method_13_code 27 = .ok (.getfield 153, 3) := by decide +kernel
theorem px_d305_30 : decode prog_13_method_13_code 30 = .ok (.iload_n 2, 1) := by decide +kernel
theorem px_d305_31 : decode prog_13_method_13_code 31 = .ok (.ishr, 1) := by decide +kernel
theorem px_d305_32 : decode prog_13_method_13_code 32 = .ok (.iconst 1, 1) := by decide +kernel
theorem px_d305_33 : decode prog_13_method_13_code 33 = .ok (.iand, 1) := by decide +kernel
theorem px_d305_34 : decode prog_13_method_13_code 34 = .ok (.ifCond .ne 64, 3) := by decide +kernel
theorem px_d305_37 : decode prog_13_method_13_code 37 = .ok (.aload_n 0, 1) := by decide +kernel
theorem px_d305_38 : decode prog_13_method_13_code 38 = .ok (.iload_n 1, 1) := by decide +kernel
theorem px_d305_39 : decode prog_13_method_13_code 39 = .ok (.iload_n 2, 1) := by decide +kernel
theorem px_d305_40 : decode prog_13_method_13_code 40 = .ok (.invokevirtual 156, 3) := by decide +kernel
theorem px_d305_43 : decode prog_13_method_13_code 43 = .ok (.ifCond .eq 55, 3) := by decide +kernel
theorem px_d305_46 : decode prog_13_method_13_code 46 = .ok (.aload_n 0, 1) := by decide +kernel
theorem px_d305_47 : decode prog_13_method_13_code 47 = .ok (.iload_n 1, 1) := by decide +kernel
theorem px_d305_48 : decode prog_13_method_13_code 48 = .ok (.iload_n 2, 1) := by decide +kernel
theorem px_d305_49 : decode prog_13_method_13_code 49 = .ok (.invokevirtual 160, 3) := by decide +kernel
theorem px_d305_52 : decode prog_13_method_13_code 52 = .ok (.ifCond .eq 46, 3) := by decide +kernel
theorem px_d305_55 : decode prog_13_method_13_code 55 = .ok (.aload_n 0, 1) := by decide +kernel
theorem px_d305_56 : decode prog_13_method_13_code 56 = .ok (.getfield 15, 3) := by decide +kernel
theorem px_d305_59 : decode prog_13_method_13_code 59 = .ok (.iload_n 1, 1) := by decide +kernel
theorem px_d305_60 : decode prog_13_method_13_code 60 = .ok (.iload_n 2, 1) := by decide +kernel
theorem px_d305_61 : decode prog_13_method_13_code 61 = .ok (.iastore, 1) := by decide +kernel
theorem px_d305_62 : decode prog_13_method_13_code 62 = .ok (.aload_n 0, 1) := by decide +kernel
theorem px_d305_63 : decode prog_13_method_13_code 63 = .ok (.dup, 1) := by decide +kernel
theorem px_d305_64 : decode prog_13_method_13_code 64 = .ok (.getfield 153, 3) := by decide +kernel
theorem px_d305_67 : decode prog_13_method_13_code 67 = .ok (.iconst 1, 1) := by decide +kernel
theorem px_d305_68 : decode prog_13_method_13_code 68 = .ok (.iload_n 2, 1) := by decide +kernel
theorem px_d305_69 : decode prog_13_method_13_code 69 = .ok (.ishl, 1) := by decide +kernel
theorem px_d305_70 : decode prog_13_method_13_code 70 = .ok (.ior, 1) := by decide +kernel
theorem px_d305_71 : decode prog_13_method_13_code 71 = .ok (.putfield 153, 3) := by decide +kernel
theorem px_d305_74 : decode prog_13_method_13_code 74 = .ok (.aload_n 0, 1) := by decide +kernel
theorem px_d305_75 : decode prog_13_method_13_code 75 = .ok (.iload_n 1, 1) := by decide +kernel
theorem px_d305_76 : decode prog_13_method_13_code 76 = .ok (.iconst 1, 1) := by decide +kernel
theorem px_d305_77 : decode prog_13_method_13_code 77 = .ok (.iadd, 1) := by decide +kernel
theorem px_d305_78 : decode prog_13_method_13_code 78 = .ok (.invokevirtual 144, 3) := by decide +kernel
theorem px_d305_81 : decode prog_13_method_13_code 81 = .ok (.ifCond .eq 5, 3) := by decide +kernel
theorem px_d305_84 : decode prog_13_method_13_code 84 = .ok (.iconst 1, 1) := by decide +kernel
theorem px_d305_85 : decode prog_13_method_13_code 85 = .ok (.ireturn, 1) := by decide +kernel
theorem px_d305_86 : decode prog_13_method_13_code 86 = .ok (.aload_n 0, 1) := by decide +kernel
theorem px_d305_87 : decode prog_13_method_13_code 87 = .ok (.dup, 1) := by decide +kernel
theorem px_d305_88 : decode prog_13_method_13_code 88 = .ok (.getfield 153, 3) := by decide +kernel
theorem px_d305_91 : decode prog_13_method_13_code 91 = .ok (.iconst 1, 1) := by decide +kernel
theorem px_d305_92 : decode prog_13_method_13_code 92 = .ok (.iload_n 2, 1) := by decide +kernel
theorem px_d305_93 : decode prog_13_method_13_code 93 = .ok (.ishl, 1) := by decide +kernel
theorem px_d305_94 : decode prog_13_method_13_code 94 = .ok (.ixor, 1) := by decide +kernel
theorem px_d305_95 : decode prog_13_method_13_code 95 = .ok (.putfield 153, 3) := by decide +kernel
theorem px_d305_98 : decode prog_13_method_13_code 98 = .ok (.iinc 2 1, 3) := by decide +kernel
theorem px_d305_101 : decode prog_13_method_13_code 101 = .ok (.goto (-86), 3) := by decide +kernel
theorem px_d305_104 : decode prog_13_method_13_code 104 = .ok (.iconst 0, 1) := by decide +kernel
theorem px_d305_105 : decode prog_13_method_13_code 105 = .ok (.ireturn, 1) := by decide +kernel
theorem px_d306_0 : decode prog_13_method_14_code 0 = .ok (.iload_n 1, 1) := by decide +kernel
theorem px_d306_1 : decode prog_13_method_14_code 1 = .ok (.bipush 12, 2) := by decide +kernel
theorem px_d306_3 : decode prog_13_method_14_code 3 = .ok (.imul, 1) := by decide +kernel
theorem px_d306_4 : decode prog_13_method_14_code 4 = .ok (.istore_n 3, 1) := by decide +kernel
theorem px_d306_5 : decode prog_13_method_14_code 5 = .ok (.iload_n 2, 1) := by decide +kernel
theorem px_d306_6 : decode prog_13_method_14_code 6 = .ok (.bipush 12, 2) := by decide +kernel
theorem px_d306_8 : decode prog_13_method_14_code 8 = .ok (.imul, 1) := by decide +kernel
theorem px_d306_9 : decode prog_13_method_14_code 9 = .ok (.istore 4, 2) := by decide +kernel
theorem px_d306_11 : decode prog_13_method_14_code 11 = .ok (.aload_n 0, 1) := by decide +kernel
theorem px_d306_12 : decode prog_13_method_14_code 12 = .ok (.getfield 19, 3) := by decide +kernel
theorem px_d306_15 : decode prog_13_method_14_code 15 = .ok (.iload_n 3, 1) := by decide +kernel
theorem px_d306_16 : decode prog_13_method_14_code 16 = .ok (.iload_n 1, 1) := by decide +kernel
theorem px_d306_17 : decode prog_13_method_14_code 17 = .ok (.iadd, 1) := by decide +kernel
theorem px_d306_18 : decode prog_13_method_14_code 18 = .ok (.iaload, 1) := by decide +kernel
theorem px_d306_19 : decode prog_13_method_14_code 19 = .ok (.aload_n 0, 1) := by decide +kernel
theorem px_d306_20 : decode prog_13_method_14_code 20 = .ok (.getfield 22, 3) := by decide +kernel
theorem px_d306_23 : decode prog_13_method_14_code 23 = .ok (.iload 4, 2) := by decide +kernel
theorem px_d306_25 : decode prog_13_method_14_code 25 = .ok (.iload_n 2, 1) := by decide +kernel
theorem px_d306_26 : decode prog_13_method_14_code 26 = .ok (.iadd, 1) := by decide +kernel
theorem px_d306_27 : decode prog_13_method_14_code 27 = .ok (.iaload, 1) := by decide +kernel
theorem px_d306_28 : decode prog_13_method_14_code 28 = .ok (.if_icmp .ne 7, 3) := by decide +kernel
theorem px_d306_31 : decode prog_13_method_14_code 31 = .ok (.iconst 1, 1) := by decide +kernel
theorem px_d306_32 : decode prog_13_method_14_code 32 = .ok (.goto 4, 3) := by decide +kernel
theorem px_d306_35 : decode prog_13_method_14_code 35 = .ok (.iconst 0, 1) := by decide +kernel
theorem px_d306_36 : decode prog_13_method_14_code 36 = .ok (.istore 5, 2) := by decide +kernel
theorem px_d306_38 : decode prog_13_method_14_code 38 = .ok (.iconst 0, 1) := by decide +kernel
theorem px_d306_39 : decode prog_13_method_14_code 39 = .ok (.istore 6, 2) := by decide +kernel
theorem px_d306_41 : decode prog_13_method_14_code 41 = .ok (.iload 6, 2) := by decide +kernel
theorem px_d306_43 : decode prog_13_method_14_code 43 = .ok (.iload_n 1, 1) := by decide +kernel
theorem px_d306_44 : decode prog_13_method_14_code 44 = .ok (.if_icmp .ge 48, 3) := by decide +kernel
theorem px_d306_47 : decode prog_13_method_14_code 47 = .ok (.iload 5, 2) := by decide +kernel
theorem px_d306_49 : decode prog_13_method_14_code 49 = .ok (.ifCond .eq 43, 3) := by decide +kernel
theorem px_d306_52 : decode prog_13_method_14_code 52 = .ok (.aload_n 0, 1) := by decide +kernel
theorem px_d306_53 : decode prog_13_method_14_code 53 = .ok (.getfield 19, 3) := by decide +kernel
theorem px_d306_56 : decode prog_13_method_14_code 56 = .ok (.iload_n 3, 1) := by decide +kernel
theorem px_d306_57 : decode prog_13_method_14_code 57 = .ok (.iload 6, 2) := by decide +kernel
theorem px_d306_59 : decode prog_13_method_14_code 59 = .ok (.iadd, 1) := by decide +kernel
theorem px_d306_60 : decode prog_13_method_14_code 60 = .ok (.iaload, 1) := by decide +kernel
theorem px_d306_61 : decode prog_13_method_14_code 61 = .ok (.aload_n 0, 1) := by decide +kernel
theorem px_d306_62 : decode prog_13_method_14_code 62 = .ok (.getfield 22, 3) := by decide +kernel
theorem px_d306_65 : decode prog_13_method_14_code 65 = .ok (.iload 4, 2) := by decide +kernel
theorem px_d306_67 : decode prog_13_method_14_code 67 = .ok (.aload_n 0, 1) := by decide +kernel
theorem px_d306_68 : decode prog_13_method_14_code 68 = .ok (.getfield 15, 3) := by decide +kernel
theorem px_d306_71 : decode prog_13_method_14_code 71 = .ok (.iload 6, 2) := by decide +kernel
theorem px_d306_73 : decode prog_13_method_14_code 73 = .ok (.iaload, 1) := by decide +kernel
theorem px_d306_74 : decode prog_13_method_14_code 74 = .ok (.iadd, 1) := by decide +kernel
theorem px_d306_75 : decode prog_13_method_14_code 75 = .ok (.iaload, 1) := by decide +kernel
theorem px_d306_76 : decode prog_13_method_14_code 76 = .ok (.if_icmp .ne 7, 3) := by decide +kernel
theorem px_d306_79 : decode prog_13_method_14_code 79 = .ok (.iconst 1, 1) := by decide +kernel
theorem px_d306_80 : decode prog_13_method_14_code 80 = .ok (.goto 4, 3) := by decide +kernel
theorem px_d306_83 : decode prog_13_method_14_code 83 = .ok (.iconst 0, 1) := by decide +kernel
theorem px_d306_84 : decode prog_13_method_14_code 84 = .ok (.istore 5, 2) := by decide +kernel
theorem px_d306_86 : decode prog_13_method_14_code 86 = .ok (.iinc 6 1, 3) := by decide +kernel
theorem px_d306_89 : decode prog_13_method_14_code 89 = .ok (.goto (-48), 3) := by decide +kernel
theorem px_d306_92 : decode prog_13_method_14_code 92 = .ok (.iload 5, 2) := by decide +kernel
theorem px_d306_94 : decode prog_13_method_14_code 94 = .ok (.ireturn, 1) := by decide +kernel
theorem px_d307_0 : decode prog_13_method_15_code 0 = .ok (.aload_n 0, 1) := by decide +kernel
theorem px_d307_1 : decode prog_13_method_15_code 1 = .ok (.getfield 25, 3) := by decide +kernel
theorem px_d307_4 : decode prog_13_method_15_code 4 = .ok (.iconst 1, 1) := by decide +kernel
theorem px_d307_5 : decode prog_13_method_15_code 5 = .ok (.iload_n 2, 1) := by decide +kernel
theorem px_d307_6 : decode prog_13_method_15_code 6 = .ok (.ishl, 1) := by decide +kernel
theorem px_d307_7 : decode prog_13_method_15_code 7 = .ok (.iaload, 1) := by decide +kernel
theorem px_d307_8 : decode prog_13_method_15_code 8 = .ok (.istore_n 3, 1) := by decide +kernel
theorem px_d307_9 : decode prog_13_method_15_code 9 = .ok (.iconst 1, 1) := by decide +kernel
theorem px_d307_10 : decode prog_13_method_15_code 10 = .ok (.istore 4, 2) := by decide +kernel
theorem px_d307_12 : decode prog_13_method_15_code 12 = .ok (.iconst 0, 1) := by decide +kernel
theorem px_d307_13 : decode prog_13_method_15_code 13 = .ok (.istore 5, 2) := by decide +kernel
theorem px_d307_15 : decode prog_13_method_15_code 15 = .ok (.iload 5, 2) := by decide +kernel
theorem px_d307_17 : decode prog_13_method_15_code 17 = .ok (.iconst 1, 1) := by decide +kernel
theorem px_d307_18 : decode prog_13_method_15_code 18 = .ok (.iload_n 1, 1) := by decide +kernel
theorem px_d307_19 : decode prog_13_method_15_code 19 = .ok (.ishl, 1) := by decide +kernel
theorem px_d307_20 : decode prog_13_method_15_code 20 = .ok (.if_icmp .ge 118, 3) := by decide +kernel
theorem px_d307_23 : decode prog_13_method_15_code 23 = .ok (.iload 4, 2) := by decide +kernel
theorem px_d307_25 : decode prog_13_method_15_code 25 = .ok (.ifCond .eq 113, 3) := by decide +kernel
theorem px_d307_28 : decode prog_13_method_15_code 28 = .ok (.iload 5, 2) := by decide +kernel
theorem px_d307_30 : decode prog_13_method_15_code 30 = .ok (.iconst 1, 1) := by decide +kernel
theorem px_d307_31 : decode prog_13_method_15_code 31 = .ok (.iload_n 1, 1) := by decide +kernel
theorem px_d307_32 : decode prog_13_method_15_code 32 = .ok (.ishl, 1) := by decide +kernel
theorem px_d307_33 : decode prog_13_method_15_code 33 = .ok (.ior, 1) := by decide +kernel
theorem px_d307_34 : decode prog_13_method_15_code 34 = .ok (.istore 6, 2) := by decide +kernel
theorem px_d307_36 : decode prog_13_method_15_code 36 = .ok (.aload_n 0, 1) := by decide +kernel
theorem px_d307_37 : decode prog_13_method_15_code 37 = .ok (.getfield 31, 3) := by decide +kernel
theorem px_d307_40 : decode prog_13_method_15_code 40 = .ok (.iload 5, 2) := by decide +kernel
theorem px_d307_42 : decode prog_13_method_15_code 42 = .ok (.iaload, 1) := by decide +kernel
theorem px_d307_43 : decode prog_13_method_15_code 43 = .ok (.iload_n 3, 1) := by decide +kernel
theorem px_d307_44 : decode prog_13_method_15_code 44 = .ok (.ior, 1) := by decide +kernel
theorem px_d307_45 : decode prog_13_method_15_code 45 = .ok (.istore 7, 2) := by decide +kernel
theorem px_d307_47 : decode prog_13_method_15_code 47 = .ok (.aload_n 0, 1) := by decide +kernel
theorem px_d307_48 : decode prog_13_method_15_code 48 = .ok (.getfield 31, 3) := by decide +kernel
theorem px_d307_51 : decode prog_13_method_15_code 51 = .ok (.iload 6, 2) := by decide +kernel
theorem px_d307_53 : decode prog_13_method_15_code 53 = .ok (.iload 7, 2) := by decide +kernel
theorem px_d307_55 : decode prog_13_method_15_code 55 = .ok (.iastore, 1) := by decide +kernel
theorem px_d307_56 : decode prog_13_method_15_code 56 = .ok (.aload_n 0, 1) := by decide +kernel
theorem px_d307_57 : decode prog_13_method_15_code 57 = .ok (.getfield 38, 3) := by decide +kernel
theorem px_d307_60 : decode prog_13_method_15_code 60 = .ok (.getfield 120, 3) := by decide +kernel
theorem px_d307_63 : decode prog_13_method_15_code 63 = .ok (.iload 6, 2) := by decide +kernel
theorem px_d307_65 : decode prog_13_method_15_code 65 = .ok (.baload, 1) := by decide +kernel
theorem px_d307_66 : decode prog_13_method_15_code 66 = .ok (.aload_n 0, 1) := by decide +kernel
theorem px_d307_67 : decode prog_13_method_15_code 67 = .ok (.getfield 134, 3) := by decide +kernel
theorem px_d307_70 : decode prog_13_method_15_code 70 = .ok (.iadd, 1) := by decide +kernel
theorem px_d307_71 : decode prog_13_method_15_code 71 = .ok (.aload_n 0, 1) := by decide +kernel
theorem px_d307_72 : decode prog_13_method_15_code 72 = .ok (.getfield 34, 3) := by decide +kernel
theorem px_d307_75 : decode prog_13_method_15_code 75 = .ok (.getfield 120, 3) := by decide +kernel
theorem px_d307_78 : decode prog_13_method_15_code 78 = .ok (.iload 7, 2) := by decide +kernel
theorem px_d307_80 : decode prog_13_method_15_code 80 = .ok (.baload, 1) := by decide +kernel
theorem px_d307_81 : decode prog_13_method_15_code 81 = .ok (.if_icmp .ne 48, 3) := by decide +kernel
theorem px_d307_84 : decode prog_13_method_15_code 84 = .ok (.aload_n 0, 1) := by decide +kernel
theorem px_d307_85 : decode prog_13_method_15_code 85 = .ok (.getfield 38, 3) := by decide +kernel
theorem px_d307_88 : decode prog_13_method_15_code 88 = .ok (.getfield 120, 3) := by decide +kernel
theorem px_d307_91 : decode prog_13_method_15_code 91 = .ok (.aload_n 0, 1) := by decide +kernel
theorem px_d307_92 : decode prog_13_method_15_code 92 = .ok (.getfield 38, 3) := by decide +kernel
theorem px_d307_95 : decode prog_13_method_15_code 95 = .ok (.invokevirtual 103, 3) := by decide +kernel
theorem px_d307_98 : decode prog_13_method_15_code 98 = .ok (.iload 6, 2) := by decide +kernel
theorem px_d307_100 : decode prog_13_method_15_code 100 = .ok (.ixor, 1) := by decide +kernel
theorem px_d307_101 : decode prog_13_method_15_code 101 = .ok (.baload, 1) := by decide +kernel
theorem px_d307_102 : decode prog_13_method_15_code 102 = .ok (.aload_n 0, 1) := by decide +kernel
theorem px_d307_103 : decode prog_13_method_15_code 103 = .ok (.getfield 134, 3) := by decide +kernel
theorem px_d307_106 : decode prog_13_method_15_code 106 = .ok (.iadd, 1) := by decide +kernel
theorem px_d307_107 : decode prog_13_method_15_code 107 = .ok (.aload_n 0, 1) := by decide +kernel
theorem px_d307_108 : decode prog_13_method_15_code 108 = .ok (.getfield 34, 3) := by decide +kernel
theorem px_d307_111 : decode prog_13_method_15_code 111 = .ok (.getfield 120, 3) := by decide +kernel
theorem px_d307_114 : decode prog_13_method_15_code 114 = .ok (.aload_n 0, 1) := by decide +kernel
theorem px_d307_115 : decode prog_13_method_15_code 115 = .ok (.getfield 114, 3) := by decide +kernel
theorem px_d307_118 : decode prog_13_method_15_code 118 = .ok (.iload 7, 2) := by decide +kernel
theorem px_d307_120 : decode prog_13_method_15_code 120 = .ok (.ixor, 1) := by decide +kernel
theorem px_d307_121 : decode prog_13_method_15_code 121 = .ok (.baload, 1) := by decide +kernel
theorem px_d307_122 : decode prog_13_method_15_code 122 = .ok (.if_icmp .ne 7, 3) := by decide +kernel
theorem px_d307_125 : decode prog_13_method_15_code 125 = .ok (.iconst 1, 1) := by decide +kernel
theorem px_d307_126 : decode prog_13_method_15_code 126 = .ok (.goto 4, 3) := by decide +kernel
theorem px_d307_129 : decode prog_13_method_15_code 129 = .ok (.iconst 0, 1) := by decide +kernel
theorem px_d307_130 : decode prog_13_method_15_code 130 = .ok (.istore 4, 2) := by decide +kernel
theorem px_d307_132 : decode prog_13_method_15_code 132 = .ok (.iinc 5 1, 3) := by decide +kernel
theorem px_d307_135 : decode prog_13_method_15_code 135 = .ok (.goto (-120), 3) := by decide +kernel
theorem px_d307_138 : decode prog_13_method_15_code 138 = .ok (.iload 4, 2) := by decide +kernel
theorem px_d307_140 : decode prog_13_method_15_code 140 = .ok (.ireturn, 1) := by decide +kernel
theorem px_d308_0 : decode prog_13_method_4_code 0 = .ok (.iconst 0, 1) := by decide +kernel
theorem px_d308_1 : decode prog_13_method_4_code 1 = .ok (.istore_n 1, 1) := by decide +kernel
theorem px_d308_2 : decode prog_13_method_4_code 2 = .ok (.iload_n 1, 1) := by decide +kernel
theorem px_d308_3 : decode prog_13_method_4_code 3 = .ok (.aload_n 0, 1) := by decide +kernel
theorem px_d308_4 : decode prog_13_method_4_code 4 = .ok (.getfield 38, 3) := by decide +kernel
theorem px_d308_7 : decode prog_13_method_4_code 7 = .ok (.getfield 60, 3) := by decide +kernel
theorem px_d308_10 : decode prog_13_method_4_code 10 = .ok (.if_icmp .ge 33, 3) := by decide +kernel
theorem px_d308_13 : decode prog_13_method_4_code 13 = .ok (.aload_n 0, 1) := by decide +kernel
theorem px_d308_14 : decode prog_13_method_4_code 14 = .ok (.getfield 15, 3) := by decide +kernel
theorem px_d308_17 : decode prog_13_method_4_code 17 = .ok (.iload_n 1, 1) := by decide +kernel
theorem px_d308_18 : decode prog_13_method_4_code 18 = .ok (.aload_n 0, 1) := by decide +kernel
theorem px_d308_19 : decode prog_13_method_4_code 19 = .ok (.getfield 25, 3) := by decide +kernel
theorem px_d308_22 : decode prog_13_method_4_code 22 = .ok (.iconst 1, 1) := by decide +kernel
theorem px_d308_23 : decode prog_13_method_4_code 23 = .ok (.aload_n 0, 1) := by decide +kernel
theorem px_d308_24 : decode prog_13_method_4_code 24 = .ok (.getfield 15, 3) := by decide +kernel
theorem px_d308_27 : decode prog_13_method_4_code 27 = .ok (.iload_n 1, 1) := by decide +kernel
theorem px_d308_28 : decode prog_13_method_4_code 28 = .ok (.iaload, 1) := by decide +kernel
theorem px_d308_29 : decode prog_13_method_4_code 29 = .ok (.ishl, 1) := by decide +kernel
theorem px_d308_30 : decode prog_13_method_4_code 30 = .ok (.iaload, 1) := by decide +kernel
theorem px_d308_31 : decode prog_13_method_4_code 31 = .ok (.iconst 1, 1) := by decide +kernel
theorem px_d308_32 : decode prog_13_method_4_code 32 = .ok (.isub, 1) := by decide +kernel
theorem px_d308_33 : decode prog_13_method_4_code 33 = .ok (.invokestatic 85, 3) := by decide +kernel
theorem px_d308_36 : decode prog_13_method_4_code 36 = .ok (.iastore, 1) := by decide +kernel
theorem px_d308_37 : decode prog_13_method_4_code 37 = .ok (.iinc 1 1, 3) := by decide +kernel
theorem px_d308_40 : decode prog_13_method_4_code 40 = .ok (.goto (-38), 3) := by decide +kernel
theorem px_d308_43 : decode prog_13_method_4_code 43 = .ok (.return_, 1) := by decide +kernel
theorem px_d309_0 : decode prog_13_method_3_code 0 = .ok (.aload_n 0, 1) := by decide +kernel
theorem px_d309_1 : decode prog_13_method_3_code 1 = .ok (.getfield 15, 3) := by decide +kernel
theorem px_d309_4 : decode prog_13_method_3_code 4 = .ok (.iload_n 1, 1) := by decide +kernel
theorem px_d309_5 : decode prog_13_method_3_code 5 = .ok (.iaload, 1) := by decide +kernel
theorem px_d309_6 : decode prog_13_method_3_code 6 = .ok (.ireturn, 1) := by decide +kernel
