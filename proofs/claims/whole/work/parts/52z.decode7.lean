theorem px_d95_0 : decode prog_15_method_56_code 0 = .ok (.aload_n 0, 1) := by decide +kernel
theorem px_d95_1 : decode prog_15_method_56_code 1 = .ok (.getfield 338, 3) := by decide +kernel
theorem px_d95_4 : decode prog_15_method_56_code 4 = .ok (.iconst 1, 1) := by decide +kernel
theorem px_d95_5 : decode prog_15_method_56_code 5 = .ok (.if_icmp .eq 5, 3) := by decide +kernel
theorem px_d95_8 : decode prog_15_method_56_code 8 = .ok (.iconst (-1), 1) := by decide +kernel
theorem px_d95_9 : decode prog_15_method_56_code 9 = .ok (.ireturn, 1) := by decide +kernel
theorem px_d95_10 : decode prog_15_method_56_code 10 = .ok (.iconst 0, 1) := by decide +kernel
theorem px_d95_11 : decode prog_15_method_56_code 11 = .ok (.istore_n 2, 1) := by decide +kernel
theorem px_d95_12 : decode prog_15_method_56_code 12 = .ok (.iconst 0, 1) := by decide +kernel
theorem px_d95_13 : decode prog_15_method_56_code 13 = .ok (.istore_n 3, 1) := by decide +kernel
theorem px_d95_14 : decode prog_15_method_56_code 14 = .ok (.iload_n 2, 1) := by decide +kernel
theorem px_d95_15 : decode prog_15_method_56_code 15 = .ok (.iconst 1, 1) := by decide +kernel
theorem px_d95_16 : decode prog_15_method_56_code 16 = .ok (.iadd, 1) := by decide +kernel
theorem px_d95_17 : decode prog_15_method_56_code 17 = .ok (.aload_n 1, 1) := by decide +kernel
theorem px_d95_18 : decode prog_15_method_56_code 18 = .ok (.invokevirtual 348, 3) := by decide +kernel
theorem px_d95_21 : decode prog_15_method_56_code 21 = .ok (.if_icmp .ge 107, 3) := by decide +kernel
theorem px_d95_24 : decode prog_15_method_56_code 24 = .ok (.iconst 0, 1) := by decide +kernel
theorem px_d95_25 : decode prog_15_method_56_code 25 = .ok (.istore 4, 2) := by decide +kernel
theorem px_d95_27 : decode prog_15_method_56_code 27 = .ok (.aload_n 0, 1) := by decide +kernel
theorem px_d95_28 : decode prog_15_method_56_code 28 = .ok (.getfield 335, 3) := by decide +kernel
theorem px_d95_31 : decode prog_15_method_56_code 31 = .ok (.iload 4, 2) := by decide +kernel
theorem px_d95_33 : decode prog_15_method_56_code 33 = .ok (.iadd, 1) := by decide +kernel
theorem px_d95_34 : decode prog_15_method_56_code 34 = .ok (.aload_n 0, 1) := by decide +kernel
theorem px_d95_35 : decode prog_15_method_56_code 35 = .ok (.getfield 329, 3) := by decide +kernel
theorem px_d95_38 : decode prog_15_method_56_code 38 = .ok (.if_icmp .ge 34, 3) := by decide +kernel
theorem px_d95_41 : decode prog_15_method_56_code 41 = .ok (.aload_n 1, 1) := by decide +kernel
theorem px_d95_42 : decode prog_15_method_56_code 42 = .ok (.iload_n 2, 1) := by decide +kernel
theorem px_d95_43 : decode prog_15_method_56_code 43 = .ok (.iconst 1, 1) := by decide +kernel
theorem px_d95_44 : decode prog_15_method_56_code 44 = .ok (.iadd, 1) := by decide +kernel
theorem px_d95_45 : decode prog_15_method_56_code 45 = .ok (.iload 4, 2) := by decide +kernel
theorem px_d95_47 : decode prog_15_method_56_code 47 = .ok (.iadd, 1) := by decide +kernel
theorem px_d95_48 : decode prog_15_method_56_code 48 = .ok (.invokevirtual 352, 3) := by decide +kernel
theorem px_d95_51 : decode prog_15_method_56_code 51 = .ok (.aload_n 0, 1) := by decide +kernel
theorem px_d95_52 : decode prog_15_method_56_code 52 = .ok (.getfield 206, 3) := by decide +kernel
theorem px_d95_55 : decode prog_15_method_56_code 55 = .ok (.aload_n 0, 1) := by decide +kernel
theorem px_d95_56 : decode prog_15_method_56_code 56 = .ok (.getfield 335, 3) := by decide +kernel
theorem px_d95_59 : decode prog_15_method_56_code 59 = .ok (.iload 4, 2) := by decide +kernel
theorem px_d95_61 : decode prog_15_method_56_code 61 = .ok (.iadd, 1) := by decide +kernel
theorem px_d95_62 : decode prog_15_method_56_code 62 = .ok (.baload, 1) := by decide +kernel
theorem px_d95_63 : decode prog_15_method_56_code 63 = .ok (.if_icmp .ne 9, 3) := by decide +kernel
theorem px_d95_66 : decode prog_15_method_56_code 66 = .ok (.iinc 4 1, 3) := by decide +kernel
theorem px_d95_69 : decode prog_15_method_56_code 69 = .ok (.goto (-42), 3) := by decide +kernel
theorem px_d95_72 : decode prog_15_method_56_code 72 = .ok (.aload_n 0, 1) := by decide +kernel
theorem px_d95_73 : decode prog_15_method_56_code 73 = .ok (.getfield 335, 3) := by decide +kernel
theorem px_d95_76 : decode prog_15_method_56_code 76 = .ok (.iload 4, 2) := by decide +kernel
theorem px_d95_78 : decode prog_15_method_56_code 78 = .ok (.iadd, 1) := by decide +kernel
theorem px_d95_79 : decode prog_15_method_56_code 79 = .ok (.aload_n 0, 1) := by decide +kernel
theorem px_d95_80 : decode prog_15_method_56_code 80 = .ok (.getfield 329, 3) := by decide +kernel
theorem px_d95_83 : decode prog_15_method_56_code 83 = .ok (.if_icmp .ne 20, 3) := by decide +kernel
theorem px_d95_86 : decode prog_15_method_56_code 86 = .ok (.aload_n 1, 1) := by decide +kernel
theorem px_d95_87 : decode prog_15_method_56_code 87 = .ok (.iload_n 2, 1) := by decide +kernel
theorem px_d95_88 : decode prog_15_method_56_code 88 = .ok (.iconst 1, 1) := by decide +kernel
theorem px_d95_89 : decode prog_15_method_56_code 89 = .ok (.iadd, 1) := by decide +kernel
theorem px_d95_90 : decode prog_15_method_56_code 90 = .ok (.iload 4, 2) := by decide +kernel
theorem px_d95_92 : decode prog_15_method_56_code 92 = .ok (.iadd, 1) := by decide +kernel
theorem px_d95_93 : decode prog_15_method_56_code 93 = .ok (.invokevirtual 352, 3) := by decide +kernel
theorem px_d95_96 : decode prog_15_method_56_code 96 = .ok (.bipush 32, 2) := by decide +kernel
theorem px_d95_98 : decode prog_15_method_56_code 98 = .ok (.if_icmp .ne 5, 3) := by decide +kernel
theorem px_d95_101 : decode prog_15_method_56_code 101 = .ok (.iload_n 3, 1) := by decide +kernel
theorem px_d95_102 : decode prog_15_method_56_code 102 = .ok (.ireturn, 1) := by decide +kernel
theorem px_d95_103 : decode prog_15_method_56_code 103 = .ok (.iinc 2 1, 3) := by decide +kernel
theorem px_d95_106 : decode prog_15_method_56_code 106 = .ok (.aload_n 1, 1) := by decide +kernel
theorem px_d95_107 : decode prog_15_method_56_code 107 = .ok (.iload_n 2, 1) := by decide +kernel
theorem px_d95_108 : decode prog_15_method_56_code 108 = .ok (.invokevirtual 352, 3) := by decide +kernel
theorem px_d95_111 : decode prog_15_method_56_code 111 = .ok (.bipush 32, 2) := by decide +kernel
theorem px_d95_113 : decode prog_15_method_56_code 113 = .ok (.if_icmp .eq 9, 3) := by decide +kernel
theorem px_d95_116 : decode prog_15_method_56_code 116 = .ok (.iinc 2 1, 3) := by decide +kernel
theorem px_d95_119 : decode prog_15_method_56_code 119 = .ok (.goto (-13), 3) := by decide +kernel
theorem px_d95_122 : decode prog_15_method_56_code 122 = .ok (.iinc 3 1, 3) := by decide +kernel
theorem px_d95_125 : decode prog_15_method_56_code 125 = .ok (.goto (-111), 3) := by decide +kernel
theorem px_d95_128 : decode prog_15_method_56_code 128 = .ok (.iconst (-1), 1) := by decide +kernel
theorem px_d95_129 : decode prog_15_method_56_code 129 = .ok (.ireturn, 1) := by decide +kernel
theorem px_d96_0 : decode prog_15_method_62_code 0 = .ok (.aload_n 0, 1) := by decide +kernel
theorem px_d96_1 : decode prog_15_method_62_code 1 = .ok (.ldc_w 372, 3) := by decide +kernel
theorem px_d96_4 : decode prog_15_method_62_code 4 = .ok (.invokevirtual 374, 3) := by decide +kernel
theorem px_d96_7 : decode prog_15_method_62_code 7 = .ok (.istore_n 1, 1) := by decide +kernel
theorem px_d96_8 : decode prog_15_method_62_code 8 = .ok (.aload_n 0, 1) := by decide +kernel
theorem px_d96_9 : decode prog_15_method_62_code 9 = .ok (.iload_n 1, 1) := by decide +kernel
theorem px_d96_10 : decode prog_15_method_62_code 10 = .ok (.ifCond .lt 7, 3) := by decide +kernel
theorem px_d96_13 : decode prog_15_method_62_code 13 = .ok (.iconst 1, 1) := by decide +kernel
theorem px_d96_14 : decode prog_15_method_62_code 14 = .ok (.goto 4, 3) := by decide +kernel
theorem px_d96_17 : decode prog_15_method_62_code 17 = .ok (.iconst 0, 1) := by decide +kernel
theorem px_d96_18 : decode prog_15_method_62_code 18 = .ok (.invokevirtual 365, 3) := by decide +kernel
theorem px_d96_21 : decode prog_15_method_62_code 21 = .ok (.iload_n 1, 1) := by decide +kernel
theorem px_d96_22 : decode prog_15_method_62_code 22 = .ok (.ifCond .ne 67, 3) := by decide +kernel
theorem px_d96_25 : decode prog_15_method_62_code 25 = .ok (.aload_n 0, 1) := by decide +kernel
theorem px_d96_26 : decode prog_15_method_62_code 26 = .ok (.aload_n 0, 1) := by decide +kernel
theorem px_d96_27 : decode prog_15_method_62_code 27 = .ok (.getfield 338, 3) := by decide +kernel
theorem px_d96_30 : decode prog_15_method_62_code 30 = .ok (.iconst 2, 1) := by decide +kernel
theorem px_d96_31 : decode prog_15_method_62_code 31 = .ok (.if_icmp .eq 38, 3) := by decide +kernel
theorem px_d96_34 : decode prog_15_method_62_code 34 = .ok (.aload_n 0, 1) := by decide +kernel
theorem px_d96_35 : decode prog_15_method_62_code 35 = .ok (.getfield 338, 3) := by decide +kernel
theorem px_d96_38 : decode prog_15_method_62_code 38 = .ok (.iconst 1, 1) := by decide +kernel
theorem px_d96_39 : decode prog_15_method_62_code 39 = .ok (.if_icmp .ne 34, 3) := by decide +kernel
theorem px_d96_42 : decode prog_15_method_62_code 42 = .ok (.aload_n 0, 1) := by decide +kernel
theorem px_d96_43 : decode prog_15_method_62_code 43 = .ok (.getfield 329, 3) := by decide +kernel
theorem px_d96_46 : decode prog_15_method_62_code 46 = .ok (.aload_n 0, 1) := by decide +kernel
theorem px_d96_47 : decode prog_15_method_62_code 47 = .ok (.getfield 335, 3) := by decide +kernel
theorem px_d96_50 : decode prog_15_method_62_code 50 = .ok (.iconst 1, 1) := by decide +kernel
theorem px_d96_51 : decode prog_15_method_62_code 51 = .ok (.iadd, 1) := by decide +kernel
theorem px_d96_52 : decode prog_15_method_62_code 52 = .ok (.if_icmp .ne 21, 3) := by decide +kernel
theorem px_d96_55 : decode prog_15_method_62_code 55 = .ok (.aload_n 0, 1) := by decide +kernel
theorem px_d96_56 : decode prog_15_method_62_code 56 = .ok (.getfield 206, 3) := by decide +kernel
theorem px_d96_59 : decode prog_15_method_62_code 59 = .ok (.aload_n 0, 1) := by decide +kernel
theorem px_d96_60 : decode prog_15_method_62_code 60 = .ok (.getfield 335, 3) := by decide +kernel
theorem px_d96_63 : decode prog_15_method_62_code 63 = .ok (.baload, 1) := by decide +kernel
theorem px_d96_64 : decode prog_15_method_62_code 64 = .ok (.bipush 81, 2) := by decide +kernel
theorem px_d96_66 : decode prog_15_method_62_code 66 = .ok (.if_icmp .ne 7, 3) := by decide +kernel
theorem px_d96_69 : decode prog_15_method_62_code 69 = .ok (.iconst 1, 1) := by decide +kernel
theorem px_d96_70 : decode prog_15_method_62_code 70 = .ok (.goto 4, 3) := by decide +kernel
theorem px_d96_73 : decode prog_15_method_62_code 73 = .ok (.iconst 0, 1) := by decide +kernel
theorem px_d96_74 : decode prog_15_method_62_code 74 = .ok (.invokevirtual 365, 3) := by decide +kernel
theorem px_d96_77 : decode prog_15_method_62_code 77 = .ok (.aload_n 0, 1) := by decide +kernel
theorem px_d96_78 : decode prog_15_method_62_code 78 = .ok (.invokevirtual 369, 3) := by decide +kernel
theorem px_d96_81 : decode prog_15_method_62_code 81 = .ok (.aload_n 0, 1) := by decide +kernel
theorem px_d96_82 : decode prog_15_method_62_code 82 = .ok (.iconst 1, 1) := by decide +kernel
theorem px_d96_83 : decode prog_15_method_62_code 83 = .ok (.invokevirtual 378, 3) := by decide +kernel
theorem px_d96_86 : decode prog_15_method_62_code 86 = .ok (.goto 67, 3) := by decide +kernel
theorem px_d96_89 : decode prog_15_method_62_code 89 = .ok (.iload_n 1, 1) := by decide +kernel
theorem px_d96_90 : decode prog_15_method_62_code 90 = .ok (.iconst 1, 1) := by decide +kernel
theorem px_d96_91 : decode prog_15_method_62_code 91 = .ok (.if_icmp .ne 14, 3) := by decide +kernel
theorem px_d96_94 : decode prog_15_method_62_code 94 = .ok (.aload_n 0, 1) := by decide +kernel
theorem px_d96_95 : decode prog_15_method_62_code 95 = .ok (.invokevirtual 369, 3) := by decide +kernel
theorem px_d96_98 : decode prog_15_method_62_code 98 = .ok (.aload_n 0, 1) := by decide +kernel
theorem px_d96_99 : decode prog_15_method_62_code 99 = .ok (.invokevirtual 381, 3) := by decide +kernel
theorem px_d96_102 : decode prog_15_method_62_code 102 = .ok (.goto 51, 3) := by decide +kernel
theorem px_d96_105 : decode prog_15_method_62_code 105 = .ok (.iload_n 1, 1) := by decide +kernel
theorem px_d96_106 : decode prog_15_method_62_code 106 = .ok (.iconst 2, 1) := by decide +kernel
theorem px_d96_107 : decode prog_15_method_62_code 107 = .ok (.if_icmp .ne 14, 3) := by decide +kernel
theorem px_d96_110 : decode prog_15_method_62_code 110 = .ok (.aload_n 0, 1) := by decide +kernel
theorem px_d96_111 : decode prog_15_method_62_code 111 = .ok (.invokevirtual 369, 3) := by decide +kernel
theorem px_d96_114 : decode prog_15_method_62_code 114 = .ok (.aload_n 0, 1) := by decide +kernel
theorem px_d96_115 : decode prog_15_method_62_code 115 = .ok (.invokevirtual 369, 3) := by decide +kernel
theorem px_d96_118 : decode prog_15_method_62_code 118 = .ok (.goto 35, 3) := by decide +kernel
theorem px_d96_121 : decode prog_15_method_62_code 121 = .ok (.aload_n 0, 1) := by decide +kernel
theorem px_d96_122 : decode prog_15_method_62_code 122 = .ok (.invokevirtual 384, 3) := by decide +kernel
theorem px_d96_125 : decode prog_15_method_62_code 125 = .ok (.iload_n 1, 1) := by decide +kernel
theorem px_d96_126 : decode prog_15_method_62_code 126 = .ok (.iconst 4, 1) := by decide +kernel
theorem px_d96_127 : decode prog_15_method_62_code 127 = .ok (.if_icmp .eq 8, 3) := by decide +kernel
theorem px_d96_130 : decode prog_15_method_62_code 130 = .ok (.iload_n 1, 1) := by decide +kernel
theorem px_d96_131 : decode prog_15_method_62_code 131 = .ok (.iconst 5, 1) := by decide +kernel
theorem px_d96_132 : decode prog_15_method_62_code 132 = .ok (.if_icmp .ne 11, 3) := by decide +kernel
theorem px_d96_135 : decode prog_15_method_62_code 135 = .ok (.aload_n 0, 1) := by decide +kernel
theorem px_d96_136 : decode prog_15_method_62_code 136 = .ok (.iconst 0, 1) := by decide +kernel
theorem px_d96_137 : decode prog_15_method_62_code 137 = .ok (.invokevirtual 378, 3) := by decide +kernel
theorem px_d96_140 : decode prog_15_method_62_code 140 = .ok (.goto 13, 3) := by decide +kernel
theorem px_d96_143 : decode prog_15_method_62_code 143 = .ok (.iload_n 1, 1) := by decide +kernel
theorem px_d96_144 : decode prog_15_method_62_code 144 = .ok (.bipush 6, 2) := by decide +kernel
theorem px_d96_146 : decode prog_15_method_62_code 146 = .ok (.if_icmp .ne 7, 3) := by decide +kernel
theorem px_d96_149 : decode prog_15_method_62_code 149 = .ok (.aload_n 0, 1) := by decide +kernel
theorem px_d96_150 : decode prog_15_method_62_code 150 = .ok (.invokevirtual 384, 3) := by decide +kernel
theorem px_d96_153 : decode prog_15_method_62_code 153 = .ok (.return_, 1) := by decide +kernel
theorem px_d97_0 : decode prog_15_method_63_code 0 = .ok (.aload_n 0, 1) := by decide +kernel
theorem px_d97_1 : decode prog_15_method_63_code 1 = .ok (.iconst 0, 1) := by decide +kernel
theorem px_d97_2 : decode prog_15_method_63_code 2 = .ok (.putfield 356, 3) := by decide +kernel
theorem px_d97_5 : decode prog_15_method_63_code 5 = .ok (.aload_n 0, 1) := by decide +kernel
theorem px_d97_6 : decode prog_15_method_63_code 6 = .ok (.iconst 0, 1) := by decide +kernel
theorem px_d97_7 : decode prog_15_method_63_code 7 = .ok (.putfield 329, 3) := by decide +kernel
theorem px_d97_10 : decode prog_15_method_63_code 10 = .ok (.aload_n 0, 1) := by decide +kernel
theorem px_d97_11 : decode prog_15_method_63_code 11 = .ok (.invokevirtual 359, 3) := by decide +kernel
theorem px_d97_14 : decode prog_15_method_63_code 14 = .ok (.iconst 0, 1) := by decide +kernel
theorem px_d97_15 : decode prog_15_method_63_code 15 = .ok (.istore_n 1, 1) := by decide +kernel
theorem px_d97_16 : decode prog_15_method_63_code 16 = .ok (.aload_n 0, 1) := by decide +kernel
theorem px_d97_17 : decode prog_15_method_63_code 17 = .ok (.getfield 356, 3) := by decide +kernel
theorem px_d97_20 : decode prog_15_method_63_code 20 = .ok (.ifCond .ne 138, 3) := by decide +kernel
theorem px_d97_23 : decode prog_15_method_63_code 23 = .ok (.aload_n 0, 1) := by decide +kernel
theorem px_d97_24 : decode prog_15_method_63_code 24 = .ok (.getfield 338, 3) := by decide +kernel
theorem px_d97_27 : decode prog_15_method_63_code 27 = .ok (.ifCond .eq 131, 3) := by decide +kernel
theorem px_d97_30 : decode prog_15_method_63_code 30 = .ok (.iload_n 1, 1) := by decide +kernel
theorem px_d97_31 : decode prog_15_method_63_code 31 = .ok (.sipush 400, 3) := by decide +kernel
theorem px_d97_34 : decode prog_15_method_63_code 34 = .ok (.if_icmp .ne 11, 3) := by decide +kernel
theorem px_d97_37 : decode prog_15_method_63_code 37 = .ok (.aload_n 0, 1) := by decide +kernel
theorem px_d97_38 : decode prog_15_method_63_code 38 = .ok (.iconst 0, 1) := by decide +kernel
theorem px_d97_39 : decode prog_15_method_63_code 39 = .ok (.invokevirtual 365, 3) := by decide +kernel
theorem px_d97_42 : decode prog_15_method_63_code 42 = .ok (.goto 92, 3) := by decide +kernel
theorem px_d97_45 : decode prog_15_method_63_code 45 = .ok (.aload_n 0, 1) := by decide +kernel
theorem px_d97_46 : decode prog_15_method_63_code 46 = .ok (.invokevirtual 362, 3) := by decide +kernel
theorem px_d97_49 : decode prog_15_method_63_code 49 = .ok (.ifCond .eq 32, 3) := by decide +kernel
theorem px_d97_52 : decode prog_15_method_63_code 52 = .ok (.aload_n 0, 1) := by decide +kernel
theorem px_d97_53 : decode prog_15_method_63_code 53 = .ok (.invokevirtual 359, 3) := by decide +kernel
theorem px_d97_56 : decode prog_15_method_63_code 56 = .ok (.aload_n 0, 1) := by decide +kernel
theorem px_d97_57 : decode prog_15_method_63_code 57 = .ok (.aload_n 0, 1) := by decide +kernel
theorem px_d97_58 : decode prog_15_method_63_code 58 = .ok (.getfield 338, 3) := by decide +kernel
theorem px_d97_61 : decode prog_15_method_63_code 61 = .ok (.bipush 61, 2) := by decide +kernel
theorem px_d97_63 : decode prog_15_method_63_code 63 = .ok (.if_icmp .ne 7, 3) := by decide +kernel
theorem px_d97_66 : decode prog_15_method_63_code 66 = .ok (.iconst 1, 1) := by decide +kernel
theorem px_d97_67 : decode prog_15_method_63_code 67 = .ok (.goto 4, 3) := by decide +kernel
theorem px_d97_70 : decode prog_15_method_63_code 70 = .ok (.iconst 0, 1) := by decide +kernel
theorem px_d97_71 : decode prog_15_method_63_code 71 = .ok (.invokevirtual 365, 3) := by decide +kernel
theorem px_d97_74 : decode prog_15_method_63_code 74 = .ok (.aload_n 0, 1) := by decide +kernel
theorem px_d97_75 : decode prog_15_method_63_code 75 = .ok (.invokevirtual 387, 3) := by decide +kernel
theorem px_d97_78 : decode prog_15_method_63_code 78 = .ok (.goto 56, 3) := by decide +kernel
theorem px_d97_81 : decode prog_15_method_63_code 81 = .ok (.aload_n 0, 1) := by decide +kernel
theorem px_d97_82 : decode prog_15_method_63_code 82 = .ok (.ldc_w 390, 3) := by decide +kernel
theorem px_d97_85 : decode prog_15_method_63_code 85 = .ok (.invokevirtual 374, 3) := by decide +kernel
theorem px_d97_88 : decode prog_15_method_63_code 88 = .ok (.istore_n 2, 1) := by decide +kernel
theorem px_d97_89 : decode prog_15_method_63_code 89 = .ok (.aload_n 0, 1) := by decide +kernel
theorem px_d97_90 : decode prog_15_method_63_code 90 = .ok (.iload_n 2, 1) := by decide +kernel
theorem px_d97_91 : decode prog_15_method_63_code 91 = .ok (.ifCond .lt 7, 3) := by decide +kernel
theorem px_d97_94 : decode prog_15_method_63_code 94 = .ok (.iconst 1, 1) := by decide +kernel
theorem px_d97_95 : decode prog_15_method_63_code 95 = .ok (.goto 4, 3) := by decide +kernel
theorem px_d97_98 : decode prog_15_method_63_code 98 = .ok (.iconst 0, 1) := by decide +kernel
theorem px_d97_99 : decode prog_15_method_63_code 99 = .ok (.invokevirtual 365, 3) := by decide +kernel
theorem px_d97_102 : decode prog_15_method_63_code 102 = .ok (.aload_n 0, 1) := by decide +kernel
theorem px_d97_103 : decode prog_15_method_63_code 103 = .ok (.invokevirtual 384, 3) := by decide +kernel
theorem px_d97_106 : decode prog_15_method_63_code 106 = .ok (.iload_n 2, 1) := by decide +kernel
theorem px_d97_107 : decode prog_15_method_63_code 107 = .ok (.ifCond .ne 11, 3) := by decide +kernel
theorem px_d97_110 : decode prog_15_method_63_code 110 = .ok (.aload_n 0, 1) := by decide +kernel
theorem px_d97_111 : decode prog_15_method_63_code 111 = .ok (.iconst 0, 1) := by decide +kernel
theorem px_d97_112 : decode prog_15_method_63_code 112 = .ok (.invokevirtual 378, 3) := by decide +kernel
theorem px_d97_115 : decode prog_15_method_63_code 115 = .ok (.goto 19, 3) := by decide +kernel
theorem px_d97_118 : decode prog_15_method_63_code 118 = .ok (.iload_n 2, 1) := by decide +kernel
theorem px_d97_119 : decode prog_15_method_63_code 119 = .ok (.bipush 8, 2) := by decide +kernel
theorem px_d97_121 : decode prog_15_method_63_code 121 = .ok (.if_icmp .eq 9, 3) := by decide +kernel
theorem px_d97_124 : decode prog_15_method_63_code 124 = .ok (.iload_n 2, 1) := by decide +kernel
theorem px_d97_125 : decode prog_15_method_63_code 125 = .ok (.bipush 11, 2) := by decide +kernel
theorem px_d97_127 : decode prog_15_method_63_code 127 = .ok (.if_icmp .ne 7, 3) := by decide +kernel
theorem px_d97_130 : decode prog_15_method_63_code 130 = .ok (.aload_n 0, 1) := by decide +kernel
theorem px_d97_131 : decode prog_15_method_63_code 131 = .ok (.invokevirtual 384, 3) := by decide +kernel
theorem px_d97_134 : decode prog_15_method_63_code 134 = .ok (.aload_n 0, 1) := by decide +kernel
theorem px_d97_135 : decode prog_15_method_63_code 135 = .ok (.aload_n 0, 1) := by decide +kernel
theorem px_d97_136 : decode prog_15_method_63_code 136 = .ok (.getfield 338, 3) := by decide +kernel
theorem px_d97_139 : decode prog_15_method_63_code 139 = .ok (.bipush 59, 2) := by decide +kernel
theorem px_d97_141 : decode prog_15_method_63_code 141 = .ok (.if_icmp .ne 7, 3) := by decide +kernel
theorem px_d97_144 : decode prog_15_method_63_code 144 = .ok (.iconst 1, 1) := by decide +kernel
theorem px_d97_145 : decode prog_15_method_63_code 145 = .ok (.goto 4, 3) := by decide +kernel
theorem px_d97_148 : decode prog_15_method_63_code 148 = .ok (.iconst 0, 1) := by decide +kernel
theorem px_d97_149 : decode prog_15_method_63_code 149 = .ok (.invokevirtual 365, 3) := by decide +kernel
theorem px_d97_152 : decode prog_15_method_63_code 152 = .ok (.iinc 1 1, 3) := by decide +kernel
theorem px_d97_155 : decode prog_15_method_63_code 155 = .ok (.goto (-139), 3) := by decide +kernel
theorem px_d97_158 : decode prog_15_method_63_code 158 = .ok (.aload_n 0, 1) := by decide +kernel
theorem px_d97_159 : decode prog_15_method_63_code 159 = .ok (.getfield 356, 3) := by decide +kernel
theorem px_d97_162 : decode prog_15_method_63_code 162 = .ok (.ifCond .ne 7, 3) := by decide +kernel
theorem px_d97_165 : decode prog_15_method_63_code 165 = .ok (.iconst 1, 1) := by decide +kernel
theorem px_d97_166 : decode prog_15_method_63_code 166 = .ok (.goto 4, 3) := by decide +kernel
theorem px_d97_169 : decode prog_15_method_63_code 169 = .ok (.iconst 0, 1) := by decide +kernel
theorem px_d97_170 : decode prog_15_method_63_code 170 = .ok (.ireturn, 1) := by decide +kernel
theorem px_d102_0 : decode prog_15_method_72_code 0 = .ok (.aload_n 0, 1) := by decide +kernel
theorem px_d102_1 : decode prog_15_method_72_code 1 = .ok (.ldc_w 372, 3) := by decide +kernel
theorem px_d102_4 : decode prog_15_method_72_code 4 = .ok (.invokevirtual 374, 3) := by decide +kernel
theorem px_d102_7 : decode prog_15_method_72_code 7 = .ok (.istore_n 2, 1) := by decide +kernel
theorem px_d102_8 : decode prog_15_method_72_code 8 = .ok (.aload_n 0, 1) := by decide +kernel
theorem px_d102_9 : decode prog_15_method_72_code 9 = .ok (.invokevirtual 359, 3) := by decide +kernel
theorem px_d102_12 : decode prog_15_method_72_code 12 = .ok (.iload_n 2, 1) := by decide +kernel
theorem px_d102_13 : decode prog_15_method_72_code 13 = .ok (.ifCond .ne 9, 3) := by decide +kernel
theorem px_d102_16 : decode prog_15_method_72_code 16 = .ok (.aload_n 0, 1) := by decide +kernel
theorem px_d102_17 : decode prog_15_method_72_code 17 = .ok (.iload_n 1, 1) := by decide +kernel
theorem px_d102_18 : decode prog_15_method_72_code 18 = .ok (.invokevirtual 410, 3) := by decide +kernel
theorem px_d102_21 : decode prog_15_method_72_code 21 = .ok (.return_, 1) := by decide +kernel
theorem px_d102_22 : decode prog_15_method_72_code 22 = .ok (.iload_n 2, 1) := by decide +kernel
theorem px_d102_23 : decode prog_15_method_72_code 23 = .ok (.iconst 1, 1) := by decide +kernel
theorem px_d102_24 : decode prog_15_method_72_code 24 = .ok (.if_icmp .ne 9, 3) := by decide +kernel
theorem px_d102_27 : decode prog_15_method_72_code 27 = .ok (.aload_n 0, 1) := by decide +kernel
theorem px_d102_28 : decode prog_15_method_72_code 28 = .ok (.iload_n 1, 1) := by decide +kernel
theorem px_d102_29 : decode prog_15_method_72_code 29 = .ok (.invokevirtual 413, 3) := by decide +kernel
theorem px_d102_32 : decode prog_15_method_72_code 32 = .ok (.return_, 1) := by decide +kernel
theorem px_d102_33 : decode prog_15_method_72_code 33 = .ok (.iload_n 2, 1) := by decide +kernel
theorem px_d102_34 : decode prog_15_method_72_code 34 = .ok (.iconst 2, 1) := by decide +kernel
theorem px_d102_35 : decode prog_15_method_72_code 35 = .ok (.if_icmp .ne 9, 3) := by decide +kernel
theorem px_d102_38 : decode prog_15_method_72_code 38 = .ok (.aload_n 0, 1) := by decide +kernel
theorem px_d102_39 : decode prog_15_method_72_code 39 = .ok (.iload_n 1, 1) := by decide +kernel
theorem px_d102_40 : decode prog_15_method_72_code 40 = .ok (.invokevirtual 416, 3) := by decide +kernel
theorem px_d102_43 : decode prog_15_method_72_code 43 = .ok (.return_, 1) := by decide +kernel
theorem px_d102_44 : decode prog_15_method_72_code 44 = .ok (.aload_n 0, 1) := by decide +kernel
theorem px_d102_45 : decode prog_15_method_72_code 45 = .ok (.invokevirtual 419, 3) := by decide +kernel
theorem px_d102_48 : decode prog_15_method_72_code 48 = .ok (.istore_n 3, 1) := by decide +kernel
theorem px_d102_49 : decode prog_15_method_72_code 49 = .ok (.iload_n 2, 1) := by decide +kernel
theorem px_d102_50 : decode prog_15_method_72_code 50 = .ok (.bipush 6, 2) := by decide +kernel
theorem px_d102_52 : decode prog_15_method_72_code 52 = .ok (.if_icmp .ne 151, 3) := by decide +kernel
theorem px_d102_55 : decode prog_15_method_72_code 55 = .ok (.aload_n 0, 1) := by decide +kernel
theorem px_d102_56 : decode prog_15_method_72_code 56 = .ok (.invokevirtual 419, 3) := by decide +kernel
theorem px_d102_59 : decode prog_15_method_72_code 59 = .ok (.istore 4, 2) := by decide +kernel
theorem px_d102_61 : decode prog_15_method_72_code 61 = .ok (.aload_n 0, 1) := by decide +kernel
theorem px_d102_62 : decode prog_15_method_72_code 62 = .ok (.aload_n 0, 1) := by decide +kernel
theorem px_d102_63 : decode prog_15_method_72_code 63 = .ok (.getfield 153, 3) := by decide +kernel
theorem px_d102_66 : decode prog_15_method_72_code 66 = .ok (.iload_n 3, 1) := by decide +kernel
theorem px_d102_67 : decode prog_15_method_72_code 67 = .ok (.baload, 1) := by decide +kernel
theorem px_d102_68 : decode prog_15_method_72_code 68 = .ok (.iconst 1, 1) := by decide +kernel
theorem px_d102_69 : decode prog_15_method_72_code 69 = .ok (.invokevirtual 404, 3) := by decide +kernel
theorem px_d102_72 : decode prog_15_method_72_code 72 = .ok (.ifCond .eq 130, 3) := by decide +kernel
theorem px_d102_75 : decode prog_15_method_72_code 75 = .ok (.aload_n 0, 1) := by decide +kernel
theorem px_d102_76 : decode prog_15_method_72_code 76 = .ok (.aload_n 0, 1) := by decide +kernel
theorem px_d102_77 : decode prog_15_method_72_code 77 = .ok (.getfield 153, 3) := by decide +kernel
theorem px_d102_80 : decode prog_15_method_72_code 80 = .ok (.iload 4, 2) := by decide +kernel
theorem px_d102_82 : decode prog_15_method_72_code 82 = .ok (.baload, 1) := by decide +kernel
theorem px_d102_83 : decode prog_15_method_72_code 83 = .ok (.iconst 1, 1) := by decide +kernel
theorem px_d102_84 : decode prog_15_method_72_code 84 = .ok (.invokevirtual 404, 3) := by decide +kernel
theorem px_d102_87 : decode prog_15_method_72_code 87 = .ok (.ifCond .eq 115, 3) := by decide +kernel
theorem px_d102_90 : decode prog_15_method_72_code 90 = .ok (.aload_n 0, 1) := by decide +kernel
theorem px_d102_91 : decode prog_15_method_72_code 91 = .ok (.aload_n 0, 1) := by decide +kernel
theorem px_d102_92 : decode prog_15_method_72_code 92 = .ok (.getfield 157, 3) := by decide +kernel
theorem px_d102_95 : decode prog_15_method_72_code 95 = .ok (.iload_n 3, 1) := by decide +kernel
theorem px_d102_96 : decode prog_15_method_72_code 96 = .ok (.iaload, 1) := by decide +kernel
theorem px_d102_97 : decode prog_15_method_72_code 97 = .ok (.aload_n 0, 1) := by decide +kernel
theorem px_d102_98 : decode prog_15_method_72_code 98 = .ok (.getfield 157, 3) := by decide +kernel
theorem px_d102_101 : decode prog_15_method_72_code 101 = .ok (.iload 4, 2) := by decide +kernel
theorem px_d102_103 : decode prog_15_method_72_code 103 = .ok (.iaload, 1) := by decide +kernel
theorem px_d102_104 : decode prog_15_method_72_code 104 = .ok (.iadd, 1) := by decide +kernel
theorem px_d102_105 : decode prog_15_method_72_code 105 = .ok (.bipush 12, 2) := by decide +kernel
theorem px_d102_107 : decode prog_15_method_72_code 107 = .ok (.if_icmp .gt 7, 3) := by decide +kernel
theorem px_d102_110 : decode prog_15_method_72_code 110 = .ok (.iconst 1, 1) := by decide +kernel
theorem px_d102_111 : decode prog_15_method_72_code 111 = .ok (.goto 4, 3) := by decide +kernel
theorem px_d102_114 : decode prog_15_method_72_code 114 = .ok (.iconst 0, 1) := by decide +kernel
theorem px_d102_115 : decode prog_15_method_72_code 115 = .ok (.iconst 3, 1) := by decide +kernel
theorem px_d102_116 : decode prog_15_method_72_code 116 = .ok (.invokevirtual 404, 3) := by decide +kernel
theorem px_d102_119 : decode prog_15_method_72_code 119 = .ok (.ifCond .eq 83, 3) := by decide +kernel
theorem px_d102_122 : decode prog_15_method_72_code 122 = .ok (.aload_n 0, 1) := by decide +kernel
theorem px_d102_123 : decode prog_15_method_72_code 123 = .ok (.aload_n 0, 1) := by decide +kernel
theorem px_d102_124 : decode prog_15_method_72_code 124 = .ok (.getfield 160, 3) := by decide +kernel
theorem px_d102_127 : decode prog_15_method_72_code 127 = .ok (.iload_n 3, 1) := by decide +kernel
theorem px_d102_128 : decode prog_15_method_72_code 128 = .ok (.iaload, 1) := by decide +kernel
theorem px_d102_129 : decode prog_15_method_72_code 129 = .ok (.aload_n 0, 1) := by decide +kernel
theorem px_d102_130 : decode prog_15_method_72_code 130 = .ok (.getfield 160, 3) := by decide +kernel
theorem px_d102_133 : decode prog_15_method_72_code 133 = .ok (.iload 4, 2) := by decide +kernel
theorem px_d102_135 : decode prog_15_method_72_code 135 = .ok (.iaload, 1) := by decide +kernel
theorem px_d102_136 : decode prog_15_method_72_code 136 = .ok (.if_icmp .ne 7, 3) := by decide +kernel
theorem px_d102_139 : decode prog_15_method_72_code 139 = .ok (.iconst 1, 1) := by decide +kernel
theorem px_d102_140 : decode prog_15_method_72_code 140 = .ok (.goto 4, 3) := by decide +kernel
theorem px_d102_143 : decode prog_15_method_72_code 143 = .ok (.iconst 0, 1) := by decide +kernel
theorem px_d102_144 : decode prog_15_method_72_code 144 = .ok (.iconst 4, 1) := by decide +kernel
theorem px_d102_145 : decode prog_15_method_72_code 145 = .ok (.invokevirtual 404, 3) := by decide +kernel
theorem px_d102_148 : decode prog_15_method_72_code 148 = .ok (.ifCond .eq 54, 3) := by decide +kernel
theorem px_d102_151 : decode prog_15_method_72_code 151 = .ok (.aload_n 0, 1) := by decide +kernel
theorem px_d102_152 : decode prog_15_method_72_code 152 = .ok (.aload_n 0, 1) := by decide +kernel
theorem px_d102_153 : decode prog_15_method_72_code 153 = .ok (.getfield 160, 3) := by decide +kernel
theorem px_d102_156 : decode prog_15_method_72_code 156 = .ok (.iload_n 3, 1) := by decide +kernel
theorem px_d102_157 : decode prog_15_method_72_code 157 = .ok (.iaload, 1) := by decide +kernel
theorem px_d102_158 : decode prog_15_method_72_code 158 = .ok (.aload_n 0, 1) := by decide +kernel
theorem px_d102_159 : decode prog_15_method_72_code 159 = .ok (.getfield 157, 3) := by decide +kernel
theorem px_d102_162 : decode prog_15_method_72_code 162 = .ok (.iload_n 3, 1) := by decide +kernel
theorem px_d102_163 : decode prog_15_method_72_code 163 = .ok (.iaload, 1) := by decide +kernel
theorem px_d102_164 : decode prog_15_method_72_code 164 = .ok (.aload_n 0, 1) := by decide +kernel
theorem px_d102_165 : decode prog_15_method_72_code 165 = .ok (.getfield 157, 3) := by decide +kernel
theorem px_d102_168 : decode prog_15_method_72_code 168 = .ok (.iload 4, 2) := by decide +kernel
theorem px_d102_170 : decode prog_15_method_72_code 170 = .ok (.iaload, 1) := by decide +kernel
theorem px_d102_171 : decode prog_15_method_72_code 171 = .ok (.iadd, 1) := by decide +kernel
theorem px_d102_172 : decode prog_15_method_72_code 172 = .ok (.invokevirtual 310, 3) := by decide +kernel
theorem px_d102_175 : decode prog_15_method_72_code 175 = .ok (.aload_n 0, 1) := by decide +kernel
theorem px_d102_176 : decode prog_15_method_72_code 176 = .ok (.getfield 157, 3) := by decide +kernel
theorem px_d102_179 : decode prog_15_method_72_code 179 = .ok (.iload_n 3, 1) := by decide +kernel
theorem px_d102_180 : decode prog_15_method_72_code 180 = .ok (.iaload, 1) := by decide +kernel
theorem px_d102_181 : decode prog_15_method_72_code 181 = .ok (.istore 5, 2) := by decide +kernel
theorem px_d102_183 : decode prog_15_method_72_code 183 = .ok (.aload_n 0, 1) := by decide +kernel
theorem px_d102_184 : decode prog_15_method_72_code 184 = .ok (.iload_n 3, 1) := by decide +kernel
theorem px_d102_185 : decode prog_15_method_72_code 185 = .ok (.iconst 0, 1) := by decide +kernel
theorem px_d102_186 : decode prog_15_method_72_code 186 = .ok (.invokevirtual 422, 3) := by decide +kernel
theorem px_d102_189 : decode prog_15_method_72_code 189 = .ok (.aload_n 0, 1) := by decide +kernel
theorem px_d102_190 : decode prog_15_method_72_code 190 = .ok (.iload 4, 2) := by decide +kernel
theorem px_d102_192 : decode prog_15_method_72_code 192 = .ok (.iload 5, 2) := by decide +kernel
theorem px_d102_194 : decode prog_15_method_72_code 194 = .ok (.invokevirtual 422, 3) := by decide +kernel
theorem px_d102_197 : decode prog_15_method_72_code 197 = .ok (.aload_n 0, 1) := by decide +kernel
theorem px_d102_198 : decode prog_15_method_72_code 198 = .ok (.iload_n 1, 1) := by decide +kernel
theorem px_d102_199 : decode prog_15_method_72_code 199 = .ok (.invokevirtual 319, 3) := by decide +kernel
theorem px_d102_202 : decode prog_15_method_72_code 202 = .ok (.return_, 1) := by decide +kernel
theorem px_d102_203 : decode prog_15_method_72_code 203 = .ok (.aload_n 0, 1) := by decide +kernel
theorem px_d102_204 : decode prog_15_method_72_code 204 = .ok (.aload_n 0, 1) := by decide +kernel
theorem px_d102_205 : decode prog_15_method_72_code 205 = .ok (.getfield 153, 3) := by decide +kernel
theorem px_d102_208 : decode prog_15_method_72_code 208 = .ok (.iload_n 3, 1) := by decide +kernel
theorem px_d102_209 : decode prog_15_method_72_code 209 = .ok (.baload, 1) := by decide +kernel
theorem px_d102_210 : decode prog_15_method_72_code 210 = .ok (.iconst 1, 1) := by decide +kernel
theorem px_d102_211 : decode prog_15_method_72_code 211 = .ok (.invokevirtual 404, 3) := by decide +kernel
theorem px_d102_214 : decode prog_15_method_72_code 214 = .ok (.ifCond .ne 4, 3) := by decide +kernel
theorem px_d102_217 : decode prog_15_method_72_code 217 = .ok (.return_, 1) := by decide +kernel
theorem px_d102_218 : decode prog_15_method_72_code 218 = .ok (.iload_n 2, 1) := by decide +kernel
theorem px_d102_219 : decode prog_15_method_72_code 219 = .ok (.iconst 3, 1) := by decide +kernel
theorem px_d102_220 : decode prog_15_method_72_code 220 = .ok (.if_icmp .ne 12, 3) := by decide +kernel
theorem px_d102_223 : decode prog_15_method_72_code 223 = .ok (.aload_n 0, 1) := by decide +kernel
theorem px_d102_224 : decode prog_15_method_72_code 224 = .ok (.iload_n 1, 1) := by decide +kernel
theorem px_d102_225 : decode prog_15_method_72_code 225 = .ok (.iload_n 3, 1) := by decide +kernel
theorem px_d102_226 : decode prog_15_method_72_code 226 = .ok (.invokevirtual 425, 3) := by decide +kernel
theorem px_d102_229 : decode prog_15_method_72_code 229 = .ok (.goto 157, 3) := by decide +kernel
theorem px_d102_232 : decode prog_15_method_72_code 232 = .ok (.iload_n 2, 1) := by decide +kernel
theorem px_d102_233 : decode prog_15_method_72_code 233 = .ok (.iconst 4, 1) := by decide +kernel
theorem px_d102_234 : decode prog_15_method_72_code 234 = .ok (.if_icmp .eq 8, 3) := by decide +kernel
theorem px_d102_237 : decode prog_15_method_72_code 237 = .ok (.iload_n 2, 1) := by decide +kernel
theorem px_d102_238 : decode prog_15_method_72_code 238 = .ok (.iconst 5, 1) := by decide +kernel
theorem px_d102_239 : decode prog_15_method_72_code 239 = .ok (.if_icmp .ne 50, 3) := by decide +kernel
theorem px_d102_242 : decode prog_15_method_72_code 242 = .ok (.aload_n 0, 1) := by decide +kernel
theorem px_d102_243 : decode prog_15_method_72_code 243 = .ok (.iload_n 3, 1) := by decide +kernel
theorem px_d102_244 : decode prog_15_method_72_code 244 = .ok (.invokevirtual 428, 3) := by decide +kernel
theorem px_d102_247 : decode prog_15_method_72_code 247 = .ok (.istore 4, 2) := by decide +kernel
theorem px_d102_249 : decode prog_15_method_72_code 249 = .ok (.aload_n 0, 1) := by decide +kernel
theorem px_d102_250 : decode prog_15_method_72_code 250 = .ok (.getfield 395, 3) := by decide +kernel
theorem px_d102_253 : decode prog_15_method_72_code 253 = .ok (.ifCond .le 4, 3) := by decide +kernel
theorem px_d102_256 : decode prog_15_method_72_code 256 = .ok (.return_, 1) := by decide +kernel
theorem px_d102_257 : decode prog_15_method_72_code 257 = .ok (.iload_n 2, 1) := by decide +kernel
theorem px_d102_258 : decode prog_15_method_72_code 258 = .ok (.iconst 4, 1) := by decide +kernel
theorem px_d102_259 : decode prog_15_method_72_code 259 = .ok (.if_icmp .ne 19, 3) := by decide +kernel
theorem px_d102_262 : decode prog_15_method_72_code 262 = .ok (.aload_n 0, 1) := by decide +kernel
theorem px_d102_263 : decode prog_15_method_72_code 263 = .ok (.iload_n 3, 1) := by decide +kernel
theorem px_d102_264 : decode prog_15_method_72_code 264 = .ok (.iload 4, 2) := by decide +kernel
theorem px_d102_266 : decode prog_15_method_72_code 266 = .ok (.iconst 0, 1) := by decide +kernel
theorem px_d102_267 : decode prog_15_method_72_code 267 = .ok (.invokevirtual 322, 3) := by decide +kernel
theorem px_d102_270 : decode prog_15_method_72_code 270 = .ok (.aload_n 0, 1) := by decide +kernel
theorem px_d102_271 : decode prog_15_method_72_code 271 = .ok (.iload_n 1, 1) := by decide +kernel
theorem px_d102_272 : decode prog_15_method_72_code 272 = .ok (.invokevirtual 319, 3) := by decide +kernel
theorem px_d102_275 : decode prog_15_method_72_code 275 = .ok (.goto 11, 3) := by decide +kernel
theorem px_d102_278 : decode prog_15_method_72_code 278 = .ok (.aload_n 0, 1) := by decide +kernel
theorem px_d102_279 : decode prog_15_method_72_code 279 = .ok (.iload_n 1, 1) := by decide +kernel
theorem px_d102_280 : decode prog_15_method_72_code 280 = .ok (.iload_n 3, 1) := by decide +kernel
theorem px_d102_281 : decode prog_15_method_72_code 281 = .ok (.iload 4, 2) := by decide +kernel
theorem px_d102_283 : decode prog_15_method_72_code 283 = .ok (.invokevirtual 431, 3) := by decide +kernel
theorem px_d102_286 : decode prog_15_method_72_code 286 = .ok (.goto 100, 3) := by decide +kernel
theorem px_d102_289 : decode prog_15_method_72_code 289 = .ok (.iconst 0, 1) := by decide +kernel
theorem px_d102_290 : decode prog_15_method_72_code 290 = .ok (.istore 4, 2) := by decide +kernel
theorem px_d102_292 : decode prog_15_method_72_code 292 = .ok (.iload 4, 2) := by decide +kernel
theorem px_d102_294 : decode prog_15_method_72_code 294 = .ok (.bipush 12, 2) := by decide +kernel
theorem px_d102_296 : decode prog_15_method_72_code 296 = .ok (.if_icmp .ge 28, 3) := by decide +kernel
theorem px_d102_299 : decode prog_15_method_72_code 299 = .ok (.aload_n 0, 1) := by decide +kernel
theorem px_d102_300 : decode prog_15_method_72_code 300 = .ok (.getfield 215, 3) := by decide +kernel
theorem px_d102_303 : decode prog_15_method_72_code 303 = .ok (.iload 4, 2) := by decide +kernel
theorem px_d102_305 : decode prog_15_method_72_code 305 = .ok (.aload_n 0, 1) := by decide +kernel
theorem px_d102_306 : decode prog_15_method_72_code 306 = .ok (.getfield 173, 3) := by decide +kernel
theorem px_d102_309 : decode prog_15_method_72_code 309 = .ok (.bipush 12, 2) := by decide +kernel
theorem px_d102_311 : decode prog_15_method_72_code 311 = .ok (.iload_n 3, 1) := by decide +kernel
theorem px_d102_312 : decode prog_15_method_72_code 312 = .ok (.imul, 1) := by decide +kernel
theorem px_d102_313 : decode prog_15_method_72_code 313 = .ok (.iload 4, 2) := by decide +kernel
theorem px_d102_315 : decode prog_15_method_72_code 315 = .ok (.iadd, 1) := by decide +kernel
theorem px_d102_316 : decode prog_15_method_72_code 316 = .ok (.iaload, 1) := by decide +kernel
theorem px_d102_317 : decode prog_15_method_72_code 317 = .ok (.iastore, 1) := by decide +kernel
theorem px_d102_318 : decode prog_15_method_72_code 318 = .ok (.iinc 4 1, 3) := by decide +kernel
theorem px_d102_321 : decode prog_15_method_72_code 321 = .ok (.goto (-29), 3) := by decide +kernel
theorem px_d102_324 : decode prog_15_method_72_code 324 = .ok (.aload_n 0, 1) := by decide +kernel
theorem px_d102_325 : decode prog_15_method_72_code 325 = .ok (.aload_n 0, 1) := by decide +kernel
theorem px_d102_326 : decode prog_15_method_72_code 326 = .ok (.getfield 160, 3) := by decide +kernel
theorem px_d102_329 : decode prog_15_method_72_code 329 = .ok (.iload_n 3, 1) := by decide +kernel
theorem px_d102_330 : decode prog_15_method_72_code 330 = .ok (.iaload, 1) := by decide +kernel
theorem px_d102_331 : decode prog_15_method_72_code 331 = .ok (.aload_n 0, 1) := by decide +kernel
theorem px_d102_332 : decode prog_15_method_72_code 332 = .ok (.getfield 157, 3) := by decide +kernel
theorem px_d102_335 : decode prog_15_method_72_code 335 = .ok (.iload_n 3, 1) := by decide +kernel
theorem px_d102_336 : decode prog_15_method_72_code 336 = .ok (.iaload, 1) := by decide +kernel
theorem px_d102_337 : decode prog_15_method_72_code 337 = .ok (.invokevirtual 310, 3) := by decide +kernel
theorem px_d102_340 : decode prog_15_method_72_code 340 = .ok (.aload_n 0, 1) := by decide +kernel
theorem px_d102_341 : decode prog_15_method_72_code 341 = .ok (.iload_n 3, 1) := by decide +kernel
theorem px_d102_342 : decode prog_15_method_72_code 342 = .ok (.iconst 0, 1) := by decide +kernel
theorem px_d102_343 : decode prog_15_method_72_code 343 = .ok (.invokevirtual 422, 3) := by decide +kernel
theorem px_d102_346 : decode prog_15_method_72_code 346 = .ok (.aload_n 0, 1) := by decide +kernel
theorem px_d102_347 : decode prog_15_method_72_code 347 = .ok (.iload_n 1, 1) := by decide +kernel
theorem px_d102_348 : decode prog_15_method_72_code 348 = .ok (.invokevirtual 319, 3) := by decide +kernel
theorem px_d102_351 : decode prog_15_method_72_code 351 = .ok (.iconst 0, 1) := by decide +kernel
theorem px_d102_352 : decode prog_15_method_72_code 352 = .ok (.istore 4, 2) := by decide +kernel
theorem px_d102_354 : decode prog_15_method_72_code 354 = .ok (.iload 4, 2) := by decide +kernel
theorem px_d102_356 : decode prog_15_method_72_code 356 = .ok (.bipush 12, 2) := by decide +kernel
theorem px_d102_358 : decode prog_15_method_72_code 358 = .ok (.if_icmp .ge 28, 3) := by decide +kernel
theorem px_d102_361 : decode prog_15_method_72_code 361 = .ok (.aload_n 0, 1) := by decide +kernel
theorem px_d102_362 : decode prog_15_method_72_code 362 = .ok (.getfield 173, 3) := by decide +kernel
theorem px_d102_365 : decode prog_15_method_72_code 365 = .ok (.bipush 12, 2) := by decide +kernel
theorem px_d102_367 : decode prog_15_method_72_code 367 = .ok (.iload_n 1, 1) := by decide +kernel
theorem px_d102_368 : decode prog_15_method_72_code 368 = .ok (.imul, 1) := by decide +kernel
theorem px_d102_369 : decode prog_15_method_72_code 369 = .ok (.iload 4, 2) := by decide +kernel
theorem px_d102_371 : decode prog_15_method_72_code 371 = .ok (.iadd, 1) := by decide +kernel
theorem px_d102_372 : decode prog_15_method_72_code 372 = .ok (.aload_n 0, 1) := by decide +kernel
theorem px_d102_373 : decode prog_15_method_72_code 373 = .ok (.getfield 215, 3) := by decide +kernel
theorem px_d102_376 : decode prog_15_method_72_code 376 = .ok (.iload 4, 2) := by decide +kernel
theorem px_d102_378 : decode prog_15_method_72_code 378 = .ok (.iaload, 1) := by decide +kernel
theorem px_d102_379 : decode prog_15_method_72_code 379 = .ok (.iastore, 1) := by decide +kernel
theorem px_d102_380 : decode prog_15_method_72_code 380 = .ok (.iinc 4 1, 3) := by decide +kernel
theorem px_d102_383 : decode prog_15_method_72_code 383 = .ok (.goto (-29), 3) := by decide +kernel
theorem px_d102_386 : decode prog_15_method_72_code 386 = .ok (.return_, 1) := by decide +kernel
theorem px_d104_0 : decode prog_15_method_74_code 0 = .ok (.aload_n 0, 1) := by decide +kernel
theorem px_d104_1 : decode prog_15_method_74_code 1 = .ok (.invokevirtual 362, 3) := by decide +kernel
theorem px_d104_4 : decode prog_15_method_74_code 4 = .ok (.ifCond .eq 18, 3) := by decide +kernel
theorem px_d104_7 : decode prog_15_method_74_code 7 = .ok (.aload_n 0, 1) := by decide +kernel
theorem px_d104_8 : decode prog_15_method_74_code 8 = .ok (.invokevirtual 419, 3) := by decide +kernel
theorem px_d104_11 : decode prog_15_method_74_code 11 = .ok (.istore_n 1, 1) := by decide +kernel
theorem px_d104_12 : decode prog_15_method_74_code 12 = .ok (.aload_n 0, 1) := by decide +kernel
theorem px_d104_13 : decode prog_15_method_74_code 13 = .ok (.invokevirtual 359, 3) := by decide +kernel
theorem px_d104_16 : decode prog_15_method_74_code 16 = .ok (.aload_n 0, 1) := by decide +kernel
theorem px_d104_17 : decode prog_15_method_74_code 17 = .ok (.iload_n 1, 1) := by decide +kernel
theorem px_d104_18 : decode prog_15_method_74_code 18 = .ok (.invokevirtual 434, 3) := by decide +kernel
theorem px_d104_21 : decode prog_15_method_74_code 21 = .ok (.return_, 1) := by decide +kernel
theorem px_d104_22 : decode prog_15_method_74_code 22 = .ok (.aload_n 0, 1) := by decide +kernel
theorem px_d104_23 : decode prog_15_method_74_code 23 = .ok (.ldc_w 390, 3) := by decide +kernel
theorem px_d104_26 : decode prog_15_method_74_code 26 = .ok (.invokevirtual 374, 3) := by decide +kernel
theorem px_d104_29 : decode prog_15_method_74_code 29 = .ok (.istore_n 1, 1) := by decide +kernel
theorem px_d104_30 : decode prog_15_method_74_code 30 = .ok (.aload_n 0, 1) := by decide +kernel
theorem px_d104_31 : decode prog_15_method_74_code 31 = .ok (.invokevirtual 359, 3) := by decide +kernel
theorem px_d104_34 : decode prog_15_method_74_code 34 = .ok (.aload_n 0, 1) := by decide +kernel
theorem px_d104_35 : decode prog_15_method_74_code 35 = .ok (.invokevirtual 419, 3) := by decide +kernel
theorem px_d104_38 : decode prog_15_method_74_code 38 = .ok (.istore_n 2, 1) := by decide +kernel
theorem px_d104_39 : decode prog_15_method_74_code 39 = .ok (.iload_n 1, 1) := by decide +kernel
theorem px_d104_40 : decode prog_15_method_74_code 40 = .ok (.ifCond .ne 9, 3) := by decide +kernel
theorem px_d104_43 : decode prog_15_method_74_code 43 = .ok (.aload_n 0, 1) := by decide +kernel
theorem px_d104_44 : decode prog_15_method_74_code 44 = .ok (.iload_n 2, 1) := by decide +kernel
theorem px_d104_45 : decode prog_15_method_74_code 45 = .ok (.invokevirtual 437, 3) := by decide +kernel
theorem px_d104_48 : decode prog_15_method_74_code 48 = .ok (.return_, 1) := by decide +kernel
theorem px_d104_49 : decode prog_15_method_74_code 49 = .ok (.iload_n 1, 1) := by decide +kernel
theorem px_d104_50 : decode prog_15_method_74_code 50 = .ok (.bipush 8, 2) := by decide +kernel
theorem px_d104_52 : decode prog_15_method_74_code 52 = .ok (.if_icmp .eq 9, 3) := by decide +kernel
theorem px_d104_55 : decode prog_15_method_74_code 55 = .ok (.iload_n 1, 1) := by decide +kernel
theorem px_d104_56 : decode prog_15_method_74_code 56 = .ok (.bipush 11, 2) := by decide +kernel
theorem px_d104_58 : decode prog_15_method_74_code 58 = .ok (.if_icmp .ne 10, 3) := by decide +kernel
theorem px_d104_61 : decode prog_15_method_74_code 61 = .ok (.aload_n 0, 1) := by decide +kernel
theorem px_d104_62 : decode prog_15_method_74_code 62 = .ok (.invokevirtual 419, 3) := by decide +kernel
theorem px_d104_65 : decode prog_15_method_74_code 65 = .ok (.goto 4, 3) := by decide +kernel
theorem px_d104_68 : decode prog_15_method_74_code 68 = .ok (.iload_n 2, 1) := by decide +kernel
theorem px_d104_69 : decode prog_15_method_74_code 69 = .ok (.istore_n 3, 1) := by decide +kernel
theorem px_d104_70 : decode prog_15_method_74_code 70 = .ok (.aload_n 0, 1) := by decide +kernel
theorem px_d104_71 : decode prog_15_method_74_code 71 = .ok (.aload_n 0, 1) := by decide +kernel
theorem px_d104_72 : decode prog_15_method_74_code 72 = .ok (.getfield 153, 3) := by decide +kernel
