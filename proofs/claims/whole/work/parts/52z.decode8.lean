theorem px_d104_75 : decode prog_15_method_74_code 75 = .ok (.iload_n 2, 1) := by decide +kernel
theorem px_d104_76 : decode prog_15_method_74_code 76 = .ok (.baload, 1) := by decide +kernel
theorem px_d104_77 : decode prog_15_method_74_code 77 = .ok (.iconst 1, 1) := by decide +kernel
theorem px_d104_78 : decode prog_15_method_74_code 78 = .ok (.invokevirtual 404, 3) := by decide +kernel
theorem px_d104_81 : decode prog_15_method_74_code 81 = .ok (.ifCond .eq 17, 3) := by decide +kernel
theorem px_d104_84 : decode prog_15_method_74_code 84 = .ok (.aload_n 0, 1) := by decide +kernel
theorem px_d104_85 : decode prog_15_method_74_code 85 = .ok (.aload_n 0, 1) := by decide +kernel
theorem px_d104_86 : decode prog_15_method_74_code 86 = .ok (.getfield 153, 3) := by decide +kernel
theorem px_d104_89 : decode prog_15_method_74_code 89 = .ok (.iload_n 3, 1) := by decide +kernel
theorem px_d104_90 : decode prog_15_method_74_code 90 = .ok (.baload, 1) := by decide +kernel
theorem px_d104_91 : decode prog_15_method_74_code 91 = .ok (.iconst 1, 1) := by decide +kernel
theorem px_d104_92 : decode prog_15_method_74_code 92 = .ok (.invokevirtual 404, 3) := by decide +kernel
theorem px_d104_95 : decode prog_15_method_74_code 95 = .ok (.ifCond .ne 4, 3) := by decide +kernel
theorem px_d104_98 : decode prog_15_method_74_code 98 = .ok (.return_, 1) := by decide +kernel
theorem px_d104_99 : decode prog_15_method_74_code 99 = .ok (.iload_n 1, 1) := by decide +kernel
theorem px_d104_100 : decode prog_15_method_74_code 100 = .ok (.bipush 9, 2) := by decide +kernel
theorem px_d104_102 : decode prog_15_method_74_code 102 = .ok (.if_icmp .eq 9, 3) := by decide +kernel
theorem px_d104_105 : decode prog_15_method_74_code 105 = .ok (.iload_n 1, 1) := by decide +kernel
theorem px_d104_106 : decode prog_15_method_74_code 106 = .ok (.bipush 10, 2) := by decide +kernel
theorem px_d104_108 : decode prog_15_method_74_code 108 = .ok (.if_icmp .ne 26, 3) := by decide +kernel
theorem px_d104_111 : decode prog_15_method_74_code 111 = .ok (.aload_n 0, 1) := by decide +kernel
theorem px_d104_112 : decode prog_15_method_74_code 112 = .ok (.aload_n 0, 1) := by decide +kernel
theorem px_d104_113 : decode prog_15_method_74_code 113 = .ok (.getfield 160, 3) := by decide +kernel
theorem px_d104_116 : decode prog_15_method_74_code 116 = .ok (.iload_n 2, 1) := by decide +kernel
theorem px_d104_117 : decode prog_15_method_74_code 117 = .ok (.iaload, 1) := by decide +kernel
theorem px_d104_118 : decode prog_15_method_74_code 118 = .ok (.ifCond .ne 7, 3) := by decide +kernel
theorem px_d104_121 : decode prog_15_method_74_code 121 = .ok (.iconst 1, 1) := by decide +kernel
theorem px_d104_122 : decode prog_15_method_74_code 122 = .ok (.goto 4, 3) := by decide +kernel
theorem px_d104_125 : decode prog_15_method_74_code 125 = .ok (.iconst 0, 1) := by decide +kernel
theorem px_d104_126 : decode prog_15_method_74_code 126 = .ok (.iconst 5, 1) := by decide +kernel
theorem px_d104_127 : decode prog_15_method_74_code 127 = .ok (.invokevirtual 404, 3) := by decide +kernel
theorem px_d104_130 : decode prog_15_method_74_code 130 = .ok (.ifCond .ne 4, 3) := by decide +kernel
theorem px_d104_133 : decode prog_15_method_74_code 133 = .ok (.return_, 1) := by decide +kernel
theorem px_d104_134 : decode prog_15_method_74_code 134 = .ok (.iload_n 1, 1) := by decide +kernel
theorem px_d104_135 : decode prog_15_method_74_code 135 = .ok (.bipush 8, 2) := by decide +kernel
theorem px_d104_137 : decode prog_15_method_74_code 137 = .ok (.if_icmp .ne 32, 3) := by decide +kernel
theorem px_d104_140 : decode prog_15_method_74_code 140 = .ok (.aload_n 0, 1) := by decide +kernel
theorem px_d104_141 : decode prog_15_method_74_code 141 = .ok (.aload_n 0, 1) := by decide +kernel
theorem px_d104_142 : decode prog_15_method_74_code 142 = .ok (.getfield 157, 3) := by decide +kernel
theorem px_d104_145 : decode prog_15_method_74_code 145 = .ok (.iload_n 2, 1) := by decide +kernel
theorem px_d104_146 : decode prog_15_method_74_code 146 = .ok (.iaload, 1) := by decide +kernel
theorem px_d104_147 : decode prog_15_method_74_code 147 = .ok (.aload_n 0, 1) := by decide +kernel
theorem px_d104_148 : decode prog_15_method_74_code 148 = .ok (.getfield 157, 3) := by decide +kernel
theorem px_d104_151 : decode prog_15_method_74_code 151 = .ok (.iload_n 3, 1) := by decide +kernel
theorem px_d104_152 : decode prog_15_method_74_code 152 = .ok (.iaload, 1) := by decide +kernel
theorem px_d104_153 : decode prog_15_method_74_code 153 = .ok (.if_icmp .ne 7, 3) := by decide +kernel
theorem px_d104_156 : decode prog_15_method_74_code 156 = .ok (.iconst 1, 1) := by decide +kernel
theorem px_d104_157 : decode prog_15_method_74_code 157 = .ok (.goto 4, 3) := by decide +kernel
theorem px_d104_160 : decode prog_15_method_74_code 160 = .ok (.iconst 0, 1) := by decide +kernel
theorem px_d104_161 : decode prog_15_method_74_code 161 = .ok (.bipush 6, 2) := by decide +kernel
theorem px_d104_163 : decode prog_15_method_74_code 163 = .ok (.invokevirtual 404, 3) := by decide +kernel
theorem px_d104_166 : decode prog_15_method_74_code 166 = .ok (.ifCond .eq 10, 3) := by decide +kernel
theorem px_d104_169 : decode prog_15_method_74_code 169 = .ok (.aload_n 0, 1) := by decide +kernel
theorem px_d104_170 : decode prog_15_method_74_code 170 = .ok (.iload_n 1, 1) := by decide +kernel
theorem px_d104_171 : decode prog_15_method_74_code 171 = .ok (.iload_n 2, 1) := by decide +kernel
theorem px_d104_172 : decode prog_15_method_74_code 172 = .ok (.iload_n 3, 1) := by decide +kernel
theorem px_d104_173 : decode prog_15_method_74_code 173 = .ok (.invokevirtual 440, 3) := by decide +kernel
theorem px_d104_176 : decode prog_15_method_74_code 176 = .ok (.return_, 1) := by decide +kernel
theorem px_d116_0 : decode prog_15_method_87_code 0 = .ok (.aload_n 0, 1) := by decide +kernel
theorem px_d116_1 : decode prog_15_method_87_code 1 = .ok (.getfield 443, 3) := by decide +kernel
theorem px_d116_4 : decode prog_15_method_87_code 4 = .ok (.istore 4, 2) := by decide +kernel
theorem px_d116_6 : decode prog_15_method_87_code 6 = .ok (.iload_n 1, 1) := by decide +kernel
theorem px_d116_7 : decode prog_15_method_87_code 7 = .ok (.iconst 1, 1) := by decide +kernel
theorem px_d116_8 : decode prog_15_method_87_code 8 = .ok (.if_icmp .ne 23, 3) := by decide +kernel
theorem px_d116_11 : decode prog_15_method_87_code 11 = .ok (.aload_n 0, 1) := by decide +kernel
theorem px_d116_12 : decode prog_15_method_87_code 12 = .ok (.aload_n 0, 1) := by decide +kernel
theorem px_d116_13 : decode prog_15_method_87_code 13 = .ok (.getfield 163, 3) := by decide +kernel
theorem px_d116_16 : decode prog_15_method_87_code 16 = .ok (.iload_n 2, 1) := by decide +kernel
theorem px_d116_17 : decode prog_15_method_87_code 17 = .ok (.iaload, 1) := by decide +kernel
theorem px_d116_18 : decode prog_15_method_87_code 18 = .ok (.i2l, 1) := by decide +kernel
theorem px_d116_19 : decode prog_15_method_87_code 19 = .ok (.invokevirtual 454, 3) := by decide +kernel
theorem px_d116_22 : decode prog_15_method_87_code 22 = .ok (.aload_n 0, 1) := by decide +kernel
theorem px_d116_23 : decode prog_15_method_87_code 23 = .ok (.bipush 10, 2) := by decide +kernel
theorem px_d116_25 : decode prog_15_method_87_code 25 = .ok (.invokevirtual 446, 3) := by decide +kernel
theorem px_d116_28 : decode prog_15_method_87_code 28 = .ok (.goto 133, 3) := by decide +kernel
theorem px_d116_31 : decode prog_15_method_87_code 31 = .ok (.iload_n 1, 1) := by decide +kernel
theorem px_d116_32 : decode prog_15_method_87_code 32 = .ok (.iconst 2, 1) := by decide +kernel
theorem px_d116_33 : decode prog_15_method_87_code 33 = .ok (.if_icmp .lt 19, 3) := by decide +kernel
theorem px_d116_36 : decode prog_15_method_87_code 36 = .ok (.iload_n 1, 1) := by decide +kernel
theorem px_d116_37 : decode prog_15_method_87_code 37 = .ok (.iconst 5, 1) := by decide +kernel
theorem px_d116_38 : decode prog_15_method_87_code 38 = .ok (.if_icmp .gt 14, 3) := by decide +kernel
theorem px_d116_41 : decode prog_15_method_87_code 41 = .ok (.aload_n 0, 1) := by decide +kernel
theorem px_d116_42 : decode prog_15_method_87_code 42 = .ok (.iload_n 2, 1) := by decide +kernel
theorem px_d116_43 : decode prog_15_method_87_code 43 = .ok (.iload_n 1, 1) := by decide +kernel
theorem px_d116_44 : decode prog_15_method_87_code 44 = .ok (.iconst 2, 1) := by decide +kernel
theorem px_d116_45 : decode prog_15_method_87_code 45 = .ok (.isub, 1) := by decide +kernel
theorem px_d116_46 : decode prog_15_method_87_code 46 = .ok (.invokevirtual 481, 3) := by decide +kernel
theorem px_d116_49 : decode prog_15_method_87_code 49 = .ok (.goto 112, 3) := by decide +kernel
theorem px_d116_58 : decode prog_15_method_87_code 58 = .ok (.aload_n 0, 1) := by decide +kernel
theorem px_d116_59 : decode prog_15_method_87_code 59 = .ok (.iload_n 2, 1) := by decide +kernel
theorem px_d116_60 : decode prog_15_method_87_code 60 = .ok (.invokevirtual 484, 3) := by decide +kernel
theorem px_d116_63 : decode prog_15_method_87_code 63 = .ok (.goto 98, 3) := by decide +kernel
theorem px_d116_72 : decode prog_15_method_87_code 72 = .ok (.aload_n 0, 1) := by decide +kernel
theorem px_d116_73 : decode prog_15_method_87_code 73 = .ok (.aload_n 0, 1) := by decide +kernel
theorem px_d116_74 : decode prog_15_method_87_code 74 = .ok (.iload_n 2, 1) := by decide +kernel
theorem px_d116_75 : decode prog_15_method_87_code 75 = .ok (.invokevirtual 487, 3) := by decide +kernel
theorem px_d116_78 : decode prog_15_method_87_code 78 = .ok (.invokevirtual 469, 3) := by decide +kernel
theorem px_d116_81 : decode prog_15_method_87_code 81 = .ok (.goto 80, 3) := by decide +kernel
theorem px_d116_90 : decode prog_15_method_87_code 90 = .ok (.aload_n 0, 1) := by decide +kernel
theorem px_d116_91 : decode prog_15_method_87_code 91 = .ok (.aload_n 0, 1) := by decide +kernel
theorem px_d116_92 : decode prog_15_method_87_code 92 = .ok (.iload_n 2, 1) := by decide +kernel
theorem px_d116_93 : decode prog_15_method_87_code 93 = .ok (.iload_n 3, 1) := by decide +kernel
theorem px_d116_94 : decode prog_15_method_87_code 94 = .ok (.invokevirtual 282, 3) := by decide +kernel
theorem px_d116_97 : decode prog_15_method_87_code 97 = .ok (.invokevirtual 469, 3) := by decide +kernel
theorem px_d116_100 : decode prog_15_method_87_code 100 = .ok (.aload_n 0, 1) := by decide +kernel
theorem px_d116_101 : decode prog_15_method_87_code 101 = .ok (.aload_n 0, 1) := by decide +kernel
theorem px_d116_102 : decode prog_15_method_87_code 102 = .ok (.iload_n 2, 1) := by decide +kernel
theorem px_d116_103 : decode prog_15_method_87_code 103 = .ok (.iload_n 3, 1) := by decide +kernel
theorem px_d116_104 : decode prog_15_method_87_code 104 = .ok (.invokevirtual 490, 3) := by decide +kernel
theorem px_d116_107 : decode prog_15_method_87_code 107 = .ok (.invokevirtual 469, 3) := by decide +kernel
theorem px_d116_110 : decode prog_15_method_87_code 110 = .ok (.goto 51, 3) := by decide +kernel
theorem px_d116_119 : decode prog_15_method_87_code 119 = .ok (.aload_n 0, 1) := by decide +kernel
theorem px_d116_120 : decode prog_15_method_87_code 120 = .ok (.iload_n 2, 1) := by decide +kernel
theorem px_d116_121 : decode prog_15_method_87_code 121 = .ok (.invokevirtual 493, 3) := by decide +kernel
theorem px_d116_124 : decode prog_15_method_87_code 124 = .ok (.goto 37, 3) := by decide +kernel
theorem px_d116_133 : decode prog_15_method_87_code 133 = .ok (.aload_n 0, 1) := by decide +kernel
theorem px_d116_134 : decode prog_15_method_87_code 134 = .ok (.iload_n 2, 1) := by decide +kernel
theorem px_d116_135 : decode prog_15_method_87_code 135 = .ok (.invokevirtual 496, 3) := by decide +kernel
theorem px_d116_138 : decode prog_15_method_87_code 138 = .ok (.goto 23, 3) := by decide +kernel
theorem px_d116_147 : decode prog_15_method_87_code 147 = .ok (.aload_n 0, 1) := by decide +kernel
theorem px_d116_148 : decode prog_15_method_87_code 148 = .ok (.iload_n 2, 1) := by decide +kernel
theorem px_d116_149 : decode prog_15_method_87_code 149 = .ok (.iload_n 3, 1) := by decide +kernel
theorem px_d116_150 : decode prog_15_method_87_code 150 = .ok (.invokevirtual 499, 3) := by decide +kernel
theorem px_d116_153 : decode prog_15_method_87_code 153 = .ok (.goto 8, 3) := by decide +kernel
theorem px_d116_158 : decode prog_15_method_87_code 158 = .ok (.invokevirtual 502, 3) := by decide +kernel
theorem px_d117_0 : decode prog_15_method_92_code 0 = .ok (.aload_n 0, 1) := by decide +kernel
theorem px_d117_1 : decode prog_15_method_92_code 1 = .ok (.iconst 0, 1) := by decide +kernel
theorem px_d117_2 : decode prog_15_method_92_code 2 = .ok (.putfield 505, 3) := by decide +kernel
theorem px_d117_5 : decode prog_15_method_92_code 5 = .ok (.iconst 0, 1) := by decide +kernel
theorem px_d117_6 : decode prog_15_method_92_code 6 = .ok (.istore_n 1, 1) := by decide +kernel
theorem px_d117_7 : decode prog_15_method_92_code 7 = .ok (.iload_n 1, 1) := by decide +kernel
theorem px_d117_8 : decode prog_15_method_92_code 8 = .ok (.aload_n 0, 1) := by decide +kernel
theorem px_d117_9 : decode prog_15_method_92_code 9 = .ok (.getfield 508, 3) := by decide +kernel
theorem px_d117_12 : decode prog_15_method_92_code 12 = .ok (.if_icmp .ge 21, 3) := by decide +kernel
theorem px_d117_15 : decode prog_15_method_92_code 15 = .ok (.aload_n 0, 1) := by decide +kernel
theorem px_d117_16 : decode prog_15_method_92_code 16 = .ok (.getfield 206, 3) := by decide +kernel
theorem px_d117_19 : decode prog_15_method_92_code 19 = .ok (.iload_n 1, 1) := by decide +kernel
theorem px_d117_20 : decode prog_15_method_92_code 20 = .ok (.aload_n 0, 1) := by decide +kernel
theorem px_d117_21 : decode prog_15_method_92_code 21 = .ok (.getfield 225, 3) := by decide +kernel
theorem px_d117_24 : decode prog_15_method_92_code 24 = .ok (.iload_n 1, 1) := by decide +kernel
theorem px_d117_25 : decode prog_15_method_92_code 25 = .ok (.baload, 1) := by decide +kernel
theorem px_d117_26 : decode prog_15_method_92_code 26 = .ok (.bastore, 1) := by decide +kernel
theorem px_d117_27 : decode prog_15_method_92_code 27 = .ok (.iinc 1 1, 3) := by decide +kernel
theorem px_d117_30 : decode prog_15_method_92_code 30 = .ok (.goto (-23), 3) := by decide +kernel
theorem px_d117_33 : decode prog_15_method_92_code 33 = .ok (.aload_n 0, 1) := by decide +kernel
theorem px_d117_34 : decode prog_15_method_92_code 34 = .ok (.aload_n 0, 1) := by decide +kernel
theorem px_d117_35 : decode prog_15_method_92_code 35 = .ok (.getfield 508, 3) := by decide +kernel
theorem px_d117_38 : decode prog_15_method_92_code 38 = .ok (.putfield 326, 3) := by decide +kernel
theorem px_d117_41 : decode prog_15_method_92_code 41 = .ok (.aload_n 0, 1) := by decide +kernel
theorem px_d117_42 : decode prog_15_method_92_code 42 = .ok (.iconst 0, 1) := by decide +kernel
theorem px_d117_43 : decode prog_15_method_92_code 43 = .ok (.putfield 508, 3) := by decide +kernel
theorem px_d117_46 : decode prog_15_method_92_code 46 = .ok (.aload_n 0, 1) := by decide +kernel
theorem px_d117_47 : decode prog_15_method_92_code 47 = .ok (.invokevirtual 513, 3) := by decide +kernel
theorem px_d117_50 : decode prog_15_method_92_code 50 = .ok (.ifCond .ne 5, 3) := by decide +kernel
theorem px_d117_53 : decode prog_15_method_92_code 53 = .ok (.iconst (-1), 1) := by decide +kernel
theorem px_d117_54 : decode prog_15_method_92_code 54 = .ok (.ireturn, 1) := by decide +kernel
theorem px_d117_55 : decode prog_15_method_92_code 55 = .ok (.aload_n 0, 1) := by decide +kernel
theorem px_d117_56 : decode prog_15_method_92_code 56 = .ok (.iconst 0, 1) := by decide +kernel
theorem px_d117_57 : decode prog_15_method_92_code 57 = .ok (.putfield 443, 3) := by decide +kernel
theorem px_d117_60 : decode prog_15_method_92_code 60 = .ok (.aload_n 0, 1) := by decide +kernel
theorem px_d117_61 : decode prog_15_method_92_code 61 = .ok (.iconst 0, 1) := by decide +kernel
theorem px_d117_62 : decode prog_15_method_92_code 62 = .ok (.putfield 395, 3) := by decide +kernel
theorem px_d117_65 : decode prog_15_method_92_code 65 = .ok (.iconst 0, 1) := by decide +kernel
theorem px_d117_66 : decode prog_15_method_92_code 66 = .ok (.istore_n 1, 1) := by decide +kernel
theorem px_d117_67 : decode prog_15_method_92_code 67 = .ok (.aload_n 0, 1) := by decide +kernel
theorem px_d117_68 : decode prog_15_method_92_code 68 = .ok (.iconst 0, 1) := by decide +kernel
theorem px_d117_69 : decode prog_15_method_92_code 69 = .ok (.putfield 329, 3) := by decide +kernel
theorem px_d117_72 : decode prog_15_method_92_code 72 = .ok (.aload_n 0, 1) := by decide +kernel
theorem px_d117_73 : decode prog_15_method_92_code 73 = .ok (.invokevirtual 359, 3) := by decide +kernel
theorem px_d117_76 : decode prog_15_method_92_code 76 = .ok (.aload_n 0, 1) := by decide +kernel
theorem px_d117_77 : decode prog_15_method_92_code 77 = .ok (.getfield 338, 3) := by decide +kernel
theorem px_d117_80 : decode prog_15_method_92_code 80 = .ok (.ifCond .eq 31, 3) := by decide +kernel
theorem px_d117_83 : decode prog_15_method_92_code 83 = .ok (.aload_n 0, 1) := by decide +kernel
theorem px_d117_84 : decode prog_15_method_92_code 84 = .ok (.getfield 395, 3) := by decide +kernel
theorem px_d117_87 : decode prog_15_method_92_code 87 = .ok (.ifCond .ne 24, 3) := by decide +kernel
theorem px_d117_90 : decode prog_15_method_92_code 90 = .ok (.aload_n 0, 1) := by decide +kernel
theorem px_d117_91 : decode prog_15_method_92_code 91 = .ok (.invokevirtual 516, 3) := by decide +kernel
theorem px_d117_94 : decode prog_15_method_92_code 94 = .ok (.aload_n 0, 1) := by decide +kernel
theorem px_d117_95 : decode prog_15_method_92_code 95 = .ok (.getfield 395, 3) := by decide +kernel
theorem px_d117_98 : decode prog_15_method_92_code 98 = .ok (.ifCond .ne (-22), 3) := by decide +kernel
theorem px_d117_101 : decode prog_15_method_92_code 101 = .ok (.aload_n 0, 1) := by decide +kernel
theorem px_d117_102 : decode prog_15_method_92_code 102 = .ok (.invokevirtual 359, 3) := by decide +kernel
theorem px_d117_105 : decode prog_15_method_92_code 105 = .ok (.iinc 1 1, 3) := by decide +kernel
theorem px_d117_108 : decode prog_15_method_92_code 108 = .ok (.goto (-32), 3) := by decide +kernel
theorem px_d117_111 : decode prog_15_method_92_code 111 = .ok (.aload_n 0, 1) := by decide +kernel
theorem px_d117_112 : decode prog_15_method_92_code 112 = .ok (.aload_n 0, 1) := by decide +kernel
theorem px_d117_113 : decode prog_15_method_92_code 113 = .ok (.getfield 395, 3) := by decide +kernel
theorem px_d117_116 : decode prog_15_method_92_code 116 = .ok (.putfield 519, 3) := by decide +kernel
theorem px_d117_119 : decode prog_15_method_92_code 119 = .ok (.iload_n 1, 1) := by decide +kernel
theorem px_d117_120 : decode prog_15_method_92_code 120 = .ok (.ireturn, 1) := by decide +kernel
theorem px_d137_0 : decode prog_10_method_2_code 0 = .ok (.aload_n 0, 1) := by decide +kernel
theorem px_d137_1 : decode prog_10_method_2_code 1 = .ok (.aload_n 1, 1) := by decide +kernel
theorem px_d137_2 : decode prog_10_method_2_code 2 = .ok (.putfield 9, 3) := by decide +kernel
theorem px_d137_5 : decode prog_10_method_2_code 5 = .ok (.aload_n 0, 1) := by decide +kernel
theorem px_d137_6 : decode prog_10_method_2_code 6 = .ok (.iload_n 2, 1) := by decide +kernel
theorem px_d137_7 : decode prog_10_method_2_code 7 = .ok (.putfield 15, 3) := by decide +kernel
theorem px_d137_10 : decode prog_10_method_2_code 10 = .ok (.aload_n 0, 1) := by decide +kernel
theorem px_d137_11 : decode prog_10_method_2_code 11 = .ok (.iconst 0, 1) := by decide +kernel
theorem px_d137_12 : decode prog_10_method_2_code 12 = .ok (.putfield 19, 3) := by decide +kernel
theorem px_d137_15 : decode prog_10_method_2_code 15 = .ok (.aload_n 0, 1) := by decide +kernel
theorem px_d137_16 : decode prog_10_method_2_code 16 = .ok (.invokevirtual 22, 3) := by decide +kernel
theorem px_d137_19 : decode prog_10_method_2_code 19 = .ok (.return_, 1) := by decide +kernel
theorem px_d138_0 : decode prog_10_method_3_code 0 = .ok (.aload_n 0, 1) := by decide +kernel
theorem px_d138_1 : decode prog_10_method_3_code 1 = .ok (.invokevirtual 25, 3) := by decide +kernel
theorem px_d138_4 : decode prog_10_method_3_code 4 = .ok (.aload_n 0, 1) := by decide +kernel
theorem px_d138_5 : decode prog_10_method_3_code 5 = .ok (.aload_n 0, 1) := by decide +kernel
theorem px_d138_6 : decode prog_10_method_3_code 6 = .ok (.getfield 19, 3) := by decide +kernel
theorem px_d138_9 : decode prog_10_method_3_code 9 = .ok (.putfield 28, 3) := by decide +kernel
theorem px_d138_12 : decode prog_10_method_3_code 12 = .ok (.aload_n 0, 1) := by decide +kernel
theorem px_d138_13 : decode prog_10_method_3_code 13 = .ok (.getfield 19, 3) := by decide +kernel
theorem px_d138_16 : decode prog_10_method_3_code 16 = .ok (.aload_n 0, 1) := by decide +kernel
theorem px_d138_17 : decode prog_10_method_3_code 17 = .ok (.getfield 15, 3) := by decide +kernel
theorem px_d138_20 : decode prog_10_method_3_code 20 = .ok (.if_icmp .lt 9, 3) := by decide +kernel
theorem px_d138_23 : decode prog_10_method_3_code 23 = .ok (.aload_n 0, 1) := by decide +kernel
theorem px_d138_24 : decode prog_10_method_3_code 24 = .ok (.iconst 0, 1) := by decide +kernel
theorem px_d138_25 : decode prog_10_method_3_code 25 = .ok (.putfield 31, 3) := by decide +kernel
theorem px_d138_28 : decode prog_10_method_3_code 28 = .ok (.return_, 1) := by decide +kernel
theorem px_d138_29 : decode prog_10_method_3_code 29 = .ok (.aload_n 0, 1) := by decide +kernel
theorem px_d138_30 : decode prog_10_method_3_code 30 = .ok (.getfield 9, 3) := by decide +kernel
theorem px_d138_33 : decode prog_10_method_3_code 33 = .ok (.aload_n 0, 1) := by decide +kernel
theorem px_d138_34 : decode prog_10_method_3_code 34 = .ok (.getfield 19, 3) := by decide +kernel
theorem px_d138_37 : decode prog_10_method_3_code 37 = .ok (.baload, 1) := by decide +kernel
theorem px_d138_38 : decode prog_10_method_3_code 38 = .ok (.istore_n 1, 1) := by decide +kernel
theorem px_d138_39 : decode prog_10_method_3_code 39 = .ok (.aload_n 0, 1) := by decide +kernel
theorem px_d138_40 : decode prog_10_method_3_code 40 = .ok (.dup, 1) := by decide +kernel
theorem px_d138_41 : decode prog_10_method_3_code 41 = .ok (.getfield 19, 3) := by decide +kernel
theorem px_d138_44 : decode prog_10_method_3_code 44 = .ok (.iconst 1, 1) := by decide +kernel
theorem px_d138_45 : decode prog_10_method_3_code 45 = .ok (.iadd, 1) := by decide +kernel
theorem px_d138_46 : decode prog_10_method_3_code 46 = .ok (.putfield 19, 3) := by decide +kernel
theorem px_d138_49 : decode prog_10_method_3_code 49 = .ok (.iload_n 1, 1) := by decide +kernel
theorem px_d138_50 : decode prog_10_method_3_code 50 = .ok (.invokestatic 34, 3) := by decide +kernel
theorem px_d138_53 : decode prog_10_method_3_code 53 = .ok (.ifCond .eq 10, 3) := by decide +kernel
theorem px_d138_56 : decode prog_10_method_3_code 56 = .ok (.aload_n 0, 1) := by decide +kernel
theorem px_d138_57 : decode prog_10_method_3_code 57 = .ok (.invokevirtual 38, 3) := by decide +kernel
theorem px_d138_60 : decode prog_10_method_3_code 60 = .ok (.goto 73, 3) := by decide +kernel
theorem px_d138_63 : decode prog_10_method_3_code 63 = .ok (.iload_n 1, 1) := by decide +kernel
theorem px_d138_64 : decode prog_10_method_3_code 64 = .ok (.bipush 45, 2) := by decide +kernel
theorem px_d138_66 : decode prog_10_method_3_code 66 = .ok (.if_icmp .eq 10, 3) := by decide +kernel
theorem px_d138_69 : decode prog_10_method_3_code 69 = .ok (.iload_n 1, 1) := by decide +kernel
theorem px_d138_70 : decode prog_10_method_3_code 70 = .ok (.invokestatic 41, 3) := by decide +kernel
theorem px_d138_73 : decode prog_10_method_3_code 73 = .ok (.ifCond .eq 11, 3) := by decide +kernel
theorem px_d138_76 : decode prog_10_method_3_code 76 = .ok (.aload_n 0, 1) := by decide +kernel
theorem px_d138_77 : decode prog_10_method_3_code 77 = .ok (.iload_n 1, 1) := by decide +kernel
theorem px_d138_78 : decode prog_10_method_3_code 78 = .ok (.invokevirtual 44, 3) := by decide +kernel
theorem px_d138_81 : decode prog_10_method_3_code 81 = .ok (.goto 52, 3) := by decide +kernel
theorem px_d138_84 : decode prog_10_method_3_code 84 = .ok (.iload_n 1, 1) := by decide +kernel
theorem px_d138_85 : decode prog_10_method_3_code 85 = .ok (.bipush 123, 2) := by decide +kernel
theorem px_d138_87 : decode prog_10_method_3_code 87 = .ok (.if_icmp .eq 27, 3) := by decide +kernel
theorem px_d138_90 : decode prog_10_method_3_code 90 = .ok (.iload_n 1, 1) := by decide +kernel
theorem px_d138_91 : decode prog_10_method_3_code 91 = .ok (.bipush 125, 2) := by decide +kernel
theorem px_d138_93 : decode prog_10_method_3_code 93 = .ok (.if_icmp .eq 21, 3) := by decide +kernel
theorem px_d138_96 : decode prog_10_method_3_code 96 = .ok (.iload_n 1, 1) := by decide +kernel
theorem px_d138_97 : decode prog_10_method_3_code 97 = .ok (.bipush 44, 2) := by decide +kernel
theorem px_d138_99 : decode prog_10_method_3_code 99 = .ok (.if_icmp .eq 15, 3) := by decide +kernel
theorem px_d138_102 : decode prog_10_method_3_code 102 = .ok (.iload_n 1, 1) := by decide +kernel
theorem px_d138_103 : decode prog_10_method_3_code 103 = .ok (.bipush 61, 2) := by decide +kernel
theorem px_d138_105 : decode prog_10_method_3_code 105 = .ok (.if_icmp .eq 9, 3) := by decide +kernel
theorem px_d138_108 : decode prog_10_method_3_code 108 = .ok (.iload_n 1, 1) := by decide +kernel
theorem px_d138_109 : decode prog_10_method_3_code 109 = .ok (.bipush 59, 2) := by decide +kernel
theorem px_d138_111 : decode prog_10_method_3_code 111 = .ok (.if_icmp .ne 7, 3) := by decide +kernel
theorem px_d138_114 : decode prog_10_method_3_code 114 = .ok (.iconst 1, 1) := by decide +kernel
theorem px_d138_115 : decode prog_10_method_3_code 115 = .ok (.goto 4, 3) := by decide +kernel
theorem px_d138_118 : decode prog_10_method_3_code 118 = .ok (.iconst 0, 1) := by decide +kernel
theorem px_d138_119 : decode prog_10_method_3_code 119 = .ok (.istore_n 2, 1) := by decide +kernel
theorem px_d138_120 : decode prog_10_method_3_code 120 = .ok (.aload_n 0, 1) := by decide +kernel
theorem px_d138_121 : decode prog_10_method_3_code 121 = .ok (.iload_n 2, 1) := by decide +kernel
theorem px_d138_122 : decode prog_10_method_3_code 122 = .ok (.ifCond .eq 7, 3) := by decide +kernel
theorem px_d138_125 : decode prog_10_method_3_code 125 = .ok (.iload_n 1, 1) := by decide +kernel
theorem px_d138_126 : decode prog_10_method_3_code 126 = .ok (.goto 4, 3) := by decide +kernel
theorem px_d138_129 : decode prog_10_method_3_code 129 = .ok (.iconst 1, 1) := by decide +kernel
theorem px_d138_130 : decode prog_10_method_3_code 130 = .ok (.putfield 31, 3) := by decide +kernel
theorem px_d138_133 : decode prog_10_method_3_code 133 = .ok (.return_, 1) := by decide +kernel
theorem px_d139_0 : decode prog_10_method_6_code 0 = .ok (.iconst 0, 1) := by decide +kernel
theorem px_d139_1 : decode prog_10_method_6_code 1 = .ok (.istore_n 1, 1) := by decide +kernel
theorem px_d139_2 : decode prog_10_method_6_code 2 = .ok (.aload_n 0, 1) := by decide +kernel
theorem px_d139_3 : decode prog_10_method_6_code 3 = .ok (.getfield 19, 3) := by decide +kernel
theorem px_d139_6 : decode prog_10_method_6_code 6 = .ok (.aload_n 0, 1) := by decide +kernel
theorem px_d139_7 : decode prog_10_method_6_code 7 = .ok (.getfield 15, 3) := by decide +kernel
theorem px_d139_10 : decode prog_10_method_6_code 10 = .ok (.if_icmp .ge 77, 3) := by decide +kernel
theorem px_d139_13 : decode prog_10_method_6_code 13 = .ok (.aload_n 0, 1) := by decide +kernel
theorem px_d139_14 : decode prog_10_method_6_code 14 = .ok (.getfield 9, 3) := by decide +kernel
theorem px_d139_17 : decode prog_10_method_6_code 17 = .ok (.aload_n 0, 1) := by decide +kernel
theorem px_d139_18 : decode prog_10_method_6_code 18 = .ok (.getfield 19, 3) := by decide +kernel
theorem px_d139_21 : decode prog_10_method_6_code 21 = .ok (.baload, 1) := by decide +kernel
theorem px_d139_22 : decode prog_10_method_6_code 22 = .ok (.istore_n 2, 1) := by decide +kernel
theorem px_d139_23 : decode prog_10_method_6_code 23 = .ok (.iload_n 2, 1) := by decide +kernel
theorem px_d139_24 : decode prog_10_method_6_code 24 = .ok (.bipush 35, 2) := by decide +kernel
theorem px_d139_26 : decode prog_10_method_6_code 26 = .ok (.if_icmp .eq 13, 3) := by decide +kernel
theorem px_d139_29 : decode prog_10_method_6_code 29 = .ok (.iload_n 1, 1) := by decide +kernel
theorem px_d139_30 : decode prog_10_method_6_code 30 = .ok (.ifCond .eq 13, 3) := by decide +kernel
theorem px_d139_33 : decode prog_10_method_6_code 33 = .ok (.iload_n 2, 1) := by decide +kernel
theorem px_d139_34 : decode prog_10_method_6_code 34 = .ok (.bipush 10, 2) := by decide +kernel
theorem px_d139_36 : decode prog_10_method_6_code 36 = .ok (.if_icmp .eq 7, 3) := by decide +kernel
theorem px_d139_39 : decode prog_10_method_6_code 39 = .ok (.iconst 1, 1) := by decide +kernel
theorem px_d139_40 : decode prog_10_method_6_code 40 = .ok (.goto 4, 3) := by decide +kernel
theorem px_d139_43 : decode prog_10_method_6_code 43 = .ok (.iconst 0, 1) := by decide +kernel
theorem px_d139_44 : decode prog_10_method_6_code 44 = .ok (.istore_n 1, 1) := by decide +kernel
theorem px_d139_45 : decode prog_10_method_6_code 45 = .ok (.iload_n 1, 1) := by decide +kernel
theorem px_d139_46 : decode prog_10_method_6_code 46 = .ok (.ifCond .ne 28, 3) := by decide +kernel
theorem px_d139_49 : decode prog_10_method_6_code 49 = .ok (.iload_n 2, 1) := by decide +kernel
theorem px_d139_50 : decode prog_10_method_6_code 50 = .ok (.bipush 32, 2) := by decide +kernel
theorem px_d139_52 : decode prog_10_method_6_code 52 = .ok (.if_icmp .eq 22, 3) := by decide +kernel
theorem px_d139_55 : decode prog_10_method_6_code 55 = .ok (.iload_n 2, 1) := by decide +kernel
theorem px_d139_56 : decode prog_10_method_6_code 56 = .ok (.bipush 10, 2) := by decide +kernel
theorem px_d139_58 : decode prog_10_method_6_code 58 = .ok (.if_icmp .eq 16, 3) := by decide +kernel
theorem px_d139_61 : decode prog_10_method_6_code 61 = .ok (.iload_n 2, 1) := by decide +kernel
theorem px_d139_62 : decode prog_10_method_6_code 62 = .ok (.bipush 13, 2) := by decide +kernel
theorem px_d139_64 : decode prog_10_method_6_code 64 = .ok (.if_icmp .eq 10, 3) := by decide +kernel
theorem px_d139_67 : decode prog_10_method_6_code 67 = .ok (.iload_n 2, 1) := by decide +kernel
theorem px_d139_68 : decode prog_10_method_6_code 68 = .ok (.bipush 9, 2) := by decide +kernel
theorem px_d139_70 : decode prog_10_method_6_code 70 = .ok (.if_icmp .eq 4, 3) := by decide +kernel
theorem px_d139_73 : decode prog_10_method_6_code 73 = .ok (.return_, 1) := by decide +kernel
theorem px_d139_74 : decode prog_10_method_6_code 74 = .ok (.aload_n 0, 1) := by decide +kernel
theorem px_d139_75 : decode prog_10_method_6_code 75 = .ok (.dup, 1) := by decide +kernel
theorem px_d139_76 : decode prog_10_method_6_code 76 = .ok (.getfield 19, 3) := by decide +kernel
theorem px_d139_79 : decode prog_10_method_6_code 79 = .ok (.iconst 1, 1) := by decide +kernel
theorem px_d139_80 : decode prog_10_method_6_code 80 = .ok (.iadd, 1) := by decide +kernel
theorem px_d139_81 : decode prog_10_method_6_code 81 = .ok (.putfield 19, 3) := by decide +kernel
theorem px_d139_84 : decode prog_10_method_6_code 84 = .ok (.goto (-82), 3) := by decide +kernel
theorem px_d139_87 : decode prog_10_method_6_code 87 = .ok (.return_, 1) := by decide +kernel
theorem px_d140_0 : decode prog_10_method_9_code 0 = .ok (.iload_n 0, 1) := by decide +kernel
theorem px_d140_1 : decode prog_10_method_9_code 1 = .ok (.bipush 97, 2) := by decide +kernel
theorem px_d140_3 : decode prog_10_method_9_code 3 = .ok (.if_icmp .lt 9, 3) := by decide +kernel
theorem px_d140_6 : decode prog_10_method_9_code 6 = .ok (.iload_n 0, 1) := by decide +kernel
theorem px_d140_7 : decode prog_10_method_9_code 7 = .ok (.bipush 122, 2) := by decide +kernel
theorem px_d140_9 : decode prog_10_method_9_code 9 = .ok (.if_icmp .le 15, 3) := by decide +kernel
theorem px_d140_12 : decode prog_10_method_9_code 12 = .ok (.iload_n 0, 1) := by decide +kernel
theorem px_d140_13 : decode prog_10_method_9_code 13 = .ok (.bipush 65, 2) := by decide +kernel
theorem px_d140_15 : decode prog_10_method_9_code 15 = .ok (.if_icmp .lt 13, 3) := by decide +kernel
theorem px_d140_18 : decode prog_10_method_9_code 18 = .ok (.iload_n 0, 1) := by decide +kernel
theorem px_d140_19 : decode prog_10_method_9_code 19 = .ok (.bipush 90, 2) := by decide +kernel
theorem px_d140_21 : decode prog_10_method_9_code 21 = .ok (.if_icmp .gt 7, 3) := by decide +kernel
theorem px_d140_24 : decode prog_10_method_9_code 24 = .ok (.iconst 1, 1) := by decide +kernel
theorem px_d140_25 : decode prog_10_method_9_code 25 = .ok (.goto 4, 3) := by decide +kernel
theorem px_d140_28 : decode prog_10_method_9_code 28 = .ok (.iconst 0, 1) := by decide +kernel
theorem px_d140_29 : decode prog_10_method_9_code 29 = .ok (.ireturn, 1) := by decide +kernel
theorem px_d141_0 : decode prog_10_method_7_code 0 = .ok (.aload_n 0, 1) := by decide +kernel
theorem px_d141_1 : decode prog_10_method_7_code 1 = .ok (.iconst 2, 1) := by decide +kernel
theorem px_d141_2 : decode prog_10_method_7_code 2 = .ok (.putfield 31, 3) := by decide +kernel
theorem px_d141_5 : decode prog_10_method_7_code 5 = .ok (.aload_n 0, 1) := by decide +kernel
theorem px_d141_6 : decode prog_10_method_7_code 6 = .ok (.getfield 19, 3) := by decide +kernel
theorem px_d141_9 : decode prog_10_method_7_code 9 = .ok (.aload_n 0, 1) := by decide +kernel
theorem px_d141_10 : decode prog_10_method_7_code 10 = .ok (.getfield 15, 3) := by decide +kernel
theorem px_d141_13 : decode prog_10_method_7_code 13 = .ok (.if_icmp .ge 31, 3) := by decide +kernel
theorem px_d141_16 : decode prog_10_method_7_code 16 = .ok (.aload_n 0, 1) := by decide +kernel
theorem px_d141_17 : decode prog_10_method_7_code 17 = .ok (.getfield 9, 3) := by decide +kernel
theorem px_d141_20 : decode prog_10_method_7_code 20 = .ok (.aload_n 0, 1) := by decide +kernel
theorem px_d141_21 : decode prog_10_method_7_code 21 = .ok (.getfield 19, 3) := by decide +kernel
theorem px_d141_24 : decode prog_10_method_7_code 24 = .ok (.baload, 1) := by decide +kernel
theorem px_d141_25 : decode prog_10_method_7_code 25 = .ok (.invokestatic 34, 3) := by decide +kernel
theorem px_d141_28 : decode prog_10_method_7_code 28 = .ok (.ifCond .eq 16, 3) := by decide +kernel
theorem px_d141_31 : decode prog_10_method_7_code 31 = .ok (.aload_n 0, 1) := by decide +kernel
theorem px_d141_32 : decode prog_10_method_7_code 32 = .ok (.dup, 1) := by decide +kernel
theorem px_d141_33 : decode prog_10_method_7_code 33 = .ok (.getfield 19, 3) := by decide +kernel
theorem px_d141_36 : decode prog_10_method_7_code 36 = .ok (.iconst 1, 1) := by decide +kernel
theorem px_d141_37 : decode prog_10_method_7_code 37 = .ok (.iadd, 1) := by decide +kernel
theorem px_d141_38 : decode prog_10_method_7_code 38 = .ok (.putfield 19, 3) := by decide +kernel
theorem px_d141_41 : decode prog_10_method_7_code 41 = .ok (.goto (-36), 3) := by decide +kernel
theorem px_d141_44 : decode prog_10_method_7_code 44 = .ok (.return_, 1) := by decide +kernel
theorem px_d142_0 : decode prog_10_method_10_code 0 = .ok (.iload_n 0, 1) := by decide +kernel
theorem px_d142_1 : decode prog_10_method_10_code 1 = .ok (.bipush 48, 2) := by decide +kernel
theorem px_d142_3 : decode prog_10_method_10_code 3 = .ok (.if_icmp .lt 13, 3) := by decide +kernel
theorem px_d142_6 : decode prog_10_method_10_code 6 = .ok (.iload_n 0, 1) := by decide +kernel
theorem px_d142_7 : decode prog_10_method_10_code 7 = .ok (.bipush 57, 2) := by decide +kernel
theorem px_d142_9 : decode prog_10_method_10_code 9 = .ok (.if_icmp .gt 7, 3) := by decide +kernel
theorem px_d142_12 : decode prog_10_method_10_code 12 = .ok (.iconst 1, 1) := by decide +kernel
theorem px_d142_13 : decode prog_10_method_10_code 13 = .ok (.goto 4, 3) := by decide +kernel
theorem px_d142_16 : decode prog_10_method_10_code 16 = .ok (.iconst 0, 1) := by decide +kernel
theorem px_d142_17 : decode prog_10_method_10_code 17 = .ok (.ireturn, 1) := by decide +kernel
theorem px_d143_0 : decode prog_10_method_8_code 0 = .ok (.iload_n 1, 1) := by decide +kernel
theorem px_d143_1 : decode prog_10_method_8_code 1 = .ok (.bipush 45, 2) := by decide +kernel
theorem px_d143_3 : decode prog_10_method_8_code 3 = .ok (.if_icmp .ne 7, 3) := by decide +kernel
theorem px_d143_6 : decode prog_10_method_8_code 6 = .ok (.iconst 0, 1) := by decide +kernel
theorem px_d143_7 : decode prog_10_method_8_code 7 = .ok (.goto 4, 3) := by decide +kernel
theorem px_d143_10 : decode prog_10_method_8_code 10 = .ok (.iconst 1, 1) := by decide +kernel
theorem px_d143_11 : decode prog_10_method_8_code 11 = .ok (.istore_n 2, 1) := by decide +kernel
theorem px_d143_12 : decode prog_10_method_8_code 12 = .ok (.iload_n 1, 1) := by decide +kernel
theorem px_d143_13 : decode prog_10_method_8_code 13 = .ok (.bipush 45, 2) := by decide +kernel
theorem px_d143_15 : decode prog_10_method_8_code 15 = .ok (.if_icmp .ne 7, 3) := by decide +kernel
theorem px_d143_18 : decode prog_10_method_8_code 18 = .ok (.iconst 0, 1) := by decide +kernel
theorem px_d143_19 : decode prog_10_method_8_code 19 = .ok (.goto 7, 3) := by decide +kernel
theorem px_d143_22 : decode prog_10_method_8_code 22 = .ok (.iload_n 1, 1) := by decide +kernel
theorem px_d143_23 : decode prog_10_method_8_code 23 = .ok (.bipush 48, 2) := by decide +kernel
theorem px_d143_25 : decode prog_10_method_8_code 25 = .ok (.isub, 1) := by decide +kernel
theorem px_d143_26 : decode prog_10_method_8_code 26 = .ok (.istore_n 3, 1) := by decide +kernel
theorem px_d143_27 : decode prog_10_method_8_code 27 = .ok (.aload_n 0, 1) := by decide +kernel
theorem px_d143_28 : decode prog_10_method_8_code 28 = .ok (.getfield 19, 3) := by decide +kernel
theorem px_d143_31 : decode prog_10_method_8_code 31 = .ok (.aload_n 0, 1) := by decide +kernel
theorem px_d143_32 : decode prog_10_method_8_code 32 = .ok (.getfield 15, 3) := by decide +kernel
theorem px_d143_35 : decode prog_10_method_8_code 35 = .ok (.if_icmp .ge 61, 3) := by decide +kernel
theorem px_d143_38 : decode prog_10_method_8_code 38 = .ok (.aload_n 0, 1) := by decide +kernel
theorem px_d143_39 : decode prog_10_method_8_code 39 = .ok (.getfield 9, 3) := by decide +kernel
theorem px_d143_42 : decode prog_10_method_8_code 42 = .ok (.aload_n 0, 1) := by decide +kernel
theorem px_d143_43 : decode prog_10_method_8_code 43 = .ok (.getfield 19, 3) := by decide +kernel
theorem px_d143_46 : decode prog_10_method_8_code 46 = .ok (.baload, 1) := by decide +kernel
theorem px_d143_47 : decode prog_10_method_8_code 47 = .ok (.invokestatic 41, 3) := by decide +kernel
theorem px_d143_50 : decode prog_10_method_8_code 50 = .ok (.ifCond .eq 46, 3) := by decide +kernel
theorem px_d143_53 : decode prog_10_method_8_code 53 = .ok (.iinc 2 1, 3) := by decide +kernel
theorem px_d143_56 : decode prog_10_method_8_code 56 = .ok (.iload_n 2, 1) := by decide +kernel
theorem px_d143_57 : decode prog_10_method_8_code 57 = .ok (.iconst 3, 1) := by decide +kernel
theorem px_d143_58 : decode prog_10_method_8_code 58 = .ok (.if_icmp .le 7, 3) := by decide +kernel
theorem px_d143_61 : decode prog_10_method_8_code 61 = .ok (.iconst 0, 1) := by decide +kernel
theorem px_d143_62 : decode prog_10_method_8_code 62 = .ok (.goto 20, 3) := by decide +kernel
theorem px_d143_65 : decode prog_10_method_8_code 65 = .ok (.bipush 10, 2) := by decide +kernel
theorem px_d143_67 : decode prog_10_method_8_code 67 = .ok (.iload_n 3, 1) := by decide +kernel
theorem px_d143_68 : decode prog_10_method_8_code 68 = .ok (.imul, 1) := by decide +kernel
theorem px_d143_69 : decode prog_10_method_8_code 69 = .ok (.aload_n 0, 1) := by decide +kernel
theorem px_d143_70 : decode prog_10_method_8_code 70 = .ok (.getfield 9, 3) := by decide +kernel
theorem px_d143_73 : decode prog_10_method_8_code 73 = .ok (.aload_n 0, 1) := by decide +kernel
theorem px_d143_74 : decode prog_10_method_8_code 74 = .ok (.getfield 19, 3) := by decide +kernel
theorem px_d143_77 : decode prog_10_method_8_code 77 = .ok (.baload, 1) := by decide +kernel
theorem px_d143_78 : decode prog_10_method_8_code 78 = .ok (.iadd, 1) := by decide +kernel
theorem px_d143_79 : decode prog_10_method_8_code 79 = .ok (.bipush 48, 2) := by decide +kernel
theorem px_d143_81 : decode prog_10_method_8_code 81 = .ok (.isub, 1) := by decide +kernel
theorem px_d143_82 : decode prog_10_method_8_code 82 = .ok (.istore_n 3, 1) := by decide +kernel
theorem px_d143_83 : decode prog_10_method_8_code 83 = .ok (.aload_n 0, 1) := by decide +kernel
theorem px_d143_84 : decode prog_10_method_8_code 84 = .ok (.dup, 1) := by decide +kernel
theorem px_d143_85 : decode prog_10_method_8_code 85 = .ok (.getfield 19, 3) := by decide +kernel
theorem px_d143_88 : decode prog_10_method_8_code 88 = .ok (.iconst 1, 1) := by decide +kernel
theorem px_d143_89 : decode prog_10_method_8_code 89 = .ok (.iadd, 1) := by decide +kernel
theorem px_d143_90 : decode prog_10_method_8_code 90 = .ok (.putfield 19, 3) := by decide +kernel
theorem px_d143_93 : decode prog_10_method_8_code 93 = .ok (.goto (-66), 3) := by decide +kernel
theorem px_d143_96 : decode prog_10_method_8_code 96 = .ok (.aload_n 0, 1) := by decide +kernel
theorem px_d143_97 : decode prog_10_method_8_code 97 = .ok (.iload_n 2, 1) := by decide +kernel
theorem px_d143_98 : decode prog_10_method_8_code 98 = .ok (.iconst 1, 1) := by decide +kernel
theorem px_d143_99 : decode prog_10_method_8_code 99 = .ok (.if_icmp .lt 12, 3) := by decide +kernel
theorem px_d143_102 : decode prog_10_method_8_code 102 = .ok (.iload_n 2, 1) := by decide +kernel
theorem px_d143_103 : decode prog_10_method_8_code 103 = .ok (.iconst 3, 1) := by decide +kernel
theorem px_d143_104 : decode prog_10_method_8_code 104 = .ok (.if_icmp .gt 7, 3) := by decide +kernel
theorem px_d143_107 : decode prog_10_method_8_code 107 = .ok (.iconst 3, 1) := by decide +kernel
theorem px_d143_108 : decode prog_10_method_8_code 108 = .ok (.goto 4, 3) := by decide +kernel
theorem px_d143_111 : decode prog_10_method_8_code 111 = .ok (.iconst 1, 1) := by decide +kernel
theorem px_d143_112 : decode prog_10_method_8_code 112 = .ok (.putfield 31, 3) := by decide +kernel
theorem px_d143_115 : decode prog_10_method_8_code 115 = .ok (.aload_n 0, 1) := by decide +kernel
theorem px_d143_116 : decode prog_10_method_8_code 116 = .ok (.iload_n 1, 1) := by decide +kernel
theorem px_d143_117 : decode prog_10_method_8_code 117 = .ok (.bipush 45, 2) := by decide +kernel
theorem px_d143_119 : decode prog_10_method_8_code 119 = .ok (.if_icmp .ne 8, 3) := by decide +kernel
theorem px_d143_122 : decode prog_10_method_8_code 122 = .ok (.iload_n 3, 1) := by decide +kernel
theorem px_d143_123 : decode prog_10_method_8_code 123 = .ok (.ineg, 1) := by decide +kernel
theorem px_d143_124 : decode prog_10_method_8_code 124 = .ok (.goto 4, 3) := by decide +kernel
theorem px_d143_127 : decode prog_10_method_8_code 127 = .ok (.iload_n 3, 1) := by decide +kernel
theorem px_d143_128 : decode prog_10_method_8_code 128 = .ok (.putfield 57, 3) := by decide +kernel
theorem px_d143_131 : decode prog_10_method_8_code 131 = .ok (.return_, 1) := by decide +kernel
theorem px_d144_0 : decode prog_9_method_2_code 0 = .ok (.aload_n 0, 1) := by decide +kernel
theorem px_d144_1 : decode prog_9_method_2_code 1 = .ok (.iconst (-1), 1) := by decide +kernel
theorem px_d144_2 : decode prog_9_method_2_code 2 = .ok (.putfield 28, 3) := by decide +kernel
theorem px_d144_5 : decode prog_9_method_2_code 5 = .ok (.aload_n 0, 1) := by decide +kernel
theorem px_d144_6 : decode prog_9_method_2_code 6 = .ok (.iconst (-1), 1) := by decide +kernel
theorem px_d144_7 : decode prog_9_method_2_code 7 = .ok (.putfield 32, 3) := by decide +kernel
theorem px_d144_10 : decode prog_9_method_2_code 10 = .ok (.aload_n 0, 1) := by decide +kernel
theorem px_d144_11 : decode prog_9_method_2_code 11 = .ok (.iconst 0, 1) := by decide +kernel
theorem px_d144_12 : decode prog_9_method_2_code 12 = .ok (.putfield 35, 3) := by decide +kernel
theorem px_d144_15 : decode prog_9_method_2_code 15 = .ok (.aload_n 0, 1) := by decide +kernel
theorem px_d144_16 : decode prog_9_method_2_code 16 = .ok (.iconst 0, 1) := by decide +kernel
theorem px_d144_17 : decode prog_9_method_2_code 17 = .ok (.putfield 38, 3) := by decide +kernel
theorem px_d144_20 : decode prog_9_method_2_code 20 = .ok (.aload_n 0, 1) := by decide +kernel
theorem px_d144_21 : decode prog_9_method_2_code 21 = .ok (.iconst 1, 1) := by decide +kernel
theorem px_d144_22 : decode prog_9_method_2_code 22 = .ok (.putfield 41, 3) := by decide +kernel
theorem px_d144_25 : decode prog_9_method_2_code 25 = .ok (.aload_n 0, 1) := by decide +kernel
theorem px_d144_26 : decode prog_9_method_2_code 26 = .ok (.invokevirtual 45, 3) := by decide +kernel
theorem px_d144_29 : decode prog_9_method_2_code 29 = .ok (.ifCond .eq 44, 3) := by decide +kernel
theorem px_d144_32 : decode prog_9_method_2_code 32 = .ok (.aload_n 0, 1) := by decide +kernel
theorem px_d144_33 : decode prog_9_method_2_code 33 = .ok (.invokevirtual 49, 3) := by decide +kernel
theorem px_d144_36 : decode prog_9_method_2_code 36 = .ok (.ifCond .eq 37, 3) := by decide +kernel
theorem px_d144_39 : decode prog_9_method_2_code 39 = .ok (.aload_n 0, 1) := by decide +kernel
theorem px_d144_40 : decode prog_9_method_2_code 40 = .ok (.invokevirtual 52, 3) := by decide +kernel
theorem px_d144_43 : decode prog_9_method_2_code 43 = .ok (.ifCond .eq 30, 3) := by decide +kernel
theorem px_d144_46 : decode prog_9_method_2_code 46 = .ok (.aload_n 0, 1) := by decide +kernel
theorem px_d144_47 : decode prog_9_method_2_code 47 = .ok (.invokevirtual 55, 3) := by decide +kernel
theorem px_d144_50 : decode prog_9_method_2_code 50 = .ok (.ifCond .eq 23, 3) := by decide +kernel
theorem px_d144_53 : decode prog_9_method_2_code 53 = .ok (.aload_n 0, 1) := by decide +kernel
theorem px_d144_54 : decode prog_9_method_2_code 54 = .ok (.invokevirtual 58, 3) := by decide +kernel
theorem px_d144_57 : decode prog_9_method_2_code 57 = .ok (.ifCond .eq 16, 3) := by decide +kernel
theorem px_d144_60 : decode prog_9_method_2_code 60 = .ok (.aload_n 0, 1) := by decide +kernel
theorem px_d144_61 : decode prog_9_method_2_code 61 = .ok (.bipush 59, 2) := by decide +kernel
theorem px_d144_63 : decode prog_9_method_2_code 63 = .ok (.invokevirtual 61, 3) := by decide +kernel
theorem px_d144_66 : decode prog_9_method_2_code 66 = .ok (.ifCond .eq 7, 3) := by decide +kernel
theorem px_d144_69 : decode prog_9_method_2_code 69 = .ok (.iconst 1, 1) := by decide +kernel
theorem px_d144_70 : decode prog_9_method_2_code 70 = .ok (.goto 4, 3) := by decide +kernel
theorem px_d144_73 : decode prog_9_method_2_code 73 = .ok (.iconst 0, 1) := by decide +kernel
theorem px_d144_74 : decode prog_9_method_2_code 74 = .ok (.ireturn, 1) := by decide +kernel
theorem px_d145_0 : decode prog_9_method_5_code 0 = .ok (.aload_n 0, 1) := by decide +kernel
theorem px_d145_1 : decode prog_9_method_5_code 1 = .ok (.aload_n 0, 1) := by decide +kernel
theorem px_d145_2 : decode prog_9_method_5_code 2 = .ok (.getfield 9, 3) := by decide +kernel
theorem px_d145_5 : decode prog_9_method_5_code 5 = .ok (.invokevirtual 89, 3) := by decide +kernel
theorem px_d145_8 : decode prog_9_method_5_code 8 = .ok (.putfield 94, 3) := by decide +kernel
theorem px_d145_11 : decode prog_9_method_5_code 11 = .ok (.aload_n 0, 1) := by decide +kernel
theorem px_d145_12 : decode prog_9_method_5_code 12 = .ok (.getfield 94, 3) := by decide +kernel
theorem px_d145_15 : decode prog_9_method_5_code 15 = .ok (.iconst (-1), 1) := by decide +kernel
theorem px_d145_16 : decode prog_9_method_5_code 16 = .ok (.if_icmp .eq 21, 3) := by decide +kernel
theorem px_d145_19 : decode prog_9_method_5_code 19 = .ok (.aload_n 0, 1) := by decide +kernel
theorem px_d145_20 : decode prog_9_method_5_code 20 = .ok (.getfield 9, 3) := by decide +kernel
theorem px_d145_23 : decode prog_9_method_5_code 23 = .ok (.invokevirtual 97, 3) := by decide +kernel
theorem px_d145_26 : decode prog_9_method_5_code 26 = .ok (.aload_n 0, 1) := by decide +kernel
theorem px_d145_27 : decode prog_9_method_5_code 27 = .ok (.bipush 61, 2) := by decide +kernel
theorem px_d145_29 : decode prog_9_method_5_code 29 = .ok (.invokevirtual 61, 3) := by decide +kernel
theorem px_d145_32 : decode prog_9_method_5_code 32 = .ok (.ifCond .ne 5, 3) := by decide +kernel
theorem px_d145_35 : decode prog_9_method_5_code 35 = .ok (.iconst 0, 1) := by decide +kernel
theorem px_d145_36 : decode prog_9_method_5_code 36 = .ok (.ireturn, 1) := by decide +kernel
theorem px_d145_37 : decode prog_9_method_5_code 37 = .ok (.aload_n 0, 1) := by decide +kernel
