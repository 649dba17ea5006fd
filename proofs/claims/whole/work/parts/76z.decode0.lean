theorem px_d135_0 : decode prog_1_method_4_code 0 = .ok (.aload_n 0, 1) := by decide +kernel
theorem px_d135_1 : decode prog_1_method_4_code 1 = .ok (.getfield 13, 3) := by decide +kernel
theorem px_d135_4 : decode prog_1_method_4_code 4 = .ok (.istore_n 1, 1) := by decide +kernel
theorem px_d135_5 : decode prog_1_method_4_code 5 = .ok (.aload_n 0, 1) := by decide +kernel
theorem px_d135_6 : decode prog_1_method_4_code 6 = .ok (.iconst 0, 1) := by decide +kernel
theorem px_d135_7 : decode prog_1_method_4_code 7 = .ok (.putfield 13, 3) := by decide +kernel
theorem px_d135_10 : decode prog_1_method_4_code 10 = .ok (.aload_n 0, 1) := by decide +kernel
theorem px_d135_11 : decode prog_1_method_4_code 11 = .ok (.iload_n 1, 1) := by decide +kernel
theorem px_d135_12 : decode prog_1_method_4_code 12 = .ok (.invokevirtual 108, 3) := by decide +kernel
theorem px_d135_15 : decode prog_1_method_4_code 15 = .ok (.ifCond .ne 16, 3) := by decide +kernel
theorem px_d135_18 : decode prog_1_method_4_code 18 = .ok (.aload_n 0, 1) := by decide +kernel
theorem px_d135_19 : decode prog_1_method_4_code 19 = .ok (.aload_n 0, 1) := by decide +kernel
theorem px_d135_20 : decode prog_1_method_4_code 20 = .ok (.getfield 66, 3) := by decide +kernel
theorem px_d135_23 : decode prog_1_method_4_code 23 = .ok (.getfield 112, 3) := by decide +kernel
theorem px_d135_26 : decode prog_1_method_4_code 26 = .ok (.putfield 17, 3) := by decide +kernel
theorem px_d135_29 : decode prog_1_method_4_code 29 = .ok (.iconst (-1), 1) := by decide +kernel
theorem px_d135_30 : decode prog_1_method_4_code 30 = .ok (.ireturn, 1) := by decide +kernel
theorem px_d135_31 : decode prog_1_method_4_code 31 = .ok (.aload_n 0, 1) := by decide +kernel
theorem px_d135_32 : decode prog_1_method_4_code 32 = .ok (.getfield 82, 3) := by decide +kernel
theorem px_d135_35 : decode prog_1_method_4_code 35 = .ok (.iconst 0, 1) := by decide +kernel
theorem px_d135_36 : decode prog_1_method_4_code 36 = .ok (.invokevirtual 115, 3) := by decide +kernel
theorem px_d135_39 : decode prog_1_method_4_code 39 = .ok (.aload_n 0, 1) := by decide +kernel
theorem px_d135_40 : decode prog_1_method_4_code 40 = .ok (.iconst 0, 1) := by decide +kernel
theorem px_d135_41 : decode prog_1_method_4_code 41 = .ok (.putfield 20, 3) := by decide +kernel
theorem px_d135_44 : decode prog_1_method_4_code 44 = .ok (.iconst 0, 1) := by decide +kernel
theorem px_d135_45 : decode prog_1_method_4_code 45 = .ok (.istore_n 2, 1) := by decide +kernel
theorem px_d135_46 : decode prog_1_method_4_code 46 = .ok (.aload_n 0, 1) := by decide +kernel
theorem px_d135_47 : decode prog_1_method_4_code 47 = .ok (.getfield 66, 3) := by decide +kernel
theorem px_d135_50 : decode prog_1_method_4_code 50 = .ok (.aload_n 0, 1) := by decide +kernel
theorem px_d135_51 : decode prog_1_method_4_code 51 = .ok (.getfield 7, 3) := by decide +kernel
theorem px_d135_54 : decode prog_1_method_4_code 54 = .ok (.iload_n 1, 1) := by decide +kernel
theorem px_d135_55 : decode prog_1_method_4_code 55 = .ok (.invokevirtual 118, 3) := by decide +kernel
theorem px_d135_58 : decode prog_1_method_4_code 58 = .ok (.iconst 0, 1) := by decide +kernel
theorem px_d135_59 : decode prog_1_method_4_code 59 = .ok (.istore_n 3, 1) := by decide +kernel
theorem px_d135_60 : decode prog_1_method_4_code 60 = .ok (.iload_n 3, 1) := by decide +kernel
theorem px_d135_61 : decode prog_1_method_4_code 61 = .ok (.sipush 400, 3) := by decide +kernel
theorem px_d135_64 : decode prog_1_method_4_code 64 = .ok (.if_icmp .ge 146, 3) := by decide +kernel
theorem px_d135_67 : decode prog_1_method_4_code 67 = .ok (.aload_n 0, 1) := by decide +kernel
theorem px_d135_68 : decode prog_1_method_4_code 68 = .ok (.getfield 20, 3) := by decide +kernel
theorem px_d135_71 : decode prog_1_method_4_code 71 = .ok (.ifCond .ne 139, 3) := by decide +kernel
theorem px_d135_74 : decode prog_1_method_4_code 74 = .ok (.aload_n 0, 1) := by decide +kernel
theorem px_d135_75 : decode prog_1_method_4_code 75 = .ok (.getfield 66, 3) := by decide +kernel
theorem px_d135_78 : decode prog_1_method_4_code 78 = .ok (.getfield 122, 3) := by decide +kernel
theorem px_d135_81 : decode prog_1_method_4_code 81 = .ok (.ifCond .eq 129, 3) := by decide +kernel
theorem px_d135_84 : decode prog_1_method_4_code 84 = .ok (.aload_n 0, 1) := by decide +kernel
theorem px_d135_85 : decode prog_1_method_4_code 85 = .ok (.getfield 82, 3) := by decide +kernel
theorem px_d135_88 : decode prog_1_method_4_code 88 = .ok (.getfield 125, 3) := by decide +kernel
theorem px_d135_91 : decode prog_1_method_4_code 91 = .ok (.istore 4, 2) := by decide +kernel
theorem px_d135_93 : decode prog_1_method_4_code 93 = .ok (.aload_n 0, 1) := by decide +kernel
theorem px_d135_94 : decode prog_1_method_4_code 94 = .ok (.aload_n 0, 1) := by decide +kernel
theorem px_d135_95 : decode prog_1_method_4_code 95 = .ok (.getfield 75, 3) := by decide +kernel
theorem px_d135_98 : decode prog_1_method_4_code 98 = .ok (.invokevirtual 128, 3) := by decide +kernel
theorem px_d135_101 : decode prog_1_method_4_code 101 = .ok (.ifCond .eq 10, 3) := by decide +kernel
theorem px_d135_104 : decode prog_1_method_4_code 104 = .ok (.aload_n 0, 1) := by decide +kernel
theorem px_d135_105 : decode prog_1_method_4_code 105 = .ok (.invokevirtual 132, 3) := by decide +kernel
theorem px_d135_108 : decode prog_1_method_4_code 108 = .ok (.goto 4, 3) := by decide +kernel
theorem px_d135_111 : decode prog_1_method_4_code 111 = .ok (.iconst 2, 1) := by decide +kernel
theorem px_d135_112 : decode prog_1_method_4_code 112 = .ok (.putfield 20, 3) := by decide +kernel
theorem px_d135_115 : decode prog_1_method_4_code 115 = .ok (.aload_n 0, 1) := by decide +kernel
theorem px_d135_116 : decode prog_1_method_4_code 116 = .ok (.getfield 20, 3) := by decide +kernel
theorem px_d135_119 : decode prog_1_method_4_code 119 = .ok (.ifCond .ne 23, 3) := by decide +kernel
theorem px_d135_122 : decode prog_1_method_4_code 122 = .ok (.aload_n 0, 1) := by decide +kernel
theorem px_d135_123 : decode prog_1_method_4_code 123 = .ok (.getfield 75, 3) := by decide +kernel
theorem px_d135_126 : decode prog_1_method_4_code 126 = .ok (.getfield 136, 3) := by decide +kernel
theorem px_d135_129 : decode prog_1_method_4_code 129 = .ok (.getfield 140, 3) := by decide +kernel
theorem px_d135_132 : decode prog_1_method_4_code 132 = .ok (.ifCond .eq 10, 3) := by decide +kernel
theorem px_d135_135 : decode prog_1_method_4_code 135 = .ok (.aload_n 0, 1) := by decide +kernel
theorem px_d135_136 : decode prog_1_method_4_code 136 = .ok (.invokevirtual 146, 3) := by decide +kernel
theorem px_d135_139 : decode prog_1_method_4_code 139 = .ok (.goto 25, 3) := by decide +kernel
theorem px_d135_142 : decode prog_1_method_4_code 142 = .ok (.aload_n 0, 1) := by decide +kernel
theorem px_d135_143 : decode prog_1_method_4_code 143 = .ok (.getfield 20, 3) := by decide +kernel
theorem px_d135_146 : decode prog_1_method_4_code 146 = .ok (.ifCond .ne 18, 3) := by decide +kernel
theorem px_d135_149 : decode prog_1_method_4_code 149 = .ok (.aload_n 0, 1) := by decide +kernel
theorem px_d135_150 : decode prog_1_method_4_code 150 = .ok (.aload_n 0, 1) := by decide +kernel
theorem px_d135_151 : decode prog_1_method_4_code 151 = .ok (.aload_n 0, 1) := by decide +kernel
theorem px_d135_152 : decode prog_1_method_4_code 152 = .ok (.getfield 75, 3) := by decide +kernel
theorem px_d135_155 : decode prog_1_method_4_code 155 = .ok (.getfield 149, 3) := by decide +kernel
theorem px_d135_158 : decode prog_1_method_4_code 158 = .ok (.invokevirtual 152, 3) := by decide +kernel
theorem px_d135_161 : decode prog_1_method_4_code 161 = .ok (.invokevirtual 156, 3) := by decide +kernel
theorem px_d135_164 : decode prog_1_method_4_code 164 = .ok (.aload_n 0, 1) := by decide +kernel
theorem px_d135_165 : decode prog_1_method_4_code 165 = .ok (.getfield 82, 3) := by decide +kernel
theorem px_d135_168 : decode prog_1_method_4_code 168 = .ok (.getfield 160, 3) := by decide +kernel
theorem px_d135_171 : decode prog_1_method_4_code 171 = .ok (.ifCond .eq 18, 3) := by decide +kernel
theorem px_d135_174 : decode prog_1_method_4_code 174 = .ok (.aload_n 0, 1) := by decide +kernel
theorem px_d135_175 : decode prog_1_method_4_code 175 = .ok (.getfield 82, 3) := by decide +kernel
theorem px_d135_178 : decode prog_1_method_4_code 178 = .ok (.iload 4, 2) := by decide +kernel
theorem px_d135_180 : decode prog_1_method_4_code 180 = .ok (.invokevirtual 115, 3) := by decide +kernel
theorem px_d135_183 : decode prog_1_method_4_code 183 = .ok (.aload_n 0, 1) := by decide +kernel
theorem px_d135_184 : decode prog_1_method_4_code 184 = .ok (.bipush 7, 2) := by decide +kernel
theorem px_d135_186 : decode prog_1_method_4_code 186 = .ok (.putfield 20, 3) := by decide +kernel
theorem px_d135_189 : decode prog_1_method_4_code 189 = .ok (.iload_n 2, 1) := by decide +kernel
theorem px_d135_190 : decode prog_1_method_4_code 190 = .ok (.aload_n 0, 1) := by decide +kernel
theorem px_d135_191 : decode prog_1_method_4_code 191 = .ok (.getfield 20, 3) := by decide +kernel
theorem px_d135_194 : decode prog_1_method_4_code 194 = .ok (.ifCond .ne 7, 3) := by decide +kernel
theorem px_d135_197 : decode prog_1_method_4_code 197 = .ok (.iconst 1, 1) := by decide +kernel
theorem px_d135_198 : decode prog_1_method_4_code 198 = .ok (.goto 4, 3) := by decide +kernel
theorem px_d135_201 : decode prog_1_method_4_code 201 = .ok (.iconst 0, 1) := by decide +kernel
theorem px_d135_202 : decode prog_1_method_4_code 202 = .ok (.iadd, 1) := by decide +kernel
theorem px_d135_203 : decode prog_1_method_4_code 203 = .ok (.istore_n 2, 1) := by decide +kernel
theorem px_d135_204 : decode prog_1_method_4_code 204 = .ok (.iinc 3 1, 3) := by decide +kernel
theorem px_d135_207 : decode prog_1_method_4_code 207 = .ok (.goto (-147), 3) := by decide +kernel
theorem px_d135_210 : decode prog_1_method_4_code 210 = .ok (.iload_n 2, 1) := by decide +kernel
theorem px_d135_211 : decode prog_1_method_4_code 211 = .ok (.ireturn, 1) := by decide +kernel
theorem px_d136_0 : decode prog_1_method_27_code 0 = .ok (.aload_n 0, 1) := by decide +kernel
theorem px_d136_1 : decode prog_1_method_27_code 1 = .ok (.getfield 66, 3) := by decide +kernel
theorem px_d136_4 : decode prog_1_method_27_code 4 = .ok (.aload_n 0, 1) := by decide +kernel
theorem px_d136_5 : decode prog_1_method_27_code 5 = .ok (.getfield 7, 3) := by decide +kernel
theorem px_d136_8 : decode prog_1_method_27_code 8 = .ok (.iload_n 1, 1) := by decide +kernel
theorem px_d136_9 : decode prog_1_method_27_code 9 = .ok (.invokevirtual 118, 3) := by decide +kernel
theorem px_d136_12 : decode prog_1_method_27_code 12 = .ok (.iconst 0, 1) := by decide +kernel
theorem px_d136_13 : decode prog_1_method_27_code 13 = .ok (.istore_n 2, 1) := by decide +kernel
theorem px_d136_14 : decode prog_1_method_27_code 14 = .ok (.iload_n 2, 1) := by decide +kernel
theorem px_d136_15 : decode prog_1_method_27_code 15 = .ok (.sipush 400, 3) := by decide +kernel
theorem px_d136_18 : decode prog_1_method_27_code 18 = .ok (.if_icmp .ge 31, 3) := by decide +kernel
theorem px_d136_21 : decode prog_1_method_27_code 21 = .ok (.aload_n 0, 1) := by decide +kernel
theorem px_d136_22 : decode prog_1_method_27_code 22 = .ok (.getfield 66, 3) := by decide +kernel
theorem px_d136_25 : decode prog_1_method_27_code 25 = .ok (.getfield 122, 3) := by decide +kernel
theorem px_d136_28 : decode prog_1_method_27_code 28 = .ok (.ifCond .eq 21, 3) := by decide +kernel
theorem px_d136_31 : decode prog_1_method_27_code 31 = .ok (.aload_n 0, 1) := by decide +kernel
theorem px_d136_32 : decode prog_1_method_27_code 32 = .ok (.getfield 75, 3) := by decide +kernel
theorem px_d136_35 : decode prog_1_method_27_code 35 = .ok (.invokevirtual 128, 3) := by decide +kernel
theorem px_d136_38 : decode prog_1_method_27_code 38 = .ok (.ifCond .ne 5, 3) := by decide +kernel
theorem px_d136_41 : decode prog_1_method_27_code 41 = .ok (.iconst 0, 1) := by decide +kernel
theorem px_d136_42 : decode prog_1_method_27_code 42 = .ok (.ireturn, 1) := by decide +kernel
theorem px_d136_43 : decode prog_1_method_27_code 43 = .ok (.iinc 2 1, 3) := by decide +kernel
theorem px_d136_46 : decode prog_1_method_27_code 46 = .ok (.goto (-32), 3) := by decide +kernel
theorem px_d136_49 : decode prog_1_method_27_code 49 = .ok (.aload_n 0, 1) := by decide +kernel
theorem px_d136_50 : decode prog_1_method_27_code 50 = .ok (.getfield 66, 3) := by decide +kernel
theorem px_d136_53 : decode prog_1_method_27_code 53 = .ok (.getfield 122, 3) := by decide +kernel
theorem px_d136_56 : decode prog_1_method_27_code 56 = .ok (.ifCond .ne 7, 3) := by decide +kernel
theorem px_d136_59 : decode prog_1_method_27_code 59 = .ok (.iconst 1, 1) := by decide +kernel
theorem px_d136_60 : decode prog_1_method_27_code 60 = .ok (.goto 4, 3) := by decide +kernel
theorem px_d136_63 : decode prog_1_method_27_code 63 = .ok (.iconst 0, 1) := by decide +kernel
theorem px_d136_64 : decode prog_1_method_27_code 64 = .ok (.ireturn, 1) := by decide +kernel
theorem px_d169_0 : decode prog_1_method_28_code 0 = .ok (.aload_n 0, 1) := by decide +kernel
theorem px_d169_1 : decode prog_1_method_28_code 1 = .ok (.getfield 75, 3) := by decide +kernel
theorem px_d169_4 : decode prog_1_method_28_code 4 = .ok (.getfield 136, 3) := by decide +kernel
theorem px_d169_7 : decode prog_1_method_28_code 7 = .ok (.astore_n 1, 1) := by decide +kernel
theorem px_d169_8 : decode prog_1_method_28_code 8 = .ok (.aload_n 0, 1) := by decide +kernel
theorem px_d169_9 : decode prog_1_method_28_code 9 = .ok (.aload_n 0, 1) := by decide +kernel
theorem px_d169_10 : decode prog_1_method_28_code 10 = .ok (.getfield 75, 3) := by decide +kernel
theorem px_d169_13 : decode prog_1_method_28_code 13 = .ok (.getfield 149, 3) := by decide +kernel
theorem px_d169_16 : decode prog_1_method_28_code 16 = .ok (.invokevirtual 152, 3) := by decide +kernel
theorem px_d169_19 : decode prog_1_method_28_code 19 = .ok (.astore_n 2, 1) := by decide +kernel
theorem px_d169_20 : decode prog_1_method_28_code 20 = .ok (.aload_n 0, 1) := by decide +kernel
theorem px_d169_21 : decode prog_1_method_28_code 21 = .ok (.aload_n 0, 1) := by decide +kernel
theorem px_d169_22 : decode prog_1_method_28_code 22 = .ok (.getfield 75, 3) := by decide +kernel
theorem px_d169_25 : decode prog_1_method_28_code 25 = .ok (.getfield 232, 3) := by decide +kernel
theorem px_d169_28 : decode prog_1_method_28_code 28 = .ok (.invokevirtual 152, 3) := by decide +kernel
theorem px_d169_31 : decode prog_1_method_28_code 31 = .ok (.astore_n 3, 1) := by decide +kernel
theorem px_d169_32 : decode prog_1_method_28_code 32 = .ok (.aload_n 1, 1) := by decide +kernel
theorem px_d169_33 : decode prog_1_method_28_code 33 = .ok (.getfield 235, 3) := by decide +kernel
theorem px_d169_36 : decode prog_1_method_28_code 36 = .ok (.ifCond .le 7, 3) := by decide +kernel
theorem px_d169_39 : decode prog_1_method_28_code 39 = .ok (.aload_n 2, 1) := by decide +kernel
theorem px_d169_40 : decode prog_1_method_28_code 40 = .ok (.ifnull 15, 3) := by decide +kernel
theorem px_d169_43 : decode prog_1_method_28_code 43 = .ok (.aload_n 1, 1) := by decide +kernel
theorem px_d169_44 : decode prog_1_method_28_code 44 = .ok (.getfield 235, 3) := by decide +kernel
theorem px_d169_47 : decode prog_1_method_28_code 47 = .ok (.iconst 1, 1) := by decide +kernel
theorem px_d169_48 : decode prog_1_method_28_code 48 = .ok (.if_icmp .le 9, 3) := by decide +kernel
theorem px_d169_51 : decode prog_1_method_28_code 51 = .ok (.aload_n 3, 1) := by decide +kernel
theorem px_d169_52 : decode prog_1_method_28_code 52 = .ok (.ifnonnull 5, 3) := by decide +kernel
theorem px_d169_55 : decode prog_1_method_28_code 55 = .ok (.iconst 1, 1) := by decide +kernel
theorem px_d169_56 : decode prog_1_method_28_code 56 = .ok (.ireturn, 1) := by decide +kernel
theorem px_d169_57 : decode prog_1_method_28_code 57 = .ok (.aload_n 0, 1) := by decide +kernel
theorem px_d169_58 : decode prog_1_method_28_code 58 = .ok (.getfield 75, 3) := by decide +kernel
theorem px_d169_61 : decode prog_1_method_28_code 61 = .ok (.aload_n 2, 1) := by decide +kernel
theorem px_d169_62 : decode prog_1_method_28_code 62 = .ok (.ifnonnull 7, 3) := by decide +kernel
theorem px_d169_65 : decode prog_1_method_28_code 65 = .ok (.iconst 0, 1) := by decide +kernel
theorem px_d169_66 : decode prog_1_method_28_code 66 = .ok (.goto 7, 3) := by decide +kernel
theorem px_d169_69 : decode prog_1_method_28_code 69 = .ok (.aload_n 2, 1) := by decide +kernel
theorem px_d169_70 : decode prog_1_method_28_code 70 = .ok (.getfield 164, 3) := by decide +kernel
theorem px_d169_73 : decode prog_1_method_28_code 73 = .ok (.invokevirtual 238, 3) := by decide +kernel
theorem px_d169_76 : decode prog_1_method_28_code 76 = .ok (.ifCond .eq 5, 3) := by decide +kernel
theorem px_d169_79 : decode prog_1_method_28_code 79 = .ok (.iconst 2, 1) := by decide +kernel
theorem px_d169_80 : decode prog_1_method_28_code 80 = .ok (.ireturn, 1) := by decide +kernel
theorem px_d169_81 : decode prog_1_method_28_code 81 = .ok (.aload_n 2, 1) := by decide +kernel
theorem px_d169_82 : decode prog_1_method_28_code 82 = .ok (.ifnull 14, 3) := by decide +kernel
theorem px_d169_85 : decode prog_1_method_28_code 85 = .ok (.aload_n 3, 1) := by decide +kernel
theorem px_d169_86 : decode prog_1_method_28_code 86 = .ok (.ifnull 10, 3) := by decide +kernel
theorem px_d169_89 : decode prog_1_method_28_code 89 = .ok (.aload_n 1, 1) := by decide +kernel
theorem px_d169_90 : decode prog_1_method_28_code 90 = .ok (.aload_n 2, 1) := by decide +kernel
theorem px_d169_91 : decode prog_1_method_28_code 91 = .ok (.aload_n 3, 1) := by decide +kernel
theorem px_d169_92 : decode prog_1_method_28_code 92 = .ok (.invokestatic 241, 3) := by decide +kernel
theorem px_d169_95 : decode prog_1_method_28_code 95 = .ok (.ireturn, 1) := by decide +kernel
theorem px_d169_96 : decode prog_1_method_28_code 96 = .ok (.aload_n 1, 1) := by decide +kernel
theorem px_d169_97 : decode prog_1_method_28_code 97 = .ok (.getstatic 245, 3) := by decide +kernel
theorem px_d169_100 : decode prog_1_method_28_code 100 = .ok (.if_acmp .eq 10, 3) := by decide +kernel
theorem px_d169_103 : decode prog_1_method_28_code 103 = .ok (.aload_n 1, 1) := by decide +kernel
theorem px_d169_104 : decode prog_1_method_28_code 104 = .ok (.getstatic 248, 3) := by decide +kernel
theorem px_d169_107 : decode prog_1_method_28_code 107 = .ok (.if_acmp .ne 7, 3) := by decide +kernel
theorem px_d169_110 : decode prog_1_method_28_code 110 = .ok (.iconst 1, 1) := by decide +kernel
theorem px_d169_111 : decode prog_1_method_28_code 111 = .ok (.goto 4, 3) := by decide +kernel
theorem px_d169_114 : decode prog_1_method_28_code 114 = .ok (.iconst 0, 1) := by decide +kernel
theorem px_d169_115 : decode prog_1_method_28_code 115 = .ok (.istore 4, 2) := by decide +kernel
theorem px_d169_117 : decode prog_1_method_28_code 117 = .ok (.iload 4, 2) := by decide +kernel
theorem px_d169_119 : decode prog_1_method_28_code 119 = .ok (.ifCond .eq 18, 3) := by decide +kernel
theorem px_d169_122 : decode prog_1_method_28_code 122 = .ok (.aload_n 2, 1) := by decide +kernel
theorem px_d169_123 : decode prog_1_method_28_code 123 = .ok (.ifnull 14, 3) := by decide +kernel
theorem px_d169_126 : decode prog_1_method_28_code 126 = .ok (.aload_n 2, 1) := by decide +kernel
theorem px_d169_127 : decode prog_1_method_28_code 127 = .ok (.getfield 167, 3) := by decide +kernel
theorem px_d169_130 : decode prog_1_method_28_code 130 = .ok (.ifCond .eq 7, 3) := by decide +kernel
theorem px_d169_133 : decode prog_1_method_28_code 133 = .ok (.iconst 5, 1) := by decide +kernel
theorem px_d169_134 : decode prog_1_method_28_code 134 = .ok (.goto 4, 3) := by decide +kernel
theorem px_d169_137 : decode prog_1_method_28_code 137 = .ok (.iconst 0, 1) := by decide +kernel
theorem px_d169_138 : decode prog_1_method_28_code 138 = .ok (.ireturn, 1) := by decide +kernel
theorem px_d175_0 : decode prog_1_method_29_code 0 = .ok (.aload_n 0, 1) := by decide +kernel
theorem px_d175_1 : decode prog_1_method_29_code 1 = .ok (.getstatic 251, 3) := by decide +kernel
theorem px_d175_4 : decode prog_1_method_29_code 4 = .ok (.if_acmp .ne 19, 3) := by decide +kernel
theorem px_d175_7 : decode prog_1_method_29_code 7 = .ok (.aload_n 1, 1) := by decide +kernel
theorem px_d175_8 : decode prog_1_method_29_code 8 = .ok (.getfield 164, 3) := by decide +kernel
theorem px_d175_11 : decode prog_1_method_29_code 11 = .ok (.aload_n 2, 1) := by decide +kernel
theorem px_d175_12 : decode prog_1_method_29_code 12 = .ok (.getfield 164, 3) := by decide +kernel
theorem px_d175_15 : decode prog_1_method_29_code 15 = .ok (.iadd, 1) := by decide +kernel
theorem px_d175_16 : decode prog_1_method_29_code 16 = .ok (.bipush 12, 2) := by decide +kernel
theorem px_d175_18 : decode prog_1_method_29_code 18 = .ok (.if_icmp .le 5, 3) := by decide +kernel
theorem px_d175_21 : decode prog_1_method_29_code 21 = .ok (.iconst 3, 1) := by decide +kernel
theorem px_d175_22 : decode prog_1_method_29_code 22 = .ok (.ireturn, 1) := by decide +kernel
theorem px_d175_23 : decode prog_1_method_29_code 23 = .ok (.aload_n 0, 1) := by decide +kernel
theorem px_d175_24 : decode prog_1_method_29_code 24 = .ok (.getstatic 251, 3) := by decide +kernel
theorem px_d175_27 : decode prog_1_method_29_code 27 = .ok (.if_acmp .ne 16, 3) := by decide +kernel
theorem px_d175_30 : decode prog_1_method_29_code 30 = .ok (.aload_n 1, 1) := by decide +kernel
theorem px_d175_31 : decode prog_1_method_29_code 31 = .ok (.getfield 167, 3) := by decide +kernel
theorem px_d175_34 : decode prog_1_method_29_code 34 = .ok (.aload_n 2, 1) := by decide +kernel
theorem px_d175_35 : decode prog_1_method_29_code 35 = .ok (.getfield 167, 3) := by decide +kernel
theorem px_d175_38 : decode prog_1_method_29_code 38 = .ok (.if_icmp .eq 5, 3) := by decide +kernel
theorem px_d175_41 : decode prog_1_method_29_code 41 = .ok (.iconst 4, 1) := by decide +kernel
theorem px_d175_42 : decode prog_1_method_29_code 42 = .ok (.ireturn, 1) := by decide +kernel
theorem px_d175_43 : decode prog_1_method_29_code 43 = .ok (.aload_n 0, 1) := by decide +kernel
theorem px_d175_44 : decode prog_1_method_29_code 44 = .ok (.getstatic 254, 3) := by decide +kernel
theorem px_d175_47 : decode prog_1_method_29_code 47 = .ok (.if_acmp .ne 19, 3) := by decide +kernel
theorem px_d175_50 : decode prog_1_method_29_code 50 = .ok (.aload_n 1, 1) := by decide +kernel
theorem px_d175_51 : decode prog_1_method_29_code 51 = .ok (.getfield 164, 3) := by decide +kernel
theorem px_d175_54 : decode prog_1_method_29_code 54 = .ok (.aload_n 2, 1) := by decide +kernel
theorem px_d175_55 : decode prog_1_method_29_code 55 = .ok (.getfield 164, 3) := by decide +kernel
theorem px_d175_58 : decode prog_1_method_29_code 58 = .ok (.if_icmp .eq 8, 3) := by decide +kernel
theorem px_d175_61 : decode prog_1_method_29_code 61 = .ok (.bipush 6, 2) := by decide +kernel
theorem px_d175_63 : decode prog_1_method_29_code 63 = .ok (.goto 4, 3) := by decide +kernel
theorem px_d175_66 : decode prog_1_method_29_code 66 = .ok (.iconst 0, 1) := by decide +kernel
theorem px_d175_67 : decode prog_1_method_29_code 67 = .ok (.ireturn, 1) := by decide +kernel
theorem px_d176_0 : decode prog_1_method_30_code 0 = .ok (.aload_n 0, 1) := by decide +kernel
theorem px_d176_1 : decode prog_1_method_30_code 1 = .ok (.getfield 26, 3) := by decide +kernel
theorem px_d176_4 : decode prog_1_method_30_code 4 = .ok (.ifnonnull 17, 3) := by decide +kernel
theorem px_d176_7 : decode prog_1_method_30_code 7 = .ok (.new 30, 3) := by decide +kernel
theorem px_d176_10 : decode prog_1_method_30_code 10 = .ok (.dup, 1) := by decide +kernel
theorem px_d176_11 : decode prog_1_method_30_code 11 = .ok (.aload_n 0, 1) := by decide +kernel
theorem px_d176_12 : decode prog_1_method_30_code 12 = .ok (.getfield 43, 3) := by decide +kernel
theorem px_d176_15 : decode prog_1_method_30_code 15 = .ok (.invokespecial 257, 3) := by decide +kernel
theorem px_d176_18 : decode prog_1_method_30_code 18 = .ok (.goto 7, 3) := by decide +kernel
theorem px_d176_21 : decode prog_1_method_30_code 21 = .ok (.aload_n 0, 1) := by decide +kernel
theorem px_d176_22 : decode prog_1_method_30_code 22 = .ok (.getfield 26, 3) := by decide +kernel
theorem px_d176_25 : decode prog_1_method_30_code 25 = .ok (.astore_n 1, 1) := by decide +kernel
theorem px_d176_26 : decode prog_1_method_30_code 26 = .ok (.aload_n 0, 1) := by decide +kernel
theorem px_d176_27 : decode prog_1_method_30_code 27 = .ok (.aload_n 0, 1) := by decide +kernel
theorem px_d176_28 : decode prog_1_method_30_code 28 = .ok (.getfield 75, 3) := by decide +kernel
theorem px_d176_31 : decode prog_1_method_30_code 31 = .ok (.getfield 149, 3) := by decide +kernel
theorem px_d176_34 : decode prog_1_method_30_code 34 = .ok (.invokevirtual 152, 3) := by decide +kernel
theorem px_d176_37 : decode prog_1_method_30_code 37 = .ok (.astore_n 2, 1) := by decide +kernel
theorem px_d176_38 : decode prog_1_method_30_code 38 = .ok (.aload_n 2, 1) := by decide +kernel
theorem px_d176_39 : decode prog_1_method_30_code 39 = .ok (.ifnonnull 11, 3) := by decide +kernel
theorem px_d176_42 : decode prog_1_method_30_code 42 = .ok (.aload_n 0, 1) := by decide +kernel
theorem px_d176_43 : decode prog_1_method_30_code 43 = .ok (.aload_n 1, 1) := by decide +kernel
theorem px_d176_44 : decode prog_1_method_30_code 44 = .ok (.invokevirtual 258, 3) := by decide +kernel
theorem px_d176_47 : decode prog_1_method_30_code 47 = .ok (.goto 9, 3) := by decide +kernel
theorem px_d176_50 : decode prog_1_method_30_code 50 = .ok (.aload_n 0, 1) := by decide +kernel
theorem px_d176_51 : decode prog_1_method_30_code 51 = .ok (.aload_n 1, 1) := by decide +kernel
theorem px_d176_52 : decode prog_1_method_30_code 52 = .ok (.aload_n 2, 1) := by decide +kernel
theorem px_d176_53 : decode prog_1_method_30_code 53 = .ok (.invokevirtual 261, 3) := by decide +kernel
theorem px_d176_56 : decode prog_1_method_30_code 56 = .ok (.aload_n 0, 1) := by decide +kernel
theorem px_d176_57 : decode prog_1_method_30_code 57 = .ok (.dup, 1) := by decide +kernel
theorem px_d176_58 : decode prog_1_method_30_code 58 = .ok (.getfield 23, 3) := by decide +kernel
theorem px_d176_61 : decode prog_1_method_30_code 61 = .ok (.iconst 1, 1) := by decide +kernel
theorem px_d176_62 : decode prog_1_method_30_code 62 = .ok (.iadd, 1) := by decide +kernel
theorem px_d176_63 : decode prog_1_method_30_code 63 = .ok (.putfield 23, 3) := by decide +kernel
theorem px_d176_66 : decode prog_1_method_30_code 66 = .ok (.aload_n 1, 1) := by decide +kernel
theorem px_d176_67 : decode prog_1_method_30_code 67 = .ok (.aload_n 0, 1) := by decide +kernel
theorem px_d176_68 : decode prog_1_method_30_code 68 = .ok (.getfield 23, 3) := by decide +kernel
theorem px_d176_71 : decode prog_1_method_30_code 71 = .ok (.putfield 265, 3) := by decide +kernel
theorem px_d176_74 : decode prog_1_method_30_code 74 = .ok (.aload_n 0, 1) := by decide +kernel
theorem px_d176_75 : decode prog_1_method_30_code 75 = .ok (.aload_n 0, 1) := by decide +kernel
theorem px_d176_76 : decode prog_1_method_30_code 76 = .ok (.getfield 32, 3) := by decide +kernel
theorem px_d176_79 : decode prog_1_method_30_code 79 = .ok (.aload_n 0, 1) := by decide +kernel
theorem px_d176_80 : decode prog_1_method_30_code 80 = .ok (.getfield 75, 3) := by decide +kernel
theorem px_d176_83 : decode prog_1_method_30_code 83 = .ok (.getfield 268, 3) := by decide +kernel
theorem px_d176_86 : decode prog_1_method_30_code 86 = .ok (.aaload, 1) := by decide +kernel
theorem px_d176_87 : decode prog_1_method_30_code 87 = .ok (.putfield 26, 3) := by decide +kernel
theorem px_d176_90 : decode prog_1_method_30_code 90 = .ok (.aload_n 0, 1) := by decide +kernel
theorem px_d176_91 : decode prog_1_method_30_code 91 = .ok (.getfield 32, 3) := by decide +kernel
theorem px_d176_94 : decode prog_1_method_30_code 94 = .ok (.aload_n 0, 1) := by decide +kernel
theorem px_d176_95 : decode prog_1_method_30_code 95 = .ok (.getfield 75, 3) := by decide +kernel
theorem px_d176_98 : decode prog_1_method_30_code 98 = .ok (.getfield 268, 3) := by decide +kernel
theorem px_d176_101 : decode prog_1_method_30_code 101 = .ok (.aload_n 1, 1) := by decide +kernel
theorem px_d176_102 : decode prog_1_method_30_code 102 = .ok (.aastore, 1) := by decide +kernel
theorem px_d176_103 : decode prog_1_method_30_code 103 = .ok (.return_, 1) := by decide +kernel
theorem px_d177_0 : decode prog_3_method_1_code 0 = .ok (.aload_n 0, 1) := by decide +kernel
theorem px_d177_1 : decode prog_3_method_1_code 1 = .ok (.invokespecial 3, 3) := by decide +kernel
theorem px_d177_4 : decode prog_3_method_1_code 4 = .ok (.aload_n 0, 1) := by decide +kernel
theorem px_d177_5 : decode prog_3_method_1_code 5 = .ok (.aload_n 1, 1) := by decide +kernel
theorem px_d177_6 : decode prog_3_method_1_code 6 = .ok (.putfield 9, 3) := by decide +kernel
theorem px_d177_9 : decode prog_3_method_1_code 9 = .ok (.aload_n 0, 1) := by decide +kernel
theorem px_d177_10 : decode prog_3_method_1_code 10 = .ok (.bipush 12, 2) := by decide +kernel
theorem px_d177_12 : decode prog_3_method_1_code 12 = .ok (.anewarray 15, 3) := by decide +kernel
theorem px_d177_15 : decode prog_3_method_1_code 15 = .ok (.putfield 17, 3) := by decide +kernel
theorem px_d177_18 : decode prog_3_method_1_code 18 = .ok (.aload_n 0, 1) := by decide +kernel
theorem px_d177_19 : decode prog_3_method_1_code 19 = .ok (.bipush 12, 2) := by decide +kernel
theorem px_d177_21 : decode prog_3_method_1_code 21 = .ok (.newarray .int, 2) := by decide +kernel
theorem px_d177_23 : decode prog_3_method_1_code 23 = .ok (.putfield 21, 3) := by decide +kernel
theorem px_d177_26 : decode prog_3_method_1_code 26 = .ok (.aload_n 0, 1) := by decide +kernel
theorem px_d177_27 : decode prog_3_method_1_code 27 = .ok (.bipush 12, 2) := by decide +kernel
theorem px_d177_29 : decode prog_3_method_1_code 29 = .ok (.newarray .int, 2) := by decide +kernel
theorem px_d177_31 : decode prog_3_method_1_code 31 = .ok (.putfield 25, 3) := by decide +kernel
theorem px_d177_34 : decode prog_3_method_1_code 34 = .ok (.aload_n 0, 1) := by decide +kernel
theorem px_d177_35 : decode prog_3_method_1_code 35 = .ok (.iconst 4, 1) := by decide +kernel
theorem px_d177_36 : decode prog_3_method_1_code 36 = .ok (.bipush 16, 2) := by decide +kernel
theorem px_d177_38 : decode prog_3_method_1_code 38 = .ok (.multianewarray 28 2, 4) := by decide +kernel
theorem px_d177_42 : decode prog_3_method_1_code 42 = .ok (.putfield 30, 3) := by decide +kernel
theorem px_d177_45 : decode prog_3_method_1_code 45 = .ok (.aload_n 0, 1) := by decide +kernel
theorem px_d177_46 : decode prog_3_method_1_code 46 = .ok (.iconst 4, 1) := by decide +kernel
theorem px_d177_47 : decode prog_3_method_1_code 47 = .ok (.newarray .int, 2) := by decide +kernel
theorem px_d177_49 : decode prog_3_method_1_code 49 = .ok (.putfield 33, 3) := by decide +kernel
theorem px_d177_52 : decode prog_3_method_1_code 52 = .ok (.aload_n 0, 1) := by decide +kernel
theorem px_d177_53 : decode prog_3_method_1_code 53 = .ok (.bipush 16, 2) := by decide +kernel
theorem px_d177_55 : decode prog_3_method_1_code 55 = .ok (.newarray .byte, 2) := by decide +kernel
theorem px_d177_57 : decode prog_3_method_1_code 57 = .ok (.putfield 36, 3) := by decide +kernel
theorem px_d177_60 : decode prog_3_method_1_code 60 = .ok (.aload_n 0, 1) := by decide +kernel
theorem px_d177_61 : decode prog_3_method_1_code 61 = .ok (.bipush 16, 2) := by decide +kernel
theorem px_d177_63 : decode prog_3_method_1_code 63 = .ok (.newarray .byte, 2) := by decide +kernel
theorem px_d177_65 : decode prog_3_method_1_code 65 = .ok (.putfield 40, 3) := by decide +kernel
theorem px_d177_68 : decode prog_3_method_1_code 68 = .ok (.aload_n 0, 1) := by decide +kernel
theorem px_d177_69 : decode prog_3_method_1_code 69 = .ok (.iconst 0, 1) := by decide +kernel
theorem px_d177_70 : decode prog_3_method_1_code 70 = .ok (.newarray .long, 2) := by decide +kernel
theorem px_d177_72 : decode prog_3_method_1_code 72 = .ok (.putfield 43, 3) := by decide +kernel
theorem px_d177_75 : decode prog_3_method_1_code 75 = .ok (.return_, 1) := by decide +kernel
theorem px_d178_0 : decode prog_1_method_31_code 0 = .ok (.aload_n 0, 1) := by decide +kernel
theorem px_d178_1 : decode prog_1_method_31_code 1 = .ok (.getfield 75, 3) := by decide +kernel
theorem px_d178_4 : decode prog_1_method_31_code 4 = .ok (.getfield 271, 3) := by decide +kernel
theorem px_d178_7 : decode prog_1_method_31_code 7 = .ok (.istore_n 2, 1) := by decide +kernel
theorem px_d178_8 : decode prog_1_method_31_code 8 = .ok (.getstatic 274, 3) := by decide +kernel
theorem px_d178_11 : decode prog_1_method_31_code 11 = .ok (.aload_n 0, 1) := by decide +kernel
theorem px_d178_12 : decode prog_1_method_31_code 12 = .ok (.getfield 75, 3) := by decide +kernel
theorem px_d178_15 : decode prog_1_method_31_code 15 = .ok (.getfield 136, 3) := by decide +kernel
theorem px_d178_18 : decode prog_1_method_31_code 18 = .ok (.invokevirtual 279, 3) := by decide +kernel
theorem px_d178_21 : decode prog_1_method_31_code 21 = .ok (.iaload, 1) := by decide +kernel
theorem px_d178_22 : decode prog_1_method_31_code 22 = .ok (.lookupswitch 107 #[(1, 26), (2, 66)], 26) := by decide +kernel
theorem px_d178_48 : decode prog_1_method_31_code 48 = .ok (.aload_n 1, 1) := by decide +kernel
theorem px_d178_49 : decode prog_1_method_31_code 49 = .ok (.aload_n 0, 1) := by decide +kernel
theorem px_d178_50 : decode prog_1_method_31_code 50 = .ok (.getfield 52, 3) := by decide +kernel
theorem px_d178_53 : decode prog_1_method_31_code 53 = .ok (.aload_n 0, 1) := by decide +kernel
theorem px_d178_54 : decode prog_1_method_31_code 54 = .ok (.getfield 52, 3) := by decide +kernel
theorem px_d178_57 : decode prog_1_method_31_code 57 = .ok (.aload_n 0, 1) := by decide +kernel
theorem px_d178_58 : decode prog_1_method_31_code 58 = .ok (.getfield 75, 3) := by decide +kernel
theorem px_d178_61 : decode prog_1_method_31_code 61 = .ok (.getfield 282, 3) := by decide +kernel
theorem px_d178_64 : decode prog_1_method_31_code 64 = .ok (.iload_n 2, 1) := by decide +kernel
theorem px_d178_65 : decode prog_1_method_31_code 65 = .ok (.aload_n 0, 1) := by decide +kernel
theorem px_d178_66 : decode prog_1_method_31_code 66 = .ok (.getfield 75, 3) := by decide +kernel
theorem px_d178_69 : decode prog_1_method_31_code 69 = .ok (.getfield 283, 3) := by decide +kernel
theorem px_d178_72 : decode prog_1_method_31_code 72 = .ok (.aload_n 0, 1) := by decide +kernel
theorem px_d178_73 : decode prog_1_method_31_code 73 = .ok (.getfield 75, 3) := by decide +kernel
theorem px_d178_76 : decode prog_1_method_31_code 76 = .ok (.getfield 286, 3) := by decide +kernel
theorem px_d178_79 : decode prog_1_method_31_code 79 = .ok (.invokevirtual 289, 3) := by decide +kernel
theorem px_d178_82 : decode prog_1_method_31_code 82 = .ok (.invokevirtual 293, 3) := by decide +kernel
theorem px_d178_85 : decode prog_1_method_31_code 85 = .ok (.goto 84, 3) := by decide +kernel
theorem px_d178_88 : decode prog_1_method_31_code 88 = .ok (.aload_n 0, 1) := by decide +kernel
theorem px_d178_89 : decode prog_1_method_31_code 89 = .ok (.getfield 75, 3) := by decide +kernel
theorem px_d178_92 : decode prog_1_method_31_code 92 = .ok (.getfield 297, 3) := by decide +kernel
theorem px_d178_95 : decode prog_1_method_31_code 95 = .ok (.iconst 2, 1) := by decide +kernel
theorem px_d178_96 : decode prog_1_method_31_code 96 = .ok (.idiv, 1) := by decide +kernel
theorem px_d178_97 : decode prog_1_method_31_code 97 = .ok (.istore_n 3, 1) := by decide +kernel
theorem px_d178_98 : decode prog_1_method_31_code 98 = .ok (.aload_n 0, 1) := by decide +kernel
theorem px_d178_99 : decode prog_1_method_31_code 99 = .ok (.iload_n 3, 1) := by decide +kernel
theorem px_d178_100 : decode prog_1_method_31_code 100 = .ok (.iload_n 2, 1) := by decide +kernel
theorem px_d178_101 : decode prog_1_method_31_code 101 = .ok (.invokevirtual 300, 3) := by decide +kernel
theorem px_d178_104 : decode prog_1_method_31_code 104 = .ok (.aload_n 1, 1) := by decide +kernel
theorem px_d178_105 : decode prog_1_method_31_code 105 = .ok (.aload_n 0, 1) := by decide +kernel
theorem px_d178_106 : decode prog_1_method_31_code 106 = .ok (.getfield 52, 3) := by decide +kernel
theorem px_d178_109 : decode prog_1_method_31_code 109 = .ok (.aload_n 0, 1) := by decide +kernel
theorem px_d178_110 : decode prog_1_method_31_code 110 = .ok (.getfield 52, 3) := by decide +kernel
theorem px_d178_113 : decode prog_1_method_31_code 113 = .ok (.iconst 0, 1) := by decide +kernel
theorem px_d178_114 : decode prog_1_method_31_code 114 = .ok (.iload_n 3, 1) := by decide +kernel
theorem px_d178_115 : decode prog_1_method_31_code 115 = .ok (.aload_n 0, 1) := by decide +kernel
theorem px_d178_116 : decode prog_1_method_31_code 116 = .ok (.getfield 36, 3) := by decide +kernel
theorem px_d178_119 : decode prog_1_method_31_code 119 = .ok (.iload_n 2, 1) := by decide +kernel
theorem px_d178_120 : decode prog_1_method_31_code 120 = .ok (.invokevirtual 289, 3) := by decide +kernel
theorem px_d178_123 : decode prog_1_method_31_code 123 = .ok (.invokevirtual 293, 3) := by decide +kernel
theorem px_d178_126 : decode prog_1_method_31_code 126 = .ok (.goto 43, 3) := by decide +kernel
theorem px_d178_129 : decode prog_1_method_31_code 129 = .ok (.aload_n 0, 1) := by decide +kernel
theorem px_d178_130 : decode prog_1_method_31_code 130 = .ok (.iload_n 2, 1) := by decide +kernel
theorem px_d178_131 : decode prog_1_method_31_code 131 = .ok (.aload_n 0, 1) := by decide +kernel
theorem px_d178_132 : decode prog_1_method_31_code 132 = .ok (.getfield 75, 3) := by decide +kernel
theorem px_d178_135 : decode prog_1_method_31_code 135 = .ok (.getfield 304, 3) := by decide +kernel
theorem px_d178_138 : decode prog_1_method_31_code 138 = .ok (.invokevirtual 307, 3) := by decide +kernel
theorem px_d178_141 : decode prog_1_method_31_code 141 = .ok (.aload_n 1, 1) := by decide +kernel
theorem px_d178_142 : decode prog_1_method_31_code 142 = .ok (.aload_n 0, 1) := by decide +kernel
theorem px_d178_143 : decode prog_1_method_31_code 143 = .ok (.getfield 52, 3) := by decide +kernel
theorem px_d178_146 : decode prog_1_method_31_code 146 = .ok (.aload_n 0, 1) := by decide +kernel
theorem px_d178_147 : decode prog_1_method_31_code 147 = .ok (.getfield 52, 3) := by decide +kernel
theorem px_d178_150 : decode prog_1_method_31_code 150 = .ok (.iconst 0, 1) := by decide +kernel
theorem px_d178_151 : decode prog_1_method_31_code 151 = .ok (.aload_n 0, 1) := by decide +kernel
theorem px_d178_152 : decode prog_1_method_31_code 152 = .ok (.getfield 75, 3) := by decide +kernel
theorem px_d178_155 : decode prog_1_method_31_code 155 = .ok (.getfield 304, 3) := by decide +kernel
theorem px_d178_158 : decode prog_1_method_31_code 158 = .ok (.aload_n 0, 1) := by decide +kernel
theorem px_d178_159 : decode prog_1_method_31_code 159 = .ok (.getfield 36, 3) := by decide +kernel
theorem px_d178_162 : decode prog_1_method_31_code 162 = .ok (.iload_n 2, 1) := by decide +kernel
theorem px_d178_163 : decode prog_1_method_31_code 163 = .ok (.invokevirtual 289, 3) := by decide +kernel
theorem px_d178_166 : decode prog_1_method_31_code 166 = .ok (.invokevirtual 293, 3) := by decide +kernel
theorem px_d178_169 : decode prog_1_method_31_code 169 = .ok (.return_, 1) := by decide +kernel
theorem px_d253_0 : decode prog_1_method_33_code 0 = .ok (.aload_n 0, 1) := by decide +kernel
theorem px_d253_1 : decode prog_1_method_33_code 1 = .ok (.getfield 36, 3) := by decide +kernel
theorem px_d253_4 : decode prog_1_method_33_code 4 = .ok (.iconst 0, 1) := by decide +kernel
theorem px_d253_5 : decode prog_1_method_33_code 5 = .ok (.iload_n 1, 1) := by decide +kernel
theorem px_d253_6 : decode prog_1_method_33_code 6 = .ok (.iload_n 2, 1) := by decide +kernel
theorem px_d253_7 : decode prog_1_method_33_code 7 = .ok (.imul, 1) := by decide +kernel
theorem px_d253_8 : decode prog_1_method_33_code 8 = .ok (.iconst 0, 1) := by decide +kernel
theorem px_d253_9 : decode prog_1_method_33_code 9 = .ok (.invokestatic 333, 3) := by decide +kernel
theorem px_d253_12 : decode prog_1_method_33_code 12 = .ok (.iconst 0, 1) := by decide +kernel
theorem px_d253_13 : decode prog_1_method_33_code 13 = .ok (.istore_n 3, 1) := by decide +kernel
theorem px_d253_14 : decode prog_1_method_33_code 14 = .ok (.iload_n 3, 1) := by decide +kernel
theorem px_d253_15 : decode prog_1_method_33_code 15 = .ok (.iload_n 1, 1) := by decide +kernel
theorem px_d253_16 : decode prog_1_method_33_code 16 = .ok (.if_icmp .ge 68, 3) := by decide +kernel
theorem px_d253_19 : decode prog_1_method_33_code 19 = .ok (.aload_n 0, 1) := by decide +kernel
theorem px_d253_20 : decode prog_1_method_33_code 20 = .ok (.getfield 75, 3) := by decide +kernel
theorem px_d253_23 : decode prog_1_method_33_code 23 = .ok (.getfield 283, 3) := by decide +kernel
theorem px_d253_26 : decode prog_1_method_33_code 26 = .ok (.iconst 2, 1) := by decide +kernel
theorem px_d253_27 : decode prog_1_method_33_code 27 = .ok (.iload_n 3, 1) := by decide +kernel
theorem px_d253_28 : decode prog_1_method_33_code 28 = .ok (.imul, 1) := by decide +kernel
theorem px_d253_29 : decode prog_1_method_33_code 29 = .ok (.iaload, 1) := by decide +kernel
theorem px_d253_30 : decode prog_1_method_33_code 30 = .ok (.istore 4, 2) := by decide +kernel
theorem px_d253_32 : decode prog_1_method_33_code 32 = .ok (.aload_n 0, 1) := by decide +kernel
theorem px_d253_33 : decode prog_1_method_33_code 33 = .ok (.getfield 75, 3) := by decide +kernel
theorem px_d253_36 : decode prog_1_method_33_code 36 = .ok (.getfield 283, 3) := by decide +kernel
theorem px_d253_39 : decode prog_1_method_33_code 39 = .ok (.iconst 2, 1) := by decide +kernel
theorem px_d253_40 : decode prog_1_method_33_code 40 = .ok (.iload_n 3, 1) := by decide +kernel
theorem px_d253_41 : decode prog_1_method_33_code 41 = .ok (.imul, 1) := by decide +kernel
theorem px_d253_42 : decode prog_1_method_33_code 42 = .ok (.iconst 1, 1) := by decide +kernel
theorem px_d253_43 : decode prog_1_method_33_code 43 = .ok (.iadd, 1) := by decide +kernel
theorem px_d253_44 : decode prog_1_method_33_code 44 = .ok (.iaload, 1) := by decide +kernel
theorem px_d253_45 : decode prog_1_method_33_code 45 = .ok (.istore 5, 2) := by decide +kernel
theorem px_d253_47 : decode prog_1_method_33_code 47 = .ok (.iload 4, 2) := by decide +kernel
theorem px_d253_49 : decode prog_1_method_33_code 49 = .ok (.iload 5, 2) := by decide +kernel
theorem px_d253_51 : decode prog_1_method_33_code 51 = .ok (.if_icmp .eq 27, 3) := by decide +kernel
theorem px_d253_54 : decode prog_1_method_33_code 54 = .ok (.aload_n 0, 1) := by decide +kernel
theorem px_d253_55 : decode prog_1_method_33_code 55 = .ok (.getfield 36, 3) := by decide +kernel
theorem px_d253_58 : decode prog_1_method_33_code 58 = .ok (.iload 4, 2) := by decide +kernel
theorem px_d253_60 : decode prog_1_method_33_code 60 = .ok (.iload_n 1, 1) := by decide +kernel
theorem px_d253_61 : decode prog_1_method_33_code 61 = .ok (.imul, 1) := by decide +kernel
theorem px_d253_62 : decode prog_1_method_33_code 62 = .ok (.iload_n 3, 1) := by decide +kernel
theorem px_d253_63 : decode prog_1_method_33_code 63 = .ok (.iadd, 1) := by decide +kernel
theorem px_d253_64 : decode prog_1_method_33_code 64 = .ok (.iconst (-1), 1) := by decide +kernel
theorem px_d253_65 : decode prog_1_method_33_code 65 = .ok (.iastore, 1) := by decide +kernel
theorem px_d253_66 : decode prog_1_method_33_code 66 = .ok (.aload_n 0, 1) := by decide +kernel
theorem px_d253_67 : decode prog_1_method_33_code 67 = .ok (.getfield 36, 3) := by decide +kernel
theorem px_d253_70 : decode prog_1_method_33_code 70 = .ok (.iload 5, 2) := by decide +kernel
theorem px_d253_72 : decode prog_1_method_33_code 72 = .ok (.iload_n 1, 1) := by decide +kernel
theorem px_d253_73 : decode prog_1_method_33_code 73 = .ok (.imul, 1) := by decide +kernel
theorem px_d253_74 : decode prog_1_method_33_code 74 = .ok (.iload_n 3, 1) := by decide +kernel
theorem px_d253_75 : decode prog_1_method_33_code 75 = .ok (.iadd, 1) := by decide +kernel
theorem px_d253_76 : decode prog_1_method_33_code 76 = .ok (.iconst 1, 1) := by decide +kernel
theorem px_d253_77 : decode prog_1_method_33_code 77 = .ok (.iastore, 1) := by decide +kernel
theorem px_d253_78 : decode prog_1_method_33_code 78 = .ok (.iinc 3 1, 3) := by decide +kernel
theorem px_d253_81 : decode prog_1_method_33_code 81 = .ok (.goto (-67), 3) := by decide +kernel
theorem px_d253_84 : decode prog_1_method_33_code 84 = .ok (.return_, 1) := by decide +kernel
theorem px_d255_0 : decode prog_1_method_34_code 0 = .ok (.iconst 0, 1) := by decide +kernel
theorem px_d255_1 : decode prog_1_method_34_code 1 = .ok (.istore_n 3, 1) := by decide +kernel
theorem px_d255_2 : decode prog_1_method_34_code 2 = .ok (.iload_n 3, 1) := by decide +kernel
theorem px_d255_3 : decode prog_1_method_34_code 3 = .ok (.iload_n 1, 1) := by decide +kernel
theorem px_d255_4 : decode prog_1_method_34_code 4 = .ok (.if_icmp .ge 84, 3) := by decide +kernel
theorem px_d255_7 : decode prog_1_method_34_code 7 = .ok (.iconst 0, 1) := by decide +kernel
theorem px_d255_8 : decode prog_1_method_34_code 8 = .ok (.istore 4, 2) := by decide +kernel
theorem px_d255_10 : decode prog_1_method_34_code 10 = .ok (.iload 4, 2) := by decide +kernel
theorem px_d255_12 : decode prog_1_method_34_code 12 = .ok (.iload_n 2, 1) := by decide +kernel
theorem px_d255_13 : decode prog_1_method_34_code 13 = .ok (.if_icmp .ge 69, 3) := by decide +kernel
theorem px_d255_16 : decode prog_1_method_34_code 16 = .ok (.iload_n 3, 1) := by decide +kernel
theorem px_d255_17 : decode prog_1_method_34_code 17 = .ok (.iload_n 2, 1) := by decide +kernel
theorem px_d255_18 : decode prog_1_method_34_code 18 = .ok (.imul, 1) := by decide +kernel
theorem px_d255_19 : decode prog_1_method_34_code 19 = .ok (.iload 4, 2) := by decide +kernel
theorem px_d255_21 : decode prog_1_method_34_code 21 = .ok (.iadd, 1) := by decide +kernel
theorem px_d255_22 : decode prog_1_method_34_code 22 = .ok (.istore 5, 2) := by decide +kernel
theorem px_d255_24 : decode prog_1_method_34_code 24 = .ok (.iload_n 3, 1) := by decide +kernel
theorem px_d255_25 : decode prog_1_method_34_code 25 = .ok (.ifCond .ne 14, 3) := by decide +kernel
theorem px_d255_28 : decode prog_1_method_34_code 28 = .ok (.aload_n 0, 1) := by decide +kernel
theorem px_d255_29 : decode prog_1_method_34_code 29 = .ok (.getfield 36, 3) := by decide +kernel
theorem px_d255_32 : decode prog_1_method_34_code 32 = .ok (.iload 5, 2) := by decide +kernel
theorem px_d255_34 : decode prog_1_method_34_code 34 = .ok (.iconst 1, 1) := by decide +kernel
theorem px_d255_35 : decode prog_1_method_34_code 35 = .ok (.iastore, 1) := by decide +kernel
theorem px_d255_36 : decode prog_1_method_34_code 36 = .ok (.goto 40, 3) := by decide +kernel
theorem px_d255_39 : decode prog_1_method_34_code 39 = .ok (.aload_n 0, 1) := by decide +kernel
theorem px_d255_40 : decode prog_1_method_34_code 40 = .ok (.getfield 36, 3) := by decide +kernel
theorem px_d255_43 : decode prog_1_method_34_code 43 = .ok (.iload 5, 2) := by decide +kernel
theorem px_d255_45 : decode prog_1_method_34_code 45 = .ok (.iload 4, 2) := by decide +kernel
theorem px_d255_47 : decode prog_1_method_34_code 47 = .ok (.ifCond .ne 7, 3) := by decide +kernel
theorem px_d255_50 : decode prog_1_method_34_code 50 = .ok (.iconst 0, 1) := by decide +kernel
theorem px_d255_51 : decode prog_1_method_34_code 51 = .ok (.goto 24, 3) := by decide +kernel
theorem px_d255_54 : decode prog_1_method_34_code 54 = .ok (.aload_n 0, 1) := by decide +kernel
theorem px_d255_55 : decode prog_1_method_34_code 55 = .ok (.getfield 36, 3) := by decide +kernel
theorem px_d255_58 : decode prog_1_method_34_code 58 = .ok (.iload 5, 2) := by decide +kernel
theorem px_d255_60 : decode prog_1_method_34_code 60 = .ok (.iconst 1, 1) := by decide +kernel
theorem px_d255_61 : decode prog_1_method_34_code 61 = .ok (.isub, 1) := by decide +kernel
theorem px_d255_62 : decode prog_1_method_34_code 62 = .ok (.iaload, 1) := by decide +kernel
theorem px_d255_63 : decode prog_1_method_34_code 63 = .ok (.aload_n 0, 1) := by decide +kernel
theorem px_d255_64 : decode prog_1_method_34_code 64 = .ok (.getfield 36, 3) := by decide +kernel
theorem px_d255_67 : decode prog_1_method_34_code 67 = .ok (.iload 5, 2) := by decide +kernel
