theorem px_d286_102 : decode prog_3_method_14_code 102 = .ok (.ior, 1) := by decide +kernel
theorem px_d286_103 : decode prog_3_method_14_code 103 = .ok (.istore_n 2, 1) := by decide +kernel
theorem px_d286_104 : decode prog_3_method_14_code 104 = .ok (.iload_n 1, 1) := by decide +kernel
theorem px_d286_105 : decode prog_3_method_14_code 105 = .ok (.aload_n 0, 1) := by decide +kernel
theorem px_d286_106 : decode prog_3_method_14_code 106 = .ok (.iload_n 1, 1) := by decide +kernel
theorem px_d286_107 : decode prog_3_method_14_code 107 = .ok (.iload 5, 2) := by decide +kernel
theorem px_d286_109 : decode prog_3_method_14_code 109 = .ok (.invokevirtual 123, 3) := by decide +kernel
theorem px_d286_112 : decode prog_3_method_14_code 112 = .ok (.ior, 1) := by decide +kernel
theorem px_d286_113 : decode prog_3_method_14_code 113 = .ok (.istore_n 1, 1) := by decide +kernel
theorem px_d286_114 : decode prog_3_method_14_code 114 = .ok (.iinc 3 1, 3) := by decide +kernel
theorem px_d286_117 : decode prog_3_method_14_code 117 = .ok (.goto (-111), 3) := by decide +kernel
theorem px_d286_120 : decode prog_3_method_14_code 120 = .ok (.iload_n 1, 1) := by decide +kernel
theorem px_d286_121 : decode prog_3_method_14_code 121 = .ok (.ireturn, 1) := by decide +kernel
theorem px_d288_0 : decode prog_3_method_15_code 0 = .ok (.aload_n 0, 1) := by decide +kernel
theorem px_d288_1 : decode prog_3_method_15_code 1 = .ok (.getfield 77, 3) := by decide +kernel
theorem px_d288_4 : decode prog_3_method_15_code 4 = .ok (.aload_n 1, 1) := by decide +kernel
theorem px_d288_5 : decode prog_3_method_15_code 5 = .ok (.getfield 77, 3) := by decide +kernel
theorem px_d288_8 : decode prog_3_method_15_code 8 = .ok (.invokestatic 127, 3) := by decide +kernel
theorem px_d288_11 : decode prog_3_method_15_code 11 = .ok (.istore_n 2, 1) := by decide +kernel
theorem px_d288_12 : decode prog_3_method_15_code 12 = .ok (.iload_n 2, 1) := by decide +kernel
theorem px_d288_13 : decode prog_3_method_15_code 13 = .ok (.ifCond .le 88, 3) := by decide +kernel
theorem px_d288_16 : decode prog_3_method_15_code 16 = .ok (.aload_n 0, 1) := by decide +kernel
theorem px_d288_17 : decode prog_3_method_15_code 17 = .ok (.getfield 9, 3) := by decide +kernel
theorem px_d288_20 : decode prog_3_method_15_code 20 = .ok (.aload_n 0, 1) := by decide +kernel
theorem px_d288_21 : decode prog_3_method_15_code 21 = .ok (.getfield 66, 3) := by decide +kernel
theorem px_d288_24 : decode prog_3_method_15_code 24 = .ok (.iload_n 2, 1) := by decide +kernel
theorem px_d288_25 : decode prog_3_method_15_code 25 = .ok (.iconst 1, 1) := by decide +kernel
theorem px_d288_26 : decode prog_3_method_15_code 26 = .ok (.iadd, 1) := by decide +kernel
theorem px_d288_27 : decode prog_3_method_15_code 27 = .ok (.invokevirtual 132, 3) := by decide +kernel
theorem px_d288_30 : decode prog_3_method_15_code 30 = .ok (.istore_n 3, 1) := by decide +kernel
theorem px_d288_31 : decode prog_3_method_15_code 31 = .ok (.aload_n 0, 1) := by decide +kernel
theorem px_d288_32 : decode prog_3_method_15_code 32 = .ok (.getfield 9, 3) := by decide +kernel
theorem px_d288_35 : decode prog_3_method_15_code 35 = .ok (.aload_n 0, 1) := by decide +kernel
theorem px_d288_36 : decode prog_3_method_15_code 36 = .ok (.getfield 66, 3) := by decide +kernel
theorem px_d288_39 : decode prog_3_method_15_code 39 = .ok (.iload_n 2, 1) := by decide +kernel
theorem px_d288_40 : decode prog_3_method_15_code 40 = .ok (.invokevirtual 132, 3) := by decide +kernel
theorem px_d288_43 : decode prog_3_method_15_code 43 = .ok (.istore 4, 2) := by decide +kernel
theorem px_d288_45 : decode prog_3_method_15_code 45 = .ok (.iload 4, 2) := by decide +kernel
theorem px_d288_47 : decode prog_3_method_15_code 47 = .ok (.iload_n 3, 1) := by decide +kernel
theorem px_d288_48 : decode prog_3_method_15_code 48 = .ok (.if_icmp .ge 47, 3) := by decide +kernel
theorem px_d288_51 : decode prog_3_method_15_code 51 = .ok (.aload_n 0, 1) := by decide +kernel
theorem px_d288_52 : decode prog_3_method_15_code 52 = .ok (.getfield 9, 3) := by decide +kernel
theorem px_d288_55 : decode prog_3_method_15_code 55 = .ok (.aload_n 0, 1) := by decide +kernel
theorem px_d288_56 : decode prog_3_method_15_code 56 = .ok (.getfield 66, 3) := by decide +kernel
theorem px_d288_59 : decode prog_3_method_15_code 59 = .ok (.iload 4, 2) := by decide +kernel
theorem px_d288_61 : decode prog_3_method_15_code 61 = .ok (.invokevirtual 137, 3) := by decide +kernel
theorem px_d288_64 : decode prog_3_method_15_code 64 = .ok (.istore 5, 2) := by decide +kernel
theorem px_d288_66 : decode prog_3_method_15_code 66 = .ok (.aload_n 0, 1) := by decide +kernel
theorem px_d288_67 : decode prog_3_method_15_code 67 = .ok (.iload 5, 2) := by decide +kernel
theorem px_d288_69 : decode prog_3_method_15_code 69 = .ok (.invokevirtual 110, 3) := by decide +kernel
theorem px_d288_72 : decode prog_3_method_15_code 72 = .ok (.iload_n 2, 1) := by decide +kernel
theorem px_d288_73 : decode prog_3_method_15_code 73 = .ok (.if_icmp .ne 16, 3) := by decide +kernel
theorem px_d288_76 : decode prog_3_method_15_code 76 = .ok (.aload_n 1, 1) := by decide +kernel
theorem px_d288_77 : decode prog_3_method_15_code 77 = .ok (.iload 5, 2) := by decide +kernel
theorem px_d288_79 : decode prog_3_method_15_code 79 = .ok (.invokevirtual 110, 3) := by decide +kernel
theorem px_d288_82 : decode prog_3_method_15_code 82 = .ok (.iload_n 2, 1) := by decide +kernel
theorem px_d288_83 : decode prog_3_method_15_code 83 = .ok (.if_icmp .ne 6, 3) := by decide +kernel
theorem px_d288_86 : decode prog_3_method_15_code 86 = .ok (.iload 5, 2) := by decide +kernel
theorem px_d288_88 : decode prog_3_method_15_code 88 = .ok (.ireturn, 1) := by decide +kernel
theorem px_d288_89 : decode prog_3_method_15_code 89 = .ok (.iinc 4 1, 3) := by decide +kernel
theorem px_d288_92 : decode prog_3_method_15_code 92 = .ok (.goto (-47), 3) := by decide +kernel
theorem px_d288_95 : decode prog_3_method_15_code 95 = .ok (.iinc 2 (-1), 3) := by decide +kernel
theorem px_d288_98 : decode prog_3_method_15_code 98 = .ok (.goto (-86), 3) := by decide +kernel
theorem px_d288_101 : decode prog_3_method_15_code 101 = .ok (.iconst 0, 1) := by decide +kernel
theorem px_d288_102 : decode prog_3_method_15_code 102 = .ok (.ireturn, 1) := by decide +kernel
theorem px_d289_0 : decode prog_3_method_16_code 0 = .ok (.aload_n 0, 1) := by decide +kernel
theorem px_d289_1 : decode prog_3_method_16_code 1 = .ok (.aload_n 1, 1) := by decide +kernel
theorem px_d289_2 : decode prog_3_method_16_code 2 = .ok (.invokevirtual 140, 3) := by decide +kernel
theorem px_d289_5 : decode prog_3_method_16_code 5 = .ok (.invokestatic 71, 3) := by decide +kernel
theorem px_d289_8 : decode prog_3_method_16_code 8 = .ok (.istore_n 2, 1) := by decide +kernel
theorem px_d289_9 : decode prog_3_method_16_code 9 = .ok (.aload_n 0, 1) := by decide +kernel
theorem px_d289_10 : decode prog_3_method_16_code 10 = .ok (.invokevirtual 67, 3) := by decide +kernel
theorem px_d289_13 : decode prog_3_method_16_code 13 = .ok (.istore_n 3, 1) := by decide +kernel
theorem px_d289_14 : decode prog_3_method_16_code 14 = .ok (.iconst 0, 1) := by decide +kernel
theorem px_d289_15 : decode prog_3_method_16_code 15 = .ok (.istore 4, 2) := by decide +kernel
theorem px_d289_17 : decode prog_3_method_16_code 17 = .ok (.iload 4, 2) := by decide +kernel
theorem px_d289_19 : decode prog_3_method_16_code 19 = .ok (.aload_n 0, 1) := by decide +kernel
theorem px_d289_20 : decode prog_3_method_16_code 20 = .ok (.invokevirtual 67, 3) := by decide +kernel
theorem px_d289_23 : decode prog_3_method_16_code 23 = .ok (.if_icmp .gt 36, 3) := by decide +kernel
theorem px_d289_26 : decode prog_3_method_16_code 26 = .ok (.aload_n 0, 1) := by decide +kernel
theorem px_d289_27 : decode prog_3_method_16_code 27 = .ok (.iload 4, 2) := by decide +kernel
theorem px_d289_29 : decode prog_3_method_16_code 29 = .ok (.invokevirtual 110, 3) := by decide +kernel
theorem px_d289_32 : decode prog_3_method_16_code 32 = .ok (.aload_n 1, 1) := by decide +kernel
theorem px_d289_33 : decode prog_3_method_16_code 33 = .ok (.aload_n 0, 1) := by decide +kernel
theorem px_d289_34 : decode prog_3_method_16_code 34 = .ok (.invokevirtual 67, 3) := by decide +kernel
theorem px_d289_37 : decode prog_3_method_16_code 37 = .ok (.iload 4, 2) := by decide +kernel
theorem px_d289_39 : decode prog_3_method_16_code 39 = .ok (.ixor, 1) := by decide +kernel
theorem px_d289_40 : decode prog_3_method_16_code 40 = .ok (.invokevirtual 110, 3) := by decide +kernel
theorem px_d289_43 : decode prog_3_method_16_code 43 = .ok (.iadd, 1) := by decide +kernel
theorem px_d289_44 : decode prog_3_method_16_code 44 = .ok (.iload_n 2, 1) := by decide +kernel
theorem px_d289_45 : decode prog_3_method_16_code 45 = .ok (.if_icmp .ne 8, 3) := by decide +kernel
theorem px_d289_48 : decode prog_3_method_16_code 48 = .ok (.iload_n 3, 1) := by decide +kernel
theorem px_d289_49 : decode prog_3_method_16_code 49 = .ok (.iload 4, 2) := by decide +kernel
theorem px_d289_51 : decode prog_3_method_16_code 51 = .ok (.iand, 1) := by decide +kernel
theorem px_d289_52 : decode prog_3_method_16_code 52 = .ok (.istore_n 3, 1) := by decide +kernel
theorem px_d289_53 : decode prog_3_method_16_code 53 = .ok (.iinc 4 1, 3) := by decide +kernel
theorem px_d289_56 : decode prog_3_method_16_code 56 = .ok (.goto (-39), 3) := by decide +kernel
theorem px_d289_59 : decode prog_3_method_16_code 59 = .ok (.iload_n 3, 1) := by decide +kernel
theorem px_d289_60 : decode prog_3_method_16_code 60 = .ok (.ireturn, 1) := by decide +kernel
theorem px_d291_0 : decode prog_7_method_7_code 0 = .ok (.aload_n 0, 1) := by decide +kernel
theorem px_d291_1 : decode prog_7_method_7_code 1 = .ok (.iload_n 1, 1) := by decide +kernel
theorem px_d291_2 : decode prog_7_method_7_code 2 = .ok (.ifCond .ne 8, 3) := by decide +kernel
theorem px_d291_5 : decode prog_7_method_7_code 5 = .ok (.bipush 48, 2) := by decide +kernel
theorem px_d291_7 : decode prog_7_method_7_code 7 = .ok (.goto 14, 3) := by decide +kernel
theorem px_d291_10 : decode prog_7_method_7_code 10 = .ok (.iload_n 1, 1) := by decide +kernel
theorem px_d291_11 : decode prog_7_method_7_code 11 = .ok (.ifCond .ge 8, 3) := by decide +kernel
theorem px_d291_14 : decode prog_7_method_7_code 14 = .ok (.bipush 45, 2) := by decide +kernel
theorem px_d291_16 : decode prog_7_method_7_code 16 = .ok (.goto 5, 3) := by decide +kernel
theorem px_d291_19 : decode prog_7_method_7_code 19 = .ok (.bipush 43, 2) := by decide +kernel
theorem px_d291_21 : decode prog_7_method_7_code 21 = .ok (.invokevirtual 42, 3) := by decide +kernel
theorem px_d291_24 : decode prog_7_method_7_code 24 = .ok (.return_, 1) := by decide +kernel
theorem px_d293_0 : decode prog_3_method_17_code 0 = .ok (.iload_n 1, 1) := by decide +kernel
theorem px_d293_1 : decode prog_3_method_17_code 1 = .ok (.iload_n 1, 1) := by decide +kernel
theorem px_d293_2 : decode prog_3_method_17_code 2 = .ok (.ineg, 1) := by decide +kernel
theorem px_d293_3 : decode prog_3_method_17_code 3 = .ok (.iand, 1) := by decide +kernel
theorem px_d293_4 : decode prog_3_method_17_code 4 = .ok (.istore_n 2, 1) := by decide +kernel
theorem px_d293_5 : decode prog_3_method_17_code 5 = .ok (.iload_n 1, 1) := by decide +kernel
theorem px_d293_6 : decode prog_3_method_17_code 6 = .ok (.iload_n 2, 1) := by decide +kernel
theorem px_d293_7 : decode prog_3_method_17_code 7 = .ok (.ixor, 1) := by decide +kernel
theorem px_d293_8 : decode prog_3_method_17_code 8 = .ok (.istore_n 3, 1) := by decide +kernel
theorem px_d293_9 : decode prog_3_method_17_code 9 = .ok (.iload_n 3, 1) := by decide +kernel
theorem px_d293_10 : decode prog_3_method_17_code 10 = .ok (.aload_n 0, 1) := by decide +kernel
theorem px_d293_11 : decode prog_3_method_17_code 11 = .ok (.iload_n 3, 1) := by decide +kernel
theorem px_d293_12 : decode prog_3_method_17_code 12 = .ok (.aload_n 0, 1) := by decide +kernel
theorem px_d293_13 : decode prog_3_method_17_code 13 = .ok (.invokevirtual 67, 3) := by decide +kernel
theorem px_d293_16 : decode prog_3_method_17_code 16 = .ok (.iload_n 3, 1) := by decide +kernel
theorem px_d293_17 : decode prog_3_method_17_code 17 = .ok (.iconst (-1), 1) := by decide +kernel
theorem px_d293_18 : decode prog_3_method_17_code 18 = .ok (.ixor, 1) := by decide +kernel
theorem px_d293_19 : decode prog_3_method_17_code 19 = .ok (.iand, 1) := by decide +kernel
theorem px_d293_20 : decode prog_3_method_17_code 20 = .ok (.invokevirtual 123, 3) := by decide +kernel
theorem px_d293_23 : decode prog_3_method_17_code 23 = .ok (.ior, 1) := by decide +kernel
theorem px_d293_24 : decode prog_3_method_17_code 24 = .ok (.istore 4, 2) := by decide +kernel
theorem px_d293_26 : decode prog_3_method_17_code 26 = .ok (.iconst 0, 1) := by decide +kernel
theorem px_d293_27 : decode prog_3_method_17_code 27 = .ok (.istore 5, 2) := by decide +kernel
theorem px_d293_29 : decode prog_3_method_17_code 29 = .ok (.iconst 0, 1) := by decide +kernel
theorem px_d293_30 : decode prog_3_method_17_code 30 = .ok (.istore 6, 2) := by decide +kernel
theorem px_d293_32 : decode prog_3_method_17_code 32 = .ok (.iload 6, 2) := by decide +kernel
theorem px_d293_34 : decode prog_3_method_17_code 34 = .ok (.aload_n 0, 1) := by decide +kernel
theorem px_d293_35 : decode prog_3_method_17_code 35 = .ok (.getfield 66, 3) := by decide +kernel
theorem px_d293_38 : decode prog_3_method_17_code 38 = .ok (.if_icmp .ge 97, 3) := by decide +kernel
theorem px_d293_41 : decode prog_3_method_17_code 41 = .ok (.iload_n 3, 1) := by decide +kernel
theorem px_d293_42 : decode prog_3_method_17_code 42 = .ok (.iconst 1, 1) := by decide +kernel
theorem px_d293_43 : decode prog_3_method_17_code 43 = .ok (.iload 6, 2) := by decide +kernel
theorem px_d293_45 : decode prog_3_method_17_code 45 = .ok (.ishl, 1) := by decide +kernel
theorem px_d293_46 : decode prog_3_method_17_code 46 = .ok (.iand, 1) := by decide +kernel
theorem px_d293_47 : decode prog_3_method_17_code 47 = .ok (.istore 7, 2) := by decide +kernel
theorem px_d293_49 : decode prog_3_method_17_code 49 = .ok (.iload 7, 2) := by decide +kernel
theorem px_d293_51 : decode prog_3_method_17_code 51 = .ok (.ifCond .eq 78, 3) := by decide +kernel
theorem px_d293_54 : decode prog_3_method_17_code 54 = .ok (.aload_n 0, 1) := by decide +kernel
theorem px_d293_55 : decode prog_3_method_17_code 55 = .ok (.getfield 36, 3) := by decide +kernel
theorem px_d293_58 : decode prog_3_method_17_code 58 = .ok (.iload 4, 2) := by decide +kernel
theorem px_d293_60 : decode prog_3_method_17_code 60 = .ok (.baload, 1) := by decide +kernel
theorem px_d293_61 : decode prog_3_method_17_code 61 = .ok (.aload_n 0, 1) := by decide +kernel
theorem px_d293_62 : decode prog_3_method_17_code 62 = .ok (.getfield 36, 3) := by decide +kernel
theorem px_d293_65 : decode prog_3_method_17_code 65 = .ok (.iload 4, 2) := by decide +kernel
theorem px_d293_67 : decode prog_3_method_17_code 67 = .ok (.iload 7, 2) := by decide +kernel
theorem px_d293_69 : decode prog_3_method_17_code 69 = .ok (.ixor, 1) := by decide +kernel
theorem px_d293_70 : decode prog_3_method_17_code 70 = .ok (.iload_n 2, 1) := by decide +kernel
theorem px_d293_71 : decode prog_3_method_17_code 71 = .ok (.ixor, 1) := by decide +kernel
theorem px_d293_72 : decode prog_3_method_17_code 72 = .ok (.baload, 1) := by decide +kernel
theorem px_d293_73 : decode prog_3_method_17_code 73 = .ok (.imul, 1) := by decide +kernel
theorem px_d293_74 : decode prog_3_method_17_code 74 = .ok (.istore 8, 2) := by decide +kernel
theorem px_d293_76 : decode prog_3_method_17_code 76 = .ok (.iload 4, 2) := by decide +kernel
theorem px_d293_78 : decode prog_3_method_17_code 78 = .ok (.iload 7, 2) := by decide +kernel
theorem px_d293_80 : decode prog_3_method_17_code 80 = .ok (.iload_n 2, 1) := by decide +kernel
theorem px_d293_81 : decode prog_3_method_17_code 81 = .ok (.ior, 1) := by decide +kernel
theorem px_d293_82 : decode prog_3_method_17_code 82 = .ok (.invokestatic 144, 3) := by decide +kernel
theorem px_d293_85 : decode prog_3_method_17_code 85 = .ok (.ifCond .eq 16, 3) := by decide +kernel
theorem px_d293_88 : decode prog_3_method_17_code 88 = .ok (.iload 8, 2) := by decide +kernel
theorem px_d293_90 : decode prog_3_method_17_code 90 = .ok (.ifCond .ge 7, 3) := by decide +kernel
theorem px_d293_93 : decode prog_3_method_17_code 93 = .ok (.iconst 1, 1) := by decide +kernel
theorem px_d293_94 : decode prog_3_method_17_code 94 = .ok (.goto 17, 3) := by decide +kernel
theorem px_d293_97 : decode prog_3_method_17_code 97 = .ok (.iconst 0, 1) := by decide +kernel
theorem px_d293_98 : decode prog_3_method_17_code 98 = .ok (.goto 13, 3) := by decide +kernel
theorem px_d293_101 : decode prog_3_method_17_code 101 = .ok (.iload 8, 2) := by decide +kernel
theorem px_d293_103 : decode prog_3_method_17_code 103 = .ok (.ifCond .le 7, 3) := by decide +kernel
theorem px_d293_106 : decode prog_3_method_17_code 106 = .ok (.iconst 1, 1) := by decide +kernel
theorem px_d293_107 : decode prog_3_method_17_code 107 = .ok (.goto 4, 3) := by decide +kernel
theorem px_d293_110 : decode prog_3_method_17_code 110 = .ok (.iconst 0, 1) := by decide +kernel
theorem px_d293_111 : decode prog_3_method_17_code 111 = .ok (.istore 9, 2) := by decide +kernel
theorem px_d293_113 : decode prog_3_method_17_code 113 = .ok (.iload 5, 2) := by decide +kernel
theorem px_d293_115 : decode prog_3_method_17_code 115 = .ok (.iload 9, 2) := by decide +kernel
theorem px_d293_117 : decode prog_3_method_17_code 117 = .ok (.ifCond .eq 8, 3) := by decide +kernel
theorem px_d293_120 : decode prog_3_method_17_code 120 = .ok (.iload 7, 2) := by decide +kernel
theorem px_d293_122 : decode prog_3_method_17_code 122 = .ok (.goto 4, 3) := by decide +kernel
theorem px_d293_125 : decode prog_3_method_17_code 125 = .ok (.iconst 0, 1) := by decide +kernel
theorem px_d293_126 : decode prog_3_method_17_code 126 = .ok (.ior, 1) := by decide +kernel
theorem px_d293_127 : decode prog_3_method_17_code 127 = .ok (.istore 5, 2) := by decide +kernel
theorem px_d293_129 : decode prog_3_method_17_code 129 = .ok (.iinc 6 1, 3) := by decide +kernel
theorem px_d293_132 : decode prog_3_method_17_code 132 = .ok (.goto (-100), 3) := by decide +kernel
theorem px_d293_135 : decode prog_3_method_17_code 135 = .ok (.iload 5, 2) := by decide +kernel
theorem px_d293_137 : decode prog_3_method_17_code 137 = .ok (.ireturn, 1) := by decide +kernel
theorem px_d294_0 : decode prog_1_method_44_code 0 = .ok (.iload_n 1, 1) := by decide +kernel
theorem px_d294_1 : decode prog_1_method_44_code 1 = .ok (.iload_n 1, 1) := by decide +kernel
theorem px_d294_2 : decode prog_1_method_44_code 2 = .ok (.ineg, 1) := by decide +kernel
theorem px_d294_3 : decode prog_1_method_44_code 3 = .ok (.iand, 1) := by decide +kernel
theorem px_d294_4 : decode prog_1_method_44_code 4 = .ok (.istore_n 2, 1) := by decide +kernel
theorem px_d294_5 : decode prog_1_method_44_code 5 = .ok (.iload_n 1, 1) := by decide +kernel
theorem px_d294_6 : decode prog_1_method_44_code 6 = .ok (.iload_n 2, 1) := by decide +kernel
theorem px_d294_7 : decode prog_1_method_44_code 7 = .ok (.ixor, 1) := by decide +kernel
theorem px_d294_8 : decode prog_1_method_44_code 8 = .ok (.iconst 1, 1) := by decide +kernel
theorem px_d294_9 : decode prog_1_method_44_code 9 = .ok (.isub, 1) := by decide +kernel
theorem px_d294_10 : decode prog_1_method_44_code 10 = .ok (.iconst 2, 1) := by decide +kernel
theorem px_d294_11 : decode prog_1_method_44_code 11 = .ok (.iload_n 2, 1) := by decide +kernel
theorem px_d294_12 : decode prog_1_method_44_code 12 = .ok (.imul, 1) := by decide +kernel
theorem px_d294_13 : decode prog_1_method_44_code 13 = .ok (.iconst 1, 1) := by decide +kernel
theorem px_d294_14 : decode prog_1_method_44_code 14 = .ok (.isub, 1) := by decide +kernel
theorem px_d294_15 : decode prog_1_method_44_code 15 = .ok (.iconst (-1), 1) := by decide +kernel
theorem px_d294_16 : decode prog_1_method_44_code 16 = .ok (.ixor, 1) := by decide +kernel
theorem px_d294_17 : decode prog_1_method_44_code 17 = .ok (.iand, 1) := by decide +kernel
theorem px_d294_18 : decode prog_1_method_44_code 18 = .ok (.istore_n 3, 1) := by decide +kernel
theorem px_d294_19 : decode prog_1_method_44_code 19 = .ok (.iload_n 0, 1) := by decide +kernel
theorem px_d294_20 : decode prog_1_method_44_code 20 = .ok (.iload_n 3, 1) := by decide +kernel
theorem px_d294_21 : decode prog_1_method_44_code 21 = .ok (.iand, 1) := by decide +kernel
theorem px_d294_22 : decode prog_1_method_44_code 22 = .ok (.invokestatic 201, 3) := by decide +kernel
theorem px_d294_25 : decode prog_1_method_44_code 25 = .ok (.iconst 1, 1) := by decide +kernel
theorem px_d294_26 : decode prog_1_method_44_code 26 = .ok (.iand, 1) := by decide +kernel
theorem px_d294_27 : decode prog_1_method_44_code 27 = .ok (.ifCond .eq 7, 3) := by decide +kernel
theorem px_d294_30 : decode prog_1_method_44_code 30 = .ok (.iconst 1, 1) := by decide +kernel
theorem px_d294_31 : decode prog_1_method_44_code 31 = .ok (.goto 4, 3) := by decide +kernel
theorem px_d294_34 : decode prog_1_method_44_code 34 = .ok (.iconst 0, 1) := by decide +kernel
theorem px_d294_35 : decode prog_1_method_44_code 35 = .ok (.ireturn, 1) := by decide +kernel
theorem px_d296_0 : decode prog_13_method_2_code 0 = .ok (.aload_n 1, 1) := by decide +kernel
theorem px_d296_1 : decode prog_13_method_2_code 1 = .ok (.getfield 48, 3) := by decide +kernel
theorem px_d296_4 : decode prog_13_method_2_code 4 = .ok (.aload_n 0, 1) := by decide +kernel
theorem px_d296_5 : decode prog_13_method_2_code 5 = .ok (.getfield 41, 3) := by decide +kernel
theorem px_d296_8 : decode prog_13_method_2_code 8 = .ok (.if_icmp .ne 19, 3) := by decide +kernel
theorem px_d296_11 : decode prog_13_method_2_code 11 = .ok (.aload_n 2, 1) := by decide +kernel
theorem px_d296_12 : decode prog_13_method_2_code 12 = .ok (.getfield 48, 3) := by decide +kernel
theorem px_d296_15 : decode prog_13_method_2_code 15 = .ok (.aload_n 0, 1) := by decide +kernel
theorem px_d296_16 : decode prog_13_method_2_code 16 = .ok (.getfield 45, 3) := by decide +kernel
theorem px_d296_19 : decode prog_13_method_2_code 19 = .ok (.if_icmp .ne 8, 3) := by decide +kernel
theorem px_d296_22 : decode prog_13_method_2_code 22 = .ok (.aload_n 0, 1) := by decide +kernel
theorem px_d296_23 : decode prog_13_method_2_code 23 = .ok (.getfield 53, 3) := by decide +kernel
theorem px_d296_26 : decode prog_13_method_2_code 26 = .ok (.ireturn, 1) := by decide +kernel
theorem px_d296_27 : decode prog_13_method_2_code 27 = .ok (.aload_n 0, 1) := by decide +kernel
theorem px_d296_28 : decode prog_13_method_2_code 28 = .ok (.aload_n 1, 1) := by decide +kernel
theorem px_d296_29 : decode prog_13_method_2_code 29 = .ok (.putfield 34, 3) := by decide +kernel
theorem px_d296_32 : decode prog_13_method_2_code 32 = .ok (.aload_n 0, 1) := by decide +kernel
theorem px_d296_33 : decode prog_13_method_2_code 33 = .ok (.aload_n 2, 1) := by decide +kernel
theorem px_d296_34 : decode prog_13_method_2_code 34 = .ok (.putfield 38, 3) := by decide +kernel
theorem px_d296_37 : decode prog_13_method_2_code 37 = .ok (.aload_n 0, 1) := by decide +kernel
theorem px_d296_38 : decode prog_13_method_2_code 38 = .ok (.aload_n 0, 1) := by decide +kernel
theorem px_d296_39 : decode prog_13_method_2_code 39 = .ok (.getfield 34, 3) := by decide +kernel
theorem px_d296_42 : decode prog_13_method_2_code 42 = .ok (.getfield 48, 3) := by decide +kernel
theorem px_d296_45 : decode prog_13_method_2_code 45 = .ok (.putfield 41, 3) := by decide +kernel
theorem px_d296_48 : decode prog_13_method_2_code 48 = .ok (.aload_n 0, 1) := by decide +kernel
theorem px_d296_49 : decode prog_13_method_2_code 49 = .ok (.aload_n 0, 1) := by decide +kernel
theorem px_d296_50 : decode prog_13_method_2_code 50 = .ok (.getfield 38, 3) := by decide +kernel
theorem px_d296_53 : decode prog_13_method_2_code 53 = .ok (.getfield 48, 3) := by decide +kernel
theorem px_d296_56 : decode prog_13_method_2_code 56 = .ok (.putfield 45, 3) := by decide +kernel
theorem px_d296_59 : decode prog_13_method_2_code 59 = .ok (.aload_n 0, 1) := by decide +kernel
theorem px_d296_60 : decode prog_13_method_2_code 60 = .ok (.iconst 0, 1) := by decide +kernel
theorem px_d296_61 : decode prog_13_method_2_code 61 = .ok (.putfield 53, 3) := by decide +kernel
theorem px_d296_64 : decode prog_13_method_2_code 64 = .ok (.aload_n 0, 1) := by decide +kernel
theorem px_d296_65 : decode prog_13_method_2_code 65 = .ok (.getfield 38, 3) := by decide +kernel
theorem px_d296_68 : decode prog_13_method_2_code 68 = .ok (.getfield 57, 3) := by decide +kernel
theorem px_d296_71 : decode prog_13_method_2_code 71 = .ok (.aload_n 0, 1) := by decide +kernel
theorem px_d296_72 : decode prog_13_method_2_code 72 = .ok (.getfield 34, 3) := by decide +kernel
theorem px_d296_75 : decode prog_13_method_2_code 75 = .ok (.getfield 57, 3) := by decide +kernel
theorem px_d296_78 : decode prog_13_method_2_code 78 = .ok (.if_icmp .gt 36, 3) := by decide +kernel
theorem px_d296_81 : decode prog_13_method_2_code 81 = .ok (.aload_n 0, 1) := by decide +kernel
theorem px_d296_82 : decode prog_13_method_2_code 82 = .ok (.getfield 38, 3) := by decide +kernel
theorem px_d296_85 : decode prog_13_method_2_code 85 = .ok (.getfield 60, 3) := by decide +kernel
theorem px_d296_88 : decode prog_13_method_2_code 88 = .ok (.aload_n 0, 1) := by decide +kernel
theorem px_d296_89 : decode prog_13_method_2_code 89 = .ok (.getfield 38, 3) := by decide +kernel
theorem px_d296_92 : decode prog_13_method_2_code 92 = .ok (.getfield 57, 3) := by decide +kernel
theorem px_d296_95 : decode prog_13_method_2_code 95 = .ok (.isub, 1) := by decide +kernel
theorem px_d296_96 : decode prog_13_method_2_code 96 = .ok (.aload_n 0, 1) := by decide +kernel
theorem px_d296_97 : decode prog_13_method_2_code 97 = .ok (.getfield 34, 3) := by decide +kernel
theorem px_d296_100 : decode prog_13_method_2_code 100 = .ok (.getfield 60, 3) := by decide +kernel
theorem px_d296_103 : decode prog_13_method_2_code 103 = .ok (.aload_n 0, 1) := by decide +kernel
theorem px_d296_104 : decode prog_13_method_2_code 104 = .ok (.getfield 34, 3) := by decide +kernel
theorem px_d296_107 : decode prog_13_method_2_code 107 = .ok (.getfield 57, 3) := by decide +kernel
theorem px_d296_110 : decode prog_13_method_2_code 110 = .ok (.isub, 1) := by decide +kernel
theorem px_d296_111 : decode prog_13_method_2_code 111 = .ok (.if_icmp .le 5, 3) := by decide +kernel
theorem px_d296_114 : decode prog_13_method_2_code 114 = .ok (.iconst 0, 1) := by decide +kernel
theorem px_d296_115 : decode prog_13_method_2_code 115 = .ok (.ireturn, 1) := by decide +kernel
theorem px_d296_116 : decode prog_13_method_2_code 116 = .ok (.aload_n 0, 1) := by decide +kernel
theorem px_d296_117 : decode prog_13_method_2_code 117 = .ok (.invokevirtual 63, 3) := by decide +kernel
theorem px_d296_120 : decode prog_13_method_2_code 120 = .ok (.aload_n 0, 1) := by decide +kernel
theorem px_d296_121 : decode prog_13_method_2_code 121 = .ok (.invokevirtual 66, 3) := by decide +kernel
theorem px_d296_124 : decode prog_13_method_2_code 124 = .ok (.aload_n 0, 1) := by decide +kernel
theorem px_d296_125 : decode prog_13_method_2_code 125 = .ok (.getfield 9, 3) := by decide +kernel
theorem px_d296_128 : decode prog_13_method_2_code 128 = .ok (.aload_n 0, 1) := by decide +kernel
theorem px_d296_129 : decode prog_13_method_2_code 129 = .ok (.getfield 34, 3) := by decide +kernel
theorem px_d296_132 : decode prog_13_method_2_code 132 = .ok (.getfield 60, 3) := by decide +kernel
theorem px_d296_135 : decode prog_13_method_2_code 135 = .ok (.aload_n 0, 1) := by decide +kernel
theorem px_d296_136 : decode prog_13_method_2_code 136 = .ok (.getfield 38, 3) := by decide +kernel
theorem px_d296_139 : decode prog_13_method_2_code 139 = .ok (.getfield 60, 3) := by decide +kernel
theorem px_d296_142 : decode prog_13_method_2_code 142 = .ok (.iconst 1, 1) := by decide +kernel
theorem px_d296_143 : decode prog_13_method_2_code 143 = .ok (.iadd, 1) := by decide +kernel
theorem px_d296_144 : decode prog_13_method_2_code 144 = .ok (.invokevirtual 69, 3) := by decide +kernel
theorem px_d296_147 : decode prog_13_method_2_code 147 = .ok (.istore_n 3, 1) := by decide +kernel
theorem px_d296_148 : decode prog_13_method_2_code 148 = .ok (.aload_n 0, 1) := by decide +kernel
theorem px_d296_149 : decode prog_13_method_2_code 149 = .ok (.getfield 9, 3) := by decide +kernel
theorem px_d296_152 : decode prog_13_method_2_code 152 = .ok (.aload_n 0, 1) := by decide +kernel
theorem px_d296_153 : decode prog_13_method_2_code 153 = .ok (.getfield 34, 3) := by decide +kernel
theorem px_d296_156 : decode prog_13_method_2_code 156 = .ok (.getfield 60, 3) := by decide +kernel
theorem px_d296_159 : decode prog_13_method_2_code 159 = .ok (.aload_n 0, 1) := by decide +kernel
theorem px_d296_160 : decode prog_13_method_2_code 160 = .ok (.getfield 38, 3) := by decide +kernel
theorem px_d296_163 : decode prog_13_method_2_code 163 = .ok (.getfield 60, 3) := by decide +kernel
theorem px_d296_166 : decode prog_13_method_2_code 166 = .ok (.invokevirtual 69, 3) := by decide +kernel
theorem px_d296_169 : decode prog_13_method_2_code 169 = .ok (.istore 4, 2) := by decide +kernel
theorem px_d296_171 : decode prog_13_method_2_code 171 = .ok (.iload 4, 2) := by decide +kernel
theorem px_d296_173 : decode prog_13_method_2_code 173 = .ok (.iload_n 3, 1) := by decide +kernel
theorem px_d296_174 : decode prog_13_method_2_code 174 = .ok (.if_icmp .ge 40, 3) := by decide +kernel
theorem px_d296_177 : decode prog_13_method_2_code 177 = .ok (.aload_n 0, 1) := by decide +kernel
theorem px_d296_178 : decode prog_13_method_2_code 178 = .ok (.getfield 53, 3) := by decide +kernel
theorem px_d296_181 : decode prog_13_method_2_code 181 = .ok (.ifCond .ne 33, 3) := by decide +kernel
theorem px_d296_184 : decode prog_13_method_2_code 184 = .ok (.aload_n 0, 1) := by decide +kernel
theorem px_d296_185 : decode prog_13_method_2_code 185 = .ok (.aload_n 0, 1) := by decide +kernel
theorem px_d296_186 : decode prog_13_method_2_code 186 = .ok (.aload_n 0, 1) := by decide +kernel
theorem px_d296_187 : decode prog_13_method_2_code 187 = .ok (.getfield 9, 3) := by decide +kernel
theorem px_d296_190 : decode prog_13_method_2_code 190 = .ok (.aload_n 0, 1) := by decide +kernel
theorem px_d296_191 : decode prog_13_method_2_code 191 = .ok (.getfield 34, 3) := by decide +kernel
theorem px_d296_194 : decode prog_13_method_2_code 194 = .ok (.getfield 60, 3) := by decide +kernel
theorem px_d296_197 : decode prog_13_method_2_code 197 = .ok (.iload 4, 2) := by decide +kernel
theorem px_d296_199 : decode prog_13_method_2_code 199 = .ok (.invokevirtual 75, 3) := by decide +kernel
theorem px_d296_202 : decode prog_13_method_2_code 202 = .ok (.invokevirtual 78, 3) := by decide +kernel
theorem px_d296_205 : decode prog_13_method_2_code 205 = .ok (.putfield 53, 3) := by decide +kernel
theorem px_d296_208 : decode prog_13_method_2_code 208 = .ok (.iinc 4 1, 3) := by decide +kernel
theorem px_d296_211 : decode prog_13_method_2_code 211 = .ok (.goto (-40), 3) := by decide +kernel
theorem px_d296_214 : decode prog_13_method_2_code 214 = .ok (.aload_n 0, 1) := by decide +kernel
theorem px_d296_215 : decode prog_13_method_2_code 215 = .ok (.getfield 53, 3) := by decide +kernel
theorem px_d296_218 : decode prog_13_method_2_code 218 = .ok (.ifCond .eq 7, 3) := by decide +kernel
theorem px_d296_221 : decode prog_13_method_2_code 221 = .ok (.aload_n 0, 1) := by decide +kernel
theorem px_d296_222 : decode prog_13_method_2_code 222 = .ok (.invokevirtual 82, 3) := by decide +kernel
theorem px_d296_225 : decode prog_13_method_2_code 225 = .ok (.aload_n 0, 1) := by decide +kernel
theorem px_d296_226 : decode prog_13_method_2_code 226 = .ok (.getfield 53, 3) := by decide +kernel
theorem px_d296_229 : decode prog_13_method_2_code 229 = .ok (.ireturn, 1) := by decide +kernel
theorem px_d297_0 : decode prog_13_method_5_code 0 = .ok (.aload_n 0, 1) := by decide +kernel
theorem px_d297_1 : decode prog_13_method_5_code 1 = .ok (.getfield 34, 3) := by decide +kernel
theorem px_d297_4 : decode prog_13_method_5_code 4 = .ok (.iconst 0, 1) := by decide +kernel
theorem px_d297_5 : decode prog_13_method_5_code 5 = .ok (.invokevirtual 91, 3) := by decide +kernel
theorem px_d297_8 : decode prog_13_method_5_code 8 = .ok (.pop, 1) := by decide +kernel
theorem px_d297_9 : decode prog_13_method_5_code 9 = .ok (.aload_n 0, 1) := by decide +kernel
theorem px_d297_10 : decode prog_13_method_5_code 10 = .ok (.getfield 38, 3) := by decide +kernel
theorem px_d297_13 : decode prog_13_method_5_code 13 = .ok (.iconst 0, 1) := by decide +kernel
theorem px_d297_14 : decode prog_13_method_5_code 14 = .ok (.invokevirtual 91, 3) := by decide +kernel
theorem px_d297_17 : decode prog_13_method_5_code 17 = .ok (.pop, 1) := by decide +kernel
theorem px_d297_18 : decode prog_13_method_5_code 18 = .ok (.iconst 1, 1) := by decide +kernel
theorem px_d297_19 : decode prog_13_method_5_code 19 = .ok (.aload_n 0, 1) := by decide +kernel
theorem px_d297_20 : decode prog_13_method_5_code 20 = .ok (.getfield 34, 3) := by decide +kernel
theorem px_d297_23 : decode prog_13_method_5_code 23 = .ok (.getfield 60, 3) := by decide +kernel
theorem px_d297_26 : decode prog_13_method_5_code 26 = .ok (.ishl, 1) := by decide +kernel
theorem px_d297_27 : decode prog_13_method_5_code 27 = .ok (.istore_n 1, 1) := by decide +kernel
theorem px_d297_28 : decode prog_13_method_5_code 28 = .ok (.aload_n 0, 1) := by decide +kernel
theorem px_d297_29 : decode prog_13_method_5_code 29 = .ok (.getfield 25, 3) := by decide +kernel
theorem px_d297_32 : decode prog_13_method_5_code 32 = .ok (.arraylength, 1) := by decide +kernel
theorem px_d297_33 : decode prog_13_method_5_code 33 = .ok (.iload_n 1, 1) := by decide +kernel
theorem px_d297_34 : decode prog_13_method_5_code 34 = .ok (.if_icmp .ge 24, 3) := by decide +kernel
theorem px_d297_37 : decode prog_13_method_5_code 37 = .ok (.aload_n 0, 1) := by decide +kernel
theorem px_d297_38 : decode prog_13_method_5_code 38 = .ok (.iload_n 1, 1) := by decide +kernel
theorem px_d297_39 : decode prog_13_method_5_code 39 = .ok (.newarray .int, 2) := by decide +kernel
theorem px_d297_41 : decode prog_13_method_5_code 41 = .ok (.putfield 25, 3) := by decide +kernel
theorem px_d297_44 : decode prog_13_method_5_code 44 = .ok (.aload_n 0, 1) := by decide +kernel
theorem px_d297_45 : decode prog_13_method_5_code 45 = .ok (.iload_n 1, 1) := by decide +kernel
theorem px_d297_46 : decode prog_13_method_5_code 46 = .ok (.newarray .int, 2) := by decide +kernel
theorem px_d297_48 : decode prog_13_method_5_code 48 = .ok (.putfield 28, 3) := by decide +kernel
theorem px_d297_51 : decode prog_13_method_5_code 51 = .ok (.aload_n 0, 1) := by decide +kernel
theorem px_d297_52 : decode prog_13_method_5_code 52 = .ok (.iload_n 1, 1) := by decide +kernel
theorem px_d297_53 : decode prog_13_method_5_code 53 = .ok (.newarray .int, 2) := by decide +kernel
theorem px_d297_55 : decode prog_13_method_5_code 55 = .ok (.putfield 31, 3) := by decide +kernel
theorem px_d297_58 : decode prog_13_method_5_code 58 = .ok (.return_, 1) := by decide +kernel
theorem px_d298_0 : decode prog_13_method_6_code 0 = .ok (.aload_n 0, 1) := by decide +kernel
theorem px_d298_1 : decode prog_13_method_6_code 1 = .ok (.getfield 19, 3) := by decide +kernel
theorem px_d298_4 : decode prog_13_method_6_code 4 = .ok (.iconst 0, 1) := by decide +kernel
theorem px_d298_5 : decode prog_13_method_6_code 5 = .ok (.invokestatic 94, 3) := by decide +kernel
theorem px_d298_8 : decode prog_13_method_6_code 8 = .ok (.aload_n 0, 1) := by decide +kernel
theorem px_d298_9 : decode prog_13_method_6_code 9 = .ok (.iconst 0, 1) := by decide +kernel
theorem px_d298_10 : decode prog_13_method_6_code 10 = .ok (.putfield 100, 3) := by decide +kernel
theorem px_d298_13 : decode prog_13_method_6_code 13 = .ok (.iconst 0, 1) := by decide +kernel
theorem px_d298_14 : decode prog_13_method_6_code 14 = .ok (.istore_n 1, 1) := by decide +kernel
theorem px_d298_15 : decode prog_13_method_6_code 15 = .ok (.iload_n 1, 1) := by decide +kernel
theorem px_d298_16 : decode prog_13_method_6_code 16 = .ok (.aload_n 0, 1) := by decide +kernel
theorem px_d298_17 : decode prog_13_method_6_code 17 = .ok (.getfield 38, 3) := by decide +kernel
theorem px_d298_20 : decode prog_13_method_6_code 20 = .ok (.invokevirtual 103, 3) := by decide +kernel
theorem px_d298_23 : decode prog_13_method_6_code 23 = .ok (.if_icmp .gt 40, 3) := by decide +kernel
theorem px_d298_26 : decode prog_13_method_6_code 26 = .ok (.aload_n 0, 1) := by decide +kernel
theorem px_d298_27 : decode prog_13_method_6_code 27 = .ok (.getfield 38, 3) := by decide +kernel
theorem px_d298_30 : decode prog_13_method_6_code 30 = .ok (.getfield 107, 3) := by decide +kernel
theorem px_d298_33 : decode prog_13_method_6_code 33 = .ok (.iload_n 1, 1) := by decide +kernel
theorem px_d298_34 : decode prog_13_method_6_code 34 = .ok (.baload, 1) := by decide +kernel
theorem px_d298_35 : decode prog_13_method_6_code 35 = .ok (.ifCond .eq 22, 3) := by decide +kernel
theorem px_d298_38 : decode prog_13_method_6_code 38 = .ok (.aload_n 0, 1) := by decide +kernel
theorem px_d298_39 : decode prog_13_method_6_code 39 = .ok (.dup, 1) := by decide +kernel
theorem px_d298_40 : decode prog_13_method_6_code 40 = .ok (.getfield 100, 3) := by decide +kernel
theorem px_d298_43 : decode prog_13_method_6_code 43 = .ok (.iconst 1, 1) := by decide +kernel
theorem px_d298_44 : decode prog_13_method_6_code 44 = .ok (.iadd, 1) := by decide +kernel
theorem px_d298_45 : decode prog_13_method_6_code 45 = .ok (.putfield 100, 3) := by decide +kernel
theorem px_d298_48 : decode prog_13_method_6_code 48 = .ok (.aload_n 0, 1) := by decide +kernel
theorem px_d298_49 : decode prog_13_method_6_code 49 = .ok (.aload_n 0, 1) := by decide +kernel
theorem px_d298_50 : decode prog_13_method_6_code 50 = .ok (.getfield 19, 3) := by decide +kernel
theorem px_d298_53 : decode prog_13_method_6_code 53 = .ok (.iload_n 1, 1) := by decide +kernel
theorem px_d298_54 : decode prog_13_method_6_code 54 = .ok (.invokevirtual 111, 3) := by decide +kernel
theorem px_d298_57 : decode prog_13_method_6_code 57 = .ok (.iinc 1 1, 3) := by decide +kernel
theorem px_d298_60 : decode prog_13_method_6_code 60 = .ok (.goto (-45), 3) := by decide +kernel
theorem px_d298_63 : decode prog_13_method_6_code 63 = .ok (.return_, 1) := by decide +kernel
theorem px_d299_0 : decode prog_13_method_7_code 0 = .ok (.iconst 0, 1) := by decide +kernel
theorem px_d299_1 : decode prog_13_method_7_code 1 = .ok (.istore_n 3, 1) := by decide +kernel
theorem px_d299_2 : decode prog_13_method_7_code 2 = .ok (.iload_n 3, 1) := by decide +kernel
theorem px_d299_3 : decode prog_13_method_7_code 3 = .ok (.aload_n 0, 1) := by decide +kernel
theorem px_d299_4 : decode prog_13_method_7_code 4 = .ok (.getfield 38, 3) := by decide +kernel
theorem px_d299_7 : decode prog_13_method_7_code 7 = .ok (.getfield 60, 3) := by decide +kernel
theorem px_d299_10 : decode prog_13_method_7_code 10 = .ok (.if_icmp .ge 56, 3) := by decide +kernel
theorem px_d299_13 : decode prog_13_method_7_code 13 = .ok (.iconst 0, 1) := by decide +kernel
theorem px_d299_14 : decode prog_13_method_7_code 14 = .ok (.istore 4, 2) := by decide +kernel
theorem px_d299_16 : decode prog_13_method_7_code 16 = .ok (.iload 4, 2) := by decide +kernel
theorem px_d299_18 : decode prog_13_method_7_code 18 = .ok (.aload_n 0, 1) := by decide +kernel
theorem px_d299_19 : decode prog_13_method_7_code 19 = .ok (.getfield 38, 3) := by decide +kernel
theorem px_d299_22 : decode prog_13_method_7_code 22 = .ok (.getfield 60, 3) := by decide +kernel
theorem px_d299_25 : decode prog_13_method_7_code 25 = .ok (.if_icmp .ge 35, 3) := by decide +kernel
theorem px_d299_28 : decode prog_13_method_7_code 28 = .ok (.iload_n 2, 1) := by decide +kernel
theorem px_d299_29 : decode prog_13_method_7_code 29 = .ok (.iload_n 3, 1) := by decide +kernel
theorem px_d299_30 : decode prog_13_method_7_code 30 = .ok (.ishr, 1) := by decide +kernel
theorem px_d299_31 : decode prog_13_method_7_code 31 = .ok (.iconst 1, 1) := by decide +kernel
theorem px_d299_32 : decode prog_13_method_7_code 32 = .ok (.iand, 1) := by decide +kernel
theorem px_d299_33 : decode prog_13_method_7_code 33 = .ok (.ifCond .eq 27, 3) := by decide +kernel
theorem px_d299_36 : decode prog_13_method_7_code 36 = .ok (.aload_n 1, 1) := by decide +kernel
theorem px_d299_37 : decode prog_13_method_7_code 37 = .ok (.iload_n 3, 1) := by decide +kernel
theorem px_d299_38 : decode prog_13_method_7_code 38 = .ok (.bipush 12, 2) := by decide +kernel
theorem px_d299_40 : decode prog_13_method_7_code 40 = .ok (.imul, 1) := by decide +kernel
theorem px_d299_41 : decode prog_13_method_7_code 41 = .ok (.iload 4, 2) := by decide +kernel
theorem px_d299_43 : decode prog_13_method_7_code 43 = .ok (.iadd, 1) := by decide +kernel
theorem px_d299_44 : decode prog_13_method_7_code 44 = .ok (.dup2, 1) := by decide +kernel
theorem px_d299_45 : decode prog_13_method_7_code 45 = .ok (.iaload, 1) := by decide +kernel
theorem px_d299_46 : decode prog_13_method_7_code 46 = .ok (.iload_n 2, 1) := by decide +kernel
theorem px_d299_47 : decode prog_13_method_7_code 47 = .ok (.iload 4, 2) := by decide +kernel
theorem px_d299_49 : decode prog_13_method_7_code 49 = .ok (.ishr, 1) := by decide +kernel
theorem px_d299_50 : decode prog_13_method_7_code 50 = .ok (.iconst 1, 1) := by decide +kernel
theorem px_d299_51 : decode prog_13_method_7_code 51 = .ok (.iand, 1) := by decide +kernel
theorem px_d299_52 : decode prog_13_method_7_code 52 = .ok (.iadd, 1) := by decide +kernel
theorem px_d299_53 : decode prog_13_method_7_code 53 = .ok (.iastore, 1) := by decide +kernel
theorem px_d299_54 : decode prog_13_method_7_code 54 = .ok (.iinc 4 1, 3) := by decide +kernel
theorem px_d299_57 : decode prog_13_method_7_code 57 = .ok (.goto (-41), 3) := by decide +kernel
theorem px_d299_60 : decode prog_13_method_7_code 60 = .ok (.iinc 3 1, 3) := by decide +kernel
theorem px_d299_63 : decode prog_13_method_7_code 63 = .ok (.goto (-61), 3) := by decide +kernel
theorem px_d299_66 : decode prog_13_method_7_code 66 = .ok (.return_, 1) := by decide +kernel
theorem px_d300_0 : decode prog_13_method_8_code 0 = .ok (.aload_n 0, 1) := by decide +kernel
theorem px_d300_1 : decode prog_13_method_8_code 1 = .ok (.getfield 34, 3) := by decide +kernel
theorem px_d300_4 : decode prog_13_method_8_code 4 = .ok (.getfield 60, 3) := by decide +kernel
theorem px_d300_7 : decode prog_13_method_8_code 7 = .ok (.aload_n 0, 1) := by decide +kernel
theorem px_d300_8 : decode prog_13_method_8_code 8 = .ok (.getfield 38, 3) := by decide +kernel
theorem px_d300_11 : decode prog_13_method_8_code 11 = .ok (.getfield 60, 3) := by decide +kernel
theorem px_d300_14 : decode prog_13_method_8_code 14 = .ok (.isub, 1) := by decide +kernel
theorem px_d300_15 : decode prog_13_method_8_code 15 = .ok (.istore_n 2, 1) := by decide +kernel
theorem px_d300_16 : decode prog_13_method_8_code 16 = .ok (.aload_n 0, 1) := by decide +kernel
theorem px_d300_17 : decode prog_13_method_8_code 17 = .ok (.iload_n 1, 1) := by decide +kernel
theorem px_d300_18 : decode prog_13_method_8_code 18 = .ok (.putfield 114, 3) := by decide +kernel
theorem px_d300_21 : decode prog_13_method_8_code 21 = .ok (.aload_n 0, 1) := by decide +kernel
theorem px_d300_22 : decode prog_13_method_8_code 22 = .ok (.aload_n 0, 1) := by decide +kernel
theorem px_d300_23 : decode prog_13_method_8_code 23 = .ok (.getfield 25, 3) := by decide +kernel
theorem px_d300_26 : decode prog_13_method_8_code 26 = .ok (.iload_n 1, 1) := by decide +kernel
theorem px_d300_27 : decode prog_13_method_8_code 27 = .ok (.invokevirtual 117, 3) := by decide +kernel
theorem px_d300_30 : decode prog_13_method_8_code 30 = .ok (.aload_n 0, 1) := by decide +kernel
theorem px_d300_31 : decode prog_13_method_8_code 31 = .ok (.aload_n 0, 1) := by decide +kernel
theorem px_d300_32 : decode prog_13_method_8_code 32 = .ok (.getfield 28, 3) := by decide +kernel
theorem px_d300_35 : decode prog_13_method_8_code 35 = .ok (.aload_n 0, 1) := by decide +kernel
theorem px_d300_36 : decode prog_13_method_8_code 36 = .ok (.getfield 34, 3) := by decide +kernel
theorem px_d300_39 : decode prog_13_method_8_code 39 = .ok (.invokevirtual 103, 3) := by decide +kernel
theorem px_d300_42 : decode prog_13_method_8_code 42 = .ok (.iload_n 1, 1) := by decide +kernel
theorem px_d300_43 : decode prog_13_method_8_code 43 = .ok (.iconst (-1), 1) := by decide +kernel
theorem px_d300_44 : decode prog_13_method_8_code 44 = .ok (.ixor, 1) := by decide +kernel
theorem px_d300_45 : decode prog_13_method_8_code 45 = .ok (.iand, 1) := by decide +kernel
theorem px_d300_46 : decode prog_13_method_8_code 46 = .ok (.invokevirtual 117, 3) := by decide +kernel
theorem px_d300_49 : decode prog_13_method_8_code 49 = .ok (.iconst 0, 1) := by decide +kernel
theorem px_d300_50 : decode prog_13_method_8_code 50 = .ok (.aload_n 0, 1) := by decide +kernel
theorem px_d300_51 : decode prog_13_method_8_code 51 = .ok (.getfield 34, 3) := by decide +kernel
theorem px_d300_54 : decode prog_13_method_8_code 54 = .ok (.getfield 120, 3) := by decide +kernel
theorem px_d300_57 : decode prog_13_method_8_code 57 = .ok (.iload_n 1, 1) := by decide +kernel
theorem px_d300_58 : decode prog_13_method_8_code 58 = .ok (.baload, 1) := by decide +kernel
theorem px_d300_59 : decode prog_13_method_8_code 59 = .ok (.aload_n 0, 1) := by decide +kernel
theorem px_d300_60 : decode prog_13_method_8_code 60 = .ok (.getfield 38, 3) := by decide +kernel
theorem px_d300_63 : decode prog_13_method_8_code 63 = .ok (.getfield 57, 3) := by decide +kernel
theorem px_d300_66 : decode prog_13_method_8_code 66 = .ok (.isub, 1) := by decide +kernel
theorem px_d300_67 : decode prog_13_method_8_code 67 = .ok (.invokestatic 123, 3) := by decide +kernel
theorem px_d300_70 : decode prog_13_method_8_code 70 = .ok (.istore_n 3, 1) := by decide +kernel
theorem px_d300_71 : decode prog_13_method_8_code 71 = .ok (.iload_n 2, 1) := by decide +kernel
theorem px_d300_72 : decode prog_13_method_8_code 72 = .ok (.aload_n 0, 1) := by decide +kernel
theorem px_d300_73 : decode prog_13_method_8_code 73 = .ok (.getfield 34, 3) := by decide +kernel
theorem px_d300_76 : decode prog_13_method_8_code 76 = .ok (.getfield 57, 3) := by decide +kernel
theorem px_d300_79 : decode prog_13_method_8_code 79 = .ok (.aload_n 0, 1) := by decide +kernel
theorem px_d300_80 : decode prog_13_method_8_code 80 = .ok (.getfield 38, 3) := by decide +kernel
theorem px_d300_83 : decode prog_13_method_8_code 83 = .ok (.getfield 57, 3) := by decide +kernel
theorem px_d300_86 : decode prog_13_method_8_code 86 = .ok (.isub, 1) := by decide +kernel
theorem px_d300_87 : decode prog_13_method_8_code 87 = .ok (.invokestatic 128, 3) := by decide +kernel
theorem px_d300_90 : decode prog_13_method_8_code 90 = .ok (.istore 4, 2) := by decide +kernel
theorem px_d300_92 : decode prog_13_method_8_code 92 = .ok (.aload_n 0, 1) := by decide +kernel
theorem px_d300_93 : decode prog_13_method_8_code 93 = .ok (.getfield 9, 3) := by decide +kernel
theorem px_d300_96 : decode prog_13_method_8_code 96 = .ok (.iload_n 2, 1) := by decide +kernel
theorem px_d300_97 : decode prog_13_method_8_code 97 = .ok (.iload 4, 2) := by decide +kernel
theorem px_d300_99 : decode prog_13_method_8_code 99 = .ok (.iconst 1, 1) := by decide +kernel
theorem px_d300_100 : decode prog_13_method_8_code 100 = .ok (.iadd, 1) := by decide +kernel
theorem px_d300_101 : decode prog_13_method_8_code 101 = .ok (.invokevirtual 69, 3) := by decide +kernel
theorem px_d300_104 : decode prog_13_method_8_code 104 = .ok (.istore 5, 2) := by decide +kernel
theorem px_d300_106 : decode prog_13_method_8_code 106 = .ok (.aload_n 0, 1) := by decide +kernel
theorem px_d300_107 : decode prog_13_method_8_code 107 = .ok (.getfield 9, 3) := by decide +kernel
theorem px_d300_110 : decode prog_13_method_8_code 110 = .ok (.iload_n 2, 1) := by decide +kernel
theorem px_d300_111 : decode prog_13_method_8_code 111 = .ok (.iload_n 3, 1) := by decide +kernel
