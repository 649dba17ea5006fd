theorem px_d86_0 : decode prog_15_method_41_code 0 = .ok (.aload_n 0, 1) := by decide +kernel
theorem px_d86_1 : decode prog_15_method_41_code 1 = .ok (.iload_n 1, 1) := by decide +kernel
theorem px_d86_2 : decode prog_15_method_41_code 2 = .ok (.invokevirtual 262, 3) := by decide +kernel
theorem px_d86_5 : decode prog_15_method_41_code 5 = .ok (.istore_n 3, 1) := by decide +kernel
theorem px_d86_6 : decode prog_15_method_41_code 6 = .ok (.iconst 0, 1) := by decide +kernel
theorem px_d86_7 : decode prog_15_method_41_code 7 = .ok (.istore 4, 2) := by decide +kernel
theorem px_d86_9 : decode prog_15_method_41_code 9 = .ok (.iload 4, 2) := by decide +kernel
theorem px_d86_11 : decode prog_15_method_41_code 11 = .ok (.sipush 4096, 3) := by decide +kernel
theorem px_d86_14 : decode prog_15_method_41_code 14 = .ok (.if_icmp .ge 124, 3) := by decide +kernel
theorem px_d86_17 : decode prog_15_method_41_code 17 = .ok (.aload_n 0, 1) := by decide +kernel
theorem px_d86_18 : decode prog_15_method_41_code 18 = .ok (.getfield 184, 3) := by decide +kernel
theorem px_d86_21 : decode prog_15_method_41_code 21 = .ok (.iload 4, 2) := by decide +kernel
theorem px_d86_23 : decode prog_15_method_41_code 23 = .ok (.iaload, 1) := by decide +kernel
theorem px_d86_24 : decode prog_15_method_41_code 24 = .ok (.istore 5, 2) := by decide +kernel
theorem px_d86_26 : decode prog_15_method_41_code 26 = .ok (.iload 5, 2) := by decide +kernel
theorem px_d86_28 : decode prog_15_method_41_code 28 = .ok (.iload_n 3, 1) := by decide +kernel
theorem px_d86_29 : decode prog_15_method_41_code 29 = .ok (.if_icmp .gt 103, 3) := by decide +kernel
theorem px_d86_32 : decode prog_15_method_41_code 32 = .ok (.aload_n 0, 1) := by decide +kernel
theorem px_d86_33 : decode prog_15_method_41_code 33 = .ok (.getfield 187, 3) := by decide +kernel
theorem px_d86_36 : decode prog_15_method_41_code 36 = .ok (.iload 5, 2) := by decide +kernel
theorem px_d86_38 : decode prog_15_method_41_code 38 = .ok (.iaload, 1) := by decide +kernel
theorem px_d86_39 : decode prog_15_method_41_code 39 = .ok (.aload_n 0, 1) := by decide +kernel
theorem px_d86_40 : decode prog_15_method_41_code 40 = .ok (.getfield 157, 3) := by decide +kernel
theorem px_d86_43 : decode prog_15_method_41_code 43 = .ok (.iload_n 2, 1) := by decide +kernel
theorem px_d86_44 : decode prog_15_method_41_code 44 = .ok (.iaload, 1) := by decide +kernel
theorem px_d86_45 : decode prog_15_method_41_code 45 = .ok (.if_icmp .eq 6, 3) := by decide +kernel
theorem px_d86_48 : decode prog_15_method_41_code 48 = .ok (.goto 84, 3) := by decide +kernel
theorem px_d86_51 : decode prog_15_method_41_code 51 = .ok (.iconst 0, 1) := by decide +kernel
theorem px_d86_52 : decode prog_15_method_41_code 52 = .ok (.istore 6, 2) := by decide +kernel
theorem px_d86_54 : decode prog_15_method_41_code 54 = .ok (.iload 6, 2) := by decide +kernel
theorem px_d86_56 : decode prog_15_method_41_code 56 = .ok (.sipush 4096, 3) := by decide +kernel
theorem px_d86_59 : decode prog_15_method_41_code 59 = .ok (.if_icmp .ge 73, 3) := by decide +kernel
theorem px_d86_62 : decode prog_15_method_41_code 62 = .ok (.aload_n 0, 1) := by decide +kernel
theorem px_d86_63 : decode prog_15_method_41_code 63 = .ok (.getfield 184, 3) := by decide +kernel
theorem px_d86_66 : decode prog_15_method_41_code 66 = .ok (.iload 6, 2) := by decide +kernel
theorem px_d86_68 : decode prog_15_method_41_code 68 = .ok (.iaload, 1) := by decide +kernel
theorem px_d86_69 : decode prog_15_method_41_code 69 = .ok (.istore 7, 2) := by decide +kernel
theorem px_d86_71 : decode prog_15_method_41_code 71 = .ok (.iload 7, 2) := by decide +kernel
theorem px_d86_73 : decode prog_15_method_41_code 73 = .ok (.iload_n 3, 1) := by decide +kernel
theorem px_d86_74 : decode prog_15_method_41_code 74 = .ok (.if_icmp .gt 52, 3) := by decide +kernel
theorem px_d86_77 : decode prog_15_method_41_code 77 = .ok (.iload 7, 2) := by decide +kernel
theorem px_d86_79 : decode prog_15_method_41_code 79 = .ok (.iload 5, 2) := by decide +kernel
theorem px_d86_81 : decode prog_15_method_41_code 81 = .ok (.iand, 1) := by decide +kernel
theorem px_d86_82 : decode prog_15_method_41_code 82 = .ok (.ifCond .ne 44, 3) := by decide +kernel
theorem px_d86_85 : decode prog_15_method_41_code 85 = .ok (.aload_n 0, 1) := by decide +kernel
theorem px_d86_86 : decode prog_15_method_41_code 86 = .ok (.iload_n 1, 1) := by decide +kernel
theorem px_d86_87 : decode prog_15_method_41_code 87 = .ok (.iload_n 2, 1) := by decide +kernel
theorem px_d86_88 : decode prog_15_method_41_code 88 = .ok (.iload 5, 2) := by decide +kernel
theorem px_d86_90 : decode prog_15_method_41_code 90 = .ok (.iload 7, 2) := by decide +kernel
theorem px_d86_92 : decode prog_15_method_41_code 92 = .ok (.invokevirtual 293, 3) := by decide +kernel
theorem px_d86_95 : decode prog_15_method_41_code 95 = .ok (.ifCond .eq 31, 3) := by decide +kernel
theorem px_d86_98 : decode prog_15_method_41_code 98 = .ok (.aload_n 0, 1) := by decide +kernel
theorem px_d86_99 : decode prog_15_method_41_code 99 = .ok (.iload_n 1, 1) := by decide +kernel
theorem px_d86_100 : decode prog_15_method_41_code 100 = .ok (.iload_n 2, 1) := by decide +kernel
theorem px_d86_101 : decode prog_15_method_41_code 101 = .ok (.iload 5, 2) := by decide +kernel
theorem px_d86_103 : decode prog_15_method_41_code 103 = .ok (.iload 7, 2) := by decide +kernel
theorem px_d86_105 : decode prog_15_method_41_code 105 = .ok (.iconst 0, 1) := by decide +kernel
theorem px_d86_106 : decode prog_15_method_41_code 106 = .ok (.invokevirtual 297, 3) := by decide +kernel
theorem px_d86_109 : decode prog_15_method_41_code 109 = .ok (.ifCond .eq 17, 3) := by decide +kernel
theorem px_d86_112 : decode prog_15_method_41_code 112 = .ok (.aload_n 0, 1) := by decide +kernel
theorem px_d86_113 : decode prog_15_method_41_code 113 = .ok (.iload 5, 2) := by decide +kernel
theorem px_d86_115 : decode prog_15_method_41_code 115 = .ok (.putfield 301, 3) := by decide +kernel
theorem px_d86_118 : decode prog_15_method_41_code 118 = .ok (.aload_n 0, 1) := by decide +kernel
theorem px_d86_119 : decode prog_15_method_41_code 119 = .ok (.iload 7, 2) := by decide +kernel
theorem px_d86_121 : decode prog_15_method_41_code 121 = .ok (.putfield 304, 3) := by decide +kernel
theorem px_d86_124 : decode prog_15_method_41_code 124 = .ok (.iconst 1, 1) := by decide +kernel
theorem px_d86_125 : decode prog_15_method_41_code 125 = .ok (.ireturn, 1) := by decide +kernel
theorem px_d86_126 : decode prog_15_method_41_code 126 = .ok (.iinc 6 1, 3) := by decide +kernel
theorem px_d86_129 : decode prog_15_method_41_code 129 = .ok (.goto (-75), 3) := by decide +kernel
theorem px_d86_132 : decode prog_15_method_41_code 132 = .ok (.iinc 4 1, 3) := by decide +kernel
theorem px_d86_135 : decode prog_15_method_41_code 135 = .ok (.goto (-126), 3) := by decide +kernel
theorem px_d86_138 : decode prog_15_method_41_code 138 = .ok (.iconst 0, 1) := by decide +kernel
theorem px_d86_139 : decode prog_15_method_41_code 139 = .ok (.ireturn, 1) := by decide +kernel
theorem px_d88_0 : decode prog_15_method_43_code 0 = .ok (.iload 5, 2) := by decide +kernel
theorem px_d88_2 : decode prog_15_method_43_code 2 = .ok (.aload_n 0, 1) := by decide +kernel
theorem px_d88_3 : decode prog_15_method_43_code 3 = .ok (.getfield 157, 3) := by decide +kernel
theorem px_d88_6 : decode prog_15_method_43_code 6 = .ok (.iload_n 2, 1) := by decide +kernel
theorem px_d88_7 : decode prog_15_method_43_code 7 = .ok (.iaload, 1) := by decide +kernel
theorem px_d88_8 : decode prog_15_method_43_code 8 = .ok (.if_icmp .ne 5, 3) := by decide +kernel
theorem px_d88_11 : decode prog_15_method_43_code 11 = .ok (.iconst 1, 1) := by decide +kernel
theorem px_d88_12 : decode prog_15_method_43_code 12 = .ok (.ireturn, 1) := by decide +kernel
theorem px_d88_13 : decode prog_15_method_43_code 13 = .ok (.iconst 0, 1) := by decide +kernel
theorem px_d88_14 : decode prog_15_method_43_code 14 = .ok (.istore 6, 2) := by decide +kernel
theorem px_d88_16 : decode prog_15_method_43_code 16 = .ok (.iload 6, 2) := by decide +kernel
theorem px_d88_18 : decode prog_15_method_43_code 18 = .ok (.aload_n 0, 1) := by decide +kernel
theorem px_d88_19 : decode prog_15_method_43_code 19 = .ok (.getfield 157, 3) := by decide +kernel
theorem px_d88_22 : decode prog_15_method_43_code 22 = .ok (.iload_n 1, 1) := by decide +kernel
theorem px_d88_23 : decode prog_15_method_43_code 23 = .ok (.iaload, 1) := by decide +kernel
theorem px_d88_24 : decode prog_15_method_43_code 24 = .ok (.if_icmp .ge 111, 3) := by decide +kernel
theorem px_d88_27 : decode prog_15_method_43_code 27 = .ok (.iload_n 3, 1) := by decide +kernel
theorem px_d88_28 : decode prog_15_method_43_code 28 = .ok (.iload 6, 2) := by decide +kernel
theorem px_d88_30 : decode prog_15_method_43_code 30 = .ok (.ishr, 1) := by decide +kernel
theorem px_d88_31 : decode prog_15_method_43_code 31 = .ok (.iconst 1, 1) := by decide +kernel
theorem px_d88_32 : decode prog_15_method_43_code 32 = .ok (.iand, 1) := by decide +kernel
theorem px_d88_33 : decode prog_15_method_43_code 33 = .ok (.iconst 1, 1) := by decide +kernel
theorem px_d88_34 : decode prog_15_method_43_code 34 = .ok (.if_icmp .ne 7, 3) := by decide +kernel
theorem px_d88_37 : decode prog_15_method_43_code 37 = .ok (.iconst 1, 1) := by decide +kernel
theorem px_d88_38 : decode prog_15_method_43_code 38 = .ok (.goto 4, 3) := by decide +kernel
theorem px_d88_41 : decode prog_15_method_43_code 41 = .ok (.iconst 0, 1) := by decide +kernel
theorem px_d88_42 : decode prog_15_method_43_code 42 = .ok (.istore 7, 2) := by decide +kernel
theorem px_d88_44 : decode prog_15_method_43_code 44 = .ok (.iconst 0, 1) := by decide +kernel
theorem px_d88_45 : decode prog_15_method_43_code 45 = .ok (.istore 8, 2) := by decide +kernel
theorem px_d88_47 : decode prog_15_method_43_code 47 = .ok (.iload 8, 2) := by decide +kernel
theorem px_d88_49 : decode prog_15_method_43_code 49 = .ok (.iload 5, 2) := by decide +kernel
theorem px_d88_51 : decode prog_15_method_43_code 51 = .ok (.if_icmp .ge 33, 3) := by decide +kernel
theorem px_d88_54 : decode prog_15_method_43_code 54 = .ok (.iload 7, 2) := by decide +kernel
theorem px_d88_56 : decode prog_15_method_43_code 56 = .ok (.ifCond .eq 19, 3) := by decide +kernel
theorem px_d88_59 : decode prog_15_method_43_code 59 = .ok (.aload_n 0, 1) := by decide +kernel
theorem px_d88_60 : decode prog_15_method_43_code 60 = .ok (.getfield 200, 3) := by decide +kernel
theorem px_d88_63 : decode prog_15_method_43_code 63 = .ok (.iload 8, 2) := by decide +kernel
theorem px_d88_65 : decode prog_15_method_43_code 65 = .ok (.iaload, 1) := by decide +kernel
theorem px_d88_66 : decode prog_15_method_43_code 66 = .ok (.iload 6, 2) := by decide +kernel
theorem px_d88_68 : decode prog_15_method_43_code 68 = .ok (.if_icmp .eq 7, 3) := by decide +kernel
theorem px_d88_71 : decode prog_15_method_43_code 71 = .ok (.iconst 1, 1) := by decide +kernel
theorem px_d88_72 : decode prog_15_method_43_code 72 = .ok (.goto 4, 3) := by decide +kernel
theorem px_d88_75 : decode prog_15_method_43_code 75 = .ok (.iconst 0, 1) := by decide +kernel
theorem px_d88_76 : decode prog_15_method_43_code 76 = .ok (.istore 7, 2) := by decide +kernel
theorem px_d88_78 : decode prog_15_method_43_code 78 = .ok (.iinc 8 1, 3) := by decide +kernel
theorem px_d88_81 : decode prog_15_method_43_code 81 = .ok (.goto (-34), 3) := by decide +kernel
theorem px_d88_84 : decode prog_15_method_43_code 84 = .ok (.aload_n 0, 1) := by decide +kernel
theorem px_d88_85 : decode prog_15_method_43_code 85 = .ok (.getfield 200, 3) := by decide +kernel
theorem px_d88_88 : decode prog_15_method_43_code 88 = .ok (.iload 5, 2) := by decide +kernel
theorem px_d88_90 : decode prog_15_method_43_code 90 = .ok (.iload 6, 2) := by decide +kernel
theorem px_d88_92 : decode prog_15_method_43_code 92 = .ok (.iastore, 1) := by decide +kernel
theorem px_d88_93 : decode prog_15_method_43_code 93 = .ok (.iload 7, 2) := by decide +kernel
theorem px_d88_95 : decode prog_15_method_43_code 95 = .ok (.ifCond .eq 34, 3) := by decide +kernel
theorem px_d88_98 : decode prog_15_method_43_code 98 = .ok (.aload_n 0, 1) := by decide +kernel
theorem px_d88_99 : decode prog_15_method_43_code 99 = .ok (.iload_n 1, 1) := by decide +kernel
theorem px_d88_100 : decode prog_15_method_43_code 100 = .ok (.iload_n 2, 1) := by decide +kernel
theorem px_d88_101 : decode prog_15_method_43_code 101 = .ok (.iload 4, 2) := by decide +kernel
theorem px_d88_103 : decode prog_15_method_43_code 103 = .ok (.iload 5, 2) := by decide +kernel
theorem px_d88_105 : decode prog_15_method_43_code 105 = .ok (.invokevirtual 307, 3) := by decide +kernel
theorem px_d88_108 : decode prog_15_method_43_code 108 = .ok (.ifCond .eq 21, 3) := by decide +kernel
theorem px_d88_111 : decode prog_15_method_43_code 111 = .ok (.aload_n 0, 1) := by decide +kernel
theorem px_d88_112 : decode prog_15_method_43_code 112 = .ok (.iload_n 1, 1) := by decide +kernel
theorem px_d88_113 : decode prog_15_method_43_code 113 = .ok (.iload_n 2, 1) := by decide +kernel
theorem px_d88_114 : decode prog_15_method_43_code 114 = .ok (.iload_n 3, 1) := by decide +kernel
theorem px_d88_115 : decode prog_15_method_43_code 115 = .ok (.iload 4, 2) := by decide +kernel
theorem px_d88_117 : decode prog_15_method_43_code 117 = .ok (.iload 5, 2) := by decide +kernel
theorem px_d88_119 : decode prog_15_method_43_code 119 = .ok (.iconst 1, 1) := by decide +kernel
theorem px_d88_120 : decode prog_15_method_43_code 120 = .ok (.iadd, 1) := by decide +kernel
theorem px_d88_121 : decode prog_15_method_43_code 121 = .ok (.invokevirtual 297, 3) := by decide +kernel
theorem px_d88_124 : decode prog_15_method_43_code 124 = .ok (.ifCond .eq 5, 3) := by decide +kernel
theorem px_d88_127 : decode prog_15_method_43_code 127 = .ok (.iconst 1, 1) := by decide +kernel
theorem px_d88_128 : decode prog_15_method_43_code 128 = .ok (.ireturn, 1) := by decide +kernel
theorem px_d88_129 : decode prog_15_method_43_code 129 = .ok (.iinc 6 1, 3) := by decide +kernel
theorem px_d88_132 : decode prog_15_method_43_code 132 = .ok (.goto (-116), 3) := by decide +kernel
theorem px_d88_135 : decode prog_15_method_43_code 135 = .ok (.iconst 0, 1) := by decide +kernel
theorem px_d88_136 : decode prog_15_method_43_code 136 = .ok (.ireturn, 1) := by decide +kernel
theorem px_d95_0 : decode prog_15_method_56_code 0 = .ok (.aload_n 0, 1) := by decide +kernel
theorem px_d95_1 : decode prog_15_method_56_code 1 = .ok (.getfield 338, 3) := by decide +kernel
theorem px_d95_4 : decode prog_15_method_56_code 4 = .ok (.iconst 1, 1) := by decide +kernel
theorem px_d95_5 : decode prog_15_method_56_code 5 = .ok (.if_icmp .eq 5, 3) := by decide +kernel
theorem px_d95_8 : decode prog_15_method_56_code 8 = .ok (.iconst (-1), 1) := by decide +kernel
theorem px_d95_9 : decode prog_15_method_56_code 9 = .ok (.ireturn, 1) := by decide +kernel
theorem px_d95_10 : decode prog_15_method_56_code 10 = .ok (.iconst 0, 1) := by decide +kernel
theorem px_d95_11 : decode prog_15_method_56_code 11 = .ok (.istore_n 2, 1) := by decide +kernel
theorem px_d95_12 : decode prog_15_method_56_code 12 = .ok (.iconst 0, 1) := by decide +kernel
theorem px_d95_13 : decode prog_15_method_56_code 13 = .ok (.istore_n 3, 1) := by decide +kernel
theorem px_d95_14 : decode prog_15_method_56_code 14 = .ok (.iload_n 2, 1) := by decide +kernel
theorem px_d95_15 : decode prog_15_method_56_code 15 = .ok (.iconst 1, 1) := by decide +kernel
theorem px_d95_16 : decode prog_15_method_56_code 16 = .ok (.iadd, 1) := by decide +kernel
theorem px_d95_17 : decode prog_15_method_56_code 17 = .ok (.aload_n 1, 1) := by decide +kernel
theorem px_d95_18 : decode prog_15_method_56_code 18 = .ok (.invokevirtual 348, 3) := by decide +kernel
theorem px_d95_21 : decode prog_15_method_56_code 21 = .ok (.if_icmp .ge 107, 3) := by decide +kernel
theorem px_d95_24 : decode prog_15_method_56_code 24 = .ok (.iconst 0, 1) := by decide +kernel
theorem px_d95_25 : decode prog_15_method_56_code 25 = .ok (.istore 4, 2) := by decide +kernel
theorem px_d95_27 : decode prog_15_method_56_code 27 = .ok (.aload_n 0, 1) := by decide +kernel
theorem px_d95_28 : decode prog_15_method_56_code 28 = .ok (.getfield 335, 3) := by decide +kernel
theorem px_d95_31 : decode prog_15_method_56_code 31 = .ok (.iload 4, 2) := by decide +kernel
theorem px_d95_33 : decode prog_15_method_56_code 33 = .ok (.iadd, 1) := by decide +kernel
theorem px_d95_34 : decode prog_15_method_56_code 34 = .ok (.aload_n 0, 1) := by decide +kernel
theorem px_d95_35 : decode prog_15_method_56_code 35 = .ok (.getfield 329, 3) := by decide +kernel
theorem px_d95_38 : decode prog_15_method_56_code 38 = .ok (.if_icmp .ge 34, 3) := by decide +kernel
theorem px_d95_41 : decode prog_15_method_56_code 41 = .ok (.aload_n 1, 1) := by decide +kernel
theorem px_d95_42 : decode prog_15_method_56_code 42 = .ok (.iload_n 2, 1) := by decide +kernel
theorem px_d95_43 : decode prog_15_method_56_code 43 = .ok (.iconst 1, 1) := by decide +kernel
theorem px_d95_44 : decode prog_15_method_56_code 44 = .ok (.iadd, 1) := by decide +kernel
theorem px_d95_45 : decode prog_15_method_56_code 45 = .ok (.iload 4, 2) := by decide +kernel
theorem px_d95_47 : decode prog_15_method_56_code 47 = .ok (.iadd, 1) := by decide +kernel
theorem px_d95_48 : decode prog_15_method_56_code 48 = .ok (.invokevirtual 352, 3) := by decide +kernel
theorem px_d95_51 : decode prog_15_method_56_code 51 = .ok (.aload_n 0, 1) := by decide +kernel
theorem px_d95_52 : decode prog_15_method_56_code 52 = .ok (.getfield 206, 3) := by decide +kernel
theorem px_d95_55 : decode prog_15_method_56_code 55 = .ok (.aload_n 0, 1) := by decide +kernel
theorem px_d95_56 : decode prog_15_method_56_code 56 = .ok (.getfield 335, 3) := by decide +kernel
theorem px_d95_59 : decode prog_15_method_56_code 59 = .ok (.iload 4, 2) := by decide +kernel
theorem px_d95_61 : decode prog_15_method_56_code 61 = .ok (.iadd, 1) := by decide +kernel
theorem px_d95_62 : decode prog_15_method_56_code 62 = .ok (.baload, 1) := by decide +kernel
theorem px_d95_63 : decode prog_15_method_56_code 63 = .ok (.if_icmp .ne 9, 3) := by decide +kernel
theorem px_d95_66 : decode prog_15_method_56_code 66 = .ok (.iinc 4 1, 3) := by decide +kernel
theorem px_d95_69 : decode prog_15_method_56_code 69 = .ok (.goto (-42), 3) := by decide +kernel
theorem px_d95_72 : decode prog_15_method_56_code 72 = .ok (.aload_n 0, 1) := by decide +kernel
theorem px_d95_73 : decode prog_15_method_56_code 73 = .ok (.getfield 335, 3) := by decide +kernel
theorem px_d95_76 : decode prog_15_method_56_code 76 = .ok (.iload 4, 2) := by decide +kernel
theorem px_d95_78 : decode prog_15_method_56_code 78 = .ok (.iadd, 1) := by decide +kernel
theorem px_d95_79 : decode prog_15_method_56_code 79 = .ok (.aload_n 0, 1) := by decide +kernel
theorem px_d95_80 : decode prog_15_method_56_code 80 = .ok (.getfield 329, 3) := by decide +kernel
theorem px_d95_83 : decode prog_15_method_56_code 83 = .ok (.if_icmp .ne 20, 3) := by decide +kernel
theorem px_d95_86 : decode prog_15_method_56_code 86 = .ok (.aload_n 1, 1) := by decide +kernel
theorem px_d95_87 : decode prog_15_method_56_code 87 = .ok (.iload_n 2, 1) := by decide +kernel
theorem px_d95_88 : decode prog_15_method_56_code 88 = .ok (.iconst 1, 1) := by decide +kernel
theorem px_d95_89 : decode prog_15_method_56_code 89 = .ok (.iadd, 1) := by decide +kernel
theorem px_d95_90 : decode prog_15_method_56_code 90 = .ok (.iload 4, 2) := by decide +kernel
theorem px_d95_92 : decode prog_15_method_56_code 92 = .ok (.iadd, 1) := by decide +kernel
theorem px_d95_93 : decode prog_15_method_56_code 93 = .ok (.invokevirtual 352, 3) := by decide +kernel
theorem px_d95_96 : decode prog_15_method_56_code 96 = .ok (.bipush 32, 2) := by decide +kernel
theorem px_d95_98 : decode prog_15_method_56_code 98 = .ok (.if_icmp .ne 5, 3) := by decide +kernel
theorem px_d95_101 : decode prog_15_method_56_code 101 = .ok (.iload_n 3, 1) := by decide +kernel
theorem px_d95_102 : decode prog_15_method_56_code 102 = .ok (.ireturn, 1) := by decide +kernel
theorem px_d95_103 : decode prog_15_method_56_code 103 = .ok (.iinc 2 1, 3) := by decide +kernel
theorem px_d95_106 : decode prog_15_method_56_code 106 = .ok (.aload_n 1, 1) := by decide +kernel
theorem px_d95_107 : decode prog_15_method_56_code 107 = .ok (.iload_n 2, 1) := by decide +kernel
theorem px_d95_108 : decode prog_15_method_56_code 108 = .ok (.invokevirtual 352, 3) := by decide +kernel
theorem px_d95_111 : decode prog_15_method_56_code 111 = .ok (.bipush 32, 2) := by decide +kernel
theorem px_d95_113 : decode prog_15_method_56_code 113 = .ok (.if_icmp .eq 9, 3) := by decide +kernel
theorem px_d95_116 : decode prog_15_method_56_code 116 = .ok (.iinc 2 1, 3) := by decide +kernel
theorem px_d95_119 : decode prog_15_method_56_code 119 = .ok (.goto (-13), 3) := by decide +kernel
theorem px_d95_122 : decode prog_15_method_56_code 122 = .ok (.iinc 3 1, 3) := by decide +kernel
theorem px_d95_125 : decode prog_15_method_56_code 125 = .ok (.goto (-111), 3) := by decide +kernel
theorem px_d95_128 : decode prog_15_method_56_code 128 = .ok (.iconst (-1), 1) := by decide +kernel
theorem px_d95_129 : decode prog_15_method_56_code 129 = .ok (.ireturn, 1) := by decide +kernel
theorem px_d96_0 : decode prog_15_method_62_code 0 = .ok (.aload_n 0, 1) := by decide +kernel
theorem px_d96_1 : decode prog_15_method_62_code 1 = .ok (.ldc_w 372, 3) := by decide +kernel
theorem px_d96_4 : decode prog_15_method_62_code 4 = .ok (.invokevirtual 374, 3) := by decide +kernel
theorem px_d96_7 : decode prog_15_method_62_code 7 = .ok (.istore_n 1, 1) := by decide +kernel
theorem px_d96_8 : decode prog_15_method_62_code 8 = .ok (.aload_n 0, 1) := by decide +kernel
theorem px_d96_9 : decode prog_15_method_62_code 9 = .ok (.iload_n 1, 1) := by decide +kernel
theorem px_d96_10 : decode prog_15_method_62_code 10 = .ok (.ifCond .lt 7, 3) := by decide +kernel
theorem px_d96_13 : decode prog_15_method_62_code 13 = .ok (.iconst 1, 1) := by decide +kernel
theorem px_d96_14 : decode prog_15_method_62_code 14 = .ok (.goto 4, 3) := by decide +kernel
theorem px_d96_17 : decode prog_15_method_62_code 17 = .ok (.iconst 0, 1) := by decide +kernel
theorem px_d96_18 : decode prog_15_method_62_code 18 = .ok (.invokevirtual 365, 3) := by decide +kernel
theorem px_d96_21 : decode prog_15_method_62_code 21 = .ok (.iload_n 1, 1) := by decide +kernel
theorem px_d96_22 : decode prog_15_method_62_code 22 = .ok (.ifCond .ne 67, 3) := by decide +kernel
theorem px_d96_25 : decode prog_15_method_62_code 25 = .ok (.aload_n 0, 1) := by decide +kernel
theorem px_d96_26 : decode prog_15_method_62_code 26 = .ok (.aload_n 0, 1) := by decide +kernel
theorem px_d96_27 : decode prog_15_method_62_code 27 = .ok (.getfield 338, 3) := by decide +kernel
theorem px_d96_30 : decode prog_15_method_62_code 30 = .ok (.iconst 2, 1) := by decide +kernel
theorem px_d96_31 : decode prog_15_method_62_code 31 = .ok (.if_icmp .eq 38, 3) := by decide +kernel
theorem px_d96_34 : decode prog_15_method_62_code 34 = .ok (.aload_n 0, 1) := by decide +kernel
theorem px_d96_35 : decode prog_15_method_62_code 35 = .ok (.getfield 338, 3) := by decide +kernel
theorem px_d96_38 : decode prog_15_method_62_code 38 = .ok (.iconst 1, 1) := by decide +kernel
theorem px_d96_39 : decode prog_15_method_62_code 39 = .ok (.if_icmp .ne 34, 3) := by decide +kernel
theorem px_d96_42 : decode prog_15_method_62_code 42 = .ok (.aload_n 0, 1) := by decide +kernel
theorem px_d96_43 : decode prog_15_method_62_code 43 = .ok (.getfield 329, 3) := by decide +kernel
theorem px_d96_46 : decode prog_15_method_62_code 46 = .ok (.aload_n 0, 1) := by decide +kernel
theorem px_d96_47 : decode prog_15_method_62_code 47 = .ok (.getfield 335, 3) := by decide +kernel
theorem px_d96_50 : decode prog_15_method_62_code 50 = .ok (.iconst 1, 1) := by decide +kernel
theorem px_d96_51 : decode prog_15_method_62_code 51 = .ok (.iadd, 1) := by decide +kernel
theorem px_d96_52 : decode prog_15_method_62_code 52 = .ok (.if_icmp .ne 21, 3) := by decide +kernel
theorem px_d96_55 : decode prog_15_method_62_code 55 = .ok (.aload_n 0, 1) := by decide +kernel
theorem px_d96_56 : decode prog_15_method_62_code 56 = .ok (.getfield 206, 3) := by decide +kernel
theorem px_d96_59 : decode prog_15_method_62_code 59 = .ok (.aload_n 0, 1) := by decide +kernel
theorem px_d96_60 : decode prog_15_method_62_code 60 = .ok (.getfield 335, 3) := by decide +kernel
theorem px_d96_63 : decode prog_15_method_62_code 63 = .ok (.baload, 1) := by decide +kernel
theorem px_d96_64 : decode prog_15_method_62_code 64 = .ok (.bipush 81, 2) := by decide +kernel
theorem px_d96_66 : decode prog_15_method_62_code 66 = .ok (.if_icmp .ne 7, 3) := by decide +kernel
theorem px_d96_69 : decode prog_15_method_62_code 69 = .ok (.iconst 1, 1) := by decide +kernel
theorem px_d96_70 : decode prog_15_method_62_code 70 = .ok (.goto 4, 3) := by decide +kernel
theorem px_d96_73 : decode prog_15_method_62_code 73 = .ok (.iconst 0, 1) := by decide +kernel
theorem px_d96_74 : decode prog_15_method_62_code 74 = .ok (.invokevirtual 365, 3) := by decide +kernel
theorem px_d96_77 : decode prog_15_method_62_code 77 = .ok (.aload_n 0, 1) := by decide +kernel
theorem px_d96_78 : decode prog_15_method_62_code 78 = .ok (.invokevirtual 369, 3) := by decide +kernel
theorem px_d96_81 : decode prog_15_method_62_code 81 = .ok (.aload_n 0, 1) := by decide +kernel
theorem px_d96_82 : decode prog_15_method_62_code 82 = .ok (.iconst 1, 1) := by decide +kernel
theorem px_d96_83 : decode prog_15_method_62_code 83 = .ok (.invokevirtual 378, 3) := by decide +kernel
theorem px_d96_86 : decode prog_15_method_62_code 86 = .ok (.goto 67, 3) := by decide +kernel
theorem px_d96_89 : decode prog_15_method_62_code 89 = .ok (.iload_n 1, 1) := by decide +kernel
theorem px_d96_90 : decode prog_15_method_62_code 90 = .ok (.iconst 1, 1) := by decide +kernel
theorem px_d96_91 : decode prog_15_method_62_code 91 = .ok (.if_icmp .ne 14, 3) := by decide +kernel
theorem px_d96_94 : decode prog_15_method_62_code 94 = .ok (.aload_n 0, 1) := by decide +kernel
theorem px_d96_95 : decode prog_15_method_62_code 95 = .ok (.invokevirtual 369, 3) := by decide +kernel
theorem px_d96_98 : decode prog_15_method_62_code 98 = .ok (.aload_n 0, 1) := by decide +kernel
theorem px_d96_99 : decode prog_15_method_62_code 99 = .ok (.invokevirtual 381, 3) := by decide +kernel
theorem px_d96_102 : decode prog_15_method_62_code 102 = .ok (.goto 51, 3) := by decide +kernel
theorem px_d96_105 : decode prog_15_method_62_code 105 = .ok (.iload_n 1, 1) := by decide +kernel
theorem px_d96_106 : decode prog_15_method_62_code 106 = .ok (.iconst 2, 1) := by decide +kernel
theorem px_d96_107 : decode prog_15_method_62_code 107 = .ok (.if_icmp .ne 14, 3) := by decide +kernel
theorem px_d96_110 : decode prog_15_method_62_code 110 = .ok (.aload_n 0, 1) := by decide +kernel
theorem px_d96_111 : decode prog_15_method_62_code 111 = .ok (.invokevirtual 369, 3) := by decide +kernel
theorem px_d96_114 : decode prog_15_method_62_code 114 = .ok (.aload_n 0, 1) := by decide +kernel
theorem px_d96_115 : decode prog_15_method_62_code 115 = .ok (.invokevirtual 369, 3) := by decide +kernel
theorem px_d96_118 : decode prog_15_method_62_code 118 = .ok (.goto 35, 3) := by decide +kernel
theorem px_d96_121 : decode prog_15_method_62_code 121 = .ok (.aload_n 0, 1) := by decide +kernel
theorem px_d96_122 : decode prog_15_method_62_code 122 = .ok (.invokevirtual 384, 3) := by decide +kernel
theorem px_d96_125 : decode prog_15_method_62_code 125 = .ok (.iload_n 1, 1) := by decide +kernel
theorem px_d96_126 : decode prog_15_method_62_code 126 = .ok (.iconst 4, 1) := by decide +kernel
theorem px_d96_127 : decode prog_15_method_62_code 127 = .ok (.if_icmp .eq 8, 3) := by decide +kernel
theorem px_d96_130 : decode prog_15_method_62_code 130 = .ok (.iload_n 1, 1) := by decide +kernel
theorem px_d96_131 : decode prog_15_method_62_code 131 = .ok (.iconst 5, 1) := by decide +kernel
theorem px_d96_132 : decode prog_15_method_62_code 132 = .ok (.if_icmp .ne 11, 3) := by decide +kernel
theorem px_d96_135 : decode prog_15_method_62_code 135 = .ok (.aload_n 0, 1) := by decide +kernel
theorem px_d96_136 : decode prog_15_method_62_code 136 = .ok (.iconst 0, 1) := by decide +kernel
theorem px_d96_137 : decode prog_15_method_62_code 137 = .ok (.invokevirtual 378, 3) := by decide +kernel
theorem px_d96_140 : decode prog_15_method_62_code 140 = .ok (.goto 13, 3) := by decide +kernel
theorem px_d96_143 : decode prog_15_method_62_code 143 = .ok (.iload_n 1, 1) := by decide +kernel
theorem px_d96_144 : decode prog_15_method_62_code 144 = .ok (.bipush 6, 2) := by decide +kernel
theorem px_d96_146 : decode prog_15_method_62_code 146 = .ok (.if_icmp .ne 7, 3) := by decide +kernel
theorem px_d96_149 : decode prog_15_method_62_code 149 = .ok (.aload_n 0, 1) := by decide +kernel
theorem px_d96_150 : decode prog_15_method_62_code 150 = .ok (.invokevirtual 384, 3) := by decide +kernel
theorem px_d96_153 : decode prog_15_method_62_code 153 = .ok (.return_, 1) := by decide +kernel
theorem px_d97_0 : decode prog_15_method_63_code 0 = .ok (.aload_n 0, 1) := by decide +kernel
theorem px_d97_1 : decode prog_15_method_63_code 1 = .ok (.iconst 0, 1) := by decide +kernel
theorem px_d97_2 : decode prog_15_method_63_code 2 = .ok (.putfield 356, 3) := by decide +kernel
theorem px_d97_5 : decode prog_15_method_63_code 5 = .ok (.aload_n 0, 1) := by decide +kernel
theorem px_d97_6 : decode prog_15_method_63_code 6 = .ok (.iconst 0, 1) := by decide +kernel
theorem px_d97_7 : decode prog_15_method_63_code 7 = .ok (.putfield 329, 3) := by decide +kernel
theorem px_d97_10 : decode prog_15_method_63_code 10 = .ok (.aload_n 0, 1) := by decide +kernel
theorem px_d97_11 : decode prog_15_method_63_code 11 = .ok (.invokevirtual 359, 3) := by decide +kernel
theorem px_d97_14 : decode prog_15_method_63_code 14 = .ok (.iconst 0, 1) := by decide +kernel
theorem px_d97_15 : decode prog_15_method_63_code 15 = .ok (.istore_n 1, 1) := by decide +kernel
theorem px_d97_16 : decode prog_15_method_63_code 16 = .ok (.aload_n 0, 1) := by decide +kernel
theorem px_d97_17 : decode prog_15_method_63_code 17 = .ok (.getfield 356, 3) := by decide +kernel
theorem px_d97_20 : decode prog_15_method_63_code 20 = .ok (.ifCond .ne 138, 3) := by decide +kernel
theorem px_d97_23 : decode prog_15_method_63_code 23 = .ok (.aload_n 0, 1) := by decide +kernel
theorem px_d97_24 : decode prog_15_method_63_code 24 = .ok (.getfield 338, 3) := by decide +kernel
theorem px_d97_27 : decode prog_15_method_63_code 27 = .ok (.ifCond .eq 131, 3) := by decide +kernel
theorem px_d97_30 : decode prog_15_method_63_code 30 = .ok (.iload_n 1, 1) := by decide +kernel
theorem px_d97_31 : decode prog_15_method_63_code 31 = .ok (.sipush 400, 3) := by decide +kernel
theorem px_d97_34 : decode prog_15_method_63_code 34 = .ok (.if_icmp .ne 11, 3) := by decide +kernel
theorem px_d97_37 : decode prog_15_method_63_code 37 = .ok (.aload_n 0, 1) := by decide +kernel
theorem px_d97_38 : decode prog_15_method_63_code 38 = .ok (.iconst 0, 1) := by decide +kernel
theorem px_d97_39 : decode prog_15_method_63_code 39 = .ok (.invokevirtual 365, 3) := by decide +kernel
theorem px_d97_42 : decode prog_15_method_63_code 42 = .ok (.goto 92, 3) := by decide +kernel
theorem px_d97_45 : decode prog_15_method_63_code 45 = .ok (.aload_n 0, 1) := by decide +kernel
theorem px_d97_46 : decode prog_15_method_63_code 46 = .ok (.invokevirtual 362, 3) := by decide +kernel
theorem px_d97_49 : decode prog_15_method_63_code 49 = .ok (.ifCond .eq 32, 3) := by decide +kernel
theorem px_d97_52 : decode prog_15_method_63_code 52 = .ok (.aload_n 0, 1) := by decide +kernel
theorem px_d97_53 : decode prog_15_method_63_code 53 = .ok (.invokevirtual 359, 3) := by decide +kernel
theorem px_d97_56 : decode prog_15_method_63_code 56 = .ok (.aload_n 0, 1) := by decide +kernel
theorem px_d97_57 : decode prog_15_method_63_code 57 = .ok (.aload_n 0, 1) := by decide +kernel
theorem px_d97_58 : decode prog_15_method_63_code 58 = .ok (.getfield 338, 3) := by decide +kernel
theorem px_d97_61 : decode prog_15_method_63_code 61 = .ok (.bipush 61, 2) := by decide +kernel
theorem px_d97_63 : decode prog_15_method_63_code 63 = .ok (.if_icmp .ne 7, 3) := by decide +kernel
theorem px_d97_66 : decode prog_15_method_63_code 66 = .ok (.iconst 1, 1) := by decide +kernel
theorem px_d97_67 : decode prog_15_method_63_code 67 = .ok (.goto 4, 3) := by decide +kernel
theorem px_d97_70 : decode prog_15_method_63_code 70 = .ok (.iconst 0, 1) := by decide +kernel
theorem px_d97_71 : decode prog_15_method_63_code 71 = .ok (.invokevirtual 365, 3) := by decide +kernel
theorem px_d97_74 : decode prog_15_method_63_code 74 = .ok (.aload_n 0, 1) := by decide +kernel
theorem px_d97_75 : decode prog_15_method_63_code 75 = .ok (.invokevirtual 387, 3) := by decide +kernel
theorem px_d97_78 : decode prog_15_method_63_code 78 = .ok (.goto 56, 3) := by decide +kernel
theorem px_d97_81 : decode prog_15_method_63_code 81 = .ok (.aload_n 0, 1) := by decide +kernel
theorem px_d97_82 : decode prog_15_method_63_code 82 = .ok (.ldc_w 390, 3) := by decide +kernel
theorem px_d97_85 : decode prog_15_method_63_code 85 = .ok (.invokevirtual 374, 3) := by decide +kernel
theorem px_d97_88 : decode prog_15_method_63_code 88 = .ok (.istore_n 2, 1) := by decide +kernel
theorem px_d97_89 : decode prog_15_method_63_code 89 = .ok (.aload_n 0, 1) := by decide +kernel
theorem px_d97_90 : decode prog_15_method_63_code 90 = .ok (.iload_n 2, 1) := by decide +kernel
theorem px_d97_91 : decode prog_15_method_63_code 91 = .ok (.ifCond .lt 7, 3) := by decide +kernel
theorem px_d97_94 : decode prog_15_method_63_code 94 = .ok (.iconst 1, 1) := by decide +kernel
theorem px_d97_95 : decode prog_15_method_63_code 95 = .ok (.goto 4, 3) := by decide +kernel
theorem px_d97_98 : decode prog_15_method_63_code 98 = .ok (.iconst 0, 1) := by decide +kernel
theorem px_d97_99 : decode prog_15_method_63_code 99 = .ok (.invokevirtual 365, 3) := by decide +kernel
theorem px_d97_102 : decode prog_15_method_63_code 102 = .ok (.aload_n 0, 1) := by decide +kernel
theorem px_d97_103 : decode prog_15_method_63_code 103 = .ok (.invokevirtual 384, 3) := by decide +kernel
theorem px_d97_106 : decode prog_15_method_63_code 106 = .ok (.iload_n 2, 1) := by decide +kernel
theorem px_d97_107 : decode prog_15_method_63_code 107 = .ok (.ifCond .ne 11, 3) := by decide +kernel
theorem px_d97_110 : decode prog_15_method_63_code 110 = .ok (.aload_n 0, 1) := by decide +kernel
theorem px_d97_111 : decode prog_15_method_63_code 111 = .ok (.iconst 0, 1) := by decide +kernel
theorem px_d97_112 : decode prog_15_method_63_code 112 = .ok (.invokevirtual 378, 3) := by decide +kernel
theorem px_d97_115 : decode prog_15_method_63_code 115 = .ok (.goto 19, 3) := by decide +kernel
theorem px_d97_118 : decode prog_15_method_63_code 118 = .ok (.iload_n 2, 1) := by decide +kernel
theorem px_d97_119 : decode prog_15_method_63_code 119 = .ok (.bipush 8, 2) := by decide +kernel
theorem px_d97_121 : decode prog_15_method_63_code 121 = .ok (.if_icmp .eq 9, 3) := by decide +kernel
theorem px_d97_124 : decode prog_15_method_63_code 124 = .ok (.iload_n 2, 1) := by decide +kernel
theorem px_d97_125 : decode prog_15_method_63_code 125 = .ok (.bipush 11, 2) := by decide +kernel
theorem px_d97_127 : decode prog_15_method_63_code 127 = .ok (.if_icmp .ne 7, 3) := by decide +kernel
theorem px_d97_130 : decode prog_15_method_63_code 130 = .ok (.aload_n 0, 1) := by decide +kernel
theorem px_d97_131 : decode prog_15_method_63_code 131 = .ok (.invokevirtual 384, 3) := by decide +kernel
theorem px_d97_134 : decode prog_15_method_63_code 134 = .ok (.aload_n 0, 1) := by decide +kernel
theorem px_d97_135 : decode prog_15_method_63_code 135 = .ok (.aload_n 0, 1) := by decide +kernel
theorem px_d97_136 : decode prog_15_method_63_code 136 = .ok (.getfield 338, 3) := by decide +kernel
theorem px_d97_139 : decode prog_15_method_63_code 139 = .ok (.bipush 59, 2) := by decide +kernel
theorem px_d97_141 : decode prog_15_method_63_code 141 = .ok (.if_icmp .ne 7, 3) := by decide +kernel
theorem px_d97_144 : decode prog_15_method_63_code 144 = .ok (.iconst 1, 1) := by decide +kernel
theorem px_d97_145 : decode prog_15_method_63_code 145 = .ok (.goto 4, 3) := by decide +kernel
theorem px_d97_148 : decode prog_15_method_63_code 148 = .ok (.iconst 0, 1) := by decide +kernel
theorem px_d97_149 : decode prog_15_method_63_code 149 = .ok (.invokevirtual 365, 3) := by decide +kernel
theorem px_d97_152 : decode prog_15_method_63_code 152 = .ok (.iinc 1 1, 3) := by decide +kernel
theorem px_d97_155 : decode prog_15_method_63_code 155 = .ok (.goto (-139), 3) := by decide +kernel
theorem px_d97_158 : decode prog_15_method_63_code 158 = .ok (.aload_n 0, 1) := by decide +kernel
theorem px_d97_159 : decode prog_15_method_63_code 159 = .ok (.getfield 356, 3) := by decide +kernel
theorem px_d97_162 : decode prog_15_method_63_code 162 = .ok (.ifCond .ne 7, 3) := by decide +kernel
theorem px_d97_165 : decode prog_15_method_63_code 165 = .ok (.iconst 1, 1) := by decide +kernel
theorem px_d97_166 : decode prog_15_method_63_code 166 = .ok (.goto 4, 3) := by decide +kernel
theorem px_d97_169 : decode prog_15_method_63_code 169 = .ok (.iconst 0, 1) := by decide +kernel
theorem px_d97_170 : decode prog_15_method_63_code 170 = .ok (.ireturn, 1) := by decide +kernel
theorem px_d102_0 : decode prog_15_method_72_code 0 = .ok (.aload_n 0, 1) := by decide +kernel
theorem px_d102_1 : decode prog_15_method_72_code 1 = .ok (.ldc_w 372, 3) := by decide +kernel
theorem px_d102_4 : decode prog_15_method_72_code 4 = .ok (.invokevirtual 374, 3) := by decide +kernel
theorem px_d102_7 : decode prog_15_method_72_code 7 = .ok (.istore_n 2, 1) := by decide +kernel
theorem px_d102_8 : decode prog_15_method_72_code 8 = .ok (.aload_n 0, 1) := by decide +kernel
theorem px_d102_9 : decode prog_15_method_72_code 9 = .ok (.invokevirtual 359, 3) := by decide +kernel
theorem px_d102_12 : decode prog_15_method_72_code 12 = .ok (.iload_n 2, 1) := by decide +kernel
theorem px_d102_13 : decode prog_15_method_72_code 13 = .ok (.ifCond .ne 9, 3) := by decide +kernel
theorem px_d102_16 : decode prog_15_method_72_code 16 = .ok (.aload_n 0, 1) := by decide +kernel
theorem px_d102_17 : decode prog_15_method_72_code 17 = .ok (.iload_n 1, 1) := by decide +kernel
theorem px_d102_18 : decode prog_15_method_72_code 18 = .ok (.invokevirtual 410, 3) := by decide +kernel
theorem px_d102_21 : decode prog_15_method_72_code 21 = .ok (.return_, 1) := by decide +kernel
theorem px_d102_22 : decode prog_15_method_72_code 22 = .ok (.iload_n 2, 1) := by decide +kernel
theorem px_d102_23 : decode prog_15_method_72_code 23 = .ok (.iconst 1, 1) := by decide +kernel
theorem px_d102_24 : decode prog_15_method_72_code 24 = .ok (.if_icmp .ne 9, 3) := by decide +kernel
theorem px_d102_27 : decode prog_15_method_72_code 27 = .ok (.aload_n 0, 1) := by decide +kernel
theorem px_d102_28 : decode prog_15_method_72_code 28 = .ok (.iload_n 1, 1) := by decide +kernel
theorem px_d102_29 : decode prog_15_method_72_code 29 = .ok (.invokevirtual 413, 3) := by decide +kernel
theorem px_d102_32 : decode prog_15_method_72_code 32 = .ok (.return_, 1) := by decide +kernel
theorem px_d102_33 : decode prog_15_method_72_code 33 = .ok (.iload_n 2, 1) := by decide +kernel
theorem px_d102_34 : decode prog_15_method_72_code 34 = .ok (.iconst 2, 1) := by decide +kernel
theorem px_d102_35 : decode prog_15_method_72_code 35 = .ok (.if_icmp .ne 9, 3) := by decide +kernel
theorem px_d102_38 : decode prog_15_method_72_code 38 = .ok (.aload_n 0, 1) := by decide +kernel
theorem px_d102_39 : decode prog_15_method_72_code 39 = .ok (.iload_n 1, 1) := by decide +kernel
theorem px_d102_40 : decode prog_15_method_72_code 40 = .ok (.invokevirtual 416, 3) := by decide +kernel
theorem px_d102_43 : decode prog_15_method_72_code 43 = .ok (.return_, 1) := by decide +kernel
theorem px_d102_44 : decode prog_15_method_72_code 44 = .ok (.aload_n 0, 1) := by decide +kernel
theorem px_d102_45 : decode prog_15_method_72_code 45 = .ok (.invokevirtual 419, 3) := by decide +kernel
theorem px_d102_48 : decode prog_15_method_72_code 48 = .ok (.istore_n 3, 1) := by decide +kernel
theorem px_d102_49 : decode prog_15_method_72_code 49 = .ok (.iload_n 2, 1) := by decide +kernel
theorem px_d102_50 : decode prog_15_method_72_code 50 = .ok (.bipush 6, 2) := by decide +kernel
theorem px_d102_52 : decode prog_15_method_72_code 52 = .ok (.if_icmp .ne 151, 3) := by decide +kernel
theorem px_d102_55 : decode prog_15_method_72_code 55 = .ok (.aload_n 0, 1) := by decide +kernel
theorem px_d102_56 : decode prog_15_method_72_code 56 = .ok (.invokevirtual 419, 3) := by decide +kernel
theorem px_d102_59 : decode prog_15_method_72_code 59 = .ok (.istore 4, 2) := by decide +kernel
theorem px_d102_61 : decode prog_15_method_72_code 61 = .ok (.aload_n 0, 1) := by decide +kernel
theorem px_d102_62 : decode prog_15_method_72_code 62 = .ok (.aload_n 0, 1) := by decide +kernel
theorem px_d102_63 : decode prog_15_method_72_code 63 = .ok (.getfield 153, 3) := by decide +kernel
theorem px_d102_66 : decode prog_15_method_72_code 66 = .ok (.iload_n 3, 1) := by decide +kernel
theorem px_d102_67 : decode prog_15_method_72_code 67 = .ok (.baload, 1) := by decide +kernel
theorem px_d102_68 : decode prog_15_method_72_code 68 = .ok (.iconst 1, 1) := by decide +kernel
theorem px_d102_69 : decode prog_15_method_72_code 69 = .ok (.invokevirtual 404, 3) := by decide +kernel
theorem px_d102_72 : decode prog_15_method_72_code 72 = .ok (.ifCond .eq 130, 3) := by decide +kernel
theorem px_d102_75 : decode prog_15_method_72_code 75 = .ok (.aload_n 0, 1) := by decide +kernel
theorem px_d102_76 : decode prog_15_method_72_code 76 = .ok (.aload_n 0, 1) := by decide +kernel
theorem px_d102_77 : decode prog_15_method_72_code 77 = .ok (.getfield 153, 3) := by decide +kernel
theorem px_d102_80 : decode prog_15_method_72_code 80 = .ok (.iload 4, 2) := by decide +kernel
theorem px_d102_82 : decode prog_15_method_72_code 82 = .ok (.baload, 1) := by decide +kernel
theorem px_d102_83 : decode prog_15_method_72_code 83 = .ok (.iconst 1, 1) := by decide +kernel
theorem px_d102_84 : decode prog_15_method_72_code 84 = .ok (.invokevirtual 404, 3) := by decide +kernel
theorem px_d102_87 : decode prog_15_method_72_code 87 = .ok (.ifCond .eq 115, 3) := by decide +kernel
theorem px_d102_90 : decode prog_15_method_72_code 90 = .ok (.aload_n 0, 1) := by decide +kernel
theorem px_d102_91 : decode prog_15_method_72_code 91 = .ok (.aload_n 0, 1) := by decide +kernel
theorem px_d102_92 : decode prog_15_method_72_code 92 = .ok (.getfield 157, 3) := by decide +kernel
theorem px_d102_95 : decode prog_15_method_72_code 95 = .ok (.iload_n 3, 1) := by decide +kernel
theorem px_d102_96 : decode prog_15_method_72_code 96 = .ok (.iaload, 1) := by decide +kernel
theorem px_d102_97 : decode prog_15_method_72_code 97 = .ok (.aload_n 0, 1) := by decide +kernel
theorem px_d102_98 : decode prog_15_method_72_code 98 = .ok (.getfield 157, 3) := by decide +kernel
theorem px_d102_101 : decode prog_15_method_72_code 101 = .ok (.iload 4, 2) := by decide +kernel
theorem px_d102_103 : decode prog_15_method_72_code 103 = .ok (.iaload, 1) := by decide +kernel
theorem px_d102_104 : decode prog_15_method_72_code 104 = .ok (.iadd, 1) := by decide +kernel
theorem px_d102_105 : decode prog_15_method_72_code 105 = .ok (.bipush 12, 2) := by decide +kernel
theorem px_d102_107 : decode prog_15_method_72_code 107 = .ok (.if_icmp .gt 7, 3) := by decide +kernel
theorem px_d102_110 : decode prog_15_method_72_code 110 = .ok (.iconst 1, 1) := by decide +kernel
theorem px_d102_111 : decode prog_15_method_72_code 111 = .ok (.goto 4, 3) := by decide +kernel
theorem px_d102_114 : decode prog_15_method_72_code 114 = .ok (.iconst 0, 1) := by decide +kernel
theorem px_d102_115 : decode prog_15_method_72_code 115 = .ok (.iconst 3, 1) := by decide +kernel
theorem px_d102_116 : decode prog_15_method_72_code 116 = .ok (.invokevirtual 404, 3) := by decide +kernel
theorem px_d102_119 : decode prog_15_method_72_code 119 = .ok (.ifCond .eq 83, 3) := by decide +kernel
theorem px_d102_122 : decode prog_15_method_72_code 122 = .ok (.aload_n 0, 1) := by decide +kernel
theorem px_d102_123 : decode prog_15_method_72_code 123 = .ok (.aload_n 0, 1) := by decide +kernel
theorem px_d102_124 : decode prog_15_method_72_code 124 = .ok (.getfield 160, 3) := by decide +kernel
theorem px_d102_127 : decode prog_15_method_72_code 127 = .ok (.iload_n 3, 1) := by decide +kernel
theorem px_d102_128 : decode prog_15_method_72_code 128 = .ok (.iaload, 1) := by decide +kernel
theorem px_d102_129 : decode prog_15_method_72_code 129 = .ok (.aload_n 0, 1) := by decide +kernel
theorem px_d102_130 : decode prog_15_method_72_code 130 = .ok (.getfield 160, 3) := by decide +kernel
theorem px_d102_133 : decode prog_15_method_72_code 133 = .ok (.iload 4, 2) := by decide +kernel
theorem px_d102_135 : decode prog_15_method_72_code 135 = .ok (.iaload, 1) := by decide +kernel
theorem px_d102_136 : decode prog_15_method_72_code 136 = .ok (.if_icmp .ne 7, 3) := by decide +kernel
theorem px_d102_139 : decode prog_15_method_72_code 139 = .ok (.iconst 1, 1) := by decide +kernel
theorem px_d102_140 : decode prog_15_method_72_code 140 = .ok (.goto 4, 3) := by decide +kernel
theorem px_d102_143 : decode prog_15_method_72_code 143 = .ok (.iconst 0, 1) := by decide +kernel
theorem px_d102_144 : decode prog_15_method_72_code 144 = .ok (.iconst 4, 1) := by decide +kernel
theorem px_d102_145 : decode prog_15_method_72_code 145 = .ok (.invokevirtual 404, 3) := by decide +kernel
theorem px_d102_148 : decode prog_15_method_72_code 148 = .ok (.ifCond .eq 54, 3) := by decide +kernel
theorem px_d102_151 : decode prog_15_method_72_code 151 = .ok (.aload_n 0, 1) := by decide +kernel
theorem px_d102_152 : decode prog_15_method_72_code 152 = .ok (.aload_n 0, 1) := by decide +kernel
theorem px_d102_153 : decode prog_15_method_72_code 153 = .ok (.getfield 160, 3) := by decide +kernel
theorem px_d102_156 : decode prog_15_method_72_code 156 = .ok (.iload_n 3, 1) := by decide +kernel
theorem px_d102_157 : decode prog_15_method_72_code 157 = .ok (.iaload, 1) := by decide +kernel
theorem px_d102_158 : decode prog_15_method_72_code 158 = .ok (.aload_n 0, 1) := by decide +kernel
theorem px_d102_159 : decode prog_15_method_72_code 159 = .ok (.getfield 157, 3) := by decide +kernel
theorem px_d102_162 : decode prog_15_method_72_code 162 = .ok (.iload_n 3, 1) := by decide +kernel
theorem px_d102_163 : decode prog_15_method_72_code 163 = .ok (.iaload, 1) := by decide +kernel
theorem px_d102_164 : decode prog_15_method_72_code 164 = .ok (.aload_n 0, 1) := by decide +kernel
theorem px_d102_165 : decode prog_15_method_72_code 165 = .ok (.getfield 157, 3) := by decide +kernel
theorem px_d102_168 : decode prog_15_method_72_code 168 = .ok (.iload 4, 2) := by decide +kernel
theorem px_d102_170 : decode prog_15_method_72_code 170 = .ok (.iaload, 1) := by decide +kernel
theorem px_d102_171 : decode prog_15_method_72_code 171 = .ok (.iadd, 1) := by decide +kernel
theorem px_d102_172 : decode prog_15_method_72_code 172 = .ok (.invokevirtual 310, 3) := by decide +kernel
theorem px_d102_175 : decode prog_15_method_72_code 175 = .ok (.aload_n 0, 1) := by decide +kernel
theorem px_d102_176 : decode prog_15_method_72_code 176 = .ok (.getfield 157, 3) := by decide +kernel
theorem px_d102_179 : decode prog_15_method_72_code 179 = .ok (.iload_n 3, 1) := by decide +kernel
theorem px_d102_180 : decode prog_15_method_72_code 180 = .ok (.iaload, 1) := by decide +kernel
theorem px_d102_181 : decode prog_15_method_72_code 181 = .ok (.istore 5, 2) := by decide +kernel
theorem px_d102_183 : decode prog_15_method_72_code 183 = .ok (.aload_n 0, 1) := by decide +kernel
theorem px_d102_184 : decode prog_15_method_72_code 184 = .ok (.iload_n 3, 1) := by decide +kernel
theorem px_d102_185 : decode prog_15_method_72_code 185 = .ok (.iconst 0, 1) := by decide +kernel
theorem px_d102_186 : decode prog_15_method_72_code 186 = .ok (.invokevirtual 422, 3) := by decide +kernel
theorem px_d102_189 : decode prog_15_method_72_code 189 = .ok (.aload_n 0, 1) := by decide +kernel
theorem px_d102_190 : decode prog_15_method_72_code 190 = .ok (.iload 4, 2) := by decide +kernel
theorem px_d102_192 : decode prog_15_method_72_code 192 = .ok (.iload 5, 2) := by decide +kernel
theorem px_d102_194 : decode prog_15_method_72_code 194 = .ok (.invokevirtual 422, 3) := by decide +kernel
theorem px_d102_197 : decode prog_15_method_72_code 197 = .ok (.aload_n 0, 1) := by decide +kernel
