theorem px_d86_0 : decode prog_15_method_41_code 0 = .ok (.aload_n 0, 1) := by decide +kernel
theorem px_d86_1 : decode prog_15_method_41_code 1 = .ok (.iload_n 1, 1) := by decide +kernel
theorem px_d86_2 : decode prog_15_method_41_code 2 = .ok (.invokevirtual 262, 3) := by decide +kernel
theorem px_d86_5 : decode prog_15_method_41_code 5 = .ok (.istore_n 3, 1) := by decide +kernel
theorem px_d86_6 : decode prog_15_method_41_code 6 = .ok (.iconst 0, 1) := by decide +kernel
theorem px_d86_7 : decode prog_15_method_41_code 7 = .ok (.istore 4, 2) := by decide +kernel
theorem px_d86_9 : decode prog_15_method_41_code 9 = .ok (.iload 4, 2) := by decide +kernel
theorem px_d86_11 : decode prog_15_method_41_code 11 = .ok (.sipush 4096, 3) := by decide +kernel
theorem px_d86_14 : decode prog_15_method_41_code 14 = .ok (.if_icmp .ge 124, 3) := by decide +kernel
theorem px_d86_17 : decode prog_15_method_41_code 17 = .ok (.aload_n 0, 1) := by decide +kernel
theorem px_d86_18 : decode prog_15_method_41_code 18 = .ok (.getfield 184, 3) := by decide +kernel
theorem px_d86_21 : decode prog_15_method_41_code 21 = .ok (.iload 4, 2) := by decide +kernel
theorem px_d86_23 : decode prog_15_method_41_code 23 = .ok (.iaload, 1) := by decide +kernel
theorem px_d86_24 : decode prog_15_method_41_code 24 = .ok (.istore 5, 2) := by decide +kernel
theorem px_d86_26 : decode prog_15_method_41_code 26 = .ok (.iload 5, 2) := by decide +kernel
theorem px_d86_28 : decode prog_15_method_41_code 28 = .ok (.iload_n 3, 1) := by decide +kernel
theorem px_d86_29 : decode prog_15_method_41_code 29 = .ok (.if_icmp .gt 103, 3) := by decide +kernel
theorem px_d86_32 : decode prog_15_method_41_code 32 = .ok (.aload_n 0, 1) := by decide +kernel
theorem px_d86_33 : decode prog_15_method_41_code 33 = .ok (.getfield 187, 3) := by decide +kernel
theorem px_d86_36 : decode prog_15_method_41_code 36 = .ok (.iload 5, 2) := by decide +kernel
theorem px_d86_38 : decode prog_15_method_41_code 38 = .ok (.iaload, 1) := by decide +kernel
theorem px_d86_39 : decode prog_15_method_41_code 39 = .ok (.aload_n 0, 1) := by decide +kernel
theorem px_d86_40 : decode prog_15_method_41_code 40 = .ok (.getfield 157, 3) := by decide +kernel
theorem px_d86_43 : decode prog_15_method_41_code 43 = .ok (.iload_n 2, 1) := by decide +kernel
theorem px_d86_44 : decode prog_15_method_41_code 44 = .ok (.iaload, 1) := by decide +kernel
theorem px_d86_45 : decode prog_15_method_41_code 45 = .ok (.if_icmp .eq 6, 3) := by decide +kernel
theorem px_d86_48 : decode prog_15_method_41_code 48 = .ok (.goto 84, 3) := by decide +kernel
theorem px_d86_51 : decode prog_15_method_41_code 51 = .ok (.iconst 0, 1) := by decide +kernel
theorem px_d86_52 : decode prog_15_method_41_code 52 = .ok (.istore 6, 2) := by decide +kernel
theorem px_d86_54 : decode prog_15_method_41_code 54 = .ok (.iload 6, 2) := by decide +kernel
theorem px_d86_56 : decode prog_15_method_41_code 56 = .ok (.sipush 4096, 3) := by decide +kernel
theorem px_d86_59 : decode prog_15_method_41_code 59 = .ok (.if_icmp .ge 73, 3) := by decide +kernel
theorem px_d86_62 : decode prog_15_method_41_code 62 = .ok (.aload_n 0, 1) := by decide +kernel
theorem px_d86_63 : decode prog_15_method_41_code 63 = .ok (.getfield 184, 3) := by decide +kernel
theorem px_d86_66 : decode prog_15_method_41_code 66 = .ok (.iload 6, 2) := by decide +kernel
theorem px_d86_68 : decode prog_15_method_41_code 68 = .ok (.iaload, 1) := by decide +kernel
theorem px_d86_69 : decode prog_15_method_41_code 69 = .ok (.istore 7, 2) := by decide +kernel
theorem px_d86_71 : decode prog_15_method_41_code 71 = .ok (.iload 7, 2) := by decide +kernel
theorem px_d86_73 : decode prog_15_method_41_code 73 = .ok (.iload_n 3, 1) := by decide +kernel
theorem px_d86_74 : decode prog_15_method_41_code 74 = .ok (.if_icmp .gt 52, 3) := by decide +kernel
theorem px_d86_77 : decode prog_15_method_41_code 77 = .ok (.iload 7, 2) := by decide +kernel
theorem px_d86_79 : decode prog_15_method_41_code 79 = .ok (.iload 5, 2) := by decide +kernel
theorem px_d86_81 : decode prog_15_method_41_code 81 = .ok (.iand, 1) := by decide +kernel
theorem px_d86_82 : decode prog_15_method_41_code 82 = .ok (.ifCond .ne 44, 3) := by decide +kernel
theorem px_d86_85 : decode prog_15_method_41_code 85 = .ok (.aload_n 0, 1) := by decide +kernel
theorem px_d86_86 : decode prog_15_method_41_code 86 = .ok (.iload_n 1, 1) := by decide +kernel
theorem px_d86_87 : decode prog_15_method_41_code 87 = .ok (.iload_n 2, 1) := by decide +kernel
theorem px_d86_88 : decode prog_15_method_41_code 88 = .ok (.iload 5, 2) := by decide +kernel
theorem px_d86_90 : decode prog_15_method_41_code 90 = .ok (.iload 7, 2) := by decide +kernel
theorem px_d86_92 : decode prog_15_method_41_code 92 = .ok (.invokevirtual 293, 3) := by decide +kernel
theorem px_d86_95 : decode prog_15_method_41_code 95 = .ok (.ifCond .eq 31, 3) := by decide +kernel
theorem px_d86_98 : decode prog_15_method_41_code 98 = .ok (.aload_n 0, 1) := by decide +kernel
theorem px_d86_99 : decode prog_15_method_41_code 99 = .ok (.iload_n 1, 1) := by decide +kernel
theorem px_d86_100 : decode prog_15_method_41_code 100 = .ok (.iload_n 2, 1) := by decide +kernel
theorem px_d86_101 : decode prog_15_method_41_code 101 = .ok (.iload 5, 2) := by decide +kernel
theorem px_d86_103 : decode prog_15_method_41_code 103 = .ok (.iload 7, 2) := by decide +kernel
theorem px_d86_105 : decode prog_15_method_41_code 105 = .ok (.iconst 0, 1) := by decide +kernel
theorem px_d86_106 : decode prog_15_method_41_code 106 = .ok (.invokevirtual 297, 3) := by decide +kernel
theorem px_d86_109 : decode prog_15_method_41_code 109 = .ok (.ifCond .eq 17, 3) := by decide +kernel
theorem px_d86_112 : decode prog_15_method_41_code 112 = .ok (.aload_n 0, 1) := by decide +kernel
theorem px_d86_113 : decode prog_15_method_41_code 113 = .ok (.iload 5, 2) := by decide +kernel
theorem px_d86_115 : decode prog_15_method_41_code 115 = .ok (.putfield 301, 3) := by decide +kernel
theorem px_d86_118 : decode prog_15_method_41_code 118 = .ok (.aload_n 0, 1) := by decide +kernel
theorem px_d86_119 : decode prog_15_method_41_code 119 = .ok (.iload 7, 2) := by decide +kernel
theorem px_d86_121 : decode prog_15_method_41_code 121 = .ok (.putfield 304, 3) := by decide +kernel
theorem px_d86_124 : decode prog_15_method_41_code 124 = .ok (.iconst 1, 1) := by decide +kernel
theorem px_d86_125 : decode prog_15_method_41_code 125 = .ok (.ireturn, 1) := by decide +kernel
theorem px_d86_126 : decode prog_15_method_41_code 126 = .ok (.iinc 6 1, 3) := by decide +kernel
theorem px_d86_129 : decode prog_15_method_41_code 129 = .ok (.goto (-75), 3) := by decide +kernel
theorem px_d86_132 : decode prog_15_method_41_code 132 = .ok (.iinc 4 1, 3) := by decide +kernel
theorem px_d86_135 : decode prog_15_method_41_code 135 = .ok (.goto (-126), 3) := by decide +kernel
theorem px_d86_138 : decode prog_15_method_41_code 138 = .ok (.iconst 0, 1) := by decide +kernel
theorem px_d86_139 : decode prog_15_method_41_code 139 = .ok (.ireturn, 1) := by decide +kernel
theorem px_d88_0 : decode prog_15_method_43_code 0 = .ok (.iload 5, 2) := by decide +kernel
theorem px_d88_2 : decode prog_15_method_43_code 2 = .ok (.aload_n 0, 1) := by decide +kernel
theorem px_d88_3 : decode prog_15_method_43_code 3 = .ok (.getfield 157, 3) := by decide +kernel
theorem px_d88_6 : decode prog_15_method_43_code 6 = .ok (.iload_n 2, 1) := by decide +kernel
theorem px_d88_7 : decode prog_15_method_43_code 7 = .ok (.iaload, 1) := by decide +kernel
theorem px_d88_8 : decode prog_15_method_43_code 8 = .ok (.if_icmp .ne 5, 3) := by decide +kernel
theorem px_d88_11 : decode prog_15_method_43_code 11 = .ok (.iconst 1, 1) := by decide +kernel
theorem px_d88_12 : decode prog_15_method_43_code 12 = .ok (.ireturn, 1) := by decide +kernel
theorem px_d88_13 : decode prog_15_method_43_code 13 = .ok (.iconst 0, 1) := by decide +kernel
theorem px_d88_14 : decode prog_15_method_43_code 14 = .ok (.istore 6, 2) := by decide +kernel
theorem px_d88_16 : decode prog_15_method_43_code 16 = .ok (.iload 6, 2) := by decide +kernel
theorem px_d88_18 : decode prog_15_method_43_code 18 = .ok (.aload_n 0, 1) := by decide +kernel
theorem px_d88_19 : decode prog_15_method_43_code 19 = .ok (.getfield 157, 3) := by decide +kernel
theorem px_d88_22 : decode prog_15_method_43_code 22 = .ok (.iload_n 1, 1) := by decide +kernel
theorem px_d88_23 : decode prog_15_method_43_code 23 = .ok (.iaload, 1) := by decide +kernel
theorem px_d88_24 : decode prog_15_method_43_code 24 = .ok (.if_icmp .ge 111, 3) := by decide +kernel
theorem px_d88_27 : decode prog_15_method_43_code 27 = .ok (.iload_n 3, 1) := by decide +kernel
theorem px_d88_28 : decode prog_15_method_43_code 28 = .ok (.iload 6, 2) := by decide +kernel
theorem px_d88_30 : decode prog_15_method_43_code 30 = .ok (.ishr, 1) := by decide +kernel
theorem px_d88_31 : decode prog_15_method_43_code 31 = .ok (.iconst 1, 1) := by decide +kernel
theorem px_d88_32 : decode prog_15_method_43_code 32 = .ok (.iand, 1) := by decide +kernel
theorem px_d88_33 : decode prog_15_method_43_code 33 = .ok (.iconst 1, 1) := by decide +kernel
theorem px_d88_34 : decode prog_15_method_43_code 34 = .ok (.if_icmp .ne 7, 3) := by decide +kernel
theorem px_d88_37 : decode prog_15_method_43_code 37 = .ok (.iconst 1, 1) := by decide +kernel
theorem px_d88_38 : decode prog_15_method_43_code 38 = .ok (.goto 4, 3) := by decide +kernel
theorem px_d88_41 : decode prog_15_method_43_code 41 = .ok (.iconst 0, 1) := by decide +kernel
theorem px_d88_42 : decode prog_15_method_43_code 42 = .ok (.istore 7, 2) := by decide +kernel
theorem px_d88_44 : decode prog_15_method_43_code 44 = .ok (.iconst 0, 1) := by decide +kernel
theorem px_d88_45 : decode prog_15_method_43_code 45 = .ok (.istore 8, 2) := by decide +kernel
theorem px_d88_47 : decode prog_15_method_43_code 47 = .ok (.iload 8, 2) := by decide +kernel
theorem px_d88_49 : decode prog_15_method_43_code 49 = .ok (.iload 5, 2) := by decide +kernel
theorem px_d88_51 : decode prog_15_method_43_code 51 = .ok (.if_icmp .ge 33, 3) := by decide +kernel
theorem px_d88_54 : decode prog_15_method_43_code 54 = .ok (.iload 7, 2) := by decide +kernel
theorem px_d88_56 : decode prog_15_method_43_code 56 = .ok (.ifCond .eq 19, 3) := by decide +kernel
theorem px_d88_59 : decode prog_15_method_43_code 59 = .ok (.aload_n 0, 1) := by decide +kernel
theorem px_d88_60 : decode prog_15_method_43_code 60 = .ok (.getfield 200, 3) := by decide +kernel
theorem px_d88_63 : decode prog_15_method_43_code 63 = .ok (.iload 8, 2) := by decide +kernel
theorem px_d88_65 : decode prog_15_method_43_code 65 = .ok (.iaload, 1) := by decide +kernel
theorem px_d88_66 : decode prog_15_method_43_code 66 = .ok (.iload 6, 2) := by decide +kernel
theorem px_d88_68 : decode prog_15_method_43_code 68 = .ok (.if_icmp .eq 7, 3) := by decide +kernel
theorem px_d88_71 : decode prog_15_method_43_code 71 = .ok (.iconst 1, 1) := by decide +kernel
theorem px_d88_72 : decode prog_15_method_43_code 72 = .ok (.goto 4, 3) := by decide +kernel
theorem px_d88_75 : decode prog_15_method_43_code 75 = .ok (.iconst 0, 1) := by decide +kernel
theorem px_d88_76 : decode prog_15_method_43_code 76 = .ok (.istore 7, 2) := by decide +kernel
theorem px_d88_78 : decode prog_15_method_43_code 78 = .ok (.iinc 8 1, 3) := by decide +kernel
theorem px_d88_81 : decode prog_15_method_43_code 81 = .ok (.goto (-34), 3) := by decide +kernel
theorem px_d88_84 : decode prog_15_method_43_code 84 = .ok (.aload_n 0, 1) := by decide +kernel
theorem px_d88_85 : decode prog_15_method_43_code 85 = .ok (.getfield 200, 3) := by decide +kernel
theorem px_d88_88 : decode prog_15_method_43_code 88 = .ok (.iload 5, 2) := by decide +kernel
theorem px_d88_90 : decode prog_15_method_43_code 90 = .ok (.iload 6, 2) := by decide +kernel
theorem px_d88_92 : decode prog_15_method_43_code 92 = .ok (.iastore, 1) := by decide +kernel
theorem px_d88_93 : decode prog_15_method_43_code 93 = .ok (.iload 7, 2) := by decide +kernel
theorem px_d88_95 : decode prog_15_method_43_code 95 = .ok (.ifCond .eq 34, 3) := by decide +kernel
theorem px_d88_98 : decode prog_15_method_43_code 98 = .ok (.aload_n 0, 1) := by decide +kernel
theorem px_d88_99 : decode prog_15_method_43_code 99 = .ok (.iload_n 1, 1) := by decide +kernel
theorem px_d88_100 : decode prog_15_method_43_code 100 = .ok (.iload_n 2, 1) := by decide +kernel
theorem px_d88_101 : decode prog_15_method_43_code 101 = .ok (.iload 4, 2) := by decide +kernel
theorem px_d88_103 : decode prog_15_method_43_code 103 = .ok (.iload 5, 2) := by decide +kernel
theorem px_d88_105 : decode prog_15_method_43_code 105 = .ok (.invokevirtual 307, 3) := by decide +kernel
theorem px_d88_108 : decode prog_15_method_43_code 108 = .ok (.ifCond .eq 21, 3) := by decide +kernel
theorem px_d88_111 : decode prog_15_method_43_code 111 = .ok (.aload_n 0, 1) := by decide +kernel
theorem px_d88_112 : decode prog_15_method_43_code 112 = .ok (.iload_n 1, 1) := by decide +kernel
theorem px_d88_113 : decode prog_15_method_43_code 113 = .ok (.iload_n 2, 1) := by decide +kernel
theorem px_d88_114 : decode prog_15_method_43_code 114 = .ok (.iload_n 3, 1) := by decide +kernel
theorem px_d88_115 : decode prog_15_method_43_code 115 = .ok (.iload 4, 2) := by decide +kernel
theorem px_d88_117 : decode prog_15_method_43_code 117 = .ok (.iload 5, 2) := by decide +kernel
theorem px_d88_119 : decode prog_15_method_43_code 119 = .ok (.iconst 1, 1) := by decide +kernel
theorem px_d88_120 : decode prog_15_method_43_code 120 = .ok (.iadd, 1) := by decide +kernel
theorem px_d88_121 : decode prog_15_method_43_code 121 = .ok (.invokevirtual 297, 3) := by decide +kernel
theorem px_d88_124 : decode prog_15_method_43_code 124 = .ok (.ifCond .eq 5, 3) := by decide +kernel
theorem px_d88_127 : decode prog_15_method_43_code 127 = .ok (.iconst 1, 1) := by decide +kernel
theorem px_d88_128 : decode prog_15_method_43_code 128 = .ok (.ireturn, 1) := by decide +kernel
theorem px_d88_129 : decode prog_15_method_43_code 129 = .ok (.iinc 6 1, 3) := by decide +kernel
theorem px_d88_132 : decode prog_15_method_43_code 132 = .ok (.goto (-116), 3) := by decide +kernel
theorem px_d88_135 : decode prog_15_method_43_code 135 = .ok (.iconst 0, 1) := by decide +kernel
theorem px_d88_136 : decode prog_15_method_43_code 136 = .ok (.ireturn, 1) := by decide +kernel
theorem px_d115_0 : decode prog_15_method_86_code 0 = .ok (.aload_n 0, 1) := by decide +kernel
theorem px_d115_1 : decode prog_15_method_86_code 1 = .ok (.iload_n 1, 1) := by decide +kernel
theorem px_d115_2 : decode prog_15_method_86_code 2 = .ok (.iload_n 2, 1) := by decide +kernel
theorem px_d115_3 : decode prog_15_method_86_code 3 = .ok (.invokevirtual 478, 3) := by decide +kernel
theorem px_d115_6 : decode prog_15_method_86_code 6 = .ok (.ifCond .ne 22, 3) := by decide +kernel
theorem px_d115_9 : decode prog_15_method_86_code 9 = .ok (.aload_n 0, 1) := by decide +kernel
theorem px_d115_10 : decode prog_15_method_86_code 10 = .ok (.bipush 110, 2) := by decide +kernel
theorem px_d115_12 : decode prog_15_method_86_code 12 = .ok (.invokevirtual 446, 3) := by decide +kernel
theorem px_d115_15 : decode prog_15_method_86_code 15 = .ok (.aload_n 0, 1) := by decide +kernel
theorem px_d115_16 : decode prog_15_method_86_code 16 = .ok (.bipush 111, 2) := by decide +kernel
theorem px_d115_18 : decode prog_15_method_86_code 18 = .ok (.invokevirtual 446, 3) := by decide +kernel
theorem px_d115_21 : decode prog_15_method_86_code 21 = .ok (.aload_n 0, 1) := by decide +kernel
theorem px_d115_22 : decode prog_15_method_86_code 22 = .ok (.bipush 10, 2) := by decide +kernel
theorem px_d115_24 : decode prog_15_method_86_code 24 = .ok (.invokevirtual 446, 3) := by decide +kernel
theorem px_d115_27 : decode prog_15_method_86_code 27 = .ok (.return_, 1) := by decide +kernel
theorem px_d115_28 : decode prog_15_method_86_code 28 = .ok (.aload_n 0, 1) := by decide +kernel
theorem px_d115_29 : decode prog_15_method_86_code 29 = .ok (.aload_n 0, 1) := by decide +kernel
theorem px_d115_30 : decode prog_15_method_86_code 30 = .ok (.getfield 304, 3) := by decide +kernel
theorem px_d115_33 : decode prog_15_method_86_code 33 = .ok (.invokevirtual 469, 3) := by decide +kernel
theorem px_d115_36 : decode prog_15_method_86_code 36 = .ok (.aload_n 0, 1) := by decide +kernel
theorem px_d115_37 : decode prog_15_method_86_code 37 = .ok (.aload_n 0, 1) := by decide +kernel
theorem px_d115_38 : decode prog_15_method_86_code 38 = .ok (.iload_n 1, 1) := by decide +kernel
theorem px_d115_39 : decode prog_15_method_86_code 39 = .ok (.invokevirtual 262, 3) := by decide +kernel
theorem px_d115_42 : decode prog_15_method_86_code 42 = .ok (.aload_n 0, 1) := by decide +kernel
theorem px_d115_43 : decode prog_15_method_86_code 43 = .ok (.getfield 304, 3) := by decide +kernel
theorem px_d115_46 : decode prog_15_method_86_code 46 = .ok (.iconst (-1), 1) := by decide +kernel
theorem px_d115_47 : decode prog_15_method_86_code 47 = .ok (.ixor, 1) := by decide +kernel
theorem px_d115_48 : decode prog_15_method_86_code 48 = .ok (.iand, 1) := by decide +kernel
theorem px_d115_49 : decode prog_15_method_86_code 49 = .ok (.aload_n 0, 1) := by decide +kernel
theorem px_d115_50 : decode prog_15_method_86_code 50 = .ok (.getfield 301, 3) := by decide +kernel
theorem px_d115_53 : decode prog_15_method_86_code 53 = .ok (.iconst (-1), 1) := by decide +kernel
theorem px_d115_54 : decode prog_15_method_86_code 54 = .ok (.ixor, 1) := by decide +kernel
theorem px_d115_55 : decode prog_15_method_86_code 55 = .ok (.iand, 1) := by decide +kernel
theorem px_d115_56 : decode prog_15_method_86_code 56 = .ok (.invokevirtual 469, 3) := by decide +kernel
theorem px_d115_59 : decode prog_15_method_86_code 59 = .ok (.iconst 0, 1) := by decide +kernel
theorem px_d115_60 : decode prog_15_method_86_code 60 = .ok (.istore_n 3, 1) := by decide +kernel
theorem px_d115_61 : decode prog_15_method_86_code 61 = .ok (.iload_n 3, 1) := by decide +kernel
theorem px_d115_62 : decode prog_15_method_86_code 62 = .ok (.aload_n 0, 1) := by decide +kernel
theorem px_d115_63 : decode prog_15_method_86_code 63 = .ok (.getfield 157, 3) := by decide +kernel
theorem px_d115_66 : decode prog_15_method_86_code 66 = .ok (.iload_n 2, 1) := by decide +kernel
theorem px_d115_67 : decode prog_15_method_86_code 67 = .ok (.iaload, 1) := by decide +kernel
theorem px_d115_68 : decode prog_15_method_86_code 68 = .ok (.if_icmp .ge 30, 3) := by decide +kernel
theorem px_d115_71 : decode prog_15_method_86_code 71 = .ok (.iload_n 3, 1) := by decide +kernel
theorem px_d115_72 : decode prog_15_method_86_code 72 = .ok (.ifCond .le 9, 3) := by decide +kernel
theorem px_d115_75 : decode prog_15_method_86_code 75 = .ok (.aload_n 0, 1) := by decide +kernel
theorem px_d115_76 : decode prog_15_method_86_code 76 = .ok (.bipush 32, 2) := by decide +kernel
theorem px_d115_78 : decode prog_15_method_86_code 78 = .ok (.invokevirtual 446, 3) := by decide +kernel
theorem px_d115_81 : decode prog_15_method_86_code 81 = .ok (.aload_n 0, 1) := by decide +kernel
theorem px_d115_82 : decode prog_15_method_86_code 82 = .ok (.aload_n 0, 1) := by decide +kernel
theorem px_d115_83 : decode prog_15_method_86_code 83 = .ok (.getfield 200, 3) := by decide +kernel
theorem px_d115_86 : decode prog_15_method_86_code 86 = .ok (.iload_n 3, 1) := by decide +kernel
theorem px_d115_87 : decode prog_15_method_86_code 87 = .ok (.iaload, 1) := by decide +kernel
theorem px_d115_88 : decode prog_15_method_86_code 88 = .ok (.i2l, 1) := by decide +kernel
theorem px_d115_89 : decode prog_15_method_86_code 89 = .ok (.invokevirtual 454, 3) := by decide +kernel
theorem px_d115_92 : decode prog_15_method_86_code 92 = .ok (.iinc 3 1, 3) := by decide +kernel
theorem px_d115_95 : decode prog_15_method_86_code 95 = .ok (.goto (-34), 3) := by decide +kernel
theorem px_d115_98 : decode prog_15_method_86_code 98 = .ok (.aload_n 0, 1) := by decide +kernel
theorem px_d115_99 : decode prog_15_method_86_code 99 = .ok (.bipush 10, 2) := by decide +kernel
theorem px_d115_101 : decode prog_15_method_86_code 101 = .ok (.invokevirtual 446, 3) := by decide +kernel
theorem px_d115_104 : decode prog_15_method_86_code 104 = .ok (.return_, 1) := by decide +kernel
theorem px_d116_52 : decode prog_15_method_87_code 52 = .ok (.iload_n 1, 1) := by decide +kernel
theorem px_d116_53 : decode prog_15_method_87_code 53 = .ok (.bipush 6, 2) := by decide +kernel
theorem px_d116_55 : decode prog_15_method_87_code 55 = .ok (.if_icmp .ne 11, 3) := by decide +kernel
theorem px_d116_66 : decode prog_15_method_87_code 66 = .ok (.iload_n 1, 1) := by decide +kernel
theorem px_d116_67 : decode prog_15_method_87_code 67 = .ok (.bipush 7, 2) := by decide +kernel
theorem px_d116_69 : decode prog_15_method_87_code 69 = .ok (.if_icmp .ne 15, 3) := by decide +kernel
theorem px_d116_84 : decode prog_15_method_87_code 84 = .ok (.iload_n 1, 1) := by decide +kernel
theorem px_d116_85 : decode prog_15_method_87_code 85 = .ok (.bipush 8, 2) := by decide +kernel
theorem px_d116_87 : decode prog_15_method_87_code 87 = .ok (.if_icmp .ne 26, 3) := by decide +kernel
theorem px_d116_113 : decode prog_15_method_87_code 113 = .ok (.iload_n 1, 1) := by decide +kernel
theorem px_d116_114 : decode prog_15_method_87_code 114 = .ok (.bipush 9, 2) := by decide +kernel
theorem px_d116_116 : decode prog_15_method_87_code 116 = .ok (.if_icmp .ne 11, 3) := by decide +kernel
theorem px_d116_127 : decode prog_15_method_87_code 127 = .ok (.iload_n 1, 1) := by decide +kernel
theorem px_d116_128 : decode prog_15_method_87_code 128 = .ok (.bipush 10, 2) := by decide +kernel
theorem px_d116_130 : decode prog_15_method_87_code 130 = .ok (.if_icmp .ne 11, 3) := by decide +kernel
theorem px_d116_141 : decode prog_15_method_87_code 141 = .ok (.iload_n 1, 1) := by decide +kernel
theorem px_d116_142 : decode prog_15_method_87_code 142 = .ok (.bipush 11, 2) := by decide +kernel
theorem px_d116_144 : decode prog_15_method_87_code 144 = .ok (.if_icmp .ne 12, 3) := by decide +kernel
theorem px_d116_156 : decode prog_15_method_87_code 156 = .ok (.aload_n 0, 1) := by decide +kernel
theorem px_d116_157 : decode prog_15_method_87_code 157 = .ok (.iload_n 2, 1) := by decide +kernel
theorem px_d116_161 : decode prog_15_method_87_code 161 = .ok (.aload_n 0, 1) := by decide +kernel
theorem px_d116_162 : decode prog_15_method_87_code 162 = .ok (.aload_n 0, 1) := by decide +kernel
theorem px_d116_163 : decode prog_15_method_87_code 163 = .ok (.getfield 395, 3) := by decide +kernel
theorem px_d116_166 : decode prog_15_method_87_code 166 = .ok (.ifCond .le 8, 3) := by decide +kernel
theorem px_d116_169 : decode prog_15_method_87_code 169 = .ok (.iload 4, 2) := by decide +kernel
theorem px_d116_171 : decode prog_15_method_87_code 171 = .ok (.goto 7, 3) := by decide +kernel
theorem px_d116_174 : decode prog_15_method_87_code 174 = .ok (.aload_n 0, 1) := by decide +kernel
theorem px_d116_175 : decode prog_15_method_87_code 175 = .ok (.getfield 443, 3) := by decide +kernel
theorem px_d116_178 : decode prog_15_method_87_code 178 = .ok (.putfield 443, 3) := by decide +kernel
theorem px_d116_181 : decode prog_15_method_87_code 181 = .ok (.return_, 1) := by decide +kernel
theorem px_d131_0 : decode prog_15_method_110_code 0 = .ok (.aload_n 0, 1) := by decide +kernel
theorem px_d131_1 : decode prog_15_method_110_code 1 = .ok (.iload_n 1, 1) := by decide +kernel
theorem px_d131_2 : decode prog_15_method_110_code 2 = .ok (.invokevirtual 522, 3) := by decide +kernel
theorem px_d131_5 : decode prog_15_method_110_code 5 = .ok (.ifCond .eq 27, 3) := by decide +kernel
theorem px_d131_8 : decode prog_15_method_110_code 8 = .ok (.aload_n 0, 1) := by decide +kernel
theorem px_d131_9 : decode prog_15_method_110_code 9 = .ok (.iload_n 2, 1) := by decide +kernel
theorem px_d131_10 : decode prog_15_method_110_code 10 = .ok (.invokevirtual 522, 3) := by decide +kernel
theorem px_d131_13 : decode prog_15_method_110_code 13 = .ok (.ifCond .eq 19, 3) := by decide +kernel
theorem px_d131_16 : decode prog_15_method_110_code 16 = .ok (.aload_n 0, 1) := by decide +kernel
theorem px_d131_17 : decode prog_15_method_110_code 17 = .ok (.iload_n 1, 1) := by decide +kernel
theorem px_d131_18 : decode prog_15_method_110_code 18 = .ok (.iload_n 2, 1) := by decide +kernel
theorem px_d131_19 : decode prog_15_method_110_code 19 = .ok (.invokevirtual 478, 3) := by decide +kernel
theorem px_d131_22 : decode prog_15_method_110_code 22 = .ok (.ifCond .eq 10, 3) := by decide +kernel
theorem px_d131_25 : decode prog_15_method_110_code 25 = .ok (.aload_n 0, 1) := by decide +kernel
theorem px_d131_26 : decode prog_15_method_110_code 26 = .ok (.getfield 304, 3) := by decide +kernel
theorem px_d131_29 : decode prog_15_method_110_code 29 = .ok (.goto 4, 3) := by decide +kernel
theorem px_d131_32 : decode prog_15_method_110_code 32 = .ok (.iconst (-1), 1) := by decide +kernel
theorem px_d131_33 : decode prog_15_method_110_code 33 = .ok (.ireturn, 1) := by decide +kernel
theorem px_d132_0 : decode prog_15_method_111_code 0 = .ok (.aload_n 0, 1) := by decide +kernel
theorem px_d132_1 : decode prog_15_method_111_code 1 = .ok (.iload_n 1, 1) := by decide +kernel
theorem px_d132_2 : decode prog_15_method_111_code 2 = .ok (.invokevirtual 522, 3) := by decide +kernel
theorem px_d132_5 : decode prog_15_method_111_code 5 = .ok (.ifCond .eq 42, 3) := by decide +kernel
theorem px_d132_8 : decode prog_15_method_111_code 8 = .ok (.aload_n 0, 1) := by decide +kernel
theorem px_d132_9 : decode prog_15_method_111_code 9 = .ok (.iload_n 2, 1) := by decide +kernel
theorem px_d132_10 : decode prog_15_method_111_code 10 = .ok (.invokevirtual 522, 3) := by decide +kernel
theorem px_d132_13 : decode prog_15_method_111_code 13 = .ok (.ifCond .eq 34, 3) := by decide +kernel
theorem px_d132_16 : decode prog_15_method_111_code 16 = .ok (.aload_n 0, 1) := by decide +kernel
theorem px_d132_17 : decode prog_15_method_111_code 17 = .ok (.iload_n 1, 1) := by decide +kernel
theorem px_d132_18 : decode prog_15_method_111_code 18 = .ok (.iload_n 2, 1) := by decide +kernel
theorem px_d132_19 : decode prog_15_method_111_code 19 = .ok (.invokevirtual 478, 3) := by decide +kernel
theorem px_d132_22 : decode prog_15_method_111_code 22 = .ok (.ifCond .eq 25, 3) := by decide +kernel
theorem px_d132_25 : decode prog_15_method_111_code 25 = .ok (.aload_n 0, 1) := by decide +kernel
theorem px_d132_26 : decode prog_15_method_111_code 26 = .ok (.iload_n 1, 1) := by decide +kernel
theorem px_d132_27 : decode prog_15_method_111_code 27 = .ok (.invokevirtual 262, 3) := by decide +kernel
theorem px_d132_30 : decode prog_15_method_111_code 30 = .ok (.aload_n 0, 1) := by decide +kernel
theorem px_d132_31 : decode prog_15_method_111_code 31 = .ok (.getfield 304, 3) := by decide +kernel
theorem px_d132_34 : decode prog_15_method_111_code 34 = .ok (.iconst (-1), 1) := by decide +kernel
theorem px_d132_35 : decode prog_15_method_111_code 35 = .ok (.ixor, 1) := by decide +kernel
theorem px_d132_36 : decode prog_15_method_111_code 36 = .ok (.iand, 1) := by decide +kernel
theorem px_d132_37 : decode prog_15_method_111_code 37 = .ok (.aload_n 0, 1) := by decide +kernel
theorem px_d132_38 : decode prog_15_method_111_code 38 = .ok (.getfield 301, 3) := by decide +kernel
theorem px_d132_41 : decode prog_15_method_111_code 41 = .ok (.iconst (-1), 1) := by decide +kernel
theorem px_d132_42 : decode prog_15_method_111_code 42 = .ok (.ixor, 1) := by decide +kernel
theorem px_d132_43 : decode prog_15_method_111_code 43 = .ok (.iand, 1) := by decide +kernel
theorem px_d132_44 : decode prog_15_method_111_code 44 = .ok (.goto 4, 3) := by decide +kernel
theorem px_d132_47 : decode prog_15_method_111_code 47 = .ok (.iconst (-1), 1) := by decide +kernel
theorem px_d132_48 : decode prog_15_method_111_code 48 = .ok (.ireturn, 1) := by decide +kernel
theorem px_d133_0 : decode prog_15_method_112_code 0 = .ok (.aload_n 0, 1) := by decide +kernel
theorem px_d133_1 : decode prog_15_method_112_code 1 = .ok (.iload_n 1, 1) := by decide +kernel
theorem px_d133_2 : decode prog_15_method_112_code 2 = .ok (.invokevirtual 522, 3) := by decide +kernel
theorem px_d133_5 : decode prog_15_method_112_code 5 = .ok (.ifCond .eq 43, 3) := by decide +kernel
theorem px_d133_8 : decode prog_15_method_112_code 8 = .ok (.aload_n 0, 1) := by decide +kernel
theorem px_d133_9 : decode prog_15_method_112_code 9 = .ok (.iload_n 2, 1) := by decide +kernel
theorem px_d133_10 : decode prog_15_method_112_code 10 = .ok (.invokevirtual 522, 3) := by decide +kernel
theorem px_d133_13 : decode prog_15_method_112_code 13 = .ok (.ifCond .eq 35, 3) := by decide +kernel
theorem px_d133_16 : decode prog_15_method_112_code 16 = .ok (.iload_n 3, 1) := by decide +kernel
theorem px_d133_17 : decode prog_15_method_112_code 17 = .ok (.ifCond .lt 31, 3) := by decide +kernel
theorem px_d133_20 : decode prog_15_method_112_code 20 = .ok (.iload_n 3, 1) := by decide +kernel
theorem px_d133_21 : decode prog_15_method_112_code 21 = .ok (.aload_n 0, 1) := by decide +kernel
theorem px_d133_22 : decode prog_15_method_112_code 22 = .ok (.getfield 157, 3) := by decide +kernel
theorem px_d133_25 : decode prog_15_method_112_code 25 = .ok (.iload_n 2, 1) := by decide +kernel
theorem px_d133_26 : decode prog_15_method_112_code 26 = .ok (.iaload, 1) := by decide +kernel
theorem px_d133_27 : decode prog_15_method_112_code 27 = .ok (.if_icmp .ge 21, 3) := by decide +kernel
theorem px_d133_30 : decode prog_15_method_112_code 30 = .ok (.aload_n 0, 1) := by decide +kernel
theorem px_d133_31 : decode prog_15_method_112_code 31 = .ok (.iload_n 1, 1) := by decide +kernel
theorem px_d133_32 : decode prog_15_method_112_code 32 = .ok (.iload_n 2, 1) := by decide +kernel
theorem px_d133_33 : decode prog_15_method_112_code 33 = .ok (.invokevirtual 478, 3) := by decide +kernel
theorem px_d133_36 : decode prog_15_method_112_code 36 = .ok (.ifCond .eq 12, 3) := by decide +kernel
theorem px_d133_39 : decode prog_15_method_112_code 39 = .ok (.aload_n 0, 1) := by decide +kernel
theorem px_d133_40 : decode prog_15_method_112_code 40 = .ok (.getfield 200, 3) := by decide +kernel
theorem px_d133_43 : decode prog_15_method_112_code 43 = .ok (.iload_n 3, 1) := by decide +kernel
theorem px_d133_44 : decode prog_15_method_112_code 44 = .ok (.iaload, 1) := by decide +kernel
theorem px_d133_45 : decode prog_15_method_112_code 45 = .ok (.goto 4, 3) := by decide +kernel
theorem px_d133_48 : decode prog_15_method_112_code 48 = .ok (.iconst (-1), 1) := by decide +kernel
theorem px_d133_49 : decode prog_15_method_112_code 49 = .ok (.ireturn, 1) := by decide +kernel
