theorem px_d283_3 : decode prog_3_method_30_code 3 = .ok (.iload 4, 2) := by decide +kernel
theorem px_d283_5 : decode prog_3_method_30_code 5 = .ok (.iload_n 3, 1) := by decide +kernel
theorem px_d283_6 : decode prog_3_method_30_code 6 = .ok (.if_icmp .ge 54, 3) := by decide +kernel
theorem px_d283_9 : decode prog_3_method_30_code 9 = .ok (.iload_n 3, 1) := by decide +kernel
theorem px_d283_10 : decode prog_3_method_30_code 10 = .ok (.iconst 1, 1) := by decide +kernel
theorem px_d283_11 : decode prog_3_method_30_code 11 = .ok (.isub, 1) := by decide +kernel
theorem px_d283_12 : decode prog_3_method_30_code 12 = .ok (.istore 5, 2) := by decide +kernel
theorem px_d283_14 : decode prog_3_method_30_code 14 = .ok (.iload 5, 2) := by decide +kernel
theorem px_d283_16 : decode prog_3_method_30_code 16 = .ok (.iload 4, 2) := by decide +kernel
theorem px_d283_18 : decode prog_3_method_30_code 18 = .ok (.if_icmp .lt 36, 3) := by decide +kernel
theorem px_d283_21 : decode prog_3_method_30_code 21 = .ok (.aload_n 0, 1) := by decide +kernel
theorem px_d283_22 : decode prog_3_method_30_code 22 = .ok (.getfield 43, 3) := by decide +kernel
theorem px_d283_25 : decode prog_3_method_30_code 25 = .ok (.iload_n 1, 1) := by decide +kernel
theorem px_d283_26 : decode prog_3_method_30_code 26 = .ok (.iload 5, 2) := by decide +kernel
theorem px_d283_28 : decode prog_3_method_30_code 28 = .ok (.iload_n 2, 1) := by decide +kernel
theorem px_d283_29 : decode prog_3_method_30_code 29 = .ok (.imul, 1) := by decide +kernel
theorem px_d283_30 : decode prog_3_method_30_code 30 = .ok (.iadd, 1) := by decide +kernel
theorem px_d283_31 : decode prog_3_method_30_code 31 = .ok (.dup2, 1) := by decide +kernel
theorem px_d283_32 : decode prog_3_method_30_code 32 = .ok (.laload, 1) := by decide +kernel
theorem px_d283_33 : decode prog_3_method_30_code 33 = .ok (.aload_n 0, 1) := by decide +kernel
theorem px_d283_34 : decode prog_3_method_30_code 34 = .ok (.getfield 43, 3) := by decide +kernel
theorem px_d283_37 : decode prog_3_method_30_code 37 = .ok (.iload_n 1, 1) := by decide +kernel
theorem px_d283_38 : decode prog_3_method_30_code 38 = .ok (.iload 5, 2) := by decide +kernel
theorem px_d283_40 : decode prog_3_method_30_code 40 = .ok (.iconst 1, 1) := by decide +kernel
theorem px_d283_41 : decode prog_3_method_30_code 41 = .ok (.iadd, 1) := by decide +kernel
theorem px_d283_42 : decode prog_3_method_30_code 42 = .ok (.iload_n 2, 1) := by decide +kernel
theorem px_d283_43 : decode prog_3_method_30_code 43 = .ok (.imul, 1) := by decide +kernel
theorem px_d283_44 : decode prog_3_method_30_code 44 = .ok (.iadd, 1) := by decide +kernel
theorem px_d283_45 : decode prog_3_method_30_code 45 = .ok (.laload, 1) := by decide +kernel
theorem px_d283_46 : decode prog_3_method_30_code 46 = .ok (.lsub, 1) := by decide +kernel
theorem px_d283_47 : decode prog_3_method_30_code 47 = .ok (.lastore, 1) := by decide +kernel
theorem px_d283_48 : decode prog_3_method_30_code 48 = .ok (.iinc 5 (-1), 3) := by decide +kernel
theorem px_d283_51 : decode prog_3_method_30_code 51 = .ok (.goto (-37), 3) := by decide +kernel
theorem px_d283_54 : decode prog_3_method_30_code 54 = .ok (.iinc 4 1, 3) := by decide +kernel
theorem px_d283_57 : decode prog_3_method_30_code 57 = .ok (.goto (-54), 3) := by decide +kernel
theorem px_d283_60 : decode prog_3_method_30_code 60 = .ok (.return_, 1) := by decide +kernel
theorem px_d286_0 : decode prog_3_method_14_code 0 = .ok (.iconst 0, 1) := by decide +kernel
theorem px_d286_1 : decode prog_3_method_14_code 1 = .ok (.istore_n 1, 1) := by decide +kernel
theorem px_d286_2 : decode prog_3_method_14_code 2 = .ok (.iconst 0, 1) := by decide +kernel
theorem px_d286_3 : decode prog_3_method_14_code 3 = .ok (.istore_n 2, 1) := by decide +kernel
theorem px_d286_4 : decode prog_3_method_14_code 4 = .ok (.iconst 0, 1) := by decide +kernel
theorem px_d286_5 : decode prog_3_method_14_code 5 = .ok (.istore_n 3, 1) := by decide +kernel
theorem px_d286_6 : decode prog_3_method_14_code 6 = .ok (.iload_n 3, 1) := by decide +kernel
theorem px_d286_7 : decode prog_3_method_14_code 7 = .ok (.aload_n 0, 1) := by decide +kernel
theorem px_d286_8 : decode prog_3_method_14_code 8 = .ok (.getfield 66, 3) := by decide +kernel
theorem px_d286_11 : decode prog_3_method_14_code 11 = .ok (.if_icmp .ge 109, 3) := by decide +kernel
theorem px_d286_14 : decode prog_3_method_14_code 14 = .ok (.iconst (-1), 1) := by decide +kernel
theorem px_d286_15 : decode prog_3_method_14_code 15 = .ok (.istore 4, 2) := by decide +kernel
theorem px_d286_17 : decode prog_3_method_14_code 17 = .ok (.iconst 0, 1) := by decide +kernel
theorem px_d286_18 : decode prog_3_method_14_code 18 = .ok (.istore 5, 2) := by decide +kernel
theorem px_d286_20 : decode prog_3_method_14_code 20 = .ok (.iload 5, 2) := by decide +kernel
theorem px_d286_22 : decode prog_3_method_14_code 22 = .ok (.aload_n 0, 1) := by decide +kernel
theorem px_d286_23 : decode prog_3_method_14_code 23 = .ok (.getfield 66, 3) := by decide +kernel
theorem px_d286_26 : decode prog_3_method_14_code 26 = .ok (.if_icmp .ge 57, 3) := by decide +kernel
theorem px_d286_29 : decode prog_3_method_14_code 29 = .ok (.iload_n 2, 1) := by decide +kernel
theorem px_d286_30 : decode prog_3_method_14_code 30 = .ok (.iload 5, 2) := by decide +kernel
theorem px_d286_32 : decode prog_3_method_14_code 32 = .ok (.ishr, 1) := by decide +kernel
theorem px_d286_33 : decode prog_3_method_14_code 33 = .ok (.iconst 1, 1) := by decide +kernel
theorem px_d286_34 : decode prog_3_method_14_code 34 = .ok (.iand, 1) := by decide +kernel
theorem px_d286_35 : decode prog_3_method_14_code 35 = .ok (.ifCond .ne 7, 3) := by decide +kernel
theorem px_d286_38 : decode prog_3_method_14_code 38 = .ok (.iconst 1, 1) := by decide +kernel
theorem px_d286_39 : decode prog_3_method_14_code 39 = .ok (.goto 4, 3) := by decide +kernel
theorem px_d286_42 : decode prog_3_method_14_code 42 = .ok (.iconst 0, 1) := by decide +kernel
theorem px_d286_43 : decode prog_3_method_14_code 43 = .ok (.istore 6, 2) := by decide +kernel
theorem px_d286_45 : decode prog_3_method_14_code 45 = .ok (.iload 6, 2) := by decide +kernel
theorem px_d286_47 : decode prog_3_method_14_code 47 = .ok (.ifCond .eq 30, 3) := by decide +kernel
theorem px_d286_50 : decode prog_3_method_14_code 50 = .ok (.iload 4, 2) := by decide +kernel
theorem px_d286_52 : decode prog_3_method_14_code 52 = .ok (.iconst (-1), 1) := by decide +kernel
theorem px_d286_53 : decode prog_3_method_14_code 53 = .ok (.if_icmp .eq 20, 3) := by decide +kernel
theorem px_d286_56 : decode prog_3_method_14_code 56 = .ok (.aload_n 0, 1) := by decide +kernel
theorem px_d286_57 : decode prog_3_method_14_code 57 = .ok (.getfield 25, 3) := by decide +kernel
theorem px_d286_60 : decode prog_3_method_14_code 60 = .ok (.iload 5, 2) := by decide +kernel
theorem px_d286_62 : decode prog_3_method_14_code 62 = .ok (.iaload, 1) := by decide +kernel
theorem px_d286_63 : decode prog_3_method_14_code 63 = .ok (.aload_n 0, 1) := by decide +kernel
theorem px_d286_64 : decode prog_3_method_14_code 64 = .ok (.getfield 25, 3) := by decide +kernel
theorem px_d286_67 : decode prog_3_method_14_code 67 = .ok (.iload 4, 2) := by decide +kernel
theorem px_d286_69 : decode prog_3_method_14_code 69 = .ok (.iaload, 1) := by decide +kernel
theorem px_d286_70 : decode prog_3_method_14_code 70 = .ok (.if_icmp .le 7, 3) := by decide +kernel
theorem px_d286_73 : decode prog_3_method_14_code 73 = .ok (.iload 5, 2) := by decide +kernel
theorem px_d286_75 : decode prog_3_method_14_code 75 = .ok (.istore 4, 2) := by decide +kernel
theorem px_d286_77 : decode prog_3_method_14_code 77 = .ok (.iinc 5 1, 3) := by decide +kernel
theorem px_d286_80 : decode prog_3_method_14_code 80 = .ok (.goto (-60), 3) := by decide +kernel
theorem px_d286_83 : decode prog_3_method_14_code 83 = .ok (.iload 4, 2) := by decide +kernel
theorem px_d286_85 : decode prog_3_method_14_code 85 = .ok (.iconst (-1), 1) := by decide +kernel
theorem px_d286_86 : decode prog_3_method_14_code 86 = .ok (.if_icmp .ne 7, 3) := by decide +kernel
theorem px_d286_89 : decode prog_3_method_14_code 89 = .ok (.iconst 0, 1) := by decide +kernel
theorem px_d286_90 : decode prog_3_method_14_code 90 = .ok (.goto 7, 3) := by decide +kernel
theorem px_d286_93 : decode prog_3_method_14_code 93 = .ok (.iconst 1, 1) := by decide +kernel
theorem px_d286_94 : decode prog_3_method_14_code 94 = .ok (.iload 4, 2) := by decide +kernel
theorem px_d286_96 : decode prog_3_method_14_code 96 = .ok (.ishl, 1) := by decide +kernel
theorem px_d286_97 : decode prog_3_method_14_code 97 = .ok (.istore 5, 2) := by decide +kernel
theorem px_d286_99 : decode prog_3_method_14_code 99 = .ok (.iload_n 2, 1) := by decide +kernel
theorem px_d286_100 : decode prog_3_method_14_code 100 = .ok (.iload 5, 2) := by decide +kernel
theorem px_d286_102 : decode prog_3_method_14_code 102 = .ok (.ior, 1) := by decide +kernel
theorem px_d286_103 : decode prog_3_method_14_code 103 = .ok (.istore_n 2, 1) := by decide +kernel
theorem px_d286_104 : decode prog_3_method_14_code 104 = .ok (.iload_n 1, 1) := by decide +kernel
theorem px_d286_105 : decode prog_3_method_14_code 105 = .ok (.aload_n 0, 1) := by decide +kernel
theorem px_d286_106 : decode prog_3_method_14_code 106 = .ok (.iload_n 1, 1) := by decide +kernel
theorem px_d286_107 : decode prog_3_method_14_code 107 = .ok (.iload 5, 2) := by decide +kernel
theorem px_d286_109 : decode prog_3_method_14_code 109 = .ok (.invokevirtual 123, 3) := by decide +kernel
theorem px_d286_112 : decode prog_3_method_14_code 112 = .ok (.ior, 1) := by decide +kernel
theorem px_d286_113 : decode prog_3_method_14_code 113 = .ok (.istore_n 1, 1) := by decide +kernel
theorem px_d286_114 : decode prog_3_method_14_code 114 = .ok (.iinc 3 1, 3) := by decide +kernel
theorem px_d286_117 : decode prog_3_method_14_code 117 = .ok (.goto (-111), 3) := by decide +kernel
theorem px_d286_120 : decode prog_3_method_14_code 120 = .ok (.iload_n 1, 1) := by decide +kernel
theorem px_d286_121 : decode prog_3_method_14_code 121 = .ok (.ireturn, 1) := by decide +kernel
theorem px_d288_0 : decode prog_3_method_15_code 0 = .ok (.aload_n 0, 1) := by decide +kernel
theorem px_d288_1 : decode prog_3_method_15_code 1 = .ok (.getfield 77, 3) := by decide +kernel
theorem px_d288_4 : decode prog_3_method_15_code 4 = .ok (.aload_n 1, 1) := by decide +kernel
theorem px_d288_5 : decode prog_3_method_15_code 5 = .ok (.getfield 77, 3) := by decide +kernel
theorem px_d288_8 : decode prog_3_method_15_code 8 = .ok (.invokestatic 127, 3) := by decide +kernel
theorem px_d288_11 : decode prog_3_method_15_code 11 = .ok (.istore_n 2, 1) := by decide +kernel
theorem px_d288_12 : decode prog_3_method_15_code 12 = .ok (.iload_n 2, 1) := by decide +kernel
theorem px_d288_13 : decode prog_3_method_15_code 13 = .ok (.ifCond .le 88, 3) := by decide +kernel
theorem px_d288_16 : decode prog_3_method_15_code 16 = .ok (.aload_n 0, 1) := by decide +kernel
theorem px_d288_17 : decode prog_3_method_15_code 17 = .ok (.getfield 9, 3) := by decide +kernel
theorem px_d288_20 : decode prog_3_method_15_code 20 = .ok (.aload_n 0, 1) := by decide +kernel
theorem px_d288_21 : decode prog_3_method_15_code 21 = .ok (.getfield 66, 3) := by decide +kernel
theorem px_d288_24 : decode prog_3_method_15_code 24 = .ok (.iload_n 2, 1) := by decide +kernel
theorem px_d288_25 : decode prog_3_method_15_code 25 = .ok (.iconst 1, 1) := by decide +kernel
theorem px_d288_26 : decode prog_3_method_15_code 26 = .ok (.iadd, 1) := by decide +kernel
theorem px_d288_27 : decode prog_3_method_15_code 27 = .ok (.invokevirtual 132, 3) := by decide +kernel
theorem px_d288_30 : decode prog_3_method_15_code 30 = .ok (.istore_n 3, 1) := by decide +kernel
theorem px_d288_31 : decode prog_3_method_15_code 31 = .ok (.aload_n 0, 1) := by decide +kernel
theorem px_d288_32 : decode prog_3_method_15_code 32 = .ok (.getfield 9, 3) := by decide +kernel
theorem px_d288_35 : decode prog_3_method_15_code 35 = .ok (.aload_n 0, 1) := by decide +kernel
theorem px_d288_36 : decode prog_3_method_15_code 36 = .ok (.getfield 66, 3) := by decide +kernel
theorem px_d288_39 : decode prog_3_method_15_code 39 = .ok (.iload_n 2, 1) := by decide +kernel
theorem px_d288_40 : decode prog_3_method_15_code 40 = .ok (.invokevirtual 132, 3) := by decide +kernel
theorem px_d288_43 : decode prog_3_method_15_code 43 = .ok (.istore 4, 2) := by decide +kernel
theorem px_d288_45 : decode prog_3_method_15_code 45 = .ok (.iload 4, 2) := by decide +kernel
theorem px_d288_47 : decode prog_3_method_15_code 47 = .ok (.iload_n 3, 1) := by decide +kernel
theorem px_d288_48 : decode prog_3_method_15_code 48 = .ok (.if_icmp .ge 47, 3) := by decide +kernel
theorem px_d288_51 : decode prog_3_method_15_code 51 = .ok (.aload_n 0, 1) := by decide +kernel
theorem px_d288_52 : decode prog_3_method_15_code 52 = .ok (.getfield 9, 3) := by decide +kernel
theorem px_d288_55 : decode prog_3_method_15_code 55 = .ok (.aload_n 0, 1) := by decide +kernel
theorem px_d288_56 : decode prog_3_method_15_code 56 = .ok (.getfield 66, 3) := by decide +kernel
theorem px_d288_59 : decode prog_3_method_15_code 59 = .ok (.iload 4, 2) := by decide +kernel
theorem px_d288_61 : decode prog_3_method_15_code 61 = .ok (.invokevirtual 137, 3) := by decide +kernel
theorem px_d288_64 : decode prog_3_method_15_code 64 = .ok (.istore 5, 2) := by decide +kernel
theorem px_d288_66 : decode prog_3_method_15_code 66 = .ok (.aload_n 0, 1) := by decide +kernel
theorem px_d288_67 : decode prog_3_method_15_code 67 = .ok (.iload 5, 2) := by decide +kernel
theorem px_d288_69 : decode prog_3_method_15_code 69 = .ok (.invokevirtual 110, 3) := by decide +kernel
theorem px_d288_72 : decode prog_3_method_15_code 72 = .ok (.iload_n 2, 1) := by decide +kernel
theorem px_d288_73 : decode prog_3_method_15_code 73 = .ok (.if_icmp .ne 16, 3) := by decide +kernel
theorem px_d288_76 : decode prog_3_method_15_code 76 = .ok (.aload_n 1, 1) := by decide +kernel
theorem px_d288_77 : decode prog_3_method_15_code 77 = .ok (.iload 5, 2) := by decide +kernel
theorem px_d288_79 : decode prog_3_method_15_code 79 = .ok (.invokevirtual 110, 3) := by decide +kernel
theorem px_d288_82 : decode prog_3_method_15_code 82 = .ok (.iload_n 2, 1) := by decide +kernel
theorem px_d288_83 : decode prog_3_method_15_code 83 = .ok (.if_icmp .ne 6, 3) := by decide +kernel
theorem px_d288_86 : decode prog_3_method_15_code 86 = .ok (.iload 5, 2) := by decide +kernel
theorem px_d288_88 : decode prog_3_method_15_code 88 = .ok (.ireturn, 1) := by decide +kernel
theorem px_d288_89 : decode prog_3_method_15_code 89 = .ok (.iinc 4 1, 3) := by decide +kernel
theorem px_d288_92 : decode prog_3_method_15_code 92 = .ok (.goto (-47), 3) := by decide +kernel
theorem px_d288_95 : decode prog_3_method_15_code 95 = .ok (.iinc 2 (-1), 3) := by decide +kernel
theorem px_d288_98 : decode prog_3_method_15_code 98 = .ok (.goto (-86), 3) := by decide +kernel
theorem px_d288_101 : decode prog_3_method_15_code 101 = .ok (.iconst 0, 1) := by decide +kernel
theorem px_d288_102 : decode prog_3_method_15_code 102 = .ok (.ireturn, 1) := by decide +kernel
theorem px_d289_0 : decode prog_3_method_16_code 0 = .ok (.aload_n 0, 1) := by decide +kernel
theorem px_d289_1 : decode prog_3_method_16_code 1 = .ok (.aload_n 1, 1) := by decide +kernel
theorem px_d289_2 : decode prog_3_method_16_code 2 = .ok (.invokevirtual 140, 3) := by decide +kernel
theorem px_d289_5 : decode prog_3_method_16_code 5 = .ok (.invokestatic 71, 3) := by decide +kernel
theorem px_d289_8 : decode prog_3_method_16_code 8 = .ok (.istore_n 2, 1) := by decide +kernel
theorem px_d289_9 : decode prog_3_method_16_code 9 = .ok (.aload_n 0, 1) := by decide +kernel
theorem px_d289_10 : decode prog_3_method_16_code 10 = .ok (.invokevirtual 67, 3) := by decide +kernel
theorem px_d289_13 : decode prog_3_method_16_code 13 = .ok (.istore_n 3, 1) := by decide +kernel
theorem px_d289_14 : decode prog_3_method_16_code 14 = .ok (.iconst 0, 1) := by decide +kernel
theorem px_d289_15 : decode prog_3_method_16_code 15 = .ok (.istore 4, 2) := by decide +kernel
theorem px_d289_17 : decode prog_3_method_16_code 17 = .ok (.iload 4, 2) := by decide +kernel
theorem px_d289_19 : decode prog_3_method_16_code 19 = .ok (.aload_n 0, 1) := by decide +kernel
theorem px_d289_20 : decode prog_3_method_16_code 20 = .ok (.invokevirtual 67, 3) := by decide +kernel
theorem px_d289_23 : decode prog_3_method_16_code 23 = .ok (.if_icmp .gt 36, 3) := by decide +kernel
theorem px_d289_26 : decode prog_3_method_16_code 26 = .ok (.aload_n 0, 1) := by decide +kernel
theorem px_d289_27 : decode prog_3_method_16_code 27 = .ok (.iload 4, 2) := by decide +kernel
theorem px_d289_29 : decode prog_3_method_16_code 29 = .ok (.invokevirtual 110, 3) := by decide +kernel
theorem px_d289_32 : decode prog_3_method_16_code 32 = .ok (.aload_n 1, 1) := by decide +kernel
theorem px_d289_33 : decode prog_3_method_16_code 33 = .ok (.aload_n 0, 1) := by decide +kernel
theorem px_d289_34 : decode prog_3_method_16_code 34 = .ok (.invokevirtual 67, 3) := by decide +kernel
theorem px_d289_37 : decode prog_3_method_16_code 37 = .ok (.iload 4, 2) := by decide +kernel
theorem px_d289_39 : decode prog_3_method_16_code 39 = .ok (.ixor, 1) := by decide +kernel
theorem px_d289_40 : decode prog_3_method_16_code 40 = .ok (.invokevirtual 110, 3) := by decide +kernel
theorem px_d289_43 : decode prog_3_method_16_code 43 = .ok (.iadd, 1) := by decide +kernel
theorem px_d289_44 : decode prog_3_method_16_code 44 = .ok (.iload_n 2, 1) := by decide +kernel
theorem px_d289_45 : decode prog_3_method_16_code 45 = .ok (.if_icmp .ne 8, 3) := by decide +kernel
theorem px_d289_48 : decode prog_3_method_16_code 48 = .ok (.iload_n 3, 1) := by decide +kernel
theorem px_d289_49 : decode prog_3_method_16_code 49 = .ok (.iload 4, 2) := by decide +kernel
theorem px_d289_51 : decode prog_3_method_16_code 51 = .ok (.iand, 1) := by decide +kernel
theorem px_d289_52 : decode prog_3_method_16_code 52 = .ok (.istore_n 3, 1) := by decide +kernel
theorem px_d289_53 : decode prog_3_method_16_code 53 = .ok (.iinc 4 1, 3) := by decide +kernel
theorem px_d289_56 : decode prog_3_method_16_code 56 = .ok (.goto (-39), 3) := by decide +kernel
theorem px_d289_59 : decode prog_3_method_16_code 59 = .ok (.iload_n 3, 1) := by decide +kernel
theorem px_d289_60 : decode prog_3_method_16_code 60 = .ok (.ireturn, 1) := by decide +kernel
theorem px_d293_0 : decode prog_3_method_17_code 0 = .ok (.iload_n 1, 1) := by decide +kernel
theorem px_d293_1 : decode prog_3_method_17_code 1 = .ok (.iload_n 1, 1) := by decide +kernel
theorem px_d293_2 : decode prog_3_method_17_code 2 = .ok (.ineg, 1) := by decide +kernel
theorem px_d293_3 : decode prog_3_method_17_code 3 = .ok (.iand, 1) := by decide +kernel
theorem px_d293_4 : decode prog_3_method_17_code 4 = .ok (.istore_n 2, 1) := by decide +kernel
theorem px_d293_5 : decode prog_3_method_17_code 5 = .ok (.iload_n 1, 1) := by decide +kernel
theorem px_d293_6 : decode prog_3_method_17_code 6 = .ok (.iload_n 2, 1) := by decide +kernel
theorem px_d293_7 : decode prog_3_method_17_code 7 = .ok (.ixor, 1) := by decide +kernel
theorem px_d293_8 : decode prog_3_method_17_code 8 = .ok (.istore_n 3, 1) := by decide +kernel
theorem px_d293_9 : decode prog_3_method_17_code 9 = .ok (.iload_n 3, 1) := by decide +kernel
theorem px_d293_10 : decode prog_3_method_17_code 10 = .ok (.aload_n 0, 1) := by decide +kernel
theorem px_d293_11 : decode prog_3_method_17_code 11 = .ok (.iload_n 3, 1) := by decide +kernel
theorem px_d293_12 : decode prog_3_method_17_code 12 = .ok (.aload_n 0, 1) := by decide +kernel
theorem px_d293_13 : decode prog_3_method_17_code 13 = .ok (.invokevirtual 67, 3) := by decide +kernel
theorem px_d293_16 : decode prog_3_method_17_code 16 = .ok (.iload_n 3, 1) := by decide +kernel
theorem px_d293_17 : decode prog_3_method_17_code 17 = .ok (.iconst (-1), 1) := by decide +kernel
theorem px_d293_18 : decode prog_3_method_17_code 18 = .ok (.ixor, 1) := by decide +kernel
theorem px_d293_19 : decode prog_3_method_17_code 19 = .ok (.iand, 1) := by decide +kernel
theorem px_d293_20 : decode prog_3_method_17_code 20 = .ok (.invokevirtual 123, 3) := by decide +kernel
theorem px_d293_23 : decode prog_3_method_17_code 23 = .ok (.ior, 1) := by decide +kernel
theorem px_d293_24 : decode prog_3_method_17_code 24 = .ok (.istore 4, 2) := by decide +kernel
theorem px_d293_26 : decode prog_3_method_17_code 26 = .ok (.iconst 0, 1) := by decide +kernel
theorem px_d293_27 : decode prog_3_method_17_code 27 = .ok (.istore 5, 2) := by decide +kernel
theorem px_d293_29 : decode prog_3_method_17_code 29 = .ok (.iconst 0, 1) := by decide +kernel
theorem px_d293_30 : decode prog_3_method_17_code 30 = .ok (.istore 6, 2) := by decide +kernel
theorem px_d293_32 : decode prog_3_method_17_code 32 = .ok (.iload 6, 2) := by decide +kernel
theorem px_d293_34 : decode prog_3_method_17_code 34 = .ok (.aload_n 0, 1) := by decide +kernel
theorem px_d293_35 : decode prog_3_method_17_code 35 = .ok (.getfield 66, 3) := by decide +kernel
theorem px_d293_38 : decode prog_3_method_17_code 38 = .ok (.if_icmp .ge 97, 3) := by decide +kernel
theorem px_d293_41 : decode prog_3_method_17_code 41 = .ok (.iload_n 3, 1) := by decide +kernel
theorem px_d293_42 : decode prog_3_method_17_code 42 = .ok (.iconst 1, 1) := by decide +kernel
theorem px_d293_43 : decode prog_3_method_17_code 43 = .ok (.iload 6, 2) := by decide +kernel
theorem px_d293_45 : decode prog_3_method_17_code 45 = .ok (.ishl, 1) := by decide +kernel
theorem px_d293_46 : decode prog_3_method_17_code 46 = .ok (.iand, 1) := by decide +kernel
theorem px_d293_47 : decode prog_3_method_17_code 47 = .ok (.istore 7, 2) := by decide +kernel
theorem px_d293_49 : decode prog_3_method_17_code 49 = .ok (.iload 7, 2) := by decide +kernel
theorem px_d293_51 : decode prog_3_method_17_code 51 = .ok (.ifCond .eq 78, 3) := by decide +kernel
theorem px_d293_54 : decode prog_3_method_17_code 54 = .ok (.aload_n 0, 1) := by decide +kernel
theorem px_d293_55 : decode prog_3_method_17_code 55 = .ok (.getfield 36, 3) := by decide +kernel
theorem px_d293_58 : decode prog_3_method_17_code 58 = .ok (.iload 4, 2) := by decide +kernel
theorem px_d293_60 : decode prog_3_method_17_code 60 = .ok (.baload, 1) := by decide +kernel
theorem px_d293_61 : decode prog_3_method_17_code 61 = .ok (.aload_n 0, 1) := by decide +kernel
theorem px_d293_62 : decode prog_3_method_17_code 62 = .ok (.getfield 36, 3) := by decide +kernel
theorem px_d293_65 : decode prog_3_method_17_code 65 = .ok (.iload 4, 2) := by decide +kernel
theorem px_d293_67 : decode prog_3_method_17_code 67 = .ok (.iload 7, 2) := by decide +kernel
theorem px_d293_69 : decode prog_3_method_17_code 69 = .ok (.ixor, 1) := by decide +kernel
theorem px_d293_70 : decode prog_3_method_17_code 70 = .ok (.iload_n 2, 1) := by decide +kernel
theorem px_d293_71 : decode prog_3_method_17_code 71 = .ok (.ixor, 1) := by decide +kernel
theorem px_d293_72 : decode prog_3_method_17_code 72 = .ok (.baload, 1) := by decide +kernel
theorem px_d293_73 : decode prog_3_method_17_code 73 = .ok (.imul, 1) := by decide +kernel
theorem px_d293_74 : decode prog_3_method_17_code 74 = .ok (.istore 8, 2) := by decide +kernel
theorem px_d293_76 : decode prog_3_method_17_code 76 = .ok (.iload 4, 2) := by decide +kernel
theorem px_d293_78 : decode prog_3_method_17_code 78 = .ok (.iload 7, 2) := by decide +kernel
theorem px_d293_80 : decode prog_3_method_17_code 80 = .ok (.iload_n 2, 1) := by decide +kernel
theorem px_d293_81 : decode prog_3_method_17_code 81 = .ok (.ior, 1) := by decide +kernel
theorem px_d293_82 : decode prog_3_method_17_code 82 = .ok (.invokestatic 144, 3) := by decide +kernel
theorem px_d293_85 : decode prog_3_method_17_code 85 = .ok (.ifCond .eq 16, 3) := by decide +kernel
theorem px_d293_88 : decode prog_3_method_17_code 88 = .ok (.iload 8, 2) := by decide +kernel
theorem px_d293_90 : decode prog_3_method_17_code 90 = .ok (.ifCond .ge 7, 3) := by decide +kernel
theorem px_d293_93 : decode prog_3_method_17_code 93 = .ok (.iconst 1, 1) := by decide +kernel
theorem px_d293_94 : decode prog_3_method_17_code 94 = .ok (.goto 17, 3) := by decide +kernel
theorem px_d293_97 : decode prog_3_method_17_code 97 = .ok (.iconst 0, 1) := by decide +kernel
theorem px_d293_98 : decode prog_3_method_17_code 98 = .ok (.goto 13, 3) := by decide +kernel
theorem px_d293_101 : decode prog_3_method_17_code 101 = .ok (.iload 8, 2) := by decide +kernel
theorem px_d293_103 : decode prog_3_method_17_code 103 = .ok (.ifCond .le 7, 3) := by decide +kernel
theorem px_d293_106 : decode prog_3_method_17_code 106 = .ok (.iconst 1, 1) := by decide +kernel
theorem px_d293_107 : decode prog_3_method_17_code 107 = .ok (.goto 4, 3) := by decide +kernel
theorem px_d293_110 : decode prog_3_method_17_code 110 = .ok (.iconst 0, 1) := by decide +kernel
theorem px_d293_111 : decode prog_3_method_17_code 111 = .ok (.istore 9, 2) := by decide +kernel
theorem px_d293_113 : decode prog_3_method_17_code 113 = .ok (.iload 5, 2) := by decide +kernel
theorem px_d293_115 : decode prog_3_method_17_code 115 = .ok (.iload 9, 2) := by decide +kernel
theorem px_d293_117 : decode prog_3_method_17_code 117 = .ok (.ifCond .eq 8, 3) := by decide +kernel
theorem px_d293_120 : decode prog_3_method_17_code 120 = .ok (.iload 7, 2) := by decide +kernel
theorem px_d293_122 : decode prog_3_method_17_code 122 = .ok (.goto 4, 3) := by decide +kernel
theorem px_d293_125 : decode prog_3_method_17_code 125 = .ok (.iconst 0, 1) := by decide +kernel
theorem px_d293_126 : decode prog_3_method_17_code 126 = .ok (.ior, 1) := by decide +kernel
theorem px_d293_127 : decode prog_3_method_17_code 127 = .ok (.istore 5, 2) := by decide +kernel
theorem px_d293_129 : decode prog_3_method_17_code 129 = .ok (.iinc 6 1, 3) := by decide +kernel
theorem px_d293_132 : decode prog_3_method_17_code 132 = .ok (.goto (-100), 3) := by decide +kernel
theorem px_d293_135 : decode prog_3_method_17_code 135 = .ok (.iload 5, 2) := by decide +kernel
theorem px_d293_137 : decode prog_3_method_17_code 137 = .ok (.ireturn, 1) := by decide +kernel
theorem px_d311_0 : decode prog_3_method_13_code 0 = .ok (.aload_n 0, 1) := by decide +kernel
theorem px_d311_1 : decode prog_3_method_13_code 1 = .ok (.iconst 0, 1) := by decide +kernel
theorem px_d311_2 : decode prog_3_method_13_code 2 = .ok (.aload_n 0, 1) := by decide +kernel
theorem px_d311_3 : decode prog_3_method_13_code 3 = .ok (.invokevirtual 67, 3) := by decide +kernel
theorem px_d311_6 : decode prog_3_method_13_code 6 = .ok (.invokevirtual 123, 3) := by decide +kernel
theorem px_d311_9 : decode prog_3_method_13_code 9 = .ok (.ireturn, 1) := by decide +kernel
theorem px_d341_0 : decode prog_3_method_8_code 0 = .ok (.iload_n 1, 1) := by decide +kernel
theorem px_d341_1 : decode prog_3_method_8_code 1 = .ok (.ifCond .lt 15, 3) := by decide +kernel
theorem px_d341_4 : decode prog_3_method_8_code 4 = .ok (.iload_n 1, 1) := by decide +kernel
theorem px_d341_5 : decode prog_3_method_8_code 5 = .ok (.aload_n 0, 1) := by decide +kernel
theorem px_d341_6 : decode prog_3_method_8_code 6 = .ok (.invokevirtual 67, 3) := by decide +kernel
theorem px_d341_9 : decode prog_3_method_8_code 9 = .ok (.if_icmp .gt 7, 3) := by decide +kernel
theorem px_d341_12 : decode prog_3_method_8_code 12 = .ok (.iconst 1, 1) := by decide +kernel
theorem px_d341_13 : decode prog_3_method_8_code 13 = .ok (.goto 4, 3) := by decide +kernel
theorem px_d341_16 : decode prog_3_method_8_code 16 = .ok (.iconst 0, 1) := by decide +kernel
theorem px_d341_17 : decode prog_3_method_8_code 17 = .ok (.ireturn, 1) := by decide +kernel
