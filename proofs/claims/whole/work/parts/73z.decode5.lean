theorem px_d242_9 : decode prog_25_method_52_code 9 = .ok (.lcmp, 1) := by decide +kernel
theorem px_d242_10 : decode prog_25_method_52_code 10 = .ok (.ifCond .ge 15, 3) := by decide +kernel
theorem px_d242_13 : decode prog_25_method_52_code 13 = .ok (.lload 4, 2) := by decide +kernel
theorem px_d242_15 : decode prog_25_method_52_code 15 = .ok (.lconst 0, 1) := by decide +kernel
theorem px_d242_16 : decode prog_25_method_52_code 16 = .ok (.lcmp, 1) := by decide +kernel
theorem px_d242_17 : decode prog_25_method_52_code 17 = .ok (.ifCond .eq 8, 3) := by decide +kernel
theorem px_d242_20 : decode prog_25_method_52_code 20 = .ok (.lload 4, 2) := by decide +kernel
theorem px_d242_22 : decode prog_25_method_52_code 22 = .ok (.lload_n 2, 1) := by decide +kernel
theorem px_d242_23 : decode prog_25_method_52_code 23 = .ok (.ladd, 1) := by decide +kernel
theorem px_d242_24 : decode prog_25_method_52_code 24 = .ok (.lreturn, 1) := by decide +kernel
theorem px_d242_25 : decode prog_25_method_52_code 25 = .ok (.lload 4, 2) := by decide +kernel
theorem px_d242_27 : decode prog_25_method_52_code 27 = .ok (.lreturn, 1) := by decide +kernel
theorem px_d243_0 : decode prog_4_method_4_code 0 = .ok (.aload_n 0, 1) := by decide +kernel
theorem px_d243_1 : decode prog_4_method_4_code 1 = .ok (.getfield 36, 3) := by decide +kernel
theorem px_d243_4 : decode prog_4_method_4_code 4 = .ok (.iload_n 1, 1) := by decide +kernel
theorem px_d243_5 : decode prog_4_method_4_code 5 = .ok (.laload, 1) := by decide +kernel
theorem px_d243_6 : decode prog_4_method_4_code 6 = .ok (.lconst 0, 1) := by decide +kernel
theorem px_d243_7 : decode prog_4_method_4_code 7 = .ok (.lcmp, 1) := by decide +kernel
theorem px_d243_8 : decode prog_4_method_4_code 8 = .ok (.ifCond .ge 5, 3) := by decide +kernel
theorem px_d243_11 : decode prog_4_method_4_code 11 = .ok (.iconst (-1), 1) := by decide +kernel
theorem px_d243_12 : decode prog_4_method_4_code 12 = .ok (.ireturn, 1) := by decide +kernel
theorem px_d243_13 : decode prog_4_method_4_code 13 = .ok (.aload_n 0, 1) := by decide +kernel
theorem px_d243_14 : decode prog_4_method_4_code 14 = .ok (.getfield 29, 3) := by decide +kernel
theorem px_d243_17 : decode prog_4_method_4_code 17 = .ok (.iload_n 1, 1) := by decide +kernel
theorem px_d243_18 : decode prog_4_method_4_code 18 = .ok (.laload, 1) := by decide +kernel
theorem px_d243_19 : decode prog_4_method_4_code 19 = .ok (.aload_n 0, 1) := by decide +kernel
theorem px_d243_20 : decode prog_4_method_4_code 20 = .ok (.getfield 33, 3) := by decide +kernel
theorem px_d243_23 : decode prog_4_method_4_code 23 = .ok (.iload_n 1, 1) := by decide +kernel
theorem px_d243_24 : decode prog_4_method_4_code 24 = .ok (.laload, 1) := by decide +kernel
theorem px_d243_25 : decode prog_4_method_4_code 25 = .ok (.lor, 1) := by decide +kernel
theorem px_d243_26 : decode prog_4_method_4_code 26 = .ok (.aload_n 0, 1) := by decide +kernel
theorem px_d243_27 : decode prog_4_method_4_code 27 = .ok (.getfield 36, 3) := by decide +kernel
theorem px_d243_30 : decode prog_4_method_4_code 30 = .ok (.iload_n 1, 1) := by decide +kernel
theorem px_d243_31 : decode prog_4_method_4_code 31 = .ok (.laload, 1) := by decide +kernel
theorem px_d243_32 : decode prog_4_method_4_code 32 = .ok (.lor, 1) := by decide +kernel
theorem px_d243_33 : decode prog_4_method_4_code 33 = .ok (.lconst 0, 1) := by decide +kernel
theorem px_d243_34 : decode prog_4_method_4_code 34 = .ok (.lcmp, 1) := by decide +kernel
theorem px_d243_35 : decode prog_4_method_4_code 35 = .ok (.ifCond .ne 7, 3) := by decide +kernel
theorem px_d243_38 : decode prog_4_method_4_code 38 = .ok (.iconst 0, 1) := by decide +kernel
theorem px_d243_39 : decode prog_4_method_4_code 39 = .ok (.goto 4, 3) := by decide +kernel
theorem px_d243_42 : decode prog_4_method_4_code 42 = .ok (.iconst 1, 1) := by decide +kernel
theorem px_d243_43 : decode prog_4_method_4_code 43 = .ok (.ireturn, 1) := by decide +kernel
theorem px_d244_0 : decode prog_8_method_1_code 0 = .ok (.aload_n 0, 1) := by decide +kernel
theorem px_d244_1 : decode prog_8_method_1_code 1 = .ok (.invokespecial 1, 3) := by decide +kernel
theorem px_d244_4 : decode prog_8_method_1_code 4 = .ok (.aload_n 0, 1) := by decide +kernel
theorem px_d244_5 : decode prog_8_method_1_code 5 = .ok (.iload_n 1, 1) := by decide +kernel
theorem px_d244_6 : decode prog_8_method_1_code 6 = .ok (.putfield 7, 3) := by decide +kernel
theorem px_d244_9 : decode prog_8_method_1_code 9 = .ok (.aload_n 0, 1) := by decide +kernel
theorem px_d244_10 : decode prog_8_method_1_code 10 = .ok (.iload_n 2, 1) := by decide +kernel
theorem px_d244_11 : decode prog_8_method_1_code 11 = .ok (.putfield 13, 3) := by decide +kernel
theorem px_d244_14 : decode prog_8_method_1_code 14 = .ok (.aload_n 0, 1) := by decide +kernel
theorem px_d244_15 : decode prog_8_method_1_code 15 = .ok (.iload_n 3, 1) := by decide +kernel
theorem px_d244_16 : decode prog_8_method_1_code 16 = .ok (.putfield 16, 3) := by decide +kernel
theorem px_d244_19 : decode prog_8_method_1_code 19 = .ok (.aload_n 0, 1) := by decide +kernel
theorem px_d244_20 : decode prog_8_method_1_code 20 = .ok (.aload 4, 2) := by decide +kernel
theorem px_d244_22 : decode prog_8_method_1_code 22 = .ok (.putfield 19, 3) := by decide +kernel
theorem px_d244_25 : decode prog_8_method_1_code 25 = .ok (.return_, 1) := by decide +kernel
theorem px_d245_0 : decode prog_3_method_2_code 0 = .ok (.aload_n 0, 1) := by decide +kernel
theorem px_d245_1 : decode prog_3_method_2_code 1 = .ok (.aload_n 2, 1) := by decide +kernel
theorem px_d245_2 : decode prog_3_method_2_code 2 = .ok (.getfield 47, 3) := by decide +kernel
theorem px_d245_5 : decode prog_3_method_2_code 5 = .ok (.aload_n 2, 1) := by decide +kernel
theorem px_d245_6 : decode prog_3_method_2_code 6 = .ok (.getfield 53, 3) := by decide +kernel
theorem px_d245_9 : decode prog_3_method_2_code 9 = .ok (.aload_n 2, 1) := by decide +kernel
theorem px_d245_10 : decode prog_3_method_2_code 10 = .ok (.getfield 56, 3) := by decide +kernel
theorem px_d245_13 : decode prog_3_method_2_code 13 = .ok (.invokevirtual 59, 3) := by decide +kernel
theorem px_d245_16 : decode prog_3_method_2_code 16 = .ok (.new 15, 3) := by decide +kernel
theorem px_d245_19 : decode prog_3_method_2_code 19 = .ok (.dup, 1) := by decide +kernel
theorem px_d245_20 : decode prog_3_method_2_code 20 = .ok (.aload_n 2, 1) := by decide +kernel
theorem px_d245_21 : decode prog_3_method_2_code 21 = .ok (.iconst 0, 1) := by decide +kernel
theorem px_d245_22 : decode prog_3_method_2_code 22 = .ok (.iconst 0, 1) := by decide +kernel
theorem px_d245_23 : decode prog_3_method_2_code 23 = .ok (.invokespecial 63, 3) := by decide +kernel
theorem px_d245_26 : decode prog_3_method_2_code 26 = .ok (.astore_n 3, 1) := by decide +kernel
theorem px_d245_27 : decode prog_3_method_2_code 27 = .ok (.iconst 0, 1) := by decide +kernel
theorem px_d245_28 : decode prog_3_method_2_code 28 = .ok (.istore 4, 2) := by decide +kernel
theorem px_d245_30 : decode prog_3_method_2_code 30 = .ok (.iload 4, 2) := by decide +kernel
theorem px_d245_32 : decode prog_3_method_2_code 32 = .ok (.aload_n 0, 1) := by decide +kernel
theorem px_d245_33 : decode prog_3_method_2_code 33 = .ok (.getfield 66, 3) := by decide +kernel
theorem px_d245_36 : decode prog_3_method_2_code 36 = .ok (.if_icmp .ge 26, 3) := by decide +kernel
theorem px_d245_39 : decode prog_3_method_2_code 39 = .ok (.aload_n 0, 1) := by decide +kernel
theorem px_d245_40 : decode prog_3_method_2_code 40 = .ok (.getfield 17, 3) := by decide +kernel
theorem px_d245_43 : decode prog_3_method_2_code 43 = .ok (.iload 4, 2) := by decide +kernel
theorem px_d245_45 : decode prog_3_method_2_code 45 = .ok (.aload_n 3, 1) := by decide +kernel
theorem px_d245_46 : decode prog_3_method_2_code 46 = .ok (.aastore, 1) := by decide +kernel
theorem px_d245_47 : decode prog_3_method_2_code 47 = .ok (.aload_n 0, 1) := by decide +kernel
theorem px_d245_48 : decode prog_3_method_2_code 48 = .ok (.getfield 21, 3) := by decide +kernel
theorem px_d245_51 : decode prog_3_method_2_code 51 = .ok (.iload 4, 2) := by decide +kernel
theorem px_d245_53 : decode prog_3_method_2_code 53 = .ok (.iload 4, 2) := by decide +kernel
theorem px_d245_55 : decode prog_3_method_2_code 55 = .ok (.iastore, 1) := by decide +kernel
theorem px_d245_56 : decode prog_3_method_2_code 56 = .ok (.iinc 4 1, 3) := by decide +kernel
theorem px_d245_59 : decode prog_3_method_2_code 59 = .ok (.goto (-29), 3) := by decide +kernel
theorem px_d245_62 : decode prog_3_method_2_code 62 = .ok (.iconst 0, 1) := by decide +kernel
theorem px_d245_63 : decode prog_3_method_2_code 63 = .ok (.istore 4, 2) := by decide +kernel
theorem px_d245_65 : decode prog_3_method_2_code 65 = .ok (.iload 4, 2) := by decide +kernel
theorem px_d245_67 : decode prog_3_method_2_code 67 = .ok (.aload_n 0, 1) := by decide +kernel
theorem px_d245_68 : decode prog_3_method_2_code 68 = .ok (.invokevirtual 67, 3) := by decide +kernel
theorem px_d245_71 : decode prog_3_method_2_code 71 = .ok (.if_icmp .gt 39, 3) := by decide +kernel
theorem px_d245_74 : decode prog_3_method_2_code 74 = .ok (.aload_n 0, 1) := by decide +kernel
theorem px_d245_75 : decode prog_3_method_2_code 75 = .ok (.getfield 36, 3) := by decide +kernel
theorem px_d245_78 : decode prog_3_method_2_code 78 = .ok (.iload 4, 2) := by decide +kernel
theorem px_d245_80 : decode prog_3_method_2_code 80 = .ok (.iload 4, 2) := by decide +kernel
theorem px_d245_82 : decode prog_3_method_2_code 82 = .ok (.invokestatic 71, 3) := by decide +kernel
theorem px_d245_85 : decode prog_3_method_2_code 85 = .ok (.aload_n 0, 1) := by decide +kernel
theorem px_d245_86 : decode prog_3_method_2_code 86 = .ok (.getfield 77, 3) := by decide +kernel
theorem px_d245_89 : decode prog_3_method_2_code 89 = .ok (.if_icmp .ne 13, 3) := by decide +kernel
theorem px_d245_92 : decode prog_3_method_2_code 92 = .ok (.aload_n 1, 1) := by decide +kernel
theorem px_d245_93 : decode prog_3_method_2_code 93 = .ok (.iload 4, 2) := by decide +kernel
theorem px_d245_95 : decode prog_3_method_2_code 95 = .ok (.invokevirtual 80, 3) := by decide +kernel
theorem px_d245_98 : decode prog_3_method_2_code 98 = .ok (.i2b, 1) := by decide +kernel
theorem px_d245_99 : decode prog_3_method_2_code 99 = .ok (.goto 4, 3) := by decide +kernel
theorem px_d245_102 : decode prog_3_method_2_code 102 = .ok (.iconst 0, 1) := by decide +kernel
theorem px_d245_103 : decode prog_3_method_2_code 103 = .ok (.bastore, 1) := by decide +kernel
theorem px_d245_104 : decode prog_3_method_2_code 104 = .ok (.iinc 4 1, 3) := by decide +kernel
theorem px_d245_107 : decode prog_3_method_2_code 107 = .ok (.goto (-42), 3) := by decide +kernel
theorem px_d245_110 : decode prog_3_method_2_code 110 = .ok (.aload_n 0, 1) := by decide +kernel
theorem px_d245_111 : decode prog_3_method_2_code 111 = .ok (.invokevirtual 85, 3) := by decide +kernel
theorem px_d245_114 : decode prog_3_method_2_code 114 = .ok (.return_, 1) := by decide +kernel
theorem px_d246_0 : decode prog_3_method_19_code 0 = .ok (.aload_n 0, 1) := by decide +kernel
theorem px_d246_1 : decode prog_3_method_19_code 1 = .ok (.iload_n 1, 1) := by decide +kernel
theorem px_d246_2 : decode prog_3_method_19_code 2 = .ok (.putfield 88, 3) := by decide +kernel
theorem px_d246_5 : decode prog_3_method_19_code 5 = .ok (.aload_n 0, 1) := by decide +kernel
theorem px_d246_6 : decode prog_3_method_19_code 6 = .ok (.iload_n 2, 1) := by decide +kernel
theorem px_d246_7 : decode prog_3_method_19_code 7 = .ok (.putfield 66, 3) := by decide +kernel
theorem px_d246_10 : decode prog_3_method_19_code 10 = .ok (.aload_n 0, 1) := by decide +kernel
theorem px_d246_11 : decode prog_3_method_19_code 11 = .ok (.iload_n 3, 1) := by decide +kernel
theorem px_d246_12 : decode prog_3_method_19_code 12 = .ok (.putfield 77, 3) := by decide +kernel
theorem px_d246_15 : decode prog_3_method_19_code 15 = .ok (.aload_n 0, 1) := by decide +kernel
theorem px_d246_16 : decode prog_3_method_19_code 16 = .ok (.iconst 0, 1) := by decide +kernel
theorem px_d246_17 : decode prog_3_method_19_code 17 = .ok (.putfield 103, 3) := by decide +kernel
theorem px_d246_20 : decode prog_3_method_19_code 20 = .ok (.aload_n 0, 1) := by decide +kernel
theorem px_d246_21 : decode prog_3_method_19_code 21 = .ok (.iconst 0, 1) := by decide +kernel
theorem px_d246_22 : decode prog_3_method_19_code 22 = .ok (.putfield 117, 3) := by decide +kernel
theorem px_d246_25 : decode prog_3_method_19_code 25 = .ok (.aload_n 0, 1) := by decide +kernel
theorem px_d246_26 : decode prog_3_method_19_code 26 = .ok (.getfield 9, 3) := by decide +kernel
theorem px_d246_29 : decode prog_3_method_19_code 29 = .ok (.aload_n 0, 1) := by decide +kernel
theorem px_d246_30 : decode prog_3_method_19_code 30 = .ok (.getfield 66, 3) := by decide +kernel
theorem px_d246_33 : decode prog_3_method_19_code 33 = .ok (.invokevirtual 153, 3) := by decide +kernel
theorem px_d246_36 : decode prog_3_method_19_code 36 = .ok (.aload_n 0, 1) := by decide +kernel
theorem px_d246_37 : decode prog_3_method_19_code 37 = .ok (.getfield 36, 3) := by decide +kernel
theorem px_d246_40 : decode prog_3_method_19_code 40 = .ok (.arraylength, 1) := by decide +kernel
theorem px_d246_41 : decode prog_3_method_19_code 41 = .ok (.iconst 1, 1) := by decide +kernel
theorem px_d246_42 : decode prog_3_method_19_code 42 = .ok (.aload_n 0, 1) := by decide +kernel
theorem px_d246_43 : decode prog_3_method_19_code 43 = .ok (.getfield 66, 3) := by decide +kernel
theorem px_d246_46 : decode prog_3_method_19_code 46 = .ok (.ishl, 1) := by decide +kernel
theorem px_d246_47 : decode prog_3_method_19_code 47 = .ok (.if_icmp .ge 15, 3) := by decide +kernel
theorem px_d246_50 : decode prog_3_method_19_code 50 = .ok (.aload_n 0, 1) := by decide +kernel
theorem px_d246_51 : decode prog_3_method_19_code 51 = .ok (.iconst 1, 1) := by decide +kernel
theorem px_d246_52 : decode prog_3_method_19_code 52 = .ok (.aload_n 0, 1) := by decide +kernel
theorem px_d246_53 : decode prog_3_method_19_code 53 = .ok (.getfield 66, 3) := by decide +kernel
theorem px_d246_56 : decode prog_3_method_19_code 56 = .ok (.ishl, 1) := by decide +kernel
theorem px_d246_57 : decode prog_3_method_19_code 57 = .ok (.newarray .byte, 2) := by decide +kernel
theorem px_d246_59 : decode prog_3_method_19_code 59 = .ok (.putfield 36, 3) := by decide +kernel
theorem px_d246_62 : decode prog_3_method_19_code 62 = .ok (.aload_n 0, 1) := by decide +kernel
theorem px_d246_63 : decode prog_3_method_19_code 63 = .ok (.getfield 25, 3) := by decide +kernel
theorem px_d246_66 : decode prog_3_method_19_code 66 = .ok (.iconst 0, 1) := by decide +kernel
theorem px_d246_67 : decode prog_3_method_19_code 67 = .ok (.invokestatic 156, 3) := by decide +kernel
theorem px_d246_70 : decode prog_3_method_19_code 70 = .ok (.aload_n 0, 1) := by decide +kernel
theorem px_d246_71 : decode prog_3_method_19_code 71 = .ok (.getfield 33, 3) := by decide +kernel
theorem px_d246_74 : decode prog_3_method_19_code 74 = .ok (.iconst (-1), 1) := by decide +kernel
theorem px_d246_75 : decode prog_3_method_19_code 75 = .ok (.invokestatic 156, 3) := by decide +kernel
theorem px_d246_78 : decode prog_3_method_19_code 78 = .ok (.return_, 1) := by decide +kernel
theorem px_d247_0 : decode prog_33_method_103_code 0 = .ok (.iconst 0, 1) := by decide +kernel
theorem px_d247_1 : decode prog_33_method_103_code 1 = .ok (.istore_n 2, 1) := by decide +kernel
theorem px_d247_2 : decode prog_33_method_103_code 2 = .ok (.aload_n 0, 1) := by decide +kernel
theorem px_d247_3 : decode prog_33_method_103_code 3 = .ok (.arraylength, 1) := by decide +kernel
theorem px_d247_4 : decode prog_33_method_103_code 4 = .ok (.istore_n 3, 1) := by decide +kernel
theorem px_d247_5 : decode prog_33_method_103_code 5 = .ok (.iload_n 2, 1) := by decide +kernel
theorem px_d247_6 : decode prog_33_method_103_code 6 = .ok (.iload_n 3, 1) := by decide +kernel
theorem px_d247_7 : decode prog_33_method_103_code 7 = .ok (.if_icmp .ge 13, 3) := by decide +kernel
theorem px_d247_10 : decode prog_33_method_103_code 10 = .ok (.aload_n 0, 1) := by decide +kernel
theorem px_d247_11 : decode prog_33_method_103_code 11 = .ok (.iload_n 2, 1) := by decide +kernel
theorem px_d247_12 : decode prog_33_method_103_code 12 = .ok (.iload_n 1, 1) := by decide +kernel
theorem px_d247_13 : decode prog_33_method_103_code 13 = .ok (.iastore, 1) := by decide +kernel
theorem px_d247_14 : decode prog_33_method_103_code 14 = .ok (.iinc 2 1, 3) := by decide +kernel
theorem px_d247_17 : decode prog_33_method_103_code 17 = .ok (.goto (-12), 3) := by decide +kernel
theorem px_d247_20 : decode prog_33_method_103_code 20 = .ok (.return_, 1) := by decide +kernel
theorem px_d248_0 : decode prog_6_method_1_code 0 = .ok (.aload_n 0, 1) := by decide +kernel
theorem px_d248_1 : decode prog_6_method_1_code 1 = .ok (.invokespecial 1, 3) := by decide +kernel
theorem px_d248_4 : decode prog_6_method_1_code 4 = .ok (.aload_n 0, 1) := by decide +kernel
theorem px_d248_5 : decode prog_6_method_1_code 5 = .ok (.aload_n 1, 1) := by decide +kernel
theorem px_d248_6 : decode prog_6_method_1_code 6 = .ok (.putfield 7, 3) := by decide +kernel
theorem px_d248_9 : decode prog_6_method_1_code 9 = .ok (.aload_n 0, 1) := by decide +kernel
theorem px_d248_10 : decode prog_6_method_1_code 10 = .ok (.iload_n 2, 1) := by decide +kernel
theorem px_d248_11 : decode prog_6_method_1_code 11 = .ok (.putfield 13, 3) := by decide +kernel
theorem px_d248_14 : decode prog_6_method_1_code 14 = .ok (.aload_n 0, 1) := by decide +kernel
theorem px_d248_15 : decode prog_6_method_1_code 15 = .ok (.iload_n 3, 1) := by decide +kernel
theorem px_d248_16 : decode prog_6_method_1_code 16 = .ok (.putfield 17, 3) := by decide +kernel
theorem px_d248_19 : decode prog_6_method_1_code 19 = .ok (.return_, 1) := by decide +kernel
theorem px_d249_0 : decode prog_3_method_7_code 0 = .ok (.iconst 1, 1) := by decide +kernel
theorem px_d249_1 : decode prog_3_method_7_code 1 = .ok (.aload_n 0, 1) := by decide +kernel
theorem px_d249_2 : decode prog_3_method_7_code 2 = .ok (.getfield 66, 3) := by decide +kernel
theorem px_d249_5 : decode prog_3_method_7_code 5 = .ok (.ishl, 1) := by decide +kernel
theorem px_d249_6 : decode prog_3_method_7_code 6 = .ok (.iconst 1, 1) := by decide +kernel
theorem px_d249_7 : decode prog_3_method_7_code 7 = .ok (.isub, 1) := by decide +kernel
theorem px_d249_8 : decode prog_3_method_7_code 8 = .ok (.ireturn, 1) := by decide +kernel
theorem px_d250_0 : decode prog_23_method_49_code 0 = .ok (.iload_n 0, 1) := by decide +kernel
theorem px_d250_1 : decode prog_23_method_49_code 1 = .ok (.iload_n 0, 1) := by decide +kernel
theorem px_d250_2 : decode prog_23_method_49_code 2 = .ok (.iconst 1, 1) := by decide +kernel
theorem px_d250_3 : decode prog_23_method_49_code 3 = .ok (.iushr, 1) := by decide +kernel
theorem px_d250_4 : decode prog_23_method_49_code 4 = .ok (.ldc_w 265, 3) := by decide +kernel
theorem px_d250_7 : decode prog_23_method_49_code 7 = .ok (.iand, 1) := by decide +kernel
theorem px_d250_8 : decode prog_23_method_49_code 8 = .ok (.isub, 1) := by decide +kernel
theorem px_d250_9 : decode prog_23_method_49_code 9 = .ok (.istore_n 0, 1) := by decide +kernel
theorem px_d250_10 : decode prog_23_method_49_code 10 = .ok (.iload_n 0, 1) := by decide +kernel
theorem px_d250_11 : decode prog_23_method_49_code 11 = .ok (.ldc_w 266, 3) := by decide +kernel
theorem px_d250_14 : decode prog_23_method_49_code 14 = .ok (.iand, 1) := by decide +kernel
theorem px_d250_15 : decode prog_23_method_49_code 15 = .ok (.iload_n 0, 1) := by decide +kernel
theorem px_d250_16 : decode prog_23_method_49_code 16 = .ok (.iconst 2, 1) := by decide +kernel
theorem px_d250_17 : decode prog_23_method_49_code 17 = .ok (.iushr, 1) := by decide +kernel
theorem px_d250_18 : decode prog_23_method_49_code 18 = .ok (.ldc_w 266, 3) := by decide +kernel
theorem px_d250_21 : decode prog_23_method_49_code 21 = .ok (.iand, 1) := by decide +kernel
theorem px_d250_22 : decode prog_23_method_49_code 22 = .ok (.iadd, 1) := by decide +kernel
theorem px_d250_23 : decode prog_23_method_49_code 23 = .ok (.istore_n 0, 1) := by decide +kernel
theorem px_d250_24 : decode prog_23_method_49_code 24 = .ok (.iload_n 0, 1) := by decide +kernel
theorem px_d250_25 : decode prog_23_method_49_code 25 = .ok (.iload_n 0, 1) := by decide +kernel
theorem px_d250_26 : decode prog_23_method_49_code 26 = .ok (.iconst 4, 1) := by decide +kernel
theorem px_d250_27 : decode prog_23_method_49_code 27 = .ok (.iushr, 1) := by decide +kernel
theorem px_d250_28 : decode prog_23_method_49_code 28 = .ok (.iadd, 1) := by decide +kernel
theorem px_d250_29 : decode prog_23_method_49_code 29 = .ok (.ldc_w 267, 3) := by decide +kernel
theorem px_d250_32 : decode prog_23_method_49_code 32 = .ok (.iand, 1) := by decide +kernel
theorem px_d250_33 : decode prog_23_method_49_code 33 = .ok (.istore_n 0, 1) := by decide +kernel
theorem px_d250_34 : decode prog_23_method_49_code 34 = .ok (.iload_n 0, 1) := by decide +kernel
theorem px_d250_35 : decode prog_23_method_49_code 35 = .ok (.iload_n 0, 1) := by decide +kernel
theorem px_d250_36 : decode prog_23_method_49_code 36 = .ok (.bipush 8, 2) := by decide +kernel
theorem px_d250_38 : decode prog_23_method_49_code 38 = .ok (.iushr, 1) := by decide +kernel
theorem px_d250_39 : decode prog_23_method_49_code 39 = .ok (.iadd, 1) := by decide +kernel
theorem px_d250_40 : decode prog_23_method_49_code 40 = .ok (.istore_n 0, 1) := by decide +kernel
theorem px_d250_41 : decode prog_23_method_49_code 41 = .ok (.iload_n 0, 1) := by decide +kernel
theorem px_d250_42 : decode prog_23_method_49_code 42 = .ok (.iload_n 0, 1) := by decide +kernel
theorem px_d250_43 : decode prog_23_method_49_code 43 = .ok (.bipush 16, 2) := by decide +kernel
theorem px_d250_45 : decode prog_23_method_49_code 45 = .ok (.iushr, 1) := by decide +kernel
theorem px_d250_46 : decode prog_23_method_49_code 46 = .ok (.iadd, 1) := by decide +kernel
theorem px_d250_47 : decode prog_23_method_49_code 47 = .ok (.istore_n 0, 1) := by decide +kernel
theorem px_d250_48 : decode prog_23_method_49_code 48 = .ok (.iload_n 0, 1) := by decide +kernel
theorem px_d250_49 : decode prog_23_method_49_code 49 = .ok (.bipush 63, 2) := by decide +kernel
theorem px_d250_51 : decode prog_23_method_49_code 51 = .ok (.iand, 1) := by decide +kernel
theorem px_d250_52 : decode prog_23_method_49_code 52 = .ok (.ireturn, 1) := by decide +kernel
theorem px_d251_0 : decode prog_3_method_23_code 0 = .ok (.aload_n 0, 1) := by decide +kernel
theorem px_d251_1 : decode prog_3_method_23_code 1 = .ok (.getfield 9, 3) := by decide +kernel
theorem px_d251_4 : decode prog_3_method_23_code 4 = .ok (.aload_n 0, 1) := by decide +kernel
theorem px_d251_5 : decode prog_3_method_23_code 5 = .ok (.getfield 66, 3) := by decide +kernel
theorem px_d251_8 : decode prog_3_method_23_code 8 = .ok (.aload_n 0, 1) := by decide +kernel
theorem px_d251_9 : decode prog_3_method_23_code 9 = .ok (.getfield 77, 3) := by decide +kernel
theorem px_d251_12 : decode prog_3_method_23_code 12 = .ok (.iconst 1, 1) := by decide +kernel
theorem px_d251_13 : decode prog_3_method_23_code 13 = .ok (.iadd, 1) := by decide +kernel
theorem px_d251_14 : decode prog_3_method_23_code 14 = .ok (.invokevirtual 132, 3) := by decide +kernel
theorem px_d251_17 : decode prog_3_method_23_code 17 = .ok (.istore_n 1, 1) := by decide +kernel
theorem px_d251_18 : decode prog_3_method_23_code 18 = .ok (.iconst 0, 1) := by decide +kernel
theorem px_d251_19 : decode prog_3_method_23_code 19 = .ok (.istore_n 2, 1) := by decide +kernel
theorem px_d251_20 : decode prog_3_method_23_code 20 = .ok (.aload_n 0, 1) := by decide +kernel
theorem px_d251_21 : decode prog_3_method_23_code 21 = .ok (.getfield 9, 3) := by decide +kernel
theorem px_d251_24 : decode prog_3_method_23_code 24 = .ok (.aload_n 0, 1) := by decide +kernel
theorem px_d251_25 : decode prog_3_method_23_code 25 = .ok (.getfield 66, 3) := by decide +kernel
theorem px_d251_28 : decode prog_3_method_23_code 28 = .ok (.aload_n 0, 1) := by decide +kernel
theorem px_d251_29 : decode prog_3_method_23_code 29 = .ok (.getfield 77, 3) := by decide +kernel
theorem px_d251_32 : decode prog_3_method_23_code 32 = .ok (.invokevirtual 132, 3) := by decide +kernel
theorem px_d251_35 : decode prog_3_method_23_code 35 = .ok (.istore_n 3, 1) := by decide +kernel
theorem px_d251_36 : decode prog_3_method_23_code 36 = .ok (.iload_n 3, 1) := by decide +kernel
theorem px_d251_37 : decode prog_3_method_23_code 37 = .ok (.iload_n 1, 1) := by decide +kernel
theorem px_d251_38 : decode prog_3_method_23_code 38 = .ok (.if_icmp .ge 31, 3) := by decide +kernel
theorem px_d251_41 : decode prog_3_method_23_code 41 = .ok (.iload_n 2, 1) := by decide +kernel
theorem px_d251_42 : decode prog_3_method_23_code 42 = .ok (.ifCond .ne 27, 3) := by decide +kernel
theorem px_d251_45 : decode prog_3_method_23_code 45 = .ok (.aload_n 0, 1) := by decide +kernel
theorem px_d251_46 : decode prog_3_method_23_code 46 = .ok (.getfield 36, 3) := by decide +kernel
theorem px_d251_49 : decode prog_3_method_23_code 49 = .ok (.aload_n 0, 1) := by decide +kernel
theorem px_d251_50 : decode prog_3_method_23_code 50 = .ok (.getfield 9, 3) := by decide +kernel
theorem px_d251_53 : decode prog_3_method_23_code 53 = .ok (.aload_n 0, 1) := by decide +kernel
theorem px_d251_54 : decode prog_3_method_23_code 54 = .ok (.getfield 66, 3) := by decide +kernel
theorem px_d251_57 : decode prog_3_method_23_code 57 = .ok (.iload_n 3, 1) := by decide +kernel
theorem px_d251_58 : decode prog_3_method_23_code 58 = .ok (.invokevirtual 137, 3) := by decide +kernel
theorem px_d251_61 : decode prog_3_method_23_code 61 = .ok (.baload, 1) := by decide +kernel
theorem px_d251_62 : decode prog_3_method_23_code 62 = .ok (.istore_n 2, 1) := by decide +kernel
theorem px_d251_63 : decode prog_3_method_23_code 63 = .ok (.iinc 3 1, 3) := by decide +kernel
theorem px_d251_66 : decode prog_3_method_23_code 66 = .ok (.goto (-30), 3) := by decide +kernel
theorem px_d251_69 : decode prog_3_method_23_code 69 = .ok (.iconst 0, 1) := by decide +kernel
theorem px_d251_70 : decode prog_3_method_23_code 70 = .ok (.istore_n 3, 1) := by decide +kernel
theorem px_d251_71 : decode prog_3_method_23_code 71 = .ok (.iload_n 3, 1) := by decide +kernel
theorem px_d251_72 : decode prog_3_method_23_code 72 = .ok (.aload_n 0, 1) := by decide +kernel
theorem px_d251_73 : decode prog_3_method_23_code 73 = .ok (.invokevirtual 67, 3) := by decide +kernel
theorem px_d251_76 : decode prog_3_method_23_code 76 = .ok (.if_icmp .gt 43, 3) := by decide +kernel
theorem px_d251_79 : decode prog_3_method_23_code 79 = .ok (.aload_n 0, 1) := by decide +kernel
theorem px_d251_80 : decode prog_3_method_23_code 80 = .ok (.getfield 36, 3) := by decide +kernel
theorem px_d251_83 : decode prog_3_method_23_code 83 = .ok (.iload_n 3, 1) := by decide +kernel
theorem px_d251_84 : decode prog_3_method_23_code 84 = .ok (.aload_n 0, 1) := by decide +kernel
theorem px_d251_85 : decode prog_3_method_23_code 85 = .ok (.getfield 88, 3) := by decide +kernel
theorem px_d251_88 : decode prog_3_method_23_code 88 = .ok (.ifCond .ne 14, 3) := by decide +kernel
theorem px_d251_91 : decode prog_3_method_23_code 91 = .ok (.iload_n 2, 1) := by decide +kernel
theorem px_d251_92 : decode prog_3_method_23_code 92 = .ok (.aload_n 0, 1) := by decide +kernel
theorem px_d251_93 : decode prog_3_method_23_code 93 = .ok (.getfield 36, 3) := by decide +kernel
theorem px_d251_96 : decode prog_3_method_23_code 96 = .ok (.iload_n 3, 1) := by decide +kernel
theorem px_d251_97 : decode prog_3_method_23_code 97 = .ok (.baload, 1) := by decide +kernel
theorem px_d251_98 : decode prog_3_method_23_code 98 = .ok (.imul, 1) := by decide +kernel
theorem px_d251_99 : decode prog_3_method_23_code 99 = .ok (.goto 12, 3) := by decide +kernel
theorem px_d251_102 : decode prog_3_method_23_code 102 = .ok (.aload_n 0, 1) := by decide +kernel
theorem px_d251_103 : decode prog_3_method_23_code 103 = .ok (.getfield 36, 3) := by decide +kernel
theorem px_d251_106 : decode prog_3_method_23_code 106 = .ok (.iload_n 3, 1) := by decide +kernel
theorem px_d251_107 : decode prog_3_method_23_code 107 = .ok (.baload, 1) := by decide +kernel
theorem px_d251_108 : decode prog_3_method_23_code 108 = .ok (.invokestatic 170, 3) := by decide +kernel
theorem px_d251_111 : decode prog_3_method_23_code 111 = .ok (.i2b, 1) := by decide +kernel
theorem px_d251_112 : decode prog_3_method_23_code 112 = .ok (.bastore, 1) := by decide +kernel
theorem px_d251_113 : decode prog_3_method_23_code 113 = .ok (.iinc 3 1, 3) := by decide +kernel
theorem px_d251_116 : decode prog_3_method_23_code 116 = .ok (.goto (-45), 3) := by decide +kernel
theorem px_d251_119 : decode prog_3_method_23_code 119 = .ok (.return_, 1) := by decide +kernel
theorem px_d252_0 : decode prog_25_method_59_code 0 = .ok (.iload_n 0, 1) := by decide +kernel
theorem px_d252_1 : decode prog_25_method_59_code 1 = .ok (.ifCond .ge 8, 3) := by decide +kernel
theorem px_d252_4 : decode prog_25_method_59_code 4 = .ok (.iload_n 0, 1) := by decide +kernel
theorem px_d252_5 : decode prog_25_method_59_code 5 = .ok (.ineg, 1) := by decide +kernel
theorem px_d252_6 : decode prog_25_method_59_code 6 = .ok (.goto 4, 3) := by decide +kernel
theorem px_d252_9 : decode prog_25_method_59_code 9 = .ok (.iload_n 0, 1) := by decide +kernel
theorem px_d252_10 : decode prog_25_method_59_code 10 = .ok (.ireturn, 1) := by decide +kernel
theorem px_d254_0 : decode prog_33_method_104_code 0 = .ok (.aload_n 0, 1) := by decide +kernel
theorem px_d254_1 : decode prog_33_method_104_code 1 = .ok (.arraylength, 1) := by decide +kernel
theorem px_d254_2 : decode prog_33_method_104_code 2 = .ok (.iload_n 1, 1) := by decide +kernel
theorem px_d254_3 : decode prog_33_method_104_code 3 = .ok (.iload_n 2, 1) := by decide +kernel
theorem px_d254_4 : decode prog_33_method_104_code 4 = .ok (.invokestatic 13, 3) := by decide +kernel
theorem px_d254_7 : decode prog_33_method_104_code 7 = .ok (.iload_n 1, 1) := by decide +kernel
theorem px_d254_8 : decode prog_33_method_104_code 8 = .ok (.istore 4, 2) := by decide +kernel
theorem px_d254_10 : decode prog_33_method_104_code 10 = .ok (.iload 4, 2) := by decide +kernel
theorem px_d254_12 : decode prog_33_method_104_code 12 = .ok (.iload_n 2, 1) := by decide +kernel
theorem px_d254_13 : decode prog_33_method_104_code 13 = .ok (.if_icmp .ge 14, 3) := by decide +kernel
theorem px_d254_16 : decode prog_33_method_104_code 16 = .ok (.aload_n 0, 1) := by decide +kernel
theorem px_d254_17 : decode prog_33_method_104_code 17 = .ok (.iload 4, 2) := by decide +kernel
theorem px_d254_19 : decode prog_33_method_104_code 19 = .ok (.iload_n 3, 1) := by decide +kernel
theorem px_d254_20 : decode prog_33_method_104_code 20 = .ok (.iastore, 1) := by decide +kernel
theorem px_d254_21 : decode prog_33_method_104_code 21 = .ok (.iinc 4 1, 3) := by decide +kernel
theorem px_d254_24 : decode prog_33_method_104_code 24 = .ok (.goto (-14), 3) := by decide +kernel
theorem px_d254_27 : decode prog_33_method_104_code 27 = .ok (.return_, 1) := by decide +kernel
theorem px_d257_0 : decode prog_9_method_4_code 0 = .ok (.iconst 0, 1) := by decide +kernel
theorem px_d257_1 : decode prog_9_method_4_code 1 = .ok (.istore_n 2, 1) := by decide +kernel
theorem px_d257_2 : decode prog_9_method_4_code 2 = .ok (.iconst 0, 1) := by decide +kernel
theorem px_d257_3 : decode prog_9_method_4_code 3 = .ok (.istore_n 3, 1) := by decide +kernel
theorem px_d257_4 : decode prog_9_method_4_code 4 = .ok (.iload_n 3, 1) := by decide +kernel
theorem px_d257_5 : decode prog_9_method_4_code 5 = .ok (.aload_n 0, 1) := by decide +kernel
theorem px_d257_6 : decode prog_9_method_4_code 6 = .ok (.getfield 35, 3) := by decide +kernel
theorem px_d257_9 : decode prog_9_method_4_code 9 = .ok (.if_icmp .ge 25, 3) := by decide +kernel
theorem px_d257_12 : decode prog_9_method_4_code 12 = .ok (.iload_n 3, 1) := by decide +kernel
theorem px_d257_13 : decode prog_9_method_4_code 13 = .ok (.iload_n 1, 1) := by decide +kernel
theorem px_d257_14 : decode prog_9_method_4_code 14 = .ok (.if_icmp .ge 20, 3) := by decide +kernel
theorem px_d257_17 : decode prog_9_method_4_code 17 = .ok (.iload_n 2, 1) := by decide +kernel
theorem px_d257_18 : decode prog_9_method_4_code 18 = .ok (.iconst 1, 1) := by decide +kernel
theorem px_d257_19 : decode prog_9_method_4_code 19 = .ok (.aload_n 0, 1) := by decide +kernel
theorem px_d257_20 : decode prog_9_method_4_code 20 = .ok (.getfield 15, 3) := by decide +kernel
theorem px_d257_23 : decode prog_9_method_4_code 23 = .ok (.iload_n 3, 1) := by decide +kernel
theorem px_d257_24 : decode prog_9_method_4_code 24 = .ok (.iaload, 1) := by decide +kernel
theorem px_d257_25 : decode prog_9_method_4_code 25 = .ok (.ishl, 1) := by decide +kernel
theorem px_d257_26 : decode prog_9_method_4_code 26 = .ok (.ior, 1) := by decide +kernel
theorem px_d257_27 : decode prog_9_method_4_code 27 = .ok (.istore_n 2, 1) := by decide +kernel
theorem px_d257_28 : decode prog_9_method_4_code 28 = .ok (.iinc 3 1, 3) := by decide +kernel
theorem px_d257_31 : decode prog_9_method_4_code 31 = .ok (.goto (-27), 3) := by decide +kernel
theorem px_d257_34 : decode prog_9_method_4_code 34 = .ok (.iload_n 2, 1) := by decide +kernel
theorem px_d257_35 : decode prog_9_method_4_code 35 = .ok (.ireturn, 1) := by decide +kernel
theorem px_d258_0 : decode prog_3_method_3_code 0 = .ok (.aload_n 0, 1) := by decide +kernel
theorem px_d258_1 : decode prog_3_method_3_code 1 = .ok (.aload_n 1, 1) := by decide +kernel
theorem px_d258_2 : decode prog_3_method_3_code 2 = .ok (.getfield 88, 3) := by decide +kernel
theorem px_d258_5 : decode prog_3_method_3_code 5 = .ok (.aload_n 1, 1) := by decide +kernel
theorem px_d258_6 : decode prog_3_method_3_code 6 = .ok (.getfield 66, 3) := by decide +kernel
theorem px_d258_9 : decode prog_3_method_3_code 9 = .ok (.aload_n 1, 1) := by decide +kernel
theorem px_d258_10 : decode prog_3_method_3_code 10 = .ok (.getfield 66, 3) := by decide +kernel
theorem px_d258_13 : decode prog_3_method_3_code 13 = .ok (.aload_n 1, 1) := by decide +kernel
theorem px_d258_14 : decode prog_3_method_3_code 14 = .ok (.getfield 77, 3) := by decide +kernel
theorem px_d258_17 : decode prog_3_method_3_code 17 = .ok (.isub, 1) := by decide +kernel
theorem px_d258_18 : decode prog_3_method_3_code 18 = .ok (.invokevirtual 59, 3) := by decide +kernel
theorem px_d258_21 : decode prog_3_method_3_code 21 = .ok (.aload_n 0, 1) := by decide +kernel
theorem px_d258_22 : decode prog_3_method_3_code 22 = .ok (.aload_n 1, 1) := by decide +kernel
theorem px_d258_23 : decode prog_3_method_3_code 23 = .ok (.iconst 0, 1) := by decide +kernel
theorem px_d258_24 : decode prog_3_method_3_code 24 = .ok (.iconst 0, 1) := by decide +kernel
theorem px_d258_25 : decode prog_3_method_3_code 25 = .ok (.iconst 0, 1) := by decide +kernel
theorem px_d258_26 : decode prog_3_method_3_code 26 = .ok (.iconst 1, 1) := by decide +kernel
theorem px_d258_27 : decode prog_3_method_3_code 27 = .ok (.invokevirtual 89, 3) := by decide +kernel
theorem px_d258_30 : decode prog_3_method_3_code 30 = .ok (.iconst 0, 1) := by decide +kernel
theorem px_d258_31 : decode prog_3_method_3_code 31 = .ok (.istore_n 2, 1) := by decide +kernel
theorem px_d258_32 : decode prog_3_method_3_code 32 = .ok (.iload_n 2, 1) := by decide +kernel
theorem px_d258_33 : decode prog_3_method_3_code 33 = .ok (.aload_n 0, 1) := by decide +kernel
theorem px_d258_34 : decode prog_3_method_3_code 34 = .ok (.invokevirtual 67, 3) := by decide +kernel
theorem px_d258_37 : decode prog_3_method_3_code 37 = .ok (.if_icmp .gt 59, 3) := by decide +kernel
theorem px_d258_40 : decode prog_3_method_3_code 40 = .ok (.aload_n 1, 1) := by decide +kernel
theorem px_d258_41 : decode prog_3_method_3_code 41 = .ok (.getfield 36, 3) := by decide +kernel
theorem px_d258_44 : decode prog_3_method_3_code 44 = .ok (.aload_n 0, 1) := by decide +kernel
theorem px_d258_45 : decode prog_3_method_3_code 45 = .ok (.invokevirtual 67, 3) := by decide +kernel
theorem px_d258_48 : decode prog_3_method_3_code 48 = .ok (.iload_n 2, 1) := by decide +kernel
theorem px_d258_49 : decode prog_3_method_3_code 49 = .ok (.ixor, 1) := by decide +kernel
theorem px_d258_50 : decode prog_3_method_3_code 50 = .ok (.baload, 1) := by decide +kernel
theorem px_d258_51 : decode prog_3_method_3_code 51 = .ok (.istore_n 3, 1) := by decide +kernel
theorem px_d258_52 : decode prog_3_method_3_code 52 = .ok (.iload_n 2, 1) := by decide +kernel
theorem px_d258_53 : decode prog_3_method_3_code 53 = .ok (.sipush 2730, 3) := by decide +kernel
theorem px_d258_56 : decode prog_3_method_3_code 56 = .ok (.iand, 1) := by decide +kernel
theorem px_d258_57 : decode prog_3_method_3_code 57 = .ok (.invokestatic 71, 3) := by decide +kernel
theorem px_d258_60 : decode prog_3_method_3_code 60 = .ok (.iconst 1, 1) := by decide +kernel
theorem px_d258_61 : decode prog_3_method_3_code 61 = .ok (.iand, 1) := by decide +kernel
theorem px_d258_62 : decode prog_3_method_3_code 62 = .ok (.ifCond .eq 7, 3) := by decide +kernel
theorem px_d258_65 : decode prog_3_method_3_code 65 = .ok (.iconst 1, 1) := by decide +kernel
theorem px_d258_66 : decode prog_3_method_3_code 66 = .ok (.goto 4, 3) := by decide +kernel
theorem px_d258_69 : decode prog_3_method_3_code 69 = .ok (.iconst 0, 1) := by decide +kernel
theorem px_d258_70 : decode prog_3_method_3_code 70 = .ok (.istore 4, 2) := by decide +kernel
theorem px_d258_72 : decode prog_3_method_3_code 72 = .ok (.aload_n 0, 1) := by decide +kernel
theorem px_d258_73 : decode prog_3_method_3_code 73 = .ok (.getfield 36, 3) := by decide +kernel
theorem px_d258_76 : decode prog_3_method_3_code 76 = .ok (.iload_n 2, 1) := by decide +kernel
theorem px_d258_77 : decode prog_3_method_3_code 77 = .ok (.iload 4, 2) := by decide +kernel
theorem px_d258_79 : decode prog_3_method_3_code 79 = .ok (.ifCond .eq 8, 3) := by decide +kernel
theorem px_d258_82 : decode prog_3_method_3_code 82 = .ok (.iload_n 3, 1) := by decide +kernel
theorem px_d258_83 : decode prog_3_method_3_code 83 = .ok (.ineg, 1) := by decide +kernel
theorem px_d258_84 : decode prog_3_method_3_code 84 = .ok (.goto 4, 3) := by decide +kernel
theorem px_d258_87 : decode prog_3_method_3_code 87 = .ok (.iload_n 3, 1) := by decide +kernel
theorem px_d258_88 : decode prog_3_method_3_code 88 = .ok (.i2b, 1) := by decide +kernel
theorem px_d258_89 : decode prog_3_method_3_code 89 = .ok (.bastore, 1) := by decide +kernel
theorem px_d258_90 : decode prog_3_method_3_code 90 = .ok (.iinc 2 1, 3) := by decide +kernel
theorem px_d258_93 : decode prog_3_method_3_code 93 = .ok (.goto (-61), 3) := by decide +kernel
theorem px_d258_96 : decode prog_3_method_3_code 96 = .ok (.aload_n 0, 1) := by decide +kernel
theorem px_d258_97 : decode prog_3_method_3_code 97 = .ok (.invokevirtual 85, 3) := by decide +kernel
theorem px_d258_100 : decode prog_3_method_3_code 100 = .ok (.return_, 1) := by decide +kernel
theorem px_d259_0 : decode prog_3_method_20_code 0 = .ok (.aconst_null, 1) := by decide +kernel
theorem px_d259_1 : decode prog_3_method_20_code 1 = .ok (.astore 6, 2) := by decide +kernel
theorem px_d259_3 : decode prog_3_method_20_code 3 = .ok (.aconst_null, 1) := by decide +kernel
theorem px_d259_4 : decode prog_3_method_20_code 4 = .ok (.astore 7, 2) := by decide +kernel
theorem px_d259_6 : decode prog_3_method_20_code 6 = .ok (.iload_n 2, 1) := by decide +kernel
theorem px_d259_7 : decode prog_3_method_20_code 7 = .ok (.istore 8, 2) := by decide +kernel
theorem px_d259_9 : decode prog_3_method_20_code 9 = .ok (.iconst 0, 1) := by decide +kernel
theorem px_d259_10 : decode prog_3_method_20_code 10 = .ok (.istore 9, 2) := by decide +kernel
theorem px_d259_12 : decode prog_3_method_20_code 12 = .ok (.iload 9, 2) := by decide +kernel
theorem px_d259_14 : decode prog_3_method_20_code 14 = .ok (.aload_n 1, 1) := by decide +kernel
theorem px_d259_15 : decode prog_3_method_20_code 15 = .ok (.getfield 66, 3) := by decide +kernel
theorem px_d259_18 : decode prog_3_method_20_code 18 = .ok (.if_icmp .ge 119, 3) := by decide +kernel
theorem px_d259_21 : decode prog_3_method_20_code 21 = .ok (.iload_n 3, 1) := by decide +kernel
theorem px_d259_22 : decode prog_3_method_20_code 22 = .ok (.iload 9, 2) := by decide +kernel
theorem px_d259_24 : decode prog_3_method_20_code 24 = .ok (.ishr, 1) := by decide +kernel
theorem px_d259_25 : decode prog_3_method_20_code 25 = .ok (.iconst 1, 1) := by decide +kernel
theorem px_d259_26 : decode prog_3_method_20_code 26 = .ok (.iand, 1) := by decide +kernel
theorem px_d259_27 : decode prog_3_method_20_code 27 = .ok (.ifCond .ne 104, 3) := by decide +kernel
theorem px_d259_30 : decode prog_3_method_20_code 30 = .ok (.aload_n 1, 1) := by decide +kernel
theorem px_d259_31 : decode prog_3_method_20_code 31 = .ok (.getfield 17, 3) := by decide +kernel
theorem px_d259_34 : decode prog_3_method_20_code 34 = .ok (.iload 9, 2) := by decide +kernel
theorem px_d259_36 : decode prog_3_method_20_code 36 = .ok (.aaload, 1) := by decide +kernel
theorem px_d259_37 : decode prog_3_method_20_code 37 = .ok (.ifnull 68, 3) := by decide +kernel
theorem px_d259_40 : decode prog_3_method_20_code 40 = .ok (.aload_n 1, 1) := by decide +kernel
theorem px_d259_41 : decode prog_3_method_20_code 41 = .ok (.getfield 17, 3) := by decide +kernel
theorem px_d259_44 : decode prog_3_method_20_code 44 = .ok (.iload 9, 2) := by decide +kernel
theorem px_d259_46 : decode prog_3_method_20_code 46 = .ok (.aaload, 1) := by decide +kernel
theorem px_d259_47 : decode prog_3_method_20_code 47 = .ok (.aload 6, 2) := by decide +kernel
theorem px_d259_49 : decode prog_3_method_20_code 49 = .ok (.if_acmp .eq 56, 3) := by decide +kernel
theorem px_d259_52 : decode prog_3_method_20_code 52 = .ok (.aload_n 1, 1) := by decide +kernel
theorem px_d259_53 : decode prog_3_method_20_code 53 = .ok (.getfield 17, 3) := by decide +kernel
theorem px_d259_56 : decode prog_3_method_20_code 56 = .ok (.iload 9, 2) := by decide +kernel
theorem px_d259_58 : decode prog_3_method_20_code 58 = .ok (.aaload, 1) := by decide +kernel
theorem px_d259_59 : decode prog_3_method_20_code 59 = .ok (.astore 6, 2) := by decide +kernel
theorem px_d259_61 : decode prog_3_method_20_code 61 = .ok (.new 15, 3) := by decide +kernel
theorem px_d259_64 : decode prog_3_method_20_code 64 = .ok (.dup, 1) := by decide +kernel
theorem px_d259_65 : decode prog_3_method_20_code 65 = .ok (.aload 6, 2) := by decide +kernel
theorem px_d259_67 : decode prog_3_method_20_code 67 = .ok (.getfield 162, 3) := by decide +kernel
theorem px_d259_70 : decode prog_3_method_20_code 70 = .ok (.aload 6, 2) := by decide +kernel
theorem px_d259_72 : decode prog_3_method_20_code 72 = .ok (.getfield 147, 3) := by decide +kernel
theorem px_d259_75 : decode prog_3_method_20_code 75 = .ok (.aload_n 1, 1) := by decide +kernel
theorem px_d259_76 : decode prog_3_method_20_code 76 = .ok (.aload 6, 2) := by decide +kernel
theorem px_d259_78 : decode prog_3_method_20_code 78 = .ok (.iload_n 3, 1) := by decide +kernel
theorem px_d259_79 : decode prog_3_method_20_code 79 = .ok (.iload 4, 2) := by decide +kernel
theorem px_d259_81 : decode prog_3_method_20_code 81 = .ok (.invokevirtual 166, 3) := by decide +kernel
theorem px_d259_84 : decode prog_3_method_20_code 84 = .ok (.ior, 1) := by decide +kernel
theorem px_d259_85 : decode prog_3_method_20_code 85 = .ok (.aload 6, 2) := by decide +kernel
theorem px_d259_87 : decode prog_3_method_20_code 87 = .ok (.getfield 150, 3) := by decide +kernel
theorem px_d259_90 : decode prog_3_method_20_code 90 = .ok (.iload 5, 2) := by decide +kernel
theorem px_d259_92 : decode prog_3_method_20_code 92 = .ok (.if_icmp .eq 7, 3) := by decide +kernel
theorem px_d259_95 : decode prog_3_method_20_code 95 = .ok (.iconst 1, 1) := by decide +kernel
theorem px_d259_96 : decode prog_3_method_20_code 96 = .ok (.goto 4, 3) := by decide +kernel
theorem px_d259_99 : decode prog_3_method_20_code 99 = .ok (.iconst 0, 1) := by decide +kernel
theorem px_d259_100 : decode prog_3_method_20_code 100 = .ok (.invokespecial 63, 3) := by decide +kernel
theorem px_d259_103 : decode prog_3_method_20_code 103 = .ok (.astore 7, 2) := by decide +kernel
theorem px_d259_105 : decode prog_3_method_20_code 105 = .ok (.aload_n 0, 1) := by decide +kernel
theorem px_d259_106 : decode prog_3_method_20_code 106 = .ok (.getfield 17, 3) := by decide +kernel
theorem px_d259_109 : decode prog_3_method_20_code 109 = .ok (.iload 8, 2) := by decide +kernel
theorem px_d259_111 : decode prog_3_method_20_code 111 = .ok (.aload 7, 2) := by decide +kernel
theorem px_d259_113 : decode prog_3_method_20_code 113 = .ok (.aastore, 1) := by decide +kernel
theorem px_d259_114 : decode prog_3_method_20_code 114 = .ok (.aload_n 0, 1) := by decide +kernel
theorem px_d259_115 : decode prog_3_method_20_code 115 = .ok (.getfield 21, 3) := by decide +kernel
theorem px_d259_118 : decode prog_3_method_20_code 118 = .ok (.iload 8, 2) := by decide +kernel
theorem px_d259_120 : decode prog_3_method_20_code 120 = .ok (.aload_n 1, 1) := by decide +kernel
theorem px_d259_121 : decode prog_3_method_20_code 121 = .ok (.getfield 21, 3) := by decide +kernel
theorem px_d259_124 : decode prog_3_method_20_code 124 = .ok (.iload 9, 2) := by decide +kernel
theorem px_d259_126 : decode prog_3_method_20_code 126 = .ok (.iaload, 1) := by decide +kernel
theorem px_d259_127 : decode prog_3_method_20_code 127 = .ok (.iastore, 1) := by decide +kernel
theorem px_d259_128 : decode prog_3_method_20_code 128 = .ok (.iinc 8 1, 3) := by decide +kernel
theorem px_d259_131 : decode prog_3_method_20_code 131 = .ok (.iinc 9 1, 3) := by decide +kernel
theorem px_d259_134 : decode prog_3_method_20_code 134 = .ok (.goto (-122), 3) := by decide +kernel
theorem px_d259_137 : decode prog_3_method_20_code 137 = .ok (.return_, 1) := by decide +kernel
theorem px_d260_0 : decode prog_3_method_21_code 0 = .ok (.iconst 0, 1) := by decide +kernel
theorem px_d260_1 : decode prog_3_method_21_code 1 = .ok (.istore 4, 2) := by decide +kernel
theorem px_d260_3 : decode prog_3_method_21_code 3 = .ok (.iconst 0, 1) := by decide +kernel
theorem px_d260_4 : decode prog_3_method_21_code 4 = .ok (.istore 5, 2) := by decide +kernel
theorem px_d260_6 : decode prog_3_method_21_code 6 = .ok (.iload 5, 2) := by decide +kernel
theorem px_d260_8 : decode prog_3_method_21_code 8 = .ok (.aload_n 0, 1) := by decide +kernel
theorem px_d260_9 : decode prog_3_method_21_code 9 = .ok (.getfield 66, 3) := by decide +kernel
theorem px_d260_12 : decode prog_3_method_21_code 12 = .ok (.if_icmp .ge 68, 3) := by decide +kernel
theorem px_d260_15 : decode prog_3_method_21_code 15 = .ok (.iload_n 3, 1) := by decide +kernel
theorem px_d260_16 : decode prog_3_method_21_code 16 = .ok (.iload 5, 2) := by decide +kernel
theorem px_d260_18 : decode prog_3_method_21_code 18 = .ok (.ishr, 1) := by decide +kernel
theorem px_d260_19 : decode prog_3_method_21_code 19 = .ok (.iconst 1, 1) := by decide +kernel
theorem px_d260_20 : decode prog_3_method_21_code 20 = .ok (.iand, 1) := by decide +kernel
theorem px_d260_21 : decode prog_3_method_21_code 21 = .ok (.ifCond .eq 7, 3) := by decide +kernel
theorem px_d260_24 : decode prog_3_method_21_code 24 = .ok (.iconst 1, 1) := by decide +kernel
theorem px_d260_25 : decode prog_3_method_21_code 25 = .ok (.goto 4, 3) := by decide +kernel
theorem px_d260_28 : decode prog_3_method_21_code 28 = .ok (.iconst 0, 1) := by decide +kernel
theorem px_d260_29 : decode prog_3_method_21_code 29 = .ok (.istore 6, 2) := by decide +kernel
theorem px_d260_31 : decode prog_3_method_21_code 31 = .ok (.aload_n 0, 1) := by decide +kernel
