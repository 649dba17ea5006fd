theorem px_d179_45 : decode prog_4_method_2_code 45 = .ok (.aload 5, 2) := by decide +kernel
theorem px_d179_47 : decode prog_4_method_2_code 47 = .ok (.aload_n 0, 1) := by decide +kernel
theorem px_d179_48 : decode prog_4_method_2_code 48 = .ok (.getfield 53, 3) := by decide +kernel
theorem px_d179_51 : decode prog_4_method_2_code 51 = .ok (.iconst 1, 1) := by decide +kernel
theorem px_d179_52 : decode prog_4_method_2_code 52 = .ok (.isub, 1) := by decide +kernel
theorem px_d179_53 : decode prog_4_method_2_code 53 = .ok (.iload_n 2, 1) := by decide +kernel
theorem px_d179_54 : decode prog_4_method_2_code 54 = .ok (.imul, 1) := by decide +kernel
theorem px_d179_55 : decode prog_4_method_2_code 55 = .ok (.iload_n 2, 1) := by decide +kernel
theorem px_d179_56 : decode prog_4_method_2_code 56 = .ok (.invokestatic 57, 3) := by decide +kernel
theorem px_d179_59 : decode prog_4_method_2_code 59 = .ok (.iinc 6 1, 3) := by decide +kernel
theorem px_d179_62 : decode prog_4_method_2_code 62 = .ok (.goto (-41), 3) := by decide +kernel
theorem px_d179_65 : decode prog_4_method_2_code 65 = .ok (.aload_n 0, 1) := by decide +kernel
theorem px_d179_66 : decode prog_4_method_2_code 66 = .ok (.new 63, 3) := by decide +kernel
theorem px_d179_69 : decode prog_4_method_2_code 69 = .ok (.dup, 1) := by decide +kernel
theorem px_d179_70 : decode prog_4_method_2_code 70 = .ok (.iload_n 1, 1) := by decide +kernel
theorem px_d179_71 : decode prog_4_method_2_code 71 = .ok (.iload_n 2, 1) := by decide +kernel
theorem px_d179_72 : decode prog_4_method_2_code 72 = .ok (.aload_n 0, 1) := by decide +kernel
theorem px_d179_73 : decode prog_4_method_2_code 73 = .ok (.getfield 53, 3) := by decide +kernel
theorem px_d179_76 : decode prog_4_method_2_code 76 = .ok (.aload 5, 2) := by decide +kernel
theorem px_d179_78 : decode prog_4_method_2_code 78 = .ok (.invokespecial 65, 3) := by decide +kernel
theorem px_d179_81 : decode prog_4_method_2_code 81 = .ok (.putfield 68, 3) := by decide +kernel
theorem px_d179_84 : decode prog_4_method_2_code 84 = .ok (.aload_n 0, 1) := by decide +kernel
theorem px_d179_85 : decode prog_4_method_2_code 85 = .ok (.getfield 68, 3) := by decide +kernel
theorem px_d179_88 : decode prog_4_method_2_code 88 = .ok (.areturn, 1) := by decide +kernel
theorem px_d180_0 : decode prog_4_method_7_code 0 = .ok (.iconst 1, 1) := by decide +kernel
theorem px_d180_1 : decode prog_4_method_7_code 1 = .ok (.iload_n 2, 1) := by decide +kernel
theorem px_d180_2 : decode prog_4_method_7_code 2 = .ok (.ishl, 1) := by decide +kernel
theorem px_d180_3 : decode prog_4_method_7_code 3 = .ok (.istore_n 3, 1) := by decide +kernel
theorem px_d180_4 : decode prog_4_method_7_code 4 = .ok (.iload_n 3, 1) := by decide +kernel
theorem px_d180_5 : decode prog_4_method_7_code 5 = .ok (.aload_n 0, 1) := by decide +kernel
theorem px_d180_6 : decode prog_4_method_7_code 6 = .ok (.getfield 29, 3) := by decide +kernel
theorem px_d180_9 : decode prog_4_method_7_code 9 = .ok (.arraylength, 1) := by decide +kernel
theorem px_d180_10 : decode prog_4_method_7_code 10 = .ok (.if_icmp .le 24, 3) := by decide +kernel
theorem px_d180_13 : decode prog_4_method_7_code 13 = .ok (.aload_n 0, 1) := by decide +kernel
theorem px_d180_14 : decode prog_4_method_7_code 14 = .ok (.iload_n 3, 1) := by decide +kernel
theorem px_d180_15 : decode prog_4_method_7_code 15 = .ok (.newarray .long, 2) := by decide +kernel
theorem px_d180_17 : decode prog_4_method_7_code 17 = .ok (.putfield 29, 3) := by decide +kernel
theorem px_d180_20 : decode prog_4_method_7_code 20 = .ok (.aload_n 0, 1) := by decide +kernel
theorem px_d180_21 : decode prog_4_method_7_code 21 = .ok (.iload_n 3, 1) := by decide +kernel
theorem px_d180_22 : decode prog_4_method_7_code 22 = .ok (.newarray .long, 2) := by decide +kernel
theorem px_d180_24 : decode prog_4_method_7_code 24 = .ok (.putfield 33, 3) := by decide +kernel
theorem px_d180_27 : decode prog_4_method_7_code 27 = .ok (.aload_n 0, 1) := by decide +kernel
theorem px_d180_28 : decode prog_4_method_7_code 28 = .ok (.iload_n 3, 1) := by decide +kernel
theorem px_d180_29 : decode prog_4_method_7_code 29 = .ok (.newarray .long, 2) := by decide +kernel
theorem px_d180_31 : decode prog_4_method_7_code 31 = .ok (.putfield 36, 3) := by decide +kernel
theorem px_d180_34 : decode prog_4_method_7_code 34 = .ok (.aload_n 0, 1) := by decide +kernel
theorem px_d180_35 : decode prog_4_method_7_code 35 = .ok (.getfield 7, 3) := by decide +kernel
theorem px_d180_38 : decode prog_4_method_7_code 38 = .ok (.iload_n 2, 1) := by decide +kernel
theorem px_d180_39 : decode prog_4_method_7_code 39 = .ok (.invokevirtual 139, 3) := by decide +kernel
theorem px_d180_42 : decode prog_4_method_7_code 42 = .ok (.aload_n 0, 1) := by decide +kernel
theorem px_d180_43 : decode prog_4_method_7_code 43 = .ok (.iload_n 1, 1) := by decide +kernel
theorem px_d180_44 : decode prog_4_method_7_code 44 = .ok (.putfield 89, 3) := by decide +kernel
theorem px_d180_47 : decode prog_4_method_7_code 47 = .ok (.aload_n 0, 1) := by decide +kernel
theorem px_d180_48 : decode prog_4_method_7_code 48 = .ok (.iload_n 2, 1) := by decide +kernel
theorem px_d180_49 : decode prog_4_method_7_code 49 = .ok (.putfield 144, 3) := by decide +kernel
theorem px_d180_52 : decode prog_4_method_7_code 52 = .ok (.aload_n 0, 1) := by decide +kernel
theorem px_d180_53 : decode prog_4_method_7_code 53 = .ok (.iconst 0, 1) := by decide +kernel
theorem px_d180_54 : decode prog_4_method_7_code 54 = .ok (.putfield 53, 3) := by decide +kernel
theorem px_d180_57 : decode prog_4_method_7_code 57 = .ok (.aload_n 0, 1) := by decide +kernel
theorem px_d180_58 : decode prog_4_method_7_code 58 = .ok (.aconst_null, 1) := by decide +kernel
theorem px_d180_59 : decode prog_4_method_7_code 59 = .ok (.putfield 68, 3) := by decide +kernel
theorem px_d180_62 : decode prog_4_method_7_code 62 = .ok (.aload_n 0, 1) := by decide +kernel
theorem px_d180_63 : decode prog_4_method_7_code 63 = .ok (.getfield 29, 3) := by decide +kernel
theorem px_d180_66 : decode prog_4_method_7_code 66 = .ok (.iconst 0, 1) := by decide +kernel
theorem px_d180_67 : decode prog_4_method_7_code 67 = .ok (.iload_n 3, 1) := by decide +kernel
theorem px_d180_68 : decode prog_4_method_7_code 68 = .ok (.lconst 0, 1) := by decide +kernel
theorem px_d180_69 : decode prog_4_method_7_code 69 = .ok (.invokestatic 145, 3) := by decide +kernel
theorem px_d180_72 : decode prog_4_method_7_code 72 = .ok (.aload_n 0, 1) := by decide +kernel
theorem px_d180_73 : decode prog_4_method_7_code 73 = .ok (.getfield 33, 3) := by decide +kernel
theorem px_d180_76 : decode prog_4_method_7_code 76 = .ok (.iconst 0, 1) := by decide +kernel
theorem px_d180_77 : decode prog_4_method_7_code 77 = .ok (.iload_n 3, 1) := by decide +kernel
theorem px_d180_78 : decode prog_4_method_7_code 78 = .ok (.lconst 0, 1) := by decide +kernel
theorem px_d180_79 : decode prog_4_method_7_code 79 = .ok (.invokestatic 145, 3) := by decide +kernel
theorem px_d180_82 : decode prog_4_method_7_code 82 = .ok (.aload_n 0, 1) := by decide +kernel
theorem px_d180_83 : decode prog_4_method_7_code 83 = .ok (.getfield 36, 3) := by decide +kernel
theorem px_d180_86 : decode prog_4_method_7_code 86 = .ok (.iconst 0, 1) := by decide +kernel
theorem px_d180_87 : decode prog_4_method_7_code 87 = .ok (.iload_n 3, 1) := by decide +kernel
theorem px_d180_88 : decode prog_4_method_7_code 88 = .ok (.lconst 0, 1) := by decide +kernel
theorem px_d180_89 : decode prog_4_method_7_code 89 = .ok (.invokestatic 145, 3) := by decide +kernel
theorem px_d180_92 : decode prog_4_method_7_code 92 = .ok (.aload_n 0, 1) := by decide +kernel
theorem px_d180_93 : decode prog_4_method_7_code 93 = .ok (.getfield 29, 3) := by decide +kernel
theorem px_d180_96 : decode prog_4_method_7_code 96 = .ok (.iconst 0, 1) := by decide +kernel
theorem px_d180_97 : decode prog_4_method_7_code 97 = .ok (.lconst 1, 1) := by decide +kernel
theorem px_d180_98 : decode prog_4_method_7_code 98 = .ok (.lastore, 1) := by decide +kernel
theorem px_d180_99 : decode prog_4_method_7_code 99 = .ok (.return_, 1) := by decide +kernel
theorem px_d181_0 : decode prog_5_method_2_code 0 = .ok (.iconst 2, 1) := by decide +kernel
theorem px_d181_1 : decode prog_5_method_2_code 1 = .ok (.iload_n 1, 1) := by decide +kernel
theorem px_d181_2 : decode prog_5_method_2_code 2 = .ok (.ishl, 1) := by decide +kernel
theorem px_d181_3 : decode prog_5_method_2_code 3 = .ok (.aload_n 0, 1) := by decide +kernel
theorem px_d181_4 : decode prog_5_method_2_code 4 = .ok (.getfield 9, 3) := by decide +kernel
theorem px_d181_7 : decode prog_5_method_2_code 7 = .ok (.arraylength, 1) := by decide +kernel
theorem px_d181_8 : decode prog_5_method_2_code 8 = .ok (.if_icmp .le 17, 3) := by decide +kernel
theorem px_d181_11 : decode prog_5_method_2_code 11 = .ok (.aload_n 0, 1) := by decide +kernel
theorem px_d181_12 : decode prog_5_method_2_code 12 = .ok (.aload_n 0, 1) := by decide +kernel
theorem px_d181_13 : decode prog_5_method_2_code 13 = .ok (.getfield 9, 3) := by decide +kernel
theorem px_d181_16 : decode prog_5_method_2_code 16 = .ok (.iconst 2, 1) := by decide +kernel
theorem px_d181_17 : decode prog_5_method_2_code 17 = .ok (.iload_n 1, 1) := by decide +kernel
theorem px_d181_18 : decode prog_5_method_2_code 18 = .ok (.ishl, 1) := by decide +kernel
theorem px_d181_19 : decode prog_5_method_2_code 19 = .ok (.invokestatic 22, 3) := by decide +kernel
theorem px_d181_22 : decode prog_5_method_2_code 22 = .ok (.putfield 9, 3) := by decide +kernel
theorem px_d181_25 : decode prog_5_method_2_code 25 = .ok (.aload_n 0, 1) := by decide +kernel
theorem px_d181_26 : decode prog_5_method_2_code 26 = .ok (.getfield 18, 3) := by decide +kernel
theorem px_d181_29 : decode prog_5_method_2_code 29 = .ok (.iload_n 1, 1) := by decide +kernel
theorem px_d181_30 : decode prog_5_method_2_code 30 = .ok (.if_icmp .ge 26, 3) := by decide +kernel
theorem px_d181_33 : decode prog_5_method_2_code 33 = .ok (.aload_n 0, 1) := by decide +kernel
theorem px_d181_34 : decode prog_5_method_2_code 34 = .ok (.aload_n 0, 1) := by decide +kernel
theorem px_d181_35 : decode prog_5_method_2_code 35 = .ok (.getfield 18, 3) := by decide +kernel
theorem px_d181_38 : decode prog_5_method_2_code 38 = .ok (.iconst 1, 1) := by decide +kernel
theorem px_d181_39 : decode prog_5_method_2_code 39 = .ok (.iadd, 1) := by decide +kernel
theorem px_d181_40 : decode prog_5_method_2_code 40 = .ok (.invokevirtual 28, 3) := by decide +kernel
theorem px_d181_43 : decode prog_5_method_2_code 43 = .ok (.aload_n 0, 1) := by decide +kernel
theorem px_d181_44 : decode prog_5_method_2_code 44 = .ok (.dup, 1) := by decide +kernel
theorem px_d181_45 : decode prog_5_method_2_code 45 = .ok (.getfield 18, 3) := by decide +kernel
theorem px_d181_48 : decode prog_5_method_2_code 48 = .ok (.iconst 1, 1) := by decide +kernel
theorem px_d181_49 : decode prog_5_method_2_code 49 = .ok (.iadd, 1) := by decide +kernel
theorem px_d181_50 : decode prog_5_method_2_code 50 = .ok (.putfield 18, 3) := by decide +kernel
theorem px_d181_53 : decode prog_5_method_2_code 53 = .ok (.goto (-28), 3) := by decide +kernel
theorem px_d181_56 : decode prog_5_method_2_code 56 = .ok (.return_, 1) := by decide +kernel
theorem px_d182_0 : decode prog_33_method_123_code 0 = .ok (.iload_n 1, 1) := by decide +kernel
theorem px_d182_1 : decode prog_33_method_123_code 1 = .ok (.aload_n 0, 1) := by decide +kernel
theorem px_d182_2 : decode prog_33_method_123_code 2 = .ok (.arraylength, 1) := by decide +kernel
theorem px_d182_3 : decode prog_33_method_123_code 3 = .ok (.if_icmp .ne 11, 3) := by decide +kernel
theorem px_d182_6 : decode prog_33_method_123_code 6 = .ok (.aload_n 0, 1) := by decide +kernel
theorem px_d182_14 : decode prog_33_method_123_code 14 = .ok (.iload_n 1, 1) := by decide +kernel
theorem px_d182_15 : decode prog_33_method_123_code 15 = .ok (.newarray .int, 2) := by decide +kernel
theorem px_d182_17 : decode prog_33_method_123_code 17 = .ok (.astore_n 2, 1) := by decide +kernel
theorem px_d182_18 : decode prog_33_method_123_code 18 = .ok (.aload_n 0, 1) := by decide +kernel
theorem px_d182_19 : decode prog_33_method_123_code 19 = .ok (.iconst 0, 1) := by decide +kernel
theorem px_d182_20 : decode prog_33_method_123_code 20 = .ok (.aload_n 2, 1) := by decide +kernel
theorem px_d182_21 : decode prog_33_method_123_code 21 = .ok (.iconst 0, 1) := by decide +kernel
theorem px_d182_22 : decode prog_33_method_123_code 22 = .ok (.aload_n 0, 1) := by decide +kernel
theorem px_d182_23 : decode prog_33_method_123_code 23 = .ok (.arraylength, 1) := by decide +kernel
theorem px_d182_24 : decode prog_33_method_123_code 24 = .ok (.iload_n 1, 1) := by decide +kernel
theorem px_d182_25 : decode prog_33_method_123_code 25 = .ok (.invokestatic 304, 3) := by decide +kernel
theorem px_d182_28 : decode prog_33_method_123_code 28 = .ok (.invokestatic 150, 3) := by decide +kernel
theorem px_d182_31 : decode prog_33_method_123_code 31 = .ok (.aload_n 2, 1) := by decide +kernel
theorem px_d182_32 : decode prog_33_method_123_code 32 = .ok (.areturn, 1) := by decide +kernel
theorem px_d183_0 : decode prog_25_method_69_code 0 = .ok (.iload_n 0, 1) := by decide +kernel
theorem px_d183_1 : decode prog_25_method_69_code 1 = .ok (.iload_n 1, 1) := by decide +kernel
theorem px_d183_2 : decode prog_25_method_69_code 2 = .ok (.if_icmp .gt 7, 3) := by decide +kernel
theorem px_d183_5 : decode prog_25_method_69_code 5 = .ok (.iload_n 0, 1) := by decide +kernel
theorem px_d183_6 : decode prog_25_method_69_code 6 = .ok (.goto 4, 3) := by decide +kernel
theorem px_d183_9 : decode prog_25_method_69_code 9 = .ok (.iload_n 1, 1) := by decide +kernel
theorem px_d183_10 : decode prog_25_method_69_code 10 = .ok (.ireturn, 1) := by decide +kernel
theorem px_d184_0 : decode prog_5_method_5_code 0 = .ok (.iconst 1, 1) := by decide +kernel
theorem px_d184_1 : decode prog_5_method_5_code 1 = .ok (.iload_n 1, 1) := by decide +kernel
theorem px_d184_2 : decode prog_5_method_5_code 2 = .ok (.iconst 1, 1) := by decide +kernel
theorem px_d184_3 : decode prog_5_method_5_code 3 = .ok (.isub, 1) := by decide +kernel
theorem px_d184_4 : decode prog_5_method_5_code 4 = .ok (.ishl, 1) := by decide +kernel
theorem px_d184_5 : decode prog_5_method_5_code 5 = .ok (.istore_n 2, 1) := by decide +kernel
theorem px_d184_6 : decode prog_5_method_5_code 6 = .ok (.iconst 1, 1) := by decide +kernel
theorem px_d184_7 : decode prog_5_method_5_code 7 = .ok (.iload_n 1, 1) := by decide +kernel
theorem px_d184_8 : decode prog_5_method_5_code 8 = .ok (.ishl, 1) := by decide +kernel
theorem px_d184_9 : decode prog_5_method_5_code 9 = .ok (.istore_n 3, 1) := by decide +kernel
theorem px_d184_10 : decode prog_5_method_5_code 10 = .ok (.iconst 0, 1) := by decide +kernel
theorem px_d184_11 : decode prog_5_method_5_code 11 = .ok (.istore 4, 2) := by decide +kernel
theorem px_d184_13 : decode prog_5_method_5_code 13 = .ok (.iload 4, 2) := by decide +kernel
theorem px_d184_15 : decode prog_5_method_5_code 15 = .ok (.iload_n 1, 1) := by decide +kernel
theorem px_d184_16 : decode prog_5_method_5_code 16 = .ok (.if_icmp .gt 125, 3) := by decide +kernel
theorem px_d184_19 : decode prog_5_method_5_code 19 = .ok (.aload_n 0, 1) := by decide +kernel
theorem px_d184_20 : decode prog_5_method_5_code 20 = .ok (.getfield 15, 3) := by decide +kernel
theorem px_d184_23 : decode prog_5_method_5_code 23 = .ok (.iload_n 1, 1) := by decide +kernel
theorem px_d184_24 : decode prog_5_method_5_code 24 = .ok (.bipush 14, 2) := by decide +kernel
theorem px_d184_26 : decode prog_5_method_5_code 26 = .ok (.imul, 1) := by decide +kernel
theorem px_d184_27 : decode prog_5_method_5_code 27 = .ok (.iload 4, 2) := by decide +kernel
theorem px_d184_29 : decode prog_5_method_5_code 29 = .ok (.iadd, 1) := by decide +kernel
theorem px_d184_30 : decode prog_5_method_5_code 30 = .ok (.iload_n 3, 1) := by decide +kernel
theorem px_d184_31 : decode prog_5_method_5_code 31 = .ok (.iconst 1, 1) := by decide +kernel
theorem px_d184_32 : decode prog_5_method_5_code 32 = .ok (.iload_n 1, 1) := by decide +kernel
theorem px_d184_33 : decode prog_5_method_5_code 33 = .ok (.ishl, 1) := by decide +kernel
theorem px_d184_34 : decode prog_5_method_5_code 34 = .ok (.isub, 1) := by decide +kernel
theorem px_d184_35 : decode prog_5_method_5_code 35 = .ok (.iastore, 1) := by decide +kernel
theorem px_d184_36 : decode prog_5_method_5_code 36 = .ok (.iconst 1, 1) := by decide +kernel
theorem px_d184_37 : decode prog_5_method_5_code 37 = .ok (.istore 5, 2) := by decide +kernel
theorem px_d184_39 : decode prog_5_method_5_code 39 = .ok (.iload 5, 2) := by decide +kernel
theorem px_d184_41 : decode prog_5_method_5_code 41 = .ok (.ifCond .lt 94, 3) := by decide +kernel
theorem px_d184_44 : decode prog_5_method_5_code 44 = .ok (.iload_n 1, 1) := by decide +kernel
theorem px_d184_45 : decode prog_5_method_5_code 45 = .ok (.iconst 1, 1) := by decide +kernel
theorem px_d184_46 : decode prog_5_method_5_code 46 = .ok (.isub, 1) := by decide +kernel
theorem px_d184_47 : decode prog_5_method_5_code 47 = .ok (.bipush 14, 2) := by decide +kernel
theorem px_d184_49 : decode prog_5_method_5_code 49 = .ok (.imul, 1) := by decide +kernel
theorem px_d184_50 : decode prog_5_method_5_code 50 = .ok (.iconst 0, 1) := by decide +kernel
theorem px_d184_51 : decode prog_5_method_5_code 51 = .ok (.iload 4, 2) := by decide +kernel
theorem px_d184_53 : decode prog_5_method_5_code 53 = .ok (.iload 5, 2) := by decide +kernel
theorem px_d184_55 : decode prog_5_method_5_code 55 = .ok (.isub, 1) := by decide +kernel
theorem px_d184_56 : decode prog_5_method_5_code 56 = .ok (.invokestatic 32, 3) := by decide +kernel
theorem px_d184_59 : decode prog_5_method_5_code 59 = .ok (.iadd, 1) := by decide +kernel
theorem px_d184_60 : decode prog_5_method_5_code 60 = .ok (.istore 6, 2) := by decide +kernel
theorem px_d184_62 : decode prog_5_method_5_code 62 = .ok (.iload 4, 2) := by decide +kernel
theorem px_d184_64 : decode prog_5_method_5_code 64 = .ok (.iload 5, 2) := by decide +kernel
theorem px_d184_66 : decode prog_5_method_5_code 66 = .ok (.if_icmp .ge 7, 3) := by decide +kernel
theorem px_d184_69 : decode prog_5_method_5_code 69 = .ok (.iconst 0, 1) := by decide +kernel
theorem px_d184_70 : decode prog_5_method_5_code 70 = .ok (.goto 12, 3) := by decide +kernel
theorem px_d184_73 : decode prog_5_method_5_code 73 = .ok (.aload_n 0, 1) := by decide +kernel
theorem px_d184_74 : decode prog_5_method_5_code 74 = .ok (.getfield 15, 3) := by decide +kernel
theorem px_d184_77 : decode prog_5_method_5_code 77 = .ok (.iload 6, 2) := by decide +kernel
theorem px_d184_79 : decode prog_5_method_5_code 79 = .ok (.iconst 1, 1) := by decide +kernel
theorem px_d184_80 : decode prog_5_method_5_code 80 = .ok (.iadd, 1) := by decide +kernel
theorem px_d184_81 : decode prog_5_method_5_code 81 = .ok (.iaload, 1) := by decide +kernel
theorem px_d184_82 : decode prog_5_method_5_code 82 = .ok (.istore 7, 2) := by decide +kernel
theorem px_d184_84 : decode prog_5_method_5_code 84 = .ok (.aload_n 0, 1) := by decide +kernel
theorem px_d184_85 : decode prog_5_method_5_code 85 = .ok (.getfield 15, 3) := by decide +kernel
theorem px_d184_88 : decode prog_5_method_5_code 88 = .ok (.iload 6, 2) := by decide +kernel
theorem px_d184_90 : decode prog_5_method_5_code 90 = .ok (.iaload, 1) := by decide +kernel
theorem px_d184_91 : decode prog_5_method_5_code 91 = .ok (.istore 8, 2) := by decide +kernel
theorem px_d184_93 : decode prog_5_method_5_code 93 = .ok (.iload 8, 2) := by decide +kernel
theorem px_d184_95 : decode prog_5_method_5_code 95 = .ok (.iload 7, 2) := by decide +kernel
theorem px_d184_97 : decode prog_5_method_5_code 97 = .ok (.if_icmp .ge 32, 3) := by decide +kernel
theorem px_d184_100 : decode prog_5_method_5_code 100 = .ok (.aload_n 0, 1) := by decide +kernel
theorem px_d184_101 : decode prog_5_method_5_code 101 = .ok (.getfield 9, 3) := by decide +kernel
theorem px_d184_104 : decode prog_5_method_5_code 104 = .ok (.iload_n 3, 1) := by decide +kernel
theorem px_d184_105 : decode prog_5_method_5_code 105 = .ok (.aload_n 0, 1) := by decide +kernel
theorem px_d184_106 : decode prog_5_method_5_code 106 = .ok (.getfield 9, 3) := by decide +kernel
theorem px_d184_109 : decode prog_5_method_5_code 109 = .ok (.iload_n 2, 1) := by decide +kernel
theorem px_d184_110 : decode prog_5_method_5_code 110 = .ok (.iload 8, 2) := by decide +kernel
theorem px_d184_112 : decode prog_5_method_5_code 112 = .ok (.iadd, 1) := by decide +kernel
theorem px_d184_113 : decode prog_5_method_5_code 113 = .ok (.iaload, 1) := by decide +kernel
theorem px_d184_114 : decode prog_5_method_5_code 114 = .ok (.iconst 1, 1) := by decide +kernel
theorem px_d184_115 : decode prog_5_method_5_code 115 = .ok (.ishl, 1) := by decide +kernel
theorem px_d184_116 : decode prog_5_method_5_code 116 = .ok (.iload 5, 2) := by decide +kernel
theorem px_d184_118 : decode prog_5_method_5_code 118 = .ok (.ior, 1) := by decide +kernel
theorem px_d184_119 : decode prog_5_method_5_code 119 = .ok (.iastore, 1) := by decide +kernel
theorem px_d184_120 : decode prog_5_method_5_code 120 = .ok (.iinc 3 1, 3) := by decide +kernel
theorem px_d184_123 : decode prog_5_method_5_code 123 = .ok (.iinc 8 1, 3) := by decide +kernel
theorem px_d184_126 : decode prog_5_method_5_code 126 = .ok (.goto (-33), 3) := by decide +kernel
theorem px_d184_129 : decode prog_5_method_5_code 129 = .ok (.iinc 5 (-1), 3) := by decide +kernel
theorem px_d184_132 : decode prog_5_method_5_code 132 = .ok (.goto (-93), 3) := by decide +kernel
theorem px_d184_135 : decode prog_5_method_5_code 135 = .ok (.iinc 4 1, 3) := by decide +kernel
theorem px_d184_138 : decode prog_5_method_5_code 138 = .ok (.goto (-125), 3) := by decide +kernel
theorem px_d184_141 : decode prog_5_method_5_code 141 = .ok (.aload_n 0, 1) := by decide +kernel
theorem px_d184_142 : decode prog_5_method_5_code 142 = .ok (.getfield 15, 3) := by decide +kernel
theorem px_d184_145 : decode prog_5_method_5_code 145 = .ok (.iload_n 1, 1) := by decide +kernel
theorem px_d184_146 : decode prog_5_method_5_code 146 = .ok (.bipush 14, 2) := by decide +kernel
theorem px_d184_148 : decode prog_5_method_5_code 148 = .ok (.imul, 1) := by decide +kernel
theorem px_d184_149 : decode prog_5_method_5_code 149 = .ok (.iload_n 1, 1) := by decide +kernel
theorem px_d184_150 : decode prog_5_method_5_code 150 = .ok (.iadd, 1) := by decide +kernel
theorem px_d184_151 : decode prog_5_method_5_code 151 = .ok (.iconst 1, 1) := by decide +kernel
theorem px_d184_152 : decode prog_5_method_5_code 152 = .ok (.iadd, 1) := by decide +kernel
theorem px_d184_153 : decode prog_5_method_5_code 153 = .ok (.iconst 1, 1) := by decide +kernel
theorem px_d184_154 : decode prog_5_method_5_code 154 = .ok (.iload_n 1, 1) := by decide +kernel
theorem px_d184_155 : decode prog_5_method_5_code 155 = .ok (.ishl, 1) := by decide +kernel
theorem px_d184_156 : decode prog_5_method_5_code 156 = .ok (.iastore, 1) := by decide +kernel
theorem px_d184_157 : decode prog_5_method_5_code 157 = .ok (.return_, 1) := by decide +kernel
theorem px_d185_0 : decode prog_25_method_65_code 0 = .ok (.iload_n 0, 1) := by decide +kernel
theorem px_d185_1 : decode prog_25_method_65_code 1 = .ok (.iload_n 1, 1) := by decide +kernel
theorem px_d185_2 : decode prog_25_method_65_code 2 = .ok (.if_icmp .lt 7, 3) := by decide +kernel
theorem px_d185_5 : decode prog_25_method_65_code 5 = .ok (.iload_n 0, 1) := by decide +kernel
theorem px_d185_6 : decode prog_25_method_65_code 6 = .ok (.goto 4, 3) := by decide +kernel
theorem px_d185_9 : decode prog_25_method_65_code 9 = .ok (.iload_n 1, 1) := by decide +kernel
theorem px_d185_10 : decode prog_25_method_65_code 10 = .ok (.ireturn, 1) := by decide +kernel
theorem px_d186_0 : decode prog_33_method_102_code 0 = .ok (.aload_n 0, 1) := by decide +kernel
theorem px_d186_1 : decode prog_33_method_102_code 1 = .ok (.arraylength, 1) := by decide +kernel
theorem px_d186_2 : decode prog_33_method_102_code 2 = .ok (.iload_n 1, 1) := by decide +kernel
theorem px_d186_3 : decode prog_33_method_102_code 3 = .ok (.iload_n 2, 1) := by decide +kernel
theorem px_d186_4 : decode prog_33_method_102_code 4 = .ok (.invokestatic 13, 3) := by decide +kernel
theorem px_d186_7 : decode prog_33_method_102_code 7 = .ok (.iload_n 1, 1) := by decide +kernel
theorem px_d186_8 : decode prog_33_method_102_code 8 = .ok (.istore 5, 2) := by decide +kernel
theorem px_d186_10 : decode prog_33_method_102_code 10 = .ok (.iload 5, 2) := by decide +kernel
theorem px_d186_12 : decode prog_33_method_102_code 12 = .ok (.iload_n 2, 1) := by decide +kernel
theorem px_d186_13 : decode prog_33_method_102_code 13 = .ok (.if_icmp .ge 14, 3) := by decide +kernel
theorem px_d186_16 : decode prog_33_method_102_code 16 = .ok (.aload_n 0, 1) := by decide +kernel
theorem px_d186_17 : decode prog_33_method_102_code 17 = .ok (.iload 5, 2) := by decide +kernel
theorem px_d186_19 : decode prog_33_method_102_code 19 = .ok (.lload_n 3, 1) := by decide +kernel
theorem px_d186_20 : decode prog_33_method_102_code 20 = .ok (.lastore, 1) := by decide +kernel
theorem px_d186_21 : decode prog_33_method_102_code 21 = .ok (.iinc 5 1, 3) := by decide +kernel
theorem px_d186_24 : decode prog_33_method_102_code 24 = .ok (.goto (-14), 3) := by decide +kernel
theorem px_d186_27 : decode prog_33_method_102_code 27 = .ok (.return_, 1) := by decide +kernel
theorem px_d187_0 : decode prog_33_method_30_code 0 = .ok (.iload_n 1, 1) := by decide +kernel
theorem px_d187_1 : decode prog_33_method_30_code 1 = .ok (.iload_n 2, 1) := by decide +kernel
theorem px_d187_2 : decode prog_33_method_30_code 2 = .ok (.if_icmp .le 44, 3) := by decide +kernel
theorem px_d187_46 : decode prog_33_method_30_code 46 = .ok (.iload_n 1, 1) := by decide +kernel
theorem px_d187_47 : decode prog_33_method_30_code 47 = .ok (.ifCond .ge 12, 3) := by decide +kernel
theorem px_d187_59 : decode prog_33_method_30_code 59 = .ok (.iload_n 2, 1) := by decide +kernel
theorem px_d187_60 : decode prog_33_method_30_code 60 = .ok (.iload_n 0, 1) := by decide +kernel
theorem px_d187_61 : decode prog_33_method_30_code 61 = .ok (.if_icmp .le 12, 3) := by decide +kernel
theorem px_d187_73 : decode prog_33_method_30_code 73 = .ok (.return_, 1) := by decide +kernel
theorem px_d200_0 : decode prog_33_method_121_code 0 = .ok (.iload_n 1, 1) := by decide +kernel
theorem px_d200_1 : decode prog_33_method_121_code 1 = .ok (.aload_n 0, 1) := by decide +kernel
theorem px_d200_2 : decode prog_33_method_121_code 2 = .ok (.arraylength, 1) := by decide +kernel
theorem px_d200_3 : decode prog_33_method_121_code 3 = .ok (.if_icmp .ne 11, 3) := by decide +kernel
theorem px_d200_6 : decode prog_33_method_121_code 6 = .ok (.aload_n 0, 1) := by decide +kernel
theorem px_d200_14 : decode prog_33_method_121_code 14 = .ok (.iload_n 1, 1) := by decide +kernel
theorem px_d200_15 : decode prog_33_method_121_code 15 = .ok (.newarray .byte, 2) := by decide +kernel
theorem px_d200_17 : decode prog_33_method_121_code 17 = .ok (.astore_n 2, 1) := by decide +kernel
theorem px_d200_18 : decode prog_33_method_121_code 18 = .ok (.aload_n 0, 1) := by decide +kernel
theorem px_d200_19 : decode prog_33_method_121_code 19 = .ok (.iconst 0, 1) := by decide +kernel
theorem px_d200_20 : decode prog_33_method_121_code 20 = .ok (.aload_n 2, 1) := by decide +kernel
theorem px_d200_21 : decode prog_33_method_121_code 21 = .ok (.iconst 0, 1) := by decide +kernel
theorem px_d200_22 : decode prog_33_method_121_code 22 = .ok (.aload_n 0, 1) := by decide +kernel
theorem px_d200_23 : decode prog_33_method_121_code 23 = .ok (.arraylength, 1) := by decide +kernel
theorem px_d200_24 : decode prog_33_method_121_code 24 = .ok (.iload_n 1, 1) := by decide +kernel
theorem px_d200_25 : decode prog_33_method_121_code 25 = .ok (.invokestatic 304, 3) := by decide +kernel
theorem px_d200_28 : decode prog_33_method_121_code 28 = .ok (.invokestatic 150, 3) := by decide +kernel
theorem px_d200_31 : decode prog_33_method_121_code 31 = .ok (.aload_n 2, 1) := by decide +kernel
theorem px_d200_32 : decode prog_33_method_121_code 32 = .ok (.areturn, 1) := by decide +kernel
theorem px_d238_0 : decode prog_4_method_8_code 0 = .ok (.aload_n 0, 1) := by decide +kernel
theorem px_d238_1 : decode prog_4_method_8_code 1 = .ok (.getfield 53, 3) := by decide +kernel
theorem px_d238_4 : decode prog_4_method_8_code 4 = .ok (.aload_n 0, 1) := by decide +kernel
theorem px_d238_5 : decode prog_4_method_8_code 5 = .ok (.getfield 144, 3) := by decide +kernel
theorem px_d238_8 : decode prog_4_method_8_code 8 = .ok (.if_icmp .lt 5, 3) := by decide +kernel
theorem px_d238_11 : decode prog_4_method_8_code 11 = .ok (.iconst 0, 1) := by decide +kernel
theorem px_d238_12 : decode prog_4_method_8_code 12 = .ok (.ireturn, 1) := by decide +kernel
theorem px_d238_13 : decode prog_4_method_8_code 13 = .ok (.iconst 0, 1) := by decide +kernel
theorem px_d238_14 : decode prog_4_method_8_code 14 = .ok (.istore_n 3, 1) := by decide +kernel
theorem px_d238_15 : decode prog_4_method_8_code 15 = .ok (.aload_n 0, 1) := by decide +kernel
theorem px_d238_16 : decode prog_4_method_8_code 16 = .ok (.getfield 7, 3) := by decide +kernel
theorem px_d238_19 : decode prog_4_method_8_code 19 = .ok (.aload_n 0, 1) := by decide +kernel
theorem px_d238_20 : decode prog_4_method_8_code 20 = .ok (.getfield 144, 3) := by decide +kernel
theorem px_d238_23 : decode prog_4_method_8_code 23 = .ok (.aload_n 0, 1) := by decide +kernel
theorem px_d238_24 : decode prog_4_method_8_code 24 = .ok (.getfield 53, 3) := by decide +kernel
theorem px_d238_27 : decode prog_4_method_8_code 27 = .ok (.iconst 2, 1) := by decide +kernel
theorem px_d238_28 : decode prog_4_method_8_code 28 = .ok (.iadd, 1) := by decide +kernel
theorem px_d238_29 : decode prog_4_method_8_code 29 = .ok (.invokevirtual 151, 3) := by decide +kernel
theorem px_d238_32 : decode prog_4_method_8_code 32 = .ok (.istore 4, 2) := by decide +kernel
theorem px_d238_34 : decode prog_4_method_8_code 34 = .ok (.aload_n 0, 1) := by decide +kernel
theorem px_d238_35 : decode prog_4_method_8_code 35 = .ok (.getfield 7, 3) := by decide +kernel
theorem px_d238_38 : decode prog_4_method_8_code 38 = .ok (.aload_n 0, 1) := by decide +kernel
theorem px_d238_39 : decode prog_4_method_8_code 39 = .ok (.getfield 144, 3) := by decide +kernel
theorem px_d238_42 : decode prog_4_method_8_code 42 = .ok (.aload_n 0, 1) := by decide +kernel
theorem px_d238_43 : decode prog_4_method_8_code 43 = .ok (.getfield 53, 3) := by decide +kernel
theorem px_d238_46 : decode prog_4_method_8_code 46 = .ok (.iconst 1, 1) := by decide +kernel
theorem px_d238_47 : decode prog_4_method_8_code 47 = .ok (.iadd, 1) := by decide +kernel
theorem px_d238_48 : decode prog_4_method_8_code 48 = .ok (.invokevirtual 151, 3) := by decide +kernel
theorem px_d238_51 : decode prog_4_method_8_code 51 = .ok (.istore 5, 2) := by decide +kernel
theorem px_d238_53 : decode prog_4_method_8_code 53 = .ok (.iload 5, 2) := by decide +kernel
theorem px_d238_55 : decode prog_4_method_8_code 55 = .ok (.iload 4, 2) := by decide +kernel
theorem px_d238_57 : decode prog_4_method_8_code 57 = .ok (.if_icmp .ge 51, 3) := by decide +kernel
theorem px_d238_60 : decode prog_4_method_8_code 60 = .ok (.aload_n 0, 1) := by decide +kernel
theorem px_d238_61 : decode prog_4_method_8_code 61 = .ok (.getfield 7, 3) := by decide +kernel
theorem px_d238_64 : decode prog_4_method_8_code 64 = .ok (.aload_n 0, 1) := by decide +kernel
theorem px_d238_65 : decode prog_4_method_8_code 65 = .ok (.getfield 144, 3) := by decide +kernel
theorem px_d238_68 : decode prog_4_method_8_code 68 = .ok (.iload 5, 2) := by decide +kernel
theorem px_d238_70 : decode prog_4_method_8_code 70 = .ok (.invokevirtual 154, 3) := by decide +kernel
theorem px_d238_73 : decode prog_4_method_8_code 73 = .ok (.istore 6, 2) := by decide +kernel
theorem px_d238_75 : decode prog_4_method_8_code 75 = .ok (.aload_n 0, 1) := by decide +kernel
theorem px_d238_76 : decode prog_4_method_8_code 76 = .ok (.iload 6, 2) := by decide +kernel
theorem px_d238_78 : decode prog_4_method_8_code 78 = .ok (.aload_n 1, 1) := by decide +kernel
theorem px_d238_79 : decode prog_4_method_8_code 79 = .ok (.iload_n 2, 1) := by decide +kernel
theorem px_d238_80 : decode prog_4_method_8_code 80 = .ok (.invokevirtual 157, 3) := by decide +kernel
theorem px_d238_83 : decode prog_4_method_8_code 83 = .ok (.iload_n 3, 1) := by decide +kernel
theorem px_d238_84 : decode prog_4_method_8_code 84 = .ok (.ifCond .ne 12, 3) := by decide +kernel
theorem px_d238_87 : decode prog_4_method_8_code 87 = .ok (.aload_n 0, 1) := by decide +kernel
theorem px_d238_88 : decode prog_4_method_8_code 88 = .ok (.iload 6, 2) := by decide +kernel
theorem px_d238_90 : decode prog_4_method_8_code 90 = .ok (.invokevirtual 161, 3) := by decide +kernel
theorem px_d238_93 : decode prog_4_method_8_code 93 = .ok (.ifCond .eq 7, 3) := by decide +kernel
theorem px_d238_96 : decode prog_4_method_8_code 96 = .ok (.iconst 1, 1) := by decide +kernel
theorem px_d238_97 : decode prog_4_method_8_code 97 = .ok (.goto 4, 3) := by decide +kernel
theorem px_d238_100 : decode prog_4_method_8_code 100 = .ok (.iconst 0, 1) := by decide +kernel
theorem px_d238_101 : decode prog_4_method_8_code 101 = .ok (.istore_n 3, 1) := by decide +kernel
theorem px_d238_102 : decode prog_4_method_8_code 102 = .ok (.iinc 5 1, 3) := by decide +kernel
theorem px_d238_105 : decode prog_4_method_8_code 105 = .ok (.goto (-52), 3) := by decide +kernel
theorem px_d238_108 : decode prog_4_method_8_code 108 = .ok (.aload_n 0, 1) := by decide +kernel
theorem px_d238_109 : decode prog_4_method_8_code 109 = .ok (.dup, 1) := by decide +kernel
theorem px_d238_110 : decode prog_4_method_8_code 110 = .ok (.getfield 53, 3) := by decide +kernel
theorem px_d238_113 : decode prog_4_method_8_code 113 = .ok (.iload_n 3, 1) := by decide +kernel
theorem px_d238_114 : decode prog_4_method_8_code 114 = .ok (.ifCond .eq 7, 3) := by decide +kernel
theorem px_d238_117 : decode prog_4_method_8_code 117 = .ok (.iconst 1, 1) := by decide +kernel
theorem px_d238_118 : decode prog_4_method_8_code 118 = .ok (.goto 4, 3) := by decide +kernel
theorem px_d238_121 : decode prog_4_method_8_code 121 = .ok (.iconst 0, 1) := by decide +kernel
theorem px_d238_122 : decode prog_4_method_8_code 122 = .ok (.iadd, 1) := by decide +kernel
theorem px_d238_123 : decode prog_4_method_8_code 123 = .ok (.putfield 53, 3) := by decide +kernel
theorem px_d238_126 : decode prog_4_method_8_code 126 = .ok (.iload_n 3, 1) := by decide +kernel
theorem px_d238_127 : decode prog_4_method_8_code 127 = .ok (.ireturn, 1) := by decide +kernel
theorem px_d239_0 : decode prog_5_method_4_code 0 = .ok (.aload_n 0, 1) := by decide +kernel
theorem px_d239_1 : decode prog_5_method_4_code 1 = .ok (.getfield 15, 3) := by decide +kernel
theorem px_d239_4 : decode prog_5_method_4_code 4 = .ok (.iload_n 1, 1) := by decide +kernel
theorem px_d239_5 : decode prog_5_method_4_code 5 = .ok (.bipush 14, 2) := by decide +kernel
theorem px_d239_7 : decode prog_5_method_4_code 7 = .ok (.imul, 1) := by decide +kernel
theorem px_d239_8 : decode prog_5_method_4_code 8 = .ok (.iload_n 2, 1) := by decide +kernel
theorem px_d239_9 : decode prog_5_method_4_code 9 = .ok (.iadd, 1) := by decide +kernel
theorem px_d239_10 : decode prog_5_method_4_code 10 = .ok (.iaload, 1) := by decide +kernel
theorem px_d239_11 : decode prog_5_method_4_code 11 = .ok (.ireturn, 1) := by decide +kernel
theorem px_d240_0 : decode prog_5_method_3_code 0 = .ok (.aload_n 0, 1) := by decide +kernel
theorem px_d240_1 : decode prog_5_method_3_code 1 = .ok (.getfield 9, 3) := by decide +kernel
theorem px_d240_4 : decode prog_5_method_3_code 4 = .ok (.iconst 1, 1) := by decide +kernel
theorem px_d240_5 : decode prog_5_method_3_code 5 = .ok (.iload_n 1, 1) := by decide +kernel
theorem px_d240_6 : decode prog_5_method_3_code 6 = .ok (.ishl, 1) := by decide +kernel
theorem px_d240_7 : decode prog_5_method_3_code 7 = .ok (.iload_n 2, 1) := by decide +kernel
theorem px_d240_8 : decode prog_5_method_3_code 8 = .ok (.iadd, 1) := by decide +kernel
theorem px_d240_9 : decode prog_5_method_3_code 9 = .ok (.iaload, 1) := by decide +kernel
theorem px_d240_10 : decode prog_5_method_3_code 10 = .ok (.ireturn, 1) := by decide +kernel
theorem px_d241_0 : decode prog_4_method_9_code 0 = .ok (.lconst 0, 1) := by decide +kernel
theorem px_d241_1 : decode prog_4_method_9_code 1 = .ok (.lstore 4, 2) := by decide +kernel
theorem px_d241_3 : decode prog_4_method_9_code 3 = .ok (.lconst 0, 1) := by decide +kernel
theorem px_d241_4 : decode prog_4_method_9_code 4 = .ok (.lstore 6, 2) := by decide +kernel
theorem px_d241_6 : decode prog_4_method_9_code 6 = .ok (.lconst 0, 1) := by decide +kernel
theorem px_d241_7 : decode prog_4_method_9_code 7 = .ok (.lstore 8, 2) := by decide +kernel
theorem px_d241_9 : decode prog_4_method_9_code 9 = .ok (.iconst 1, 1) := by decide +kernel
theorem px_d241_10 : decode prog_4_method_9_code 10 = .ok (.istore 10, 2) := by decide +kernel
theorem px_d241_12 : decode prog_4_method_9_code 12 = .ok (.aload_n 0, 1) := by decide +kernel
theorem px_d241_13 : decode prog_4_method_9_code 13 = .ok (.getfield 144, 3) := by decide +kernel
theorem px_d241_16 : decode prog_4_method_9_code 16 = .ok (.iconst 1, 1) := by decide +kernel
theorem px_d241_17 : decode prog_4_method_9_code 17 = .ok (.isub, 1) := by decide +kernel
theorem px_d241_18 : decode prog_4_method_9_code 18 = .ok (.istore 11, 2) := by decide +kernel
theorem px_d241_20 : decode prog_4_method_9_code 20 = .ok (.iload 11, 2) := by decide +kernel
theorem px_d241_22 : decode prog_4_method_9_code 22 = .ok (.ifCond .lt 88, 3) := by decide +kernel
theorem px_d241_25 : decode prog_4_method_9_code 25 = .ok (.iload_n 1, 1) := by decide +kernel
theorem px_d241_26 : decode prog_4_method_9_code 26 = .ok (.iload 11, 2) := by decide +kernel
theorem px_d241_28 : decode prog_4_method_9_code 28 = .ok (.ishr, 1) := by decide +kernel
theorem px_d241_29 : decode prog_4_method_9_code 29 = .ok (.iconst 1, 1) := by decide +kernel
theorem px_d241_30 : decode prog_4_method_9_code 30 = .ok (.iand, 1) := by decide +kernel
theorem px_d241_31 : decode prog_4_method_9_code 31 = .ok (.ifCond .eq 73, 3) := by decide +kernel
theorem px_d241_34 : decode prog_4_method_9_code 34 = .ok (.iload 10, 2) := by decide +kernel
theorem px_d241_36 : decode prog_4_method_9_code 36 = .ok (.aload_n 2, 1) := by decide +kernel
theorem px_d241_37 : decode prog_4_method_9_code 37 = .ok (.iload_n 3, 1) := by decide +kernel
theorem px_d241_38 : decode prog_4_method_9_code 38 = .ok (.iload 11, 2) := by decide +kernel
theorem px_d241_40 : decode prog_4_method_9_code 40 = .ok (.iadd, 1) := by decide +kernel
theorem px_d241_41 : decode prog_4_method_9_code 41 = .ok (.iaload, 1) := by decide +kernel
theorem px_d241_42 : decode prog_4_method_9_code 42 = .ok (.imul, 1) := by decide +kernel
theorem px_d241_43 : decode prog_4_method_9_code 43 = .ok (.i2l, 1) := by decide +kernel
theorem px_d241_44 : decode prog_4_method_9_code 44 = .ok (.lstore 12, 2) := by decide +kernel
theorem px_d241_46 : decode prog_4_method_9_code 46 = .ok (.iload_n 1, 1) := by decide +kernel
theorem px_d241_47 : decode prog_4_method_9_code 47 = .ok (.iconst 1, 1) := by decide +kernel
theorem px_d241_48 : decode prog_4_method_9_code 48 = .ok (.iload 11, 2) := by decide +kernel
theorem px_d241_50 : decode prog_4_method_9_code 50 = .ok (.ishl, 1) := by decide +kernel
theorem px_d241_51 : decode prog_4_method_9_code 51 = .ok (.ixor, 1) := by decide +kernel
theorem px_d241_52 : decode prog_4_method_9_code 52 = .ok (.istore 14, 2) := by decide +kernel
theorem px_d241_54 : decode prog_4_method_9_code 54 = .ok (.lload 4, 2) := by decide +kernel
theorem px_d241_56 : decode prog_4_method_9_code 56 = .ok (.lload 12, 2) := by decide +kernel
theorem px_d241_58 : decode prog_4_method_9_code 58 = .ok (.aload_n 0, 1) := by decide +kernel
theorem px_d241_59 : decode prog_4_method_9_code 59 = .ok (.getfield 29, 3) := by decide +kernel
theorem px_d241_62 : decode prog_4_method_9_code 62 = .ok (.iload 14, 2) := by decide +kernel
theorem px_d241_64 : decode prog_4_method_9_code 64 = .ok (.laload, 1) := by decide +kernel
theorem px_d241_65 : decode prog_4_method_9_code 65 = .ok (.lmul, 1) := by decide +kernel
theorem px_d241_66 : decode prog_4_method_9_code 66 = .ok (.ladd, 1) := by decide +kernel
theorem px_d241_67 : decode prog_4_method_9_code 67 = .ok (.lstore 4, 2) := by decide +kernel
theorem px_d241_69 : decode prog_4_method_9_code 69 = .ok (.lload 6, 2) := by decide +kernel
theorem px_d241_71 : decode prog_4_method_9_code 71 = .ok (.lload 12, 2) := by decide +kernel
theorem px_d241_73 : decode prog_4_method_9_code 73 = .ok (.aload_n 0, 1) := by decide +kernel
theorem px_d241_74 : decode prog_4_method_9_code 74 = .ok (.getfield 33, 3) := by decide +kernel
theorem px_d241_77 : decode prog_4_method_9_code 77 = .ok (.iload 14, 2) := by decide +kernel
theorem px_d241_79 : decode prog_4_method_9_code 79 = .ok (.laload, 1) := by decide +kernel
theorem px_d241_80 : decode prog_4_method_9_code 80 = .ok (.lmul, 1) := by decide +kernel
theorem px_d241_81 : decode prog_4_method_9_code 81 = .ok (.ladd, 1) := by decide +kernel
theorem px_d241_82 : decode prog_4_method_9_code 82 = .ok (.lstore 6, 2) := by decide +kernel
theorem px_d241_84 : decode prog_4_method_9_code 84 = .ok (.lload 8, 2) := by decide +kernel
theorem px_d241_86 : decode prog_4_method_9_code 86 = .ok (.lload 12, 2) := by decide +kernel
theorem px_d241_88 : decode prog_4_method_9_code 88 = .ok (.aload_n 0, 1) := by decide +kernel
theorem px_d241_89 : decode prog_4_method_9_code 89 = .ok (.getfield 36, 3) := by decide +kernel
theorem px_d241_92 : decode prog_4_method_9_code 92 = .ok (.iload 14, 2) := by decide +kernel
theorem px_d241_94 : decode prog_4_method_9_code 94 = .ok (.laload, 1) := by decide +kernel
theorem px_d241_95 : decode prog_4_method_9_code 95 = .ok (.lmul, 1) := by decide +kernel
theorem px_d241_96 : decode prog_4_method_9_code 96 = .ok (.ladd, 1) := by decide +kernel
theorem px_d241_97 : decode prog_4_method_9_code 97 = .ok (.lstore 8, 2) := by decide +kernel
theorem px_d241_99 : decode prog_4_method_9_code 99 = .ok (.iload 10, 2) := by decide +kernel
theorem px_d241_101 : decode prog_4_method_9_code 101 = .ok (.ineg, 1) := by decide +kernel
theorem px_d241_102 : decode prog_4_method_9_code 102 = .ok (.istore 10, 2) := by decide +kernel
theorem px_d241_104 : decode prog_4_method_9_code 104 = .ok (.iinc 11 (-1), 3) := by decide +kernel
theorem px_d241_107 : decode prog_4_method_9_code 107 = .ok (.goto (-87), 3) := by decide +kernel
theorem px_d241_110 : decode prog_4_method_9_code 110 = .ok (.aload_n 0, 1) := by decide +kernel
theorem px_d241_111 : decode prog_4_method_9_code 111 = .ok (.getfield 89, 3) := by decide +kernel
theorem px_d241_114 : decode prog_4_method_9_code 114 = .ok (.ifCond .eq 20, 3) := by decide +kernel
theorem px_d241_117 : decode prog_4_method_9_code 117 = .ok (.aload_n 0, 1) := by decide +kernel
theorem px_d241_118 : decode prog_4_method_9_code 118 = .ok (.getfield 29, 3) := by decide +kernel
theorem px_d241_121 : decode prog_4_method_9_code 121 = .ok (.iload_n 1, 1) := by decide +kernel
theorem px_d241_122 : decode prog_4_method_9_code 122 = .ok (.lload 4, 2) := by decide +kernel
theorem px_d241_124 : decode prog_4_method_9_code 124 = .ok (.aload_n 0, 1) := by decide +kernel
theorem px_d241_125 : decode prog_4_method_9_code 125 = .ok (.getfield 89, 3) := by decide +kernel
theorem px_d241_128 : decode prog_4_method_9_code 128 = .ok (.i2l, 1) := by decide +kernel
theorem px_d241_129 : decode prog_4_method_9_code 129 = .ok (.invokestatic 94, 3) := by decide +kernel
theorem px_d241_132 : decode prog_4_method_9_code 132 = .ok (.lastore, 1) := by decide +kernel
theorem px_d241_133 : decode prog_4_method_9_code 133 = .ok (.return_, 1) := by decide +kernel
theorem px_d241_134 : decode prog_4_method_9_code 134 = .ok (.lload 6, 2) := by decide +kernel
theorem px_d241_136 : decode prog_4_method_9_code 136 = .ok (.lload 4, 2) := by decide +kernel
theorem px_d241_138 : decode prog_4_method_9_code 138 = .ok (.bipush 48, 2) := by decide +kernel
theorem px_d241_140 : decode prog_4_method_9_code 140 = .ok (.lshr, 1) := by decide +kernel
theorem px_d241_141 : decode prog_4_method_9_code 141 = .ok (.ladd, 1) := by decide +kernel
theorem px_d241_142 : decode prog_4_method_9_code 142 = .ok (.lstore 6, 2) := by decide +kernel
theorem px_d241_144 : decode prog_4_method_9_code 144 = .ok (.aload_n 0, 1) := by decide +kernel
theorem px_d241_145 : decode prog_4_method_9_code 145 = .ok (.getfield 29, 3) := by decide +kernel
theorem px_d241_148 : decode prog_4_method_9_code 148 = .ok (.iload_n 1, 1) := by decide +kernel
theorem px_d241_149 : decode prog_4_method_9_code 149 = .ok (.lload 4, 2) := by decide +kernel
theorem px_d241_151 : decode prog_4_method_9_code 151 = .ok (.ldc2_w 165, 3) := by decide +kernel
theorem px_d241_154 : decode prog_4_method_9_code 154 = .ok (.land, 1) := by decide +kernel
theorem px_d241_155 : decode prog_4_method_9_code 155 = .ok (.lastore, 1) := by decide +kernel
theorem px_d241_156 : decode prog_4_method_9_code 156 = .ok (.aload_n 0, 1) := by decide +kernel
theorem px_d241_157 : decode prog_4_method_9_code 157 = .ok (.getfield 33, 3) := by decide +kernel
theorem px_d241_160 : decode prog_4_method_9_code 160 = .ok (.iload_n 1, 1) := by decide +kernel
theorem px_d241_161 : decode prog_4_method_9_code 161 = .ok (.lload 6, 2) := by decide +kernel
theorem px_d241_163 : decode prog_4_method_9_code 163 = .ok (.ldc2_w 165, 3) := by decide +kernel
theorem px_d241_166 : decode prog_4_method_9_code 166 = .ok (.land, 1) := by decide +kernel
theorem px_d241_167 : decode prog_4_method_9_code 167 = .ok (.lastore, 1) := by decide +kernel
theorem px_d241_168 : decode prog_4_method_9_code 168 = .ok (.aload_n 0, 1) := by decide +kernel
theorem px_d241_169 : decode prog_4_method_9_code 169 = .ok (.getfield 36, 3) := by decide +kernel
theorem px_d241_172 : decode prog_4_method_9_code 172 = .ok (.iload_n 1, 1) := by decide +kernel
theorem px_d241_173 : decode prog_4_method_9_code 173 = .ok (.lload 8, 2) := by decide +kernel
theorem px_d241_175 : decode prog_4_method_9_code 175 = .ok (.lload 6, 2) := by decide +kernel
theorem px_d241_177 : decode prog_4_method_9_code 177 = .ok (.bipush 48, 2) := by decide +kernel
theorem px_d241_179 : decode prog_4_method_9_code 179 = .ok (.lshr, 1) := by decide +kernel
theorem px_d241_180 : decode prog_4_method_9_code 180 = .ok (.ladd, 1) := by decide +kernel
theorem px_d241_181 : decode prog_4_method_9_code 181 = .ok (.lastore, 1) := by decide +kernel
theorem px_d241_182 : decode prog_4_method_9_code 182 = .ok (.return_, 1) := by decide +kernel
theorem px_d242_0 : decode prog_25_method_52_code 0 = .ok (.lload_n 0, 1) := by decide +kernel
theorem px_d242_1 : decode prog_25_method_52_code 1 = .ok (.lload_n 2, 1) := by decide +kernel
theorem px_d242_2 : decode prog_25_method_52_code 2 = .ok (.lrem, 1) := by decide +kernel
theorem px_d242_3 : decode prog_25_method_52_code 3 = .ok (.lstore 4, 2) := by decide +kernel
theorem px_d242_5 : decode prog_25_method_52_code 5 = .ok (.lload_n 0, 1) := by decide +kernel
theorem px_d242_6 : decode prog_25_method_52_code 6 = .ok (.lload_n 2, 1) := by decide +kernel
theorem px_d242_7 : decode prog_25_method_52_code 7 = .ok (.lxor, 1) := by decide +kernel
theorem px_d242_8 : decode prog_25_method_52_code 8 = .ok (.lconst 0, 1) := by decide +kernel
