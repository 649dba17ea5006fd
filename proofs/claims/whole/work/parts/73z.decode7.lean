theorem px_d273_22 : decode prog_3_method_25_code 22 = .ok (.aload_n 0, 1) := by decide +kernel
theorem px_d273_23 : decode prog_3_method_25_code 23 = .ok (.getfield 66, 3) := by decide +kernel
theorem px_d273_26 : decode prog_3_method_25_code 26 = .ok (.iload 4, 2) := by decide +kernel
theorem px_d273_28 : decode prog_3_method_25_code 28 = .ok (.invokevirtual 137, 3) := by decide +kernel
theorem px_d273_31 : decode prog_3_method_25_code 31 = .ok (.istore 5, 2) := by decide +kernel
theorem px_d273_33 : decode prog_3_method_25_code 33 = .ok (.aload_n 0, 1) := by decide +kernel
theorem px_d273_34 : decode prog_3_method_25_code 34 = .ok (.iload_n 1, 1) := by decide +kernel
theorem px_d273_35 : decode prog_3_method_25_code 35 = .ok (.iload 5, 2) := by decide +kernel
theorem px_d273_37 : decode prog_3_method_25_code 37 = .ok (.invokevirtual 176, 3) := by decide +kernel
theorem px_d273_40 : decode prog_3_method_25_code 40 = .ok (.ifCond .eq 45, 3) := by decide +kernel
theorem px_d273_43 : decode prog_3_method_25_code 43 = .ok (.iload_n 3, 1) := by decide +kernel
theorem px_d273_44 : decode prog_3_method_25_code 44 = .ok (.aload_n 0, 1) := by decide +kernel
theorem px_d273_45 : decode prog_3_method_25_code 45 = .ok (.getfield 30, 3) := by decide +kernel
theorem px_d273_48 : decode prog_3_method_25_code 48 = .ok (.iload_n 1, 1) := by decide +kernel
theorem px_d273_49 : decode prog_3_method_25_code 49 = .ok (.aaload, 1) := by decide +kernel
theorem px_d273_50 : decode prog_3_method_25_code 50 = .ok (.arraylength, 1) := by decide +kernel
theorem px_d273_51 : decode prog_3_method_25_code 51 = .ok (.if_icmp .ne 21, 3) := by decide +kernel
theorem px_d273_54 : decode prog_3_method_25_code 54 = .ok (.aload_n 0, 1) := by decide +kernel
theorem px_d273_55 : decode prog_3_method_25_code 55 = .ok (.getfield 30, 3) := by decide +kernel
theorem px_d273_58 : decode prog_3_method_25_code 58 = .ok (.iload_n 1, 1) := by decide +kernel
theorem px_d273_59 : decode prog_3_method_25_code 59 = .ok (.aload_n 0, 1) := by decide +kernel
theorem px_d273_60 : decode prog_3_method_25_code 60 = .ok (.getfield 30, 3) := by decide +kernel
theorem px_d273_63 : decode prog_3_method_25_code 63 = .ok (.iload_n 1, 1) := by decide +kernel
theorem px_d273_64 : decode prog_3_method_25_code 64 = .ok (.aaload, 1) := by decide +kernel
theorem px_d273_65 : decode prog_3_method_25_code 65 = .ok (.iconst 4, 1) := by decide +kernel
theorem px_d273_66 : decode prog_3_method_25_code 66 = .ok (.iload_n 3, 1) := by decide +kernel
theorem px_d273_67 : decode prog_3_method_25_code 67 = .ok (.imul, 1) := by decide +kernel
theorem px_d273_68 : decode prog_3_method_25_code 68 = .ok (.invokestatic 179, 3) := by decide +kernel
theorem px_d273_71 : decode prog_3_method_25_code 71 = .ok (.aastore, 1) := by decide +kernel
theorem px_d273_72 : decode prog_3_method_25_code 72 = .ok (.aload_n 0, 1) := by decide +kernel
theorem px_d273_73 : decode prog_3_method_25_code 73 = .ok (.getfield 30, 3) := by decide +kernel
theorem px_d273_76 : decode prog_3_method_25_code 76 = .ok (.iload_n 1, 1) := by decide +kernel
theorem px_d273_77 : decode prog_3_method_25_code 77 = .ok (.aaload, 1) := by decide +kernel
theorem px_d273_78 : decode prog_3_method_25_code 78 = .ok (.iload_n 3, 1) := by decide +kernel
theorem px_d273_79 : decode prog_3_method_25_code 79 = .ok (.iload 5, 2) := by decide +kernel
theorem px_d273_81 : decode prog_3_method_25_code 81 = .ok (.iastore, 1) := by decide +kernel
theorem px_d273_82 : decode prog_3_method_25_code 82 = .ok (.iinc 3 1, 3) := by decide +kernel
theorem px_d273_85 : decode prog_3_method_25_code 85 = .ok (.iinc 4 1, 3) := by decide +kernel
theorem px_d273_88 : decode prog_3_method_25_code 88 = .ok (.goto (-76), 3) := by decide +kernel
theorem px_d273_91 : decode prog_3_method_25_code 91 = .ok (.aload_n 0, 1) := by decide +kernel
theorem px_d273_92 : decode prog_3_method_25_code 92 = .ok (.getfield 33, 3) := by decide +kernel
theorem px_d273_95 : decode prog_3_method_25_code 95 = .ok (.iload_n 1, 1) := by decide +kernel
theorem px_d273_96 : decode prog_3_method_25_code 96 = .ok (.iload_n 3, 1) := by decide +kernel
theorem px_d273_97 : decode prog_3_method_25_code 97 = .ok (.iastore, 1) := by decide +kernel
theorem px_d273_98 : decode prog_3_method_25_code 98 = .ok (.return_, 1) := by decide +kernel
theorem px_d274_0 : decode prog_3_method_26_code 0 = .ok (.aload_n 0, 1) := by decide +kernel
theorem px_d274_1 : decode prog_3_method_26_code 1 = .ok (.invokevirtual 67, 3) := by decide +kernel
theorem px_d274_4 : decode prog_3_method_26_code 4 = .ok (.iload_n 2, 1) := by decide +kernel
theorem px_d274_5 : decode prog_3_method_26_code 5 = .ok (.ixor, 1) := by decide +kernel
theorem px_d274_6 : decode prog_3_method_26_code 6 = .ok (.istore_n 3, 1) := by decide +kernel
theorem px_d274_7 : decode prog_3_method_26_code 7 = .ok (.iload_n 1, 1) := by decide +kernel
theorem px_d274_8 : decode prog_3_method_26_code 8 = .ok (.tableswitch 78 0 2 #[28, 43, 49], 28) := by decide +kernel
theorem px_d274_36 : decode prog_3_method_26_code 36 = .ok (.aload_n 0, 1) := by decide +kernel
theorem px_d274_37 : decode prog_3_method_26_code 37 = .ok (.getfield 36, 3) := by decide +kernel
theorem px_d274_40 : decode prog_3_method_26_code 40 = .ok (.iload_n 2, 1) := by decide +kernel
theorem px_d274_41 : decode prog_3_method_26_code 41 = .ok (.baload, 1) := by decide +kernel
theorem px_d274_42 : decode prog_3_method_26_code 42 = .ok (.ifCond .eq 7, 3) := by decide +kernel
theorem px_d274_45 : decode prog_3_method_26_code 45 = .ok (.iconst 1, 1) := by decide +kernel
theorem px_d274_46 : decode prog_3_method_26_code 46 = .ok (.goto 4, 3) := by decide +kernel
theorem px_d274_49 : decode prog_3_method_26_code 49 = .ok (.iconst 0, 1) := by decide +kernel
theorem px_d274_50 : decode prog_3_method_26_code 50 = .ok (.ireturn, 1) := by decide +kernel
theorem px_d274_51 : decode prog_3_method_26_code 51 = .ok (.aload_n 0, 1) := by decide +kernel
theorem px_d274_52 : decode prog_3_method_26_code 52 = .ok (.iload_n 2, 1) := by decide +kernel
theorem px_d274_53 : decode prog_3_method_26_code 53 = .ok (.invokevirtual 183, 3) := by decide +kernel
theorem px_d274_56 : decode prog_3_method_26_code 56 = .ok (.ireturn, 1) := by decide +kernel
theorem px_d274_57 : decode prog_3_method_26_code 57 = .ok (.aload_n 0, 1) := by decide +kernel
theorem px_d274_58 : decode prog_3_method_26_code 58 = .ok (.getfield 40, 3) := by decide +kernel
theorem px_d274_61 : decode prog_3_method_26_code 61 = .ok (.iload_n 3, 1) := by decide +kernel
theorem px_d274_62 : decode prog_3_method_26_code 62 = .ok (.baload, 1) := by decide +kernel
theorem px_d274_63 : decode prog_3_method_26_code 63 = .ok (.aload_n 0, 1) := by decide +kernel
theorem px_d274_64 : decode prog_3_method_26_code 64 = .ok (.getfield 77, 3) := by decide +kernel
theorem px_d274_67 : decode prog_3_method_26_code 67 = .ok (.iconst 1, 1) := by decide +kernel
theorem px_d274_68 : decode prog_3_method_26_code 68 = .ok (.isub, 1) := by decide +kernel
theorem px_d274_69 : decode prog_3_method_26_code 69 = .ok (.if_icmp .ne 15, 3) := by decide +kernel
theorem px_d274_72 : decode prog_3_method_26_code 72 = .ok (.aload_n 0, 1) := by decide +kernel
theorem px_d274_73 : decode prog_3_method_26_code 73 = .ok (.iload_n 3, 1) := by decide +kernel
theorem px_d274_74 : decode prog_3_method_26_code 74 = .ok (.invokevirtual 187, 3) := by decide +kernel
theorem px_d274_77 : decode prog_3_method_26_code 77 = .ok (.ifCond .eq 7, 3) := by decide +kernel
theorem px_d274_80 : decode prog_3_method_26_code 80 = .ok (.iconst 1, 1) := by decide +kernel
theorem px_d274_81 : decode prog_3_method_26_code 81 = .ok (.goto 4, 3) := by decide +kernel
theorem px_d274_84 : decode prog_3_method_26_code 84 = .ok (.iconst 0, 1) := by decide +kernel
theorem px_d274_85 : decode prog_3_method_26_code 85 = .ok (.ireturn, 1) := by decide +kernel
theorem px_d274_86 : decode prog_3_method_26_code 86 = .ok (.aload_n 0, 1) := by decide +kernel
theorem px_d274_87 : decode prog_3_method_26_code 87 = .ok (.iload_n 2, 1) := by decide +kernel
theorem px_d274_88 : decode prog_3_method_26_code 88 = .ok (.invokevirtual 187, 3) := by decide +kernel
theorem px_d274_91 : decode prog_3_method_26_code 91 = .ok (.ireturn, 1) := by decide +kernel
theorem px_d275_0 : decode prog_3_method_27_code 0 = .ok (.iload_n 1, 1) := by decide +kernel
theorem px_d275_1 : decode prog_3_method_27_code 1 = .ok (.invokestatic 71, 3) := by decide +kernel
theorem px_d275_4 : decode prog_3_method_27_code 4 = .ok (.iconst 1, 1) := by decide +kernel
theorem px_d275_5 : decode prog_3_method_27_code 5 = .ok (.isub, 1) := by decide +kernel
theorem px_d275_6 : decode prog_3_method_27_code 6 = .ok (.istore_n 2, 1) := by decide +kernel
theorem px_d275_7 : decode prog_3_method_27_code 7 = .ok (.aload_n 0, 1) := by decide +kernel
theorem px_d275_8 : decode prog_3_method_27_code 8 = .ok (.getfield 40, 3) := by decide +kernel
theorem px_d275_11 : decode prog_3_method_27_code 11 = .ok (.iload_n 1, 1) := by decide +kernel
theorem px_d275_12 : decode prog_3_method_27_code 12 = .ok (.baload, 1) := by decide +kernel
theorem px_d275_13 : decode prog_3_method_27_code 13 = .ok (.iload_n 2, 1) := by decide +kernel
theorem px_d275_14 : decode prog_3_method_27_code 14 = .ok (.if_icmp .ne 7, 3) := by decide +kernel
theorem px_d275_17 : decode prog_3_method_27_code 17 = .ok (.iconst 1, 1) := by decide +kernel
theorem px_d275_18 : decode prog_3_method_27_code 18 = .ok (.goto 4, 3) := by decide +kernel
theorem px_d275_21 : decode prog_3_method_27_code 21 = .ok (.iconst 0, 1) := by decide +kernel
theorem px_d275_22 : decode prog_3_method_27_code 22 = .ok (.istore_n 3, 1) := by decide +kernel
theorem px_d275_23 : decode prog_3_method_27_code 23 = .ok (.iconst 0, 1) := by decide +kernel
theorem px_d275_24 : decode prog_3_method_27_code 24 = .ok (.istore 4, 2) := by decide +kernel
theorem px_d275_26 : decode prog_3_method_27_code 26 = .ok (.iload 4, 2) := by decide +kernel
theorem px_d275_28 : decode prog_3_method_27_code 28 = .ok (.aload_n 0, 1) := by decide +kernel
theorem px_d275_29 : decode prog_3_method_27_code 29 = .ok (.getfield 66, 3) := by decide +kernel
theorem px_d275_32 : decode prog_3_method_27_code 32 = .ok (.if_icmp .ge 43, 3) := by decide +kernel
theorem px_d275_35 : decode prog_3_method_27_code 35 = .ok (.iload_n 3, 1) := by decide +kernel
theorem px_d275_36 : decode prog_3_method_27_code 36 = .ok (.ifCond .eq 39, 3) := by decide +kernel
theorem px_d275_39 : decode prog_3_method_27_code 39 = .ok (.iload_n 1, 1) := by decide +kernel
theorem px_d275_40 : decode prog_3_method_27_code 40 = .ok (.iload 4, 2) := by decide +kernel
theorem px_d275_42 : decode prog_3_method_27_code 42 = .ok (.ishr, 1) := by decide +kernel
theorem px_d275_43 : decode prog_3_method_27_code 43 = .ok (.iconst 1, 1) := by decide +kernel
theorem px_d275_44 : decode prog_3_method_27_code 44 = .ok (.iand, 1) := by decide +kernel
theorem px_d275_45 : decode prog_3_method_27_code 45 = .ok (.ifCond .eq 18, 3) := by decide +kernel
theorem px_d275_48 : decode prog_3_method_27_code 48 = .ok (.aload_n 0, 1) := by decide +kernel
theorem px_d275_49 : decode prog_3_method_27_code 49 = .ok (.getfield 40, 3) := by decide +kernel
theorem px_d275_52 : decode prog_3_method_27_code 52 = .ok (.iload_n 1, 1) := by decide +kernel
theorem px_d275_53 : decode prog_3_method_27_code 53 = .ok (.iconst 1, 1) := by decide +kernel
theorem px_d275_54 : decode prog_3_method_27_code 54 = .ok (.iload 4, 2) := by decide +kernel
theorem px_d275_56 : decode prog_3_method_27_code 56 = .ok (.ishl, 1) := by decide +kernel
theorem px_d275_57 : decode prog_3_method_27_code 57 = .ok (.ixor, 1) := by decide +kernel
theorem px_d275_58 : decode prog_3_method_27_code 58 = .ok (.baload, 1) := by decide +kernel
theorem px_d275_59 : decode prog_3_method_27_code 59 = .ok (.iload_n 2, 1) := by decide +kernel
theorem px_d275_60 : decode prog_3_method_27_code 60 = .ok (.if_icmp .ne 7, 3) := by decide +kernel
theorem px_d275_63 : decode prog_3_method_27_code 63 = .ok (.iconst 1, 1) := by decide +kernel
theorem px_d275_64 : decode prog_3_method_27_code 64 = .ok (.goto 4, 3) := by decide +kernel
theorem px_d275_67 : decode prog_3_method_27_code 67 = .ok (.iconst 0, 1) := by decide +kernel
theorem px_d275_68 : decode prog_3_method_27_code 68 = .ok (.istore_n 3, 1) := by decide +kernel
theorem px_d275_69 : decode prog_3_method_27_code 69 = .ok (.iinc 4 1, 3) := by decide +kernel
theorem px_d275_72 : decode prog_3_method_27_code 72 = .ok (.goto (-46), 3) := by decide +kernel
theorem px_d275_75 : decode prog_3_method_27_code 75 = .ok (.iload_n 3, 1) := by decide +kernel
theorem px_d275_76 : decode prog_3_method_27_code 76 = .ok (.ireturn, 1) := by decide +kernel
theorem px_d276_0 : decode prog_3_method_28_code 0 = .ok (.iconst 1, 1) := by decide +kernel
theorem px_d276_1 : decode prog_3_method_28_code 1 = .ok (.istore_n 2, 1) := by decide +kernel
theorem px_d276_2 : decode prog_3_method_28_code 2 = .ok (.iconst 0, 1) := by decide +kernel
theorem px_d276_3 : decode prog_3_method_28_code 3 = .ok (.istore_n 3, 1) := by decide +kernel
theorem px_d276_4 : decode prog_3_method_28_code 4 = .ok (.iload_n 3, 1) := by decide +kernel
theorem px_d276_5 : decode prog_3_method_28_code 5 = .ok (.aload_n 0, 1) := by decide +kernel
theorem px_d276_6 : decode prog_3_method_28_code 6 = .ok (.getfield 66, 3) := by decide +kernel
theorem px_d276_9 : decode prog_3_method_28_code 9 = .ok (.if_icmp .ge 46, 3) := by decide +kernel
theorem px_d276_12 : decode prog_3_method_28_code 12 = .ok (.iload_n 2, 1) := by decide +kernel
theorem px_d276_13 : decode prog_3_method_28_code 13 = .ok (.ifCond .eq 42, 3) := by decide +kernel
theorem px_d276_16 : decode prog_3_method_28_code 16 = .ok (.iload_n 1, 1) := by decide +kernel
theorem px_d276_17 : decode prog_3_method_28_code 17 = .ok (.iload_n 3, 1) := by decide +kernel
theorem px_d276_18 : decode prog_3_method_28_code 18 = .ok (.ishr, 1) := by decide +kernel
theorem px_d276_19 : decode prog_3_method_28_code 19 = .ok (.iconst 1, 1) := by decide +kernel
theorem px_d276_20 : decode prog_3_method_28_code 20 = .ok (.iand, 1) := by decide +kernel
theorem px_d276_21 : decode prog_3_method_28_code 21 = .ok (.ifCond .ne 22, 3) := by decide +kernel
theorem px_d276_24 : decode prog_3_method_28_code 24 = .ok (.aload_n 0, 1) := by decide +kernel
theorem px_d276_25 : decode prog_3_method_28_code 25 = .ok (.getfield 40, 3) := by decide +kernel
theorem px_d276_28 : decode prog_3_method_28_code 28 = .ok (.iload_n 1, 1) := by decide +kernel
theorem px_d276_29 : decode prog_3_method_28_code 29 = .ok (.iconst 1, 1) := by decide +kernel
theorem px_d276_30 : decode prog_3_method_28_code 30 = .ok (.iload_n 3, 1) := by decide +kernel
theorem px_d276_31 : decode prog_3_method_28_code 31 = .ok (.ishl, 1) := by decide +kernel
theorem px_d276_32 : decode prog_3_method_28_code 32 = .ok (.ior, 1) := by decide +kernel
theorem px_d276_33 : decode prog_3_method_28_code 33 = .ok (.baload, 1) := by decide +kernel
theorem px_d276_34 : decode prog_3_method_28_code 34 = .ok (.aload_n 0, 1) := by decide +kernel
theorem px_d276_35 : decode prog_3_method_28_code 35 = .ok (.getfield 40, 3) := by decide +kernel
theorem px_d276_38 : decode prog_3_method_28_code 38 = .ok (.iload_n 1, 1) := by decide +kernel
theorem px_d276_39 : decode prog_3_method_28_code 39 = .ok (.baload, 1) := by decide +kernel
theorem px_d276_40 : decode prog_3_method_28_code 40 = .ok (.if_icmp .le 7, 3) := by decide +kernel
theorem px_d276_43 : decode prog_3_method_28_code 43 = .ok (.iconst 1, 1) := by decide +kernel
theorem px_d276_44 : decode prog_3_method_28_code 44 = .ok (.goto 4, 3) := by decide +kernel
theorem px_d276_47 : decode prog_3_method_28_code 47 = .ok (.iconst 0, 1) := by decide +kernel
theorem px_d276_48 : decode prog_3_method_28_code 48 = .ok (.istore_n 2, 1) := by decide +kernel
theorem px_d276_49 : decode prog_3_method_28_code 49 = .ok (.iinc 3 1, 3) := by decide +kernel
theorem px_d276_52 : decode prog_3_method_28_code 52 = .ok (.goto (-48), 3) := by decide +kernel
theorem px_d276_55 : decode prog_3_method_28_code 55 = .ok (.iload_n 2, 1) := by decide +kernel
theorem px_d276_56 : decode prog_3_method_28_code 56 = .ok (.ireturn, 1) := by decide +kernel
theorem px_d277_0 : decode prog_7_method_8_code 0 = .ok (.aload_n 0, 1) := by decide +kernel
theorem px_d277_1 : decode prog_7_method_8_code 1 = .ok (.bipush 123, 2) := by decide +kernel
theorem px_d277_3 : decode prog_7_method_8_code 3 = .ok (.invokevirtual 42, 3) := by decide +kernel
theorem px_d277_6 : decode prog_7_method_8_code 6 = .ok (.iconst 1, 1) := by decide +kernel
theorem px_d277_7 : decode prog_7_method_8_code 7 = .ok (.istore_n 2, 1) := by decide +kernel
theorem px_d277_8 : decode prog_7_method_8_code 8 = .ok (.iconst 0, 1) := by decide +kernel
theorem px_d277_9 : decode prog_7_method_8_code 9 = .ok (.istore_n 3, 1) := by decide +kernel
theorem px_d277_10 : decode prog_7_method_8_code 10 = .ok (.iload_n 3, 1) := by decide +kernel
theorem px_d277_11 : decode prog_7_method_8_code 11 = .ok (.bipush 12, 2) := by decide +kernel
theorem px_d277_13 : decode prog_7_method_8_code 13 = .ok (.if_icmp .ge 40, 3) := by decide +kernel
theorem px_d277_16 : decode prog_7_method_8_code 16 = .ok (.iload_n 1, 1) := by decide +kernel
theorem px_d277_17 : decode prog_7_method_8_code 17 = .ok (.iload_n 3, 1) := by decide +kernel
theorem px_d277_18 : decode prog_7_method_8_code 18 = .ok (.ishr, 1) := by decide +kernel
theorem px_d277_19 : decode prog_7_method_8_code 19 = .ok (.iconst 1, 1) := by decide +kernel
theorem px_d277_20 : decode prog_7_method_8_code 20 = .ok (.iand, 1) := by decide +kernel
theorem px_d277_21 : decode prog_7_method_8_code 21 = .ok (.ifCond .eq 26, 3) := by decide +kernel
theorem px_d277_24 : decode prog_7_method_8_code 24 = .ok (.aload_n 0, 1) := by decide +kernel
theorem px_d277_25 : decode prog_7_method_8_code 25 = .ok (.iload_n 2, 1) := by decide +kernel
theorem px_d277_26 : decode prog_7_method_8_code 26 = .ok (.ifCond .eq 8, 3) := by decide +kernel
theorem px_d277_29 : decode prog_7_method_8_code 29 = .ok (.ldc 59, 2) := by decide +kernel
theorem px_d277_31 : decode prog_7_method_8_code 31 = .ok (.goto 5, 3) := by decide +kernel
theorem px_d277_34 : decode prog_7_method_8_code 34 = .ok (.ldc 61, 2) := by decide +kernel
theorem px_d277_36 : decode prog_7_method_8_code 36 = .ok (.invokevirtual 63, 3) := by decide +kernel
theorem px_d277_39 : decode prog_7_method_8_code 39 = .ok (.aload_n 0, 1) := by decide +kernel
theorem px_d277_40 : decode prog_7_method_8_code 40 = .ok (.iload_n 3, 1) := by decide +kernel
theorem px_d277_41 : decode prog_7_method_8_code 41 = .ok (.i2l, 1) := by decide +kernel
theorem px_d277_42 : decode prog_7_method_8_code 42 = .ok (.invokevirtual 67, 3) := by decide +kernel
theorem px_d277_45 : decode prog_7_method_8_code 45 = .ok (.iconst 0, 1) := by decide +kernel
theorem px_d277_46 : decode prog_7_method_8_code 46 = .ok (.istore_n 2, 1) := by decide +kernel
theorem px_d277_47 : decode prog_7_method_8_code 47 = .ok (.iinc 3 1, 3) := by decide +kernel
theorem px_d277_50 : decode prog_7_method_8_code 50 = .ok (.goto (-40), 3) := by decide +kernel
theorem px_d277_53 : decode prog_7_method_8_code 53 = .ok (.aload_n 0, 1) := by decide +kernel
theorem px_d277_54 : decode prog_7_method_8_code 54 = .ok (.ldc 71, 2) := by decide +kernel
theorem px_d277_56 : decode prog_7_method_8_code 56 = .ok (.invokevirtual 63, 3) := by decide +kernel
theorem px_d277_59 : decode prog_7_method_8_code 59 = .ok (.return_, 1) := by decide +kernel
theorem px_d278_0 : decode prog_7_method_4_code 0 = .ok (.iconst 0, 1) := by decide +kernel
theorem px_d278_1 : decode prog_7_method_4_code 1 = .ok (.istore_n 2, 1) := by decide +kernel
theorem px_d278_2 : decode prog_7_method_4_code 2 = .ok (.iload_n 2, 1) := by decide +kernel
theorem px_d278_3 : decode prog_7_method_4_code 3 = .ok (.aload_n 1, 1) := by decide +kernel
theorem px_d278_4 : decode prog_7_method_4_code 4 = .ok (.invokevirtual 33, 3) := by decide +kernel
theorem px_d278_7 : decode prog_7_method_4_code 7 = .ok (.if_icmp .ge 18, 3) := by decide +kernel
theorem px_d278_10 : decode prog_7_method_4_code 10 = .ok (.aload_n 0, 1) := by decide +kernel
theorem px_d278_11 : decode prog_7_method_4_code 11 = .ok (.aload_n 1, 1) := by decide +kernel
theorem px_d278_12 : decode prog_7_method_4_code 12 = .ok (.iload_n 2, 1) := by decide +kernel
theorem px_d278_13 : decode prog_7_method_4_code 13 = .ok (.invokevirtual 38, 3) := by decide +kernel
theorem px_d278_16 : decode prog_7_method_4_code 16 = .ok (.invokevirtual 42, 3) := by decide +kernel
theorem px_d278_19 : decode prog_7_method_4_code 19 = .ok (.iinc 2 1, 3) := by decide +kernel
theorem px_d278_22 : decode prog_7_method_4_code 22 = .ok (.goto (-20), 3) := by decide +kernel
theorem px_d278_25 : decode prog_7_method_4_code 25 = .ok (.return_, 1) := by decide +kernel
theorem px_d280_0 : decode prog_3_method_11_code 0 = .ok (.iload_n 1, 1) := by decide +kernel
theorem px_d280_1 : decode prog_3_method_11_code 1 = .ok (.ifCond .lt 28, 3) := by decide +kernel
theorem px_d280_4 : decode prog_3_method_11_code 4 = .ok (.iload_n 1, 1) := by decide +kernel
theorem px_d280_5 : decode prog_3_method_11_code 5 = .ok (.aload_n 0, 1) := by decide +kernel
theorem px_d280_6 : decode prog_3_method_11_code 6 = .ok (.getfield 77, 3) := by decide +kernel
theorem px_d280_9 : decode prog_3_method_11_code 9 = .ok (.if_icmp .gt 20, 3) := by decide +kernel
theorem px_d280_12 : decode prog_3_method_11_code 12 = .ok (.iload_n 2, 1) := by decide +kernel
theorem px_d280_13 : decode prog_3_method_11_code 13 = .ok (.ifCond .lt 16, 3) := by decide +kernel
theorem px_d280_16 : decode prog_3_method_11_code 16 = .ok (.iload_n 2, 1) := by decide +kernel
theorem px_d280_17 : decode prog_3_method_11_code 17 = .ok (.aload_n 0, 1) := by decide +kernel
theorem px_d280_18 : decode prog_3_method_11_code 18 = .ok (.getfield 66, 3) := by decide +kernel
theorem px_d280_21 : decode prog_3_method_11_code 21 = .ok (.aload_n 0, 1) := by decide +kernel
theorem px_d280_22 : decode prog_3_method_11_code 22 = .ok (.getfield 77, 3) := by decide +kernel
theorem px_d280_25 : decode prog_3_method_11_code 25 = .ok (.isub, 1) := by decide +kernel
theorem px_d280_26 : decode prog_3_method_11_code 26 = .ok (.if_icmp .le 5, 3) := by decide +kernel
theorem px_d280_29 : decode prog_3_method_11_code 29 = .ok (.lconst 0, 1) := by decide +kernel
theorem px_d280_30 : decode prog_3_method_11_code 30 = .ok (.lreturn, 1) := by decide +kernel
theorem px_d280_31 : decode prog_3_method_11_code 31 = .ok (.aload_n 0, 1) := by decide +kernel
theorem px_d280_32 : decode prog_3_method_11_code 32 = .ok (.getfield 117, 3) := by decide +kernel
theorem px_d280_35 : decode prog_3_method_11_code 35 = .ok (.ifCond .ne 7, 3) := by decide +kernel
theorem px_d280_38 : decode prog_3_method_11_code 38 = .ok (.aload_n 0, 1) := by decide +kernel
theorem px_d280_39 : decode prog_3_method_11_code 39 = .ok (.invokevirtual 120, 3) := by decide +kernel
theorem px_d280_42 : decode prog_3_method_11_code 42 = .ok (.aload_n 0, 1) := by decide +kernel
theorem px_d280_43 : decode prog_3_method_11_code 43 = .ok (.getfield 43, 3) := by decide +kernel
theorem px_d280_46 : decode prog_3_method_11_code 46 = .ok (.iload_n 1, 1) := by decide +kernel
theorem px_d280_47 : decode prog_3_method_11_code 47 = .ok (.bipush 13, 2) := by decide +kernel
theorem px_d280_49 : decode prog_3_method_11_code 49 = .ok (.imul, 1) := by decide +kernel
theorem px_d280_50 : decode prog_3_method_11_code 50 = .ok (.iload_n 2, 1) := by decide +kernel
theorem px_d280_51 : decode prog_3_method_11_code 51 = .ok (.iadd, 1) := by decide +kernel
theorem px_d280_52 : decode prog_3_method_11_code 52 = .ok (.laload, 1) := by decide +kernel
theorem px_d280_53 : decode prog_3_method_11_code 53 = .ok (.lreturn, 1) := by decide +kernel
theorem px_d281_0 : decode prog_3_method_29_code 0 = .ok (.aload_n 0, 1) := by decide +kernel
theorem px_d281_1 : decode prog_3_method_29_code 1 = .ok (.getfield 43, 3) := by decide +kernel
theorem px_d281_4 : decode prog_3_method_29_code 4 = .ok (.arraylength, 1) := by decide +kernel
theorem px_d281_5 : decode prog_3_method_29_code 5 = .ok (.ifCond .ne 12, 3) := by decide +kernel
theorem px_d281_8 : decode prog_3_method_29_code 8 = .ok (.aload_n 0, 1) := by decide +kernel
theorem px_d281_9 : decode prog_3_method_29_code 9 = .ok (.sipush 169, 3) := by decide +kernel
theorem px_d281_12 : decode prog_3_method_29_code 12 = .ok (.newarray .long, 2) := by decide +kernel
theorem px_d281_14 : decode prog_3_method_29_code 14 = .ok (.putfield 43, 3) := by decide +kernel
theorem px_d281_17 : decode prog_3_method_29_code 17 = .ok (.aload_n 0, 1) := by decide +kernel
theorem px_d281_18 : decode prog_3_method_29_code 18 = .ok (.getfield 43, 3) := by decide +kernel
theorem px_d281_21 : decode prog_3_method_29_code 21 = .ok (.lconst 0, 1) := by decide +kernel
theorem px_d281_22 : decode prog_3_method_29_code 22 = .ok (.invokestatic 190, 3) := by decide +kernel
theorem px_d281_25 : decode prog_3_method_29_code 25 = .ok (.iconst 0, 1) := by decide +kernel
theorem px_d281_26 : decode prog_3_method_29_code 26 = .ok (.istore_n 1, 1) := by decide +kernel
theorem px_d281_27 : decode prog_3_method_29_code 27 = .ok (.iload_n 1, 1) := by decide +kernel
theorem px_d281_28 : decode prog_3_method_29_code 28 = .ok (.aload_n 0, 1) := by decide +kernel
theorem px_d281_29 : decode prog_3_method_29_code 29 = .ok (.invokevirtual 67, 3) := by decide +kernel
theorem px_d281_32 : decode prog_3_method_29_code 32 = .ok (.if_icmp .gt 40, 3) := by decide +kernel
theorem px_d281_35 : decode prog_3_method_29_code 35 = .ok (.aload_n 0, 1) := by decide +kernel
theorem px_d281_36 : decode prog_3_method_29_code 36 = .ok (.iload_n 1, 1) := by decide +kernel
theorem px_d281_37 : decode prog_3_method_29_code 37 = .ok (.invokevirtual 110, 3) := by decide +kernel
theorem px_d281_40 : decode prog_3_method_29_code 40 = .ok (.istore_n 2, 1) := by decide +kernel
theorem px_d281_41 : decode prog_3_method_29_code 41 = .ok (.aload_n 0, 1) := by decide +kernel
theorem px_d281_42 : decode prog_3_method_29_code 42 = .ok (.getfield 43, 3) := by decide +kernel
theorem px_d281_45 : decode prog_3_method_29_code 45 = .ok (.aload_n 0, 1) := by decide +kernel
theorem px_d281_46 : decode prog_3_method_29_code 46 = .ok (.getfield 77, 3) := by decide +kernel
theorem px_d281_49 : decode prog_3_method_29_code 49 = .ok (.iload_n 2, 1) := by decide +kernel
theorem px_d281_50 : decode prog_3_method_29_code 50 = .ok (.isub, 1) := by decide +kernel
theorem px_d281_51 : decode prog_3_method_29_code 51 = .ok (.bipush 13, 2) := by decide +kernel
theorem px_d281_53 : decode prog_3_method_29_code 53 = .ok (.imul, 1) := by decide +kernel
theorem px_d281_54 : decode prog_3_method_29_code 54 = .ok (.iload_n 1, 1) := by decide +kernel
theorem px_d281_55 : decode prog_3_method_29_code 55 = .ok (.invokestatic 71, 3) := by decide +kernel
theorem px_d281_58 : decode prog_3_method_29_code 58 = .ok (.iadd, 1) := by decide +kernel
theorem px_d281_59 : decode prog_3_method_29_code 59 = .ok (.iload_n 2, 1) := by decide +kernel
theorem px_d281_60 : decode prog_3_method_29_code 60 = .ok (.isub, 1) := by decide +kernel
theorem px_d281_61 : decode prog_3_method_29_code 61 = .ok (.dup2, 1) := by decide +kernel
theorem px_d281_62 : decode prog_3_method_29_code 62 = .ok (.laload, 1) := by decide +kernel
theorem px_d281_63 : decode prog_3_method_29_code 63 = .ok (.lconst 1, 1) := by decide +kernel
theorem px_d281_64 : decode prog_3_method_29_code 64 = .ok (.ladd, 1) := by decide +kernel
theorem px_d281_65 : decode prog_3_method_29_code 65 = .ok (.lastore, 1) := by decide +kernel
theorem px_d281_66 : decode prog_3_method_29_code 66 = .ok (.iinc 1 1, 3) := by decide +kernel
theorem px_d281_69 : decode prog_3_method_29_code 69 = .ok (.goto (-42), 3) := by decide +kernel
theorem px_d281_72 : decode prog_3_method_29_code 72 = .ok (.iconst 0, 1) := by decide +kernel
theorem px_d281_73 : decode prog_3_method_29_code 73 = .ok (.istore_n 1, 1) := by decide +kernel
theorem px_d281_74 : decode prog_3_method_29_code 74 = .ok (.iload_n 1, 1) := by decide +kernel
theorem px_d281_75 : decode prog_3_method_29_code 75 = .ok (.aload_n 0, 1) := by decide +kernel
theorem px_d281_76 : decode prog_3_method_29_code 76 = .ok (.getfield 66, 3) := by decide +kernel
theorem px_d281_79 : decode prog_3_method_29_code 79 = .ok (.aload_n 0, 1) := by decide +kernel
theorem px_d281_80 : decode prog_3_method_29_code 80 = .ok (.getfield 77, 3) := by decide +kernel
theorem px_d281_83 : decode prog_3_method_29_code 83 = .ok (.isub, 1) := by decide +kernel
theorem px_d281_84 : decode prog_3_method_29_code 84 = .ok (.if_icmp .gt 20, 3) := by decide +kernel
theorem px_d281_87 : decode prog_3_method_29_code 87 = .ok (.aload_n 0, 1) := by decide +kernel
theorem px_d281_88 : decode prog_3_method_29_code 88 = .ok (.iload_n 1, 1) := by decide +kernel
theorem px_d281_89 : decode prog_3_method_29_code 89 = .ok (.bipush 13, 2) := by decide +kernel
theorem px_d281_91 : decode prog_3_method_29_code 91 = .ok (.aload_n 0, 1) := by decide +kernel
theorem px_d281_92 : decode prog_3_method_29_code 92 = .ok (.getfield 77, 3) := by decide +kernel
theorem px_d281_95 : decode prog_3_method_29_code 95 = .ok (.invokevirtual 193, 3) := by decide +kernel
theorem px_d281_98 : decode prog_3_method_29_code 98 = .ok (.iinc 1 1, 3) := by decide +kernel
theorem px_d281_101 : decode prog_3_method_29_code 101 = .ok (.goto (-27), 3) := by decide +kernel
theorem px_d281_104 : decode prog_3_method_29_code 104 = .ok (.iconst 0, 1) := by decide +kernel
theorem px_d281_105 : decode prog_3_method_29_code 105 = .ok (.istore_n 1, 1) := by decide +kernel
theorem px_d281_106 : decode prog_3_method_29_code 106 = .ok (.iload_n 1, 1) := by decide +kernel
theorem px_d281_107 : decode prog_3_method_29_code 107 = .ok (.aload_n 0, 1) := by decide +kernel
theorem px_d281_108 : decode prog_3_method_29_code 108 = .ok (.getfield 77, 3) := by decide +kernel
theorem px_d281_111 : decode prog_3_method_29_code 111 = .ok (.if_icmp .gt 27, 3) := by decide +kernel
theorem px_d281_114 : decode prog_3_method_29_code 114 = .ok (.aload_n 0, 1) := by decide +kernel
theorem px_d281_115 : decode prog_3_method_29_code 115 = .ok (.iload_n 1, 1) := by decide +kernel
theorem px_d281_116 : decode prog_3_method_29_code 116 = .ok (.bipush 13, 2) := by decide +kernel
theorem px_d281_118 : decode prog_3_method_29_code 118 = .ok (.imul, 1) := by decide +kernel
theorem px_d281_119 : decode prog_3_method_29_code 119 = .ok (.iconst 1, 1) := by decide +kernel
theorem px_d281_120 : decode prog_3_method_29_code 120 = .ok (.aload_n 0, 1) := by decide +kernel
theorem px_d281_121 : decode prog_3_method_29_code 121 = .ok (.getfield 66, 3) := by decide +kernel
theorem px_d281_124 : decode prog_3_method_29_code 124 = .ok (.aload_n 0, 1) := by decide +kernel
theorem px_d281_125 : decode prog_3_method_29_code 125 = .ok (.getfield 77, 3) := by decide +kernel
theorem px_d281_128 : decode prog_3_method_29_code 128 = .ok (.isub, 1) := by decide +kernel
theorem px_d281_129 : decode prog_3_method_29_code 129 = .ok (.invokevirtual 193, 3) := by decide +kernel
theorem px_d281_132 : decode prog_3_method_29_code 132 = .ok (.iinc 1 1, 3) := by decide +kernel
theorem px_d281_135 : decode prog_3_method_29_code 135 = .ok (.goto (-29), 3) := by decide +kernel
theorem px_d281_138 : decode prog_3_method_29_code 138 = .ok (.aload_n 0, 1) := by decide +kernel
theorem px_d281_139 : decode prog_3_method_29_code 139 = .ok (.iconst 1, 1) := by decide +kernel
theorem px_d281_140 : decode prog_3_method_29_code 140 = .ok (.putfield 117, 3) := by decide +kernel
theorem px_d281_143 : decode prog_3_method_29_code 143 = .ok (.return_, 1) := by decide +kernel
theorem px_d282_0 : decode prog_33_method_101_code 0 = .ok (.iconst 0, 1) := by decide +kernel
theorem px_d282_1 : decode prog_33_method_101_code 1 = .ok (.istore_n 3, 1) := by decide +kernel
theorem px_d282_2 : decode prog_33_method_101_code 2 = .ok (.aload_n 0, 1) := by decide +kernel
theorem px_d282_3 : decode prog_33_method_101_code 3 = .ok (.arraylength, 1) := by decide +kernel
theorem px_d282_4 : decode prog_33_method_101_code 4 = .ok (.istore 4, 2) := by decide +kernel
theorem px_d282_6 : decode prog_33_method_101_code 6 = .ok (.iload_n 3, 1) := by decide +kernel
theorem px_d282_7 : decode prog_33_method_101_code 7 = .ok (.iload 4, 2) := by decide +kernel
theorem px_d282_9 : decode prog_33_method_101_code 9 = .ok (.if_icmp .ge 13, 3) := by decide +kernel
theorem px_d282_12 : decode prog_33_method_101_code 12 = .ok (.aload_n 0, 1) := by decide +kernel
theorem px_d282_13 : decode prog_33_method_101_code 13 = .ok (.iload_n 3, 1) := by decide +kernel
theorem px_d282_14 : decode prog_33_method_101_code 14 = .ok (.lload_n 1, 1) := by decide +kernel
theorem px_d282_15 : decode prog_33_method_101_code 15 = .ok (.lastore, 1) := by decide +kernel
theorem px_d282_16 : decode prog_33_method_101_code 16 = .ok (.iinc 3 1, 3) := by decide +kernel
theorem px_d282_19 : decode prog_33_method_101_code 19 = .ok (.goto (-13), 3) := by decide +kernel
theorem px_d282_22 : decode prog_33_method_101_code 22 = .ok (.return_, 1) := by decide +kernel
theorem px_d283_0 : decode prog_3_method_30_code 0 = .ok (.iconst 0, 1) := by decide +kernel
theorem px_d283_1 : decode prog_3_method_30_code 1 = .ok (.istore 4, 2) := by decide +kernel
theorem px_d283_3 : decode prog_3_method_30_code 3 = .ok (.iload 4, 2) := by decide +kernel
theorem px_d283_5 : decode prog_3_method_30_code 5 = .ok (.iload_n 3, 1) := by decide +kernel
theorem px_d283_6 : decode prog_3_method_30_code 6 = .ok (.if_icmp .ge 54, 3) := by decide +kernel
theorem px_d283_9 : decode prog_3_method_30_code 9 = .ok (.iload_n 3, 1) := by decide +kernel
theorem px_d283_10 : decode prog_3_method_30_code 10 = .ok (.iconst 1, 1) := by decide +kernel
theorem px_d283_11 : decode prog_3_method_30_code 11 = .ok (.isub, 1) := by decide +kernel
theorem px_d283_12 : decode prog_3_method_30_code 12 = .ok (.istore 5, 2) := by decide +kernel
theorem px_d283_14 : decode prog_3_method_30_code 14 = .ok (.iload 5, 2) := by decide +kernel
theorem px_d283_16 : decode prog_3_method_30_code 16 = .ok (.iload 4, 2) := by decide +kernel
theorem px_d283_18 : decode prog_3_method_30_code 18 = .ok (.if_icmp .lt 36, 3) := by decide +kernel
theorem px_d283_21 : decode prog_3_method_30_code 21 = .ok (.aload_n 0, 1) := by decide +kernel
theorem px_d283_22 : decode prog_3_method_30_code 22 = .ok (.getfield 43, 3) := by decide +kernel
theorem px_d283_25 : decode prog_3_method_30_code 25 = .ok (.iload_n 1, 1) := by decide +kernel
theorem px_d283_26 : decode prog_3_method_30_code 26 = .ok (.iload 5, 2) := by decide +kernel
theorem px_d283_28 : decode prog_3_method_30_code 28 = .ok (.iload_n 2, 1) := by decide +kernel
theorem px_d283_29 : decode prog_3_method_30_code 29 = .ok (.imul, 1) := by decide +kernel
theorem px_d283_30 : decode prog_3_method_30_code 30 = .ok (.iadd, 1) := by decide +kernel
theorem px_d283_31 : decode prog_3_method_30_code 31 = .ok (.dup2, 1) := by decide +kernel
theorem px_d283_32 : decode prog_3_method_30_code 32 = .ok (.laload, 1) := by decide +kernel
theorem px_d283_33 : decode prog_3_method_30_code 33 = .ok (.aload_n 0, 1) := by decide +kernel
theorem px_d283_34 : decode prog_3_method_30_code 34 = .ok (.getfield 43, 3) := by decide +kernel
theorem px_d283_37 : decode prog_3_method_30_code 37 = .ok (.iload_n 1, 1) := by decide +kernel
theorem px_d283_38 : decode prog_3_method_30_code 38 = .ok (.iload 5, 2) := by decide +kernel
theorem px_d283_40 : decode prog_3_method_30_code 40 = .ok (.iconst 1, 1) := by decide +kernel
theorem px_d283_41 : decode prog_3_method_30_code 41 = .ok (.iadd, 1) := by decide +kernel
theorem px_d283_42 : decode prog_3_method_30_code 42 = .ok (.iload_n 2, 1) := by decide +kernel
theorem px_d283_43 : decode prog_3_method_30_code 43 = .ok (.imul, 1) := by decide +kernel
theorem px_d283_44 : decode prog_3_method_30_code 44 = .ok (.iadd, 1) := by decide +kernel
theorem px_d283_45 : decode prog_3_method_30_code 45 = .ok (.laload, 1) := by decide +kernel
theorem px_d283_46 : decode prog_3_method_30_code 46 = .ok (.lsub, 1) := by decide +kernel
theorem px_d283_47 : decode prog_3_method_30_code 47 = .ok (.lastore, 1) := by decide +kernel
theorem px_d283_48 : decode prog_3_method_30_code 48 = .ok (.iinc 5 (-1), 3) := by decide +kernel
theorem px_d283_51 : decode prog_3_method_30_code 51 = .ok (.goto (-37), 3) := by decide +kernel
theorem px_d283_54 : decode prog_3_method_30_code 54 = .ok (.iinc 4 1, 3) := by decide +kernel
theorem px_d283_57 : decode prog_3_method_30_code 57 = .ok (.goto (-54), 3) := by decide +kernel
theorem px_d283_60 : decode prog_3_method_30_code 60 = .ok (.return_, 1) := by decide +kernel
theorem px_d284_0 : decode prog_7_method_9_code 0 = .ok (.iload_n 3, 1) := by decide +kernel
theorem px_d284_1 : decode prog_7_method_9_code 1 = .ok (.ifCond .ne 12, 3) := by decide +kernel
theorem px_d284_4 : decode prog_7_method_9_code 4 = .ok (.iload 4, 2) := by decide +kernel
theorem px_d284_6 : decode prog_7_method_9_code 6 = .ok (.ifCond .ne 7, 3) := by decide +kernel
theorem px_d284_9 : decode prog_7_method_9_code 9 = .ok (.iconst 1, 1) := by decide +kernel
theorem px_d284_10 : decode prog_7_method_9_code 10 = .ok (.goto 4, 3) := by decide +kernel
theorem px_d284_13 : decode prog_7_method_9_code 13 = .ok (.iconst 0, 1) := by decide +kernel
theorem px_d284_14 : decode prog_7_method_9_code 14 = .ok (.istore 5, 2) := by decide +kernel
theorem px_d284_16 : decode prog_7_method_9_code 16 = .ok (.lload_n 1, 1) := by decide +kernel
theorem px_d284_17 : decode prog_7_method_9_code 17 = .ok (.lconst 1, 1) := by decide +kernel
theorem px_d284_18 : decode prog_7_method_9_code 18 = .ok (.lcmp, 1) := by decide +kernel
theorem px_d284_19 : decode prog_7_method_9_code 19 = .ok (.ifCond .ne 8, 3) := by decide +kernel
theorem px_d284_22 : decode prog_7_method_9_code 22 = .ok (.iload 5, 2) := by decide +kernel
theorem px_d284_24 : decode prog_7_method_9_code 24 = .ok (.ifCond .eq 24, 3) := by decide +kernel
theorem px_d284_27 : decode prog_7_method_9_code 27 = .ok (.aload_n 0, 1) := by decide +kernel
theorem px_d284_28 : decode prog_7_method_9_code 28 = .ok (.lload_n 1, 1) := by decide +kernel
theorem px_d284_29 : decode prog_7_method_9_code 29 = .ok (.invokevirtual 67, 3) := by decide +kernel
theorem px_d284_32 : decode prog_7_method_9_code 32 = .ok (.aload_n 0, 1) := by decide +kernel
theorem px_d284_33 : decode prog_7_method_9_code 33 = .ok (.iload 5, 2) := by decide +kernel
theorem px_d284_35 : decode prog_7_method_9_code 35 = .ok (.ifCond .eq 8, 3) := by decide +kernel
theorem px_d284_38 : decode prog_7_method_9_code 38 = .ok (.ldc 59, 2) := by decide +kernel
theorem px_d284_40 : decode prog_7_method_9_code 40 = .ok (.goto 5, 3) := by decide +kernel
theorem px_d284_43 : decode prog_7_method_9_code 43 = .ok (.ldc 61, 2) := by decide +kernel
theorem px_d284_45 : decode prog_7_method_9_code 45 = .ok (.invokevirtual 63, 3) := by decide +kernel
theorem px_d284_48 : decode prog_7_method_9_code 48 = .ok (.aload_n 0, 1) := by decide +kernel
theorem px_d284_49 : decode prog_7_method_9_code 49 = .ok (.bipush 120, 2) := by decide +kernel
theorem px_d284_51 : decode prog_7_method_9_code 51 = .ok (.iload_n 3, 1) := by decide +kernel
theorem px_d284_52 : decode prog_7_method_9_code 52 = .ok (.invokevirtual 73, 3) := by decide +kernel
theorem px_d284_55 : decode prog_7_method_9_code 55 = .ok (.aload_n 0, 1) := by decide +kernel
theorem px_d284_56 : decode prog_7_method_9_code 56 = .ok (.iload_n 3, 1) := by decide +kernel
theorem px_d284_57 : decode prog_7_method_9_code 57 = .ok (.ifCond .le 13, 3) := by decide +kernel
theorem px_d284_60 : decode prog_7_method_9_code 60 = .ok (.iload 4, 2) := by decide +kernel
theorem px_d284_62 : decode prog_7_method_9_code 62 = .ok (.ifCond .le 8, 3) := by decide +kernel
theorem px_d284_65 : decode prog_7_method_9_code 65 = .ok (.ldc 61, 2) := by decide +kernel
theorem px_d284_67 : decode prog_7_method_9_code 67 = .ok (.goto 5, 3) := by decide +kernel
theorem px_d284_70 : decode prog_7_method_9_code 70 = .ok (.ldc 59, 2) := by decide +kernel
theorem px_d284_72 : decode prog_7_method_9_code 72 = .ok (.invokevirtual 63, 3) := by decide +kernel
theorem px_d284_75 : decode prog_7_method_9_code 75 = .ok (.aload_n 0, 1) := by decide +kernel
theorem px_d284_76 : decode prog_7_method_9_code 76 = .ok (.bipush 121, 2) := by decide +kernel
theorem px_d284_78 : decode prog_7_method_9_code 78 = .ok (.iload 4, 2) := by decide +kernel
theorem px_d284_80 : decode prog_7_method_9_code 80 = .ok (.invokevirtual 73, 3) := by decide +kernel
theorem px_d284_83 : decode prog_7_method_9_code 83 = .ok (.return_, 1) := by decide +kernel
theorem px_d285_0 : decode prog_7_method_10_code 0 = .ok (.iload_n 2, 1) := by decide +kernel
theorem px_d285_1 : decode prog_7_method_10_code 1 = .ok (.ifCond .le 8, 3) := by decide +kernel
theorem px_d285_4 : decode prog_7_method_10_code 4 = .ok (.aload_n 0, 1) := by decide +kernel
theorem px_d285_5 : decode prog_7_method_10_code 5 = .ok (.iload_n 1, 1) := by decide +kernel
theorem px_d285_6 : decode prog_7_method_10_code 6 = .ok (.invokevirtual 42, 3) := by decide +kernel
theorem px_d285_9 : decode prog_7_method_10_code 9 = .ok (.iload_n 2, 1) := by decide +kernel
theorem px_d285_10 : decode prog_7_method_10_code 10 = .ok (.iconst 1, 1) := by decide +kernel
theorem px_d285_11 : decode prog_7_method_10_code 11 = .ok (.if_icmp .le 15, 3) := by decide +kernel
theorem px_d285_14 : decode prog_7_method_10_code 14 = .ok (.aload_n 0, 1) := by decide +kernel
theorem px_d285_15 : decode prog_7_method_10_code 15 = .ok (.bipush 94, 2) := by decide +kernel
theorem px_d285_17 : decode prog_7_method_10_code 17 = .ok (.invokevirtual 42, 3) := by decide +kernel
theorem px_d285_20 : decode prog_7_method_10_code 20 = .ok (.aload_n 0, 1) := by decide +kernel
theorem px_d285_21 : decode prog_7_method_10_code 21 = .ok (.iload_n 2, 1) := by decide +kernel
theorem px_d285_22 : decode prog_7_method_10_code 22 = .ok (.i2l, 1) := by decide +kernel
theorem px_d285_23 : decode prog_7_method_10_code 23 = .ok (.invokevirtual 67, 3) := by decide +kernel
theorem px_d285_26 : decode prog_7_method_10_code 26 = .ok (.return_, 1) := by decide +kernel
theorem px_d286_0 : decode prog_3_method_14_code 0 = .ok (.iconst 0, 1) := by decide +kernel
theorem px_d286_1 : decode prog_3_method_14_code 1 = .ok (.istore_n 1, 1) := by decide +kernel
theorem px_d286_2 : decode prog_3_method_14_code 2 = .ok (.iconst 0, 1) := by decide +kernel
theorem px_d286_3 : decode prog_3_method_14_code 3 = .ok (.istore_n 2, 1) := by decide +kernel
theorem px_d286_4 : decode prog_3_method_14_code 4 = .ok (.iconst 0, 1) := by decide +kernel
theorem px_d286_5 : decode prog_3_method_14_code 5 = .ok (.istore_n 3, 1) := by decide +kernel
theorem px_d286_6 : decode prog_3_method_14_code 6 = .ok (.iload_n 3, 1) := by decide +kernel
theorem px_d286_7 : decode prog_3_method_14_code 7 = .ok (.aload_n 0, 1) := by decide +kernel
theorem px_d286_8 : decode prog_3_method_14_code 8 = .ok (.getfield 66, 3) := by decide +kernel
theorem px_d286_11 : decode prog_3_method_14_code 11 = .ok (.if_icmp .ge 109, 3) := by decide +kernel
theorem px_d286_14 : decode prog_3_method_14_code 14 = .ok (.iconst (-1), 1) := by decide +kernel
theorem px_d286_15 : decode prog_3_method_14_code 15 = .ok (.istore 4, 2) := by decide +kernel
theorem px_d286_17 : decode prog_3_method_14_code 17 = .ok (.iconst 0, 1) := by decide +kernel
theorem px_d286_18 : decode prog_3_method_14_code 18 = .ok (.istore 5, 2) := by decide +kernel
theorem px_d286_20 : decode prog_3_method_14_code 20 = .ok (.iload 5, 2) := by decide +kernel
theorem px_d286_22 : decode prog_3_method_14_code 22 = .ok (.aload_n 0, 1) := by decide +kernel
theorem px_d286_23 : decode prog_3_method_14_code 23 = .ok (.getfield 66, 3) := by decide +kernel
theorem px_d286_26 : decode prog_3_method_14_code 26 = .ok (.if_icmp .ge 57, 3) := by decide +kernel
theorem px_d286_29 : decode prog_3_method_14_code 29 = .ok (.iload_n 2, 1) := by decide +kernel
theorem px_d286_30 : decode prog_3_method_14_code 30 = .ok (.iload 5, 2) := by decide +kernel
theorem px_d286_32 : decode prog_3_method_14_code 32 = .ok (.ishr, 1) := by decide +kernel
theorem px_d286_33 : decode prog_3_method_14_code 33 = .ok (.iconst 1, 1) := by decide +kernel
theorem px_d286_34 : decode prog_3_method_14_code 34 = .ok (.iand, 1) := by decide +kernel
theorem px_d286_35 : decode prog_3_method_14_code 35 = .ok (.ifCond .ne 7, 3) := by decide +kernel
theorem px_d286_38 : decode prog_3_method_14_code 38 = .ok (.iconst 1, 1) := by decide +kernel
theorem px_d286_39 : decode prog_3_method_14_code 39 = .ok (.goto 4, 3) := by decide +kernel
theorem px_d286_42 : decode prog_3_method_14_code 42 = .ok (.iconst 0, 1) := by decide +kernel
theorem px_d286_43 : decode prog_3_method_14_code 43 = .ok (.istore 6, 2) := by decide +kernel
theorem px_d286_45 : decode prog_3_method_14_code 45 = .ok (.iload 6, 2) := by decide +kernel
theorem px_d286_47 : decode prog_3_method_14_code 47 = .ok (.ifCond .eq 30, 3) := by decide +kernel
theorem px_d286_50 : decode prog_3_method_14_code 50 = .ok (.iload 4, 2) := by decide +kernel
theorem px_d286_52 : decode prog_3_method_14_code 52 = .ok (.iconst (-1), 1) := by decide +kernel
theorem px_d286_53 : decode prog_3_method_14_code 53 = .ok (.if_icmp .eq 20, 3) := by decide +kernel
theorem px_d286_56 : decode prog_3_method_14_code 56 = .ok (.aload_n 0, 1) := by decide +kernel
theorem px_d286_57 : decode prog_3_method_14_code 57 = .ok (.getfield 25, 3) := by decide +kernel
theorem px_d286_60 : decode prog_3_method_14_code 60 = .ok (.iload 5, 2) := by decide +kernel
theorem px_d286_62 : decode prog_3_method_14_code 62 = .ok (.iaload, 1) := by decide +kernel
theorem px_d286_63 : decode prog_3_method_14_code 63 = .ok (.aload_n 0, 1) := by decide +kernel
theorem px_d286_64 : decode prog_3_method_14_code 64 = .ok (.getfield 25, 3) := by decide +kernel
theorem px_d286_67 : decode prog_3_method_14_code 67 = .ok (.iload 4, 2) := by decide +kernel
theorem px_d286_69 : decode prog_3_method_14_code 69 = .ok (.iaload, 1) := by decide +kernel
theorem px_d286_70 : decode prog_3_method_14_code 70 = .ok (.if_icmp .le 7, 3) := by decide +kernel
theorem px_d286_73 : decode prog_3_method_14_code 73 = .ok (.iload 5, 2) := by decide +kernel
theorem px_d286_75 : decode prog_3_method_14_code 75 = .ok (.istore 4, 2) := by decide +kernel
theorem px_d286_77 : decode prog_3_method_14_code 77 = .ok (.iinc 5 1, 3) := by decide +kernel
theorem px_d286_80 : decode prog_3_method_14_code 80 = .ok (.goto (-60), 3) := by decide +kernel
theorem px_d286_83 : decode prog_3_method_14_code 83 = .ok (.iload 4, 2) := by decide +kernel
theorem px_d286_85 : decode prog_3_method_14_code 85 = .ok (.iconst (-1), 1) := by decide +kernel
theorem px_d286_86 : decode prog_3_method_14_code 86 = .ok (.if_icmp .ne 7, 3) := by decide +kernel
theorem px_d286_89 : decode prog_3_method_14_code 89 = .ok (.iconst 0, 1) := by decide +kernel
theorem px_d286_90 : decode prog_3_method_14_code 90 = .ok (.goto 7, 3) := by decide +kernel
theorem px_d286_93 : decode prog_3_method_14_code 93 = .ok (.iconst 1, 1) := by decide +kernel
theorem px_d286_94 : decode prog_3_method_14_code 94 = .ok (.iload 4, 2) := by decide +kernel
theorem px_d286_96 : decode prog_3_method_14_code 96 = .ok (.ishl, 1) := by decide +kernel
theorem px_d286_97 : decode prog_3_method_14_code 97 = .ok (.istore 5, 2) := by decide +kernel
theorem px_d286_99 : decode prog_3_method_14_code 99 = .ok (.iload_n 2, 1) := by decide +kernel
theorem px_d286_100 : decode prog_3_method_14_code 100 = .ok (.iload 5, 2) := by decide +kernel
