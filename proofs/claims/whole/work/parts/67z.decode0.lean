theorem px_d248_0 : decode prog_6_method_1_code 0 = .ok (.aload_n 0, 1) := by decide +kernel
theorem px_d248_1 : decode prog_6_method_1_code 1 = .ok (.invokespecial 1, 3) := by decide +kernel
theorem px_d248_4 : decode prog_6_method_1_code 4 = .ok (.aload_n 0, 1) := by decide +kernel
theorem px_d248_5 : decode prog_6_method_1_code 5 = .ok (.aload_n 1, 1) := by decide +kernel
theorem px_d248_6 : decode prog_6_method_1_code 6 = .ok (.putfield 7, 3) := by decide +kernel
theorem px_d248_9 : decode prog_6_method_1_code 9 = .ok (.aload_n 0, 1) := by decide +kernel
theorem px_d248_10 : decode prog_6_method_1_code 10 = .ok (.iload_n 2, 1) := by decide +kernel
theorem px_d248_11 : decode prog_6_method_1_code 11 = .ok (.putfield 13, 3) := by decide +kernel
theorem px_d248_14 : decode prog_6_method_1_code 14 = .ok (.aload_n 0, 1) := by decide +kernel
theorem px_d248_15 : decode prog_6_method_1_code 15 = .ok (.iload_n 3, 1) := by decide +kernel
theorem px_d248_16 : decode prog_6_method_1_code 16 = .ok (.putfield 17, 3) := by decide +kernel
theorem px_d248_19 : decode prog_6_method_1_code 19 = .ok (.return_, 1) := by decide +kernel
theorem px_d258_0 : decode prog_3_method_3_code 0 = .ok (.aload_n 0, 1) := by decide +kernel
theorem px_d258_1 : decode prog_3_method_3_code 1 = .ok (.aload_n 1, 1) := by decide +kernel
theorem px_d258_2 : decode prog_3_method_3_code 2 = .ok (.getfield 88, 3) := by decide +kernel
theorem px_d258_5 : decode prog_3_method_3_code 5 = .ok (.aload_n 1, 1) := by decide +kernel
theorem px_d258_6 : decode prog_3_method_3_code 6 = .ok (.getfield 66, 3) := by decide +kernel
theorem px_d258_9 : decode prog_3_method_3_code 9 = .ok (.aload_n 1, 1) := by decide +kernel
theorem px_d258_10 : decode prog_3_method_3_code 10 = .ok (.getfield 66, 3) := by decide +kernel
theorem px_d258_13 : decode prog_3_method_3_code 13 = .ok (.aload_n 1, 1) := by decide +kernel
theorem px_d258_14 : decode prog_3_method_3_code 14 = .ok (.getfield 77, 3) := by decide +kernel
theorem px_d258_17 : decode prog_3_method_3_code 17 = .ok (.isub, 1) := by decide +kernel
theorem px_d258_18 : decode prog_3_method_3_code 18 = .ok (.invokevirtual 59, 3) := by decide +kernel
theorem px_d258_21 : decode prog_3_method_3_code 21 = .ok (.aload_n 0, 1) := by decide +kernel
theorem px_d258_22 : decode prog_3_method_3_code 22 = .ok (.aload_n 1, 1) := by decide +kernel
theorem px_d258_23 : decode prog_3_method_3_code 23 = .ok (.iconst 0, 1) := by decide +kernel
theorem px_d258_24 : decode prog_3_method_3_code 24 = .ok (.iconst 0, 1) := by decide +kernel
theorem px_d258_25 : decode prog_3_method_3_code 25 = .ok (.iconst 0, 1) := by decide +kernel
theorem px_d258_26 : decode prog_3_method_3_code 26 = .ok (.iconst 1, 1) := by decide +kernel
theorem px_d258_32 : decode prog_3_method_3_code 32 = .ok (.iload_n 2, 1) := by decide +kernel
theorem px_d258_33 : decode prog_3_method_3_code 33 = .ok (.aload_n 0, 1) := by decide +kernel
theorem px_d258_34 : decode prog_3_method_3_code 34 = .ok (.invokevirtual 67, 3) := by decide +kernel
theorem px_d258_37 : decode prog_3_method_3_code 37 = .ok (.if_icmp .gt 59, 3) := by decide +kernel
theorem px_d258_40 : decode prog_3_method_3_code 40 = .ok (.aload_n 1, 1) := by decide +kernel
theorem px_d258_41 : decode prog_3_method_3_code 41 = .ok (.getfield 36, 3) := by decide +kernel
theorem px_d258_44 : decode prog_3_method_3_code 44 = .ok (.aload_n 0, 1) := by decide +kernel
theorem px_d258_45 : decode prog_3_method_3_code 45 = .ok (.invokevirtual 67, 3) := by decide +kernel
theorem px_d258_48 : decode prog_3_method_3_code 48 = .ok (.iload_n 2, 1) := by decide +kernel
theorem px_d258_49 : decode prog_3_method_3_code 49 = .ok (.ixor, 1) := by decide +kernel
theorem px_d258_50 : decode prog_3_method_3_code 50 = .ok (.baload, 1) := by decide +kernel
theorem px_d258_51 : decode prog_3_method_3_code 51 = .ok (.istore_n 3, 1) := by decide +kernel
theorem px_d258_52 : decode prog_3_method_3_code 52 = .ok (.iload_n 2, 1) := by decide +kernel
theorem px_d258_53 : decode prog_3_method_3_code 53 = .ok (.sipush 2730, 3) := by decide +kernel
theorem px_d258_56 : decode prog_3_method_3_code 56 = .ok (.iand, 1) := by decide +kernel
theorem px_d258_57 : decode prog_3_method_3_code 57 = .ok (.invokestatic 71, 3) := by decide +kernel
theorem px_d258_60 : decode prog_3_method_3_code 60 = .ok (.iconst 1, 1) := by decide +kernel
theorem px_d258_61 : decode prog_3_method_3_code 61 = .ok (.iand, 1) := by decide +kernel
theorem px_d258_62 : decode prog_3_method_3_code 62 = .ok (.ifCond .eq 7, 3) := by decide +kernel
theorem px_d258_65 : decode prog_3_method_3_code 65 = .ok (.iconst 1, 1) := by decide +kernel
theorem px_d258_66 : decode prog_3_method_3_code 66 = .ok (.goto 4, 3) := by decide +kernel
theorem px_d258_69 : decode prog_3_method_3_code 69 = .ok (.iconst 0, 1) := by decide +kernel
theorem px_d258_70 : decode prog_3_method_3_code 70 = .ok (.istore 4, 2) := by decide +kernel
theorem px_d258_72 : decode prog_3_method_3_code 72 = .ok (.aload_n 0, 1) := by decide +kernel
theorem px_d258_73 : decode prog_3_method_3_code 73 = .ok (.getfield 36, 3) := by decide +kernel
theorem px_d258_76 : decode prog_3_method_3_code 76 = .ok (.iload_n 2, 1) := by decide +kernel
theorem px_d258_77 : decode prog_3_method_3_code 77 = .ok (.iload 4, 2) := by decide +kernel
theorem px_d258_79 : decode prog_3_method_3_code 79 = .ok (.ifCond .eq 8, 3) := by decide +kernel
theorem px_d258_82 : decode prog_3_method_3_code 82 = .ok (.iload_n 3, 1) := by decide +kernel
theorem px_d258_83 : decode prog_3_method_3_code 83 = .ok (.ineg, 1) := by decide +kernel
theorem px_d258_84 : decode prog_3_method_3_code 84 = .ok (.goto 4, 3) := by decide +kernel
theorem px_d258_87 : decode prog_3_method_3_code 87 = .ok (.iload_n 3, 1) := by decide +kernel
theorem px_d258_88 : decode prog_3_method_3_code 88 = .ok (.i2b, 1) := by decide +kernel
theorem px_d258_89 : decode prog_3_method_3_code 89 = .ok (.bastore, 1) := by decide +kernel
theorem px_d258_90 : decode prog_3_method_3_code 90 = .ok (.iinc 2 1, 3) := by decide +kernel
theorem px_d258_93 : decode prog_3_method_3_code 93 = .ok (.goto (-61), 3) := by decide +kernel
theorem px_d258_96 : decode prog_3_method_3_code 96 = .ok (.aload_n 0, 1) := by decide +kernel
theorem px_d258_97 : decode prog_3_method_3_code 97 = .ok (.invokevirtual 85, 3) := by decide +kernel
theorem px_d258_100 : decode prog_3_method_3_code 100 = .ok (.return_, 1) := by decide +kernel
theorem px_d259_12 : decode prog_3_method_20_code 12 = .ok (.iload 9, 2) := by decide +kernel
theorem px_d259_14 : decode prog_3_method_20_code 14 = .ok (.aload_n 1, 1) := by decide +kernel
theorem px_d259_15 : decode prog_3_method_20_code 15 = .ok (.getfield 66, 3) := by decide +kernel
theorem px_d259_18 : decode prog_3_method_20_code 18 = .ok (.if_icmp .ge 119, 3) := by decide +kernel
theorem px_d259_21 : decode prog_3_method_20_code 21 = .ok (.iload_n 3, 1) := by decide +kernel
theorem px_d259_22 : decode prog_3_method_20_code 22 = .ok (.iload 9, 2) := by decide +kernel
theorem px_d259_24 : decode prog_3_method_20_code 24 = .ok (.ishr, 1) := by decide +kernel
theorem px_d259_25 : decode prog_3_method_20_code 25 = .ok (.iconst 1, 1) := by decide +kernel
theorem px_d259_26 : decode prog_3_method_20_code 26 = .ok (.iand, 1) := by decide +kernel
theorem px_d259_27 : decode prog_3_method_20_code 27 = .ok (.ifCond .ne 104, 3) := by decide +kernel
theorem px_d259_30 : decode prog_3_method_20_code 30 = .ok (.aload_n 1, 1) := by decide +kernel
theorem px_d259_31 : decode prog_3_method_20_code 31 = .ok (.getfield 17, 3) := by decide +kernel
theorem px_d259_34 : decode prog_3_method_20_code 34 = .ok (.iload 9, 2) := by decide +kernel
theorem px_d259_36 : decode prog_3_method_20_code 36 = .ok (.aaload, 1) := by decide +kernel
theorem px_d259_37 : decode prog_3_method_20_code 37 = .ok (.ifnull 68, 3) := by decide +kernel
theorem px_d259_40 : decode prog_3_method_20_code 40 = .ok (.aload_n 1, 1) := by decide +kernel
theorem px_d259_41 : decode prog_3_method_20_code 41 = .ok (.getfield 17, 3) := by decide +kernel
theorem px_d259_44 : decode prog_3_method_20_code 44 = .ok (.iload 9, 2) := by decide +kernel
theorem px_d259_46 : decode prog_3_method_20_code 46 = .ok (.aaload, 1) := by decide +kernel
theorem px_d259_47 : decode prog_3_method_20_code 47 = .ok (.aload 6, 2) := by decide +kernel
theorem px_d259_49 : decode prog_3_method_20_code 49 = .ok (.if_acmp .eq 56, 3) := by decide +kernel
theorem px_d259_52 : decode prog_3_method_20_code 52 = .ok (.aload_n 1, 1) := by decide +kernel
theorem px_d259_53 : decode prog_3_method_20_code 53 = .ok (.getfield 17, 3) := by decide +kernel
theorem px_d259_56 : decode prog_3_method_20_code 56 = .ok (.iload 9, 2) := by decide +kernel
theorem px_d259_58 : decode prog_3_method_20_code 58 = .ok (.aaload, 1) := by decide +kernel
theorem px_d259_59 : decode prog_3_method_20_code 59 = .ok (.astore 6, 2) := by decide +kernel
theorem px_d259_61 : decode prog_3_method_20_code 61 = .ok (.new 15, 3) := by decide +kernel
theorem px_d259_64 : decode prog_3_method_20_code 64 = .ok (.dup, 1) := by decide +kernel
theorem px_d259_65 : decode prog_3_method_20_code 65 = .ok (.aload 6, 2) := by decide +kernel
theorem px_d259_105 : decode prog_3_method_20_code 105 = .ok (.aload_n 0, 1) := by decide +kernel
theorem px_d259_106 : decode prog_3_method_20_code 106 = .ok (.getfield 17, 3) := by decide +kernel
theorem px_d259_109 : decode prog_3_method_20_code 109 = .ok (.iload 8, 2) := by decide +kernel
theorem px_d259_111 : decode prog_3_method_20_code 111 = .ok (.aload 7, 2) := by decide +kernel
theorem px_d259_113 : decode prog_3_method_20_code 113 = .ok (.aastore, 1) := by decide +kernel
theorem px_d259_114 : decode prog_3_method_20_code 114 = .ok (.aload_n 0, 1) := by decide +kernel
theorem px_d259_115 : decode prog_3_method_20_code 115 = .ok (.getfield 21, 3) := by decide +kernel
theorem px_d259_118 : decode prog_3_method_20_code 118 = .ok (.iload 8, 2) := by decide +kernel
theorem px_d259_120 : decode prog_3_method_20_code 120 = .ok (.aload_n 1, 1) := by decide +kernel
theorem px_d259_121 : decode prog_3_method_20_code 121 = .ok (.getfield 21, 3) := by decide +kernel
theorem px_d259_124 : decode prog_3_method_20_code 124 = .ok (.iload 9, 2) := by decide +kernel
theorem px_d259_126 : decode prog_3_method_20_code 126 = .ok (.iaload, 1) := by decide +kernel
theorem px_d259_127 : decode prog_3_method_20_code 127 = .ok (.iastore, 1) := by decide +kernel
theorem px_d259_128 : decode prog_3_method_20_code 128 = .ok (.iinc 8 1, 3) := by decide +kernel
theorem px_d259_131 : decode prog_3_method_20_code 131 = .ok (.iinc 9 1, 3) := by decide +kernel
theorem px_d259_134 : decode prog_3_method_20_code 134 = .ok (.goto (-122), 3) := by decide +kernel
theorem px_d259_137 : decode prog_3_method_20_code 137 = .ok (.return_, 1) := by decide +kernel
theorem px_d260_0 : decode prog_3_method_21_code 0 = .ok (.iconst 0, 1) := by decide +kernel
theorem px_d260_1 : decode prog_3_method_21_code 1 = .ok (.istore 4, 2) := by decide +kernel
theorem px_d260_3 : decode prog_3_method_21_code 3 = .ok (.iconst 0, 1) := by decide +kernel
theorem px_d260_4 : decode prog_3_method_21_code 4 = .ok (.istore 5, 2) := by decide +kernel
theorem px_d260_6 : decode prog_3_method_21_code 6 = .ok (.iload 5, 2) := by decide +kernel
theorem px_d260_8 : decode prog_3_method_21_code 8 = .ok (.aload_n 0, 1) := by decide +kernel
theorem px_d260_9 : decode prog_3_method_21_code 9 = .ok (.getfield 66, 3) := by decide +kernel
theorem px_d260_12 : decode prog_3_method_21_code 12 = .ok (.if_icmp .ge 68, 3) := by decide +kernel
theorem px_d260_15 : decode prog_3_method_21_code 15 = .ok (.iload_n 3, 1) := by decide +kernel
theorem px_d260_16 : decode prog_3_method_21_code 16 = .ok (.iload 5, 2) := by decide +kernel
theorem px_d260_18 : decode prog_3_method_21_code 18 = .ok (.ishr, 1) := by decide +kernel
theorem px_d260_19 : decode prog_3_method_21_code 19 = .ok (.iconst 1, 1) := by decide +kernel
theorem px_d260_20 : decode prog_3_method_21_code 20 = .ok (.iand, 1) := by decide +kernel
theorem px_d260_21 : decode prog_3_method_21_code 21 = .ok (.ifCond .eq 7, 3) := by decide +kernel
theorem px_d260_24 : decode prog_3_method_21_code 24 = .ok (.iconst 1, 1) := by decide +kernel
theorem px_d260_25 : decode prog_3_method_21_code 25 = .ok (.goto 4, 3) := by decide +kernel
theorem px_d260_28 : decode prog_3_method_21_code 28 = .ok (.iconst 0, 1) := by decide +kernel
theorem px_d260_29 : decode prog_3_method_21_code 29 = .ok (.istore 6, 2) := by decide +kernel
theorem px_d260_31 : decode prog_3_method_21_code 31 = .ok (.aload_n 0, 1) := by decide +kernel
theorem px_d260_32 : decode prog_3_method_21_code 32 = .ok (.getfield 17, 3) := by decide +kernel
theorem px_d260_35 : decode prog_3_method_21_code 35 = .ok (.iload 5, 2) := by decide +kernel
theorem px_d260_37 : decode prog_3_method_21_code 37 = .ok (.aaload, 1) := by decide +kernel
theorem px_d260_38 : decode prog_3_method_21_code 38 = .ok (.aload_n 1, 1) := by decide +kernel
theorem px_d260_39 : decode prog_3_method_21_code 39 = .ok (.if_acmp .ne 35, 3) := by decide +kernel
theorem px_d260_42 : decode prog_3_method_21_code 42 = .ok (.iload_n 2, 1) := by decide +kernel
theorem px_d260_43 : decode prog_3_method_21_code 43 = .ok (.iload 5, 2) := by decide +kernel
theorem px_d260_45 : decode prog_3_method_21_code 45 = .ok (.ishr, 1) := by decide +kernel
theorem px_d260_46 : decode prog_3_method_21_code 46 = .ok (.iconst 1, 1) := by decide +kernel
theorem px_d260_47 : decode prog_3_method_21_code 47 = .ok (.iand, 1) := by decide +kernel
theorem px_d260_48 : decode prog_3_method_21_code 48 = .ok (.ifCond .eq 26, 3) := by decide +kernel
theorem px_d260_51 : decode prog_3_method_21_code 51 = .ok (.iload 6, 2) := by decide +kernel
theorem px_d260_53 : decode prog_3_method_21_code 53 = .ok (.aload_n 1, 1) := by decide +kernel
theorem px_d260_54 : decode prog_3_method_21_code 54 = .ok (.getfield 150, 3) := by decide +kernel
theorem px_d260_57 : decode prog_3_method_21_code 57 = .ok (.if_icmp .eq 17, 3) := by decide +kernel
theorem px_d260_60 : decode prog_3_method_21_code 60 = .ok (.iload 4, 2) := by decide +kernel
theorem px_d260_62 : decode prog_3_method_21_code 62 = .ok (.iconst 1, 1) := by decide +kernel
theorem px_d260_63 : decode prog_3_method_21_code 63 = .ok (.aload_n 0, 1) := by decide +kernel
theorem px_d260_64 : decode prog_3_method_21_code 64 = .ok (.getfield 21, 3) := by decide +kernel
theorem px_d260_67 : decode prog_3_method_21_code 67 = .ok (.iload 5, 2) := by decide +kernel
theorem px_d260_69 : decode prog_3_method_21_code 69 = .ok (.iaload, 1) := by decide +kernel
theorem px_d260_70 : decode prog_3_method_21_code 70 = .ok (.ishl, 1) := by decide +kernel
theorem px_d260_71 : decode prog_3_method_21_code 71 = .ok (.ior, 1) := by decide +kernel
theorem px_d260_72 : decode prog_3_method_21_code 72 = .ok (.istore 4, 2) := by decide +kernel
theorem px_d260_74 : decode prog_3_method_21_code 74 = .ok (.iinc 5 1, 3) := by decide +kernel
theorem px_d260_77 : decode prog_3_method_21_code 77 = .ok (.goto (-71), 3) := by decide +kernel
theorem px_d260_80 : decode prog_3_method_21_code 80 = .ok (.iload 4, 2) := by decide +kernel
theorem px_d260_82 : decode prog_3_method_21_code 82 = .ok (.ireturn, 1) := by decide +kernel
theorem px_d264_0 : decode prog_3_method_4_code 0 = .ok (.aload_n 1, 1) := by decide +kernel
theorem px_d264_1 : decode prog_3_method_4_code 1 = .ok (.invokevirtual 67, 3) := by decide +kernel
theorem px_d264_4 : decode prog_3_method_4_code 4 = .ok (.iload_n 2, 1) := by decide +kernel
theorem px_d264_5 : decode prog_3_method_4_code 5 = .ok (.iconst (-1), 1) := by decide +kernel
theorem px_d264_6 : decode prog_3_method_4_code 6 = .ok (.ixor, 1) := by decide +kernel
theorem px_d264_7 : decode prog_3_method_4_code 7 = .ok (.iand, 1) := by decide +kernel
theorem px_d264_8 : decode prog_3_method_4_code 8 = .ok (.istore 4, 2) := by decide +kernel
theorem px_d264_10 : decode prog_3_method_4_code 10 = .ok (.aload_n 0, 1) := by decide +kernel
theorem px_d264_11 : decode prog_3_method_4_code 11 = .ok (.aload_n 1, 1) := by decide +kernel
theorem px_d264_12 : decode prog_3_method_4_code 12 = .ok (.getfield 88, 3) := by decide +kernel
theorem px_d264_15 : decode prog_3_method_4_code 15 = .ok (.iload 4, 2) := by decide +kernel
theorem px_d264_17 : decode prog_3_method_4_code 17 = .ok (.invokestatic 71, 3) := by decide +kernel
theorem px_d264_20 : decode prog_3_method_4_code 20 = .ok (.aload_n 1, 1) := by decide +kernel
theorem px_d264_21 : decode prog_3_method_4_code 21 = .ok (.getfield 77, 3) := by decide +kernel
theorem px_d264_24 : decode prog_3_method_4_code 24 = .ok (.iload_n 3, 1) := by decide +kernel
theorem px_d264_25 : decode prog_3_method_4_code 25 = .ok (.invokestatic 71, 3) := by decide +kernel
theorem px_d264_28 : decode prog_3_method_4_code 28 = .ok (.isub, 1) := by decide +kernel
theorem px_d264_29 : decode prog_3_method_4_code 29 = .ok (.invokevirtual 59, 3) := by decide +kernel
theorem px_d264_32 : decode prog_3_method_4_code 32 = .ok (.aload_n 0, 1) := by decide +kernel
theorem px_d264_33 : decode prog_3_method_4_code 33 = .ok (.aload_n 1, 1) := by decide +kernel
theorem px_d264_34 : decode prog_3_method_4_code 34 = .ok (.iconst 0, 1) := by decide +kernel
theorem px_d264_35 : decode prog_3_method_4_code 35 = .ok (.iload_n 2, 1) := by decide +kernel
theorem px_d264_36 : decode prog_3_method_4_code 36 = .ok (.iload_n 3, 1) := by decide +kernel
theorem px_d264_37 : decode prog_3_method_4_code 37 = .ok (.iconst 0, 1) := by decide +kernel
theorem px_d264_47 : decode prog_3_method_4_code 47 = .ok (.iload 6, 2) := by decide +kernel
theorem px_d264_49 : decode prog_3_method_4_code 49 = .ok (.aload_n 0, 1) := by decide +kernel
theorem px_d264_50 : decode prog_3_method_4_code 50 = .ok (.invokevirtual 67, 3) := by decide +kernel
theorem px_d264_53 : decode prog_3_method_4_code 53 = .ok (.if_icmp .gt 56, 3) := by decide +kernel
theorem px_d264_56 : decode prog_3_method_4_code 56 = .ok (.aload_n 1, 1) := by decide +kernel
theorem px_d264_57 : decode prog_3_method_4_code 57 = .ok (.getfield 36, 3) := by decide +kernel
theorem px_d264_60 : decode prog_3_method_4_code 60 = .ok (.iload 5, 2) := by decide +kernel
theorem px_d264_62 : decode prog_3_method_4_code 62 = .ok (.iload_n 3, 1) := by decide +kernel
theorem px_d264_63 : decode prog_3_method_4_code 63 = .ok (.ior, 1) := by decide +kernel
theorem px_d264_64 : decode prog_3_method_4_code 64 = .ok (.baload, 1) := by decide +kernel
theorem px_d264_65 : decode prog_3_method_4_code 65 = .ok (.istore 7, 2) := by decide +kernel
theorem px_d264_67 : decode prog_3_method_4_code 67 = .ok (.aload_n 0, 1) := by decide +kernel
theorem px_d264_68 : decode prog_3_method_4_code 68 = .ok (.getfield 36, 3) := by decide +kernel
theorem px_d264_71 : decode prog_3_method_4_code 71 = .ok (.iload 6, 2) := by decide +kernel
theorem px_d264_73 : decode prog_3_method_4_code 73 = .ok (.aload_n 0, 1) := by decide +kernel
theorem px_d264_74 : decode prog_3_method_4_code 74 = .ok (.iload 5, 2) := by decide +kernel
theorem px_d264_76 : decode prog_3_method_4_code 76 = .ok (.iload_n 3, 1) := by decide +kernel
theorem px_d264_77 : decode prog_3_method_4_code 77 = .ok (.invokevirtual 93, 3) := by decide +kernel
theorem px_d264_80 : decode prog_3_method_4_code 80 = .ok (.ifCond .eq 9, 3) := by decide +kernel
theorem px_d264_83 : decode prog_3_method_4_code 83 = .ok (.iload 7, 2) := by decide +kernel
theorem px_d264_85 : decode prog_3_method_4_code 85 = .ok (.ineg, 1) := by decide +kernel
theorem px_d264_86 : decode prog_3_method_4_code 86 = .ok (.goto 5, 3) := by decide +kernel
theorem px_d264_89 : decode prog_3_method_4_code 89 = .ok (.iload 7, 2) := by decide +kernel
theorem px_d264_91 : decode prog_3_method_4_code 91 = .ok (.i2b, 1) := by decide +kernel
theorem px_d264_92 : decode prog_3_method_4_code 92 = .ok (.bastore, 1) := by decide +kernel
theorem px_d264_93 : decode prog_3_method_4_code 93 = .ok (.iload 5, 2) := by decide +kernel
theorem px_d264_95 : decode prog_3_method_4_code 95 = .ok (.iload 4, 2) := by decide +kernel
theorem px_d264_97 : decode prog_3_method_4_code 97 = .ok (.isub, 1) := by decide +kernel
theorem px_d264_98 : decode prog_3_method_4_code 98 = .ok (.iload 4, 2) := by decide +kernel
theorem px_d264_100 : decode prog_3_method_4_code 100 = .ok (.iand, 1) := by decide +kernel
theorem px_d264_101 : decode prog_3_method_4_code 101 = .ok (.istore 5, 2) := by decide +kernel
theorem px_d264_103 : decode prog_3_method_4_code 103 = .ok (.iinc 6 1, 3) := by decide +kernel
theorem px_d264_106 : decode prog_3_method_4_code 106 = .ok (.goto (-59), 3) := by decide +kernel
theorem px_d264_109 : decode prog_3_method_4_code 109 = .ok (.aload_n 0, 1) := by decide +kernel
theorem px_d264_110 : decode prog_3_method_4_code 110 = .ok (.invokevirtual 85, 3) := by decide +kernel
theorem px_d264_113 : decode prog_3_method_4_code 113 = .ok (.return_, 1) := by decide +kernel
theorem px_d266_0 : decode prog_3_method_6_code 0 = .ok (.aload_n 0, 1) := by decide +kernel
theorem px_d266_1 : decode prog_3_method_6_code 1 = .ok (.aload_n 1, 1) := by decide +kernel
theorem px_d266_2 : decode prog_3_method_6_code 2 = .ok (.getfield 88, 3) := by decide +kernel
theorem px_d266_5 : decode prog_3_method_6_code 5 = .ok (.aload_n 1, 1) := by decide +kernel
theorem px_d266_6 : decode prog_3_method_6_code 6 = .ok (.getfield 66, 3) := by decide +kernel
theorem px_d266_9 : decode prog_3_method_6_code 9 = .ok (.aload_n 1, 1) := by decide +kernel
theorem px_d266_10 : decode prog_3_method_6_code 10 = .ok (.getfield 77, 3) := by decide +kernel
theorem px_d266_13 : decode prog_3_method_6_code 13 = .ok (.invokevirtual 59, 3) := by decide +kernel
theorem px_d266_16 : decode prog_3_method_6_code 16 = .ok (.aload_n 0, 1) := by decide +kernel
theorem px_d266_17 : decode prog_3_method_6_code 17 = .ok (.aload_n 1, 1) := by decide +kernel
theorem px_d266_18 : decode prog_3_method_6_code 18 = .ok (.iconst 0, 1) := by decide +kernel
theorem px_d266_19 : decode prog_3_method_6_code 19 = .ok (.iconst 0, 1) := by decide +kernel
theorem px_d266_20 : decode prog_3_method_6_code 20 = .ok (.iconst 0, 1) := by decide +kernel
theorem px_d266_21 : decode prog_3_method_6_code 21 = .ok (.iconst 0, 1) := by decide +kernel
theorem px_d267_0 : decode prog_3_method_5_code 0 = .ok (.aload_n 0, 1) := by decide +kernel
theorem px_d267_1 : decode prog_3_method_5_code 1 = .ok (.aload_n 1, 1) := by decide +kernel
theorem px_d267_2 : decode prog_3_method_5_code 2 = .ok (.getfield 88, 3) := by decide +kernel
theorem px_d267_5 : decode prog_3_method_5_code 5 = .ok (.aload_n 1, 1) := by decide +kernel
theorem px_d267_6 : decode prog_3_method_5_code 6 = .ok (.getfield 66, 3) := by decide +kernel
theorem px_d267_9 : decode prog_3_method_5_code 9 = .ok (.aload_n 2, 1) := by decide +kernel
theorem px_d267_10 : decode prog_3_method_5_code 10 = .ok (.getfield 66, 3) := by decide +kernel
theorem px_d267_13 : decode prog_3_method_5_code 13 = .ok (.iadd, 1) := by decide +kernel
theorem px_d267_14 : decode prog_3_method_5_code 14 = .ok (.aload_n 1, 1) := by decide +kernel
theorem px_d267_15 : decode prog_3_method_5_code 15 = .ok (.getfield 77, 3) := by decide +kernel
theorem px_d267_18 : decode prog_3_method_5_code 18 = .ok (.aload_n 2, 1) := by decide +kernel
theorem px_d267_19 : decode prog_3_method_5_code 19 = .ok (.getfield 77, 3) := by decide +kernel
theorem px_d267_22 : decode prog_3_method_5_code 22 = .ok (.iadd, 1) := by decide +kernel
theorem px_d267_23 : decode prog_3_method_5_code 23 = .ok (.invokevirtual 59, 3) := by decide +kernel
theorem px_d267_26 : decode prog_3_method_5_code 26 = .ok (.aload_n 0, 1) := by decide +kernel
theorem px_d267_27 : decode prog_3_method_5_code 27 = .ok (.aload_n 1, 1) := by decide +kernel
theorem px_d267_28 : decode prog_3_method_5_code 28 = .ok (.iconst 0, 1) := by decide +kernel
theorem px_d267_29 : decode prog_3_method_5_code 29 = .ok (.iconst 0, 1) := by decide +kernel
theorem px_d267_30 : decode prog_3_method_5_code 30 = .ok (.iconst 0, 1) := by decide +kernel
theorem px_d267_31 : decode prog_3_method_5_code 31 = .ok (.iconst 0, 1) := by decide +kernel
theorem px_d267_49 : decode prog_3_method_5_code 49 = .ok (.iload_n 3, 1) := by decide +kernel
theorem px_d267_50 : decode prog_3_method_5_code 50 = .ok (.aload_n 0, 1) := by decide +kernel
theorem px_d267_51 : decode prog_3_method_5_code 51 = .ok (.invokevirtual 67, 3) := by decide +kernel
theorem px_d267_54 : decode prog_3_method_5_code 54 = .ok (.if_icmp .gt 39, 3) := by decide +kernel
theorem px_d267_57 : decode prog_3_method_5_code 57 = .ok (.aload_n 0, 1) := by decide +kernel
theorem px_d267_58 : decode prog_3_method_5_code 58 = .ok (.getfield 36, 3) := by decide +kernel
theorem px_d267_61 : decode prog_3_method_5_code 61 = .ok (.iload_n 3, 1) := by decide +kernel
theorem px_d267_62 : decode prog_3_method_5_code 62 = .ok (.aload_n 1, 1) := by decide +kernel
theorem px_d267_63 : decode prog_3_method_5_code 63 = .ok (.getfield 36, 3) := by decide +kernel
theorem px_d267_66 : decode prog_3_method_5_code 66 = .ok (.iload_n 3, 1) := by decide +kernel
theorem px_d267_67 : decode prog_3_method_5_code 67 = .ok (.aload_n 1, 1) := by decide +kernel
theorem px_d267_68 : decode prog_3_method_5_code 68 = .ok (.invokevirtual 67, 3) := by decide +kernel
theorem px_d267_71 : decode prog_3_method_5_code 71 = .ok (.iand, 1) := by decide +kernel
theorem px_d267_72 : decode prog_3_method_5_code 72 = .ok (.baload, 1) := by decide +kernel
theorem px_d267_73 : decode prog_3_method_5_code 73 = .ok (.aload_n 2, 1) := by decide +kernel
theorem px_d267_74 : decode prog_3_method_5_code 74 = .ok (.getfield 36, 3) := by decide +kernel
theorem px_d267_77 : decode prog_3_method_5_code 77 = .ok (.iload_n 3, 1) := by decide +kernel
theorem px_d267_78 : decode prog_3_method_5_code 78 = .ok (.aload_n 1, 1) := by decide +kernel
theorem px_d267_79 : decode prog_3_method_5_code 79 = .ok (.getfield 66, 3) := by decide +kernel
theorem px_d267_82 : decode prog_3_method_5_code 82 = .ok (.ishr, 1) := by decide +kernel
theorem px_d267_83 : decode prog_3_method_5_code 83 = .ok (.baload, 1) := by decide +kernel
theorem px_d267_84 : decode prog_3_method_5_code 84 = .ok (.imul, 1) := by decide +kernel
theorem px_d267_85 : decode prog_3_method_5_code 85 = .ok (.i2b, 1) := by decide +kernel
theorem px_d267_86 : decode prog_3_method_5_code 86 = .ok (.bastore, 1) := by decide +kernel
theorem px_d267_87 : decode prog_3_method_5_code 87 = .ok (.iinc 3 1, 3) := by decide +kernel
theorem px_d267_90 : decode prog_3_method_5_code 90 = .ok (.goto (-41), 3) := by decide +kernel
theorem px_d267_93 : decode prog_3_method_5_code 93 = .ok (.return_, 1) := by decide +kernel
theorem px_d272_0 : decode prog_3_method_10_code 0 = .ok (.aload_n 0, 1) := by decide +kernel
theorem px_d272_1 : decode prog_3_method_10_code 1 = .ok (.getfield 33, 3) := by decide +kernel
theorem px_d272_4 : decode prog_3_method_10_code 4 = .ok (.iload_n 1, 1) := by decide +kernel
theorem px_d272_5 : decode prog_3_method_10_code 5 = .ok (.iaload, 1) := by decide +kernel
theorem px_d272_6 : decode prog_3_method_10_code 6 = .ok (.iconst (-1), 1) := by decide +kernel
theorem px_d272_7 : decode prog_3_method_10_code 7 = .ok (.if_icmp .ne 14, 3) := by decide +kernel
theorem px_d272_10 : decode prog_3_method_10_code 10 = .ok (.aload_n 0, 1) := by decide +kernel
theorem px_d272_11 : decode prog_3_method_10_code 11 = .ok (.iconst 0, 1) := by decide +kernel
theorem px_d272_12 : decode prog_3_method_10_code 12 = .ok (.invokevirtual 110, 3) := by decide +kernel
theorem px_d272_15 : decode prog_3_method_10_code 15 = .ok (.pop, 1) := by decide +kernel
theorem px_d272_16 : decode prog_3_method_10_code 16 = .ok (.aload_n 0, 1) := by decide +kernel
theorem px_d272_17 : decode prog_3_method_10_code 17 = .ok (.iload_n 1, 1) := by decide +kernel
theorem px_d272_18 : decode prog_3_method_10_code 18 = .ok (.invokevirtual 113, 3) := by decide +kernel
theorem px_d272_21 : decode prog_3_method_10_code 21 = .ok (.aload_n 0, 1) := by decide +kernel
theorem px_d272_22 : decode prog_3_method_10_code 22 = .ok (.getfield 33, 3) := by decide +kernel
theorem px_d272_25 : decode prog_3_method_10_code 25 = .ok (.iload_n 1, 1) := by decide +kernel
theorem px_d272_26 : decode prog_3_method_10_code 26 = .ok (.iaload, 1) := by decide +kernel
theorem px_d272_27 : decode prog_3_method_10_code 27 = .ok (.ireturn, 1) := by decide +kernel
theorem px_d273_0 : decode prog_3_method_25_code 0 = .ok (.iconst 1, 1) := by decide +kernel
theorem px_d273_1 : decode prog_3_method_25_code 1 = .ok (.aload_n 0, 1) := by decide +kernel
theorem px_d273_2 : decode prog_3_method_25_code 2 = .ok (.getfield 66, 3) := by decide +kernel
theorem px_d273_5 : decode prog_3_method_25_code 5 = .ok (.ishl, 1) := by decide +kernel
theorem px_d273_6 : decode prog_3_method_25_code 6 = .ok (.istore_n 2, 1) := by decide +kernel
theorem px_d273_7 : decode prog_3_method_25_code 7 = .ok (.iconst 0, 1) := by decide +kernel
theorem px_d273_8 : decode prog_3_method_25_code 8 = .ok (.istore_n 3, 1) := by decide +kernel
theorem px_d273_9 : decode prog_3_method_25_code 9 = .ok (.iconst 0, 1) := by decide +kernel
theorem px_d273_10 : decode prog_3_method_25_code 10 = .ok (.istore 4, 2) := by decide +kernel
theorem px_d273_12 : decode prog_3_method_25_code 12 = .ok (.iload 4, 2) := by decide +kernel
theorem px_d273_14 : decode prog_3_method_25_code 14 = .ok (.iload_n 2, 1) := by decide +kernel
theorem px_d273_15 : decode prog_3_method_25_code 15 = .ok (.if_icmp .ge 76, 3) := by decide +kernel
theorem px_d273_18 : decode prog_3_method_25_code 18 = .ok (.aload_n 0, 1) := by decide +kernel
theorem px_d273_19 : decode prog_3_method_25_code 19 = .ok (.getfield 9, 3) := by decide +kernel
theorem px_d273_22 : decode prog_3_method_25_code 22 = .ok (.aload_n 0, 1) := by decide +kernel
theorem px_d273_23 : decode prog_3_method_25_code 23 = .ok (.getfield 66, 3) := by decide +kernel
theorem px_d273_26 : decode prog_3_method_25_code 26 = .ok (.iload 4, 2) := by decide +kernel
theorem px_d273_28 : decode prog_3_method_25_code 28 = .ok (.invokevirtual 137, 3) := by decide +kernel
theorem px_d273_31 : decode prog_3_method_25_code 31 = .ok (.istore 5, 2) := by decide +kernel
theorem px_d273_33 : decode prog_3_method_25_code 33 = .ok (.aload_n 0, 1) := by decide +kernel
theorem px_d273_34 : decode prog_3_method_25_code 34 = .ok (.iload_n 1, 1) := by decide +kernel
theorem px_d273_35 : decode prog_3_method_25_code 35 = .ok (.iload 5, 2) := by decide +kernel
theorem px_d273_37 : decode prog_3_method_25_code 37 = .ok (.invokevirtual 176, 3) := by decide +kernel
theorem px_d273_40 : decode prog_3_method_25_code 40 = .ok (.ifCond .eq 45, 3) := by decide +kernel
theorem px_d273_43 : decode prog_3_method_25_code 43 = .ok (.iload_n 3, 1) := by decide +kernel
theorem px_d273_44 : decode prog_3_method_25_code 44 = .ok (.aload_n 0, 1) := by decide +kernel
theorem px_d273_45 : decode prog_3_method_25_code 45 = .ok (.getfield 30, 3) := by decide +kernel
theorem px_d273_48 : decode prog_3_method_25_code 48 = .ok (.iload_n 1, 1) := by decide +kernel
theorem px_d273_49 : decode prog_3_method_25_code 49 = .ok (.aaload, 1) := by decide +kernel
theorem px_d273_50 : decode prog_3_method_25_code 50 = .ok (.arraylength, 1) := by decide +kernel
theorem px_d273_51 : decode prog_3_method_25_code 51 = .ok (.if_icmp .ne 21, 3) := by decide +kernel
theorem px_d273_54 : decode prog_3_method_25_code 54 = .ok (.aload_n 0, 1) := by decide +kernel
theorem px_d273_55 : decode prog_3_method_25_code 55 = .ok (.getfield 30, 3) := by decide +kernel
theorem px_d273_58 : decode prog_3_method_25_code 58 = .ok (.iload_n 1, 1) := by decide +kernel
theorem px_d273_59 : decode prog_3_method_25_code 59 = .ok (.aload_n 0, 1) := by decide +kernel
theorem px_d273_60 : decode prog_3_method_25_code 60 = .ok (.getfield 30, 3) := by decide +kernel
theorem px_d273_63 : decode prog_3_method_25_code 63 = .ok (.iload_n 1, 1) := by decide +kernel
theorem px_d273_64 : decode prog_3_method_25_code 64 = .ok (.aaload, 1) := by decide +kernel
theorem px_d273_65 : decode prog_3_method_25_code 65 = .ok (.iconst 4, 1) := by decide +kernel
theorem px_d273_66 : decode prog_3_method_25_code 66 = .ok (.iload_n 3, 1) := by decide +kernel
theorem px_d273_67 : decode prog_3_method_25_code 67 = .ok (.imul, 1) := by decide +kernel
theorem px_d273_68 : decode prog_3_method_25_code 68 = .ok (.invokestatic 179, 3) := by decide +kernel
theorem px_d273_71 : decode prog_3_method_25_code 71 = .ok (.aastore, 1) := by decide +kernel
theorem px_d273_72 : decode prog_3_method_25_code 72 = .ok (.aload_n 0, 1) := by decide +kernel
theorem px_d273_73 : decode prog_3_method_25_code 73 = .ok (.getfield 30, 3) := by decide +kernel
theorem px_d273_76 : decode prog_3_method_25_code 76 = .ok (.iload_n 1, 1) := by decide +kernel
theorem px_d273_77 : decode prog_3_method_25_code 77 = .ok (.aaload, 1) := by decide +kernel
theorem px_d273_78 : decode prog_3_method_25_code 78 = .ok (.iload_n 3, 1) := by decide +kernel
theorem px_d273_79 : decode prog_3_method_25_code 79 = .ok (.iload 5, 2) := by decide +kernel
theorem px_d273_81 : decode prog_3_method_25_code 81 = .ok (.iastore, 1) := by decide +kernel
theorem px_d273_82 : decode prog_3_method_25_code 82 = .ok (.iinc 3 1, 3) := by decide +kernel
theorem px_d273_85 : decode prog_3_method_25_code 85 = .ok (.iinc 4 1, 3) := by decide +kernel
theorem px_d273_88 : decode prog_3_method_25_code 88 = .ok (.goto (-76), 3) := by decide +kernel
theorem px_d273_91 : decode prog_3_method_25_code 91 = .ok (.aload_n 0, 1) := by decide +kernel
theorem px_d273_92 : decode prog_3_method_25_code 92 = .ok (.getfield 33, 3) := by decide +kernel
theorem px_d273_95 : decode prog_3_method_25_code 95 = .ok (.iload_n 1, 1) := by decide +kernel
theorem px_d273_96 : decode prog_3_method_25_code 96 = .ok (.iload_n 3, 1) := by decide +kernel
theorem px_d273_97 : decode prog_3_method_25_code 97 = .ok (.iastore, 1) := by decide +kernel
theorem px_d273_98 : decode prog_3_method_25_code 98 = .ok (.return_, 1) := by decide +kernel
theorem px_d313_0 : decode prog_3_method_18_code 0 = .ok (.aload_n 1, 1) := by decide +kernel
theorem px_d313_1 : decode prog_3_method_18_code 1 = .ok (.getfield 147, 3) := by decide +kernel
theorem px_d313_4 : decode prog_3_method_18_code 4 = .ok (.istore_n 3, 1) := by decide +kernel
theorem px_d313_5 : decode prog_3_method_18_code 5 = .ok (.iconst 0, 1) := by decide +kernel
theorem px_d313_6 : decode prog_3_method_18_code 6 = .ok (.istore 4, 2) := by decide +kernel
theorem px_d313_8 : decode prog_3_method_18_code 8 = .ok (.iload 4, 2) := by decide +kernel
theorem px_d313_10 : decode prog_3_method_18_code 10 = .ok (.aload_n 0, 1) := by decide +kernel
theorem px_d313_11 : decode prog_3_method_18_code 11 = .ok (.getfield 66, 3) := by decide +kernel
theorem px_d313_14 : decode prog_3_method_18_code 14 = .ok (.if_icmp .ge 57, 3) := by decide +kernel
theorem px_d313_17 : decode prog_3_method_18_code 17 = .ok (.iload_n 2, 1) := by decide +kernel
theorem px_d313_18 : decode prog_3_method_18_code 18 = .ok (.iload 4, 2) := by decide +kernel
theorem px_d313_20 : decode prog_3_method_18_code 20 = .ok (.ishr, 1) := by decide +kernel
theorem px_d313_21 : decode prog_3_method_18_code 21 = .ok (.iconst 1, 1) := by decide +kernel
theorem px_d313_22 : decode prog_3_method_18_code 22 = .ok (.iand, 1) := by decide +kernel
theorem px_d313_23 : decode prog_3_method_18_code 23 = .ok (.ifCond .eq 7, 3) := by decide +kernel
theorem px_d313_26 : decode prog_3_method_18_code 26 = .ok (.iconst 1, 1) := by decide +kernel
theorem px_d313_27 : decode prog_3_method_18_code 27 = .ok (.goto 4, 3) := by decide +kernel
theorem px_d313_30 : decode prog_3_method_18_code 30 = .ok (.iconst 0, 1) := by decide +kernel
theorem px_d313_31 : decode prog_3_method_18_code 31 = .ok (.istore 5, 2) := by decide +kernel
theorem px_d313_33 : decode prog_3_method_18_code 33 = .ok (.aload_n 0, 1) := by decide +kernel
theorem px_d313_34 : decode prog_3_method_18_code 34 = .ok (.getfield 17, 3) := by decide +kernel
theorem px_d313_37 : decode prog_3_method_18_code 37 = .ok (.iload 4, 2) := by decide +kernel
theorem px_d313_39 : decode prog_3_method_18_code 39 = .ok (.aaload, 1) := by decide +kernel
theorem px_d313_40 : decode prog_3_method_18_code 40 = .ok (.aload_n 1, 1) := by decide +kernel
theorem px_d313_41 : decode prog_3_method_18_code 41 = .ok (.if_acmp .ne 24, 3) := by decide +kernel
theorem px_d313_44 : decode prog_3_method_18_code 44 = .ok (.iload 5, 2) := by decide +kernel
theorem px_d313_46 : decode prog_3_method_18_code 46 = .ok (.aload_n 1, 1) := by decide +kernel
theorem px_d313_47 : decode prog_3_method_18_code 47 = .ok (.getfield 150, 3) := by decide +kernel
theorem px_d313_50 : decode prog_3_method_18_code 50 = .ok (.if_icmp .eq 15, 3) := by decide +kernel
theorem px_d313_53 : decode prog_3_method_18_code 53 = .ok (.iload_n 3, 1) := by decide +kernel
theorem px_d313_54 : decode prog_3_method_18_code 54 = .ok (.iconst 1, 1) := by decide +kernel
theorem px_d313_55 : decode prog_3_method_18_code 55 = .ok (.aload_n 0, 1) := by decide +kernel
theorem px_d313_56 : decode prog_3_method_18_code 56 = .ok (.getfield 21, 3) := by decide +kernel
theorem px_d313_59 : decode prog_3_method_18_code 59 = .ok (.iload 4, 2) := by decide +kernel
theorem px_d313_61 : decode prog_3_method_18_code 61 = .ok (.iaload, 1) := by decide +kernel
theorem px_d313_62 : decode prog_3_method_18_code 62 = .ok (.ishl, 1) := by decide +kernel
theorem px_d313_63 : decode prog_3_method_18_code 63 = .ok (.ior, 1) := by decide +kernel
theorem px_d313_64 : decode prog_3_method_18_code 64 = .ok (.istore_n 3, 1) := by decide +kernel
theorem px_d313_65 : decode prog_3_method_18_code 65 = .ok (.iinc 4 1, 3) := by decide +kernel
theorem px_d313_68 : decode prog_3_method_18_code 68 = .ok (.goto (-60), 3) := by decide +kernel
theorem px_d313_71 : decode prog_3_method_18_code 71 = .ok (.iload_n 3, 1) := by decide +kernel
theorem px_d313_72 : decode prog_3_method_18_code 72 = .ok (.ireturn, 1) := by decide +kernel
