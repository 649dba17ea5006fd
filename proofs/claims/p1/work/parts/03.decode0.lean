theorem px_d0_0 : decode prog_10_method_1_code 0 = .ok (.aload_n 0, 1) := by decide +kernel
theorem px_d0_1 : decode prog_10_method_1_code 1 = .ok (.invokespecial 3, 3) := by decide +kernel
theorem px_d0_4 : decode prog_10_method_1_code 4 = .ok (.aload_n 0, 1) := by decide +kernel
theorem px_d0_5 : decode prog_10_method_1_code 5 = .ok (.iconst 0, 1) := by decide +kernel
theorem px_d0_6 : decode prog_10_method_1_code 6 = .ok (.newarray .byte, 2) := by decide +kernel
theorem px_d0_8 : decode prog_10_method_1_code 8 = .ok (.putfield 9, 3) := by decide +kernel
theorem px_d0_11 : decode prog_10_method_1_code 11 = .ok (.return_, 1) := by decide +kernel
theorem px_d1_0 : decode prog_5_method_1_code 0 = .ok (.aload_n 0, 1) := by decide +kernel
theorem px_d1_1 : decode prog_5_method_1_code 1 = .ok (.invokespecial 3, 3) := by decide +kernel
theorem px_d1_4 : decode prog_5_method_1_code 4 = .ok (.aload_n 0, 1) := by decide +kernel
theorem px_d1_5 : decode prog_5_method_1_code 5 = .ok (.bipush 64, 2) := by decide +kernel
theorem px_d1_7 : decode prog_5_method_1_code 7 = .ok (.newarray .int, 2) := by decide +kernel
theorem px_d1_9 : decode prog_5_method_1_code 9 = .ok (.putfield 9, 3) := by decide +kernel
theorem px_d1_12 : decode prog_5_method_1_code 12 = .ok (.aload_n 0, 1) := by decide +kernel
theorem px_d1_13 : decode prog_5_method_1_code 13 = .ok (.sipush 182, 3) := by decide +kernel
theorem px_d1_16 : decode prog_5_method_1_code 16 = .ok (.newarray .int, 2) := by decide +kernel
theorem px_d1_18 : decode prog_5_method_1_code 18 = .ok (.putfield 15, 3) := by decide +kernel
theorem px_d1_21 : decode prog_5_method_1_code 21 = .ok (.aload_n 0, 1) := by decide +kernel
theorem px_d1_22 : decode prog_5_method_1_code 22 = .ok (.getfield 9, 3) := by decide +kernel
theorem px_d1_25 : decode prog_5_method_1_code 25 = .ok (.iconst 1, 1) := by decide +kernel
theorem px_d1_26 : decode prog_5_method_1_code 26 = .ok (.iconst 0, 1) := by decide +kernel
theorem px_d1_27 : decode prog_5_method_1_code 27 = .ok (.iastore, 1) := by decide +kernel
theorem px_d1_28 : decode prog_5_method_1_code 28 = .ok (.aload_n 0, 1) := by decide +kernel
theorem px_d1_29 : decode prog_5_method_1_code 29 = .ok (.getfield 15, 3) := by decide +kernel
theorem px_d1_32 : decode prog_5_method_1_code 32 = .ok (.iconst 1, 1) := by decide +kernel
theorem px_d1_33 : decode prog_5_method_1_code 33 = .ok (.iconst 1, 1) := by decide +kernel
theorem px_d1_34 : decode prog_5_method_1_code 34 = .ok (.iastore, 1) := by decide +kernel
theorem px_d1_35 : decode prog_5_method_1_code 35 = .ok (.aload_n 0, 1) := by decide +kernel
theorem px_d1_36 : decode prog_5_method_1_code 36 = .ok (.iconst 0, 1) := by decide +kernel
theorem px_d1_37 : decode prog_5_method_1_code 37 = .ok (.putfield 18, 3) := by decide +kernel
theorem px_d1_40 : decode prog_5_method_1_code 40 = .ok (.return_, 1) := by decide +kernel
theorem px_d2_0 : decode prog_12_method_1_code 0 = .ok (.aload_n 0, 1) := by decide +kernel
theorem px_d2_1 : decode prog_12_method_1_code 1 = .ok (.invokespecial 3, 3) := by decide +kernel
theorem px_d2_4 : decode prog_12_method_1_code 4 = .ok (.return_, 1) := by decide +kernel
theorem px_d3_0 : decode prog_4_method_1_code 0 = .ok (.aload_n 0, 1) := by decide +kernel
theorem px_d3_1 : decode prog_4_method_1_code 1 = .ok (.invokespecial 1, 3) := by decide +kernel
theorem px_d3_4 : decode prog_4_method_1_code 4 = .ok (.aload_n 0, 1) := by decide +kernel
theorem px_d3_5 : decode prog_4_method_1_code 5 = .ok (.aload_n 1, 1) := by decide +kernel
theorem px_d3_6 : decode prog_4_method_1_code 6 = .ok (.putfield 7, 3) := by decide +kernel
theorem px_d3_9 : decode prog_4_method_1_code 9 = .ok (.aload_n 0, 1) := by decide +kernel
theorem px_d3_10 : decode prog_4_method_1_code 10 = .ok (.new 13, 3) := by decide +kernel
theorem px_d3_13 : decode prog_4_method_1_code 13 = .ok (.dup, 1) := by decide +kernel
theorem px_d3_14 : decode prog_4_method_1_code 14 = .ok (.invokespecial 15, 3) := by decide +kernel
theorem px_d3_17 : decode prog_4_method_1_code 17 = .ok (.putfield 16, 3) := by decide +kernel
theorem px_d3_20 : decode prog_4_method_1_code 20 = .ok (.aload_n 0, 1) := by decide +kernel
theorem px_d3_21 : decode prog_4_method_1_code 21 = .ok (.new 13, 3) := by decide +kernel
theorem px_d3_24 : decode prog_4_method_1_code 24 = .ok (.dup, 1) := by decide +kernel
theorem px_d3_25 : decode prog_4_method_1_code 25 = .ok (.invokespecial 15, 3) := by decide +kernel
theorem px_d3_28 : decode prog_4_method_1_code 28 = .ok (.putfield 20, 3) := by decide +kernel
theorem px_d3_31 : decode prog_4_method_1_code 31 = .ok (.aload_n 0, 1) := by decide +kernel
theorem px_d3_32 : decode prog_4_method_1_code 32 = .ok (.new 13, 3) := by decide +kernel
theorem px_d3_35 : decode prog_4_method_1_code 35 = .ok (.dup, 1) := by decide +kernel
theorem px_d3_36 : decode prog_4_method_1_code 36 = .ok (.invokespecial 15, 3) := by decide +kernel
theorem px_d3_39 : decode prog_4_method_1_code 39 = .ok (.putfield 23, 3) := by decide +kernel
theorem px_d3_42 : decode prog_4_method_1_code 42 = .ok (.aload_n 0, 1) := by decide +kernel
theorem px_d3_43 : decode prog_4_method_1_code 43 = .ok (.new 13, 3) := by decide +kernel
theorem px_d3_46 : decode prog_4_method_1_code 46 = .ok (.dup, 1) := by decide +kernel
theorem px_d3_47 : decode prog_4_method_1_code 47 = .ok (.invokespecial 15, 3) := by decide +kernel
theorem px_d3_50 : decode prog_4_method_1_code 50 = .ok (.putfield 26, 3) := by decide +kernel
theorem px_d3_53 : decode prog_4_method_1_code 53 = .ok (.aload_n 0, 1) := by decide +kernel
theorem px_d3_54 : decode prog_4_method_1_code 54 = .ok (.bipush 32, 2) := by decide +kernel
theorem px_d3_56 : decode prog_4_method_1_code 56 = .ok (.newarray .long, 2) := by decide +kernel
theorem px_d3_58 : decode prog_4_method_1_code 58 = .ok (.putfield 29, 3) := by decide +kernel
theorem px_d3_61 : decode prog_4_method_1_code 61 = .ok (.aload_n 0, 1) := by decide +kernel
theorem px_d3_62 : decode prog_4_method_1_code 62 = .ok (.bipush 32, 2) := by decide +kernel
theorem px_d3_64 : decode prog_4_method_1_code 64 = .ok (.newarray .long, 2) := by decide +kernel
theorem px_d3_66 : decode prog_4_method_1_code 66 = .ok (.putfield 33, 3) := by decide +kernel
theorem px_d3_69 : decode prog_4_method_1_code 69 = .ok (.aload_n 0, 1) := by decide +kernel
theorem px_d3_70 : decode prog_4_method_1_code 70 = .ok (.bipush 32, 2) := by decide +kernel
theorem px_d3_72 : decode prog_4_method_1_code 72 = .ok (.newarray .long, 2) := by decide +kernel
theorem px_d3_74 : decode prog_4_method_1_code 74 = .ok (.putfield 36, 3) := by decide +kernel
theorem px_d3_77 : decode prog_4_method_1_code 77 = .ok (.return_, 1) := by decide +kernel
theorem px_d4_0 : decode prog_13_method_1_code 0 = .ok (.aload_n 0, 1) := by decide +kernel
theorem px_d4_1 : decode prog_13_method_1_code 1 = .ok (.invokespecial 3, 3) := by decide +kernel
theorem px_d4_4 : decode prog_13_method_1_code 4 = .ok (.aload_n 0, 1) := by decide +kernel
theorem px_d4_5 : decode prog_13_method_1_code 5 = .ok (.aload_n 1, 1) := by decide +kernel
theorem px_d4_6 : decode prog_13_method_1_code 6 = .ok (.putfield 9, 3) := by decide +kernel
theorem px_d4_9 : decode prog_13_method_1_code 9 = .ok (.aload_n 0, 1) := by decide +kernel
theorem px_d4_10 : decode prog_13_method_1_code 10 = .ok (.bipush 12, 2) := by decide +kernel
theorem px_d4_12 : decode prog_13_method_1_code 12 = .ok (.newarray .int, 2) := by decide +kernel
theorem px_d4_14 : decode prog_13_method_1_code 14 = .ok (.putfield 15, 3) := by decide +kernel
theorem px_d4_17 : decode prog_13_method_1_code 17 = .ok (.aload_n 0, 1) := by decide +kernel
theorem px_d4_18 : decode prog_13_method_1_code 18 = .ok (.sipush 144, 3) := by decide +kernel
theorem px_d4_21 : decode prog_13_method_1_code 21 = .ok (.newarray .int, 2) := by decide +kernel
theorem px_d4_23 : decode prog_13_method_1_code 23 = .ok (.putfield 19, 3) := by decide +kernel
theorem px_d4_26 : decode prog_13_method_1_code 26 = .ok (.aload_n 0, 1) := by decide +kernel
theorem px_d4_27 : decode prog_13_method_1_code 27 = .ok (.sipush 144, 3) := by decide +kernel
theorem px_d4_30 : decode prog_13_method_1_code 30 = .ok (.newarray .int, 2) := by decide +kernel
theorem px_d4_32 : decode prog_13_method_1_code 32 = .ok (.putfield 22, 3) := by decide +kernel
theorem px_d4_35 : decode prog_13_method_1_code 35 = .ok (.aload_n 0, 1) := by decide +kernel
theorem px_d4_36 : decode prog_13_method_1_code 36 = .ok (.bipush 16, 2) := by decide +kernel
theorem px_d4_38 : decode prog_13_method_1_code 38 = .ok (.newarray .int, 2) := by decide +kernel
theorem px_d4_40 : decode prog_13_method_1_code 40 = .ok (.putfield 25, 3) := by decide +kernel
theorem px_d4_43 : decode prog_13_method_1_code 43 = .ok (.aload_n 0, 1) := by decide +kernel
theorem px_d4_44 : decode prog_13_method_1_code 44 = .ok (.bipush 16, 2) := by decide +kernel
theorem px_d4_46 : decode prog_13_method_1_code 46 = .ok (.newarray .int, 2) := by decide +kernel
theorem px_d4_48 : decode prog_13_method_1_code 48 = .ok (.putfield 28, 3) := by decide +kernel
theorem px_d4_51 : decode prog_13_method_1_code 51 = .ok (.aload_n 0, 1) := by decide +kernel
theorem px_d4_52 : decode prog_13_method_1_code 52 = .ok (.bipush 16, 2) := by decide +kernel
theorem px_d4_54 : decode prog_13_method_1_code 54 = .ok (.newarray .int, 2) := by decide +kernel
theorem px_d4_56 : decode prog_13_method_1_code 56 = .ok (.putfield 31, 3) := by decide +kernel
theorem px_d4_59 : decode prog_13_method_1_code 59 = .ok (.aload_n 0, 1) := by decide +kernel
theorem px_d4_60 : decode prog_13_method_1_code 60 = .ok (.aconst_null, 1) := by decide +kernel
theorem px_d4_61 : decode prog_13_method_1_code 61 = .ok (.putfield 34, 3) := by decide +kernel
theorem px_d4_64 : decode prog_13_method_1_code 64 = .ok (.aload_n 0, 1) := by decide +kernel
theorem px_d4_65 : decode prog_13_method_1_code 65 = .ok (.aconst_null, 1) := by decide +kernel
theorem px_d4_66 : decode prog_13_method_1_code 66 = .ok (.putfield 38, 3) := by decide +kernel
theorem px_d4_69 : decode prog_13_method_1_code 69 = .ok (.aload_n 0, 1) := by decide +kernel
theorem px_d4_70 : decode prog_13_method_1_code 70 = .ok (.iconst (-1), 1) := by decide +kernel
theorem px_d4_71 : decode prog_13_method_1_code 71 = .ok (.putfield 41, 3) := by decide +kernel
theorem px_d4_74 : decode prog_13_method_1_code 74 = .ok (.aload_n 0, 1) := by decide +kernel
theorem px_d4_75 : decode prog_13_method_1_code 75 = .ok (.iconst (-1), 1) := by decide +kernel
theorem px_d4_76 : decode prog_13_method_1_code 76 = .ok (.putfield 45, 3) := by decide +kernel
theorem px_d4_79 : decode prog_13_method_1_code 79 = .ok (.return_, 1) := by decide +kernel
theorem px_d5_0 : decode prog_9_method_1_code 0 = .ok (.aload_n 0, 1) := by decide +kernel
theorem px_d5_1 : decode prog_9_method_1_code 1 = .ok (.invokespecial 3, 3) := by decide +kernel
theorem px_d5_4 : decode prog_9_method_1_code 4 = .ok (.aload_n 0, 1) := by decide +kernel
theorem px_d5_5 : decode prog_9_method_1_code 5 = .ok (.aload_n 1, 1) := by decide +kernel
theorem px_d5_6 : decode prog_9_method_1_code 6 = .ok (.putfield 9, 3) := by decide +kernel
theorem px_d5_9 : decode prog_9_method_1_code 9 = .ok (.aload_n 0, 1) := by decide +kernel
theorem px_d5_10 : decode prog_9_method_1_code 10 = .ok (.sipush 160, 3) := by decide +kernel
theorem px_d5_13 : decode prog_9_method_1_code 13 = .ok (.newarray .int, 2) := by decide +kernel
theorem px_d5_15 : decode prog_9_method_1_code 15 = .ok (.putfield 15, 3) := by decide +kernel
theorem px_d5_18 : decode prog_9_method_1_code 18 = .ok (.aload_n 0, 1) := by decide +kernel
theorem px_d5_19 : decode prog_9_method_1_code 19 = .ok (.getstatic 19, 3) := by decide +kernel
theorem px_d5_22 : decode prog_9_method_1_code 22 = .ok (.putfield 25, 3) := by decide +kernel
theorem px_d5_25 : decode prog_9_method_1_code 25 = .ok (.return_, 1) := by decide +kernel
theorem px_d6_0 : decode prog_7_method_1_code 0 = .ok (.aload_n 0, 1) := by decide +kernel
theorem px_d6_1 : decode prog_7_method_1_code 1 = .ok (.invokespecial 3, 3) := by decide +kernel
theorem px_d6_4 : decode prog_7_method_1_code 4 = .ok (.aload_n 0, 1) := by decide +kernel
theorem px_d6_5 : decode prog_7_method_1_code 5 = .ok (.sipush 256, 3) := by decide +kernel
theorem px_d6_8 : decode prog_7_method_1_code 8 = .ok (.newarray .byte, 2) := by decide +kernel
theorem px_d6_10 : decode prog_7_method_1_code 10 = .ok (.putfield 9, 3) := by decide +kernel
theorem px_d6_13 : decode prog_7_method_1_code 13 = .ok (.aload_n 0, 1) := by decide +kernel
theorem px_d6_14 : decode prog_7_method_1_code 14 = .ok (.bipush 48, 2) := by decide +kernel
theorem px_d6_16 : decode prog_7_method_1_code 16 = .ok (.newarray .byte, 2) := by decide +kernel
theorem px_d6_18 : decode prog_7_method_1_code 18 = .ok (.putfield 15, 3) := by decide +kernel
theorem px_d6_21 : decode prog_7_method_1_code 21 = .ok (.return_, 1) := by decide +kernel
theorem px_d7_0 : decode prog_1_method_1_code 0 = .ok (.aload_n 0, 1) := by decide +kernel
theorem px_d7_1 : decode prog_1_method_1_code 1 = .ok (.invokespecial 1, 3) := by decide +kernel
theorem px_d7_4 : decode prog_1_method_1_code 4 = .ok (.aload_n 0, 1) := by decide +kernel
theorem px_d7_5 : decode prog_1_method_1_code 5 = .ok (.sipush 512, 3) := by decide +kernel
theorem px_d7_8 : decode prog_1_method_1_code 8 = .ok (.newarray .byte, 2) := by decide +kernel
theorem px_d7_10 : decode prog_1_method_1_code 10 = .ok (.putfield 7, 3) := by decide +kernel
theorem px_d7_13 : decode prog_1_method_1_code 13 = .ok (.aload_n 0, 1) := by decide +kernel
theorem px_d7_14 : decode prog_1_method_1_code 14 = .ok (.iconst 0, 1) := by decide +kernel
theorem px_d7_15 : decode prog_1_method_1_code 15 = .ok (.putfield 13, 3) := by decide +kernel
theorem px_d7_18 : decode prog_1_method_1_code 18 = .ok (.aload_n 0, 1) := by decide +kernel
theorem px_d7_19 : decode prog_1_method_1_code 19 = .ok (.iconst (-1), 1) := by decide +kernel
theorem px_d7_20 : decode prog_1_method_1_code 20 = .ok (.putfield 17, 3) := by decide +kernel
theorem px_d7_23 : decode prog_1_method_1_code 23 = .ok (.aload_n 0, 1) := by decide +kernel
theorem px_d7_24 : decode prog_1_method_1_code 24 = .ok (.iconst 0, 1) := by decide +kernel
theorem px_d7_25 : decode prog_1_method_1_code 25 = .ok (.putfield 20, 3) := by decide +kernel
theorem px_d7_28 : decode prog_1_method_1_code 28 = .ok (.aload_n 0, 1) := by decide +kernel
theorem px_d7_29 : decode prog_1_method_1_code 29 = .ok (.iconst 0, 1) := by decide +kernel
theorem px_d7_30 : decode prog_1_method_1_code 30 = .ok (.putfield 23, 3) := by decide +kernel
theorem px_d7_33 : decode prog_1_method_1_code 33 = .ok (.aload_n 0, 1) := by decide +kernel
theorem px_d7_34 : decode prog_1_method_1_code 34 = .ok (.aconst_null, 1) := by decide +kernel
theorem px_d7_35 : decode prog_1_method_1_code 35 = .ok (.putfield 26, 3) := by decide +kernel
theorem px_d7_38 : decode prog_1_method_1_code 38 = .ok (.aload_n 0, 1) := by decide +kernel
theorem px_d7_39 : decode prog_1_method_1_code 39 = .ok (.bipush 26, 2) := by decide +kernel
theorem px_d7_41 : decode prog_1_method_1_code 41 = .ok (.anewarray 30, 3) := by decide +kernel
theorem px_d7_44 : decode prog_1_method_1_code 44 = .ok (.putfield 32, 3) := by decide +kernel
theorem px_d7_47 : decode prog_1_method_1_code 47 = .ok (.aload_n 0, 1) := by decide +kernel
theorem px_d7_48 : decode prog_1_method_1_code 48 = .ok (.sipush 156, 3) := by decide +kernel
theorem px_d7_51 : decode prog_1_method_1_code 51 = .ok (.newarray .int, 2) := by decide +kernel
theorem px_d7_53 : decode prog_1_method_1_code 53 = .ok (.putfield 36, 3) := by decide +kernel
theorem px_d7_56 : decode prog_1_method_1_code 56 = .ok (.aload_n 0, 1) := by decide +kernel
theorem px_d7_57 : decode prog_1_method_1_code 57 = .ok (.new 40, 3) := by decide +kernel
theorem px_d7_60 : decode prog_1_method_1_code 60 = .ok (.dup, 1) := by decide +kernel
theorem px_d7_61 : decode prog_1_method_1_code 61 = .ok (.invokespecial 42, 3) := by decide +kernel
theorem px_d7_64 : decode prog_1_method_1_code 64 = .ok (.putfield 43, 3) := by decide +kernel
theorem px_d7_67 : decode prog_1_method_1_code 67 = .ok (.aload_n 0, 1) := by decide +kernel
theorem px_d7_68 : decode prog_1_method_1_code 68 = .ok (.new 47, 3) := by decide +kernel
theorem px_d7_71 : decode prog_1_method_1_code 71 = .ok (.dup, 1) := by decide +kernel
theorem px_d7_72 : decode prog_1_method_1_code 72 = .ok (.aload_n 0, 1) := by decide +kernel
theorem px_d7_73 : decode prog_1_method_1_code 73 = .ok (.getfield 43, 3) := by decide +kernel
theorem px_d7_76 : decode prog_1_method_1_code 76 = .ok (.invokespecial 49, 3) := by decide +kernel
theorem px_d7_79 : decode prog_1_method_1_code 79 = .ok (.putfield 52, 3) := by decide +kernel
theorem px_d7_82 : decode prog_1_method_1_code 82 = .ok (.aload_n 0, 1) := by decide +kernel
theorem px_d7_83 : decode prog_1_method_1_code 83 = .ok (.new 56, 3) := by decide +kernel
theorem px_d7_86 : decode prog_1_method_1_code 86 = .ok (.dup, 1) := by decide +kernel
theorem px_d7_87 : decode prog_1_method_1_code 87 = .ok (.aload_n 0, 1) := by decide +kernel
theorem px_d7_88 : decode prog_1_method_1_code 88 = .ok (.getfield 43, 3) := by decide +kernel
theorem px_d7_91 : decode prog_1_method_1_code 91 = .ok (.invokespecial 58, 3) := by decide +kernel
theorem px_d7_94 : decode prog_1_method_1_code 94 = .ok (.putfield 59, 3) := by decide +kernel
theorem px_d7_97 : decode prog_1_method_1_code 97 = .ok (.aload_n 0, 1) := by decide +kernel
theorem px_d7_98 : decode prog_1_method_1_code 98 = .ok (.new 63, 3) := by decide +kernel
theorem px_d7_101 : decode prog_1_method_1_code 101 = .ok (.dup, 1) := by decide +kernel
theorem px_d7_102 : decode prog_1_method_1_code 102 = .ok (.invokespecial 65, 3) := by decide +kernel
theorem px_d7_105 : decode prog_1_method_1_code 105 = .ok (.putfield 66, 3) := by decide +kernel
theorem px_d7_108 : decode prog_1_method_1_code 108 = .ok (.aload_n 0, 1) := by decide +kernel
theorem px_d7_109 : decode prog_1_method_1_code 109 = .ok (.new 70, 3) := by decide +kernel
theorem px_d7_112 : decode prog_1_method_1_code 112 = .ok (.dup, 1) := by decide +kernel
theorem px_d7_113 : decode prog_1_method_1_code 113 = .ok (.aload_n 0, 1) := by decide +kernel
theorem px_d7_114 : decode prog_1_method_1_code 114 = .ok (.getfield 66, 3) := by decide +kernel
theorem px_d7_117 : decode prog_1_method_1_code 117 = .ok (.invokespecial 72, 3) := by decide +kernel
theorem px_d7_120 : decode prog_1_method_1_code 120 = .ok (.putfield 75, 3) := by decide +kernel
theorem px_d7_123 : decode prog_1_method_1_code 123 = .ok (.aload_n 0, 1) := by decide +kernel
theorem px_d7_124 : decode prog_1_method_1_code 124 = .ok (.new 79, 3) := by decide +kernel
theorem px_d7_127 : decode prog_1_method_1_code 127 = .ok (.dup, 1) := by decide +kernel
theorem px_d7_128 : decode prog_1_method_1_code 128 = .ok (.invokespecial 81, 3) := by decide +kernel
theorem px_d7_131 : decode prog_1_method_1_code 131 = .ok (.putfield 82, 3) := by decide +kernel
theorem px_d7_134 : decode prog_1_method_1_code 134 = .ok (.return_, 1) := by decide +kernel
theorem px_d11_0 : decode prog_1_method_26_code 0 = .ok (.bipush 24, 2) := by decide +kernel
theorem px_d11_2 : decode prog_1_method_26_code 2 = .ok (.istore_n 2, 1) := by decide +kernel
theorem px_d11_3 : decode prog_1_method_26_code 3 = .ok (.iload_n 2, 1) := by decide +kernel
theorem px_d11_4 : decode prog_1_method_26_code 4 = .ok (.ifCond .lt 32, 3) := by decide +kernel
theorem px_d11_7 : decode prog_1_method_26_code 7 = .ok (.aload_n 0, 1) := by decide +kernel
theorem px_d11_8 : decode prog_1_method_26_code 8 = .ok (.getfield 7, 3) := by decide +kernel
theorem px_d11_11 : decode prog_1_method_26_code 11 = .ok (.aload_n 0, 1) := by decide +kernel
theorem px_d11_12 : decode prog_1_method_26_code 12 = .ok (.getfield 13, 3) := by decide +kernel
theorem px_d11_15 : decode prog_1_method_26_code 15 = .ok (.iload_n 1, 1) := by decide +kernel
theorem px_d11_16 : decode prog_1_method_26_code 16 = .ok (.iload_n 2, 1) := by decide +kernel
theorem px_d11_17 : decode prog_1_method_26_code 17 = .ok (.ishr, 1) := by decide +kernel
theorem px_d11_18 : decode prog_1_method_26_code 18 = .ok (.i2b, 1) := by decide +kernel
theorem px_d11_19 : decode prog_1_method_26_code 19 = .ok (.bastore, 1) := by decide +kernel
theorem px_d11_20 : decode prog_1_method_26_code 20 = .ok (.aload_n 0, 1) := by decide +kernel
theorem px_d11_21 : decode prog_1_method_26_code 21 = .ok (.dup, 1) := by decide +kernel
theorem px_d11_22 : decode prog_1_method_26_code 22 = .ok (.getfield 13, 3) := by decide +kernel
theorem px_d11_25 : decode prog_1_method_26_code 25 = .ok (.iconst 1, 1) := by decide +kernel
theorem px_d11_26 : decode prog_1_method_26_code 26 = .ok (.iadd, 1) := by decide +kernel
theorem px_d11_27 : decode prog_1_method_26_code 27 = .ok (.putfield 13, 3) := by decide +kernel
theorem px_d11_30 : decode prog_1_method_26_code 30 = .ok (.iinc 2 (-8), 3) := by decide +kernel
theorem px_d11_33 : decode prog_1_method_26_code 33 = .ok (.goto (-30), 3) := by decide +kernel
theorem px_d11_36 : decode prog_1_method_26_code 36 = .ok (.return_, 1) := by decide +kernel
theorem px_d12_0 : decode prog_1_method_2_code 0 = .ok (.aload_n 0, 1) := by decide +kernel
theorem px_d12_1 : decode prog_1_method_2_code 1 = .ok (.getfield 13, 3) := by decide +kernel
theorem px_d12_4 : decode prog_1_method_2_code 4 = .ok (.bipush 20, 2) := by decide +kernel
theorem px_d12_6 : decode prog_1_method_2_code 6 = .ok (.iadd, 1) := by decide +kernel
theorem px_d12_7 : decode prog_1_method_2_code 7 = .ok (.sipush 16384, 3) := by decide +kernel
theorem px_d12_10 : decode prog_1_method_2_code 10 = .ok (.if_icmp .le 13, 3) := by decide +kernel
theorem px_d12_23 : decode prog_1_method_2_code 23 = .ok (.aload_n 0, 1) := by decide +kernel
theorem px_d12_24 : decode prog_1_method_2_code 24 = .ok (.getfield 13, 3) := by decide +kernel
theorem px_d12_27 : decode prog_1_method_2_code 27 = .ok (.bipush 20, 2) := by decide +kernel
theorem px_d12_29 : decode prog_1_method_2_code 29 = .ok (.iadd, 1) := by decide +kernel
theorem px_d12_30 : decode prog_1_method_2_code 30 = .ok (.aload_n 0, 1) := by decide +kernel
theorem px_d12_31 : decode prog_1_method_2_code 31 = .ok (.getfield 7, 3) := by decide +kernel
theorem px_d12_34 : decode prog_1_method_2_code 34 = .ok (.arraylength, 1) := by decide +kernel
theorem px_d12_35 : decode prog_1_method_2_code 35 = .ok (.if_icmp .le 21, 3) := by decide +kernel
theorem px_d12_56 : decode prog_1_method_2_code 56 = .ok (.aload_n 0, 1) := by decide +kernel
theorem px_d12_57 : decode prog_1_method_2_code 57 = .ok (.iload_n 1, 1) := by decide +kernel
theorem px_d12_58 : decode prog_1_method_2_code 58 = .ok (.invokevirtual 99, 3) := by decide +kernel
theorem px_d12_61 : decode prog_1_method_2_code 61 = .ok (.aload_n 0, 1) := by decide +kernel
theorem px_d12_62 : decode prog_1_method_2_code 62 = .ok (.iload_n 2, 1) := by decide +kernel
theorem px_d12_63 : decode prog_1_method_2_code 63 = .ok (.invokevirtual 99, 3) := by decide +kernel
theorem px_d12_66 : decode prog_1_method_2_code 66 = .ok (.aload_n 0, 1) := by decide +kernel
theorem px_d12_67 : decode prog_1_method_2_code 67 = .ok (.iload_n 3, 1) := by decide +kernel
theorem px_d12_68 : decode prog_1_method_2_code 68 = .ok (.invokevirtual 99, 3) := by decide +kernel
theorem px_d12_71 : decode prog_1_method_2_code 71 = .ok (.aload_n 0, 1) := by decide +kernel
theorem px_d12_72 : decode prog_1_method_2_code 72 = .ok (.iload 4, 2) := by decide +kernel
theorem px_d12_74 : decode prog_1_method_2_code 74 = .ok (.invokevirtual 99, 3) := by decide +kernel
theorem px_d12_77 : decode prog_1_method_2_code 77 = .ok (.aload_n 0, 1) := by decide +kernel
theorem px_d12_78 : decode prog_1_method_2_code 78 = .ok (.iload 5, 2) := by decide +kernel
theorem px_d12_80 : decode prog_1_method_2_code 80 = .ok (.invokevirtual 99, 3) := by decide +kernel
theorem px_d12_83 : decode prog_1_method_2_code 83 = .ok (.return_, 1) := by decide +kernel
theorem px_d13_0 : decode prog_1_method_3_code 0 = .ok (.iload_n 1, 1) := by decide +kernel
theorem px_d13_1 : decode prog_1_method_3_code 1 = .ok (.ifCond .lt 11, 3) := by decide +kernel
theorem px_d13_4 : decode prog_1_method_3_code 4 = .ok (.iload_n 1, 1) := by decide +kernel
theorem px_d13_5 : decode prog_1_method_3_code 5 = .ok (.aload_n 0, 1) := by decide +kernel
theorem px_d13_6 : decode prog_1_method_3_code 6 = .ok (.getfield 13, 3) := by decide +kernel
theorem px_d13_9 : decode prog_1_method_3_code 9 = .ok (.if_icmp .le 13, 3) := by decide +kernel
theorem px_d13_22 : decode prog_1_method_3_code 22 = .ok (.aload_n 0, 1) := by decide +kernel
theorem px_d13_23 : decode prog_1_method_3_code 23 = .ok (.getfield 13, 3) := by decide +kernel
theorem px_d13_26 : decode prog_1_method_3_code 26 = .ok (.istore_n 2, 1) := by decide +kernel
theorem px_d13_27 : decode prog_1_method_3_code 27 = .ok (.aload_n 0, 1) := by decide +kernel
theorem px_d13_28 : decode prog_1_method_3_code 28 = .ok (.iload_n 1, 1) := by decide +kernel
theorem px_d13_29 : decode prog_1_method_3_code 29 = .ok (.putfield 13, 3) := by decide +kernel
theorem px_d13_32 : decode prog_1_method_3_code 32 = .ok (.iload_n 2, 1) := by decide +kernel
theorem px_d13_33 : decode prog_1_method_3_code 33 = .ok (.ireturn, 1) := by decide +kernel
theorem px_d14_0 : decode prog_10_method_6_code 0 = .ok (.iconst 0, 1) := by decide +kernel
theorem px_d14_1 : decode prog_10_method_6_code 1 = .ok (.istore_n 1, 1) := by decide +kernel
theorem px_d14_2 : decode prog_10_method_6_code 2 = .ok (.aload_n 0, 1) := by decide +kernel
theorem px_d14_3 : decode prog_10_method_6_code 3 = .ok (.getfield 19, 3) := by decide +kernel
theorem px_d14_6 : decode prog_10_method_6_code 6 = .ok (.aload_n 0, 1) := by decide +kernel
theorem px_d14_7 : decode prog_10_method_6_code 7 = .ok (.getfield 15, 3) := by decide +kernel
theorem px_d14_10 : decode prog_10_method_6_code 10 = .ok (.if_icmp .ge 77, 3) := by decide +kernel
theorem px_d14_87 : decode prog_10_method_6_code 87 = .ok (.return_, 1) := by decide +kernel
theorem px_d15_0 : decode prog_10_method_3_code 0 = .ok (.aload_n 0, 1) := by decide +kernel
theorem px_d15_1 : decode prog_10_method_3_code 1 = .ok (.invokevirtual 25, 3) := by decide +kernel
theorem px_d15_4 : decode prog_10_method_3_code 4 = .ok (.aload_n 0, 1) := by decide +kernel
theorem px_d15_5 : decode prog_10_method_3_code 5 = .ok (.aload_n 0, 1) := by decide +kernel
theorem px_d15_6 : decode prog_10_method_3_code 6 = .ok (.getfield 19, 3) := by decide +kernel
theorem px_d15_9 : decode prog_10_method_3_code 9 = .ok (.putfield 28, 3) := by decide +kernel
theorem px_d15_12 : decode prog_10_method_3_code 12 = .ok (.aload_n 0, 1) := by decide +kernel
theorem px_d15_13 : decode prog_10_method_3_code 13 = .ok (.getfield 19, 3) := by decide +kernel
theorem px_d15_16 : decode prog_10_method_3_code 16 = .ok (.aload_n 0, 1) := by decide +kernel
theorem px_d15_17 : decode prog_10_method_3_code 17 = .ok (.getfield 15, 3) := by decide +kernel
theorem px_d15_20 : decode prog_10_method_3_code 20 = .ok (.if_icmp .lt 9, 3) := by decide +kernel
theorem px_d15_23 : decode prog_10_method_3_code 23 = .ok (.aload_n 0, 1) := by decide +kernel
theorem px_d15_24 : decode prog_10_method_3_code 24 = .ok (.iconst 0, 1) := by decide +kernel
theorem px_d15_25 : decode prog_10_method_3_code 25 = .ok (.putfield 31, 3) := by decide +kernel
theorem px_d15_28 : decode prog_10_method_3_code 28 = .ok (.return_, 1) := by decide +kernel
theorem px_d16_0 : decode prog_10_method_2_code 0 = .ok (.aload_n 0, 1) := by decide +kernel
theorem px_d16_1 : decode prog_10_method_2_code 1 = .ok (.aload_n 1, 1) := by decide +kernel
theorem px_d16_2 : decode prog_10_method_2_code 2 = .ok (.putfield 9, 3) := by decide +kernel
theorem px_d16_5 : decode prog_10_method_2_code 5 = .ok (.aload_n 0, 1) := by decide +kernel
theorem px_d16_6 : decode prog_10_method_2_code 6 = .ok (.iload_n 2, 1) := by decide +kernel
theorem px_d16_7 : decode prog_10_method_2_code 7 = .ok (.putfield 15, 3) := by decide +kernel
theorem px_d16_10 : decode prog_10_method_2_code 10 = .ok (.aload_n 0, 1) := by decide +kernel
