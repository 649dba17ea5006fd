theorem px_d0_0 : decode prog_10_method_1_code 0 = .ok (.aload_n 0, 1) := by decide +kernel
theorem px_d0_1 : decode prog_10_method_1_code 1 = .ok (.invokespecial 3, 3) := by decide +kernel
theorem px_d0_4 : decode prog_10_method_1_code 4 = .ok (.aload_n 0, 1) := by decide +kernel
theorem px_d0_5 : decode prog_10_method_1_code 5 = .ok (.iconst 0, 1) := by decide +kernel
theorem px_d0_6 : decode prog_10_method_1_code 6 = .ok (.newarray .byte, 2) := by decide +kernel
theorem px_d0_8 : decode prog_10_method_1_code 8 = .ok (.putfield 9, 3) := by decide +kernel
theorem px_d0_11 : decode prog_10_method_1_code 11 = .ok (.return_, 1) := by decide +kernel
theorem px_d1_0 : decode prog_5_method_1_code 0 = .ok (.aload_n 0, 1) := by decide +kernel
theorem px_d1_1 : decode prog_5_method_1_code 1 = .ok (.invokespecial 3, 3) := by decide +kernel
theorem px_d1_4 : decode prog_5_method_1_code 4 = .ok (.aload_n 0, 1) := by decide +kernel
theorem px_d1_5 : decode prog_5_method_1_code 5 = .ok (.bipush 64, 2) := by decide +kernel
theorem px_d1_7 : decode prog_5_method_1_code 7 = .ok (.newarray .int, 2) := by decide +kernel
theorem px_d1_9 : decode prog_5_method_1_code 9 = .ok (.putfield 9, 3) := by decide +kernel
theorem px_d1_12 : decode prog_5_method_1_code 12 = .ok (.aload_n 0, 1) := by decide +kernel
theorem px_d1_13 : decode prog_5_method_1_code 13 = .ok (.sipush 182, 3) := by decide +kernel
theorem px_d1_16 : decode prog_5_method_1_code 16 = .ok (.newarray .int, 2) := by decide +kernel
theorem px_d1_18 : decode prog_5_method_1_code 18 = .ok (.putfield 15, 3) := by decide +kernel
theorem px_d1_21 : decode prog_5_method_1_code 21 = .ok (.aload_n 0, 1) := by decide +kernel
theorem px_d1_22 : decode prog_5_method_1_code 22 = .ok (.getfield 9, 3) := by decide +kernel
theorem px_d1_25 : decode prog_5_method_1_code 25 = .ok (.iconst 1, 1) := by decide +kernel
theorem px_d1_26 : decode prog_5_method_1_code 26 = .ok (.iconst 0, 1) := by decide +kernel
theorem px_d1_27 : decode prog_5_method_1_code 27 = .ok (.iastore, 1) := by decide +kernel
theorem px_d1_28 : decode prog_5_method_1_code 28 = .ok (.aload_n 0, 1) := by decide +kernel
theorem px_d1_29 : decode prog_5_method_1_code 29 = .ok (.getfield 15, 3) := by decide +kernel
theorem px_d1_32 : decode prog_5_method_1_code 32 = .ok (.iconst 1, 1) := by decide +kernel
theorem px_d1_33 : decode prog_5_method_1_code 33 = .ok (.iconst 1, 1) := by decide +kernel
theorem px_d1_34 : decode prog_5_method_1_code 34 = .ok (.iastore, 1) := by decide +kernel
theorem px_d1_35 : decode prog_5_method_1_code 35 = .ok (.aload_n 0, 1) := by decide +kernel
theorem px_d1_36 : decode prog_5_method_1_code 36 = .ok (.iconst 0, 1) := by decide +kernel
theorem px_d1_37 : decode prog_5_method_1_code 37 = .ok (.putfield 18, 3) := by decide +kernel
theorem px_d1_40 : decode prog_5_method_1_code 40 = .ok (.return_, 1) := by decide +kernel
theorem px_d2_0 : decode prog_12_method_1_code 0 = .ok (.aload_n 0, 1) := by decide +kernel
theorem px_d2_1 : decode prog_12_method_1_code 1 = .ok (.invokespecial 3, 3) := by decide +kernel
theorem px_d2_4 : decode prog_12_method_1_code 4 = .ok (.return_, 1) := by decide +kernel
theorem px_d3_0 : decode prog_4_method_1_code 0 = .ok (.aload_n 0, 1) := by decide +kernel
theorem px_d3_1 : decode prog_4_method_1_code 1 = .ok (.invokespecial 1, 3) := by decide +kernel
theorem px_d3_4 : decode prog_4_method_1_code 4 = .ok (.aload_n 0, 1) := by decide +kernel
theorem px_d3_5 : decode prog_4_method_1_code 5 = .ok (.aload_n 1, 1) := by decide +kernel
theorem px_d3_6 : decode prog_4_method_1_code 6 = .ok (.putfield 7, 3) := by decide +kernel
theorem px_d3_9 : decode prog_4_method_1_code 9 = .ok (.aload_n 0, 1) := by decide +kernel
theorem px_d3_10 : decode prog_4_method_1_code 10 = .ok (.new 13, 3) := by decide +kernel
theorem px_d3_13 : decode prog_4_method_1_code 13 = .ok (.dup, 1) := by decide +kernel
theorem px_d3_14 : decode prog_4_method_1_code 14 = .ok (.invokespecial 15, 3) := by decide +kernel
theorem px_d3_17 : decode prog_4_method_1_code 17 = .ok (.putfield 16, 3) := by decide +kernel
theorem px_d3_20 : decode prog_4_method_1_code 20 = .ok (.aload_n 0, 1) := by decide +kernel
theorem px_d3_21 : decode prog_4_method_1_code 21 = .ok (.new 13, 3) := by decide +kernel
theorem px_d3_24 : decode prog_4_method_1_code 24 = .ok (.dup, 1) := by decide +kernel
theorem px_d3_25 : decode prog_4_method_1_code 25 = .ok (.invokespecial 15, 3) := by decide +kernel
theorem px_d3_28 : decode prog_4_method_1_code 28 = .ok (.putfield 20, 3) := by decide +kernel
theorem px_d3_31 : decode prog_4_method_1_code 31 = .ok (.aload_n 0, 1) := by decide +kernel
theorem px_d3_32 : decode prog_4_method_1_code 32 = .ok (.new 13, 3) := by decide +kernel
theorem px_d3_35 : decode prog_4_method_1_code 35 = .ok (.dup, 1) := by decide +kernel
theorem px_d3_36 : decode prog_4_method_1_code 36 = .ok (.invokespecial 15, 3) := by decide +kernel
theorem px_d3_39 : decode prog_4_method_1_code 39 = .ok (.putfield 23, 3) := by decide +kernel
theorem px_d3_42 : decode prog_4_method_1_code 42 = .ok (.aload_n 0, 1) := by decide +kernel
theorem px_d3_43 : decode prog_4_method_1_code 43 = .ok (.new 13, 3) := by decide +kernel
theorem px_d3_46 : decode prog_4_method_1_code 46 = .ok (.dup, 1) := by decide +kernel
theorem px_d3_47 : decode prog_4_method_1_code 47 = .ok (.invokespecial 15, 3) := by decide +kernel
theorem px_d3_50 : decode prog_4_method_1_code 50 = .ok (.putfield 26, 3) := by decide +kernel
theorem px_d3_53 : decode prog_4_method_1_code 53 = .ok (.aload_n 0, 1) := by decide +kernel
theorem px_d3_54 : decode prog_4_method_1_code 54 = .ok (.bipush 32, 2) := by decide +kernel
theorem px_d3_56 : decode prog_4_method_1_code 56 = .ok (.newarray .long, 2) := by decide +kernel
theorem px_d3_58 : decode prog_4_method_1_code 58 = .ok (.putfield 29, 3) := by decide +kernel
theorem px_d3_61 : decode prog_4_method_1_code 61 = .ok (.aload_n 0, 1) := by decide +kernel
theorem px_d3_62 : decode prog_4_method_1_code 62 = .ok (.bipush 32, 2) := by decide +kernel
theorem px_d3_64 : decode prog_4_method_1_code 64 = .ok (.newarray .long, 2) := by decide +kernel
theorem px_d3_66 : decode prog_4_method_1_code 66 = .ok (.putfield 33, 3) := by decide +kernel
theorem px_d3_69 : decode prog_4_method_1_code 69 = .ok (.aload_n 0, 1) := by decide +kernel
theorem px_d3_70 : decode prog_4_method_1_code 70 = .ok (.bipush 32, 2) := by decide +kernel
theorem px_d3_72 : decode prog_4_method_1_code 72 = .ok (.newarray .long, 2) := by decide +kernel
theorem px_d3_74 : decode prog_4_method_1_code 74 = .ok (.putfield 36, 3) := by decide +kernel
theorem px_d3_77 : decode prog_4_method_1_code 77 = .ok (.return_, 1) := by decide +kernel
theorem px_d4_0 : decode prog_13_method_1_code 0 = .ok (.aload_n 0, 1) := by decide +kernel
theorem px_d4_1 : decode prog_13_method_1_code 1 = .ok (.invokespecial 3, 3) := by decide +kernel
theorem px_d4_4 : decode prog_13_method_1_code 4 = .ok (.aload_n 0, 1) := by decide +kernel
theorem px_d4_5 : decode prog_13_method_1_code 5 = .ok (.aload_n 1, 1) := by decide +kernel
theorem px_d4_6 : decode prog_13_method_1_code 6 = .ok (.putfield 9, 3) := by decide +kernel
theorem px_d4_9 : decode prog_13_method_1_code 9 = .ok (.aload_n 0, 1) := by decide +kernel
theorem px_d4_10 : decode prog_13_method_1_code 10 = .ok (.bipush 12, 2) := by decide +kernel
theorem px_d4_12 : decode prog_13_method_1_code 12 = .ok (.newarray .int, 2) := by decide +kernel
theorem px_d4_14 : decode prog_13_method_1_code 14 = .ok (.putfield 15, 3) := by decide +kernel
theorem px_d4_17 : decode prog_13_method_1_code 17 = .ok (.aload_n 0, 1) := by decide +kernel
theorem px_d4_18 : decode prog_13_method_1_code 18 = .ok (.sipush 144, 3) := by decide +kernel
theorem px_d4_21 : decode prog_13_method_1_code 21 = .ok (.newarray .int, 2) := by decide +kernel
theorem px_d4_23 : decode prog_13_method_1_code 23 = .ok (.putfield 19, 3) := by decide +kernel
theorem px_d4_26 : decode prog_13_method_1_code 26 = .ok (.aload_n 0, 1) := by decide +kernel
theorem px_d4_27 : decode prog_13_method_1_code 27 = .ok (.sipush 144, 3) := by decide +kernel
theorem px_d4_30 : decode prog_13_method_1_code 30 = .ok (.newarray .int, 2) := by decide +kernel
theorem px_d4_32 : decode prog_13_method_1_code 32 = .ok (.putfield 22, 3) := by decide +kernel
theorem px_d4_35 : decode prog_13_method_1_code 35 = .ok (.aload_n 0, 1) := by decide +kernel
theorem px_d4_36 : decode prog_13_method_1_code 36 = .ok (.bipush 16, 2) := by decide +kernel
theorem px_d4_38 : decode prog_13_method_1_code 38 = .ok (.newarray .int, 2) := by decide +kernel
theorem px_d4_40 : decode prog_13_method_1_code 40 = .ok (.putfield 25, 3) := by decide +kernel
theorem px_d4_43 : decode prog_13_method_1_code 43 = .ok (.aload_n 0, 1) := by decide +kernel
theorem px_d4_44 : decode prog_13_method_1_code 44 = .ok (.bipush 16, 2) := by decide +kernel
theorem px_d4_46 : decode prog_13_method_1_code 46 = .ok (.newarray .int, 2) := by decide +kernel
theorem px_d4_48 : decode prog_13_method_1_code 48 = .ok (.putfield 28, 3) := by decide +kernel
theorem px_d4_51 : decode prog_13_method_1_code 51 = .ok (.aload_n 0, 1) := by decide +kernel
theorem px_d4_52 : decode prog_13_method_1_code 52 = .ok (.bipush 16, 2) := by decide +kernel
theorem px_d4_54 : decode prog_13_method_1_code 54 = .ok (.newarray .int, 2) := by decide +kernel
theorem px_d4_56 : decode prog_13_method_1_code 56 = .ok (.putfield 31, 3) := by decide +kernel
theorem px_d4_59 : decode prog_13_method_1_code 59 = .ok (.aload_n 0, 1) := by decide +kernel
theorem px_d4_60 : decode prog_13_method_1_code 60 = .ok (.aconst_null, 1) := by decide +kernel
theorem px_d4_61 : decode prog_13_method_1_code 61 = .ok (.putfield 34, 3) := by decide +kernel
theorem px_d4_64 : decode prog_13_method_1_code 64 = .ok (.aload_n 0, 1) := by decide +kernel
theorem px_d4_65 : decode prog_13_method_1_code 65 = .ok (.aconst_null, 1) := by decide +kernel
theorem px_d4_66 : decode prog_13_method_1_code 66 = .ok (.putfield 38, 3) := by decide +kernel
theorem px_d4_69 : decode prog_13_method_1_code 69 = .ok (.aload_n 0, 1) := by decide +kernel
theorem px_d4_70 : decode prog_13_method_1_code 70 = .ok (.iconst (-1), 1) := by decide +kernel
theorem px_d4_71 : decode prog_13_method_1_code 71 = .ok (.putfield 41, 3) := by decide +kernel
theorem px_d4_74 : decode prog_13_method_1_code 74 = .ok (.aload_n 0, 1) := by decide +kernel
theorem px_d4_75 : decode prog_13_method_1_code 75 = .ok (.iconst (-1), 1) := by decide +kernel
theorem px_d4_76 : decode prog_13_method_1_code 76 = .ok (.putfield 45, 3) := by decide +kernel
theorem px_d4_79 : decode prog_13_method_1_code 79 = .ok (.return_, 1) := by decide +kernel
theorem px_d5_0 : decode prog_9_method_1_code 0 = .ok (.aload_n 0, 1) := by decide +kernel
theorem px_d5_1 : decode prog_9_method_1_code 1 = .ok (.invokespecial 3, 3) := by decide +kernel
theorem px_d5_4 : decode prog_9_method_1_code 4 = .ok (.aload_n 0, 1) := by decide +kernel
theorem px_d5_5 : decode prog_9_method_1_code 5 = .ok (.aload_n 1, 1) := by decide +kernel
theorem px_d5_6 : decode prog_9_method_1_code 6 = .ok (.putfield 9, 3) := by decide +kernel
theorem px_d5_9 : decode prog_9_method_1_code 9 = .ok (.aload_n 0, 1) := by decide +kernel
theorem px_d5_10 : decode prog_9_method_1_code 10 = .ok (.sipush 160, 3) := by decide +kernel
theorem px_d5_13 : decode prog_9_method_1_code 13 = .ok (.newarray .int, 2) := by decide +kernel
theorem px_d5_15 : decode prog_9_method_1_code 15 = .ok (.putfield 15, 3) := by decide +kernel
theorem px_d5_18 : decode prog_9_method_1_code 18 = .ok (.aload_n 0, 1) := by decide +kernel
theorem px_d5_19 : decode prog_9_method_1_code 19 = .ok (.getstatic 19, 3) := by decide +kernel
theorem px_d5_22 : decode prog_9_method_1_code 22 = .ok (.putfield 25, 3) := by decide +kernel
theorem px_d5_25 : decode prog_9_method_1_code 25 = .ok (.return_, 1) := by decide +kernel
theorem px_d6_0 : decode prog_7_method_1_code 0 = .ok (.aload_n 0, 1) := by decide +kernel
theorem px_d6_1 : decode prog_7_method_1_code 1 = .ok (.invokespecial 3, 3) := by decide +kernel
theorem px_d6_4 : decode prog_7_method_1_code 4 = .ok (.aload_n 0, 1) := by decide +kernel
theorem px_d6_5 : decode prog_7_method_1_code 5 = .ok (.sipush 256, 3) := by decide +kernel
theorem px_d6_8 : decode prog_7_method_1_code 8 = .ok (.newarray .byte, 2) := by decide +kernel
theorem px_d6_10 : decode prog_7_method_1_code 10 = .ok (.putfield 9, 3) := by decide +kernel
theorem px_d6_13 : decode prog_7_method_1_code 13 = .ok (.aload_n 0, 1) := by decide +kernel
theorem px_d6_14 : decode prog_7_method_1_code 14 = .ok (.bipush 48, 2) := by decide +kernel
theorem px_d6_16 : decode prog_7_method_1_code 16 = .ok (.newarray .byte, 2) := by decide +kernel
theorem px_d6_18 : decode prog_7_method_1_code 18 = .ok (.putfield 15, 3) := by decide +kernel
theorem px_d6_21 : decode prog_7_method_1_code 21 = .ok (.return_, 1) := by decide +kernel
theorem px_d7_0 : decode prog_1_method_1_code 0 = .ok (.aload_n 0, 1) := by decide +kernel
theorem px_d7_1 : decode prog_1_method_1_code 1 = .ok (.invokespecial 1, 3) := by decide +kernel
theorem px_d7_4 : decode prog_1_method_1_code 4 = .ok (.aload_n 0, 1) := by decide +kernel
theorem px_d7_5 : decode prog_1_method_1_code 5 = .ok (.sipush 512, 3) := by decide +kernel
theorem px_d7_8 : decode prog_1_method_1_code 8 = .ok (.newarray .byte, 2) := by decide +kernel
theorem px_d7_10 : decode prog_1_method_1_code 10 = .ok (.putfield 7, 3) := by decide +kernel
theorem px_d7_13 : decode prog_1_method_1_code 13 = .ok (.aload_n 0, 1) := by decide +kernel
theorem px_d7_14 : decode prog_1_method_1_code 14 = .ok (.iconst 0, 1) := by decide +kernel
theorem px_d7_15 : decode prog_1_method_1_code 15 = .ok (.putfield 13, 3) := by decide +kernel
theorem px_d7_18 : decode prog_1_method_1_code 18 = .ok (.aload_n 0, 1) := by decide +kernel
theorem px_d7_19 : decode prog_1_method_1_code 19 = .ok (.iconst (-1), 1) := by decide +kernel
theorem px_d7_20 : decode prog_1_method_1_code 20 = .ok (.putfield 17, 3) := by decide +kernel
theorem px_d7_23 : decode prog_1_method_1_code 23 = .ok (.aload_n 0, 1) := by decide +kernel
theorem px_d7_24 : decode prog_1_method_1_code 24 = .ok (.iconst 0, 1) := by decide +kernel
theorem px_d7_25 : decode prog_1_method_1_code 25 = .ok (.putfield 20, 3) := by decide +kernel
theorem px_d7_28 : decode prog_1_method_1_code 28 = .ok (.aload_n 0, 1) := by decide +kernel
theorem px_d7_29 : decode prog_1_method_1_code 29 = .ok (.iconst 0, 1) := by decide +kernel
theorem px_d7_30 : decode prog_1_method_1_code 30 = .ok (.putfield 23, 3) := by decide +kernel
theorem px_d7_33 : decode prog_1_method_1_code 33 = .ok (.aload_n 0, 1) := by decide +kernel
theorem px_d7_34 : decode prog_1_method_1_code 34 = .ok (.aconst_null, 1) := by decide +kernel
theorem px_d7_35 : decode prog_1_method_1_code 35 = .ok (.putfield 26, 3) := by decide +kernel
theorem px_d7_38 : decode prog_1_method_1_code 38 = .ok (.aload_n 0, 1) := by decide +kernel
theorem px_d7_39 : decode prog_1_method_1_code 39 = .ok (.bipush 26, 2) := by decide +kernel
theorem px_d7_41 : decode prog_1_method_1_code 41 = .ok (.anewarray 30, 3) := by decide +kernel
theorem px_d7_44 : decode prog_1_method_1_code 44 = .ok (.putfield 32, 3) := by decide +kernel
theorem px_d7_47 : decode prog_1_method_1_code 47 = .ok (.aload_n 0, 1) := by decide +kernel
theorem px_d7_48 : decode prog_1_method_1_code 48 = .ok (.sipush 156, 3) := by decide +kernel
theorem px_d7_51 : decode prog_1_method_1_code 51 = .ok (.newarray .int, 2) := by decide +kernel
theorem px_d7_53 : decode prog_1_method_1_code 53 = .ok (.putfield 36, 3) := by decide +kernel
theorem px_d7_56 : decode prog_1_method_1_code 56 = .ok (.aload_n 0, 1) := by decide +kernel
theorem px_d7_57 : decode prog_1_method_1_code 57 = .ok (.new 40, 3) := by decide +kernel
theorem px_d7_60 : decode prog_1_method_1_code 60 = .ok (.dup, 1) := by decide +kernel
theorem px_d7_61 : decode prog_1_method_1_code 61 = .ok (.invokespecial 42, 3) := by decide +kernel
theorem px_d7_64 : decode prog_1_method_1_code 64 = .ok (.putfield 43, 3) := by decide +kernel
theorem px_d7_67 : decode prog_1_method_1_code 67 = .ok (.aload_n 0, 1) := by decide +kernel
theorem px_d7_68 : decode prog_1_method_1_code 68 = .ok (.new 47, 3) := by decide +kernel
theorem px_d7_71 : decode prog_1_method_1_code 71 = .ok (.dup, 1) := by decide +kernel
theorem px_d7_72 : decode prog_1_method_1_code 72 = .ok (.aload_n 0, 1) := by decide +kernel
theorem px_d7_73 : decode prog_1_method_1_code 73 = .ok (.getfield 43, 3) := by decide +kernel
theorem px_d7_76 : decode prog_1_method_1_code 76 = .ok (.invokespecial 49, 3) := by decide +kernel
theorem px_d7_79 : decode prog_1_method_1_code 79 = .ok (.putfield 52, 3) := by decide +kernel
theorem px_d7_82 : decode prog_1_method_1_code 82 = .ok (.aload_n 0, 1) := by decide +kernel
theorem px_d7_83 : decode prog_1_method_1_code 83 = .ok (.new 56, 3) := by decide +kernel
theorem px_d7_86 : decode prog_1_method_1_code 86 = .ok (.dup, 1) := by decide +kernel
theorem px_d7_87 : decode prog_1_method_1_code 87 = .ok (.aload_n 0, 1) := by decide +kernel
theorem px_d7_88 : decode prog_1_method_1_code 88 = .ok (.getfield 43, 3) := by decide +kernel
theorem px_d7_91 : decode prog_1_method_1_code 91 = .ok (.invokespecial 58, 3) := by decide +kernel
theorem px_d7_94 : decode prog_1_method_1_code 94 = .ok (.putfield 59, 3) := by decide +kernel
theorem px_d7_97 : decode prog_1_method_1_code 97 = .ok (.aload_n 0, 1) := by decide +kernel
theorem px_d7_98 : decode prog_1_method_1_code 98 = .ok (.new 63, 3) := by decide +kernel
theorem px_d7_101 : decode prog_1_method_1_code 101 = .ok (.dup, 1) := by decide +kernel
theorem px_d7_102 : decode prog_1_method_1_code 102 = .ok (.invokespecial 65, 3) := by decide +kernel
theorem px_d7_105 : decode prog_1_method_1_code 105 = .ok (.putfield 66, 3) := by decide +kernel
theorem px_d7_108 : decode prog_1_method_1_code 108 = .ok (.aload_n 0, 1) := by decide +kernel
theorem px_d7_109 : decode prog_1_method_1_code 109 = .ok (.new 70, 3) := by decide +kernel
theorem px_d7_112 : decode prog_1_method_1_code 112 = .ok (.dup, 1) := by decide +kernel
theorem px_d7_113 : decode prog_1_method_1_code 113 = .ok (.aload_n 0, 1) := by decide +kernel
theorem px_d7_114 : decode prog_1_method_1_code 114 = .ok (.getfield 66, 3) := by decide +kernel
theorem px_d7_117 : decode prog_1_method_1_code 117 = .ok (.invokespecial 72, 3) := by decide +kernel
theorem px_d7_120 : decode prog_1_method_1_code 120 = .ok (.putfield 75, 3) := by decide +kernel
theorem px_d7_123 : decode prog_1_method_1_code 123 = .ok (.aload_n 0, 1) := by decide +kernel
theorem px_d7_124 : decode prog_1_method_1_code 124 = .ok (.new 79, 3) := by decide +kernel
theorem px_d7_127 : decode prog_1_method_1_code 127 = .ok (.dup, 1) := by decide +kernel
theorem px_d7_128 : decode prog_1_method_1_code 128 = .ok (.invokespecial 81, 3) := by decide +kernel
theorem px_d7_131 : decode prog_1_method_1_code 131 = .ok (.putfield 82, 3) := by decide +kernel
theorem px_d7_134 : decode prog_1_method_1_code 134 = .ok (.return_, 1) := by decide +kernel
theorem px_d8_0 : decode prog_16_method_1_code 0 = .ok (.aload_n 0, 1) := by decide +kernel
theorem px_d8_1 : decode prog_16_method_1_code 1 = .ok (.invokespecial 1, 3) := by decide +kernel
theorem px_d8_4 : decode prog_16_method_1_code 4 = .ok (.aload_n 0, 1) := by decide +kernel
theorem px_d8_5 : decode prog_16_method_1_code 5 = .ok (.sipush 160, 3) := by decide +kernel
theorem px_d8_8 : decode prog_16_method_1_code 8 = .ok (.newarray .int, 2) := by decide +kernel
theorem px_d8_10 : decode prog_16_method_1_code 10 = .ok (.putfield 7, 3) := by decide +kernel
theorem px_d8_13 : decode prog_16_method_1_code 13 = .ok (.return_, 1) := by decide +kernel
theorem px_d9_0 : decode prog_16_method_2_code 0 = .ok (.aload_n 0, 1) := by decide +kernel
theorem px_d9_1 : decode prog_16_method_2_code 1 = .ok (.iconst 0, 1) := by decide +kernel
theorem px_d9_2 : decode prog_16_method_2_code 2 = .ok (.putfield 13, 3) := by decide +kernel
theorem px_d9_5 : decode prog_16_method_2_code 5 = .ok (.aload_n 0, 1) := by decide +kernel
theorem px_d9_6 : decode prog_16_method_2_code 6 = .ok (.iconst 0, 1) := by decide +kernel
theorem px_d9_7 : decode prog_16_method_2_code 7 = .ok (.putfield 17, 3) := by decide +kernel
theorem px_d9_10 : decode prog_16_method_2_code 10 = .ok (.return_, 1) := by decide +kernel
theorem px_d10_0 : decode prog_16_method_3_code 0 = .ok (.aload_n 0, 1) := by decide +kernel
theorem px_d10_1 : decode prog_16_method_3_code 1 = .ok (.aload_n 1, 1) := by decide +kernel
theorem px_d10_2 : decode prog_16_method_3_code 2 = .ok (.getfield 13, 3) := by decide +kernel
theorem px_d10_5 : decode prog_16_method_3_code 5 = .ok (.putfield 13, 3) := by decide +kernel
theorem px_d10_8 : decode prog_16_method_3_code 8 = .ok (.aload_n 0, 1) := by decide +kernel
theorem px_d10_9 : decode prog_16_method_3_code 9 = .ok (.aload_n 1, 1) := by decide +kernel
theorem px_d10_10 : decode prog_16_method_3_code 10 = .ok (.getfield 17, 3) := by decide +kernel
theorem px_d10_13 : decode prog_16_method_3_code 13 = .ok (.putfield 17, 3) := by decide +kernel
theorem px_d10_16 : decode prog_16_method_3_code 16 = .ok (.iconst 0, 1) := by decide +kernel
theorem px_d10_17 : decode prog_16_method_3_code 17 = .ok (.istore_n 2, 1) := by decide +kernel
theorem px_d10_18 : decode prog_16_method_3_code 18 = .ok (.iload_n 2, 1) := by decide +kernel
theorem px_d10_19 : decode prog_16_method_3_code 19 = .ok (.aload_n 0, 1) := by decide +kernel
theorem px_d10_20 : decode prog_16_method_3_code 20 = .ok (.getfield 13, 3) := by decide +kernel
theorem px_d10_23 : decode prog_16_method_3_code 23 = .ok (.if_icmp .ge 21, 3) := by decide +kernel
theorem px_d10_26 : decode prog_16_method_3_code 26 = .ok (.aload_n 0, 1) := by decide +kernel
theorem px_d10_27 : decode prog_16_method_3_code 27 = .ok (.getfield 7, 3) := by decide +kernel
theorem px_d10_30 : decode prog_16_method_3_code 30 = .ok (.iload_n 2, 1) := by decide +kernel
theorem px_d10_31 : decode prog_16_method_3_code 31 = .ok (.aload_n 1, 1) := by decide +kernel
theorem px_d10_32 : decode prog_16_method_3_code 32 = .ok (.getfield 7, 3) := by decide +kernel
theorem px_d10_35 : decode prog_16_method_3_code 35 = .ok (.iload_n 2, 1) := by decide +kernel
theorem px_d10_36 : decode prog_16_method_3_code 36 = .ok (.iaload, 1) := by decide +kernel
theorem px_d10_37 : decode prog_16_method_3_code 37 = .ok (.iastore, 1) := by decide +kernel
theorem px_d10_38 : decode prog_16_method_3_code 38 = .ok (.iinc 2 1, 3) := by decide +kernel
theorem px_d10_41 : decode prog_16_method_3_code 41 = .ok (.goto (-23), 3) := by decide +kernel
theorem px_d10_44 : decode prog_16_method_3_code 44 = .ok (.return_, 1) := by decide +kernel
theorem px_d11_0 : decode prog_16_method_4_code 0 = .ok (.aload_n 0, 1) := by decide +kernel
theorem px_d11_1 : decode prog_16_method_4_code 1 = .ok (.invokevirtual 21, 3) := by decide +kernel
theorem px_d11_4 : decode prog_16_method_4_code 4 = .ok (.aload_n 0, 1) := by decide +kernel
theorem px_d11_5 : decode prog_16_method_4_code 5 = .ok (.lload_n 1, 1) := by decide +kernel
theorem px_d11_6 : decode prog_16_method_4_code 6 = .ok (.lconst 0, 1) := by decide +kernel
theorem px_d11_7 : decode prog_16_method_4_code 7 = .ok (.lcmp, 1) := by decide +kernel
theorem px_d11_8 : decode prog_16_method_4_code 8 = .ok (.ifCond .ge 7, 3) := by decide +kernel
theorem px_d11_11 : decode prog_16_method_4_code 11 = .ok (.iconst 1, 1) := by decide +kernel
theorem px_d11_12 : decode prog_16_method_4_code 12 = .ok (.goto 4, 3) := by decide +kernel
theorem px_d11_15 : decode prog_16_method_4_code 15 = .ok (.iconst 0, 1) := by decide +kernel
theorem px_d11_16 : decode prog_16_method_4_code 16 = .ok (.putfield 17, 3) := by decide +kernel
theorem px_d11_19 : decode prog_16_method_4_code 19 = .ok (.lload_n 1, 1) := by decide +kernel
theorem px_d11_20 : decode prog_16_method_4_code 20 = .ok (.lconst 0, 1) := by decide +kernel
theorem px_d11_21 : decode prog_16_method_4_code 21 = .ok (.lcmp, 1) := by decide +kernel
theorem px_d11_22 : decode prog_16_method_4_code 22 = .ok (.ifCond .ge 8, 3) := by decide +kernel
theorem px_d11_25 : decode prog_16_method_4_code 25 = .ok (.lload_n 1, 1) := by decide +kernel
theorem px_d11_26 : decode prog_16_method_4_code 26 = .ok (.lneg, 1) := by decide +kernel
theorem px_d11_27 : decode prog_16_method_4_code 27 = .ok (.goto 4, 3) := by decide +kernel
theorem px_d11_30 : decode prog_16_method_4_code 30 = .ok (.lload_n 1, 1) := by decide +kernel
theorem px_d11_31 : decode prog_16_method_4_code 31 = .ok (.lstore_n 3, 1) := by decide +kernel
theorem px_d11_32 : decode prog_16_method_4_code 32 = .ok (.lload_n 3, 1) := by decide +kernel
theorem px_d11_33 : decode prog_16_method_4_code 33 = .ok (.lconst 0, 1) := by decide +kernel
theorem px_d11_34 : decode prog_16_method_4_code 34 = .ok (.lcmp, 1) := by decide +kernel
theorem px_d11_35 : decode prog_16_method_4_code 35 = .ok (.ifCond .le 37, 3) := by decide +kernel
theorem px_d11_38 : decode prog_16_method_4_code 38 = .ok (.aload_n 0, 1) := by decide +kernel
theorem px_d11_39 : decode prog_16_method_4_code 39 = .ok (.getfield 7, 3) := by decide +kernel
theorem px_d11_42 : decode prog_16_method_4_code 42 = .ok (.aload_n 0, 1) := by decide +kernel
theorem px_d11_43 : decode prog_16_method_4_code 43 = .ok (.getfield 13, 3) := by decide +kernel
theorem px_d11_46 : decode prog_16_method_4_code 46 = .ok (.lload_n 3, 1) := by decide +kernel
theorem px_d11_47 : decode prog_16_method_4_code 47 = .ok (.ldc2_w 24, 3) := by decide +kernel
theorem px_d11_50 : decode prog_16_method_4_code 50 = .ok (.lrem, 1) := by decide +kernel
theorem px_d11_51 : decode prog_16_method_4_code 51 = .ok (.l2i, 1) := by decide +kernel
theorem px_d11_52 : decode prog_16_method_4_code 52 = .ok (.iastore, 1) := by decide +kernel
theorem px_d11_53 : decode prog_16_method_4_code 53 = .ok (.aload_n 0, 1) := by decide +kernel
theorem px_d11_54 : decode prog_16_method_4_code 54 = .ok (.dup, 1) := by decide +kernel
theorem px_d11_55 : decode prog_16_method_4_code 55 = .ok (.getfield 13, 3) := by decide +kernel
theorem px_d11_58 : decode prog_16_method_4_code 58 = .ok (.iconst 1, 1) := by decide +kernel
theorem px_d11_59 : decode prog_16_method_4_code 59 = .ok (.iadd, 1) := by decide +kernel
theorem px_d11_60 : decode prog_16_method_4_code 60 = .ok (.putfield 13, 3) := by decide +kernel
theorem px_d11_63 : decode prog_16_method_4_code 63 = .ok (.lload_n 3, 1) := by decide +kernel
theorem px_d11_64 : decode prog_16_method_4_code 64 = .ok (.ldc2_w 24, 3) := by decide +kernel
theorem px_d11_67 : decode prog_16_method_4_code 67 = .ok (.ldiv, 1) := by decide +kernel
theorem px_d11_68 : decode prog_16_method_4_code 68 = .ok (.lstore_n 3, 1) := by decide +kernel
theorem px_d11_69 : decode prog_16_method_4_code 69 = .ok (.goto (-37), 3) := by decide +kernel
theorem px_d11_72 : decode prog_16_method_4_code 72 = .ok (.return_, 1) := by decide +kernel
theorem px_d12_0 : decode prog_16_method_5_code 0 = .ok (.aload_n 0, 1) := by decide +kernel
theorem px_d12_1 : decode prog_16_method_5_code 1 = .ok (.getfield 13, 3) := by decide +kernel
theorem px_d12_4 : decode prog_16_method_5_code 4 = .ok (.iconst 1, 1) := by decide +kernel
theorem px_d12_5 : decode prog_16_method_5_code 5 = .ok (.if_icmp .ne 24, 3) := by decide +kernel
theorem px_d12_8 : decode prog_16_method_5_code 8 = .ok (.aload_n 0, 1) := by decide +kernel
theorem px_d12_9 : decode prog_16_method_5_code 9 = .ok (.getfield 7, 3) := by decide +kernel
theorem px_d12_12 : decode prog_16_method_5_code 12 = .ok (.iconst 0, 1) := by decide +kernel
theorem px_d12_13 : decode prog_16_method_5_code 13 = .ok (.iaload, 1) := by decide +kernel
theorem px_d12_14 : decode prog_16_method_5_code 14 = .ok (.iconst 1, 1) := by decide +kernel
theorem px_d12_15 : decode prog_16_method_5_code 15 = .ok (.if_icmp .ne 14, 3) := by decide +kernel
theorem px_d12_18 : decode prog_16_method_5_code 18 = .ok (.aload_n 0, 1) := by decide +kernel
theorem px_d12_19 : decode prog_16_method_5_code 19 = .ok (.getfield 17, 3) := by decide +kernel
