theorem px_d323_9 : decode prog_12_method_12_code 9 = .ok (.aload_n 1, 1) := by decide +kernel
theorem px_d323_10 : decode prog_12_method_12_code 10 = .ok (.getfield 15, 3) := by decide +kernel
theorem px_d323_13 : decode prog_12_method_12_code 13 = .ok (.putfield 15, 3) := by decide +kernel
theorem px_d323_16 : decode prog_12_method_12_code 16 = .ok (.aload_n 0, 1) := by decide +kernel
theorem px_d323_17 : decode prog_12_method_12_code 17 = .ok (.aload_n 1, 1) := by decide +kernel
theorem px_d323_18 : decode prog_12_method_12_code 18 = .ok (.getfield 18, 3) := by decide +kernel
theorem px_d323_21 : decode prog_12_method_12_code 21 = .ok (.putfield 18, 3) := by decide +kernel
theorem px_d323_24 : decode prog_12_method_12_code 24 = .ok (.return_, 1) := by decide +kernel
theorem px_d324_0 : decode prog_12_method_15_code 0 = .ok (.aload_n 0, 1) := by decide +kernel
theorem px_d324_1 : decode prog_12_method_15_code 1 = .ok (.aload_n 0, 1) := by decide +kernel
theorem px_d324_2 : decode prog_12_method_15_code 2 = .ok (.getfield 11, 3) := by decide +kernel
theorem px_d324_5 : decode prog_12_method_15_code 5 = .ok (.iconst 1, 1) := by decide +kernel
theorem px_d324_6 : decode prog_12_method_15_code 6 = .ok (.lshr, 1) := by decide +kernel
theorem px_d324_7 : decode prog_12_method_15_code 7 = .ok (.aload_n 0, 1) := by decide +kernel
theorem px_d324_8 : decode prog_12_method_15_code 8 = .ok (.getfield 15, 3) := by decide +kernel
theorem px_d324_11 : decode prog_12_method_15_code 11 = .ok (.lconst 1, 1) := by decide +kernel
theorem px_d324_12 : decode prog_12_method_15_code 12 = .ok (.land, 1) := by decide +kernel
theorem px_d324_13 : decode prog_12_method_15_code 13 = .ok (.bipush 47, 2) := by decide +kernel
theorem px_d324_15 : decode prog_12_method_15_code 15 = .ok (.lshl, 1) := by decide +kernel
theorem px_d324_16 : decode prog_12_method_15_code 16 = .ok (.lor, 1) := by decide +kernel
theorem px_d324_17 : decode prog_12_method_15_code 17 = .ok (.putfield 11, 3) := by decide +kernel
theorem px_d324_20 : decode prog_12_method_15_code 20 = .ok (.aload_n 0, 1) := by decide +kernel
theorem px_d324_21 : decode prog_12_method_15_code 21 = .ok (.aload_n 0, 1) := by decide +kernel
theorem px_d324_22 : decode prog_12_method_15_code 22 = .ok (.getfield 15, 3) := by decide +kernel
theorem px_d324_25 : decode prog_12_method_15_code 25 = .ok (.iconst 1, 1) := by decide +kernel
theorem px_d324_26 : decode prog_12_method_15_code 26 = .ok (.lshr, 1) := by decide +kernel
theorem px_d324_27 : decode prog_12_method_15_code 27 = .ok (.aload_n 0, 1) := by decide +kernel
theorem px_d324_28 : decode prog_12_method_15_code 28 = .ok (.getfield 18, 3) := by decide +kernel
theorem px_d324_31 : decode prog_12_method_15_code 31 = .ok (.lconst 1, 1) := by decide +kernel
theorem px_d324_32 : decode prog_12_method_15_code 32 = .ok (.land, 1) := by decide +kernel
theorem px_d324_33 : decode prog_12_method_15_code 33 = .ok (.bipush 47, 2) := by decide +kernel
theorem px_d324_35 : decode prog_12_method_15_code 35 = .ok (.lshl, 1) := by decide +kernel
theorem px_d324_36 : decode prog_12_method_15_code 36 = .ok (.lor, 1) := by decide +kernel
theorem px_d324_37 : decode prog_12_method_15_code 37 = .ok (.putfield 15, 3) := by decide +kernel
theorem px_d324_40 : decode prog_12_method_15_code 40 = .ok (.aload_n 0, 1) := by decide +kernel
theorem px_d324_41 : decode prog_12_method_15_code 41 = .ok (.dup, 1) := by decide +kernel
theorem px_d324_42 : decode prog_12_method_15_code 42 = .ok (.getfield 18, 3) := by decide +kernel
theorem px_d324_45 : decode prog_12_method_15_code 45 = .ok (.iconst 1, 1) := by decide +kernel
theorem px_d324_46 : decode prog_12_method_15_code 46 = .ok (.lshr, 1) := by decide +kernel
theorem px_d324_47 : decode prog_12_method_15_code 47 = .ok (.putfield 18, 3) := by decide +kernel
theorem px_d324_50 : decode prog_12_method_15_code 50 = .ok (.return_, 1) := by decide +kernel
theorem px_d325_0 : decode prog_12_method_13_code 0 = .ok (.aload_n 0, 1) := by decide +kernel
theorem px_d325_1 : decode prog_12_method_13_code 1 = .ok (.getfield 18, 3) := by decide +kernel
theorem px_d325_4 : decode prog_12_method_13_code 4 = .ok (.aload_n 1, 1) := by decide +kernel
theorem px_d325_5 : decode prog_12_method_13_code 5 = .ok (.getfield 18, 3) := by decide +kernel
theorem px_d325_8 : decode prog_12_method_13_code 8 = .ok (.lcmp, 1) := by decide +kernel
theorem px_d325_9 : decode prog_12_method_13_code 9 = .ok (.ifCond .eq 15, 3) := by decide +kernel
theorem px_d325_12 : decode prog_12_method_13_code 12 = .ok (.aload_n 0, 1) := by decide +kernel
theorem px_d325_13 : decode prog_12_method_13_code 13 = .ok (.getfield 18, 3) := by decide +kernel
theorem px_d325_16 : decode prog_12_method_13_code 16 = .ok (.aload_n 1, 1) := by decide +kernel
theorem px_d325_17 : decode prog_12_method_13_code 17 = .ok (.getfield 18, 3) := by decide +kernel
theorem px_d325_20 : decode prog_12_method_13_code 20 = .ok (.invokestatic 63, 3) := by decide +kernel
theorem px_d325_23 : decode prog_12_method_13_code 23 = .ok (.ireturn, 1) := by decide +kernel
theorem px_d325_24 : decode prog_12_method_13_code 24 = .ok (.aload_n 0, 1) := by decide +kernel
theorem px_d325_25 : decode prog_12_method_13_code 25 = .ok (.getfield 15, 3) := by decide +kernel
theorem px_d325_28 : decode prog_12_method_13_code 28 = .ok (.aload_n 1, 1) := by decide +kernel
theorem px_d325_29 : decode prog_12_method_13_code 29 = .ok (.getfield 15, 3) := by decide +kernel
theorem px_d325_32 : decode prog_12_method_13_code 32 = .ok (.lcmp, 1) := by decide +kernel
theorem px_d325_33 : decode prog_12_method_13_code 33 = .ok (.ifCond .eq 17, 3) := by decide +kernel
theorem px_d325_36 : decode prog_12_method_13_code 36 = .ok (.aload_n 0, 1) := by decide +kernel
theorem px_d325_37 : decode prog_12_method_13_code 37 = .ok (.getfield 15, 3) := by decide +kernel
theorem px_d325_40 : decode prog_12_method_13_code 40 = .ok (.aload_n 1, 1) := by decide +kernel
theorem px_d325_41 : decode prog_12_method_13_code 41 = .ok (.getfield 15, 3) := by decide +kernel
theorem px_d325_44 : decode prog_12_method_13_code 44 = .ok (.invokestatic 63, 3) := by decide +kernel
theorem px_d325_47 : decode prog_12_method_13_code 47 = .ok (.goto 14, 3) := by decide +kernel
theorem px_d325_50 : decode prog_12_method_13_code 50 = .ok (.aload_n 0, 1) := by decide +kernel
theorem px_d325_51 : decode prog_12_method_13_code 51 = .ok (.getfield 11, 3) := by decide +kernel
theorem px_d325_54 : decode prog_12_method_13_code 54 = .ok (.aload_n 1, 1) := by decide +kernel
theorem px_d325_55 : decode prog_12_method_13_code 55 = .ok (.getfield 11, 3) := by decide +kernel
theorem px_d325_58 : decode prog_12_method_13_code 58 = .ok (.invokestatic 63, 3) := by decide +kernel
theorem px_d325_61 : decode prog_12_method_13_code 61 = .ok (.ireturn, 1) := by decide +kernel
theorem px_d326_0 : decode prog_24_method_42_code 0 = .ok (.lload_n 0, 1) := by decide +kernel
theorem px_d326_1 : decode prog_24_method_42_code 1 = .ok (.lload_n 2, 1) := by decide +kernel
theorem px_d326_2 : decode prog_24_method_42_code 2 = .ok (.lcmp, 1) := by decide +kernel
theorem px_d326_3 : decode prog_24_method_42_code 3 = .ok (.ifCond .ge 7, 3) := by decide +kernel
theorem px_d326_6 : decode prog_24_method_42_code 6 = .ok (.iconst (-1), 1) := by decide +kernel
theorem px_d326_7 : decode prog_24_method_42_code 7 = .ok (.goto 14, 3) := by decide +kernel
theorem px_d326_10 : decode prog_24_method_42_code 10 = .ok (.lload_n 0, 1) := by decide +kernel
theorem px_d326_11 : decode prog_24_method_42_code 11 = .ok (.lload_n 2, 1) := by decide +kernel
theorem px_d326_12 : decode prog_24_method_42_code 12 = .ok (.lcmp, 1) := by decide +kernel
theorem px_d326_13 : decode prog_24_method_42_code 13 = .ok (.ifCond .ne 7, 3) := by decide +kernel
theorem px_d326_16 : decode prog_24_method_42_code 16 = .ok (.iconst 0, 1) := by decide +kernel
theorem px_d326_17 : decode prog_24_method_42_code 17 = .ok (.goto 4, 3) := by decide +kernel
theorem px_d326_20 : decode prog_24_method_42_code 20 = .ok (.iconst 1, 1) := by decide +kernel
theorem px_d326_21 : decode prog_24_method_42_code 21 = .ok (.ireturn, 1) := by decide +kernel
theorem px_d327_0 : decode prog_12_method_11_code 0 = .ok (.aload_n 0, 1) := by decide +kernel
theorem px_d327_1 : decode prog_12_method_11_code 1 = .ok (.getfield 11, 3) := by decide +kernel
theorem px_d327_4 : decode prog_12_method_11_code 4 = .ok (.lstore_n 2, 1) := by decide +kernel
theorem px_d327_5 : decode prog_12_method_11_code 5 = .ok (.aload_n 0, 1) := by decide +kernel
theorem px_d327_6 : decode prog_12_method_11_code 6 = .ok (.getfield 15, 3) := by decide +kernel
theorem px_d327_9 : decode prog_12_method_11_code 9 = .ok (.lstore 4, 2) := by decide +kernel
theorem px_d327_11 : decode prog_12_method_11_code 11 = .ok (.aload_n 0, 1) := by decide +kernel
theorem px_d327_12 : decode prog_12_method_11_code 12 = .ok (.getfield 18, 3) := by decide +kernel
theorem px_d327_15 : decode prog_12_method_11_code 15 = .ok (.lstore 6, 2) := by decide +kernel
theorem px_d327_17 : decode prog_12_method_11_code 17 = .ok (.aload_n 0, 1) := by decide +kernel
theorem px_d327_18 : decode prog_12_method_11_code 18 = .ok (.aload_n 1, 1) := by decide +kernel
theorem px_d327_19 : decode prog_12_method_11_code 19 = .ok (.getfield 11, 3) := by decide +kernel
theorem px_d327_22 : decode prog_12_method_11_code 22 = .ok (.putfield 11, 3) := by decide +kernel
theorem px_d327_25 : decode prog_12_method_11_code 25 = .ok (.aload_n 0, 1) := by decide +kernel
theorem px_d327_26 : decode prog_12_method_11_code 26 = .ok (.aload_n 1, 1) := by decide +kernel
theorem px_d327_27 : decode prog_12_method_11_code 27 = .ok (.getfield 15, 3) := by decide +kernel
theorem px_d327_30 : decode prog_12_method_11_code 30 = .ok (.putfield 15, 3) := by decide +kernel
theorem px_d327_33 : decode prog_12_method_11_code 33 = .ok (.aload_n 0, 1) := by decide +kernel
theorem px_d327_34 : decode prog_12_method_11_code 34 = .ok (.aload_n 1, 1) := by decide +kernel
theorem px_d327_35 : decode prog_12_method_11_code 35 = .ok (.getfield 18, 3) := by decide +kernel
theorem px_d327_38 : decode prog_12_method_11_code 38 = .ok (.putfield 18, 3) := by decide +kernel
theorem px_d327_41 : decode prog_12_method_11_code 41 = .ok (.aload_n 1, 1) := by decide +kernel
theorem px_d327_42 : decode prog_12_method_11_code 42 = .ok (.lload_n 2, 1) := by decide +kernel
theorem px_d327_43 : decode prog_12_method_11_code 43 = .ok (.putfield 11, 3) := by decide +kernel
theorem px_d327_46 : decode prog_12_method_11_code 46 = .ok (.aload_n 1, 1) := by decide +kernel
theorem px_d327_47 : decode prog_12_method_11_code 47 = .ok (.lload 4, 2) := by decide +kernel
theorem px_d327_49 : decode prog_12_method_11_code 49 = .ok (.putfield 15, 3) := by decide +kernel
theorem px_d327_52 : decode prog_12_method_11_code 52 = .ok (.aload_n 1, 1) := by decide +kernel
theorem px_d327_53 : decode prog_12_method_11_code 53 = .ok (.lload 6, 2) := by decide +kernel
theorem px_d327_55 : decode prog_12_method_11_code 55 = .ok (.putfield 18, 3) := by decide +kernel
theorem px_d327_58 : decode prog_12_method_11_code 58 = .ok (.return_, 1) := by decide +kernel
theorem px_d328_0 : decode prog_12_method_14_code 0 = .ok (.aload_n 0, 1) := by decide +kernel
theorem px_d328_1 : decode prog_12_method_14_code 1 = .ok (.getfield 11, 3) := by decide +kernel
theorem px_d328_4 : decode prog_12_method_14_code 4 = .ok (.aload_n 1, 1) := by decide +kernel
theorem px_d328_5 : decode prog_12_method_14_code 5 = .ok (.getfield 11, 3) := by decide +kernel
theorem px_d328_8 : decode prog_12_method_14_code 8 = .ok (.lsub, 1) := by decide +kernel
theorem px_d328_9 : decode prog_12_method_14_code 9 = .ok (.lstore_n 2, 1) := by decide +kernel
theorem px_d328_10 : decode prog_12_method_14_code 10 = .ok (.aload_n 0, 1) := by decide +kernel
theorem px_d328_11 : decode prog_12_method_14_code 11 = .ok (.getfield 15, 3) := by decide +kernel
theorem px_d328_14 : decode prog_12_method_14_code 14 = .ok (.aload_n 1, 1) := by decide +kernel
theorem px_d328_15 : decode prog_12_method_14_code 15 = .ok (.getfield 15, 3) := by decide +kernel
theorem px_d328_18 : decode prog_12_method_14_code 18 = .ok (.lsub, 1) := by decide +kernel
theorem px_d328_19 : decode prog_12_method_14_code 19 = .ok (.lload_n 2, 1) := by decide +kernel
theorem px_d328_20 : decode prog_12_method_14_code 20 = .ok (.bipush 48, 2) := by decide +kernel
theorem px_d328_22 : decode prog_12_method_14_code 22 = .ok (.lshr, 1) := by decide +kernel
theorem px_d328_23 : decode prog_12_method_14_code 23 = .ok (.ladd, 1) := by decide +kernel
theorem px_d328_24 : decode prog_12_method_14_code 24 = .ok (.lstore 4, 2) := by decide +kernel
theorem px_d328_26 : decode prog_12_method_14_code 26 = .ok (.aload_n 0, 1) := by decide +kernel
theorem px_d328_27 : decode prog_12_method_14_code 27 = .ok (.lload_n 2, 1) := by decide +kernel
theorem px_d328_28 : decode prog_12_method_14_code 28 = .ok (.ldc2_w 9, 3) := by decide +kernel
theorem px_d328_31 : decode prog_12_method_14_code 31 = .ok (.land, 1) := by decide +kernel
theorem px_d328_32 : decode prog_12_method_14_code 32 = .ok (.putfield 11, 3) := by decide +kernel
theorem px_d328_35 : decode prog_12_method_14_code 35 = .ok (.aload_n 0, 1) := by decide +kernel
theorem px_d328_36 : decode prog_12_method_14_code 36 = .ok (.lload 4, 2) := by decide +kernel
theorem px_d328_38 : decode prog_12_method_14_code 38 = .ok (.ldc2_w 9, 3) := by decide +kernel
theorem px_d328_41 : decode prog_12_method_14_code 41 = .ok (.land, 1) := by decide +kernel
theorem px_d328_42 : decode prog_12_method_14_code 42 = .ok (.putfield 15, 3) := by decide +kernel
theorem px_d328_45 : decode prog_12_method_14_code 45 = .ok (.aload_n 0, 1) := by decide +kernel
theorem px_d328_46 : decode prog_12_method_14_code 46 = .ok (.aload_n 0, 1) := by decide +kernel
theorem px_d328_47 : decode prog_12_method_14_code 47 = .ok (.getfield 18, 3) := by decide +kernel
theorem px_d328_50 : decode prog_12_method_14_code 50 = .ok (.aload_n 1, 1) := by decide +kernel
theorem px_d328_51 : decode prog_12_method_14_code 51 = .ok (.getfield 18, 3) := by decide +kernel
theorem px_d328_54 : decode prog_12_method_14_code 54 = .ok (.lsub, 1) := by decide +kernel
theorem px_d328_55 : decode prog_12_method_14_code 55 = .ok (.lload 4, 2) := by decide +kernel
theorem px_d328_57 : decode prog_12_method_14_code 57 = .ok (.bipush 48, 2) := by decide +kernel
theorem px_d328_59 : decode prog_12_method_14_code 59 = .ok (.lshr, 1) := by decide +kernel
theorem px_d328_60 : decode prog_12_method_14_code 60 = .ok (.ladd, 1) := by decide +kernel
theorem px_d328_61 : decode prog_12_method_14_code 61 = .ok (.putfield 18, 3) := by decide +kernel
theorem px_d328_64 : decode prog_12_method_14_code 64 = .ok (.return_, 1) := by decide +kernel
theorem px_d329_0 : decode prog_12_method_16_code 0 = .ok (.aload_n 0, 1) := by decide +kernel
theorem px_d329_1 : decode prog_12_method_16_code 1 = .ok (.aload_n 0, 1) := by decide +kernel
theorem px_d329_2 : decode prog_12_method_16_code 2 = .ok (.getfield 18, 3) := by decide +kernel
theorem px_d329_5 : decode prog_12_method_16_code 5 = .ok (.iconst 1, 1) := by decide +kernel
theorem px_d329_6 : decode prog_12_method_16_code 6 = .ok (.lshl, 1) := by decide +kernel
theorem px_d329_7 : decode prog_12_method_16_code 7 = .ok (.aload_n 0, 1) := by decide +kernel
theorem px_d329_8 : decode prog_12_method_16_code 8 = .ok (.getfield 15, 3) := by decide +kernel
theorem px_d329_11 : decode prog_12_method_16_code 11 = .ok (.bipush 47, 2) := by decide +kernel
theorem px_d329_13 : decode prog_12_method_16_code 13 = .ok (.lshr, 1) := by decide +kernel
theorem px_d329_14 : decode prog_12_method_16_code 14 = .ok (.lor, 1) := by decide +kernel
theorem px_d329_15 : decode prog_12_method_16_code 15 = .ok (.putfield 18, 3) := by decide +kernel
theorem px_d329_18 : decode prog_12_method_16_code 18 = .ok (.aload_n 0, 1) := by decide +kernel
theorem px_d329_19 : decode prog_12_method_16_code 19 = .ok (.aload_n 0, 1) := by decide +kernel
theorem px_d329_20 : decode prog_12_method_16_code 20 = .ok (.getfield 15, 3) := by decide +kernel
theorem px_d329_23 : decode prog_12_method_16_code 23 = .ok (.iconst 1, 1) := by decide +kernel
theorem px_d329_24 : decode prog_12_method_16_code 24 = .ok (.lshl, 1) := by decide +kernel
theorem px_d329_25 : decode prog_12_method_16_code 25 = .ok (.ldc2_w 9, 3) := by decide +kernel
theorem px_d329_28 : decode prog_12_method_16_code 28 = .ok (.land, 1) := by decide +kernel
theorem px_d329_29 : decode prog_12_method_16_code 29 = .ok (.aload_n 0, 1) := by decide +kernel
theorem px_d329_30 : decode prog_12_method_16_code 30 = .ok (.getfield 11, 3) := by decide +kernel
theorem px_d329_33 : decode prog_12_method_16_code 33 = .ok (.bipush 47, 2) := by decide +kernel
theorem px_d329_35 : decode prog_12_method_16_code 35 = .ok (.lshr, 1) := by decide +kernel
theorem px_d329_36 : decode prog_12_method_16_code 36 = .ok (.lor, 1) := by decide +kernel
theorem px_d329_37 : decode prog_12_method_16_code 37 = .ok (.putfield 15, 3) := by decide +kernel
theorem px_d329_40 : decode prog_12_method_16_code 40 = .ok (.aload_n 0, 1) := by decide +kernel
theorem px_d329_41 : decode prog_12_method_16_code 41 = .ok (.aload_n 0, 1) := by decide +kernel
theorem px_d329_42 : decode prog_12_method_16_code 42 = .ok (.getfield 11, 3) := by decide +kernel
theorem px_d329_45 : decode prog_12_method_16_code 45 = .ok (.iconst 1, 1) := by decide +kernel
theorem px_d329_46 : decode prog_12_method_16_code 46 = .ok (.lshl, 1) := by decide +kernel
theorem px_d329_47 : decode prog_12_method_16_code 47 = .ok (.ldc2_w 9, 3) := by decide +kernel
theorem px_d329_50 : decode prog_12_method_16_code 50 = .ok (.land, 1) := by decide +kernel
theorem px_d329_51 : decode prog_12_method_16_code 51 = .ok (.iload_n 1, 1) := by decide +kernel
theorem px_d329_52 : decode prog_12_method_16_code 52 = .ok (.i2l, 1) := by decide +kernel
theorem px_d329_53 : decode prog_12_method_16_code 53 = .ok (.lor, 1) := by decide +kernel
theorem px_d329_54 : decode prog_12_method_16_code 54 = .ok (.putfield 11, 3) := by decide +kernel
theorem px_d329_57 : decode prog_12_method_16_code 57 = .ok (.return_, 1) := by decide +kernel
theorem px_d330_0 : decode prog_12_method_8_code 0 = .ok (.aload_n 0, 1) := by decide +kernel
theorem px_d330_1 : decode prog_12_method_8_code 1 = .ok (.invokevirtual 21, 3) := by decide +kernel
theorem px_d330_4 : decode prog_12_method_8_code 4 = .ok (.ifCond .eq 34, 3) := by decide +kernel
theorem px_d330_7 : decode prog_12_method_8_code 7 = .ok (.aload_n 1, 1) := by decide +kernel
theorem px_d330_8 : decode prog_12_method_8_code 8 = .ok (.invokevirtual 21, 3) := by decide +kernel
theorem px_d330_11 : decode prog_12_method_8_code 11 = .ok (.ifCond .eq 27, 3) := by decide +kernel
theorem px_d330_14 : decode prog_12_method_8_code 14 = .ok (.aload_n 1, 1) := by decide +kernel
theorem px_d330_15 : decode prog_12_method_8_code 15 = .ok (.invokevirtual 37, 3) := by decide +kernel
theorem px_d330_18 : decode prog_12_method_8_code 18 = .ok (.ifCond .ne 20, 3) := by decide +kernel
theorem px_d330_21 : decode prog_12_method_8_code 21 = .ok (.aload_n 0, 1) := by decide +kernel
theorem px_d330_22 : decode prog_12_method_8_code 22 = .ok (.aload_n 0, 1) := by decide +kernel
theorem px_d330_23 : decode prog_12_method_8_code 23 = .ok (.invokevirtual 25, 3) := by decide +kernel
theorem px_d330_26 : decode prog_12_method_8_code 26 = .ok (.aload_n 1, 1) := by decide +kernel
theorem px_d330_27 : decode prog_12_method_8_code 27 = .ok (.invokevirtual 25, 3) := by decide +kernel
theorem px_d330_30 : decode prog_12_method_8_code 30 = .ok (.ldiv, 1) := by decide +kernel
theorem px_d330_31 : decode prog_12_method_8_code 31 = .ok (.lconst 0, 1) := by decide +kernel
theorem px_d330_32 : decode prog_12_method_8_code 32 = .ok (.lconst 0, 1) := by decide +kernel
theorem px_d330_33 : decode prog_12_method_8_code 33 = .ok (.invokevirtual 57, 3) := by decide +kernel
theorem px_d330_36 : decode prog_12_method_8_code 36 = .ok (.pop, 1) := by decide +kernel
theorem px_d330_37 : decode prog_12_method_8_code 37 = .ok (.return_, 1) := by decide +kernel
theorem px_d330_38 : decode prog_12_method_8_code 38 = .ok (.aload_n 2, 1) := by decide +kernel
theorem px_d330_39 : decode prog_12_method_8_code 39 = .ok (.lconst 0, 1) := by decide +kernel
theorem px_d330_40 : decode prog_12_method_8_code 40 = .ok (.lconst 0, 1) := by decide +kernel
theorem px_d330_41 : decode prog_12_method_8_code 41 = .ok (.lconst 0, 1) := by decide +kernel
theorem px_d330_42 : decode prog_12_method_8_code 42 = .ok (.invokevirtual 57, 3) := by decide +kernel
theorem px_d330_45 : decode prog_12_method_8_code 45 = .ok (.pop, 1) := by decide +kernel
theorem px_d330_46 : decode prog_12_method_8_code 46 = .ok (.iconst 0, 1) := by decide +kernel
theorem px_d330_47 : decode prog_12_method_8_code 47 = .ok (.istore_n 3, 1) := by decide +kernel
theorem px_d330_48 : decode prog_12_method_8_code 48 = .ok (.iload_n 3, 1) := by decide +kernel
theorem px_d330_49 : decode prog_12_method_8_code 49 = .ok (.sipush 144, 3) := by decide +kernel
theorem px_d330_52 : decode prog_12_method_8_code 52 = .ok (.if_icmp .ge 63, 3) := by decide +kernel
theorem px_d330_55 : decode prog_12_method_8_code 55 = .ok (.aload_n 2, 1) := by decide +kernel
theorem px_d330_56 : decode prog_12_method_8_code 56 = .ok (.aload_n 0, 1) := by decide +kernel
theorem px_d330_57 : decode prog_12_method_8_code 57 = .ok (.getfield 18, 3) := by decide +kernel
theorem px_d330_60 : decode prog_12_method_8_code 60 = .ok (.bipush 47, 2) := by decide +kernel
theorem px_d330_62 : decode prog_12_method_8_code 62 = .ok (.lshr, 1) := by decide +kernel
theorem px_d330_63 : decode prog_12_method_8_code 63 = .ok (.lconst 1, 1) := by decide +kernel
theorem px_d330_64 : decode prog_12_method_8_code 64 = .ok (.land, 1) := by decide +kernel
theorem px_d330_65 : decode prog_12_method_8_code 65 = .ok (.l2i, 1) := by decide +kernel
theorem px_d330_66 : decode prog_12_method_8_code 66 = .ok (.invokevirtual 53, 3) := by decide +kernel
theorem px_d330_69 : decode prog_12_method_8_code 69 = .ok (.aload_n 0, 1) := by decide +kernel
theorem px_d330_70 : decode prog_12_method_8_code 70 = .ok (.iconst 0, 1) := by decide +kernel
theorem px_d330_71 : decode prog_12_method_8_code 71 = .ok (.invokevirtual 53, 3) := by decide +kernel
theorem px_d330_74 : decode prog_12_method_8_code 74 = .ok (.aload_n 0, 1) := by decide +kernel
theorem px_d330_75 : decode prog_12_method_8_code 75 = .ok (.dup, 1) := by decide +kernel
theorem px_d330_76 : decode prog_12_method_8_code 76 = .ok (.getfield 18, 3) := by decide +kernel
theorem px_d330_79 : decode prog_12_method_8_code 79 = .ok (.ldc2_w 9, 3) := by decide +kernel
theorem px_d330_82 : decode prog_12_method_8_code 82 = .ok (.land, 1) := by decide +kernel
theorem px_d330_83 : decode prog_12_method_8_code 83 = .ok (.putfield 18, 3) := by decide +kernel
theorem px_d330_86 : decode prog_12_method_8_code 86 = .ok (.aload_n 2, 1) := by decide +kernel
theorem px_d330_87 : decode prog_12_method_8_code 87 = .ok (.aload_n 1, 1) := by decide +kernel
theorem px_d330_88 : decode prog_12_method_8_code 88 = .ok (.invokevirtual 43, 3) := by decide +kernel
theorem px_d330_91 : decode prog_12_method_8_code 91 = .ok (.ifCond .lt 18, 3) := by decide +kernel
theorem px_d330_94 : decode prog_12_method_8_code 94 = .ok (.aload_n 2, 1) := by decide +kernel
theorem px_d330_95 : decode prog_12_method_8_code 95 = .ok (.aload_n 1, 1) := by decide +kernel
theorem px_d330_96 : decode prog_12_method_8_code 96 = .ok (.invokevirtual 50, 3) := by decide +kernel
theorem px_d330_99 : decode prog_12_method_8_code 99 = .ok (.aload_n 0, 1) := by decide +kernel
theorem px_d330_100 : decode prog_12_method_8_code 100 = .ok (.dup, 1) := by decide +kernel
theorem px_d330_101 : decode prog_12_method_8_code 101 = .ok (.getfield 11, 3) := by decide +kernel
theorem px_d330_104 : decode prog_12_method_8_code 104 = .ok (.lconst 1, 1) := by decide +kernel
theorem px_d330_105 : decode prog_12_method_8_code 105 = .ok (.lor, 1) := by decide +kernel
theorem px_d330_106 : decode prog_12_method_8_code 106 = .ok (.putfield 11, 3) := by decide +kernel
theorem px_d330_109 : decode prog_12_method_8_code 109 = .ok (.iinc 3 1, 3) := by decide +kernel
theorem px_d330_112 : decode prog_12_method_8_code 112 = .ok (.goto (-64), 3) := by decide +kernel
theorem px_d330_115 : decode prog_12_method_8_code 115 = .ok (.return_, 1) := by decide +kernel
theorem px_d331_0 : decode prog_7_method_6_code 0 = .ok (.iconst 0, 1) := by decide +kernel
theorem px_d331_1 : decode prog_7_method_6_code 1 = .ok (.istore_n 2, 1) := by decide +kernel
theorem px_d331_2 : decode prog_7_method_6_code 2 = .ok (.iconst 0, 1) := by decide +kernel
theorem px_d331_3 : decode prog_7_method_6_code 3 = .ok (.istore_n 3, 1) := by decide +kernel
theorem px_d331_4 : decode prog_7_method_6_code 4 = .ok (.iload_n 3, 1) := by decide +kernel
theorem px_d331_5 : decode prog_7_method_6_code 5 = .ok (.bipush 48, 2) := by decide +kernel
theorem px_d331_7 : decode prog_7_method_6_code 7 = .ok (.if_icmp .ge 37, 3) := by decide +kernel
theorem px_d331_10 : decode prog_7_method_6_code 10 = .ok (.iload_n 3, 1) := by decide +kernel
theorem px_d331_11 : decode prog_7_method_6_code 11 = .ok (.ifCond .eq 10, 3) := by decide +kernel
theorem px_d331_14 : decode prog_7_method_6_code 14 = .ok (.aload_n 1, 1) := by decide +kernel
theorem px_d331_15 : decode prog_7_method_6_code 15 = .ok (.invokevirtual 50, 3) := by decide +kernel
theorem px_d331_18 : decode prog_7_method_6_code 18 = .ok (.ifCond .ne 26, 3) := by decide +kernel
theorem px_d331_21 : decode prog_7_method_6_code 21 = .ok (.aload_n 0, 1) := by decide +kernel
theorem px_d331_22 : decode prog_7_method_6_code 22 = .ok (.getfield 15, 3) := by decide +kernel
theorem px_d331_25 : decode prog_7_method_6_code 25 = .ok (.iload_n 3, 1) := by decide +kernel
theorem px_d331_26 : decode prog_7_method_6_code 26 = .ok (.bipush 48, 2) := by decide +kernel
theorem px_d331_28 : decode prog_7_method_6_code 28 = .ok (.aload_n 1, 1) := by decide +kernel
theorem px_d331_29 : decode prog_7_method_6_code 29 = .ok (.invokevirtual 56, 3) := by decide +kernel
theorem px_d331_32 : decode prog_7_method_6_code 32 = .ok (.iadd, 1) := by decide +kernel
theorem px_d331_33 : decode prog_7_method_6_code 33 = .ok (.i2b, 1) := by decide +kernel
theorem px_d331_34 : decode prog_7_method_6_code 34 = .ok (.bastore, 1) := by decide +kernel
theorem px_d331_35 : decode prog_7_method_6_code 35 = .ok (.iinc 2 1, 3) := by decide +kernel
theorem px_d331_38 : decode prog_7_method_6_code 38 = .ok (.iinc 3 1, 3) := by decide +kernel
theorem px_d331_41 : decode prog_7_method_6_code 41 = .ok (.goto (-37), 3) := by decide +kernel
theorem px_d331_44 : decode prog_7_method_6_code 44 = .ok (.iload_n 2, 1) := by decide +kernel
theorem px_d331_45 : decode prog_7_method_6_code 45 = .ok (.iconst 1, 1) := by decide +kernel
theorem px_d331_46 : decode prog_7_method_6_code 46 = .ok (.isub, 1) := by decide +kernel
theorem px_d331_47 : decode prog_7_method_6_code 47 = .ok (.istore_n 3, 1) := by decide +kernel
theorem px_d331_48 : decode prog_7_method_6_code 48 = .ok (.iload_n 3, 1) := by decide +kernel
theorem px_d331_49 : decode prog_7_method_6_code 49 = .ok (.ifCond .lt 19, 3) := by decide +kernel
theorem px_d331_52 : decode prog_7_method_6_code 52 = .ok (.aload_n 0, 1) := by decide +kernel
theorem px_d331_53 : decode prog_7_method_6_code 53 = .ok (.aload_n 0, 1) := by decide +kernel
theorem px_d331_54 : decode prog_7_method_6_code 54 = .ok (.getfield 15, 3) := by decide +kernel
theorem px_d331_57 : decode prog_7_method_6_code 57 = .ok (.iload_n 3, 1) := by decide +kernel
theorem px_d331_58 : decode prog_7_method_6_code 58 = .ok (.baload, 1) := by decide +kernel
theorem px_d331_59 : decode prog_7_method_6_code 59 = .ok (.invokevirtual 42, 3) := by decide +kernel
theorem px_d331_62 : decode prog_7_method_6_code 62 = .ok (.iinc 3 (-1), 3) := by decide +kernel
theorem px_d331_65 : decode prog_7_method_6_code 65 = .ok (.goto (-17), 3) := by decide +kernel
theorem px_d331_68 : decode prog_7_method_6_code 68 = .ok (.return_, 1) := by decide +kernel
theorem px_d332_0 : decode prog_12_method_9_code 0 = .ok (.aload_n 0, 1) := by decide +kernel
theorem px_d332_1 : decode prog_12_method_9_code 1 = .ok (.getfield 18, 3) := by decide +kernel
theorem px_d332_4 : decode prog_12_method_9_code 4 = .ok (.ldc2_w 61, 3) := by decide +kernel
theorem px_d332_7 : decode prog_12_method_9_code 7 = .ok (.lrem, 1) := by decide +kernel
theorem px_d332_8 : decode prog_12_method_9_code 8 = .ok (.lstore_n 1, 1) := by decide +kernel
theorem px_d332_9 : decode prog_12_method_9_code 9 = .ok (.aload_n 0, 1) := by decide +kernel
theorem px_d332_10 : decode prog_12_method_9_code 10 = .ok (.dup, 1) := by decide +kernel
theorem px_d332_11 : decode prog_12_method_9_code 11 = .ok (.getfield 18, 3) := by decide +kernel
theorem px_d332_14 : decode prog_12_method_9_code 14 = .ok (.ldc2_w 61, 3) := by decide +kernel
theorem px_d332_17 : decode prog_12_method_9_code 17 = .ok (.ldiv, 1) := by decide +kernel
theorem px_d332_18 : decode prog_12_method_9_code 18 = .ok (.putfield 18, 3) := by decide +kernel
theorem px_d332_21 : decode prog_12_method_9_code 21 = .ok (.lload_n 1, 1) := by decide +kernel
theorem px_d332_22 : decode prog_12_method_9_code 22 = .ok (.bipush 48, 2) := by decide +kernel
theorem px_d332_24 : decode prog_12_method_9_code 24 = .ok (.lshl, 1) := by decide +kernel
theorem px_d332_25 : decode prog_12_method_9_code 25 = .ok (.aload_n 0, 1) := by decide +kernel
theorem px_d332_26 : decode prog_12_method_9_code 26 = .ok (.getfield 15, 3) := by decide +kernel
theorem px_d332_29 : decode prog_12_method_9_code 29 = .ok (.lor, 1) := by decide +kernel
theorem px_d332_30 : decode prog_12_method_9_code 30 = .ok (.lstore_n 1, 1) := by decide +kernel
theorem px_d332_31 : decode prog_12_method_9_code 31 = .ok (.aload_n 0, 1) := by decide +kernel
theorem px_d332_32 : decode prog_12_method_9_code 32 = .ok (.lload_n 1, 1) := by decide +kernel
theorem px_d332_33 : decode prog_12_method_9_code 33 = .ok (.ldc2_w 61, 3) := by decide +kernel
theorem px_d332_36 : decode prog_12_method_9_code 36 = .ok (.ldiv, 1) := by decide +kernel
theorem px_d332_37 : decode prog_12_method_9_code 37 = .ok (.putfield 15, 3) := by decide +kernel
theorem px_d332_40 : decode prog_12_method_9_code 40 = .ok (.lload_n 1, 1) := by decide +kernel
theorem px_d332_41 : decode prog_12_method_9_code 41 = .ok (.ldc2_w 61, 3) := by decide +kernel
theorem px_d332_44 : decode prog_12_method_9_code 44 = .ok (.lrem, 1) := by decide +kernel
theorem px_d332_45 : decode prog_12_method_9_code 45 = .ok (.bipush 48, 2) := by decide +kernel
theorem px_d332_47 : decode prog_12_method_9_code 47 = .ok (.lshl, 1) := by decide +kernel
theorem px_d332_48 : decode prog_12_method_9_code 48 = .ok (.aload_n 0, 1) := by decide +kernel
theorem px_d332_49 : decode prog_12_method_9_code 49 = .ok (.getfield 11, 3) := by decide +kernel
theorem px_d332_52 : decode prog_12_method_9_code 52 = .ok (.lor, 1) := by decide +kernel
theorem px_d332_53 : decode prog_12_method_9_code 53 = .ok (.lstore_n 1, 1) := by decide +kernel
theorem px_d332_54 : decode prog_12_method_9_code 54 = .ok (.aload_n 0, 1) := by decide +kernel
theorem px_d332_55 : decode prog_12_method_9_code 55 = .ok (.lload_n 1, 1) := by decide +kernel
theorem px_d332_56 : decode prog_12_method_9_code 56 = .ok (.ldc2_w 61, 3) := by decide +kernel
theorem px_d332_59 : decode prog_12_method_9_code 59 = .ok (.ldiv, 1) := by decide +kernel
theorem px_d332_60 : decode prog_12_method_9_code 60 = .ok (.putfield 11, 3) := by decide +kernel
theorem px_d332_63 : decode prog_12_method_9_code 63 = .ok (.lload_n 1, 1) := by decide +kernel
theorem px_d332_64 : decode prog_12_method_9_code 64 = .ok (.ldc2_w 61, 3) := by decide +kernel
theorem px_d332_67 : decode prog_12_method_9_code 67 = .ok (.lrem, 1) := by decide +kernel
theorem px_d332_68 : decode prog_12_method_9_code 68 = .ok (.l2i, 1) := by decide +kernel
theorem px_d332_69 : decode prog_12_method_9_code 69 = .ok (.ireturn, 1) := by decide +kernel
theorem px_d333_0 : decode prog_12_method_4_code 0 = .ok (.aload_n 0, 1) := by decide +kernel
theorem px_d333_1 : decode prog_12_method_4_code 1 = .ok (.getfield 11, 3) := by decide +kernel
theorem px_d333_4 : decode prog_12_method_4_code 4 = .ok (.lconst 1, 1) := by decide +kernel
theorem px_d333_5 : decode prog_12_method_4_code 5 = .ok (.lcmp, 1) := by decide +kernel
theorem px_d333_6 : decode prog_12_method_4_code 6 = .ok (.ifCond .ne 21, 3) := by decide +kernel
theorem px_d333_9 : decode prog_12_method_4_code 9 = .ok (.aload_n 0, 1) := by decide +kernel
theorem px_d333_10 : decode prog_12_method_4_code 10 = .ok (.getfield 15, 3) := by decide +kernel
theorem px_d333_13 : decode prog_12_method_4_code 13 = .ok (.aload_n 0, 1) := by decide +kernel
theorem px_d333_14 : decode prog_12_method_4_code 14 = .ok (.getfield 18, 3) := by decide +kernel
theorem px_d333_17 : decode prog_12_method_4_code 17 = .ok (.lor, 1) := by decide +kernel
theorem px_d333_18 : decode prog_12_method_4_code 18 = .ok (.lconst 0, 1) := by decide +kernel
theorem px_d333_19 : decode prog_12_method_4_code 19 = .ok (.lcmp, 1) := by decide +kernel
theorem px_d333_20 : decode prog_12_method_4_code 20 = .ok (.ifCond .ne 7, 3) := by decide +kernel
theorem px_d333_23 : decode prog_12_method_4_code 23 = .ok (.iconst 1, 1) := by decide +kernel
theorem px_d333_24 : decode prog_12_method_4_code 24 = .ok (.goto 4, 3) := by decide +kernel
theorem px_d333_27 : decode prog_12_method_4_code 27 = .ok (.iconst 0, 1) := by decide +kernel
theorem px_d333_28 : decode prog_12_method_4_code 28 = .ok (.ireturn, 1) := by decide +kernel
