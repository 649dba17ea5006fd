theorem px_d145_38 : decode prog_9_method_5_code 38 = .ok (.getfield 94, 3) := by decide +kernel
theorem px_d145_41 : decode prog_9_method_5_code 41 = .ok (.iconst (-1), 1) := by decide +kernel
theorem px_d145_42 : decode prog_9_method_5_code 42 = .ok (.if_icmp .eq 7, 3) := by decide +kernel
theorem px_d145_45 : decode prog_9_method_5_code 45 = .ok (.iconst 1, 1) := by decide +kernel
theorem px_d145_46 : decode prog_9_method_5_code 46 = .ok (.goto 4, 3) := by decide +kernel
theorem px_d145_49 : decode prog_9_method_5_code 49 = .ok (.iconst 0, 1) := by decide +kernel
theorem px_d145_50 : decode prog_9_method_5_code 50 = .ok (.istore_n 1, 1) := by decide +kernel
theorem px_d145_51 : decode prog_9_method_5_code 51 = .ok (.iconst 0, 1) := by decide +kernel
theorem px_d145_52 : decode prog_9_method_5_code 52 = .ok (.istore_n 2, 1) := by decide +kernel
theorem px_d145_53 : decode prog_9_method_5_code 53 = .ok (.iload_n 2, 1) := by decide +kernel
theorem px_d145_54 : decode prog_9_method_5_code 54 = .ok (.getstatic 100, 3) := by decide +kernel
theorem px_d145_57 : decode prog_9_method_5_code 57 = .ok (.arraylength, 1) := by decide +kernel
theorem px_d145_58 : decode prog_9_method_5_code 58 = .ok (.if_icmp .ge 57, 3) := by decide +kernel
theorem px_d145_61 : decode prog_9_method_5_code 61 = .ok (.getstatic 100, 3) := by decide +kernel
theorem px_d145_64 : decode prog_9_method_5_code 64 = .ok (.iload_n 2, 1) := by decide +kernel
theorem px_d145_65 : decode prog_9_method_5_code 65 = .ok (.aaload, 1) := by decide +kernel
theorem px_d145_66 : decode prog_9_method_5_code 66 = .ok (.getfield 104, 3) := by decide +kernel
theorem px_d145_69 : decode prog_9_method_5_code 69 = .ok (.iload_n 1, 1) := by decide +kernel
theorem px_d145_70 : decode prog_9_method_5_code 70 = .ok (.if_icmp .ne 39, 3) := by decide +kernel
theorem px_d145_73 : decode prog_9_method_5_code 73 = .ok (.aload_n 0, 1) := by decide +kernel
theorem px_d145_74 : decode prog_9_method_5_code 74 = .ok (.getfield 9, 3) := by decide +kernel
theorem px_d145_77 : decode prog_9_method_5_code 77 = .ok (.getstatic 100, 3) := by decide +kernel
theorem px_d145_80 : decode prog_9_method_5_code 80 = .ok (.iload_n 2, 1) := by decide +kernel
theorem px_d145_81 : decode prog_9_method_5_code 81 = .ok (.aaload, 1) := by decide +kernel
theorem px_d145_82 : decode prog_9_method_5_code 82 = .ok (.getfield 107, 3) := by decide +kernel
theorem px_d145_85 : decode prog_9_method_5_code 85 = .ok (.invokevirtual 111, 3) := by decide +kernel
theorem px_d145_88 : decode prog_9_method_5_code 88 = .ok (.ifCond .eq 21, 3) := by decide +kernel
theorem px_d145_91 : decode prog_9_method_5_code 91 = .ok (.aload_n 0, 1) := by decide +kernel
theorem px_d145_92 : decode prog_9_method_5_code 92 = .ok (.getstatic 100, 3) := by decide +kernel
theorem px_d145_95 : decode prog_9_method_5_code 95 = .ok (.iload_n 2, 1) := by decide +kernel
theorem px_d145_96 : decode prog_9_method_5_code 96 = .ok (.aaload, 1) := by decide +kernel
theorem px_d145_97 : decode prog_9_method_5_code 97 = .ok (.putfield 25, 3) := by decide +kernel
theorem px_d145_100 : decode prog_9_method_5_code 100 = .ok (.aload_n 0, 1) := by decide +kernel
theorem px_d145_101 : decode prog_9_method_5_code 101 = .ok (.getfield 9, 3) := by decide +kernel
theorem px_d145_104 : decode prog_9_method_5_code 104 = .ok (.invokevirtual 97, 3) := by decide +kernel
theorem px_d145_107 : decode prog_9_method_5_code 107 = .ok (.iconst 1, 1) := by decide +kernel
theorem px_d145_108 : decode prog_9_method_5_code 108 = .ok (.ireturn, 1) := by decide +kernel
theorem px_d145_109 : decode prog_9_method_5_code 109 = .ok (.iinc 2 1, 3) := by decide +kernel
theorem px_d145_112 : decode prog_9_method_5_code 112 = .ok (.goto (-59), 3) := by decide +kernel
theorem px_d145_115 : decode prog_9_method_5_code 115 = .ok (.iconst 0, 1) := by decide +kernel
theorem px_d145_116 : decode prog_9_method_5_code 116 = .ok (.ireturn, 1) := by decide +kernel
theorem px_d146_0 : decode prog_10_method_5_code 0 = .ok (.aload_n 0, 1) := by decide +kernel
theorem px_d146_1 : decode prog_10_method_5_code 1 = .ok (.getfield 31, 3) := by decide +kernel
theorem px_d146_4 : decode prog_10_method_5_code 4 = .ok (.iconst 2, 1) := by decide +kernel
theorem px_d146_5 : decode prog_10_method_5_code 5 = .ok (.if_icmp .ne 30, 3) := by decide +kernel
theorem px_d146_8 : decode prog_10_method_5_code 8 = .ok (.aload_n 0, 1) := by decide +kernel
theorem px_d146_9 : decode prog_10_method_5_code 9 = .ok (.getfield 19, 3) := by decide +kernel
theorem px_d146_12 : decode prog_10_method_5_code 12 = .ok (.aload_n 0, 1) := by decide +kernel
theorem px_d146_13 : decode prog_10_method_5_code 13 = .ok (.getfield 28, 3) := by decide +kernel
theorem px_d146_16 : decode prog_10_method_5_code 16 = .ok (.isub, 1) := by decide +kernel
theorem px_d146_17 : decode prog_10_method_5_code 17 = .ok (.iconst 1, 1) := by decide +kernel
theorem px_d146_18 : decode prog_10_method_5_code 18 = .ok (.if_icmp .ne 17, 3) := by decide +kernel
theorem px_d146_21 : decode prog_10_method_5_code 21 = .ok (.aload_n 0, 1) := by decide +kernel
theorem px_d146_22 : decode prog_10_method_5_code 22 = .ok (.getfield 9, 3) := by decide +kernel
theorem px_d146_25 : decode prog_10_method_5_code 25 = .ok (.aload_n 0, 1) := by decide +kernel
theorem px_d146_26 : decode prog_10_method_5_code 26 = .ok (.getfield 28, 3) := by decide +kernel
theorem px_d146_29 : decode prog_10_method_5_code 29 = .ok (.baload, 1) := by decide +kernel
theorem px_d146_30 : decode prog_10_method_5_code 30 = .ok (.bipush 97, 2) := by decide +kernel
theorem px_d146_32 : decode prog_10_method_5_code 32 = .ok (.if_icmp .ge 5, 3) := by decide +kernel
theorem px_d146_35 : decode prog_10_method_5_code 35 = .ok (.iconst (-1), 1) := by decide +kernel
theorem px_d146_36 : decode prog_10_method_5_code 36 = .ok (.ireturn, 1) := by decide +kernel
theorem px_d146_37 : decode prog_10_method_5_code 37 = .ok (.aload_n 0, 1) := by decide +kernel
theorem px_d146_38 : decode prog_10_method_5_code 38 = .ok (.getfield 9, 3) := by decide +kernel
theorem px_d146_41 : decode prog_10_method_5_code 41 = .ok (.aload_n 0, 1) := by decide +kernel
theorem px_d146_42 : decode prog_10_method_5_code 42 = .ok (.getfield 28, 3) := by decide +kernel
theorem px_d146_45 : decode prog_10_method_5_code 45 = .ok (.baload, 1) := by decide +kernel
theorem px_d146_46 : decode prog_10_method_5_code 46 = .ok (.bipush 97, 2) := by decide +kernel
theorem px_d146_48 : decode prog_10_method_5_code 48 = .ok (.isub, 1) := by decide +kernel
theorem px_d146_49 : decode prog_10_method_5_code 49 = .ok (.ireturn, 1) := by decide +kernel
theorem px_d147_0 : decode prog_9_method_13_code 0 = .ok (.aload_n 0, 1) := by decide +kernel
theorem px_d147_1 : decode prog_9_method_13_code 1 = .ok (.getfield 9, 3) := by decide +kernel
theorem px_d147_4 : decode prog_9_method_13_code 4 = .ok (.getfield 120, 3) := by decide +kernel
theorem px_d147_7 : decode prog_9_method_13_code 7 = .ok (.iload_n 1, 1) := by decide +kernel
theorem px_d147_8 : decode prog_9_method_13_code 8 = .ok (.if_icmp .eq 5, 3) := by decide +kernel
theorem px_d147_11 : decode prog_9_method_13_code 11 = .ok (.iconst 0, 1) := by decide +kernel
theorem px_d147_12 : decode prog_9_method_13_code 12 = .ok (.ireturn, 1) := by decide +kernel
theorem px_d147_13 : decode prog_9_method_13_code 13 = .ok (.aload_n 0, 1) := by decide +kernel
theorem px_d147_14 : decode prog_9_method_13_code 14 = .ok (.getfield 9, 3) := by decide +kernel
theorem px_d147_17 : decode prog_9_method_13_code 17 = .ok (.invokevirtual 97, 3) := by decide +kernel
theorem px_d147_20 : decode prog_9_method_13_code 20 = .ok (.iconst 1, 1) := by decide +kernel
theorem px_d147_21 : decode prog_9_method_13_code 21 = .ok (.ireturn, 1) := by decide +kernel
theorem px_d148_0 : decode prog_10_method_4_code 0 = .ok (.aload_n 0, 1) := by decide +kernel
theorem px_d148_1 : decode prog_10_method_4_code 1 = .ok (.getfield 31, 3) := by decide +kernel
theorem px_d148_4 : decode prog_10_method_4_code 4 = .ok (.iconst 2, 1) := by decide +kernel
theorem px_d148_5 : decode prog_10_method_4_code 5 = .ok (.if_icmp .ne 19, 3) := by decide +kernel
theorem px_d148_8 : decode prog_10_method_4_code 8 = .ok (.aload_n 0, 1) := by decide +kernel
theorem px_d148_9 : decode prog_10_method_4_code 9 = .ok (.getfield 19, 3) := by decide +kernel
theorem px_d148_12 : decode prog_10_method_4_code 12 = .ok (.aload_n 0, 1) := by decide +kernel
theorem px_d148_13 : decode prog_10_method_4_code 13 = .ok (.getfield 28, 3) := by decide +kernel
theorem px_d148_16 : decode prog_10_method_4_code 16 = .ok (.isub, 1) := by decide +kernel
theorem px_d148_17 : decode prog_10_method_4_code 17 = .ok (.aload_n 1, 1) := by decide +kernel
theorem px_d148_18 : decode prog_10_method_4_code 18 = .ok (.invokevirtual 48, 3) := by decide +kernel
theorem px_d148_21 : decode prog_10_method_4_code 21 = .ok (.if_icmp .eq 5, 3) := by decide +kernel
theorem px_d148_24 : decode prog_10_method_4_code 24 = .ok (.iconst 0, 1) := by decide +kernel
theorem px_d148_25 : decode prog_10_method_4_code 25 = .ok (.ireturn, 1) := by decide +kernel
theorem px_d148_26 : decode prog_10_method_4_code 26 = .ok (.iconst 0, 1) := by decide +kernel
theorem px_d148_27 : decode prog_10_method_4_code 27 = .ok (.istore_n 2, 1) := by decide +kernel
theorem px_d148_28 : decode prog_10_method_4_code 28 = .ok (.iload_n 2, 1) := by decide +kernel
theorem px_d148_29 : decode prog_10_method_4_code 29 = .ok (.aload_n 1, 1) := by decide +kernel
theorem px_d148_30 : decode prog_10_method_4_code 30 = .ok (.invokevirtual 48, 3) := by decide +kernel
theorem px_d148_33 : decode prog_10_method_4_code 33 = .ok (.if_icmp .ge 30, 3) := by decide +kernel
theorem px_d148_36 : decode prog_10_method_4_code 36 = .ok (.aload_n 0, 1) := by decide +kernel
theorem px_d148_37 : decode prog_10_method_4_code 37 = .ok (.getfield 9, 3) := by decide +kernel
theorem px_d148_40 : decode prog_10_method_4_code 40 = .ok (.aload_n 0, 1) := by decide +kernel
theorem px_d148_41 : decode prog_10_method_4_code 41 = .ok (.getfield 28, 3) := by decide +kernel
theorem px_d148_44 : decode prog_10_method_4_code 44 = .ok (.iload_n 2, 1) := by decide +kernel
theorem px_d148_45 : decode prog_10_method_4_code 45 = .ok (.iadd, 1) := by decide +kernel
theorem px_d148_46 : decode prog_10_method_4_code 46 = .ok (.baload, 1) := by decide +kernel
theorem px_d148_47 : decode prog_10_method_4_code 47 = .ok (.aload_n 1, 1) := by decide +kernel
theorem px_d148_48 : decode prog_10_method_4_code 48 = .ok (.iload_n 2, 1) := by decide +kernel
theorem px_d148_49 : decode prog_10_method_4_code 49 = .ok (.invokevirtual 53, 3) := by decide +kernel
theorem px_d148_52 : decode prog_10_method_4_code 52 = .ok (.if_icmp .eq 5, 3) := by decide +kernel
theorem px_d148_55 : decode prog_10_method_4_code 55 = .ok (.iconst 0, 1) := by decide +kernel
theorem px_d148_56 : decode prog_10_method_4_code 56 = .ok (.ireturn, 1) := by decide +kernel
theorem px_d148_57 : decode prog_10_method_4_code 57 = .ok (.iinc 2 1, 3) := by decide +kernel
theorem px_d148_60 : decode prog_10_method_4_code 60 = .ok (.goto (-32), 3) := by decide +kernel
theorem px_d148_63 : decode prog_10_method_4_code 63 = .ok (.iconst 1, 1) := by decide +kernel
theorem px_d148_64 : decode prog_10_method_4_code 64 = .ok (.ireturn, 1) := by decide +kernel
theorem px_d149_0 : decode prog_27_method_54_code 0 = .ok (.aload_n 0, 1) := by decide +kernel
theorem px_d149_1 : decode prog_27_method_54_code 1 = .ok (.getfield 9, 3) := by decide +kernel
theorem px_d149_4 : decode prog_27_method_54_code 4 = .ok (.arraylength, 1) := by decide +kernel
theorem px_d149_5 : decode prog_27_method_54_code 5 = .ok (.aload_n 0, 1) := by decide +kernel
theorem px_d149_6 : decode prog_27_method_54_code 6 = .ok (.invokevirtual 335, 3) := by decide +kernel
theorem px_d149_9 : decode prog_27_method_54_code 9 = .ok (.ishr, 1) := by decide +kernel
theorem px_d149_10 : decode prog_27_method_54_code 10 = .ok (.ireturn, 1) := by decide +kernel
theorem px_d150_0 : decode prog_27_method_152_code 0 = .ok (.getstatic 38, 3) := by decide +kernel
theorem px_d150_3 : decode prog_27_method_152_code 3 = .ok (.ifCond .eq 10, 3) := by decide +kernel
theorem px_d150_6 : decode prog_27_method_152_code 6 = .ok (.aload_n 0, 1) := by decide +kernel
theorem px_d150_7 : decode prog_27_method_152_code 7 = .ok (.getfield 15, 3) := by decide +kernel
theorem px_d150_10 : decode prog_27_method_152_code 10 = .ok (.goto 4, 3) := by decide +kernel
theorem px_d150_14 : decode prog_27_method_152_code 14 = .ok (.ireturn, 1) := by decide +kernel
theorem px_d151_0 : decode prog_27_method_56_code 0 = .ok (.aload_n 0, 1) := by decide +kernel
theorem px_d151_1 : decode prog_27_method_56_code 1 = .ok (.invokevirtual 492, 3) := by decide +kernel
theorem px_d151_4 : decode prog_27_method_56_code 4 = .ok (.ifCond .eq 12, 3) := by decide +kernel
theorem px_d151_7 : decode prog_27_method_56_code 7 = .ok (.aload_n 0, 1) := by decide +kernel
theorem px_d151_8 : decode prog_27_method_56_code 8 = .ok (.getfield 9, 3) := by decide +kernel
theorem px_d151_11 : decode prog_27_method_56_code 11 = .ok (.iload_n 1, 1) := by decide +kernel
theorem px_d151_12 : decode prog_27_method_56_code 12 = .ok (.invokestatic 495, 3) := by decide +kernel
theorem px_d151_15 : decode prog_27_method_56_code 15 = .ok (.ireturn, 1) := by decide +kernel
theorem px_d151_16 : decode prog_27_method_56_code 16 = .ok (.aload_n 0, 1) := by decide +kernel
theorem px_d151_17 : decode prog_27_method_56_code 17 = .ok (.getfield 9, 3) := by decide +kernel
theorem px_d151_20 : decode prog_27_method_56_code 20 = .ok (.iload_n 1, 1) := by decide +kernel
theorem px_d152_0 : decode prog_27_method_154_code 0 = .ok (.getstatic 38, 3) := by decide +kernel
theorem px_d152_3 : decode prog_27_method_154_code 3 = .ok (.ifCond .eq 14, 3) := by decide +kernel
theorem px_d152_6 : decode prog_27_method_154_code 6 = .ok (.aload_n 0, 1) := by decide +kernel
theorem px_d152_7 : decode prog_27_method_154_code 7 = .ok (.getfield 15, 3) := by decide +kernel
theorem px_d152_10 : decode prog_27_method_154_code 10 = .ok (.ifCond .ne 7, 3) := by decide +kernel
theorem px_d152_13 : decode prog_27_method_154_code 13 = .ok (.iconst 1, 1) := by decide +kernel
theorem px_d152_14 : decode prog_27_method_154_code 14 = .ok (.goto 4, 3) := by decide +kernel
theorem px_d152_17 : decode prog_27_method_154_code 17 = .ok (.iconst 0, 1) := by decide +kernel
theorem px_d152_18 : decode prog_27_method_154_code 18 = .ok (.ireturn, 1) := by decide +kernel
theorem px_d153_0 : decode prog_29_method_2_code 0 = .ok (.iload_n 1, 1) := by decide +kernel
theorem px_d153_1 : decode prog_29_method_2_code 1 = .ok (.aload_n 0, 1) := by decide +kernel
theorem px_d153_2 : decode prog_29_method_2_code 2 = .ok (.arraylength, 1) := by decide +kernel
theorem px_d153_3 : decode prog_29_method_2_code 3 = .ok (.invokestatic 9, 3) := by decide +kernel
theorem px_d153_6 : decode prog_29_method_2_code 6 = .ok (.aload_n 0, 1) := by decide +kernel
theorem px_d153_7 : decode prog_29_method_2_code 7 = .ok (.iload_n 1, 1) := by decide +kernel
theorem px_d153_8 : decode prog_29_method_2_code 8 = .ok (.baload, 1) := by decide +kernel
theorem px_d153_9 : decode prog_29_method_2_code 9 = .ok (.sipush 255, 3) := by decide +kernel
theorem px_d153_12 : decode prog_29_method_2_code 12 = .ok (.iand, 1) := by decide +kernel
theorem px_d153_13 : decode prog_29_method_2_code 13 = .ok (.i2c, 1) := by decide +kernel
theorem px_d153_14 : decode prog_29_method_2_code 14 = .ok (.ireturn, 1) := by decide +kernel
theorem px_d154_0 : decode prog_27_method_155_code 0 = .ok (.iload_n 0, 1) := by decide +kernel
theorem px_d154_1 : decode prog_27_method_155_code 1 = .ok (.iload_n 1, 1) := by decide +kernel
theorem px_d154_2 : decode prog_27_method_155_code 2 = .ok (.getstatic 1053, 3) := by decide +kernel
theorem px_d154_5 : decode prog_27_method_155_code 5 = .ok (.invokestatic 1059, 3) := by decide +kernel
theorem px_d154_8 : decode prog_27_method_155_code 8 = .ok (.pop, 1) := by decide +kernel
theorem px_d154_9 : decode prog_27_method_155_code 9 = .ok (.return_, 1) := by decide +kernel
theorem px_d155_0 : decode prog_35_method_11_code 0 = .ok (.iload_n 0, 1) := by decide +kernel
theorem px_d155_1 : decode prog_35_method_11_code 1 = .ok (.ifCond .lt 8, 3) := by decide +kernel
theorem px_d155_4 : decode prog_35_method_11_code 4 = .ok (.iload_n 0, 1) := by decide +kernel
theorem px_d155_5 : decode prog_35_method_11_code 5 = .ok (.iload_n 1, 1) := by decide +kernel
theorem px_d155_6 : decode prog_35_method_11_code 6 = .ok (.if_icmp .lt 10, 3) := by decide +kernel
theorem px_d155_16 : decode prog_35_method_11_code 16 = .ok (.iload_n 0, 1) := by decide +kernel
theorem px_d155_17 : decode prog_35_method_11_code 17 = .ok (.ireturn, 1) := by decide +kernel
theorem px_d160_0 : decode prog_9_method_6_code 0 = .ok (.aload_n 0, 1) := by decide +kernel
theorem px_d160_1 : decode prog_9_method_6_code 1 = .ok (.iconst 0, 1) := by decide +kernel
theorem px_d160_2 : decode prog_9_method_6_code 2 = .ok (.putfield 74, 3) := by decide +kernel
theorem px_d160_5 : decode prog_9_method_6_code 5 = .ok (.aload_n 0, 1) := by decide +kernel
theorem px_d160_6 : decode prog_9_method_6_code 6 = .ok (.getfield 25, 3) := by decide +kernel
theorem px_d160_9 : decode prog_9_method_6_code 9 = .ok (.getfield 115, 3) := by decide +kernel
theorem px_d160_12 : decode prog_9_method_6_code 12 = .ok (.ifCond .eq 56, 3) := by decide +kernel
theorem px_d160_15 : decode prog_9_method_6_code 15 = .ok (.aload_n 0, 1) := by decide +kernel
theorem px_d160_16 : decode prog_9_method_6_code 16 = .ok (.getfield 9, 3) := by decide +kernel
theorem px_d160_19 : decode prog_9_method_6_code 19 = .ok (.ldc 118, 2) := by decide +kernel
theorem px_d160_21 : decode prog_9_method_6_code 21 = .ok (.invokevirtual 111, 3) := by decide +kernel
theorem px_d160_24 : decode prog_9_method_6_code 24 = .ok (.ifCond .ne 44, 3) := by decide +kernel
theorem px_d160_27 : decode prog_9_method_6_code 27 = .ok (.aload_n 0, 1) := by decide +kernel
theorem px_d160_28 : decode prog_9_method_6_code 28 = .ok (.getfield 9, 3) := by decide +kernel
theorem px_d160_31 : decode prog_9_method_6_code 31 = .ok (.getfield 120, 3) := by decide +kernel
theorem px_d160_34 : decode prog_9_method_6_code 34 = .ok (.iconst 3, 1) := by decide +kernel
theorem px_d160_35 : decode prog_9_method_6_code 35 = .ok (.if_icmp .eq 5, 3) := by decide +kernel
theorem px_d160_38 : decode prog_9_method_6_code 38 = .ok (.iconst 0, 1) := by decide +kernel
theorem px_d160_39 : decode prog_9_method_6_code 39 = .ok (.ireturn, 1) := by decide +kernel
theorem px_d160_40 : decode prog_9_method_6_code 40 = .ok (.aload_n 0, 1) := by decide +kernel
theorem px_d160_41 : decode prog_9_method_6_code 41 = .ok (.aload_n 0, 1) := by decide +kernel
theorem px_d160_42 : decode prog_9_method_6_code 42 = .ok (.getfield 9, 3) := by decide +kernel
theorem px_d160_45 : decode prog_9_method_6_code 45 = .ok (.getfield 123, 3) := by decide +kernel
theorem px_d160_48 : decode prog_9_method_6_code 48 = .ok (.invokestatic 126, 3) := by decide +kernel
theorem px_d160_51 : decode prog_9_method_6_code 51 = .ok (.ifCond .eq 13, 3) := by decide +kernel
theorem px_d160_54 : decode prog_9_method_6_code 54 = .ok (.aload_n 0, 1) := by decide +kernel
theorem px_d160_55 : decode prog_9_method_6_code 55 = .ok (.getfield 9, 3) := by decide +kernel
theorem px_d160_58 : decode prog_9_method_6_code 58 = .ok (.getfield 123, 3) := by decide +kernel
theorem px_d160_61 : decode prog_9_method_6_code 61 = .ok (.goto 4, 3) := by decide +kernel
theorem px_d160_64 : decode prog_9_method_6_code 64 = .ok (.iconst (-1), 1) := by decide +kernel
theorem px_d160_65 : decode prog_9_method_6_code 65 = .ok (.putfield 74, 3) := by decide +kernel
theorem px_d160_68 : decode prog_9_method_6_code 68 = .ok (.aload_n 0, 1) := by decide +kernel
theorem px_d160_69 : decode prog_9_method_6_code 69 = .ok (.getfield 25, 3) := by decide +kernel
theorem px_d160_72 : decode prog_9_method_6_code 72 = .ok (.getfield 115, 3) := by decide +kernel
theorem px_d160_75 : decode prog_9_method_6_code 75 = .ok (.ifCond .eq 10, 3) := by decide +kernel
theorem px_d160_78 : decode prog_9_method_6_code 78 = .ok (.aload_n 0, 1) := by decide +kernel
theorem px_d160_79 : decode prog_9_method_6_code 79 = .ok (.getfield 9, 3) := by decide +kernel
theorem px_d160_82 : decode prog_9_method_6_code 82 = .ok (.invokevirtual 97, 3) := by decide +kernel
theorem px_d160_85 : decode prog_9_method_6_code 85 = .ok (.iconst 1, 1) := by decide +kernel
theorem px_d160_86 : decode prog_9_method_6_code 86 = .ok (.ireturn, 1) := by decide +kernel
theorem px_d161_0 : decode prog_9_method_16_code 0 = .ok (.iload_n 0, 1) := by decide +kernel
theorem px_d161_1 : decode prog_9_method_16_code 1 = .ok (.iconst 2, 1) := by decide +kernel
theorem px_d161_2 : decode prog_9_method_16_code 2 = .ok (.if_icmp .lt 10, 3) := by decide +kernel
theorem px_d161_5 : decode prog_9_method_16_code 5 = .ok (.iload_n 0, 1) := by decide +kernel
theorem px_d161_6 : decode prog_9_method_16_code 6 = .ok (.sipush 251, 3) := by decide +kernel
theorem px_d161_9 : decode prog_9_method_16_code 9 = .ok (.if_icmp .le 5, 3) := by decide +kernel
theorem px_d161_12 : decode prog_9_method_16_code 12 = .ok (.iconst 0, 1) := by decide +kernel
theorem px_d161_13 : decode prog_9_method_16_code 13 = .ok (.ireturn, 1) := by decide +kernel
theorem px_d161_14 : decode prog_9_method_16_code 14 = .ok (.iconst 2, 1) := by decide +kernel
theorem px_d161_15 : decode prog_9_method_16_code 15 = .ok (.istore_n 1, 1) := by decide +kernel
theorem px_d161_16 : decode prog_9_method_16_code 16 = .ok (.iload_n 1, 1) := by decide +kernel
theorem px_d161_17 : decode prog_9_method_16_code 17 = .ok (.iload_n 1, 1) := by decide +kernel
theorem px_d161_18 : decode prog_9_method_16_code 18 = .ok (.imul, 1) := by decide +kernel
theorem px_d161_19 : decode prog_9_method_16_code 19 = .ok (.iload_n 0, 1) := by decide +kernel
theorem px_d161_20 : decode prog_9_method_16_code 20 = .ok (.if_icmp .gt 17, 3) := by decide +kernel
theorem px_d161_23 : decode prog_9_method_16_code 23 = .ok (.iload_n 0, 1) := by decide +kernel
theorem px_d161_24 : decode prog_9_method_16_code 24 = .ok (.iload_n 1, 1) := by decide +kernel
theorem px_d161_25 : decode prog_9_method_16_code 25 = .ok (.irem, 1) := by decide +kernel
theorem px_d161_26 : decode prog_9_method_16_code 26 = .ok (.ifCond .ne 5, 3) := by decide +kernel
theorem px_d161_29 : decode prog_9_method_16_code 29 = .ok (.iconst 0, 1) := by decide +kernel
theorem px_d161_30 : decode prog_9_method_16_code 30 = .ok (.ireturn, 1) := by decide +kernel
theorem px_d161_31 : decode prog_9_method_16_code 31 = .ok (.iinc 1 1, 3) := by decide +kernel
theorem px_d161_34 : decode prog_9_method_16_code 34 = .ok (.goto (-18), 3) := by decide +kernel
theorem px_d161_37 : decode prog_9_method_16_code 37 = .ok (.iconst 1, 1) := by decide +kernel
theorem px_d161_38 : decode prog_9_method_16_code 38 = .ok (.ireturn, 1) := by decide +kernel
theorem px_d162_0 : decode prog_9_method_7_code 0 = .ok (.aload_n 0, 1) := by decide +kernel
theorem px_d162_1 : decode prog_9_method_7_code 1 = .ok (.aload_n 0, 1) := by decide +kernel
theorem px_d162_2 : decode prog_9_method_7_code 2 = .ok (.getfield 9, 3) := by decide +kernel
theorem px_d162_5 : decode prog_9_method_7_code 5 = .ok (.getfield 123, 3) := by decide +kernel
theorem px_d162_8 : decode prog_9_method_7_code 8 = .ok (.putfield 77, 3) := by decide +kernel
theorem px_d162_11 : decode prog_9_method_7_code 11 = .ok (.aload_n 0, 1) := by decide +kernel
theorem px_d162_12 : decode prog_9_method_7_code 12 = .ok (.getfield 25, 3) := by decide +kernel
theorem px_d162_15 : decode prog_9_method_7_code 15 = .ok (.getfield 129, 3) := by decide +kernel
theorem px_d162_18 : decode prog_9_method_7_code 18 = .ok (.ifCond .le 13, 3) := by decide +kernel
theorem px_d162_21 : decode prog_9_method_7_code 21 = .ok (.aload_n 0, 1) := by decide +kernel
theorem px_d162_22 : decode prog_9_method_7_code 22 = .ok (.iconst 3, 1) := by decide +kernel
theorem px_d162_23 : decode prog_9_method_7_code 23 = .ok (.invokevirtual 61, 3) := by decide +kernel
theorem px_d162_26 : decode prog_9_method_7_code 26 = .ok (.ifCond .ne 5, 3) := by decide +kernel
theorem px_d162_29 : decode prog_9_method_7_code 29 = .ok (.iconst 0, 1) := by decide +kernel
theorem px_d162_30 : decode prog_9_method_7_code 30 = .ok (.ireturn, 1) := by decide +kernel
theorem px_d162_31 : decode prog_9_method_7_code 31 = .ok (.aload_n 0, 1) := by decide +kernel
theorem px_d162_32 : decode prog_9_method_7_code 32 = .ok (.aload_n 0, 1) := by decide +kernel
theorem px_d162_33 : decode prog_9_method_7_code 33 = .ok (.getfield 9, 3) := by decide +kernel
theorem px_d162_36 : decode prog_9_method_7_code 36 = .ok (.getfield 123, 3) := by decide +kernel
theorem px_d162_39 : decode prog_9_method_7_code 39 = .ok (.putfield 83, 3) := by decide +kernel
theorem px_d162_42 : decode prog_9_method_7_code 42 = .ok (.aload_n 0, 1) := by decide +kernel
theorem px_d162_43 : decode prog_9_method_7_code 43 = .ok (.getfield 25, 3) := by decide +kernel
theorem px_d162_46 : decode prog_9_method_7_code 46 = .ok (.getfield 129, 3) := by decide +kernel
theorem px_d162_49 : decode prog_9_method_7_code 49 = .ok (.iconst 2, 1) := by decide +kernel
theorem px_d162_50 : decode prog_9_method_7_code 50 = .ok (.if_icmp .lt 11, 3) := by decide +kernel
theorem px_d162_53 : decode prog_9_method_7_code 53 = .ok (.aload_n 0, 1) := by decide +kernel
theorem px_d162_54 : decode prog_9_method_7_code 54 = .ok (.iconst 3, 1) := by decide +kernel
theorem px_d162_55 : decode prog_9_method_7_code 55 = .ok (.invokevirtual 61, 3) := by decide +kernel
theorem px_d162_58 : decode prog_9_method_7_code 58 = .ok (.ifCond .eq 7, 3) := by decide +kernel
theorem px_d162_61 : decode prog_9_method_7_code 61 = .ok (.iconst 1, 1) := by decide +kernel
theorem px_d162_62 : decode prog_9_method_7_code 62 = .ok (.goto 4, 3) := by decide +kernel
theorem px_d162_65 : decode prog_9_method_7_code 65 = .ok (.iconst 0, 1) := by decide +kernel
theorem px_d162_66 : decode prog_9_method_7_code 66 = .ok (.ireturn, 1) := by decide +kernel
theorem px_d163_0 : decode prog_9_method_8_code 0 = .ok (.aload_n 0, 1) := by decide +kernel
theorem px_d163_1 : decode prog_9_method_8_code 1 = .ok (.getfield 25, 3) := by decide +kernel
theorem px_d163_4 : decode prog_9_method_8_code 4 = .ok (.getfield 132, 3) := by decide +kernel
theorem px_d163_7 : decode prog_9_method_8_code 7 = .ok (.ifCond .le 31, 3) := by decide +kernel
theorem px_d163_10 : decode prog_9_method_8_code 10 = .ok (.aload_n 0, 1) := by decide +kernel
theorem px_d163_11 : decode prog_9_method_8_code 11 = .ok (.aload_n 0, 1) := by decide +kernel
theorem px_d163_12 : decode prog_9_method_8_code 12 = .ok (.getfield 9, 3) := by decide +kernel
theorem px_d163_15 : decode prog_9_method_8_code 15 = .ok (.invokevirtual 89, 3) := by decide +kernel
theorem px_d163_18 : decode prog_9_method_8_code 18 = .ok (.putfield 28, 3) := by decide +kernel
theorem px_d163_21 : decode prog_9_method_8_code 21 = .ok (.aload_n 0, 1) := by decide +kernel
theorem px_d163_22 : decode prog_9_method_8_code 22 = .ok (.getfield 28, 3) := by decide +kernel
theorem px_d163_25 : decode prog_9_method_8_code 25 = .ok (.iconst (-1), 1) := by decide +kernel
theorem px_d163_26 : decode prog_9_method_8_code 26 = .ok (.if_icmp .ne 5, 3) := by decide +kernel
theorem px_d163_29 : decode prog_9_method_8_code 29 = .ok (.iconst 0, 1) := by decide +kernel
theorem px_d163_30 : decode prog_9_method_8_code 30 = .ok (.ireturn, 1) := by decide +kernel
theorem px_d163_31 : decode prog_9_method_8_code 31 = .ok (.aload_n 0, 1) := by decide +kernel
theorem px_d163_32 : decode prog_9_method_8_code 32 = .ok (.getfield 9, 3) := by decide +kernel
theorem px_d163_35 : decode prog_9_method_8_code 35 = .ok (.invokevirtual 97, 3) := by decide +kernel
theorem px_d163_38 : decode prog_9_method_8_code 38 = .ok (.aload_n 0, 1) := by decide +kernel
theorem px_d163_39 : decode prog_9_method_8_code 39 = .ok (.getfield 25, 3) := by decide +kernel
theorem px_d163_42 : decode prog_9_method_8_code 42 = .ok (.getfield 132, 3) := by decide +kernel
theorem px_d163_45 : decode prog_9_method_8_code 45 = .ok (.iconst 1, 1) := by decide +kernel
theorem px_d163_46 : decode prog_9_method_8_code 46 = .ok (.if_icmp .le 31, 3) := by decide +kernel
theorem px_d163_49 : decode prog_9_method_8_code 49 = .ok (.aload_n 0, 1) := by decide +kernel
theorem px_d163_50 : decode prog_9_method_8_code 50 = .ok (.aload_n 0, 1) := by decide +kernel
theorem px_d163_51 : decode prog_9_method_8_code 51 = .ok (.getfield 9, 3) := by decide +kernel
theorem px_d163_54 : decode prog_9_method_8_code 54 = .ok (.invokevirtual 89, 3) := by decide +kernel
theorem px_d163_57 : decode prog_9_method_8_code 57 = .ok (.putfield 32, 3) := by decide +kernel
theorem px_d163_60 : decode prog_9_method_8_code 60 = .ok (.aload_n 0, 1) := by decide +kernel
theorem px_d163_61 : decode prog_9_method_8_code 61 = .ok (.getfield 32, 3) := by decide +kernel
theorem px_d163_64 : decode prog_9_method_8_code 64 = .ok (.iconst (-1), 1) := by decide +kernel
theorem px_d163_65 : decode prog_9_method_8_code 65 = .ok (.if_icmp .ne 5, 3) := by decide +kernel
theorem px_d163_68 : decode prog_9_method_8_code 68 = .ok (.iconst 0, 1) := by decide +kernel
theorem px_d163_69 : decode prog_9_method_8_code 69 = .ok (.ireturn, 1) := by decide +kernel
theorem px_d163_70 : decode prog_9_method_8_code 70 = .ok (.aload_n 0, 1) := by decide +kernel
theorem px_d163_71 : decode prog_9_method_8_code 71 = .ok (.getfield 9, 3) := by decide +kernel
theorem px_d163_74 : decode prog_9_method_8_code 74 = .ok (.invokevirtual 97, 3) := by decide +kernel
theorem px_d163_77 : decode prog_9_method_8_code 77 = .ok (.iconst 1, 1) := by decide +kernel
theorem px_d163_78 : decode prog_9_method_8_code 78 = .ok (.ireturn, 1) := by decide +kernel
theorem px_d164_0 : decode prog_9_method_9_code 0 = .ok (.aload_n 0, 1) := by decide +kernel
theorem px_d164_1 : decode prog_9_method_9_code 1 = .ok (.getfield 25, 3) := by decide +kernel
theorem px_d164_4 : decode prog_9_method_9_code 4 = .ok (.getfield 135, 3) := by decide +kernel
theorem px_d164_7 : decode prog_9_method_9_code 7 = .ok (.ifCond .ne 5, 3) := by decide +kernel
theorem px_d164_10 : decode prog_9_method_9_code 10 = .ok (.iconst 1, 1) := by decide +kernel
theorem px_d164_11 : decode prog_9_method_9_code 11 = .ok (.ireturn, 1) := by decide +kernel
theorem px_d164_12 : decode prog_9_method_9_code 12 = .ok (.aload_n 0, 1) := by decide +kernel
theorem px_d164_13 : decode prog_9_method_9_code 13 = .ok (.bipush 123, 2) := by decide +kernel
theorem px_d164_15 : decode prog_9_method_9_code 15 = .ok (.invokevirtual 61, 3) := by decide +kernel
theorem px_d164_18 : decode prog_9_method_9_code 18 = .ok (.ifCond .ne 5, 3) := by decide +kernel
theorem px_d164_21 : decode prog_9_method_9_code 21 = .ok (.iconst 0, 1) := by decide +kernel
theorem px_d164_22 : decode prog_9_method_9_code 22 = .ok (.ireturn, 1) := by decide +kernel
theorem px_d164_23 : decode prog_9_method_9_code 23 = .ok (.aload_n 0, 1) := by decide +kernel
theorem px_d164_24 : decode prog_9_method_9_code 24 = .ok (.getfield 25, 3) := by decide +kernel
theorem px_d164_27 : decode prog_9_method_9_code 27 = .ok (.getfield 135, 3) := by decide +kernel
theorem px_d164_30 : decode prog_9_method_9_code 30 = .ok (.iconst 3, 1) := by decide +kernel
theorem px_d164_31 : decode prog_9_method_9_code 31 = .ok (.if_icmp .ne 45, 3) := by decide +kernel
theorem px_d164_34 : decode prog_9_method_9_code 34 = .ok (.aload_n 0, 1) := by decide +kernel
theorem px_d164_35 : decode prog_9_method_9_code 35 = .ok (.getfield 9, 3) := by decide +kernel
theorem px_d164_38 : decode prog_9_method_9_code 38 = .ok (.getfield 120, 3) := by decide +kernel
theorem px_d164_41 : decode prog_9_method_9_code 41 = .ok (.iconst 3, 1) := by decide +kernel
theorem px_d164_42 : decode prog_9_method_9_code 42 = .ok (.if_icmp .eq 12, 3) := by decide +kernel
theorem px_d164_45 : decode prog_9_method_9_code 45 = .ok (.aload_n 0, 1) := by decide +kernel
theorem px_d164_46 : decode prog_9_method_9_code 46 = .ok (.bipush 125, 2) := by decide +kernel
theorem px_d164_48 : decode prog_9_method_9_code 48 = .ok (.invokevirtual 61, 3) := by decide +kernel
theorem px_d164_51 : decode prog_9_method_9_code 51 = .ok (.goto 24, 3) := by decide +kernel
theorem px_d164_54 : decode prog_9_method_9_code 54 = .ok (.aload_n 0, 1) := by decide +kernel
theorem px_d164_55 : decode prog_9_method_9_code 55 = .ok (.invokevirtual 138, 3) := by decide +kernel
theorem px_d164_58 : decode prog_9_method_9_code 58 = .ok (.ifCond .eq 16, 3) := by decide +kernel
theorem px_d164_61 : decode prog_9_method_9_code 61 = .ok (.aload_n 0, 1) := by decide +kernel
theorem px_d164_62 : decode prog_9_method_9_code 62 = .ok (.bipush 125, 2) := by decide +kernel
theorem px_d164_64 : decode prog_9_method_9_code 64 = .ok (.invokevirtual 61, 3) := by decide +kernel
theorem px_d164_67 : decode prog_9_method_9_code 67 = .ok (.ifCond .eq 7, 3) := by decide +kernel
theorem px_d164_70 : decode prog_9_method_9_code 70 = .ok (.iconst 1, 1) := by decide +kernel
theorem px_d164_71 : decode prog_9_method_9_code 71 = .ok (.goto 4, 3) := by decide +kernel
theorem px_d164_74 : decode prog_9_method_9_code 74 = .ok (.iconst 0, 1) := by decide +kernel
theorem px_d164_75 : decode prog_9_method_9_code 75 = .ok (.ireturn, 1) := by decide +kernel
theorem px_d164_76 : decode prog_9_method_9_code 76 = .ok (.aload_n 0, 1) := by decide +kernel
theorem px_d164_77 : decode prog_9_method_9_code 77 = .ok (.aload_n 0, 1) := by decide +kernel
theorem px_d164_78 : decode prog_9_method_9_code 78 = .ok (.getfield 25, 3) := by decide +kernel
theorem px_d164_81 : decode prog_9_method_9_code 81 = .ok (.getfield 135, 3) := by decide +kernel
theorem px_d164_84 : decode prog_9_method_9_code 84 = .ok (.iconst 2, 1) := by decide +kernel
theorem px_d164_85 : decode prog_9_method_9_code 85 = .ok (.if_icmp .ne 7, 3) := by decide +kernel
theorem px_d164_88 : decode prog_9_method_9_code 88 = .ok (.iconst 1, 1) := by decide +kernel
theorem px_d164_89 : decode prog_9_method_9_code 89 = .ok (.goto 4, 3) := by decide +kernel
theorem px_d164_92 : decode prog_9_method_9_code 92 = .ok (.iconst 0, 1) := by decide +kernel
theorem px_d164_93 : decode prog_9_method_9_code 93 = .ok (.invokevirtual 141, 3) := by decide +kernel
theorem px_d164_96 : decode prog_9_method_9_code 96 = .ok (.aload_n 0, 1) := by decide +kernel
theorem px_d164_97 : decode prog_9_method_9_code 97 = .ok (.bipush 125, 2) := by decide +kernel
theorem px_d164_99 : decode prog_9_method_9_code 99 = .ok (.invokevirtual 61, 3) := by decide +kernel
theorem px_d164_102 : decode prog_9_method_9_code 102 = .ok (.ireturn, 1) := by decide +kernel
theorem px_d165_0 : decode prog_9_method_11_code 0 = .ok (.iconst 0, 1) := by decide +kernel
theorem px_d165_1 : decode prog_9_method_11_code 1 = .ok (.istore_n 1, 1) := by decide +kernel
theorem px_d165_2 : decode prog_9_method_11_code 2 = .ok (.iload_n 1, 1) := by decide +kernel
theorem px_d165_3 : decode prog_9_method_11_code 3 = .ok (.sipush 16384, 3) := by decide +kernel
theorem px_d165_6 : decode prog_9_method_11_code 6 = .ok (.if_icmp .ge 67, 3) := by decide +kernel
theorem px_d165_9 : decode prog_9_method_11_code 9 = .ok (.iconst 0, 1) := by decide +kernel
theorem px_d165_10 : decode prog_9_method_11_code 10 = .ok (.istore_n 2, 1) := by decide +kernel
theorem px_d165_11 : decode prog_9_method_11_code 11 = .ok (.iload_n 2, 1) := by decide +kernel
theorem px_d165_12 : decode prog_9_method_11_code 12 = .ok (.iconst 2, 1) := by decide +kernel
theorem px_d165_13 : decode prog_9_method_11_code 13 = .ok (.if_icmp .ge 33, 3) := by decide +kernel
theorem px_d165_16 : decode prog_9_method_11_code 16 = .ok (.aload_n 0, 1) := by decide +kernel
theorem px_d165_17 : decode prog_9_method_11_code 17 = .ok (.getfield 9, 3) := by decide +kernel
theorem px_d165_20 : decode prog_9_method_11_code 20 = .ok (.getfield 120, 3) := by decide +kernel
theorem px_d165_23 : decode prog_9_method_11_code 23 = .ok (.iconst 3, 1) := by decide +kernel
theorem px_d165_24 : decode prog_9_method_11_code 24 = .ok (.if_icmp .eq 5, 3) := by decide +kernel
theorem px_d165_27 : decode prog_9_method_11_code 27 = .ok (.iconst 0, 1) := by decide +kernel
theorem px_d165_28 : decode prog_9_method_11_code 28 = .ok (.ireturn, 1) := by decide +kernel
theorem px_d165_29 : decode prog_9_method_11_code 29 = .ok (.aload_n 0, 1) := by decide +kernel
theorem px_d165_30 : decode prog_9_method_11_code 30 = .ok (.invokevirtual 145, 3) := by decide +kernel
theorem px_d165_33 : decode prog_9_method_11_code 33 = .ok (.aload_n 0, 1) := by decide +kernel
theorem px_d165_34 : decode prog_9_method_11_code 34 = .ok (.getfield 9, 3) := by decide +kernel
theorem px_d165_37 : decode prog_9_method_11_code 37 = .ok (.invokevirtual 97, 3) := by decide +kernel
theorem px_d165_40 : decode prog_9_method_11_code 40 = .ok (.iinc 2 1, 3) := by decide +kernel
theorem px_d165_43 : decode prog_9_method_11_code 43 = .ok (.goto (-32), 3) := by decide +kernel
theorem px_d165_46 : decode prog_9_method_11_code 46 = .ok (.aload_n 0, 1) := by decide +kernel
theorem px_d165_47 : decode prog_9_method_11_code 47 = .ok (.getfield 9, 3) := by decide +kernel
theorem px_d165_50 : decode prog_9_method_11_code 50 = .ok (.getfield 120, 3) := by decide +kernel
theorem px_d165_53 : decode prog_9_method_11_code 53 = .ok (.bipush 44, 2) := by decide +kernel
theorem px_d165_55 : decode prog_9_method_11_code 55 = .ok (.if_icmp .eq 5, 3) := by decide +kernel
theorem px_d165_58 : decode prog_9_method_11_code 58 = .ok (.iconst 1, 1) := by decide +kernel
theorem px_d165_59 : decode prog_9_method_11_code 59 = .ok (.ireturn, 1) := by decide +kernel
theorem px_d165_60 : decode prog_9_method_11_code 60 = .ok (.aload_n 0, 1) := by decide +kernel
theorem px_d165_61 : decode prog_9_method_11_code 61 = .ok (.getfield 9, 3) := by decide +kernel
theorem px_d165_64 : decode prog_9_method_11_code 64 = .ok (.invokevirtual 97, 3) := by decide +kernel
theorem px_d165_67 : decode prog_9_method_11_code 67 = .ok (.iinc 1 1, 3) := by decide +kernel
theorem px_d165_70 : decode prog_9_method_11_code 70 = .ok (.goto (-68), 3) := by decide +kernel
theorem px_d165_73 : decode prog_9_method_11_code 73 = .ok (.iconst 0, 1) := by decide +kernel
theorem px_d165_74 : decode prog_9_method_11_code 74 = .ok (.ireturn, 1) := by decide +kernel
theorem px_d166_0 : decode prog_9_method_12_code 0 = .ok (.aload_n 0, 1) := by decide +kernel
theorem px_d166_1 : decode prog_9_method_12_code 1 = .ok (.getfield 35, 3) := by decide +kernel
theorem px_d166_4 : decode prog_9_method_12_code 4 = .ok (.sipush 160, 3) := by decide +kernel
theorem px_d166_7 : decode prog_9_method_12_code 7 = .ok (.if_icmp .ge 19, 3) := by decide +kernel
theorem px_d166_10 : decode prog_9_method_12_code 10 = .ok (.aload_n 0, 1) := by decide +kernel
theorem px_d166_11 : decode prog_9_method_12_code 11 = .ok (.getfield 15, 3) := by decide +kernel
theorem px_d166_14 : decode prog_9_method_12_code 14 = .ok (.aload_n 0, 1) := by decide +kernel
theorem px_d166_15 : decode prog_9_method_12_code 15 = .ok (.getfield 35, 3) := by decide +kernel
theorem px_d166_18 : decode prog_9_method_12_code 18 = .ok (.aload_n 0, 1) := by decide +kernel
theorem px_d166_19 : decode prog_9_method_12_code 19 = .ok (.getfield 9, 3) := by decide +kernel
theorem px_d166_22 : decode prog_9_method_12_code 22 = .ok (.getfield 123, 3) := by decide +kernel
theorem px_d166_25 : decode prog_9_method_12_code 25 = .ok (.iastore, 1) := by decide +kernel
theorem px_d166_26 : decode prog_9_method_12_code 26 = .ok (.aload_n 0, 1) := by decide +kernel
theorem px_d166_27 : decode prog_9_method_12_code 27 = .ok (.dup, 1) := by decide +kernel
theorem px_d166_28 : decode prog_9_method_12_code 28 = .ok (.getfield 35, 3) := by decide +kernel
theorem px_d166_31 : decode prog_9_method_12_code 31 = .ok (.iconst 1, 1) := by decide +kernel
theorem px_d166_32 : decode prog_9_method_12_code 32 = .ok (.iadd, 1) := by decide +kernel
theorem px_d166_33 : decode prog_9_method_12_code 33 = .ok (.putfield 35, 3) := by decide +kernel
theorem px_d166_36 : decode prog_9_method_12_code 36 = .ok (.return_, 1) := by decide +kernel
theorem px_d167_0 : decode prog_9_method_10_code 0 = .ok (.iconst 0, 1) := by decide +kernel
theorem px_d167_1 : decode prog_9_method_10_code 1 = .ok (.istore_n 2, 1) := by decide +kernel
theorem px_d167_2 : decode prog_9_method_10_code 2 = .ok (.iconst 0, 1) := by decide +kernel
theorem px_d167_3 : decode prog_9_method_10_code 3 = .ok (.istore_n 3, 1) := by decide +kernel
theorem px_d167_4 : decode prog_9_method_10_code 4 = .ok (.iload_n 3, 1) := by decide +kernel
theorem px_d167_5 : decode prog_9_method_10_code 5 = .ok (.sipush 16384, 3) := by decide +kernel
theorem px_d167_8 : decode prog_9_method_10_code 8 = .ok (.if_icmp .ge 89, 3) := by decide +kernel
theorem px_d167_11 : decode prog_9_method_10_code 11 = .ok (.aload_n 0, 1) := by decide +kernel
theorem px_d167_12 : decode prog_9_method_10_code 12 = .ok (.getfield 9, 3) := by decide +kernel
theorem px_d167_15 : decode prog_9_method_10_code 15 = .ok (.getfield 120, 3) := by decide +kernel
theorem px_d167_18 : decode prog_9_method_10_code 18 = .ok (.iconst 3, 1) := by decide +kernel
theorem px_d167_19 : decode prog_9_method_10_code 19 = .ok (.if_icmp .ne 13, 3) := by decide +kernel
theorem px_d167_22 : decode prog_9_method_10_code 22 = .ok (.aload_n 0, 1) := by decide +kernel
theorem px_d167_23 : decode prog_9_method_10_code 23 = .ok (.invokevirtual 145, 3) := by decide +kernel
theorem px_d167_26 : decode prog_9_method_10_code 26 = .ok (.iinc 2 1, 3) := by decide +kernel
theorem px_d167_29 : decode prog_9_method_10_code 29 = .ok (.goto 55, 3) := by decide +kernel
theorem px_d167_32 : decode prog_9_method_10_code 32 = .ok (.iload_n 1, 1) := by decide +kernel
theorem px_d167_33 : decode prog_9_method_10_code 33 = .ok (.ifCond .eq 64, 3) := by decide +kernel
theorem px_d167_36 : decode prog_9_method_10_code 36 = .ok (.aload_n 0, 1) := by decide +kernel
theorem px_d167_37 : decode prog_9_method_10_code 37 = .ok (.getfield 9, 3) := by decide +kernel
theorem px_d167_40 : decode prog_9_method_10_code 40 = .ok (.getfield 120, 3) := by decide +kernel
theorem px_d167_43 : decode prog_9_method_10_code 43 = .ok (.bipush 44, 2) := by decide +kernel
theorem px_d167_45 : decode prog_9_method_10_code 45 = .ok (.if_icmp .ne 52, 3) := by decide +kernel
theorem px_d167_48 : decode prog_9_method_10_code 48 = .ok (.aload_n 0, 1) := by decide +kernel
theorem px_d167_49 : decode prog_9_method_10_code 49 = .ok (.aload_n 0, 1) := by decide +kernel
theorem px_d167_50 : decode prog_9_method_10_code 50 = .ok (.getfield 41, 3) := by decide +kernel
theorem px_d167_53 : decode prog_9_method_10_code 53 = .ok (.ifCond .eq 15, 3) := by decide +kernel
theorem px_d167_56 : decode prog_9_method_10_code 56 = .ok (.iload_n 2, 1) := by decide +kernel
theorem px_d167_57 : decode prog_9_method_10_code 57 = .ok (.aload_n 0, 1) := by decide +kernel
theorem px_d167_58 : decode prog_9_method_10_code 58 = .ok (.getfield 77, 3) := by decide +kernel
theorem px_d167_61 : decode prog_9_method_10_code 61 = .ok (.if_icmp .ne 7, 3) := by decide +kernel
theorem px_d167_64 : decode prog_9_method_10_code 64 = .ok (.iconst 1, 1) := by decide +kernel
theorem px_d167_65 : decode prog_9_method_10_code 65 = .ok (.goto 4, 3) := by decide +kernel
theorem px_d167_68 : decode prog_9_method_10_code 68 = .ok (.iconst 0, 1) := by decide +kernel
theorem px_d167_69 : decode prog_9_method_10_code 69 = .ok (.putfield 41, 3) := by decide +kernel
theorem px_d167_72 : decode prog_9_method_10_code 72 = .ok (.aload_n 0, 1) := by decide +kernel
theorem px_d167_73 : decode prog_9_method_10_code 73 = .ok (.dup, 1) := by decide +kernel
theorem px_d167_74 : decode prog_9_method_10_code 74 = .ok (.getfield 38, 3) := by decide +kernel
theorem px_d167_77 : decode prog_9_method_10_code 77 = .ok (.iconst 1, 1) := by decide +kernel
theorem px_d167_78 : decode prog_9_method_10_code 78 = .ok (.iadd, 1) := by decide +kernel
theorem px_d167_79 : decode prog_9_method_10_code 79 = .ok (.putfield 38, 3) := by decide +kernel
theorem px_d167_82 : decode prog_9_method_10_code 82 = .ok (.iconst 0, 1) := by decide +kernel
theorem px_d167_83 : decode prog_9_method_10_code 83 = .ok (.istore_n 2, 1) := by decide +kernel
theorem px_d167_84 : decode prog_9_method_10_code 84 = .ok (.aload_n 0, 1) := by decide +kernel
theorem px_d167_85 : decode prog_9_method_10_code 85 = .ok (.getfield 9, 3) := by decide +kernel
theorem px_d167_88 : decode prog_9_method_10_code 88 = .ok (.invokevirtual 97, 3) := by decide +kernel
theorem px_d167_91 : decode prog_9_method_10_code 91 = .ok (.iinc 3 1, 3) := by decide +kernel
theorem px_d167_94 : decode prog_9_method_10_code 94 = .ok (.goto (-90), 3) := by decide +kernel
theorem px_d167_97 : decode prog_9_method_10_code 97 = .ok (.aload_n 0, 1) := by decide +kernel
theorem px_d167_98 : decode prog_9_method_10_code 98 = .ok (.getfield 38, 3) := by decide +kernel
theorem px_d167_101 : decode prog_9_method_10_code 101 = .ok (.ifCond .gt 7, 3) := by decide +kernel
theorem px_d167_104 : decode prog_9_method_10_code 104 = .ok (.iload_n 2, 1) := by decide +kernel
theorem px_d167_105 : decode prog_9_method_10_code 105 = .ok (.ifCond .le 37, 3) := by decide +kernel
theorem px_d167_108 : decode prog_9_method_10_code 108 = .ok (.aload_n 0, 1) := by decide +kernel
theorem px_d167_109 : decode prog_9_method_10_code 109 = .ok (.aload_n 0, 1) := by decide +kernel
theorem px_d167_110 : decode prog_9_method_10_code 110 = .ok (.getfield 41, 3) := by decide +kernel
theorem px_d167_113 : decode prog_9_method_10_code 113 = .ok (.ifCond .eq 15, 3) := by decide +kernel
theorem px_d167_116 : decode prog_9_method_10_code 116 = .ok (.iload_n 2, 1) := by decide +kernel
theorem px_d167_117 : decode prog_9_method_10_code 117 = .ok (.aload_n 0, 1) := by decide +kernel
theorem px_d167_118 : decode prog_9_method_10_code 118 = .ok (.getfield 77, 3) := by decide +kernel
theorem px_d167_121 : decode prog_9_method_10_code 121 = .ok (.if_icmp .ne 7, 3) := by decide +kernel
theorem px_d167_124 : decode prog_9_method_10_code 124 = .ok (.iconst 1, 1) := by decide +kernel
theorem px_d167_125 : decode prog_9_method_10_code 125 = .ok (.goto 4, 3) := by decide +kernel
theorem px_d167_128 : decode prog_9_method_10_code 128 = .ok (.iconst 0, 1) := by decide +kernel
theorem px_d167_129 : decode prog_9_method_10_code 129 = .ok (.putfield 41, 3) := by decide +kernel
theorem px_d167_132 : decode prog_9_method_10_code 132 = .ok (.aload_n 0, 1) := by decide +kernel
theorem px_d167_133 : decode prog_9_method_10_code 133 = .ok (.dup, 1) := by decide +kernel
theorem px_d167_134 : decode prog_9_method_10_code 134 = .ok (.getfield 38, 3) := by decide +kernel
theorem px_d167_137 : decode prog_9_method_10_code 137 = .ok (.iconst 1, 1) := by decide +kernel
theorem px_d167_138 : decode prog_9_method_10_code 138 = .ok (.iadd, 1) := by decide +kernel
theorem px_d167_139 : decode prog_9_method_10_code 139 = .ok (.putfield 38, 3) := by decide +kernel
theorem px_d167_142 : decode prog_9_method_10_code 142 = .ok (.return_, 1) := by decide +kernel
theorem px_d168_0 : decode prog_7_method_2_code 0 = .ok (.aload_n 0, 1) := by decide +kernel
theorem px_d168_1 : decode prog_7_method_2_code 1 = .ok (.iload_n 1, 1) := by decide +kernel
theorem px_d168_2 : decode prog_7_method_2_code 2 = .ok (.putfield 18, 3) := by decide +kernel
theorem px_d168_5 : decode prog_7_method_2_code 5 = .ok (.aload_n 0, 1) := by decide +kernel
theorem px_d168_6 : decode prog_7_method_2_code 6 = .ok (.iconst 0, 1) := by decide +kernel
theorem px_d168_7 : decode prog_7_method_2_code 7 = .ok (.putfield 22, 3) := by decide +kernel
theorem px_d168_10 : decode prog_7_method_2_code 10 = .ok (.return_, 1) := by decide +kernel
theorem px_d171_0 : decode prog_9_method_3_code 0 = .ok (.getstatic 65, 3) := by decide +kernel
