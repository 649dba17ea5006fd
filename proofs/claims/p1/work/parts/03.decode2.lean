theorem px_d18_59 : decode prog_1_method_27_code 59 = .ok (.iconst 1, 1) := by decide +kernel
theorem px_d18_60 : decode prog_1_method_27_code 60 = .ok (.goto 4, 3) := by decide +kernel
theorem px_d18_64 : decode prog_1_method_27_code 64 = .ok (.ireturn, 1) := by decide +kernel
theorem px_d19_0 : decode prog_1_method_4_code 0 = .ok (.aload_n 0, 1) := by decide +kernel
theorem px_d19_1 : decode prog_1_method_4_code 1 = .ok (.getfield 13, 3) := by decide +kernel
theorem px_d19_4 : decode prog_1_method_4_code 4 = .ok (.istore_n 1, 1) := by decide +kernel
theorem px_d19_5 : decode prog_1_method_4_code 5 = .ok (.aload_n 0, 1) := by decide +kernel
theorem px_d19_6 : decode prog_1_method_4_code 6 = .ok (.iconst 0, 1) := by decide +kernel
theorem px_d19_7 : decode prog_1_method_4_code 7 = .ok (.putfield 13, 3) := by decide +kernel
theorem px_d19_10 : decode prog_1_method_4_code 10 = .ok (.aload_n 0, 1) := by decide +kernel
theorem px_d19_11 : decode prog_1_method_4_code 11 = .ok (.iload_n 1, 1) := by decide +kernel
theorem px_d19_12 : decode prog_1_method_4_code 12 = .ok (.invokevirtual 108, 3) := by decide +kernel
theorem px_d19_15 : decode prog_1_method_4_code 15 = .ok (.ifCond .ne 16, 3) := by decide +kernel
theorem px_d19_31 : decode prog_1_method_4_code 31 = .ok (.aload_n 0, 1) := by decide +kernel
theorem px_d19_32 : decode prog_1_method_4_code 32 = .ok (.getfield 82, 3) := by decide +kernel
theorem px_d19_35 : decode prog_1_method_4_code 35 = .ok (.iconst 0, 1) := by decide +kernel
theorem px_d19_36 : decode prog_1_method_4_code 36 = .ok (.invokevirtual 115, 3) := by decide +kernel
theorem px_d19_39 : decode prog_1_method_4_code 39 = .ok (.aload_n 0, 1) := by decide +kernel
theorem px_d19_40 : decode prog_1_method_4_code 40 = .ok (.iconst 0, 1) := by decide +kernel
theorem px_d19_41 : decode prog_1_method_4_code 41 = .ok (.putfield 20, 3) := by decide +kernel
theorem px_d19_44 : decode prog_1_method_4_code 44 = .ok (.iconst 0, 1) := by decide +kernel
theorem px_d19_45 : decode prog_1_method_4_code 45 = .ok (.istore_n 2, 1) := by decide +kernel
theorem px_d19_46 : decode prog_1_method_4_code 46 = .ok (.aload_n 0, 1) := by decide +kernel
theorem px_d19_47 : decode prog_1_method_4_code 47 = .ok (.getfield 66, 3) := by decide +kernel
theorem px_d19_50 : decode prog_1_method_4_code 50 = .ok (.aload_n 0, 1) := by decide +kernel
theorem px_d19_51 : decode prog_1_method_4_code 51 = .ok (.getfield 7, 3) := by decide +kernel
theorem px_d19_54 : decode prog_1_method_4_code 54 = .ok (.iload_n 1, 1) := by decide +kernel
theorem px_d19_55 : decode prog_1_method_4_code 55 = .ok (.invokevirtual 118, 3) := by decide +kernel
theorem px_d19_58 : decode prog_1_method_4_code 58 = .ok (.iconst 0, 1) := by decide +kernel
theorem px_d19_59 : decode prog_1_method_4_code 59 = .ok (.istore_n 3, 1) := by decide +kernel
theorem px_d19_60 : decode prog_1_method_4_code 60 = .ok (.iload_n 3, 1) := by decide +kernel
theorem px_d19_61 : decode prog_1_method_4_code 61 = .ok (.sipush 400, 3) := by decide +kernel
theorem px_d19_64 : decode prog_1_method_4_code 64 = .ok (.if_icmp .ge 146, 3) := by decide +kernel
theorem px_d19_67 : decode prog_1_method_4_code 67 = .ok (.aload_n 0, 1) := by decide +kernel
theorem px_d19_68 : decode prog_1_method_4_code 68 = .ok (.getfield 20, 3) := by decide +kernel
theorem px_d19_71 : decode prog_1_method_4_code 71 = .ok (.ifCond .ne 139, 3) := by decide +kernel
theorem px_d19_74 : decode prog_1_method_4_code 74 = .ok (.aload_n 0, 1) := by decide +kernel
theorem px_d19_75 : decode prog_1_method_4_code 75 = .ok (.getfield 66, 3) := by decide +kernel
theorem px_d19_78 : decode prog_1_method_4_code 78 = .ok (.getfield 122, 3) := by decide +kernel
theorem px_d19_81 : decode prog_1_method_4_code 81 = .ok (.ifCond .eq 129, 3) := by decide +kernel
theorem px_d19_210 : decode prog_1_method_4_code 210 = .ok (.iload_n 2, 1) := by decide +kernel
theorem px_d19_211 : decode prog_1_method_4_code 211 = .ok (.ireturn, 1) := by decide +kernel
theorem px_d20_0 : decode prog_1_method_5_code 0 = .ok (.aload_n 0, 1) := by decide +kernel
theorem px_d20_1 : decode prog_1_method_5_code 1 = .ok (.getfield 17, 3) := by decide +kernel
theorem px_d20_4 : decode prog_1_method_5_code 4 = .ok (.ireturn, 1) := by decide +kernel
theorem px_d21_0 : decode prog_1_method_6_code 0 = .ok (.aload_n 0, 1) := by decide +kernel
theorem px_d21_1 : decode prog_1_method_6_code 1 = .ok (.getfield 20, 3) := by decide +kernel
theorem px_d21_4 : decode prog_1_method_6_code 4 = .ok (.ireturn, 1) := by decide +kernel
theorem px_d22_0 : decode prog_1_method_7_code 0 = .ok (.aload_n 0, 1) := by decide +kernel
theorem px_d22_1 : decode prog_1_method_7_code 1 = .ok (.getfield 82, 3) := by decide +kernel
theorem px_d22_4 : decode prog_1_method_7_code 4 = .ok (.getfield 125, 3) := by decide +kernel
theorem px_d22_7 : decode prog_1_method_7_code 7 = .ok (.ireturn, 1) := by decide +kernel
theorem px_d23_0 : decode prog_1_method_8_code 0 = .ok (.iload_n 1, 1) := by decide +kernel
theorem px_d23_1 : decode prog_1_method_8_code 1 = .ok (.ifCond .lt 14, 3) := by decide +kernel
theorem px_d23_4 : decode prog_1_method_8_code 4 = .ok (.iload_n 1, 1) := by decide +kernel
theorem px_d23_5 : decode prog_1_method_8_code 5 = .ok (.aload_n 0, 1) := by decide +kernel
theorem px_d23_6 : decode prog_1_method_8_code 6 = .ok (.getfield 82, 3) := by decide +kernel
theorem px_d23_9 : decode prog_1_method_8_code 9 = .ok (.getfield 125, 3) := by decide +kernel
theorem px_d23_12 : decode prog_1_method_8_code 12 = .ok (.if_icmp .lt 7, 3) := by decide +kernel
theorem px_d23_15 : decode prog_1_method_8_code 15 = .ok (.iconst (-1), 1) := by decide +kernel
theorem px_d23_16 : decode prog_1_method_8_code 16 = .ok (.goto 12, 3) := by decide +kernel
theorem px_d23_28 : decode prog_1_method_8_code 28 = .ok (.ireturn, 1) := by decide +kernel
theorem px_d24_0 : decode prog_1_method_25_code 0 = .ok (.iload_n 1, 1) := by decide +kernel
theorem px_d24_1 : decode prog_1_method_25_code 1 = .ok (.ifCond .lt 9, 3) := by decide +kernel
theorem px_d24_4 : decode prog_1_method_25_code 4 = .ok (.iload_n 1, 1) := by decide +kernel
theorem px_d24_5 : decode prog_1_method_25_code 5 = .ok (.bipush 26, 2) := by decide +kernel
theorem px_d24_7 : decode prog_1_method_25_code 7 = .ok (.if_icmp .lt 7, 3) := by decide +kernel
theorem px_d24_10 : decode prog_1_method_25_code 10 = .ok (.aconst_null, 1) := by decide +kernel
theorem px_d24_11 : decode prog_1_method_25_code 11 = .ok (.goto 9, 3) := by decide +kernel
theorem px_d24_14 : decode prog_1_method_25_code 14 = .ok (.aload_n 0, 1) := by decide +kernel
theorem px_d24_15 : decode prog_1_method_25_code 15 = .ok (.getfield 32, 3) := by decide +kernel
theorem px_d24_18 : decode prog_1_method_25_code 18 = .ok (.iload_n 1, 1) := by decide +kernel
theorem px_d24_19 : decode prog_1_method_25_code 19 = .ok (.aaload, 1) := by decide +kernel
theorem px_d24_20 : decode prog_1_method_25_code 20 = .ok (.areturn, 1) := by decide +kernel
theorem px_d25_0 : decode prog_1_method_9_code 0 = .ok (.aload_n 0, 1) := by decide +kernel
theorem px_d25_1 : decode prog_1_method_9_code 1 = .ok (.iload_n 1, 1) := by decide +kernel
theorem px_d25_2 : decode prog_1_method_9_code 2 = .ok (.invokevirtual 152, 3) := by decide +kernel
theorem px_d25_5 : decode prog_1_method_9_code 5 = .ok (.astore_n 2, 1) := by decide +kernel
theorem px_d25_6 : decode prog_1_method_9_code 6 = .ok (.aload_n 2, 1) := by decide +kernel
theorem px_d25_7 : decode prog_1_method_9_code 7 = .ok (.ifnonnull 7, 3) := by decide +kernel
theorem px_d25_10 : decode prog_1_method_9_code 10 = .ok (.iconst (-1), 1) := by decide +kernel
theorem px_d25_11 : decode prog_1_method_9_code 11 = .ok (.goto 7, 3) := by decide +kernel
theorem px_d25_18 : decode prog_1_method_9_code 18 = .ok (.ireturn, 1) := by decide +kernel
theorem px_d26_0 : decode prog_1_method_10_code 0 = .ok (.aload_n 0, 1) := by decide +kernel
theorem px_d26_1 : decode prog_1_method_10_code 1 = .ok (.iload_n 1, 1) := by decide +kernel
theorem px_d26_2 : decode prog_1_method_10_code 2 = .ok (.invokevirtual 152, 3) := by decide +kernel
theorem px_d26_5 : decode prog_1_method_10_code 5 = .ok (.astore_n 2, 1) := by decide +kernel
theorem px_d26_6 : decode prog_1_method_10_code 6 = .ok (.aload_n 2, 1) := by decide +kernel
theorem px_d26_7 : decode prog_1_method_10_code 7 = .ok (.ifnonnull 7, 3) := by decide +kernel
theorem px_d26_10 : decode prog_1_method_10_code 10 = .ok (.iconst (-1), 1) := by decide +kernel
theorem px_d26_11 : decode prog_1_method_10_code 11 = .ok (.goto 7, 3) := by decide +kernel
theorem px_d26_18 : decode prog_1_method_10_code 18 = .ok (.ireturn, 1) := by decide +kernel
theorem px_d27_0 : decode prog_1_method_11_code 0 = .ok (.aload_n 0, 1) := by decide +kernel
theorem px_d27_1 : decode prog_1_method_11_code 1 = .ok (.iload_n 1, 1) := by decide +kernel
theorem px_d27_2 : decode prog_1_method_11_code 2 = .ok (.invokevirtual 152, 3) := by decide +kernel
theorem px_d27_5 : decode prog_1_method_11_code 5 = .ok (.astore_n 3, 1) := by decide +kernel
theorem px_d27_6 : decode prog_1_method_11_code 6 = .ok (.aload_n 3, 1) := by decide +kernel
theorem px_d27_7 : decode prog_1_method_11_code 7 = .ok (.ifnull 11, 3) := by decide +kernel
theorem px_d27_18 : decode prog_1_method_11_code 18 = .ok (.iconst (-1), 1) := by decide +kernel
theorem px_d27_19 : decode prog_1_method_11_code 19 = .ok (.goto 8, 3) := by decide +kernel
theorem px_d27_27 : decode prog_1_method_11_code 27 = .ok (.ireturn, 1) := by decide +kernel
theorem px_d28_0 : decode prog_1_method_12_code 0 = .ok (.aload_n 0, 1) := by decide +kernel
theorem px_d28_1 : decode prog_1_method_12_code 1 = .ok (.iload_n 1, 1) := by decide +kernel
theorem px_d28_2 : decode prog_1_method_12_code 2 = .ok (.invokevirtual 152, 3) := by decide +kernel
theorem px_d28_5 : decode prog_1_method_12_code 5 = .ok (.astore_n 3, 1) := by decide +kernel
theorem px_d28_6 : decode prog_1_method_12_code 6 = .ok (.aload_n 3, 1) := by decide +kernel
theorem px_d28_7 : decode prog_1_method_12_code 7 = .ok (.ifnull 12, 3) := by decide +kernel
theorem px_d28_19 : decode prog_1_method_12_code 19 = .ok (.iconst (-1), 1) := by decide +kernel
theorem px_d28_20 : decode prog_1_method_12_code 20 = .ok (.goto 8, 3) := by decide +kernel
theorem px_d28_28 : decode prog_1_method_12_code 28 = .ok (.ireturn, 1) := by decide +kernel
theorem px_d29_0 : decode prog_1_method_13_code 0 = .ok (.aload_n 0, 1) := by decide +kernel
theorem px_d29_1 : decode prog_1_method_13_code 1 = .ok (.iload_n 1, 1) := by decide +kernel
theorem px_d29_2 : decode prog_1_method_13_code 2 = .ok (.invokevirtual 152, 3) := by decide +kernel
theorem px_d29_5 : decode prog_1_method_13_code 5 = .ok (.astore 4, 2) := by decide +kernel
theorem px_d29_7 : decode prog_1_method_13_code 7 = .ok (.aload 4, 2) := by decide +kernel
theorem px_d29_9 : decode prog_1_method_13_code 9 = .ok (.ifnull 26, 3) := by decide +kernel
theorem px_d29_35 : decode prog_1_method_13_code 35 = .ok (.iconst (-1), 1) := by decide +kernel
theorem px_d29_36 : decode prog_1_method_13_code 36 = .ok (.ireturn, 1) := by decide +kernel
theorem px_d30_0 : decode prog_1_method_14_code 0 = .ok (.aload_n 0, 1) := by decide +kernel
theorem px_d30_1 : decode prog_1_method_14_code 1 = .ok (.iload_n 1, 1) := by decide +kernel
theorem px_d30_2 : decode prog_1_method_14_code 2 = .ok (.invokevirtual 152, 3) := by decide +kernel
theorem px_d30_5 : decode prog_1_method_14_code 5 = .ok (.astore 4, 2) := by decide +kernel
theorem px_d30_7 : decode prog_1_method_14_code 7 = .ok (.aload 4, 2) := by decide +kernel
theorem px_d30_9 : decode prog_1_method_14_code 9 = .ok (.ifnonnull 7, 3) := by decide +kernel
theorem px_d30_12 : decode prog_1_method_14_code 12 = .ok (.lconst 0, 1) := by decide +kernel
theorem px_d30_13 : decode prog_1_method_14_code 13 = .ok (.goto 10, 3) := by decide +kernel
theorem px_d30_23 : decode prog_1_method_14_code 23 = .ok (.lreturn, 1) := by decide +kernel
theorem px_d31_0 : decode prog_1_method_15_code 0 = .ok (.aload_n 0, 1) := by decide +kernel
theorem px_d31_1 : decode prog_1_method_15_code 1 = .ok (.iload_n 1, 1) := by decide +kernel
theorem px_d31_2 : decode prog_1_method_15_code 2 = .ok (.invokevirtual 152, 3) := by decide +kernel
theorem px_d31_5 : decode prog_1_method_15_code 5 = .ok (.astore_n 3, 1) := by decide +kernel
theorem px_d31_6 : decode prog_1_method_15_code 6 = .ok (.aload_n 3, 1) := by decide +kernel
theorem px_d31_7 : decode prog_1_method_15_code 7 = .ok (.ifnull 15, 3) := by decide +kernel
theorem px_d31_22 : decode prog_1_method_15_code 22 = .ok (.iconst 0, 1) := by decide +kernel
theorem px_d31_23 : decode prog_1_method_15_code 23 = .ok (.goto 9, 3) := by decide +kernel
theorem px_d31_32 : decode prog_1_method_15_code 32 = .ok (.ireturn, 1) := by decide +kernel
theorem px_d32_0 : decode prog_1_method_16_code 0 = .ok (.aload_n 0, 1) := by decide +kernel
theorem px_d32_1 : decode prog_1_method_16_code 1 = .ok (.iload_n 1, 1) := by decide +kernel
theorem px_d32_2 : decode prog_1_method_16_code 2 = .ok (.invokevirtual 152, 3) := by decide +kernel
theorem px_d32_5 : decode prog_1_method_16_code 5 = .ok (.astore_n 2, 1) := by decide +kernel
theorem px_d32_6 : decode prog_1_method_16_code 6 = .ok (.aload_n 2, 1) := by decide +kernel
theorem px_d32_7 : decode prog_1_method_16_code 7 = .ok (.ifnonnull 7, 3) := by decide +kernel
theorem px_d32_10 : decode prog_1_method_16_code 10 = .ok (.iconst (-1), 1) := by decide +kernel
theorem px_d32_11 : decode prog_1_method_16_code 11 = .ok (.goto 7, 3) := by decide +kernel
theorem px_d32_18 : decode prog_1_method_16_code 18 = .ok (.ireturn, 1) := by decide +kernel
theorem px_d33_0 : decode prog_1_method_17_code 0 = .ok (.aload_n 0, 1) := by decide +kernel
theorem px_d33_1 : decode prog_1_method_17_code 1 = .ok (.iload_n 1, 1) := by decide +kernel
theorem px_d33_2 : decode prog_1_method_17_code 2 = .ok (.invokevirtual 152, 3) := by decide +kernel
theorem px_d33_5 : decode prog_1_method_17_code 5 = .ok (.astore_n 3, 1) := by decide +kernel
theorem px_d33_6 : decode prog_1_method_17_code 6 = .ok (.aload_n 0, 1) := by decide +kernel
theorem px_d33_7 : decode prog_1_method_17_code 7 = .ok (.iload_n 2, 1) := by decide +kernel
theorem px_d33_8 : decode prog_1_method_17_code 8 = .ok (.invokevirtual 152, 3) := by decide +kernel
theorem px_d33_11 : decode prog_1_method_17_code 11 = .ok (.astore 4, 2) := by decide +kernel
theorem px_d33_13 : decode prog_1_method_17_code 13 = .ok (.aload_n 3, 1) := by decide +kernel
theorem px_d33_14 : decode prog_1_method_17_code 14 = .ok (.ifnull 24, 3) := by decide +kernel
theorem px_d33_38 : decode prog_1_method_17_code 38 = .ok (.iconst 0, 1) := by decide +kernel
theorem px_d33_39 : decode prog_1_method_17_code 39 = .ok (.istore 5, 2) := by decide +kernel
theorem px_d33_41 : decode prog_1_method_17_code 41 = .ok (.iload 5, 2) := by decide +kernel
theorem px_d33_43 : decode prog_1_method_17_code 43 = .ok (.ifCond .eq 12, 3) := by decide +kernel
theorem px_d33_55 : decode prog_1_method_17_code 55 = .ok (.iconst (-1), 1) := by decide +kernel
theorem px_d33_56 : decode prog_1_method_17_code 56 = .ok (.ireturn, 1) := by decide +kernel
theorem px_d34_0 : decode prog_1_method_18_code 0 = .ok (.aload_n 0, 1) := by decide +kernel
theorem px_d34_1 : decode prog_1_method_18_code 1 = .ok (.iload_n 1, 1) := by decide +kernel
theorem px_d34_2 : decode prog_1_method_18_code 2 = .ok (.invokevirtual 152, 3) := by decide +kernel
theorem px_d34_5 : decode prog_1_method_18_code 5 = .ok (.astore_n 3, 1) := by decide +kernel
theorem px_d34_6 : decode prog_1_method_18_code 6 = .ok (.aload_n 0, 1) := by decide +kernel
theorem px_d34_7 : decode prog_1_method_18_code 7 = .ok (.iload_n 2, 1) := by decide +kernel
theorem px_d34_8 : decode prog_1_method_18_code 8 = .ok (.invokevirtual 152, 3) := by decide +kernel
theorem px_d34_11 : decode prog_1_method_18_code 11 = .ok (.astore 4, 2) := by decide +kernel
theorem px_d34_13 : decode prog_1_method_18_code 13 = .ok (.aload_n 3, 1) := by decide +kernel
theorem px_d34_14 : decode prog_1_method_18_code 14 = .ok (.ifnull 24, 3) := by decide +kernel
theorem px_d34_38 : decode prog_1_method_18_code 38 = .ok (.iconst 0, 1) := by decide +kernel
theorem px_d34_39 : decode prog_1_method_18_code 39 = .ok (.istore 5, 2) := by decide +kernel
theorem px_d34_41 : decode prog_1_method_18_code 41 = .ok (.iload 5, 2) := by decide +kernel
theorem px_d34_43 : decode prog_1_method_18_code 43 = .ok (.ifCond .eq 12, 3) := by decide +kernel
theorem px_d34_55 : decode prog_1_method_18_code 55 = .ok (.iconst (-1), 1) := by decide +kernel
theorem px_d34_56 : decode prog_1_method_18_code 56 = .ok (.ireturn, 1) := by decide +kernel
theorem px_d35_0 : decode prog_1_method_19_code 0 = .ok (.aload_n 0, 1) := by decide +kernel
theorem px_d35_1 : decode prog_1_method_19_code 1 = .ok (.iload_n 1, 1) := by decide +kernel
theorem px_d35_2 : decode prog_1_method_19_code 2 = .ok (.invokevirtual 152, 3) := by decide +kernel
theorem px_d35_5 : decode prog_1_method_19_code 5 = .ok (.astore_n 3, 1) := by decide +kernel
theorem px_d35_6 : decode prog_1_method_19_code 6 = .ok (.aload_n 3, 1) := by decide +kernel
theorem px_d35_7 : decode prog_1_method_19_code 7 = .ok (.ifnull 18, 3) := by decide +kernel
theorem px_d35_25 : decode prog_1_method_19_code 25 = .ok (.iconst 2, 1) := by decide +kernel
theorem px_d35_26 : decode prog_1_method_19_code 26 = .ok (.ireturn, 1) := by decide +kernel
theorem px_d36_0 : decode prog_1_method_20_code 0 = .ok (.aload_n 0, 1) := by decide +kernel
theorem px_d36_1 : decode prog_1_method_20_code 1 = .ok (.iload_n 1, 1) := by decide +kernel
theorem px_d36_2 : decode prog_1_method_20_code 2 = .ok (.invokevirtual 152, 3) := by decide +kernel
theorem px_d36_5 : decode prog_1_method_20_code 5 = .ok (.astore_n 3, 1) := by decide +kernel
theorem px_d36_6 : decode prog_1_method_20_code 6 = .ok (.aload_n 3, 1) := by decide +kernel
theorem px_d36_7 : decode prog_1_method_20_code 7 = .ok (.ifnull 23, 3) := by decide +kernel
theorem px_d36_30 : decode prog_1_method_20_code 30 = .ok (.iconst (-1), 1) := by decide +kernel
theorem px_d36_31 : decode prog_1_method_20_code 31 = .ok (.ireturn, 1) := by decide +kernel
theorem px_d37_0 : decode prog_1_method_24_code 0 = .ok (.aload_n 0, 1) := by decide +kernel
theorem px_d37_1 : decode prog_1_method_24_code 1 = .ok (.iload_n 1, 1) := by decide +kernel
theorem px_d37_2 : decode prog_1_method_24_code 2 = .ok (.invokevirtual 152, 3) := by decide +kernel
theorem px_d37_5 : decode prog_1_method_24_code 5 = .ok (.astore_n 3, 1) := by decide +kernel
theorem px_d37_6 : decode prog_1_method_24_code 6 = .ok (.aload_n 0, 1) := by decide +kernel
theorem px_d37_7 : decode prog_1_method_24_code 7 = .ok (.iload_n 2, 1) := by decide +kernel
theorem px_d37_8 : decode prog_1_method_24_code 8 = .ok (.invokevirtual 152, 3) := by decide +kernel
theorem px_d37_11 : decode prog_1_method_24_code 11 = .ok (.astore 4, 2) := by decide +kernel
theorem px_d37_13 : decode prog_1_method_24_code 13 = .ok (.aload_n 3, 1) := by decide +kernel
theorem px_d37_14 : decode prog_1_method_24_code 14 = .ok (.ifnull 25, 3) := by decide +kernel
theorem px_d37_39 : decode prog_1_method_24_code 39 = .ok (.iconst 0, 1) := by decide +kernel
theorem px_d37_40 : decode prog_1_method_24_code 40 = .ok (.ireturn, 1) := by decide +kernel
theorem px_d38_0 : decode prog_1_method_21_code 0 = .ok (.aload_n 0, 1) := by decide +kernel
theorem px_d38_1 : decode prog_1_method_21_code 1 = .ok (.iload_n 1, 1) := by decide +kernel
theorem px_d38_2 : decode prog_1_method_21_code 2 = .ok (.iload_n 2, 1) := by decide +kernel
theorem px_d38_3 : decode prog_1_method_21_code 3 = .ok (.invokevirtual 215, 3) := by decide +kernel
theorem px_d38_6 : decode prog_1_method_21_code 6 = .ok (.ifCond .eq 13, 3) := by decide +kernel
theorem px_d38_19 : decode prog_1_method_21_code 19 = .ok (.iconst (-1), 1) := by decide +kernel
theorem px_d38_20 : decode prog_1_method_21_code 20 = .ok (.ireturn, 1) := by decide +kernel
theorem px_d39_0 : decode prog_1_method_22_code 0 = .ok (.aload_n 0, 1) := by decide +kernel
theorem px_d39_1 : decode prog_1_method_22_code 1 = .ok (.iload_n 1, 1) := by decide +kernel
theorem px_d39_2 : decode prog_1_method_22_code 2 = .ok (.iload_n 2, 1) := by decide +kernel
theorem px_d39_3 : decode prog_1_method_22_code 3 = .ok (.invokevirtual 215, 3) := by decide +kernel
theorem px_d39_6 : decode prog_1_method_22_code 6 = .ok (.ifCond .eq 13, 3) := by decide +kernel
theorem px_d39_19 : decode prog_1_method_22_code 19 = .ok (.iconst (-1), 1) := by decide +kernel
theorem px_d39_20 : decode prog_1_method_22_code 20 = .ok (.ireturn, 1) := by decide +kernel
theorem px_d40_0 : decode prog_1_method_23_code 0 = .ok (.aload_n 0, 1) := by decide +kernel
theorem px_d40_1 : decode prog_1_method_23_code 1 = .ok (.iload_n 2, 1) := by decide +kernel
theorem px_d40_2 : decode prog_1_method_23_code 2 = .ok (.invokevirtual 152, 3) := by decide +kernel
theorem px_d40_5 : decode prog_1_method_23_code 5 = .ok (.astore 4, 2) := by decide +kernel
theorem px_d40_7 : decode prog_1_method_23_code 7 = .ok (.aload 4, 2) := by decide +kernel
theorem px_d40_9 : decode prog_1_method_23_code 9 = .ok (.ifnull 20, 3) := by decide +kernel
theorem px_d40_29 : decode prog_1_method_23_code 29 = .ok (.iconst 0, 1) := by decide +kernel
theorem px_d40_30 : decode prog_1_method_23_code 30 = .ok (.istore 5, 2) := by decide +kernel
theorem px_d40_32 : decode prog_1_method_23_code 32 = .ok (.iload 5, 2) := by decide +kernel
theorem px_d40_34 : decode prog_1_method_23_code 34 = .ok (.ifCond .eq 23, 3) := by decide +kernel
theorem px_d40_57 : decode prog_1_method_23_code 57 = .ok (.iconst (-1), 1) := by decide +kernel
theorem px_d40_58 : decode prog_1_method_23_code 58 = .ok (.ireturn, 1) := by decide +kernel
theorem px_d41_0 : decode prog_15_method_89_code 0 = .ok (.bipush 24, 2) := by decide +kernel
theorem px_d41_2 : decode prog_15_method_89_code 2 = .ok (.istore_n 2, 1) := by decide +kernel
theorem px_d41_3 : decode prog_15_method_89_code 3 = .ok (.iload_n 2, 1) := by decide +kernel
theorem px_d41_4 : decode prog_15_method_89_code 4 = .ok (.ifCond .lt 32, 3) := by decide +kernel
theorem px_d41_7 : decode prog_15_method_89_code 7 = .ok (.aload_n 0, 1) := by decide +kernel
theorem px_d41_8 : decode prog_15_method_89_code 8 = .ok (.getfield 225, 3) := by decide +kernel
theorem px_d41_11 : decode prog_15_method_89_code 11 = .ok (.aload_n 0, 1) := by decide +kernel
theorem px_d41_12 : decode prog_15_method_89_code 12 = .ok (.getfield 508, 3) := by decide +kernel
theorem px_d41_15 : decode prog_15_method_89_code 15 = .ok (.iload_n 1, 1) := by decide +kernel
theorem px_d41_16 : decode prog_15_method_89_code 16 = .ok (.iload_n 2, 1) := by decide +kernel
theorem px_d41_17 : decode prog_15_method_89_code 17 = .ok (.ishr, 1) := by decide +kernel
theorem px_d41_18 : decode prog_15_method_89_code 18 = .ok (.i2b, 1) := by decide +kernel
theorem px_d41_19 : decode prog_15_method_89_code 19 = .ok (.bastore, 1) := by decide +kernel
theorem px_d41_20 : decode prog_15_method_89_code 20 = .ok (.aload_n 0, 1) := by decide +kernel
theorem px_d41_21 : decode prog_15_method_89_code 21 = .ok (.dup, 1) := by decide +kernel
theorem px_d41_22 : decode prog_15_method_89_code 22 = .ok (.getfield 508, 3) := by decide +kernel
theorem px_d41_25 : decode prog_15_method_89_code 25 = .ok (.iconst 1, 1) := by decide +kernel
theorem px_d41_26 : decode prog_15_method_89_code 26 = .ok (.iadd, 1) := by decide +kernel
theorem px_d41_27 : decode prog_15_method_89_code 27 = .ok (.putfield 508, 3) := by decide +kernel
theorem px_d41_30 : decode prog_15_method_89_code 30 = .ok (.iinc 2 (-8), 3) := by decide +kernel
theorem px_d41_33 : decode prog_15_method_89_code 33 = .ok (.goto (-30), 3) := by decide +kernel
theorem px_d41_36 : decode prog_15_method_89_code 36 = .ok (.return_, 1) := by decide +kernel
theorem px_d42_0 : decode prog_15_method_90_code 0 = .ok (.aload_n 0, 1) := by decide +kernel
theorem px_d42_1 : decode prog_15_method_90_code 1 = .ok (.aload_n 0, 1) := by decide +kernel
theorem px_d42_2 : decode prog_15_method_90_code 2 = .ok (.getfield 508, 3) := by decide +kernel
theorem px_d42_5 : decode prog_15_method_90_code 5 = .ok (.bipush 20, 2) := by decide +kernel
theorem px_d42_7 : decode prog_15_method_90_code 7 = .ok (.iadd, 1) := by decide +kernel
theorem px_d42_8 : decode prog_15_method_90_code 8 = .ok (.sipush 16384, 3) := by decide +kernel
theorem px_d42_11 : decode prog_15_method_90_code 11 = .ok (.if_icmp .le 7, 3) := by decide +kernel
theorem px_d42_18 : decode prog_15_method_90_code 18 = .ok (.iconst 0, 1) := by decide +kernel
theorem px_d42_19 : decode prog_15_method_90_code 19 = .ok (.putfield 505, 3) := by decide +kernel
theorem px_d42_22 : decode prog_15_method_90_code 22 = .ok (.aload_n 0, 1) := by decide +kernel
theorem px_d42_23 : decode prog_15_method_90_code 23 = .ok (.getfield 505, 3) := by decide +kernel
theorem px_d42_26 : decode prog_15_method_90_code 26 = .ok (.ifCond .ne 30, 3) := by decide +kernel
theorem px_d42_29 : decode prog_15_method_90_code 29 = .ok (.aload_n 0, 1) := by decide +kernel
theorem px_d42_30 : decode prog_15_method_90_code 30 = .ok (.iload_n 1, 1) := by decide +kernel
theorem px_d42_31 : decode prog_15_method_90_code 31 = .ok (.invokevirtual 511, 3) := by decide +kernel
theorem px_d42_34 : decode prog_15_method_90_code 34 = .ok (.aload_n 0, 1) := by decide +kernel
theorem px_d42_35 : decode prog_15_method_90_code 35 = .ok (.iload_n 2, 1) := by decide +kernel
theorem px_d42_36 : decode prog_15_method_90_code 36 = .ok (.invokevirtual 511, 3) := by decide +kernel
theorem px_d42_39 : decode prog_15_method_90_code 39 = .ok (.aload_n 0, 1) := by decide +kernel
theorem px_d42_40 : decode prog_15_method_90_code 40 = .ok (.iload_n 3, 1) := by decide +kernel
theorem px_d42_41 : decode prog_15_method_90_code 41 = .ok (.invokevirtual 511, 3) := by decide +kernel
theorem px_d42_44 : decode prog_15_method_90_code 44 = .ok (.aload_n 0, 1) := by decide +kernel
theorem px_d42_45 : decode prog_15_method_90_code 45 = .ok (.iload 4, 2) := by decide +kernel
theorem px_d42_47 : decode prog_15_method_90_code 47 = .ok (.invokevirtual 511, 3) := by decide +kernel
theorem px_d42_50 : decode prog_15_method_90_code 50 = .ok (.aload_n 0, 1) := by decide +kernel
theorem px_d42_51 : decode prog_15_method_90_code 51 = .ok (.iload 5, 2) := by decide +kernel
theorem px_d42_53 : decode prog_15_method_90_code 53 = .ok (.invokevirtual 511, 3) := by decide +kernel
theorem px_d42_56 : decode prog_15_method_90_code 56 = .ok (.return_, 1) := by decide +kernel
theorem px_d43_0 : decode prog_15_method_91_code 0 = .ok (.aload_n 0, 1) := by decide +kernel
theorem px_d43_1 : decode prog_15_method_91_code 1 = .ok (.iload_n 1, 1) := by decide +kernel
theorem px_d43_2 : decode prog_15_method_91_code 2 = .ok (.ifCond .lt 11, 3) := by decide +kernel
theorem px_d43_5 : decode prog_15_method_91_code 5 = .ok (.iload_n 1, 1) := by decide +kernel
theorem px_d43_6 : decode prog_15_method_91_code 6 = .ok (.aload_n 0, 1) := by decide +kernel
theorem px_d43_7 : decode prog_15_method_91_code 7 = .ok (.getfield 508, 3) := by decide +kernel
theorem px_d43_10 : decode prog_15_method_91_code 10 = .ok (.if_icmp .le 7, 3) := by decide +kernel
theorem px_d43_17 : decode prog_15_method_91_code 17 = .ok (.iconst 0, 1) := by decide +kernel
theorem px_d43_18 : decode prog_15_method_91_code 18 = .ok (.putfield 505, 3) := by decide +kernel
theorem px_d43_21 : decode prog_15_method_91_code 21 = .ok (.aload_n 0, 1) := by decide +kernel
theorem px_d43_22 : decode prog_15_method_91_code 22 = .ok (.getfield 505, 3) := by decide +kernel
theorem px_d43_25 : decode prog_15_method_91_code 25 = .ok (.ifCond .le 5, 3) := by decide +kernel
theorem px_d43_30 : decode prog_15_method_91_code 30 = .ok (.aload_n 0, 1) := by decide +kernel
theorem px_d43_31 : decode prog_15_method_91_code 31 = .ok (.getfield 508, 3) := by decide +kernel
theorem px_d43_34 : decode prog_15_method_91_code 34 = .ok (.istore_n 2, 1) := by decide +kernel
theorem px_d43_35 : decode prog_15_method_91_code 35 = .ok (.aload_n 0, 1) := by decide +kernel
theorem px_d43_36 : decode prog_15_method_91_code 36 = .ok (.iload_n 1, 1) := by decide +kernel
theorem px_d43_37 : decode prog_15_method_91_code 37 = .ok (.putfield 508, 3) := by decide +kernel
theorem px_d43_40 : decode prog_15_method_91_code 40 = .ok (.iload_n 2, 1) := by decide +kernel
