theorem px_d170_0 : decode prog_1_method_25_code 0 = .ok (.iload_n 1, 1) := by decide +kernel
theorem px_d170_1 : decode prog_1_method_25_code 1 = .ok (.ifCond .lt 9, 3) := by decide +kernel
theorem px_d170_4 : decode prog_1_method_25_code 4 = .ok (.iload_n 1, 1) := by decide +kernel
theorem px_d170_5 : decode prog_1_method_25_code 5 = .ok (.bipush 26, 2) := by decide +kernel
theorem px_d170_7 : decode prog_1_method_25_code 7 = .ok (.if_icmp .lt 7, 3) := by decide +kernel
theorem px_d170_10 : decode prog_1_method_25_code 10 = .ok (.aconst_null, 1) := by decide +kernel
theorem px_d170_11 : decode prog_1_method_25_code 11 = .ok (.goto 9, 3) := by decide +kernel
theorem px_d170_14 : decode prog_1_method_25_code 14 = .ok (.aload_n 0, 1) := by decide +kernel
theorem px_d170_15 : decode prog_1_method_25_code 15 = .ok (.getfield 32, 3) := by decide +kernel
theorem px_d170_18 : decode prog_1_method_25_code 18 = .ok (.iload_n 1, 1) := by decide +kernel
theorem px_d170_19 : decode prog_1_method_25_code 19 = .ok (.aaload, 1) := by decide +kernel
theorem px_d170_20 : decode prog_1_method_25_code 20 = .ok (.areturn, 1) := by decide +kernel
theorem px_d334_0 : decode prog_1_method_5_code 0 = .ok (.aload_n 0, 1) := by decide +kernel
theorem px_d334_1 : decode prog_1_method_5_code 1 = .ok (.getfield 17, 3) := by decide +kernel
theorem px_d334_4 : decode prog_1_method_5_code 4 = .ok (.ireturn, 1) := by decide +kernel
theorem px_d335_0 : decode prog_1_method_6_code 0 = .ok (.aload_n 0, 1) := by decide +kernel
theorem px_d335_1 : decode prog_1_method_6_code 1 = .ok (.getfield 20, 3) := by decide +kernel
theorem px_d335_4 : decode prog_1_method_6_code 4 = .ok (.ireturn, 1) := by decide +kernel
theorem px_d336_0 : decode prog_1_method_7_code 0 = .ok (.aload_n 0, 1) := by decide +kernel
theorem px_d336_1 : decode prog_1_method_7_code 1 = .ok (.getfield 82, 3) := by decide +kernel
theorem px_d336_4 : decode prog_1_method_7_code 4 = .ok (.getfield 125, 3) := by decide +kernel
theorem px_d336_7 : decode prog_1_method_7_code 7 = .ok (.ireturn, 1) := by decide +kernel
theorem px_d337_0 : decode prog_1_method_8_code 0 = .ok (.iload_n 1, 1) := by decide +kernel
theorem px_d337_1 : decode prog_1_method_8_code 1 = .ok (.ifCond .lt 14, 3) := by decide +kernel
theorem px_d337_4 : decode prog_1_method_8_code 4 = .ok (.iload_n 1, 1) := by decide +kernel
theorem px_d337_5 : decode prog_1_method_8_code 5 = .ok (.aload_n 0, 1) := by decide +kernel
theorem px_d337_6 : decode prog_1_method_8_code 6 = .ok (.getfield 82, 3) := by decide +kernel
theorem px_d337_9 : decode prog_1_method_8_code 9 = .ok (.getfield 125, 3) := by decide +kernel
theorem px_d337_12 : decode prog_1_method_8_code 12 = .ok (.if_icmp .lt 7, 3) := by decide +kernel
theorem px_d337_15 : decode prog_1_method_8_code 15 = .ok (.iconst (-1), 1) := by decide +kernel
theorem px_d337_16 : decode prog_1_method_8_code 16 = .ok (.goto 12, 3) := by decide +kernel
theorem px_d337_19 : decode prog_1_method_8_code 19 = .ok (.aload_n 0, 1) := by decide +kernel
theorem px_d337_20 : decode prog_1_method_8_code 20 = .ok (.getfield 82, 3) := by decide +kernel
theorem px_d337_23 : decode prog_1_method_8_code 23 = .ok (.getfield 163, 3) := by decide +kernel
theorem px_d337_26 : decode prog_1_method_8_code 26 = .ok (.iload_n 1, 1) := by decide +kernel
theorem px_d337_27 : decode prog_1_method_8_code 27 = .ok (.baload, 1) := by decide +kernel
theorem px_d337_28 : decode prog_1_method_8_code 28 = .ok (.ireturn, 1) := by decide +kernel
theorem px_d338_0 : decode prog_1_method_9_code 0 = .ok (.aload_n 0, 1) := by decide +kernel
theorem px_d338_1 : decode prog_1_method_9_code 1 = .ok (.iload_n 1, 1) := by decide +kernel
theorem px_d338_2 : decode prog_1_method_9_code 2 = .ok (.invokevirtual 152, 3) := by decide +kernel
theorem px_d338_5 : decode prog_1_method_9_code 5 = .ok (.astore_n 2, 1) := by decide +kernel
theorem px_d338_6 : decode prog_1_method_9_code 6 = .ok (.aload_n 2, 1) := by decide +kernel
theorem px_d338_7 : decode prog_1_method_9_code 7 = .ok (.ifnonnull 7, 3) := by decide +kernel
theorem px_d338_10 : decode prog_1_method_9_code 10 = .ok (.iconst (-1), 1) := by decide +kernel
theorem px_d338_11 : decode prog_1_method_9_code 11 = .ok (.goto 7, 3) := by decide +kernel
theorem px_d338_14 : decode prog_1_method_9_code 14 = .ok (.aload_n 2, 1) := by decide +kernel
theorem px_d338_15 : decode prog_1_method_9_code 15 = .ok (.getfield 164, 3) := by decide +kernel
theorem px_d338_18 : decode prog_1_method_9_code 18 = .ok (.ireturn, 1) := by decide +kernel
theorem px_d339_0 : decode prog_1_method_10_code 0 = .ok (.aload_n 0, 1) := by decide +kernel
theorem px_d339_1 : decode prog_1_method_10_code 1 = .ok (.iload_n 1, 1) := by decide +kernel
theorem px_d339_2 : decode prog_1_method_10_code 2 = .ok (.invokevirtual 152, 3) := by decide +kernel
theorem px_d339_5 : decode prog_1_method_10_code 5 = .ok (.astore_n 2, 1) := by decide +kernel
theorem px_d339_6 : decode prog_1_method_10_code 6 = .ok (.aload_n 2, 1) := by decide +kernel
theorem px_d339_7 : decode prog_1_method_10_code 7 = .ok (.ifnonnull 7, 3) := by decide +kernel
theorem px_d339_10 : decode prog_1_method_10_code 10 = .ok (.iconst (-1), 1) := by decide +kernel
theorem px_d339_11 : decode prog_1_method_10_code 11 = .ok (.goto 7, 3) := by decide +kernel
theorem px_d339_14 : decode prog_1_method_10_code 14 = .ok (.aload_n 2, 1) := by decide +kernel
theorem px_d339_15 : decode prog_1_method_10_code 15 = .ok (.getfield 167, 3) := by decide +kernel
theorem px_d339_18 : decode prog_1_method_10_code 18 = .ok (.ireturn, 1) := by decide +kernel
theorem px_d340_0 : decode prog_1_method_11_code 0 = .ok (.aload_n 0, 1) := by decide +kernel
theorem px_d340_1 : decode prog_1_method_11_code 1 = .ok (.iload_n 1, 1) := by decide +kernel
theorem px_d340_2 : decode prog_1_method_11_code 2 = .ok (.invokevirtual 152, 3) := by decide +kernel
theorem px_d340_5 : decode prog_1_method_11_code 5 = .ok (.astore_n 3, 1) := by decide +kernel
theorem px_d340_6 : decode prog_1_method_11_code 6 = .ok (.aload_n 3, 1) := by decide +kernel
theorem px_d340_7 : decode prog_1_method_11_code 7 = .ok (.ifnull 11, 3) := by decide +kernel
theorem px_d340_10 : decode prog_1_method_11_code 10 = .ok (.aload_n 3, 1) := by decide +kernel
theorem px_d340_11 : decode prog_1_method_11_code 11 = .ok (.iload_n 2, 1) := by decide +kernel
theorem px_d340_12 : decode prog_1_method_11_code 12 = .ok (.invokevirtual 170, 3) := by decide +kernel
theorem px_d340_15 : decode prog_1_method_11_code 15 = .ok (.ifCond .ne 7, 3) := by decide +kernel
theorem px_d340_18 : decode prog_1_method_11_code 18 = .ok (.iconst (-1), 1) := by decide +kernel
theorem px_d340_19 : decode prog_1_method_11_code 19 = .ok (.goto 8, 3) := by decide +kernel
theorem px_d340_22 : decode prog_1_method_11_code 22 = .ok (.aload_n 3, 1) := by decide +kernel
theorem px_d340_23 : decode prog_1_method_11_code 23 = .ok (.iload_n 2, 1) := by decide +kernel
theorem px_d340_24 : decode prog_1_method_11_code 24 = .ok (.invokevirtual 173, 3) := by decide +kernel
theorem px_d340_27 : decode prog_1_method_11_code 27 = .ok (.ireturn, 1) := by decide +kernel
theorem px_d342_0 : decode prog_1_method_12_code 0 = .ok (.aload_n 0, 1) := by decide +kernel
theorem px_d342_1 : decode prog_1_method_12_code 1 = .ok (.iload_n 1, 1) := by decide +kernel
theorem px_d342_2 : decode prog_1_method_12_code 2 = .ok (.invokevirtual 152, 3) := by decide +kernel
theorem px_d342_5 : decode prog_1_method_12_code 5 = .ok (.astore_n 3, 1) := by decide +kernel
theorem px_d342_6 : decode prog_1_method_12_code 6 = .ok (.aload_n 3, 1) := by decide +kernel
theorem px_d342_7 : decode prog_1_method_12_code 7 = .ok (.ifnull 12, 3) := by decide +kernel
theorem px_d342_10 : decode prog_1_method_12_code 10 = .ok (.iload_n 2, 1) := by decide +kernel
theorem px_d342_11 : decode prog_1_method_12_code 11 = .ok (.ifCond .lt 8, 3) := by decide +kernel
theorem px_d342_14 : decode prog_1_method_12_code 14 = .ok (.iload_n 2, 1) := by decide +kernel
theorem px_d342_15 : decode prog_1_method_12_code 15 = .ok (.iconst 4, 1) := by decide +kernel
theorem px_d342_16 : decode prog_1_method_12_code 16 = .ok (.if_icmp .lt 7, 3) := by decide +kernel
theorem px_d342_19 : decode prog_1_method_12_code 19 = .ok (.iconst (-1), 1) := by decide +kernel
theorem px_d342_20 : decode prog_1_method_12_code 20 = .ok (.goto 8, 3) := by decide +kernel
theorem px_d342_23 : decode prog_1_method_12_code 23 = .ok (.aload_n 3, 1) := by decide +kernel
theorem px_d342_24 : decode prog_1_method_12_code 24 = .ok (.iload_n 2, 1) := by decide +kernel
theorem px_d342_25 : decode prog_1_method_12_code 25 = .ok (.invokevirtual 177, 3) := by decide +kernel
theorem px_d342_28 : decode prog_1_method_12_code 28 = .ok (.ireturn, 1) := by decide +kernel
theorem px_d343_0 : decode prog_1_method_13_code 0 = .ok (.aload_n 0, 1) := by decide +kernel
theorem px_d343_1 : decode prog_1_method_13_code 1 = .ok (.iload_n 1, 1) := by decide +kernel
theorem px_d343_2 : decode prog_1_method_13_code 2 = .ok (.invokevirtual 152, 3) := by decide +kernel
theorem px_d343_5 : decode prog_1_method_13_code 5 = .ok (.astore 4, 2) := by decide +kernel
theorem px_d343_7 : decode prog_1_method_13_code 7 = .ok (.aload 4, 2) := by decide +kernel
theorem px_d343_9 : decode prog_1_method_13_code 9 = .ok (.ifnull 26, 3) := by decide +kernel
theorem px_d343_12 : decode prog_1_method_13_code 12 = .ok (.iload_n 2, 1) := by decide +kernel
theorem px_d343_13 : decode prog_1_method_13_code 13 = .ok (.ifCond .lt 22, 3) := by decide +kernel
theorem px_d343_16 : decode prog_1_method_13_code 16 = .ok (.iload_n 2, 1) := by decide +kernel
theorem px_d343_17 : decode prog_1_method_13_code 17 = .ok (.iconst 4, 1) := by decide +kernel
theorem px_d343_18 : decode prog_1_method_13_code 18 = .ok (.if_icmp .ge 17, 3) := by decide +kernel
theorem px_d343_21 : decode prog_1_method_13_code 21 = .ok (.iload_n 3, 1) := by decide +kernel
theorem px_d343_22 : decode prog_1_method_13_code 22 = .ok (.ifCond .lt 13, 3) := by decide +kernel
theorem px_d343_25 : decode prog_1_method_13_code 25 = .ok (.iload_n 3, 1) := by decide +kernel
theorem px_d343_26 : decode prog_1_method_13_code 26 = .ok (.aload 4, 2) := by decide +kernel
theorem px_d343_28 : decode prog_1_method_13_code 28 = .ok (.iload_n 2, 1) := by decide +kernel
theorem px_d343_29 : decode prog_1_method_13_code 29 = .ok (.invokevirtual 177, 3) := by decide +kernel
theorem px_d343_32 : decode prog_1_method_13_code 32 = .ok (.if_icmp .lt 5, 3) := by decide +kernel
theorem px_d343_35 : decode prog_1_method_13_code 35 = .ok (.iconst (-1), 1) := by decide +kernel
theorem px_d343_36 : decode prog_1_method_13_code 36 = .ok (.ireturn, 1) := by decide +kernel
theorem px_d343_37 : decode prog_1_method_13_code 37 = .ok (.aload 4, 2) := by decide +kernel
theorem px_d343_39 : decode prog_1_method_13_code 39 = .ok (.getfield 180, 3) := by decide +kernel
theorem px_d343_42 : decode prog_1_method_13_code 42 = .ok (.iload_n 2, 1) := by decide +kernel
theorem px_d343_43 : decode prog_1_method_13_code 43 = .ok (.aaload, 1) := by decide +kernel
theorem px_d343_44 : decode prog_1_method_13_code 44 = .ok (.iload_n 3, 1) := by decide +kernel
theorem px_d343_45 : decode prog_1_method_13_code 45 = .ok (.iaload, 1) := by decide +kernel
theorem px_d343_46 : decode prog_1_method_13_code 46 = .ok (.ireturn, 1) := by decide +kernel
theorem px_d344_0 : decode prog_1_method_14_code 0 = .ok (.aload_n 0, 1) := by decide +kernel
theorem px_d344_1 : decode prog_1_method_14_code 1 = .ok (.iload_n 1, 1) := by decide +kernel
theorem px_d344_2 : decode prog_1_method_14_code 2 = .ok (.invokevirtual 152, 3) := by decide +kernel
theorem px_d344_5 : decode prog_1_method_14_code 5 = .ok (.astore 4, 2) := by decide +kernel
theorem px_d344_7 : decode prog_1_method_14_code 7 = .ok (.aload 4, 2) := by decide +kernel
theorem px_d344_9 : decode prog_1_method_14_code 9 = .ok (.ifnonnull 7, 3) := by decide +kernel
theorem px_d344_12 : decode prog_1_method_14_code 12 = .ok (.lconst 0, 1) := by decide +kernel
theorem px_d344_13 : decode prog_1_method_14_code 13 = .ok (.goto 10, 3) := by decide +kernel
theorem px_d344_16 : decode prog_1_method_14_code 16 = .ok (.aload 4, 2) := by decide +kernel
theorem px_d344_18 : decode prog_1_method_14_code 18 = .ok (.iload_n 2, 1) := by decide +kernel
theorem px_d344_19 : decode prog_1_method_14_code 19 = .ok (.iload_n 3, 1) := by decide +kernel
theorem px_d344_20 : decode prog_1_method_14_code 20 = .ok (.invokevirtual 184, 3) := by decide +kernel
theorem px_d344_23 : decode prog_1_method_14_code 23 = .ok (.lreturn, 1) := by decide +kernel
theorem px_d345_0 : decode prog_1_method_15_code 0 = .ok (.aload_n 0, 1) := by decide +kernel
theorem px_d345_1 : decode prog_1_method_15_code 1 = .ok (.iload_n 1, 1) := by decide +kernel
theorem px_d345_2 : decode prog_1_method_15_code 2 = .ok (.invokevirtual 152, 3) := by decide +kernel
theorem px_d345_5 : decode prog_1_method_15_code 5 = .ok (.astore_n 3, 1) := by decide +kernel
theorem px_d345_6 : decode prog_1_method_15_code 6 = .ok (.aload_n 3, 1) := by decide +kernel
theorem px_d345_7 : decode prog_1_method_15_code 7 = .ok (.ifnull 15, 3) := by decide +kernel
theorem px_d345_10 : decode prog_1_method_15_code 10 = .ok (.iload_n 2, 1) := by decide +kernel
theorem px_d345_11 : decode prog_1_method_15_code 11 = .ok (.ifCond .lt 11, 3) := by decide +kernel
theorem px_d345_14 : decode prog_1_method_15_code 14 = .ok (.iload_n 2, 1) := by decide +kernel
theorem px_d345_15 : decode prog_1_method_15_code 15 = .ok (.aload_n 3, 1) := by decide +kernel
theorem px_d345_16 : decode prog_1_method_15_code 16 = .ok (.getfield 164, 3) := by decide +kernel
theorem px_d345_19 : decode prog_1_method_15_code 19 = .ok (.if_icmp .lt 7, 3) := by decide +kernel
theorem px_d345_22 : decode prog_1_method_15_code 22 = .ok (.iconst 0, 1) := by decide +kernel
theorem px_d345_23 : decode prog_1_method_15_code 23 = .ok (.goto 9, 3) := by decide +kernel
theorem px_d345_26 : decode prog_1_method_15_code 26 = .ok (.aload_n 3, 1) := by decide +kernel
theorem px_d345_27 : decode prog_1_method_15_code 27 = .ok (.getfield 188, 3) := by decide +kernel
theorem px_d345_30 : decode prog_1_method_15_code 30 = .ok (.iload_n 2, 1) := by decide +kernel
theorem px_d345_31 : decode prog_1_method_15_code 31 = .ok (.iaload, 1) := by decide +kernel
theorem px_d345_32 : decode prog_1_method_15_code 32 = .ok (.ireturn, 1) := by decide +kernel
theorem px_d346_0 : decode prog_1_method_16_code 0 = .ok (.aload_n 0, 1) := by decide +kernel
theorem px_d346_1 : decode prog_1_method_16_code 1 = .ok (.iload_n 1, 1) := by decide +kernel
theorem px_d346_2 : decode prog_1_method_16_code 2 = .ok (.invokevirtual 152, 3) := by decide +kernel
theorem px_d346_5 : decode prog_1_method_16_code 5 = .ok (.astore_n 2, 1) := by decide +kernel
theorem px_d346_6 : decode prog_1_method_16_code 6 = .ok (.aload_n 2, 1) := by decide +kernel
theorem px_d346_7 : decode prog_1_method_16_code 7 = .ok (.ifnonnull 7, 3) := by decide +kernel
theorem px_d346_10 : decode prog_1_method_16_code 10 = .ok (.iconst (-1), 1) := by decide +kernel
theorem px_d346_11 : decode prog_1_method_16_code 11 = .ok (.goto 7, 3) := by decide +kernel
theorem px_d346_14 : decode prog_1_method_16_code 14 = .ok (.aload_n 2, 1) := by decide +kernel
theorem px_d346_15 : decode prog_1_method_16_code 15 = .ok (.invokevirtual 191, 3) := by decide +kernel
theorem px_d346_18 : decode prog_1_method_16_code 18 = .ok (.ireturn, 1) := by decide +kernel
theorem px_d347_0 : decode prog_1_method_17_code 0 = .ok (.aload_n 0, 1) := by decide +kernel
theorem px_d347_1 : decode prog_1_method_17_code 1 = .ok (.iload_n 1, 1) := by decide +kernel
theorem px_d347_2 : decode prog_1_method_17_code 2 = .ok (.invokevirtual 152, 3) := by decide +kernel
theorem px_d347_5 : decode prog_1_method_17_code 5 = .ok (.astore_n 3, 1) := by decide +kernel
theorem px_d347_6 : decode prog_1_method_17_code 6 = .ok (.aload_n 0, 1) := by decide +kernel
theorem px_d347_7 : decode prog_1_method_17_code 7 = .ok (.iload_n 2, 1) := by decide +kernel
theorem px_d347_8 : decode prog_1_method_17_code 8 = .ok (.invokevirtual 152, 3) := by decide +kernel
theorem px_d347_11 : decode prog_1_method_17_code 11 = .ok (.astore 4, 2) := by decide +kernel
theorem px_d347_13 : decode prog_1_method_17_code 13 = .ok (.aload_n 3, 1) := by decide +kernel
theorem px_d347_14 : decode prog_1_method_17_code 14 = .ok (.ifnull 24, 3) := by decide +kernel
theorem px_d347_17 : decode prog_1_method_17_code 17 = .ok (.aload 4, 2) := by decide +kernel
theorem px_d347_19 : decode prog_1_method_17_code 19 = .ok (.ifnull 19, 3) := by decide +kernel
theorem px_d347_22 : decode prog_1_method_17_code 22 = .ok (.aload_n 3, 1) := by decide +kernel
theorem px_d347_23 : decode prog_1_method_17_code 23 = .ok (.getfield 164, 3) := by decide +kernel
theorem px_d347_26 : decode prog_1_method_17_code 26 = .ok (.aload 4, 2) := by decide +kernel
theorem px_d347_28 : decode prog_1_method_17_code 28 = .ok (.getfield 164, 3) := by decide +kernel
theorem px_d347_31 : decode prog_1_method_17_code 31 = .ok (.if_icmp .ne 7, 3) := by decide +kernel
theorem px_d347_34 : decode prog_1_method_17_code 34 = .ok (.iconst 1, 1) := by decide +kernel
theorem px_d347_35 : decode prog_1_method_17_code 35 = .ok (.goto 4, 3) := by decide +kernel
theorem px_d347_38 : decode prog_1_method_17_code 38 = .ok (.iconst 0, 1) := by decide +kernel
theorem px_d347_39 : decode prog_1_method_17_code 39 = .ok (.istore 5, 2) := by decide +kernel
theorem px_d347_41 : decode prog_1_method_17_code 41 = .ok (.iload 5, 2) := by decide +kernel
theorem px_d347_43 : decode prog_1_method_17_code 43 = .ok (.ifCond .eq 12, 3) := by decide +kernel
theorem px_d347_46 : decode prog_1_method_17_code 46 = .ok (.aload_n 3, 1) := by decide +kernel
theorem px_d347_47 : decode prog_1_method_17_code 47 = .ok (.aload 4, 2) := by decide +kernel
theorem px_d347_49 : decode prog_1_method_17_code 49 = .ok (.invokevirtual 194, 3) := by decide +kernel
theorem px_d347_52 : decode prog_1_method_17_code 52 = .ok (.goto 4, 3) := by decide +kernel
theorem px_d347_55 : decode prog_1_method_17_code 55 = .ok (.iconst (-1), 1) := by decide +kernel
theorem px_d347_56 : decode prog_1_method_17_code 56 = .ok (.ireturn, 1) := by decide +kernel
theorem px_d348_0 : decode prog_1_method_18_code 0 = .ok (.aload_n 0, 1) := by decide +kernel
theorem px_d348_1 : decode prog_1_method_18_code 1 = .ok (.iload_n 1, 1) := by decide +kernel
theorem px_d348_2 : decode prog_1_method_18_code 2 = .ok (.invokevirtual 152, 3) := by decide +kernel
theorem px_d348_5 : decode prog_1_method_18_code 5 = .ok (.astore_n 3, 1) := by decide +kernel
theorem px_d348_6 : decode prog_1_method_18_code 6 = .ok (.aload_n 0, 1) := by decide +kernel
theorem px_d348_7 : decode prog_1_method_18_code 7 = .ok (.iload_n 2, 1) := by decide +kernel
theorem px_d348_8 : decode prog_1_method_18_code 8 = .ok (.invokevirtual 152, 3) := by decide +kernel
theorem px_d348_11 : decode prog_1_method_18_code 11 = .ok (.astore 4, 2) := by decide +kernel
theorem px_d348_13 : decode prog_1_method_18_code 13 = .ok (.aload_n 3, 1) := by decide +kernel
theorem px_d348_14 : decode prog_1_method_18_code 14 = .ok (.ifnull 24, 3) := by decide +kernel
theorem px_d348_17 : decode prog_1_method_18_code 17 = .ok (.aload 4, 2) := by decide +kernel
theorem px_d348_19 : decode prog_1_method_18_code 19 = .ok (.ifnull 19, 3) := by decide +kernel
theorem px_d348_22 : decode prog_1_method_18_code 22 = .ok (.aload_n 3, 1) := by decide +kernel
theorem px_d348_23 : decode prog_1_method_18_code 23 = .ok (.getfield 164, 3) := by decide +kernel
theorem px_d348_26 : decode prog_1_method_18_code 26 = .ok (.aload 4, 2) := by decide +kernel
theorem px_d348_28 : decode prog_1_method_18_code 28 = .ok (.getfield 164, 3) := by decide +kernel
theorem px_d348_31 : decode prog_1_method_18_code 31 = .ok (.if_icmp .ne 7, 3) := by decide +kernel
theorem px_d348_34 : decode prog_1_method_18_code 34 = .ok (.iconst 1, 1) := by decide +kernel
theorem px_d348_35 : decode prog_1_method_18_code 35 = .ok (.goto 4, 3) := by decide +kernel
theorem px_d348_38 : decode prog_1_method_18_code 38 = .ok (.iconst 0, 1) := by decide +kernel
theorem px_d348_39 : decode prog_1_method_18_code 39 = .ok (.istore 5, 2) := by decide +kernel
theorem px_d348_41 : decode prog_1_method_18_code 41 = .ok (.iload 5, 2) := by decide +kernel
theorem px_d348_43 : decode prog_1_method_18_code 43 = .ok (.ifCond .eq 12, 3) := by decide +kernel
theorem px_d348_46 : decode prog_1_method_18_code 46 = .ok (.aload_n 3, 1) := by decide +kernel
theorem px_d348_47 : decode prog_1_method_18_code 47 = .ok (.aload 4, 2) := by decide +kernel
theorem px_d348_49 : decode prog_1_method_18_code 49 = .ok (.invokevirtual 198, 3) := by decide +kernel
theorem px_d348_52 : decode prog_1_method_18_code 52 = .ok (.goto 4, 3) := by decide +kernel
theorem px_d348_55 : decode prog_1_method_18_code 55 = .ok (.iconst (-1), 1) := by decide +kernel
theorem px_d348_56 : decode prog_1_method_18_code 56 = .ok (.ireturn, 1) := by decide +kernel
theorem px_d349_0 : decode prog_1_method_19_code 0 = .ok (.aload_n 0, 1) := by decide +kernel
theorem px_d349_1 : decode prog_1_method_19_code 1 = .ok (.iload_n 1, 1) := by decide +kernel
theorem px_d349_2 : decode prog_1_method_19_code 2 = .ok (.invokevirtual 152, 3) := by decide +kernel
theorem px_d349_5 : decode prog_1_method_19_code 5 = .ok (.astore_n 3, 1) := by decide +kernel
theorem px_d349_6 : decode prog_1_method_19_code 6 = .ok (.aload_n 3, 1) := by decide +kernel
theorem px_d349_7 : decode prog_1_method_19_code 7 = .ok (.ifnull 18, 3) := by decide +kernel
theorem px_d349_10 : decode prog_1_method_19_code 10 = .ok (.aload_n 3, 1) := by decide +kernel
theorem px_d349_11 : decode prog_1_method_19_code 11 = .ok (.getfield 167, 3) := by decide +kernel
theorem px_d349_14 : decode prog_1_method_19_code 14 = .ok (.ifCond .ne 11, 3) := by decide +kernel
theorem px_d349_17 : decode prog_1_method_19_code 17 = .ok (.aload_n 3, 1) := by decide +kernel
theorem px_d349_18 : decode prog_1_method_19_code 18 = .ok (.iload_n 2, 1) := by decide +kernel
theorem px_d349_19 : decode prog_1_method_19_code 19 = .ok (.invokevirtual 170, 3) := by decide +kernel
theorem px_d349_22 : decode prog_1_method_19_code 22 = .ok (.ifCond .ne 5, 3) := by decide +kernel
theorem px_d349_25 : decode prog_1_method_19_code 25 = .ok (.iconst 2, 1) := by decide +kernel
theorem px_d349_26 : decode prog_1_method_19_code 26 = .ok (.ireturn, 1) := by decide +kernel
theorem px_d349_27 : decode prog_1_method_19_code 27 = .ok (.iload_n 2, 1) := by decide +kernel
theorem px_d349_28 : decode prog_1_method_19_code 28 = .ok (.invokestatic 201, 3) := by decide +kernel
theorem px_d349_31 : decode prog_1_method_19_code 31 = .ok (.aload_n 3, 1) := by decide +kernel
theorem px_d349_32 : decode prog_1_method_19_code 32 = .ok (.getfield 206, 3) := by decide +kernel
theorem px_d349_35 : decode prog_1_method_19_code 35 = .ok (.if_icmp .ne 12, 3) := by decide +kernel
theorem px_d349_38 : decode prog_1_method_19_code 38 = .ok (.aload_n 3, 1) := by decide +kernel
theorem px_d349_39 : decode prog_1_method_19_code 39 = .ok (.getfield 209, 3) := by decide +kernel
theorem px_d349_42 : decode prog_1_method_19_code 42 = .ok (.iload_n 2, 1) := by decide +kernel
theorem px_d349_43 : decode prog_1_method_19_code 43 = .ok (.baload, 1) := by decide +kernel
theorem px_d349_44 : decode prog_1_method_19_code 44 = .ok (.goto 4, 3) := by decide +kernel
theorem px_d349_47 : decode prog_1_method_19_code 47 = .ok (.iconst 2, 1) := by decide +kernel
theorem px_d349_48 : decode prog_1_method_19_code 48 = .ok (.ireturn, 1) := by decide +kernel
theorem px_d350_0 : decode prog_1_method_20_code 0 = .ok (.aload_n 0, 1) := by decide +kernel
theorem px_d350_1 : decode prog_1_method_20_code 1 = .ok (.iload_n 1, 1) := by decide +kernel
theorem px_d350_2 : decode prog_1_method_20_code 2 = .ok (.invokevirtual 152, 3) := by decide +kernel
theorem px_d350_5 : decode prog_1_method_20_code 5 = .ok (.astore_n 3, 1) := by decide +kernel
theorem px_d350_6 : decode prog_1_method_20_code 6 = .ok (.aload_n 3, 1) := by decide +kernel
theorem px_d350_7 : decode prog_1_method_20_code 7 = .ok (.ifnull 23, 3) := by decide +kernel
theorem px_d350_10 : decode prog_1_method_20_code 10 = .ok (.aload_n 3, 1) := by decide +kernel
theorem px_d350_11 : decode prog_1_method_20_code 11 = .ok (.getfield 167, 3) := by decide +kernel
theorem px_d350_14 : decode prog_1_method_20_code 14 = .ok (.ifCond .ne 16, 3) := by decide +kernel
theorem px_d350_17 : decode prog_1_method_20_code 17 = .ok (.iload_n 2, 1) := by decide +kernel
theorem px_d350_18 : decode prog_1_method_20_code 18 = .ok (.ifCond .lt 12, 3) := by decide +kernel
theorem px_d350_21 : decode prog_1_method_20_code 21 = .ok (.iload_n 2, 1) := by decide +kernel
theorem px_d350_22 : decode prog_1_method_20_code 22 = .ok (.aload_n 3, 1) := by decide +kernel
theorem px_d350_23 : decode prog_1_method_20_code 23 = .ok (.iconst 1, 1) := by decide +kernel
theorem px_d350_24 : decode prog_1_method_20_code 24 = .ok (.invokevirtual 177, 3) := by decide +kernel
theorem px_d350_27 : decode prog_1_method_20_code 27 = .ok (.if_icmp .lt 5, 3) := by decide +kernel
theorem px_d350_30 : decode prog_1_method_20_code 30 = .ok (.iconst (-1), 1) := by decide +kernel
theorem px_d350_31 : decode prog_1_method_20_code 31 = .ok (.ireturn, 1) := by decide +kernel
theorem px_d350_32 : decode prog_1_method_20_code 32 = .ok (.aload_n 3, 1) := by decide +kernel
theorem px_d350_33 : decode prog_1_method_20_code 33 = .ok (.aload_n 3, 1) := by decide +kernel
theorem px_d350_34 : decode prog_1_method_20_code 34 = .ok (.getfield 180, 3) := by decide +kernel
theorem px_d350_37 : decode prog_1_method_20_code 37 = .ok (.iconst 1, 1) := by decide +kernel
theorem px_d350_38 : decode prog_1_method_20_code 38 = .ok (.aaload, 1) := by decide +kernel
theorem px_d350_39 : decode prog_1_method_20_code 39 = .ok (.iload_n 2, 1) := by decide +kernel
theorem px_d350_40 : decode prog_1_method_20_code 40 = .ok (.iaload, 1) := by decide +kernel
theorem px_d350_41 : decode prog_1_method_20_code 41 = .ok (.invokevirtual 212, 3) := by decide +kernel
theorem px_d350_44 : decode prog_1_method_20_code 44 = .ok (.ireturn, 1) := by decide +kernel
theorem px_d351_0 : decode prog_1_method_21_code 0 = .ok (.aload_n 0, 1) := by decide +kernel
theorem px_d351_1 : decode prog_1_method_21_code 1 = .ok (.iload_n 1, 1) := by decide +kernel
theorem px_d351_2 : decode prog_1_method_21_code 2 = .ok (.iload_n 2, 1) := by decide +kernel
theorem px_d351_3 : decode prog_1_method_21_code 3 = .ok (.invokevirtual 215, 3) := by decide +kernel
theorem px_d351_6 : decode prog_1_method_21_code 6 = .ok (.ifCond .eq 13, 3) := by decide +kernel
theorem px_d351_9 : decode prog_1_method_21_code 9 = .ok (.aload_n 0, 1) := by decide +kernel
theorem px_d351_10 : decode prog_1_method_21_code 10 = .ok (.getfield 59, 3) := by decide +kernel
theorem px_d351_13 : decode prog_1_method_21_code 13 = .ok (.getfield 219, 3) := by decide +kernel
theorem px_d351_16 : decode prog_1_method_21_code 16 = .ok (.goto 4, 3) := by decide +kernel
theorem px_d351_19 : decode prog_1_method_21_code 19 = .ok (.iconst (-1), 1) := by decide +kernel
theorem px_d351_20 : decode prog_1_method_21_code 20 = .ok (.ireturn, 1) := by decide +kernel
theorem px_d352_0 : decode prog_1_method_24_code 0 = .ok (.aload_n 0, 1) := by decide +kernel
theorem px_d352_1 : decode prog_1_method_24_code 1 = .ok (.iload_n 1, 1) := by decide +kernel
theorem px_d352_2 : decode prog_1_method_24_code 2 = .ok (.invokevirtual 152, 3) := by decide +kernel
theorem px_d352_5 : decode prog_1_method_24_code 5 = .ok (.astore_n 3, 1) := by decide +kernel
theorem px_d352_6 : decode prog_1_method_24_code 6 = .ok (.aload_n 0, 1) := by decide +kernel
theorem px_d352_7 : decode prog_1_method_24_code 7 = .ok (.iload_n 2, 1) := by decide +kernel
theorem px_d352_8 : decode prog_1_method_24_code 8 = .ok (.invokevirtual 152, 3) := by decide +kernel
theorem px_d352_11 : decode prog_1_method_24_code 11 = .ok (.astore 4, 2) := by decide +kernel
theorem px_d352_13 : decode prog_1_method_24_code 13 = .ok (.aload_n 3, 1) := by decide +kernel
theorem px_d352_14 : decode prog_1_method_24_code 14 = .ok (.ifnull 25, 3) := by decide +kernel
theorem px_d352_17 : decode prog_1_method_24_code 17 = .ok (.aload 4, 2) := by decide +kernel
theorem px_d352_19 : decode prog_1_method_24_code 19 = .ok (.ifnull 20, 3) := by decide +kernel
theorem px_d352_22 : decode prog_1_method_24_code 22 = .ok (.aload_n 0, 1) := by decide +kernel
theorem px_d352_23 : decode prog_1_method_24_code 23 = .ok (.getfield 59, 3) := by decide +kernel
theorem px_d352_26 : decode prog_1_method_24_code 26 = .ok (.aload_n 3, 1) := by decide +kernel
theorem px_d352_27 : decode prog_1_method_24_code 27 = .ok (.aload 4, 2) := by decide +kernel
theorem px_d352_29 : decode prog_1_method_24_code 29 = .ok (.invokevirtual 228, 3) := by decide +kernel
theorem px_d352_32 : decode prog_1_method_24_code 32 = .ok (.ifCond .eq 7, 3) := by decide +kernel
theorem px_d352_35 : decode prog_1_method_24_code 35 = .ok (.iconst 1, 1) := by decide +kernel
theorem px_d352_36 : decode prog_1_method_24_code 36 = .ok (.goto 4, 3) := by decide +kernel
theorem px_d352_39 : decode prog_1_method_24_code 39 = .ok (.iconst 0, 1) := by decide +kernel
theorem px_d352_40 : decode prog_1_method_24_code 40 = .ok (.ireturn, 1) := by decide +kernel
theorem px_d353_0 : decode prog_1_method_22_code 0 = .ok (.aload_n 0, 1) := by decide +kernel
theorem px_d353_1 : decode prog_1_method_22_code 1 = .ok (.iload_n 1, 1) := by decide +kernel
theorem px_d353_2 : decode prog_1_method_22_code 2 = .ok (.iload_n 2, 1) := by decide +kernel
theorem px_d353_3 : decode prog_1_method_22_code 3 = .ok (.invokevirtual 215, 3) := by decide +kernel
theorem px_d353_6 : decode prog_1_method_22_code 6 = .ok (.ifCond .eq 13, 3) := by decide +kernel
theorem px_d353_9 : decode prog_1_method_22_code 9 = .ok (.aload_n 0, 1) := by decide +kernel
theorem px_d353_10 : decode prog_1_method_22_code 10 = .ok (.getfield 59, 3) := by decide +kernel
theorem px_d353_13 : decode prog_1_method_22_code 13 = .ok (.getfield 222, 3) := by decide +kernel
theorem px_d353_16 : decode prog_1_method_22_code 16 = .ok (.goto 4, 3) := by decide +kernel
theorem px_d353_19 : decode prog_1_method_22_code 19 = .ok (.iconst (-1), 1) := by decide +kernel
theorem px_d353_20 : decode prog_1_method_22_code 20 = .ok (.ireturn, 1) := by decide +kernel
theorem px_d354_0 : decode prog_1_method_23_code 0 = .ok (.aload_n 0, 1) := by decide +kernel
theorem px_d354_1 : decode prog_1_method_23_code 1 = .ok (.iload_n 2, 1) := by decide +kernel
theorem px_d354_2 : decode prog_1_method_23_code 2 = .ok (.invokevirtual 152, 3) := by decide +kernel
theorem px_d354_5 : decode prog_1_method_23_code 5 = .ok (.astore 4, 2) := by decide +kernel
theorem px_d354_7 : decode prog_1_method_23_code 7 = .ok (.aload 4, 2) := by decide +kernel
theorem px_d354_9 : decode prog_1_method_23_code 9 = .ok (.ifnull 20, 3) := by decide +kernel
theorem px_d354_12 : decode prog_1_method_23_code 12 = .ok (.iload_n 3, 1) := by decide +kernel
theorem px_d354_13 : decode prog_1_method_23_code 13 = .ok (.ifCond .lt 16, 3) := by decide +kernel
theorem px_d354_16 : decode prog_1_method_23_code 16 = .ok (.iload_n 3, 1) := by decide +kernel
theorem px_d354_17 : decode prog_1_method_23_code 17 = .ok (.aload 4, 2) := by decide +kernel
theorem px_d354_19 : decode prog_1_method_23_code 19 = .ok (.getfield 164, 3) := by decide +kernel
theorem px_d354_22 : decode prog_1_method_23_code 22 = .ok (.if_icmp .ge 7, 3) := by decide +kernel
theorem px_d354_25 : decode prog_1_method_23_code 25 = .ok (.iconst 1, 1) := by decide +kernel
theorem px_d354_26 : decode prog_1_method_23_code 26 = .ok (.goto 4, 3) := by decide +kernel
theorem px_d354_29 : decode prog_1_method_23_code 29 = .ok (.iconst 0, 1) := by decide +kernel
theorem px_d354_30 : decode prog_1_method_23_code 30 = .ok (.istore 5, 2) := by decide +kernel
theorem px_d354_32 : decode prog_1_method_23_code 32 = .ok (.iload 5, 2) := by decide +kernel
theorem px_d354_34 : decode prog_1_method_23_code 34 = .ok (.ifCond .eq 23, 3) := by decide +kernel
theorem px_d354_37 : decode prog_1_method_23_code 37 = .ok (.aload_n 0, 1) := by decide +kernel
theorem px_d354_38 : decode prog_1_method_23_code 38 = .ok (.iload_n 1, 1) := by decide +kernel
theorem px_d354_39 : decode prog_1_method_23_code 39 = .ok (.iload_n 2, 1) := by decide +kernel
theorem px_d354_40 : decode prog_1_method_23_code 40 = .ok (.invokevirtual 215, 3) := by decide +kernel
theorem px_d354_43 : decode prog_1_method_23_code 43 = .ok (.ifCond .eq 14, 3) := by decide +kernel
theorem px_d354_46 : decode prog_1_method_23_code 46 = .ok (.aload_n 0, 1) := by decide +kernel
theorem px_d354_47 : decode prog_1_method_23_code 47 = .ok (.getfield 59, 3) := by decide +kernel
theorem px_d354_50 : decode prog_1_method_23_code 50 = .ok (.iload_n 3, 1) := by decide +kernel
theorem px_d354_51 : decode prog_1_method_23_code 51 = .ok (.invokevirtual 225, 3) := by decide +kernel
theorem px_d354_54 : decode prog_1_method_23_code 54 = .ok (.goto 4, 3) := by decide +kernel
theorem px_d354_57 : decode prog_1_method_23_code 57 = .ok (.iconst (-1), 1) := by decide +kernel
theorem px_d354_58 : decode prog_1_method_23_code 58 = .ok (.ireturn, 1) := by decide +kernel
theorem px_d358_0 : decode prog_1_method_26_code 0 = .ok (.bipush 24, 2) := by decide +kernel
theorem px_d358_2 : decode prog_1_method_26_code 2 = .ok (.istore_n 2, 1) := by decide +kernel
theorem px_d358_3 : decode prog_1_method_26_code 3 = .ok (.iload_n 2, 1) := by decide +kernel
theorem px_d358_4 : decode prog_1_method_26_code 4 = .ok (.ifCond .lt 32, 3) := by decide +kernel
theorem px_d358_7 : decode prog_1_method_26_code 7 = .ok (.aload_n 0, 1) := by decide +kernel
theorem px_d358_8 : decode prog_1_method_26_code 8 = .ok (.getfield 7, 3) := by decide +kernel
theorem px_d358_11 : decode prog_1_method_26_code 11 = .ok (.aload_n 0, 1) := by decide +kernel
theorem px_d358_12 : decode prog_1_method_26_code 12 = .ok (.getfield 13, 3) := by decide +kernel
theorem px_d358_15 : decode prog_1_method_26_code 15 = .ok (.iload_n 1, 1) := by decide +kernel
theorem px_d358_16 : decode prog_1_method_26_code 16 = .ok (.iload_n 2, 1) := by decide +kernel
theorem px_d358_17 : decode prog_1_method_26_code 17 = .ok (.ishr, 1) := by decide +kernel
theorem px_d358_18 : decode prog_1_method_26_code 18 = .ok (.i2b, 1) := by decide +kernel
theorem px_d358_19 : decode prog_1_method_26_code 19 = .ok (.bastore, 1) := by decide +kernel
theorem px_d358_20 : decode prog_1_method_26_code 20 = .ok (.aload_n 0, 1) := by decide +kernel
theorem px_d358_21 : decode prog_1_method_26_code 21 = .ok (.dup, 1) := by decide +kernel
theorem px_d358_22 : decode prog_1_method_26_code 22 = .ok (.getfield 13, 3) := by decide +kernel
theorem px_d358_25 : decode prog_1_method_26_code 25 = .ok (.iconst 1, 1) := by decide +kernel
theorem px_d358_26 : decode prog_1_method_26_code 26 = .ok (.iadd, 1) := by decide +kernel
theorem px_d358_27 : decode prog_1_method_26_code 27 = .ok (.putfield 13, 3) := by decide +kernel
theorem px_d358_30 : decode prog_1_method_26_code 30 = .ok (.iinc 2 (-8), 3) := by decide +kernel
theorem px_d358_33 : decode prog_1_method_26_code 33 = .ok (.goto (-30), 3) := by decide +kernel
theorem px_d358_36 : decode prog_1_method_26_code 36 = .ok (.return_, 1) := by decide +kernel
