theorem px_d312_174 : decode prog_1_method_43_code 174 = .ok (.return_, 1) := by decide +kernel
theorem px_d355_0 : decode method_3_code 0 = .ok (.aload_n 0, 1) := by decide +kernel
theorem px_d355_1 : decode method_3_code 1 = .ok (.iload_n 1, 1) := by decide +kernel
theorem px_d355_2 : decode method_3_code 2 = .ok (.iload_n 2, 1) := by decide +kernel
theorem px_d355_3 : decode method_3_code 3 = .ok (.iload_n 3, 1) := by decide +kernel
theorem px_d355_4 : decode method_3_code 4 = .ok (.iload 4, 2) := by decide +kernel
theorem px_d355_6 : decode method_3_code 6 = .ok (.iload 5, 2) := by decide +kernel
theorem px_d355_8 : decode method_3_code 8 = .ok (.invokevirtual 7, 3) := by decide +kernel
theorem px_d355_11 : decode method_3_code 11 = .ok (.goto 7, 3) := by decide +kernel
theorem px_d355_14 : decode method_3_code 14 = .ok (.astore 6, 2) := by decide +kernel
theorem px_d355_16 : decode method_3_code 16 = .ok (.iconst 1, 1) := by decide +kernel
theorem px_d355_17 : decode method_3_code 17 = .ok (.ireturn, 1) := by decide +kernel
theorem px_d355_18 : decode method_3_code 18 = .ok (.iconst 0, 1) := by decide +kernel
theorem px_d355_19 : decode method_3_code 19 = .ok (.ireturn, 1) := by decide +kernel
theorem px_d356_0 : decode prog_1_method_2_code 0 = .ok (.aload_n 0, 1) := by decide +kernel
theorem px_d356_1 : decode prog_1_method_2_code 1 = .ok (.getfield 13, 3) := by decide +kernel
theorem px_d356_4 : decode prog_1_method_2_code 4 = .ok (.bipush 20, 2) := by decide +kernel
theorem px_d356_6 : decode prog_1_method_2_code 6 = .ok (.iadd, 1) := by decide +kernel
theorem px_d356_7 : decode prog_1_method_2_code 7 = .ok (.sipush 16384, 3) := by decide +kernel
theorem px_d356_10 : decode prog_1_method_2_code 10 = .ok (.if_icmp .le 13, 3) := by decide +kernel
theorem px_d356_13 : decode prog_1_method_2_code 13 = .ok (.new 86, 3) := by decide +kernel
theorem px_d356_16 : decode prog_1_method_2_code 16 = .ok (.dup, 1) := by decide +kernel
theorem px_d356_17 : decode prog_1_method_2_code 17 = .ok (.ldc 88, 2) := by decide +kernel
theorem px_d356_19 : decode prog_1_method_2_code 19 = .ok (.invokespecial 90, 3) := by decide +kernel
theorem px_d356_22 : decode prog_1_method_2_code 22 = .ok (.athrow, 1) := by decide +kernel
theorem px_d356_23 : decode prog_1_method_2_code 23 = .ok (.aload_n 0, 1) := by decide +kernel
theorem px_d356_24 : decode prog_1_method_2_code 24 = .ok (.getfield 13, 3) := by decide +kernel
theorem px_d356_27 : decode prog_1_method_2_code 27 = .ok (.bipush 20, 2) := by decide +kernel
theorem px_d356_29 : decode prog_1_method_2_code 29 = .ok (.iadd, 1) := by decide +kernel
theorem px_d356_30 : decode prog_1_method_2_code 30 = .ok (.aload_n 0, 1) := by decide +kernel
theorem px_d356_31 : decode prog_1_method_2_code 31 = .ok (.getfield 7, 3) := by decide +kernel
theorem px_d356_34 : decode prog_1_method_2_code 34 = .ok (.arraylength, 1) := by decide +kernel
theorem px_d356_35 : decode prog_1_method_2_code 35 = .ok (.if_icmp .le 21, 3) := by decide +kernel
theorem px_d356_38 : decode prog_1_method_2_code 38 = .ok (.aload_n 0, 1) := by decide +kernel
theorem px_d356_39 : decode prog_1_method_2_code 39 = .ok (.aload_n 0, 1) := by decide +kernel
theorem px_d356_40 : decode prog_1_method_2_code 40 = .ok (.getfield 7, 3) := by decide +kernel
theorem px_d356_43 : decode prog_1_method_2_code 43 = .ok (.iconst 2, 1) := by decide +kernel
theorem px_d356_44 : decode prog_1_method_2_code 44 = .ok (.aload_n 0, 1) := by decide +kernel
theorem px_d356_45 : decode prog_1_method_2_code 45 = .ok (.getfield 7, 3) := by decide +kernel
theorem px_d356_48 : decode prog_1_method_2_code 48 = .ok (.arraylength, 1) := by decide +kernel
theorem px_d356_49 : decode prog_1_method_2_code 49 = .ok (.imul, 1) := by decide +kernel
theorem px_d356_50 : decode prog_1_method_2_code 50 = .ok (.invokestatic 93, 3) := by decide +kernel
theorem px_d356_53 : decode prog_1_method_2_code 53 = .ok (.putfield 7, 3) := by decide +kernel
theorem px_d356_56 : decode prog_1_method_2_code 56 = .ok (.aload_n 0, 1) := by decide +kernel
theorem px_d356_57 : decode prog_1_method_2_code 57 = .ok (.iload_n 1, 1) := by decide +kernel
theorem px_d356_58 : decode prog_1_method_2_code 58 = .ok (.invokevirtual 99, 3) := by decide +kernel
theorem px_d356_61 : decode prog_1_method_2_code 61 = .ok (.aload_n 0, 1) := by decide +kernel
theorem px_d356_62 : decode prog_1_method_2_code 62 = .ok (.iload_n 2, 1) := by decide +kernel
theorem px_d356_63 : decode prog_1_method_2_code 63 = .ok (.invokevirtual 99, 3) := by decide +kernel
theorem px_d356_66 : decode prog_1_method_2_code 66 = .ok (.aload_n 0, 1) := by decide +kernel
theorem px_d356_67 : decode prog_1_method_2_code 67 = .ok (.iload_n 3, 1) := by decide +kernel
theorem px_d356_68 : decode prog_1_method_2_code 68 = .ok (.invokevirtual 99, 3) := by decide +kernel
theorem px_d356_71 : decode prog_1_method_2_code 71 = .ok (.aload_n 0, 1) := by decide +kernel
theorem px_d356_72 : decode prog_1_method_2_code 72 = .ok (.iload 4, 2) := by decide +kernel
theorem px_d356_74 : decode prog_1_method_2_code 74 = .ok (.invokevirtual 99, 3) := by decide +kernel
theorem px_d356_77 : decode prog_1_method_2_code 77 = .ok (.aload_n 0, 1) := by decide +kernel
theorem px_d356_78 : decode prog_1_method_2_code 78 = .ok (.iload 5, 2) := by decide +kernel
theorem px_d356_80 : decode prog_1_method_2_code 80 = .ok (.invokevirtual 99, 3) := by decide +kernel
theorem px_d356_83 : decode prog_1_method_2_code 83 = .ok (.return_, 1) := by decide +kernel
theorem px_d359_0 : decode method_4_code 0 = .ok (.aload_n 2, 1) := by decide +kernel
theorem px_d359_1 : decode method_4_code 1 = .ok (.iconst 0, 1) := by decide +kernel
theorem px_d359_2 : decode method_4_code 2 = .ok (.aload_n 0, 1) := by decide +kernel
theorem px_d359_3 : decode method_4_code 3 = .ok (.iload_n 1, 1) := by decide +kernel
theorem px_d359_4 : decode method_4_code 4 = .ok (.invokevirtual 15, 3) := by decide +kernel
theorem px_d359_7 : decode method_4_code 7 = .ok (.i2l, 1) := by decide +kernel
theorem px_d359_8 : decode method_4_code 8 = .ok (.lastore, 1) := by decide +kernel
theorem px_d359_9 : decode method_4_code 9 = .ok (.goto 6, 3) := by decide +kernel
theorem px_d359_12 : decode method_4_code 12 = .ok (.astore_n 3, 1) := by decide +kernel
theorem px_d359_13 : decode method_4_code 13 = .ok (.iconst 1, 1) := by decide +kernel
theorem px_d359_14 : decode method_4_code 14 = .ok (.ireturn, 1) := by decide +kernel
theorem px_d359_15 : decode method_4_code 15 = .ok (.iconst 0, 1) := by decide +kernel
theorem px_d359_16 : decode method_4_code 16 = .ok (.ireturn, 1) := by decide +kernel
theorem px_d360_0 : decode prog_1_method_3_code 0 = .ok (.iload_n 1, 1) := by decide +kernel
theorem px_d360_1 : decode prog_1_method_3_code 1 = .ok (.ifCond .lt 11, 3) := by decide +kernel
theorem px_d360_4 : decode prog_1_method_3_code 4 = .ok (.iload_n 1, 1) := by decide +kernel
theorem px_d360_5 : decode prog_1_method_3_code 5 = .ok (.aload_n 0, 1) := by decide +kernel
theorem px_d360_6 : decode prog_1_method_3_code 6 = .ok (.getfield 13, 3) := by decide +kernel
theorem px_d360_9 : decode prog_1_method_3_code 9 = .ok (.if_icmp .le 13, 3) := by decide +kernel
theorem px_d360_12 : decode prog_1_method_3_code 12 = .ok (.new 103, 3) := by decide +kernel
theorem px_d360_15 : decode prog_1_method_3_code 15 = .ok (.dup, 1) := by decide +kernel
theorem px_d360_16 : decode prog_1_method_3_code 16 = .ok (.ldc 105, 2) := by decide +kernel
theorem px_d360_18 : decode prog_1_method_3_code 18 = .ok (.invokespecial 107, 3) := by decide +kernel
theorem px_d360_21 : decode prog_1_method_3_code 21 = .ok (.athrow, 1) := by decide +kernel
theorem px_d360_22 : decode prog_1_method_3_code 22 = .ok (.aload_n 0, 1) := by decide +kernel
theorem px_d360_23 : decode prog_1_method_3_code 23 = .ok (.getfield 13, 3) := by decide +kernel
theorem px_d360_26 : decode prog_1_method_3_code 26 = .ok (.istore_n 2, 1) := by decide +kernel
theorem px_d360_27 : decode prog_1_method_3_code 27 = .ok (.aload_n 0, 1) := by decide +kernel
theorem px_d360_28 : decode prog_1_method_3_code 28 = .ok (.iload_n 1, 1) := by decide +kernel
theorem px_d360_29 : decode prog_1_method_3_code 29 = .ok (.putfield 13, 3) := by decide +kernel
theorem px_d360_32 : decode prog_1_method_3_code 32 = .ok (.iload_n 2, 1) := by decide +kernel
theorem px_d360_33 : decode prog_1_method_3_code 33 = .ok (.ireturn, 1) := by decide +kernel
