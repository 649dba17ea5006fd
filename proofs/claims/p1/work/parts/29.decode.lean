theorem px_d13_12 : decode prog_1_method_3_code 12 = .ok (.new 103, 3) := by decide +kernel
theorem px_d13_15 : decode prog_1_method_3_code 15 = .ok (.dup, 1) := by decide +kernel
theorem px_d13_16 : decode prog_1_method_3_code 16 = .ok (.ldc 105, 2) := by decide +kernel
theorem px_d13_18 : decode prog_1_method_3_code 18 = .ok (.invokespecial 107, 3) := by decide +kernel
theorem px_d13_21 : decode prog_1_method_3_code 21 = .ok (.athrow, 1) := by decide +kernel
theorem px_d43_13 : decode prog_15_method_91_code 13 = .ok (.iconst 1, 1) := by decide +kernel
theorem px_d43_14 : decode prog_15_method_91_code 14 = .ok (.goto 4, 3) := by decide +kernel
theorem px_d43_28 : decode prog_15_method_91_code 28 = .ok (.iconst 0, 1) := by decide +kernel
theorem px_d43_29 : decode prog_15_method_91_code 29 = .ok (.ireturn, 1) := by decide +kernel
theorem px_d69_0 : decode method_3_code 0 = .ok (.aload_n 0, 1) := by decide +kernel
theorem px_d69_1 : decode method_3_code 1 = .ok (.iload_n 1, 1) := by decide +kernel
theorem px_d69_2 : decode method_3_code 2 = .ok (.iload_n 2, 1) := by decide +kernel
theorem px_d69_3 : decode method_3_code 3 = .ok (.iload_n 3, 1) := by decide +kernel
theorem px_d69_4 : decode method_3_code 4 = .ok (.iload 4, 2) := by decide +kernel
theorem px_d69_6 : decode method_3_code 6 = .ok (.iload 5, 2) := by decide +kernel
theorem px_d69_8 : decode method_3_code 8 = .ok (.invokevirtual 7, 3) := by decide +kernel
theorem px_d69_11 : decode method_3_code 11 = .ok (.goto 7, 3) := by decide +kernel
theorem px_d69_18 : decode method_3_code 18 = .ok (.iconst 0, 1) := by decide +kernel
theorem px_d69_19 : decode method_3_code 19 = .ok (.ireturn, 1) := by decide +kernel
theorem px_d70_0 : decode method_4_code 0 = .ok (.aload_n 2, 1) := by decide +kernel
theorem px_d70_1 : decode method_4_code 1 = .ok (.iconst 0, 1) := by decide +kernel
theorem px_d70_2 : decode method_4_code 2 = .ok (.aload_n 0, 1) := by decide +kernel
theorem px_d70_3 : decode method_4_code 3 = .ok (.iload_n 1, 1) := by decide +kernel
theorem px_d70_4 : decode method_4_code 4 = .ok (.invokevirtual 15, 3) := by decide +kernel
theorem px_d70_7 : decode method_4_code 7 = .ok (.i2l, 1) := by decide +kernel
theorem px_d70_8 : decode method_4_code 8 = .ok (.lastore, 1) := by decide +kernel
theorem px_d70_9 : decode method_4_code 9 = .ok (.goto 6, 3) := by decide +kernel
theorem px_d70_12 : decode method_4_code 12 = .ok (.astore_n 3, 1) := by decide +kernel
theorem px_d70_13 : decode method_4_code 13 = .ok (.iconst 1, 1) := by decide +kernel
theorem px_d70_14 : decode method_4_code 14 = .ok (.ireturn, 1) := by decide +kernel
theorem px_d70_15 : decode method_4_code 15 = .ok (.iconst 0, 1) := by decide +kernel
theorem px_d70_16 : decode method_4_code 16 = .ok (.ireturn, 1) := by decide +kernel
