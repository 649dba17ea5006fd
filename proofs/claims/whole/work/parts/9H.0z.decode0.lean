theorem px_d63_0 : decode prog_15_method_18_code 0 = .ok (.iload_n 1, 1) := by decide +kernel
theorem px_d63_1 : decode prog_15_method_18_code 1 = .ok (.ifCond .ne 16, 3) := by decide +kernel
theorem px_d63_4 : decode prog_15_method_18_code 4 = .ok (.aload_n 0, 1) := by decide +kernel
theorem px_d63_5 : decode prog_15_method_18_code 5 = .ok (.getfield 184, 3) := by decide +kernel
theorem px_d63_8 : decode prog_15_method_18_code 8 = .ok (.iload 4, 2) := by decide +kernel
theorem px_d63_10 : decode prog_15_method_18_code 10 = .ok (.iload_n 3, 1) := by decide +kernel
theorem px_d63_11 : decode prog_15_method_18_code 11 = .ok (.iastore, 1) := by decide +kernel
theorem px_d63_12 : decode prog_15_method_18_code 12 = .ok (.iload 4, 2) := by decide +kernel
theorem px_d63_14 : decode prog_15_method_18_code 14 = .ok (.iconst 1, 1) := by decide +kernel
theorem px_d63_15 : decode prog_15_method_18_code 15 = .ok (.iadd, 1) := by decide +kernel
theorem px_d63_16 : decode prog_15_method_18_code 16 = .ok (.ireturn, 1) := by decide +kernel
theorem px_d63_17 : decode prog_15_method_18_code 17 = .ok (.iload 4, 2) := by decide +kernel
theorem px_d63_19 : decode prog_15_method_18_code 19 = .ok (.istore 5, 2) := by decide +kernel
theorem px_d63_21 : decode prog_15_method_18_code 21 = .ok (.iload_n 2, 1) := by decide +kernel
theorem px_d63_22 : decode prog_15_method_18_code 22 = .ok (.istore 6, 2) := by decide +kernel
theorem px_d63_24 : decode prog_15_method_18_code 24 = .ok (.iload 6, 2) := by decide +kernel
theorem px_d63_26 : decode prog_15_method_18_code 26 = .ok (.iload_n 1, 1) := by decide +kernel
theorem px_d63_27 : decode prog_15_method_18_code 27 = .ok (.iadd, 1) := by decide +kernel
theorem px_d63_28 : decode prog_15_method_18_code 28 = .ok (.bipush 12, 2) := by decide +kernel
theorem px_d63_30 : decode prog_15_method_18_code 30 = .ok (.if_icmp .gt 30, 3) := by decide +kernel
theorem px_d63_33 : decode prog_15_method_18_code 33 = .ok (.aload_n 0, 1) := by decide +kernel
theorem px_d63_34 : decode prog_15_method_18_code 34 = .ok (.iload_n 1, 1) := by decide +kernel
theorem px_d63_35 : decode prog_15_method_18_code 35 = .ok (.iconst 1, 1) := by decide +kernel
theorem px_d63_36 : decode prog_15_method_18_code 36 = .ok (.isub, 1) := by decide +kernel
theorem px_d63_37 : decode prog_15_method_18_code 37 = .ok (.iload 6, 2) := by decide +kernel
theorem px_d63_39 : decode prog_15_method_18_code 39 = .ok (.iconst 1, 1) := by decide +kernel
theorem px_d63_40 : decode prog_15_method_18_code 40 = .ok (.iadd, 1) := by decide +kernel
theorem px_d63_41 : decode prog_15_method_18_code 41 = .ok (.iload_n 3, 1) := by decide +kernel
theorem px_d63_42 : decode prog_15_method_18_code 42 = .ok (.iconst 1, 1) := by decide +kernel
theorem px_d63_43 : decode prog_15_method_18_code 43 = .ok (.iload 6, 2) := by decide +kernel
theorem px_d63_45 : decode prog_15_method_18_code 45 = .ok (.ishl, 1) := by decide +kernel
theorem px_d63_46 : decode prog_15_method_18_code 46 = .ok (.ior, 1) := by decide +kernel
theorem px_d63_47 : decode prog_15_method_18_code 47 = .ok (.iload 5, 2) := by decide +kernel
theorem px_d63_49 : decode prog_15_method_18_code 49 = .ok (.invokevirtual 228, 3) := by decide +kernel
theorem px_d63_52 : decode prog_15_method_18_code 52 = .ok (.istore 5, 2) := by decide +kernel
theorem px_d63_54 : decode prog_15_method_18_code 54 = .ok (.iinc 6 1, 3) := by decide +kernel
theorem px_d63_57 : decode prog_15_method_18_code 57 = .ok (.goto (-33), 3) := by decide +kernel
theorem px_d63_60 : decode prog_15_method_18_code 60 = .ok (.iload_n 3, 1) := by decide +kernel
theorem px_d63_61 : decode prog_15_method_18_code 61 = .ok (.ifCond .ne 33, 3) := by decide +kernel
theorem px_d63_64 : decode prog_15_method_18_code 64 = .ok (.iload 4, 2) := by decide +kernel
theorem px_d63_66 : decode prog_15_method_18_code 66 = .ok (.istore 6, 2) := by decide +kernel
theorem px_d63_68 : decode prog_15_method_18_code 68 = .ok (.iload 6, 2) := by decide +kernel
theorem px_d63_70 : decode prog_15_method_18_code 70 = .ok (.iload 5, 2) := by decide +kernel
theorem px_d63_72 : decode prog_15_method_18_code 72 = .ok (.if_icmp .ge 22, 3) := by decide +kernel
theorem px_d63_75 : decode prog_15_method_18_code 75 = .ok (.aload_n 0, 1) := by decide +kernel
theorem px_d63_76 : decode prog_15_method_18_code 76 = .ok (.getfield 187, 3) := by decide +kernel
theorem px_d63_79 : decode prog_15_method_18_code 79 = .ok (.aload_n 0, 1) := by decide +kernel
theorem px_d63_80 : decode prog_15_method_18_code 80 = .ok (.getfield 184, 3) := by decide +kernel
theorem px_d63_83 : decode prog_15_method_18_code 83 = .ok (.iload 6, 2) := by decide +kernel
theorem px_d63_85 : decode prog_15_method_18_code 85 = .ok (.iaload, 1) := by decide +kernel
theorem px_d63_86 : decode prog_15_method_18_code 86 = .ok (.iload_n 1, 1) := by decide +kernel
theorem px_d63_87 : decode prog_15_method_18_code 87 = .ok (.iastore, 1) := by decide +kernel
theorem px_d63_88 : decode prog_15_method_18_code 88 = .ok (.iinc 6 1, 3) := by decide +kernel
theorem px_d63_91 : decode prog_15_method_18_code 91 = .ok (.goto (-23), 3) := by decide +kernel
theorem px_d63_94 : decode prog_15_method_18_code 94 = .ok (.iload 5, 2) := by decide +kernel
theorem px_d63_96 : decode prog_15_method_18_code 96 = .ok (.ireturn, 1) := by decide +kernel
