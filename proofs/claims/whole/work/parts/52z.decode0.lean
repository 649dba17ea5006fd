theorem px_d246_62 : decode prog_3_method_19_code 62 = .ok (.aload_n 0, 1) := by decide +kernel
theorem px_d246_63 : decode prog_3_method_19_code 63 = .ok (.getfield 25, 3) := by decide +kernel
theorem px_d246_66 : decode prog_3_method_19_code 66 = .ok (.iconst 0, 1) := by decide +kernel
theorem px_d249_0 : decode prog_3_method_7_code 0 = .ok (.iconst 1, 1) := by decide +kernel
theorem px_d249_1 : decode prog_3_method_7_code 1 = .ok (.aload_n 0, 1) := by decide +kernel
theorem px_d249_2 : decode prog_3_method_7_code 2 = .ok (.getfield 66, 3) := by decide +kernel
theorem px_d249_5 : decode prog_3_method_7_code 5 = .ok (.ishl, 1) := by decide +kernel
theorem px_d249_6 : decode prog_3_method_7_code 6 = .ok (.iconst 1, 1) := by decide +kernel
theorem px_d249_7 : decode prog_3_method_7_code 7 = .ok (.isub, 1) := by decide +kernel
theorem px_d249_8 : decode prog_3_method_7_code 8 = .ok (.ireturn, 1) := by decide +kernel
theorem px_d251_0 : decode prog_3_method_23_code 0 = .ok (.aload_n 0, 1) := by decide +kernel
theorem px_d251_1 : decode prog_3_method_23_code 1 = .ok (.getfield 9, 3) := by decide +kernel
theorem px_d251_4 : decode prog_3_method_23_code 4 = .ok (.aload_n 0, 1) := by decide +kernel
theorem px_d251_5 : decode prog_3_method_23_code 5 = .ok (.getfield 66, 3) := by decide +kernel
theorem px_d251_8 : decode prog_3_method_23_code 8 = .ok (.aload_n 0, 1) := by decide +kernel
theorem px_d251_9 : decode prog_3_method_23_code 9 = .ok (.getfield 77, 3) := by decide +kernel
theorem px_d251_12 : decode prog_3_method_23_code 12 = .ok (.iconst 1, 1) := by decide +kernel
theorem px_d251_13 : decode prog_3_method_23_code 13 = .ok (.iadd, 1) := by decide +kernel
theorem px_d251_14 : decode prog_3_method_23_code 14 = .ok (.invokevirtual 132, 3) := by decide +kernel
theorem px_d251_17 : decode prog_3_method_23_code 17 = .ok (.istore_n 1, 1) := by decide +kernel
theorem px_d251_18 : decode prog_3_method_23_code 18 = .ok (.iconst 0, 1) := by decide +kernel
theorem px_d251_19 : decode prog_3_method_23_code 19 = .ok (.istore_n 2, 1) := by decide +kernel
theorem px_d251_20 : decode prog_3_method_23_code 20 = .ok (.aload_n 0, 1) := by decide +kernel
theorem px_d251_21 : decode prog_3_method_23_code 21 = .ok (.getfield 9, 3) := by decide +kernel
theorem px_d251_24 : decode prog_3_method_23_code 24 = .ok (.aload_n 0, 1) := by decide +kernel
theorem px_d251_25 : decode prog_3_method_23_code 25 = .ok (.getfield 66, 3) := by decide +kernel
theorem px_d251_28 : decode prog_3_method_23_code 28 = .ok (.aload_n 0, 1) := by decide +kernel
theorem px_d251_29 : decode prog_3_method_23_code 29 = .ok (.getfield 77, 3) := by decide +kernel
theorem px_d251_32 : decode prog_3_method_23_code 32 = .ok (.invokevirtual 132, 3) := by decide +kernel
theorem px_d251_35 : decode prog_3_method_23_code 35 = .ok (.istore_n 3, 1) := by decide +kernel
theorem px_d251_36 : decode prog_3_method_23_code 36 = .ok (.iload_n 3, 1) := by decide +kernel
theorem px_d251_37 : decode prog_3_method_23_code 37 = .ok (.iload_n 1, 1) := by decide +kernel
theorem px_d251_38 : decode prog_3_method_23_code 38 = .ok (.if_icmp .ge 31, 3) := by decide +kernel
theorem px_d251_41 : decode prog_3_method_23_code 41 = .ok (.iload_n 2, 1) := by decide +kernel
theorem px_d251_42 : decode prog_3_method_23_code 42 = .ok (.ifCond .ne 27, 3) := by decide +kernel
theorem px_d251_45 : decode prog_3_method_23_code 45 = .ok (.aload_n 0, 1) := by decide +kernel
theorem px_d251_46 : decode prog_3_method_23_code 46 = .ok (.getfield 36, 3) := by decide +kernel
theorem px_d251_49 : decode prog_3_method_23_code 49 = .ok (.aload_n 0, 1) := by decide +kernel
theorem px_d251_50 : decode prog_3_method_23_code 50 = .ok (.getfield 9, 3) := by decide +kernel
theorem px_d251_53 : decode prog_3_method_23_code 53 = .ok (.aload_n 0, 1) := by decide +kernel
theorem px_d251_54 : decode prog_3_method_23_code 54 = .ok (.getfield 66, 3) := by decide +kernel
theorem px_d251_57 : decode prog_3_method_23_code 57 = .ok (.iload_n 3, 1) := by decide +kernel
theorem px_d251_58 : decode prog_3_method_23_code 58 = .ok (.invokevirtual 137, 3) := by decide +kernel
theorem px_d251_61 : decode prog_3_method_23_code 61 = .ok (.baload, 1) := by decide +kernel
theorem px_d251_62 : decode prog_3_method_23_code 62 = .ok (.istore_n 2, 1) := by decide +kernel
theorem px_d251_63 : decode prog_3_method_23_code 63 = .ok (.iinc 3 1, 3) := by decide +kernel
theorem px_d251_66 : decode prog_3_method_23_code 66 = .ok (.goto (-30), 3) := by decide +kernel
theorem px_d251_69 : decode prog_3_method_23_code 69 = .ok (.iconst 0, 1) := by decide +kernel
theorem px_d251_70 : decode prog_3_method_23_code 70 = .ok (.istore_n 3, 1) := by decide +kernel
theorem px_d251_71 : decode prog_3_method_23_code 71 = .ok (.iload_n 3, 1) := by decide +kernel
theorem px_d251_72 : decode prog_3_method_23_code 72 = .ok (.aload_n 0, 1) := by decide +kernel
theorem px_d251_73 : decode prog_3_method_23_code 73 = .ok (.invokevirtual 67, 3) := by decide +kernel
theorem px_d251_76 : decode prog_3_method_23_code 76 = .ok (.if_icmp .gt 43, 3) := by decide +kernel
theorem px_d251_79 : decode prog_3_method_23_code 79 = .ok (.aload_n 0, 1) := by decide +kernel
theorem px_d251_80 : decode prog_3_method_23_code 80 = .ok (.getfield 36, 3) := by decide +kernel
theorem px_d251_83 : decode prog_3_method_23_code 83 = .ok (.iload_n 3, 1) := by decide +kernel
theorem px_d251_84 : decode prog_3_method_23_code 84 = .ok (.aload_n 0, 1) := by decide +kernel
theorem px_d251_85 : decode prog_3_method_23_code 85 = .ok (.getfield 88, 3) := by decide +kernel
theorem px_d251_88 : decode prog_3_method_23_code 88 = .ok (.ifCond .ne 14, 3) := by decide +kernel
theorem px_d251_91 : decode prog_3_method_23_code 91 = .ok (.iload_n 2, 1) := by decide +kernel
theorem px_d251_92 : decode prog_3_method_23_code 92 = .ok (.aload_n 0, 1) := by decide +kernel
theorem px_d251_93 : decode prog_3_method_23_code 93 = .ok (.getfield 36, 3) := by decide +kernel
theorem px_d251_96 : decode prog_3_method_23_code 96 = .ok (.iload_n 3, 1) := by decide +kernel
theorem px_d251_97 : decode prog_3_method_23_code 97 = .ok (.baload, 1) := by decide +kernel
theorem px_d251_98 : decode prog_3_method_23_code 98 = .ok (.imul, 1) := by decide +kernel
theorem px_d251_99 : decode prog_3_method_23_code 99 = .ok (.goto 12, 3) := by decide +kernel
theorem px_d251_102 : decode prog_3_method_23_code 102 = .ok (.aload_n 0, 1) := by decide +kernel
theorem px_d251_103 : decode prog_3_method_23_code 103 = .ok (.getfield 36, 3) := by decide +kernel
theorem px_d251_106 : decode prog_3_method_23_code 106 = .ok (.iload_n 3, 1) := by decide +kernel
theorem px_d251_107 : decode prog_3_method_23_code 107 = .ok (.baload, 1) := by decide +kernel
theorem px_d251_108 : decode prog_3_method_23_code 108 = .ok (.invokestatic 170, 3) := by decide +kernel
theorem px_d251_111 : decode prog_3_method_23_code 111 = .ok (.i2b, 1) := by decide +kernel
theorem px_d251_112 : decode prog_3_method_23_code 112 = .ok (.bastore, 1) := by decide +kernel
theorem px_d251_113 : decode prog_3_method_23_code 113 = .ok (.iinc 3 1, 3) := by decide +kernel
theorem px_d251_116 : decode prog_3_method_23_code 116 = .ok (.goto (-45), 3) := by decide +kernel
theorem px_d251_119 : decode prog_3_method_23_code 119 = .ok (.return_, 1) := by decide +kernel
theorem px_d261_0 : decode prog_3_method_12_code 0 = .ok (.iload_n 1, 1) := by decide +kernel
theorem px_d261_1 : decode prog_3_method_12_code 1 = .ok (.istore_n 3, 1) := by decide +kernel
theorem px_d261_2 : decode prog_3_method_12_code 2 = .ok (.iconst 0, 1) := by decide +kernel
theorem px_d261_3 : decode prog_3_method_12_code 3 = .ok (.istore 4, 2) := by decide +kernel
theorem px_d261_5 : decode prog_3_method_12_code 5 = .ok (.iload 4, 2) := by decide +kernel
theorem px_d261_7 : decode prog_3_method_12_code 7 = .ok (.aload_n 0, 1) := by decide +kernel
theorem px_d261_8 : decode prog_3_method_12_code 8 = .ok (.getfield 66, 3) := by decide +kernel
theorem px_d261_11 : decode prog_3_method_12_code 11 = .ok (.if_icmp .ge 38, 3) := by decide +kernel
theorem px_d261_14 : decode prog_3_method_12_code 14 = .ok (.iload_n 2, 1) := by decide +kernel
theorem px_d261_15 : decode prog_3_method_12_code 15 = .ok (.iconst 1, 1) := by decide +kernel
theorem px_d261_16 : decode prog_3_method_12_code 16 = .ok (.iload 4, 2) := by decide +kernel
theorem px_d261_18 : decode prog_3_method_12_code 18 = .ok (.ishl, 1) := by decide +kernel
theorem px_d261_19 : decode prog_3_method_12_code 19 = .ok (.iand, 1) := by decide +kernel
theorem px_d261_20 : decode prog_3_method_12_code 20 = .ok (.istore 5, 2) := by decide +kernel
theorem px_d261_22 : decode prog_3_method_12_code 22 = .ok (.aload_n 0, 1) := by decide +kernel
theorem px_d261_23 : decode prog_3_method_12_code 23 = .ok (.iload_n 3, 1) := by decide +kernel
theorem px_d261_24 : decode prog_3_method_12_code 24 = .ok (.iload 5, 2) := by decide +kernel
theorem px_d261_26 : decode prog_3_method_12_code 26 = .ok (.ior, 1) := by decide +kernel
theorem px_d261_27 : decode prog_3_method_12_code 27 = .ok (.invokevirtual 110, 3) := by decide +kernel
theorem px_d261_30 : decode prog_3_method_12_code 30 = .ok (.aload_n 0, 1) := by decide +kernel
theorem px_d261_31 : decode prog_3_method_12_code 31 = .ok (.iload_n 3, 1) := by decide +kernel
theorem px_d261_32 : decode prog_3_method_12_code 32 = .ok (.invokevirtual 110, 3) := by decide +kernel
theorem px_d261_35 : decode prog_3_method_12_code 35 = .ok (.if_icmp .le 8, 3) := by decide +kernel
theorem px_d261_38 : decode prog_3_method_12_code 38 = .ok (.iload_n 3, 1) := by decide +kernel
theorem px_d261_39 : decode prog_3_method_12_code 39 = .ok (.iload 5, 2) := by decide +kernel
theorem px_d261_41 : decode prog_3_method_12_code 41 = .ok (.ior, 1) := by decide +kernel
theorem px_d261_42 : decode prog_3_method_12_code 42 = .ok (.istore_n 3, 1) := by decide +kernel
theorem px_d261_43 : decode prog_3_method_12_code 43 = .ok (.iinc 4 1, 3) := by decide +kernel
theorem px_d261_46 : decode prog_3_method_12_code 46 = .ok (.goto (-41), 3) := by decide +kernel
theorem px_d261_49 : decode prog_3_method_12_code 49 = .ok (.iload_n 3, 1) := by decide +kernel
theorem px_d261_50 : decode prog_3_method_12_code 50 = .ok (.iload_n 2, 1) := by decide +kernel
theorem px_d261_51 : decode prog_3_method_12_code 51 = .ok (.iand, 1) := by decide +kernel
theorem px_d261_52 : decode prog_3_method_12_code 52 = .ok (.ireturn, 1) := by decide +kernel
theorem px_d262_0 : decode prog_3_method_9_code 0 = .ok (.aload_n 0, 1) := by decide +kernel
theorem px_d262_1 : decode prog_3_method_9_code 1 = .ok (.getfield 103, 3) := by decide +kernel
theorem px_d262_4 : decode prog_3_method_9_code 4 = .ok (.ifCond .ne 7, 3) := by decide +kernel
theorem px_d262_7 : decode prog_3_method_9_code 7 = .ok (.aload_n 0, 1) := by decide +kernel
theorem px_d262_8 : decode prog_3_method_9_code 8 = .ok (.invokevirtual 107, 3) := by decide +kernel
theorem px_d262_11 : decode prog_3_method_9_code 11 = .ok (.aload_n 0, 1) := by decide +kernel
theorem px_d262_12 : decode prog_3_method_9_code 12 = .ok (.getfield 40, 3) := by decide +kernel
theorem px_d262_15 : decode prog_3_method_9_code 15 = .ok (.iload_n 1, 1) := by decide +kernel
theorem px_d262_16 : decode prog_3_method_9_code 16 = .ok (.baload, 1) := by decide +kernel
theorem px_d262_17 : decode prog_3_method_9_code 17 = .ok (.ireturn, 1) := by decide +kernel
theorem px_d263_0 : decode prog_3_method_24_code 0 = .ok (.iconst 1, 1) := by decide +kernel
theorem px_d263_1 : decode prog_3_method_24_code 1 = .ok (.aload_n 0, 1) := by decide +kernel
theorem px_d263_2 : decode prog_3_method_24_code 2 = .ok (.getfield 66, 3) := by decide +kernel
theorem px_d263_5 : decode prog_3_method_24_code 5 = .ok (.ishl, 1) := by decide +kernel
theorem px_d263_6 : decode prog_3_method_24_code 6 = .ok (.istore_n 1, 1) := by decide +kernel
theorem px_d263_7 : decode prog_3_method_24_code 7 = .ok (.aload_n 0, 1) := by decide +kernel
theorem px_d263_8 : decode prog_3_method_24_code 8 = .ok (.getfield 40, 3) := by decide +kernel
theorem px_d263_11 : decode prog_3_method_24_code 11 = .ok (.arraylength, 1) := by decide +kernel
theorem px_d263_12 : decode prog_3_method_24_code 12 = .ok (.iload_n 1, 1) := by decide +kernel
theorem px_d263_13 : decode prog_3_method_24_code 13 = .ok (.if_icmp .ge 10, 3) := by decide +kernel
theorem px_d263_16 : decode prog_3_method_24_code 16 = .ok (.aload_n 0, 1) := by decide +kernel
theorem px_d263_17 : decode prog_3_method_24_code 17 = .ok (.iload_n 1, 1) := by decide +kernel
theorem px_d263_18 : decode prog_3_method_24_code 18 = .ok (.newarray .byte, 2) := by decide +kernel
theorem px_d263_20 : decode prog_3_method_24_code 20 = .ok (.putfield 40, 3) := by decide +kernel
theorem px_d263_23 : decode prog_3_method_24_code 23 = .ok (.iconst 0, 1) := by decide +kernel
theorem px_d263_24 : decode prog_3_method_24_code 24 = .ok (.istore_n 2, 1) := by decide +kernel
theorem px_d263_25 : decode prog_3_method_24_code 25 = .ok (.iload_n 2, 1) := by decide +kernel
theorem px_d263_26 : decode prog_3_method_24_code 26 = .ok (.iload_n 1, 1) := by decide +kernel
theorem px_d263_27 : decode prog_3_method_24_code 27 = .ok (.if_icmp .ge 30, 3) := by decide +kernel
theorem px_d263_30 : decode prog_3_method_24_code 30 = .ok (.aload_n 0, 1) := by decide +kernel
theorem px_d263_31 : decode prog_3_method_24_code 31 = .ok (.getfield 40, 3) := by decide +kernel
theorem px_d263_34 : decode prog_3_method_24_code 34 = .ok (.iload_n 2, 1) := by decide +kernel
theorem px_d263_35 : decode prog_3_method_24_code 35 = .ok (.aload_n 0, 1) := by decide +kernel
theorem px_d263_36 : decode prog_3_method_24_code 36 = .ok (.getfield 36, 3) := by decide +kernel
theorem px_d263_39 : decode prog_3_method_24_code 39 = .ok (.iload_n 2, 1) := by decide +kernel
theorem px_d263_40 : decode prog_3_method_24_code 40 = .ok (.baload, 1) := by decide +kernel
theorem px_d263_41 : decode prog_3_method_24_code 41 = .ok (.ifCond .ne 7, 3) := by decide +kernel
theorem px_d263_44 : decode prog_3_method_24_code 44 = .ok (.iconst 0, 1) := by decide +kernel
theorem px_d263_45 : decode prog_3_method_24_code 45 = .ok (.goto 4, 3) := by decide +kernel
theorem px_d263_48 : decode prog_3_method_24_code 48 = .ok (.iconst 1, 1) := by decide +kernel
theorem px_d263_49 : decode prog_3_method_24_code 49 = .ok (.i2b, 1) := by decide +kernel
theorem px_d263_50 : decode prog_3_method_24_code 50 = .ok (.bastore, 1) := by decide +kernel
theorem px_d263_51 : decode prog_3_method_24_code 51 = .ok (.iinc 2 1, 3) := by decide +kernel
theorem px_d263_54 : decode prog_3_method_24_code 54 = .ok (.goto (-29), 3) := by decide +kernel
theorem px_d263_57 : decode prog_3_method_24_code 57 = .ok (.iconst 0, 1) := by decide +kernel
theorem px_d263_58 : decode prog_3_method_24_code 58 = .ok (.istore_n 2, 1) := by decide +kernel
theorem px_d263_59 : decode prog_3_method_24_code 59 = .ok (.iload_n 2, 1) := by decide +kernel
theorem px_d263_60 : decode prog_3_method_24_code 60 = .ok (.aload_n 0, 1) := by decide +kernel
theorem px_d263_61 : decode prog_3_method_24_code 61 = .ok (.getfield 66, 3) := by decide +kernel
theorem px_d263_64 : decode prog_3_method_24_code 64 = .ok (.if_icmp .ge 42, 3) := by decide +kernel
theorem px_d263_67 : decode prog_3_method_24_code 67 = .ok (.iconst 0, 1) := by decide +kernel
theorem px_d263_68 : decode prog_3_method_24_code 68 = .ok (.istore_n 3, 1) := by decide +kernel
theorem px_d263_69 : decode prog_3_method_24_code 69 = .ok (.iload_n 3, 1) := by decide +kernel
theorem px_d263_70 : decode prog_3_method_24_code 70 = .ok (.iload_n 1, 1) := by decide +kernel
theorem px_d263_71 : decode prog_3_method_24_code 71 = .ok (.if_icmp .ge 29, 3) := by decide +kernel
theorem px_d263_74 : decode prog_3_method_24_code 74 = .ok (.aload_n 0, 1) := by decide +kernel
theorem px_d263_75 : decode prog_3_method_24_code 75 = .ok (.getfield 40, 3) := by decide +kernel
theorem px_d263_78 : decode prog_3_method_24_code 78 = .ok (.iload_n 3, 1) := by decide +kernel
theorem px_d263_79 : decode prog_3_method_24_code 79 = .ok (.dup2, 1) := by decide +kernel
theorem px_d263_80 : decode prog_3_method_24_code 80 = .ok (.baload, 1) := by decide +kernel
theorem px_d263_81 : decode prog_3_method_24_code 81 = .ok (.aload_n 0, 1) := by decide +kernel
theorem px_d263_82 : decode prog_3_method_24_code 82 = .ok (.getfield 40, 3) := by decide +kernel
theorem px_d263_85 : decode prog_3_method_24_code 85 = .ok (.iload_n 3, 1) := by decide +kernel
theorem px_d263_86 : decode prog_3_method_24_code 86 = .ok (.iconst 1, 1) := by decide +kernel
theorem px_d263_87 : decode prog_3_method_24_code 87 = .ok (.iload_n 2, 1) := by decide +kernel
theorem px_d263_88 : decode prog_3_method_24_code 88 = .ok (.ishl, 1) := by decide +kernel
theorem px_d263_89 : decode prog_3_method_24_code 89 = .ok (.ior, 1) := by decide +kernel
theorem px_d263_90 : decode prog_3_method_24_code 90 = .ok (.baload, 1) := by decide +kernel
theorem px_d263_91 : decode prog_3_method_24_code 91 = .ok (.ior, 1) := by decide +kernel
theorem px_d263_92 : decode prog_3_method_24_code 92 = .ok (.i2b, 1) := by decide +kernel
theorem px_d263_93 : decode prog_3_method_24_code 93 = .ok (.bastore, 1) := by decide +kernel
theorem px_d263_94 : decode prog_3_method_24_code 94 = .ok (.iinc 3 1, 3) := by decide +kernel
theorem px_d263_97 : decode prog_3_method_24_code 97 = .ok (.goto (-28), 3) := by decide +kernel
theorem px_d263_100 : decode prog_3_method_24_code 100 = .ok (.iinc 2 1, 3) := by decide +kernel
theorem px_d263_103 : decode prog_3_method_24_code 103 = .ok (.goto (-44), 3) := by decide +kernel
theorem px_d263_106 : decode prog_3_method_24_code 106 = .ok (.iconst 0, 1) := by decide +kernel
theorem px_d263_107 : decode prog_3_method_24_code 107 = .ok (.istore_n 2, 1) := by decide +kernel
theorem px_d263_108 : decode prog_3_method_24_code 108 = .ok (.iload_n 2, 1) := by decide +kernel
theorem px_d263_109 : decode prog_3_method_24_code 109 = .ok (.iload_n 1, 1) := by decide +kernel
theorem px_d263_110 : decode prog_3_method_24_code 110 = .ok (.if_icmp .ge 27, 3) := by decide +kernel
theorem px_d263_113 : decode prog_3_method_24_code 113 = .ok (.aload_n 0, 1) := by decide +kernel
theorem px_d263_114 : decode prog_3_method_24_code 114 = .ok (.getfield 40, 3) := by decide +kernel
theorem px_d263_117 : decode prog_3_method_24_code 117 = .ok (.iload_n 2, 1) := by decide +kernel
theorem px_d263_118 : decode prog_3_method_24_code 118 = .ok (.aload_n 0, 1) := by decide +kernel
theorem px_d263_119 : decode prog_3_method_24_code 119 = .ok (.getfield 40, 3) := by decide +kernel
theorem px_d263_122 : decode prog_3_method_24_code 122 = .ok (.iload_n 2, 1) := by decide +kernel
theorem px_d263_123 : decode prog_3_method_24_code 123 = .ok (.baload, 1) := by decide +kernel
theorem px_d263_124 : decode prog_3_method_24_code 124 = .ok (.iload_n 2, 1) := by decide +kernel
theorem px_d263_125 : decode prog_3_method_24_code 125 = .ok (.invokestatic 71, 3) := by decide +kernel
theorem px_d263_128 : decode prog_3_method_24_code 128 = .ok (.imul, 1) := by decide +kernel
theorem px_d263_129 : decode prog_3_method_24_code 129 = .ok (.i2b, 1) := by decide +kernel
theorem px_d263_130 : decode prog_3_method_24_code 130 = .ok (.bastore, 1) := by decide +kernel
theorem px_d263_131 : decode prog_3_method_24_code 131 = .ok (.iinc 2 1, 3) := by decide +kernel
theorem px_d263_134 : decode prog_3_method_24_code 134 = .ok (.goto (-26), 3) := by decide +kernel
theorem px_d263_137 : decode prog_3_method_24_code 137 = .ok (.iconst 0, 1) := by decide +kernel
theorem px_d263_138 : decode prog_3_method_24_code 138 = .ok (.istore_n 2, 1) := by decide +kernel
theorem px_d263_139 : decode prog_3_method_24_code 139 = .ok (.iload_n 2, 1) := by decide +kernel
theorem px_d263_140 : decode prog_3_method_24_code 140 = .ok (.aload_n 0, 1) := by decide +kernel
theorem px_d263_141 : decode prog_3_method_24_code 141 = .ok (.getfield 66, 3) := by decide +kernel
theorem px_d263_144 : decode prog_3_method_24_code 144 = .ok (.if_icmp .ge 50, 3) := by decide +kernel
theorem px_d263_147 : decode prog_3_method_24_code 147 = .ok (.iconst 0, 1) := by decide +kernel
theorem px_d263_148 : decode prog_3_method_24_code 148 = .ok (.istore_n 3, 1) := by decide +kernel
theorem px_d263_149 : decode prog_3_method_24_code 149 = .ok (.iload_n 3, 1) := by decide +kernel
theorem px_d263_150 : decode prog_3_method_24_code 150 = .ok (.iload_n 1, 1) := by decide +kernel
theorem px_d263_151 : decode prog_3_method_24_code 151 = .ok (.if_icmp .ge 37, 3) := by decide +kernel
theorem px_d263_154 : decode prog_3_method_24_code 154 = .ok (.aload_n 0, 1) := by decide +kernel
theorem px_d263_155 : decode prog_3_method_24_code 155 = .ok (.getfield 40, 3) := by decide +kernel
theorem px_d263_158 : decode prog_3_method_24_code 158 = .ok (.iload_n 3, 1) := by decide +kernel
theorem px_d263_159 : decode prog_3_method_24_code 159 = .ok (.aload_n 0, 1) := by decide +kernel
theorem px_d263_160 : decode prog_3_method_24_code 160 = .ok (.getfield 40, 3) := by decide +kernel
theorem px_d263_163 : decode prog_3_method_24_code 163 = .ok (.iload_n 3, 1) := by decide +kernel
theorem px_d263_164 : decode prog_3_method_24_code 164 = .ok (.baload, 1) := by decide +kernel
theorem px_d263_165 : decode prog_3_method_24_code 165 = .ok (.aload_n 0, 1) := by decide +kernel
theorem px_d263_166 : decode prog_3_method_24_code 166 = .ok (.getfield 40, 3) := by decide +kernel
theorem px_d263_169 : decode prog_3_method_24_code 169 = .ok (.iload_n 3, 1) := by decide +kernel
theorem px_d263_170 : decode prog_3_method_24_code 170 = .ok (.iconst 1, 1) := by decide +kernel
theorem px_d263_171 : decode prog_3_method_24_code 171 = .ok (.iload_n 2, 1) := by decide +kernel
theorem px_d263_172 : decode prog_3_method_24_code 172 = .ok (.ishl, 1) := by decide +kernel
theorem px_d263_173 : decode prog_3_method_24_code 173 = .ok (.iconst (-1), 1) := by decide +kernel
theorem px_d263_174 : decode prog_3_method_24_code 174 = .ok (.ixor, 1) := by decide +kernel
theorem px_d263_175 : decode prog_3_method_24_code 175 = .ok (.iand, 1) := by decide +kernel
theorem px_d263_176 : decode prog_3_method_24_code 176 = .ok (.baload, 1) := by decide +kernel
theorem px_d263_177 : decode prog_3_method_24_code 177 = .ok (.invokestatic 173, 3) := by decide +kernel
theorem px_d263_180 : decode prog_3_method_24_code 180 = .ok (.i2b, 1) := by decide +kernel
theorem px_d263_181 : decode prog_3_method_24_code 181 = .ok (.bastore, 1) := by decide +kernel
theorem px_d263_182 : decode prog_3_method_24_code 182 = .ok (.iinc 3 1, 3) := by decide +kernel
theorem px_d263_185 : decode prog_3_method_24_code 185 = .ok (.goto (-36), 3) := by decide +kernel
theorem px_d263_188 : decode prog_3_method_24_code 188 = .ok (.iinc 2 1, 3) := by decide +kernel
theorem px_d263_191 : decode prog_3_method_24_code 191 = .ok (.goto (-52), 3) := by decide +kernel
theorem px_d263_194 : decode prog_3_method_24_code 194 = .ok (.aload_n 0, 1) := by decide +kernel
theorem px_d263_195 : decode prog_3_method_24_code 195 = .ok (.iconst 1, 1) := by decide +kernel
theorem px_d263_196 : decode prog_3_method_24_code 196 = .ok (.putfield 103, 3) := by decide +kernel
theorem px_d263_199 : decode prog_3_method_24_code 199 = .ok (.return_, 1) := by decide +kernel
theorem px_d265_0 : decode prog_3_method_22_code 0 = .ok (.iconst 0, 1) := by decide +kernel
theorem px_d265_1 : decode prog_3_method_22_code 1 = .ok (.istore_n 3, 1) := by decide +kernel
theorem px_d265_2 : decode prog_3_method_22_code 2 = .ok (.iconst 0, 1) := by decide +kernel
theorem px_d265_3 : decode prog_3_method_22_code 3 = .ok (.istore 4, 2) := by decide +kernel
theorem px_d265_5 : decode prog_3_method_22_code 5 = .ok (.iload 4, 2) := by decide +kernel
theorem px_d265_7 : decode prog_3_method_22_code 7 = .ok (.bipush 12, 2) := by decide +kernel
theorem px_d265_9 : decode prog_3_method_22_code 9 = .ok (.if_icmp .ge 28, 3) := by decide +kernel
theorem px_d265_12 : decode prog_3_method_22_code 12 = .ok (.iload_n 2, 1) := by decide +kernel
theorem px_d265_13 : decode prog_3_method_22_code 13 = .ok (.iload 4, 2) := by decide +kernel
theorem px_d265_15 : decode prog_3_method_22_code 15 = .ok (.ishr, 1) := by decide +kernel
theorem px_d265_16 : decode prog_3_method_22_code 16 = .ok (.iconst 1, 1) := by decide +kernel
theorem px_d265_17 : decode prog_3_method_22_code 17 = .ok (.iand, 1) := by decide +kernel
theorem px_d265_18 : decode prog_3_method_22_code 18 = .ok (.ifCond .eq 13, 3) := by decide +kernel
theorem px_d265_21 : decode prog_3_method_22_code 21 = .ok (.iload_n 3, 1) := by decide +kernel
theorem px_d265_22 : decode prog_3_method_22_code 22 = .ok (.iload_n 1, 1) := by decide +kernel
theorem px_d265_23 : decode prog_3_method_22_code 23 = .ok (.iload 4, 2) := by decide +kernel
theorem px_d265_25 : decode prog_3_method_22_code 25 = .ok (.ishr, 1) := by decide +kernel
theorem px_d265_26 : decode prog_3_method_22_code 26 = .ok (.invokestatic 71, 3) := by decide +kernel
theorem px_d265_29 : decode prog_3_method_22_code 29 = .ok (.iadd, 1) := by decide +kernel
theorem px_d265_30 : decode prog_3_method_22_code 30 = .ok (.istore_n 3, 1) := by decide +kernel
theorem px_d265_31 : decode prog_3_method_22_code 31 = .ok (.iinc 4 1, 3) := by decide +kernel
theorem px_d265_34 : decode prog_3_method_22_code 34 = .ok (.goto (-29), 3) := by decide +kernel
theorem px_d265_37 : decode prog_3_method_22_code 37 = .ok (.iload_n 3, 1) := by decide +kernel
theorem px_d265_38 : decode prog_3_method_22_code 38 = .ok (.iconst 1, 1) := by decide +kernel
theorem px_d265_39 : decode prog_3_method_22_code 39 = .ok (.iand, 1) := by decide +kernel
theorem px_d265_40 : decode prog_3_method_22_code 40 = .ok (.ifCond .eq 7, 3) := by decide +kernel
theorem px_d265_43 : decode prog_3_method_22_code 43 = .ok (.iconst 1, 1) := by decide +kernel
theorem px_d265_44 : decode prog_3_method_22_code 44 = .ok (.goto 4, 3) := by decide +kernel
theorem px_d265_47 : decode prog_3_method_22_code 47 = .ok (.iconst 0, 1) := by decide +kernel
theorem px_d265_48 : decode prog_3_method_22_code 48 = .ok (.ireturn, 1) := by decide +kernel
theorem px_d274_0 : decode prog_3_method_26_code 0 = .ok (.aload_n 0, 1) := by decide +kernel
theorem px_d274_1 : decode prog_3_method_26_code 1 = .ok (.invokevirtual 67, 3) := by decide +kernel
theorem px_d274_4 : decode prog_3_method_26_code 4 = .ok (.iload_n 2, 1) := by decide +kernel
theorem px_d274_5 : decode prog_3_method_26_code 5 = .ok (.ixor, 1) := by decide +kernel
theorem px_d274_6 : decode prog_3_method_26_code 6 = .ok (.istore_n 3, 1) := by decide +kernel
theorem px_d274_7 : decode prog_3_method_26_code 7 = .ok (.iload_n 1, 1) := by decide +kernel
theorem px_d274_8 : decode prog_3_method_26_code 8 = .ok (.tableswitch 78 0 2 #[28, 43, 49], 28) := by decide +kernel
theorem px_d274_36 : decode prog_3_method_26_code 36 = .ok (.aload_n 0, 1) := by decide +kernel
theorem px_d274_37 : decode prog_3_method_26_code 37 = .ok (.getfield 36, 3) := by decide +kernel
theorem px_d274_40 : decode prog_3_method_26_code 40 = .ok (.iload_n 2, 1) := by decide +kernel
theorem px_d274_41 : decode prog_3_method_26_code 41 = .ok (.baload, 1) := by decide +kernel
theorem px_d274_42 : decode prog_3_method_26_code 42 = .ok (.ifCond .eq 7, 3) := by decide +kernel
theorem px_d274_45 : decode prog_3_method_26_code 45 = .ok (.iconst 1, 1) := by decide +kernel
theorem px_d274_46 : decode prog_3_method_26_code 46 = .ok (.goto 4, 3) := by decide +kernel
theorem px_d274_49 : decode prog_3_method_26_code 49 = .ok (.iconst 0, 1) := by decide +kernel
theorem px_d274_50 : decode prog_3_method_26_code 50 = .ok (.ireturn, 1) := by decide +kernel
theorem px_d274_51 : decode prog_3_method_26_code 51 = .ok (.aload_n 0, 1) := by decide +kernel
theorem px_d274_52 : decode prog_3_method_26_code 52 = .ok (.iload_n 2, 1) := by decide +kernel
theorem px_d274_53 : decode prog_3_method_26_code 53 = .ok (.invokevirtual 183, 3) := by decide +kernel
theorem px_d274_56 : decode prog_3_method_26_code 56 = .ok (.ireturn, 1) := by decide +kernel
theorem px_d274_57 : decode prog_3_method_26_code 57 = .ok (.aload_n 0, 1) := by decide +kernel
theorem px_d274_58 : decode prog_3_method_26_code 58 = .ok (.getfield 40, 3) := by decide +kernel
theorem px_d274_61 : decode prog_3_method_26_code 61 = .ok (.iload_n 3, 1) := by decide +kernel
theorem px_d274_62 : decode prog_3_method_26_code 62 = .ok (.baload, 1) := by decide +kernel
theorem px_d274_63 : decode prog_3_method_26_code 63 = .ok (.aload_n 0, 1) := by decide +kernel
theorem px_d274_64 : decode prog_3_method_26_code 64 = .ok (.getfield 77, 3) := by decide +kernel
theorem px_d274_67 : decode prog_3_method_26_code 67 = .ok (.iconst 1, 1) := by decide +kernel
theorem px_d274_68 : decode prog_3_method_26_code 68 = .ok (.isub, 1) := by decide +kernel
theorem px_d274_69 : decode prog_3_method_26_code 69 = .ok (.if_icmp .ne 15, 3) := by decide +kernel
theorem px_d274_72 : decode prog_3_method_26_code 72 = .ok (.aload_n 0, 1) := by decide +kernel
theorem px_d274_73 : decode prog_3_method_26_code 73 = .ok (.iload_n 3, 1) := by decide +kernel
theorem px_d274_74 : decode prog_3_method_26_code 74 = .ok (.invokevirtual 187, 3) := by decide +kernel
theorem px_d274_77 : decode prog_3_method_26_code 77 = .ok (.ifCond .eq 7, 3) := by decide +kernel
theorem px_d274_80 : decode prog_3_method_26_code 80 = .ok (.iconst 1, 1) := by decide +kernel
theorem px_d274_81 : decode prog_3_method_26_code 81 = .ok (.goto 4, 3) := by decide +kernel
theorem px_d274_84 : decode prog_3_method_26_code 84 = .ok (.iconst 0, 1) := by decide +kernel
theorem px_d274_85 : decode prog_3_method_26_code 85 = .ok (.ireturn, 1) := by decide +kernel
theorem px_d274_86 : decode prog_3_method_26_code 86 = .ok (.aload_n 0, 1) := by decide +kernel
theorem px_d274_87 : decode prog_3_method_26_code 87 = .ok (.iload_n 2, 1) := by decide +kernel
theorem px_d274_88 : decode prog_3_method_26_code 88 = .ok (.invokevirtual 187, 3) := by decide +kernel
theorem px_d274_91 : decode prog_3_method_26_code 91 = .ok (.ireturn, 1) := by decide +kernel
theorem px_d275_0 : decode prog_3_method_27_code 0 = .ok (.iload_n 1, 1) := by decide +kernel
theorem px_d275_1 : decode prog_3_method_27_code 1 = .ok (.invokestatic 71, 3) := by decide +kernel
theorem px_d275_4 : decode prog_3_method_27_code 4 = .ok (.iconst 1, 1) := by decide +kernel
theorem px_d275_5 : decode prog_3_method_27_code 5 = .ok (.isub, 1) := by decide +kernel
theorem px_d275_6 : decode prog_3_method_27_code 6 = .ok (.istore_n 2, 1) := by decide +kernel
theorem px_d275_7 : decode prog_3_method_27_code 7 = .ok (.aload_n 0, 1) := by decide +kernel
theorem px_d275_8 : decode prog_3_method_27_code 8 = .ok (.getfield 40, 3) := by decide +kernel
theorem px_d275_11 : decode prog_3_method_27_code 11 = .ok (.iload_n 1, 1) := by decide +kernel
theorem px_d275_12 : decode prog_3_method_27_code 12 = .ok (.baload, 1) := by decide +kernel
theorem px_d275_13 : decode prog_3_method_27_code 13 = .ok (.iload_n 2, 1) := by decide +kernel
theorem px_d275_14 : decode prog_3_method_27_code 14 = .ok (.if_icmp .ne 7, 3) := by decide +kernel
theorem px_d275_17 : decode prog_3_method_27_code 17 = .ok (.iconst 1, 1) := by decide +kernel
theorem px_d275_18 : decode prog_3_method_27_code 18 = .ok (.goto 4, 3) := by decide +kernel
theorem px_d275_21 : decode prog_3_method_27_code 21 = .ok (.iconst 0, 1) := by decide +kernel
theorem px_d275_22 : decode prog_3_method_27_code 22 = .ok (.istore_n 3, 1) := by decide +kernel
theorem px_d275_23 : decode prog_3_method_27_code 23 = .ok (.iconst 0, 1) := by decide +kernel
theorem px_d275_24 : decode prog_3_method_27_code 24 = .ok (.istore 4, 2) := by decide +kernel
theorem px_d275_26 : decode prog_3_method_27_code 26 = .ok (.iload 4, 2) := by decide +kernel
theorem px_d275_28 : decode prog_3_method_27_code 28 = .ok (.aload_n 0, 1) := by decide +kernel
theorem px_d275_29 : decode prog_3_method_27_code 29 = .ok (.getfield 66, 3) := by decide +kernel
theorem px_d275_32 : decode prog_3_method_27_code 32 = .ok (.if_icmp .ge 43, 3) := by decide +kernel
theorem px_d275_35 : decode prog_3_method_27_code 35 = .ok (.iload_n 3, 1) := by decide +kernel
theorem px_d275_36 : decode prog_3_method_27_code 36 = .ok (.ifCond .eq 39, 3) := by decide +kernel
theorem px_d275_39 : decode prog_3_method_27_code 39 = .ok (.iload_n 1, 1) := by decide +kernel
theorem px_d275_40 : decode prog_3_method_27_code 40 = .ok (.iload 4, 2) := by decide +kernel
theorem px_d275_42 : decode prog_3_method_27_code 42 = .ok (.ishr, 1) := by decide +kernel
theorem px_d275_43 : decode prog_3_method_27_code 43 = .ok (.iconst 1, 1) := by decide +kernel
theorem px_d275_44 : decode prog_3_method_27_code 44 = .ok (.iand, 1) := by decide +kernel
theorem px_d275_45 : decode prog_3_method_27_code 45 = .ok (.ifCond .eq 18, 3) := by decide +kernel
theorem px_d275_48 : decode prog_3_method_27_code 48 = .ok (.aload_n 0, 1) := by decide +kernel
theorem px_d275_49 : decode prog_3_method_27_code 49 = .ok (.getfield 40, 3) := by decide +kernel
theorem px_d275_52 : decode prog_3_method_27_code 52 = .ok (.iload_n 1, 1) := by decide +kernel
theorem px_d275_53 : decode prog_3_method_27_code 53 = .ok (.iconst 1, 1) := by decide +kernel
theorem px_d275_54 : decode prog_3_method_27_code 54 = .ok (.iload 4, 2) := by decide +kernel
theorem px_d275_56 : decode prog_3_method_27_code 56 = .ok (.ishl, 1) := by decide +kernel
theorem px_d275_57 : decode prog_3_method_27_code 57 = .ok (.ixor, 1) := by decide +kernel
theorem px_d275_58 : decode prog_3_method_27_code 58 = .ok (.baload, 1) := by decide +kernel
theorem px_d275_59 : decode prog_3_method_27_code 59 = .ok (.iload_n 2, 1) := by decide +kernel
theorem px_d275_60 : decode prog_3_method_27_code 60 = .ok (.if_icmp .ne 7, 3) := by decide +kernel
theorem px_d275_63 : decode prog_3_method_27_code 63 = .ok (.iconst 1, 1) := by decide +kernel
theorem px_d275_64 : decode prog_3_method_27_code 64 = .ok (.goto 4, 3) := by decide +kernel
theorem px_d275_67 : decode prog_3_method_27_code 67 = .ok (.iconst 0, 1) := by decide +kernel
theorem px_d275_68 : decode prog_3_method_27_code 68 = .ok (.istore_n 3, 1) := by decide +kernel
theorem px_d275_69 : decode prog_3_method_27_code 69 = .ok (.iinc 4 1, 3) := by decide +kernel
theorem px_d275_72 : decode prog_3_method_27_code 72 = .ok (.goto (-46), 3) := by decide +kernel
theorem px_d275_75 : decode prog_3_method_27_code 75 = .ok (.iload_n 3, 1) := by decide +kernel
theorem px_d275_76 : decode prog_3_method_27_code 76 = .ok (.ireturn, 1) := by decide +kernel
theorem px_d276_0 : decode prog_3_method_28_code 0 = .ok (.iconst 1, 1) := by decide +kernel
theorem px_d276_1 : decode prog_3_method_28_code 1 = .ok (.istore_n 2, 1) := by decide +kernel
theorem px_d276_2 : decode prog_3_method_28_code 2 = .ok (.iconst 0, 1) := by decide +kernel
theorem px_d276_3 : decode prog_3_method_28_code 3 = .ok (.istore_n 3, 1) := by decide +kernel
theorem px_d276_4 : decode prog_3_method_28_code 4 = .ok (.iload_n 3, 1) := by decide +kernel
theorem px_d276_5 : decode prog_3_method_28_code 5 = .ok (.aload_n 0, 1) := by decide +kernel
theorem px_d276_6 : decode prog_3_method_28_code 6 = .ok (.getfield 66, 3) := by decide +kernel
theorem px_d276_9 : decode prog_3_method_28_code 9 = .ok (.if_icmp .ge 46, 3) := by decide +kernel
theorem px_d276_12 : decode prog_3_method_28_code 12 = .ok (.iload_n 2, 1) := by decide +kernel
theorem px_d276_13 : decode prog_3_method_28_code 13 = .ok (.ifCond .eq 42, 3) := by decide +kernel
theorem px_d276_16 : decode prog_3_method_28_code 16 = .ok (.iload_n 1, 1) := by decide +kernel
theorem px_d276_17 : decode prog_3_method_28_code 17 = .ok (.iload_n 3, 1) := by decide +kernel
theorem px_d276_18 : decode prog_3_method_28_code 18 = .ok (.ishr, 1) := by decide +kernel
theorem px_d276_19 : decode prog_3_method_28_code 19 = .ok (.iconst 1, 1) := by decide +kernel
theorem px_d276_20 : decode prog_3_method_28_code 20 = .ok (.iand, 1) := by decide +kernel
theorem px_d276_21 : decode prog_3_method_28_code 21 = .ok (.ifCond .ne 22, 3) := by decide +kernel
theorem px_d276_24 : decode prog_3_method_28_code 24 = .ok (.aload_n 0, 1) := by decide +kernel
theorem px_d276_25 : decode prog_3_method_28_code 25 = .ok (.getfield 40, 3) := by decide +kernel
theorem px_d276_28 : decode prog_3_method_28_code 28 = .ok (.iload_n 1, 1) := by decide +kernel
theorem px_d276_29 : decode prog_3_method_28_code 29 = .ok (.iconst 1, 1) := by decide +kernel
theorem px_d276_30 : decode prog_3_method_28_code 30 = .ok (.iload_n 3, 1) := by decide +kernel
theorem px_d276_31 : decode prog_3_method_28_code 31 = .ok (.ishl, 1) := by decide +kernel
theorem px_d276_32 : decode prog_3_method_28_code 32 = .ok (.ior, 1) := by decide +kernel
theorem px_d276_33 : decode prog_3_method_28_code 33 = .ok (.baload, 1) := by decide +kernel
theorem px_d276_34 : decode prog_3_method_28_code 34 = .ok (.aload_n 0, 1) := by decide +kernel
theorem px_d276_35 : decode prog_3_method_28_code 35 = .ok (.getfield 40, 3) := by decide +kernel
theorem px_d276_38 : decode prog_3_method_28_code 38 = .ok (.iload_n 1, 1) := by decide +kernel
theorem px_d276_39 : decode prog_3_method_28_code 39 = .ok (.baload, 1) := by decide +kernel
theorem px_d276_40 : decode prog_3_method_28_code 40 = .ok (.if_icmp .le 7, 3) := by decide +kernel
theorem px_d276_43 : decode prog_3_method_28_code 43 = .ok (.iconst 1, 1) := by decide +kernel
theorem px_d276_44 : decode prog_3_method_28_code 44 = .ok (.goto 4, 3) := by decide +kernel
theorem px_d276_47 : decode prog_3_method_28_code 47 = .ok (.iconst 0, 1) := by decide +kernel
theorem px_d276_48 : decode prog_3_method_28_code 48 = .ok (.istore_n 2, 1) := by decide +kernel
theorem px_d276_49 : decode prog_3_method_28_code 49 = .ok (.iinc 3 1, 3) := by decide +kernel
theorem px_d276_52 : decode prog_3_method_28_code 52 = .ok (.goto (-48), 3) := by decide +kernel
theorem px_d276_55 : decode prog_3_method_28_code 55 = .ok (.iload_n 2, 1) := by decide +kernel
theorem px_d276_56 : decode prog_3_method_28_code 56 = .ok (.ireturn, 1) := by decide +kernel
theorem px_d280_0 : decode prog_3_method_11_code 0 = .ok (.iload_n 1, 1) := by decide +kernel
theorem px_d280_1 : decode prog_3_method_11_code 1 = .ok (.ifCond .lt 28, 3) := by decide +kernel
theorem px_d280_4 : decode prog_3_method_11_code 4 = .ok (.iload_n 1, 1) := by decide +kernel
theorem px_d280_5 : decode prog_3_method_11_code 5 = .ok (.aload_n 0, 1) := by decide +kernel
theorem px_d280_6 : decode prog_3_method_11_code 6 = .ok (.getfield 77, 3) := by decide +kernel
theorem px_d280_9 : decode prog_3_method_11_code 9 = .ok (.if_icmp .gt 20, 3) := by decide +kernel
theorem px_d280_12 : decode prog_3_method_11_code 12 = .ok (.iload_n 2, 1) := by decide +kernel
theorem px_d280_13 : decode prog_3_method_11_code 13 = .ok (.ifCond .lt 16, 3) := by decide +kernel
theorem px_d280_16 : decode prog_3_method_11_code 16 = .ok (.iload_n 2, 1) := by decide +kernel
theorem px_d280_17 : decode prog_3_method_11_code 17 = .ok (.aload_n 0, 1) := by decide +kernel
theorem px_d280_18 : decode prog_3_method_11_code 18 = .ok (.getfield 66, 3) := by decide +kernel
theorem px_d280_21 : decode prog_3_method_11_code 21 = .ok (.aload_n 0, 1) := by decide +kernel
theorem px_d280_22 : decode prog_3_method_11_code 22 = .ok (.getfield 77, 3) := by decide +kernel
theorem px_d280_25 : decode prog_3_method_11_code 25 = .ok (.isub, 1) := by decide +kernel
theorem px_d280_26 : decode prog_3_method_11_code 26 = .ok (.if_icmp .le 5, 3) := by decide +kernel
theorem px_d280_29 : decode prog_3_method_11_code 29 = .ok (.lconst 0, 1) := by decide +kernel
theorem px_d280_30 : decode prog_3_method_11_code 30 = .ok (.lreturn, 1) := by decide +kernel
theorem px_d280_31 : decode prog_3_method_11_code 31 = .ok (.aload_n 0, 1) := by decide +kernel
theorem px_d280_32 : decode prog_3_method_11_code 32 = .ok (.getfield 117, 3) := by decide +kernel
theorem px_d280_35 : decode prog_3_method_11_code 35 = .ok (.ifCond .ne 7, 3) := by decide +kernel
theorem px_d280_38 : decode prog_3_method_11_code 38 = .ok (.aload_n 0, 1) := by decide +kernel
theorem px_d280_42 : decode prog_3_method_11_code 42 = .ok (.aload_n 0, 1) := by decide +kernel
theorem px_d280_43 : decode prog_3_method_11_code 43 = .ok (.getfield 43, 3) := by decide +kernel
theorem px_d280_46 : decode prog_3_method_11_code 46 = .ok (.iload_n 1, 1) := by decide +kernel
theorem px_d280_47 : decode prog_3_method_11_code 47 = .ok (.bipush 13, 2) := by decide +kernel
theorem px_d280_49 : decode prog_3_method_11_code 49 = .ok (.imul, 1) := by decide +kernel
theorem px_d280_50 : decode prog_3_method_11_code 50 = .ok (.iload_n 2, 1) := by decide +kernel
theorem px_d280_51 : decode prog_3_method_11_code 51 = .ok (.iadd, 1) := by decide +kernel
theorem px_d280_52 : decode prog_3_method_11_code 52 = .ok (.laload, 1) := by decide +kernel
theorem px_d280_53 : decode prog_3_method_11_code 53 = .ok (.lreturn, 1) := by decide +kernel
theorem px_d281_17 : decode prog_3_method_29_code 17 = .ok (.aload_n 0, 1) := by decide +kernel
theorem px_d281_18 : decode prog_3_method_29_code 18 = .ok (.getfield 43, 3) := by decide +kernel
theorem px_d281_21 : decode prog_3_method_29_code 21 = .ok (.lconst 0, 1) := by decide +kernel
theorem px_d281_27 : decode prog_3_method_29_code 27 = .ok (.iload_n 1, 1) := by decide +kernel
theorem px_d281_28 : decode prog_3_method_29_code 28 = .ok (.aload_n 0, 1) := by decide +kernel
theorem px_d281_29 : decode prog_3_method_29_code 29 = .ok (.invokevirtual 67, 3) := by decide +kernel
theorem px_d281_32 : decode prog_3_method_29_code 32 = .ok (.if_icmp .gt 40, 3) := by decide +kernel
theorem px_d281_35 : decode prog_3_method_29_code 35 = .ok (.aload_n 0, 1) := by decide +kernel
theorem px_d281_36 : decode prog_3_method_29_code 36 = .ok (.iload_n 1, 1) := by decide +kernel
theorem px_d281_37 : decode prog_3_method_29_code 37 = .ok (.invokevirtual 110, 3) := by decide +kernel
theorem px_d281_40 : decode prog_3_method_29_code 40 = .ok (.istore_n 2, 1) := by decide +kernel
theorem px_d281_41 : decode prog_3_method_29_code 41 = .ok (.aload_n 0, 1) := by decide +kernel
theorem px_d281_42 : decode prog_3_method_29_code 42 = .ok (.getfield 43, 3) := by decide +kernel
theorem px_d281_45 : decode prog_3_method_29_code 45 = .ok (.aload_n 0, 1) := by decide +kernel
theorem px_d281_46 : decode prog_3_method_29_code 46 = .ok (.getfield 77, 3) := by decide +kernel
theorem px_d281_49 : decode prog_3_method_29_code 49 = .ok (.iload_n 2, 1) := by decide +kernel
theorem px_d281_50 : decode prog_3_method_29_code 50 = .ok (.isub, 1) := by decide +kernel
theorem px_d281_51 : decode prog_3_method_29_code 51 = .ok (.bipush 13, 2) := by decide +kernel
theorem px_d281_53 : decode prog_3_method_29_code 53 = .ok (.imul, 1) := by decide +kernel
theorem px_d281_54 : decode prog_3_method_29_code 54 = .ok (.iload_n 1, 1) := by decide +kernel
theorem px_d281_55 : decode prog_3_method_29_code 55 = .ok (.invokestatic 71, 3) := by decide +kernel
theorem px_d281_58 : decode prog_3_method_29_code 58 = .ok (.iadd, 1) := by decide +kernel
theorem px_d281_59 : decode prog_3_method_29_code 59 = .ok (.iload_n 2, 1) := by decide +kernel
theorem px_d281_60 : decode prog_3_method_29_code 60 = .ok (.isub, 1) := by decide +kernel
theorem px_d281_61 : decode prog_3_method_29_code 61 = .ok (.dup2, 1) := by decide +kernel
theorem px_d281_62 : decode prog_3_method_29_code 62 = .ok (.laload, 1) := by decide +kernel
theorem px_d281_63 : decode prog_3_method_29_code 63 = .ok (.lconst 1, 1) := by decide +kernel
theorem px_d281_64 : decode prog_3_method_29_code 64 = .ok (.ladd, 1) := by decide +kernel
theorem px_d281_65 : decode prog_3_method_29_code 65 = .ok (.lastore, 1) := by decide +kernel
theorem px_d281_66 : decode prog_3_method_29_code 66 = .ok (.iinc 1 1, 3) := by decide +kernel
theorem px_d281_69 : decode prog_3_method_29_code 69 = .ok (.goto (-42), 3) := by decide +kernel
theorem px_d281_72 : decode prog_3_method_29_code 72 = .ok (.iconst 0, 1) := by decide +kernel
theorem px_d281_73 : decode prog_3_method_29_code 73 = .ok (.istore_n 1, 1) := by decide +kernel
theorem px_d281_74 : decode prog_3_method_29_code 74 = .ok (.iload_n 1, 1) := by decide +kernel
theorem px_d281_75 : decode prog_3_method_29_code 75 = .ok (.aload_n 0, 1) := by decide +kernel
theorem px_d281_76 : decode prog_3_method_29_code 76 = .ok (.getfield 66, 3) := by decide +kernel
theorem px_d281_79 : decode prog_3_method_29_code 79 = .ok (.aload_n 0, 1) := by decide +kernel
theorem px_d281_80 : decode prog_3_method_29_code 80 = .ok (.getfield 77, 3) := by decide +kernel
theorem px_d281_83 : decode prog_3_method_29_code 83 = .ok (.isub, 1) := by decide +kernel
theorem px_d281_84 : decode prog_3_method_29_code 84 = .ok (.if_icmp .gt 20, 3) := by decide +kernel
theorem px_d281_87 : decode prog_3_method_29_code 87 = .ok (.aload_n 0, 1) := by decide +kernel
theorem px_d281_88 : decode prog_3_method_29_code 88 = .ok (.iload_n 1, 1) := by decide +kernel
theorem px_d281_89 : decode prog_3_method_29_code 89 = .ok (.bipush 13, 2) := by decide +kernel
theorem px_d281_91 : decode prog_3_method_29_code 91 = .ok (.aload_n 0, 1) := by decide +kernel
theorem px_d281_92 : decode prog_3_method_29_code 92 = .ok (.getfield 77, 3) := by decide +kernel
theorem px_d281_95 : decode prog_3_method_29_code 95 = .ok (.invokevirtual 193, 3) := by decide +kernel
theorem px_d281_98 : decode prog_3_method_29_code 98 = .ok (.iinc 1 1, 3) := by decide +kernel
theorem px_d281_101 : decode prog_3_method_29_code 101 = .ok (.goto (-27), 3) := by decide +kernel
theorem px_d281_104 : decode prog_3_method_29_code 104 = .ok (.iconst 0, 1) := by decide +kernel
theorem px_d281_105 : decode prog_3_method_29_code 105 = .ok (.istore_n 1, 1) := by decide +kernel
theorem px_d281_106 : decode prog_3_method_29_code 106 = .ok (.iload_n 1, 1) := by decide +kernel
theorem px_d281_107 : decode prog_3_method_29_code 107 = .ok (.aload_n 0, 1) := by decide +kernel
theorem px_d281_108 : decode prog_3_method_29_code 108 = .ok (.getfield 77, 3) := by decide +kernel
theorem px_d281_111 : decode prog_3_method_29_code 111 = .ok (.if_icmp .gt 27, 3) := by decide +kernel
theorem px_d281_114 : decode prog_3_method_29_code 114 = .ok (.aload_n 0, 1) := by decide +kernel
theorem px_d281_115 : decode prog_3_method_29_code 115 = .ok (.iload_n 1, 1) := by decide +kernel
theorem px_d281_116 : decode prog_3_method_29_code 116 = .ok (.bipush 13, 2) := by decide +kernel
theorem px_d281_118 : decode prog_3_method_29_code 118 = .ok (.imul, 1) := by decide +kernel
theorem px_d281_119 : decode prog_3_method_29_code 119 = .ok (.iconst 1, 1) := by decide +kernel
theorem px_d281_120 : decode prog_3_method_29_code 120 = .ok (.aload_n 0, 1) := by decide +kernel
theorem px_d281_121 : decode prog_3_method_29_code 121 = .ok (.getfield 66, 3) := by decide +kernel
theorem px_d281_124 : decode prog_3_method_29_code 124 = .ok (.aload_n 0, 1) := by decide +kernel
theorem px_d281_125 : decode prog_3_method_29_code 125 = .ok (.getfield 77, 3) := by decide +kernel
theorem px_d281_128 : decode prog_3_method_29_code 128 = .ok (.isub, 1) := by decide +kernel
theorem px_d281_129 : decode prog_3_method_29_code 129 = .ok (.invokevirtual 193, 3) := by decide +kernel
theorem px_d281_132 : decode prog_3_method_29_code 132 = .ok (.iinc 1 1, 3) := by decide +kernel
theorem px_d281_135 : decode prog_3_method_29_code 135 = .ok (.goto (-29), 3) := by decide +kernel
theorem px_d281_138 : decode prog_3_method_29_code 138 = .ok (.aload_n 0, 1) := by decide +kernel
theorem px_d281_139 : decode prog_3_method_29_code 139 = .ok (.iconst 1, 1) := by decide +kernel
theorem px_d281_140 : decode prog_3_method_29_code 140 = .ok (.putfield 117, 3) := by decide +kernel
theorem px_d281_143 : decode prog_3_method_29_code 143 = .ok (.return_, 1) := by decide +kernel
theorem px_d283_0 : decode prog_3_method_30_code 0 = .ok (.iconst 0, 1) := by decide +kernel
theorem px_d283_1 : decode prog_3_method_30_code 1 = .ok (.istore 4, 2) := by decide +kernel
