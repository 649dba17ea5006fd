theorem px_d245_0 : decode prog_3_method_2_code 0 = .ok (.aload_n 0, 1) := by decide +kernel
theorem px_d245_1 : decode prog_3_method_2_code 1 = .ok (.aload_n 2, 1) := by decide +kernel
theorem px_d245_2 : decode prog_3_method_2_code 2 = .ok (.getfield 47, 3) := by decide +kernel
theorem px_d245_5 : decode prog_3_method_2_code 5 = .ok (.aload_n 2, 1) := by decide +kernel
theorem px_d245_6 : decode prog_3_method_2_code 6 = .ok (.getfield 53, 3) := by decide +kernel
theorem px_d245_9 : decode prog_3_method_2_code 9 = .ok (.aload_n 2, 1) := by decide +kernel
theorem px_d245_10 : decode prog_3_method_2_code 10 = .ok (.getfield 56, 3) := by decide +kernel
theorem px_d245_13 : decode prog_3_method_2_code 13 = .ok (.invokevirtual 59, 3) := by decide +kernel
theorem px_d245_16 : decode prog_3_method_2_code 16 = .ok (.new 15, 3) := by decide +kernel
theorem px_d245_19 : decode prog_3_method_2_code 19 = .ok (.dup, 1) := by decide +kernel
theorem px_d245_20 : decode prog_3_method_2_code 20 = .ok (.aload_n 2, 1) := by decide +kernel
theorem px_d245_21 : decode prog_3_method_2_code 21 = .ok (.iconst 0, 1) := by decide +kernel
theorem px_d245_22 : decode prog_3_method_2_code 22 = .ok (.iconst 0, 1) := by decide +kernel
theorem px_d245_23 : decode prog_3_method_2_code 23 = .ok (.invokespecial 63, 3) := by decide +kernel
theorem px_d245_26 : decode prog_3_method_2_code 26 = .ok (.astore_n 3, 1) := by decide +kernel
theorem px_d245_27 : decode prog_3_method_2_code 27 = .ok (.iconst 0, 1) := by decide +kernel
theorem px_d245_28 : decode prog_3_method_2_code 28 = .ok (.istore 4, 2) := by decide +kernel
theorem px_d245_30 : decode prog_3_method_2_code 30 = .ok (.iload 4, 2) := by decide +kernel
theorem px_d245_32 : decode prog_3_method_2_code 32 = .ok (.aload_n 0, 1) := by decide +kernel
theorem px_d245_33 : decode prog_3_method_2_code 33 = .ok (.getfield 66, 3) := by decide +kernel
theorem px_d245_36 : decode prog_3_method_2_code 36 = .ok (.if_icmp .ge 26, 3) := by decide +kernel
theorem px_d245_39 : decode prog_3_method_2_code 39 = .ok (.aload_n 0, 1) := by decide +kernel
theorem px_d245_40 : decode prog_3_method_2_code 40 = .ok (.getfield 17, 3) := by decide +kernel
theorem px_d245_43 : decode prog_3_method_2_code 43 = .ok (.iload 4, 2) := by decide +kernel
theorem px_d245_45 : decode prog_3_method_2_code 45 = .ok (.aload_n 3, 1) := by decide +kernel
theorem px_d245_46 : decode prog_3_method_2_code 46 = .ok (.aastore, 1) := by decide +kernel
theorem px_d245_47 : decode prog_3_method_2_code 47 = .ok (.aload_n 0, 1) := by decide +kernel
theorem px_d245_48 : decode prog_3_method_2_code 48 = .ok (.getfield 21, 3) := by decide +kernel
theorem px_d245_51 : decode prog_3_method_2_code 51 = .ok (.iload 4, 2) := by decide +kernel
theorem px_d245_53 : decode prog_3_method_2_code 53 = .ok (.iload 4, 2) := by decide +kernel
theorem px_d245_55 : decode prog_3_method_2_code 55 = .ok (.iastore, 1) := by decide +kernel
theorem px_d245_56 : decode prog_3_method_2_code 56 = .ok (.iinc 4 1, 3) := by decide +kernel
theorem px_d245_59 : decode prog_3_method_2_code 59 = .ok (.goto (-29), 3) := by decide +kernel
theorem px_d245_62 : decode prog_3_method_2_code 62 = .ok (.iconst 0, 1) := by decide +kernel
theorem px_d245_63 : decode prog_3_method_2_code 63 = .ok (.istore 4, 2) := by decide +kernel
theorem px_d245_65 : decode prog_3_method_2_code 65 = .ok (.iload 4, 2) := by decide +kernel
theorem px_d245_67 : decode prog_3_method_2_code 67 = .ok (.aload_n 0, 1) := by decide +kernel
theorem px_d245_68 : decode prog_3_method_2_code 68 = .ok (.invokevirtual 67, 3) := by decide +kernel
theorem px_d245_71 : decode prog_3_method_2_code 71 = .ok (.if_icmp .gt 39, 3) := by decide +kernel
theorem px_d245_74 : decode prog_3_method_2_code 74 = .ok (.aload_n 0, 1) := by decide +kernel
theorem px_d245_75 : decode prog_3_method_2_code 75 = .ok (.getfield 36, 3) := by decide +kernel
theorem px_d245_78 : decode prog_3_method_2_code 78 = .ok (.iload 4, 2) := by decide +kernel
theorem px_d245_80 : decode prog_3_method_2_code 80 = .ok (.iload 4, 2) := by decide +kernel
theorem px_d245_82 : decode prog_3_method_2_code 82 = .ok (.invokestatic 71, 3) := by decide +kernel
theorem px_d245_85 : decode prog_3_method_2_code 85 = .ok (.aload_n 0, 1) := by decide +kernel
theorem px_d245_86 : decode prog_3_method_2_code 86 = .ok (.getfield 77, 3) := by decide +kernel
theorem px_d245_89 : decode prog_3_method_2_code 89 = .ok (.if_icmp .ne 13, 3) := by decide +kernel
theorem px_d245_92 : decode prog_3_method_2_code 92 = .ok (.aload_n 1, 1) := by decide +kernel
theorem px_d245_93 : decode prog_3_method_2_code 93 = .ok (.iload 4, 2) := by decide +kernel
theorem px_d245_95 : decode prog_3_method_2_code 95 = .ok (.invokevirtual 80, 3) := by decide +kernel
theorem px_d245_98 : decode prog_3_method_2_code 98 = .ok (.i2b, 1) := by decide +kernel
theorem px_d245_99 : decode prog_3_method_2_code 99 = .ok (.goto 4, 3) := by decide +kernel
theorem px_d245_102 : decode prog_3_method_2_code 102 = .ok (.iconst 0, 1) := by decide +kernel
theorem px_d245_103 : decode prog_3_method_2_code 103 = .ok (.bastore, 1) := by decide +kernel
theorem px_d245_104 : decode prog_3_method_2_code 104 = .ok (.iinc 4 1, 3) := by decide +kernel
theorem px_d245_107 : decode prog_3_method_2_code 107 = .ok (.goto (-42), 3) := by decide +kernel
theorem px_d245_110 : decode prog_3_method_2_code 110 = .ok (.aload_n 0, 1) := by decide +kernel
theorem px_d245_111 : decode prog_3_method_2_code 111 = .ok (.invokevirtual 85, 3) := by decide +kernel
theorem px_d245_114 : decode prog_3_method_2_code 114 = .ok (.return_, 1) := by decide +kernel
theorem px_d258_27 : decode prog_3_method_3_code 27 = .ok (.invokevirtual 89, 3) := by decide +kernel
theorem px_d258_30 : decode prog_3_method_3_code 30 = .ok (.iconst 0, 1) := by decide +kernel
theorem px_d258_31 : decode prog_3_method_3_code 31 = .ok (.istore_n 2, 1) := by decide +kernel
theorem px_d259_0 : decode prog_3_method_20_code 0 = .ok (.aconst_null, 1) := by decide +kernel
theorem px_d259_1 : decode prog_3_method_20_code 1 = .ok (.astore 6, 2) := by decide +kernel
theorem px_d259_3 : decode prog_3_method_20_code 3 = .ok (.aconst_null, 1) := by decide +kernel
theorem px_d259_4 : decode prog_3_method_20_code 4 = .ok (.astore 7, 2) := by decide +kernel
theorem px_d259_6 : decode prog_3_method_20_code 6 = .ok (.iload_n 2, 1) := by decide +kernel
theorem px_d259_7 : decode prog_3_method_20_code 7 = .ok (.istore 8, 2) := by decide +kernel
theorem px_d259_9 : decode prog_3_method_20_code 9 = .ok (.iconst 0, 1) := by decide +kernel
theorem px_d259_10 : decode prog_3_method_20_code 10 = .ok (.istore 9, 2) := by decide +kernel
theorem px_d259_67 : decode prog_3_method_20_code 67 = .ok (.getfield 162, 3) := by decide +kernel
theorem px_d259_70 : decode prog_3_method_20_code 70 = .ok (.aload 6, 2) := by decide +kernel
theorem px_d259_72 : decode prog_3_method_20_code 72 = .ok (.getfield 147, 3) := by decide +kernel
theorem px_d259_75 : decode prog_3_method_20_code 75 = .ok (.aload_n 1, 1) := by decide +kernel
theorem px_d259_76 : decode prog_3_method_20_code 76 = .ok (.aload 6, 2) := by decide +kernel
theorem px_d259_78 : decode prog_3_method_20_code 78 = .ok (.iload_n 3, 1) := by decide +kernel
theorem px_d259_79 : decode prog_3_method_20_code 79 = .ok (.iload 4, 2) := by decide +kernel
theorem px_d259_81 : decode prog_3_method_20_code 81 = .ok (.invokevirtual 166, 3) := by decide +kernel
theorem px_d259_84 : decode prog_3_method_20_code 84 = .ok (.ior, 1) := by decide +kernel
theorem px_d259_85 : decode prog_3_method_20_code 85 = .ok (.aload 6, 2) := by decide +kernel
theorem px_d259_87 : decode prog_3_method_20_code 87 = .ok (.getfield 150, 3) := by decide +kernel
theorem px_d259_90 : decode prog_3_method_20_code 90 = .ok (.iload 5, 2) := by decide +kernel
theorem px_d259_92 : decode prog_3_method_20_code 92 = .ok (.if_icmp .eq 7, 3) := by decide +kernel
theorem px_d259_95 : decode prog_3_method_20_code 95 = .ok (.iconst 1, 1) := by decide +kernel
theorem px_d259_96 : decode prog_3_method_20_code 96 = .ok (.goto 4, 3) := by decide +kernel
theorem px_d259_99 : decode prog_3_method_20_code 99 = .ok (.iconst 0, 1) := by decide +kernel
theorem px_d259_100 : decode prog_3_method_20_code 100 = .ok (.invokespecial 63, 3) := by decide +kernel
theorem px_d259_103 : decode prog_3_method_20_code 103 = .ok (.astore 7, 2) := by decide +kernel
theorem px_d264_38 : decode prog_3_method_4_code 38 = .ok (.invokevirtual 89, 3) := by decide +kernel
theorem px_d264_41 : decode prog_3_method_4_code 41 = .ok (.iconst 0, 1) := by decide +kernel
theorem px_d264_42 : decode prog_3_method_4_code 42 = .ok (.istore 5, 2) := by decide +kernel
theorem px_d264_44 : decode prog_3_method_4_code 44 = .ok (.iconst 0, 1) := by decide +kernel
theorem px_d264_45 : decode prog_3_method_4_code 45 = .ok (.istore 6, 2) := by decide +kernel
theorem px_d266_22 : decode prog_3_method_6_code 22 = .ok (.invokevirtual 89, 3) := by decide +kernel
theorem px_d266_25 : decode prog_3_method_6_code 25 = .ok (.aload_n 1, 1) := by decide +kernel
theorem px_d266_26 : decode prog_3_method_6_code 26 = .ok (.getfield 25, 3) := by decide +kernel
theorem px_d266_29 : decode prog_3_method_6_code 29 = .ok (.iconst 0, 1) := by decide +kernel
theorem px_d266_30 : decode prog_3_method_6_code 30 = .ok (.aload_n 0, 1) := by decide +kernel
theorem px_d266_31 : decode prog_3_method_6_code 31 = .ok (.getfield 25, 3) := by decide +kernel
theorem px_d266_34 : decode prog_3_method_6_code 34 = .ok (.iconst 0, 1) := by decide +kernel
theorem px_d266_35 : decode prog_3_method_6_code 35 = .ok (.aload_n 0, 1) := by decide +kernel
theorem px_d266_36 : decode prog_3_method_6_code 36 = .ok (.getfield 66, 3) := by decide +kernel
theorem px_d266_39 : decode prog_3_method_6_code 39 = .ok (.invokestatic 97, 3) := by decide +kernel
theorem px_d266_42 : decode prog_3_method_6_code 42 = .ok (.aload_n 1, 1) := by decide +kernel
theorem px_d266_43 : decode prog_3_method_6_code 43 = .ok (.getfield 36, 3) := by decide +kernel
theorem px_d266_46 : decode prog_3_method_6_code 46 = .ok (.iconst 0, 1) := by decide +kernel
theorem px_d266_47 : decode prog_3_method_6_code 47 = .ok (.aload_n 0, 1) := by decide +kernel
theorem px_d266_48 : decode prog_3_method_6_code 48 = .ok (.getfield 36, 3) := by decide +kernel
theorem px_d266_51 : decode prog_3_method_6_code 51 = .ok (.iconst 0, 1) := by decide +kernel
theorem px_d266_52 : decode prog_3_method_6_code 52 = .ok (.iconst 1, 1) := by decide +kernel
theorem px_d266_53 : decode prog_3_method_6_code 53 = .ok (.aload_n 0, 1) := by decide +kernel
theorem px_d266_54 : decode prog_3_method_6_code 54 = .ok (.getfield 66, 3) := by decide +kernel
theorem px_d266_57 : decode prog_3_method_6_code 57 = .ok (.ishl, 1) := by decide +kernel
theorem px_d266_58 : decode prog_3_method_6_code 58 = .ok (.invokestatic 97, 3) := by decide +kernel
theorem px_d266_61 : decode prog_3_method_6_code 61 = .ok (.return_, 1) := by decide +kernel
theorem px_d267_32 : decode prog_3_method_5_code 32 = .ok (.invokevirtual 89, 3) := by decide +kernel
theorem px_d267_35 : decode prog_3_method_5_code 35 = .ok (.aload_n 0, 1) := by decide +kernel
theorem px_d267_36 : decode prog_3_method_5_code 36 = .ok (.aload_n 2, 1) := by decide +kernel
theorem px_d267_37 : decode prog_3_method_5_code 37 = .ok (.aload_n 1, 1) := by decide +kernel
theorem px_d267_38 : decode prog_3_method_5_code 38 = .ok (.getfield 66, 3) := by decide +kernel
theorem px_d267_41 : decode prog_3_method_5_code 41 = .ok (.iconst 0, 1) := by decide +kernel
theorem px_d267_42 : decode prog_3_method_5_code 42 = .ok (.iconst 0, 1) := by decide +kernel
theorem px_d267_43 : decode prog_3_method_5_code 43 = .ok (.iconst 0, 1) := by decide +kernel
theorem px_d267_44 : decode prog_3_method_5_code 44 = .ok (.invokevirtual 89, 3) := by decide +kernel
theorem px_d267_47 : decode prog_3_method_5_code 47 = .ok (.iconst 0, 1) := by decide +kernel
theorem px_d267_48 : decode prog_3_method_5_code 48 = .ok (.istore_n 3, 1) := by decide +kernel
theorem px_d296_0 : decode prog_13_method_2_code 0 = .ok (.aload_n 1, 1) := by decide +kernel
theorem px_d296_1 : decode prog_13_method_2_code 1 = .ok (.getfield 48, 3) := by decide +kernel
theorem px_d296_4 : decode prog_13_method_2_code 4 = .ok (.aload_n 0, 1) := by decide +kernel
theorem px_d296_5 : decode prog_13_method_2_code 5 = .ok (.getfield 41, 3) := by decide +kernel
theorem px_d296_8 : decode prog_13_method_2_code 8 = .ok (.if_icmp .ne 19, 3) := by decide +kernel
theorem px_d296_11 : decode prog_13_method_2_code 11 = .ok (.aload_n 2, 1) := by decide +kernel
theorem px_d296_12 : decode prog_13_method_2_code 12 = .ok (.getfield 48, 3) := by decide +kernel
theorem px_d296_15 : decode prog_13_method_2_code 15 = .ok (.aload_n 0, 1) := by decide +kernel
theorem px_d296_16 : decode prog_13_method_2_code 16 = .ok (.getfield 45, 3) := by decide +kernel
theorem px_d296_19 : decode prog_13_method_2_code 19 = .ok (.if_icmp .ne 8, 3) := by decide +kernel
theorem px_d296_22 : decode prog_13_method_2_code 22 = .ok (.aload_n 0, 1) := by decide +kernel
theorem px_d296_23 : decode prog_13_method_2_code 23 = .ok (.getfield 53, 3) := by decide +kernel
theorem px_d296_26 : decode prog_13_method_2_code 26 = .ok (.ireturn, 1) := by decide +kernel
theorem px_d296_27 : decode prog_13_method_2_code 27 = .ok (.aload_n 0, 1) := by decide +kernel
theorem px_d296_28 : decode prog_13_method_2_code 28 = .ok (.aload_n 1, 1) := by decide +kernel
theorem px_d296_29 : decode prog_13_method_2_code 29 = .ok (.putfield 34, 3) := by decide +kernel
theorem px_d296_32 : decode prog_13_method_2_code 32 = .ok (.aload_n 0, 1) := by decide +kernel
theorem px_d296_33 : decode prog_13_method_2_code 33 = .ok (.aload_n 2, 1) := by decide +kernel
theorem px_d296_34 : decode prog_13_method_2_code 34 = .ok (.putfield 38, 3) := by decide +kernel
theorem px_d296_37 : decode prog_13_method_2_code 37 = .ok (.aload_n 0, 1) := by decide +kernel
theorem px_d296_38 : decode prog_13_method_2_code 38 = .ok (.aload_n 0, 1) := by decide +kernel
theorem px_d296_39 : decode prog_13_method_2_code 39 = .ok (.getfield 34, 3) := by decide +kernel
theorem px_d296_42 : decode prog_13_method_2_code 42 = .ok (.getfield 48, 3) := by decide +kernel
theorem px_d296_45 : decode prog_13_method_2_code 45 = .ok (.putfield 41, 3) := by decide +kernel
theorem px_d296_48 : decode prog_13_method_2_code 48 = .ok (.aload_n 0, 1) := by decide +kernel
theorem px_d296_49 : decode prog_13_method_2_code 49 = .ok (.aload_n 0, 1) := by decide +kernel
theorem px_d296_50 : decode prog_13_method_2_code 50 = .ok (.getfield 38, 3) := by decide +kernel
theorem px_d296_53 : decode prog_13_method_2_code 53 = .ok (.getfield 48, 3) := by decide +kernel
theorem px_d296_56 : decode prog_13_method_2_code 56 = .ok (.putfield 45, 3) := by decide +kernel
theorem px_d296_59 : decode prog_13_method_2_code 59 = .ok (.aload_n 0, 1) := by decide +kernel
theorem px_d296_60 : decode prog_13_method_2_code 60 = .ok (.iconst 0, 1) := by decide +kernel
theorem px_d296_61 : decode prog_13_method_2_code 61 = .ok (.putfield 53, 3) := by decide +kernel
theorem px_d296_64 : decode prog_13_method_2_code 64 = .ok (.aload_n 0, 1) := by decide +kernel
theorem px_d296_65 : decode prog_13_method_2_code 65 = .ok (.getfield 38, 3) := by decide +kernel
theorem px_d296_68 : decode prog_13_method_2_code 68 = .ok (.getfield 57, 3) := by decide +kernel
theorem px_d296_71 : decode prog_13_method_2_code 71 = .ok (.aload_n 0, 1) := by decide +kernel
theorem px_d296_72 : decode prog_13_method_2_code 72 = .ok (.getfield 34, 3) := by decide +kernel
theorem px_d296_75 : decode prog_13_method_2_code 75 = .ok (.getfield 57, 3) := by decide +kernel
theorem px_d296_78 : decode prog_13_method_2_code 78 = .ok (.if_icmp .gt 36, 3) := by decide +kernel
theorem px_d296_81 : decode prog_13_method_2_code 81 = .ok (.aload_n 0, 1) := by decide +kernel
theorem px_d296_82 : decode prog_13_method_2_code 82 = .ok (.getfield 38, 3) := by decide +kernel
theorem px_d296_85 : decode prog_13_method_2_code 85 = .ok (.getfield 60, 3) := by decide +kernel
theorem px_d296_88 : decode prog_13_method_2_code 88 = .ok (.aload_n 0, 1) := by decide +kernel
theorem px_d296_89 : decode prog_13_method_2_code 89 = .ok (.getfield 38, 3) := by decide +kernel
theorem px_d296_92 : decode prog_13_method_2_code 92 = .ok (.getfield 57, 3) := by decide +kernel
theorem px_d296_95 : decode prog_13_method_2_code 95 = .ok (.isub, 1) := by decide +kernel
theorem px_d296_96 : decode prog_13_method_2_code 96 = .ok (.aload_n 0, 1) := by decide +kernel
theorem px_d296_97 : decode prog_13_method_2_code 97 = .ok (.getfield 34, 3) := by decide +kernel
theorem px_d296_100 : decode prog_13_method_2_code 100 = .ok (.getfield 60, 3) := by decide +kernel
theorem px_d296_103 : decode prog_13_method_2_code 103 = .ok (.aload_n 0, 1) := by decide +kernel
theorem px_d296_104 : decode prog_13_method_2_code 104 = .ok (.getfield 34, 3) := by decide +kernel
theorem px_d296_107 : decode prog_13_method_2_code 107 = .ok (.getfield 57, 3) := by decide +kernel
theorem px_d296_110 : decode prog_13_method_2_code 110 = .ok (.isub, 1) := by decide +kernel
theorem px_d296_111 : decode prog_13_method_2_code 111 = .ok (.if_icmp .le 5, 3) := by decide +kernel
theorem px_d296_114 : decode prog_13_method_2_code 114 = .ok (.iconst 0, 1) := by decide +kernel
theorem px_d296_115 : decode prog_13_method_2_code 115 = .ok (.ireturn, 1) := by decide +kernel
theorem px_d296_116 : decode prog_13_method_2_code 116 = .ok (.aload_n 0, 1) := by decide +kernel
theorem px_d296_117 : decode prog_13_method_2_code 117 = .ok (.invokevirtual 63, 3) := by decide +kernel
theorem px_d296_120 : decode prog_13_method_2_code 120 = .ok (.aload_n 0, 1) := by decide +kernel
theorem px_d296_121 : decode prog_13_method_2_code 121 = .ok (.invokevirtual 66, 3) := by decide +kernel
theorem px_d296_124 : decode prog_13_method_2_code 124 = .ok (.aload_n 0, 1) := by decide +kernel
theorem px_d296_125 : decode prog_13_method_2_code 125 = .ok (.getfield 9, 3) := by decide +kernel
theorem px_d296_128 : decode prog_13_method_2_code 128 = .ok (.aload_n 0, 1) := by decide +kernel
theorem px_d296_129 : decode prog_13_method_2_code 129 = .ok (.getfield 34, 3) := by decide +kernel
theorem px_d296_132 : decode prog_13_method_2_code 132 = .ok (.getfield 60, 3) := by decide +kernel
theorem px_d296_135 : decode prog_13_method_2_code 135 = .ok (.aload_n 0, 1) := by decide +kernel
theorem px_d296_136 : decode prog_13_method_2_code 136 = .ok (.getfield 38, 3) := by decide +kernel
theorem px_d296_139 : decode prog_13_method_2_code 139 = .ok (.getfield 60, 3) := by decide +kernel
theorem px_d296_142 : decode prog_13_method_2_code 142 = .ok (.iconst 1, 1) := by decide +kernel
theorem px_d296_143 : decode prog_13_method_2_code 143 = .ok (.iadd, 1) := by decide +kernel
theorem px_d296_144 : decode prog_13_method_2_code 144 = .ok (.invokevirtual 69, 3) := by decide +kernel
theorem px_d296_147 : decode prog_13_method_2_code 147 = .ok (.istore_n 3, 1) := by decide +kernel
theorem px_d296_148 : decode prog_13_method_2_code 148 = .ok (.aload_n 0, 1) := by decide +kernel
theorem px_d296_149 : decode prog_13_method_2_code 149 = .ok (.getfield 9, 3) := by decide +kernel
theorem px_d296_152 : decode prog_13_method_2_code 152 = .ok (.aload_n 0, 1) := by decide +kernel
theorem px_d296_153 : decode prog_13_method_2_code 153 = .ok (.getfield 34, 3) := by decide +kernel
theorem px_d296_156 : decode prog_13_method_2_code 156 = .ok (.getfield 60, 3) := by decide +kernel
theorem px_d296_159 : decode prog_13_method_2_code 159 = .ok (.aload_n 0, 1) := by decide +kernel
theorem px_d296_160 : decode prog_13_method_2_code 160 = .ok (.getfield 38, 3) := by decide +kernel
theorem px_d296_163 : decode prog_13_method_2_code 163 = .ok (.getfield 60, 3) := by decide +kernel
theorem px_d296_166 : decode prog_13_method_2_code 166 = .ok (.invokevirtual 69, 3) := by decide +kernel
theorem px_d296_169 : decode prog_13_method_2_code 169 = .ok (.istore 4, 2) := by decide +kernel
theorem px_d296_171 : decode prog_13_method_2_code 171 = .ok (.iload 4, 2) := by decide +kernel
theorem px_d296_173 : decode prog_13_method_2_code 173 = .ok (.iload_n 3, 1) := by decide +kernel
theorem px_d296_174 : decode prog_13_method_2_code 174 = .ok (.if_icmp .ge 40, 3) := by decide +kernel
theorem px_d296_177 : decode prog_13_method_2_code 177 = .ok (.aload_n 0, 1) := by decide +kernel
theorem px_d296_178 : decode prog_13_method_2_code 178 = .ok (.getfield 53, 3) := by decide +kernel
theorem px_d296_181 : decode prog_13_method_2_code 181 = .ok (.ifCond .ne 33, 3) := by decide +kernel
theorem px_d296_184 : decode prog_13_method_2_code 184 = .ok (.aload_n 0, 1) := by decide +kernel
theorem px_d296_185 : decode prog_13_method_2_code 185 = .ok (.aload_n 0, 1) := by decide +kernel
theorem px_d296_186 : decode prog_13_method_2_code 186 = .ok (.aload_n 0, 1) := by decide +kernel
theorem px_d296_187 : decode prog_13_method_2_code 187 = .ok (.getfield 9, 3) := by decide +kernel
theorem px_d296_190 : decode prog_13_method_2_code 190 = .ok (.aload_n 0, 1) := by decide +kernel
theorem px_d296_191 : decode prog_13_method_2_code 191 = .ok (.getfield 34, 3) := by decide +kernel
theorem px_d296_194 : decode prog_13_method_2_code 194 = .ok (.getfield 60, 3) := by decide +kernel
theorem px_d296_197 : decode prog_13_method_2_code 197 = .ok (.iload 4, 2) := by decide +kernel
theorem px_d296_199 : decode prog_13_method_2_code 199 = .ok (.invokevirtual 75, 3) := by decide +kernel
theorem px_d296_202 : decode prog_13_method_2_code 202 = .ok (.invokevirtual 78, 3) := by decide +kernel
theorem px_d296_205 : decode prog_13_method_2_code 205 = .ok (.putfield 53, 3) := by decide +kernel
theorem px_d296_208 : decode prog_13_method_2_code 208 = .ok (.iinc 4 1, 3) := by decide +kernel
theorem px_d296_211 : decode prog_13_method_2_code 211 = .ok (.goto (-40), 3) := by decide +kernel
theorem px_d296_214 : decode prog_13_method_2_code 214 = .ok (.aload_n 0, 1) := by decide +kernel
theorem px_d296_215 : decode prog_13_method_2_code 215 = .ok (.getfield 53, 3) := by decide +kernel
theorem px_d296_218 : decode prog_13_method_2_code 218 = .ok (.ifCond .eq 7, 3) := by decide +kernel
theorem px_d296_221 : decode prog_13_method_2_code 221 = .ok (.aload_n 0, 1) := by decide +kernel
theorem px_d296_222 : decode prog_13_method_2_code 222 = .ok (.invokevirtual 82, 3) := by decide +kernel
theorem px_d296_225 : decode prog_13_method_2_code 225 = .ok (.aload_n 0, 1) := by decide +kernel
theorem px_d296_226 : decode prog_13_method_2_code 226 = .ok (.getfield 53, 3) := by decide +kernel
theorem px_d296_229 : decode prog_13_method_2_code 229 = .ok (.ireturn, 1) := by decide +kernel
theorem px_d297_0 : decode prog_13_method_5_code 0 = .ok (.aload_n 0, 1) := by decide +kernel
theorem px_d297_1 : decode prog_13_method_5_code 1 = .ok (.getfield 34, 3) := by decide +kernel
theorem px_d297_4 : decode prog_13_method_5_code 4 = .ok (.iconst 0, 1) := by decide +kernel
theorem px_d297_5 : decode prog_13_method_5_code 5 = .ok (.invokevirtual 91, 3) := by decide +kernel
theorem px_d297_8 : decode prog_13_method_5_code 8 = .ok (.pop, 1) := by decide +kernel
theorem px_d297_9 : decode prog_13_method_5_code 9 = .ok (.aload_n 0, 1) := by decide +kernel
theorem px_d297_10 : decode prog_13_method_5_code 10 = .ok (.getfield 38, 3) := by decide +kernel
theorem px_d297_13 : decode prog_13_method_5_code 13 = .ok (.iconst 0, 1) := by decide +kernel
theorem px_d297_14 : decode prog_13_method_5_code 14 = .ok (.invokevirtual 91, 3) := by decide +kernel
theorem px_d297_17 : decode prog_13_method_5_code 17 = .ok (.pop, 1) := by decide +kernel
theorem px_d297_18 : decode prog_13_method_5_code 18 = .ok (.iconst 1, 1) := by decide +kernel
theorem px_d297_19 : decode prog_13_method_5_code 19 = .ok (.aload_n 0, 1) := by decide +kernel
theorem px_d297_20 : decode prog_13_method_5_code 20 = .ok (.getfield 34, 3) := by decide +kernel
theorem px_d297_23 : decode prog_13_method_5_code 23 = .ok (.getfield 60, 3) := by decide +kernel
theorem px_d297_26 : decode prog_13_method_5_code 26 = .ok (.ishl, 1) := by decide +kernel
theorem px_d297_27 : decode prog_13_method_5_code 27 = .ok (.istore_n 1, 1) := by decide +kernel
theorem px_d297_28 : decode prog_13_method_5_code 28 = .ok (.aload_n 0, 1) := by decide +kernel
theorem px_d297_29 : decode prog_13_method_5_code 29 = .ok (.getfield 25, 3) := by decide +kernel
theorem px_d297_32 : decode prog_13_method_5_code 32 = .ok (.arraylength, 1) := by decide +kernel
theorem px_d297_33 : decode prog_13_method_5_code 33 = .ok (.iload_n 1, 1) := by decide +kernel
theorem px_d297_34 : decode prog_13_method_5_code 34 = .ok (.if_icmp .ge 24, 3) := by decide +kernel
theorem px_d297_37 : decode prog_13_method_5_code 37 = .ok (.aload_n 0, 1) := by decide +kernel
theorem px_d297_38 : decode prog_13_method_5_code 38 = .ok (.iload_n 1, 1) := by decide +kernel
theorem px_d297_39 : decode prog_13_method_5_code 39 = .ok (.newarray .int, 2) := by decide +kernel
theorem px_d297_41 : decode prog_13_method_5_code 41 = .ok (.putfield 25, 3) := by decide +kernel
theorem px_d297_44 : decode prog_13_method_5_code 44 = .ok (.aload_n 0, 1) := by decide +kernel
theorem px_d297_45 : decode prog_13_method_5_code 45 = .ok (.iload_n 1, 1) := by decide +kernel
theorem px_d297_46 : decode prog_13_method_5_code 46 = .ok (.newarray .int, 2) := by decide +kernel
theorem px_d297_48 : decode prog_13_method_5_code 48 = .ok (.putfield 28, 3) := by decide +kernel
theorem px_d297_51 : decode prog_13_method_5_code 51 = .ok (.aload_n 0, 1) := by decide +kernel
theorem px_d297_52 : decode prog_13_method_5_code 52 = .ok (.iload_n 1, 1) := by decide +kernel
theorem px_d297_53 : decode prog_13_method_5_code 53 = .ok (.newarray .int, 2) := by decide +kernel
theorem px_d297_55 : decode prog_13_method_5_code 55 = .ok (.putfield 31, 3) := by decide +kernel
theorem px_d297_58 : decode prog_13_method_5_code 58 = .ok (.return_, 1) := by decide +kernel
theorem px_d298_0 : decode prog_13_method_6_code 0 = .ok (.aload_n 0, 1) := by decide +kernel
theorem px_d298_1 : decode prog_13_method_6_code 1 = .ok (.getfield 19, 3) := by decide +kernel
theorem px_d298_4 : decode prog_13_method_6_code 4 = .ok (.iconst 0, 1) := by decide +kernel
theorem px_d298_5 : decode prog_13_method_6_code 5 = .ok (.invokestatic 94, 3) := by decide +kernel
theorem px_d298_8 : decode prog_13_method_6_code 8 = .ok (.aload_n 0, 1) := by decide +kernel
theorem px_d298_9 : decode prog_13_method_6_code 9 = .ok (.iconst 0, 1) := by decide +kernel
theorem px_d298_10 : decode prog_13_method_6_code 10 = .ok (.putfield 100, 3) := by decide +kernel
theorem px_d298_13 : decode prog_13_method_6_code 13 = .ok (.iconst 0, 1) := by decide +kernel
theorem px_d298_14 : decode prog_13_method_6_code 14 = .ok (.istore_n 1, 1) := by decide +kernel
theorem px_d298_15 : decode prog_13_method_6_code 15 = .ok (.iload_n 1, 1) := by decide +kernel
theorem px_d298_16 : decode prog_13_method_6_code 16 = .ok (.aload_n 0, 1) := by decide +kernel
theorem px_d298_17 : decode prog_13_method_6_code 17 = .ok (.getfield 38, 3) := by decide +kernel
theorem px_d298_20 : decode prog_13_method_6_code 20 = .ok (.invokevirtual 103, 3) := by decide +kernel
theorem px_d298_23 : decode prog_13_method_6_code 23 = .ok (.if_icmp .gt 40, 3) := by decide +kernel
theorem px_d298_26 : decode prog_13_method_6_code 26 = .ok (.aload_n 0, 1) := by decide +kernel
theorem px_d298_27 : decode prog_13_method_6_code 27 = .ok (.getfield 38, 3) := by decide +kernel
theorem px_d298_30 : decode prog_13_method_6_code 30 = .ok (.getfield 107, 3) := by decide +kernel
theorem px_d298_33 : decode prog_13_method_6_code 33 = .ok (.iload_n 1, 1) := by decide +kernel
theorem px_d298_34 : decode prog_13_method_6_code 34 = .ok (.baload, 1) := by decide +kernel
theorem px_d298_35 : decode prog_13_method_6_code 35 = .ok (.ifCond .eq 22, 3) := by decide +kernel
theorem px_d298_38 : decode prog_13_method_6_code 38 = .ok (.aload_n 0, 1) := by decide +kernel
theorem px_d298_39 : decode prog_13_method_6_code 39 = .ok (.dup, 1) := by decide +kernel
theorem px_d298_40 : decode prog_13_method_6_code 40 = .ok (.getfield 100, 3) := by decide +kernel
theorem px_d298_43 : decode prog_13_method_6_code 43 = .ok (.iconst 1, 1) := by decide +kernel
theorem px_d298_44 : decode prog_13_method_6_code 44 = .ok (.iadd, 1) := by decide +kernel
theorem px_d298_45 : decode prog_13_method_6_code 45 = .ok (.putfield 100, 3) := by decide +kernel
theorem px_d298_48 : decode prog_13_method_6_code 48 = .ok (.aload_n 0, 1) := by decide +kernel
theorem px_d298_49 : decode prog_13_method_6_code 49 = .ok (.aload_n 0, 1) := by decide +kernel
theorem px_d298_50 : decode prog_13_method_6_code 50 = .ok (.getfield 19, 3) := by decide +kernel
theorem px_d298_53 : decode prog_13_method_6_code 53 = .ok (.iload_n 1, 1) := by decide +kernel
theorem px_d298_54 : decode prog_13_method_6_code 54 = .ok (.invokevirtual 111, 3) := by decide +kernel
theorem px_d298_57 : decode prog_13_method_6_code 57 = .ok (.iinc 1 1, 3) := by decide +kernel
theorem px_d298_60 : decode prog_13_method_6_code 60 = .ok (.goto (-45), 3) := by decide +kernel
theorem px_d298_63 : decode prog_13_method_6_code 63 = .ok (.return_, 1) := by decide +kernel
theorem px_d299_0 : decode prog_13_method_7_code 0 = .ok (.iconst 0, 1) := by decide +kernel
theorem px_d299_1 : decode prog_13_method_7_code 1 = .ok (.istore_n 3, 1) := by decide +kernel
theorem px_d299_2 : decode prog_13_method_7_code 2 = .ok (.iload_n 3, 1) := by decide +kernel
theorem px_d299_3 : decode prog_13_method_7_code 3 = .ok (.aload_n 0, 1) := by decide +kernel
theorem px_d299_4 : decode prog_13_method_7_code 4 = .ok (.getfield 38, 3) := by decide +kernel
theorem px_d299_7 : decode prog_13_method_7_code 7 = .ok (.getfield 60, 3) := by decide +kernel
theorem px_d299_10 : decode prog_13_method_7_code 10 = .ok (.if_icmp .ge 56, 3) := by decide +kernel
theorem px_d299_13 : decode prog_13_method_7_code 13 = .ok (.iconst 0, 1) := by decide +kernel
theorem px_d299_14 : decode prog_13_method_7_code 14 = .ok (.istore 4, 2) := by decide +kernel
theorem px_d299_16 : decode prog_13_method_7_code 16 = .ok (.iload 4, 2) := by decide +kernel
theorem px_d299_18 : decode prog_13_method_7_code 18 = .ok (.aload_n 0, 1) := by decide +kernel
theorem px_d299_19 : decode prog_13_method_7_code 19 = .ok (.getfield 38, 3) := by decide +kernel
theorem px_d299_22 : decode prog_13_method_7_code 22 = .ok (.getfield 60, 3) := by decide +kernel
theorem px_d299_25 : decode prog_13_method_7_code 25 = .ok (.if_icmp .ge 35, 3) := by decide +kernel
theorem px_d299_28 : decode prog_13_method_7_code 28 = .ok (.iload_n 2, 1) := by decide +kernel
theorem px_d299_29 : decode prog_13_method_7_code 29 = .ok (.iload_n 3, 1) := by decide +kernel
theorem px_d299_30 : decode prog_13_method_7_code 30 = .ok (.ishr, 1) := by decide +kernel
theorem px_d299_31 : decode prog_13_method_7_code 31 = .ok (.iconst 1, 1) := by decide +kernel
theorem px_d299_32 : decode prog_13_method_7_code 32 = .ok (.iand, 1) := by decide +kernel
theorem px_d299_33 : decode prog_13_method_7_code 33 = .ok (.ifCond .eq 27, 3) := by decide +kernel
theorem px_d299_36 : decode prog_13_method_7_code 36 = .ok (.aload_n 1, 1) := by decide +kernel
theorem px_d299_37 : decode prog_13_method_7_code 37 = .ok (.iload_n 3, 1) := by decide +kernel
theorem px_d299_38 : decode prog_13_method_7_code 38 = .ok (.bipush 12, 2) := by decide +kernel
theorem px_d299_40 : decode prog_13_method_7_code 40 = .ok (.imul, 1) := by decide +kernel
theorem px_d299_41 : decode prog_13_method_7_code 41 = .ok (.iload 4, 2) := by decide +kernel
theorem px_d299_43 : decode prog_13_method_7_code 43 = .ok (.iadd, 1) := by decide +kernel
theorem px_d299_44 : decode prog_13_method_7_code 44 = .ok (.dup2, 1) := by decide +kernel
theorem px_d299_45 : decode prog_13_method_7_code 45 = .ok (.iaload, 1) := by decide +kernel
theorem px_d299_46 : decode prog_13_method_7_code 46 = .ok (.iload_n 2, 1) := by decide +kernel
theorem px_d299_47 : decode prog_13_method_7_code 47 = .ok (.iload 4, 2) := by decide +kernel
theorem px_d299_49 : decode prog_13_method_7_code 49 = .ok (.ishr, 1) := by decide +kernel
theorem px_d299_50 : decode prog_13_method_7_code 50 = .ok (.iconst 1, 1) := by decide +kernel
theorem px_d299_51 : decode prog_13_method_7_code 51 = .ok (.iand, 1) := by decide +kernel
theorem px_d299_52 : decode prog_13_method_7_code 52 = .ok (.iadd, 1) := by decide +kernel
theorem px_d299_53 : decode prog_13_method_7_code 53 = .ok (.iastore, 1) := by decide +kernel
theorem px_d299_54 : decode prog_13_method_7_code 54 = .ok (.iinc 4 1, 3) := by decide +kernel
theorem px_d299_57 : decode prog_13_method_7_code 57 = .ok (.goto (-41), 3) := by decide +kernel
theorem px_d299_60 : decode prog_13_method_7_code 60 = .ok (.iinc 3 1, 3) := by decide +kernel
theorem px_d299_63 : decode prog_13_method_7_code 63 = .ok (.goto (-61), 3) := by decide +kernel
theorem px_d299_66 : decode prog_13_method_7_code 66 = .ok (.return_, 1) := by decide +kernel
theorem px_d300_0 : decode prog_13_method_8_code 0 = .ok (.aload_n 0, 1) := by decide +kernel
theorem px_d300_1 : decode prog_13_method_8_code 1 = .ok (.getfield 34, 3) := by decide +kernel
theorem px_d300_4 : decode prog_13_method_8_code 4 = .ok (.getfield 60, 3) := by decide +kernel
theorem px_d300_7 : decode prog_13_method_8_code 7 = .ok (.aload_n 0, 1) := by decide +kernel
theorem px_d300_8 : decode prog_13_method_8_code 8 = .ok (.getfield 38, 3) := by decide +kernel
theorem px_d300_11 : decode prog_13_method_8_code 11 = .ok (.getfield 60, 3) := by decide +kernel
theorem px_d300_14 : decode prog_13_method_8_code 14 = .ok (.isub, 1) := by decide +kernel
theorem px_d300_15 : decode prog_13_method_8_code 15 = .ok (.istore_n 2, 1) := by decide +kernel
theorem px_d300_16 : decode prog_13_method_8_code 16 = .ok (.aload_n 0, 1) := by decide +kernel
theorem px_d300_17 : decode prog_13_method_8_code 17 = .ok (.iload_n 1, 1) := by decide +kernel
theorem px_d300_18 : decode prog_13_method_8_code 18 = .ok (.putfield 114, 3) := by decide +kernel
theorem px_d300_21 : decode prog_13_method_8_code 21 = .ok (.aload_n 0, 1) := by decide +kernel
theorem px_d300_22 : decode prog_13_method_8_code 22 = .ok (.aload_n 0, 1) := by decide +kernel
theorem px_d300_23 : decode prog_13_method_8_code 23 = .ok (.getfield 25, 3) := by decide +kernel
theorem px_d300_26 : decode prog_13_method_8_code 26 = .ok (.iload_n 1, 1) := by decide +kernel
theorem px_d300_27 : decode prog_13_method_8_code 27 = .ok (.invokevirtual 117, 3) := by decide +kernel
theorem px_d300_30 : decode prog_13_method_8_code 30 = .ok (.aload_n 0, 1) := by decide +kernel
theorem px_d300_31 : decode prog_13_method_8_code 31 = .ok (.aload_n 0, 1) := by decide +kernel
theorem px_d300_32 : decode prog_13_method_8_code 32 = .ok (.getfield 28, 3) := by decide +kernel
theorem px_d300_35 : decode prog_13_method_8_code 35 = .ok (.aload_n 0, 1) := by decide +kernel
theorem px_d300_36 : decode prog_13_method_8_code 36 = .ok (.getfield 34, 3) := by decide +kernel
theorem px_d300_39 : decode prog_13_method_8_code 39 = .ok (.invokevirtual 103, 3) := by decide +kernel
theorem px_d300_42 : decode prog_13_method_8_code 42 = .ok (.iload_n 1, 1) := by decide +kernel
theorem px_d300_43 : decode prog_13_method_8_code 43 = .ok (.iconst (-1), 1) := by decide +kernel
theorem px_d300_44 : decode prog_13_method_8_code 44 = .ok (.ixor, 1) := by decide +kernel
theorem px_d300_45 : decode prog_13_method_8_code 45 = .ok (.iand, 1) := by decide +kernel
theorem px_d300_46 : decode prog_13_method_8_code 46 = .ok (.invokevirtual 117, 3) := by decide +kernel
theorem px_d300_49 : decode prog_13_method_8_code 49 = .ok (.iconst 0, 1) := by decide +kernel
theorem px_d300_50 : decode prog_13_method_8_code 50 = .ok (.aload_n 0, 1) := by decide +kernel
theorem px_d300_51 : decode prog_13_method_8_code 51 = .ok (.getfield 34, 3) := by decide +kernel
theorem px_d300_54 : decode prog_13_method_8_code 54 = .ok (.getfield 120, 3) := by decide +kernel
theorem px_d300_57 : decode prog_13_method_8_code 57 = .ok (.iload_n 1, 1) := by decide +kernel
theorem px_d300_58 : decode prog_13_method_8_code 58 = .ok (.baload, 1) := by decide +kernel
theorem px_d300_59 : decode prog_13_method_8_code 59 = .ok (.aload_n 0, 1) := by decide +kernel
theorem px_d300_60 : decode prog_13_method_8_code 60 = .ok (.getfield 38, 3) := by decide +kernel
theorem px_d300_63 : decode prog_13_method_8_code 63 = .ok (.getfield 57, 3) := by decide +kernel
theorem px_d300_66 : decode prog_13_method_8_code 66 = .ok (.isub, 1) := by decide +kernel
theorem px_d300_67 : decode prog_13_method_8_code 67 = .ok (.invokestatic 123, 3) := by decide +kernel
theorem px_d300_70 : decode prog_13_method_8_code 70 = .ok (.istore_n 3, 1) := by decide +kernel
theorem px_d300_71 : decode prog_13_method_8_code 71 = .ok (.iload_n 2, 1) := by decide +kernel
theorem px_d300_72 : decode prog_13_method_8_code 72 = .ok (.aload_n 0, 1) := by decide +kernel
theorem px_d300_73 : decode prog_13_method_8_code 73 = .ok (.getfield 34, 3) := by decide +kernel
theorem px_d300_76 : decode prog_13_method_8_code 76 = .ok (.getfield 57, 3) := by decide +kernel
theorem px_d300_79 : decode prog_13_method_8_code 79 = .ok (.aload_n 0, 1) := by decide +kernel
theorem px_d300_80 : decode prog_13_method_8_code 80 = .ok (.getfield 38, 3) := by decide +kernel
theorem px_d300_83 : decode prog_13_method_8_code 83 = .ok (.getfield 57, 3) := by decide +kernel
theorem px_d300_86 : decode prog_13_method_8_code 86 = .ok (.isub, 1) := by decide +kernel
theorem px_d300_87 : decode prog_13_method_8_code 87 = .ok (.invokestatic 128, 3) := by decide +kernel
theorem px_d300_90 : decode prog_13_method_8_code 90 = .ok (.istore 4, 2) := by decide +kernel
theorem px_d300_92 : decode prog_13_method_8_code 92 = .ok (.aload_n 0, 1) := by decide +kernel
theorem px_d300_93 : decode prog_13_method_8_code 93 = .ok (.getfield 9, 3) := by decide +kernel
theorem px_d300_96 : decode prog_13_method_8_code 96 = .ok (.iload_n 2, 1) := by decide +kernel
theorem px_d300_97 : decode prog_13_method_8_code 97 = .ok (.iload 4, 2) := by decide +kernel
theorem px_d300_99 : decode prog_13_method_8_code 99 = .ok (.iconst 1, 1) := by decide +kernel
theorem px_d300_100 : decode prog_13_method_8_code 100 = .ok (.iadd, 1) := by decide +kernel
theorem px_d300_101 : decode prog_13_method_8_code 101 = .ok (.invokevirtual 69, 3) := by decide +kernel
theorem px_d300_104 : decode prog_13_method_8_code 104 = .ok (.istore 5, 2) := by decide +kernel
theorem px_d300_106 : decode prog_13_method_8_code 106 = .ok (.aload_n 0, 1) := by decide +kernel
theorem px_d300_107 : decode prog_13_method_8_code 107 = .ok (.getfield 9, 3) := by decide +kernel
theorem px_d300_110 : decode prog_13_method_8_code 110 = .ok (.iload_n 2, 1) := by decide +kernel
theorem px_d300_111 : decode prog_13_method_8_code 111 = .ok (.iload_n 3, 1) := by decide +kernel
theorem px_d300_112 : decode prog_13_method_8_code 112 = .ok (.invokevirtual 69, 3) := by decide +kernel
theorem px_d300_115 : decode prog_13_method_8_code 115 = .ok (.istore 6, 2) := by decide +kernel
theorem px_d300_117 : decode prog_13_method_8_code 117 = .ok (.iload 6, 2) := by decide +kernel
theorem px_d300_119 : decode prog_13_method_8_code 119 = .ok (.iload 5, 2) := by decide +kernel
theorem px_d300_121 : decode prog_13_method_8_code 121 = .ok (.if_icmp .ge 157, 3) := by decide +kernel
theorem px_d300_124 : decode prog_13_method_8_code 124 = .ok (.aload_n 0, 1) := by decide +kernel
theorem px_d300_125 : decode prog_13_method_8_code 125 = .ok (.aload_n 0, 1) := by decide +kernel
theorem px_d300_126 : decode prog_13_method_8_code 126 = .ok (.getfield 28, 3) := by decide +kernel
theorem px_d300_129 : decode prog_13_method_8_code 129 = .ok (.aload_n 0, 1) := by decide +kernel
theorem px_d300_130 : decode prog_13_method_8_code 130 = .ok (.getfield 9, 3) := by decide +kernel
theorem px_d300_133 : decode prog_13_method_8_code 133 = .ok (.iload_n 2, 1) := by decide +kernel
theorem px_d300_134 : decode prog_13_method_8_code 134 = .ok (.iload 6, 2) := by decide +kernel
theorem px_d300_136 : decode prog_13_method_8_code 136 = .ok (.invokevirtual 75, 3) := by decide +kernel
theorem px_d300_139 : decode prog_13_method_8_code 139 = .ok (.iaload, 1) := by decide +kernel
theorem px_d300_140 : decode prog_13_method_8_code 140 = .ok (.putfield 131, 3) := by decide +kernel
theorem px_d300_143 : decode prog_13_method_8_code 143 = .ok (.aload_n 0, 1) := by decide +kernel
theorem px_d300_144 : decode prog_13_method_8_code 144 = .ok (.aload_n 0, 1) := by decide +kernel
theorem px_d300_145 : decode prog_13_method_8_code 145 = .ok (.getfield 131, 3) := by decide +kernel
theorem px_d300_148 : decode prog_13_method_8_code 148 = .ok (.invokestatic 85, 3) := by decide +kernel
theorem px_d300_151 : decode prog_13_method_8_code 151 = .ok (.putfield 134, 3) := by decide +kernel
theorem px_d300_154 : decode prog_13_method_8_code 154 = .ok (.aload_n 0, 1) := by decide +kernel
theorem px_d300_155 : decode prog_13_method_8_code 155 = .ok (.getfield 34, 3) := by decide +kernel
theorem px_d300_158 : decode prog_13_method_8_code 158 = .ok (.getfield 120, 3) := by decide +kernel
theorem px_d300_161 : decode prog_13_method_8_code 161 = .ok (.aload_n 0, 1) := by decide +kernel
theorem px_d300_162 : decode prog_13_method_8_code 162 = .ok (.getfield 131, 3) := by decide +kernel
theorem px_d300_165 : decode prog_13_method_8_code 165 = .ok (.baload, 1) := by decide +kernel
theorem px_d300_166 : decode prog_13_method_8_code 166 = .ok (.aload_n 0, 1) := by decide +kernel
theorem px_d300_167 : decode prog_13_method_8_code 167 = .ok (.getfield 134, 3) := by decide +kernel
theorem px_d300_170 : decode prog_13_method_8_code 170 = .ok (.if_icmp .ne 7, 3) := by decide +kernel
theorem px_d300_173 : decode prog_13_method_8_code 173 = .ok (.iconst 1, 1) := by decide +kernel
theorem px_d300_174 : decode prog_13_method_8_code 174 = .ok (.goto 4, 3) := by decide +kernel
theorem px_d300_177 : decode prog_13_method_8_code 177 = .ok (.iconst 0, 1) := by decide +kernel
theorem px_d300_178 : decode prog_13_method_8_code 178 = .ok (.istore 7, 2) := by decide +kernel
theorem px_d300_180 : decode prog_13_method_8_code 180 = .ok (.iload 7, 2) := by decide +kernel
theorem px_d300_182 : decode prog_13_method_8_code 182 = .ok (.ifCond .eq 36, 3) := by decide +kernel
theorem px_d300_185 : decode prog_13_method_8_code 185 = .ok (.aload_n 0, 1) := by decide +kernel
theorem px_d300_186 : decode prog_13_method_8_code 186 = .ok (.getfield 34, 3) := by decide +kernel
theorem px_d300_189 : decode prog_13_method_8_code 189 = .ok (.getfield 120, 3) := by decide +kernel
theorem px_d300_192 : decode prog_13_method_8_code 192 = .ok (.iload_n 1, 1) := by decide +kernel
theorem px_d300_193 : decode prog_13_method_8_code 193 = .ok (.aload_n 0, 1) := by decide +kernel
theorem px_d300_194 : decode prog_13_method_8_code 194 = .ok (.getfield 131, 3) := by decide +kernel
theorem px_d300_197 : decode prog_13_method_8_code 197 = .ok (.ior, 1) := by decide +kernel
theorem px_d300_198 : decode prog_13_method_8_code 198 = .ok (.baload, 1) := by decide +kernel
theorem px_d300_199 : decode prog_13_method_8_code 199 = .ok (.aload_n 0, 1) := by decide +kernel
theorem px_d300_200 : decode prog_13_method_8_code 200 = .ok (.getfield 38, 3) := by decide +kernel
theorem px_d300_203 : decode prog_13_method_8_code 203 = .ok (.getfield 57, 3) := by decide +kernel
theorem px_d300_206 : decode prog_13_method_8_code 206 = .ok (.aload_n 0, 1) := by decide +kernel
theorem px_d300_207 : decode prog_13_method_8_code 207 = .ok (.getfield 134, 3) := by decide +kernel
theorem px_d300_210 : decode prog_13_method_8_code 210 = .ok (.iadd, 1) := by decide +kernel
theorem px_d300_211 : decode prog_13_method_8_code 211 = .ok (.if_icmp .ne 7, 3) := by decide +kernel
theorem px_d300_214 : decode prog_13_method_8_code 214 = .ok (.iconst 1, 1) := by decide +kernel
theorem px_d300_215 : decode prog_13_method_8_code 215 = .ok (.goto 4, 3) := by decide +kernel
theorem px_d300_218 : decode prog_13_method_8_code 218 = .ok (.iconst 0, 1) := by decide +kernel
theorem px_d300_219 : decode prog_13_method_8_code 219 = .ok (.istore 8, 2) := by decide +kernel
theorem px_d300_221 : decode prog_13_method_8_code 221 = .ok (.iload 8, 2) := by decide +kernel
theorem px_d300_223 : decode prog_13_method_8_code 223 = .ok (.ifCond .eq 49, 3) := by decide +kernel
theorem px_d300_226 : decode prog_13_method_8_code 226 = .ok (.aload_n 0, 1) := by decide +kernel
theorem px_d300_227 : decode prog_13_method_8_code 227 = .ok (.invokevirtual 137, 3) := by decide +kernel
theorem px_d300_230 : decode prog_13_method_8_code 230 = .ok (.ifCond .eq 42, 3) := by decide +kernel
theorem px_d300_233 : decode prog_13_method_8_code 233 = .ok (.aload_n 0, 1) := by decide +kernel
theorem px_d300_234 : decode prog_13_method_8_code 234 = .ok (.invokevirtual 141, 3) := by decide +kernel
theorem px_d300_237 : decode prog_13_method_8_code 237 = .ok (.ifCond .eq 35, 3) := by decide +kernel
theorem px_d300_240 : decode prog_13_method_8_code 240 = .ok (.aload_n 0, 1) := by decide +kernel
theorem px_d300_241 : decode prog_13_method_8_code 241 = .ok (.iconst 0, 1) := by decide +kernel
theorem px_d300_242 : decode prog_13_method_8_code 242 = .ok (.invokevirtual 144, 3) := by decide +kernel
theorem px_d300_245 : decode prog_13_method_8_code 245 = .ok (.ifCond .eq 27, 3) := by decide +kernel
theorem px_d300_248 : decode prog_13_method_8_code 248 = .ok (.aload_n 0, 1) := by decide +kernel
theorem px_d300_249 : decode prog_13_method_8_code 249 = .ok (.aload_n 0, 1) := by decide +kernel
theorem px_d300_250 : decode prog_13_method_8_code 250 = .ok (.getfield 34, 3) := by decide +kernel
theorem px_d300_253 : decode prog_13_method_8_code 253 = .ok (.invokevirtual 103, 3) := by decide +kernel
theorem px_d300_256 : decode prog_13_method_8_code 256 = .ok (.iload_n 1, 1) := by decide +kernel
theorem px_d300_257 : decode prog_13_method_8_code 257 = .ok (.iconst (-1), 1) := by decide +kernel
theorem px_d300_258 : decode prog_13_method_8_code 258 = .ok (.ixor, 1) := by decide +kernel
theorem px_d300_259 : decode prog_13_method_8_code 259 = .ok (.iand, 1) := by decide +kernel
theorem px_d300_260 : decode prog_13_method_8_code 260 = .ok (.aload_n 0, 1) := by decide +kernel
theorem px_d300_261 : decode prog_13_method_8_code 261 = .ok (.getfield 131, 3) := by decide +kernel
theorem px_d300_264 : decode prog_13_method_8_code 264 = .ok (.iconst (-1), 1) := by decide +kernel
theorem px_d300_265 : decode prog_13_method_8_code 265 = .ok (.ixor, 1) := by decide +kernel
theorem px_d300_266 : decode prog_13_method_8_code 266 = .ok (.iand, 1) := by decide +kernel
theorem px_d300_267 : decode prog_13_method_8_code 267 = .ok (.putfield 147, 3) := by decide +kernel
theorem px_d300_270 : decode prog_13_method_8_code 270 = .ok (.iconst 1, 1) := by decide +kernel
theorem px_d300_271 : decode prog_13_method_8_code 271 = .ok (.ireturn, 1) := by decide +kernel
theorem px_d300_272 : decode prog_13_method_8_code 272 = .ok (.iinc 6 1, 3) := by decide +kernel
theorem px_d300_275 : decode prog_13_method_8_code 275 = .ok (.goto (-158), 3) := by decide +kernel
theorem px_d300_278 : decode prog_13_method_8_code 278 = .ok (.iconst 0, 1) := by decide +kernel
theorem px_d300_279 : decode prog_13_method_8_code 279 = .ok (.ireturn, 1) := by decide +kernel
theorem px_d301_0 : decode prog_13_method_9_code 0 = .ok (.iconst 0, 1) := by decide +kernel
theorem px_d301_1 : decode prog_13_method_9_code 1 = .ok (.istore_n 3, 1) := by decide +kernel
theorem px_d301_2 : decode prog_13_method_9_code 2 = .ok (.aload_n 1, 1) := by decide +kernel
theorem px_d301_3 : decode prog_13_method_9_code 3 = .ok (.iconst 0, 1) := by decide +kernel
theorem px_d301_4 : decode prog_13_method_9_code 4 = .ok (.iconst 0, 1) := by decide +kernel
theorem px_d301_5 : decode prog_13_method_9_code 5 = .ok (.iastore, 1) := by decide +kernel
theorem px_d301_6 : decode prog_13_method_9_code 6 = .ok (.iconst 0, 1) := by decide +kernel
theorem px_d301_7 : decode prog_13_method_9_code 7 = .ok (.istore 4, 2) := by decide +kernel
theorem px_d301_9 : decode prog_13_method_9_code 9 = .ok (.iload 4, 2) := by decide +kernel
theorem px_d301_11 : decode prog_13_method_9_code 11 = .ok (.aload_n 0, 1) := by decide +kernel
