theorem px_d246_0 : decode prog_3_method_19_code 0 = .ok (.aload_n 0, 1) := by decide +kernel
theorem px_d246_1 : decode prog_3_method_19_code 1 = .ok (.iload_n 1, 1) := by decide +kernel
theorem px_d246_2 : decode prog_3_method_19_code 2 = .ok (.putfield 88, 3) := by decide +kernel
theorem px_d246_5 : decode prog_3_method_19_code 5 = .ok (.aload_n 0, 1) := by decide +kernel
theorem px_d246_6 : decode prog_3_method_19_code 6 = .ok (.iload_n 2, 1) := by decide +kernel
theorem px_d246_7 : decode prog_3_method_19_code 7 = .ok (.putfield 66, 3) := by decide +kernel
theorem px_d246_10 : decode prog_3_method_19_code 10 = .ok (.aload_n 0, 1) := by decide +kernel
theorem px_d246_11 : decode prog_3_method_19_code 11 = .ok (.iload_n 3, 1) := by decide +kernel
theorem px_d246_12 : decode prog_3_method_19_code 12 = .ok (.putfield 77, 3) := by decide +kernel
theorem px_d246_15 : decode prog_3_method_19_code 15 = .ok (.aload_n 0, 1) := by decide +kernel
theorem px_d246_16 : decode prog_3_method_19_code 16 = .ok (.iconst 0, 1) := by decide +kernel
theorem px_d246_17 : decode prog_3_method_19_code 17 = .ok (.putfield 103, 3) := by decide +kernel
theorem px_d246_20 : decode prog_3_method_19_code 20 = .ok (.aload_n 0, 1) := by decide +kernel
theorem px_d246_21 : decode prog_3_method_19_code 21 = .ok (.iconst 0, 1) := by decide +kernel
theorem px_d246_22 : decode prog_3_method_19_code 22 = .ok (.putfield 117, 3) := by decide +kernel
theorem px_d246_25 : decode prog_3_method_19_code 25 = .ok (.aload_n 0, 1) := by decide +kernel
theorem px_d246_26 : decode prog_3_method_19_code 26 = .ok (.getfield 9, 3) := by decide +kernel
theorem px_d246_29 : decode prog_3_method_19_code 29 = .ok (.aload_n 0, 1) := by decide +kernel
theorem px_d246_30 : decode prog_3_method_19_code 30 = .ok (.getfield 66, 3) := by decide +kernel
theorem px_d246_33 : decode prog_3_method_19_code 33 = .ok (.invokevirtual 153, 3) := by decide +kernel
theorem px_d246_36 : decode prog_3_method_19_code 36 = .ok (.aload_n 0, 1) := by decide +kernel
theorem px_d246_37 : decode prog_3_method_19_code 37 = .ok (.getfield 36, 3) := by decide +kernel
theorem px_d246_40 : decode prog_3_method_19_code 40 = .ok (.arraylength, 1) := by decide +kernel
theorem px_d246_41 : decode prog_3_method_19_code 41 = .ok (.iconst 1, 1) := by decide +kernel
theorem px_d246_42 : decode prog_3_method_19_code 42 = .ok (.aload_n 0, 1) := by decide +kernel
theorem px_d246_43 : decode prog_3_method_19_code 43 = .ok (.getfield 66, 3) := by decide +kernel
theorem px_d246_46 : decode prog_3_method_19_code 46 = .ok (.ishl, 1) := by decide +kernel
theorem px_d246_47 : decode prog_3_method_19_code 47 = .ok (.if_icmp .ge 15, 3) := by decide +kernel
theorem px_d246_50 : decode prog_3_method_19_code 50 = .ok (.aload_n 0, 1) := by decide +kernel
theorem px_d246_51 : decode prog_3_method_19_code 51 = .ok (.iconst 1, 1) := by decide +kernel
theorem px_d246_52 : decode prog_3_method_19_code 52 = .ok (.aload_n 0, 1) := by decide +kernel
theorem px_d246_53 : decode prog_3_method_19_code 53 = .ok (.getfield 66, 3) := by decide +kernel
theorem px_d246_56 : decode prog_3_method_19_code 56 = .ok (.ishl, 1) := by decide +kernel
theorem px_d246_57 : decode prog_3_method_19_code 57 = .ok (.newarray .byte, 2) := by decide +kernel
theorem px_d246_59 : decode prog_3_method_19_code 59 = .ok (.putfield 36, 3) := by decide +kernel
theorem px_d246_67 : decode prog_3_method_19_code 67 = .ok (.invokestatic 156, 3) := by decide +kernel
theorem px_d246_70 : decode prog_3_method_19_code 70 = .ok (.aload_n 0, 1) := by decide +kernel
theorem px_d246_71 : decode prog_3_method_19_code 71 = .ok (.getfield 33, 3) := by decide +kernel
theorem px_d246_74 : decode prog_3_method_19_code 74 = .ok (.iconst (-1), 1) := by decide +kernel
theorem px_d246_75 : decode prog_3_method_19_code 75 = .ok (.invokestatic 156, 3) := by decide +kernel
theorem px_d246_78 : decode prog_3_method_19_code 78 = .ok (.return_, 1) := by decide +kernel
theorem px_d280_39 : decode prog_3_method_11_code 39 = .ok (.invokevirtual 120, 3) := by decide +kernel
theorem px_d281_0 : decode prog_3_method_29_code 0 = .ok (.aload_n 0, 1) := by decide +kernel
theorem px_d281_1 : decode prog_3_method_29_code 1 = .ok (.getfield 43, 3) := by decide +kernel
theorem px_d281_4 : decode prog_3_method_29_code 4 = .ok (.arraylength, 1) := by decide +kernel
theorem px_d281_5 : decode prog_3_method_29_code 5 = .ok (.ifCond .ne 12, 3) := by decide +kernel
theorem px_d281_8 : decode prog_3_method_29_code 8 = .ok (.aload_n 0, 1) := by decide +kernel
theorem px_d281_9 : decode prog_3_method_29_code 9 = .ok (.sipush 169, 3) := by decide +kernel
theorem px_d281_12 : decode prog_3_method_29_code 12 = .ok (.newarray .long, 2) := by decide +kernel
theorem px_d281_14 : decode prog_3_method_29_code 14 = .ok (.putfield 43, 3) := by decide +kernel
theorem px_d281_22 : decode prog_3_method_29_code 22 = .ok (.invokestatic 190, 3) := by decide +kernel
theorem px_d281_25 : decode prog_3_method_29_code 25 = .ok (.iconst 0, 1) := by decide +kernel
theorem px_d281_26 : decode prog_3_method_29_code 26 = .ok (.istore_n 1, 1) := by decide +kernel
