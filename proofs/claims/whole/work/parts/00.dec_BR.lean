theorem d_BR_init_0 : decode prog_2_method_1_code 0 = .ok (.aload_n 0, 1) := by decide +kernel
theorem d_BR_init_1 : decode prog_2_method_1_code 1 = .ok (.invokespecial 3, 3) := by decide +kernel
theorem d_BR_init_4 : decode prog_2_method_1_code 4 = .ok (.aload_n 0, 1) := by decide +kernel
theorem d_BR_init_5 : decode prog_2_method_1_code 5 = .ok (.bipush 64, 2) := by decide +kernel
theorem d_BR_init_7 : decode prog_2_method_1_code 7 = .ok (.newarray .byte, 2) := by decide +kernel
theorem d_BR_init_9 : decode prog_2_method_1_code 9 = .ok (.putfield 11, 3) := by decide +kernel
theorem d_BR_init_12 : decode prog_2_method_1_code 12 = .ok (.aload_n 0, 1) := by decide +kernel
theorem d_BR_init_13 : decode prog_2_method_1_code 13 = .ok (.iconst 0, 1) := by decide +kernel
theorem d_BR_init_14 : decode prog_2_method_1_code 14 = .ok (.putfield 15, 3) := by decide +kernel
theorem d_BR_init_17 : decode prog_2_method_1_code 17 = .ok (.aload_n 0, 1) := by decide +kernel
theorem d_BR_init_18 : decode prog_2_method_1_code 18 = .ok (.iconst 0, 1) := by decide +kernel
theorem d_BR_init_19 : decode prog_2_method_1_code 19 = .ok (.putfield 19, 3) := by decide +kernel
theorem d_BR_init_22 : decode prog_2_method_1_code 22 = .ok (.aload_n 0, 1) := by decide +kernel
theorem d_BR_init_23 : decode prog_2_method_1_code 23 = .ok (.iload_n 1, 1) := by decide +kernel
theorem d_BR_init_24 : decode prog_2_method_1_code 24 = .ok (.putfield 23, 3) := by decide +kernel
theorem d_BR_init_27 : decode prog_2_method_1_code 27 = .ok (.return_, 1) := by decide +kernel
theorem d_BR_clear_0 : decode prog_2_method_2_code 0 = .ok (.aload_n 0, 1) := by decide +kernel
theorem d_BR_clear_1 : decode prog_2_method_2_code 1 = .ok (.iconst 0, 1) := by decide +kernel
theorem d_BR_clear_2 : decode prog_2_method_2_code 2 = .ok (.putfield 15, 3) := by decide +kernel
theorem d_BR_clear_5 : decode prog_2_method_2_code 5 = .ok (.aload_n 0, 1) := by decide +kernel
theorem d_BR_clear_6 : decode prog_2_method_2_code 6 = .ok (.iconst 0, 1) := by decide +kernel
theorem d_BR_clear_7 : decode prog_2_method_2_code 7 = .ok (.putfield 19, 3) := by decide +kernel
theorem d_BR_clear_10 : decode prog_2_method_2_code 10 = .ok (.return_, 1) := by decide +kernel
theorem d_BR_add_0 : decode prog_2_method_3_code 0 = .ok (.aload_n 0, 1) := by decide +kernel
theorem d_BR_add_1 : decode prog_2_method_3_code 1 = .ok (.getfield 15, 3) := by decide +kernel
theorem d_BR_add_4 : decode prog_2_method_3_code 4 = .ok (.aload_n 0, 1) := by decide +kernel
theorem d_BR_add_5 : decode prog_2_method_3_code 5 = .ok (.getfield 23, 3) := by decide +kernel
theorem d_BR_add_8 : decode prog_2_method_3_code 8 = .ok (.if_icmp .lt 9, 3) := by decide +kernel
theorem d_BR_add_11 : decode prog_2_method_3_code 11 = .ok (.aload_n 0, 1) := by decide +kernel
theorem d_BR_add_12 : decode prog_2_method_3_code 12 = .ok (.iconst 1, 1) := by decide +kernel
theorem d_BR_add_13 : decode prog_2_method_3_code 13 = .ok (.putfield 19, 3) := by decide +kernel
theorem d_BR_add_16 : decode prog_2_method_3_code 16 = .ok (.return_, 1) := by decide +kernel
theorem d_BR_add_17 : decode prog_2_method_3_code 17 = .ok (.aload_n 0, 1) := by decide +kernel
theorem d_BR_add_18 : decode prog_2_method_3_code 18 = .ok (.aload_n 0, 1) := by decide +kernel
theorem d_BR_add_19 : decode prog_2_method_3_code 19 = .ok (.getfield 15, 3) := by decide +kernel
theorem d_BR_add_22 : decode prog_2_method_3_code 22 = .ok (.iconst 1, 1) := by decide +kernel
theorem d_BR_add_23 : decode prog_2_method_3_code 23 = .ok (.iadd, 1) := by decide +kernel
theorem d_BR_add_24 : decode prog_2_method_3_code 24 = .ok (.invokevirtual 26, 3) := by decide +kernel
theorem d_BR_add_27 : decode prog_2_method_3_code 27 = .ok (.aload_n 0, 1) := by decide +kernel
theorem d_BR_add_28 : decode prog_2_method_3_code 28 = .ok (.getfield 11, 3) := by decide +kernel
theorem d_BR_add_31 : decode prog_2_method_3_code 31 = .ok (.aload_n 0, 1) := by decide +kernel
theorem d_BR_add_32 : decode prog_2_method_3_code 32 = .ok (.getfield 15, 3) := by decide +kernel
theorem d_BR_add_35 : decode prog_2_method_3_code 35 = .ok (.iload_n 1, 1) := by decide +kernel
theorem d_BR_add_36 : decode prog_2_method_3_code 36 = .ok (.i2b, 1) := by decide +kernel
theorem d_BR_add_37 : decode prog_2_method_3_code 37 = .ok (.bastore, 1) := by decide +kernel
theorem d_BR_add_38 : decode prog_2_method_3_code 38 = .ok (.aload_n 0, 1) := by decide +kernel
theorem d_BR_add_39 : decode prog_2_method_3_code 39 = .ok (.dup, 1) := by decide +kernel
theorem d_BR_add_40 : decode prog_2_method_3_code 40 = .ok (.getfield 15, 3) := by decide +kernel
theorem d_BR_add_43 : decode prog_2_method_3_code 43 = .ok (.iconst 1, 1) := by decide +kernel
theorem d_BR_add_44 : decode prog_2_method_3_code 44 = .ok (.iadd, 1) := by decide +kernel
theorem d_BR_add_45 : decode prog_2_method_3_code 45 = .ok (.putfield 15, 3) := by decide +kernel
theorem d_BR_add_48 : decode prog_2_method_3_code 48 = .ok (.return_, 1) := by decide +kernel
theorem d_BR_addFour_0 : decode prog_2_method_4_code 0 = .ok (.aload_n 0, 1) := by decide +kernel
theorem d_BR_addFour_1 : decode prog_2_method_4_code 1 = .ok (.iload_n 1, 1) := by decide +kernel
theorem d_BR_addFour_2 : decode prog_2_method_4_code 2 = .ok (.bipush 24, 2) := by decide +kernel
theorem d_BR_addFour_4 : decode prog_2_method_4_code 4 = .ok (.iushr, 1) := by decide +kernel
theorem d_BR_addFour_5 : decode prog_2_method_4_code 5 = .ok (.invokevirtual 30, 3) := by decide +kernel
theorem d_BR_addFour_8 : decode prog_2_method_4_code 8 = .ok (.aload_n 0, 1) := by decide +kernel
theorem d_BR_addFour_9 : decode prog_2_method_4_code 9 = .ok (.iload_n 1, 1) := by decide +kernel
theorem d_BR_addFour_10 : decode prog_2_method_4_code 10 = .ok (.bipush 16, 2) := by decide +kernel
theorem d_BR_addFour_12 : decode prog_2_method_4_code 12 = .ok (.iushr, 1) := by decide +kernel
theorem d_BR_addFour_13 : decode prog_2_method_4_code 13 = .ok (.invokevirtual 30, 3) := by decide +kernel
theorem d_BR_addFour_16 : decode prog_2_method_4_code 16 = .ok (.aload_n 0, 1) := by decide +kernel
theorem d_BR_addFour_17 : decode prog_2_method_4_code 17 = .ok (.iload_n 1, 1) := by decide +kernel
theorem d_BR_addFour_18 : decode prog_2_method_4_code 18 = .ok (.bipush 8, 2) := by decide +kernel
theorem d_BR_addFour_20 : decode prog_2_method_4_code 20 = .ok (.iushr, 1) := by decide +kernel
theorem d_BR_addFour_21 : decode prog_2_method_4_code 21 = .ok (.invokevirtual 30, 3) := by decide +kernel
theorem d_BR_addFour_24 : decode prog_2_method_4_code 24 = .ok (.aload_n 0, 1) := by decide +kernel
theorem d_BR_addFour_25 : decode prog_2_method_4_code 25 = .ok (.iload_n 1, 1) := by decide +kernel
theorem d_BR_addFour_26 : decode prog_2_method_4_code 26 = .ok (.invokevirtual 30, 3) := by decide +kernel
theorem d_BR_addFour_29 : decode prog_2_method_4_code 29 = .ok (.return_, 1) := by decide +kernel
theorem d_BR_addRange_0 : decode prog_2_method_5_code 0 = .ok (.iload_n 3, 1) := by decide +kernel
theorem d_BR_addRange_1 : decode prog_2_method_5_code 1 = .ok (.iload_n 2, 1) := by decide +kernel
theorem d_BR_addRange_2 : decode prog_2_method_5_code 2 = .ok (.isub, 1) := by decide +kernel
theorem d_BR_addRange_3 : decode prog_2_method_5_code 3 = .ok (.istore 4, 2) := by decide +kernel
theorem d_BR_addRange_5 : decode prog_2_method_5_code 5 = .ok (.iload_n 2, 1) := by decide +kernel
theorem d_BR_addRange_6 : decode prog_2_method_5_code 6 = .ok (.ifCond .lt 18, 3) := by decide +kernel
theorem d_BR_addRange_9 : decode prog_2_method_5_code 9 = .ok (.iload 4, 2) := by decide +kernel
theorem d_BR_addRange_11 : decode prog_2_method_5_code 11 = .ok (.ifCond .lt 13, 3) := by decide +kernel
theorem d_BR_addRange_14 : decode prog_2_method_5_code 14 = .ok (.iload_n 3, 1) := by decide +kernel
theorem d_BR_addRange_15 : decode prog_2_method_5_code 15 = .ok (.aload_n 1, 1) := by decide +kernel
theorem d_BR_addRange_16 : decode prog_2_method_5_code 16 = .ok (.arraylength, 1) := by decide +kernel
theorem d_BR_addRange_17 : decode prog_2_method_5_code 17 = .ok (.if_icmp .gt 7, 3) := by decide +kernel
theorem d_BR_addRange_20 : decode prog_2_method_5_code 20 = .ok (.iconst 1, 1) := by decide +kernel
theorem d_BR_addRange_21 : decode prog_2_method_5_code 21 = .ok (.goto 4, 3) := by decide +kernel
theorem d_BR_addRange_24 : decode prog_2_method_5_code 24 = .ok (.iconst 0, 1) := by decide +kernel
theorem d_BR_addRange_25 : decode prog_2_method_5_code 25 = .ok (.istore 5, 2) := by decide +kernel
theorem d_BR_addRange_27 : decode prog_2_method_5_code 27 = .ok (.iload 5, 2) := by decide +kernel
theorem d_BR_addRange_29 : decode prog_2_method_5_code 29 = .ok (.ifCond .eq 17, 3) := by decide +kernel
theorem d_BR_addRange_32 : decode prog_2_method_5_code 32 = .ok (.iload 4, 2) := by decide +kernel
theorem d_BR_addRange_34 : decode prog_2_method_5_code 34 = .ok (.aload_n 0, 1) := by decide +kernel
theorem d_BR_addRange_35 : decode prog_2_method_5_code 35 = .ok (.getfield 23, 3) := by decide +kernel
theorem d_BR_addRange_38 : decode prog_2_method_5_code 38 = .ok (.aload_n 0, 1) := by decide +kernel
theorem d_BR_addRange_39 : decode prog_2_method_5_code 39 = .ok (.getfield 15, 3) := by decide +kernel
theorem d_BR_addRange_42 : decode prog_2_method_5_code 42 = .ok (.isub, 1) := by decide +kernel
theorem d_BR_addRange_43 : decode prog_2_method_5_code 43 = .ok (.if_icmp .le 9, 3) := by decide +kernel
theorem d_BR_addRange_46 : decode prog_2_method_5_code 46 = .ok (.aload_n 0, 1) := by decide +kernel
theorem d_BR_addRange_47 : decode prog_2_method_5_code 47 = .ok (.iconst 1, 1) := by decide +kernel
theorem d_BR_addRange_48 : decode prog_2_method_5_code 48 = .ok (.putfield 19, 3) := by decide +kernel
theorem d_BR_addRange_51 : decode prog_2_method_5_code 51 = .ok (.return_, 1) := by decide +kernel
theorem d_BR_addRange_52 : decode prog_2_method_5_code 52 = .ok (.aload_n 0, 1) := by decide +kernel
theorem d_BR_addRange_53 : decode prog_2_method_5_code 53 = .ok (.aload_n 0, 1) := by decide +kernel
theorem d_BR_addRange_54 : decode prog_2_method_5_code 54 = .ok (.getfield 15, 3) := by decide +kernel
theorem d_BR_addRange_57 : decode prog_2_method_5_code 57 = .ok (.iload 4, 2) := by decide +kernel
theorem d_BR_addRange_59 : decode prog_2_method_5_code 59 = .ok (.iadd, 1) := by decide +kernel
theorem d_BR_addRange_60 : decode prog_2_method_5_code 60 = .ok (.invokevirtual 26, 3) := by decide +kernel
theorem d_BR_addRange_63 : decode prog_2_method_5_code 63 = .ok (.aload_n 1, 1) := by decide +kernel
theorem d_BR_addRange_64 : decode prog_2_method_5_code 64 = .ok (.iload_n 2, 1) := by decide +kernel
theorem d_BR_addRange_65 : decode prog_2_method_5_code 65 = .ok (.aload_n 0, 1) := by decide +kernel
theorem d_BR_addRange_66 : decode prog_2_method_5_code 66 = .ok (.getfield 11, 3) := by decide +kernel
theorem d_BR_addRange_69 : decode prog_2_method_5_code 69 = .ok (.aload_n 0, 1) := by decide +kernel
theorem d_BR_addRange_70 : decode prog_2_method_5_code 70 = .ok (.getfield 15, 3) := by decide +kernel
theorem d_BR_addRange_73 : decode prog_2_method_5_code 73 = .ok (.iload 4, 2) := by decide +kernel
theorem d_BR_addRange_75 : decode prog_2_method_5_code 75 = .ok (.invokestatic 33, 3) := by decide +kernel
theorem d_BR_addRange_78 : decode prog_2_method_5_code 78 = .ok (.aload_n 0, 1) := by decide +kernel
theorem d_BR_addRange_79 : decode prog_2_method_5_code 79 = .ok (.dup, 1) := by decide +kernel
theorem d_BR_addRange_80 : decode prog_2_method_5_code 80 = .ok (.getfield 15, 3) := by decide +kernel
theorem d_BR_addRange_83 : decode prog_2_method_5_code 83 = .ok (.iload 4, 2) := by decide +kernel
theorem d_BR_addRange_85 : decode prog_2_method_5_code 85 = .ok (.iadd, 1) := by decide +kernel
theorem d_BR_addRange_86 : decode prog_2_method_5_code 86 = .ok (.putfield 15, 3) := by decide +kernel
theorem d_BR_addRange_89 : decode prog_2_method_5_code 89 = .ok (.return_, 1) := by decide +kernel
theorem d_BR_copy_0 : decode prog_2_method_6_code 0 = .ok (.aload_n 0, 1) := by decide +kernel
theorem d_BR_copy_1 : decode prog_2_method_6_code 1 = .ok (.invokevirtual 39, 3) := by decide +kernel
theorem d_BR_copy_4 : decode prog_2_method_6_code 4 = .ok (.aload_n 0, 1) := by decide +kernel
theorem d_BR_copy_5 : decode prog_2_method_6_code 5 = .ok (.aload_n 1, 1) := by decide +kernel
theorem d_BR_copy_6 : decode prog_2_method_6_code 6 = .ok (.getfield 11, 3) := by decide +kernel
theorem d_BR_copy_9 : decode prog_2_method_6_code 9 = .ok (.iconst 0, 1) := by decide +kernel
theorem d_BR_copy_10 : decode prog_2_method_6_code 10 = .ok (.aload_n 1, 1) := by decide +kernel
theorem d_BR_copy_11 : decode prog_2_method_6_code 11 = .ok (.getfield 15, 3) := by decide +kernel
theorem d_BR_copy_14 : decode prog_2_method_6_code 14 = .ok (.invokevirtual 42, 3) := by decide +kernel
theorem d_BR_copy_17 : decode prog_2_method_6_code 17 = .ok (.return_, 1) := by decide +kernel
theorem d_BR_byteAt_0 : decode prog_2_method_7_code 0 = .ok (.iload_n 1, 1) := by decide +kernel
theorem d_BR_byteAt_1 : decode prog_2_method_7_code 1 = .ok (.ifCond .lt 24, 3) := by decide +kernel
theorem d_BR_byteAt_4 : decode prog_2_method_7_code 4 = .ok (.iload_n 1, 1) := by decide +kernel
theorem d_BR_byteAt_5 : decode prog_2_method_7_code 5 = .ok (.aload_n 0, 1) := by decide +kernel
theorem d_BR_byteAt_6 : decode prog_2_method_7_code 6 = .ok (.getfield 15, 3) := by decide +kernel
theorem d_BR_byteAt_9 : decode prog_2_method_7_code 9 = .ok (.if_icmp .ge 16, 3) := by decide +kernel
theorem d_BR_byteAt_12 : decode prog_2_method_7_code 12 = .ok (.aload_n 0, 1) := by decide +kernel
theorem d_BR_byteAt_13 : decode prog_2_method_7_code 13 = .ok (.getfield 11, 3) := by decide +kernel
theorem d_BR_byteAt_16 : decode prog_2_method_7_code 16 = .ok (.iload_n 1, 1) := by decide +kernel
theorem d_BR_byteAt_17 : decode prog_2_method_7_code 17 = .ok (.baload, 1) := by decide +kernel
theorem d_BR_byteAt_18 : decode prog_2_method_7_code 18 = .ok (.sipush 255, 3) := by decide +kernel
theorem d_BR_byteAt_21 : decode prog_2_method_7_code 21 = .ok (.iand, 1) := by decide +kernel
theorem d_BR_byteAt_22 : decode prog_2_method_7_code 22 = .ok (.goto 4, 3) := by decide +kernel
theorem d_BR_byteAt_25 : decode prog_2_method_7_code 25 = .ok (.iconst (-1), 1) := by decide +kernel
theorem d_BR_byteAt_26 : decode prog_2_method_7_code 26 = .ok (.ireturn, 1) := by decide +kernel
theorem d_BR_makeRoom_0 : decode prog_2_method_8_code 0 = .ok (.iload_n 1, 1) := by decide +kernel
theorem d_BR_makeRoom_1 : decode prog_2_method_8_code 1 = .ok (.aload_n 0, 1) := by decide +kernel
theorem d_BR_makeRoom_2 : decode prog_2_method_8_code 2 = .ok (.getfield 11, 3) := by decide +kernel
theorem d_BR_makeRoom_5 : decode prog_2_method_8_code 5 = .ok (.arraylength, 1) := by decide +kernel
theorem d_BR_makeRoom_6 : decode prog_2_method_8_code 6 = .ok (.if_icmp .le 25, 3) := by decide +kernel
theorem d_BR_makeRoom_9 : decode prog_2_method_8_code 9 = .ok (.aload_n 0, 1) := by decide +kernel
theorem d_BR_makeRoom_10 : decode prog_2_method_8_code 10 = .ok (.aload_n 0, 1) := by decide +kernel
theorem d_BR_makeRoom_11 : decode prog_2_method_8_code 11 = .ok (.getfield 11, 3) := by decide +kernel
theorem d_BR_makeRoom_14 : decode prog_2_method_8_code 14 = .ok (.iload_n 1, 1) := by decide +kernel
theorem d_BR_makeRoom_15 : decode prog_2_method_8_code 15 = .ok (.iconst 2, 1) := by decide +kernel
theorem d_BR_makeRoom_16 : decode prog_2_method_8_code 16 = .ok (.aload_n 0, 1) := by decide +kernel
theorem d_BR_makeRoom_17 : decode prog_2_method_8_code 17 = .ok (.getfield 11, 3) := by decide +kernel
theorem d_BR_makeRoom_20 : decode prog_2_method_8_code 20 = .ok (.arraylength, 1) := by decide +kernel
theorem d_BR_makeRoom_21 : decode prog_2_method_8_code 21 = .ok (.imul, 1) := by decide +kernel
theorem d_BR_makeRoom_22 : decode prog_2_method_8_code 22 = .ok (.invokestatic 46, 3) := by decide +kernel
theorem d_BR_makeRoom_25 : decode prog_2_method_8_code 25 = .ok (.invokestatic 52, 3) := by decide +kernel
theorem d_BR_makeRoom_28 : decode prog_2_method_8_code 28 = .ok (.putfield 11, 3) := by decide +kernel
theorem d_BR_makeRoom_31 : decode prog_2_method_8_code 31 = .ok (.return_, 1) := by decide +kernel
