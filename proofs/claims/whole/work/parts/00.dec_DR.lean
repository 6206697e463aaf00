theorem d_DR_init_0 : decode prog_3_method_1_code 0 = .ok (.aload_n 0, 1) := by decide +kernel
theorem d_DR_init_1 : decode prog_3_method_1_code 1 = .ok (.invokespecial 3, 3) := by decide +kernel
theorem d_DR_init_4 : decode prog_3_method_1_code 4 = .ok (.aload_n 0, 1) := by decide +kernel
theorem d_DR_init_5 : decode prog_3_method_1_code 5 = .ok (.iconst 0, 1) := by decide +kernel
theorem d_DR_init_6 : decode prog_3_method_1_code 6 = .ok (.newarray .int, 2) := by decide +kernel
theorem d_DR_init_8 : decode prog_3_method_1_code 8 = .ok (.putfield 9, 3) := by decide +kernel
theorem d_DR_init_11 : decode prog_3_method_1_code 11 = .ok (.aload_n 0, 1) := by decide +kernel
theorem d_DR_init_12 : decode prog_3_method_1_code 12 = .ok (.iconst 0, 1) := by decide +kernel
theorem d_DR_init_13 : decode prog_3_method_1_code 13 = .ok (.newarray .int, 2) := by decide +kernel
theorem d_DR_init_15 : decode prog_3_method_1_code 15 = .ok (.putfield 15, 3) := by decide +kernel
theorem d_DR_init_18 : decode prog_3_method_1_code 18 = .ok (.aload_n 0, 1) := by decide +kernel
theorem d_DR_init_19 : decode prog_3_method_1_code 19 = .ok (.iconst 0, 1) := by decide +kernel
theorem d_DR_init_20 : decode prog_3_method_1_code 20 = .ok (.newarray .int, 2) := by decide +kernel
theorem d_DR_init_22 : decode prog_3_method_1_code 22 = .ok (.putfield 18, 3) := by decide +kernel
theorem d_DR_init_25 : decode prog_3_method_1_code 25 = .ok (.aload_n 0, 1) := by decide +kernel
theorem d_DR_init_26 : decode prog_3_method_1_code 26 = .ok (.iconst 0, 1) := by decide +kernel
theorem d_DR_init_27 : decode prog_3_method_1_code 27 = .ok (.newarray .int, 2) := by decide +kernel
theorem d_DR_init_29 : decode prog_3_method_1_code 29 = .ok (.putfield 21, 3) := by decide +kernel
theorem d_DR_init_32 : decode prog_3_method_1_code 32 = .ok (.aload_n 0, 1) := by decide +kernel
theorem d_DR_init_33 : decode prog_3_method_1_code 33 = .ok (.iconst 0, 1) := by decide +kernel
theorem d_DR_init_34 : decode prog_3_method_1_code 34 = .ok (.putfield 24, 3) := by decide +kernel
theorem d_DR_init_37 : decode prog_3_method_1_code 37 = .ok (.return_, 1) := by decide +kernel
theorem d_DR_begin_0 : decode prog_3_method_2_code 0 = .ok (.iload_n 1, 1) := by decide +kernel
theorem d_DR_begin_1 : decode prog_3_method_2_code 1 = .ok (.aload_n 0, 1) := by decide +kernel
theorem d_DR_begin_2 : decode prog_3_method_2_code 2 = .ok (.getfield 9, 3) := by decide +kernel
theorem d_DR_begin_5 : decode prog_3_method_2_code 5 = .ok (.arraylength, 1) := by decide +kernel
theorem d_DR_begin_6 : decode prog_3_method_2_code 6 = .ok (.if_icmp .le 41, 3) := by decide +kernel
theorem d_DR_begin_9 : decode prog_3_method_2_code 9 = .ok (.aload_n 0, 1) := by decide +kernel
theorem d_DR_begin_10 : decode prog_3_method_2_code 10 = .ok (.getfield 9, 3) := by decide +kernel
theorem d_DR_begin_13 : decode prog_3_method_2_code 13 = .ok (.arraylength, 1) := by decide +kernel
theorem d_DR_begin_14 : decode prog_3_method_2_code 14 = .ok (.iload_n 1, 1) := by decide +kernel
theorem d_DR_begin_15 : decode prog_3_method_2_code 15 = .ok (.invokestatic 28, 3) := by decide +kernel
theorem d_DR_begin_18 : decode prog_3_method_2_code 18 = .ok (.istore_n 2, 1) := by decide +kernel
theorem d_DR_begin_19 : decode prog_3_method_2_code 19 = .ok (.aload_n 0, 1) := by decide +kernel
theorem d_DR_begin_20 : decode prog_3_method_2_code 20 = .ok (.iload_n 2, 1) := by decide +kernel
theorem d_DR_begin_21 : decode prog_3_method_2_code 21 = .ok (.newarray .int, 2) := by decide +kernel
theorem d_DR_begin_23 : decode prog_3_method_2_code 23 = .ok (.putfield 9, 3) := by decide +kernel
theorem d_DR_begin_26 : decode prog_3_method_2_code 26 = .ok (.aload_n 0, 1) := by decide +kernel
theorem d_DR_begin_27 : decode prog_3_method_2_code 27 = .ok (.iload_n 2, 1) := by decide +kernel
theorem d_DR_begin_28 : decode prog_3_method_2_code 28 = .ok (.newarray .int, 2) := by decide +kernel
theorem d_DR_begin_30 : decode prog_3_method_2_code 30 = .ok (.putfield 15, 3) := by decide +kernel
theorem d_DR_begin_33 : decode prog_3_method_2_code 33 = .ok (.aload_n 0, 1) := by decide +kernel
theorem d_DR_begin_34 : decode prog_3_method_2_code 34 = .ok (.iload_n 2, 1) := by decide +kernel
theorem d_DR_begin_35 : decode prog_3_method_2_code 35 = .ok (.newarray .int, 2) := by decide +kernel
theorem d_DR_begin_37 : decode prog_3_method_2_code 37 = .ok (.putfield 18, 3) := by decide +kernel
theorem d_DR_begin_40 : decode prog_3_method_2_code 40 = .ok (.aload_n 0, 1) := by decide +kernel
theorem d_DR_begin_41 : decode prog_3_method_2_code 41 = .ok (.iload_n 2, 1) := by decide +kernel
theorem d_DR_begin_42 : decode prog_3_method_2_code 42 = .ok (.newarray .int, 2) := by decide +kernel
theorem d_DR_begin_44 : decode prog_3_method_2_code 44 = .ok (.putfield 21, 3) := by decide +kernel
theorem d_DR_begin_47 : decode prog_3_method_2_code 47 = .ok (.aload_n 0, 1) := by decide +kernel
theorem d_DR_begin_48 : decode prog_3_method_2_code 48 = .ok (.iconst 0, 1) := by decide +kernel
theorem d_DR_begin_49 : decode prog_3_method_2_code 49 = .ok (.putfield 24, 3) := by decide +kernel
theorem d_DR_begin_52 : decode prog_3_method_2_code 52 = .ok (.return_, 1) := by decide +kernel
theorem d_DR_add_0 : decode prog_3_method_3_code 0 = .ok (.aload_n 0, 1) := by decide +kernel
theorem d_DR_add_1 : decode prog_3_method_3_code 1 = .ok (.getfield 24, 3) := by decide +kernel
theorem d_DR_add_4 : decode prog_3_method_3_code 4 = .ok (.aload_n 0, 1) := by decide +kernel
theorem d_DR_add_5 : decode prog_3_method_3_code 5 = .ok (.getfield 9, 3) := by decide +kernel
theorem d_DR_add_8 : decode prog_3_method_3_code 8 = .ok (.arraylength, 1) := by decide +kernel
theorem d_DR_add_9 : decode prog_3_method_3_code 9 = .ok (.if_icmp .ge 54, 3) := by decide +kernel
theorem d_DR_add_12 : decode prog_3_method_3_code 12 = .ok (.aload_n 0, 1) := by decide +kernel
theorem d_DR_add_13 : decode prog_3_method_3_code 13 = .ok (.getfield 9, 3) := by decide +kernel
theorem d_DR_add_16 : decode prog_3_method_3_code 16 = .ok (.aload_n 0, 1) := by decide +kernel
theorem d_DR_add_17 : decode prog_3_method_3_code 17 = .ok (.getfield 24, 3) := by decide +kernel
theorem d_DR_add_20 : decode prog_3_method_3_code 20 = .ok (.iload_n 1, 1) := by decide +kernel
theorem d_DR_add_21 : decode prog_3_method_3_code 21 = .ok (.iastore, 1) := by decide +kernel
theorem d_DR_add_22 : decode prog_3_method_3_code 22 = .ok (.aload_n 0, 1) := by decide +kernel
theorem d_DR_add_23 : decode prog_3_method_3_code 23 = .ok (.getfield 15, 3) := by decide +kernel
theorem d_DR_add_26 : decode prog_3_method_3_code 26 = .ok (.aload_n 0, 1) := by decide +kernel
theorem d_DR_add_27 : decode prog_3_method_3_code 27 = .ok (.getfield 24, 3) := by decide +kernel
theorem d_DR_add_30 : decode prog_3_method_3_code 30 = .ok (.iload_n 2, 1) := by decide +kernel
theorem d_DR_add_31 : decode prog_3_method_3_code 31 = .ok (.iastore, 1) := by decide +kernel
theorem d_DR_add_32 : decode prog_3_method_3_code 32 = .ok (.aload_n 0, 1) := by decide +kernel
theorem d_DR_add_33 : decode prog_3_method_3_code 33 = .ok (.getfield 18, 3) := by decide +kernel
theorem d_DR_add_36 : decode prog_3_method_3_code 36 = .ok (.aload_n 0, 1) := by decide +kernel
theorem d_DR_add_37 : decode prog_3_method_3_code 37 = .ok (.getfield 24, 3) := by decide +kernel
theorem d_DR_add_40 : decode prog_3_method_3_code 40 = .ok (.iload_n 3, 1) := by decide +kernel
theorem d_DR_add_41 : decode prog_3_method_3_code 41 = .ok (.iastore, 1) := by decide +kernel
theorem d_DR_add_42 : decode prog_3_method_3_code 42 = .ok (.aload_n 0, 1) := by decide +kernel
theorem d_DR_add_43 : decode prog_3_method_3_code 43 = .ok (.getfield 21, 3) := by decide +kernel
theorem d_DR_add_46 : decode prog_3_method_3_code 46 = .ok (.aload_n 0, 1) := by decide +kernel
theorem d_DR_add_47 : decode prog_3_method_3_code 47 = .ok (.getfield 24, 3) := by decide +kernel
theorem d_DR_add_50 : decode prog_3_method_3_code 50 = .ok (.iload 4, 2) := by decide +kernel
theorem d_DR_add_52 : decode prog_3_method_3_code 52 = .ok (.iastore, 1) := by decide +kernel
theorem d_DR_add_53 : decode prog_3_method_3_code 53 = .ok (.aload_n 0, 1) := by decide +kernel
theorem d_DR_add_54 : decode prog_3_method_3_code 54 = .ok (.dup, 1) := by decide +kernel
theorem d_DR_add_55 : decode prog_3_method_3_code 55 = .ok (.getfield 24, 3) := by decide +kernel
theorem d_DR_add_58 : decode prog_3_method_3_code 58 = .ok (.iconst 1, 1) := by decide +kernel
theorem d_DR_add_59 : decode prog_3_method_3_code 59 = .ok (.iadd, 1) := by decide +kernel
theorem d_DR_add_60 : decode prog_3_method_3_code 60 = .ok (.putfield 24, 3) := by decide +kernel
theorem d_DR_add_63 : decode prog_3_method_3_code 63 = .ok (.return_, 1) := by decide +kernel
theorem d_DR_lastPlace_0 : decode prog_3_method_4_code 0 = .ok (.aload_n 0, 1) := by decide +kernel
theorem d_DR_lastPlace_1 : decode prog_3_method_4_code 1 = .ok (.getfield 24, 3) := by decide +kernel
theorem d_DR_lastPlace_4 : decode prog_3_method_4_code 4 = .ok (.ifCond .le 17, 3) := by decide +kernel
theorem d_DR_lastPlace_7 : decode prog_3_method_4_code 7 = .ok (.aload_n 0, 1) := by decide +kernel
theorem d_DR_lastPlace_8 : decode prog_3_method_4_code 8 = .ok (.getfield 15, 3) := by decide +kernel
theorem d_DR_lastPlace_11 : decode prog_3_method_4_code 11 = .ok (.aload_n 0, 1) := by decide +kernel
theorem d_DR_lastPlace_12 : decode prog_3_method_4_code 12 = .ok (.getfield 24, 3) := by decide +kernel
theorem d_DR_lastPlace_15 : decode prog_3_method_4_code 15 = .ok (.iconst 1, 1) := by decide +kernel
theorem d_DR_lastPlace_16 : decode prog_3_method_4_code 16 = .ok (.isub, 1) := by decide +kernel
theorem d_DR_lastPlace_17 : decode prog_3_method_4_code 17 = .ok (.iaload, 1) := by decide +kernel
theorem d_DR_lastPlace_18 : decode prog_3_method_4_code 18 = .ok (.goto 4, 3) := by decide +kernel
theorem d_DR_lastPlace_21 : decode prog_3_method_4_code 21 = .ok (.iconst (-1), 1) := by decide +kernel
theorem d_DR_lastPlace_22 : decode prog_3_method_4_code 22 = .ok (.ireturn, 1) := by decide +kernel
