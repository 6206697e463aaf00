theorem d_NA_init_0 : decode prog_5_method_1_code 0 = .ok (.aload_n 0, 1) := by decide +kernel
theorem d_NA_init_1 : decode prog_5_method_1_code 1 = .ok (.invokespecial 3, 3) := by decide +kernel
theorem d_NA_init_4 : decode prog_5_method_1_code 4 = .ok (.aload_n 0, 1) := by decide +kernel
theorem d_NA_init_5 : decode prog_5_method_1_code 5 = .ok (.iconst 0, 1) := by decide +kernel
theorem d_NA_init_6 : decode prog_5_method_1_code 6 = .ok (.putfield 9, 3) := by decide +kernel
theorem d_NA_init_9 : decode prog_5_method_1_code 9 = .ok (.aload_n 0, 1) := by decide +kernel
theorem d_NA_init_10 : decode prog_5_method_1_code 10 = .ok (.new 15, 3) := by decide +kernel
theorem d_NA_init_13 : decode prog_5_method_1_code 13 = .ok (.dup, 1) := by decide +kernel
theorem d_NA_init_14 : decode prog_5_method_1_code 14 = .ok (.sipush 16384, 3) := by decide +kernel
theorem d_NA_init_17 : decode prog_5_method_1_code 17 = .ok (.invokespecial 17, 3) := by decide +kernel
theorem d_NA_init_20 : decode prog_5_method_1_code 20 = .ok (.putfield 20, 3) := by decide +kernel
theorem d_NA_init_23 : decode prog_5_method_1_code 23 = .ok (.aload_n 0, 1) := by decide +kernel
theorem d_NA_init_24 : decode prog_5_method_1_code 24 = .ok (.bipush 16, 2) := by decide +kernel
theorem d_NA_init_26 : decode prog_5_method_1_code 26 = .ok (.newarray .int, 2) := by decide +kernel
theorem d_NA_init_28 : decode prog_5_method_1_code 28 = .ok (.putfield 24, 3) := by decide +kernel
theorem d_NA_init_31 : decode prog_5_method_1_code 31 = .ok (.aload_n 0, 1) := by decide +kernel
theorem d_NA_init_32 : decode prog_5_method_1_code 32 = .ok (.bipush 16, 2) := by decide +kernel
theorem d_NA_init_34 : decode prog_5_method_1_code 34 = .ok (.newarray .int, 2) := by decide +kernel
theorem d_NA_init_36 : decode prog_5_method_1_code 36 = .ok (.putfield 28, 3) := by decide +kernel
theorem d_NA_init_39 : decode prog_5_method_1_code 39 = .ok (.aload_n 0, 1) := by decide +kernel
theorem d_NA_init_40 : decode prog_5_method_1_code 40 = .ok (.bipush 16, 2) := by decide +kernel
theorem d_NA_init_42 : decode prog_5_method_1_code 42 = .ok (.newarray .int, 2) := by decide +kernel
theorem d_NA_init_44 : decode prog_5_method_1_code 44 = .ok (.putfield 31, 3) := by decide +kernel
theorem d_NA_init_47 : decode prog_5_method_1_code 47 = .ok (.aload_n 0, 1) := by decide +kernel
theorem d_NA_init_48 : decode prog_5_method_1_code 48 = .ok (.getfield 31, 3) := by decide +kernel
theorem d_NA_init_51 : decode prog_5_method_1_code 51 = .ok (.iconst (-1), 1) := by decide +kernel
theorem d_NA_init_52 : decode prog_5_method_1_code 52 = .ok (.invokestatic 34, 3) := by decide +kernel
theorem d_NA_init_55 : decode prog_5_method_1_code 55 = .ok (.return_, 1) := by decide +kernel
theorem d_NA_byteOf_0 : decode prog_5_method_2_code 0 = .ok (.iload_n 1, 1) := by decide +kernel
theorem d_NA_byteOf_1 : decode prog_5_method_2_code 1 = .ok (.ifCond .lt 31, 3) := by decide +kernel
theorem d_NA_byteOf_4 : decode prog_5_method_2_code 4 = .ok (.iload_n 1, 1) := by decide +kernel
theorem d_NA_byteOf_5 : decode prog_5_method_2_code 5 = .ok (.aload_n 0, 1) := by decide +kernel
theorem d_NA_byteOf_6 : decode prog_5_method_2_code 6 = .ok (.getfield 9, 3) := by decide +kernel
theorem d_NA_byteOf_9 : decode prog_5_method_2_code 9 = .ok (.if_icmp .ge 23, 3) := by decide +kernel
theorem d_NA_byteOf_12 : decode prog_5_method_2_code 12 = .ok (.iload_n 2, 1) := by decide +kernel
theorem d_NA_byteOf_13 : decode prog_5_method_2_code 13 = .ok (.ifCond .lt 19, 3) := by decide +kernel
theorem d_NA_byteOf_16 : decode prog_5_method_2_code 16 = .ok (.iload_n 2, 1) := by decide +kernel
theorem d_NA_byteOf_17 : decode prog_5_method_2_code 17 = .ok (.aload_n 0, 1) := by decide +kernel
theorem d_NA_byteOf_18 : decode prog_5_method_2_code 18 = .ok (.getfield 24, 3) := by decide +kernel
theorem d_NA_byteOf_21 : decode prog_5_method_2_code 21 = .ok (.iload_n 1, 1) := by decide +kernel
theorem d_NA_byteOf_22 : decode prog_5_method_2_code 22 = .ok (.iaload, 1) := by decide +kernel
theorem d_NA_byteOf_23 : decode prog_5_method_2_code 23 = .ok (.aload_n 0, 1) := by decide +kernel
theorem d_NA_byteOf_24 : decode prog_5_method_2_code 24 = .ok (.iload_n 1, 1) := by decide +kernel
theorem d_NA_byteOf_25 : decode prog_5_method_2_code 25 = .ok (.invokevirtual 40, 3) := by decide +kernel
theorem d_NA_byteOf_28 : decode prog_5_method_2_code 28 = .ok (.isub, 1) := by decide +kernel
theorem d_NA_byteOf_29 : decode prog_5_method_2_code 29 = .ok (.if_icmp .lt 5, 3) := by decide +kernel
theorem d_NA_byteOf_32 : decode prog_5_method_2_code 32 = .ok (.iconst (-1), 1) := by decide +kernel
theorem d_NA_byteOf_33 : decode prog_5_method_2_code 33 = .ok (.ireturn, 1) := by decide +kernel
theorem d_NA_byteOf_34 : decode prog_5_method_2_code 34 = .ok (.aload_n 0, 1) := by decide +kernel
theorem d_NA_byteOf_35 : decode prog_5_method_2_code 35 = .ok (.getfield 20, 3) := by decide +kernel
theorem d_NA_byteOf_38 : decode prog_5_method_2_code 38 = .ok (.aload_n 0, 1) := by decide +kernel
theorem d_NA_byteOf_39 : decode prog_5_method_2_code 39 = .ok (.iload_n 1, 1) := by decide +kernel
theorem d_NA_byteOf_40 : decode prog_5_method_2_code 40 = .ok (.invokevirtual 40, 3) := by decide +kernel
theorem d_NA_byteOf_43 : decode prog_5_method_2_code 43 = .ok (.iload_n 2, 1) := by decide +kernel
theorem d_NA_byteOf_44 : decode prog_5_method_2_code 44 = .ok (.iadd, 1) := by decide +kernel
theorem d_NA_byteOf_45 : decode prog_5_method_2_code 45 = .ok (.invokevirtual 44, 3) := by decide +kernel
theorem d_NA_byteOf_48 : decode prog_5_method_2_code 48 = .ok (.ireturn, 1) := by decide +kernel
theorem d_NA_numberOf_0 : decode prog_5_method_3_code 0 = .ok (.aload_n 0, 1) := by decide +kernel
theorem d_NA_numberOf_1 : decode prog_5_method_3_code 1 = .ok (.getfield 31, 3) := by decide +kernel
theorem d_NA_numberOf_4 : decode prog_5_method_3_code 4 = .ok (.aload_n 0, 1) := by decide +kernel
theorem d_NA_numberOf_5 : decode prog_5_method_3_code 5 = .ok (.aload_n 1, 1) := by decide +kernel
theorem d_NA_numberOf_6 : decode prog_5_method_3_code 6 = .ok (.iload_n 2, 1) := by decide +kernel
theorem d_NA_numberOf_7 : decode prog_5_method_3_code 7 = .ok (.iload_n 3, 1) := by decide +kernel
theorem d_NA_numberOf_8 : decode prog_5_method_3_code 8 = .ok (.invokevirtual 47, 3) := by decide +kernel
theorem d_NA_numberOf_11 : decode prog_5_method_3_code 11 = .ok (.iaload, 1) := by decide +kernel
theorem d_NA_numberOf_12 : decode prog_5_method_3_code 12 = .ok (.istore 4, 2) := by decide +kernel
theorem d_NA_numberOf_14 : decode prog_5_method_3_code 14 = .ok (.iconst 0, 1) := by decide +kernel
theorem d_NA_numberOf_15 : decode prog_5_method_3_code 15 = .ok (.istore 5, 2) := by decide +kernel
theorem d_NA_numberOf_17 : decode prog_5_method_3_code 17 = .ok (.iload 5, 2) := by decide +kernel
theorem d_NA_numberOf_19 : decode prog_5_method_3_code 19 = .ok (.aload_n 0, 1) := by decide +kernel
theorem d_NA_numberOf_20 : decode prog_5_method_3_code 20 = .ok (.getfield 9, 3) := by decide +kernel
theorem d_NA_numberOf_23 : decode prog_5_method_3_code 23 = .ok (.if_icmp .ge 39, 3) := by decide +kernel
theorem d_NA_numberOf_26 : decode prog_5_method_3_code 26 = .ok (.iload 4, 2) := by decide +kernel
theorem d_NA_numberOf_28 : decode prog_5_method_3_code 28 = .ok (.iconst (-1), 1) := by decide +kernel
theorem d_NA_numberOf_29 : decode prog_5_method_3_code 29 = .ok (.if_icmp .eq 33, 3) := by decide +kernel
theorem d_NA_numberOf_32 : decode prog_5_method_3_code 32 = .ok (.aload_n 0, 1) := by decide +kernel
theorem d_NA_numberOf_33 : decode prog_5_method_3_code 33 = .ok (.iload 4, 2) := by decide +kernel
theorem d_NA_numberOf_35 : decode prog_5_method_3_code 35 = .ok (.aload_n 1, 1) := by decide +kernel
theorem d_NA_numberOf_36 : decode prog_5_method_3_code 36 = .ok (.iload_n 2, 1) := by decide +kernel
theorem d_NA_numberOf_37 : decode prog_5_method_3_code 37 = .ok (.iload_n 3, 1) := by decide +kernel
theorem d_NA_numberOf_38 : decode prog_5_method_3_code 38 = .ok (.invokevirtual 51, 3) := by decide +kernel
theorem d_NA_numberOf_41 : decode prog_5_method_3_code 41 = .ok (.ifCond .eq 6, 3) := by decide +kernel
theorem d_NA_numberOf_44 : decode prog_5_method_3_code 44 = .ok (.iload 4, 2) := by decide +kernel
theorem d_NA_numberOf_46 : decode prog_5_method_3_code 46 = .ok (.ireturn, 1) := by decide +kernel
theorem d_NA_numberOf_47 : decode prog_5_method_3_code 47 = .ok (.aload_n 0, 1) := by decide +kernel
theorem d_NA_numberOf_48 : decode prog_5_method_3_code 48 = .ok (.getfield 28, 3) := by decide +kernel
theorem d_NA_numberOf_51 : decode prog_5_method_3_code 51 = .ok (.iload 4, 2) := by decide +kernel
theorem d_NA_numberOf_53 : decode prog_5_method_3_code 53 = .ok (.iaload, 1) := by decide +kernel
theorem d_NA_numberOf_54 : decode prog_5_method_3_code 54 = .ok (.istore 4, 2) := by decide +kernel
theorem d_NA_numberOf_56 : decode prog_5_method_3_code 56 = .ok (.iinc 5 1, 3) := by decide +kernel
theorem d_NA_numberOf_59 : decode prog_5_method_3_code 59 = .ok (.goto (-42), 3) := by decide +kernel
theorem d_NA_numberOf_62 : decode prog_5_method_3_code 62 = .ok (.aload_n 0, 1) := by decide +kernel
theorem d_NA_numberOf_63 : decode prog_5_method_3_code 63 = .ok (.aload_n 1, 1) := by decide +kernel
theorem d_NA_numberOf_64 : decode prog_5_method_3_code 64 = .ok (.iload_n 2, 1) := by decide +kernel
theorem d_NA_numberOf_65 : decode prog_5_method_3_code 65 = .ok (.iload_n 3, 1) := by decide +kernel
theorem d_NA_numberOf_66 : decode prog_5_method_3_code 66 = .ok (.invokevirtual 55, 3) := by decide +kernel
theorem d_NA_numberOf_69 : decode prog_5_method_3_code 69 = .ok (.ireturn, 1) := by decide +kernel
theorem d_NA_spell_0 : decode prog_5_method_4_code 0 = .ok (.iload_n 1, 1) := by decide +kernel
theorem d_NA_spell_1 : decode prog_5_method_4_code 1 = .ok (.ifCond .lt 33, 3) := by decide +kernel
theorem d_NA_spell_4 : decode prog_5_method_4_code 4 = .ok (.iload_n 1, 1) := by decide +kernel
theorem d_NA_spell_5 : decode prog_5_method_4_code 5 = .ok (.aload_n 0, 1) := by decide +kernel
theorem d_NA_spell_6 : decode prog_5_method_4_code 6 = .ok (.getfield 9, 3) := by decide +kernel
theorem d_NA_spell_9 : decode prog_5_method_4_code 9 = .ok (.if_icmp .ge 25, 3) := by decide +kernel
theorem d_NA_spell_12 : decode prog_5_method_4_code 12 = .ok (.aload_n 2, 1) := by decide +kernel
theorem d_NA_spell_13 : decode prog_5_method_4_code 13 = .ok (.aload_n 0, 1) := by decide +kernel
theorem d_NA_spell_14 : decode prog_5_method_4_code 14 = .ok (.getfield 20, 3) := by decide +kernel
theorem d_NA_spell_17 : decode prog_5_method_4_code 17 = .ok (.getfield 58, 3) := by decide +kernel
theorem d_NA_spell_20 : decode prog_5_method_4_code 20 = .ok (.aload_n 0, 1) := by decide +kernel
theorem d_NA_spell_21 : decode prog_5_method_4_code 21 = .ok (.iload_n 1, 1) := by decide +kernel
theorem d_NA_spell_22 : decode prog_5_method_4_code 22 = .ok (.invokevirtual 40, 3) := by decide +kernel
theorem d_NA_spell_25 : decode prog_5_method_4_code 25 = .ok (.aload_n 0, 1) := by decide +kernel
theorem d_NA_spell_26 : decode prog_5_method_4_code 26 = .ok (.getfield 24, 3) := by decide +kernel
theorem d_NA_spell_29 : decode prog_5_method_4_code 29 = .ok (.iload_n 1, 1) := by decide +kernel
theorem d_NA_spell_30 : decode prog_5_method_4_code 30 = .ok (.iaload, 1) := by decide +kernel
theorem d_NA_spell_31 : decode prog_5_method_4_code 31 = .ok (.invokevirtual 62, 3) := by decide +kernel
theorem d_NA_spell_34 : decode prog_5_method_4_code 34 = .ok (.return_, 1) := by decide +kernel
theorem d_NA_start_0 : decode prog_5_method_5_code 0 = .ok (.iload_n 1, 1) := by decide +kernel
theorem d_NA_start_1 : decode prog_5_method_5_code 1 = .ok (.ifCond .ne 7, 3) := by decide +kernel
theorem d_NA_start_4 : decode prog_5_method_5_code 4 = .ok (.iconst 0, 1) := by decide +kernel
theorem d_NA_start_5 : decode prog_5_method_5_code 5 = .ok (.goto 11, 3) := by decide +kernel
theorem d_NA_start_8 : decode prog_5_method_5_code 8 = .ok (.aload_n 0, 1) := by decide +kernel
theorem d_NA_start_9 : decode prog_5_method_5_code 9 = .ok (.getfield 24, 3) := by decide +kernel
theorem d_NA_start_12 : decode prog_5_method_5_code 12 = .ok (.iload_n 1, 1) := by decide +kernel
theorem d_NA_start_13 : decode prog_5_method_5_code 13 = .ok (.iconst 1, 1) := by decide +kernel
theorem d_NA_start_14 : decode prog_5_method_5_code 14 = .ok (.isub, 1) := by decide +kernel
theorem d_NA_start_15 : decode prog_5_method_5_code 15 = .ok (.iaload, 1) := by decide +kernel
theorem d_NA_start_16 : decode prog_5_method_5_code 16 = .ok (.ireturn, 1) := by decide +kernel
theorem d_NA_isSpelt_0 : decode prog_5_method_6_code 0 = .ok (.aload_n 0, 1) := by decide +kernel
theorem d_NA_isSpelt_1 : decode prog_5_method_6_code 1 = .ok (.iload_n 1, 1) := by decide +kernel
theorem d_NA_isSpelt_2 : decode prog_5_method_6_code 2 = .ok (.invokevirtual 40, 3) := by decide +kernel
theorem d_NA_isSpelt_5 : decode prog_5_method_6_code 5 = .ok (.istore 5, 2) := by decide +kernel
theorem d_NA_isSpelt_7 : decode prog_5_method_6_code 7 = .ok (.aload_n 0, 1) := by decide +kernel
theorem d_NA_isSpelt_8 : decode prog_5_method_6_code 8 = .ok (.getfield 24, 3) := by decide +kernel
theorem d_NA_isSpelt_11 : decode prog_5_method_6_code 11 = .ok (.iload_n 1, 1) := by decide +kernel
theorem d_NA_isSpelt_12 : decode prog_5_method_6_code 12 = .ok (.iaload, 1) := by decide +kernel
theorem d_NA_isSpelt_13 : decode prog_5_method_6_code 13 = .ok (.iload 5, 2) := by decide +kernel
theorem d_NA_isSpelt_15 : decode prog_5_method_6_code 15 = .ok (.isub, 1) := by decide +kernel
theorem d_NA_isSpelt_16 : decode prog_5_method_6_code 16 = .ok (.iload 4, 2) := by decide +kernel
theorem d_NA_isSpelt_18 : decode prog_5_method_6_code 18 = .ok (.iload_n 3, 1) := by decide +kernel
theorem d_NA_isSpelt_19 : decode prog_5_method_6_code 19 = .ok (.isub, 1) := by decide +kernel
theorem d_NA_isSpelt_20 : decode prog_5_method_6_code 20 = .ok (.if_icmp .eq 5, 3) := by decide +kernel
theorem d_NA_isSpelt_23 : decode prog_5_method_6_code 23 = .ok (.iconst 0, 1) := by decide +kernel
theorem d_NA_isSpelt_24 : decode prog_5_method_6_code 24 = .ok (.ireturn, 1) := by decide +kernel
theorem d_NA_isSpelt_25 : decode prog_5_method_6_code 25 = .ok (.iconst 0, 1) := by decide +kernel
theorem d_NA_isSpelt_26 : decode prog_5_method_6_code 26 = .ok (.istore 6, 2) := by decide +kernel
theorem d_NA_isSpelt_28 : decode prog_5_method_6_code 28 = .ok (.iload 6, 2) := by decide +kernel
theorem d_NA_isSpelt_30 : decode prog_5_method_6_code 30 = .ok (.iload 4, 2) := by decide +kernel
theorem d_NA_isSpelt_32 : decode prog_5_method_6_code 32 = .ok (.iload_n 3, 1) := by decide +kernel
theorem d_NA_isSpelt_33 : decode prog_5_method_6_code 33 = .ok (.isub, 1) := by decide +kernel
theorem d_NA_isSpelt_34 : decode prog_5_method_6_code 34 = .ok (.if_icmp .ge 33, 3) := by decide +kernel
theorem d_NA_isSpelt_37 : decode prog_5_method_6_code 37 = .ok (.aload_n 0, 1) := by decide +kernel
theorem d_NA_isSpelt_38 : decode prog_5_method_6_code 38 = .ok (.getfield 20, 3) := by decide +kernel
theorem d_NA_isSpelt_41 : decode prog_5_method_6_code 41 = .ok (.getfield 58, 3) := by decide +kernel
theorem d_NA_isSpelt_44 : decode prog_5_method_6_code 44 = .ok (.iload 5, 2) := by decide +kernel
theorem d_NA_isSpelt_46 : decode prog_5_method_6_code 46 = .ok (.iload 6, 2) := by decide +kernel
theorem d_NA_isSpelt_48 : decode prog_5_method_6_code 48 = .ok (.iadd, 1) := by decide +kernel
theorem d_NA_isSpelt_49 : decode prog_5_method_6_code 49 = .ok (.baload, 1) := by decide +kernel
theorem d_NA_isSpelt_50 : decode prog_5_method_6_code 50 = .ok (.aload_n 2, 1) := by decide +kernel
theorem d_NA_isSpelt_51 : decode prog_5_method_6_code 51 = .ok (.iload_n 3, 1) := by decide +kernel
theorem d_NA_isSpelt_52 : decode prog_5_method_6_code 52 = .ok (.iload 6, 2) := by decide +kernel
theorem d_NA_isSpelt_54 : decode prog_5_method_6_code 54 = .ok (.iadd, 1) := by decide +kernel
theorem d_NA_isSpelt_55 : decode prog_5_method_6_code 55 = .ok (.baload, 1) := by decide +kernel
theorem d_NA_isSpelt_56 : decode prog_5_method_6_code 56 = .ok (.if_icmp .eq 5, 3) := by decide +kernel
theorem d_NA_isSpelt_59 : decode prog_5_method_6_code 59 = .ok (.iconst 0, 1) := by decide +kernel
theorem d_NA_isSpelt_60 : decode prog_5_method_6_code 60 = .ok (.ireturn, 1) := by decide +kernel
theorem d_NA_isSpelt_61 : decode prog_5_method_6_code 61 = .ok (.iinc 6 1, 3) := by decide +kernel
theorem d_NA_isSpelt_64 : decode prog_5_method_6_code 64 = .ok (.goto (-36), 3) := by decide +kernel
theorem d_NA_isSpelt_67 : decode prog_5_method_6_code 67 = .ok (.iconst 1, 1) := by decide +kernel
theorem d_NA_isSpelt_68 : decode prog_5_method_6_code 68 = .ok (.ireturn, 1) := by decide +kernel
theorem d_NA_add_0 : decode prog_5_method_7_code 0 = .ok (.aload_n 0, 1) := by decide +kernel
theorem d_NA_add_1 : decode prog_5_method_7_code 1 = .ok (.getfield 9, 3) := by decide +kernel
theorem d_NA_add_4 : decode prog_5_method_7_code 4 = .ok (.sipush 8192, 3) := by decide +kernel
theorem d_NA_add_7 : decode prog_5_method_7_code 7 = .ok (.if_icmp .ge 20, 3) := by decide +kernel
theorem d_NA_add_10 : decode prog_5_method_7_code 10 = .ok (.aload_n 0, 1) := by decide +kernel
theorem d_NA_add_11 : decode prog_5_method_7_code 11 = .ok (.getfield 20, 3) := by decide +kernel
theorem d_NA_add_14 : decode prog_5_method_7_code 14 = .ok (.getfield 66, 3) := by decide +kernel
theorem d_NA_add_17 : decode prog_5_method_7_code 17 = .ok (.iload_n 3, 1) := by decide +kernel
theorem d_NA_add_18 : decode prog_5_method_7_code 18 = .ok (.iadd, 1) := by decide +kernel
theorem d_NA_add_19 : decode prog_5_method_7_code 19 = .ok (.iload_n 2, 1) := by decide +kernel
theorem d_NA_add_20 : decode prog_5_method_7_code 20 = .ok (.isub, 1) := by decide +kernel
theorem d_NA_add_21 : decode prog_5_method_7_code 21 = .ok (.sipush 16384, 3) := by decide +kernel
theorem d_NA_add_24 : decode prog_5_method_7_code 24 = .ok (.if_icmp .le 5, 3) := by decide +kernel
theorem d_NA_add_27 : decode prog_5_method_7_code 27 = .ok (.iconst (-1), 1) := by decide +kernel
theorem d_NA_add_28 : decode prog_5_method_7_code 28 = .ok (.ireturn, 1) := by decide +kernel
theorem d_NA_add_29 : decode prog_5_method_7_code 29 = .ok (.aload_n 0, 1) := by decide +kernel
theorem d_NA_add_30 : decode prog_5_method_7_code 30 = .ok (.getfield 9, 3) := by decide +kernel
theorem d_NA_add_33 : decode prog_5_method_7_code 33 = .ok (.aload_n 0, 1) := by decide +kernel
theorem d_NA_add_34 : decode prog_5_method_7_code 34 = .ok (.getfield 24, 3) := by decide +kernel
theorem d_NA_add_37 : decode prog_5_method_7_code 37 = .ok (.arraylength, 1) := by decide +kernel
theorem d_NA_add_38 : decode prog_5_method_7_code 38 = .ok (.if_icmp .lt 7, 3) := by decide +kernel
theorem d_NA_add_41 : decode prog_5_method_7_code 41 = .ok (.aload_n 0, 1) := by decide +kernel
theorem d_NA_add_42 : decode prog_5_method_7_code 42 = .ok (.invokevirtual 67, 3) := by decide +kernel
theorem d_NA_add_45 : decode prog_5_method_7_code 45 = .ok (.aload_n 0, 1) := by decide +kernel
theorem d_NA_add_46 : decode prog_5_method_7_code 46 = .ok (.getfield 20, 3) := by decide +kernel
theorem d_NA_add_49 : decode prog_5_method_7_code 49 = .ok (.aload_n 1, 1) := by decide +kernel
theorem d_NA_add_50 : decode prog_5_method_7_code 50 = .ok (.iload_n 2, 1) := by decide +kernel
theorem d_NA_add_51 : decode prog_5_method_7_code 51 = .ok (.iload_n 3, 1) := by decide +kernel
theorem d_NA_add_52 : decode prog_5_method_7_code 52 = .ok (.invokevirtual 62, 3) := by decide +kernel
theorem d_NA_add_55 : decode prog_5_method_7_code 55 = .ok (.aload_n 0, 1) := by decide +kernel
theorem d_NA_add_56 : decode prog_5_method_7_code 56 = .ok (.getfield 24, 3) := by decide +kernel
theorem d_NA_add_59 : decode prog_5_method_7_code 59 = .ok (.aload_n 0, 1) := by decide +kernel
theorem d_NA_add_60 : decode prog_5_method_7_code 60 = .ok (.getfield 9, 3) := by decide +kernel
theorem d_NA_add_63 : decode prog_5_method_7_code 63 = .ok (.aload_n 0, 1) := by decide +kernel
theorem d_NA_add_64 : decode prog_5_method_7_code 64 = .ok (.getfield 20, 3) := by decide +kernel
theorem d_NA_add_67 : decode prog_5_method_7_code 67 = .ok (.getfield 66, 3) := by decide +kernel
theorem d_NA_add_70 : decode prog_5_method_7_code 70 = .ok (.iastore, 1) := by decide +kernel
theorem d_NA_add_71 : decode prog_5_method_7_code 71 = .ok (.aload_n 0, 1) := by decide +kernel
theorem d_NA_add_72 : decode prog_5_method_7_code 72 = .ok (.dup, 1) := by decide +kernel
theorem d_NA_add_73 : decode prog_5_method_7_code 73 = .ok (.getfield 9, 3) := by decide +kernel
theorem d_NA_add_76 : decode prog_5_method_7_code 76 = .ok (.iconst 1, 1) := by decide +kernel
theorem d_NA_add_77 : decode prog_5_method_7_code 77 = .ok (.iadd, 1) := by decide +kernel
theorem d_NA_add_78 : decode prog_5_method_7_code 78 = .ok (.putfield 9, 3) := by decide +kernel
theorem d_NA_add_81 : decode prog_5_method_7_code 81 = .ok (.aload_n 0, 1) := by decide +kernel
theorem d_NA_add_82 : decode prog_5_method_7_code 82 = .ok (.aload_n 0, 1) := by decide +kernel
theorem d_NA_add_83 : decode prog_5_method_7_code 83 = .ok (.getfield 9, 3) := by decide +kernel
theorem d_NA_add_86 : decode prog_5_method_7_code 86 = .ok (.iconst 1, 1) := by decide +kernel
theorem d_NA_add_87 : decode prog_5_method_7_code 87 = .ok (.isub, 1) := by decide +kernel
theorem d_NA_add_88 : decode prog_5_method_7_code 88 = .ok (.invokevirtual 70, 3) := by decide +kernel
theorem d_NA_add_91 : decode prog_5_method_7_code 91 = .ok (.aload_n 0, 1) := by decide +kernel
theorem d_NA_add_92 : decode prog_5_method_7_code 92 = .ok (.getfield 9, 3) := by decide +kernel
theorem d_NA_add_95 : decode prog_5_method_7_code 95 = .ok (.iconst 1, 1) := by decide +kernel
theorem d_NA_add_96 : decode prog_5_method_7_code 96 = .ok (.isub, 1) := by decide +kernel
theorem d_NA_add_97 : decode prog_5_method_7_code 97 = .ok (.ireturn, 1) := by decide +kernel
theorem d_NA_grow_0 : decode prog_5_method_8_code 0 = .ok (.iconst 2, 1) := by decide +kernel
theorem d_NA_grow_1 : decode prog_5_method_8_code 1 = .ok (.aload_n 0, 1) := by decide +kernel
theorem d_NA_grow_2 : decode prog_5_method_8_code 2 = .ok (.getfield 24, 3) := by decide +kernel
theorem d_NA_grow_5 : decode prog_5_method_8_code 5 = .ok (.arraylength, 1) := by decide +kernel
theorem d_NA_grow_6 : decode prog_5_method_8_code 6 = .ok (.imul, 1) := by decide +kernel
theorem d_NA_grow_7 : decode prog_5_method_8_code 7 = .ok (.istore_n 1, 1) := by decide +kernel
theorem d_NA_grow_8 : decode prog_5_method_8_code 8 = .ok (.aload_n 0, 1) := by decide +kernel
theorem d_NA_grow_9 : decode prog_5_method_8_code 9 = .ok (.aload_n 0, 1) := by decide +kernel
theorem d_NA_grow_10 : decode prog_5_method_8_code 10 = .ok (.getfield 24, 3) := by decide +kernel
theorem d_NA_grow_13 : decode prog_5_method_8_code 13 = .ok (.iload_n 1, 1) := by decide +kernel
theorem d_NA_grow_14 : decode prog_5_method_8_code 14 = .ok (.invokestatic 73, 3) := by decide +kernel
theorem d_NA_grow_17 : decode prog_5_method_8_code 17 = .ok (.putfield 24, 3) := by decide +kernel
theorem d_NA_grow_20 : decode prog_5_method_8_code 20 = .ok (.aload_n 0, 1) := by decide +kernel
theorem d_NA_grow_21 : decode prog_5_method_8_code 21 = .ok (.iload_n 1, 1) := by decide +kernel
theorem d_NA_grow_22 : decode prog_5_method_8_code 22 = .ok (.newarray .int, 2) := by decide +kernel
theorem d_NA_grow_24 : decode prog_5_method_8_code 24 = .ok (.putfield 28, 3) := by decide +kernel
theorem d_NA_grow_27 : decode prog_5_method_8_code 27 = .ok (.aload_n 0, 1) := by decide +kernel
theorem d_NA_grow_28 : decode prog_5_method_8_code 28 = .ok (.iload_n 1, 1) := by decide +kernel
theorem d_NA_grow_29 : decode prog_5_method_8_code 29 = .ok (.newarray .int, 2) := by decide +kernel
theorem d_NA_grow_31 : decode prog_5_method_8_code 31 = .ok (.putfield 31, 3) := by decide +kernel
theorem d_NA_grow_34 : decode prog_5_method_8_code 34 = .ok (.aload_n 0, 1) := by decide +kernel
theorem d_NA_grow_35 : decode prog_5_method_8_code 35 = .ok (.getfield 31, 3) := by decide +kernel
theorem d_NA_grow_38 : decode prog_5_method_8_code 38 = .ok (.iconst (-1), 1) := by decide +kernel
theorem d_NA_grow_39 : decode prog_5_method_8_code 39 = .ok (.invokestatic 34, 3) := by decide +kernel
theorem d_NA_grow_42 : decode prog_5_method_8_code 42 = .ok (.iconst 0, 1) := by decide +kernel
theorem d_NA_grow_43 : decode prog_5_method_8_code 43 = .ok (.istore_n 2, 1) := by decide +kernel
theorem d_NA_grow_44 : decode prog_5_method_8_code 44 = .ok (.iload_n 2, 1) := by decide +kernel
theorem d_NA_grow_45 : decode prog_5_method_8_code 45 = .ok (.aload_n 0, 1) := by decide +kernel
theorem d_NA_grow_46 : decode prog_5_method_8_code 46 = .ok (.getfield 9, 3) := by decide +kernel
theorem d_NA_grow_49 : decode prog_5_method_8_code 49 = .ok (.if_icmp .ge 14, 3) := by decide +kernel
theorem d_NA_grow_52 : decode prog_5_method_8_code 52 = .ok (.aload_n 0, 1) := by decide +kernel
theorem d_NA_grow_53 : decode prog_5_method_8_code 53 = .ok (.iload_n 2, 1) := by decide +kernel
theorem d_NA_grow_54 : decode prog_5_method_8_code 54 = .ok (.invokevirtual 70, 3) := by decide +kernel
theorem d_NA_grow_57 : decode prog_5_method_8_code 57 = .ok (.iinc 2 1, 3) := by decide +kernel
theorem d_NA_grow_60 : decode prog_5_method_8_code 60 = .ok (.goto (-16), 3) := by decide +kernel
theorem d_NA_grow_63 : decode prog_5_method_8_code 63 = .ok (.return_, 1) := by decide +kernel
theorem d_NA_link_0 : decode prog_5_method_9_code 0 = .ok (.aload_n 0, 1) := by decide +kernel
theorem d_NA_link_1 : decode prog_5_method_9_code 1 = .ok (.aload_n 0, 1) := by decide +kernel
theorem d_NA_link_2 : decode prog_5_method_9_code 2 = .ok (.getfield 20, 3) := by decide +kernel
theorem d_NA_link_5 : decode prog_5_method_9_code 5 = .ok (.getfield 58, 3) := by decide +kernel
theorem d_NA_link_8 : decode prog_5_method_9_code 8 = .ok (.aload_n 0, 1) := by decide +kernel
theorem d_NA_link_9 : decode prog_5_method_9_code 9 = .ok (.iload_n 1, 1) := by decide +kernel
theorem d_NA_link_10 : decode prog_5_method_9_code 10 = .ok (.invokevirtual 40, 3) := by decide +kernel
theorem d_NA_link_13 : decode prog_5_method_9_code 13 = .ok (.aload_n 0, 1) := by decide +kernel
theorem d_NA_link_14 : decode prog_5_method_9_code 14 = .ok (.getfield 24, 3) := by decide +kernel
theorem d_NA_link_17 : decode prog_5_method_9_code 17 = .ok (.iload_n 1, 1) := by decide +kernel
theorem d_NA_link_18 : decode prog_5_method_9_code 18 = .ok (.iaload, 1) := by decide +kernel
theorem d_NA_link_19 : decode prog_5_method_9_code 19 = .ok (.invokevirtual 47, 3) := by decide +kernel
theorem d_NA_link_22 : decode prog_5_method_9_code 22 = .ok (.istore_n 2, 1) := by decide +kernel
theorem d_NA_link_23 : decode prog_5_method_9_code 23 = .ok (.aload_n 0, 1) := by decide +kernel
theorem d_NA_link_24 : decode prog_5_method_9_code 24 = .ok (.getfield 28, 3) := by decide +kernel
theorem d_NA_link_27 : decode prog_5_method_9_code 27 = .ok (.iload_n 1, 1) := by decide +kernel
theorem d_NA_link_28 : decode prog_5_method_9_code 28 = .ok (.aload_n 0, 1) := by decide +kernel
theorem d_NA_link_29 : decode prog_5_method_9_code 29 = .ok (.getfield 31, 3) := by decide +kernel
theorem d_NA_link_32 : decode prog_5_method_9_code 32 = .ok (.iload_n 2, 1) := by decide +kernel
theorem d_NA_link_33 : decode prog_5_method_9_code 33 = .ok (.iaload, 1) := by decide +kernel
theorem d_NA_link_34 : decode prog_5_method_9_code 34 = .ok (.iastore, 1) := by decide +kernel
theorem d_NA_link_35 : decode prog_5_method_9_code 35 = .ok (.aload_n 0, 1) := by decide +kernel
theorem d_NA_link_36 : decode prog_5_method_9_code 36 = .ok (.getfield 31, 3) := by decide +kernel
theorem d_NA_link_39 : decode prog_5_method_9_code 39 = .ok (.iload_n 2, 1) := by decide +kernel
theorem d_NA_link_40 : decode prog_5_method_9_code 40 = .ok (.iload_n 1, 1) := by decide +kernel
theorem d_NA_link_41 : decode prog_5_method_9_code 41 = .ok (.iastore, 1) := by decide +kernel
theorem d_NA_link_42 : decode prog_5_method_9_code 42 = .ok (.return_, 1) := by decide +kernel
theorem d_NA_chain_0 : decode prog_5_method_10_code 0 = .ok (.iconst 0, 1) := by decide +kernel
theorem d_NA_chain_1 : decode prog_5_method_10_code 1 = .ok (.istore 4, 2) := by decide +kernel
theorem d_NA_chain_3 : decode prog_5_method_10_code 3 = .ok (.iload_n 2, 1) := by decide +kernel
theorem d_NA_chain_4 : decode prog_5_method_10_code 4 = .ok (.istore 5, 2) := by decide +kernel
theorem d_NA_chain_6 : decode prog_5_method_10_code 6 = .ok (.iload 5, 2) := by decide +kernel
theorem d_NA_chain_8 : decode prog_5_method_10_code 8 = .ok (.iload_n 3, 1) := by decide +kernel
theorem d_NA_chain_9 : decode prog_5_method_10_code 9 = .ok (.if_icmp .ge 21, 3) := by decide +kernel
theorem d_NA_chain_12 : decode prog_5_method_10_code 12 = .ok (.bipush 31, 2) := by decide +kernel
theorem d_NA_chain_14 : decode prog_5_method_10_code 14 = .ok (.iload 4, 2) := by decide +kernel
theorem d_NA_chain_16 : decode prog_5_method_10_code 16 = .ok (.imul, 1) := by decide +kernel
theorem d_NA_chain_17 : decode prog_5_method_10_code 17 = .ok (.aload_n 1, 1) := by decide +kernel
theorem d_NA_chain_18 : decode prog_5_method_10_code 18 = .ok (.iload 5, 2) := by decide +kernel
theorem d_NA_chain_20 : decode prog_5_method_10_code 20 = .ok (.baload, 1) := by decide +kernel
theorem d_NA_chain_21 : decode prog_5_method_10_code 21 = .ok (.iadd, 1) := by decide +kernel
theorem d_NA_chain_22 : decode prog_5_method_10_code 22 = .ok (.istore 4, 2) := by decide +kernel
theorem d_NA_chain_24 : decode prog_5_method_10_code 24 = .ok (.iinc 5 1, 3) := by decide +kernel
theorem d_NA_chain_27 : decode prog_5_method_10_code 27 = .ok (.goto (-21), 3) := by decide +kernel
theorem d_NA_chain_30 : decode prog_5_method_10_code 30 = .ok (.iload 4, 2) := by decide +kernel
theorem d_NA_chain_32 : decode prog_5_method_10_code 32 = .ok (.aload_n 0, 1) := by decide +kernel
theorem d_NA_chain_33 : decode prog_5_method_10_code 33 = .ok (.getfield 31, 3) := by decide +kernel
theorem d_NA_chain_36 : decode prog_5_method_10_code 36 = .ok (.arraylength, 1) := by decide +kernel
theorem d_NA_chain_37 : decode prog_5_method_10_code 37 = .ok (.iconst 1, 1) := by decide +kernel
theorem d_NA_chain_38 : decode prog_5_method_10_code 38 = .ok (.isub, 1) := by decide +kernel
theorem d_NA_chain_39 : decode prog_5_method_10_code 39 = .ok (.iand, 1) := by decide +kernel
theorem d_NA_chain_40 : decode prog_5_method_10_code 40 = .ok (.ireturn, 1) := by decide +kernel
