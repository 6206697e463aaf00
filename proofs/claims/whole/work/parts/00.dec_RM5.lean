theorem d_RM_same_0 : decode prog_12_method_43_code 0 = .ok (.aload_n 0, 1) := by decide +kernel
theorem d_RM_same_1 : decode prog_12_method_43_code 1 = .ok (.getfield 68, 3) := by decide +kernel
theorem d_RM_same_4 : decode prog_12_method_43_code 4 = .ok (.iconst 0, 1) := by decide +kernel
theorem d_RM_same_5 : decode prog_12_method_43_code 5 = .ok (.iaload, 1) := by decide +kernel
theorem d_RM_same_6 : decode prog_12_method_43_code 6 = .ok (.aload_n 0, 1) := by decide +kernel
theorem d_RM_same_7 : decode prog_12_method_43_code 7 = .ok (.getfield 68, 3) := by decide +kernel
theorem d_RM_same_10 : decode prog_12_method_43_code 10 = .ok (.iconst 1, 1) := by decide +kernel
theorem d_RM_same_11 : decode prog_12_method_43_code 11 = .ok (.iaload, 1) := by decide +kernel
theorem d_RM_same_12 : decode prog_12_method_43_code 12 = .ok (.if_icmp .ne 7, 3) := by decide +kernel
theorem d_RM_same_15 : decode prog_12_method_43_code 15 = .ok (.iconst 1, 1) := by decide +kernel
theorem d_RM_same_16 : decode prog_12_method_43_code 16 = .ok (.goto 4, 3) := by decide +kernel
theorem d_RM_same_19 : decode prog_12_method_43_code 19 = .ok (.iconst 0, 1) := by decide +kernel
theorem d_RM_same_20 : decode prog_12_method_43_code 20 = .ok (.istore_n 1, 1) := by decide +kernel
theorem d_RM_same_21 : decode prog_12_method_43_code 21 = .ok (.iconst 0, 1) := by decide +kernel
theorem d_RM_same_22 : decode prog_12_method_43_code 22 = .ok (.istore_n 2, 1) := by decide +kernel
theorem d_RM_same_23 : decode prog_12_method_43_code 23 = .ok (.iload_n 2, 1) := by decide +kernel
theorem d_RM_same_24 : decode prog_12_method_43_code 24 = .ok (.aload_n 0, 1) := by decide +kernel
theorem d_RM_same_25 : decode prog_12_method_43_code 25 = .ok (.getfield 68, 3) := by decide +kernel
theorem d_RM_same_28 : decode prog_12_method_43_code 28 = .ok (.iconst 0, 1) := by decide +kernel
theorem d_RM_same_29 : decode prog_12_method_43_code 29 = .ok (.iaload, 1) := by decide +kernel
theorem d_RM_same_30 : decode prog_12_method_43_code 30 = .ok (.if_icmp .ge 76, 3) := by decide +kernel
theorem d_RM_same_33 : decode prog_12_method_43_code 33 = .ok (.iload_n 1, 1) := by decide +kernel
theorem d_RM_same_34 : decode prog_12_method_43_code 34 = .ok (.ifCond .eq 72, 3) := by decide +kernel
theorem d_RM_same_37 : decode prog_12_method_43_code 37 = .ok (.aload_n 0, 1) := by decide +kernel
theorem d_RM_same_38 : decode prog_12_method_43_code 38 = .ok (.getfield 53, 3) := by decide +kernel
theorem d_RM_same_41 : decode prog_12_method_43_code 41 = .ok (.iload_n 2, 1) := by decide +kernel
theorem d_RM_same_42 : decode prog_12_method_43_code 42 = .ok (.iaload, 1) := by decide +kernel
theorem d_RM_same_43 : decode prog_12_method_43_code 43 = .ok (.aload_n 0, 1) := by decide +kernel
theorem d_RM_same_44 : decode prog_12_method_43_code 44 = .ok (.getfield 53, 3) := by decide +kernel
theorem d_RM_same_47 : decode prog_12_method_43_code 47 = .ok (.sipush 13000, 3) := by decide +kernel
theorem d_RM_same_50 : decode prog_12_method_43_code 50 = .ok (.iload_n 2, 1) := by decide +kernel
theorem d_RM_same_51 : decode prog_12_method_43_code 51 = .ok (.iadd, 1) := by decide +kernel
theorem d_RM_same_52 : decode prog_12_method_43_code 52 = .ok (.iaload, 1) := by decide +kernel
theorem d_RM_same_53 : decode prog_12_method_43_code 53 = .ok (.if_icmp .ne 45, 3) := by decide +kernel
theorem d_RM_same_56 : decode prog_12_method_43_code 56 = .ok (.aload_n 0, 1) := by decide +kernel
theorem d_RM_same_57 : decode prog_12_method_43_code 57 = .ok (.getfield 59, 3) := by decide +kernel
theorem d_RM_same_60 : decode prog_12_method_43_code 60 = .ok (.iload_n 2, 1) := by decide +kernel
theorem d_RM_same_61 : decode prog_12_method_43_code 61 = .ok (.iaload, 1) := by decide +kernel
theorem d_RM_same_62 : decode prog_12_method_43_code 62 = .ok (.aload_n 0, 1) := by decide +kernel
theorem d_RM_same_63 : decode prog_12_method_43_code 63 = .ok (.getfield 59, 3) := by decide +kernel
theorem d_RM_same_66 : decode prog_12_method_43_code 66 = .ok (.sipush 13000, 3) := by decide +kernel
theorem d_RM_same_69 : decode prog_12_method_43_code 69 = .ok (.iload_n 2, 1) := by decide +kernel
theorem d_RM_same_70 : decode prog_12_method_43_code 70 = .ok (.iadd, 1) := by decide +kernel
theorem d_RM_same_71 : decode prog_12_method_43_code 71 = .ok (.iaload, 1) := by decide +kernel
theorem d_RM_same_72 : decode prog_12_method_43_code 72 = .ok (.if_icmp .ne 26, 3) := by decide +kernel
theorem d_RM_same_75 : decode prog_12_method_43_code 75 = .ok (.aload_n 0, 1) := by decide +kernel
theorem d_RM_same_76 : decode prog_12_method_43_code 76 = .ok (.getfield 62, 3) := by decide +kernel
theorem d_RM_same_79 : decode prog_12_method_43_code 79 = .ok (.iload_n 2, 1) := by decide +kernel
theorem d_RM_same_80 : decode prog_12_method_43_code 80 = .ok (.iaload, 1) := by decide +kernel
theorem d_RM_same_81 : decode prog_12_method_43_code 81 = .ok (.aload_n 0, 1) := by decide +kernel
theorem d_RM_same_82 : decode prog_12_method_43_code 82 = .ok (.getfield 62, 3) := by decide +kernel
theorem d_RM_same_85 : decode prog_12_method_43_code 85 = .ok (.sipush 13000, 3) := by decide +kernel
theorem d_RM_same_88 : decode prog_12_method_43_code 88 = .ok (.iload_n 2, 1) := by decide +kernel
theorem d_RM_same_89 : decode prog_12_method_43_code 89 = .ok (.iadd, 1) := by decide +kernel
theorem d_RM_same_90 : decode prog_12_method_43_code 90 = .ok (.iaload, 1) := by decide +kernel
theorem d_RM_same_91 : decode prog_12_method_43_code 91 = .ok (.if_icmp .ne 7, 3) := by decide +kernel
theorem d_RM_same_94 : decode prog_12_method_43_code 94 = .ok (.iconst 1, 1) := by decide +kernel
theorem d_RM_same_95 : decode prog_12_method_43_code 95 = .ok (.goto 4, 3) := by decide +kernel
theorem d_RM_same_98 : decode prog_12_method_43_code 98 = .ok (.iconst 0, 1) := by decide +kernel
theorem d_RM_same_99 : decode prog_12_method_43_code 99 = .ok (.istore_n 1, 1) := by decide +kernel
theorem d_RM_same_100 : decode prog_12_method_43_code 100 = .ok (.iinc 2 1, 3) := by decide +kernel
theorem d_RM_same_103 : decode prog_12_method_43_code 103 = .ok (.goto (-80), 3) := by decide +kernel
theorem d_RM_same_106 : decode prog_12_method_43_code 106 = .ok (.iload_n 1, 1) := by decide +kernel
theorem d_RM_same_107 : decode prog_12_method_43_code 107 = .ok (.ireturn, 1) := by decide +kernel
theorem d_RM_isWordByte_0 : decode prog_12_method_44_code 0 = .ok (.iload_n 0, 1) := by decide +kernel
theorem d_RM_isWordByte_1 : decode prog_12_method_44_code 1 = .ok (.invokestatic 113, 3) := by decide +kernel
theorem d_RM_isWordByte_4 : decode prog_12_method_44_code 4 = .ok (.ifCond .ne 10, 3) := by decide +kernel
theorem d_RM_isWordByte_7 : decode prog_12_method_44_code 7 = .ok (.iload_n 0, 1) := by decide +kernel
theorem d_RM_isWordByte_8 : decode prog_12_method_44_code 8 = .ok (.invokestatic 117, 3) := by decide +kernel
theorem d_RM_isWordByte_11 : decode prog_12_method_44_code 11 = .ok (.ifCond .eq 7, 3) := by decide +kernel
theorem d_RM_isWordByte_14 : decode prog_12_method_44_code 14 = .ok (.iconst 1, 1) := by decide +kernel
theorem d_RM_isWordByte_15 : decode prog_12_method_44_code 15 = .ok (.goto 4, 3) := by decide +kernel
theorem d_RM_isWordByte_18 : decode prog_12_method_44_code 18 = .ok (.iconst 0, 1) := by decide +kernel
theorem d_RM_isWordByte_19 : decode prog_12_method_44_code 19 = .ok (.ireturn, 1) := by decide +kernel
theorem d_RM_begin_0 : decode prog_12_method_45_code 0 = .ok (.aload_n 0, 1) := by decide +kernel
theorem d_RM_begin_1 : decode prog_12_method_45_code 1 = .ok (.getfield 244, 3) := by decide +kernel
theorem d_RM_begin_4 : decode prog_12_method_45_code 4 = .ok (.ifCond .le 33, 3) := by decide +kernel
theorem d_RM_begin_7 : decode prog_12_method_45_code 7 = .ok (.iload_n 1, 1) := by decide +kernel
theorem d_RM_begin_8 : decode prog_12_method_45_code 8 = .ok (.invokestatic 247, 3) := by decide +kernel
theorem d_RM_begin_11 : decode prog_12_method_45_code 11 = .ok (.ifCond .eq 26, 3) := by decide +kernel
theorem d_RM_begin_14 : decode prog_12_method_45_code 14 = .ok (.aload_n 0, 1) := by decide +kernel
theorem d_RM_begin_15 : decode prog_12_method_45_code 15 = .ok (.getfield 16, 3) := by decide +kernel
theorem d_RM_begin_18 : decode prog_12_method_45_code 18 = .ok (.aload_n 0, 1) := by decide +kernel
theorem d_RM_begin_19 : decode prog_12_method_45_code 19 = .ok (.getfield 244, 3) := by decide +kernel
theorem d_RM_begin_22 : decode prog_12_method_45_code 22 = .ok (.iconst 1, 1) := by decide +kernel
theorem d_RM_begin_23 : decode prog_12_method_45_code 23 = .ok (.isub, 1) := by decide +kernel
theorem d_RM_begin_24 : decode prog_12_method_45_code 24 = .ok (.iaload, 1) := by decide +kernel
theorem d_RM_begin_25 : decode prog_12_method_45_code 25 = .ok (.invokestatic 247, 3) := by decide +kernel
theorem d_RM_begin_28 : decode prog_12_method_45_code 28 = .ok (.ifCond .eq 9, 3) := by decide +kernel
theorem d_RM_begin_31 : decode prog_12_method_45_code 31 = .ok (.aload_n 0, 1) := by decide +kernel
theorem d_RM_begin_32 : decode prog_12_method_45_code 32 = .ok (.bipush 32, 2) := by decide +kernel
theorem d_RM_begin_34 : decode prog_12_method_45_code 34 = .ok (.invokevirtual 250, 3) := by decide +kernel
theorem d_RM_begin_37 : decode prog_12_method_45_code 37 = .ok (.aload_n 0, 1) := by decide +kernel
theorem d_RM_begin_38 : decode prog_12_method_45_code 38 = .ok (.iload_n 1, 1) := by decide +kernel
theorem d_RM_begin_39 : decode prog_12_method_45_code 39 = .ok (.invokevirtual 250, 3) := by decide +kernel
theorem d_RM_begin_42 : decode prog_12_method_45_code 42 = .ok (.return_, 1) := by decide +kernel
theorem d_RM_put_0 : decode prog_12_method_46_code 0 = .ok (.aload_n 0, 1) := by decide +kernel
theorem d_RM_put_1 : decode prog_12_method_46_code 1 = .ok (.getfield 244, 3) := by decide +kernel
theorem d_RM_put_4 : decode prog_12_method_46_code 4 = .ok (.sipush 8000, 3) := by decide +kernel
theorem d_RM_put_7 : decode prog_12_method_46_code 7 = .ok (.if_icmp .gt 23, 3) := by decide +kernel
theorem d_RM_put_10 : decode prog_12_method_46_code 10 = .ok (.aload_n 0, 1) := by decide +kernel
theorem d_RM_put_11 : decode prog_12_method_46_code 11 = .ok (.getfield 16, 3) := by decide +kernel
theorem d_RM_put_14 : decode prog_12_method_46_code 14 = .ok (.aload_n 0, 1) := by decide +kernel
theorem d_RM_put_15 : decode prog_12_method_46_code 15 = .ok (.getfield 244, 3) := by decide +kernel
theorem d_RM_put_18 : decode prog_12_method_46_code 18 = .ok (.iload_n 1, 1) := by decide +kernel
theorem d_RM_put_19 : decode prog_12_method_46_code 19 = .ok (.iastore, 1) := by decide +kernel
theorem d_RM_put_20 : decode prog_12_method_46_code 20 = .ok (.aload_n 0, 1) := by decide +kernel
theorem d_RM_put_21 : decode prog_12_method_46_code 21 = .ok (.dup, 1) := by decide +kernel
theorem d_RM_put_22 : decode prog_12_method_46_code 22 = .ok (.getfield 244, 3) := by decide +kernel
theorem d_RM_put_25 : decode prog_12_method_46_code 25 = .ok (.iconst 1, 1) := by decide +kernel
theorem d_RM_put_26 : decode prog_12_method_46_code 26 = .ok (.iadd, 1) := by decide +kernel
theorem d_RM_put_27 : decode prog_12_method_46_code 27 = .ok (.putfield 244, 3) := by decide +kernel
theorem d_RM_put_30 : decode prog_12_method_46_code 30 = .ok (.return_, 1) := by decide +kernel
theorem d_RM_text_0 : decode prog_12_method_47_code 0 = .ok (.aload_n 0, 1) := by decide +kernel
theorem d_RM_text_1 : decode prog_12_method_47_code 1 = .ok (.aload_n 1, 1) := by decide +kernel
theorem d_RM_text_2 : decode prog_12_method_47_code 2 = .ok (.iconst 0, 1) := by decide +kernel
theorem d_RM_text_3 : decode prog_12_method_47_code 3 = .ok (.invokevirtual 127, 3) := by decide +kernel
theorem d_RM_text_6 : decode prog_12_method_47_code 6 = .ok (.invokevirtual 253, 3) := by decide +kernel
theorem d_RM_text_9 : decode prog_12_method_47_code 9 = .ok (.iconst 1, 1) := by decide +kernel
theorem d_RM_text_10 : decode prog_12_method_47_code 10 = .ok (.istore_n 2, 1) := by decide +kernel
theorem d_RM_text_11 : decode prog_12_method_47_code 11 = .ok (.iload_n 2, 1) := by decide +kernel
theorem d_RM_text_12 : decode prog_12_method_47_code 12 = .ok (.aload_n 1, 1) := by decide +kernel
theorem d_RM_text_13 : decode prog_12_method_47_code 13 = .ok (.invokevirtual 124, 3) := by decide +kernel
theorem d_RM_text_16 : decode prog_12_method_47_code 16 = .ok (.if_icmp .ge 18, 3) := by decide +kernel
theorem d_RM_text_19 : decode prog_12_method_47_code 19 = .ok (.aload_n 0, 1) := by decide +kernel
theorem d_RM_text_20 : decode prog_12_method_47_code 20 = .ok (.aload_n 1, 1) := by decide +kernel
theorem d_RM_text_21 : decode prog_12_method_47_code 21 = .ok (.iload_n 2, 1) := by decide +kernel
theorem d_RM_text_22 : decode prog_12_method_47_code 22 = .ok (.invokevirtual 127, 3) := by decide +kernel
theorem d_RM_text_25 : decode prog_12_method_47_code 25 = .ok (.invokevirtual 250, 3) := by decide +kernel
theorem d_RM_text_28 : decode prog_12_method_47_code 28 = .ok (.iinc 2 1, 3) := by decide +kernel
theorem d_RM_text_31 : decode prog_12_method_47_code 31 = .ok (.goto (-20), 3) := by decide +kernel
theorem d_RM_text_34 : decode prog_12_method_47_code 34 = .ok (.return_, 1) := by decide +kernel
theorem d_RM_sayName_0 : decode prog_12_method_48_code 0 = .ok (.aload_n 0, 1) := by decide +kernel
theorem d_RM_sayName_1 : decode prog_12_method_48_code 1 = .ok (.getfield 74, 3) := by decide +kernel
theorem d_RM_sayName_4 : decode prog_12_method_48_code 4 = .ok (.iload_n 1, 1) := by decide +kernel
theorem d_RM_sayName_5 : decode prog_12_method_48_code 5 = .ok (.iaload, 1) := by decide +kernel
theorem d_RM_sayName_6 : decode prog_12_method_48_code 6 = .ok (.istore_n 2, 1) := by decide +kernel
theorem d_RM_sayName_7 : decode prog_12_method_48_code 7 = .ok (.iload_n 2, 1) := by decide +kernel
theorem d_RM_sayName_8 : decode prog_12_method_48_code 8 = .ok (.aload_n 0, 1) := by decide +kernel
theorem d_RM_sayName_9 : decode prog_12_method_48_code 9 = .ok (.getfield 74, 3) := by decide +kernel
theorem d_RM_sayName_12 : decode prog_12_method_48_code 12 = .ok (.iload_n 1, 1) := by decide +kernel
theorem d_RM_sayName_13 : decode prog_12_method_48_code 13 = .ok (.iconst 1, 1) := by decide +kernel
theorem d_RM_sayName_14 : decode prog_12_method_48_code 14 = .ok (.iadd, 1) := by decide +kernel
theorem d_RM_sayName_15 : decode prog_12_method_48_code 15 = .ok (.iaload, 1) := by decide +kernel
theorem d_RM_sayName_16 : decode prog_12_method_48_code 16 = .ok (.if_icmp .ge 42, 3) := by decide +kernel
theorem d_RM_sayName_19 : decode prog_12_method_48_code 19 = .ok (.iload_n 2, 1) := by decide +kernel
theorem d_RM_sayName_20 : decode prog_12_method_48_code 20 = .ok (.aload_n 0, 1) := by decide +kernel
theorem d_RM_sayName_21 : decode prog_12_method_48_code 21 = .ok (.getfield 74, 3) := by decide +kernel
theorem d_RM_sayName_24 : decode prog_12_method_48_code 24 = .ok (.iload_n 1, 1) := by decide +kernel
theorem d_RM_sayName_25 : decode prog_12_method_48_code 25 = .ok (.iaload, 1) := by decide +kernel
theorem d_RM_sayName_26 : decode prog_12_method_48_code 26 = .ok (.if_icmp .ne 16, 3) := by decide +kernel
theorem d_RM_sayName_29 : decode prog_12_method_48_code 29 = .ok (.aload_n 0, 1) := by decide +kernel
theorem d_RM_sayName_30 : decode prog_12_method_48_code 30 = .ok (.aload_n 0, 1) := by decide +kernel
theorem d_RM_sayName_31 : decode prog_12_method_48_code 31 = .ok (.getfield 71, 3) := by decide +kernel
theorem d_RM_sayName_34 : decode prog_12_method_48_code 34 = .ok (.iload_n 2, 1) := by decide +kernel
theorem d_RM_sayName_35 : decode prog_12_method_48_code 35 = .ok (.iaload, 1) := by decide +kernel
theorem d_RM_sayName_36 : decode prog_12_method_48_code 36 = .ok (.invokevirtual 253, 3) := by decide +kernel
theorem d_RM_sayName_39 : decode prog_12_method_48_code 39 = .ok (.goto 13, 3) := by decide +kernel
theorem d_RM_sayName_42 : decode prog_12_method_48_code 42 = .ok (.aload_n 0, 1) := by decide +kernel
theorem d_RM_sayName_43 : decode prog_12_method_48_code 43 = .ok (.aload_n 0, 1) := by decide +kernel
theorem d_RM_sayName_44 : decode prog_12_method_48_code 44 = .ok (.getfield 71, 3) := by decide +kernel
theorem d_RM_sayName_47 : decode prog_12_method_48_code 47 = .ok (.iload_n 2, 1) := by decide +kernel
theorem d_RM_sayName_48 : decode prog_12_method_48_code 48 = .ok (.iaload, 1) := by decide +kernel
theorem d_RM_sayName_49 : decode prog_12_method_48_code 49 = .ok (.invokevirtual 250, 3) := by decide +kernel
theorem d_RM_sayName_52 : decode prog_12_method_48_code 52 = .ok (.iinc 2 1, 3) := by decide +kernel
theorem d_RM_sayName_55 : decode prog_12_method_48_code 55 = .ok (.goto (-48), 3) := by decide +kernel
theorem d_RM_sayName_58 : decode prog_12_method_48_code 58 = .ok (.return_, 1) := by decide +kernel
theorem d_RM_sayNumber_0 : decode prog_12_method_49_code 0 = .ok (.iload_n 1, 1) := by decide +kernel
theorem d_RM_sayNumber_1 : decode prog_12_method_49_code 1 = .ok (.ifCond .ge 9, 3) := by decide +kernel
theorem d_RM_sayNumber_4 : decode prog_12_method_49_code 4 = .ok (.aload_n 0, 1) := by decide +kernel
theorem d_RM_sayNumber_5 : decode prog_12_method_49_code 5 = .ok (.bipush 45, 2) := by decide +kernel
theorem d_RM_sayNumber_7 : decode prog_12_method_49_code 7 = .ok (.invokevirtual 253, 3) := by decide +kernel
theorem d_RM_sayNumber_10 : decode prog_12_method_49_code 10 = .ok (.iload_n 1, 1) := by decide +kernel
theorem d_RM_sayNumber_11 : decode prog_12_method_49_code 11 = .ok (.ifCond .ge 9, 3) := by decide +kernel
theorem d_RM_sayNumber_14 : decode prog_12_method_49_code 14 = .ok (.iload_n 1, 1) := by decide +kernel
theorem d_RM_sayNumber_15 : decode prog_12_method_49_code 15 = .ok (.i2l, 1) := by decide +kernel
theorem d_RM_sayNumber_16 : decode prog_12_method_49_code 16 = .ok (.lneg, 1) := by decide +kernel
theorem d_RM_sayNumber_17 : decode prog_12_method_49_code 17 = .ok (.goto 5, 3) := by decide +kernel
theorem d_RM_sayNumber_20 : decode prog_12_method_49_code 20 = .ok (.iload_n 1, 1) := by decide +kernel
theorem d_RM_sayNumber_21 : decode prog_12_method_49_code 21 = .ok (.i2l, 1) := by decide +kernel
theorem d_RM_sayNumber_22 : decode prog_12_method_49_code 22 = .ok (.lstore_n 2, 1) := by decide +kernel
theorem d_RM_sayNumber_23 : decode prog_12_method_49_code 23 = .ok (.lconst 1, 1) := by decide +kernel
theorem d_RM_sayNumber_24 : decode prog_12_method_49_code 24 = .ok (.lstore 4, 2) := by decide +kernel
theorem d_RM_sayNumber_26 : decode prog_12_method_49_code 26 = .ok (.lload_n 2, 1) := by decide +kernel
theorem d_RM_sayNumber_27 : decode prog_12_method_49_code 27 = .ok (.lload 4, 2) := by decide +kernel
theorem d_RM_sayNumber_29 : decode prog_12_method_49_code 29 = .ok (.ldiv, 1) := by decide +kernel
theorem d_RM_sayNumber_30 : decode prog_12_method_49_code 30 = .ok (.ldc2_w 256, 3) := by decide +kernel
theorem d_RM_sayNumber_33 : decode prog_12_method_49_code 33 = .ok (.lcmp, 1) := by decide +kernel
theorem d_RM_sayNumber_34 : decode prog_12_method_49_code 34 = .ok (.ifCond .le 14, 3) := by decide +kernel
theorem d_RM_sayNumber_37 : decode prog_12_method_49_code 37 = .ok (.ldc2_w 133, 3) := by decide +kernel
theorem d_RM_sayNumber_40 : decode prog_12_method_49_code 40 = .ok (.lload 4, 2) := by decide +kernel
theorem d_RM_sayNumber_42 : decode prog_12_method_49_code 42 = .ok (.lmul, 1) := by decide +kernel
theorem d_RM_sayNumber_43 : decode prog_12_method_49_code 43 = .ok (.lstore 4, 2) := by decide +kernel
theorem d_RM_sayNumber_45 : decode prog_12_method_49_code 45 = .ok (.goto (-19), 3) := by decide +kernel
theorem d_RM_sayNumber_48 : decode prog_12_method_49_code 48 = .ok (.iload_n 1, 1) := by decide +kernel
theorem d_RM_sayNumber_49 : decode prog_12_method_49_code 49 = .ok (.ifCond .lt 7, 3) := by decide +kernel
theorem d_RM_sayNumber_52 : decode prog_12_method_49_code 52 = .ok (.iconst 1, 1) := by decide +kernel
theorem d_RM_sayNumber_53 : decode prog_12_method_49_code 53 = .ok (.goto 4, 3) := by decide +kernel
theorem d_RM_sayNumber_56 : decode prog_12_method_49_code 56 = .ok (.iconst 0, 1) := by decide +kernel
theorem d_RM_sayNumber_57 : decode prog_12_method_49_code 57 = .ok (.istore 6, 2) := by decide +kernel
theorem d_RM_sayNumber_59 : decode prog_12_method_49_code 59 = .ok (.lload 4, 2) := by decide +kernel
theorem d_RM_sayNumber_61 : decode prog_12_method_49_code 61 = .ok (.lconst 0, 1) := by decide +kernel
theorem d_RM_sayNumber_62 : decode prog_12_method_49_code 62 = .ok (.lcmp, 1) := by decide +kernel
theorem d_RM_sayNumber_63 : decode prog_12_method_49_code 63 = .ok (.ifCond .le 52, 3) := by decide +kernel
theorem d_RM_sayNumber_66 : decode prog_12_method_49_code 66 = .ok (.ldc2_w 135, 3) := by decide +kernel
theorem d_RM_sayNumber_69 : decode prog_12_method_49_code 69 = .ok (.lload_n 2, 1) := by decide +kernel
theorem d_RM_sayNumber_70 : decode prog_12_method_49_code 70 = .ok (.lload 4, 2) := by decide +kernel
theorem d_RM_sayNumber_72 : decode prog_12_method_49_code 72 = .ok (.ldiv, 1) := by decide +kernel
theorem d_RM_sayNumber_73 : decode prog_12_method_49_code 73 = .ok (.ldc2_w 133, 3) := by decide +kernel
theorem d_RM_sayNumber_76 : decode prog_12_method_49_code 76 = .ok (.lrem, 1) := by decide +kernel
theorem d_RM_sayNumber_77 : decode prog_12_method_49_code 77 = .ok (.ladd, 1) := by decide +kernel
theorem d_RM_sayNumber_78 : decode prog_12_method_49_code 78 = .ok (.l2i, 1) := by decide +kernel
theorem d_RM_sayNumber_79 : decode prog_12_method_49_code 79 = .ok (.istore 7, 2) := by decide +kernel
theorem d_RM_sayNumber_81 : decode prog_12_method_49_code 81 = .ok (.iload 6, 2) := by decide +kernel
theorem d_RM_sayNumber_83 : decode prog_12_method_49_code 83 = .ok (.ifCond .eq 12, 3) := by decide +kernel
theorem d_RM_sayNumber_86 : decode prog_12_method_49_code 86 = .ok (.aload_n 0, 1) := by decide +kernel
theorem d_RM_sayNumber_87 : decode prog_12_method_49_code 87 = .ok (.iload 7, 2) := by decide +kernel
theorem d_RM_sayNumber_89 : decode prog_12_method_49_code 89 = .ok (.invokevirtual 253, 3) := by decide +kernel
theorem d_RM_sayNumber_92 : decode prog_12_method_49_code 92 = .ok (.goto 9, 3) := by decide +kernel
theorem d_RM_sayNumber_95 : decode prog_12_method_49_code 95 = .ok (.aload_n 0, 1) := by decide +kernel
theorem d_RM_sayNumber_96 : decode prog_12_method_49_code 96 = .ok (.iload 7, 2) := by decide +kernel
theorem d_RM_sayNumber_98 : decode prog_12_method_49_code 98 = .ok (.invokevirtual 250, 3) := by decide +kernel
theorem d_RM_sayNumber_101 : decode prog_12_method_49_code 101 = .ok (.iconst 0, 1) := by decide +kernel
theorem d_RM_sayNumber_102 : decode prog_12_method_49_code 102 = .ok (.istore 6, 2) := by decide +kernel
theorem d_RM_sayNumber_104 : decode prog_12_method_49_code 104 = .ok (.lload 4, 2) := by decide +kernel
theorem d_RM_sayNumber_106 : decode prog_12_method_49_code 106 = .ok (.ldc2_w 133, 3) := by decide +kernel
theorem d_RM_sayNumber_109 : decode prog_12_method_49_code 109 = .ok (.ldiv, 1) := by decide +kernel
theorem d_RM_sayNumber_110 : decode prog_12_method_49_code 110 = .ok (.lstore 4, 2) := by decide +kernel
theorem d_RM_sayNumber_112 : decode prog_12_method_49_code 112 = .ok (.goto (-53), 3) := by decide +kernel
theorem d_RM_sayNumber_115 : decode prog_12_method_49_code 115 = .ok (.return_, 1) := by decide +kernel
theorem d_RM_kindAt_0 : decode prog_12_method_50_code 0 = .ok (.aload_n 0, 1) := by decide +kernel
theorem d_RM_kindAt_1 : decode prog_12_method_50_code 1 = .ok (.getfield 53, 3) := by decide +kernel
theorem d_RM_kindAt_4 : decode prog_12_method_50_code 4 = .ok (.sipush 13000, 3) := by decide +kernel
theorem d_RM_kindAt_7 : decode prog_12_method_50_code 7 = .ok (.iload_n 1, 1) := by decide +kernel
theorem d_RM_kindAt_8 : decode prog_12_method_50_code 8 = .ok (.imul, 1) := by decide +kernel
theorem d_RM_kindAt_9 : decode prog_12_method_50_code 9 = .ok (.iload_n 2, 1) := by decide +kernel
theorem d_RM_kindAt_10 : decode prog_12_method_50_code 10 = .ok (.iadd, 1) := by decide +kernel
theorem d_RM_kindAt_11 : decode prog_12_method_50_code 11 = .ok (.iaload, 1) := by decide +kernel
theorem d_RM_kindAt_12 : decode prog_12_method_50_code 12 = .ok (.ireturn, 1) := by decide +kernel
theorem d_RM_behind_0 : decode prog_12_method_51_code 0 = .ok (.iload_n 2, 1) := by decide +kernel
theorem d_RM_behind_1 : decode prog_12_method_51_code 1 = .ok (.aload_n 0, 1) := by decide +kernel
theorem d_RM_behind_2 : decode prog_12_method_51_code 2 = .ok (.getfield 65, 3) := by decide +kernel
theorem d_RM_behind_5 : decode prog_12_method_51_code 5 = .ok (.sipush 13000, 3) := by decide +kernel
theorem d_RM_behind_8 : decode prog_12_method_51_code 8 = .ok (.iload_n 1, 1) := by decide +kernel
theorem d_RM_behind_9 : decode prog_12_method_51_code 9 = .ok (.imul, 1) := by decide +kernel
theorem d_RM_behind_10 : decode prog_12_method_51_code 10 = .ok (.iload_n 2, 1) := by decide +kernel
theorem d_RM_behind_11 : decode prog_12_method_51_code 11 = .ok (.iadd, 1) := by decide +kernel
theorem d_RM_behind_12 : decode prog_12_method_51_code 12 = .ok (.iaload, 1) := by decide +kernel
theorem d_RM_behind_13 : decode prog_12_method_51_code 13 = .ok (.iadd, 1) := by decide +kernel
theorem d_RM_behind_14 : decode prog_12_method_51_code 14 = .ok (.ireturn, 1) := by decide +kernel
theorem d_RM_inside_0 : decode prog_12_method_52_code 0 = .ok (.iload_n 3, 1) := by decide +kernel
theorem d_RM_inside_1 : decode prog_12_method_52_code 1 = .ok (.ifCond .eq 9, 3) := by decide +kernel
theorem d_RM_inside_4 : decode prog_12_method_52_code 4 = .ok (.aload_n 0, 1) := by decide +kernel
theorem d_RM_inside_5 : decode prog_12_method_52_code 5 = .ok (.iload 4, 2) := by decide +kernel
theorem d_RM_inside_7 : decode prog_12_method_52_code 7 = .ok (.invokevirtual 253, 3) := by decide +kernel
theorem d_RM_inside_10 : decode prog_12_method_52_code 10 = .ok (.aload_n 0, 1) := by decide +kernel
theorem d_RM_inside_11 : decode prog_12_method_52_code 11 = .ok (.iload_n 1, 1) := by decide +kernel
theorem d_RM_inside_12 : decode prog_12_method_52_code 12 = .ok (.iload_n 2, 1) := by decide +kernel
theorem d_RM_inside_13 : decode prog_12_method_52_code 13 = .ok (.invokevirtual 258, 3) := by decide +kernel
theorem d_RM_inside_16 : decode prog_12_method_52_code 16 = .ok (.iload_n 3, 1) := by decide +kernel
theorem d_RM_inside_17 : decode prog_12_method_52_code 17 = .ok (.ifCond .eq 9, 3) := by decide +kernel
theorem d_RM_inside_20 : decode prog_12_method_52_code 20 = .ok (.aload_n 0, 1) := by decide +kernel
theorem d_RM_inside_21 : decode prog_12_method_52_code 21 = .ok (.iload 5, 2) := by decide +kernel
theorem d_RM_inside_23 : decode prog_12_method_52_code 23 = .ok (.invokevirtual 253, 3) := by decide +kernel
theorem d_RM_inside_26 : decode prog_12_method_52_code 26 = .ok (.return_, 1) := by decide +kernel
theorem d_RM_sayFactor_0 : decode prog_12_method_53_code 0 = .ok (.aload_n 0, 1) := by decide +kernel
theorem d_RM_sayFactor_1 : decode prog_12_method_53_code 1 = .ok (.iload_n 1, 1) := by decide +kernel
theorem d_RM_sayFactor_2 : decode prog_12_method_53_code 2 = .ok (.iload_n 2, 1) := by decide +kernel
theorem d_RM_sayFactor_3 : decode prog_12_method_53_code 3 = .ok (.invokevirtual 261, 3) := by decide +kernel
theorem d_RM_sayFactor_6 : decode prog_12_method_53_code 6 = .ok (.istore 4, 2) := by decide +kernel
theorem d_RM_sayFactor_8 : decode prog_12_method_53_code 8 = .ok (.aload_n 0, 1) := by decide +kernel
theorem d_RM_sayFactor_9 : decode prog_12_method_53_code 9 = .ok (.iload_n 1, 1) := by decide +kernel
theorem d_RM_sayFactor_10 : decode prog_12_method_53_code 10 = .ok (.iload_n 2, 1) := by decide +kernel
theorem d_RM_sayFactor_11 : decode prog_12_method_53_code 11 = .ok (.iload 4, 2) := by decide +kernel
theorem d_RM_sayFactor_13 : decode prog_12_method_53_code 13 = .ok (.bipush 17, 2) := by decide +kernel
theorem d_RM_sayFactor_15 : decode prog_12_method_53_code 15 = .ok (.if_icmp .eq 14, 3) := by decide +kernel
theorem d_RM_sayFactor_18 : decode prog_12_method_53_code 18 = .ok (.iload_n 3, 1) := by decide +kernel
theorem d_RM_sayFactor_19 : decode prog_12_method_53_code 19 = .ok (.ifCond .ne 14, 3) := by decide +kernel
theorem d_RM_sayFactor_22 : decode prog_12_method_53_code 22 = .ok (.iload 4, 2) := by decide +kernel
theorem d_RM_sayFactor_24 : decode prog_12_method_53_code 24 = .ok (.bipush 20, 2) := by decide +kernel
theorem d_RM_sayFactor_26 : decode prog_12_method_53_code 26 = .ok (.if_icmp .ne 7, 3) := by decide +kernel
theorem d_RM_sayFactor_29 : decode prog_12_method_53_code 29 = .ok (.iconst 1, 1) := by decide +kernel
theorem d_RM_sayFactor_30 : decode prog_12_method_53_code 30 = .ok (.goto 4, 3) := by decide +kernel
theorem d_RM_sayFactor_33 : decode prog_12_method_53_code 33 = .ok (.iconst 0, 1) := by decide +kernel
theorem d_RM_sayFactor_34 : decode prog_12_method_53_code 34 = .ok (.bipush 40, 2) := by decide +kernel
theorem d_RM_sayFactor_36 : decode prog_12_method_53_code 36 = .ok (.bipush 41, 2) := by decide +kernel
theorem d_RM_sayFactor_38 : decode prog_12_method_53_code 38 = .ok (.invokevirtual 264, 3) := by decide +kernel
theorem d_RM_sayFactor_41 : decode prog_12_method_53_code 41 = .ok (.return_, 1) := by decide +kernel
theorem d_RM_sayTest_0 : decode prog_12_method_54_code 0 = .ok (.aload_n 0, 1) := by decide +kernel
theorem d_RM_sayTest_1 : decode prog_12_method_54_code 1 = .ok (.iload_n 1, 1) := by decide +kernel
theorem d_RM_sayTest_2 : decode prog_12_method_54_code 2 = .ok (.iload_n 2, 1) := by decide +kernel
theorem d_RM_sayTest_3 : decode prog_12_method_54_code 3 = .ok (.invokevirtual 261, 3) := by decide +kernel
theorem d_RM_sayTest_6 : decode prog_12_method_54_code 6 = .ok (.istore 4, 2) := by decide +kernel
theorem d_RM_sayTest_8 : decode prog_12_method_54_code 8 = .ok (.aload_n 0, 1) := by decide +kernel
theorem d_RM_sayTest_9 : decode prog_12_method_54_code 9 = .ok (.iload_n 1, 1) := by decide +kernel
theorem d_RM_sayTest_10 : decode prog_12_method_54_code 10 = .ok (.iload_n 2, 1) := by decide +kernel
theorem d_RM_sayTest_11 : decode prog_12_method_54_code 11 = .ok (.iload 4, 2) := by decide +kernel
theorem d_RM_sayTest_13 : decode prog_12_method_54_code 13 = .ok (.bipush 24, 2) := by decide +kernel
theorem d_RM_sayTest_15 : decode prog_12_method_54_code 15 = .ok (.if_icmp .eq 14, 3) := by decide +kernel
theorem d_RM_sayTest_18 : decode prog_12_method_54_code 18 = .ok (.iload_n 3, 1) := by decide +kernel
theorem d_RM_sayTest_19 : decode prog_12_method_54_code 19 = .ok (.ifCond .ne 14, 3) := by decide +kernel
theorem d_RM_sayTest_22 : decode prog_12_method_54_code 22 = .ok (.iload 4, 2) := by decide +kernel
theorem d_RM_sayTest_24 : decode prog_12_method_54_code 24 = .ok (.bipush 25, 2) := by decide +kernel
theorem d_RM_sayTest_26 : decode prog_12_method_54_code 26 = .ok (.if_icmp .ne 7, 3) := by decide +kernel
theorem d_RM_sayTest_29 : decode prog_12_method_54_code 29 = .ok (.iconst 1, 1) := by decide +kernel
theorem d_RM_sayTest_30 : decode prog_12_method_54_code 30 = .ok (.goto 4, 3) := by decide +kernel
theorem d_RM_sayTest_33 : decode prog_12_method_54_code 33 = .ok (.iconst 0, 1) := by decide +kernel
theorem d_RM_sayTest_34 : decode prog_12_method_54_code 34 = .ok (.bipush 91, 2) := by decide +kernel
theorem d_RM_sayTest_36 : decode prog_12_method_54_code 36 = .ok (.bipush 93, 2) := by decide +kernel
theorem d_RM_sayTest_38 : decode prog_12_method_54_code 38 = .ok (.invokevirtual 264, 3) := by decide +kernel
theorem d_RM_sayTest_41 : decode prog_12_method_54_code 41 = .ok (.return_, 1) := by decide +kernel
theorem d_RM_commas_0 : decode prog_12_method_55_code 0 = .ok (.aload_n 0, 1) := by decide +kernel
theorem d_RM_commas_1 : decode prog_12_method_55_code 1 = .ok (.bipush 40, 2) := by decide +kernel
theorem d_RM_commas_3 : decode prog_12_method_55_code 3 = .ok (.invokevirtual 253, 3) := by decide +kernel
theorem d_RM_commas_6 : decode prog_12_method_55_code 6 = .ok (.iload_n 2, 1) := by decide +kernel
theorem d_RM_commas_7 : decode prog_12_method_55_code 7 = .ok (.istore 4, 2) := by decide +kernel
theorem d_RM_commas_9 : decode prog_12_method_55_code 9 = .ok (.iload 4, 2) := by decide +kernel
theorem d_RM_commas_11 : decode prog_12_method_55_code 11 = .ok (.iload_n 3, 1) := by decide +kernel
theorem d_RM_commas_12 : decode prog_12_method_55_code 12 = .ok (.if_icmp .ge 34, 3) := by decide +kernel
theorem d_RM_commas_15 : decode prog_12_method_55_code 15 = .ok (.iload 4, 2) := by decide +kernel
theorem d_RM_commas_17 : decode prog_12_method_55_code 17 = .ok (.iload_n 2, 1) := by decide +kernel
theorem d_RM_commas_18 : decode prog_12_method_55_code 18 = .ok (.if_icmp .le 9, 3) := by decide +kernel
theorem d_RM_commas_21 : decode prog_12_method_55_code 21 = .ok (.aload_n 0, 1) := by decide +kernel
theorem d_RM_commas_22 : decode prog_12_method_55_code 22 = .ok (.bipush 44, 2) := by decide +kernel
theorem d_RM_commas_24 : decode prog_12_method_55_code 24 = .ok (.invokevirtual 253, 3) := by decide +kernel
theorem d_RM_commas_27 : decode prog_12_method_55_code 27 = .ok (.aload_n 0, 1) := by decide +kernel
theorem d_RM_commas_28 : decode prog_12_method_55_code 28 = .ok (.iload_n 1, 1) := by decide +kernel
theorem d_RM_commas_29 : decode prog_12_method_55_code 29 = .ok (.iload 4, 2) := by decide +kernel
theorem d_RM_commas_31 : decode prog_12_method_55_code 31 = .ok (.invokevirtual 258, 3) := by decide +kernel
theorem d_RM_commas_34 : decode prog_12_method_55_code 34 = .ok (.aload_n 0, 1) := by decide +kernel
theorem d_RM_commas_35 : decode prog_12_method_55_code 35 = .ok (.iload_n 1, 1) := by decide +kernel
theorem d_RM_commas_36 : decode prog_12_method_55_code 36 = .ok (.iload 4, 2) := by decide +kernel
theorem d_RM_commas_38 : decode prog_12_method_55_code 38 = .ok (.invokevirtual 268, 3) := by decide +kernel
theorem d_RM_commas_41 : decode prog_12_method_55_code 41 = .ok (.istore 4, 2) := by decide +kernel
theorem d_RM_commas_43 : decode prog_12_method_55_code 43 = .ok (.goto (-34), 3) := by decide +kernel
theorem d_RM_commas_46 : decode prog_12_method_55_code 46 = .ok (.aload_n 0, 1) := by decide +kernel
theorem d_RM_commas_47 : decode prog_12_method_55_code 47 = .ok (.bipush 41, 2) := by decide +kernel
theorem d_RM_commas_49 : decode prog_12_method_55_code 49 = .ok (.invokevirtual 253, 3) := by decide +kernel
theorem d_RM_commas_52 : decode prog_12_method_55_code 52 = .ok (.return_, 1) := by decide +kernel
theorem d_RM_sign_0 : decode prog_12_method_56_code 0 = .ok (.iload_n 1, 1) := by decide +kernel
theorem d_RM_sign_1 : decode prog_12_method_56_code 1 = .ok (.bipush 18, 2) := by decide +kernel
theorem d_RM_sign_3 : decode prog_12_method_56_code 3 = .ok (.if_icmp .ne 9, 3) := by decide +kernel
theorem d_RM_sign_6 : decode prog_12_method_56_code 6 = .ok (.ldc_w 271, 3) := by decide +kernel
theorem d_RM_sign_9 : decode prog_12_method_56_code 9 = .ok (.goto 114, 3) := by decide +kernel
theorem d_RM_sign_12 : decode prog_12_method_56_code 12 = .ok (.iload_n 1, 1) := by decide +kernel
theorem d_RM_sign_13 : decode prog_12_method_56_code 13 = .ok (.bipush 19, 2) := by decide +kernel
theorem d_RM_sign_15 : decode prog_12_method_56_code 15 = .ok (.if_icmp .ne 9, 3) := by decide +kernel
theorem d_RM_sign_18 : decode prog_12_method_56_code 18 = .ok (.ldc_w 273, 3) := by decide +kernel
theorem d_RM_sign_21 : decode prog_12_method_56_code 21 = .ok (.goto 102, 3) := by decide +kernel
theorem d_RM_sign_24 : decode prog_12_method_56_code 24 = .ok (.iload_n 1, 1) := by decide +kernel
theorem d_RM_sign_25 : decode prog_12_method_56_code 25 = .ok (.bipush 21, 2) := by decide +kernel
theorem d_RM_sign_27 : decode prog_12_method_56_code 27 = .ok (.if_icmp .ne 9, 3) := by decide +kernel
theorem d_RM_sign_30 : decode prog_12_method_56_code 30 = .ok (.ldc_w 275, 3) := by decide +kernel
theorem d_RM_sign_33 : decode prog_12_method_56_code 33 = .ok (.goto 90, 3) := by decide +kernel
theorem d_RM_sign_36 : decode prog_12_method_56_code 36 = .ok (.iload_n 1, 1) := by decide +kernel
theorem d_RM_sign_37 : decode prog_12_method_56_code 37 = .ok (.bipush 22, 2) := by decide +kernel
theorem d_RM_sign_39 : decode prog_12_method_56_code 39 = .ok (.if_icmp .ne 9, 3) := by decide +kernel
theorem d_RM_sign_42 : decode prog_12_method_56_code 42 = .ok (.ldc_w 277, 3) := by decide +kernel
theorem d_RM_sign_45 : decode prog_12_method_56_code 45 = .ok (.goto 78, 3) := by decide +kernel
theorem d_RM_sign_48 : decode prog_12_method_56_code 48 = .ok (.iload_n 1, 1) := by decide +kernel
theorem d_RM_sign_49 : decode prog_12_method_56_code 49 = .ok (.bipush 23, 2) := by decide +kernel
theorem d_RM_sign_51 : decode prog_12_method_56_code 51 = .ok (.if_icmp .ne 9, 3) := by decide +kernel
theorem d_RM_sign_54 : decode prog_12_method_56_code 54 = .ok (.ldc_w 279, 3) := by decide +kernel
theorem d_RM_sign_57 : decode prog_12_method_56_code 57 = .ok (.goto 66, 3) := by decide +kernel
theorem d_RM_sign_60 : decode prog_12_method_56_code 60 = .ok (.iload_n 1, 1) := by decide +kernel
theorem d_RM_sign_61 : decode prog_12_method_56_code 61 = .ok (.bipush 27, 2) := by decide +kernel
theorem d_RM_sign_63 : decode prog_12_method_56_code 63 = .ok (.if_icmp .ne 9, 3) := by decide +kernel
theorem d_RM_sign_66 : decode prog_12_method_56_code 66 = .ok (.ldc_w 281, 3) := by decide +kernel
theorem d_RM_sign_69 : decode prog_12_method_56_code 69 = .ok (.goto 54, 3) := by decide +kernel
theorem d_RM_sign_72 : decode prog_12_method_56_code 72 = .ok (.iload_n 1, 1) := by decide +kernel
theorem d_RM_sign_73 : decode prog_12_method_56_code 73 = .ok (.bipush 28, 2) := by decide +kernel
theorem d_RM_sign_75 : decode prog_12_method_56_code 75 = .ok (.if_icmp .ne 9, 3) := by decide +kernel
theorem d_RM_sign_78 : decode prog_12_method_56_code 78 = .ok (.ldc_w 283, 3) := by decide +kernel
theorem d_RM_sign_81 : decode prog_12_method_56_code 81 = .ok (.goto 42, 3) := by decide +kernel
theorem d_RM_sign_84 : decode prog_12_method_56_code 84 = .ok (.iload_n 1, 1) := by decide +kernel
theorem d_RM_sign_85 : decode prog_12_method_56_code 85 = .ok (.bipush 29, 2) := by decide +kernel
theorem d_RM_sign_87 : decode prog_12_method_56_code 87 = .ok (.if_icmp .ne 9, 3) := by decide +kernel
theorem d_RM_sign_90 : decode prog_12_method_56_code 90 = .ok (.ldc_w 285, 3) := by decide +kernel
theorem d_RM_sign_93 : decode prog_12_method_56_code 93 = .ok (.goto 30, 3) := by decide +kernel
theorem d_RM_sign_96 : decode prog_12_method_56_code 96 = .ok (.iload_n 1, 1) := by decide +kernel
theorem d_RM_sign_97 : decode prog_12_method_56_code 97 = .ok (.bipush 30, 2) := by decide +kernel
theorem d_RM_sign_99 : decode prog_12_method_56_code 99 = .ok (.if_icmp .ne 9, 3) := by decide +kernel
theorem d_RM_sign_102 : decode prog_12_method_56_code 102 = .ok (.ldc_w 287, 3) := by decide +kernel
theorem d_RM_sign_105 : decode prog_12_method_56_code 105 = .ok (.goto 18, 3) := by decide +kernel
theorem d_RM_sign_108 : decode prog_12_method_56_code 108 = .ok (.iload_n 1, 1) := by decide +kernel
theorem d_RM_sign_109 : decode prog_12_method_56_code 109 = .ok (.bipush 31, 2) := by decide +kernel
theorem d_RM_sign_111 : decode prog_12_method_56_code 111 = .ok (.if_icmp .ne 9, 3) := by decide +kernel
theorem d_RM_sign_114 : decode prog_12_method_56_code 114 = .ok (.ldc_w 289, 3) := by decide +kernel
theorem d_RM_sign_117 : decode prog_12_method_56_code 117 = .ok (.goto 6, 3) := by decide +kernel
theorem d_RM_sign_120 : decode prog_12_method_56_code 120 = .ok (.ldc_w 291, 3) := by decide +kernel
theorem d_RM_sign_123 : decode prog_12_method_56_code 123 = .ok (.areturn, 1) := by decide +kernel
theorem d_RM_statements_0 : decode prog_12_method_57_code 0 = .ok (.iload_n 2, 1) := by decide +kernel
theorem d_RM_statements_1 : decode prog_12_method_57_code 1 = .ok (.iconst 1, 1) := by decide +kernel
theorem d_RM_statements_2 : decode prog_12_method_57_code 2 = .ok (.iadd, 1) := by decide +kernel
theorem d_RM_statements_3 : decode prog_12_method_57_code 3 = .ok (.istore 4, 2) := by decide +kernel
theorem d_RM_statements_5 : decode prog_12_method_57_code 5 = .ok (.aload_n 0, 1) := by decide +kernel
theorem d_RM_statements_6 : decode prog_12_method_57_code 6 = .ok (.iload_n 1, 1) := by decide +kernel
theorem d_RM_statements_7 : decode prog_12_method_57_code 7 = .ok (.iload 4, 2) := by decide +kernel
theorem d_RM_statements_9 : decode prog_12_method_57_code 9 = .ok (.invokevirtual 268, 3) := by decide +kernel
theorem d_RM_statements_12 : decode prog_12_method_57_code 12 = .ok (.istore 5, 2) := by decide +kernel
theorem d_RM_statements_14 : decode prog_12_method_57_code 14 = .ok (.iload_n 3, 1) := by decide +kernel
theorem d_RM_statements_15 : decode prog_12_method_57_code 15 = .ok (.iconst 3, 1) := by decide +kernel
theorem d_RM_statements_16 : decode prog_12_method_57_code 16 = .ok (.if_icmp .eq 8, 3) := by decide +kernel
theorem d_RM_statements_19 : decode prog_12_method_57_code 19 = .ok (.iload_n 3, 1) := by decide +kernel
theorem d_RM_statements_20 : decode prog_12_method_57_code 20 = .ok (.iconst 4, 1) := by decide +kernel
theorem d_RM_statements_21 : decode prog_12_method_57_code 21 = .ok (.if_icmp .ne 64, 3) := by decide +kernel
theorem d_RM_statements_24 : decode prog_12_method_57_code 24 = .ok (.aload_n 0, 1) := by decide +kernel
theorem d_RM_statements_25 : decode prog_12_method_57_code 25 = .ok (.ldc 81, 2) := by decide +kernel
theorem d_RM_statements_27 : decode prog_12_method_57_code 27 = .ok (.invokevirtual 293, 3) := by decide +kernel
theorem d_RM_statements_30 : decode prog_12_method_57_code 30 = .ok (.aload_n 0, 1) := by decide +kernel
theorem d_RM_statements_31 : decode prog_12_method_57_code 31 = .ok (.iload_n 1, 1) := by decide +kernel
theorem d_RM_statements_32 : decode prog_12_method_57_code 32 = .ok (.iload 4, 2) := by decide +kernel
theorem d_RM_statements_34 : decode prog_12_method_57_code 34 = .ok (.invokevirtual 258, 3) := by decide +kernel
theorem d_RM_statements_37 : decode prog_12_method_57_code 37 = .ok (.iload 5, 2) := by decide +kernel
theorem d_RM_statements_39 : decode prog_12_method_57_code 39 = .ok (.aload_n 0, 1) := by decide +kernel
theorem d_RM_statements_40 : decode prog_12_method_57_code 40 = .ok (.iload_n 1, 1) := by decide +kernel
theorem d_RM_statements_41 : decode prog_12_method_57_code 41 = .ok (.iload_n 2, 1) := by decide +kernel
theorem d_RM_statements_42 : decode prog_12_method_57_code 42 = .ok (.invokevirtual 268, 3) := by decide +kernel
theorem d_RM_statements_45 : decode prog_12_method_57_code 45 = .ok (.if_icmp .ge 26, 3) := by decide +kernel
theorem d_RM_statements_48 : decode prog_12_method_57_code 48 = .ok (.aload_n 0, 1) := by decide +kernel
theorem d_RM_statements_49 : decode prog_12_method_57_code 49 = .ok (.iload_n 3, 1) := by decide +kernel
theorem d_RM_statements_50 : decode prog_12_method_57_code 50 = .ok (.iconst 3, 1) := by decide +kernel
theorem d_RM_statements_51 : decode prog_12_method_57_code 51 = .ok (.if_icmp .ne 8, 3) := by decide +kernel
theorem d_RM_statements_54 : decode prog_12_method_57_code 54 = .ok (.bipush 61, 2) := by decide +kernel
theorem d_RM_statements_56 : decode prog_12_method_57_code 56 = .ok (.goto 5, 3) := by decide +kernel
theorem d_RM_statements_59 : decode prog_12_method_57_code 59 = .ok (.bipush 91, 2) := by decide +kernel
theorem d_RM_statements_61 : decode prog_12_method_57_code 61 = .ok (.invokevirtual 253, 3) := by decide +kernel
theorem d_RM_statements_64 : decode prog_12_method_57_code 64 = .ok (.aload_n 0, 1) := by decide +kernel
theorem d_RM_statements_65 : decode prog_12_method_57_code 65 = .ok (.iload_n 1, 1) := by decide +kernel
theorem d_RM_statements_66 : decode prog_12_method_57_code 66 = .ok (.iload 5, 2) := by decide +kernel
theorem d_RM_statements_68 : decode prog_12_method_57_code 68 = .ok (.invokevirtual 258, 3) := by decide +kernel
theorem d_RM_statements_71 : decode prog_12_method_57_code 71 = .ok (.iload_n 3, 1) := by decide +kernel
theorem d_RM_statements_72 : decode prog_12_method_57_code 72 = .ok (.iconst 4, 1) := by decide +kernel
theorem d_RM_statements_73 : decode prog_12_method_57_code 73 = .ok (.if_icmp .ne 275, 3) := by decide +kernel
theorem d_RM_statements_76 : decode prog_12_method_57_code 76 = .ok (.aload_n 0, 1) := by decide +kernel
theorem d_RM_statements_77 : decode prog_12_method_57_code 77 = .ok (.bipush 93, 2) := by decide +kernel
theorem d_RM_statements_79 : decode prog_12_method_57_code 79 = .ok (.invokevirtual 253, 3) := by decide +kernel
theorem d_RM_statements_82 : decode prog_12_method_57_code 82 = .ok (.goto 266, 3) := by decide +kernel
theorem d_RM_statements_85 : decode prog_12_method_57_code 85 = .ok (.iload_n 3, 1) := by decide +kernel
theorem d_RM_statements_86 : decode prog_12_method_57_code 86 = .ok (.iconst 5, 1) := by decide +kernel
theorem d_RM_statements_87 : decode prog_12_method_57_code 87 = .ok (.if_icmp .ne 26, 3) := by decide +kernel
theorem d_RM_statements_90 : decode prog_12_method_57_code 90 = .ok (.aload_n 0, 1) := by decide +kernel
theorem d_RM_statements_91 : decode prog_12_method_57_code 91 = .ok (.iload_n 1, 1) := by decide +kernel
theorem d_RM_statements_92 : decode prog_12_method_57_code 92 = .ok (.iload 4, 2) := by decide +kernel
theorem d_RM_statements_94 : decode prog_12_method_57_code 94 = .ok (.invokevirtual 258, 3) := by decide +kernel
theorem d_RM_statements_97 : decode prog_12_method_57_code 97 = .ok (.aload_n 0, 1) := by decide +kernel
theorem d_RM_statements_98 : decode prog_12_method_57_code 98 = .ok (.bipush 61, 2) := by decide +kernel
theorem d_RM_statements_100 : decode prog_12_method_57_code 100 = .ok (.invokevirtual 253, 3) := by decide +kernel
theorem d_RM_statements_103 : decode prog_12_method_57_code 103 = .ok (.aload_n 0, 1) := by decide +kernel
theorem d_RM_statements_104 : decode prog_12_method_57_code 104 = .ok (.iload_n 1, 1) := by decide +kernel
theorem d_RM_statements_105 : decode prog_12_method_57_code 105 = .ok (.iload 5, 2) := by decide +kernel
theorem d_RM_statements_107 : decode prog_12_method_57_code 107 = .ok (.invokevirtual 258, 3) := by decide +kernel
theorem d_RM_statements_110 : decode prog_12_method_57_code 110 = .ok (.goto 238, 3) := by decide +kernel
theorem d_RM_statements_113 : decode prog_12_method_57_code 113 = .ok (.iload_n 3, 1) := by decide +kernel
theorem d_RM_statements_114 : decode prog_12_method_57_code 114 = .ok (.bipush 6, 2) := by decide +kernel
theorem d_RM_statements_116 : decode prog_12_method_57_code 116 = .ok (.if_icmp .ne 50, 3) := by decide +kernel
theorem d_RM_statements_119 : decode prog_12_method_57_code 119 = .ok (.aload_n 0, 1) := by decide +kernel
theorem d_RM_statements_120 : decode prog_12_method_57_code 120 = .ok (.iload_n 1, 1) := by decide +kernel
theorem d_RM_statements_121 : decode prog_12_method_57_code 121 = .ok (.iload 4, 2) := by decide +kernel
theorem d_RM_statements_123 : decode prog_12_method_57_code 123 = .ok (.invokevirtual 258, 3) := by decide +kernel
theorem d_RM_statements_126 : decode prog_12_method_57_code 126 = .ok (.aload_n 0, 1) := by decide +kernel
theorem d_RM_statements_127 : decode prog_12_method_57_code 127 = .ok (.bipush 91, 2) := by decide +kernel
theorem d_RM_statements_129 : decode prog_12_method_57_code 129 = .ok (.invokevirtual 253, 3) := by decide +kernel
theorem d_RM_statements_132 : decode prog_12_method_57_code 132 = .ok (.aload_n 0, 1) := by decide +kernel
theorem d_RM_statements_133 : decode prog_12_method_57_code 133 = .ok (.iload_n 1, 1) := by decide +kernel
theorem d_RM_statements_134 : decode prog_12_method_57_code 134 = .ok (.iload 5, 2) := by decide +kernel
theorem d_RM_statements_136 : decode prog_12_method_57_code 136 = .ok (.invokevirtual 258, 3) := by decide +kernel
theorem d_RM_statements_139 : decode prog_12_method_57_code 139 = .ok (.aload_n 0, 1) := by decide +kernel
theorem d_RM_statements_140 : decode prog_12_method_57_code 140 = .ok (.bipush 93, 2) := by decide +kernel
theorem d_RM_statements_142 : decode prog_12_method_57_code 142 = .ok (.invokevirtual 253, 3) := by decide +kernel
theorem d_RM_statements_145 : decode prog_12_method_57_code 145 = .ok (.aload_n 0, 1) := by decide +kernel
theorem d_RM_statements_146 : decode prog_12_method_57_code 146 = .ok (.bipush 61, 2) := by decide +kernel
theorem d_RM_statements_148 : decode prog_12_method_57_code 148 = .ok (.invokevirtual 253, 3) := by decide +kernel
theorem d_RM_statements_151 : decode prog_12_method_57_code 151 = .ok (.aload_n 0, 1) := by decide +kernel
theorem d_RM_statements_152 : decode prog_12_method_57_code 152 = .ok (.iload_n 1, 1) := by decide +kernel
theorem d_RM_statements_153 : decode prog_12_method_57_code 153 = .ok (.aload_n 0, 1) := by decide +kernel
theorem d_RM_statements_154 : decode prog_12_method_57_code 154 = .ok (.iload_n 1, 1) := by decide +kernel
theorem d_RM_statements_155 : decode prog_12_method_57_code 155 = .ok (.iload 5, 2) := by decide +kernel
theorem d_RM_statements_157 : decode prog_12_method_57_code 157 = .ok (.invokevirtual 268, 3) := by decide +kernel
theorem d_RM_statements_160 : decode prog_12_method_57_code 160 = .ok (.invokevirtual 258, 3) := by decide +kernel
theorem d_RM_statements_163 : decode prog_12_method_57_code 163 = .ok (.goto 185, 3) := by decide +kernel
theorem d_RM_statements_166 : decode prog_12_method_57_code 166 = .ok (.iload_n 3, 1) := by decide +kernel
theorem d_RM_statements_167 : decode prog_12_method_57_code 167 = .ok (.bipush 7, 2) := by decide +kernel
theorem d_RM_statements_169 : decode prog_12_method_57_code 169 = .ok (.if_icmp .ne 56, 3) := by decide +kernel
theorem d_RM_statements_172 : decode prog_12_method_57_code 172 = .ok (.aload_n 0, 1) := by decide +kernel
theorem d_RM_statements_173 : decode prog_12_method_57_code 173 = .ok (.iload_n 1, 1) := by decide +kernel
theorem d_RM_statements_174 : decode prog_12_method_57_code 174 = .ok (.iload 4, 2) := by decide +kernel
theorem d_RM_statements_176 : decode prog_12_method_57_code 176 = .ok (.invokevirtual 261, 3) := by decide +kernel
theorem d_RM_statements_179 : decode prog_12_method_57_code 179 = .ok (.bipush 33, 2) := by decide +kernel
theorem d_RM_statements_181 : decode prog_12_method_57_code 181 = .ok (.if_icmp .eq 16, 3) := by decide +kernel
theorem d_RM_statements_184 : decode prog_12_method_57_code 184 = .ok (.aload_n 0, 1) := by decide +kernel
theorem d_RM_statements_185 : decode prog_12_method_57_code 185 = .ok (.iload_n 1, 1) := by decide +kernel
theorem d_RM_statements_186 : decode prog_12_method_57_code 186 = .ok (.iload 4, 2) := by decide +kernel
theorem d_RM_statements_188 : decode prog_12_method_57_code 188 = .ok (.invokevirtual 258, 3) := by decide +kernel
theorem d_RM_statements_191 : decode prog_12_method_57_code 191 = .ok (.aload_n 0, 1) := by decide +kernel
theorem d_RM_statements_192 : decode prog_12_method_57_code 192 = .ok (.bipush 61, 2) := by decide +kernel
theorem d_RM_statements_194 : decode prog_12_method_57_code 194 = .ok (.invokevirtual 253, 3) := by decide +kernel
theorem d_RM_statements_197 : decode prog_12_method_57_code 197 = .ok (.aload_n 0, 1) := by decide +kernel
theorem d_RM_statements_198 : decode prog_12_method_57_code 198 = .ok (.iload_n 1, 1) := by decide +kernel
theorem d_RM_statements_199 : decode prog_12_method_57_code 199 = .ok (.iload 5, 2) := by decide +kernel
theorem d_RM_statements_201 : decode prog_12_method_57_code 201 = .ok (.invokevirtual 258, 3) := by decide +kernel
theorem d_RM_statements_204 : decode prog_12_method_57_code 204 = .ok (.aload_n 0, 1) := by decide +kernel
theorem d_RM_statements_205 : decode prog_12_method_57_code 205 = .ok (.iload_n 1, 1) := by decide +kernel
theorem d_RM_statements_206 : decode prog_12_method_57_code 206 = .ok (.aload_n 0, 1) := by decide +kernel
theorem d_RM_statements_207 : decode prog_12_method_57_code 207 = .ok (.iload_n 1, 1) := by decide +kernel
theorem d_RM_statements_208 : decode prog_12_method_57_code 208 = .ok (.iload 5, 2) := by decide +kernel
theorem d_RM_statements_210 : decode prog_12_method_57_code 210 = .ok (.invokevirtual 268, 3) := by decide +kernel
theorem d_RM_statements_213 : decode prog_12_method_57_code 213 = .ok (.aload_n 0, 1) := by decide +kernel
theorem d_RM_statements_214 : decode prog_12_method_57_code 214 = .ok (.iload_n 1, 1) := by decide +kernel
theorem d_RM_statements_215 : decode prog_12_method_57_code 215 = .ok (.iload_n 2, 1) := by decide +kernel
theorem d_RM_statements_216 : decode prog_12_method_57_code 216 = .ok (.invokevirtual 268, 3) := by decide +kernel
theorem d_RM_statements_219 : decode prog_12_method_57_code 219 = .ok (.invokevirtual 297, 3) := by decide +kernel
theorem d_RM_statements_222 : decode prog_12_method_57_code 222 = .ok (.goto 126, 3) := by decide +kernel
theorem d_RM_statements_225 : decode prog_12_method_57_code 225 = .ok (.iload_n 3, 1) := by decide +kernel
theorem d_RM_statements_226 : decode prog_12_method_57_code 226 = .ok (.bipush 11, 2) := by decide +kernel
theorem d_RM_statements_228 : decode prog_12_method_57_code 228 = .ok (.if_icmp .ne 19, 3) := by decide +kernel
theorem d_RM_statements_231 : decode prog_12_method_57_code 231 = .ok (.aload_n 0, 1) := by decide +kernel
theorem d_RM_statements_232 : decode prog_12_method_57_code 232 = .ok (.ldc 91, 2) := by decide +kernel
theorem d_RM_statements_234 : decode prog_12_method_57_code 234 = .ok (.invokevirtual 293, 3) := by decide +kernel
theorem d_RM_statements_237 : decode prog_12_method_57_code 237 = .ok (.aload_n 0, 1) := by decide +kernel
theorem d_RM_statements_238 : decode prog_12_method_57_code 238 = .ok (.iload_n 1, 1) := by decide +kernel
theorem d_RM_statements_239 : decode prog_12_method_57_code 239 = .ok (.iload 4, 2) := by decide +kernel
theorem d_RM_statements_241 : decode prog_12_method_57_code 241 = .ok (.invokevirtual 258, 3) := by decide +kernel
theorem d_RM_statements_244 : decode prog_12_method_57_code 244 = .ok (.goto 104, 3) := by decide +kernel
theorem d_RM_statements_247 : decode prog_12_method_57_code 247 = .ok (.aload_n 0, 1) := by decide +kernel
theorem d_RM_statements_248 : decode prog_12_method_57_code 248 = .ok (.iload_n 3, 1) := by decide +kernel
theorem d_RM_statements_249 : decode prog_12_method_57_code 249 = .ok (.bipush 8, 2) := by decide +kernel
theorem d_RM_statements_251 : decode prog_12_method_57_code 251 = .ok (.if_icmp .ne 8, 3) := by decide +kernel
theorem d_RM_statements_254 : decode prog_12_method_57_code 254 = .ok (.ldc 83, 2) := by decide +kernel
theorem d_RM_statements_256 : decode prog_12_method_57_code 256 = .ok (.goto 16, 3) := by decide +kernel
theorem d_RM_statements_259 : decode prog_12_method_57_code 259 = .ok (.iload_n 3, 1) := by decide +kernel
theorem d_RM_statements_260 : decode prog_12_method_57_code 260 = .ok (.bipush 9, 2) := by decide +kernel
theorem d_RM_statements_262 : decode prog_12_method_57_code 262 = .ok (.if_icmp .ne 8, 3) := by decide +kernel
theorem d_RM_statements_265 : decode prog_12_method_57_code 265 = .ok (.ldc 87, 2) := by decide +kernel
theorem d_RM_statements_267 : decode prog_12_method_57_code 267 = .ok (.goto 5, 3) := by decide +kernel
theorem d_RM_statements_270 : decode prog_12_method_57_code 270 = .ok (.ldc 89, 2) := by decide +kernel
theorem d_RM_statements_272 : decode prog_12_method_57_code 272 = .ok (.invokevirtual 293, 3) := by decide +kernel
theorem d_RM_statements_275 : decode prog_12_method_57_code 275 = .ok (.aload_n 0, 1) := by decide +kernel
theorem d_RM_statements_276 : decode prog_12_method_57_code 276 = .ok (.bipush 40, 2) := by decide +kernel
theorem d_RM_statements_278 : decode prog_12_method_57_code 278 = .ok (.invokevirtual 253, 3) := by decide +kernel
theorem d_RM_statements_281 : decode prog_12_method_57_code 281 = .ok (.aload_n 0, 1) := by decide +kernel
theorem d_RM_statements_282 : decode prog_12_method_57_code 282 = .ok (.iload_n 1, 1) := by decide +kernel
theorem d_RM_statements_283 : decode prog_12_method_57_code 283 = .ok (.iload 4, 2) := by decide +kernel
theorem d_RM_statements_285 : decode prog_12_method_57_code 285 = .ok (.invokevirtual 258, 3) := by decide +kernel
theorem d_RM_statements_288 : decode prog_12_method_57_code 288 = .ok (.aload_n 0, 1) := by decide +kernel
theorem d_RM_statements_289 : decode prog_12_method_57_code 289 = .ok (.bipush 41, 2) := by decide +kernel
theorem d_RM_statements_291 : decode prog_12_method_57_code 291 = .ok (.invokevirtual 253, 3) := by decide +kernel
theorem d_RM_statements_294 : decode prog_12_method_57_code 294 = .ok (.iload_n 3, 1) := by decide +kernel
theorem d_RM_statements_295 : decode prog_12_method_57_code 295 = .ok (.bipush 10, 2) := by decide +kernel
theorem d_RM_statements_297 : decode prog_12_method_57_code 297 = .ok (.if_icmp .ge 51, 3) := by decide +kernel
theorem d_RM_statements_300 : decode prog_12_method_57_code 300 = .ok (.aload_n 0, 1) := by decide +kernel
theorem d_RM_statements_301 : decode prog_12_method_57_code 301 = .ok (.iload_n 1, 1) := by decide +kernel
theorem d_RM_statements_302 : decode prog_12_method_57_code 302 = .ok (.iload 5, 2) := by decide +kernel
theorem d_RM_statements_304 : decode prog_12_method_57_code 304 = .ok (.invokevirtual 258, 3) := by decide +kernel
theorem d_RM_statements_307 : decode prog_12_method_57_code 307 = .ok (.iload_n 3, 1) := by decide +kernel
theorem d_RM_statements_308 : decode prog_12_method_57_code 308 = .ok (.bipush 8, 2) := by decide +kernel
theorem d_RM_statements_310 : decode prog_12_method_57_code 310 = .ok (.if_icmp .ne 37, 3) := by decide +kernel
theorem d_RM_statements_313 : decode prog_12_method_57_code 313 = .ok (.aload_n 0, 1) := by decide +kernel
theorem d_RM_statements_314 : decode prog_12_method_57_code 314 = .ok (.iload_n 1, 1) := by decide +kernel
theorem d_RM_statements_315 : decode prog_12_method_57_code 315 = .ok (.iload 5, 2) := by decide +kernel
theorem d_RM_statements_317 : decode prog_12_method_57_code 317 = .ok (.invokevirtual 268, 3) := by decide +kernel
theorem d_RM_statements_320 : decode prog_12_method_57_code 320 = .ok (.aload_n 0, 1) := by decide +kernel
theorem d_RM_statements_321 : decode prog_12_method_57_code 321 = .ok (.iload_n 1, 1) := by decide +kernel
theorem d_RM_statements_322 : decode prog_12_method_57_code 322 = .ok (.iload_n 2, 1) := by decide +kernel
theorem d_RM_statements_323 : decode prog_12_method_57_code 323 = .ok (.invokevirtual 268, 3) := by decide +kernel
theorem d_RM_statements_326 : decode prog_12_method_57_code 326 = .ok (.if_icmp .ge 21, 3) := by decide +kernel
theorem d_RM_statements_329 : decode prog_12_method_57_code 329 = .ok (.aload_n 0, 1) := by decide +kernel
theorem d_RM_statements_330 : decode prog_12_method_57_code 330 = .ok (.ldc 85, 2) := by decide +kernel
theorem d_RM_statements_332 : decode prog_12_method_57_code 332 = .ok (.invokevirtual 293, 3) := by decide +kernel
theorem d_RM_statements_335 : decode prog_12_method_57_code 335 = .ok (.aload_n 0, 1) := by decide +kernel
theorem d_RM_statements_336 : decode prog_12_method_57_code 336 = .ok (.iload_n 1, 1) := by decide +kernel
theorem d_RM_statements_337 : decode prog_12_method_57_code 337 = .ok (.aload_n 0, 1) := by decide +kernel
theorem d_RM_statements_338 : decode prog_12_method_57_code 338 = .ok (.iload_n 1, 1) := by decide +kernel
theorem d_RM_statements_339 : decode prog_12_method_57_code 339 = .ok (.iload 5, 2) := by decide +kernel
theorem d_RM_statements_341 : decode prog_12_method_57_code 341 = .ok (.invokevirtual 268, 3) := by decide +kernel
theorem d_RM_statements_344 : decode prog_12_method_57_code 344 = .ok (.invokevirtual 258, 3) := by decide +kernel
theorem d_RM_statements_347 : decode prog_12_method_57_code 347 = .ok (.return_, 1) := by decide +kernel
theorem d_RM_statements_348 : decode prog_12_method_57_code 348 = .ok (.aload_n 0, 1) := by decide +kernel
theorem d_RM_statements_349 : decode prog_12_method_57_code 349 = .ok (.bipush 59, 2) := by decide +kernel
theorem d_RM_statements_351 : decode prog_12_method_57_code 351 = .ok (.invokevirtual 253, 3) := by decide +kernel
theorem d_RM_statements_354 : decode prog_12_method_57_code 354 = .ok (.return_, 1) := by decide +kernel
