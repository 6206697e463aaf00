theorem d_ST_length_0 : decode prog_18_method_54_code 0 = .ok (.aload_n 0, 1) := by decide +kernel
theorem d_ST_length_1 : decode prog_18_method_54_code 1 = .ok (.getfield 9, 3) := by decide +kernel
theorem d_ST_length_4 : decode prog_18_method_54_code 4 = .ok (.arraylength, 1) := by decide +kernel
theorem d_ST_length_5 : decode prog_18_method_54_code 5 = .ok (.aload_n 0, 1) := by decide +kernel
theorem d_ST_length_6 : decode prog_18_method_54_code 6 = .ok (.invokevirtual 335, 3) := by decide +kernel
theorem d_ST_length_9 : decode prog_18_method_54_code 9 = .ok (.ishr, 1) := by decide +kernel
theorem d_ST_length_10 : decode prog_18_method_54_code 10 = .ok (.ireturn, 1) := by decide +kernel
theorem d_ST_isEmpty_0 : decode prog_18_method_55_code 0 = .ok (.aload_n 0, 1) := by decide +kernel
theorem d_ST_isEmpty_1 : decode prog_18_method_55_code 1 = .ok (.getfield 9, 3) := by decide +kernel
theorem d_ST_isEmpty_4 : decode prog_18_method_55_code 4 = .ok (.arraylength, 1) := by decide +kernel
theorem d_ST_isEmpty_5 : decode prog_18_method_55_code 5 = .ok (.ifCond .ne 7, 3) := by decide +kernel
theorem d_ST_isEmpty_8 : decode prog_18_method_55_code 8 = .ok (.iconst 1, 1) := by decide +kernel
theorem d_ST_isEmpty_9 : decode prog_18_method_55_code 9 = .ok (.goto 4, 3) := by decide +kernel
theorem d_ST_isEmpty_12 : decode prog_18_method_55_code 12 = .ok (.iconst 0, 1) := by decide +kernel
theorem d_ST_isEmpty_13 : decode prog_18_method_55_code 13 = .ok (.ireturn, 1) := by decide +kernel
theorem d_ST_charAt_0 : decode prog_18_method_56_code 0 = .ok (.aload_n 0, 1) := by decide +kernel
theorem d_ST_charAt_1 : decode prog_18_method_56_code 1 = .ok (.invokevirtual 492, 3) := by decide +kernel
theorem d_ST_charAt_4 : decode prog_18_method_56_code 4 = .ok (.ifCond .eq 12, 3) := by decide +kernel
theorem d_ST_charAt_7 : decode prog_18_method_56_code 7 = .ok (.aload_n 0, 1) := by decide +kernel
theorem d_ST_charAt_8 : decode prog_18_method_56_code 8 = .ok (.getfield 9, 3) := by decide +kernel
theorem d_ST_charAt_11 : decode prog_18_method_56_code 11 = .ok (.iload_n 1, 1) := by decide +kernel
theorem d_ST_charAt_12 : decode prog_18_method_56_code 12 = .ok (.invokestatic 495, 3) := by decide +kernel
theorem d_ST_charAt_15 : decode prog_18_method_56_code 15 = .ok (.ireturn, 1) := by decide +kernel
theorem d_ST_charAt_16 : decode prog_18_method_56_code 16 = .ok (.aload_n 0, 1) := by decide +kernel
theorem d_ST_charAt_17 : decode prog_18_method_56_code 17 = .ok (.getfield 9, 3) := by decide +kernel
theorem d_ST_charAt_20 : decode prog_18_method_56_code 20 = .ok (.iload_n 1, 1) := by decide +kernel
theorem d_ST_charAt_21 : decode prog_18_method_56_code 21 = .ok (.invokestatic 498, 3) := by decide +kernel
theorem d_ST_charAt_24 : decode prog_18_method_56_code 24 = .ok (.ireturn, 1) := by decide +kernel
theorem d_ST_coder_0 : decode prog_18_method_152_code 0 = .ok (.getstatic 38, 3) := by decide +kernel
theorem d_ST_coder_3 : decode prog_18_method_152_code 3 = .ok (.ifCond .eq 10, 3) := by decide +kernel
theorem d_ST_coder_6 : decode prog_18_method_152_code 6 = .ok (.aload_n 0, 1) := by decide +kernel
theorem d_ST_coder_7 : decode prog_18_method_152_code 7 = .ok (.getfield 15, 3) := by decide +kernel
theorem d_ST_coder_10 : decode prog_18_method_152_code 10 = .ok (.goto 4, 3) := by decide +kernel
theorem d_ST_coder_13 : decode prog_18_method_152_code 13 = .ok (.iconst 1, 1) := by decide +kernel
theorem d_ST_coder_14 : decode prog_18_method_152_code 14 = .ok (.ireturn, 1) := by decide +kernel
theorem d_ST_isLatin1_0 : decode prog_18_method_154_code 0 = .ok (.getstatic 38, 3) := by decide +kernel
theorem d_ST_isLatin1_3 : decode prog_18_method_154_code 3 = .ok (.ifCond .eq 14, 3) := by decide +kernel
theorem d_ST_isLatin1_6 : decode prog_18_method_154_code 6 = .ok (.aload_n 0, 1) := by decide +kernel
theorem d_ST_isLatin1_7 : decode prog_18_method_154_code 7 = .ok (.getfield 15, 3) := by decide +kernel
theorem d_ST_isLatin1_10 : decode prog_18_method_154_code 10 = .ok (.ifCond .ne 7, 3) := by decide +kernel
theorem d_ST_isLatin1_13 : decode prog_18_method_154_code 13 = .ok (.iconst 1, 1) := by decide +kernel
theorem d_ST_isLatin1_14 : decode prog_18_method_154_code 14 = .ok (.goto 4, 3) := by decide +kernel
theorem d_ST_isLatin1_17 : decode prog_18_method_154_code 17 = .ok (.iconst 0, 1) := by decide +kernel
theorem d_ST_isLatin1_18 : decode prog_18_method_154_code 18 = .ok (.ireturn, 1) := by decide +kernel
theorem d_ST_checkIndex_0 : decode prog_18_method_155_code 0 = .ok (.iload_n 0, 1) := by decide +kernel
theorem d_ST_checkIndex_1 : decode prog_18_method_155_code 1 = .ok (.iload_n 1, 1) := by decide +kernel
theorem d_ST_checkIndex_2 : decode prog_18_method_155_code 2 = .ok (.getstatic 1053, 3) := by decide +kernel
theorem d_ST_checkIndex_5 : decode prog_18_method_155_code 5 = .ok (.invokestatic 1059, 3) := by decide +kernel
theorem d_ST_checkIndex_8 : decode prog_18_method_155_code 8 = .ok (.pop, 1) := by decide +kernel
theorem d_ST_checkIndex_9 : decode prog_18_method_155_code 9 = .ok (.return_, 1) := by decide +kernel
theorem d_SL_charAt_0 : decode prog_19_method_2_code 0 = .ok (.iload_n 1, 1) := by decide +kernel
theorem d_SL_charAt_1 : decode prog_19_method_2_code 1 = .ok (.aload_n 0, 1) := by decide +kernel
theorem d_SL_charAt_2 : decode prog_19_method_2_code 2 = .ok (.arraylength, 1) := by decide +kernel
theorem d_SL_charAt_3 : decode prog_19_method_2_code 3 = .ok (.invokestatic 9, 3) := by decide +kernel
theorem d_SL_charAt_6 : decode prog_19_method_2_code 6 = .ok (.aload_n 0, 1) := by decide +kernel
theorem d_SL_charAt_7 : decode prog_19_method_2_code 7 = .ok (.iload_n 1, 1) := by decide +kernel
theorem d_SL_charAt_8 : decode prog_19_method_2_code 8 = .ok (.baload, 1) := by decide +kernel
theorem d_SL_charAt_9 : decode prog_19_method_2_code 9 = .ok (.sipush 255, 3) := by decide +kernel
theorem d_SL_charAt_12 : decode prog_19_method_2_code 12 = .ok (.iand, 1) := by decide +kernel
theorem d_SL_charAt_13 : decode prog_19_method_2_code 13 = .ok (.i2c, 1) := by decide +kernel
theorem d_SL_charAt_14 : decode prog_19_method_2_code 14 = .ok (.ireturn, 1) := by decide +kernel
theorem d_PC_checkIndex_0 : decode prog_24_method_11_code 0 = .ok (.iload_n 0, 1) := by decide +kernel
theorem d_PC_checkIndex_1 : decode prog_24_method_11_code 1 = .ok (.ifCond .lt 8, 3) := by decide +kernel
theorem d_PC_checkIndex_4 : decode prog_24_method_11_code 4 = .ok (.iload_n 0, 1) := by decide +kernel
theorem d_PC_checkIndex_5 : decode prog_24_method_11_code 5 = .ok (.iload_n 1, 1) := by decide +kernel
theorem d_PC_checkIndex_6 : decode prog_24_method_11_code 6 = .ok (.if_icmp .lt 10, 3) := by decide +kernel
theorem d_PC_checkIndex_9 : decode prog_24_method_11_code 9 = .ok (.aload_n 2, 1) := by decide +kernel
theorem d_PC_checkIndex_10 : decode prog_24_method_11_code 10 = .ok (.iload_n 0, 1) := by decide +kernel
theorem d_PC_checkIndex_11 : decode prog_24_method_11_code 11 = .ok (.iload_n 1, 1) := by decide +kernel
theorem d_PC_checkIndex_12 : decode prog_24_method_11_code 12 = .ok (.invokestatic 95, 3) := by decide +kernel
theorem d_PC_checkIndex_15 : decode prog_24_method_11_code 15 = .ok (.athrow, 1) := by decide +kernel
theorem d_PC_checkIndex_16 : decode prog_24_method_11_code 16 = .ok (.iload_n 0, 1) := by decide +kernel
theorem d_PC_checkIndex_17 : decode prog_24_method_11_code 17 = .ok (.ireturn, 1) := by decide +kernel
theorem d_AR_fill_0 : decode prog_23_method_103_code 0 = .ok (.iconst 0, 1) := by decide +kernel
theorem d_AR_fill_1 : decode prog_23_method_103_code 1 = .ok (.istore_n 2, 1) := by decide +kernel
theorem d_AR_fill_2 : decode prog_23_method_103_code 2 = .ok (.aload_n 0, 1) := by decide +kernel
theorem d_AR_fill_3 : decode prog_23_method_103_code 3 = .ok (.arraylength, 1) := by decide +kernel
theorem d_AR_fill_4 : decode prog_23_method_103_code 4 = .ok (.istore_n 3, 1) := by decide +kernel
theorem d_AR_fill_5 : decode prog_23_method_103_code 5 = .ok (.iload_n 2, 1) := by decide +kernel
theorem d_AR_fill_6 : decode prog_23_method_103_code 6 = .ok (.iload_n 3, 1) := by decide +kernel
theorem d_AR_fill_7 : decode prog_23_method_103_code 7 = .ok (.if_icmp .ge 13, 3) := by decide +kernel
theorem d_AR_fill_10 : decode prog_23_method_103_code 10 = .ok (.aload_n 0, 1) := by decide +kernel
theorem d_AR_fill_11 : decode prog_23_method_103_code 11 = .ok (.iload_n 2, 1) := by decide +kernel
theorem d_AR_fill_12 : decode prog_23_method_103_code 12 = .ok (.iload_n 1, 1) := by decide +kernel
theorem d_AR_fill_13 : decode prog_23_method_103_code 13 = .ok (.iastore, 1) := by decide +kernel
theorem d_AR_fill_14 : decode prog_23_method_103_code 14 = .ok (.iinc 2 1, 3) := by decide +kernel
theorem d_AR_fill_17 : decode prog_23_method_103_code 17 = .ok (.goto (-12), 3) := by decide +kernel
theorem d_AR_fill_20 : decode prog_23_method_103_code 20 = .ok (.return_, 1) := by decide +kernel
theorem d_AR_copyOfB_0 : decode prog_23_method_121_code 0 = .ok (.iload_n 1, 1) := by decide +kernel
theorem d_AR_copyOfB_1 : decode prog_23_method_121_code 1 = .ok (.aload_n 0, 1) := by decide +kernel
theorem d_AR_copyOfB_2 : decode prog_23_method_121_code 2 = .ok (.arraylength, 1) := by decide +kernel
theorem d_AR_copyOfB_3 : decode prog_23_method_121_code 3 = .ok (.if_icmp .ne 11, 3) := by decide +kernel
theorem d_AR_copyOfB_6 : decode prog_23_method_121_code 6 = .ok (.aload_n 0, 1) := by decide +kernel
theorem d_AR_copyOfB_7 : decode prog_23_method_121_code 7 = .ok (.invokevirtual 310, 3) := by decide +kernel
theorem d_AR_copyOfB_10 : decode prog_23_method_121_code 10 = .ok (.checkcast 311, 3) := by decide +kernel
theorem d_AR_copyOfB_13 : decode prog_23_method_121_code 13 = .ok (.areturn, 1) := by decide +kernel
theorem d_AR_copyOfB_14 : decode prog_23_method_121_code 14 = .ok (.iload_n 1, 1) := by decide +kernel
theorem d_AR_copyOfB_15 : decode prog_23_method_121_code 15 = .ok (.newarray .byte, 2) := by decide +kernel
theorem d_AR_copyOfB_17 : decode prog_23_method_121_code 17 = .ok (.astore_n 2, 1) := by decide +kernel
theorem d_AR_copyOfB_18 : decode prog_23_method_121_code 18 = .ok (.aload_n 0, 1) := by decide +kernel
theorem d_AR_copyOfB_19 : decode prog_23_method_121_code 19 = .ok (.iconst 0, 1) := by decide +kernel
theorem d_AR_copyOfB_20 : decode prog_23_method_121_code 20 = .ok (.aload_n 2, 1) := by decide +kernel
theorem d_AR_copyOfB_21 : decode prog_23_method_121_code 21 = .ok (.iconst 0, 1) := by decide +kernel
theorem d_AR_copyOfB_22 : decode prog_23_method_121_code 22 = .ok (.aload_n 0, 1) := by decide +kernel
theorem d_AR_copyOfB_23 : decode prog_23_method_121_code 23 = .ok (.arraylength, 1) := by decide +kernel
theorem d_AR_copyOfB_24 : decode prog_23_method_121_code 24 = .ok (.iload_n 1, 1) := by decide +kernel
theorem d_AR_copyOfB_25 : decode prog_23_method_121_code 25 = .ok (.invokestatic 304, 3) := by decide +kernel
theorem d_AR_copyOfB_28 : decode prog_23_method_121_code 28 = .ok (.invokestatic 150, 3) := by decide +kernel
theorem d_AR_copyOfB_31 : decode prog_23_method_121_code 31 = .ok (.aload_n 2, 1) := by decide +kernel
theorem d_AR_copyOfB_32 : decode prog_23_method_121_code 32 = .ok (.areturn, 1) := by decide +kernel
theorem d_AR_copyOfI_0 : decode prog_23_method_123_code 0 = .ok (.iload_n 1, 1) := by decide +kernel
theorem d_AR_copyOfI_1 : decode prog_23_method_123_code 1 = .ok (.aload_n 0, 1) := by decide +kernel
theorem d_AR_copyOfI_2 : decode prog_23_method_123_code 2 = .ok (.arraylength, 1) := by decide +kernel
theorem d_AR_copyOfI_3 : decode prog_23_method_123_code 3 = .ok (.if_icmp .ne 11, 3) := by decide +kernel
theorem d_AR_copyOfI_6 : decode prog_23_method_123_code 6 = .ok (.aload_n 0, 1) := by decide +kernel
theorem d_AR_copyOfI_7 : decode prog_23_method_123_code 7 = .ok (.invokevirtual 316, 3) := by decide +kernel
theorem d_AR_copyOfI_10 : decode prog_23_method_123_code 10 = .ok (.checkcast 317, 3) := by decide +kernel
theorem d_AR_copyOfI_13 : decode prog_23_method_123_code 13 = .ok (.areturn, 1) := by decide +kernel
theorem d_AR_copyOfI_14 : decode prog_23_method_123_code 14 = .ok (.iload_n 1, 1) := by decide +kernel
theorem d_AR_copyOfI_15 : decode prog_23_method_123_code 15 = .ok (.newarray .int, 2) := by decide +kernel
theorem d_AR_copyOfI_17 : decode prog_23_method_123_code 17 = .ok (.astore_n 2, 1) := by decide +kernel
theorem d_AR_copyOfI_18 : decode prog_23_method_123_code 18 = .ok (.aload_n 0, 1) := by decide +kernel
theorem d_AR_copyOfI_19 : decode prog_23_method_123_code 19 = .ok (.iconst 0, 1) := by decide +kernel
theorem d_AR_copyOfI_20 : decode prog_23_method_123_code 20 = .ok (.aload_n 2, 1) := by decide +kernel
theorem d_AR_copyOfI_21 : decode prog_23_method_123_code 21 = .ok (.iconst 0, 1) := by decide +kernel
theorem d_AR_copyOfI_22 : decode prog_23_method_123_code 22 = .ok (.aload_n 0, 1) := by decide +kernel
theorem d_AR_copyOfI_23 : decode prog_23_method_123_code 23 = .ok (.arraylength, 1) := by decide +kernel
theorem d_AR_copyOfI_24 : decode prog_23_method_123_code 24 = .ok (.iload_n 1, 1) := by decide +kernel
theorem d_AR_copyOfI_25 : decode prog_23_method_123_code 25 = .ok (.invokestatic 304, 3) := by decide +kernel
theorem d_AR_copyOfI_28 : decode prog_23_method_123_code 28 = .ok (.invokestatic 150, 3) := by decide +kernel
theorem d_AR_copyOfI_31 : decode prog_23_method_123_code 31 = .ok (.aload_n 2, 1) := by decide +kernel
theorem d_AR_copyOfI_32 : decode prog_23_method_123_code 32 = .ok (.areturn, 1) := by decide +kernel
theorem d_MA_max_0 : decode prog_16_method_65_code 0 = .ok (.iload_n 0, 1) := by decide +kernel
theorem d_MA_max_1 : decode prog_16_method_65_code 1 = .ok (.iload_n 1, 1) := by decide +kernel
theorem d_MA_max_2 : decode prog_16_method_65_code 2 = .ok (.if_icmp .lt 7, 3) := by decide +kernel
theorem d_MA_max_5 : decode prog_16_method_65_code 5 = .ok (.iload_n 0, 1) := by decide +kernel
theorem d_MA_max_6 : decode prog_16_method_65_code 6 = .ok (.goto 4, 3) := by decide +kernel
theorem d_MA_max_9 : decode prog_16_method_65_code 9 = .ok (.iload_n 1, 1) := by decide +kernel
theorem d_MA_max_10 : decode prog_16_method_65_code 10 = .ok (.ireturn, 1) := by decide +kernel
theorem d_MA_min_0 : decode prog_16_method_69_code 0 = .ok (.iload_n 0, 1) := by decide +kernel
theorem d_MA_min_1 : decode prog_16_method_69_code 1 = .ok (.iload_n 1, 1) := by decide +kernel
theorem d_MA_min_2 : decode prog_16_method_69_code 2 = .ok (.if_icmp .gt 7, 3) := by decide +kernel
theorem d_MA_min_5 : decode prog_16_method_69_code 5 = .ok (.iload_n 0, 1) := by decide +kernel
theorem d_MA_min_6 : decode prog_16_method_69_code 6 = .ok (.goto 4, 3) := by decide +kernel
theorem d_MA_min_9 : decode prog_16_method_69_code 9 = .ok (.iload_n 1, 1) := by decide +kernel
theorem d_MA_min_10 : decode prog_16_method_69_code 10 = .ok (.ireturn, 1) := by decide +kernel
theorem d_MA_minJ_0 : decode prog_16_method_70_code 0 = .ok (.lload_n 0, 1) := by decide +kernel
theorem d_MA_minJ_1 : decode prog_16_method_70_code 1 = .ok (.lload_n 2, 1) := by decide +kernel
theorem d_MA_minJ_2 : decode prog_16_method_70_code 2 = .ok (.lcmp, 1) := by decide +kernel
theorem d_MA_minJ_3 : decode prog_16_method_70_code 3 = .ok (.ifCond .gt 7, 3) := by decide +kernel
theorem d_MA_minJ_6 : decode prog_16_method_70_code 6 = .ok (.lload_n 0, 1) := by decide +kernel
theorem d_MA_minJ_7 : decode prog_16_method_70_code 7 = .ok (.goto 4, 3) := by decide +kernel
theorem d_MA_minJ_10 : decode prog_16_method_70_code 10 = .ok (.lload_n 2, 1) := by decide +kernel
theorem d_MA_minJ_11 : decode prog_16_method_70_code 11 = .ok (.lreturn, 1) := by decide +kernel
theorem d_MA_abs_0 : decode prog_16_method_59_code 0 = .ok (.iload_n 0, 1) := by decide +kernel
theorem d_MA_abs_1 : decode prog_16_method_59_code 1 = .ok (.ifCond .ge 8, 3) := by decide +kernel
theorem d_MA_abs_4 : decode prog_16_method_59_code 4 = .ok (.iload_n 0, 1) := by decide +kernel
theorem d_MA_abs_5 : decode prog_16_method_59_code 5 = .ok (.ineg, 1) := by decide +kernel
theorem d_MA_abs_6 : decode prog_16_method_59_code 6 = .ok (.goto 4, 3) := by decide +kernel
theorem d_MA_abs_9 : decode prog_16_method_59_code 9 = .ok (.iload_n 0, 1) := by decide +kernel
theorem d_MA_abs_10 : decode prog_16_method_59_code 10 = .ok (.ireturn, 1) := by decide +kernel
