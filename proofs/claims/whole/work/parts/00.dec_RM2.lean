theorem d_RM_look_0 : decode prog_12_method_13_code 0 = .ok (.aload_n 0, 1) := by decide +kernel
theorem d_RM_look_1 : decode prog_12_method_13_code 1 = .ok (.getfield 155, 3) := by decide +kernel
theorem d_RM_look_4 : decode prog_12_method_13_code 4 = .ok (.ifCond .eq 7, 3) := by decide +kernel
theorem d_RM_look_7 : decode prog_12_method_13_code 7 = .ok (.iconst 1, 1) := by decide +kernel
theorem d_RM_look_8 : decode prog_12_method_13_code 8 = .ok (.goto 12, 3) := by decide +kernel
theorem d_RM_look_11 : decode prog_12_method_13_code 11 = .ok (.aload_n 0, 1) := by decide +kernel
theorem d_RM_look_12 : decode prog_12_method_13_code 12 = .ok (.getfield 19, 3) := by decide +kernel
theorem d_RM_look_15 : decode prog_12_method_13_code 15 = .ok (.aload_n 0, 1) := by decide +kernel
theorem d_RM_look_16 : decode prog_12_method_13_code 16 = .ok (.getfield 159, 3) := by decide +kernel
theorem d_RM_look_19 : decode prog_12_method_13_code 19 = .ok (.iaload, 1) := by decide +kernel
theorem d_RM_look_20 : decode prog_12_method_13_code 20 = .ok (.ireturn, 1) := by decide +kernel
theorem d_RM_need_0 : decode prog_12_method_14_code 0 = .ok (.iload_n 1, 1) := by decide +kernel
theorem d_RM_need_1 : decode prog_12_method_14_code 1 = .ok (.ifCond .ne 28, 3) := by decide +kernel
theorem d_RM_need_4 : decode prog_12_method_14_code 4 = .ok (.aload_n 0, 1) := by decide +kernel
theorem d_RM_need_5 : decode prog_12_method_14_code 5 = .ok (.getfield 155, 3) := by decide +kernel
theorem d_RM_need_8 : decode prog_12_method_14_code 8 = .ok (.ifCond .ne 21, 3) := by decide +kernel
theorem d_RM_need_11 : decode prog_12_method_14_code 11 = .ok (.aload_n 0, 1) := by decide +kernel
theorem d_RM_need_12 : decode prog_12_method_14_code 12 = .ok (.iconst 1, 1) := by decide +kernel
theorem d_RM_need_13 : decode prog_12_method_14_code 13 = .ok (.putfield 155, 3) := by decide +kernel
theorem d_RM_need_16 : decode prog_12_method_14_code 16 = .ok (.aload_n 0, 1) := by decide +kernel
theorem d_RM_need_17 : decode prog_12_method_14_code 17 = .ok (.aload_n 0, 1) := by decide +kernel
theorem d_RM_need_18 : decode prog_12_method_14_code 18 = .ok (.getfield 22, 3) := by decide +kernel
theorem d_RM_need_21 : decode prog_12_method_14_code 21 = .ok (.aload_n 0, 1) := by decide +kernel
theorem d_RM_need_22 : decode prog_12_method_14_code 22 = .ok (.getfield 159, 3) := by decide +kernel
theorem d_RM_need_25 : decode prog_12_method_14_code 25 = .ok (.iaload, 1) := by decide +kernel
theorem d_RM_need_26 : decode prog_12_method_14_code 26 = .ok (.putfield 28, 3) := by decide +kernel
theorem d_RM_need_29 : decode prog_12_method_14_code 29 = .ok (.return_, 1) := by decide +kernel
theorem d_RM_take_0 : decode prog_12_method_15_code 0 = .ok (.aload_n 0, 1) := by decide +kernel
theorem d_RM_take_1 : decode prog_12_method_15_code 1 = .ok (.aload_n 0, 1) := by decide +kernel
theorem d_RM_take_2 : decode prog_12_method_15_code 2 = .ok (.invokevirtual 162, 3) := by decide +kernel
theorem d_RM_take_5 : decode prog_12_method_15_code 5 = .ok (.iload_n 1, 1) := by decide +kernel
theorem d_RM_take_6 : decode prog_12_method_15_code 6 = .ok (.if_icmp .ne 7, 3) := by decide +kernel
theorem d_RM_take_9 : decode prog_12_method_15_code 9 = .ok (.iconst 1, 1) := by decide +kernel
theorem d_RM_take_10 : decode prog_12_method_15_code 10 = .ok (.goto 4, 3) := by decide +kernel
theorem d_RM_take_13 : decode prog_12_method_15_code 13 = .ok (.iconst 0, 1) := by decide +kernel
theorem d_RM_take_14 : decode prog_12_method_15_code 14 = .ok (.invokevirtual 165, 3) := by decide +kernel
theorem d_RM_take_17 : decode prog_12_method_15_code 17 = .ok (.aload_n 0, 1) := by decide +kernel
theorem d_RM_take_18 : decode prog_12_method_15_code 18 = .ok (.aload_n 0, 1) := by decide +kernel
theorem d_RM_take_19 : decode prog_12_method_15_code 19 = .ok (.getfield 155, 3) := by decide +kernel
theorem d_RM_take_22 : decode prog_12_method_15_code 22 = .ok (.ifCond .eq 10, 3) := by decide +kernel
theorem d_RM_take_25 : decode prog_12_method_15_code 25 = .ok (.aload_n 0, 1) := by decide +kernel
theorem d_RM_take_26 : decode prog_12_method_15_code 26 = .ok (.getfield 159, 3) := by decide +kernel
theorem d_RM_take_29 : decode prog_12_method_15_code 29 = .ok (.goto 9, 3) := by decide +kernel
theorem d_RM_take_32 : decode prog_12_method_15_code 32 = .ok (.aload_n 0, 1) := by decide +kernel
theorem d_RM_take_33 : decode prog_12_method_15_code 33 = .ok (.getfield 159, 3) := by decide +kernel
theorem d_RM_take_36 : decode prog_12_method_15_code 36 = .ok (.iconst 1, 1) := by decide +kernel
theorem d_RM_take_37 : decode prog_12_method_15_code 37 = .ok (.iadd, 1) := by decide +kernel
theorem d_RM_take_38 : decode prog_12_method_15_code 38 = .ok (.putfield 159, 3) := by decide +kernel
theorem d_RM_take_41 : decode prog_12_method_15_code 41 = .ok (.return_, 1) := by decide +kernel
theorem d_RM_draft_0 : decode prog_12_method_16_code 0 = .ok (.aload_n 0, 1) := by decide +kernel
theorem d_RM_draft_1 : decode prog_12_method_16_code 1 = .ok (.getfield 32, 3) := by decide +kernel
theorem d_RM_draft_4 : decode prog_12_method_16_code 4 = .ok (.aload_n 0, 1) := by decide +kernel
theorem d_RM_draft_5 : decode prog_12_method_16_code 5 = .ok (.getfield 169, 3) := by decide +kernel
theorem d_RM_draft_8 : decode prog_12_method_16_code 8 = .ok (.iload_n 1, 1) := by decide +kernel
theorem d_RM_draft_9 : decode prog_12_method_16_code 9 = .ok (.iastore, 1) := by decide +kernel
theorem d_RM_draft_10 : decode prog_12_method_16_code 10 = .ok (.aload_n 0, 1) := by decide +kernel
theorem d_RM_draft_11 : decode prog_12_method_16_code 11 = .ok (.getfield 35, 3) := by decide +kernel
theorem d_RM_draft_14 : decode prog_12_method_16_code 14 = .ok (.aload_n 0, 1) := by decide +kernel
theorem d_RM_draft_15 : decode prog_12_method_16_code 15 = .ok (.getfield 169, 3) := by decide +kernel
theorem d_RM_draft_18 : decode prog_12_method_16_code 18 = .ok (.iload_n 2, 1) := by decide +kernel
theorem d_RM_draft_19 : decode prog_12_method_16_code 19 = .ok (.iastore, 1) := by decide +kernel
theorem d_RM_draft_20 : decode prog_12_method_16_code 20 = .ok (.aload_n 0, 1) := by decide +kernel
theorem d_RM_draft_21 : decode prog_12_method_16_code 21 = .ok (.getfield 38, 3) := by decide +kernel
theorem d_RM_draft_24 : decode prog_12_method_16_code 24 = .ok (.aload_n 0, 1) := by decide +kernel
theorem d_RM_draft_25 : decode prog_12_method_16_code 25 = .ok (.getfield 169, 3) := by decide +kernel
theorem d_RM_draft_28 : decode prog_12_method_16_code 28 = .ok (.iload_n 3, 1) := by decide +kernel
theorem d_RM_draft_29 : decode prog_12_method_16_code 29 = .ok (.iastore, 1) := by decide +kernel
theorem d_RM_draft_30 : decode prog_12_method_16_code 30 = .ok (.aload_n 0, 1) := by decide +kernel
theorem d_RM_draft_31 : decode prog_12_method_16_code 31 = .ok (.getfield 41, 3) := by decide +kernel
theorem d_RM_draft_34 : decode prog_12_method_16_code 34 = .ok (.aload_n 0, 1) := by decide +kernel
theorem d_RM_draft_35 : decode prog_12_method_16_code 35 = .ok (.getfield 169, 3) := by decide +kernel
theorem d_RM_draft_38 : decode prog_12_method_16_code 38 = .ok (.iconst (-1), 1) := by decide +kernel
theorem d_RM_draft_39 : decode prog_12_method_16_code 39 = .ok (.iastore, 1) := by decide +kernel
theorem d_RM_draft_40 : decode prog_12_method_16_code 40 = .ok (.aload_n 0, 1) := by decide +kernel
theorem d_RM_draft_41 : decode prog_12_method_16_code 41 = .ok (.getfield 44, 3) := by decide +kernel
theorem d_RM_draft_44 : decode prog_12_method_16_code 44 = .ok (.aload_n 0, 1) := by decide +kernel
theorem d_RM_draft_45 : decode prog_12_method_16_code 45 = .ok (.getfield 169, 3) := by decide +kernel
theorem d_RM_draft_48 : decode prog_12_method_16_code 48 = .ok (.iconst (-1), 1) := by decide +kernel
theorem d_RM_draft_49 : decode prog_12_method_16_code 49 = .ok (.iastore, 1) := by decide +kernel
theorem d_RM_draft_50 : decode prog_12_method_16_code 50 = .ok (.aload_n 0, 1) := by decide +kernel
theorem d_RM_draft_51 : decode prog_12_method_16_code 51 = .ok (.getfield 47, 3) := by decide +kernel
theorem d_RM_draft_54 : decode prog_12_method_16_code 54 = .ok (.aload_n 0, 1) := by decide +kernel
theorem d_RM_draft_55 : decode prog_12_method_16_code 55 = .ok (.getfield 169, 3) := by decide +kernel
theorem d_RM_draft_58 : decode prog_12_method_16_code 58 = .ok (.iconst (-1), 1) := by decide +kernel
theorem d_RM_draft_59 : decode prog_12_method_16_code 59 = .ok (.iastore, 1) := by decide +kernel
theorem d_RM_draft_60 : decode prog_12_method_16_code 60 = .ok (.aload_n 0, 1) := by decide +kernel
theorem d_RM_draft_61 : decode prog_12_method_16_code 61 = .ok (.dup, 1) := by decide +kernel
theorem d_RM_draft_62 : decode prog_12_method_16_code 62 = .ok (.getfield 169, 3) := by decide +kernel
theorem d_RM_draft_65 : decode prog_12_method_16_code 65 = .ok (.iconst 1, 1) := by decide +kernel
theorem d_RM_draft_66 : decode prog_12_method_16_code 66 = .ok (.iadd, 1) := by decide +kernel
theorem d_RM_draft_67 : decode prog_12_method_16_code 67 = .ok (.putfield 169, 3) := by decide +kernel
theorem d_RM_draft_70 : decode prog_12_method_16_code 70 = .ok (.aload_n 0, 1) := by decide +kernel
theorem d_RM_draft_71 : decode prog_12_method_16_code 71 = .ok (.getfield 169, 3) := by decide +kernel
theorem d_RM_draft_74 : decode prog_12_method_16_code 74 = .ok (.iconst 1, 1) := by decide +kernel
theorem d_RM_draft_75 : decode prog_12_method_16_code 75 = .ok (.isub, 1) := by decide +kernel
theorem d_RM_draft_76 : decode prog_12_method_16_code 76 = .ok (.ireturn, 1) := by decide +kernel
theorem d_RM_join_0 : decode prog_12_method_17_code 0 = .ok (.iload_n 2, 1) := by decide +kernel
theorem d_RM_join_1 : decode prog_12_method_17_code 1 = .ok (.iconst (-1), 1) := by decide +kernel
theorem d_RM_join_2 : decode prog_12_method_17_code 2 = .ok (.if_icmp .ne 4, 3) := by decide +kernel
theorem d_RM_join_5 : decode prog_12_method_17_code 5 = .ok (.return_, 1) := by decide +kernel
theorem d_RM_join_6 : decode prog_12_method_17_code 6 = .ok (.aload_n 0, 1) := by decide +kernel
theorem d_RM_join_7 : decode prog_12_method_17_code 7 = .ok (.getfield 41, 3) := by decide +kernel
theorem d_RM_join_10 : decode prog_12_method_17_code 10 = .ok (.iload_n 1, 1) := by decide +kernel
theorem d_RM_join_11 : decode prog_12_method_17_code 11 = .ok (.iaload, 1) := by decide +kernel
theorem d_RM_join_12 : decode prog_12_method_17_code 12 = .ok (.iconst (-1), 1) := by decide +kernel
theorem d_RM_join_13 : decode prog_12_method_17_code 13 = .ok (.if_icmp .ne 13, 3) := by decide +kernel
theorem d_RM_join_16 : decode prog_12_method_17_code 16 = .ok (.aload_n 0, 1) := by decide +kernel
theorem d_RM_join_17 : decode prog_12_method_17_code 17 = .ok (.getfield 41, 3) := by decide +kernel
theorem d_RM_join_20 : decode prog_12_method_17_code 20 = .ok (.iload_n 1, 1) := by decide +kernel
theorem d_RM_join_21 : decode prog_12_method_17_code 21 = .ok (.iload_n 2, 1) := by decide +kernel
theorem d_RM_join_22 : decode prog_12_method_17_code 22 = .ok (.iastore, 1) := by decide +kernel
theorem d_RM_join_23 : decode prog_12_method_17_code 23 = .ok (.goto 15, 3) := by decide +kernel
theorem d_RM_join_26 : decode prog_12_method_17_code 26 = .ok (.aload_n 0, 1) := by decide +kernel
theorem d_RM_join_27 : decode prog_12_method_17_code 27 = .ok (.getfield 47, 3) := by decide +kernel
theorem d_RM_join_30 : decode prog_12_method_17_code 30 = .ok (.aload_n 0, 1) := by decide +kernel
theorem d_RM_join_31 : decode prog_12_method_17_code 31 = .ok (.getfield 44, 3) := by decide +kernel
theorem d_RM_join_34 : decode prog_12_method_17_code 34 = .ok (.iload_n 1, 1) := by decide +kernel
theorem d_RM_join_35 : decode prog_12_method_17_code 35 = .ok (.iaload, 1) := by decide +kernel
theorem d_RM_join_36 : decode prog_12_method_17_code 36 = .ok (.iload_n 2, 1) := by decide +kernel
theorem d_RM_join_37 : decode prog_12_method_17_code 37 = .ok (.iastore, 1) := by decide +kernel
theorem d_RM_join_38 : decode prog_12_method_17_code 38 = .ok (.aload_n 0, 1) := by decide +kernel
theorem d_RM_join_39 : decode prog_12_method_17_code 39 = .ok (.getfield 44, 3) := by decide +kernel
theorem d_RM_join_42 : decode prog_12_method_17_code 42 = .ok (.iload_n 1, 1) := by decide +kernel
theorem d_RM_join_43 : decode prog_12_method_17_code 43 = .ok (.iload_n 2, 1) := by decide +kernel
theorem d_RM_join_44 : decode prog_12_method_17_code 44 = .ok (.iastore, 1) := by decide +kernel
theorem d_RM_join_45 : decode prog_12_method_17_code 45 = .ok (.return_, 1) := by decide +kernel
theorem d_RM_name_0 : decode prog_12_method_18_code 0 = .ok (.aload_n 0, 1) := by decide +kernel
theorem d_RM_name_1 : decode prog_12_method_18_code 1 = .ok (.bipush 13, 2) := by decide +kernel
theorem d_RM_name_3 : decode prog_12_method_18_code 3 = .ok (.aload_n 0, 1) := by decide +kernel
theorem d_RM_name_4 : decode prog_12_method_18_code 4 = .ok (.getfield 22, 3) := by decide +kernel
theorem d_RM_name_7 : decode prog_12_method_18_code 7 = .ok (.aload_n 0, 1) := by decide +kernel
theorem d_RM_name_8 : decode prog_12_method_18_code 8 = .ok (.getfield 159, 3) := by decide +kernel
theorem d_RM_name_11 : decode prog_12_method_18_code 11 = .ok (.iaload, 1) := by decide +kernel
theorem d_RM_name_12 : decode prog_12_method_18_code 12 = .ok (.aload_n 0, 1) := by decide +kernel
theorem d_RM_name_13 : decode prog_12_method_18_code 13 = .ok (.getfield 159, 3) := by decide +kernel
theorem d_RM_name_16 : decode prog_12_method_18_code 16 = .ok (.invokevirtual 172, 3) := by decide +kernel
theorem d_RM_name_19 : decode prog_12_method_18_code 19 = .ok (.istore_n 1, 1) := by decide +kernel
theorem d_RM_name_20 : decode prog_12_method_18_code 20 = .ok (.aload_n 0, 1) := by decide +kernel
theorem d_RM_name_21 : decode prog_12_method_18_code 21 = .ok (.iconst 2, 1) := by decide +kernel
theorem d_RM_name_22 : decode prog_12_method_18_code 22 = .ok (.invokevirtual 176, 3) := by decide +kernel
theorem d_RM_name_25 : decode prog_12_method_18_code 25 = .ok (.iload_n 1, 1) := by decide +kernel
theorem d_RM_name_26 : decode prog_12_method_18_code 26 = .ok (.ireturn, 1) := by decide +kernel
theorem d_RM_number_0 : decode prog_12_method_19_code 0 = .ok (.aload_n 0, 1) := by decide +kernel
theorem d_RM_number_1 : decode prog_12_method_19_code 1 = .ok (.getfield 22, 3) := by decide +kernel
theorem d_RM_number_4 : decode prog_12_method_19_code 4 = .ok (.aload_n 0, 1) := by decide +kernel
theorem d_RM_number_5 : decode prog_12_method_19_code 5 = .ok (.getfield 159, 3) := by decide +kernel
theorem d_RM_number_8 : decode prog_12_method_19_code 8 = .ok (.iaload, 1) := by decide +kernel
theorem d_RM_number_9 : decode prog_12_method_19_code 9 = .ok (.istore_n 2, 1) := by decide +kernel
theorem d_RM_number_10 : decode prog_12_method_19_code 10 = .ok (.iconst 1, 1) := by decide +kernel
theorem d_RM_number_11 : decode prog_12_method_19_code 11 = .ok (.istore_n 3, 1) := by decide +kernel
theorem d_RM_number_12 : decode prog_12_method_19_code 12 = .ok (.iload_n 1, 1) := by decide +kernel
theorem d_RM_number_13 : decode prog_12_method_19_code 13 = .ok (.ifCond .eq 20, 3) := by decide +kernel
theorem d_RM_number_16 : decode prog_12_method_19_code 16 = .ok (.aload_n 0, 1) := by decide +kernel
theorem d_RM_number_17 : decode prog_12_method_19_code 17 = .ok (.invokevirtual 162, 3) := by decide +kernel
theorem d_RM_number_20 : decode prog_12_method_19_code 20 = .ok (.bipush 45, 2) := by decide +kernel
theorem d_RM_number_22 : decode prog_12_method_19_code 22 = .ok (.if_icmp .ne 11, 3) := by decide +kernel
theorem d_RM_number_25 : decode prog_12_method_19_code 25 = .ok (.aload_n 0, 1) := by decide +kernel
theorem d_RM_number_26 : decode prog_12_method_19_code 26 = .ok (.bipush 45, 2) := by decide +kernel
theorem d_RM_number_28 : decode prog_12_method_19_code 28 = .ok (.invokevirtual 176, 3) := by decide +kernel
theorem d_RM_number_31 : decode prog_12_method_19_code 31 = .ok (.iconst (-1), 1) := by decide +kernel
theorem d_RM_number_32 : decode prog_12_method_19_code 32 = .ok (.istore_n 3, 1) := by decide +kernel
theorem d_RM_number_33 : decode prog_12_method_19_code 33 = .ok (.iconst 0, 1) := by decide +kernel
theorem d_RM_number_34 : decode prog_12_method_19_code 34 = .ok (.istore 4, 2) := by decide +kernel
theorem d_RM_number_36 : decode prog_12_method_19_code 36 = .ok (.aload_n 0, 1) := by decide +kernel
theorem d_RM_number_37 : decode prog_12_method_19_code 37 = .ok (.invokevirtual 162, 3) := by decide +kernel
theorem d_RM_number_40 : decode prog_12_method_19_code 40 = .ok (.iconst 3, 1) := by decide +kernel
theorem d_RM_number_41 : decode prog_12_method_19_code 41 = .ok (.if_icmp .ne 54, 3) := by decide +kernel
theorem d_RM_number_44 : decode prog_12_method_19_code 44 = .ok (.iconst 0, 1) := by decide +kernel
theorem d_RM_number_45 : decode prog_12_method_19_code 45 = .ok (.istore 5, 2) := by decide +kernel
theorem d_RM_number_47 : decode prog_12_method_19_code 47 = .ok (.iload 5, 2) := by decide +kernel
theorem d_RM_number_49 : decode prog_12_method_19_code 49 = .ok (.aload_n 0, 1) := by decide +kernel
theorem d_RM_number_50 : decode prog_12_method_19_code 50 = .ok (.getfield 25, 3) := by decide +kernel
theorem d_RM_number_53 : decode prog_12_method_19_code 53 = .ok (.aload_n 0, 1) := by decide +kernel
theorem d_RM_number_54 : decode prog_12_method_19_code 54 = .ok (.getfield 159, 3) := by decide +kernel
theorem d_RM_number_57 : decode prog_12_method_19_code 57 = .ok (.iaload, 1) := by decide +kernel
theorem d_RM_number_58 : decode prog_12_method_19_code 58 = .ok (.if_icmp .ge 37, 3) := by decide +kernel
theorem d_RM_number_61 : decode prog_12_method_19_code 61 = .ok (.bipush 10, 2) := by decide +kernel
theorem d_RM_number_63 : decode prog_12_method_19_code 63 = .ok (.iload 4, 2) := by decide +kernel
theorem d_RM_number_65 : decode prog_12_method_19_code 65 = .ok (.imul, 1) := by decide +kernel
theorem d_RM_number_66 : decode prog_12_method_19_code 66 = .ok (.aload_n 0, 1) := by decide +kernel
theorem d_RM_number_67 : decode prog_12_method_19_code 67 = .ok (.getfield 9, 3) := by decide +kernel
theorem d_RM_number_70 : decode prog_12_method_19_code 70 = .ok (.aload_n 0, 1) := by decide +kernel
theorem d_RM_number_71 : decode prog_12_method_19_code 71 = .ok (.getfield 22, 3) := by decide +kernel
theorem d_RM_number_74 : decode prog_12_method_19_code 74 = .ok (.aload_n 0, 1) := by decide +kernel
theorem d_RM_number_75 : decode prog_12_method_19_code 75 = .ok (.getfield 159, 3) := by decide +kernel
theorem d_RM_number_78 : decode prog_12_method_19_code 78 = .ok (.iaload, 1) := by decide +kernel
theorem d_RM_number_79 : decode prog_12_method_19_code 79 = .ok (.iload 5, 2) := by decide +kernel
theorem d_RM_number_81 : decode prog_12_method_19_code 81 = .ok (.iadd, 1) := by decide +kernel
theorem d_RM_number_82 : decode prog_12_method_19_code 82 = .ok (.iaload, 1) := by decide +kernel
theorem d_RM_number_83 : decode prog_12_method_19_code 83 = .ok (.iadd, 1) := by decide +kernel
theorem d_RM_number_84 : decode prog_12_method_19_code 84 = .ok (.bipush 48, 2) := by decide +kernel
theorem d_RM_number_86 : decode prog_12_method_19_code 86 = .ok (.isub, 1) := by decide +kernel
theorem d_RM_number_87 : decode prog_12_method_19_code 87 = .ok (.istore 4, 2) := by decide +kernel
theorem d_RM_number_89 : decode prog_12_method_19_code 89 = .ok (.iinc 5 1, 3) := by decide +kernel
theorem d_RM_number_92 : decode prog_12_method_19_code 92 = .ok (.goto (-45), 3) := by decide +kernel
theorem d_RM_number_95 : decode prog_12_method_19_code 95 = .ok (.aload_n 0, 1) := by decide +kernel
theorem d_RM_number_96 : decode prog_12_method_19_code 96 = .ok (.iconst 3, 1) := by decide +kernel
theorem d_RM_number_97 : decode prog_12_method_19_code 97 = .ok (.invokevirtual 176, 3) := by decide +kernel
theorem d_RM_number_100 : decode prog_12_method_19_code 100 = .ok (.aload_n 0, 1) := by decide +kernel
theorem d_RM_number_101 : decode prog_12_method_19_code 101 = .ok (.bipush 12, 2) := by decide +kernel
theorem d_RM_number_103 : decode prog_12_method_19_code 103 = .ok (.iload_n 2, 1) := by decide +kernel
theorem d_RM_number_104 : decode prog_12_method_19_code 104 = .ok (.iload_n 3, 1) := by decide +kernel
theorem d_RM_number_105 : decode prog_12_method_19_code 105 = .ok (.iload 4, 2) := by decide +kernel
theorem d_RM_number_107 : decode prog_12_method_19_code 107 = .ok (.imul, 1) := by decide +kernel
theorem d_RM_number_108 : decode prog_12_method_19_code 108 = .ok (.invokevirtual 172, 3) := by decide +kernel
theorem d_RM_number_111 : decode prog_12_method_19_code 111 = .ok (.ireturn, 1) := by decide +kernel
theorem d_RM_deep_0 : decode prog_12_method_20_code 0 = .ok (.aload_n 0, 1) := by decide +kernel
theorem d_RM_deep_1 : decode prog_12_method_20_code 1 = .ok (.iload_n 1, 1) := by decide +kernel
theorem d_RM_deep_2 : decode prog_12_method_20_code 2 = .ok (.bipush 60, 2) := by decide +kernel
theorem d_RM_deep_4 : decode prog_12_method_20_code 4 = .ok (.if_icmp .gt 7, 3) := by decide +kernel
theorem d_RM_deep_7 : decode prog_12_method_20_code 7 = .ok (.iconst 1, 1) := by decide +kernel
theorem d_RM_deep_8 : decode prog_12_method_20_code 8 = .ok (.goto 4, 3) := by decide +kernel
theorem d_RM_deep_11 : decode prog_12_method_20_code 11 = .ok (.iconst 0, 1) := by decide +kernel
theorem d_RM_deep_12 : decode prog_12_method_20_code 12 = .ok (.invokevirtual 165, 3) := by decide +kernel
theorem d_RM_deep_15 : decode prog_12_method_20_code 15 = .ok (.return_, 1) := by decide +kernel
theorem d_RM_sum_0 : decode prog_12_method_21_code 0 = .ok (.aload_n 0, 1) := by decide +kernel
theorem d_RM_sum_1 : decode prog_12_method_21_code 1 = .ok (.iload_n 1, 1) := by decide +kernel
theorem d_RM_sum_2 : decode prog_12_method_21_code 2 = .ok (.invokevirtual 179, 3) := by decide +kernel
theorem d_RM_sum_5 : decode prog_12_method_21_code 5 = .ok (.aload_n 0, 1) := by decide +kernel
theorem d_RM_sum_6 : decode prog_12_method_21_code 6 = .ok (.getfield 155, 3) := by decide +kernel
theorem d_RM_sum_9 : decode prog_12_method_21_code 9 = .ok (.ifCond .eq 7, 3) := by decide +kernel
theorem d_RM_sum_12 : decode prog_12_method_21_code 12 = .ok (.iconst (-1), 1) := by decide +kernel
theorem d_RM_sum_13 : decode prog_12_method_21_code 13 = .ok (.goto 8, 3) := by decide +kernel
theorem d_RM_sum_16 : decode prog_12_method_21_code 16 = .ok (.aload_n 0, 1) := by decide +kernel
theorem d_RM_sum_17 : decode prog_12_method_21_code 17 = .ok (.iload_n 1, 1) := by decide +kernel
theorem d_RM_sum_18 : decode prog_12_method_21_code 18 = .ok (.invokevirtual 182, 3) := by decide +kernel
theorem d_RM_sum_21 : decode prog_12_method_21_code 21 = .ok (.istore_n 2, 1) := by decide +kernel
theorem d_RM_sum_22 : decode prog_12_method_21_code 22 = .ok (.aload_n 0, 1) := by decide +kernel
theorem d_RM_sum_23 : decode prog_12_method_21_code 23 = .ok (.invokevirtual 162, 3) := by decide +kernel
theorem d_RM_sum_26 : decode prog_12_method_21_code 26 = .ok (.bipush 43, 2) := by decide +kernel
theorem d_RM_sum_28 : decode prog_12_method_21_code 28 = .ok (.if_icmp .eq 14, 3) := by decide +kernel
theorem d_RM_sum_31 : decode prog_12_method_21_code 31 = .ok (.aload_n 0, 1) := by decide +kernel
theorem d_RM_sum_32 : decode prog_12_method_21_code 32 = .ok (.invokevirtual 162, 3) := by decide +kernel
theorem d_RM_sum_35 : decode prog_12_method_21_code 35 = .ok (.bipush 45, 2) := by decide +kernel
theorem d_RM_sum_37 : decode prog_12_method_21_code 37 = .ok (.if_icmp .eq 5, 3) := by decide +kernel
theorem d_RM_sum_40 : decode prog_12_method_21_code 40 = .ok (.iload_n 2, 1) := by decide +kernel
theorem d_RM_sum_41 : decode prog_12_method_21_code 41 = .ok (.ireturn, 1) := by decide +kernel
theorem d_RM_sum_42 : decode prog_12_method_21_code 42 = .ok (.aload_n 0, 1) := by decide +kernel
theorem d_RM_sum_43 : decode prog_12_method_21_code 43 = .ok (.bipush 17, 2) := by decide +kernel
theorem d_RM_sum_45 : decode prog_12_method_21_code 45 = .ok (.aload_n 0, 1) := by decide +kernel
theorem d_RM_sum_46 : decode prog_12_method_21_code 46 = .ok (.getfield 35, 3) := by decide +kernel
theorem d_RM_sum_49 : decode prog_12_method_21_code 49 = .ok (.iload_n 2, 1) := by decide +kernel
theorem d_RM_sum_50 : decode prog_12_method_21_code 50 = .ok (.iaload, 1) := by decide +kernel
theorem d_RM_sum_51 : decode prog_12_method_21_code 51 = .ok (.iconst 0, 1) := by decide +kernel
theorem d_RM_sum_52 : decode prog_12_method_21_code 52 = .ok (.invokevirtual 172, 3) := by decide +kernel
theorem d_RM_sum_55 : decode prog_12_method_21_code 55 = .ok (.istore_n 3, 1) := by decide +kernel
theorem d_RM_sum_56 : decode prog_12_method_21_code 56 = .ok (.aload_n 0, 1) := by decide +kernel
theorem d_RM_sum_57 : decode prog_12_method_21_code 57 = .ok (.iload_n 3, 1) := by decide +kernel
theorem d_RM_sum_58 : decode prog_12_method_21_code 58 = .ok (.iload_n 2, 1) := by decide +kernel
theorem d_RM_sum_59 : decode prog_12_method_21_code 59 = .ok (.invokevirtual 185, 3) := by decide +kernel
theorem d_RM_sum_62 : decode prog_12_method_21_code 62 = .ok (.aload_n 0, 1) := by decide +kernel
theorem d_RM_sum_63 : decode prog_12_method_21_code 63 = .ok (.invokevirtual 162, 3) := by decide +kernel
theorem d_RM_sum_66 : decode prog_12_method_21_code 66 = .ok (.bipush 43, 2) := by decide +kernel
theorem d_RM_sum_68 : decode prog_12_method_21_code 68 = .ok (.if_icmp .eq 12, 3) := by decide +kernel
theorem d_RM_sum_71 : decode prog_12_method_21_code 71 = .ok (.aload_n 0, 1) := by decide +kernel
theorem d_RM_sum_72 : decode prog_12_method_21_code 72 = .ok (.invokevirtual 162, 3) := by decide +kernel
theorem d_RM_sum_75 : decode prog_12_method_21_code 75 = .ok (.bipush 45, 2) := by decide +kernel
theorem d_RM_sum_77 : decode prog_12_method_21_code 77 = .ok (.if_icmp .ne 75, 3) := by decide +kernel
theorem d_RM_sum_80 : decode prog_12_method_21_code 80 = .ok (.aload_n 0, 1) := by decide +kernel
theorem d_RM_sum_81 : decode prog_12_method_21_code 81 = .ok (.aload_n 0, 1) := by decide +kernel
theorem d_RM_sum_82 : decode prog_12_method_21_code 82 = .ok (.invokevirtual 162, 3) := by decide +kernel
theorem d_RM_sum_85 : decode prog_12_method_21_code 85 = .ok (.bipush 43, 2) := by decide +kernel
theorem d_RM_sum_87 : decode prog_12_method_21_code 87 = .ok (.if_icmp .ne 8, 3) := by decide +kernel
theorem d_RM_sum_90 : decode prog_12_method_21_code 90 = .ok (.bipush 18, 2) := by decide +kernel
theorem d_RM_sum_92 : decode prog_12_method_21_code 92 = .ok (.goto 5, 3) := by decide +kernel
theorem d_RM_sum_95 : decode prog_12_method_21_code 95 = .ok (.bipush 19, 2) := by decide +kernel
theorem d_RM_sum_97 : decode prog_12_method_21_code 97 = .ok (.aload_n 0, 1) := by decide +kernel
theorem d_RM_sum_98 : decode prog_12_method_21_code 98 = .ok (.getfield 22, 3) := by decide +kernel
theorem d_RM_sum_101 : decode prog_12_method_21_code 101 = .ok (.aload_n 0, 1) := by decide +kernel
theorem d_RM_sum_102 : decode prog_12_method_21_code 102 = .ok (.getfield 159, 3) := by decide +kernel
theorem d_RM_sum_105 : decode prog_12_method_21_code 105 = .ok (.iaload, 1) := by decide +kernel
theorem d_RM_sum_106 : decode prog_12_method_21_code 106 = .ok (.iconst 0, 1) := by decide +kernel
theorem d_RM_sum_107 : decode prog_12_method_21_code 107 = .ok (.invokevirtual 172, 3) := by decide +kernel
theorem d_RM_sum_110 : decode prog_12_method_21_code 110 = .ok (.istore 4, 2) := by decide +kernel
theorem d_RM_sum_112 : decode prog_12_method_21_code 112 = .ok (.aload_n 0, 1) := by decide +kernel
theorem d_RM_sum_113 : decode prog_12_method_21_code 113 = .ok (.aload_n 0, 1) := by decide +kernel
theorem d_RM_sum_114 : decode prog_12_method_21_code 114 = .ok (.invokevirtual 162, 3) := by decide +kernel
theorem d_RM_sum_117 : decode prog_12_method_21_code 117 = .ok (.invokevirtual 176, 3) := by decide +kernel
theorem d_RM_sum_120 : decode prog_12_method_21_code 120 = .ok (.aload_n 0, 1) := by decide +kernel
theorem d_RM_sum_121 : decode prog_12_method_21_code 121 = .ok (.iload 4, 2) := by decide +kernel
theorem d_RM_sum_123 : decode prog_12_method_21_code 123 = .ok (.aload_n 0, 1) := by decide +kernel
theorem d_RM_sum_124 : decode prog_12_method_21_code 124 = .ok (.getfield 155, 3) := by decide +kernel
theorem d_RM_sum_127 : decode prog_12_method_21_code 127 = .ok (.ifCond .eq 7, 3) := by decide +kernel
theorem d_RM_sum_130 : decode prog_12_method_21_code 130 = .ok (.iconst (-1), 1) := by decide +kernel
theorem d_RM_sum_131 : decode prog_12_method_21_code 131 = .ok (.goto 8, 3) := by decide +kernel
theorem d_RM_sum_134 : decode prog_12_method_21_code 134 = .ok (.aload_n 0, 1) := by decide +kernel
theorem d_RM_sum_135 : decode prog_12_method_21_code 135 = .ok (.iload_n 1, 1) := by decide +kernel
theorem d_RM_sum_136 : decode prog_12_method_21_code 136 = .ok (.invokevirtual 182, 3) := by decide +kernel
theorem d_RM_sum_139 : decode prog_12_method_21_code 139 = .ok (.invokevirtual 185, 3) := by decide +kernel
theorem d_RM_sum_142 : decode prog_12_method_21_code 142 = .ok (.aload_n 0, 1) := by decide +kernel
theorem d_RM_sum_143 : decode prog_12_method_21_code 143 = .ok (.iload_n 3, 1) := by decide +kernel
theorem d_RM_sum_144 : decode prog_12_method_21_code 144 = .ok (.iload 4, 2) := by decide +kernel
theorem d_RM_sum_146 : decode prog_12_method_21_code 146 = .ok (.invokevirtual 185, 3) := by decide +kernel
theorem d_RM_sum_149 : decode prog_12_method_21_code 149 = .ok (.goto (-87), 3) := by decide +kernel
theorem d_RM_sum_152 : decode prog_12_method_21_code 152 = .ok (.iload_n 3, 1) := by decide +kernel
theorem d_RM_sum_153 : decode prog_12_method_21_code 153 = .ok (.ireturn, 1) := by decide +kernel
theorem d_RM_term_0 : decode prog_12_method_22_code 0 = .ok (.aload_n 0, 1) := by decide +kernel
theorem d_RM_term_1 : decode prog_12_method_22_code 1 = .ok (.iload_n 1, 1) := by decide +kernel
theorem d_RM_term_2 : decode prog_12_method_22_code 2 = .ok (.invokevirtual 189, 3) := by decide +kernel
theorem d_RM_term_5 : decode prog_12_method_22_code 5 = .ok (.istore_n 2, 1) := by decide +kernel
theorem d_RM_term_6 : decode prog_12_method_22_code 6 = .ok (.aload_n 0, 1) := by decide +kernel
theorem d_RM_term_7 : decode prog_12_method_22_code 7 = .ok (.invokevirtual 162, 3) := by decide +kernel
theorem d_RM_term_10 : decode prog_12_method_22_code 10 = .ok (.bipush 42, 2) := by decide +kernel
theorem d_RM_term_12 : decode prog_12_method_22_code 12 = .ok (.if_icmp .eq 23, 3) := by decide +kernel
theorem d_RM_term_15 : decode prog_12_method_22_code 15 = .ok (.aload_n 0, 1) := by decide +kernel
theorem d_RM_term_16 : decode prog_12_method_22_code 16 = .ok (.invokevirtual 162, 3) := by decide +kernel
theorem d_RM_term_19 : decode prog_12_method_22_code 19 = .ok (.bipush 47, 2) := by decide +kernel
theorem d_RM_term_21 : decode prog_12_method_22_code 21 = .ok (.if_icmp .eq 14, 3) := by decide +kernel
theorem d_RM_term_24 : decode prog_12_method_22_code 24 = .ok (.aload_n 0, 1) := by decide +kernel
theorem d_RM_term_25 : decode prog_12_method_22_code 25 = .ok (.invokevirtual 162, 3) := by decide +kernel
theorem d_RM_term_28 : decode prog_12_method_22_code 28 = .ok (.bipush 37, 2) := by decide +kernel
theorem d_RM_term_30 : decode prog_12_method_22_code 30 = .ok (.if_icmp .eq 5, 3) := by decide +kernel
theorem d_RM_term_33 : decode prog_12_method_22_code 33 = .ok (.iload_n 2, 1) := by decide +kernel
theorem d_RM_term_34 : decode prog_12_method_22_code 34 = .ok (.ireturn, 1) := by decide +kernel
theorem d_RM_term_35 : decode prog_12_method_22_code 35 = .ok (.aload_n 0, 1) := by decide +kernel
theorem d_RM_term_36 : decode prog_12_method_22_code 36 = .ok (.bipush 20, 2) := by decide +kernel
theorem d_RM_term_38 : decode prog_12_method_22_code 38 = .ok (.aload_n 0, 1) := by decide +kernel
theorem d_RM_term_39 : decode prog_12_method_22_code 39 = .ok (.getfield 35, 3) := by decide +kernel
theorem d_RM_term_42 : decode prog_12_method_22_code 42 = .ok (.iload_n 2, 1) := by decide +kernel
theorem d_RM_term_43 : decode prog_12_method_22_code 43 = .ok (.iaload, 1) := by decide +kernel
theorem d_RM_term_44 : decode prog_12_method_22_code 44 = .ok (.iconst 0, 1) := by decide +kernel
theorem d_RM_term_45 : decode prog_12_method_22_code 45 = .ok (.invokevirtual 172, 3) := by decide +kernel
theorem d_RM_term_48 : decode prog_12_method_22_code 48 = .ok (.istore_n 3, 1) := by decide +kernel
theorem d_RM_term_49 : decode prog_12_method_22_code 49 = .ok (.aload_n 0, 1) := by decide +kernel
theorem d_RM_term_50 : decode prog_12_method_22_code 50 = .ok (.iload_n 3, 1) := by decide +kernel
theorem d_RM_term_51 : decode prog_12_method_22_code 51 = .ok (.iload_n 2, 1) := by decide +kernel
theorem d_RM_term_52 : decode prog_12_method_22_code 52 = .ok (.invokevirtual 185, 3) := by decide +kernel
theorem d_RM_term_55 : decode prog_12_method_22_code 55 = .ok (.aload_n 0, 1) := by decide +kernel
theorem d_RM_term_56 : decode prog_12_method_22_code 56 = .ok (.invokevirtual 162, 3) := by decide +kernel
theorem d_RM_term_59 : decode prog_12_method_22_code 59 = .ok (.bipush 42, 2) := by decide +kernel
theorem d_RM_term_61 : decode prog_12_method_22_code 61 = .ok (.if_icmp .eq 21, 3) := by decide +kernel
theorem d_RM_term_64 : decode prog_12_method_22_code 64 = .ok (.aload_n 0, 1) := by decide +kernel
theorem d_RM_term_65 : decode prog_12_method_22_code 65 = .ok (.invokevirtual 162, 3) := by decide +kernel
theorem d_RM_term_68 : decode prog_12_method_22_code 68 = .ok (.bipush 47, 2) := by decide +kernel
theorem d_RM_term_70 : decode prog_12_method_22_code 70 = .ok (.if_icmp .eq 12, 3) := by decide +kernel
theorem d_RM_term_73 : decode prog_12_method_22_code 73 = .ok (.aload_n 0, 1) := by decide +kernel
theorem d_RM_term_74 : decode prog_12_method_22_code 74 = .ok (.invokevirtual 162, 3) := by decide +kernel
theorem d_RM_term_77 : decode prog_12_method_22_code 77 = .ok (.bipush 37, 2) := by decide +kernel
theorem d_RM_term_79 : decode prog_12_method_22_code 79 = .ok (.if_icmp .ne 89, 3) := by decide +kernel
theorem d_RM_term_82 : decode prog_12_method_22_code 82 = .ok (.aload_n 0, 1) := by decide +kernel
theorem d_RM_term_83 : decode prog_12_method_22_code 83 = .ok (.aload_n 0, 1) := by decide +kernel
theorem d_RM_term_84 : decode prog_12_method_22_code 84 = .ok (.invokevirtual 162, 3) := by decide +kernel
theorem d_RM_term_87 : decode prog_12_method_22_code 87 = .ok (.bipush 42, 2) := by decide +kernel
theorem d_RM_term_89 : decode prog_12_method_22_code 89 = .ok (.if_icmp .ne 8, 3) := by decide +kernel
theorem d_RM_term_92 : decode prog_12_method_22_code 92 = .ok (.bipush 21, 2) := by decide +kernel
theorem d_RM_term_94 : decode prog_12_method_22_code 94 = .ok (.goto 19, 3) := by decide +kernel
theorem d_RM_term_97 : decode prog_12_method_22_code 97 = .ok (.aload_n 0, 1) := by decide +kernel
theorem d_RM_term_98 : decode prog_12_method_22_code 98 = .ok (.invokevirtual 162, 3) := by decide +kernel
theorem d_RM_term_101 : decode prog_12_method_22_code 101 = .ok (.bipush 47, 2) := by decide +kernel
theorem d_RM_term_103 : decode prog_12_method_22_code 103 = .ok (.if_icmp .ne 8, 3) := by decide +kernel
theorem d_RM_term_106 : decode prog_12_method_22_code 106 = .ok (.bipush 22, 2) := by decide +kernel
theorem d_RM_term_108 : decode prog_12_method_22_code 108 = .ok (.goto 5, 3) := by decide +kernel
theorem d_RM_term_111 : decode prog_12_method_22_code 111 = .ok (.bipush 23, 2) := by decide +kernel
theorem d_RM_term_113 : decode prog_12_method_22_code 113 = .ok (.aload_n 0, 1) := by decide +kernel
theorem d_RM_term_114 : decode prog_12_method_22_code 114 = .ok (.getfield 22, 3) := by decide +kernel
theorem d_RM_term_117 : decode prog_12_method_22_code 117 = .ok (.aload_n 0, 1) := by decide +kernel
theorem d_RM_term_118 : decode prog_12_method_22_code 118 = .ok (.getfield 159, 3) := by decide +kernel
theorem d_RM_term_121 : decode prog_12_method_22_code 121 = .ok (.iaload, 1) := by decide +kernel
theorem d_RM_term_122 : decode prog_12_method_22_code 122 = .ok (.iconst 0, 1) := by decide +kernel
theorem d_RM_term_123 : decode prog_12_method_22_code 123 = .ok (.invokevirtual 172, 3) := by decide +kernel
theorem d_RM_term_126 : decode prog_12_method_22_code 126 = .ok (.istore 4, 2) := by decide +kernel
theorem d_RM_term_128 : decode prog_12_method_22_code 128 = .ok (.aload_n 0, 1) := by decide +kernel
theorem d_RM_term_129 : decode prog_12_method_22_code 129 = .ok (.aload_n 0, 1) := by decide +kernel
theorem d_RM_term_130 : decode prog_12_method_22_code 130 = .ok (.invokevirtual 162, 3) := by decide +kernel
theorem d_RM_term_133 : decode prog_12_method_22_code 133 = .ok (.invokevirtual 176, 3) := by decide +kernel
theorem d_RM_term_136 : decode prog_12_method_22_code 136 = .ok (.aload_n 0, 1) := by decide +kernel
theorem d_RM_term_137 : decode prog_12_method_22_code 137 = .ok (.iload 4, 2) := by decide +kernel
theorem d_RM_term_139 : decode prog_12_method_22_code 139 = .ok (.aload_n 0, 1) := by decide +kernel
theorem d_RM_term_140 : decode prog_12_method_22_code 140 = .ok (.getfield 155, 3) := by decide +kernel
theorem d_RM_term_143 : decode prog_12_method_22_code 143 = .ok (.ifCond .eq 7, 3) := by decide +kernel
theorem d_RM_term_146 : decode prog_12_method_22_code 146 = .ok (.iconst (-1), 1) := by decide +kernel
theorem d_RM_term_147 : decode prog_12_method_22_code 147 = .ok (.goto 8, 3) := by decide +kernel
theorem d_RM_term_150 : decode prog_12_method_22_code 150 = .ok (.aload_n 0, 1) := by decide +kernel
theorem d_RM_term_151 : decode prog_12_method_22_code 151 = .ok (.iload_n 1, 1) := by decide +kernel
theorem d_RM_term_152 : decode prog_12_method_22_code 152 = .ok (.invokevirtual 189, 3) := by decide +kernel
theorem d_RM_term_155 : decode prog_12_method_22_code 155 = .ok (.invokevirtual 185, 3) := by decide +kernel
theorem d_RM_term_158 : decode prog_12_method_22_code 158 = .ok (.aload_n 0, 1) := by decide +kernel
theorem d_RM_term_159 : decode prog_12_method_22_code 159 = .ok (.iload_n 3, 1) := by decide +kernel
theorem d_RM_term_160 : decode prog_12_method_22_code 160 = .ok (.iload 4, 2) := by decide +kernel
theorem d_RM_term_162 : decode prog_12_method_22_code 162 = .ok (.invokevirtual 185, 3) := by decide +kernel
theorem d_RM_term_165 : decode prog_12_method_22_code 165 = .ok (.goto (-110), 3) := by decide +kernel
theorem d_RM_term_168 : decode prog_12_method_22_code 168 = .ok (.iload_n 3, 1) := by decide +kernel
theorem d_RM_term_169 : decode prog_12_method_22_code 169 = .ok (.ireturn, 1) := by decide +kernel
theorem d_RM_factor_0 : decode prog_12_method_23_code 0 = .ok (.aload_n 0, 1) := by decide +kernel
theorem d_RM_factor_1 : decode prog_12_method_23_code 1 = .ok (.invokevirtual 162, 3) := by decide +kernel
theorem d_RM_factor_4 : decode prog_12_method_23_code 4 = .ok (.istore_n 2, 1) := by decide +kernel
theorem d_RM_factor_5 : decode prog_12_method_23_code 5 = .ok (.iload_n 2, 1) := by decide +kernel
theorem d_RM_factor_6 : decode prog_12_method_23_code 6 = .ok (.iconst 3, 1) := by decide +kernel
theorem d_RM_factor_7 : decode prog_12_method_23_code 7 = .ok (.if_icmp .ne 9, 3) := by decide +kernel
theorem d_RM_factor_10 : decode prog_12_method_23_code 10 = .ok (.aload_n 0, 1) := by decide +kernel
theorem d_RM_factor_11 : decode prog_12_method_23_code 11 = .ok (.iconst 0, 1) := by decide +kernel
theorem d_RM_factor_12 : decode prog_12_method_23_code 12 = .ok (.invokevirtual 192, 3) := by decide +kernel
theorem d_RM_factor_15 : decode prog_12_method_23_code 15 = .ok (.ireturn, 1) := by decide +kernel
theorem d_RM_factor_16 : decode prog_12_method_23_code 16 = .ok (.iload_n 2, 1) := by decide +kernel
theorem d_RM_factor_17 : decode prog_12_method_23_code 17 = .ok (.iconst 2, 1) := by decide +kernel
theorem d_RM_factor_18 : decode prog_12_method_23_code 18 = .ok (.if_icmp .ne 88, 3) := by decide +kernel
theorem d_RM_factor_21 : decode prog_12_method_23_code 21 = .ok (.aload_n 0, 1) := by decide +kernel
theorem d_RM_factor_22 : decode prog_12_method_23_code 22 = .ok (.getfield 22, 3) := by decide +kernel
theorem d_RM_factor_25 : decode prog_12_method_23_code 25 = .ok (.aload_n 0, 1) := by decide +kernel
theorem d_RM_factor_26 : decode prog_12_method_23_code 26 = .ok (.getfield 159, 3) := by decide +kernel
theorem d_RM_factor_29 : decode prog_12_method_23_code 29 = .ok (.iaload, 1) := by decide +kernel
theorem d_RM_factor_30 : decode prog_12_method_23_code 30 = .ok (.istore_n 3, 1) := by decide +kernel
theorem d_RM_factor_31 : decode prog_12_method_23_code 31 = .ok (.aload_n 0, 1) := by decide +kernel
theorem d_RM_factor_32 : decode prog_12_method_23_code 32 = .ok (.invokevirtual 196, 3) := by decide +kernel
theorem d_RM_factor_35 : decode prog_12_method_23_code 35 = .ok (.istore 4, 2) := by decide +kernel
theorem d_RM_factor_37 : decode prog_12_method_23_code 37 = .ok (.aload_n 0, 1) := by decide +kernel
theorem d_RM_factor_38 : decode prog_12_method_23_code 38 = .ok (.invokevirtual 162, 3) := by decide +kernel
theorem d_RM_factor_41 : decode prog_12_method_23_code 41 = .ok (.bipush 91, 2) := by decide +kernel
theorem d_RM_factor_43 : decode prog_12_method_23_code 43 = .ok (.if_icmp .eq 6, 3) := by decide +kernel
theorem d_RM_factor_46 : decode prog_12_method_23_code 46 = .ok (.iload 4, 2) := by decide +kernel
theorem d_RM_factor_48 : decode prog_12_method_23_code 48 = .ok (.ireturn, 1) := by decide +kernel
theorem d_RM_factor_49 : decode prog_12_method_23_code 49 = .ok (.aload_n 0, 1) := by decide +kernel
theorem d_RM_factor_50 : decode prog_12_method_23_code 50 = .ok (.bipush 14, 2) := by decide +kernel
theorem d_RM_factor_52 : decode prog_12_method_23_code 52 = .ok (.iload_n 3, 1) := by decide +kernel
theorem d_RM_factor_53 : decode prog_12_method_23_code 53 = .ok (.iconst 0, 1) := by decide +kernel
theorem d_RM_factor_54 : decode prog_12_method_23_code 54 = .ok (.invokevirtual 172, 3) := by decide +kernel
theorem d_RM_factor_57 : decode prog_12_method_23_code 57 = .ok (.istore 5, 2) := by decide +kernel
theorem d_RM_factor_59 : decode prog_12_method_23_code 59 = .ok (.aload_n 0, 1) := by decide +kernel
theorem d_RM_factor_60 : decode prog_12_method_23_code 60 = .ok (.iload 5, 2) := by decide +kernel
theorem d_RM_factor_62 : decode prog_12_method_23_code 62 = .ok (.iload 4, 2) := by decide +kernel
theorem d_RM_factor_64 : decode prog_12_method_23_code 64 = .ok (.invokevirtual 185, 3) := by decide +kernel
theorem d_RM_factor_67 : decode prog_12_method_23_code 67 = .ok (.aload_n 0, 1) := by decide +kernel
theorem d_RM_factor_68 : decode prog_12_method_23_code 68 = .ok (.bipush 91, 2) := by decide +kernel
theorem d_RM_factor_70 : decode prog_12_method_23_code 70 = .ok (.invokevirtual 176, 3) := by decide +kernel
theorem d_RM_factor_73 : decode prog_12_method_23_code 73 = .ok (.aload_n 0, 1) := by decide +kernel
theorem d_RM_factor_74 : decode prog_12_method_23_code 74 = .ok (.iload 5, 2) := by decide +kernel
theorem d_RM_factor_76 : decode prog_12_method_23_code 76 = .ok (.aload_n 0, 1) := by decide +kernel
theorem d_RM_factor_77 : decode prog_12_method_23_code 77 = .ok (.getfield 155, 3) := by decide +kernel
theorem d_RM_factor_80 : decode prog_12_method_23_code 80 = .ok (.ifCond .eq 7, 3) := by decide +kernel
theorem d_RM_factor_83 : decode prog_12_method_23_code 83 = .ok (.iconst (-1), 1) := by decide +kernel
theorem d_RM_factor_84 : decode prog_12_method_23_code 84 = .ok (.goto 10, 3) := by decide +kernel
theorem d_RM_factor_87 : decode prog_12_method_23_code 87 = .ok (.aload_n 0, 1) := by decide +kernel
theorem d_RM_factor_88 : decode prog_12_method_23_code 88 = .ok (.iload_n 1, 1) := by decide +kernel
theorem d_RM_factor_89 : decode prog_12_method_23_code 89 = .ok (.iconst 1, 1) := by decide +kernel
theorem d_RM_factor_90 : decode prog_12_method_23_code 90 = .ok (.iadd, 1) := by decide +kernel
theorem d_RM_factor_91 : decode prog_12_method_23_code 91 = .ok (.invokevirtual 199, 3) := by decide +kernel
theorem d_RM_factor_94 : decode prog_12_method_23_code 94 = .ok (.invokevirtual 185, 3) := by decide +kernel
theorem d_RM_factor_97 : decode prog_12_method_23_code 97 = .ok (.aload_n 0, 1) := by decide +kernel
theorem d_RM_factor_98 : decode prog_12_method_23_code 98 = .ok (.bipush 93, 2) := by decide +kernel
theorem d_RM_factor_100 : decode prog_12_method_23_code 100 = .ok (.invokevirtual 176, 3) := by decide +kernel
theorem d_RM_factor_103 : decode prog_12_method_23_code 103 = .ok (.iload 5, 2) := by decide +kernel
theorem d_RM_factor_105 : decode prog_12_method_23_code 105 = .ok (.ireturn, 1) := by decide +kernel
theorem d_RM_factor_106 : decode prog_12_method_23_code 106 = .ok (.iload_n 2, 1) := by decide +kernel
theorem d_RM_factor_107 : decode prog_12_method_23_code 107 = .ok (.bipush 45, 2) := by decide +kernel
theorem d_RM_factor_109 : decode prog_12_method_23_code 109 = .ok (.if_icmp .ne 58, 3) := by decide +kernel
theorem d_RM_factor_112 : decode prog_12_method_23_code 112 = .ok (.aload_n 0, 1) := by decide +kernel
theorem d_RM_factor_113 : decode prog_12_method_23_code 113 = .ok (.bipush 15, 2) := by decide +kernel
theorem d_RM_factor_115 : decode prog_12_method_23_code 115 = .ok (.aload_n 0, 1) := by decide +kernel
theorem d_RM_factor_116 : decode prog_12_method_23_code 116 = .ok (.getfield 22, 3) := by decide +kernel
theorem d_RM_factor_119 : decode prog_12_method_23_code 119 = .ok (.aload_n 0, 1) := by decide +kernel
theorem d_RM_factor_120 : decode prog_12_method_23_code 120 = .ok (.getfield 159, 3) := by decide +kernel
theorem d_RM_factor_123 : decode prog_12_method_23_code 123 = .ok (.iaload, 1) := by decide +kernel
theorem d_RM_factor_124 : decode prog_12_method_23_code 124 = .ok (.iconst 0, 1) := by decide +kernel
theorem d_RM_factor_125 : decode prog_12_method_23_code 125 = .ok (.invokevirtual 172, 3) := by decide +kernel
theorem d_RM_factor_128 : decode prog_12_method_23_code 128 = .ok (.istore_n 3, 1) := by decide +kernel
theorem d_RM_factor_129 : decode prog_12_method_23_code 129 = .ok (.aload_n 0, 1) := by decide +kernel
theorem d_RM_factor_130 : decode prog_12_method_23_code 130 = .ok (.bipush 45, 2) := by decide +kernel
theorem d_RM_factor_132 : decode prog_12_method_23_code 132 = .ok (.invokevirtual 176, 3) := by decide +kernel
theorem d_RM_factor_135 : decode prog_12_method_23_code 135 = .ok (.aload_n 0, 1) := by decide +kernel
theorem d_RM_factor_136 : decode prog_12_method_23_code 136 = .ok (.iload_n 1, 1) := by decide +kernel
theorem d_RM_factor_137 : decode prog_12_method_23_code 137 = .ok (.iconst 1, 1) := by decide +kernel
theorem d_RM_factor_138 : decode prog_12_method_23_code 138 = .ok (.iadd, 1) := by decide +kernel
theorem d_RM_factor_139 : decode prog_12_method_23_code 139 = .ok (.invokevirtual 179, 3) := by decide +kernel
theorem d_RM_factor_142 : decode prog_12_method_23_code 142 = .ok (.aload_n 0, 1) := by decide +kernel
theorem d_RM_factor_143 : decode prog_12_method_23_code 143 = .ok (.iload_n 3, 1) := by decide +kernel
theorem d_RM_factor_144 : decode prog_12_method_23_code 144 = .ok (.aload_n 0, 1) := by decide +kernel
theorem d_RM_factor_145 : decode prog_12_method_23_code 145 = .ok (.getfield 155, 3) := by decide +kernel
theorem d_RM_factor_148 : decode prog_12_method_23_code 148 = .ok (.ifCond .eq 7, 3) := by decide +kernel
theorem d_RM_factor_151 : decode prog_12_method_23_code 151 = .ok (.iconst (-1), 1) := by decide +kernel
theorem d_RM_factor_152 : decode prog_12_method_23_code 152 = .ok (.goto 10, 3) := by decide +kernel
theorem d_RM_factor_155 : decode prog_12_method_23_code 155 = .ok (.aload_n 0, 1) := by decide +kernel
theorem d_RM_factor_156 : decode prog_12_method_23_code 156 = .ok (.iload_n 1, 1) := by decide +kernel
theorem d_RM_factor_157 : decode prog_12_method_23_code 157 = .ok (.iconst 1, 1) := by decide +kernel
theorem d_RM_factor_158 : decode prog_12_method_23_code 158 = .ok (.iadd, 1) := by decide +kernel
theorem d_RM_factor_159 : decode prog_12_method_23_code 159 = .ok (.invokevirtual 189, 3) := by decide +kernel
theorem d_RM_factor_162 : decode prog_12_method_23_code 162 = .ok (.invokevirtual 185, 3) := by decide +kernel
theorem d_RM_factor_165 : decode prog_12_method_23_code 165 = .ok (.iload_n 3, 1) := by decide +kernel
theorem d_RM_factor_166 : decode prog_12_method_23_code 166 = .ok (.ireturn, 1) := by decide +kernel
theorem d_RM_factor_167 : decode prog_12_method_23_code 167 = .ok (.iload_n 2, 1) := by decide +kernel
theorem d_RM_factor_168 : decode prog_12_method_23_code 168 = .ok (.sipush 307, 3) := by decide +kernel
theorem d_RM_factor_171 : decode prog_12_method_23_code 171 = .ok (.if_icmp .ne 76, 3) := by decide +kernel
theorem d_RM_factor_174 : decode prog_12_method_23_code 174 = .ok (.aload_n 0, 1) := by decide +kernel
theorem d_RM_factor_175 : decode prog_12_method_23_code 175 = .ok (.bipush 16, 2) := by decide +kernel
theorem d_RM_factor_177 : decode prog_12_method_23_code 177 = .ok (.aload_n 0, 1) := by decide +kernel
theorem d_RM_factor_178 : decode prog_12_method_23_code 178 = .ok (.getfield 22, 3) := by decide +kernel
theorem d_RM_factor_181 : decode prog_12_method_23_code 181 = .ok (.aload_n 0, 1) := by decide +kernel
theorem d_RM_factor_182 : decode prog_12_method_23_code 182 = .ok (.getfield 159, 3) := by decide +kernel
theorem d_RM_factor_185 : decode prog_12_method_23_code 185 = .ok (.iaload, 1) := by decide +kernel
theorem d_RM_factor_186 : decode prog_12_method_23_code 186 = .ok (.iconst 0, 1) := by decide +kernel
theorem d_RM_factor_187 : decode prog_12_method_23_code 187 = .ok (.invokevirtual 172, 3) := by decide +kernel
theorem d_RM_factor_190 : decode prog_12_method_23_code 190 = .ok (.istore_n 3, 1) := by decide +kernel
theorem d_RM_factor_191 : decode prog_12_method_23_code 191 = .ok (.aload_n 0, 1) := by decide +kernel
theorem d_RM_factor_192 : decode prog_12_method_23_code 192 = .ok (.sipush 307, 3) := by decide +kernel
theorem d_RM_factor_195 : decode prog_12_method_23_code 195 = .ok (.invokevirtual 176, 3) := by decide +kernel
theorem d_RM_factor_198 : decode prog_12_method_23_code 198 = .ok (.aload_n 0, 1) := by decide +kernel
theorem d_RM_factor_199 : decode prog_12_method_23_code 199 = .ok (.invokevirtual 162, 3) := by decide +kernel
theorem d_RM_factor_202 : decode prog_12_method_23_code 202 = .ok (.bipush 40, 2) := by decide +kernel
theorem d_RM_factor_204 : decode prog_12_method_23_code 204 = .ok (.if_icmp .ne 41, 3) := by decide +kernel
theorem d_RM_factor_207 : decode prog_12_method_23_code 207 = .ok (.aload_n 0, 1) := by decide +kernel
theorem d_RM_factor_208 : decode prog_12_method_23_code 208 = .ok (.bipush 40, 2) := by decide +kernel
theorem d_RM_factor_210 : decode prog_12_method_23_code 210 = .ok (.invokevirtual 176, 3) := by decide +kernel
theorem d_RM_factor_213 : decode prog_12_method_23_code 213 = .ok (.aload_n 0, 1) := by decide +kernel
theorem d_RM_factor_214 : decode prog_12_method_23_code 214 = .ok (.iload_n 3, 1) := by decide +kernel
theorem d_RM_factor_215 : decode prog_12_method_23_code 215 = .ok (.aload_n 0, 1) := by decide +kernel
theorem d_RM_factor_216 : decode prog_12_method_23_code 216 = .ok (.iconst 1, 1) := by decide +kernel
theorem d_RM_factor_217 : decode prog_12_method_23_code 217 = .ok (.invokevirtual 192, 3) := by decide +kernel
theorem d_RM_factor_220 : decode prog_12_method_23_code 220 = .ok (.invokevirtual 185, 3) := by decide +kernel
theorem d_RM_factor_223 : decode prog_12_method_23_code 223 = .ok (.aload_n 0, 1) := by decide +kernel
theorem d_RM_factor_224 : decode prog_12_method_23_code 224 = .ok (.bipush 44, 2) := by decide +kernel
theorem d_RM_factor_226 : decode prog_12_method_23_code 226 = .ok (.invokevirtual 176, 3) := by decide +kernel
theorem d_RM_factor_229 : decode prog_12_method_23_code 229 = .ok (.aload_n 0, 1) := by decide +kernel
theorem d_RM_factor_230 : decode prog_12_method_23_code 230 = .ok (.iload_n 3, 1) := by decide +kernel
theorem d_RM_factor_231 : decode prog_12_method_23_code 231 = .ok (.aload_n 0, 1) := by decide +kernel
theorem d_RM_factor_232 : decode prog_12_method_23_code 232 = .ok (.iconst 1, 1) := by decide +kernel
theorem d_RM_factor_233 : decode prog_12_method_23_code 233 = .ok (.invokevirtual 192, 3) := by decide +kernel
theorem d_RM_factor_236 : decode prog_12_method_23_code 236 = .ok (.invokevirtual 185, 3) := by decide +kernel
theorem d_RM_factor_239 : decode prog_12_method_23_code 239 = .ok (.aload_n 0, 1) := by decide +kernel
theorem d_RM_factor_240 : decode prog_12_method_23_code 240 = .ok (.bipush 41, 2) := by decide +kernel
theorem d_RM_factor_242 : decode prog_12_method_23_code 242 = .ok (.invokevirtual 176, 3) := by decide +kernel
theorem d_RM_factor_245 : decode prog_12_method_23_code 245 = .ok (.iload_n 3, 1) := by decide +kernel
theorem d_RM_factor_246 : decode prog_12_method_23_code 246 = .ok (.ireturn, 1) := by decide +kernel
theorem d_RM_factor_247 : decode prog_12_method_23_code 247 = .ok (.aload_n 0, 1) := by decide +kernel
theorem d_RM_factor_248 : decode prog_12_method_23_code 248 = .ok (.bipush 40, 2) := by decide +kernel
theorem d_RM_factor_250 : decode prog_12_method_23_code 250 = .ok (.invokevirtual 176, 3) := by decide +kernel
theorem d_RM_factor_253 : decode prog_12_method_23_code 253 = .ok (.aload_n 0, 1) := by decide +kernel
theorem d_RM_factor_254 : decode prog_12_method_23_code 254 = .ok (.getfield 155, 3) := by decide +kernel
theorem d_RM_factor_257 : decode prog_12_method_23_code 257 = .ok (.ifCond .eq 7, 3) := by decide +kernel
theorem d_RM_factor_260 : decode prog_12_method_23_code 260 = .ok (.iconst (-1), 1) := by decide +kernel
theorem d_RM_factor_261 : decode prog_12_method_23_code 261 = .ok (.goto 10, 3) := by decide +kernel
theorem d_RM_factor_264 : decode prog_12_method_23_code 264 = .ok (.aload_n 0, 1) := by decide +kernel
theorem d_RM_factor_265 : decode prog_12_method_23_code 265 = .ok (.iload_n 1, 1) := by decide +kernel
theorem d_RM_factor_266 : decode prog_12_method_23_code 266 = .ok (.iconst 1, 1) := by decide +kernel
theorem d_RM_factor_267 : decode prog_12_method_23_code 267 = .ok (.iadd, 1) := by decide +kernel
theorem d_RM_factor_268 : decode prog_12_method_23_code 268 = .ok (.invokevirtual 199, 3) := by decide +kernel
theorem d_RM_factor_271 : decode prog_12_method_23_code 271 = .ok (.istore_n 3, 1) := by decide +kernel
theorem d_RM_factor_272 : decode prog_12_method_23_code 272 = .ok (.aload_n 0, 1) := by decide +kernel
theorem d_RM_factor_273 : decode prog_12_method_23_code 273 = .ok (.bipush 41, 2) := by decide +kernel
theorem d_RM_factor_275 : decode prog_12_method_23_code 275 = .ok (.invokevirtual 176, 3) := by decide +kernel
theorem d_RM_factor_278 : decode prog_12_method_23_code 278 = .ok (.iload_n 3, 1) := by decide +kernel
theorem d_RM_factor_279 : decode prog_12_method_23_code 279 = .ok (.ireturn, 1) := by decide +kernel
theorem d_RM_cond_0 : decode prog_12_method_24_code 0 = .ok (.aload_n 0, 1) := by decide +kernel
theorem d_RM_cond_1 : decode prog_12_method_24_code 1 = .ok (.iload_n 1, 1) := by decide +kernel
theorem d_RM_cond_2 : decode prog_12_method_24_code 2 = .ok (.invokevirtual 179, 3) := by decide +kernel
theorem d_RM_cond_5 : decode prog_12_method_24_code 5 = .ok (.aload_n 0, 1) := by decide +kernel
theorem d_RM_cond_6 : decode prog_12_method_24_code 6 = .ok (.getfield 155, 3) := by decide +kernel
theorem d_RM_cond_9 : decode prog_12_method_24_code 9 = .ok (.ifCond .eq 7, 3) := by decide +kernel
theorem d_RM_cond_12 : decode prog_12_method_24_code 12 = .ok (.iconst (-1), 1) := by decide +kernel
theorem d_RM_cond_13 : decode prog_12_method_24_code 13 = .ok (.goto 10, 3) := by decide +kernel
theorem d_RM_cond_16 : decode prog_12_method_24_code 16 = .ok (.aload_n 0, 1) := by decide +kernel
theorem d_RM_cond_17 : decode prog_12_method_24_code 17 = .ok (.iload_n 1, 1) := by decide +kernel
theorem d_RM_cond_18 : decode prog_12_method_24_code 18 = .ok (.bipush 24, 2) := by decide +kernel
theorem d_RM_cond_20 : decode prog_12_method_24_code 20 = .ok (.invokevirtual 202, 3) := by decide +kernel
theorem d_RM_cond_23 : decode prog_12_method_24_code 23 = .ok (.ireturn, 1) := by decide +kernel
