theorem d_TR_init_0 : decode prog_9_method_1_code 0 = .ok (.aload_n 0, 1) := by decide +kernel
theorem d_TR_init_1 : decode prog_9_method_1_code 1 = .ok (.invokespecial 3, 3) := by decide +kernel
theorem d_TR_init_4 : decode prog_9_method_1_code 4 = .ok (.aload_n 0, 1) := by decide +kernel
theorem d_TR_init_5 : decode prog_9_method_1_code 5 = .ok (.iconst 1, 1) := by decide +kernel
theorem d_TR_init_6 : decode prog_9_method_1_code 6 = .ok (.putfield 9, 3) := by decide +kernel
theorem d_TR_init_9 : decode prog_9_method_1_code 9 = .ok (.aload_n 0, 1) := by decide +kernel
theorem d_TR_init_10 : decode prog_9_method_1_code 10 = .ok (.iconst 1, 1) := by decide +kernel
theorem d_TR_init_11 : decode prog_9_method_1_code 11 = .ok (.newarray .int, 2) := by decide +kernel
theorem d_TR_init_13 : decode prog_9_method_1_code 13 = .ok (.putfield 15, 3) := by decide +kernel
theorem d_TR_init_16 : decode prog_9_method_1_code 16 = .ok (.aload_n 0, 1) := by decide +kernel
theorem d_TR_init_17 : decode prog_9_method_1_code 17 = .ok (.iconst 1, 1) := by decide +kernel
theorem d_TR_init_18 : decode prog_9_method_1_code 18 = .ok (.newarray .int, 2) := by decide +kernel
theorem d_TR_init_20 : decode prog_9_method_1_code 20 = .ok (.dup, 1) := by decide +kernel
theorem d_TR_init_21 : decode prog_9_method_1_code 21 = .ok (.iconst 0, 1) := by decide +kernel
theorem d_TR_init_22 : decode prog_9_method_1_code 22 = .ok (.iconst (-1), 1) := by decide +kernel
theorem d_TR_init_23 : decode prog_9_method_1_code 23 = .ok (.iastore, 1) := by decide +kernel
theorem d_TR_init_24 : decode prog_9_method_1_code 24 = .ok (.putfield 19, 3) := by decide +kernel
theorem d_TR_init_27 : decode prog_9_method_1_code 27 = .ok (.aload_n 0, 1) := by decide +kernel
theorem d_TR_init_28 : decode prog_9_method_1_code 28 = .ok (.iconst 1, 1) := by decide +kernel
theorem d_TR_init_29 : decode prog_9_method_1_code 29 = .ok (.newarray .int, 2) := by decide +kernel
theorem d_TR_init_31 : decode prog_9_method_1_code 31 = .ok (.putfield 22, 3) := by decide +kernel
theorem d_TR_init_34 : decode prog_9_method_1_code 34 = .ok (.aload_n 0, 1) := by decide +kernel
theorem d_TR_init_35 : decode prog_9_method_1_code 35 = .ok (.iconst 1, 1) := by decide +kernel
theorem d_TR_init_36 : decode prog_9_method_1_code 36 = .ok (.newarray .int, 2) := by decide +kernel
theorem d_TR_init_38 : decode prog_9_method_1_code 38 = .ok (.dup, 1) := by decide +kernel
theorem d_TR_init_39 : decode prog_9_method_1_code 39 = .ok (.iconst 0, 1) := by decide +kernel
theorem d_TR_init_40 : decode prog_9_method_1_code 40 = .ok (.iconst 1, 1) := by decide +kernel
theorem d_TR_init_41 : decode prog_9_method_1_code 41 = .ok (.iastore, 1) := by decide +kernel
theorem d_TR_init_42 : decode prog_9_method_1_code 42 = .ok (.putfield 25, 3) := by decide +kernel
theorem d_TR_init_45 : decode prog_9_method_1_code 45 = .ok (.aload_n 0, 1) := by decide +kernel
theorem d_TR_init_46 : decode prog_9_method_1_code 46 = .ok (.iconst 1, 1) := by decide +kernel
theorem d_TR_init_47 : decode prog_9_method_1_code 47 = .ok (.newarray .int, 2) := by decide +kernel
theorem d_TR_init_49 : decode prog_9_method_1_code 49 = .ok (.putfield 28, 3) := by decide +kernel
theorem d_TR_init_52 : decode prog_9_method_1_code 52 = .ok (.aload_n 0, 1) := by decide +kernel
theorem d_TR_init_53 : decode prog_9_method_1_code 53 = .ok (.iconst 1, 1) := by decide +kernel
theorem d_TR_init_54 : decode prog_9_method_1_code 54 = .ok (.newarray .int, 2) := by decide +kernel
theorem d_TR_init_56 : decode prog_9_method_1_code 56 = .ok (.dup, 1) := by decide +kernel
theorem d_TR_init_57 : decode prog_9_method_1_code 57 = .ok (.iconst 0, 1) := by decide +kernel
theorem d_TR_init_58 : decode prog_9_method_1_code 58 = .ok (.iconst (-1), 1) := by decide +kernel
theorem d_TR_init_59 : decode prog_9_method_1_code 59 = .ok (.iastore, 1) := by decide +kernel
theorem d_TR_init_60 : decode prog_9_method_1_code 60 = .ok (.putfield 31, 3) := by decide +kernel
theorem d_TR_init_63 : decode prog_9_method_1_code 63 = .ok (.aload_n 0, 1) := by decide +kernel
theorem d_TR_init_64 : decode prog_9_method_1_code 64 = .ok (.iconst 1, 1) := by decide +kernel
theorem d_TR_init_65 : decode prog_9_method_1_code 65 = .ok (.newarray .int, 2) := by decide +kernel
theorem d_TR_init_67 : decode prog_9_method_1_code 67 = .ok (.putfield 34, 3) := by decide +kernel
theorem d_TR_init_70 : decode prog_9_method_1_code 70 = .ok (.return_, 1) := by decide +kernel
theorem d_TR_has_0 : decode prog_9_method_2_code 0 = .ok (.iload_n 1, 1) := by decide +kernel
theorem d_TR_has_1 : decode prog_9_method_2_code 1 = .ok (.ifCond .lt 15, 3) := by decide +kernel
theorem d_TR_has_4 : decode prog_9_method_2_code 4 = .ok (.iload_n 1, 1) := by decide +kernel
theorem d_TR_has_5 : decode prog_9_method_2_code 5 = .ok (.aload_n 0, 1) := by decide +kernel
theorem d_TR_has_6 : decode prog_9_method_2_code 6 = .ok (.getfield 9, 3) := by decide +kernel
theorem d_TR_has_9 : decode prog_9_method_2_code 9 = .ok (.if_icmp .ge 7, 3) := by decide +kernel
theorem d_TR_has_12 : decode prog_9_method_2_code 12 = .ok (.iconst 1, 1) := by decide +kernel
theorem d_TR_has_13 : decode prog_9_method_2_code 13 = .ok (.goto 4, 3) := by decide +kernel
theorem d_TR_has_16 : decode prog_9_method_2_code 16 = .ok (.iconst 0, 1) := by decide +kernel
theorem d_TR_has_17 : decode prog_9_method_2_code 17 = .ok (.ireturn, 1) := by decide +kernel
theorem d_TR_lay_0 : decode prog_9_method_3_code 0 = .ok (.aload_n 0, 1) := by decide +kernel
theorem d_TR_lay_1 : decode prog_9_method_3_code 1 = .ok (.aload_n 1, 1) := by decide +kernel
theorem d_TR_lay_2 : decode prog_9_method_3_code 2 = .ok (.getfield 37, 3) := by decide +kernel
theorem d_TR_lay_5 : decode prog_9_method_3_code 5 = .ok (.invokevirtual 40, 3) := by decide +kernel
theorem d_TR_lay_8 : decode prog_9_method_3_code 8 = .ok (.aload_n 0, 1) := by decide +kernel
theorem d_TR_lay_9 : decode prog_9_method_3_code 9 = .ok (.aload_n 1, 1) := by decide +kernel
theorem d_TR_lay_10 : decode prog_9_method_3_code 10 = .ok (.getfield 37, 3) := by decide +kernel
theorem d_TR_lay_13 : decode prog_9_method_3_code 13 = .ok (.putfield 9, 3) := by decide +kernel
theorem d_TR_lay_16 : decode prog_9_method_3_code 16 = .ok (.aload_n 0, 1) := by decide +kernel
theorem d_TR_lay_17 : decode prog_9_method_3_code 17 = .ok (.aload_n 1, 1) := by decide +kernel
theorem d_TR_lay_18 : decode prog_9_method_3_code 18 = .ok (.invokevirtual 44, 3) := by decide +kernel
theorem d_TR_lay_21 : decode prog_9_method_3_code 21 = .ok (.aload_n 0, 1) := by decide +kernel
theorem d_TR_lay_22 : decode prog_9_method_3_code 22 = .ok (.invokevirtual 48, 3) := by decide +kernel
theorem d_TR_lay_25 : decode prog_9_method_3_code 25 = .ok (.return_, 1) := by decide +kernel
theorem d_TR_about_0 : decode prog_9_method_4_code 0 = .ok (.aload_n 0, 1) := by decide +kernel
theorem d_TR_about_1 : decode prog_9_method_4_code 1 = .ok (.iload_n 1, 1) := by decide +kernel
theorem d_TR_about_2 : decode prog_9_method_4_code 2 = .ok (.invokevirtual 51, 3) := by decide +kernel
theorem d_TR_about_5 : decode prog_9_method_4_code 5 = .ok (.ifCond .ne 6, 3) := by decide +kernel
theorem d_TR_about_8 : decode prog_9_method_4_code 8 = .ok (.bipush (-2), 2) := by decide +kernel
theorem d_TR_about_10 : decode prog_9_method_4_code 10 = .ok (.ireturn, 1) := by decide +kernel
theorem d_TR_about_11 : decode prog_9_method_4_code 11 = .ok (.iload_n 2, 1) := by decide +kernel
theorem d_TR_about_12 : decode prog_9_method_4_code 12 = .ok (.tableswitch 71 0 4 #[36, 43, 50, 57, 64], 36) := by decide +kernel
theorem d_TR_about_48 : decode prog_9_method_4_code 48 = .ok (.aload_n 0, 1) := by decide +kernel
theorem d_TR_about_49 : decode prog_9_method_4_code 49 = .ok (.getfield 15, 3) := by decide +kernel
theorem d_TR_about_52 : decode prog_9_method_4_code 52 = .ok (.iload_n 1, 1) := by decide +kernel
theorem d_TR_about_53 : decode prog_9_method_4_code 53 = .ok (.iaload, 1) := by decide +kernel
theorem d_TR_about_54 : decode prog_9_method_4_code 54 = .ok (.ireturn, 1) := by decide +kernel
theorem d_TR_about_55 : decode prog_9_method_4_code 55 = .ok (.aload_n 0, 1) := by decide +kernel
theorem d_TR_about_56 : decode prog_9_method_4_code 56 = .ok (.getfield 19, 3) := by decide +kernel
theorem d_TR_about_59 : decode prog_9_method_4_code 59 = .ok (.iload_n 1, 1) := by decide +kernel
theorem d_TR_about_60 : decode prog_9_method_4_code 60 = .ok (.iaload, 1) := by decide +kernel
theorem d_TR_about_61 : decode prog_9_method_4_code 61 = .ok (.ireturn, 1) := by decide +kernel
theorem d_TR_about_62 : decode prog_9_method_4_code 62 = .ok (.aload_n 0, 1) := by decide +kernel
theorem d_TR_about_63 : decode prog_9_method_4_code 63 = .ok (.getfield 22, 3) := by decide +kernel
theorem d_TR_about_66 : decode prog_9_method_4_code 66 = .ok (.iload_n 1, 1) := by decide +kernel
theorem d_TR_about_67 : decode prog_9_method_4_code 67 = .ok (.iaload, 1) := by decide +kernel
theorem d_TR_about_68 : decode prog_9_method_4_code 68 = .ok (.ireturn, 1) := by decide +kernel
theorem d_TR_about_69 : decode prog_9_method_4_code 69 = .ok (.aload_n 0, 1) := by decide +kernel
theorem d_TR_about_70 : decode prog_9_method_4_code 70 = .ok (.getfield 25, 3) := by decide +kernel
theorem d_TR_about_73 : decode prog_9_method_4_code 73 = .ok (.iload_n 1, 1) := by decide +kernel
theorem d_TR_about_74 : decode prog_9_method_4_code 74 = .ok (.iaload, 1) := by decide +kernel
theorem d_TR_about_75 : decode prog_9_method_4_code 75 = .ok (.ireturn, 1) := by decide +kernel
theorem d_TR_about_76 : decode prog_9_method_4_code 76 = .ok (.aload_n 0, 1) := by decide +kernel
theorem d_TR_about_77 : decode prog_9_method_4_code 77 = .ok (.getfield 28, 3) := by decide +kernel
theorem d_TR_about_80 : decode prog_9_method_4_code 80 = .ok (.iload_n 1, 1) := by decide +kernel
theorem d_TR_about_81 : decode prog_9_method_4_code 81 = .ok (.iaload, 1) := by decide +kernel
theorem d_TR_about_82 : decode prog_9_method_4_code 82 = .ok (.ireturn, 1) := by decide +kernel
theorem d_TR_about_83 : decode prog_9_method_4_code 83 = .ok (.bipush (-2), 2) := by decide +kernel
theorem d_TR_about_85 : decode prog_9_method_4_code 85 = .ok (.ireturn, 1) := by decide +kernel
theorem d_TR_kindOf_0 : decode prog_9_method_5_code 0 = .ok (.aload_n 0, 1) := by decide +kernel
theorem d_TR_kindOf_1 : decode prog_9_method_5_code 1 = .ok (.iload_n 1, 1) := by decide +kernel
theorem d_TR_kindOf_2 : decode prog_9_method_5_code 2 = .ok (.invokevirtual 51, 3) := by decide +kernel
theorem d_TR_kindOf_5 : decode prog_9_method_5_code 5 = .ok (.ifCond .eq 12, 3) := by decide +kernel
theorem d_TR_kindOf_8 : decode prog_9_method_5_code 8 = .ok (.aload_n 0, 1) := by decide +kernel
theorem d_TR_kindOf_9 : decode prog_9_method_5_code 9 = .ok (.getfield 15, 3) := by decide +kernel
theorem d_TR_kindOf_12 : decode prog_9_method_5_code 12 = .ok (.iload_n 1, 1) := by decide +kernel
theorem d_TR_kindOf_13 : decode prog_9_method_5_code 13 = .ok (.iaload, 1) := by decide +kernel
theorem d_TR_kindOf_14 : decode prog_9_method_5_code 14 = .ok (.goto 5, 3) := by decide +kernel
theorem d_TR_kindOf_17 : decode prog_9_method_5_code 17 = .ok (.bipush 33, 2) := by decide +kernel
theorem d_TR_kindOf_19 : decode prog_9_method_5_code 19 = .ok (.ireturn, 1) := by decide +kernel
theorem d_TR_valueOf_0 : decode prog_9_method_6_code 0 = .ok (.aload_n 0, 1) := by decide +kernel
theorem d_TR_valueOf_1 : decode prog_9_method_6_code 1 = .ok (.iload_n 1, 1) := by decide +kernel
theorem d_TR_valueOf_2 : decode prog_9_method_6_code 2 = .ok (.invokevirtual 51, 3) := by decide +kernel
theorem d_TR_valueOf_5 : decode prog_9_method_6_code 5 = .ok (.ifCond .eq 12, 3) := by decide +kernel
theorem d_TR_valueOf_8 : decode prog_9_method_6_code 8 = .ok (.aload_n 0, 1) := by decide +kernel
theorem d_TR_valueOf_9 : decode prog_9_method_6_code 9 = .ok (.getfield 22, 3) := by decide +kernel
theorem d_TR_valueOf_12 : decode prog_9_method_6_code 12 = .ok (.iload_n 1, 1) := by decide +kernel
theorem d_TR_valueOf_13 : decode prog_9_method_6_code 13 = .ok (.iaload, 1) := by decide +kernel
theorem d_TR_valueOf_14 : decode prog_9_method_6_code 14 = .ok (.goto 4, 3) := by decide +kernel
theorem d_TR_valueOf_17 : decode prog_9_method_6_code 17 = .ok (.iconst 0, 1) := by decide +kernel
theorem d_TR_valueOf_18 : decode prog_9_method_6_code 18 = .ok (.ireturn, 1) := by decide +kernel
theorem d_TR_partsOf_0 : decode prog_9_method_7_code 0 = .ok (.aload_n 0, 1) := by decide +kernel
theorem d_TR_partsOf_1 : decode prog_9_method_7_code 1 = .ok (.iload_n 1, 1) := by decide +kernel
theorem d_TR_partsOf_2 : decode prog_9_method_7_code 2 = .ok (.invokevirtual 51, 3) := by decide +kernel
theorem d_TR_partsOf_5 : decode prog_9_method_7_code 5 = .ok (.ifCond .eq 12, 3) := by decide +kernel
theorem d_TR_partsOf_8 : decode prog_9_method_7_code 8 = .ok (.aload_n 0, 1) := by decide +kernel
theorem d_TR_partsOf_9 : decode prog_9_method_7_code 9 = .ok (.getfield 28, 3) := by decide +kernel
theorem d_TR_partsOf_12 : decode prog_9_method_7_code 12 = .ok (.iload_n 1, 1) := by decide +kernel
theorem d_TR_partsOf_13 : decode prog_9_method_7_code 13 = .ok (.iaload, 1) := by decide +kernel
theorem d_TR_partsOf_14 : decode prog_9_method_7_code 14 = .ok (.goto 4, 3) := by decide +kernel
theorem d_TR_partsOf_17 : decode prog_9_method_7_code 17 = .ok (.iconst 0, 1) := by decide +kernel
theorem d_TR_partsOf_18 : decode prog_9_method_7_code 18 = .ok (.ireturn, 1) := by decide +kernel
theorem d_TR_wholeOf_0 : decode prog_9_method_8_code 0 = .ok (.aload_n 0, 1) := by decide +kernel
theorem d_TR_wholeOf_1 : decode prog_9_method_8_code 1 = .ok (.iload_n 1, 1) := by decide +kernel
theorem d_TR_wholeOf_2 : decode prog_9_method_8_code 2 = .ok (.invokevirtual 51, 3) := by decide +kernel
theorem d_TR_wholeOf_5 : decode prog_9_method_8_code 5 = .ok (.ifCond .eq 12, 3) := by decide +kernel
theorem d_TR_wholeOf_8 : decode prog_9_method_8_code 8 = .ok (.aload_n 0, 1) := by decide +kernel
theorem d_TR_wholeOf_9 : decode prog_9_method_8_code 9 = .ok (.getfield 31, 3) := by decide +kernel
theorem d_TR_wholeOf_12 : decode prog_9_method_8_code 12 = .ok (.iload_n 1, 1) := by decide +kernel
theorem d_TR_wholeOf_13 : decode prog_9_method_8_code 13 = .ok (.iaload, 1) := by decide +kernel
theorem d_TR_wholeOf_14 : decode prog_9_method_8_code 14 = .ok (.goto 4, 3) := by decide +kernel
theorem d_TR_wholeOf_17 : decode prog_9_method_8_code 17 = .ok (.iconst (-1), 1) := by decide +kernel
theorem d_TR_wholeOf_18 : decode prog_9_method_8_code 18 = .ok (.ireturn, 1) := by decide +kernel
theorem d_TR_rankOf_0 : decode prog_9_method_9_code 0 = .ok (.aload_n 0, 1) := by decide +kernel
theorem d_TR_rankOf_1 : decode prog_9_method_9_code 1 = .ok (.iload_n 1, 1) := by decide +kernel
theorem d_TR_rankOf_2 : decode prog_9_method_9_code 2 = .ok (.invokevirtual 51, 3) := by decide +kernel
theorem d_TR_rankOf_5 : decode prog_9_method_9_code 5 = .ok (.ifCond .eq 12, 3) := by decide +kernel
theorem d_TR_rankOf_8 : decode prog_9_method_9_code 8 = .ok (.aload_n 0, 1) := by decide +kernel
theorem d_TR_rankOf_9 : decode prog_9_method_9_code 9 = .ok (.getfield 34, 3) := by decide +kernel
theorem d_TR_rankOf_12 : decode prog_9_method_9_code 12 = .ok (.iload_n 1, 1) := by decide +kernel
theorem d_TR_rankOf_13 : decode prog_9_method_9_code 13 = .ok (.iaload, 1) := by decide +kernel
theorem d_TR_rankOf_14 : decode prog_9_method_9_code 14 = .ok (.goto 4, 3) := by decide +kernel
theorem d_TR_rankOf_17 : decode prog_9_method_9_code 17 = .ok (.iconst 0, 1) := by decide +kernel
theorem d_TR_rankOf_18 : decode prog_9_method_9_code 18 = .ok (.ireturn, 1) := by decide +kernel
theorem d_TR_partAt_0 : decode prog_9_method_10_code 0 = .ok (.iload_n 2, 1) := by decide +kernel
theorem d_TR_partAt_1 : decode prog_9_method_10_code 1 = .ok (.ifCond .lt 12, 3) := by decide +kernel
theorem d_TR_partAt_4 : decode prog_9_method_10_code 4 = .ok (.iload_n 2, 1) := by decide +kernel
theorem d_TR_partAt_5 : decode prog_9_method_10_code 5 = .ok (.aload_n 0, 1) := by decide +kernel
theorem d_TR_partAt_6 : decode prog_9_method_10_code 6 = .ok (.iload_n 1, 1) := by decide +kernel
theorem d_TR_partAt_7 : decode prog_9_method_10_code 7 = .ok (.invokevirtual 57, 3) := by decide +kernel
theorem d_TR_partAt_10 : decode prog_9_method_10_code 10 = .ok (.if_icmp .lt 5, 3) := by decide +kernel
theorem d_TR_partAt_13 : decode prog_9_method_10_code 13 = .ok (.iconst (-1), 1) := by decide +kernel
theorem d_TR_partAt_14 : decode prog_9_method_10_code 14 = .ok (.ireturn, 1) := by decide +kernel
theorem d_TR_partAt_15 : decode prog_9_method_10_code 15 = .ok (.iload_n 1, 1) := by decide +kernel
theorem d_TR_partAt_16 : decode prog_9_method_10_code 16 = .ok (.iconst 1, 1) := by decide +kernel
theorem d_TR_partAt_17 : decode prog_9_method_10_code 17 = .ok (.iadd, 1) := by decide +kernel
theorem d_TR_partAt_18 : decode prog_9_method_10_code 18 = .ok (.istore_n 3, 1) := by decide +kernel
theorem d_TR_partAt_19 : decode prog_9_method_10_code 19 = .ok (.iconst 0, 1) := by decide +kernel
theorem d_TR_partAt_20 : decode prog_9_method_10_code 20 = .ok (.istore 4, 2) := by decide +kernel
theorem d_TR_partAt_22 : decode prog_9_method_10_code 22 = .ok (.iload 4, 2) := by decide +kernel
theorem d_TR_partAt_24 : decode prog_9_method_10_code 24 = .ok (.iload_n 2, 1) := by decide +kernel
theorem d_TR_partAt_25 : decode prog_9_method_10_code 25 = .ok (.if_icmp .ge 26, 3) := by decide +kernel
theorem d_TR_partAt_28 : decode prog_9_method_10_code 28 = .ok (.aload_n 0, 1) := by decide +kernel
theorem d_TR_partAt_29 : decode prog_9_method_10_code 29 = .ok (.iload_n 3, 1) := by decide +kernel
theorem d_TR_partAt_30 : decode prog_9_method_10_code 30 = .ok (.invokevirtual 51, 3) := by decide +kernel
theorem d_TR_partAt_33 : decode prog_9_method_10_code 33 = .ok (.ifCond .eq 18, 3) := by decide +kernel
theorem d_TR_partAt_36 : decode prog_9_method_10_code 36 = .ok (.iload_n 3, 1) := by decide +kernel
theorem d_TR_partAt_37 : decode prog_9_method_10_code 37 = .ok (.aload_n 0, 1) := by decide +kernel
theorem d_TR_partAt_38 : decode prog_9_method_10_code 38 = .ok (.getfield 25, 3) := by decide +kernel
theorem d_TR_partAt_41 : decode prog_9_method_10_code 41 = .ok (.iload_n 3, 1) := by decide +kernel
theorem d_TR_partAt_42 : decode prog_9_method_10_code 42 = .ok (.iaload, 1) := by decide +kernel
theorem d_TR_partAt_43 : decode prog_9_method_10_code 43 = .ok (.iadd, 1) := by decide +kernel
theorem d_TR_partAt_44 : decode prog_9_method_10_code 44 = .ok (.istore_n 3, 1) := by decide +kernel
theorem d_TR_partAt_45 : decode prog_9_method_10_code 45 = .ok (.iinc 4 1, 3) := by decide +kernel
theorem d_TR_partAt_48 : decode prog_9_method_10_code 48 = .ok (.goto (-26), 3) := by decide +kernel
theorem d_TR_partAt_51 : decode prog_9_method_10_code 51 = .ok (.iload_n 3, 1) := by decide +kernel
theorem d_TR_partAt_52 : decode prog_9_method_10_code 52 = .ok (.ireturn, 1) := by decide +kernel
theorem d_TR_matches_0 : decode prog_9_method_11_code 0 = .ok (.aload_n 0, 1) := by decide +kernel
theorem d_TR_matches_1 : decode prog_9_method_11_code 1 = .ok (.getfield 9, 3) := by decide +kernel
theorem d_TR_matches_4 : decode prog_9_method_11_code 4 = .ok (.aload_n 1, 1) := by decide +kernel
theorem d_TR_matches_5 : decode prog_9_method_11_code 5 = .ok (.getfield 9, 3) := by decide +kernel
theorem d_TR_matches_8 : decode prog_9_method_11_code 8 = .ok (.if_icmp .eq 5, 3) := by decide +kernel
theorem d_TR_matches_11 : decode prog_9_method_11_code 11 = .ok (.iconst 0, 1) := by decide +kernel
theorem d_TR_matches_12 : decode prog_9_method_11_code 12 = .ok (.ireturn, 1) := by decide +kernel
theorem d_TR_matches_13 : decode prog_9_method_11_code 13 = .ok (.iconst 0, 1) := by decide +kernel
theorem d_TR_matches_14 : decode prog_9_method_11_code 14 = .ok (.istore_n 2, 1) := by decide +kernel
theorem d_TR_matches_15 : decode prog_9_method_11_code 15 = .ok (.iload_n 2, 1) := by decide +kernel
theorem d_TR_matches_16 : decode prog_9_method_11_code 16 = .ok (.aload_n 0, 1) := by decide +kernel
theorem d_TR_matches_17 : decode prog_9_method_11_code 17 = .ok (.getfield 9, 3) := by decide +kernel
theorem d_TR_matches_20 : decode prog_9_method_11_code 20 = .ok (.if_icmp .ge 56, 3) := by decide +kernel
theorem d_TR_matches_23 : decode prog_9_method_11_code 23 = .ok (.aload_n 0, 1) := by decide +kernel
theorem d_TR_matches_24 : decode prog_9_method_11_code 24 = .ok (.getfield 15, 3) := by decide +kernel
theorem d_TR_matches_27 : decode prog_9_method_11_code 27 = .ok (.iload_n 2, 1) := by decide +kernel
theorem d_TR_matches_28 : decode prog_9_method_11_code 28 = .ok (.iaload, 1) := by decide +kernel
theorem d_TR_matches_29 : decode prog_9_method_11_code 29 = .ok (.aload_n 1, 1) := by decide +kernel
theorem d_TR_matches_30 : decode prog_9_method_11_code 30 = .ok (.getfield 15, 3) := by decide +kernel
theorem d_TR_matches_33 : decode prog_9_method_11_code 33 = .ok (.iload_n 2, 1) := by decide +kernel
theorem d_TR_matches_34 : decode prog_9_method_11_code 34 = .ok (.iaload, 1) := by decide +kernel
theorem d_TR_matches_35 : decode prog_9_method_11_code 35 = .ok (.if_icmp .ne 33, 3) := by decide +kernel
theorem d_TR_matches_38 : decode prog_9_method_11_code 38 = .ok (.aload_n 0, 1) := by decide +kernel
theorem d_TR_matches_39 : decode prog_9_method_11_code 39 = .ok (.getfield 22, 3) := by decide +kernel
theorem d_TR_matches_42 : decode prog_9_method_11_code 42 = .ok (.iload_n 2, 1) := by decide +kernel
theorem d_TR_matches_43 : decode prog_9_method_11_code 43 = .ok (.iaload, 1) := by decide +kernel
theorem d_TR_matches_44 : decode prog_9_method_11_code 44 = .ok (.aload_n 1, 1) := by decide +kernel
theorem d_TR_matches_45 : decode prog_9_method_11_code 45 = .ok (.getfield 22, 3) := by decide +kernel
theorem d_TR_matches_48 : decode prog_9_method_11_code 48 = .ok (.iload_n 2, 1) := by decide +kernel
theorem d_TR_matches_49 : decode prog_9_method_11_code 49 = .ok (.iaload, 1) := by decide +kernel
theorem d_TR_matches_50 : decode prog_9_method_11_code 50 = .ok (.if_icmp .ne 18, 3) := by decide +kernel
theorem d_TR_matches_53 : decode prog_9_method_11_code 53 = .ok (.aload_n 0, 1) := by decide +kernel
theorem d_TR_matches_54 : decode prog_9_method_11_code 54 = .ok (.getfield 25, 3) := by decide +kernel
theorem d_TR_matches_57 : decode prog_9_method_11_code 57 = .ok (.iload_n 2, 1) := by decide +kernel
theorem d_TR_matches_58 : decode prog_9_method_11_code 58 = .ok (.iaload, 1) := by decide +kernel
theorem d_TR_matches_59 : decode prog_9_method_11_code 59 = .ok (.aload_n 1, 1) := by decide +kernel
theorem d_TR_matches_60 : decode prog_9_method_11_code 60 = .ok (.getfield 25, 3) := by decide +kernel
theorem d_TR_matches_63 : decode prog_9_method_11_code 63 = .ok (.iload_n 2, 1) := by decide +kernel
theorem d_TR_matches_64 : decode prog_9_method_11_code 64 = .ok (.iaload, 1) := by decide +kernel
theorem d_TR_matches_65 : decode prog_9_method_11_code 65 = .ok (.if_icmp .eq 5, 3) := by decide +kernel
theorem d_TR_matches_68 : decode prog_9_method_11_code 68 = .ok (.iconst 0, 1) := by decide +kernel
theorem d_TR_matches_69 : decode prog_9_method_11_code 69 = .ok (.ireturn, 1) := by decide +kernel
theorem d_TR_matches_70 : decode prog_9_method_11_code 70 = .ok (.iinc 2 1, 3) := by decide +kernel
theorem d_TR_matches_73 : decode prog_9_method_11_code 73 = .ok (.goto (-58), 3) := by decide +kernel
theorem d_TR_matches_76 : decode prog_9_method_11_code 76 = .ok (.iconst 1, 1) := by decide +kernel
theorem d_TR_matches_77 : decode prog_9_method_11_code 77 = .ok (.ireturn, 1) := by decide +kernel
theorem d_TR_makeRoom_0 : decode prog_9_method_12_code 0 = .ok (.iload_n 1, 1) := by decide +kernel
theorem d_TR_makeRoom_1 : decode prog_9_method_12_code 1 = .ok (.aload_n 0, 1) := by decide +kernel
theorem d_TR_makeRoom_2 : decode prog_9_method_12_code 2 = .ok (.getfield 15, 3) := by decide +kernel
theorem d_TR_makeRoom_5 : decode prog_9_method_12_code 5 = .ok (.arraylength, 1) := by decide +kernel
theorem d_TR_makeRoom_6 : decode prog_9_method_12_code 6 = .ok (.if_icmp .le 62, 3) := by decide +kernel
theorem d_TR_makeRoom_9 : decode prog_9_method_12_code 9 = .ok (.aload_n 0, 1) := by decide +kernel
theorem d_TR_makeRoom_10 : decode prog_9_method_12_code 10 = .ok (.getfield 15, 3) := by decide +kernel
theorem d_TR_makeRoom_13 : decode prog_9_method_12_code 13 = .ok (.arraylength, 1) := by decide +kernel
theorem d_TR_makeRoom_14 : decode prog_9_method_12_code 14 = .ok (.iload_n 1, 1) := by decide +kernel
theorem d_TR_makeRoom_15 : decode prog_9_method_12_code 15 = .ok (.invokestatic 61, 3) := by decide +kernel
theorem d_TR_makeRoom_18 : decode prog_9_method_12_code 18 = .ok (.istore_n 2, 1) := by decide +kernel
theorem d_TR_makeRoom_19 : decode prog_9_method_12_code 19 = .ok (.aload_n 0, 1) := by decide +kernel
theorem d_TR_makeRoom_20 : decode prog_9_method_12_code 20 = .ok (.iload_n 2, 1) := by decide +kernel
theorem d_TR_makeRoom_21 : decode prog_9_method_12_code 21 = .ok (.newarray .int, 2) := by decide +kernel
theorem d_TR_makeRoom_23 : decode prog_9_method_12_code 23 = .ok (.putfield 15, 3) := by decide +kernel
theorem d_TR_makeRoom_26 : decode prog_9_method_12_code 26 = .ok (.aload_n 0, 1) := by decide +kernel
theorem d_TR_makeRoom_27 : decode prog_9_method_12_code 27 = .ok (.iload_n 2, 1) := by decide +kernel
theorem d_TR_makeRoom_28 : decode prog_9_method_12_code 28 = .ok (.newarray .int, 2) := by decide +kernel
theorem d_TR_makeRoom_30 : decode prog_9_method_12_code 30 = .ok (.putfield 19, 3) := by decide +kernel
theorem d_TR_makeRoom_33 : decode prog_9_method_12_code 33 = .ok (.aload_n 0, 1) := by decide +kernel
theorem d_TR_makeRoom_34 : decode prog_9_method_12_code 34 = .ok (.iload_n 2, 1) := by decide +kernel
theorem d_TR_makeRoom_35 : decode prog_9_method_12_code 35 = .ok (.newarray .int, 2) := by decide +kernel
theorem d_TR_makeRoom_37 : decode prog_9_method_12_code 37 = .ok (.putfield 22, 3) := by decide +kernel
theorem d_TR_makeRoom_40 : decode prog_9_method_12_code 40 = .ok (.aload_n 0, 1) := by decide +kernel
theorem d_TR_makeRoom_41 : decode prog_9_method_12_code 41 = .ok (.iload_n 2, 1) := by decide +kernel
theorem d_TR_makeRoom_42 : decode prog_9_method_12_code 42 = .ok (.newarray .int, 2) := by decide +kernel
theorem d_TR_makeRoom_44 : decode prog_9_method_12_code 44 = .ok (.putfield 25, 3) := by decide +kernel
theorem d_TR_makeRoom_47 : decode prog_9_method_12_code 47 = .ok (.aload_n 0, 1) := by decide +kernel
theorem d_TR_makeRoom_48 : decode prog_9_method_12_code 48 = .ok (.iload_n 2, 1) := by decide +kernel
theorem d_TR_makeRoom_49 : decode prog_9_method_12_code 49 = .ok (.newarray .int, 2) := by decide +kernel
theorem d_TR_makeRoom_51 : decode prog_9_method_12_code 51 = .ok (.putfield 28, 3) := by decide +kernel
theorem d_TR_makeRoom_54 : decode prog_9_method_12_code 54 = .ok (.aload_n 0, 1) := by decide +kernel
theorem d_TR_makeRoom_55 : decode prog_9_method_12_code 55 = .ok (.iload_n 2, 1) := by decide +kernel
theorem d_TR_makeRoom_56 : decode prog_9_method_12_code 56 = .ok (.newarray .int, 2) := by decide +kernel
theorem d_TR_makeRoom_58 : decode prog_9_method_12_code 58 = .ok (.putfield 31, 3) := by decide +kernel
theorem d_TR_makeRoom_61 : decode prog_9_method_12_code 61 = .ok (.aload_n 0, 1) := by decide +kernel
theorem d_TR_makeRoom_62 : decode prog_9_method_12_code 62 = .ok (.iload_n 2, 1) := by decide +kernel
theorem d_TR_makeRoom_63 : decode prog_9_method_12_code 63 = .ok (.newarray .int, 2) := by decide +kernel
theorem d_TR_makeRoom_65 : decode prog_9_method_12_code 65 = .ok (.putfield 34, 3) := by decide +kernel
theorem d_TR_makeRoom_68 : decode prog_9_method_12_code 68 = .ok (.return_, 1) := by decide +kernel
theorem d_TR_placeNodes_0 : decode prog_9_method_13_code 0 = .ok (.iconst (-1), 1) := by decide +kernel
theorem d_TR_placeNodes_1 : decode prog_9_method_13_code 1 = .ok (.istore_n 2, 1) := by decide +kernel
theorem d_TR_placeNodes_2 : decode prog_9_method_13_code 2 = .ok (.iconst 0, 1) := by decide +kernel
theorem d_TR_placeNodes_3 : decode prog_9_method_13_code 3 = .ok (.istore_n 3, 1) := by decide +kernel
theorem d_TR_placeNodes_4 : decode prog_9_method_13_code 4 = .ok (.aload_n 1, 1) := by decide +kernel
theorem d_TR_placeNodes_5 : decode prog_9_method_13_code 5 = .ok (.getfield 37, 3) := by decide +kernel
theorem d_TR_placeNodes_8 : decode prog_9_method_13_code 8 = .ok (.iconst 1, 1) := by decide +kernel
theorem d_TR_placeNodes_9 : decode prog_9_method_13_code 9 = .ok (.isub, 1) := by decide +kernel
theorem d_TR_placeNodes_10 : decode prog_9_method_13_code 10 = .ok (.istore 4, 2) := by decide +kernel
theorem d_TR_placeNodes_12 : decode prog_9_method_13_code 12 = .ok (.iload 4, 2) := by decide +kernel
theorem d_TR_placeNodes_14 : decode prog_9_method_13_code 14 = .ok (.ifCond .lt 65, 3) := by decide +kernel
theorem d_TR_placeNodes_17 : decode prog_9_method_13_code 17 = .ok (.iload_n 3, 1) := by decide +kernel
theorem d_TR_placeNodes_18 : decode prog_9_method_13_code 18 = .ok (.ifCond .le 23, 3) := by decide +kernel
theorem d_TR_placeNodes_21 : decode prog_9_method_13_code 21 = .ok (.iload 4, 2) := by decide +kernel
theorem d_TR_placeNodes_23 : decode prog_9_method_13_code 23 = .ok (.iload_n 2, 1) := by decide +kernel
theorem d_TR_placeNodes_24 : decode prog_9_method_13_code 24 = .ok (.iload_n 3, 1) := by decide +kernel
theorem d_TR_placeNodes_25 : decode prog_9_method_13_code 25 = .ok (.isub, 1) := by decide +kernel
theorem d_TR_placeNodes_26 : decode prog_9_method_13_code 26 = .ok (.if_icmp .gt 15, 3) := by decide +kernel
theorem d_TR_placeNodes_29 : decode prog_9_method_13_code 29 = .ok (.aload_n 0, 1) := by decide +kernel
theorem d_TR_placeNodes_30 : decode prog_9_method_13_code 30 = .ok (.iload_n 2, 1) := by decide +kernel
theorem d_TR_placeNodes_31 : decode prog_9_method_13_code 31 = .ok (.invokevirtual 65, 3) := by decide +kernel
theorem d_TR_placeNodes_34 : decode prog_9_method_13_code 34 = .ok (.istore_n 2, 1) := by decide +kernel
theorem d_TR_placeNodes_35 : decode prog_9_method_13_code 35 = .ok (.iinc 3 (-1), 3) := by decide +kernel
theorem d_TR_placeNodes_38 : decode prog_9_method_13_code 38 = .ok (.goto (-21), 3) := by decide +kernel
theorem d_TR_placeNodes_41 : decode prog_9_method_13_code 41 = .ok (.iload 4, 2) := by decide +kernel
theorem d_TR_placeNodes_43 : decode prog_9_method_13_code 43 = .ok (.aload_n 1, 1) := by decide +kernel
theorem d_TR_placeNodes_44 : decode prog_9_method_13_code 44 = .ok (.getfield 68, 3) := by decide +kernel
theorem d_TR_placeNodes_47 : decode prog_9_method_13_code 47 = .ok (.iload 4, 2) := by decide +kernel
theorem d_TR_placeNodes_49 : decode prog_9_method_13_code 49 = .ok (.iaload, 1) := by decide +kernel
theorem d_TR_placeNodes_50 : decode prog_9_method_13_code 50 = .ok (.isub, 1) := by decide +kernel
theorem d_TR_placeNodes_51 : decode prog_9_method_13_code 51 = .ok (.iconst 1, 1) := by decide +kernel
theorem d_TR_placeNodes_52 : decode prog_9_method_13_code 52 = .ok (.iadd, 1) := by decide +kernel
theorem d_TR_placeNodes_53 : decode prog_9_method_13_code 53 = .ok (.iload_n 3, 1) := by decide +kernel
theorem d_TR_placeNodes_54 : decode prog_9_method_13_code 54 = .ok (.iadd, 1) := by decide +kernel
theorem d_TR_placeNodes_55 : decode prog_9_method_13_code 55 = .ok (.istore 5, 2) := by decide +kernel
theorem d_TR_placeNodes_57 : decode prog_9_method_13_code 57 = .ok (.aload_n 0, 1) := by decide +kernel
theorem d_TR_placeNodes_58 : decode prog_9_method_13_code 58 = .ok (.iload 5, 2) := by decide +kernel
theorem d_TR_placeNodes_60 : decode prog_9_method_13_code 60 = .ok (.aload_n 1, 1) := by decide +kernel
theorem d_TR_placeNodes_61 : decode prog_9_method_13_code 61 = .ok (.iload 4, 2) := by decide +kernel
theorem d_TR_placeNodes_63 : decode prog_9_method_13_code 63 = .ok (.iload_n 2, 1) := by decide +kernel
theorem d_TR_placeNodes_64 : decode prog_9_method_13_code 64 = .ok (.invokevirtual 69, 3) := by decide +kernel
theorem d_TR_placeNodes_67 : decode prog_9_method_13_code 67 = .ok (.iload 5, 2) := by decide +kernel
theorem d_TR_placeNodes_69 : decode prog_9_method_13_code 69 = .ok (.istore_n 2, 1) := by decide +kernel
theorem d_TR_placeNodes_70 : decode prog_9_method_13_code 70 = .ok (.iinc 3 1, 3) := by decide +kernel
theorem d_TR_placeNodes_73 : decode prog_9_method_13_code 73 = .ok (.iinc 4 (-1), 3) := by decide +kernel
theorem d_TR_placeNodes_76 : decode prog_9_method_13_code 76 = .ok (.goto (-64), 3) := by decide +kernel
theorem d_TR_placeNodes_79 : decode prog_9_method_13_code 79 = .ok (.return_, 1) := by decide +kernel
theorem d_TR_placeNode_0 : decode prog_9_method_14_code 0 = .ok (.aload_n 0, 1) := by decide +kernel
theorem d_TR_placeNode_1 : decode prog_9_method_14_code 1 = .ok (.iload_n 1, 1) := by decide +kernel
theorem d_TR_placeNode_2 : decode prog_9_method_14_code 2 = .ok (.invokevirtual 51, 3) := by decide +kernel
theorem d_TR_placeNode_5 : decode prog_9_method_14_code 5 = .ok (.ifCond .eq 59, 3) := by decide +kernel
theorem d_TR_placeNode_8 : decode prog_9_method_14_code 8 = .ok (.aload_n 0, 1) := by decide +kernel
theorem d_TR_placeNode_9 : decode prog_9_method_14_code 9 = .ok (.getfield 15, 3) := by decide +kernel
theorem d_TR_placeNode_12 : decode prog_9_method_14_code 12 = .ok (.iload_n 1, 1) := by decide +kernel
theorem d_TR_placeNode_13 : decode prog_9_method_14_code 13 = .ok (.aload_n 2, 1) := by decide +kernel
theorem d_TR_placeNode_14 : decode prog_9_method_14_code 14 = .ok (.getfield 73, 3) := by decide +kernel
theorem d_TR_placeNode_17 : decode prog_9_method_14_code 17 = .ok (.iload_n 3, 1) := by decide +kernel
theorem d_TR_placeNode_18 : decode prog_9_method_14_code 18 = .ok (.iaload, 1) := by decide +kernel
theorem d_TR_placeNode_19 : decode prog_9_method_14_code 19 = .ok (.iastore, 1) := by decide +kernel
theorem d_TR_placeNode_20 : decode prog_9_method_14_code 20 = .ok (.aload_n 0, 1) := by decide +kernel
theorem d_TR_placeNode_21 : decode prog_9_method_14_code 21 = .ok (.getfield 19, 3) := by decide +kernel
theorem d_TR_placeNode_24 : decode prog_9_method_14_code 24 = .ok (.iload_n 1, 1) := by decide +kernel
theorem d_TR_placeNode_25 : decode prog_9_method_14_code 25 = .ok (.aload_n 2, 1) := by decide +kernel
theorem d_TR_placeNode_26 : decode prog_9_method_14_code 26 = .ok (.getfield 74, 3) := by decide +kernel
theorem d_TR_placeNode_29 : decode prog_9_method_14_code 29 = .ok (.iload_n 3, 1) := by decide +kernel
theorem d_TR_placeNode_30 : decode prog_9_method_14_code 30 = .ok (.iaload, 1) := by decide +kernel
theorem d_TR_placeNode_31 : decode prog_9_method_14_code 31 = .ok (.iastore, 1) := by decide +kernel
theorem d_TR_placeNode_32 : decode prog_9_method_14_code 32 = .ok (.aload_n 0, 1) := by decide +kernel
theorem d_TR_placeNode_33 : decode prog_9_method_14_code 33 = .ok (.getfield 22, 3) := by decide +kernel
theorem d_TR_placeNode_36 : decode prog_9_method_14_code 36 = .ok (.iload_n 1, 1) := by decide +kernel
theorem d_TR_placeNode_37 : decode prog_9_method_14_code 37 = .ok (.aload_n 2, 1) := by decide +kernel
theorem d_TR_placeNode_38 : decode prog_9_method_14_code 38 = .ok (.getfield 75, 3) := by decide +kernel
theorem d_TR_placeNode_41 : decode prog_9_method_14_code 41 = .ok (.iload_n 3, 1) := by decide +kernel
theorem d_TR_placeNode_42 : decode prog_9_method_14_code 42 = .ok (.iaload, 1) := by decide +kernel
theorem d_TR_placeNode_43 : decode prog_9_method_14_code 43 = .ok (.iastore, 1) := by decide +kernel
theorem d_TR_placeNode_44 : decode prog_9_method_14_code 44 = .ok (.aload_n 0, 1) := by decide +kernel
theorem d_TR_placeNode_45 : decode prog_9_method_14_code 45 = .ok (.getfield 25, 3) := by decide +kernel
theorem d_TR_placeNode_48 : decode prog_9_method_14_code 48 = .ok (.iload_n 1, 1) := by decide +kernel
theorem d_TR_placeNode_49 : decode prog_9_method_14_code 49 = .ok (.aload_n 2, 1) := by decide +kernel
theorem d_TR_placeNode_50 : decode prog_9_method_14_code 50 = .ok (.getfield 68, 3) := by decide +kernel
theorem d_TR_placeNode_53 : decode prog_9_method_14_code 53 = .ok (.iload_n 3, 1) := by decide +kernel
theorem d_TR_placeNode_54 : decode prog_9_method_14_code 54 = .ok (.iaload, 1) := by decide +kernel
theorem d_TR_placeNode_55 : decode prog_9_method_14_code 55 = .ok (.iastore, 1) := by decide +kernel
theorem d_TR_placeNode_56 : decode prog_9_method_14_code 56 = .ok (.aload_n 0, 1) := by decide +kernel
theorem d_TR_placeNode_57 : decode prog_9_method_14_code 57 = .ok (.getfield 31, 3) := by decide +kernel
theorem d_TR_placeNode_60 : decode prog_9_method_14_code 60 = .ok (.iload_n 1, 1) := by decide +kernel
theorem d_TR_placeNode_61 : decode prog_9_method_14_code 61 = .ok (.iload 4, 2) := by decide +kernel
theorem d_TR_placeNode_63 : decode prog_9_method_14_code 63 = .ok (.iastore, 1) := by decide +kernel
theorem d_TR_placeNode_64 : decode prog_9_method_14_code 64 = .ok (.return_, 1) := by decide +kernel
theorem d_TR_countParts_0 : decode prog_9_method_15_code 0 = .ok (.iconst 0, 1) := by decide +kernel
theorem d_TR_countParts_1 : decode prog_9_method_15_code 1 = .ok (.istore_n 1, 1) := by decide +kernel
theorem d_TR_countParts_2 : decode prog_9_method_15_code 2 = .ok (.iload_n 1, 1) := by decide +kernel
theorem d_TR_countParts_3 : decode prog_9_method_15_code 3 = .ok (.aload_n 0, 1) := by decide +kernel
theorem d_TR_countParts_4 : decode prog_9_method_15_code 4 = .ok (.getfield 9, 3) := by decide +kernel
theorem d_TR_countParts_7 : decode prog_9_method_15_code 7 = .ok (.if_icmp .ge 60, 3) := by decide +kernel
theorem d_TR_countParts_10 : decode prog_9_method_15_code 10 = .ok (.aload_n 0, 1) := by decide +kernel
theorem d_TR_countParts_11 : decode prog_9_method_15_code 11 = .ok (.getfield 28, 3) := by decide +kernel
theorem d_TR_countParts_14 : decode prog_9_method_15_code 14 = .ok (.iload_n 1, 1) := by decide +kernel
theorem d_TR_countParts_15 : decode prog_9_method_15_code 15 = .ok (.iconst 0, 1) := by decide +kernel
theorem d_TR_countParts_16 : decode prog_9_method_15_code 16 = .ok (.iastore, 1) := by decide +kernel
theorem d_TR_countParts_17 : decode prog_9_method_15_code 17 = .ok (.aload_n 0, 1) := by decide +kernel
theorem d_TR_countParts_18 : decode prog_9_method_15_code 18 = .ok (.getfield 34, 3) := by decide +kernel
theorem d_TR_countParts_21 : decode prog_9_method_15_code 21 = .ok (.iload_n 1, 1) := by decide +kernel
theorem d_TR_countParts_22 : decode prog_9_method_15_code 22 = .ok (.iconst 0, 1) := by decide +kernel
theorem d_TR_countParts_23 : decode prog_9_method_15_code 23 = .ok (.iastore, 1) := by decide +kernel
theorem d_TR_countParts_24 : decode prog_9_method_15_code 24 = .ok (.aload_n 0, 1) := by decide +kernel
theorem d_TR_countParts_25 : decode prog_9_method_15_code 25 = .ok (.getfield 31, 3) := by decide +kernel
theorem d_TR_countParts_28 : decode prog_9_method_15_code 28 = .ok (.iload_n 1, 1) := by decide +kernel
theorem d_TR_countParts_29 : decode prog_9_method_15_code 29 = .ok (.iaload, 1) := by decide +kernel
theorem d_TR_countParts_30 : decode prog_9_method_15_code 30 = .ok (.istore_n 2, 1) := by decide +kernel
theorem d_TR_countParts_31 : decode prog_9_method_15_code 31 = .ok (.aload_n 0, 1) := by decide +kernel
theorem d_TR_countParts_32 : decode prog_9_method_15_code 32 = .ok (.iload_n 2, 1) := by decide +kernel
theorem d_TR_countParts_33 : decode prog_9_method_15_code 33 = .ok (.invokevirtual 51, 3) := by decide +kernel
theorem d_TR_countParts_36 : decode prog_9_method_15_code 36 = .ok (.ifCond .eq 25, 3) := by decide +kernel
theorem d_TR_countParts_39 : decode prog_9_method_15_code 39 = .ok (.aload_n 0, 1) := by decide +kernel
theorem d_TR_countParts_40 : decode prog_9_method_15_code 40 = .ok (.getfield 34, 3) := by decide +kernel
theorem d_TR_countParts_43 : decode prog_9_method_15_code 43 = .ok (.iload_n 1, 1) := by decide +kernel
theorem d_TR_countParts_44 : decode prog_9_method_15_code 44 = .ok (.aload_n 0, 1) := by decide +kernel
theorem d_TR_countParts_45 : decode prog_9_method_15_code 45 = .ok (.getfield 28, 3) := by decide +kernel
theorem d_TR_countParts_48 : decode prog_9_method_15_code 48 = .ok (.iload_n 2, 1) := by decide +kernel
theorem d_TR_countParts_49 : decode prog_9_method_15_code 49 = .ok (.iaload, 1) := by decide +kernel
theorem d_TR_countParts_50 : decode prog_9_method_15_code 50 = .ok (.iastore, 1) := by decide +kernel
theorem d_TR_countParts_51 : decode prog_9_method_15_code 51 = .ok (.aload_n 0, 1) := by decide +kernel
theorem d_TR_countParts_52 : decode prog_9_method_15_code 52 = .ok (.getfield 28, 3) := by decide +kernel
theorem d_TR_countParts_55 : decode prog_9_method_15_code 55 = .ok (.iload_n 2, 1) := by decide +kernel
theorem d_TR_countParts_56 : decode prog_9_method_15_code 56 = .ok (.dup2, 1) := by decide +kernel
theorem d_TR_countParts_57 : decode prog_9_method_15_code 57 = .ok (.iaload, 1) := by decide +kernel
theorem d_TR_countParts_58 : decode prog_9_method_15_code 58 = .ok (.iconst 1, 1) := by decide +kernel
theorem d_TR_countParts_59 : decode prog_9_method_15_code 59 = .ok (.iadd, 1) := by decide +kernel
theorem d_TR_countParts_60 : decode prog_9_method_15_code 60 = .ok (.iastore, 1) := by decide +kernel
theorem d_TR_countParts_61 : decode prog_9_method_15_code 61 = .ok (.iinc 1 1, 3) := by decide +kernel
theorem d_TR_countParts_64 : decode prog_9_method_15_code 64 = .ok (.goto (-62), 3) := by decide +kernel
theorem d_TR_countParts_67 : decode prog_9_method_15_code 67 = .ok (.return_, 1) := by decide +kernel
