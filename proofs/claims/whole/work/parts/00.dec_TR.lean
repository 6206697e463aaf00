theorem d_TR_init_0 : decode prog_9_method_1_code 0 = .ok (.aload_n 0, 1) := by decide +kernel
theorem d_TR_init_1 : decode prog_9_method_1_code 1 = .ok (.invokespecial 3, 3) := by decide +kernel
theorem d_TR_init_4 : decode prog_9_method_1_code 4 = .ok (.aload_n 0, 1) := by decide +kernel
theorem d_TR_init_5 : decode prog_9_method_1_code 5 = .ok (.iconst 1, 1) := by decide +kernel
theorem d_TR_init_6 : decode prog_9_method_1_code 6 = .ok (.putfield 9, 3) := by decide +kernel
theorem d_TR_init_9 : decode prog_9_method_1_code 9 = .ok (.aload_n 0, 1) := by decide +kernel
theorem d_TR_init_10 : decode prog_9_method_1_code 10 = .ok (.iconst 1, 1) := by decide +kernel
theorem d_TR_init_11 : decode prog_9_method_1_code 11 = .ok (.newarray .int, 2) := by decide +kernel
theorem d_TR_init_13 : decode prog_9_method_1_code 13 = .ok (.putfield 15, 3) := by decide +kernel
theorem d_TR_init_16 : decode prog_9_method_1_code 16 = .ok (.aload_n 0, 1) := by decide +kernel
theorem d_TR_init_17 : decode prog_9_method_1_code 17 = .ok (.iconst 1, 1) := by decide +kernel
theorem d_TR_init_18 : decode prog_9_method_1_code 18 = .ok (.newarray .int, 2) := by decide +kernel
theorem d_TR_init_20 : decode prog_9_method_1_code 20 = .ok (.dup, 1) := by decide +kernel
theorem d_TR_init_21 : decode prog_9_method_1_code 21 = .ok (.iconst 0, 1) := by decide +kernel
theorem d_TR_init_22 : decode prog_9_method_1_code 22 = .ok (.iconst (-1), 1) := by decide +kernel
theorem d_TR_init_23 : decode prog_9_method_1_code 23 = .ok (.iastore, 1) := by decide +kernel
theorem d_TR_init_24 : decode prog_9_method_1_code 24 = .ok (.putfield 19, 3) := by decide +kernel
theorem d_TR_init_27 : decode prog_9_method_1_code 27 = .ok (.aload_n 0, 1) := by decide +kernel
theorem d_TR_init_28 : decode prog_9_method_1_code 28 = .ok (.iconst 1, 1) := by decide +kernel
theorem d_TR_init_29 : decode prog_9_method_1_code 29 = .ok (.newarray .int, 2) := by decide +kernel
theorem d_TR_init_31 : decode prog_9_method_1_code 31 = .ok (.putfield 22, 3) := by decide +kernel
theorem d_TR_init_34 : decode prog_9_method_1_code 34 = .ok (.aload_n 0, 1) := by decide +kernel
theorem d_TR_init_35 : decode prog_9_method_1_code 35 = .ok (.iconst 1, 1) := by decide +kernel
theorem d_TR_init_36 : decode prog_9_method_1_code 36 = .ok (.newarray .int, 2) := by decide +kernel
theorem d_TR_init_38 : decode prog_9_method_1_code 38 = .ok (.dup, 1) := by decide +kernel
theorem d_TR_init_39 : decode prog_9_method_1_code 39 = .ok (.iconst 0, 1) := by decide +kernel
theorem d_TR_init_40 : decode prog_9_method_1_code 40 = .ok (.iconst 1, 1) := by decide +kernel
theorem d_TR_init_41 : decode prog_9_method_1_code 41 = .ok (.iastore, 1) := by decide +kernel
theorem d_TR_init_42 : decode prog_9_method_1_code 42 = .ok (.putfield 25, 3) := by decide +kernel
theorem d_TR_init_45 : decode prog_9_method_1_code 45 = .ok (.aload_n 0, 1) := by decide +kernel
theorem d_TR_init_46 : decode prog_9_method_1_code 46 = .ok (.iconst 1, 1) := by decide +kernel
theorem d_TR_init_47 : decode prog_9_method_1_code 47 = .ok (.newarray .int, 2) := by decide +kernel
theorem d_TR_init_49 : decode prog_9_method_1_code 49 = .ok (.putfield 28, 3) := by decide +kernel
theorem d_TR_init_52 : decode prog_9_method_1_code 52 = .ok (.aload_n 0, 1) := by decide +kernel
theorem d_TR_init_53 : decode prog_9_method_1_code 53 = .ok (.iconst 1, 1) := by decide +kernel
theorem d_TR_init_54 : decode prog_9_method_1_code 54 = .ok (.newarray .int, 2) := by decide +kernel
theorem d_TR_init_56 : decode prog_9_method_1_code 56 = .ok (.dup, 1) := by decide +kernel
theorem d_TR_init_57 : decode prog_9_method_1_code 57 = .ok (.iconst 0, 1) := by decide +kernel
theorem d_TR_init_58 : decode prog_9_method_1_code 58 = .ok (.iconst (-1), 1) := by decide +kernel
theorem d_TR_init_59 : decode prog_9_method_1_code 59 = .ok (.iastore, 1) := by decide +kernel
theorem d_TR_init_60 : decode prog_9_method_1_code 60 = .ok (.putfield 31, 3) := by decide +kernel
theorem d_TR_init_63 : decode prog_9_method_1_code 63 = .ok (.aload_n 0, 1) := by decide +kernel
theorem d_TR_init_64 : decode prog_9_method_1_code 64 = .ok (.iconst 1, 1) := by decide +kernel
theorem d_TR_init_65 : decode prog_9_method_1_code 65 = .ok (.newarray .int, 2) := by decide +kernel
theorem d_TR_init_67 : decode prog_9_method_1_code 67 = .ok (.putfield 34, 3) := by decide +kernel
theorem d_TR_init_70 : decode prog_9_method_1_code 70 = .ok (.return_, 1) := by decide +kernel
theorem d_TR_has_0 : decode prog_9_method_2_code 0 = .ok (.iload_n 1, 1) := by decide +kernel
theorem d_TR_has_1 : decode prog_9_method_2_code 1 = .ok (.ifCond .lt 15, 3) := by decide +kernel
theorem d_TR_has_4 : decode prog_9_method_2_code 4 = .ok (.iload_n 1, 1) := by decide +kernel
theorem d_TR_has_5 : decode prog_9_method_2_code 5 = .ok (.aload_n 0, 1) := by decide +kernel
theorem d_TR_has_6 : decode prog_9_method_2_code 6 = .ok (.getfield 9, 3) := by decide +kernel
theorem d_TR_has_9 : decode prog_9_method_2_code 9 = .ok (.if_icmp .ge 7, 3) := by decide +kernel
theorem d_TR_has_12 : decode prog_9_method_2_code 12 = .ok (.iconst 1, 1) := by decide +kernel
theorem d_TR_has_13 : decode prog_9_method_2_code 13 = .ok (.goto 4, 3) := by decide +kernel
theorem d_TR_has_16 : decode prog_9_method_2_code 16 = .ok (.iconst 0, 1) := by decide +kernel
theorem d_TR_has_17 : decode prog_9_method_2_code 17 = .ok (.ireturn, 1) := by decide +kernel
theorem d_TR_lay_0 : decode prog_9_method_3_code 0 = .ok (.aload_n 0, 1) := by decide +kernel
theorem d_TR_lay_1 : decode prog_9_method_3_code 1 = .ok (.aload_n 1, 1) := by decide +kernel
theorem d_TR_lay_2 : decode prog_9_method_3_code 2 = .ok (.getfield 37, 3) := by decide +kernel
theorem d_TR_lay_5 : decode prog_9_method_3_code 5 = .ok (.invokevirtual 40, 3) := by decide +kernel
theorem d_TR_lay_8 : decode prog_9_method_3_code 8 = .ok (.aload_n 0, 1) := by decide +kernel
theorem d_TR_lay_9 : decode prog_9_method_3_code 9 = .ok (.aload_n 1, 1) := by decide +kernel
theorem d_TR_lay_10 : decode prog_9_method_3_code 10 = .ok (.getfield 37, 3) := by decide +kernel
theorem d_TR_lay_13 : decode prog_9_method_3_code 13 = .ok (.putfield 9, 3) := by decide +kernel
theorem d_TR_lay_16 : decode prog_9_method_3_code 16 = .ok (.aload_n 0, 1) := by decide +kernel
theorem d_TR_lay_17 : decode prog_9_method_3_code 17 = .ok (.aload_n 1, 1) := by decide +kernel
theorem d_TR_lay_18 : decode prog_9_method_3_code 18 = .ok (.invokevirtual 44, 3) := by decide +kernel
theorem d_TR_lay_21 : decode prog_9_method_3_code 21 = .ok (.aload_n 0, 1) := by decide +kernel
theorem d_TR_lay_22 : decode prog_9_method_3_code 22 = .ok (.invokevirtual 48, 3) := by decide +kernel
theorem d_TR_lay_25 : decode prog_9_method_3_code 25 = .ok (.return_, 1) := by decide +kernel
theorem d_TR_about_0 : decode prog_9_method_4_code 0 = .ok (.iload_n 2, 1) := by decide +kernel
theorem d_TR_about_1 : decode prog_9_method_4_code 1 = .ok (.tableswitch 70 0 4 #[35, 42, 49, 56, 63], 35) := by decide +kernel
theorem d_TR_about_36 : decode prog_9_method_4_code 36 = .ok (.aload_n 0, 1) := by decide +kernel
theorem d_TR_about_37 : decode prog_9_method_4_code 37 = .ok (.getfield 15, 3) := by decide +kernel
theorem d_TR_about_40 : decode prog_9_method_4_code 40 = .ok (.iload_n 1, 1) := by decide +kernel
theorem d_TR_about_41 : decode prog_9_method_4_code 41 = .ok (.iaload, 1) := by decide +kernel
theorem d_TR_about_42 : decode prog_9_method_4_code 42 = .ok (.ireturn, 1) := by decide +kernel
theorem d_TR_about_43 : decode prog_9_method_4_code 43 = .ok (.aload_n 0, 1) := by decide +kernel
theorem d_TR_about_44 : decode prog_9_method_4_code 44 = .ok (.getfield 19, 3) := by decide +kernel
theorem d_TR_about_47 : decode prog_9_method_4_code 47 = .ok (.iload_n 1, 1) := by decide +kernel
theorem d_TR_about_48 : decode prog_9_method_4_code 48 = .ok (.iaload, 1) := by decide +kernel
theorem d_TR_about_49 : decode prog_9_method_4_code 49 = .ok (.ireturn, 1) := by decide +kernel
theorem d_TR_about_50 : decode prog_9_method_4_code 50 = .ok (.aload_n 0, 1) := by decide +kernel
theorem d_TR_about_51 : decode prog_9_method_4_code 51 = .ok (.getfield 22, 3) := by decide +kernel
theorem d_TR_about_54 : decode prog_9_method_4_code 54 = .ok (.iload_n 1, 1) := by decide +kernel
theorem d_TR_about_55 : decode prog_9_method_4_code 55 = .ok (.iaload, 1) := by decide +kernel
theorem d_TR_about_56 : decode prog_9_method_4_code 56 = .ok (.ireturn, 1) := by decide +kernel
theorem d_TR_about_57 : decode prog_9_method_4_code 57 = .ok (.aload_n 0, 1) := by decide +kernel
theorem d_TR_about_58 : decode prog_9_method_4_code 58 = .ok (.getfield 25, 3) := by decide +kernel
theorem d_TR_about_61 : decode prog_9_method_4_code 61 = .ok (.iload_n 1, 1) := by decide +kernel
theorem d_TR_about_62 : decode prog_9_method_4_code 62 = .ok (.iaload, 1) := by decide +kernel
theorem d_TR_about_63 : decode prog_9_method_4_code 63 = .ok (.ireturn, 1) := by decide +kernel
theorem d_TR_about_64 : decode prog_9_method_4_code 64 = .ok (.aload_n 0, 1) := by decide +kernel
theorem d_TR_about_65 : decode prog_9_method_4_code 65 = .ok (.getfield 28, 3) := by decide +kernel
theorem d_TR_about_68 : decode prog_9_method_4_code 68 = .ok (.iload_n 1, 1) := by decide +kernel
theorem d_TR_about_69 : decode prog_9_method_4_code 69 = .ok (.iaload, 1) := by decide +kernel
theorem d_TR_about_70 : decode prog_9_method_4_code 70 = .ok (.ireturn, 1) := by decide +kernel
theorem d_TR_about_71 : decode prog_9_method_4_code 71 = .ok (.bipush (-2), 2) := by decide +kernel
theorem d_TR_about_73 : decode prog_9_method_4_code 73 = .ok (.ireturn, 1) := by decide +kernel
theorem d_TR_partAt_0 : decode prog_9_method_5_code 0 = .ok (.iload_n 2, 1) := by decide +kernel
theorem d_TR_partAt_1 : decode prog_9_method_5_code 1 = .ok (.ifCond .lt 13, 3) := by decide +kernel
theorem d_TR_partAt_4 : decode prog_9_method_5_code 4 = .ok (.iload_n 2, 1) := by decide +kernel
theorem d_TR_partAt_5 : decode prog_9_method_5_code 5 = .ok (.aload_n 0, 1) := by decide +kernel
theorem d_TR_partAt_6 : decode prog_9_method_5_code 6 = .ok (.getfield 28, 3) := by decide +kernel
theorem d_TR_partAt_9 : decode prog_9_method_5_code 9 = .ok (.iload_n 1, 1) := by decide +kernel
theorem d_TR_partAt_10 : decode prog_9_method_5_code 10 = .ok (.iaload, 1) := by decide +kernel
theorem d_TR_partAt_11 : decode prog_9_method_5_code 11 = .ok (.if_icmp .lt 5, 3) := by decide +kernel
theorem d_TR_partAt_14 : decode prog_9_method_5_code 14 = .ok (.iconst (-1), 1) := by decide +kernel
theorem d_TR_partAt_15 : decode prog_9_method_5_code 15 = .ok (.ireturn, 1) := by decide +kernel
theorem d_TR_partAt_16 : decode prog_9_method_5_code 16 = .ok (.iload_n 1, 1) := by decide +kernel
theorem d_TR_partAt_17 : decode prog_9_method_5_code 17 = .ok (.iconst 1, 1) := by decide +kernel
theorem d_TR_partAt_18 : decode prog_9_method_5_code 18 = .ok (.iadd, 1) := by decide +kernel
theorem d_TR_partAt_19 : decode prog_9_method_5_code 19 = .ok (.istore_n 3, 1) := by decide +kernel
theorem d_TR_partAt_20 : decode prog_9_method_5_code 20 = .ok (.iconst 0, 1) := by decide +kernel
theorem d_TR_partAt_21 : decode prog_9_method_5_code 21 = .ok (.istore 4, 2) := by decide +kernel
theorem d_TR_partAt_23 : decode prog_9_method_5_code 23 = .ok (.iload 4, 2) := by decide +kernel
theorem d_TR_partAt_25 : decode prog_9_method_5_code 25 = .ok (.iload_n 2, 1) := by decide +kernel
theorem d_TR_partAt_26 : decode prog_9_method_5_code 26 = .ok (.if_icmp .ge 18, 3) := by decide +kernel
theorem d_TR_partAt_29 : decode prog_9_method_5_code 29 = .ok (.iload_n 3, 1) := by decide +kernel
theorem d_TR_partAt_30 : decode prog_9_method_5_code 30 = .ok (.aload_n 0, 1) := by decide +kernel
theorem d_TR_partAt_31 : decode prog_9_method_5_code 31 = .ok (.getfield 25, 3) := by decide +kernel
theorem d_TR_partAt_34 : decode prog_9_method_5_code 34 = .ok (.iload_n 3, 1) := by decide +kernel
theorem d_TR_partAt_35 : decode prog_9_method_5_code 35 = .ok (.iaload, 1) := by decide +kernel
theorem d_TR_partAt_36 : decode prog_9_method_5_code 36 = .ok (.iadd, 1) := by decide +kernel
theorem d_TR_partAt_37 : decode prog_9_method_5_code 37 = .ok (.istore_n 3, 1) := by decide +kernel
theorem d_TR_partAt_38 : decode prog_9_method_5_code 38 = .ok (.iinc 4 1, 3) := by decide +kernel
theorem d_TR_partAt_41 : decode prog_9_method_5_code 41 = .ok (.goto (-18), 3) := by decide +kernel
theorem d_TR_partAt_44 : decode prog_9_method_5_code 44 = .ok (.iload_n 3, 1) := by decide +kernel
theorem d_TR_partAt_45 : decode prog_9_method_5_code 45 = .ok (.ireturn, 1) := by decide +kernel
theorem d_TR_matches_0 : decode prog_9_method_6_code 0 = .ok (.aload_n 0, 1) := by decide +kernel
theorem d_TR_matches_1 : decode prog_9_method_6_code 1 = .ok (.getfield 9, 3) := by decide +kernel
theorem d_TR_matches_4 : decode prog_9_method_6_code 4 = .ok (.aload_n 1, 1) := by decide +kernel
theorem d_TR_matches_5 : decode prog_9_method_6_code 5 = .ok (.getfield 9, 3) := by decide +kernel
theorem d_TR_matches_8 : decode prog_9_method_6_code 8 = .ok (.if_icmp .eq 5, 3) := by decide +kernel
theorem d_TR_matches_11 : decode prog_9_method_6_code 11 = .ok (.iconst 0, 1) := by decide +kernel
theorem d_TR_matches_12 : decode prog_9_method_6_code 12 = .ok (.ireturn, 1) := by decide +kernel
theorem d_TR_matches_13 : decode prog_9_method_6_code 13 = .ok (.iconst 0, 1) := by decide +kernel
theorem d_TR_matches_14 : decode prog_9_method_6_code 14 = .ok (.istore_n 2, 1) := by decide +kernel
theorem d_TR_matches_15 : decode prog_9_method_6_code 15 = .ok (.iload_n 2, 1) := by decide +kernel
theorem d_TR_matches_16 : decode prog_9_method_6_code 16 = .ok (.aload_n 0, 1) := by decide +kernel
theorem d_TR_matches_17 : decode prog_9_method_6_code 17 = .ok (.getfield 9, 3) := by decide +kernel
theorem d_TR_matches_20 : decode prog_9_method_6_code 20 = .ok (.if_icmp .ge 56, 3) := by decide +kernel
theorem d_TR_matches_23 : decode prog_9_method_6_code 23 = .ok (.aload_n 0, 1) := by decide +kernel
theorem d_TR_matches_24 : decode prog_9_method_6_code 24 = .ok (.getfield 15, 3) := by decide +kernel
theorem d_TR_matches_27 : decode prog_9_method_6_code 27 = .ok (.iload_n 2, 1) := by decide +kernel
theorem d_TR_matches_28 : decode prog_9_method_6_code 28 = .ok (.iaload, 1) := by decide +kernel
theorem d_TR_matches_29 : decode prog_9_method_6_code 29 = .ok (.aload_n 1, 1) := by decide +kernel
theorem d_TR_matches_30 : decode prog_9_method_6_code 30 = .ok (.getfield 15, 3) := by decide +kernel
theorem d_TR_matches_33 : decode prog_9_method_6_code 33 = .ok (.iload_n 2, 1) := by decide +kernel
theorem d_TR_matches_34 : decode prog_9_method_6_code 34 = .ok (.iaload, 1) := by decide +kernel
theorem d_TR_matches_35 : decode prog_9_method_6_code 35 = .ok (.if_icmp .ne 33, 3) := by decide +kernel
theorem d_TR_matches_38 : decode prog_9_method_6_code 38 = .ok (.aload_n 0, 1) := by decide +kernel
theorem d_TR_matches_39 : decode prog_9_method_6_code 39 = .ok (.getfield 22, 3) := by decide +kernel
theorem d_TR_matches_42 : decode prog_9_method_6_code 42 = .ok (.iload_n 2, 1) := by decide +kernel
theorem d_TR_matches_43 : decode prog_9_method_6_code 43 = .ok (.iaload, 1) := by decide +kernel
theorem d_TR_matches_44 : decode prog_9_method_6_code 44 = .ok (.aload_n 1, 1) := by decide +kernel
theorem d_TR_matches_45 : decode prog_9_method_6_code 45 = .ok (.getfield 22, 3) := by decide +kernel
theorem d_TR_matches_48 : decode prog_9_method_6_code 48 = .ok (.iload_n 2, 1) := by decide +kernel
theorem d_TR_matches_49 : decode prog_9_method_6_code 49 = .ok (.iaload, 1) := by decide +kernel
theorem d_TR_matches_50 : decode prog_9_method_6_code 50 = .ok (.if_icmp .ne 18, 3) := by decide +kernel
theorem d_TR_matches_53 : decode prog_9_method_6_code 53 = .ok (.aload_n 0, 1) := by decide +kernel
theorem d_TR_matches_54 : decode prog_9_method_6_code 54 = .ok (.getfield 25, 3) := by decide +kernel
theorem d_TR_matches_57 : decode prog_9_method_6_code 57 = .ok (.iload_n 2, 1) := by decide +kernel
theorem d_TR_matches_58 : decode prog_9_method_6_code 58 = .ok (.iaload, 1) := by decide +kernel
theorem d_TR_matches_59 : decode prog_9_method_6_code 59 = .ok (.aload_n 1, 1) := by decide +kernel
theorem d_TR_matches_60 : decode prog_9_method_6_code 60 = .ok (.getfield 25, 3) := by decide +kernel
theorem d_TR_matches_63 : decode prog_9_method_6_code 63 = .ok (.iload_n 2, 1) := by decide +kernel
theorem d_TR_matches_64 : decode prog_9_method_6_code 64 = .ok (.iaload, 1) := by decide +kernel
theorem d_TR_matches_65 : decode prog_9_method_6_code 65 = .ok (.if_icmp .eq 5, 3) := by decide +kernel
theorem d_TR_matches_68 : decode prog_9_method_6_code 68 = .ok (.iconst 0, 1) := by decide +kernel
theorem d_TR_matches_69 : decode prog_9_method_6_code 69 = .ok (.ireturn, 1) := by decide +kernel
theorem d_TR_matches_70 : decode prog_9_method_6_code 70 = .ok (.iinc 2 1, 3) := by decide +kernel
theorem d_TR_matches_73 : decode prog_9_method_6_code 73 = .ok (.goto (-58), 3) := by decide +kernel
theorem d_TR_matches_76 : decode prog_9_method_6_code 76 = .ok (.iconst 1, 1) := by decide +kernel
theorem d_TR_matches_77 : decode prog_9_method_6_code 77 = .ok (.ireturn, 1) := by decide +kernel
theorem d_TR_makeRoom_0 : decode prog_9_method_7_code 0 = .ok (.iload_n 1, 1) := by decide +kernel
theorem d_TR_makeRoom_1 : decode prog_9_method_7_code 1 = .ok (.aload_n 0, 1) := by decide +kernel
theorem d_TR_makeRoom_2 : decode prog_9_method_7_code 2 = .ok (.getfield 15, 3) := by decide +kernel
theorem d_TR_makeRoom_5 : decode prog_9_method_7_code 5 = .ok (.arraylength, 1) := by decide +kernel
theorem d_TR_makeRoom_6 : decode prog_9_method_7_code 6 = .ok (.if_icmp .le 62, 3) := by decide +kernel
theorem d_TR_makeRoom_9 : decode prog_9_method_7_code 9 = .ok (.aload_n 0, 1) := by decide +kernel
theorem d_TR_makeRoom_10 : decode prog_9_method_7_code 10 = .ok (.getfield 15, 3) := by decide +kernel
theorem d_TR_makeRoom_13 : decode prog_9_method_7_code 13 = .ok (.arraylength, 1) := by decide +kernel
theorem d_TR_makeRoom_14 : decode prog_9_method_7_code 14 = .ok (.iload_n 1, 1) := by decide +kernel
theorem d_TR_makeRoom_15 : decode prog_9_method_7_code 15 = .ok (.invokestatic 51, 3) := by decide +kernel
theorem d_TR_makeRoom_18 : decode prog_9_method_7_code 18 = .ok (.istore_n 2, 1) := by decide +kernel
theorem d_TR_makeRoom_19 : decode prog_9_method_7_code 19 = .ok (.aload_n 0, 1) := by decide +kernel
theorem d_TR_makeRoom_20 : decode prog_9_method_7_code 20 = .ok (.iload_n 2, 1) := by decide +kernel
theorem d_TR_makeRoom_21 : decode prog_9_method_7_code 21 = .ok (.newarray .int, 2) := by decide +kernel
theorem d_TR_makeRoom_23 : decode prog_9_method_7_code 23 = .ok (.putfield 15, 3) := by decide +kernel
theorem d_TR_makeRoom_26 : decode prog_9_method_7_code 26 = .ok (.aload_n 0, 1) := by decide +kernel
theorem d_TR_makeRoom_27 : decode prog_9_method_7_code 27 = .ok (.iload_n 2, 1) := by decide +kernel
theorem d_TR_makeRoom_28 : decode prog_9_method_7_code 28 = .ok (.newarray .int, 2) := by decide +kernel
theorem d_TR_makeRoom_30 : decode prog_9_method_7_code 30 = .ok (.putfield 19, 3) := by decide +kernel
theorem d_TR_makeRoom_33 : decode prog_9_method_7_code 33 = .ok (.aload_n 0, 1) := by decide +kernel
theorem d_TR_makeRoom_34 : decode prog_9_method_7_code 34 = .ok (.iload_n 2, 1) := by decide +kernel
theorem d_TR_makeRoom_35 : decode prog_9_method_7_code 35 = .ok (.newarray .int, 2) := by decide +kernel
theorem d_TR_makeRoom_37 : decode prog_9_method_7_code 37 = .ok (.putfield 22, 3) := by decide +kernel
theorem d_TR_makeRoom_40 : decode prog_9_method_7_code 40 = .ok (.aload_n 0, 1) := by decide +kernel
theorem d_TR_makeRoom_41 : decode prog_9_method_7_code 41 = .ok (.iload_n 2, 1) := by decide +kernel
theorem d_TR_makeRoom_42 : decode prog_9_method_7_code 42 = .ok (.newarray .int, 2) := by decide +kernel
theorem d_TR_makeRoom_44 : decode prog_9_method_7_code 44 = .ok (.putfield 25, 3) := by decide +kernel
theorem d_TR_makeRoom_47 : decode prog_9_method_7_code 47 = .ok (.aload_n 0, 1) := by decide +kernel
theorem d_TR_makeRoom_48 : decode prog_9_method_7_code 48 = .ok (.iload_n 2, 1) := by decide +kernel
theorem d_TR_makeRoom_49 : decode prog_9_method_7_code 49 = .ok (.newarray .int, 2) := by decide +kernel
theorem d_TR_makeRoom_51 : decode prog_9_method_7_code 51 = .ok (.putfield 28, 3) := by decide +kernel
theorem d_TR_makeRoom_54 : decode prog_9_method_7_code 54 = .ok (.aload_n 0, 1) := by decide +kernel
theorem d_TR_makeRoom_55 : decode prog_9_method_7_code 55 = .ok (.iload_n 2, 1) := by decide +kernel
theorem d_TR_makeRoom_56 : decode prog_9_method_7_code 56 = .ok (.newarray .int, 2) := by decide +kernel
theorem d_TR_makeRoom_58 : decode prog_9_method_7_code 58 = .ok (.putfield 31, 3) := by decide +kernel
theorem d_TR_makeRoom_61 : decode prog_9_method_7_code 61 = .ok (.aload_n 0, 1) := by decide +kernel
theorem d_TR_makeRoom_62 : decode prog_9_method_7_code 62 = .ok (.iload_n 2, 1) := by decide +kernel
theorem d_TR_makeRoom_63 : decode prog_9_method_7_code 63 = .ok (.newarray .int, 2) := by decide +kernel
theorem d_TR_makeRoom_65 : decode prog_9_method_7_code 65 = .ok (.putfield 34, 3) := by decide +kernel
theorem d_TR_makeRoom_68 : decode prog_9_method_7_code 68 = .ok (.return_, 1) := by decide +kernel
theorem d_TR_placeNodes_0 : decode prog_9_method_8_code 0 = .ok (.iconst (-1), 1) := by decide +kernel
theorem d_TR_placeNodes_1 : decode prog_9_method_8_code 1 = .ok (.istore_n 2, 1) := by decide +kernel
theorem d_TR_placeNodes_2 : decode prog_9_method_8_code 2 = .ok (.iconst 0, 1) := by decide +kernel
theorem d_TR_placeNodes_3 : decode prog_9_method_8_code 3 = .ok (.istore_n 3, 1) := by decide +kernel
theorem d_TR_placeNodes_4 : decode prog_9_method_8_code 4 = .ok (.aload_n 1, 1) := by decide +kernel
theorem d_TR_placeNodes_5 : decode prog_9_method_8_code 5 = .ok (.getfield 37, 3) := by decide +kernel
theorem d_TR_placeNodes_8 : decode prog_9_method_8_code 8 = .ok (.iconst 1, 1) := by decide +kernel
theorem d_TR_placeNodes_9 : decode prog_9_method_8_code 9 = .ok (.isub, 1) := by decide +kernel
theorem d_TR_placeNodes_10 : decode prog_9_method_8_code 10 = .ok (.istore 4, 2) := by decide +kernel
theorem d_TR_placeNodes_12 : decode prog_9_method_8_code 12 = .ok (.iload 4, 2) := by decide +kernel
theorem d_TR_placeNodes_14 : decode prog_9_method_8_code 14 = .ok (.ifCond .lt 120, 3) := by decide +kernel
theorem d_TR_placeNodes_17 : decode prog_9_method_8_code 17 = .ok (.iload_n 3, 1) := by decide +kernel
theorem d_TR_placeNodes_18 : decode prog_9_method_8_code 18 = .ok (.ifCond .le 24, 3) := by decide +kernel
theorem d_TR_placeNodes_21 : decode prog_9_method_8_code 21 = .ok (.iload 4, 2) := by decide +kernel
theorem d_TR_placeNodes_23 : decode prog_9_method_8_code 23 = .ok (.iload_n 2, 1) := by decide +kernel
theorem d_TR_placeNodes_24 : decode prog_9_method_8_code 24 = .ok (.iload_n 3, 1) := by decide +kernel
theorem d_TR_placeNodes_25 : decode prog_9_method_8_code 25 = .ok (.isub, 1) := by decide +kernel
theorem d_TR_placeNodes_26 : decode prog_9_method_8_code 26 = .ok (.if_icmp .gt 16, 3) := by decide +kernel
theorem d_TR_placeNodes_29 : decode prog_9_method_8_code 29 = .ok (.aload_n 0, 1) := by decide +kernel
theorem d_TR_placeNodes_30 : decode prog_9_method_8_code 30 = .ok (.getfield 31, 3) := by decide +kernel
theorem d_TR_placeNodes_33 : decode prog_9_method_8_code 33 = .ok (.iload_n 2, 1) := by decide +kernel
theorem d_TR_placeNodes_34 : decode prog_9_method_8_code 34 = .ok (.iaload, 1) := by decide +kernel
theorem d_TR_placeNodes_35 : decode prog_9_method_8_code 35 = .ok (.istore_n 2, 1) := by decide +kernel
theorem d_TR_placeNodes_36 : decode prog_9_method_8_code 36 = .ok (.iinc 3 (-1), 3) := by decide +kernel
theorem d_TR_placeNodes_39 : decode prog_9_method_8_code 39 = .ok (.goto (-22), 3) := by decide +kernel
theorem d_TR_placeNodes_42 : decode prog_9_method_8_code 42 = .ok (.iload 4, 2) := by decide +kernel
theorem d_TR_placeNodes_44 : decode prog_9_method_8_code 44 = .ok (.aload_n 1, 1) := by decide +kernel
theorem d_TR_placeNodes_45 : decode prog_9_method_8_code 45 = .ok (.getfield 55, 3) := by decide +kernel
theorem d_TR_placeNodes_48 : decode prog_9_method_8_code 48 = .ok (.iload 4, 2) := by decide +kernel
theorem d_TR_placeNodes_50 : decode prog_9_method_8_code 50 = .ok (.iaload, 1) := by decide +kernel
theorem d_TR_placeNodes_51 : decode prog_9_method_8_code 51 = .ok (.isub, 1) := by decide +kernel
theorem d_TR_placeNodes_52 : decode prog_9_method_8_code 52 = .ok (.iconst 1, 1) := by decide +kernel
theorem d_TR_placeNodes_53 : decode prog_9_method_8_code 53 = .ok (.iadd, 1) := by decide +kernel
theorem d_TR_placeNodes_54 : decode prog_9_method_8_code 54 = .ok (.iload_n 3, 1) := by decide +kernel
theorem d_TR_placeNodes_55 : decode prog_9_method_8_code 55 = .ok (.iadd, 1) := by decide +kernel
theorem d_TR_placeNodes_56 : decode prog_9_method_8_code 56 = .ok (.istore 5, 2) := by decide +kernel
theorem d_TR_placeNodes_58 : decode prog_9_method_8_code 58 = .ok (.aload_n 0, 1) := by decide +kernel
theorem d_TR_placeNodes_59 : decode prog_9_method_8_code 59 = .ok (.getfield 15, 3) := by decide +kernel
theorem d_TR_placeNodes_62 : decode prog_9_method_8_code 62 = .ok (.iload 5, 2) := by decide +kernel
theorem d_TR_placeNodes_64 : decode prog_9_method_8_code 64 = .ok (.aload_n 1, 1) := by decide +kernel
theorem d_TR_placeNodes_65 : decode prog_9_method_8_code 65 = .ok (.getfield 56, 3) := by decide +kernel
theorem d_TR_placeNodes_68 : decode prog_9_method_8_code 68 = .ok (.iload 4, 2) := by decide +kernel
theorem d_TR_placeNodes_70 : decode prog_9_method_8_code 70 = .ok (.iaload, 1) := by decide +kernel
theorem d_TR_placeNodes_71 : decode prog_9_method_8_code 71 = .ok (.iastore, 1) := by decide +kernel
theorem d_TR_placeNodes_72 : decode prog_9_method_8_code 72 = .ok (.aload_n 0, 1) := by decide +kernel
theorem d_TR_placeNodes_73 : decode prog_9_method_8_code 73 = .ok (.getfield 19, 3) := by decide +kernel
theorem d_TR_placeNodes_76 : decode prog_9_method_8_code 76 = .ok (.iload 5, 2) := by decide +kernel
theorem d_TR_placeNodes_78 : decode prog_9_method_8_code 78 = .ok (.aload_n 1, 1) := by decide +kernel
theorem d_TR_placeNodes_79 : decode prog_9_method_8_code 79 = .ok (.getfield 57, 3) := by decide +kernel
theorem d_TR_placeNodes_82 : decode prog_9_method_8_code 82 = .ok (.iload 4, 2) := by decide +kernel
theorem d_TR_placeNodes_84 : decode prog_9_method_8_code 84 = .ok (.iaload, 1) := by decide +kernel
theorem d_TR_placeNodes_85 : decode prog_9_method_8_code 85 = .ok (.iastore, 1) := by decide +kernel
theorem d_TR_placeNodes_86 : decode prog_9_method_8_code 86 = .ok (.aload_n 0, 1) := by decide +kernel
theorem d_TR_placeNodes_87 : decode prog_9_method_8_code 87 = .ok (.getfield 22, 3) := by decide +kernel
theorem d_TR_placeNodes_90 : decode prog_9_method_8_code 90 = .ok (.iload 5, 2) := by decide +kernel
theorem d_TR_placeNodes_92 : decode prog_9_method_8_code 92 = .ok (.aload_n 1, 1) := by decide +kernel
theorem d_TR_placeNodes_93 : decode prog_9_method_8_code 93 = .ok (.getfield 58, 3) := by decide +kernel
theorem d_TR_placeNodes_96 : decode prog_9_method_8_code 96 = .ok (.iload 4, 2) := by decide +kernel
theorem d_TR_placeNodes_98 : decode prog_9_method_8_code 98 = .ok (.iaload, 1) := by decide +kernel
theorem d_TR_placeNodes_99 : decode prog_9_method_8_code 99 = .ok (.iastore, 1) := by decide +kernel
theorem d_TR_placeNodes_100 : decode prog_9_method_8_code 100 = .ok (.aload_n 0, 1) := by decide +kernel
theorem d_TR_placeNodes_101 : decode prog_9_method_8_code 101 = .ok (.getfield 25, 3) := by decide +kernel
theorem d_TR_placeNodes_104 : decode prog_9_method_8_code 104 = .ok (.iload 5, 2) := by decide +kernel
theorem d_TR_placeNodes_106 : decode prog_9_method_8_code 106 = .ok (.aload_n 1, 1) := by decide +kernel
theorem d_TR_placeNodes_107 : decode prog_9_method_8_code 107 = .ok (.getfield 55, 3) := by decide +kernel
theorem d_TR_placeNodes_110 : decode prog_9_method_8_code 110 = .ok (.iload 4, 2) := by decide +kernel
theorem d_TR_placeNodes_112 : decode prog_9_method_8_code 112 = .ok (.iaload, 1) := by decide +kernel
theorem d_TR_placeNodes_113 : decode prog_9_method_8_code 113 = .ok (.iastore, 1) := by decide +kernel
theorem d_TR_placeNodes_114 : decode prog_9_method_8_code 114 = .ok (.aload_n 0, 1) := by decide +kernel
theorem d_TR_placeNodes_115 : decode prog_9_method_8_code 115 = .ok (.getfield 31, 3) := by decide +kernel
theorem d_TR_placeNodes_118 : decode prog_9_method_8_code 118 = .ok (.iload 5, 2) := by decide +kernel
theorem d_TR_placeNodes_120 : decode prog_9_method_8_code 120 = .ok (.iload_n 2, 1) := by decide +kernel
theorem d_TR_placeNodes_121 : decode prog_9_method_8_code 121 = .ok (.iastore, 1) := by decide +kernel
theorem d_TR_placeNodes_122 : decode prog_9_method_8_code 122 = .ok (.iload 5, 2) := by decide +kernel
theorem d_TR_placeNodes_124 : decode prog_9_method_8_code 124 = .ok (.istore_n 2, 1) := by decide +kernel
theorem d_TR_placeNodes_125 : decode prog_9_method_8_code 125 = .ok (.iinc 3 1, 3) := by decide +kernel
theorem d_TR_placeNodes_128 : decode prog_9_method_8_code 128 = .ok (.iinc 4 (-1), 3) := by decide +kernel
theorem d_TR_placeNodes_131 : decode prog_9_method_8_code 131 = .ok (.goto (-119), 3) := by decide +kernel
theorem d_TR_placeNodes_134 : decode prog_9_method_8_code 134 = .ok (.return_, 1) := by decide +kernel
theorem d_TR_countParts_0 : decode prog_9_method_9_code 0 = .ok (.iconst 0, 1) := by decide +kernel
theorem d_TR_countParts_1 : decode prog_9_method_9_code 1 = .ok (.istore_n 1, 1) := by decide +kernel
theorem d_TR_countParts_2 : decode prog_9_method_9_code 2 = .ok (.iload_n 1, 1) := by decide +kernel
theorem d_TR_countParts_3 : decode prog_9_method_9_code 3 = .ok (.aload_n 0, 1) := by decide +kernel
theorem d_TR_countParts_4 : decode prog_9_method_9_code 4 = .ok (.getfield 9, 3) := by decide +kernel
theorem d_TR_countParts_7 : decode prog_9_method_9_code 7 = .ok (.if_icmp .ge 60, 3) := by decide +kernel
theorem d_TR_countParts_10 : decode prog_9_method_9_code 10 = .ok (.aload_n 0, 1) := by decide +kernel
theorem d_TR_countParts_11 : decode prog_9_method_9_code 11 = .ok (.getfield 28, 3) := by decide +kernel
theorem d_TR_countParts_14 : decode prog_9_method_9_code 14 = .ok (.iload_n 1, 1) := by decide +kernel
theorem d_TR_countParts_15 : decode prog_9_method_9_code 15 = .ok (.iconst 0, 1) := by decide +kernel
theorem d_TR_countParts_16 : decode prog_9_method_9_code 16 = .ok (.iastore, 1) := by decide +kernel
theorem d_TR_countParts_17 : decode prog_9_method_9_code 17 = .ok (.aload_n 0, 1) := by decide +kernel
theorem d_TR_countParts_18 : decode prog_9_method_9_code 18 = .ok (.getfield 31, 3) := by decide +kernel
theorem d_TR_countParts_21 : decode prog_9_method_9_code 21 = .ok (.iload_n 1, 1) := by decide +kernel
theorem d_TR_countParts_22 : decode prog_9_method_9_code 22 = .ok (.iaload, 1) := by decide +kernel
theorem d_TR_countParts_23 : decode prog_9_method_9_code 23 = .ok (.istore_n 2, 1) := by decide +kernel
theorem d_TR_countParts_24 : decode prog_9_method_9_code 24 = .ok (.iload_n 2, 1) := by decide +kernel
theorem d_TR_countParts_25 : decode prog_9_method_9_code 25 = .ok (.iconst (-1), 1) := by decide +kernel
theorem d_TR_countParts_26 : decode prog_9_method_9_code 26 = .ok (.if_icmp .ne 13, 3) := by decide +kernel
theorem d_TR_countParts_29 : decode prog_9_method_9_code 29 = .ok (.aload_n 0, 1) := by decide +kernel
theorem d_TR_countParts_30 : decode prog_9_method_9_code 30 = .ok (.getfield 34, 3) := by decide +kernel
theorem d_TR_countParts_33 : decode prog_9_method_9_code 33 = .ok (.iload_n 1, 1) := by decide +kernel
theorem d_TR_countParts_34 : decode prog_9_method_9_code 34 = .ok (.iconst 0, 1) := by decide +kernel
theorem d_TR_countParts_35 : decode prog_9_method_9_code 35 = .ok (.iastore, 1) := by decide +kernel
theorem d_TR_countParts_36 : decode prog_9_method_9_code 36 = .ok (.goto 25, 3) := by decide +kernel
theorem d_TR_countParts_39 : decode prog_9_method_9_code 39 = .ok (.aload_n 0, 1) := by decide +kernel
theorem d_TR_countParts_40 : decode prog_9_method_9_code 40 = .ok (.getfield 34, 3) := by decide +kernel
theorem d_TR_countParts_43 : decode prog_9_method_9_code 43 = .ok (.iload_n 1, 1) := by decide +kernel
theorem d_TR_countParts_44 : decode prog_9_method_9_code 44 = .ok (.aload_n 0, 1) := by decide +kernel
theorem d_TR_countParts_45 : decode prog_9_method_9_code 45 = .ok (.getfield 28, 3) := by decide +kernel
theorem d_TR_countParts_48 : decode prog_9_method_9_code 48 = .ok (.iload_n 2, 1) := by decide +kernel
theorem d_TR_countParts_49 : decode prog_9_method_9_code 49 = .ok (.iaload, 1) := by decide +kernel
theorem d_TR_countParts_50 : decode prog_9_method_9_code 50 = .ok (.iastore, 1) := by decide +kernel
theorem d_TR_countParts_51 : decode prog_9_method_9_code 51 = .ok (.aload_n 0, 1) := by decide +kernel
theorem d_TR_countParts_52 : decode prog_9_method_9_code 52 = .ok (.getfield 28, 3) := by decide +kernel
theorem d_TR_countParts_55 : decode prog_9_method_9_code 55 = .ok (.iload_n 2, 1) := by decide +kernel
theorem d_TR_countParts_56 : decode prog_9_method_9_code 56 = .ok (.dup2, 1) := by decide +kernel
theorem d_TR_countParts_57 : decode prog_9_method_9_code 57 = .ok (.iaload, 1) := by decide +kernel
theorem d_TR_countParts_58 : decode prog_9_method_9_code 58 = .ok (.iconst 1, 1) := by decide +kernel
theorem d_TR_countParts_59 : decode prog_9_method_9_code 59 = .ok (.iadd, 1) := by decide +kernel
theorem d_TR_countParts_60 : decode prog_9_method_9_code 60 = .ok (.iastore, 1) := by decide +kernel
theorem d_TR_countParts_61 : decode prog_9_method_9_code 61 = .ok (.iinc 1 1, 3) := by decide +kernel
theorem d_TR_countParts_64 : decode prog_9_method_9_code 64 = .ok (.goto (-62), 3) := by decide +kernel
theorem d_TR_countParts_67 : decode prog_9_method_9_code 67 = .ok (.return_, 1) := by decide +kernel
