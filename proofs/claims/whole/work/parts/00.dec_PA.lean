theorem d_PA_init_0 : decode prog_6_method_1_code 0 = .ok (.aload_n 0, 1) := by decide +kernel
theorem d_PA_init_1 : decode prog_6_method_1_code 1 = .ok (.invokespecial 3, 3) := by decide +kernel
theorem d_PA_init_4 : decode prog_6_method_1_code 4 = .ok (.aload_n 0, 1) := by decide +kernel
theorem d_PA_init_5 : decode prog_6_method_1_code 5 = .ok (.iconst 0, 1) := by decide +kernel
theorem d_PA_init_6 : decode prog_6_method_1_code 6 = .ok (.putfield 9, 3) := by decide +kernel
theorem d_PA_init_9 : decode prog_6_method_1_code 9 = .ok (.aload_n 0, 1) := by decide +kernel
theorem d_PA_init_10 : decode prog_6_method_1_code 10 = .ok (.aload_n 1, 1) := by decide +kernel
theorem d_PA_init_11 : decode prog_6_method_1_code 11 = .ok (.putfield 15, 3) := by decide +kernel
theorem d_PA_init_14 : decode prog_6_method_1_code 14 = .ok (.aload_n 0, 1) := by decide +kernel
theorem d_PA_init_15 : decode prog_6_method_1_code 15 = .ok (.aload_n 2, 1) := by decide +kernel
theorem d_PA_init_16 : decode prog_6_method_1_code 16 = .ok (.putfield 19, 3) := by decide +kernel
theorem d_PA_init_19 : decode prog_6_method_1_code 19 = .ok (.return_, 1) := by decide +kernel
theorem d_PA_parse_0 : decode prog_6_method_2_code 0 = .ok (.aload_n 0, 1) := by decide +kernel
theorem d_PA_parse_1 : decode prog_6_method_2_code 1 = .ok (.iconst 0, 1) := by decide +kernel
theorem d_PA_parse_2 : decode prog_6_method_2_code 2 = .ok (.putfield 9, 3) := by decide +kernel
theorem d_PA_parse_5 : decode prog_6_method_2_code 5 = .ok (.aload_n 0, 1) := by decide +kernel
theorem d_PA_parse_6 : decode prog_6_method_2_code 6 = .ok (.getfield 19, 3) := by decide +kernel
theorem d_PA_parse_9 : decode prog_6_method_2_code 9 = .ok (.iconst 2, 1) := by decide +kernel
theorem d_PA_parse_10 : decode prog_6_method_2_code 10 = .ok (.aload_n 0, 1) := by decide +kernel
theorem d_PA_parse_11 : decode prog_6_method_2_code 11 = .ok (.getfield 15, 3) := by decide +kernel
theorem d_PA_parse_14 : decode prog_6_method_2_code 14 = .ok (.getfield 23, 3) := by decide +kernel
theorem d_PA_parse_17 : decode prog_6_method_2_code 17 = .ok (.imul, 1) := by decide +kernel
theorem d_PA_parse_18 : decode prog_6_method_2_code 18 = .ok (.iconst 1, 1) := by decide +kernel
theorem d_PA_parse_19 : decode prog_6_method_2_code 19 = .ok (.iadd, 1) := by decide +kernel
theorem d_PA_parse_20 : decode prog_6_method_2_code 20 = .ok (.invokevirtual 28, 3) := by decide +kernel
theorem d_PA_parse_23 : decode prog_6_method_2_code 23 = .ok (.iconst (-1), 1) := by decide +kernel
theorem d_PA_parse_24 : decode prog_6_method_2_code 24 = .ok (.istore_n 1, 1) := by decide +kernel
theorem d_PA_parse_25 : decode prog_6_method_2_code 25 = .ok (.iconst 0, 1) := by decide +kernel
theorem d_PA_parse_26 : decode prog_6_method_2_code 26 = .ok (.istore_n 2, 1) := by decide +kernel
theorem d_PA_parse_27 : decode prog_6_method_2_code 27 = .ok (.iconst 0, 1) := by decide +kernel
theorem d_PA_parse_28 : decode prog_6_method_2_code 28 = .ok (.istore_n 3, 1) := by decide +kernel
theorem d_PA_parse_29 : decode prog_6_method_2_code 29 = .ok (.iload_n 3, 1) := by decide +kernel
theorem d_PA_parse_30 : decode prog_6_method_2_code 30 = .ok (.aload_n 0, 1) := by decide +kernel
theorem d_PA_parse_31 : decode prog_6_method_2_code 31 = .ok (.getfield 15, 3) := by decide +kernel
theorem d_PA_parse_34 : decode prog_6_method_2_code 34 = .ok (.getfield 23, 3) := by decide +kernel
theorem d_PA_parse_37 : decode prog_6_method_2_code 37 = .ok (.if_icmp .ge 34, 3) := by decide +kernel
theorem d_PA_parse_40 : decode prog_6_method_2_code 40 = .ok (.iload_n 3, 1) := by decide +kernel
theorem d_PA_parse_41 : decode prog_6_method_2_code 41 = .ok (.ifCond .eq 12, 3) := by decide +kernel
theorem d_PA_parse_44 : decode prog_6_method_2_code 44 = .ok (.aload_n 0, 1) := by decide +kernel
theorem d_PA_parse_45 : decode prog_6_method_2_code 45 = .ok (.iconst 0, 1) := by decide +kernel
theorem d_PA_parse_46 : decode prog_6_method_2_code 46 = .ok (.iconst 0, 1) := by decide +kernel
theorem d_PA_parse_47 : decode prog_6_method_2_code 47 = .ok (.invokevirtual 36, 3) := by decide +kernel
theorem d_PA_parse_50 : decode prog_6_method_2_code 50 = .ok (.ifCond .ne 21, 3) := by decide +kernel
theorem d_PA_parse_53 : decode prog_6_method_2_code 53 = .ok (.aload_n 0, 1) := by decide +kernel
theorem d_PA_parse_54 : decode prog_6_method_2_code 54 = .ok (.invokevirtual 40, 3) := by decide +kernel
theorem d_PA_parse_57 : decode prog_6_method_2_code 57 = .ok (.aload_n 0, 1) := by decide +kernel
theorem d_PA_parse_58 : decode prog_6_method_2_code 58 = .ok (.getfield 19, 3) := by decide +kernel
theorem d_PA_parse_61 : decode prog_6_method_2_code 61 = .ok (.getfield 43, 3) := by decide +kernel
theorem d_PA_parse_64 : decode prog_6_method_2_code 64 = .ok (.istore_n 2, 1) := by decide +kernel
theorem d_PA_parse_65 : decode prog_6_method_2_code 65 = .ok (.iinc 3 1, 3) := by decide +kernel
theorem d_PA_parse_68 : decode prog_6_method_2_code 68 = .ok (.goto (-39), 3) := by decide +kernel
theorem d_PA_parse_71 : decode prog_6_method_2_code 71 = .ok (.goto 24, 3) := by decide +kernel
theorem d_PA_parse_74 : decode prog_6_method_2_code 74 = .ok (.astore_n 3, 1) := by decide +kernel
theorem d_PA_parse_75 : decode prog_6_method_2_code 75 = .ok (.aload_n 0, 1) := by decide +kernel
theorem d_PA_parse_76 : decode prog_6_method_2_code 76 = .ok (.getfield 15, 3) := by decide +kernel
theorem d_PA_parse_79 : decode prog_6_method_2_code 79 = .ok (.aload_n 0, 1) := by decide +kernel
theorem d_PA_parse_80 : decode prog_6_method_2_code 80 = .ok (.getfield 9, 3) := by decide +kernel
theorem d_PA_parse_83 : decode prog_6_method_2_code 83 = .ok (.invokevirtual 46, 3) := by decide +kernel
theorem d_PA_parse_86 : decode prog_6_method_2_code 86 = .ok (.istore_n 1, 1) := by decide +kernel
theorem d_PA_parse_87 : decode prog_6_method_2_code 87 = .ok (.aload_n 0, 1) := by decide +kernel
theorem d_PA_parse_88 : decode prog_6_method_2_code 88 = .ok (.getfield 19, 3) := by decide +kernel
theorem d_PA_parse_91 : decode prog_6_method_2_code 91 = .ok (.iload_n 2, 1) := by decide +kernel
theorem d_PA_parse_92 : decode prog_6_method_2_code 92 = .ok (.putfield 43, 3) := by decide +kernel
theorem d_PA_parse_95 : decode prog_6_method_2_code 95 = .ok (.aload_n 0, 1) := by decide +kernel
theorem d_PA_parse_96 : decode prog_6_method_2_code 96 = .ok (.getfield 19, 3) := by decide +kernel
theorem d_PA_parse_99 : decode prog_6_method_2_code 99 = .ok (.iconst 0, 1) := by decide +kernel
theorem d_PA_parse_100 : decode prog_6_method_2_code 100 = .ok (.iconst (-1), 1) := by decide +kernel
theorem d_PA_parse_101 : decode prog_6_method_2_code 101 = .ok (.iconst 0, 1) := by decide +kernel
theorem d_PA_parse_102 : decode prog_6_method_2_code 102 = .ok (.aload_n 0, 1) := by decide +kernel
theorem d_PA_parse_103 : decode prog_6_method_2_code 103 = .ok (.getfield 19, 3) := by decide +kernel
theorem d_PA_parse_106 : decode prog_6_method_2_code 106 = .ok (.getfield 43, 3) := by decide +kernel
theorem d_PA_parse_109 : decode prog_6_method_2_code 109 = .ok (.iconst 1, 1) := by decide +kernel
theorem d_PA_parse_110 : decode prog_6_method_2_code 110 = .ok (.iadd, 1) := by decide +kernel
theorem d_PA_parse_111 : decode prog_6_method_2_code 111 = .ok (.invokevirtual 52, 3) := by decide +kernel
theorem d_PA_parse_114 : decode prog_6_method_2_code 114 = .ok (.iload_n 1, 1) := by decide +kernel
theorem d_PA_parse_115 : decode prog_6_method_2_code 115 = .ok (.ireturn, 1) := by decide +kernel
theorem d_PA_function_0 : decode prog_6_method_3_code 0 = .ok (.aload_n 0, 1) := by decide +kernel
theorem d_PA_function_1 : decode prog_6_method_3_code 1 = .ok (.getfield 19, 3) := by decide +kernel
theorem d_PA_function_4 : decode prog_6_method_3_code 4 = .ok (.getfield 43, 3) := by decide +kernel
theorem d_PA_function_7 : decode prog_6_method_3_code 7 = .ok (.istore_n 1, 1) := by decide +kernel
theorem d_PA_function_8 : decode prog_6_method_3_code 8 = .ok (.aload_n 0, 1) := by decide +kernel
theorem d_PA_function_9 : decode prog_6_method_3_code 9 = .ok (.getfield 15, 3) := by decide +kernel
theorem d_PA_function_12 : decode prog_6_method_3_code 12 = .ok (.aload_n 0, 1) := by decide +kernel
theorem d_PA_function_13 : decode prog_6_method_3_code 13 = .ok (.getfield 9, 3) := by decide +kernel
theorem d_PA_function_16 : decode prog_6_method_3_code 16 = .ok (.invokevirtual 46, 3) := by decide +kernel
theorem d_PA_function_19 : decode prog_6_method_3_code 19 = .ok (.istore_n 2, 1) := by decide +kernel
theorem d_PA_function_20 : decode prog_6_method_3_code 20 = .ok (.aload_n 0, 1) := by decide +kernel
theorem d_PA_function_21 : decode prog_6_method_3_code 21 = .ok (.iconst 4, 1) := by decide +kernel
theorem d_PA_function_22 : decode prog_6_method_3_code 22 = .ok (.invokevirtual 56, 3) := by decide +kernel
theorem d_PA_function_25 : decode prog_6_method_3_code 25 = .ok (.aload_n 0, 1) := by decide +kernel
theorem d_PA_function_26 : decode prog_6_method_3_code 26 = .ok (.invokevirtual 59, 3) := by decide +kernel
theorem d_PA_function_29 : decode prog_6_method_3_code 29 = .ok (.aload_n 0, 1) := by decide +kernel
theorem d_PA_function_30 : decode prog_6_method_3_code 30 = .ok (.bipush 12, 2) := by decide +kernel
theorem d_PA_function_32 : decode prog_6_method_3_code 32 = .ok (.invokevirtual 56, 3) := by decide +kernel
theorem d_PA_function_35 : decode prog_6_method_3_code 35 = .ok (.aload_n 0, 1) := by decide +kernel
theorem d_PA_function_36 : decode prog_6_method_3_code 36 = .ok (.getfield 15, 3) := by decide +kernel
theorem d_PA_function_39 : decode prog_6_method_3_code 39 = .ok (.aload_n 0, 1) := by decide +kernel
theorem d_PA_function_40 : decode prog_6_method_3_code 40 = .ok (.getfield 9, 3) := by decide +kernel
theorem d_PA_function_43 : decode prog_6_method_3_code 43 = .ok (.invokevirtual 62, 3) := by decide +kernel
theorem d_PA_function_46 : decode prog_6_method_3_code 46 = .ok (.iconst 2, 1) := by decide +kernel
theorem d_PA_function_47 : decode prog_6_method_3_code 47 = .ok (.if_icmp .ne 39, 3) := by decide +kernel
theorem d_PA_function_50 : decode prog_6_method_3_code 50 = .ok (.aload_n 0, 1) := by decide +kernel
theorem d_PA_function_51 : decode prog_6_method_3_code 51 = .ok (.invokevirtual 59, 3) := by decide +kernel
theorem d_PA_function_54 : decode prog_6_method_3_code 54 = .ok (.iconst 0, 1) := by decide +kernel
theorem d_PA_function_55 : decode prog_6_method_3_code 55 = .ok (.istore_n 3, 1) := by decide +kernel
theorem d_PA_function_56 : decode prog_6_method_3_code 56 = .ok (.iload_n 3, 1) := by decide +kernel
theorem d_PA_function_57 : decode prog_6_method_3_code 57 = .ok (.aload_n 0, 1) := by decide +kernel
theorem d_PA_function_58 : decode prog_6_method_3_code 58 = .ok (.getfield 15, 3) := by decide +kernel
theorem d_PA_function_61 : decode prog_6_method_3_code 61 = .ok (.getfield 23, 3) := by decide +kernel
theorem d_PA_function_64 : decode prog_6_method_3_code 64 = .ok (.if_icmp .ge 22, 3) := by decide +kernel
theorem d_PA_function_67 : decode prog_6_method_3_code 67 = .ok (.aload_n 0, 1) := by decide +kernel
theorem d_PA_function_68 : decode prog_6_method_3_code 68 = .ok (.bipush 18, 2) := by decide +kernel
theorem d_PA_function_70 : decode prog_6_method_3_code 70 = .ok (.invokevirtual 65, 3) := by decide +kernel
theorem d_PA_function_73 : decode prog_6_method_3_code 73 = .ok (.ifCond .eq 13, 3) := by decide +kernel
theorem d_PA_function_76 : decode prog_6_method_3_code 76 = .ok (.aload_n 0, 1) := by decide +kernel
theorem d_PA_function_77 : decode prog_6_method_3_code 77 = .ok (.invokevirtual 59, 3) := by decide +kernel
theorem d_PA_function_80 : decode prog_6_method_3_code 80 = .ok (.iinc 3 1, 3) := by decide +kernel
theorem d_PA_function_83 : decode prog_6_method_3_code 83 = .ok (.goto (-27), 3) := by decide +kernel
theorem d_PA_function_86 : decode prog_6_method_3_code 86 = .ok (.aload_n 0, 1) := by decide +kernel
theorem d_PA_function_87 : decode prog_6_method_3_code 87 = .ok (.bipush 13, 2) := by decide +kernel
theorem d_PA_function_89 : decode prog_6_method_3_code 89 = .ok (.invokevirtual 56, 3) := by decide +kernel
theorem d_PA_function_92 : decode prog_6_method_3_code 92 = .ok (.aload_n 0, 1) := by decide +kernel
theorem d_PA_function_93 : decode prog_6_method_3_code 93 = .ok (.iconst 1, 1) := by decide +kernel
theorem d_PA_function_94 : decode prog_6_method_3_code 94 = .ok (.invokevirtual 69, 3) := by decide +kernel
theorem d_PA_function_97 : decode prog_6_method_3_code 97 = .ok (.aload_n 0, 1) := by decide +kernel
theorem d_PA_function_98 : decode prog_6_method_3_code 98 = .ok (.iconst 1, 1) := by decide +kernel
theorem d_PA_function_99 : decode prog_6_method_3_code 99 = .ok (.iload_n 2, 1) := by decide +kernel
theorem d_PA_function_100 : decode prog_6_method_3_code 100 = .ok (.iload_n 1, 1) := by decide +kernel
theorem d_PA_function_101 : decode prog_6_method_3_code 101 = .ok (.invokevirtual 72, 3) := by decide +kernel
theorem d_PA_function_104 : decode prog_6_method_3_code 104 = .ok (.return_, 1) := by decide +kernel
theorem d_PA_block_0 : decode prog_6_method_4_code 0 = .ok (.aload_n 0, 1) := by decide +kernel
theorem d_PA_block_1 : decode prog_6_method_4_code 1 = .ok (.iload_n 1, 1) := by decide +kernel
theorem d_PA_block_2 : decode prog_6_method_4_code 2 = .ok (.invokevirtual 76, 3) := by decide +kernel
theorem d_PA_block_5 : decode prog_6_method_4_code 5 = .ok (.aload_n 0, 1) := by decide +kernel
theorem d_PA_block_6 : decode prog_6_method_4_code 6 = .ok (.getfield 19, 3) := by decide +kernel
theorem d_PA_block_9 : decode prog_6_method_4_code 9 = .ok (.getfield 43, 3) := by decide +kernel
theorem d_PA_block_12 : decode prog_6_method_4_code 12 = .ok (.istore_n 2, 1) := by decide +kernel
theorem d_PA_block_13 : decode prog_6_method_4_code 13 = .ok (.aload_n 0, 1) := by decide +kernel
theorem d_PA_block_14 : decode prog_6_method_4_code 14 = .ok (.getfield 15, 3) := by decide +kernel
theorem d_PA_block_17 : decode prog_6_method_4_code 17 = .ok (.aload_n 0, 1) := by decide +kernel
theorem d_PA_block_18 : decode prog_6_method_4_code 18 = .ok (.getfield 9, 3) := by decide +kernel
theorem d_PA_block_21 : decode prog_6_method_4_code 21 = .ok (.invokevirtual 46, 3) := by decide +kernel
theorem d_PA_block_24 : decode prog_6_method_4_code 24 = .ok (.istore_n 3, 1) := by decide +kernel
theorem d_PA_block_25 : decode prog_6_method_4_code 25 = .ok (.aload_n 0, 1) := by decide +kernel
theorem d_PA_block_26 : decode prog_6_method_4_code 26 = .ok (.bipush 14, 2) := by decide +kernel
theorem d_PA_block_28 : decode prog_6_method_4_code 28 = .ok (.invokevirtual 56, 3) := by decide +kernel
theorem d_PA_block_31 : decode prog_6_method_4_code 31 = .ok (.iconst 0, 1) := by decide +kernel
theorem d_PA_block_32 : decode prog_6_method_4_code 32 = .ok (.istore 4, 2) := by decide +kernel
theorem d_PA_block_34 : decode prog_6_method_4_code 34 = .ok (.iload 4, 2) := by decide +kernel
theorem d_PA_block_36 : decode prog_6_method_4_code 36 = .ok (.aload_n 0, 1) := by decide +kernel
theorem d_PA_block_37 : decode prog_6_method_4_code 37 = .ok (.getfield 15, 3) := by decide +kernel
theorem d_PA_block_40 : decode prog_6_method_4_code 40 = .ok (.getfield 23, 3) := by decide +kernel
theorem d_PA_block_43 : decode prog_6_method_4_code 43 = .ok (.if_icmp .ge 23, 3) := by decide +kernel
theorem d_PA_block_46 : decode prog_6_method_4_code 46 = .ok (.aload_n 0, 1) := by decide +kernel
theorem d_PA_block_47 : decode prog_6_method_4_code 47 = .ok (.bipush 15, 2) := by decide +kernel
theorem d_PA_block_49 : decode prog_6_method_4_code 49 = .ok (.invokevirtual 65, 3) := by decide +kernel
theorem d_PA_block_52 : decode prog_6_method_4_code 52 = .ok (.ifCond .ne 14, 3) := by decide +kernel
theorem d_PA_block_55 : decode prog_6_method_4_code 55 = .ok (.aload_n 0, 1) := by decide +kernel
theorem d_PA_block_56 : decode prog_6_method_4_code 56 = .ok (.iload_n 1, 1) := by decide +kernel
theorem d_PA_block_57 : decode prog_6_method_4_code 57 = .ok (.invokevirtual 79, 3) := by decide +kernel
theorem d_PA_block_60 : decode prog_6_method_4_code 60 = .ok (.iinc 4 1, 3) := by decide +kernel
theorem d_PA_block_63 : decode prog_6_method_4_code 63 = .ok (.goto (-29), 3) := by decide +kernel
theorem d_PA_block_66 : decode prog_6_method_4_code 66 = .ok (.aload_n 0, 1) := by decide +kernel
theorem d_PA_block_67 : decode prog_6_method_4_code 67 = .ok (.iconst 2, 1) := by decide +kernel
theorem d_PA_block_68 : decode prog_6_method_4_code 68 = .ok (.iload_n 3, 1) := by decide +kernel
theorem d_PA_block_69 : decode prog_6_method_4_code 69 = .ok (.iload_n 2, 1) := by decide +kernel
theorem d_PA_block_70 : decode prog_6_method_4_code 70 = .ok (.invokevirtual 72, 3) := by decide +kernel
theorem d_PA_block_73 : decode prog_6_method_4_code 73 = .ok (.return_, 1) := by decide +kernel
theorem d_PA_statement_0 : decode prog_6_method_5_code 0 = .ok (.aload_n 0, 1) := by decide +kernel
theorem d_PA_statement_1 : decode prog_6_method_5_code 1 = .ok (.getfield 19, 3) := by decide +kernel
theorem d_PA_statement_4 : decode prog_6_method_5_code 4 = .ok (.getfield 43, 3) := by decide +kernel
theorem d_PA_statement_7 : decode prog_6_method_5_code 7 = .ok (.istore_n 2, 1) := by decide +kernel
theorem d_PA_statement_8 : decode prog_6_method_5_code 8 = .ok (.aload_n 0, 1) := by decide +kernel
theorem d_PA_statement_9 : decode prog_6_method_5_code 9 = .ok (.getfield 15, 3) := by decide +kernel
theorem d_PA_statement_12 : decode prog_6_method_5_code 12 = .ok (.aload_n 0, 1) := by decide +kernel
theorem d_PA_statement_13 : decode prog_6_method_5_code 13 = .ok (.getfield 9, 3) := by decide +kernel
theorem d_PA_statement_16 : decode prog_6_method_5_code 16 = .ok (.invokevirtual 46, 3) := by decide +kernel
theorem d_PA_statement_19 : decode prog_6_method_5_code 19 = .ok (.istore_n 3, 1) := by decide +kernel
theorem d_PA_statement_20 : decode prog_6_method_5_code 20 = .ok (.aload_n 0, 1) := by decide +kernel
theorem d_PA_statement_21 : decode prog_6_method_5_code 21 = .ok (.getfield 15, 3) := by decide +kernel
theorem d_PA_statement_24 : decode prog_6_method_5_code 24 = .ok (.aload_n 0, 1) := by decide +kernel
theorem d_PA_statement_25 : decode prog_6_method_5_code 25 = .ok (.getfield 9, 3) := by decide +kernel
theorem d_PA_statement_28 : decode prog_6_method_5_code 28 = .ok (.invokevirtual 62, 3) := by decide +kernel
theorem d_PA_statement_31 : decode prog_6_method_5_code 31 = .ok (.tableswitch 90 2 9 #[55, 90, 90, 45, 80, 90, 80, 80], 45) := by decide +kernel
theorem d_PA_statement_76 : decode prog_6_method_5_code 76 = .ok (.aload_n 0, 1) := by decide +kernel
theorem d_PA_statement_77 : decode prog_6_method_5_code 77 = .ok (.iload_n 1, 1) := by decide +kernel
theorem d_PA_statement_78 : decode prog_6_method_5_code 78 = .ok (.invokevirtual 82, 3) := by decide +kernel
theorem d_PA_statement_81 : decode prog_6_method_5_code 81 = .ok (.istore 4, 2) := by decide +kernel
theorem d_PA_statement_83 : decode prog_6_method_5_code 83 = .ok (.goto 61, 3) := by decide +kernel
theorem d_PA_statement_86 : decode prog_6_method_5_code 86 = .ok (.aload_n 0, 1) := by decide +kernel
theorem d_PA_statement_87 : decode prog_6_method_5_code 87 = .ok (.invokevirtual 85, 3) := by decide +kernel
theorem d_PA_statement_90 : decode prog_6_method_5_code 90 = .ok (.ifCond .eq 11, 3) := by decide +kernel
theorem d_PA_statement_93 : decode prog_6_method_5_code 93 = .ok (.aload_n 0, 1) := by decide +kernel
theorem d_PA_statement_94 : decode prog_6_method_5_code 94 = .ok (.iload_n 1, 1) := by decide +kernel
theorem d_PA_statement_95 : decode prog_6_method_5_code 95 = .ok (.invokevirtual 89, 3) := by decide +kernel
theorem d_PA_statement_98 : decode prog_6_method_5_code 98 = .ok (.goto 8, 3) := by decide +kernel
theorem d_PA_statement_101 : decode prog_6_method_5_code 101 = .ok (.aload_n 0, 1) := by decide +kernel
theorem d_PA_statement_102 : decode prog_6_method_5_code 102 = .ok (.iload_n 1, 1) := by decide +kernel
theorem d_PA_statement_103 : decode prog_6_method_5_code 103 = .ok (.invokevirtual 92, 3) := by decide +kernel
theorem d_PA_statement_106 : decode prog_6_method_5_code 106 = .ok (.istore 4, 2) := by decide +kernel
theorem d_PA_statement_108 : decode prog_6_method_5_code 108 = .ok (.goto 36, 3) := by decide +kernel
theorem d_PA_statement_111 : decode prog_6_method_5_code 111 = .ok (.aload_n 0, 1) := by decide +kernel
theorem d_PA_statement_112 : decode prog_6_method_5_code 112 = .ok (.iload_n 1, 1) := by decide +kernel
theorem d_PA_statement_113 : decode prog_6_method_5_code 113 = .ok (.invokevirtual 95, 3) := by decide +kernel
theorem d_PA_statement_116 : decode prog_6_method_5_code 116 = .ok (.istore 4, 2) := by decide +kernel
theorem d_PA_statement_118 : decode prog_6_method_5_code 118 = .ok (.goto 26, 3) := by decide +kernel
theorem d_PA_statement_121 : decode prog_6_method_5_code 121 = .ok (.aload_n 0, 1) := by decide +kernel
theorem d_PA_statement_122 : decode prog_6_method_5_code 122 = .ok (.bipush 10, 2) := by decide +kernel
theorem d_PA_statement_124 : decode prog_6_method_5_code 124 = .ok (.invokevirtual 56, 3) := by decide +kernel
theorem d_PA_statement_127 : decode prog_6_method_5_code 127 = .ok (.aload_n 0, 1) := by decide +kernel
theorem d_PA_statement_128 : decode prog_6_method_5_code 128 = .ok (.iload_n 1, 1) := by decide +kernel
theorem d_PA_statement_129 : decode prog_6_method_5_code 129 = .ok (.iconst 1, 1) := by decide +kernel
theorem d_PA_statement_130 : decode prog_6_method_5_code 130 = .ok (.iadd, 1) := by decide +kernel
theorem d_PA_statement_131 : decode prog_6_method_5_code 131 = .ok (.invokevirtual 98, 3) := by decide +kernel
theorem d_PA_statement_134 : decode prog_6_method_5_code 134 = .ok (.aload_n 0, 1) := by decide +kernel
theorem d_PA_statement_135 : decode prog_6_method_5_code 135 = .ok (.bipush 19, 2) := by decide +kernel
theorem d_PA_statement_137 : decode prog_6_method_5_code 137 = .ok (.invokevirtual 56, 3) := by decide +kernel
theorem d_PA_statement_140 : decode prog_6_method_5_code 140 = .ok (.bipush 11, 2) := by decide +kernel
theorem d_PA_statement_142 : decode prog_6_method_5_code 142 = .ok (.istore 4, 2) := by decide +kernel
theorem d_PA_statement_144 : decode prog_6_method_5_code 144 = .ok (.aload_n 0, 1) := by decide +kernel
theorem d_PA_statement_145 : decode prog_6_method_5_code 145 = .ok (.iload 4, 2) := by decide +kernel
theorem d_PA_statement_147 : decode prog_6_method_5_code 147 = .ok (.iload_n 3, 1) := by decide +kernel
theorem d_PA_statement_148 : decode prog_6_method_5_code 148 = .ok (.iload_n 2, 1) := by decide +kernel
theorem d_PA_statement_149 : decode prog_6_method_5_code 149 = .ok (.invokevirtual 72, 3) := by decide +kernel
theorem d_PA_statement_152 : decode prog_6_method_5_code 152 = .ok (.return_, 1) := by decide +kernel
theorem d_PA_variable_0 : decode prog_6_method_6_code 0 = .ok (.iconst 3, 1) := by decide +kernel
theorem d_PA_variable_1 : decode prog_6_method_6_code 1 = .ok (.istore_n 2, 1) := by decide +kernel
theorem d_PA_variable_2 : decode prog_6_method_6_code 2 = .ok (.aload_n 0, 1) := by decide +kernel
theorem d_PA_variable_3 : decode prog_6_method_6_code 3 = .ok (.iconst 5, 1) := by decide +kernel
theorem d_PA_variable_4 : decode prog_6_method_6_code 4 = .ok (.invokevirtual 56, 3) := by decide +kernel
theorem d_PA_variable_7 : decode prog_6_method_6_code 7 = .ok (.aload_n 0, 1) := by decide +kernel
theorem d_PA_variable_8 : decode prog_6_method_6_code 8 = .ok (.invokevirtual 59, 3) := by decide +kernel
theorem d_PA_variable_11 : decode prog_6_method_6_code 11 = .ok (.aload_n 0, 1) := by decide +kernel
theorem d_PA_variable_12 : decode prog_6_method_6_code 12 = .ok (.bipush 20, 2) := by decide +kernel
theorem d_PA_variable_14 : decode prog_6_method_6_code 14 = .ok (.invokevirtual 65, 3) := by decide +kernel
theorem d_PA_variable_17 : decode prog_6_method_6_code 17 = .ok (.ifCond .eq 13, 3) := by decide +kernel
theorem d_PA_variable_20 : decode prog_6_method_6_code 20 = .ok (.aload_n 0, 1) := by decide +kernel
theorem d_PA_variable_21 : decode prog_6_method_6_code 21 = .ok (.iload_n 1, 1) := by decide +kernel
theorem d_PA_variable_22 : decode prog_6_method_6_code 22 = .ok (.iconst 1, 1) := by decide +kernel
theorem d_PA_variable_23 : decode prog_6_method_6_code 23 = .ok (.iadd, 1) := by decide +kernel
theorem d_PA_variable_24 : decode prog_6_method_6_code 24 = .ok (.invokevirtual 98, 3) := by decide +kernel
theorem d_PA_variable_27 : decode prog_6_method_6_code 27 = .ok (.goto 25, 3) := by decide +kernel
theorem d_PA_variable_30 : decode prog_6_method_6_code 30 = .ok (.aload_n 0, 1) := by decide +kernel
theorem d_PA_variable_31 : decode prog_6_method_6_code 31 = .ok (.bipush 16, 2) := by decide +kernel
theorem d_PA_variable_33 : decode prog_6_method_6_code 33 = .ok (.invokevirtual 65, 3) := by decide +kernel
theorem d_PA_variable_36 : decode prog_6_method_6_code 36 = .ok (.ifCond .eq 16, 3) := by decide +kernel
theorem d_PA_variable_39 : decode prog_6_method_6_code 39 = .ok (.aload_n 0, 1) := by decide +kernel
theorem d_PA_variable_40 : decode prog_6_method_6_code 40 = .ok (.iconst 0, 1) := by decide +kernel
theorem d_PA_variable_41 : decode prog_6_method_6_code 41 = .ok (.invokevirtual 101, 3) := by decide +kernel
theorem d_PA_variable_44 : decode prog_6_method_6_code 44 = .ok (.aload_n 0, 1) := by decide +kernel
theorem d_PA_variable_45 : decode prog_6_method_6_code 45 = .ok (.bipush 17, 2) := by decide +kernel
theorem d_PA_variable_47 : decode prog_6_method_6_code 47 = .ok (.invokevirtual 56, 3) := by decide +kernel
theorem d_PA_variable_50 : decode prog_6_method_6_code 50 = .ok (.iconst 4, 1) := by decide +kernel
theorem d_PA_variable_51 : decode prog_6_method_6_code 51 = .ok (.istore_n 2, 1) := by decide +kernel
theorem d_PA_variable_52 : decode prog_6_method_6_code 52 = .ok (.aload_n 0, 1) := by decide +kernel
theorem d_PA_variable_53 : decode prog_6_method_6_code 53 = .ok (.bipush 19, 2) := by decide +kernel
theorem d_PA_variable_55 : decode prog_6_method_6_code 55 = .ok (.invokevirtual 56, 3) := by decide +kernel
theorem d_PA_variable_58 : decode prog_6_method_6_code 58 = .ok (.iload_n 2, 1) := by decide +kernel
theorem d_PA_variable_59 : decode prog_6_method_6_code 59 = .ok (.ireturn, 1) := by decide +kernel
theorem d_PA_isCall_0 : decode prog_6_method_7_code 0 = .ok (.aload_n 0, 1) := by decide +kernel
theorem d_PA_isCall_1 : decode prog_6_method_7_code 1 = .ok (.getfield 15, 3) := by decide +kernel
theorem d_PA_isCall_4 : decode prog_6_method_7_code 4 = .ok (.aload_n 0, 1) := by decide +kernel
theorem d_PA_isCall_5 : decode prog_6_method_7_code 5 = .ok (.getfield 9, 3) := by decide +kernel
theorem d_PA_isCall_8 : decode prog_6_method_7_code 8 = .ok (.iconst 1, 1) := by decide +kernel
theorem d_PA_isCall_9 : decode prog_6_method_7_code 9 = .ok (.iadd, 1) := by decide +kernel
theorem d_PA_isCall_10 : decode prog_6_method_7_code 10 = .ok (.invokevirtual 62, 3) := by decide +kernel
theorem d_PA_isCall_13 : decode prog_6_method_7_code 13 = .ok (.istore_n 1, 1) := by decide +kernel
theorem d_PA_isCall_14 : decode prog_6_method_7_code 14 = .ok (.iload_n 1, 1) := by decide +kernel
theorem d_PA_isCall_15 : decode prog_6_method_7_code 15 = .ok (.bipush 12, 2) := by decide +kernel
theorem d_PA_isCall_17 : decode prog_6_method_7_code 17 = .ok (.if_icmp .eq 44, 3) := by decide +kernel
theorem d_PA_isCall_20 : decode prog_6_method_7_code 20 = .ok (.iload_n 1, 1) := by decide +kernel
theorem d_PA_isCall_21 : decode prog_6_method_7_code 21 = .ok (.bipush 20, 2) := by decide +kernel
theorem d_PA_isCall_23 : decode prog_6_method_7_code 23 = .ok (.if_icmp .ne 42, 3) := by decide +kernel
theorem d_PA_isCall_26 : decode prog_6_method_7_code 26 = .ok (.aload_n 0, 1) := by decide +kernel
theorem d_PA_isCall_27 : decode prog_6_method_7_code 27 = .ok (.getfield 15, 3) := by decide +kernel
theorem d_PA_isCall_30 : decode prog_6_method_7_code 30 = .ok (.aload_n 0, 1) := by decide +kernel
theorem d_PA_isCall_31 : decode prog_6_method_7_code 31 = .ok (.getfield 9, 3) := by decide +kernel
theorem d_PA_isCall_34 : decode prog_6_method_7_code 34 = .ok (.iconst 2, 1) := by decide +kernel
theorem d_PA_isCall_35 : decode prog_6_method_7_code 35 = .ok (.iadd, 1) := by decide +kernel
theorem d_PA_isCall_36 : decode prog_6_method_7_code 36 = .ok (.invokevirtual 62, 3) := by decide +kernel
theorem d_PA_isCall_39 : decode prog_6_method_7_code 39 = .ok (.iconst 2, 1) := by decide +kernel
theorem d_PA_isCall_40 : decode prog_6_method_7_code 40 = .ok (.if_icmp .ne 25, 3) := by decide +kernel
theorem d_PA_isCall_43 : decode prog_6_method_7_code 43 = .ok (.aload_n 0, 1) := by decide +kernel
theorem d_PA_isCall_44 : decode prog_6_method_7_code 44 = .ok (.getfield 15, 3) := by decide +kernel
theorem d_PA_isCall_47 : decode prog_6_method_7_code 47 = .ok (.aload_n 0, 1) := by decide +kernel
theorem d_PA_isCall_48 : decode prog_6_method_7_code 48 = .ok (.getfield 9, 3) := by decide +kernel
theorem d_PA_isCall_51 : decode prog_6_method_7_code 51 = .ok (.iconst 3, 1) := by decide +kernel
theorem d_PA_isCall_52 : decode prog_6_method_7_code 52 = .ok (.iadd, 1) := by decide +kernel
theorem d_PA_isCall_53 : decode prog_6_method_7_code 53 = .ok (.invokevirtual 62, 3) := by decide +kernel
theorem d_PA_isCall_56 : decode prog_6_method_7_code 56 = .ok (.bipush 12, 2) := by decide +kernel
theorem d_PA_isCall_58 : decode prog_6_method_7_code 58 = .ok (.if_icmp .ne 7, 3) := by decide +kernel
theorem d_PA_isCall_61 : decode prog_6_method_7_code 61 = .ok (.iconst 1, 1) := by decide +kernel
theorem d_PA_isCall_62 : decode prog_6_method_7_code 62 = .ok (.goto 4, 3) := by decide +kernel
theorem d_PA_isCall_65 : decode prog_6_method_7_code 65 = .ok (.iconst 0, 1) := by decide +kernel
theorem d_PA_isCall_66 : decode prog_6_method_7_code 66 = .ok (.ireturn, 1) := by decide +kernel
theorem d_PA_call_0 : decode prog_6_method_8_code 0 = .ok (.aload_n 0, 1) := by decide +kernel
theorem d_PA_call_1 : decode prog_6_method_8_code 1 = .ok (.getfield 15, 3) := by decide +kernel
theorem d_PA_call_4 : decode prog_6_method_8_code 4 = .ok (.aload_n 0, 1) := by decide +kernel
theorem d_PA_call_5 : decode prog_6_method_8_code 5 = .ok (.getfield 9, 3) := by decide +kernel
theorem d_PA_call_8 : decode prog_6_method_8_code 8 = .ok (.iconst 1, 1) := by decide +kernel
theorem d_PA_call_9 : decode prog_6_method_8_code 9 = .ok (.iadd, 1) := by decide +kernel
theorem d_PA_call_10 : decode prog_6_method_8_code 10 = .ok (.invokevirtual 62, 3) := by decide +kernel
theorem d_PA_call_13 : decode prog_6_method_8_code 13 = .ok (.bipush 12, 2) := by decide +kernel
theorem d_PA_call_15 : decode prog_6_method_8_code 15 = .ok (.if_icmp .ne 28, 3) := by decide +kernel
theorem d_PA_call_18 : decode prog_6_method_8_code 18 = .ok (.aload_n 0, 1) := by decide +kernel
theorem d_PA_call_19 : decode prog_6_method_8_code 19 = .ok (.getfield 19, 3) := by decide +kernel
theorem d_PA_call_22 : decode prog_6_method_8_code 22 = .ok (.bipush 33, 2) := by decide +kernel
theorem d_PA_call_24 : decode prog_6_method_8_code 24 = .ok (.aload_n 0, 1) := by decide +kernel
theorem d_PA_call_25 : decode prog_6_method_8_code 25 = .ok (.getfield 15, 3) := by decide +kernel
theorem d_PA_call_28 : decode prog_6_method_8_code 28 = .ok (.aload_n 0, 1) := by decide +kernel
theorem d_PA_call_29 : decode prog_6_method_8_code 29 = .ok (.getfield 9, 3) := by decide +kernel
theorem d_PA_call_32 : decode prog_6_method_8_code 32 = .ok (.invokevirtual 46, 3) := by decide +kernel
theorem d_PA_call_35 : decode prog_6_method_8_code 35 = .ok (.iconst 0, 1) := by decide +kernel
theorem d_PA_call_36 : decode prog_6_method_8_code 36 = .ok (.iconst 1, 1) := by decide +kernel
theorem d_PA_call_37 : decode prog_6_method_8_code 37 = .ok (.invokevirtual 52, 3) := by decide +kernel
theorem d_PA_call_40 : decode prog_6_method_8_code 40 = .ok (.goto 13, 3) := by decide +kernel
theorem d_PA_call_43 : decode prog_6_method_8_code 43 = .ok (.aload_n 0, 1) := by decide +kernel
theorem d_PA_call_44 : decode prog_6_method_8_code 44 = .ok (.invokevirtual 59, 3) := by decide +kernel
theorem d_PA_call_47 : decode prog_6_method_8_code 47 = .ok (.aload_n 0, 1) := by decide +kernel
theorem d_PA_call_48 : decode prog_6_method_8_code 48 = .ok (.bipush 20, 2) := by decide +kernel
theorem d_PA_call_50 : decode prog_6_method_8_code 50 = .ok (.invokevirtual 56, 3) := by decide +kernel
theorem d_PA_call_53 : decode prog_6_method_8_code 53 = .ok (.aload_n 0, 1) := by decide +kernel
theorem d_PA_call_54 : decode prog_6_method_8_code 54 = .ok (.invokevirtual 59, 3) := by decide +kernel
theorem d_PA_call_57 : decode prog_6_method_8_code 57 = .ok (.aload_n 0, 1) := by decide +kernel
theorem d_PA_call_58 : decode prog_6_method_8_code 58 = .ok (.bipush 12, 2) := by decide +kernel
theorem d_PA_call_60 : decode prog_6_method_8_code 60 = .ok (.invokevirtual 56, 3) := by decide +kernel
theorem d_PA_call_63 : decode prog_6_method_8_code 63 = .ok (.aload_n 0, 1) := by decide +kernel
theorem d_PA_call_64 : decode prog_6_method_8_code 64 = .ok (.getfield 15, 3) := by decide +kernel
theorem d_PA_call_67 : decode prog_6_method_8_code 67 = .ok (.aload_n 0, 1) := by decide +kernel
theorem d_PA_call_68 : decode prog_6_method_8_code 68 = .ok (.getfield 9, 3) := by decide +kernel
theorem d_PA_call_71 : decode prog_6_method_8_code 71 = .ok (.invokevirtual 62, 3) := by decide +kernel
theorem d_PA_call_74 : decode prog_6_method_8_code 74 = .ok (.bipush 13, 2) := by decide +kernel
theorem d_PA_call_76 : decode prog_6_method_8_code 76 = .ok (.if_icmp .eq 45, 3) := by decide +kernel
theorem d_PA_call_79 : decode prog_6_method_8_code 79 = .ok (.aload_n 0, 1) := by decide +kernel
theorem d_PA_call_80 : decode prog_6_method_8_code 80 = .ok (.iload_n 1, 1) := by decide +kernel
theorem d_PA_call_81 : decode prog_6_method_8_code 81 = .ok (.iconst 1, 1) := by decide +kernel
theorem d_PA_call_82 : decode prog_6_method_8_code 82 = .ok (.iadd, 1) := by decide +kernel
theorem d_PA_call_83 : decode prog_6_method_8_code 83 = .ok (.invokevirtual 98, 3) := by decide +kernel
theorem d_PA_call_86 : decode prog_6_method_8_code 86 = .ok (.iconst 0, 1) := by decide +kernel
theorem d_PA_call_87 : decode prog_6_method_8_code 87 = .ok (.istore_n 2, 1) := by decide +kernel
theorem d_PA_call_88 : decode prog_6_method_8_code 88 = .ok (.iload_n 2, 1) := by decide +kernel
theorem d_PA_call_89 : decode prog_6_method_8_code 89 = .ok (.aload_n 0, 1) := by decide +kernel
theorem d_PA_call_90 : decode prog_6_method_8_code 90 = .ok (.getfield 15, 3) := by decide +kernel
theorem d_PA_call_93 : decode prog_6_method_8_code 93 = .ok (.getfield 23, 3) := by decide +kernel
theorem d_PA_call_96 : decode prog_6_method_8_code 96 = .ok (.if_icmp .ge 25, 3) := by decide +kernel
theorem d_PA_call_99 : decode prog_6_method_8_code 99 = .ok (.aload_n 0, 1) := by decide +kernel
theorem d_PA_call_100 : decode prog_6_method_8_code 100 = .ok (.bipush 18, 2) := by decide +kernel
theorem d_PA_call_102 : decode prog_6_method_8_code 102 = .ok (.invokevirtual 65, 3) := by decide +kernel
theorem d_PA_call_105 : decode prog_6_method_8_code 105 = .ok (.ifCond .eq 16, 3) := by decide +kernel
theorem d_PA_call_108 : decode prog_6_method_8_code 108 = .ok (.aload_n 0, 1) := by decide +kernel
theorem d_PA_call_109 : decode prog_6_method_8_code 109 = .ok (.iload_n 1, 1) := by decide +kernel
theorem d_PA_call_110 : decode prog_6_method_8_code 110 = .ok (.iconst 1, 1) := by decide +kernel
theorem d_PA_call_111 : decode prog_6_method_8_code 111 = .ok (.iadd, 1) := by decide +kernel
theorem d_PA_call_112 : decode prog_6_method_8_code 112 = .ok (.invokevirtual 98, 3) := by decide +kernel
theorem d_PA_call_115 : decode prog_6_method_8_code 115 = .ok (.iinc 2 1, 3) := by decide +kernel
theorem d_PA_call_118 : decode prog_6_method_8_code 118 = .ok (.goto (-30), 3) := by decide +kernel
theorem d_PA_call_121 : decode prog_6_method_8_code 121 = .ok (.aload_n 0, 1) := by decide +kernel
theorem d_PA_call_122 : decode prog_6_method_8_code 122 = .ok (.bipush 13, 2) := by decide +kernel
theorem d_PA_call_124 : decode prog_6_method_8_code 124 = .ok (.invokevirtual 56, 3) := by decide +kernel
theorem d_PA_call_127 : decode prog_6_method_8_code 127 = .ok (.aload_n 0, 1) := by decide +kernel
theorem d_PA_call_128 : decode prog_6_method_8_code 128 = .ok (.bipush 19, 2) := by decide +kernel
theorem d_PA_call_130 : decode prog_6_method_8_code 130 = .ok (.invokevirtual 56, 3) := by decide +kernel
theorem d_PA_call_133 : decode prog_6_method_8_code 133 = .ok (.bipush 7, 2) := by decide +kernel
theorem d_PA_call_135 : decode prog_6_method_8_code 135 = .ok (.ireturn, 1) := by decide +kernel
theorem d_PA_assignment_0 : decode prog_6_method_9_code 0 = .ok (.iconst 5, 1) := by decide +kernel
theorem d_PA_assignment_1 : decode prog_6_method_9_code 1 = .ok (.istore_n 2, 1) := by decide +kernel
theorem d_PA_assignment_2 : decode prog_6_method_9_code 2 = .ok (.aload_n 0, 1) := by decide +kernel
theorem d_PA_assignment_3 : decode prog_6_method_9_code 3 = .ok (.invokevirtual 59, 3) := by decide +kernel
theorem d_PA_assignment_6 : decode prog_6_method_9_code 6 = .ok (.aload_n 0, 1) := by decide +kernel
theorem d_PA_assignment_7 : decode prog_6_method_9_code 7 = .ok (.bipush 16, 2) := by decide +kernel
theorem d_PA_assignment_9 : decode prog_6_method_9_code 9 = .ok (.invokevirtual 65, 3) := by decide +kernel
theorem d_PA_assignment_12 : decode prog_6_method_9_code 12 = .ok (.ifCond .eq 19, 3) := by decide +kernel
theorem d_PA_assignment_15 : decode prog_6_method_9_code 15 = .ok (.aload_n 0, 1) := by decide +kernel
theorem d_PA_assignment_16 : decode prog_6_method_9_code 16 = .ok (.iload_n 1, 1) := by decide +kernel
theorem d_PA_assignment_17 : decode prog_6_method_9_code 17 = .ok (.iconst 1, 1) := by decide +kernel
theorem d_PA_assignment_18 : decode prog_6_method_9_code 18 = .ok (.iadd, 1) := by decide +kernel
theorem d_PA_assignment_19 : decode prog_6_method_9_code 19 = .ok (.invokevirtual 98, 3) := by decide +kernel
theorem d_PA_assignment_22 : decode prog_6_method_9_code 22 = .ok (.aload_n 0, 1) := by decide +kernel
theorem d_PA_assignment_23 : decode prog_6_method_9_code 23 = .ok (.bipush 17, 2) := by decide +kernel
theorem d_PA_assignment_25 : decode prog_6_method_9_code 25 = .ok (.invokevirtual 56, 3) := by decide +kernel
theorem d_PA_assignment_28 : decode prog_6_method_9_code 28 = .ok (.bipush 6, 2) := by decide +kernel
theorem d_PA_assignment_30 : decode prog_6_method_9_code 30 = .ok (.istore_n 2, 1) := by decide +kernel
theorem d_PA_assignment_31 : decode prog_6_method_9_code 31 = .ok (.aload_n 0, 1) := by decide +kernel
theorem d_PA_assignment_32 : decode prog_6_method_9_code 32 = .ok (.bipush 20, 2) := by decide +kernel
theorem d_PA_assignment_34 : decode prog_6_method_9_code 34 = .ok (.invokevirtual 56, 3) := by decide +kernel
theorem d_PA_assignment_37 : decode prog_6_method_9_code 37 = .ok (.aload_n 0, 1) := by decide +kernel
theorem d_PA_assignment_38 : decode prog_6_method_9_code 38 = .ok (.iload_n 1, 1) := by decide +kernel
theorem d_PA_assignment_39 : decode prog_6_method_9_code 39 = .ok (.iconst 1, 1) := by decide +kernel
theorem d_PA_assignment_40 : decode prog_6_method_9_code 40 = .ok (.iadd, 1) := by decide +kernel
theorem d_PA_assignment_41 : decode prog_6_method_9_code 41 = .ok (.invokevirtual 98, 3) := by decide +kernel
theorem d_PA_assignment_44 : decode prog_6_method_9_code 44 = .ok (.aload_n 0, 1) := by decide +kernel
theorem d_PA_assignment_45 : decode prog_6_method_9_code 45 = .ok (.bipush 19, 2) := by decide +kernel
theorem d_PA_assignment_47 : decode prog_6_method_9_code 47 = .ok (.invokevirtual 56, 3) := by decide +kernel
theorem d_PA_assignment_50 : decode prog_6_method_9_code 50 = .ok (.iload_n 2, 1) := by decide +kernel
theorem d_PA_assignment_51 : decode prog_6_method_9_code 51 = .ok (.ireturn, 1) := by decide +kernel
theorem d_PA_conditional_0 : decode prog_6_method_10_code 0 = .ok (.aload_n 0, 1) := by decide +kernel
theorem d_PA_conditional_1 : decode prog_6_method_10_code 1 = .ok (.getfield 15, 3) := by decide +kernel
theorem d_PA_conditional_4 : decode prog_6_method_10_code 4 = .ok (.aload_n 0, 1) := by decide +kernel
theorem d_PA_conditional_5 : decode prog_6_method_10_code 5 = .ok (.getfield 9, 3) := by decide +kernel
theorem d_PA_conditional_8 : decode prog_6_method_10_code 8 = .ok (.invokevirtual 62, 3) := by decide +kernel
theorem d_PA_conditional_11 : decode prog_6_method_10_code 11 = .ok (.istore_n 2, 1) := by decide +kernel
theorem d_PA_conditional_12 : decode prog_6_method_10_code 12 = .ok (.aload_n 0, 1) := by decide +kernel
theorem d_PA_conditional_13 : decode prog_6_method_10_code 13 = .ok (.iload_n 2, 1) := by decide +kernel
theorem d_PA_conditional_14 : decode prog_6_method_10_code 14 = .ok (.invokevirtual 56, 3) := by decide +kernel
theorem d_PA_conditional_17 : decode prog_6_method_10_code 17 = .ok (.aload_n 0, 1) := by decide +kernel
theorem d_PA_conditional_18 : decode prog_6_method_10_code 18 = .ok (.iload_n 1, 1) := by decide +kernel
theorem d_PA_conditional_19 : decode prog_6_method_10_code 19 = .ok (.iconst 1, 1) := by decide +kernel
theorem d_PA_conditional_20 : decode prog_6_method_10_code 20 = .ok (.iadd, 1) := by decide +kernel
theorem d_PA_conditional_21 : decode prog_6_method_10_code 21 = .ok (.bipush 12, 2) := by decide +kernel
theorem d_PA_conditional_23 : decode prog_6_method_10_code 23 = .ok (.bipush 13, 2) := by decide +kernel
theorem d_PA_conditional_25 : decode prog_6_method_10_code 25 = .ok (.invokevirtual 105, 3) := by decide +kernel
theorem d_PA_conditional_28 : decode prog_6_method_10_code 28 = .ok (.iload_n 2, 1) := by decide +kernel
theorem d_PA_conditional_29 : decode prog_6_method_10_code 29 = .ok (.bipush 9, 2) := by decide +kernel
theorem d_PA_conditional_31 : decode prog_6_method_10_code 31 = .ok (.if_icmp .ne 12, 3) := by decide +kernel
theorem d_PA_conditional_34 : decode prog_6_method_10_code 34 = .ok (.aload_n 0, 1) := by decide +kernel
theorem d_PA_conditional_35 : decode prog_6_method_10_code 35 = .ok (.bipush 19, 2) := by decide +kernel
theorem d_PA_conditional_37 : decode prog_6_method_10_code 37 = .ok (.invokevirtual 56, 3) := by decide +kernel
theorem d_PA_conditional_40 : decode prog_6_method_10_code 40 = .ok (.bipush 10, 2) := by decide +kernel
theorem d_PA_conditional_42 : decode prog_6_method_10_code 42 = .ok (.ireturn, 1) := by decide +kernel
theorem d_PA_conditional_43 : decode prog_6_method_10_code 43 = .ok (.aload_n 0, 1) := by decide +kernel
theorem d_PA_conditional_44 : decode prog_6_method_10_code 44 = .ok (.iload_n 1, 1) := by decide +kernel
theorem d_PA_conditional_45 : decode prog_6_method_10_code 45 = .ok (.iconst 1, 1) := by decide +kernel
theorem d_PA_conditional_46 : decode prog_6_method_10_code 46 = .ok (.iadd, 1) := by decide +kernel
theorem d_PA_conditional_47 : decode prog_6_method_10_code 47 = .ok (.invokevirtual 69, 3) := by decide +kernel
theorem d_PA_conditional_50 : decode prog_6_method_10_code 50 = .ok (.iload_n 2, 1) := by decide +kernel
theorem d_PA_conditional_51 : decode prog_6_method_10_code 51 = .ok (.bipush 8, 2) := by decide +kernel
theorem d_PA_conditional_53 : decode prog_6_method_10_code 53 = .ok (.if_icmp .ne 6, 3) := by decide +kernel
theorem d_PA_conditional_56 : decode prog_6_method_10_code 56 = .ok (.bipush 9, 2) := by decide +kernel
theorem d_PA_conditional_58 : decode prog_6_method_10_code 58 = .ok (.ireturn, 1) := by decide +kernel
theorem d_PA_conditional_59 : decode prog_6_method_10_code 59 = .ok (.aload_n 0, 1) := by decide +kernel
theorem d_PA_conditional_60 : decode prog_6_method_10_code 60 = .ok (.bipush 7, 2) := by decide +kernel
theorem d_PA_conditional_62 : decode prog_6_method_10_code 62 = .ok (.invokevirtual 65, 3) := by decide +kernel
theorem d_PA_conditional_65 : decode prog_6_method_10_code 65 = .ok (.ifCond .eq 10, 3) := by decide +kernel
theorem d_PA_conditional_68 : decode prog_6_method_10_code 68 = .ok (.aload_n 0, 1) := by decide +kernel
theorem d_PA_conditional_69 : decode prog_6_method_10_code 69 = .ok (.iload_n 1, 1) := by decide +kernel
theorem d_PA_conditional_70 : decode prog_6_method_10_code 70 = .ok (.iconst 1, 1) := by decide +kernel
theorem d_PA_conditional_71 : decode prog_6_method_10_code 71 = .ok (.iadd, 1) := by decide +kernel
theorem d_PA_conditional_72 : decode prog_6_method_10_code 72 = .ok (.invokevirtual 69, 3) := by decide +kernel
theorem d_PA_conditional_75 : decode prog_6_method_10_code 75 = .ok (.bipush 8, 2) := by decide +kernel
theorem d_PA_conditional_77 : decode prog_6_method_10_code 77 = .ok (.ireturn, 1) := by decide +kernel
theorem d_PA_condition_0 : decode prog_6_method_11_code 0 = .ok (.aload_n 0, 1) := by decide +kernel
theorem d_PA_condition_1 : decode prog_6_method_11_code 1 = .ok (.iload_n 2, 1) := by decide +kernel
theorem d_PA_condition_2 : decode prog_6_method_11_code 2 = .ok (.invokevirtual 56, 3) := by decide +kernel
theorem d_PA_condition_5 : decode prog_6_method_11_code 5 = .ok (.aload_n 0, 1) := by decide +kernel
theorem d_PA_condition_6 : decode prog_6_method_11_code 6 = .ok (.iload_n 1, 1) := by decide +kernel
theorem d_PA_condition_7 : decode prog_6_method_11_code 7 = .ok (.invokevirtual 76, 3) := by decide +kernel
theorem d_PA_condition_10 : decode prog_6_method_11_code 10 = .ok (.aload_n 0, 1) := by decide +kernel
theorem d_PA_condition_11 : decode prog_6_method_11_code 11 = .ok (.getfield 19, 3) := by decide +kernel
theorem d_PA_condition_14 : decode prog_6_method_11_code 14 = .ok (.getfield 43, 3) := by decide +kernel
theorem d_PA_condition_17 : decode prog_6_method_11_code 17 = .ok (.istore 4, 2) := by decide +kernel
theorem d_PA_condition_19 : decode prog_6_method_11_code 19 = .ok (.aload_n 0, 1) := by decide +kernel
theorem d_PA_condition_20 : decode prog_6_method_11_code 20 = .ok (.iload_n 1, 1) := by decide +kernel
theorem d_PA_condition_21 : decode prog_6_method_11_code 21 = .ok (.invokevirtual 108, 3) := by decide +kernel
theorem d_PA_condition_24 : decode prog_6_method_11_code 24 = .ok (.aload_n 0, 1) := by decide +kernel
theorem d_PA_condition_25 : decode prog_6_method_11_code 25 = .ok (.getfield 19, 3) := by decide +kernel
theorem d_PA_condition_28 : decode prog_6_method_11_code 28 = .ok (.invokevirtual 111, 3) := by decide +kernel
theorem d_PA_condition_31 : decode prog_6_method_11_code 31 = .ok (.istore 5, 2) := by decide +kernel
theorem d_PA_condition_33 : decode prog_6_method_11_code 33 = .ok (.iconst 0, 1) := by decide +kernel
theorem d_PA_condition_34 : decode prog_6_method_11_code 34 = .ok (.istore 6, 2) := by decide +kernel
theorem d_PA_condition_36 : decode prog_6_method_11_code 36 = .ok (.iload 6, 2) := by decide +kernel
theorem d_PA_condition_38 : decode prog_6_method_11_code 38 = .ok (.aload_n 0, 1) := by decide +kernel
theorem d_PA_condition_39 : decode prog_6_method_11_code 39 = .ok (.getfield 15, 3) := by decide +kernel
theorem d_PA_condition_42 : decode prog_6_method_11_code 42 = .ok (.getfield 23, 3) := by decide +kernel
theorem d_PA_condition_45 : decode prog_6_method_11_code 45 = .ok (.if_icmp .ge 23, 3) := by decide +kernel
theorem d_PA_condition_48 : decode prog_6_method_11_code 48 = .ok (.aload_n 0, 1) := by decide +kernel
theorem d_PA_condition_49 : decode prog_6_method_11_code 49 = .ok (.bipush 34, 2) := by decide +kernel
theorem d_PA_condition_51 : decode prog_6_method_11_code 51 = .ok (.invokevirtual 65, 3) := by decide +kernel
theorem d_PA_condition_54 : decode prog_6_method_11_code 54 = .ok (.ifCond .eq 14, 3) := by decide +kernel
theorem d_PA_condition_57 : decode prog_6_method_11_code 57 = .ok (.aload_n 0, 1) := by decide +kernel
theorem d_PA_condition_58 : decode prog_6_method_11_code 58 = .ok (.iload_n 1, 1) := by decide +kernel
theorem d_PA_condition_59 : decode prog_6_method_11_code 59 = .ok (.invokevirtual 108, 3) := by decide +kernel
theorem d_PA_condition_62 : decode prog_6_method_11_code 62 = .ok (.iinc 6 1, 3) := by decide +kernel
theorem d_PA_condition_65 : decode prog_6_method_11_code 65 = .ok (.goto (-29), 3) := by decide +kernel
theorem d_PA_condition_68 : decode prog_6_method_11_code 68 = .ok (.iload 6, 2) := by decide +kernel
theorem d_PA_condition_70 : decode prog_6_method_11_code 70 = .ok (.ifCond .le 13, 3) := by decide +kernel
theorem d_PA_condition_73 : decode prog_6_method_11_code 73 = .ok (.aload_n 0, 1) := by decide +kernel
theorem d_PA_condition_74 : decode prog_6_method_11_code 74 = .ok (.bipush 24, 2) := by decide +kernel
theorem d_PA_condition_76 : decode prog_6_method_11_code 76 = .ok (.iload 5, 2) := by decide +kernel
theorem d_PA_condition_78 : decode prog_6_method_11_code 78 = .ok (.iload 4, 2) := by decide +kernel
theorem d_PA_condition_80 : decode prog_6_method_11_code 80 = .ok (.invokevirtual 72, 3) := by decide +kernel
theorem d_PA_condition_83 : decode prog_6_method_11_code 83 = .ok (.aload_n 0, 1) := by decide +kernel
theorem d_PA_condition_84 : decode prog_6_method_11_code 84 = .ok (.iload_n 3, 1) := by decide +kernel
theorem d_PA_condition_85 : decode prog_6_method_11_code 85 = .ok (.invokevirtual 56, 3) := by decide +kernel
theorem d_PA_condition_88 : decode prog_6_method_11_code 88 = .ok (.return_, 1) := by decide +kernel
theorem d_PA_both_0 : decode prog_6_method_12_code 0 = .ok (.aload_n 0, 1) := by decide +kernel
theorem d_PA_both_1 : decode prog_6_method_12_code 1 = .ok (.getfield 19, 3) := by decide +kernel
theorem d_PA_both_4 : decode prog_6_method_12_code 4 = .ok (.getfield 43, 3) := by decide +kernel
theorem d_PA_both_7 : decode prog_6_method_12_code 7 = .ok (.istore_n 2, 1) := by decide +kernel
theorem d_PA_both_8 : decode prog_6_method_12_code 8 = .ok (.aload_n 0, 1) := by decide +kernel
theorem d_PA_both_9 : decode prog_6_method_12_code 9 = .ok (.iload_n 1, 1) := by decide +kernel
theorem d_PA_both_10 : decode prog_6_method_12_code 10 = .ok (.invokevirtual 115, 3) := by decide +kernel
theorem d_PA_both_13 : decode prog_6_method_12_code 13 = .ok (.aload_n 0, 1) := by decide +kernel
theorem d_PA_both_14 : decode prog_6_method_12_code 14 = .ok (.getfield 19, 3) := by decide +kernel
theorem d_PA_both_17 : decode prog_6_method_12_code 17 = .ok (.invokevirtual 111, 3) := by decide +kernel
theorem d_PA_both_20 : decode prog_6_method_12_code 20 = .ok (.istore_n 3, 1) := by decide +kernel
theorem d_PA_both_21 : decode prog_6_method_12_code 21 = .ok (.iconst 0, 1) := by decide +kernel
theorem d_PA_both_22 : decode prog_6_method_12_code 22 = .ok (.istore 4, 2) := by decide +kernel
theorem d_PA_both_24 : decode prog_6_method_12_code 24 = .ok (.iload 4, 2) := by decide +kernel
theorem d_PA_both_26 : decode prog_6_method_12_code 26 = .ok (.aload_n 0, 1) := by decide +kernel
theorem d_PA_both_27 : decode prog_6_method_12_code 27 = .ok (.getfield 15, 3) := by decide +kernel
theorem d_PA_both_30 : decode prog_6_method_12_code 30 = .ok (.getfield 23, 3) := by decide +kernel
theorem d_PA_both_33 : decode prog_6_method_12_code 33 = .ok (.if_icmp .ge 23, 3) := by decide +kernel
theorem d_PA_both_36 : decode prog_6_method_12_code 36 = .ok (.aload_n 0, 1) := by decide +kernel
theorem d_PA_both_37 : decode prog_6_method_12_code 37 = .ok (.bipush 33, 2) := by decide +kernel
theorem d_PA_both_39 : decode prog_6_method_12_code 39 = .ok (.invokevirtual 65, 3) := by decide +kernel
theorem d_PA_both_42 : decode prog_6_method_12_code 42 = .ok (.ifCond .eq 14, 3) := by decide +kernel
theorem d_PA_both_45 : decode prog_6_method_12_code 45 = .ok (.aload_n 0, 1) := by decide +kernel
theorem d_PA_both_46 : decode prog_6_method_12_code 46 = .ok (.iload_n 1, 1) := by decide +kernel
theorem d_PA_both_47 : decode prog_6_method_12_code 47 = .ok (.invokevirtual 115, 3) := by decide +kernel
theorem d_PA_both_50 : decode prog_6_method_12_code 50 = .ok (.iinc 4 1, 3) := by decide +kernel
theorem d_PA_both_53 : decode prog_6_method_12_code 53 = .ok (.goto (-29), 3) := by decide +kernel
theorem d_PA_both_56 : decode prog_6_method_12_code 56 = .ok (.iload 4, 2) := by decide +kernel
theorem d_PA_both_58 : decode prog_6_method_12_code 58 = .ok (.ifCond .le 11, 3) := by decide +kernel
theorem d_PA_both_61 : decode prog_6_method_12_code 61 = .ok (.aload_n 0, 1) := by decide +kernel
theorem d_PA_both_62 : decode prog_6_method_12_code 62 = .ok (.bipush 25, 2) := by decide +kernel
theorem d_PA_both_64 : decode prog_6_method_12_code 64 = .ok (.iload_n 3, 1) := by decide +kernel
theorem d_PA_both_65 : decode prog_6_method_12_code 65 = .ok (.iload_n 2, 1) := by decide +kernel
theorem d_PA_both_66 : decode prog_6_method_12_code 66 = .ok (.invokevirtual 72, 3) := by decide +kernel
theorem d_PA_both_69 : decode prog_6_method_12_code 69 = .ok (.return_, 1) := by decide +kernel
theorem d_PA_test_0 : decode prog_6_method_13_code 0 = .ok (.aload_n 0, 1) := by decide +kernel
theorem d_PA_test_1 : decode prog_6_method_13_code 1 = .ok (.iload_n 1, 1) := by decide +kernel
theorem d_PA_test_2 : decode prog_6_method_13_code 2 = .ok (.invokevirtual 76, 3) := by decide +kernel
theorem d_PA_test_5 : decode prog_6_method_13_code 5 = .ok (.aload_n 0, 1) := by decide +kernel
theorem d_PA_test_6 : decode prog_6_method_13_code 6 = .ok (.getfield 19, 3) := by decide +kernel
theorem d_PA_test_9 : decode prog_6_method_13_code 9 = .ok (.getfield 43, 3) := by decide +kernel
theorem d_PA_test_12 : decode prog_6_method_13_code 12 = .ok (.istore_n 2, 1) := by decide +kernel
theorem d_PA_test_13 : decode prog_6_method_13_code 13 = .ok (.aload_n 0, 1) := by decide +kernel
theorem d_PA_test_14 : decode prog_6_method_13_code 14 = .ok (.getfield 15, 3) := by decide +kernel
theorem d_PA_test_17 : decode prog_6_method_13_code 17 = .ok (.aload_n 0, 1) := by decide +kernel
theorem d_PA_test_18 : decode prog_6_method_13_code 18 = .ok (.getfield 9, 3) := by decide +kernel
theorem d_PA_test_21 : decode prog_6_method_13_code 21 = .ok (.invokevirtual 46, 3) := by decide +kernel
theorem d_PA_test_24 : decode prog_6_method_13_code 24 = .ok (.istore_n 3, 1) := by decide +kernel
theorem d_PA_test_25 : decode prog_6_method_13_code 25 = .ok (.aload_n 0, 1) := by decide +kernel
theorem d_PA_test_26 : decode prog_6_method_13_code 26 = .ok (.bipush 21, 2) := by decide +kernel
theorem d_PA_test_28 : decode prog_6_method_13_code 28 = .ok (.invokevirtual 65, 3) := by decide +kernel
theorem d_PA_test_31 : decode prog_6_method_13_code 31 = .ok (.ifCond .eq 21, 3) := by decide +kernel
theorem d_PA_test_34 : decode prog_6_method_13_code 34 = .ok (.aload_n 0, 1) := by decide +kernel
theorem d_PA_test_35 : decode prog_6_method_13_code 35 = .ok (.iload_n 1, 1) := by decide +kernel
theorem d_PA_test_36 : decode prog_6_method_13_code 36 = .ok (.iconst 1, 1) := by decide +kernel
theorem d_PA_test_37 : decode prog_6_method_13_code 37 = .ok (.iadd, 1) := by decide +kernel
theorem d_PA_test_38 : decode prog_6_method_13_code 38 = .ok (.invokevirtual 115, 3) := by decide +kernel
theorem d_PA_test_41 : decode prog_6_method_13_code 41 = .ok (.aload_n 0, 1) := by decide +kernel
theorem d_PA_test_42 : decode prog_6_method_13_code 42 = .ok (.bipush 26, 2) := by decide +kernel
theorem d_PA_test_44 : decode prog_6_method_13_code 44 = .ok (.iload_n 3, 1) := by decide +kernel
theorem d_PA_test_45 : decode prog_6_method_13_code 45 = .ok (.iload_n 2, 1) := by decide +kernel
theorem d_PA_test_46 : decode prog_6_method_13_code 46 = .ok (.invokevirtual 72, 3) := by decide +kernel
theorem d_PA_test_49 : decode prog_6_method_13_code 49 = .ok (.goto 103, 3) := by decide +kernel
theorem d_PA_test_52 : decode prog_6_method_13_code 52 = .ok (.aload_n 0, 1) := by decide +kernel
theorem d_PA_test_53 : decode prog_6_method_13_code 53 = .ok (.getfield 15, 3) := by decide +kernel
theorem d_PA_test_56 : decode prog_6_method_13_code 56 = .ok (.aload_n 0, 1) := by decide +kernel
theorem d_PA_test_57 : decode prog_6_method_13_code 57 = .ok (.getfield 9, 3) := by decide +kernel
theorem d_PA_test_60 : decode prog_6_method_13_code 60 = .ok (.invokevirtual 62, 3) := by decide +kernel
theorem d_PA_test_63 : decode prog_6_method_13_code 63 = .ok (.bipush 16, 2) := by decide +kernel
theorem d_PA_test_65 : decode prog_6_method_13_code 65 = .ok (.if_icmp .ne 17, 3) := by decide +kernel
theorem d_PA_test_68 : decode prog_6_method_13_code 68 = .ok (.aload_n 0, 1) := by decide +kernel
theorem d_PA_test_69 : decode prog_6_method_13_code 69 = .ok (.iload_n 1, 1) := by decide +kernel
theorem d_PA_test_70 : decode prog_6_method_13_code 70 = .ok (.iconst 1, 1) := by decide +kernel
theorem d_PA_test_71 : decode prog_6_method_13_code 71 = .ok (.iadd, 1) := by decide +kernel
theorem d_PA_test_72 : decode prog_6_method_13_code 72 = .ok (.bipush 16, 2) := by decide +kernel
theorem d_PA_test_74 : decode prog_6_method_13_code 74 = .ok (.bipush 17, 2) := by decide +kernel
theorem d_PA_test_76 : decode prog_6_method_13_code 76 = .ok (.invokevirtual 105, 3) := by decide +kernel
theorem d_PA_test_79 : decode prog_6_method_13_code 79 = .ok (.goto 73, 3) := by decide +kernel
theorem d_PA_test_82 : decode prog_6_method_13_code 82 = .ok (.aload_n 0, 1) := by decide +kernel
theorem d_PA_test_83 : decode prog_6_method_13_code 83 = .ok (.iload_n 1, 1) := by decide +kernel
theorem d_PA_test_84 : decode prog_6_method_13_code 84 = .ok (.iconst 1, 1) := by decide +kernel
theorem d_PA_test_85 : decode prog_6_method_13_code 85 = .ok (.iadd, 1) := by decide +kernel
theorem d_PA_test_86 : decode prog_6_method_13_code 86 = .ok (.invokevirtual 98, 3) := by decide +kernel
theorem d_PA_test_89 : decode prog_6_method_13_code 89 = .ok (.aload_n 0, 1) := by decide +kernel
theorem d_PA_test_90 : decode prog_6_method_13_code 90 = .ok (.getfield 19, 3) := by decide +kernel
theorem d_PA_test_93 : decode prog_6_method_13_code 93 = .ok (.invokevirtual 111, 3) := by decide +kernel
theorem d_PA_test_96 : decode prog_6_method_13_code 96 = .ok (.istore_n 3, 1) := by decide +kernel
theorem d_PA_test_97 : decode prog_6_method_13_code 97 = .ok (.aload_n 0, 1) := by decide +kernel
theorem d_PA_test_98 : decode prog_6_method_13_code 98 = .ok (.getfield 15, 3) := by decide +kernel
theorem d_PA_test_101 : decode prog_6_method_13_code 101 = .ok (.aload_n 0, 1) := by decide +kernel
theorem d_PA_test_102 : decode prog_6_method_13_code 102 = .ok (.getfield 9, 3) := by decide +kernel
theorem d_PA_test_105 : decode prog_6_method_13_code 105 = .ok (.invokevirtual 62, 3) := by decide +kernel
theorem d_PA_test_108 : decode prog_6_method_13_code 108 = .ok (.istore 4, 2) := by decide +kernel
theorem d_PA_test_110 : decode prog_6_method_13_code 110 = .ok (.aload_n 0, 1) := by decide +kernel
theorem d_PA_test_111 : decode prog_6_method_13_code 111 = .ok (.bipush 27, 2) := by decide +kernel
theorem d_PA_test_113 : decode prog_6_method_13_code 113 = .ok (.bipush 32, 2) := by decide +kernel
theorem d_PA_test_115 : decode prog_6_method_13_code 115 = .ok (.invokevirtual 36, 3) := by decide +kernel
theorem d_PA_test_118 : decode prog_6_method_13_code 118 = .ok (.ifCond .ne 7, 3) := by decide +kernel
theorem d_PA_test_121 : decode prog_6_method_13_code 121 = .ok (.aload_n 0, 1) := by decide +kernel
theorem d_PA_test_122 : decode prog_6_method_13_code 122 = .ok (.invokevirtual 118, 3) := by decide +kernel
theorem d_PA_test_125 : decode prog_6_method_13_code 125 = .ok (.aload_n 0, 1) := by decide +kernel
theorem d_PA_test_126 : decode prog_6_method_13_code 126 = .ok (.iload 4, 2) := by decide +kernel
theorem d_PA_test_128 : decode prog_6_method_13_code 128 = .ok (.invokevirtual 56, 3) := by decide +kernel
theorem d_PA_test_131 : decode prog_6_method_13_code 131 = .ok (.aload_n 0, 1) := by decide +kernel
theorem d_PA_test_132 : decode prog_6_method_13_code 132 = .ok (.iload_n 1, 1) := by decide +kernel
theorem d_PA_test_133 : decode prog_6_method_13_code 133 = .ok (.iconst 1, 1) := by decide +kernel
theorem d_PA_test_134 : decode prog_6_method_13_code 134 = .ok (.iadd, 1) := by decide +kernel
theorem d_PA_test_135 : decode prog_6_method_13_code 135 = .ok (.invokevirtual 98, 3) := by decide +kernel
theorem d_PA_test_138 : decode prog_6_method_13_code 138 = .ok (.aload_n 0, 1) := by decide +kernel
theorem d_PA_test_139 : decode prog_6_method_13_code 139 = .ok (.bipush 27, 2) := by decide +kernel
theorem d_PA_test_141 : decode prog_6_method_13_code 141 = .ok (.iload 4, 2) := by decide +kernel
theorem d_PA_test_143 : decode prog_6_method_13_code 143 = .ok (.iadd, 1) := by decide +kernel
theorem d_PA_test_144 : decode prog_6_method_13_code 144 = .ok (.bipush 27, 2) := by decide +kernel
theorem d_PA_test_146 : decode prog_6_method_13_code 146 = .ok (.isub, 1) := by decide +kernel
theorem d_PA_test_147 : decode prog_6_method_13_code 147 = .ok (.iload_n 3, 1) := by decide +kernel
theorem d_PA_test_148 : decode prog_6_method_13_code 148 = .ok (.iload_n 2, 1) := by decide +kernel
theorem d_PA_test_149 : decode prog_6_method_13_code 149 = .ok (.invokevirtual 72, 3) := by decide +kernel
theorem d_PA_test_152 : decode prog_6_method_13_code 152 = .ok (.return_, 1) := by decide +kernel
theorem d_PA_sum_0 : decode prog_6_method_14_code 0 = .ok (.aload_n 0, 1) := by decide +kernel
theorem d_PA_sum_1 : decode prog_6_method_14_code 1 = .ok (.iload_n 1, 1) := by decide +kernel
theorem d_PA_sum_2 : decode prog_6_method_14_code 2 = .ok (.invokevirtual 76, 3) := by decide +kernel
theorem d_PA_sum_5 : decode prog_6_method_14_code 5 = .ok (.aload_n 0, 1) := by decide +kernel
theorem d_PA_sum_6 : decode prog_6_method_14_code 6 = .ok (.getfield 19, 3) := by decide +kernel
theorem d_PA_sum_9 : decode prog_6_method_14_code 9 = .ok (.getfield 43, 3) := by decide +kernel
theorem d_PA_sum_12 : decode prog_6_method_14_code 12 = .ok (.istore_n 2, 1) := by decide +kernel
theorem d_PA_sum_13 : decode prog_6_method_14_code 13 = .ok (.aload_n 0, 1) := by decide +kernel
theorem d_PA_sum_14 : decode prog_6_method_14_code 14 = .ok (.iload_n 1, 1) := by decide +kernel
theorem d_PA_sum_15 : decode prog_6_method_14_code 15 = .ok (.invokevirtual 121, 3) := by decide +kernel
theorem d_PA_sum_18 : decode prog_6_method_14_code 18 = .ok (.aload_n 0, 1) := by decide +kernel
theorem d_PA_sum_19 : decode prog_6_method_14_code 19 = .ok (.getfield 19, 3) := by decide +kernel
theorem d_PA_sum_22 : decode prog_6_method_14_code 22 = .ok (.invokevirtual 111, 3) := by decide +kernel
theorem d_PA_sum_25 : decode prog_6_method_14_code 25 = .ok (.istore_n 3, 1) := by decide +kernel
theorem d_PA_sum_26 : decode prog_6_method_14_code 26 = .ok (.iconst 0, 1) := by decide +kernel
theorem d_PA_sum_27 : decode prog_6_method_14_code 27 = .ok (.istore 4, 2) := by decide +kernel
theorem d_PA_sum_29 : decode prog_6_method_14_code 29 = .ok (.iload 4, 2) := by decide +kernel
theorem d_PA_sum_31 : decode prog_6_method_14_code 31 = .ok (.aload_n 0, 1) := by decide +kernel
theorem d_PA_sum_32 : decode prog_6_method_14_code 32 = .ok (.getfield 15, 3) := by decide +kernel
theorem d_PA_sum_35 : decode prog_6_method_14_code 35 = .ok (.getfield 23, 3) := by decide +kernel
theorem d_PA_sum_38 : decode prog_6_method_14_code 38 = .ok (.if_icmp .ge 82, 3) := by decide +kernel
theorem d_PA_sum_41 : decode prog_6_method_14_code 41 = .ok (.aload_n 0, 1) := by decide +kernel
theorem d_PA_sum_42 : decode prog_6_method_14_code 42 = .ok (.bipush 22, 2) := by decide +kernel
theorem d_PA_sum_44 : decode prog_6_method_14_code 44 = .ok (.bipush 23, 2) := by decide +kernel
theorem d_PA_sum_46 : decode prog_6_method_14_code 46 = .ok (.invokevirtual 36, 3) := by decide +kernel
theorem d_PA_sum_49 : decode prog_6_method_14_code 49 = .ok (.ifCond .eq 71, 3) := by decide +kernel
theorem d_PA_sum_52 : decode prog_6_method_14_code 52 = .ok (.aload_n 0, 1) := by decide +kernel
theorem d_PA_sum_53 : decode prog_6_method_14_code 53 = .ok (.getfield 15, 3) := by decide +kernel
theorem d_PA_sum_56 : decode prog_6_method_14_code 56 = .ok (.aload_n 0, 1) := by decide +kernel
theorem d_PA_sum_57 : decode prog_6_method_14_code 57 = .ok (.getfield 9, 3) := by decide +kernel
theorem d_PA_sum_60 : decode prog_6_method_14_code 60 = .ok (.invokevirtual 62, 3) := by decide +kernel
theorem d_PA_sum_63 : decode prog_6_method_14_code 63 = .ok (.istore 5, 2) := by decide +kernel
theorem d_PA_sum_65 : decode prog_6_method_14_code 65 = .ok (.aload_n 0, 1) := by decide +kernel
theorem d_PA_sum_66 : decode prog_6_method_14_code 66 = .ok (.getfield 15, 3) := by decide +kernel
theorem d_PA_sum_69 : decode prog_6_method_14_code 69 = .ok (.aload_n 0, 1) := by decide +kernel
theorem d_PA_sum_70 : decode prog_6_method_14_code 70 = .ok (.getfield 9, 3) := by decide +kernel
theorem d_PA_sum_73 : decode prog_6_method_14_code 73 = .ok (.invokevirtual 46, 3) := by decide +kernel
theorem d_PA_sum_76 : decode prog_6_method_14_code 76 = .ok (.istore 6, 2) := by decide +kernel
theorem d_PA_sum_78 : decode prog_6_method_14_code 78 = .ok (.aload_n 0, 1) := by decide +kernel
theorem d_PA_sum_79 : decode prog_6_method_14_code 79 = .ok (.getfield 19, 3) := by decide +kernel
theorem d_PA_sum_82 : decode prog_6_method_14_code 82 = .ok (.getfield 43, 3) := by decide +kernel
theorem d_PA_sum_85 : decode prog_6_method_14_code 85 = .ok (.istore 7, 2) := by decide +kernel
theorem d_PA_sum_87 : decode prog_6_method_14_code 87 = .ok (.aload_n 0, 1) := by decide +kernel
theorem d_PA_sum_88 : decode prog_6_method_14_code 88 = .ok (.iload 5, 2) := by decide +kernel
theorem d_PA_sum_90 : decode prog_6_method_14_code 90 = .ok (.invokevirtual 56, 3) := by decide +kernel
theorem d_PA_sum_93 : decode prog_6_method_14_code 93 = .ok (.aload_n 0, 1) := by decide +kernel
theorem d_PA_sum_94 : decode prog_6_method_14_code 94 = .ok (.iload_n 1, 1) := by decide +kernel
theorem d_PA_sum_95 : decode prog_6_method_14_code 95 = .ok (.invokevirtual 121, 3) := by decide +kernel
theorem d_PA_sum_98 : decode prog_6_method_14_code 98 = .ok (.aload_n 0, 1) := by decide +kernel
theorem d_PA_sum_99 : decode prog_6_method_14_code 99 = .ok (.bipush 18, 2) := by decide +kernel
theorem d_PA_sum_101 : decode prog_6_method_14_code 101 = .ok (.iload 5, 2) := by decide +kernel
theorem d_PA_sum_103 : decode prog_6_method_14_code 103 = .ok (.iadd, 1) := by decide +kernel
theorem d_PA_sum_104 : decode prog_6_method_14_code 104 = .ok (.bipush 22, 2) := by decide +kernel
theorem d_PA_sum_106 : decode prog_6_method_14_code 106 = .ok (.isub, 1) := by decide +kernel
theorem d_PA_sum_107 : decode prog_6_method_14_code 107 = .ok (.iload 6, 2) := by decide +kernel
theorem d_PA_sum_109 : decode prog_6_method_14_code 109 = .ok (.iload 7, 2) := by decide +kernel
theorem d_PA_sum_111 : decode prog_6_method_14_code 111 = .ok (.invokevirtual 72, 3) := by decide +kernel
theorem d_PA_sum_114 : decode prog_6_method_14_code 114 = .ok (.iinc 4 1, 3) := by decide +kernel
theorem d_PA_sum_117 : decode prog_6_method_14_code 117 = .ok (.goto (-88), 3) := by decide +kernel
theorem d_PA_sum_120 : decode prog_6_method_14_code 120 = .ok (.iload 4, 2) := by decide +kernel
theorem d_PA_sum_122 : decode prog_6_method_14_code 122 = .ok (.ifCond .le 11, 3) := by decide +kernel
theorem d_PA_sum_125 : decode prog_6_method_14_code 125 = .ok (.aload_n 0, 1) := by decide +kernel
theorem d_PA_sum_126 : decode prog_6_method_14_code 126 = .ok (.bipush 17, 2) := by decide +kernel
theorem d_PA_sum_128 : decode prog_6_method_14_code 128 = .ok (.iload_n 3, 1) := by decide +kernel
theorem d_PA_sum_129 : decode prog_6_method_14_code 129 = .ok (.iload_n 2, 1) := by decide +kernel
theorem d_PA_sum_130 : decode prog_6_method_14_code 130 = .ok (.invokevirtual 72, 3) := by decide +kernel
theorem d_PA_sum_133 : decode prog_6_method_14_code 133 = .ok (.return_, 1) := by decide +kernel
theorem d_PA_term_0 : decode prog_6_method_15_code 0 = .ok (.aload_n 0, 1) := by decide +kernel
theorem d_PA_term_1 : decode prog_6_method_15_code 1 = .ok (.getfield 19, 3) := by decide +kernel
theorem d_PA_term_4 : decode prog_6_method_15_code 4 = .ok (.getfield 43, 3) := by decide +kernel
theorem d_PA_term_7 : decode prog_6_method_15_code 7 = .ok (.istore_n 2, 1) := by decide +kernel
theorem d_PA_term_8 : decode prog_6_method_15_code 8 = .ok (.aload_n 0, 1) := by decide +kernel
theorem d_PA_term_9 : decode prog_6_method_15_code 9 = .ok (.iload_n 1, 1) := by decide +kernel
theorem d_PA_term_10 : decode prog_6_method_15_code 10 = .ok (.invokevirtual 124, 3) := by decide +kernel
theorem d_PA_term_13 : decode prog_6_method_15_code 13 = .ok (.aload_n 0, 1) := by decide +kernel
theorem d_PA_term_14 : decode prog_6_method_15_code 14 = .ok (.getfield 19, 3) := by decide +kernel
theorem d_PA_term_17 : decode prog_6_method_15_code 17 = .ok (.invokevirtual 111, 3) := by decide +kernel
theorem d_PA_term_20 : decode prog_6_method_15_code 20 = .ok (.istore_n 3, 1) := by decide +kernel
theorem d_PA_term_21 : decode prog_6_method_15_code 21 = .ok (.iconst 0, 1) := by decide +kernel
theorem d_PA_term_22 : decode prog_6_method_15_code 22 = .ok (.istore 4, 2) := by decide +kernel
theorem d_PA_term_24 : decode prog_6_method_15_code 24 = .ok (.iload 4, 2) := by decide +kernel
theorem d_PA_term_26 : decode prog_6_method_15_code 26 = .ok (.aload_n 0, 1) := by decide +kernel
theorem d_PA_term_27 : decode prog_6_method_15_code 27 = .ok (.getfield 15, 3) := by decide +kernel
theorem d_PA_term_30 : decode prog_6_method_15_code 30 = .ok (.getfield 23, 3) := by decide +kernel
theorem d_PA_term_33 : decode prog_6_method_15_code 33 = .ok (.if_icmp .ge 82, 3) := by decide +kernel
theorem d_PA_term_36 : decode prog_6_method_15_code 36 = .ok (.aload_n 0, 1) := by decide +kernel
theorem d_PA_term_37 : decode prog_6_method_15_code 37 = .ok (.bipush 24, 2) := by decide +kernel
theorem d_PA_term_39 : decode prog_6_method_15_code 39 = .ok (.bipush 26, 2) := by decide +kernel
theorem d_PA_term_41 : decode prog_6_method_15_code 41 = .ok (.invokevirtual 36, 3) := by decide +kernel
theorem d_PA_term_44 : decode prog_6_method_15_code 44 = .ok (.ifCond .eq 71, 3) := by decide +kernel
theorem d_PA_term_47 : decode prog_6_method_15_code 47 = .ok (.aload_n 0, 1) := by decide +kernel
theorem d_PA_term_48 : decode prog_6_method_15_code 48 = .ok (.getfield 15, 3) := by decide +kernel
theorem d_PA_term_51 : decode prog_6_method_15_code 51 = .ok (.aload_n 0, 1) := by decide +kernel
theorem d_PA_term_52 : decode prog_6_method_15_code 52 = .ok (.getfield 9, 3) := by decide +kernel
theorem d_PA_term_55 : decode prog_6_method_15_code 55 = .ok (.invokevirtual 62, 3) := by decide +kernel
theorem d_PA_term_58 : decode prog_6_method_15_code 58 = .ok (.istore 5, 2) := by decide +kernel
theorem d_PA_term_60 : decode prog_6_method_15_code 60 = .ok (.aload_n 0, 1) := by decide +kernel
theorem d_PA_term_61 : decode prog_6_method_15_code 61 = .ok (.getfield 15, 3) := by decide +kernel
theorem d_PA_term_64 : decode prog_6_method_15_code 64 = .ok (.aload_n 0, 1) := by decide +kernel
theorem d_PA_term_65 : decode prog_6_method_15_code 65 = .ok (.getfield 9, 3) := by decide +kernel
theorem d_PA_term_68 : decode prog_6_method_15_code 68 = .ok (.invokevirtual 46, 3) := by decide +kernel
theorem d_PA_term_71 : decode prog_6_method_15_code 71 = .ok (.istore 6, 2) := by decide +kernel
theorem d_PA_term_73 : decode prog_6_method_15_code 73 = .ok (.aload_n 0, 1) := by decide +kernel
theorem d_PA_term_74 : decode prog_6_method_15_code 74 = .ok (.getfield 19, 3) := by decide +kernel
theorem d_PA_term_77 : decode prog_6_method_15_code 77 = .ok (.getfield 43, 3) := by decide +kernel
theorem d_PA_term_80 : decode prog_6_method_15_code 80 = .ok (.istore 7, 2) := by decide +kernel
theorem d_PA_term_82 : decode prog_6_method_15_code 82 = .ok (.aload_n 0, 1) := by decide +kernel
theorem d_PA_term_83 : decode prog_6_method_15_code 83 = .ok (.iload 5, 2) := by decide +kernel
theorem d_PA_term_85 : decode prog_6_method_15_code 85 = .ok (.invokevirtual 56, 3) := by decide +kernel
theorem d_PA_term_88 : decode prog_6_method_15_code 88 = .ok (.aload_n 0, 1) := by decide +kernel
theorem d_PA_term_89 : decode prog_6_method_15_code 89 = .ok (.iload_n 1, 1) := by decide +kernel
theorem d_PA_term_90 : decode prog_6_method_15_code 90 = .ok (.invokevirtual 124, 3) := by decide +kernel
theorem d_PA_term_93 : decode prog_6_method_15_code 93 = .ok (.aload_n 0, 1) := by decide +kernel
theorem d_PA_term_94 : decode prog_6_method_15_code 94 = .ok (.bipush 21, 2) := by decide +kernel
theorem d_PA_term_96 : decode prog_6_method_15_code 96 = .ok (.iload 5, 2) := by decide +kernel
theorem d_PA_term_98 : decode prog_6_method_15_code 98 = .ok (.iadd, 1) := by decide +kernel
theorem d_PA_term_99 : decode prog_6_method_15_code 99 = .ok (.bipush 24, 2) := by decide +kernel
theorem d_PA_term_101 : decode prog_6_method_15_code 101 = .ok (.isub, 1) := by decide +kernel
theorem d_PA_term_102 : decode prog_6_method_15_code 102 = .ok (.iload 6, 2) := by decide +kernel
theorem d_PA_term_104 : decode prog_6_method_15_code 104 = .ok (.iload 7, 2) := by decide +kernel
theorem d_PA_term_106 : decode prog_6_method_15_code 106 = .ok (.invokevirtual 72, 3) := by decide +kernel
theorem d_PA_term_109 : decode prog_6_method_15_code 109 = .ok (.iinc 4 1, 3) := by decide +kernel
theorem d_PA_term_112 : decode prog_6_method_15_code 112 = .ok (.goto (-88), 3) := by decide +kernel
theorem d_PA_term_115 : decode prog_6_method_15_code 115 = .ok (.iload 4, 2) := by decide +kernel
theorem d_PA_term_117 : decode prog_6_method_15_code 117 = .ok (.ifCond .le 11, 3) := by decide +kernel
theorem d_PA_term_120 : decode prog_6_method_15_code 120 = .ok (.aload_n 0, 1) := by decide +kernel
theorem d_PA_term_121 : decode prog_6_method_15_code 121 = .ok (.bipush 20, 2) := by decide +kernel
theorem d_PA_term_123 : decode prog_6_method_15_code 123 = .ok (.iload_n 3, 1) := by decide +kernel
theorem d_PA_term_124 : decode prog_6_method_15_code 124 = .ok (.iload_n 2, 1) := by decide +kernel
theorem d_PA_term_125 : decode prog_6_method_15_code 125 = .ok (.invokevirtual 72, 3) := by decide +kernel
theorem d_PA_term_128 : decode prog_6_method_15_code 128 = .ok (.return_, 1) := by decide +kernel
theorem d_PA_factor_0 : decode prog_6_method_16_code 0 = .ok (.aload_n 0, 1) := by decide +kernel
theorem d_PA_factor_1 : decode prog_6_method_16_code 1 = .ok (.iload_n 1, 1) := by decide +kernel
theorem d_PA_factor_2 : decode prog_6_method_16_code 2 = .ok (.invokevirtual 76, 3) := by decide +kernel
theorem d_PA_factor_5 : decode prog_6_method_16_code 5 = .ok (.aload_n 0, 1) := by decide +kernel
theorem d_PA_factor_6 : decode prog_6_method_16_code 6 = .ok (.getfield 19, 3) := by decide +kernel
theorem d_PA_factor_9 : decode prog_6_method_16_code 9 = .ok (.getfield 43, 3) := by decide +kernel
theorem d_PA_factor_12 : decode prog_6_method_16_code 12 = .ok (.istore_n 2, 1) := by decide +kernel
theorem d_PA_factor_13 : decode prog_6_method_16_code 13 = .ok (.aload_n 0, 1) := by decide +kernel
theorem d_PA_factor_14 : decode prog_6_method_16_code 14 = .ok (.getfield 15, 3) := by decide +kernel
theorem d_PA_factor_17 : decode prog_6_method_16_code 17 = .ok (.aload_n 0, 1) := by decide +kernel
theorem d_PA_factor_18 : decode prog_6_method_16_code 18 = .ok (.getfield 9, 3) := by decide +kernel
theorem d_PA_factor_21 : decode prog_6_method_16_code 21 = .ok (.invokevirtual 46, 3) := by decide +kernel
theorem d_PA_factor_24 : decode prog_6_method_16_code 24 = .ok (.istore_n 3, 1) := by decide +kernel
theorem d_PA_factor_25 : decode prog_6_method_16_code 25 = .ok (.aload_n 0, 1) := by decide +kernel
theorem d_PA_factor_26 : decode prog_6_method_16_code 26 = .ok (.getfield 15, 3) := by decide +kernel
theorem d_PA_factor_29 : decode prog_6_method_16_code 29 = .ok (.aload_n 0, 1) := by decide +kernel
theorem d_PA_factor_30 : decode prog_6_method_16_code 30 = .ok (.getfield 9, 3) := by decide +kernel
theorem d_PA_factor_33 : decode prog_6_method_16_code 33 = .ok (.invokevirtual 62, 3) := by decide +kernel
theorem d_PA_factor_36 : decode prog_6_method_16_code 36 = .ok (.iconst 3, 1) := by decide +kernel
theorem d_PA_factor_37 : decode prog_6_method_16_code 37 = .ok (.if_icmp .ne 11, 3) := by decide +kernel
theorem d_PA_factor_40 : decode prog_6_method_16_code 40 = .ok (.aload_n 0, 1) := by decide +kernel
theorem d_PA_factor_41 : decode prog_6_method_16_code 41 = .ok (.iconst 0, 1) := by decide +kernel
theorem d_PA_factor_42 : decode prog_6_method_16_code 42 = .ok (.invokevirtual 101, 3) := by decide +kernel
theorem d_PA_factor_45 : decode prog_6_method_16_code 45 = .ok (.goto 140, 3) := by decide +kernel
theorem d_PA_factor_48 : decode prog_6_method_16_code 48 = .ok (.aload_n 0, 1) := by decide +kernel
theorem d_PA_factor_49 : decode prog_6_method_16_code 49 = .ok (.bipush 23, 2) := by decide +kernel
theorem d_PA_factor_51 : decode prog_6_method_16_code 51 = .ok (.invokevirtual 65, 3) := by decide +kernel
theorem d_PA_factor_54 : decode prog_6_method_16_code 54 = .ok (.ifCond .eq 21, 3) := by decide +kernel
theorem d_PA_factor_57 : decode prog_6_method_16_code 57 = .ok (.aload_n 0, 1) := by decide +kernel
theorem d_PA_factor_58 : decode prog_6_method_16_code 58 = .ok (.iload_n 1, 1) := by decide +kernel
theorem d_PA_factor_59 : decode prog_6_method_16_code 59 = .ok (.iconst 1, 1) := by decide +kernel
theorem d_PA_factor_60 : decode prog_6_method_16_code 60 = .ok (.iadd, 1) := by decide +kernel
theorem d_PA_factor_61 : decode prog_6_method_16_code 61 = .ok (.invokevirtual 124, 3) := by decide +kernel
theorem d_PA_factor_64 : decode prog_6_method_16_code 64 = .ok (.aload_n 0, 1) := by decide +kernel
theorem d_PA_factor_65 : decode prog_6_method_16_code 65 = .ok (.bipush 15, 2) := by decide +kernel
theorem d_PA_factor_67 : decode prog_6_method_16_code 67 = .ok (.iload_n 3, 1) := by decide +kernel
theorem d_PA_factor_68 : decode prog_6_method_16_code 68 = .ok (.iload_n 2, 1) := by decide +kernel
theorem d_PA_factor_69 : decode prog_6_method_16_code 69 = .ok (.invokevirtual 72, 3) := by decide +kernel
theorem d_PA_factor_72 : decode prog_6_method_16_code 72 = .ok (.goto 113, 3) := by decide +kernel
theorem d_PA_factor_75 : decode prog_6_method_16_code 75 = .ok (.aload_n 0, 1) := by decide +kernel
theorem d_PA_factor_76 : decode prog_6_method_16_code 76 = .ok (.bipush 12, 2) := by decide +kernel
theorem d_PA_factor_78 : decode prog_6_method_16_code 78 = .ok (.invokevirtual 65, 3) := by decide +kernel
theorem d_PA_factor_81 : decode prog_6_method_16_code 81 = .ok (.ifCond .eq 19, 3) := by decide +kernel
theorem d_PA_factor_84 : decode prog_6_method_16_code 84 = .ok (.aload_n 0, 1) := by decide +kernel
theorem d_PA_factor_85 : decode prog_6_method_16_code 85 = .ok (.iload_n 1, 1) := by decide +kernel
theorem d_PA_factor_86 : decode prog_6_method_16_code 86 = .ok (.iconst 1, 1) := by decide +kernel
theorem d_PA_factor_87 : decode prog_6_method_16_code 87 = .ok (.iadd, 1) := by decide +kernel
theorem d_PA_factor_88 : decode prog_6_method_16_code 88 = .ok (.invokevirtual 98, 3) := by decide +kernel
theorem d_PA_factor_91 : decode prog_6_method_16_code 91 = .ok (.aload_n 0, 1) := by decide +kernel
theorem d_PA_factor_92 : decode prog_6_method_16_code 92 = .ok (.bipush 13, 2) := by decide +kernel
theorem d_PA_factor_94 : decode prog_6_method_16_code 94 = .ok (.invokevirtual 56, 3) := by decide +kernel
theorem d_PA_factor_97 : decode prog_6_method_16_code 97 = .ok (.goto 88, 3) := by decide +kernel
theorem d_PA_factor_100 : decode prog_6_method_16_code 100 = .ok (.aload_n 0, 1) := by decide +kernel
theorem d_PA_factor_101 : decode prog_6_method_16_code 101 = .ok (.bipush 11, 2) := by decide +kernel
theorem d_PA_factor_103 : decode prog_6_method_16_code 103 = .ok (.invokevirtual 65, 3) := by decide +kernel
theorem d_PA_factor_106 : decode prog_6_method_16_code 106 = .ok (.ifCond .eq 45, 3) := by decide +kernel
theorem d_PA_factor_109 : decode prog_6_method_16_code 109 = .ok (.aload_n 0, 1) := by decide +kernel
theorem d_PA_factor_110 : decode prog_6_method_16_code 110 = .ok (.bipush 12, 2) := by decide +kernel
theorem d_PA_factor_112 : decode prog_6_method_16_code 112 = .ok (.invokevirtual 65, 3) := by decide +kernel
theorem d_PA_factor_115 : decode prog_6_method_16_code 115 = .ok (.ifCond .eq 25, 3) := by decide +kernel
theorem d_PA_factor_118 : decode prog_6_method_16_code 118 = .ok (.aload_n 0, 1) := by decide +kernel
theorem d_PA_factor_119 : decode prog_6_method_16_code 119 = .ok (.iconst 1, 1) := by decide +kernel
theorem d_PA_factor_120 : decode prog_6_method_16_code 120 = .ok (.invokevirtual 101, 3) := by decide +kernel
theorem d_PA_factor_123 : decode prog_6_method_16_code 123 = .ok (.aload_n 0, 1) := by decide +kernel
theorem d_PA_factor_124 : decode prog_6_method_16_code 124 = .ok (.bipush 18, 2) := by decide +kernel
theorem d_PA_factor_126 : decode prog_6_method_16_code 126 = .ok (.invokevirtual 56, 3) := by decide +kernel
theorem d_PA_factor_129 : decode prog_6_method_16_code 129 = .ok (.aload_n 0, 1) := by decide +kernel
theorem d_PA_factor_130 : decode prog_6_method_16_code 130 = .ok (.iconst 1, 1) := by decide +kernel
theorem d_PA_factor_131 : decode prog_6_method_16_code 131 = .ok (.invokevirtual 101, 3) := by decide +kernel
theorem d_PA_factor_134 : decode prog_6_method_16_code 134 = .ok (.aload_n 0, 1) := by decide +kernel
theorem d_PA_factor_135 : decode prog_6_method_16_code 135 = .ok (.bipush 13, 2) := by decide +kernel
theorem d_PA_factor_137 : decode prog_6_method_16_code 137 = .ok (.invokevirtual 56, 3) := by decide +kernel
theorem d_PA_factor_140 : decode prog_6_method_16_code 140 = .ok (.aload_n 0, 1) := by decide +kernel
theorem d_PA_factor_141 : decode prog_6_method_16_code 141 = .ok (.bipush 16, 2) := by decide +kernel
theorem d_PA_factor_143 : decode prog_6_method_16_code 143 = .ok (.iload_n 3, 1) := by decide +kernel
theorem d_PA_factor_144 : decode prog_6_method_16_code 144 = .ok (.iload_n 2, 1) := by decide +kernel
theorem d_PA_factor_145 : decode prog_6_method_16_code 145 = .ok (.invokevirtual 72, 3) := by decide +kernel
theorem d_PA_factor_148 : decode prog_6_method_16_code 148 = .ok (.goto 37, 3) := by decide +kernel
theorem d_PA_factor_151 : decode prog_6_method_16_code 151 = .ok (.aload_n 0, 1) := by decide +kernel
theorem d_PA_factor_152 : decode prog_6_method_16_code 152 = .ok (.invokevirtual 59, 3) := by decide +kernel
theorem d_PA_factor_155 : decode prog_6_method_16_code 155 = .ok (.aload_n 0, 1) := by decide +kernel
theorem d_PA_factor_156 : decode prog_6_method_16_code 156 = .ok (.bipush 16, 2) := by decide +kernel
theorem d_PA_factor_158 : decode prog_6_method_16_code 158 = .ok (.invokevirtual 65, 3) := by decide +kernel
theorem d_PA_factor_161 : decode prog_6_method_16_code 161 = .ok (.ifCond .eq 24, 3) := by decide +kernel
theorem d_PA_factor_164 : decode prog_6_method_16_code 164 = .ok (.aload_n 0, 1) := by decide +kernel
theorem d_PA_factor_165 : decode prog_6_method_16_code 165 = .ok (.iload_n 1, 1) := by decide +kernel
theorem d_PA_factor_166 : decode prog_6_method_16_code 166 = .ok (.iconst 1, 1) := by decide +kernel
theorem d_PA_factor_167 : decode prog_6_method_16_code 167 = .ok (.iadd, 1) := by decide +kernel
theorem d_PA_factor_168 : decode prog_6_method_16_code 168 = .ok (.invokevirtual 98, 3) := by decide +kernel
theorem d_PA_factor_171 : decode prog_6_method_16_code 171 = .ok (.aload_n 0, 1) := by decide +kernel
theorem d_PA_factor_172 : decode prog_6_method_16_code 172 = .ok (.bipush 17, 2) := by decide +kernel
theorem d_PA_factor_174 : decode prog_6_method_16_code 174 = .ok (.invokevirtual 56, 3) := by decide +kernel
theorem d_PA_factor_177 : decode prog_6_method_16_code 177 = .ok (.aload_n 0, 1) := by decide +kernel
theorem d_PA_factor_178 : decode prog_6_method_16_code 178 = .ok (.bipush 14, 2) := by decide +kernel
theorem d_PA_factor_180 : decode prog_6_method_16_code 180 = .ok (.iload_n 3, 1) := by decide +kernel
theorem d_PA_factor_181 : decode prog_6_method_16_code 181 = .ok (.iload_n 2, 1) := by decide +kernel
theorem d_PA_factor_182 : decode prog_6_method_16_code 182 = .ok (.invokevirtual 72, 3) := by decide +kernel
theorem d_PA_factor_185 : decode prog_6_method_16_code 185 = .ok (.return_, 1) := by decide +kernel
theorem d_PA_number_0 : decode prog_6_method_17_code 0 = .ok (.aload_n 0, 1) := by decide +kernel
theorem d_PA_number_1 : decode prog_6_method_17_code 1 = .ok (.getfield 15, 3) := by decide +kernel
theorem d_PA_number_4 : decode prog_6_method_17_code 4 = .ok (.aload_n 0, 1) := by decide +kernel
theorem d_PA_number_5 : decode prog_6_method_17_code 5 = .ok (.getfield 9, 3) := by decide +kernel
theorem d_PA_number_8 : decode prog_6_method_17_code 8 = .ok (.invokevirtual 46, 3) := by decide +kernel
theorem d_PA_number_11 : decode prog_6_method_17_code 11 = .ok (.istore_n 2, 1) := by decide +kernel
theorem d_PA_number_12 : decode prog_6_method_17_code 12 = .ok (.iconst 1, 1) := by decide +kernel
theorem d_PA_number_13 : decode prog_6_method_17_code 13 = .ok (.istore_n 3, 1) := by decide +kernel
theorem d_PA_number_14 : decode prog_6_method_17_code 14 = .ok (.iload_n 1, 1) := by decide +kernel
theorem d_PA_number_15 : decode prog_6_method_17_code 15 = .ok (.ifCond .eq 31, 3) := by decide +kernel
theorem d_PA_number_18 : decode prog_6_method_17_code 18 = .ok (.aload_n 0, 1) := by decide +kernel
theorem d_PA_number_19 : decode prog_6_method_17_code 19 = .ok (.getfield 15, 3) := by decide +kernel
theorem d_PA_number_22 : decode prog_6_method_17_code 22 = .ok (.aload_n 0, 1) := by decide +kernel
theorem d_PA_number_23 : decode prog_6_method_17_code 23 = .ok (.getfield 9, 3) := by decide +kernel
theorem d_PA_number_26 : decode prog_6_method_17_code 26 = .ok (.invokevirtual 62, 3) := by decide +kernel
theorem d_PA_number_29 : decode prog_6_method_17_code 29 = .ok (.bipush 23, 2) := by decide +kernel
theorem d_PA_number_31 : decode prog_6_method_17_code 31 = .ok (.if_icmp .ne 15, 3) := by decide +kernel
theorem d_PA_number_34 : decode prog_6_method_17_code 34 = .ok (.iconst (-1), 1) := by decide +kernel
theorem d_PA_number_35 : decode prog_6_method_17_code 35 = .ok (.istore_n 3, 1) := by decide +kernel
theorem d_PA_number_36 : decode prog_6_method_17_code 36 = .ok (.aload_n 0, 1) := by decide +kernel
theorem d_PA_number_37 : decode prog_6_method_17_code 37 = .ok (.dup, 1) := by decide +kernel
theorem d_PA_number_38 : decode prog_6_method_17_code 38 = .ok (.getfield 9, 3) := by decide +kernel
theorem d_PA_number_41 : decode prog_6_method_17_code 41 = .ok (.iconst 1, 1) := by decide +kernel
theorem d_PA_number_42 : decode prog_6_method_17_code 42 = .ok (.iadd, 1) := by decide +kernel
theorem d_PA_number_43 : decode prog_6_method_17_code 43 = .ok (.putfield 9, 3) := by decide +kernel
theorem d_PA_number_46 : decode prog_6_method_17_code 46 = .ok (.aload_n 0, 1) := by decide +kernel
theorem d_PA_number_47 : decode prog_6_method_17_code 47 = .ok (.getfield 15, 3) := by decide +kernel
theorem d_PA_number_50 : decode prog_6_method_17_code 50 = .ok (.aload_n 0, 1) := by decide +kernel
theorem d_PA_number_51 : decode prog_6_method_17_code 51 = .ok (.getfield 9, 3) := by decide +kernel
theorem d_PA_number_54 : decode prog_6_method_17_code 54 = .ok (.invokevirtual 62, 3) := by decide +kernel
theorem d_PA_number_57 : decode prog_6_method_17_code 57 = .ok (.iconst 3, 1) := by decide +kernel
theorem d_PA_number_58 : decode prog_6_method_17_code 58 = .ok (.if_icmp .eq 7, 3) := by decide +kernel
theorem d_PA_number_61 : decode prog_6_method_17_code 61 = .ok (.aload_n 0, 1) := by decide +kernel
theorem d_PA_number_62 : decode prog_6_method_17_code 62 = .ok (.invokevirtual 118, 3) := by decide +kernel
theorem d_PA_number_65 : decode prog_6_method_17_code 65 = .ok (.aload_n 0, 1) := by decide +kernel
theorem d_PA_number_66 : decode prog_6_method_17_code 66 = .ok (.getfield 19, 3) := by decide +kernel
theorem d_PA_number_69 : decode prog_6_method_17_code 69 = .ok (.bipush 12, 2) := by decide +kernel
theorem d_PA_number_71 : decode prog_6_method_17_code 71 = .ok (.iload_n 2, 1) := by decide +kernel
theorem d_PA_number_72 : decode prog_6_method_17_code 72 = .ok (.iload_n 3, 1) := by decide +kernel
theorem d_PA_number_73 : decode prog_6_method_17_code 73 = .ok (.aload_n 0, 1) := by decide +kernel
theorem d_PA_number_74 : decode prog_6_method_17_code 74 = .ok (.getfield 15, 3) := by decide +kernel
theorem d_PA_number_77 : decode prog_6_method_17_code 77 = .ok (.aload_n 0, 1) := by decide +kernel
theorem d_PA_number_78 : decode prog_6_method_17_code 78 = .ok (.getfield 9, 3) := by decide +kernel
theorem d_PA_number_81 : decode prog_6_method_17_code 81 = .ok (.invokevirtual 127, 3) := by decide +kernel
theorem d_PA_number_84 : decode prog_6_method_17_code 84 = .ok (.imul, 1) := by decide +kernel
theorem d_PA_number_85 : decode prog_6_method_17_code 85 = .ok (.iconst 1, 1) := by decide +kernel
theorem d_PA_number_86 : decode prog_6_method_17_code 86 = .ok (.invokevirtual 52, 3) := by decide +kernel
theorem d_PA_number_89 : decode prog_6_method_17_code 89 = .ok (.aload_n 0, 1) := by decide +kernel
theorem d_PA_number_90 : decode prog_6_method_17_code 90 = .ok (.dup, 1) := by decide +kernel
theorem d_PA_number_91 : decode prog_6_method_17_code 91 = .ok (.getfield 9, 3) := by decide +kernel
theorem d_PA_number_94 : decode prog_6_method_17_code 94 = .ok (.iconst 1, 1) := by decide +kernel
theorem d_PA_number_95 : decode prog_6_method_17_code 95 = .ok (.iadd, 1) := by decide +kernel
theorem d_PA_number_96 : decode prog_6_method_17_code 96 = .ok (.putfield 9, 3) := by decide +kernel
theorem d_PA_number_99 : decode prog_6_method_17_code 99 = .ok (.return_, 1) := by decide +kernel
theorem d_PA_name_0 : decode prog_6_method_18_code 0 = .ok (.aload_n 0, 1) := by decide +kernel
theorem d_PA_name_1 : decode prog_6_method_18_code 1 = .ok (.getfield 15, 3) := by decide +kernel
theorem d_PA_name_4 : decode prog_6_method_18_code 4 = .ok (.aload_n 0, 1) := by decide +kernel
theorem d_PA_name_5 : decode prog_6_method_18_code 5 = .ok (.getfield 9, 3) := by decide +kernel
theorem d_PA_name_8 : decode prog_6_method_18_code 8 = .ok (.invokevirtual 62, 3) := by decide +kernel
theorem d_PA_name_11 : decode prog_6_method_18_code 11 = .ok (.iconst 2, 1) := by decide +kernel
theorem d_PA_name_12 : decode prog_6_method_18_code 12 = .ok (.if_icmp .eq 7, 3) := by decide +kernel
theorem d_PA_name_15 : decode prog_6_method_18_code 15 = .ok (.aload_n 0, 1) := by decide +kernel
theorem d_PA_name_16 : decode prog_6_method_18_code 16 = .ok (.invokevirtual 118, 3) := by decide +kernel
theorem d_PA_name_19 : decode prog_6_method_18_code 19 = .ok (.aload_n 0, 1) := by decide +kernel
theorem d_PA_name_20 : decode prog_6_method_18_code 20 = .ok (.getfield 19, 3) := by decide +kernel
theorem d_PA_name_23 : decode prog_6_method_18_code 23 = .ok (.bipush 13, 2) := by decide +kernel
theorem d_PA_name_25 : decode prog_6_method_18_code 25 = .ok (.aload_n 0, 1) := by decide +kernel
theorem d_PA_name_26 : decode prog_6_method_18_code 26 = .ok (.getfield 15, 3) := by decide +kernel
theorem d_PA_name_29 : decode prog_6_method_18_code 29 = .ok (.aload_n 0, 1) := by decide +kernel
theorem d_PA_name_30 : decode prog_6_method_18_code 30 = .ok (.getfield 9, 3) := by decide +kernel
theorem d_PA_name_33 : decode prog_6_method_18_code 33 = .ok (.invokevirtual 46, 3) := by decide +kernel
theorem d_PA_name_36 : decode prog_6_method_18_code 36 = .ok (.iconst 0, 1) := by decide +kernel
theorem d_PA_name_37 : decode prog_6_method_18_code 37 = .ok (.iconst 1, 1) := by decide +kernel
theorem d_PA_name_38 : decode prog_6_method_18_code 38 = .ok (.invokevirtual 52, 3) := by decide +kernel
theorem d_PA_name_41 : decode prog_6_method_18_code 41 = .ok (.aload_n 0, 1) := by decide +kernel
theorem d_PA_name_42 : decode prog_6_method_18_code 42 = .ok (.dup, 1) := by decide +kernel
theorem d_PA_name_43 : decode prog_6_method_18_code 43 = .ok (.getfield 9, 3) := by decide +kernel
theorem d_PA_name_46 : decode prog_6_method_18_code 46 = .ok (.iconst 1, 1) := by decide +kernel
theorem d_PA_name_47 : decode prog_6_method_18_code 47 = .ok (.iadd, 1) := by decide +kernel
theorem d_PA_name_48 : decode prog_6_method_18_code 48 = .ok (.putfield 9, 3) := by decide +kernel
theorem d_PA_name_51 : decode prog_6_method_18_code 51 = .ok (.return_, 1) := by decide +kernel
theorem d_PA_finish_0 : decode prog_6_method_19_code 0 = .ok (.aload_n 0, 1) := by decide +kernel
theorem d_PA_finish_1 : decode prog_6_method_19_code 1 = .ok (.getfield 19, 3) := by decide +kernel
theorem d_PA_finish_4 : decode prog_6_method_19_code 4 = .ok (.iload_n 1, 1) := by decide +kernel
theorem d_PA_finish_5 : decode prog_6_method_19_code 5 = .ok (.iload_n 2, 1) := by decide +kernel
theorem d_PA_finish_6 : decode prog_6_method_19_code 6 = .ok (.iconst 0, 1) := by decide +kernel
theorem d_PA_finish_7 : decode prog_6_method_19_code 7 = .ok (.aload_n 0, 1) := by decide +kernel
theorem d_PA_finish_8 : decode prog_6_method_19_code 8 = .ok (.getfield 19, 3) := by decide +kernel
theorem d_PA_finish_11 : decode prog_6_method_19_code 11 = .ok (.getfield 43, 3) := by decide +kernel
theorem d_PA_finish_14 : decode prog_6_method_19_code 14 = .ok (.iload_n 3, 1) := by decide +kernel
theorem d_PA_finish_15 : decode prog_6_method_19_code 15 = .ok (.isub, 1) := by decide +kernel
theorem d_PA_finish_16 : decode prog_6_method_19_code 16 = .ok (.iconst 1, 1) := by decide +kernel
theorem d_PA_finish_17 : decode prog_6_method_19_code 17 = .ok (.iadd, 1) := by decide +kernel
theorem d_PA_finish_18 : decode prog_6_method_19_code 18 = .ok (.invokevirtual 52, 3) := by decide +kernel
theorem d_PA_finish_21 : decode prog_6_method_19_code 21 = .ok (.return_, 1) := by decide +kernel
theorem d_PA_take_0 : decode prog_6_method_20_code 0 = .ok (.aload_n 0, 1) := by decide +kernel
theorem d_PA_take_1 : decode prog_6_method_20_code 1 = .ok (.getfield 15, 3) := by decide +kernel
theorem d_PA_take_4 : decode prog_6_method_20_code 4 = .ok (.aload_n 0, 1) := by decide +kernel
theorem d_PA_take_5 : decode prog_6_method_20_code 5 = .ok (.getfield 9, 3) := by decide +kernel
theorem d_PA_take_8 : decode prog_6_method_20_code 8 = .ok (.invokevirtual 62, 3) := by decide +kernel
theorem d_PA_take_11 : decode prog_6_method_20_code 11 = .ok (.iload_n 1, 1) := by decide +kernel
theorem d_PA_take_12 : decode prog_6_method_20_code 12 = .ok (.if_icmp .eq 7, 3) := by decide +kernel
theorem d_PA_take_15 : decode prog_6_method_20_code 15 = .ok (.aload_n 0, 1) := by decide +kernel
theorem d_PA_take_16 : decode prog_6_method_20_code 16 = .ok (.invokevirtual 118, 3) := by decide +kernel
theorem d_PA_take_19 : decode prog_6_method_20_code 19 = .ok (.aload_n 0, 1) := by decide +kernel
theorem d_PA_take_20 : decode prog_6_method_20_code 20 = .ok (.dup, 1) := by decide +kernel
theorem d_PA_take_21 : decode prog_6_method_20_code 21 = .ok (.getfield 9, 3) := by decide +kernel
theorem d_PA_take_24 : decode prog_6_method_20_code 24 = .ok (.iconst 1, 1) := by decide +kernel
theorem d_PA_take_25 : decode prog_6_method_20_code 25 = .ok (.iadd, 1) := by decide +kernel
theorem d_PA_take_26 : decode prog_6_method_20_code 26 = .ok (.putfield 9, 3) := by decide +kernel
theorem d_PA_take_29 : decode prog_6_method_20_code 29 = .ok (.return_, 1) := by decide +kernel
theorem d_PA_skip_0 : decode prog_6_method_21_code 0 = .ok (.aload_n 0, 1) := by decide +kernel
theorem d_PA_skip_1 : decode prog_6_method_21_code 1 = .ok (.getfield 15, 3) := by decide +kernel
theorem d_PA_skip_4 : decode prog_6_method_21_code 4 = .ok (.aload_n 0, 1) := by decide +kernel
theorem d_PA_skip_5 : decode prog_6_method_21_code 5 = .ok (.getfield 9, 3) := by decide +kernel
theorem d_PA_skip_8 : decode prog_6_method_21_code 8 = .ok (.invokevirtual 62, 3) := by decide +kernel
theorem d_PA_skip_11 : decode prog_6_method_21_code 11 = .ok (.iload_n 1, 1) := by decide +kernel
theorem d_PA_skip_12 : decode prog_6_method_21_code 12 = .ok (.if_icmp .eq 5, 3) := by decide +kernel
theorem d_PA_skip_15 : decode prog_6_method_21_code 15 = .ok (.iconst 0, 1) := by decide +kernel
theorem d_PA_skip_16 : decode prog_6_method_21_code 16 = .ok (.ireturn, 1) := by decide +kernel
theorem d_PA_skip_17 : decode prog_6_method_21_code 17 = .ok (.aload_n 0, 1) := by decide +kernel
theorem d_PA_skip_18 : decode prog_6_method_21_code 18 = .ok (.dup, 1) := by decide +kernel
theorem d_PA_skip_19 : decode prog_6_method_21_code 19 = .ok (.getfield 9, 3) := by decide +kernel
theorem d_PA_skip_22 : decode prog_6_method_21_code 22 = .ok (.iconst 1, 1) := by decide +kernel
theorem d_PA_skip_23 : decode prog_6_method_21_code 23 = .ok (.iadd, 1) := by decide +kernel
theorem d_PA_skip_24 : decode prog_6_method_21_code 24 = .ok (.putfield 9, 3) := by decide +kernel
theorem d_PA_skip_27 : decode prog_6_method_21_code 27 = .ok (.iconst 1, 1) := by decide +kernel
theorem d_PA_skip_28 : decode prog_6_method_21_code 28 = .ok (.ireturn, 1) := by decide +kernel
theorem d_PA_isAt_0 : decode prog_6_method_22_code 0 = .ok (.aload_n 0, 1) := by decide +kernel
theorem d_PA_isAt_1 : decode prog_6_method_22_code 1 = .ok (.getfield 15, 3) := by decide +kernel
theorem d_PA_isAt_4 : decode prog_6_method_22_code 4 = .ok (.aload_n 0, 1) := by decide +kernel
theorem d_PA_isAt_5 : decode prog_6_method_22_code 5 = .ok (.getfield 9, 3) := by decide +kernel
theorem d_PA_isAt_8 : decode prog_6_method_22_code 8 = .ok (.invokevirtual 62, 3) := by decide +kernel
theorem d_PA_isAt_11 : decode prog_6_method_22_code 11 = .ok (.istore_n 3, 1) := by decide +kernel
theorem d_PA_isAt_12 : decode prog_6_method_22_code 12 = .ok (.iload_n 3, 1) := by decide +kernel
theorem d_PA_isAt_13 : decode prog_6_method_22_code 13 = .ok (.iload_n 1, 1) := by decide +kernel
theorem d_PA_isAt_14 : decode prog_6_method_22_code 14 = .ok (.if_icmp .lt 12, 3) := by decide +kernel
theorem d_PA_isAt_17 : decode prog_6_method_22_code 17 = .ok (.iload_n 3, 1) := by decide +kernel
theorem d_PA_isAt_18 : decode prog_6_method_22_code 18 = .ok (.iload_n 2, 1) := by decide +kernel
theorem d_PA_isAt_19 : decode prog_6_method_22_code 19 = .ok (.if_icmp .gt 7, 3) := by decide +kernel
theorem d_PA_isAt_22 : decode prog_6_method_22_code 22 = .ok (.iconst 1, 1) := by decide +kernel
theorem d_PA_isAt_23 : decode prog_6_method_22_code 23 = .ok (.goto 4, 3) := by decide +kernel
theorem d_PA_isAt_26 : decode prog_6_method_22_code 26 = .ok (.iconst 0, 1) := by decide +kernel
theorem d_PA_isAt_27 : decode prog_6_method_22_code 27 = .ok (.ireturn, 1) := by decide +kernel
theorem d_PA_limit_0 : decode prog_6_method_23_code 0 = .ok (.iload_n 1, 1) := by decide +kernel
theorem d_PA_limit_1 : decode prog_6_method_23_code 1 = .ok (.bipush 60, 2) := by decide +kernel
theorem d_PA_limit_3 : decode prog_6_method_23_code 3 = .ok (.if_icmp .le 7, 3) := by decide +kernel
theorem d_PA_limit_6 : decode prog_6_method_23_code 6 = .ok (.aload_n 0, 1) := by decide +kernel
theorem d_PA_limit_7 : decode prog_6_method_23_code 7 = .ok (.invokevirtual 118, 3) := by decide +kernel
theorem d_PA_limit_10 : decode prog_6_method_23_code 10 = .ok (.return_, 1) := by decide +kernel
theorem d_PA_refuse_0 : decode prog_6_method_24_code 0 = .ok (.new 44, 3) := by decide +kernel
theorem d_PA_refuse_3 : decode prog_6_method_24_code 3 = .ok (.dup, 1) := by decide +kernel
theorem d_PA_refuse_4 : decode prog_6_method_24_code 4 = .ok (.invokespecial 130, 3) := by decide +kernel
theorem d_PA_refuse_7 : decode prog_6_method_24_code 7 = .ok (.athrow, 1) := by decide +kernel
