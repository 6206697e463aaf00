theorem d_PR_init_0 : decode prog_1_method_1_code 0 = .ok (.aload_n 0, 1) := by decide +kernel
theorem d_PR_init_1 : decode prog_1_method_1_code 1 = .ok (.invokespecial 1, 3) := by decide +kernel
theorem d_PR_init_4 : decode prog_1_method_1_code 4 = .ok (.aload_n 0, 1) := by decide +kernel
theorem d_PR_init_5 : decode prog_1_method_1_code 5 = .ok (.new 7, 3) := by decide +kernel
theorem d_PR_init_8 : decode prog_1_method_1_code 8 = .ok (.dup, 1) := by decide +kernel
theorem d_PR_init_9 : decode prog_1_method_1_code 9 = .ok (.sipush 8000, 3) := by decide +kernel
theorem d_PR_init_12 : decode prog_1_method_1_code 12 = .ok (.invokespecial 11, 3) := by decide +kernel
theorem d_PR_init_15 : decode prog_1_method_1_code 15 = .ok (.putfield 14, 3) := by decide +kernel
theorem d_PR_init_18 : decode prog_1_method_1_code 18 = .ok (.aload_n 0, 1) := by decide +kernel
theorem d_PR_init_19 : decode prog_1_method_1_code 19 = .ok (.new 7, 3) := by decide +kernel
theorem d_PR_init_22 : decode prog_1_method_1_code 22 = .ok (.dup, 1) := by decide +kernel
theorem d_PR_init_23 : decode prog_1_method_1_code 23 = .ok (.sipush 8000, 3) := by decide +kernel
theorem d_PR_init_26 : decode prog_1_method_1_code 26 = .ok (.invokespecial 11, 3) := by decide +kernel
theorem d_PR_init_29 : decode prog_1_method_1_code 29 = .ok (.putfield 18, 3) := by decide +kernel
theorem d_PR_init_32 : decode prog_1_method_1_code 32 = .ok (.aload_n 0, 1) := by decide +kernel
theorem d_PR_init_33 : decode prog_1_method_1_code 33 = .ok (.new 7, 3) := by decide +kernel
theorem d_PR_init_36 : decode prog_1_method_1_code 36 = .ok (.dup, 1) := by decide +kernel
theorem d_PR_init_37 : decode prog_1_method_1_code 37 = .ok (.sipush 8000, 3) := by decide +kernel
theorem d_PR_init_40 : decode prog_1_method_1_code 40 = .ok (.invokespecial 11, 3) := by decide +kernel
theorem d_PR_init_43 : decode prog_1_method_1_code 43 = .ok (.putfield 21, 3) := by decide +kernel
theorem d_PR_init_46 : decode prog_1_method_1_code 46 = .ok (.aload_n 0, 1) := by decide +kernel
theorem d_PR_init_47 : decode prog_1_method_1_code 47 = .ok (.new 24, 3) := by decide +kernel
theorem d_PR_init_50 : decode prog_1_method_1_code 50 = .ok (.dup, 1) := by decide +kernel
theorem d_PR_init_51 : decode prog_1_method_1_code 51 = .ok (.invokespecial 26, 3) := by decide +kernel
theorem d_PR_init_54 : decode prog_1_method_1_code 54 = .ok (.putfield 27, 3) := by decide +kernel
theorem d_PR_init_57 : decode prog_1_method_1_code 57 = .ok (.aload_n 0, 1) := by decide +kernel
theorem d_PR_init_58 : decode prog_1_method_1_code 58 = .ok (.new 31, 3) := by decide +kernel
theorem d_PR_init_61 : decode prog_1_method_1_code 61 = .ok (.dup, 1) := by decide +kernel
theorem d_PR_init_62 : decode prog_1_method_1_code 62 = .ok (.invokespecial 33, 3) := by decide +kernel
theorem d_PR_init_65 : decode prog_1_method_1_code 65 = .ok (.putfield 34, 3) := by decide +kernel
theorem d_PR_init_68 : decode prog_1_method_1_code 68 = .ok (.aload_n 0, 1) := by decide +kernel
theorem d_PR_init_69 : decode prog_1_method_1_code 69 = .ok (.new 38, 3) := by decide +kernel
theorem d_PR_init_72 : decode prog_1_method_1_code 72 = .ok (.dup, 1) := by decide +kernel
theorem d_PR_init_73 : decode prog_1_method_1_code 73 = .ok (.aload_n 0, 1) := by decide +kernel
theorem d_PR_init_74 : decode prog_1_method_1_code 74 = .ok (.getfield 27, 3) := by decide +kernel
theorem d_PR_init_77 : decode prog_1_method_1_code 77 = .ok (.aload_n 0, 1) := by decide +kernel
theorem d_PR_init_78 : decode prog_1_method_1_code 78 = .ok (.getfield 34, 3) := by decide +kernel
theorem d_PR_init_81 : decode prog_1_method_1_code 81 = .ok (.invokespecial 40, 3) := by decide +kernel
theorem d_PR_init_84 : decode prog_1_method_1_code 84 = .ok (.putfield 43, 3) := by decide +kernel
theorem d_PR_init_87 : decode prog_1_method_1_code 87 = .ok (.aload_n 0, 1) := by decide +kernel
theorem d_PR_init_88 : decode prog_1_method_1_code 88 = .ok (.new 47, 3) := by decide +kernel
theorem d_PR_init_91 : decode prog_1_method_1_code 91 = .ok (.dup, 1) := by decide +kernel
theorem d_PR_init_92 : decode prog_1_method_1_code 92 = .ok (.invokespecial 49, 3) := by decide +kernel
theorem d_PR_init_95 : decode prog_1_method_1_code 95 = .ok (.putfield 50, 3) := by decide +kernel
theorem d_PR_init_98 : decode prog_1_method_1_code 98 = .ok (.aload_n 0, 1) := by decide +kernel
theorem d_PR_init_99 : decode prog_1_method_1_code 99 = .ok (.new 54, 3) := by decide +kernel
theorem d_PR_init_102 : decode prog_1_method_1_code 102 = .ok (.dup, 1) := by decide +kernel
theorem d_PR_init_103 : decode prog_1_method_1_code 103 = .ok (.aload_n 0, 1) := by decide +kernel
theorem d_PR_init_104 : decode prog_1_method_1_code 104 = .ok (.getfield 50, 3) := by decide +kernel
theorem d_PR_init_107 : decode prog_1_method_1_code 107 = .ok (.invokespecial 56, 3) := by decide +kernel
theorem d_PR_init_110 : decode prog_1_method_1_code 110 = .ok (.putfield 59, 3) := by decide +kernel
theorem d_PR_init_113 : decode prog_1_method_1_code 113 = .ok (.aload_n 0, 1) := by decide +kernel
theorem d_PR_init_114 : decode prog_1_method_1_code 114 = .ok (.iconst 2, 1) := by decide +kernel
theorem d_PR_init_115 : decode prog_1_method_1_code 115 = .ok (.anewarray 63, 3) := by decide +kernel
theorem d_PR_init_118 : decode prog_1_method_1_code 118 = .ok (.putfield 65, 3) := by decide +kernel
theorem d_PR_init_121 : decode prog_1_method_1_code 121 = .ok (.iconst 0, 1) := by decide +kernel
theorem d_PR_init_122 : decode prog_1_method_1_code 122 = .ok (.istore_n 1, 1) := by decide +kernel
theorem d_PR_init_123 : decode prog_1_method_1_code 123 = .ok (.iload_n 1, 1) := by decide +kernel
theorem d_PR_init_124 : decode prog_1_method_1_code 124 = .ok (.iconst 2, 1) := by decide +kernel
theorem d_PR_init_125 : decode prog_1_method_1_code 125 = .ok (.if_icmp .ge 22, 3) := by decide +kernel
theorem d_PR_init_128 : decode prog_1_method_1_code 128 = .ok (.aload_n 0, 1) := by decide +kernel
theorem d_PR_init_129 : decode prog_1_method_1_code 129 = .ok (.getfield 65, 3) := by decide +kernel
theorem d_PR_init_132 : decode prog_1_method_1_code 132 = .ok (.iload_n 1, 1) := by decide +kernel
theorem d_PR_init_133 : decode prog_1_method_1_code 133 = .ok (.new 63, 3) := by decide +kernel
theorem d_PR_init_136 : decode prog_1_method_1_code 136 = .ok (.dup, 1) := by decide +kernel
theorem d_PR_init_137 : decode prog_1_method_1_code 137 = .ok (.invokespecial 69, 3) := by decide +kernel
theorem d_PR_init_140 : decode prog_1_method_1_code 140 = .ok (.aastore, 1) := by decide +kernel
theorem d_PR_init_141 : decode prog_1_method_1_code 141 = .ok (.iinc 1 1, 3) := by decide +kernel
theorem d_PR_init_144 : decode prog_1_method_1_code 144 = .ok (.goto (-21), 3) := by decide +kernel
theorem d_PR_init_147 : decode prog_1_method_1_code 147 = .ok (.return_, 1) := by decide +kernel
theorem d_PR_feed_0 : decode prog_1_method_2_code 0 = .ok (.aload_n 0, 1) := by decide +kernel
theorem d_PR_feed_1 : decode prog_1_method_2_code 1 = .ok (.getfield 14, 3) := by decide +kernel
theorem d_PR_feed_4 : decode prog_1_method_2_code 4 = .ok (.getfield 70, 3) := by decide +kernel
theorem d_PR_feed_7 : decode prog_1_method_2_code 7 = .ok (.bipush 20, 2) := by decide +kernel
theorem d_PR_feed_9 : decode prog_1_method_2_code 9 = .ok (.iadd, 1) := by decide +kernel
theorem d_PR_feed_10 : decode prog_1_method_2_code 10 = .ok (.sipush 8000, 3) := by decide +kernel
theorem d_PR_feed_13 : decode prog_1_method_2_code 13 = .ok (.if_icmp .le 5, 3) := by decide +kernel
theorem d_PR_feed_16 : decode prog_1_method_2_code 16 = .ok (.iconst (-1), 1) := by decide +kernel
theorem d_PR_feed_17 : decode prog_1_method_2_code 17 = .ok (.ireturn, 1) := by decide +kernel
theorem d_PR_feed_18 : decode prog_1_method_2_code 18 = .ok (.aload_n 0, 1) := by decide +kernel
theorem d_PR_feed_19 : decode prog_1_method_2_code 19 = .ok (.getfield 14, 3) := by decide +kernel
theorem d_PR_feed_22 : decode prog_1_method_2_code 22 = .ok (.iload_n 1, 1) := by decide +kernel
theorem d_PR_feed_23 : decode prog_1_method_2_code 23 = .ok (.invokevirtual 74, 3) := by decide +kernel
theorem d_PR_feed_26 : decode prog_1_method_2_code 26 = .ok (.aload_n 0, 1) := by decide +kernel
theorem d_PR_feed_27 : decode prog_1_method_2_code 27 = .ok (.getfield 14, 3) := by decide +kernel
theorem d_PR_feed_30 : decode prog_1_method_2_code 30 = .ok (.iload_n 2, 1) := by decide +kernel
theorem d_PR_feed_31 : decode prog_1_method_2_code 31 = .ok (.invokevirtual 74, 3) := by decide +kernel
theorem d_PR_feed_34 : decode prog_1_method_2_code 34 = .ok (.aload_n 0, 1) := by decide +kernel
theorem d_PR_feed_35 : decode prog_1_method_2_code 35 = .ok (.getfield 14, 3) := by decide +kernel
theorem d_PR_feed_38 : decode prog_1_method_2_code 38 = .ok (.iload_n 3, 1) := by decide +kernel
theorem d_PR_feed_39 : decode prog_1_method_2_code 39 = .ok (.invokevirtual 74, 3) := by decide +kernel
theorem d_PR_feed_42 : decode prog_1_method_2_code 42 = .ok (.aload_n 0, 1) := by decide +kernel
theorem d_PR_feed_43 : decode prog_1_method_2_code 43 = .ok (.getfield 14, 3) := by decide +kernel
theorem d_PR_feed_46 : decode prog_1_method_2_code 46 = .ok (.iload 4, 2) := by decide +kernel
theorem d_PR_feed_48 : decode prog_1_method_2_code 48 = .ok (.invokevirtual 74, 3) := by decide +kernel
theorem d_PR_feed_51 : decode prog_1_method_2_code 51 = .ok (.aload_n 0, 1) := by decide +kernel
theorem d_PR_feed_52 : decode prog_1_method_2_code 52 = .ok (.getfield 14, 3) := by decide +kernel
theorem d_PR_feed_55 : decode prog_1_method_2_code 55 = .ok (.iload 5, 2) := by decide +kernel
theorem d_PR_feed_57 : decode prog_1_method_2_code 57 = .ok (.invokevirtual 74, 3) := by decide +kernel
theorem d_PR_feed_60 : decode prog_1_method_2_code 60 = .ok (.aload_n 0, 1) := by decide +kernel
theorem d_PR_feed_61 : decode prog_1_method_2_code 61 = .ok (.getfield 14, 3) := by decide +kernel
theorem d_PR_feed_64 : decode prog_1_method_2_code 64 = .ok (.getfield 70, 3) := by decide +kernel
theorem d_PR_feed_67 : decode prog_1_method_2_code 67 = .ok (.ireturn, 1) := by decide +kernel
theorem d_PR_read_0 : decode prog_1_method_3_code 0 = .ok (.iload_n 2, 1) := by decide +kernel
theorem d_PR_read_1 : decode prog_1_method_3_code 1 = .ok (.iconst (-1), 1) := by decide +kernel
theorem d_PR_read_2 : decode prog_1_method_3_code 2 = .ok (.if_icmp .ne 13, 3) := by decide +kernel
theorem d_PR_read_5 : decode prog_1_method_3_code 5 = .ok (.aload_n 0, 1) := by decide +kernel
theorem d_PR_read_6 : decode prog_1_method_3_code 6 = .ok (.getfield 14, 3) := by decide +kernel
theorem d_PR_read_9 : decode prog_1_method_3_code 9 = .ok (.getfield 70, 3) := by decide +kernel
theorem d_PR_read_12 : decode prog_1_method_3_code 12 = .ok (.goto 4, 3) := by decide +kernel
theorem d_PR_read_15 : decode prog_1_method_3_code 15 = .ok (.iload_n 2, 1) := by decide +kernel
theorem d_PR_read_16 : decode prog_1_method_3_code 16 = .ok (.istore_n 3, 1) := by decide +kernel
theorem d_PR_read_17 : decode prog_1_method_3_code 17 = .ok (.aload_n 0, 1) := by decide +kernel
theorem d_PR_read_18 : decode prog_1_method_3_code 18 = .ok (.iload_n 1, 1) := by decide +kernel
theorem d_PR_read_19 : decode prog_1_method_3_code 19 = .ok (.invokevirtual 77, 3) := by decide +kernel
theorem d_PR_read_22 : decode prog_1_method_3_code 22 = .ok (.ifCond .eq 18, 3) := by decide +kernel
theorem d_PR_read_25 : decode prog_1_method_3_code 25 = .ok (.iload_n 3, 1) := by decide +kernel
theorem d_PR_read_26 : decode prog_1_method_3_code 26 = .ok (.ifCond .lt 14, 3) := by decide +kernel
theorem d_PR_read_29 : decode prog_1_method_3_code 29 = .ok (.iload_n 3, 1) := by decide +kernel
theorem d_PR_read_30 : decode prog_1_method_3_code 30 = .ok (.aload_n 0, 1) := by decide +kernel
theorem d_PR_read_31 : decode prog_1_method_3_code 31 = .ok (.getfield 14, 3) := by decide +kernel
theorem d_PR_read_34 : decode prog_1_method_3_code 34 = .ok (.getfield 70, 3) := by decide +kernel
theorem d_PR_read_37 : decode prog_1_method_3_code 37 = .ok (.if_icmp .le 6, 3) := by decide +kernel
theorem d_PR_read_40 : decode prog_1_method_3_code 40 = .ok (.bipush (-2), 2) := by decide +kernel
theorem d_PR_read_42 : decode prog_1_method_3_code 42 = .ok (.ireturn, 1) := by decide +kernel
theorem d_PR_read_43 : decode prog_1_method_3_code 43 = .ok (.aload_n 0, 1) := by decide +kernel
theorem d_PR_read_44 : decode prog_1_method_3_code 44 = .ok (.getfield 27, 3) := by decide +kernel
theorem d_PR_read_47 : decode prog_1_method_3_code 47 = .ok (.aload_n 0, 1) := by decide +kernel
theorem d_PR_read_48 : decode prog_1_method_3_code 48 = .ok (.getfield 14, 3) := by decide +kernel
theorem d_PR_read_51 : decode prog_1_method_3_code 51 = .ok (.getfield 81, 3) := by decide +kernel
theorem d_PR_read_54 : decode prog_1_method_3_code 54 = .ok (.iload_n 3, 1) := by decide +kernel
theorem d_PR_read_55 : decode prog_1_method_3_code 55 = .ok (.invokevirtual 85, 3) := by decide +kernel
theorem d_PR_read_58 : decode prog_1_method_3_code 58 = .ok (.aload_n 0, 1) := by decide +kernel
theorem d_PR_read_59 : decode prog_1_method_3_code 59 = .ok (.getfield 43, 3) := by decide +kernel
theorem d_PR_read_62 : decode prog_1_method_3_code 62 = .ok (.invokevirtual 89, 3) := by decide +kernel
theorem d_PR_read_65 : decode prog_1_method_3_code 65 = .ok (.istore 4, 2) := by decide +kernel
theorem d_PR_read_67 : decode prog_1_method_3_code 67 = .ok (.aload_n 0, 1) := by decide +kernel
theorem d_PR_read_68 : decode prog_1_method_3_code 68 = .ok (.getfield 65, 3) := by decide +kernel
theorem d_PR_read_71 : decode prog_1_method_3_code 71 = .ok (.iload_n 1, 1) := by decide +kernel
theorem d_PR_read_72 : decode prog_1_method_3_code 72 = .ok (.aaload, 1) := by decide +kernel
theorem d_PR_read_73 : decode prog_1_method_3_code 73 = .ok (.aload_n 0, 1) := by decide +kernel
theorem d_PR_read_74 : decode prog_1_method_3_code 74 = .ok (.getfield 34, 3) := by decide +kernel
theorem d_PR_read_77 : decode prog_1_method_3_code 77 = .ok (.invokevirtual 93, 3) := by decide +kernel
theorem d_PR_read_80 : decode prog_1_method_3_code 80 = .ok (.aload_n 0, 1) := by decide +kernel
theorem d_PR_read_81 : decode prog_1_method_3_code 81 = .ok (.aload_n 0, 1) := by decide +kernel
theorem d_PR_read_82 : decode prog_1_method_3_code 82 = .ok (.getfield 65, 3) := by decide +kernel
theorem d_PR_read_85 : decode prog_1_method_3_code 85 = .ok (.iload_n 1, 1) := by decide +kernel
theorem d_PR_read_86 : decode prog_1_method_3_code 86 = .ok (.aaload, 1) := by decide +kernel
theorem d_PR_read_87 : decode prog_1_method_3_code 87 = .ok (.invokevirtual 97, 3) := by decide +kernel
theorem d_PR_read_90 : decode prog_1_method_3_code 90 = .ok (.aload_n 0, 1) := by decide +kernel
theorem d_PR_read_91 : decode prog_1_method_3_code 91 = .ok (.getfield 14, 3) := by decide +kernel
theorem d_PR_read_94 : decode prog_1_method_3_code 94 = .ok (.invokevirtual 101, 3) := by decide +kernel
theorem d_PR_read_97 : decode prog_1_method_3_code 97 = .ok (.iload 4, 2) := by decide +kernel
theorem d_PR_read_99 : decode prog_1_method_3_code 99 = .ok (.ireturn, 1) := by decide +kernel
theorem d_PR_nodes_0 : decode prog_1_method_4_code 0 = .ok (.aload_n 0, 1) := by decide +kernel
theorem d_PR_nodes_1 : decode prog_1_method_4_code 1 = .ok (.iload_n 1, 1) := by decide +kernel
theorem d_PR_nodes_2 : decode prog_1_method_4_code 2 = .ok (.invokevirtual 77, 3) := by decide +kernel
theorem d_PR_nodes_5 : decode prog_1_method_4_code 5 = .ok (.ifCond .eq 15, 3) := by decide +kernel
theorem d_PR_nodes_8 : decode prog_1_method_4_code 8 = .ok (.aload_n 0, 1) := by decide +kernel
theorem d_PR_nodes_9 : decode prog_1_method_4_code 9 = .ok (.getfield 65, 3) := by decide +kernel
theorem d_PR_nodes_12 : decode prog_1_method_4_code 12 = .ok (.iload_n 1, 1) := by decide +kernel
theorem d_PR_nodes_13 : decode prog_1_method_4_code 13 = .ok (.aaload, 1) := by decide +kernel
theorem d_PR_nodes_14 : decode prog_1_method_4_code 14 = .ok (.getfield 104, 3) := by decide +kernel
theorem d_PR_nodes_17 : decode prog_1_method_4_code 17 = .ok (.goto 4, 3) := by decide +kernel
theorem d_PR_nodes_20 : decode prog_1_method_4_code 20 = .ok (.iconst 0, 1) := by decide +kernel
theorem d_PR_nodes_21 : decode prog_1_method_4_code 21 = .ok (.ireturn, 1) := by decide +kernel
theorem d_PR_node_0 : decode prog_1_method_5_code 0 = .ok (.aload_n 0, 1) := by decide +kernel
theorem d_PR_node_1 : decode prog_1_method_5_code 1 = .ok (.iload_n 1, 1) := by decide +kernel
theorem d_PR_node_2 : decode prog_1_method_5_code 2 = .ok (.invokevirtual 77, 3) := by decide +kernel
theorem d_PR_node_5 : decode prog_1_method_5_code 5 = .ok (.ifCond .eq 17, 3) := by decide +kernel
theorem d_PR_node_8 : decode prog_1_method_5_code 8 = .ok (.aload_n 0, 1) := by decide +kernel
theorem d_PR_node_9 : decode prog_1_method_5_code 9 = .ok (.getfield 65, 3) := by decide +kernel
theorem d_PR_node_12 : decode prog_1_method_5_code 12 = .ok (.iload_n 1, 1) := by decide +kernel
theorem d_PR_node_13 : decode prog_1_method_5_code 13 = .ok (.aaload, 1) := by decide +kernel
theorem d_PR_node_14 : decode prog_1_method_5_code 14 = .ok (.iload_n 2, 1) := by decide +kernel
theorem d_PR_node_15 : decode prog_1_method_5_code 15 = .ok (.iload_n 3, 1) := by decide +kernel
theorem d_PR_node_16 : decode prog_1_method_5_code 16 = .ok (.invokevirtual 105, 3) := by decide +kernel
theorem d_PR_node_19 : decode prog_1_method_5_code 19 = .ok (.goto 5, 3) := by decide +kernel
theorem d_PR_node_22 : decode prog_1_method_5_code 22 = .ok (.bipush (-2), 2) := by decide +kernel
theorem d_PR_node_24 : decode prog_1_method_5_code 24 = .ok (.ireturn, 1) := by decide +kernel
theorem d_PR_part_0 : decode prog_1_method_6_code 0 = .ok (.aload_n 0, 1) := by decide +kernel
theorem d_PR_part_1 : decode prog_1_method_6_code 1 = .ok (.iload_n 1, 1) := by decide +kernel
theorem d_PR_part_2 : decode prog_1_method_6_code 2 = .ok (.invokevirtual 77, 3) := by decide +kernel
theorem d_PR_part_5 : decode prog_1_method_6_code 5 = .ok (.ifCond .eq 17, 3) := by decide +kernel
theorem d_PR_part_8 : decode prog_1_method_6_code 8 = .ok (.aload_n 0, 1) := by decide +kernel
theorem d_PR_part_9 : decode prog_1_method_6_code 9 = .ok (.getfield 65, 3) := by decide +kernel
theorem d_PR_part_12 : decode prog_1_method_6_code 12 = .ok (.iload_n 1, 1) := by decide +kernel
theorem d_PR_part_13 : decode prog_1_method_6_code 13 = .ok (.aaload, 1) := by decide +kernel
theorem d_PR_part_14 : decode prog_1_method_6_code 14 = .ok (.iload_n 2, 1) := by decide +kernel
theorem d_PR_part_15 : decode prog_1_method_6_code 15 = .ok (.iload_n 3, 1) := by decide +kernel
theorem d_PR_part_16 : decode prog_1_method_6_code 16 = .ok (.invokevirtual 109, 3) := by decide +kernel
theorem d_PR_part_19 : decode prog_1_method_6_code 19 = .ok (.goto 4, 3) := by decide +kernel
theorem d_PR_part_22 : decode prog_1_method_6_code 22 = .ok (.iconst (-1), 1) := by decide +kernel
theorem d_PR_part_23 : decode prog_1_method_6_code 23 = .ok (.ireturn, 1) := by decide +kernel
theorem d_PR_whole_0 : decode prog_1_method_7_code 0 = .ok (.aload_n 0, 1) := by decide +kernel
theorem d_PR_whole_1 : decode prog_1_method_7_code 1 = .ok (.iload_n 1, 1) := by decide +kernel
theorem d_PR_whole_2 : decode prog_1_method_7_code 2 = .ok (.invokevirtual 77, 3) := by decide +kernel
theorem d_PR_whole_5 : decode prog_1_method_7_code 5 = .ok (.ifCond .eq 16, 3) := by decide +kernel
theorem d_PR_whole_8 : decode prog_1_method_7_code 8 = .ok (.aload_n 0, 1) := by decide +kernel
theorem d_PR_whole_9 : decode prog_1_method_7_code 9 = .ok (.getfield 65, 3) := by decide +kernel
theorem d_PR_whole_12 : decode prog_1_method_7_code 12 = .ok (.iload_n 1, 1) := by decide +kernel
theorem d_PR_whole_13 : decode prog_1_method_7_code 13 = .ok (.aaload, 1) := by decide +kernel
theorem d_PR_whole_14 : decode prog_1_method_7_code 14 = .ok (.iload_n 2, 1) := by decide +kernel
theorem d_PR_whole_15 : decode prog_1_method_7_code 15 = .ok (.invokevirtual 112, 3) := by decide +kernel
theorem d_PR_whole_18 : decode prog_1_method_7_code 18 = .ok (.goto 4, 3) := by decide +kernel
theorem d_PR_whole_21 : decode prog_1_method_7_code 21 = .ok (.iconst (-1), 1) := by decide +kernel
theorem d_PR_whole_22 : decode prog_1_method_7_code 22 = .ok (.ireturn, 1) := by decide +kernel
theorem d_PR_names_0 : decode prog_1_method_8_code 0 = .ok (.aload_n 0, 1) := by decide +kernel
theorem d_PR_names_1 : decode prog_1_method_8_code 1 = .ok (.getfield 50, 3) := by decide +kernel
theorem d_PR_names_4 : decode prog_1_method_8_code 4 = .ok (.getfield 116, 3) := by decide +kernel
theorem d_PR_names_7 : decode prog_1_method_8_code 7 = .ok (.ireturn, 1) := by decide +kernel
theorem d_PR_spelt_0 : decode prog_1_method_9_code 0 = .ok (.aload_n 0, 1) := by decide +kernel
theorem d_PR_spelt_1 : decode prog_1_method_9_code 1 = .ok (.getfield 50, 3) := by decide +kernel
theorem d_PR_spelt_4 : decode prog_1_method_9_code 4 = .ok (.iload_n 1, 1) := by decide +kernel
theorem d_PR_spelt_5 : decode prog_1_method_9_code 5 = .ok (.iload_n 2, 1) := by decide +kernel
theorem d_PR_spelt_6 : decode prog_1_method_9_code 6 = .ok (.invokevirtual 117, 3) := by decide +kernel
theorem d_PR_spelt_9 : decode prog_1_method_9_code 9 = .ok (.ireturn, 1) := by decide +kernel
theorem d_PR_write_0 : decode prog_1_method_10_code 0 = .ok (.aload_n 0, 1) := by decide +kernel
theorem d_PR_write_1 : decode prog_1_method_10_code 1 = .ok (.iload_n 1, 1) := by decide +kernel
theorem d_PR_write_2 : decode prog_1_method_10_code 2 = .ok (.invokevirtual 77, 3) := by decide +kernel
theorem d_PR_write_5 : decode prog_1_method_10_code 5 = .ok (.ifCond .eq 24, 3) := by decide +kernel
theorem d_PR_write_8 : decode prog_1_method_10_code 8 = .ok (.aload_n 0, 1) := by decide +kernel
theorem d_PR_write_9 : decode prog_1_method_10_code 9 = .ok (.getfield 59, 3) := by decide +kernel
theorem d_PR_write_12 : decode prog_1_method_10_code 12 = .ok (.aload_n 0, 1) := by decide +kernel
theorem d_PR_write_13 : decode prog_1_method_10_code 13 = .ok (.getfield 65, 3) := by decide +kernel
theorem d_PR_write_16 : decode prog_1_method_10_code 16 = .ok (.iload_n 1, 1) := by decide +kernel
theorem d_PR_write_17 : decode prog_1_method_10_code 17 = .ok (.aaload, 1) := by decide +kernel
theorem d_PR_write_18 : decode prog_1_method_10_code 18 = .ok (.iload_n 2, 1) := by decide +kernel
theorem d_PR_write_19 : decode prog_1_method_10_code 19 = .ok (.aload_n 0, 1) := by decide +kernel
theorem d_PR_write_20 : decode prog_1_method_10_code 20 = .ok (.getfield 21, 3) := by decide +kernel
theorem d_PR_write_23 : decode prog_1_method_10_code 23 = .ok (.invokevirtual 120, 3) := by decide +kernel
theorem d_PR_write_26 : decode prog_1_method_10_code 26 = .ok (.ifCond .ne 5, 3) := by decide +kernel
theorem d_PR_write_29 : decode prog_1_method_10_code 29 = .ok (.iconst (-1), 1) := by decide +kernel
theorem d_PR_write_30 : decode prog_1_method_10_code 30 = .ok (.ireturn, 1) := by decide +kernel
theorem d_PR_write_31 : decode prog_1_method_10_code 31 = .ok (.aload_n 0, 1) := by decide +kernel
theorem d_PR_write_32 : decode prog_1_method_10_code 32 = .ok (.getfield 21, 3) := by decide +kernel
theorem d_PR_write_35 : decode prog_1_method_10_code 35 = .ok (.astore_n 3, 1) := by decide +kernel
theorem d_PR_write_36 : decode prog_1_method_10_code 36 = .ok (.aload_n 0, 1) := by decide +kernel
theorem d_PR_write_37 : decode prog_1_method_10_code 37 = .ok (.aload_n 0, 1) := by decide +kernel
theorem d_PR_write_38 : decode prog_1_method_10_code 38 = .ok (.getfield 18, 3) := by decide +kernel
theorem d_PR_write_41 : decode prog_1_method_10_code 41 = .ok (.putfield 21, 3) := by decide +kernel
theorem d_PR_write_44 : decode prog_1_method_10_code 44 = .ok (.aload_n 0, 1) := by decide +kernel
theorem d_PR_write_45 : decode prog_1_method_10_code 45 = .ok (.aload_n 3, 1) := by decide +kernel
theorem d_PR_write_46 : decode prog_1_method_10_code 46 = .ok (.putfield 18, 3) := by decide +kernel
theorem d_PR_write_49 : decode prog_1_method_10_code 49 = .ok (.aload_n 0, 1) := by decide +kernel
theorem d_PR_write_50 : decode prog_1_method_10_code 50 = .ok (.getfield 18, 3) := by decide +kernel
theorem d_PR_write_53 : decode prog_1_method_10_code 53 = .ok (.getfield 70, 3) := by decide +kernel
theorem d_PR_write_56 : decode prog_1_method_10_code 56 = .ok (.ireturn, 1) := by decide +kernel
theorem d_PR_written_0 : decode prog_1_method_11_code 0 = .ok (.aload_n 0, 1) := by decide +kernel
theorem d_PR_written_1 : decode prog_1_method_11_code 1 = .ok (.getfield 18, 3) := by decide +kernel
theorem d_PR_written_4 : decode prog_1_method_11_code 4 = .ok (.iload_n 1, 1) := by decide +kernel
theorem d_PR_written_5 : decode prog_1_method_11_code 5 = .ok (.invokevirtual 124, 3) := by decide +kernel
theorem d_PR_written_8 : decode prog_1_method_11_code 8 = .ok (.ireturn, 1) := by decide +kernel
theorem d_PR_again_0 : decode prog_1_method_12_code 0 = .ok (.aload_n 0, 1) := by decide +kernel
theorem d_PR_again_1 : decode prog_1_method_12_code 1 = .ok (.getfield 14, 3) := by decide +kernel
theorem d_PR_again_4 : decode prog_1_method_12_code 4 = .ok (.aload_n 0, 1) := by decide +kernel
theorem d_PR_again_5 : decode prog_1_method_12_code 5 = .ok (.getfield 18, 3) := by decide +kernel
theorem d_PR_again_8 : decode prog_1_method_12_code 8 = .ok (.invokevirtual 127, 3) := by decide +kernel
theorem d_PR_again_11 : decode prog_1_method_12_code 11 = .ok (.aload_n 0, 1) := by decide +kernel
theorem d_PR_again_12 : decode prog_1_method_12_code 12 = .ok (.getfield 14, 3) := by decide +kernel
theorem d_PR_again_15 : decode prog_1_method_12_code 15 = .ok (.getfield 70, 3) := by decide +kernel
theorem d_PR_again_18 : decode prog_1_method_12_code 18 = .ok (.ireturn, 1) := by decide +kernel
theorem d_PR_same_0 : decode prog_1_method_13_code 0 = .ok (.aload_n 0, 1) := by decide +kernel
theorem d_PR_same_1 : decode prog_1_method_13_code 1 = .ok (.getfield 65, 3) := by decide +kernel
theorem d_PR_same_4 : decode prog_1_method_13_code 4 = .ok (.iconst 0, 1) := by decide +kernel
theorem d_PR_same_5 : decode prog_1_method_13_code 5 = .ok (.aaload, 1) := by decide +kernel
theorem d_PR_same_6 : decode prog_1_method_13_code 6 = .ok (.aload_n 0, 1) := by decide +kernel
theorem d_PR_same_7 : decode prog_1_method_13_code 7 = .ok (.getfield 65, 3) := by decide +kernel
theorem d_PR_same_10 : decode prog_1_method_13_code 10 = .ok (.iconst 1, 1) := by decide +kernel
theorem d_PR_same_11 : decode prog_1_method_13_code 11 = .ok (.aaload, 1) := by decide +kernel
theorem d_PR_same_12 : decode prog_1_method_13_code 12 = .ok (.invokevirtual 131, 3) := by decide +kernel
theorem d_PR_same_15 : decode prog_1_method_13_code 15 = .ok (.ireturn, 1) := by decide +kernel
theorem d_PR_hasTree_0 : decode prog_1_method_14_code 0 = .ok (.iload_n 1, 1) := by decide +kernel
theorem d_PR_hasTree_1 : decode prog_1_method_14_code 1 = .ok (.ifCond .lt 12, 3) := by decide +kernel
theorem d_PR_hasTree_4 : decode prog_1_method_14_code 4 = .ok (.iload_n 1, 1) := by decide +kernel
theorem d_PR_hasTree_5 : decode prog_1_method_14_code 5 = .ok (.iconst 2, 1) := by decide +kernel
theorem d_PR_hasTree_6 : decode prog_1_method_14_code 6 = .ok (.if_icmp .ge 7, 3) := by decide +kernel
theorem d_PR_hasTree_9 : decode prog_1_method_14_code 9 = .ok (.iconst 1, 1) := by decide +kernel
theorem d_PR_hasTree_10 : decode prog_1_method_14_code 10 = .ok (.goto 4, 3) := by decide +kernel
theorem d_PR_hasTree_13 : decode prog_1_method_14_code 13 = .ok (.iconst 0, 1) := by decide +kernel
theorem d_PR_hasTree_14 : decode prog_1_method_14_code 14 = .ok (.ireturn, 1) := by decide +kernel
theorem d_PR_numberNames_0 : decode prog_1_method_15_code 0 = .ok (.iconst 0, 1) := by decide +kernel
theorem d_PR_numberNames_1 : decode prog_1_method_15_code 1 = .ok (.istore_n 2, 1) := by decide +kernel
theorem d_PR_numberNames_2 : decode prog_1_method_15_code 2 = .ok (.iload_n 2, 1) := by decide +kernel
theorem d_PR_numberNames_3 : decode prog_1_method_15_code 3 = .ok (.aload_n 1, 1) := by decide +kernel
theorem d_PR_numberNames_4 : decode prog_1_method_15_code 4 = .ok (.getfield 104, 3) := by decide +kernel
theorem d_PR_numberNames_7 : decode prog_1_method_15_code 7 = .ok (.if_icmp .ge 56, 3) := by decide +kernel
theorem d_PR_numberNames_10 : decode prog_1_method_15_code 10 = .ok (.aload_n 1, 1) := by decide +kernel
theorem d_PR_numberNames_11 : decode prog_1_method_15_code 11 = .ok (.getfield 135, 3) := by decide +kernel
theorem d_PR_numberNames_14 : decode prog_1_method_15_code 14 = .ok (.iload_n 2, 1) := by decide +kernel
theorem d_PR_numberNames_15 : decode prog_1_method_15_code 15 = .ok (.iaload, 1) := by decide +kernel
theorem d_PR_numberNames_16 : decode prog_1_method_15_code 16 = .ok (.bipush 13, 2) := by decide +kernel
theorem d_PR_numberNames_18 : decode prog_1_method_15_code 18 = .ok (.if_icmp .ne 39, 3) := by decide +kernel
theorem d_PR_numberNames_21 : decode prog_1_method_15_code 21 = .ok (.aload_n 1, 1) := by decide +kernel
theorem d_PR_numberNames_22 : decode prog_1_method_15_code 22 = .ok (.getfield 141, 3) := by decide +kernel
theorem d_PR_numberNames_25 : decode prog_1_method_15_code 25 = .ok (.iload_n 2, 1) := by decide +kernel
theorem d_PR_numberNames_26 : decode prog_1_method_15_code 26 = .ok (.iaload, 1) := by decide +kernel
theorem d_PR_numberNames_27 : decode prog_1_method_15_code 27 = .ok (.istore_n 3, 1) := by decide +kernel
theorem d_PR_numberNames_28 : decode prog_1_method_15_code 28 = .ok (.aload_n 1, 1) := by decide +kernel
theorem d_PR_numberNames_29 : decode prog_1_method_15_code 29 = .ok (.getfield 144, 3) := by decide +kernel
theorem d_PR_numberNames_32 : decode prog_1_method_15_code 32 = .ok (.iload_n 2, 1) := by decide +kernel
theorem d_PR_numberNames_33 : decode prog_1_method_15_code 33 = .ok (.aload_n 0, 1) := by decide +kernel
theorem d_PR_numberNames_34 : decode prog_1_method_15_code 34 = .ok (.getfield 50, 3) := by decide +kernel
theorem d_PR_numberNames_37 : decode prog_1_method_15_code 37 = .ok (.aload_n 0, 1) := by decide +kernel
theorem d_PR_numberNames_38 : decode prog_1_method_15_code 38 = .ok (.getfield 27, 3) := by decide +kernel
theorem d_PR_numberNames_41 : decode prog_1_method_15_code 41 = .ok (.getfield 147, 3) := by decide +kernel
theorem d_PR_numberNames_44 : decode prog_1_method_15_code 44 = .ok (.iload_n 3, 1) := by decide +kernel
theorem d_PR_numberNames_45 : decode prog_1_method_15_code 45 = .ok (.aload_n 0, 1) := by decide +kernel
theorem d_PR_numberNames_46 : decode prog_1_method_15_code 46 = .ok (.getfield 27, 3) := by decide +kernel
theorem d_PR_numberNames_49 : decode prog_1_method_15_code 49 = .ok (.iload_n 3, 1) := by decide +kernel
theorem d_PR_numberNames_50 : decode prog_1_method_15_code 50 = .ok (.invokevirtual 150, 3) := by decide +kernel
theorem d_PR_numberNames_53 : decode prog_1_method_15_code 53 = .ok (.invokevirtual 153, 3) := by decide +kernel
theorem d_PR_numberNames_56 : decode prog_1_method_15_code 56 = .ok (.iastore, 1) := by decide +kernel
theorem d_PR_numberNames_57 : decode prog_1_method_15_code 57 = .ok (.iinc 2 1, 3) := by decide +kernel
theorem d_PR_numberNames_60 : decode prog_1_method_15_code 60 = .ok (.goto (-58), 3) := by decide +kernel
theorem d_PR_numberNames_63 : decode prog_1_method_15_code 63 = .ok (.return_, 1) := by decide +kernel
theorem d_PR_isLetter_0 : decode prog_1_method_16_code 0 = .ok (.iload_n 0, 1) := by decide +kernel
theorem d_PR_isLetter_1 : decode prog_1_method_16_code 1 = .ok (.bipush 97, 2) := by decide +kernel
theorem d_PR_isLetter_3 : decode prog_1_method_16_code 3 = .ok (.if_icmp .lt 9, 3) := by decide +kernel
theorem d_PR_isLetter_6 : decode prog_1_method_16_code 6 = .ok (.iload_n 0, 1) := by decide +kernel
theorem d_PR_isLetter_7 : decode prog_1_method_16_code 7 = .ok (.bipush 122, 2) := by decide +kernel
theorem d_PR_isLetter_9 : decode prog_1_method_16_code 9 = .ok (.if_icmp .le 21, 3) := by decide +kernel
theorem d_PR_isLetter_12 : decode prog_1_method_16_code 12 = .ok (.iload_n 0, 1) := by decide +kernel
theorem d_PR_isLetter_13 : decode prog_1_method_16_code 13 = .ok (.bipush 65, 2) := by decide +kernel
theorem d_PR_isLetter_15 : decode prog_1_method_16_code 15 = .ok (.if_icmp .lt 9, 3) := by decide +kernel
theorem d_PR_isLetter_18 : decode prog_1_method_16_code 18 = .ok (.iload_n 0, 1) := by decide +kernel
theorem d_PR_isLetter_19 : decode prog_1_method_16_code 19 = .ok (.bipush 90, 2) := by decide +kernel
theorem d_PR_isLetter_21 : decode prog_1_method_16_code 21 = .ok (.if_icmp .le 9, 3) := by decide +kernel
theorem d_PR_isLetter_24 : decode prog_1_method_16_code 24 = .ok (.iload_n 0, 1) := by decide +kernel
theorem d_PR_isLetter_25 : decode prog_1_method_16_code 25 = .ok (.bipush 95, 2) := by decide +kernel
theorem d_PR_isLetter_27 : decode prog_1_method_16_code 27 = .ok (.if_icmp .ne 7, 3) := by decide +kernel
theorem d_PR_isLetter_30 : decode prog_1_method_16_code 30 = .ok (.iconst 1, 1) := by decide +kernel
theorem d_PR_isLetter_31 : decode prog_1_method_16_code 31 = .ok (.goto 4, 3) := by decide +kernel
theorem d_PR_isLetter_34 : decode prog_1_method_16_code 34 = .ok (.iconst 0, 1) := by decide +kernel
theorem d_PR_isLetter_35 : decode prog_1_method_16_code 35 = .ok (.ireturn, 1) := by decide +kernel
theorem d_PR_isDigit_0 : decode prog_1_method_17_code 0 = .ok (.iload_n 0, 1) := by decide +kernel
theorem d_PR_isDigit_1 : decode prog_1_method_17_code 1 = .ok (.bipush 48, 2) := by decide +kernel
theorem d_PR_isDigit_3 : decode prog_1_method_17_code 3 = .ok (.if_icmp .lt 13, 3) := by decide +kernel
theorem d_PR_isDigit_6 : decode prog_1_method_17_code 6 = .ok (.iload_n 0, 1) := by decide +kernel
theorem d_PR_isDigit_7 : decode prog_1_method_17_code 7 = .ok (.bipush 57, 2) := by decide +kernel
theorem d_PR_isDigit_9 : decode prog_1_method_17_code 9 = .ok (.if_icmp .gt 7, 3) := by decide +kernel
theorem d_PR_isDigit_12 : decode prog_1_method_17_code 12 = .ok (.iconst 1, 1) := by decide +kernel
theorem d_PR_isDigit_13 : decode prog_1_method_17_code 13 = .ok (.goto 4, 3) := by decide +kernel
theorem d_PR_isDigit_16 : decode prog_1_method_17_code 16 = .ok (.iconst 0, 1) := by decide +kernel
theorem d_PR_isDigit_17 : decode prog_1_method_17_code 17 = .ok (.ireturn, 1) := by decide +kernel
theorem d_PR_isWordByte_0 : decode prog_1_method_18_code 0 = .ok (.iload_n 0, 1) := by decide +kernel
theorem d_PR_isWordByte_1 : decode prog_1_method_18_code 1 = .ok (.invokestatic 157, 3) := by decide +kernel
theorem d_PR_isWordByte_4 : decode prog_1_method_18_code 4 = .ok (.ifCond .ne 10, 3) := by decide +kernel
theorem d_PR_isWordByte_7 : decode prog_1_method_18_code 7 = .ok (.iload_n 0, 1) := by decide +kernel
theorem d_PR_isWordByte_8 : decode prog_1_method_18_code 8 = .ok (.invokestatic 160, 3) := by decide +kernel
theorem d_PR_isWordByte_11 : decode prog_1_method_18_code 11 = .ok (.ifCond .eq 7, 3) := by decide +kernel
theorem d_PR_isWordByte_14 : decode prog_1_method_18_code 14 = .ok (.iconst 1, 1) := by decide +kernel
theorem d_PR_isWordByte_15 : decode prog_1_method_18_code 15 = .ok (.goto 4, 3) := by decide +kernel
theorem d_PR_isWordByte_18 : decode prog_1_method_18_code 18 = .ok (.iconst 0, 1) := by decide +kernel
theorem d_PR_isWordByte_19 : decode prog_1_method_18_code 19 = .ok (.ireturn, 1) := by decide +kernel
theorem d_PR_isBlank_0 : decode prog_1_method_19_code 0 = .ok (.iload_n 0, 1) := by decide +kernel
theorem d_PR_isBlank_1 : decode prog_1_method_19_code 1 = .ok (.bipush 9, 2) := by decide +kernel
theorem d_PR_isBlank_3 : decode prog_1_method_19_code 3 = .ok (.if_icmp .eq 21, 3) := by decide +kernel
theorem d_PR_isBlank_6 : decode prog_1_method_19_code 6 = .ok (.iload_n 0, 1) := by decide +kernel
theorem d_PR_isBlank_7 : decode prog_1_method_19_code 7 = .ok (.bipush 10, 2) := by decide +kernel
theorem d_PR_isBlank_9 : decode prog_1_method_19_code 9 = .ok (.if_icmp .eq 15, 3) := by decide +kernel
theorem d_PR_isBlank_12 : decode prog_1_method_19_code 12 = .ok (.iload_n 0, 1) := by decide +kernel
theorem d_PR_isBlank_13 : decode prog_1_method_19_code 13 = .ok (.bipush 13, 2) := by decide +kernel
theorem d_PR_isBlank_15 : decode prog_1_method_19_code 15 = .ok (.if_icmp .eq 9, 3) := by decide +kernel
theorem d_PR_isBlank_18 : decode prog_1_method_19_code 18 = .ok (.iload_n 0, 1) := by decide +kernel
theorem d_PR_isBlank_19 : decode prog_1_method_19_code 19 = .ok (.bipush 32, 2) := by decide +kernel
theorem d_PR_isBlank_21 : decode prog_1_method_19_code 21 = .ok (.if_icmp .ne 7, 3) := by decide +kernel
theorem d_PR_isBlank_24 : decode prog_1_method_19_code 24 = .ok (.iconst 1, 1) := by decide +kernel
theorem d_PR_isBlank_25 : decode prog_1_method_19_code 25 = .ok (.goto 4, 3) := by decide +kernel
theorem d_PR_isBlank_28 : decode prog_1_method_19_code 28 = .ok (.iconst 0, 1) := by decide +kernel
theorem d_PR_isBlank_29 : decode prog_1_method_19_code 29 = .ok (.ireturn, 1) := by decide +kernel
theorem d_PR_roomier_0 : decode prog_1_method_20_code 0 = .ok (.iload_n 1, 1) := by decide +kernel
theorem d_PR_roomier_1 : decode prog_1_method_20_code 1 = .ok (.iconst 2, 1) := by decide +kernel
theorem d_PR_roomier_2 : decode prog_1_method_20_code 2 = .ok (.iload_n 0, 1) := by decide +kernel
theorem d_PR_roomier_3 : decode prog_1_method_20_code 3 = .ok (.imul, 1) := by decide +kernel
theorem d_PR_roomier_4 : decode prog_1_method_20_code 4 = .ok (.invokestatic 163, 3) := by decide +kernel
theorem d_PR_roomier_7 : decode prog_1_method_20_code 7 = .ok (.ireturn, 1) := by decide +kernel
