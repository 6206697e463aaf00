theorem d_WR_init_0 : decode prog_10_method_1_code 0 = .ok (.aload_n 0, 1) := by decide +kernel
theorem d_WR_init_1 : decode prog_10_method_1_code 1 = .ok (.invokespecial 3, 3) := by decide +kernel
theorem d_WR_init_4 : decode prog_10_method_1_code 4 = .ok (.aload_n 0, 1) := by decide +kernel
theorem d_WR_init_5 : decode prog_10_method_1_code 5 = .ok (.new 9, 3) := by decide +kernel
theorem d_WR_init_8 : decode prog_10_method_1_code 8 = .ok (.dup, 1) := by decide +kernel
theorem d_WR_init_9 : decode prog_10_method_1_code 9 = .ok (.invokespecial 11, 3) := by decide +kernel
theorem d_WR_init_12 : decode prog_10_method_1_code 12 = .ok (.putfield 12, 3) := by decide +kernel
theorem d_WR_init_15 : decode prog_10_method_1_code 15 = .ok (.aload_n 0, 1) := by decide +kernel
theorem d_WR_init_16 : decode prog_10_method_1_code 16 = .ok (.new 18, 3) := by decide +kernel
theorem d_WR_init_19 : decode prog_10_method_1_code 19 = .ok (.dup, 1) := by decide +kernel
theorem d_WR_init_20 : decode prog_10_method_1_code 20 = .ok (.sipush 8000, 3) := by decide +kernel
theorem d_WR_init_23 : decode prog_10_method_1_code 23 = .ok (.invokespecial 20, 3) := by decide +kernel
theorem d_WR_init_26 : decode prog_10_method_1_code 26 = .ok (.putfield 23, 3) := by decide +kernel
theorem d_WR_init_29 : decode prog_10_method_1_code 29 = .ok (.aload_n 0, 1) := by decide +kernel
theorem d_WR_init_30 : decode prog_10_method_1_code 30 = .ok (.aload_n 1, 1) := by decide +kernel
theorem d_WR_init_31 : decode prog_10_method_1_code 31 = .ok (.putfield 27, 3) := by decide +kernel
theorem d_WR_init_34 : decode prog_10_method_1_code 34 = .ok (.return_, 1) := by decide +kernel
theorem d_WR_compose_0 : decode prog_10_method_2_code 0 = .ok (.aload_n 1, 1) := by decide +kernel
theorem d_WR_compose_1 : decode prog_10_method_2_code 1 = .ok (.iload_n 2, 1) := by decide +kernel
theorem d_WR_compose_2 : decode prog_10_method_2_code 2 = .ok (.invokevirtual 31, 3) := by decide +kernel
theorem d_WR_compose_5 : decode prog_10_method_2_code 5 = .ok (.ifCond .ne 5, 3) := by decide +kernel
theorem d_WR_compose_8 : decode prog_10_method_2_code 8 = .ok (.iconst 0, 1) := by decide +kernel
theorem d_WR_compose_9 : decode prog_10_method_2_code 9 = .ok (.ireturn, 1) := by decide +kernel
theorem d_WR_compose_10 : decode prog_10_method_2_code 10 = .ok (.aload_n 0, 1) := by decide +kernel
theorem d_WR_compose_11 : decode prog_10_method_2_code 11 = .ok (.aload_n 1, 1) := by decide +kernel
theorem d_WR_compose_12 : decode prog_10_method_2_code 12 = .ok (.putfield 12, 3) := by decide +kernel
theorem d_WR_compose_15 : decode prog_10_method_2_code 15 = .ok (.aload_n 0, 1) := by decide +kernel
theorem d_WR_compose_16 : decode prog_10_method_2_code 16 = .ok (.aload_n 3, 1) := by decide +kernel
theorem d_WR_compose_17 : decode prog_10_method_2_code 17 = .ok (.putfield 23, 3) := by decide +kernel
theorem d_WR_compose_20 : decode prog_10_method_2_code 20 = .ok (.aload_n 0, 1) := by decide +kernel
theorem d_WR_compose_21 : decode prog_10_method_2_code 21 = .ok (.getfield 23, 3) := by decide +kernel
theorem d_WR_compose_24 : decode prog_10_method_2_code 24 = .ok (.invokevirtual 35, 3) := by decide +kernel
theorem d_WR_compose_27 : decode prog_10_method_2_code 27 = .ok (.iload_n 2, 1) := by decide +kernel
theorem d_WR_compose_28 : decode prog_10_method_2_code 28 = .ok (.aload_n 0, 1) := by decide +kernel
theorem d_WR_compose_29 : decode prog_10_method_2_code 29 = .ok (.getfield 12, 3) := by decide +kernel
theorem d_WR_compose_32 : decode prog_10_method_2_code 32 = .ok (.getfield 38, 3) := by decide +kernel
theorem d_WR_compose_35 : decode prog_10_method_2_code 35 = .ok (.iload_n 2, 1) := by decide +kernel
theorem d_WR_compose_36 : decode prog_10_method_2_code 36 = .ok (.iaload, 1) := by decide +kernel
theorem d_WR_compose_37 : decode prog_10_method_2_code 37 = .ok (.iadd, 1) := by decide +kernel
theorem d_WR_compose_38 : decode prog_10_method_2_code 38 = .ok (.istore 4, 2) := by decide +kernel
theorem d_WR_compose_40 : decode prog_10_method_2_code 40 = .ok (.aload_n 0, 1) := by decide +kernel
theorem d_WR_compose_41 : decode prog_10_method_2_code 41 = .ok (.iload_n 2, 1) := by decide +kernel
theorem d_WR_compose_42 : decode prog_10_method_2_code 42 = .ok (.invokevirtual 42, 3) := by decide +kernel
theorem d_WR_compose_45 : decode prog_10_method_2_code 45 = .ok (.iload_n 2, 1) := by decide +kernel
theorem d_WR_compose_46 : decode prog_10_method_2_code 46 = .ok (.iconst 1, 1) := by decide +kernel
theorem d_WR_compose_47 : decode prog_10_method_2_code 47 = .ok (.iadd, 1) := by decide +kernel
theorem d_WR_compose_48 : decode prog_10_method_2_code 48 = .ok (.istore 5, 2) := by decide +kernel
theorem d_WR_compose_50 : decode prog_10_method_2_code 50 = .ok (.iload 5, 2) := by decide +kernel
theorem d_WR_compose_52 : decode prog_10_method_2_code 52 = .ok (.iload 4, 2) := by decide +kernel
theorem d_WR_compose_54 : decode prog_10_method_2_code 54 = .ok (.if_icmp .ge 89, 3) := by decide +kernel
theorem d_WR_compose_57 : decode prog_10_method_2_code 57 = .ok (.aload_n 0, 1) := by decide +kernel
theorem d_WR_compose_58 : decode prog_10_method_2_code 58 = .ok (.getfield 23, 3) := by decide +kernel
theorem d_WR_compose_61 : decode prog_10_method_2_code 61 = .ok (.getfield 45, 3) := by decide +kernel
theorem d_WR_compose_64 : decode prog_10_method_2_code 64 = .ok (.ifCond .ne 79, 3) := by decide +kernel
theorem d_WR_compose_67 : decode prog_10_method_2_code 67 = .ok (.aload_n 0, 1) := by decide +kernel
theorem d_WR_compose_68 : decode prog_10_method_2_code 68 = .ok (.getfield 12, 3) := by decide +kernel
theorem d_WR_compose_71 : decode prog_10_method_2_code 71 = .ok (.iload 5, 2) := by decide +kernel
theorem d_WR_compose_73 : decode prog_10_method_2_code 73 = .ok (.invokevirtual 49, 3) := by decide +kernel
theorem d_WR_compose_76 : decode prog_10_method_2_code 76 = .ok (.istore 6, 2) := by decide +kernel
theorem d_WR_compose_78 : decode prog_10_method_2_code 78 = .ok (.aload_n 0, 1) := by decide +kernel
theorem d_WR_compose_79 : decode prog_10_method_2_code 79 = .ok (.iload 6, 2) := by decide +kernel
theorem d_WR_compose_81 : decode prog_10_method_2_code 81 = .ok (.iload 5, 2) := by decide +kernel
theorem d_WR_compose_83 : decode prog_10_method_2_code 83 = .ok (.iconst 1, 1) := by decide +kernel
theorem d_WR_compose_84 : decode prog_10_method_2_code 84 = .ok (.isub, 1) := by decide +kernel
theorem d_WR_compose_85 : decode prog_10_method_2_code 85 = .ok (.invokevirtual 53, 3) := by decide +kernel
theorem d_WR_compose_88 : decode prog_10_method_2_code 88 = .ok (.aload_n 0, 1) := by decide +kernel
theorem d_WR_compose_89 : decode prog_10_method_2_code 89 = .ok (.aload_n 0, 1) := by decide +kernel
theorem d_WR_compose_90 : decode prog_10_method_2_code 90 = .ok (.iload 6, 2) := by decide +kernel
theorem d_WR_compose_92 : decode prog_10_method_2_code 92 = .ok (.aload_n 0, 1) := by decide +kernel
theorem d_WR_compose_93 : decode prog_10_method_2_code 93 = .ok (.getfield 12, 3) := by decide +kernel
theorem d_WR_compose_96 : decode prog_10_method_2_code 96 = .ok (.iload 5, 2) := by decide +kernel
theorem d_WR_compose_98 : decode prog_10_method_2_code 98 = .ok (.invokevirtual 57, 3) := by decide +kernel
theorem d_WR_compose_101 : decode prog_10_method_2_code 101 = .ok (.invokevirtual 60, 3) := by decide +kernel
theorem d_WR_compose_104 : decode prog_10_method_2_code 104 = .ok (.invokevirtual 64, 3) := by decide +kernel
theorem d_WR_compose_107 : decode prog_10_method_2_code 107 = .ok (.aload_n 0, 1) := by decide +kernel
theorem d_WR_compose_108 : decode prog_10_method_2_code 108 = .ok (.aload_n 0, 1) := by decide +kernel
theorem d_WR_compose_109 : decode prog_10_method_2_code 109 = .ok (.iload 5, 2) := by decide +kernel
theorem d_WR_compose_111 : decode prog_10_method_2_code 111 = .ok (.invokevirtual 68, 3) := by decide +kernel
theorem d_WR_compose_114 : decode prog_10_method_2_code 114 = .ok (.ifCond .eq 12, 3) := by decide +kernel
theorem d_WR_compose_117 : decode prog_10_method_2_code 117 = .ok (.aload_n 0, 1) := by decide +kernel
theorem d_WR_compose_118 : decode prog_10_method_2_code 118 = .ok (.iload 5, 2) := by decide +kernel
theorem d_WR_compose_120 : decode prog_10_method_2_code 120 = .ok (.invokevirtual 71, 3) := by decide +kernel
theorem d_WR_compose_123 : decode prog_10_method_2_code 123 = .ok (.goto 5, 3) := by decide +kernel
theorem d_WR_compose_126 : decode prog_10_method_2_code 126 = .ok (.ldc 75, 2) := by decide +kernel
theorem d_WR_compose_128 : decode prog_10_method_2_code 128 = .ok (.invokevirtual 64, 3) := by decide +kernel
theorem d_WR_compose_131 : decode prog_10_method_2_code 131 = .ok (.aload_n 0, 1) := by decide +kernel
theorem d_WR_compose_132 : decode prog_10_method_2_code 132 = .ok (.iload 5, 2) := by decide +kernel
theorem d_WR_compose_134 : decode prog_10_method_2_code 134 = .ok (.invokevirtual 42, 3) := by decide +kernel
theorem d_WR_compose_137 : decode prog_10_method_2_code 137 = .ok (.iinc 5 1, 3) := by decide +kernel
theorem d_WR_compose_140 : decode prog_10_method_2_code 140 = .ok (.goto (-90), 3) := by decide +kernel
theorem d_WR_compose_143 : decode prog_10_method_2_code 143 = .ok (.aload_n 0, 1) := by decide +kernel
theorem d_WR_compose_144 : decode prog_10_method_2_code 144 = .ok (.iload_n 2, 1) := by decide +kernel
theorem d_WR_compose_145 : decode prog_10_method_2_code 145 = .ok (.iload 4, 2) := by decide +kernel
theorem d_WR_compose_147 : decode prog_10_method_2_code 147 = .ok (.iconst 1, 1) := by decide +kernel
theorem d_WR_compose_148 : decode prog_10_method_2_code 148 = .ok (.isub, 1) := by decide +kernel
theorem d_WR_compose_149 : decode prog_10_method_2_code 149 = .ok (.invokevirtual 53, 3) := by decide +kernel
theorem d_WR_compose_152 : decode prog_10_method_2_code 152 = .ok (.aload_n 0, 1) := by decide +kernel
theorem d_WR_compose_153 : decode prog_10_method_2_code 153 = .ok (.aload_n 0, 1) := by decide +kernel
theorem d_WR_compose_154 : decode prog_10_method_2_code 154 = .ok (.iload_n 2, 1) := by decide +kernel
theorem d_WR_compose_155 : decode prog_10_method_2_code 155 = .ok (.invokevirtual 77, 3) := by decide +kernel
theorem d_WR_compose_158 : decode prog_10_method_2_code 158 = .ok (.invokevirtual 64, 3) := by decide +kernel
theorem d_WR_compose_161 : decode prog_10_method_2_code 161 = .ok (.aload_n 0, 1) := by decide +kernel
theorem d_WR_compose_162 : decode prog_10_method_2_code 162 = .ok (.getfield 23, 3) := by decide +kernel
theorem d_WR_compose_165 : decode prog_10_method_2_code 165 = .ok (.getfield 45, 3) := by decide +kernel
theorem d_WR_compose_168 : decode prog_10_method_2_code 168 = .ok (.ifCond .ne 7, 3) := by decide +kernel
theorem d_WR_compose_171 : decode prog_10_method_2_code 171 = .ok (.iconst 1, 1) := by decide +kernel
theorem d_WR_compose_172 : decode prog_10_method_2_code 172 = .ok (.goto 4, 3) := by decide +kernel
theorem d_WR_compose_175 : decode prog_10_method_2_code 175 = .ok (.iconst 0, 1) := by decide +kernel
theorem d_WR_compose_176 : decode prog_10_method_2_code 176 = .ok (.ireturn, 1) := by decide +kernel
theorem d_WR_endDownTo_0 : decode prog_10_method_3_code 0 = .ok (.iload_n 2, 1) := by decide +kernel
theorem d_WR_endDownTo_1 : decode prog_10_method_3_code 1 = .ok (.istore_n 3, 1) := by decide +kernel
theorem d_WR_endDownTo_2 : decode prog_10_method_3_code 2 = .ok (.iconst 0, 1) := by decide +kernel
theorem d_WR_endDownTo_3 : decode prog_10_method_3_code 3 = .ok (.istore 4, 2) := by decide +kernel
theorem d_WR_endDownTo_5 : decode prog_10_method_3_code 5 = .ok (.iload 4, 2) := by decide +kernel
theorem d_WR_endDownTo_7 : decode prog_10_method_3_code 7 = .ok (.aload_n 0, 1) := by decide +kernel
theorem d_WR_endDownTo_8 : decode prog_10_method_3_code 8 = .ok (.getfield 12, 3) := by decide +kernel
theorem d_WR_endDownTo_11 : decode prog_10_method_3_code 11 = .ok (.getfield 80, 3) := by decide +kernel
theorem d_WR_endDownTo_14 : decode prog_10_method_3_code 14 = .ok (.if_icmp .ge 54, 3) := by decide +kernel
theorem d_WR_endDownTo_17 : decode prog_10_method_3_code 17 = .ok (.iload_n 3, 1) := by decide +kernel
theorem d_WR_endDownTo_18 : decode prog_10_method_3_code 18 = .ok (.iload_n 1, 1) := by decide +kernel
theorem d_WR_endDownTo_19 : decode prog_10_method_3_code 19 = .ok (.if_icmp .le 49, 3) := by decide +kernel
theorem d_WR_endDownTo_22 : decode prog_10_method_3_code 22 = .ok (.aload_n 0, 1) := by decide +kernel
theorem d_WR_endDownTo_23 : decode prog_10_method_3_code 23 = .ok (.aload_n 0, 1) := by decide +kernel
theorem d_WR_endDownTo_24 : decode prog_10_method_3_code 24 = .ok (.iload_n 3, 1) := by decide +kernel
theorem d_WR_endDownTo_25 : decode prog_10_method_3_code 25 = .ok (.invokevirtual 77, 3) := by decide +kernel
theorem d_WR_endDownTo_28 : decode prog_10_method_3_code 28 = .ok (.invokevirtual 64, 3) := by decide +kernel
theorem d_WR_endDownTo_31 : decode prog_10_method_3_code 31 = .ok (.aload_n 0, 1) := by decide +kernel
theorem d_WR_endDownTo_32 : decode prog_10_method_3_code 32 = .ok (.aload_n 0, 1) := by decide +kernel
theorem d_WR_endDownTo_33 : decode prog_10_method_3_code 33 = .ok (.iload_n 3, 1) := by decide +kernel
theorem d_WR_endDownTo_34 : decode prog_10_method_3_code 34 = .ok (.invokevirtual 68, 3) := by decide +kernel
theorem d_WR_endDownTo_37 : decode prog_10_method_3_code 37 = .ok (.ifCond .eq 11, 3) := by decide +kernel
theorem d_WR_endDownTo_40 : decode prog_10_method_3_code 40 = .ok (.aload_n 0, 1) := by decide +kernel
theorem d_WR_endDownTo_41 : decode prog_10_method_3_code 41 = .ok (.iload_n 3, 1) := by decide +kernel
theorem d_WR_endDownTo_42 : decode prog_10_method_3_code 42 = .ok (.invokevirtual 84, 3) := by decide +kernel
theorem d_WR_endDownTo_45 : decode prog_10_method_3_code 45 = .ok (.goto 5, 3) := by decide +kernel
theorem d_WR_endDownTo_48 : decode prog_10_method_3_code 48 = .ok (.ldc 75, 2) := by decide +kernel
theorem d_WR_endDownTo_50 : decode prog_10_method_3_code 50 = .ok (.invokevirtual 64, 3) := by decide +kernel
theorem d_WR_endDownTo_53 : decode prog_10_method_3_code 53 = .ok (.aload_n 0, 1) := by decide +kernel
theorem d_WR_endDownTo_54 : decode prog_10_method_3_code 54 = .ok (.getfield 12, 3) := by decide +kernel
theorem d_WR_endDownTo_57 : decode prog_10_method_3_code 57 = .ok (.iload_n 3, 1) := by decide +kernel
theorem d_WR_endDownTo_58 : decode prog_10_method_3_code 58 = .ok (.invokevirtual 49, 3) := by decide +kernel
theorem d_WR_endDownTo_61 : decode prog_10_method_3_code 61 = .ok (.istore_n 3, 1) := by decide +kernel
theorem d_WR_endDownTo_62 : decode prog_10_method_3_code 62 = .ok (.iinc 4 1, 3) := by decide +kernel
theorem d_WR_endDownTo_65 : decode prog_10_method_3_code 65 = .ok (.goto (-60), 3) := by decide +kernel
theorem d_WR_endDownTo_68 : decode prog_10_method_3_code 68 = .ok (.return_, 1) := by decide +kernel
theorem d_WR_begin_0 : decode prog_10_method_4_code 0 = .ok (.aload_n 0, 1) := by decide +kernel
theorem d_WR_begin_1 : decode prog_10_method_4_code 1 = .ok (.getfield 12, 3) := by decide +kernel
theorem d_WR_begin_4 : decode prog_10_method_4_code 4 = .ok (.iload_n 1, 1) := by decide +kernel
theorem d_WR_begin_5 : decode prog_10_method_4_code 5 = .ok (.invokevirtual 87, 3) := by decide +kernel
theorem d_WR_begin_8 : decode prog_10_method_4_code 8 = .ok (.istore_n 2, 1) := by decide +kernel
theorem d_WR_begin_9 : decode prog_10_method_4_code 9 = .ok (.iload_n 2, 1) := by decide +kernel
theorem d_WR_begin_10 : decode prog_10_method_4_code 10 = .ok (.bipush 12, 2) := by decide +kernel
theorem d_WR_begin_12 : decode prog_10_method_4_code 12 = .ok (.if_icmp .ne 18, 3) := by decide +kernel
theorem d_WR_begin_15 : decode prog_10_method_4_code 15 = .ok (.aload_n 0, 1) := by decide +kernel
theorem d_WR_begin_16 : decode prog_10_method_4_code 16 = .ok (.aload_n 0, 1) := by decide +kernel
theorem d_WR_begin_17 : decode prog_10_method_4_code 17 = .ok (.getfield 12, 3) := by decide +kernel
theorem d_WR_begin_20 : decode prog_10_method_4_code 20 = .ok (.iload_n 1, 1) := by decide +kernel
theorem d_WR_begin_21 : decode prog_10_method_4_code 21 = .ok (.invokevirtual 92, 3) := by decide +kernel
theorem d_WR_begin_24 : decode prog_10_method_4_code 24 = .ok (.invokevirtual 95, 3) := by decide +kernel
theorem d_WR_begin_27 : decode prog_10_method_4_code 27 = .ok (.goto 32, 3) := by decide +kernel
theorem d_WR_begin_30 : decode prog_10_method_4_code 30 = .ok (.iload_n 2, 1) := by decide +kernel
theorem d_WR_begin_31 : decode prog_10_method_4_code 31 = .ok (.bipush 13, 2) := by decide +kernel
theorem d_WR_begin_33 : decode prog_10_method_4_code 33 = .ok (.if_icmp .ne 18, 3) := by decide +kernel
theorem d_WR_begin_36 : decode prog_10_method_4_code 36 = .ok (.aload_n 0, 1) := by decide +kernel
theorem d_WR_begin_37 : decode prog_10_method_4_code 37 = .ok (.aload_n 0, 1) := by decide +kernel
theorem d_WR_begin_38 : decode prog_10_method_4_code 38 = .ok (.getfield 12, 3) := by decide +kernel
theorem d_WR_begin_41 : decode prog_10_method_4_code 41 = .ok (.iload_n 1, 1) := by decide +kernel
theorem d_WR_begin_42 : decode prog_10_method_4_code 42 = .ok (.invokevirtual 92, 3) := by decide +kernel
theorem d_WR_begin_45 : decode prog_10_method_4_code 45 = .ok (.invokevirtual 98, 3) := by decide +kernel
theorem d_WR_begin_48 : decode prog_10_method_4_code 48 = .ok (.goto 11, 3) := by decide +kernel
theorem d_WR_begin_51 : decode prog_10_method_4_code 51 = .ok (.aload_n 0, 1) := by decide +kernel
theorem d_WR_begin_52 : decode prog_10_method_4_code 52 = .ok (.iload_n 2, 1) := by decide +kernel
theorem d_WR_begin_53 : decode prog_10_method_4_code 53 = .ok (.invokestatic 101, 3) := by decide +kernel
theorem d_WR_begin_56 : decode prog_10_method_4_code 56 = .ok (.invokevirtual 64, 3) := by decide +kernel
theorem d_WR_begin_59 : decode prog_10_method_4_code 59 = .ok (.return_, 1) := by decide +kernel
theorem d_WR_beginning_0 : decode prog_10_method_5_code 0 = .ok (.iload_n 0, 1) := by decide +kernel
theorem d_WR_beginning_1 : decode prog_10_method_5_code 1 = .ok (.tableswitch 161 1 26 #[119, 122, 125, 125, 161, 161, 161, 128, 131, 134, 137, 161, 161, 161, 146, 140, 161, 143, 146, 161, 149, 152, 155, 161, 161, 158], 119) := by decide +kernel
theorem d_WR_beginning_120 : decode prog_10_method_5_code 120 = .ok (.ldc 104, 2) := by decide +kernel
theorem d_WR_beginning_122 : decode prog_10_method_5_code 122 = .ok (.areturn, 1) := by decide +kernel
theorem d_WR_beginning_123 : decode prog_10_method_5_code 123 = .ok (.ldc 106, 2) := by decide +kernel
theorem d_WR_beginning_125 : decode prog_10_method_5_code 125 = .ok (.areturn, 1) := by decide +kernel
theorem d_WR_beginning_126 : decode prog_10_method_5_code 126 = .ok (.ldc 108, 2) := by decide +kernel
theorem d_WR_beginning_128 : decode prog_10_method_5_code 128 = .ok (.areturn, 1) := by decide +kernel
theorem d_WR_beginning_129 : decode prog_10_method_5_code 129 = .ok (.ldc 110, 2) := by decide +kernel
theorem d_WR_beginning_131 : decode prog_10_method_5_code 131 = .ok (.areturn, 1) := by decide +kernel
theorem d_WR_beginning_132 : decode prog_10_method_5_code 132 = .ok (.ldc 112, 2) := by decide +kernel
theorem d_WR_beginning_134 : decode prog_10_method_5_code 134 = .ok (.areturn, 1) := by decide +kernel
theorem d_WR_beginning_135 : decode prog_10_method_5_code 135 = .ok (.ldc 114, 2) := by decide +kernel
theorem d_WR_beginning_137 : decode prog_10_method_5_code 137 = .ok (.areturn, 1) := by decide +kernel
theorem d_WR_beginning_138 : decode prog_10_method_5_code 138 = .ok (.ldc 116, 2) := by decide +kernel
theorem d_WR_beginning_140 : decode prog_10_method_5_code 140 = .ok (.areturn, 1) := by decide +kernel
theorem d_WR_beginning_141 : decode prog_10_method_5_code 141 = .ok (.ldc 118, 2) := by decide +kernel
theorem d_WR_beginning_143 : decode prog_10_method_5_code 143 = .ok (.areturn, 1) := by decide +kernel
theorem d_WR_beginning_144 : decode prog_10_method_5_code 144 = .ok (.ldc 120, 2) := by decide +kernel
theorem d_WR_beginning_146 : decode prog_10_method_5_code 146 = .ok (.areturn, 1) := by decide +kernel
theorem d_WR_beginning_147 : decode prog_10_method_5_code 147 = .ok (.ldc 122, 2) := by decide +kernel
theorem d_WR_beginning_149 : decode prog_10_method_5_code 149 = .ok (.areturn, 1) := by decide +kernel
theorem d_WR_beginning_150 : decode prog_10_method_5_code 150 = .ok (.ldc 124, 2) := by decide +kernel
theorem d_WR_beginning_152 : decode prog_10_method_5_code 152 = .ok (.areturn, 1) := by decide +kernel
theorem d_WR_beginning_153 : decode prog_10_method_5_code 153 = .ok (.ldc 126, 2) := by decide +kernel
theorem d_WR_beginning_155 : decode prog_10_method_5_code 155 = .ok (.areturn, 1) := by decide +kernel
theorem d_WR_beginning_156 : decode prog_10_method_5_code 156 = .ok (.ldc 128, 2) := by decide +kernel
theorem d_WR_beginning_158 : decode prog_10_method_5_code 158 = .ok (.areturn, 1) := by decide +kernel
theorem d_WR_beginning_159 : decode prog_10_method_5_code 159 = .ok (.ldc 130, 2) := by decide +kernel
theorem d_WR_beginning_161 : decode prog_10_method_5_code 161 = .ok (.areturn, 1) := by decide +kernel
theorem d_WR_beginning_162 : decode prog_10_method_5_code 162 = .ok (.ldc 75, 2) := by decide +kernel
theorem d_WR_beginning_164 : decode prog_10_method_5_code 164 = .ok (.areturn, 1) := by decide +kernel
theorem d_WR_joint_0 : decode prog_10_method_6_code 0 = .ok (.aload_n 0, 1) := by decide +kernel
theorem d_WR_joint_1 : decode prog_10_method_6_code 1 = .ok (.getfield 12, 3) := by decide +kernel
theorem d_WR_joint_4 : decode prog_10_method_6_code 4 = .ok (.iload_n 1, 1) := by decide +kernel
theorem d_WR_joint_5 : decode prog_10_method_6_code 5 = .ok (.invokevirtual 87, 3) := by decide +kernel
theorem d_WR_joint_8 : decode prog_10_method_6_code 8 = .ok (.lookupswitch 122 #[(1, 52), (6, 66), (7, 59), (8, 88), (16, 110)], 52) := by decide +kernel
theorem d_WR_joint_60 : decode prog_10_method_6_code 60 = .ok (.aload_n 0, 1) := by decide +kernel
theorem d_WR_joint_61 : decode prog_10_method_6_code 61 = .ok (.iload_n 1, 1) := by decide +kernel
theorem d_WR_joint_62 : decode prog_10_method_6_code 62 = .ok (.iload_n 2, 1) := by decide +kernel
theorem d_WR_joint_63 : decode prog_10_method_6_code 63 = .ok (.invokevirtual 132, 3) := by decide +kernel
theorem d_WR_joint_66 : decode prog_10_method_6_code 66 = .ok (.areturn, 1) := by decide +kernel
theorem d_WR_joint_67 : decode prog_10_method_6_code 67 = .ok (.aload_n 0, 1) := by decide +kernel
theorem d_WR_joint_68 : decode prog_10_method_6_code 68 = .ok (.iload_n 1, 1) := by decide +kernel
theorem d_WR_joint_69 : decode prog_10_method_6_code 69 = .ok (.iload_n 2, 1) := by decide +kernel
theorem d_WR_joint_70 : decode prog_10_method_6_code 70 = .ok (.invokevirtual 135, 3) := by decide +kernel
theorem d_WR_joint_73 : decode prog_10_method_6_code 73 = .ok (.areturn, 1) := by decide +kernel
theorem d_WR_joint_74 : decode prog_10_method_6_code 74 = .ok (.iload_n 2, 1) := by decide +kernel
theorem d_WR_joint_75 : decode prog_10_method_6_code 75 = .ok (.ifCond .ne 8, 3) := by decide +kernel
theorem d_WR_joint_78 : decode prog_10_method_6_code 78 = .ok (.ldc 75, 2) := by decide +kernel
theorem d_WR_joint_80 : decode prog_10_method_6_code 80 = .ok (.goto 15, 3) := by decide +kernel
theorem d_WR_joint_83 : decode prog_10_method_6_code 83 = .ok (.iload_n 2, 1) := by decide +kernel
theorem d_WR_joint_84 : decode prog_10_method_6_code 84 = .ok (.iconst 1, 1) := by decide +kernel
theorem d_WR_joint_85 : decode prog_10_method_6_code 85 = .ok (.if_icmp .ne 8, 3) := by decide +kernel
theorem d_WR_joint_88 : decode prog_10_method_6_code 88 = .ok (.ldc 138, 2) := by decide +kernel
theorem d_WR_joint_90 : decode prog_10_method_6_code 90 = .ok (.goto 5, 3) := by decide +kernel
theorem d_WR_joint_93 : decode prog_10_method_6_code 93 = .ok (.ldc 140, 2) := by decide +kernel
theorem d_WR_joint_95 : decode prog_10_method_6_code 95 = .ok (.areturn, 1) := by decide +kernel
theorem d_WR_joint_96 : decode prog_10_method_6_code 96 = .ok (.iload_n 2, 1) := by decide +kernel
theorem d_WR_joint_97 : decode prog_10_method_6_code 97 = .ok (.ifCond .ne 8, 3) := by decide +kernel
theorem d_WR_joint_100 : decode prog_10_method_6_code 100 = .ok (.ldc 75, 2) := by decide +kernel
theorem d_WR_joint_102 : decode prog_10_method_6_code 102 = .ok (.goto 15, 3) := by decide +kernel
theorem d_WR_joint_105 : decode prog_10_method_6_code 105 = .ok (.iload_n 2, 1) := by decide +kernel
theorem d_WR_joint_106 : decode prog_10_method_6_code 106 = .ok (.iconst 1, 1) := by decide +kernel
theorem d_WR_joint_107 : decode prog_10_method_6_code 107 = .ok (.if_icmp .ne 8, 3) := by decide +kernel
theorem d_WR_joint_110 : decode prog_10_method_6_code 110 = .ok (.ldc 142, 2) := by decide +kernel
theorem d_WR_joint_112 : decode prog_10_method_6_code 112 = .ok (.goto 5, 3) := by decide +kernel
theorem d_WR_joint_115 : decode prog_10_method_6_code 115 = .ok (.ldc 144, 2) := by decide +kernel
theorem d_WR_joint_117 : decode prog_10_method_6_code 117 = .ok (.areturn, 1) := by decide +kernel
theorem d_WR_joint_118 : decode prog_10_method_6_code 118 = .ok (.iload_n 2, 1) := by decide +kernel
theorem d_WR_joint_119 : decode prog_10_method_6_code 119 = .ok (.ifCond .ne 8, 3) := by decide +kernel
theorem d_WR_joint_122 : decode prog_10_method_6_code 122 = .ok (.ldc 146, 2) := by decide +kernel
theorem d_WR_joint_124 : decode prog_10_method_6_code 124 = .ok (.goto 5, 3) := by decide +kernel
theorem d_WR_joint_127 : decode prog_10_method_6_code 127 = .ok (.ldc 148, 2) := by decide +kernel
theorem d_WR_joint_129 : decode prog_10_method_6_code 129 = .ok (.areturn, 1) := by decide +kernel
theorem d_WR_joint_130 : decode prog_10_method_6_code 130 = .ok (.iload_n 2, 1) := by decide +kernel
theorem d_WR_joint_131 : decode prog_10_method_6_code 131 = .ok (.ifCond .ne 8, 3) := by decide +kernel
theorem d_WR_joint_134 : decode prog_10_method_6_code 134 = .ok (.ldc 75, 2) := by decide +kernel
theorem d_WR_joint_136 : decode prog_10_method_6_code 136 = .ok (.goto 14, 3) := by decide +kernel
theorem d_WR_joint_139 : decode prog_10_method_6_code 139 = .ok (.aload_n 0, 1) := by decide +kernel
theorem d_WR_joint_140 : decode prog_10_method_6_code 140 = .ok (.getfield 12, 3) := by decide +kernel
theorem d_WR_joint_143 : decode prog_10_method_6_code 143 = .ok (.iload_n 1, 1) := by decide +kernel
theorem d_WR_joint_144 : decode prog_10_method_6_code 144 = .ok (.invokevirtual 87, 3) := by decide +kernel
theorem d_WR_joint_147 : decode prog_10_method_6_code 147 = .ok (.invokestatic 150, 3) := by decide +kernel
theorem d_WR_joint_150 : decode prog_10_method_6_code 150 = .ok (.areturn, 1) := by decide +kernel
theorem d_WR_functionJoint_0 : decode prog_10_method_7_code 0 = .ok (.iload_n 2, 1) := by decide +kernel
theorem d_WR_functionJoint_1 : decode prog_10_method_7_code 1 = .ok (.ifCond .ne 6, 3) := by decide +kernel
theorem d_WR_functionJoint_4 : decode prog_10_method_7_code 4 = .ok (.ldc 75, 2) := by decide +kernel
theorem d_WR_functionJoint_6 : decode prog_10_method_7_code 6 = .ok (.areturn, 1) := by decide +kernel
theorem d_WR_functionJoint_7 : decode prog_10_method_7_code 7 = .ok (.iload_n 2, 1) := by decide +kernel
theorem d_WR_functionJoint_8 : decode prog_10_method_7_code 8 = .ok (.aload_n 0, 1) := by decide +kernel
theorem d_WR_functionJoint_9 : decode prog_10_method_7_code 9 = .ok (.getfield 12, 3) := by decide +kernel
theorem d_WR_functionJoint_12 : decode prog_10_method_7_code 12 = .ok (.iload_n 1, 1) := by decide +kernel
theorem d_WR_functionJoint_13 : decode prog_10_method_7_code 13 = .ok (.invokevirtual 153, 3) := by decide +kernel
theorem d_WR_functionJoint_16 : decode prog_10_method_7_code 16 = .ok (.iconst 1, 1) := by decide +kernel
theorem d_WR_functionJoint_17 : decode prog_10_method_7_code 17 = .ok (.isub, 1) := by decide +kernel
theorem d_WR_functionJoint_18 : decode prog_10_method_7_code 18 = .ok (.if_icmp .ne 16, 3) := by decide +kernel
theorem d_WR_functionJoint_21 : decode prog_10_method_7_code 21 = .ok (.iload_n 2, 1) := by decide +kernel
theorem d_WR_functionJoint_22 : decode prog_10_method_7_code 22 = .ok (.iconst 1, 1) := by decide +kernel
theorem d_WR_functionJoint_23 : decode prog_10_method_7_code 23 = .ok (.if_icmp .ne 8, 3) := by decide +kernel
theorem d_WR_functionJoint_26 : decode prog_10_method_7_code 26 = .ok (.ldc 156, 2) := by decide +kernel
theorem d_WR_functionJoint_28 : decode prog_10_method_7_code 28 = .ok (.goto 5, 3) := by decide +kernel
theorem d_WR_functionJoint_31 : decode prog_10_method_7_code 31 = .ok (.ldc 142, 2) := by decide +kernel
theorem d_WR_functionJoint_33 : decode prog_10_method_7_code 33 = .ok (.areturn, 1) := by decide +kernel
theorem d_WR_functionJoint_34 : decode prog_10_method_7_code 34 = .ok (.iload_n 2, 1) := by decide +kernel
theorem d_WR_functionJoint_35 : decode prog_10_method_7_code 35 = .ok (.iconst 1, 1) := by decide +kernel
theorem d_WR_functionJoint_36 : decode prog_10_method_7_code 36 = .ok (.if_icmp .ne 8, 3) := by decide +kernel
theorem d_WR_functionJoint_39 : decode prog_10_method_7_code 39 = .ok (.ldc 146, 2) := by decide +kernel
theorem d_WR_functionJoint_41 : decode prog_10_method_7_code 41 = .ok (.goto 5, 3) := by decide +kernel
theorem d_WR_functionJoint_44 : decode prog_10_method_7_code 44 = .ok (.ldc 148, 2) := by decide +kernel
theorem d_WR_functionJoint_46 : decode prog_10_method_7_code 46 = .ok (.areturn, 1) := by decide +kernel
theorem d_WR_callJoint_0 : decode prog_10_method_8_code 0 = .ok (.iload_n 2, 1) := by decide +kernel
theorem d_WR_callJoint_1 : decode prog_10_method_8_code 1 = .ok (.tableswitch 62 0 2 #[27, 30, 59], 27) := by decide +kernel
theorem d_WR_callJoint_28 : decode prog_10_method_8_code 28 = .ok (.ldc 75, 2) := by decide +kernel
theorem d_WR_callJoint_30 : decode prog_10_method_8_code 30 = .ok (.areturn, 1) := by decide +kernel
theorem d_WR_callJoint_31 : decode prog_10_method_8_code 31 = .ok (.aload_n 0, 1) := by decide +kernel
theorem d_WR_callJoint_32 : decode prog_10_method_8_code 32 = .ok (.getfield 12, 3) := by decide +kernel
theorem d_WR_callJoint_35 : decode prog_10_method_8_code 35 = .ok (.aload_n 0, 1) := by decide +kernel
theorem d_WR_callJoint_36 : decode prog_10_method_8_code 36 = .ok (.getfield 12, 3) := by decide +kernel
theorem d_WR_callJoint_39 : decode prog_10_method_8_code 39 = .ok (.iload_n 1, 1) := by decide +kernel
theorem d_WR_callJoint_40 : decode prog_10_method_8_code 40 = .ok (.iconst 0, 1) := by decide +kernel
theorem d_WR_callJoint_41 : decode prog_10_method_8_code 41 = .ok (.invokevirtual 158, 3) := by decide +kernel
theorem d_WR_callJoint_44 : decode prog_10_method_8_code 44 = .ok (.invokevirtual 87, 3) := by decide +kernel
theorem d_WR_callJoint_47 : decode prog_10_method_8_code 47 = .ok (.bipush 33, 2) := by decide +kernel
theorem d_WR_callJoint_49 : decode prog_10_method_8_code 49 = .ok (.if_icmp .ne 8, 3) := by decide +kernel
theorem d_WR_callJoint_52 : decode prog_10_method_8_code 52 = .ok (.ldc 75, 2) := by decide +kernel
theorem d_WR_callJoint_54 : decode prog_10_method_8_code 54 = .ok (.goto 5, 3) := by decide +kernel
theorem d_WR_callJoint_57 : decode prog_10_method_8_code 57 = .ok (.ldc 162, 2) := by decide +kernel
theorem d_WR_callJoint_59 : decode prog_10_method_8_code 59 = .ok (.areturn, 1) := by decide +kernel
theorem d_WR_callJoint_60 : decode prog_10_method_8_code 60 = .ok (.ldc 146, 2) := by decide +kernel
theorem d_WR_callJoint_62 : decode prog_10_method_8_code 62 = .ok (.areturn, 1) := by decide +kernel
theorem d_WR_callJoint_63 : decode prog_10_method_8_code 63 = .ok (.ldc 148, 2) := by decide +kernel
theorem d_WR_callJoint_65 : decode prog_10_method_8_code 65 = .ok (.areturn, 1) := by decide +kernel
theorem d_WR_laterJoint_0 : decode prog_10_method_9_code 0 = .ok (.iload_n 0, 1) := by decide +kernel
theorem d_WR_laterJoint_1 : decode prog_10_method_9_code 1 = .ok (.tableswitch 168 3 32 #[135, 138, 135, 168, 168, 168, 141, 168, 168, 168, 168, 138, 168, 168, 168, 168, 168, 168, 168, 168, 168, 144, 147, 168, 150, 153, 156, 159, 162, 165], 135) := by decide +kernel
theorem d_WR_laterJoint_136 : decode prog_10_method_9_code 136 = .ok (.ldc 162, 2) := by decide +kernel
theorem d_WR_laterJoint_138 : decode prog_10_method_9_code 138 = .ok (.areturn, 1) := by decide +kernel
theorem d_WR_laterJoint_139 : decode prog_10_method_9_code 139 = .ok (.ldc 138, 2) := by decide +kernel
theorem d_WR_laterJoint_141 : decode prog_10_method_9_code 141 = .ok (.areturn, 1) := by decide +kernel
theorem d_WR_laterJoint_142 : decode prog_10_method_9_code 142 = .ok (.ldc 142, 2) := by decide +kernel
theorem d_WR_laterJoint_144 : decode prog_10_method_9_code 144 = .ok (.areturn, 1) := by decide +kernel
theorem d_WR_laterJoint_145 : decode prog_10_method_9_code 145 = .ok (.ldc 164, 2) := by decide +kernel
theorem d_WR_laterJoint_147 : decode prog_10_method_9_code 147 = .ok (.areturn, 1) := by decide +kernel
theorem d_WR_laterJoint_148 : decode prog_10_method_9_code 148 = .ok (.ldc 166, 2) := by decide +kernel
theorem d_WR_laterJoint_150 : decode prog_10_method_9_code 150 = .ok (.areturn, 1) := by decide +kernel
theorem d_WR_laterJoint_151 : decode prog_10_method_9_code 151 = .ok (.ldc 168, 2) := by decide +kernel
theorem d_WR_laterJoint_153 : decode prog_10_method_9_code 153 = .ok (.areturn, 1) := by decide +kernel
theorem d_WR_laterJoint_154 : decode prog_10_method_9_code 154 = .ok (.ldc 170, 2) := by decide +kernel
theorem d_WR_laterJoint_156 : decode prog_10_method_9_code 156 = .ok (.areturn, 1) := by decide +kernel
theorem d_WR_laterJoint_157 : decode prog_10_method_9_code 157 = .ok (.ldc 172, 2) := by decide +kernel
theorem d_WR_laterJoint_159 : decode prog_10_method_9_code 159 = .ok (.areturn, 1) := by decide +kernel
theorem d_WR_laterJoint_160 : decode prog_10_method_9_code 160 = .ok (.ldc 174, 2) := by decide +kernel
theorem d_WR_laterJoint_162 : decode prog_10_method_9_code 162 = .ok (.areturn, 1) := by decide +kernel
theorem d_WR_laterJoint_163 : decode prog_10_method_9_code 163 = .ok (.ldc 176, 2) := by decide +kernel
theorem d_WR_laterJoint_165 : decode prog_10_method_9_code 165 = .ok (.areturn, 1) := by decide +kernel
theorem d_WR_laterJoint_166 : decode prog_10_method_9_code 166 = .ok (.ldc 178, 2) := by decide +kernel
theorem d_WR_laterJoint_168 : decode prog_10_method_9_code 168 = .ok (.areturn, 1) := by decide +kernel
theorem d_WR_laterJoint_169 : decode prog_10_method_9_code 169 = .ok (.ldc 75, 2) := by decide +kernel
theorem d_WR_laterJoint_171 : decode prog_10_method_9_code 171 = .ok (.areturn, 1) := by decide +kernel
theorem d_WR_ending_0 : decode prog_10_method_10_code 0 = .ok (.aload_n 0, 1) := by decide +kernel
theorem d_WR_ending_1 : decode prog_10_method_10_code 1 = .ok (.getfield 12, 3) := by decide +kernel
theorem d_WR_ending_4 : decode prog_10_method_10_code 4 = .ok (.iload_n 1, 1) := by decide +kernel
theorem d_WR_ending_5 : decode prog_10_method_10_code 5 = .ok (.invokevirtual 87, 3) := by decide +kernel
theorem d_WR_ending_8 : decode prog_10_method_10_code 8 = .ok (.tableswitch 130 2 16 #[76, 79, 82, 79, 79, 85, 130, 130, 105, 79, 130, 130, 108, 130, 111], 76) := by decide +kernel
theorem d_WR_ending_84 : decode prog_10_method_10_code 84 = .ok (.ldc 180, 2) := by decide +kernel
theorem d_WR_ending_86 : decode prog_10_method_10_code 86 = .ok (.areturn, 1) := by decide +kernel
theorem d_WR_ending_87 : decode prog_10_method_10_code 87 = .ok (.ldc 182, 2) := by decide +kernel
theorem d_WR_ending_89 : decode prog_10_method_10_code 89 = .ok (.areturn, 1) := by decide +kernel
theorem d_WR_ending_90 : decode prog_10_method_10_code 90 = .ok (.ldc 184, 2) := by decide +kernel
theorem d_WR_ending_92 : decode prog_10_method_10_code 92 = .ok (.areturn, 1) := by decide +kernel
theorem d_WR_ending_93 : decode prog_10_method_10_code 93 = .ok (.aload_n 0, 1) := by decide +kernel
theorem d_WR_ending_94 : decode prog_10_method_10_code 94 = .ok (.getfield 12, 3) := by decide +kernel
theorem d_WR_ending_97 : decode prog_10_method_10_code 97 = .ok (.iload_n 1, 1) := by decide +kernel
theorem d_WR_ending_98 : decode prog_10_method_10_code 98 = .ok (.invokevirtual 153, 3) := by decide +kernel
theorem d_WR_ending_101 : decode prog_10_method_10_code 101 = .ok (.iconst 2, 1) := by decide +kernel
theorem d_WR_ending_102 : decode prog_10_method_10_code 102 = .ok (.if_icmp .ne 8, 3) := by decide +kernel
theorem d_WR_ending_105 : decode prog_10_method_10_code 105 = .ok (.ldc 186, 2) := by decide +kernel
theorem d_WR_ending_107 : decode prog_10_method_10_code 107 = .ok (.goto 5, 3) := by decide +kernel
theorem d_WR_ending_110 : decode prog_10_method_10_code 110 = .ok (.ldc 188, 2) := by decide +kernel
theorem d_WR_ending_112 : decode prog_10_method_10_code 112 = .ok (.areturn, 1) := by decide +kernel
theorem d_WR_ending_113 : decode prog_10_method_10_code 113 = .ok (.ldc 188, 2) := by decide +kernel
theorem d_WR_ending_115 : decode prog_10_method_10_code 115 = .ok (.areturn, 1) := by decide +kernel
theorem d_WR_ending_116 : decode prog_10_method_10_code 116 = .ok (.ldc 190, 2) := by decide +kernel
theorem d_WR_ending_118 : decode prog_10_method_10_code 118 = .ok (.areturn, 1) := by decide +kernel
theorem d_WR_ending_119 : decode prog_10_method_10_code 119 = .ok (.aload_n 0, 1) := by decide +kernel
theorem d_WR_ending_120 : decode prog_10_method_10_code 120 = .ok (.getfield 12, 3) := by decide +kernel
theorem d_WR_ending_123 : decode prog_10_method_10_code 123 = .ok (.iload_n 1, 1) := by decide +kernel
theorem d_WR_ending_124 : decode prog_10_method_10_code 124 = .ok (.invokevirtual 153, 3) := by decide +kernel
theorem d_WR_ending_127 : decode prog_10_method_10_code 127 = .ok (.ifCond .ne 8, 3) := by decide +kernel
theorem d_WR_ending_130 : decode prog_10_method_10_code 130 = .ok (.ldc 75, 2) := by decide +kernel
theorem d_WR_ending_132 : decode prog_10_method_10_code 132 = .ok (.goto 5, 3) := by decide +kernel
theorem d_WR_ending_135 : decode prog_10_method_10_code 135 = .ok (.ldc 142, 2) := by decide +kernel
theorem d_WR_ending_137 : decode prog_10_method_10_code 137 = .ok (.areturn, 1) := by decide +kernel
theorem d_WR_ending_138 : decode prog_10_method_10_code 138 = .ok (.ldc 75, 2) := by decide +kernel
theorem d_WR_ending_140 : decode prog_10_method_10_code 140 = .ok (.areturn, 1) := by decide +kernel
theorem d_WR_isBracketed_0 : decode prog_10_method_11_code 0 = .ok (.aload_n 0, 1) := by decide +kernel
theorem d_WR_isBracketed_1 : decode prog_10_method_11_code 1 = .ok (.getfield 12, 3) := by decide +kernel
theorem d_WR_isBracketed_4 : decode prog_10_method_11_code 4 = .ok (.aload_n 0, 1) := by decide +kernel
theorem d_WR_isBracketed_5 : decode prog_10_method_11_code 5 = .ok (.getfield 12, 3) := by decide +kernel
theorem d_WR_isBracketed_8 : decode prog_10_method_11_code 8 = .ok (.iload_n 1, 1) := by decide +kernel
theorem d_WR_isBracketed_9 : decode prog_10_method_11_code 9 = .ok (.invokevirtual 49, 3) := by decide +kernel
theorem d_WR_isBracketed_12 : decode prog_10_method_11_code 12 = .ok (.invokevirtual 87, 3) := by decide +kernel
theorem d_WR_isBracketed_15 : decode prog_10_method_11_code 15 = .ok (.istore_n 2, 1) := by decide +kernel
theorem d_WR_isBracketed_16 : decode prog_10_method_11_code 16 = .ok (.aload_n 0, 1) := by decide +kernel
theorem d_WR_isBracketed_17 : decode prog_10_method_11_code 17 = .ok (.getfield 12, 3) := by decide +kernel
theorem d_WR_isBracketed_20 : decode prog_10_method_11_code 20 = .ok (.iload_n 1, 1) := by decide +kernel
theorem d_WR_isBracketed_21 : decode prog_10_method_11_code 21 = .ok (.invokevirtual 87, 3) := by decide +kernel
theorem d_WR_isBracketed_24 : decode prog_10_method_11_code 24 = .ok (.tableswitch 130 17 25 #[52, 130, 130, 70, 130, 130, 130, 94, 112], 52) := by decide +kernel
theorem d_WR_isBracketed_76 : decode prog_10_method_11_code 76 = .ok (.iload_n 2, 1) := by decide +kernel
theorem d_WR_isBracketed_77 : decode prog_10_method_11_code 77 = .ok (.bipush 15, 2) := by decide +kernel
theorem d_WR_isBracketed_79 : decode prog_10_method_11_code 79 = .ok (.if_icmp .lt 13, 3) := by decide +kernel
theorem d_WR_isBracketed_82 : decode prog_10_method_11_code 82 = .ok (.iload_n 2, 1) := by decide +kernel
theorem d_WR_isBracketed_83 : decode prog_10_method_11_code 83 = .ok (.bipush 23, 2) := by decide +kernel
theorem d_WR_isBracketed_85 : decode prog_10_method_11_code 85 = .ok (.if_icmp .gt 7, 3) := by decide +kernel
theorem d_WR_isBracketed_88 : decode prog_10_method_11_code 88 = .ok (.iconst 1, 1) := by decide +kernel
theorem d_WR_isBracketed_89 : decode prog_10_method_11_code 89 = .ok (.goto 4, 3) := by decide +kernel
theorem d_WR_isBracketed_92 : decode prog_10_method_11_code 92 = .ok (.iconst 0, 1) := by decide +kernel
theorem d_WR_isBracketed_93 : decode prog_10_method_11_code 93 = .ok (.ireturn, 1) := by decide +kernel
theorem d_WR_isBracketed_94 : decode prog_10_method_11_code 94 = .ok (.iload_n 2, 1) := by decide +kernel
theorem d_WR_isBracketed_95 : decode prog_10_method_11_code 95 = .ok (.bipush 15, 2) := by decide +kernel
theorem d_WR_isBracketed_97 : decode prog_10_method_11_code 97 = .ok (.if_icmp .eq 15, 3) := by decide +kernel
theorem d_WR_isBracketed_100 : decode prog_10_method_11_code 100 = .ok (.iload_n 2, 1) := by decide +kernel
theorem d_WR_isBracketed_101 : decode prog_10_method_11_code 101 = .ok (.bipush 20, 2) := by decide +kernel
theorem d_WR_isBracketed_103 : decode prog_10_method_11_code 103 = .ok (.if_icmp .lt 13, 3) := by decide +kernel
theorem d_WR_isBracketed_106 : decode prog_10_method_11_code 106 = .ok (.iload_n 2, 1) := by decide +kernel
theorem d_WR_isBracketed_107 : decode prog_10_method_11_code 107 = .ok (.bipush 23, 2) := by decide +kernel
theorem d_WR_isBracketed_109 : decode prog_10_method_11_code 109 = .ok (.if_icmp .gt 7, 3) := by decide +kernel
theorem d_WR_isBracketed_112 : decode prog_10_method_11_code 112 = .ok (.iconst 1, 1) := by decide +kernel
theorem d_WR_isBracketed_113 : decode prog_10_method_11_code 113 = .ok (.goto 4, 3) := by decide +kernel
theorem d_WR_isBracketed_116 : decode prog_10_method_11_code 116 = .ok (.iconst 0, 1) := by decide +kernel
theorem d_WR_isBracketed_117 : decode prog_10_method_11_code 117 = .ok (.ireturn, 1) := by decide +kernel
theorem d_WR_isBracketed_118 : decode prog_10_method_11_code 118 = .ok (.iload_n 2, 1) := by decide +kernel
theorem d_WR_isBracketed_119 : decode prog_10_method_11_code 119 = .ok (.bipush 24, 2) := by decide +kernel
theorem d_WR_isBracketed_121 : decode prog_10_method_11_code 121 = .ok (.if_icmp .lt 13, 3) := by decide +kernel
theorem d_WR_isBracketed_124 : decode prog_10_method_11_code 124 = .ok (.iload_n 2, 1) := by decide +kernel
theorem d_WR_isBracketed_125 : decode prog_10_method_11_code 125 = .ok (.bipush 26, 2) := by decide +kernel
theorem d_WR_isBracketed_127 : decode prog_10_method_11_code 127 = .ok (.if_icmp .gt 7, 3) := by decide +kernel
theorem d_WR_isBracketed_130 : decode prog_10_method_11_code 130 = .ok (.iconst 1, 1) := by decide +kernel
theorem d_WR_isBracketed_131 : decode prog_10_method_11_code 131 = .ok (.goto 4, 3) := by decide +kernel
theorem d_WR_isBracketed_134 : decode prog_10_method_11_code 134 = .ok (.iconst 0, 1) := by decide +kernel
theorem d_WR_isBracketed_135 : decode prog_10_method_11_code 135 = .ok (.ireturn, 1) := by decide +kernel
theorem d_WR_isBracketed_136 : decode prog_10_method_11_code 136 = .ok (.iload_n 2, 1) := by decide +kernel
theorem d_WR_isBracketed_137 : decode prog_10_method_11_code 137 = .ok (.bipush 25, 2) := by decide +kernel
theorem d_WR_isBracketed_139 : decode prog_10_method_11_code 139 = .ok (.if_icmp .eq 9, 3) := by decide +kernel
theorem d_WR_isBracketed_142 : decode prog_10_method_11_code 142 = .ok (.iload_n 2, 1) := by decide +kernel
theorem d_WR_isBracketed_143 : decode prog_10_method_11_code 143 = .ok (.bipush 26, 2) := by decide +kernel
theorem d_WR_isBracketed_145 : decode prog_10_method_11_code 145 = .ok (.if_icmp .ne 7, 3) := by decide +kernel
theorem d_WR_isBracketed_148 : decode prog_10_method_11_code 148 = .ok (.iconst 1, 1) := by decide +kernel
theorem d_WR_isBracketed_149 : decode prog_10_method_11_code 149 = .ok (.goto 4, 3) := by decide +kernel
theorem d_WR_isBracketed_152 : decode prog_10_method_11_code 152 = .ok (.iconst 0, 1) := by decide +kernel
theorem d_WR_isBracketed_153 : decode prog_10_method_11_code 153 = .ok (.ireturn, 1) := by decide +kernel
theorem d_WR_isBracketed_154 : decode prog_10_method_11_code 154 = .ok (.iconst 0, 1) := by decide +kernel
theorem d_WR_isBracketed_155 : decode prog_10_method_11_code 155 = .ok (.ireturn, 1) := by decide +kernel
theorem d_WR_opening_0 : decode prog_10_method_12_code 0 = .ok (.aload_n 0, 1) := by decide +kernel
theorem d_WR_opening_1 : decode prog_10_method_12_code 1 = .ok (.iload_n 1, 1) := by decide +kernel
theorem d_WR_opening_2 : decode prog_10_method_12_code 2 = .ok (.invokevirtual 192, 3) := by decide +kernel
theorem d_WR_opening_5 : decode prog_10_method_12_code 5 = .ok (.ifCond .eq 8, 3) := by decide +kernel
theorem d_WR_opening_8 : decode prog_10_method_12_code 8 = .ok (.ldc 138, 2) := by decide +kernel
theorem d_WR_opening_10 : decode prog_10_method_12_code 10 = .ok (.goto 5, 3) := by decide +kernel
theorem d_WR_opening_13 : decode prog_10_method_12_code 13 = .ok (.ldc 146, 2) := by decide +kernel
theorem d_WR_opening_15 : decode prog_10_method_12_code 15 = .ok (.areturn, 1) := by decide +kernel
theorem d_WR_closing_0 : decode prog_10_method_13_code 0 = .ok (.aload_n 0, 1) := by decide +kernel
theorem d_WR_closing_1 : decode prog_10_method_13_code 1 = .ok (.iload_n 1, 1) := by decide +kernel
theorem d_WR_closing_2 : decode prog_10_method_13_code 2 = .ok (.invokevirtual 192, 3) := by decide +kernel
theorem d_WR_closing_5 : decode prog_10_method_13_code 5 = .ok (.ifCond .eq 8, 3) := by decide +kernel
theorem d_WR_closing_8 : decode prog_10_method_13_code 8 = .ok (.ldc 190, 2) := by decide +kernel
theorem d_WR_closing_10 : decode prog_10_method_13_code 10 = .ok (.goto 5, 3) := by decide +kernel
theorem d_WR_closing_13 : decode prog_10_method_13_code 13 = .ok (.ldc 142, 2) := by decide +kernel
theorem d_WR_closing_15 : decode prog_10_method_13_code 15 = .ok (.areturn, 1) := by decide +kernel
theorem d_WR_isCondition_0 : decode prog_10_method_14_code 0 = .ok (.aload_n 0, 1) := by decide +kernel
theorem d_WR_isCondition_1 : decode prog_10_method_14_code 1 = .ok (.getfield 12, 3) := by decide +kernel
theorem d_WR_isCondition_4 : decode prog_10_method_14_code 4 = .ok (.iload_n 1, 1) := by decide +kernel
theorem d_WR_isCondition_5 : decode prog_10_method_14_code 5 = .ok (.invokevirtual 87, 3) := by decide +kernel
theorem d_WR_isCondition_8 : decode prog_10_method_14_code 8 = .ok (.bipush 24, 2) := by decide +kernel
theorem d_WR_isCondition_10 : decode prog_10_method_14_code 10 = .ok (.if_icmp .eq 16, 3) := by decide +kernel
theorem d_WR_isCondition_13 : decode prog_10_method_14_code 13 = .ok (.aload_n 0, 1) := by decide +kernel
theorem d_WR_isCondition_14 : decode prog_10_method_14_code 14 = .ok (.getfield 12, 3) := by decide +kernel
theorem d_WR_isCondition_17 : decode prog_10_method_14_code 17 = .ok (.iload_n 1, 1) := by decide +kernel
theorem d_WR_isCondition_18 : decode prog_10_method_14_code 18 = .ok (.invokevirtual 87, 3) := by decide +kernel
theorem d_WR_isCondition_21 : decode prog_10_method_14_code 21 = .ok (.bipush 25, 2) := by decide +kernel
theorem d_WR_isCondition_23 : decode prog_10_method_14_code 23 = .ok (.if_icmp .ne 7, 3) := by decide +kernel
theorem d_WR_isCondition_26 : decode prog_10_method_14_code 26 = .ok (.iconst 1, 1) := by decide +kernel
theorem d_WR_isCondition_27 : decode prog_10_method_14_code 27 = .ok (.goto 4, 3) := by decide +kernel
theorem d_WR_isCondition_30 : decode prog_10_method_14_code 30 = .ok (.iconst 0, 1) := by decide +kernel
theorem d_WR_isCondition_31 : decode prog_10_method_14_code 31 = .ok (.ireturn, 1) := by decide +kernel
theorem d_WR_put_0 : decode prog_10_method_15_code 0 = .ok (.aload_n 1, 1) := by decide +kernel
theorem d_WR_put_1 : decode prog_10_method_15_code 1 = .ok (.invokevirtual 195, 3) := by decide +kernel
theorem d_WR_put_4 : decode prog_10_method_15_code 4 = .ok (.ifCond .eq 4, 3) := by decide +kernel
theorem d_WR_put_7 : decode prog_10_method_15_code 7 = .ok (.return_, 1) := by decide +kernel
theorem d_WR_put_8 : decode prog_10_method_15_code 8 = .ok (.aload_n 0, 1) := by decide +kernel
theorem d_WR_put_9 : decode prog_10_method_15_code 9 = .ok (.aload_n 1, 1) := by decide +kernel
theorem d_WR_put_10 : decode prog_10_method_15_code 10 = .ok (.iconst 0, 1) := by decide +kernel
theorem d_WR_put_11 : decode prog_10_method_15_code 11 = .ok (.invokevirtual 201, 3) := by decide +kernel
theorem d_WR_put_14 : decode prog_10_method_15_code 14 = .ok (.invokevirtual 205, 3) := by decide +kernel
theorem d_WR_put_17 : decode prog_10_method_15_code 17 = .ok (.iconst 0, 1) := by decide +kernel
theorem d_WR_put_18 : decode prog_10_method_15_code 18 = .ok (.istore_n 2, 1) := by decide +kernel
theorem d_WR_put_19 : decode prog_10_method_15_code 19 = .ok (.iload_n 2, 1) := by decide +kernel
theorem d_WR_put_20 : decode prog_10_method_15_code 20 = .ok (.aload_n 1, 1) := by decide +kernel
theorem d_WR_put_21 : decode prog_10_method_15_code 21 = .ok (.invokevirtual 208, 3) := by decide +kernel
theorem d_WR_put_24 : decode prog_10_method_15_code 24 = .ok (.if_icmp .ge 21, 3) := by decide +kernel
theorem d_WR_put_27 : decode prog_10_method_15_code 27 = .ok (.aload_n 0, 1) := by decide +kernel
theorem d_WR_put_28 : decode prog_10_method_15_code 28 = .ok (.getfield 23, 3) := by decide +kernel
theorem d_WR_put_31 : decode prog_10_method_15_code 31 = .ok (.aload_n 1, 1) := by decide +kernel
theorem d_WR_put_32 : decode prog_10_method_15_code 32 = .ok (.iload_n 2, 1) := by decide +kernel
theorem d_WR_put_33 : decode prog_10_method_15_code 33 = .ok (.invokevirtual 201, 3) := by decide +kernel
theorem d_WR_put_36 : decode prog_10_method_15_code 36 = .ok (.invokevirtual 212, 3) := by decide +kernel
theorem d_WR_put_39 : decode prog_10_method_15_code 39 = .ok (.iinc 2 1, 3) := by decide +kernel
theorem d_WR_put_42 : decode prog_10_method_15_code 42 = .ok (.goto (-23), 3) := by decide +kernel
theorem d_WR_put_45 : decode prog_10_method_15_code 45 = .ok (.return_, 1) := by decide +kernel
theorem d_WR_putGap_0 : decode prog_10_method_16_code 0 = .ok (.iload_n 1, 1) := by decide +kernel
theorem d_WR_putGap_1 : decode prog_10_method_16_code 1 = .ok (.invokestatic 215, 3) := by decide +kernel
theorem d_WR_putGap_4 : decode prog_10_method_16_code 4 = .ok (.ifCond .eq 34, 3) := by decide +kernel
theorem d_WR_putGap_7 : decode prog_10_method_16_code 7 = .ok (.aload_n 0, 1) := by decide +kernel
theorem d_WR_putGap_8 : decode prog_10_method_16_code 8 = .ok (.getfield 23, 3) := by decide +kernel
theorem d_WR_putGap_11 : decode prog_10_method_16_code 11 = .ok (.aload_n 0, 1) := by decide +kernel
theorem d_WR_putGap_12 : decode prog_10_method_16_code 12 = .ok (.getfield 23, 3) := by decide +kernel
theorem d_WR_putGap_15 : decode prog_10_method_16_code 15 = .ok (.getfield 218, 3) := by decide +kernel
theorem d_WR_putGap_18 : decode prog_10_method_16_code 18 = .ok (.iconst 1, 1) := by decide +kernel
theorem d_WR_putGap_19 : decode prog_10_method_16_code 19 = .ok (.isub, 1) := by decide +kernel
theorem d_WR_putGap_20 : decode prog_10_method_16_code 20 = .ok (.invokevirtual 219, 3) := by decide +kernel
theorem d_WR_putGap_23 : decode prog_10_method_16_code 23 = .ok (.invokestatic 215, 3) := by decide +kernel
theorem d_WR_putGap_26 : decode prog_10_method_16_code 26 = .ok (.ifCond .eq 12, 3) := by decide +kernel
theorem d_WR_putGap_29 : decode prog_10_method_16_code 29 = .ok (.aload_n 0, 1) := by decide +kernel
theorem d_WR_putGap_30 : decode prog_10_method_16_code 30 = .ok (.getfield 23, 3) := by decide +kernel
theorem d_WR_putGap_33 : decode prog_10_method_16_code 33 = .ok (.bipush 32, 2) := by decide +kernel
theorem d_WR_putGap_35 : decode prog_10_method_16_code 35 = .ok (.invokevirtual 212, 3) := by decide +kernel
theorem d_WR_putGap_38 : decode prog_10_method_16_code 38 = .ok (.return_, 1) := by decide +kernel
theorem d_WR_putName_0 : decode prog_10_method_17_code 0 = .ok (.aload_n 0, 1) := by decide +kernel
theorem d_WR_putName_1 : decode prog_10_method_17_code 1 = .ok (.aload_n 0, 1) := by decide +kernel
theorem d_WR_putName_2 : decode prog_10_method_17_code 2 = .ok (.getfield 27, 3) := by decide +kernel
theorem d_WR_putName_5 : decode prog_10_method_17_code 5 = .ok (.iload_n 1, 1) := by decide +kernel
theorem d_WR_putName_6 : decode prog_10_method_17_code 6 = .ok (.iconst 0, 1) := by decide +kernel
theorem d_WR_putName_7 : decode prog_10_method_17_code 7 = .ok (.invokevirtual 222, 3) := by decide +kernel
theorem d_WR_putName_10 : decode prog_10_method_17_code 10 = .ok (.invokevirtual 205, 3) := by decide +kernel
theorem d_WR_putName_13 : decode prog_10_method_17_code 13 = .ok (.aload_n 0, 1) := by decide +kernel
theorem d_WR_putName_14 : decode prog_10_method_17_code 14 = .ok (.getfield 27, 3) := by decide +kernel
theorem d_WR_putName_17 : decode prog_10_method_17_code 17 = .ok (.iload_n 1, 1) := by decide +kernel
theorem d_WR_putName_18 : decode prog_10_method_17_code 18 = .ok (.aload_n 0, 1) := by decide +kernel
theorem d_WR_putName_19 : decode prog_10_method_17_code 19 = .ok (.getfield 23, 3) := by decide +kernel
theorem d_WR_putName_22 : decode prog_10_method_17_code 22 = .ok (.invokevirtual 227, 3) := by decide +kernel
theorem d_WR_putName_25 : decode prog_10_method_17_code 25 = .ok (.return_, 1) := by decide +kernel
theorem d_WR_putNumber_0 : decode prog_10_method_18_code 0 = .ok (.iload_n 1, 1) := by decide +kernel
theorem d_WR_putNumber_1 : decode prog_10_method_18_code 1 = .ok (.ifCond .ge 12, 3) := by decide +kernel
theorem d_WR_putNumber_4 : decode prog_10_method_18_code 4 = .ok (.aload_n 0, 1) := by decide +kernel
theorem d_WR_putNumber_5 : decode prog_10_method_18_code 5 = .ok (.getfield 23, 3) := by decide +kernel
theorem d_WR_putNumber_8 : decode prog_10_method_18_code 8 = .ok (.bipush 45, 2) := by decide +kernel
theorem d_WR_putNumber_10 : decode prog_10_method_18_code 10 = .ok (.invokevirtual 212, 3) := by decide +kernel
theorem d_WR_putNumber_13 : decode prog_10_method_18_code 13 = .ok (.iload_n 1, 1) := by decide +kernel
theorem d_WR_putNumber_14 : decode prog_10_method_18_code 14 = .ok (.invokestatic 231, 3) := by decide +kernel
theorem d_WR_putNumber_17 : decode prog_10_method_18_code 17 = .ok (.istore_n 2, 1) := by decide +kernel
theorem d_WR_putNumber_18 : decode prog_10_method_18_code 18 = .ok (.iconst 0, 1) := by decide +kernel
theorem d_WR_putNumber_19 : decode prog_10_method_18_code 19 = .ok (.istore_n 3, 1) := by decide +kernel
theorem d_WR_putNumber_20 : decode prog_10_method_18_code 20 = .ok (.ldc 236, 2) := by decide +kernel
theorem d_WR_putNumber_22 : decode prog_10_method_18_code 22 = .ok (.istore 4, 2) := by decide +kernel
theorem d_WR_putNumber_24 : decode prog_10_method_18_code 24 = .ok (.iload 4, 2) := by decide +kernel
theorem d_WR_putNumber_26 : decode prog_10_method_18_code 26 = .ok (.ifCond .le 63, 3) := by decide +kernel
theorem d_WR_putNumber_29 : decode prog_10_method_18_code 29 = .ok (.bipush 48, 2) := by decide +kernel
theorem d_WR_putNumber_31 : decode prog_10_method_18_code 31 = .ok (.iload_n 2, 1) := by decide +kernel
theorem d_WR_putNumber_32 : decode prog_10_method_18_code 32 = .ok (.iload 4, 2) := by decide +kernel
theorem d_WR_putNumber_34 : decode prog_10_method_18_code 34 = .ok (.idiv, 1) := by decide +kernel
theorem d_WR_putNumber_35 : decode prog_10_method_18_code 35 = .ok (.bipush 10, 2) := by decide +kernel
theorem d_WR_putNumber_37 : decode prog_10_method_18_code 37 = .ok (.irem, 1) := by decide +kernel
theorem d_WR_putNumber_38 : decode prog_10_method_18_code 38 = .ok (.iadd, 1) := by decide +kernel
theorem d_WR_putNumber_39 : decode prog_10_method_18_code 39 = .ok (.istore 5, 2) := by decide +kernel
theorem d_WR_putNumber_41 : decode prog_10_method_18_code 41 = .ok (.iload_n 3, 1) := by decide +kernel
theorem d_WR_putNumber_42 : decode prog_10_method_18_code 42 = .ok (.ifCond .ne 24, 3) := by decide +kernel
theorem d_WR_putNumber_45 : decode prog_10_method_18_code 45 = .ok (.iload 5, 2) := by decide +kernel
theorem d_WR_putNumber_47 : decode prog_10_method_18_code 47 = .ok (.bipush 48, 2) := by decide +kernel
theorem d_WR_putNumber_49 : decode prog_10_method_18_code 49 = .ok (.if_icmp .ne 9, 3) := by decide +kernel
theorem d_WR_putNumber_52 : decode prog_10_method_18_code 52 = .ok (.iload 4, 2) := by decide +kernel
theorem d_WR_putNumber_54 : decode prog_10_method_18_code 54 = .ok (.iconst 1, 1) := by decide +kernel
theorem d_WR_putNumber_55 : decode prog_10_method_18_code 55 = .ok (.if_icmp .ne 11, 3) := by decide +kernel
theorem d_WR_putNumber_58 : decode prog_10_method_18_code 58 = .ok (.aload_n 0, 1) := by decide +kernel
theorem d_WR_putNumber_59 : decode prog_10_method_18_code 59 = .ok (.iload 5, 2) := by decide +kernel
theorem d_WR_putNumber_61 : decode prog_10_method_18_code 61 = .ok (.invokevirtual 205, 3) := by decide +kernel
theorem d_WR_putNumber_64 : decode prog_10_method_18_code 64 = .ok (.iconst 1, 1) := by decide +kernel
theorem d_WR_putNumber_65 : decode prog_10_method_18_code 65 = .ok (.istore_n 3, 1) := by decide +kernel
theorem d_WR_putNumber_66 : decode prog_10_method_18_code 66 = .ok (.iload_n 3, 1) := by decide +kernel
theorem d_WR_putNumber_67 : decode prog_10_method_18_code 67 = .ok (.ifCond .eq 12, 3) := by decide +kernel
theorem d_WR_putNumber_70 : decode prog_10_method_18_code 70 = .ok (.aload_n 0, 1) := by decide +kernel
theorem d_WR_putNumber_71 : decode prog_10_method_18_code 71 = .ok (.getfield 23, 3) := by decide +kernel
theorem d_WR_putNumber_74 : decode prog_10_method_18_code 74 = .ok (.iload 5, 2) := by decide +kernel
theorem d_WR_putNumber_76 : decode prog_10_method_18_code 76 = .ok (.invokevirtual 212, 3) := by decide +kernel
theorem d_WR_putNumber_79 : decode prog_10_method_18_code 79 = .ok (.iload 4, 2) := by decide +kernel
theorem d_WR_putNumber_81 : decode prog_10_method_18_code 81 = .ok (.bipush 10, 2) := by decide +kernel
theorem d_WR_putNumber_83 : decode prog_10_method_18_code 83 = .ok (.idiv, 1) := by decide +kernel
theorem d_WR_putNumber_84 : decode prog_10_method_18_code 84 = .ok (.istore 4, 2) := by decide +kernel
theorem d_WR_putNumber_86 : decode prog_10_method_18_code 86 = .ok (.goto (-62), 3) := by decide +kernel
theorem d_WR_putNumber_89 : decode prog_10_method_18_code 89 = .ok (.return_, 1) := by decide +kernel
