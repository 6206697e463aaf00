theorem d_RM_tests_0 : decode prog_12_method_25_code 0 = .ok (.iload_n 2, 1) := by decide +kernel
theorem d_RM_tests_1 : decode prog_12_method_25_code 1 = .ok (.bipush 24, 2) := by decide +kernel
theorem d_RM_tests_3 : decode prog_12_method_25_code 3 = .ok (.if_icmp .ne 9, 3) := by decide +kernel
theorem d_RM_tests_6 : decode prog_12_method_25_code 6 = .ok (.sipush 261, 3) := by decide +kernel
theorem d_RM_tests_9 : decode prog_12_method_25_code 9 = .ok (.goto 6, 3) := by decide +kernel
theorem d_RM_tests_12 : decode prog_12_method_25_code 12 = .ok (.sipush 260, 3) := by decide +kernel
theorem d_RM_tests_15 : decode prog_12_method_25_code 15 = .ok (.istore_n 3, 1) := by decide +kernel
theorem d_RM_tests_16 : decode prog_12_method_25_code 16 = .ok (.iload_n 2, 1) := by decide +kernel
theorem d_RM_tests_17 : decode prog_12_method_25_code 17 = .ok (.bipush 24, 2) := by decide +kernel
theorem d_RM_tests_19 : decode prog_12_method_25_code 19 = .ok (.if_icmp .ne 13, 3) := by decide +kernel
theorem d_RM_tests_22 : decode prog_12_method_25_code 22 = .ok (.aload_n 0, 1) := by decide +kernel
theorem d_RM_tests_23 : decode prog_12_method_25_code 23 = .ok (.iload_n 1, 1) := by decide +kernel
theorem d_RM_tests_24 : decode prog_12_method_25_code 24 = .ok (.bipush 25, 2) := by decide +kernel
theorem d_RM_tests_26 : decode prog_12_method_25_code 26 = .ok (.invokevirtual 202, 3) := by decide +kernel
theorem d_RM_tests_29 : decode prog_12_method_25_code 29 = .ok (.goto 8, 3) := by decide +kernel
theorem d_RM_tests_32 : decode prog_12_method_25_code 32 = .ok (.aload_n 0, 1) := by decide +kernel
theorem d_RM_tests_33 : decode prog_12_method_25_code 33 = .ok (.iload_n 1, 1) := by decide +kernel
theorem d_RM_tests_34 : decode prog_12_method_25_code 34 = .ok (.invokevirtual 205, 3) := by decide +kernel
theorem d_RM_tests_37 : decode prog_12_method_25_code 37 = .ok (.istore 4, 2) := by decide +kernel
theorem d_RM_tests_39 : decode prog_12_method_25_code 39 = .ok (.aload_n 0, 1) := by decide +kernel
theorem d_RM_tests_40 : decode prog_12_method_25_code 40 = .ok (.invokevirtual 162, 3) := by decide +kernel
theorem d_RM_tests_43 : decode prog_12_method_25_code 43 = .ok (.iload_n 3, 1) := by decide +kernel
theorem d_RM_tests_44 : decode prog_12_method_25_code 44 = .ok (.if_icmp .eq 6, 3) := by decide +kernel
theorem d_RM_tests_47 : decode prog_12_method_25_code 47 = .ok (.iload 4, 2) := by decide +kernel
theorem d_RM_tests_49 : decode prog_12_method_25_code 49 = .ok (.ireturn, 1) := by decide +kernel
theorem d_RM_tests_50 : decode prog_12_method_25_code 50 = .ok (.aload_n 0, 1) := by decide +kernel
theorem d_RM_tests_51 : decode prog_12_method_25_code 51 = .ok (.iload_n 2, 1) := by decide +kernel
theorem d_RM_tests_52 : decode prog_12_method_25_code 52 = .ok (.aload_n 0, 1) := by decide +kernel
theorem d_RM_tests_53 : decode prog_12_method_25_code 53 = .ok (.getfield 35, 3) := by decide +kernel
theorem d_RM_tests_56 : decode prog_12_method_25_code 56 = .ok (.iload 4, 2) := by decide +kernel
theorem d_RM_tests_58 : decode prog_12_method_25_code 58 = .ok (.iaload, 1) := by decide +kernel
theorem d_RM_tests_59 : decode prog_12_method_25_code 59 = .ok (.iconst 0, 1) := by decide +kernel
theorem d_RM_tests_60 : decode prog_12_method_25_code 60 = .ok (.invokevirtual 172, 3) := by decide +kernel
theorem d_RM_tests_63 : decode prog_12_method_25_code 63 = .ok (.istore 5, 2) := by decide +kernel
theorem d_RM_tests_65 : decode prog_12_method_25_code 65 = .ok (.aload_n 0, 1) := by decide +kernel
theorem d_RM_tests_66 : decode prog_12_method_25_code 66 = .ok (.iload 5, 2) := by decide +kernel
theorem d_RM_tests_68 : decode prog_12_method_25_code 68 = .ok (.iload 4, 2) := by decide +kernel
theorem d_RM_tests_70 : decode prog_12_method_25_code 70 = .ok (.invokevirtual 185, 3) := by decide +kernel
theorem d_RM_tests_73 : decode prog_12_method_25_code 73 = .ok (.aload_n 0, 1) := by decide +kernel
theorem d_RM_tests_74 : decode prog_12_method_25_code 74 = .ok (.invokevirtual 162, 3) := by decide +kernel
theorem d_RM_tests_77 : decode prog_12_method_25_code 77 = .ok (.iload_n 3, 1) := by decide +kernel
theorem d_RM_tests_78 : decode prog_12_method_25_code 78 = .ok (.if_icmp .ne 49, 3) := by decide +kernel
theorem d_RM_tests_81 : decode prog_12_method_25_code 81 = .ok (.aload_n 0, 1) := by decide +kernel
theorem d_RM_tests_82 : decode prog_12_method_25_code 82 = .ok (.iload_n 3, 1) := by decide +kernel
theorem d_RM_tests_83 : decode prog_12_method_25_code 83 = .ok (.invokevirtual 176, 3) := by decide +kernel
theorem d_RM_tests_86 : decode prog_12_method_25_code 86 = .ok (.aload_n 0, 1) := by decide +kernel
theorem d_RM_tests_87 : decode prog_12_method_25_code 87 = .ok (.iload 5, 2) := by decide +kernel
theorem d_RM_tests_89 : decode prog_12_method_25_code 89 = .ok (.aload_n 0, 1) := by decide +kernel
theorem d_RM_tests_90 : decode prog_12_method_25_code 90 = .ok (.getfield 155, 3) := by decide +kernel
theorem d_RM_tests_93 : decode prog_12_method_25_code 93 = .ok (.ifCond .eq 7, 3) := by decide +kernel
theorem d_RM_tests_96 : decode prog_12_method_25_code 96 = .ok (.iconst (-1), 1) := by decide +kernel
theorem d_RM_tests_97 : decode prog_12_method_25_code 97 = .ok (.goto 24, 3) := by decide +kernel
theorem d_RM_tests_100 : decode prog_12_method_25_code 100 = .ok (.iload_n 2, 1) := by decide +kernel
theorem d_RM_tests_101 : decode prog_12_method_25_code 101 = .ok (.bipush 24, 2) := by decide +kernel
theorem d_RM_tests_103 : decode prog_12_method_25_code 103 = .ok (.if_icmp .ne 13, 3) := by decide +kernel
theorem d_RM_tests_106 : decode prog_12_method_25_code 106 = .ok (.aload_n 0, 1) := by decide +kernel
theorem d_RM_tests_107 : decode prog_12_method_25_code 107 = .ok (.iload_n 1, 1) := by decide +kernel
theorem d_RM_tests_108 : decode prog_12_method_25_code 108 = .ok (.bipush 25, 2) := by decide +kernel
theorem d_RM_tests_110 : decode prog_12_method_25_code 110 = .ok (.invokevirtual 202, 3) := by decide +kernel
theorem d_RM_tests_113 : decode prog_12_method_25_code 113 = .ok (.goto 8, 3) := by decide +kernel
theorem d_RM_tests_116 : decode prog_12_method_25_code 116 = .ok (.aload_n 0, 1) := by decide +kernel
theorem d_RM_tests_117 : decode prog_12_method_25_code 117 = .ok (.iload_n 1, 1) := by decide +kernel
theorem d_RM_tests_118 : decode prog_12_method_25_code 118 = .ok (.invokevirtual 205, 3) := by decide +kernel
theorem d_RM_tests_121 : decode prog_12_method_25_code 121 = .ok (.invokevirtual 185, 3) := by decide +kernel
theorem d_RM_tests_124 : decode prog_12_method_25_code 124 = .ok (.goto (-51), 3) := by decide +kernel
theorem d_RM_tests_127 : decode prog_12_method_25_code 127 = .ok (.iload 5, 2) := by decide +kernel
theorem d_RM_tests_129 : decode prog_12_method_25_code 129 = .ok (.ireturn, 1) := by decide +kernel
theorem d_RM_test_0 : decode prog_12_method_26_code 0 = .ok (.aload_n 0, 1) := by decide +kernel
theorem d_RM_test_1 : decode prog_12_method_26_code 1 = .ok (.invokevirtual 162, 3) := by decide +kernel
theorem d_RM_test_4 : decode prog_12_method_26_code 4 = .ok (.bipush 33, 2) := by decide +kernel
theorem d_RM_test_6 : decode prog_12_method_26_code 6 = .ok (.if_icmp .ne 58, 3) := by decide +kernel
theorem d_RM_test_9 : decode prog_12_method_26_code 9 = .ok (.aload_n 0, 1) := by decide +kernel
theorem d_RM_test_10 : decode prog_12_method_26_code 10 = .ok (.bipush 26, 2) := by decide +kernel
theorem d_RM_test_12 : decode prog_12_method_26_code 12 = .ok (.aload_n 0, 1) := by decide +kernel
theorem d_RM_test_13 : decode prog_12_method_26_code 13 = .ok (.getfield 22, 3) := by decide +kernel
theorem d_RM_test_16 : decode prog_12_method_26_code 16 = .ok (.aload_n 0, 1) := by decide +kernel
theorem d_RM_test_17 : decode prog_12_method_26_code 17 = .ok (.getfield 159, 3) := by decide +kernel
theorem d_RM_test_20 : decode prog_12_method_26_code 20 = .ok (.iaload, 1) := by decide +kernel
theorem d_RM_test_21 : decode prog_12_method_26_code 21 = .ok (.iconst 0, 1) := by decide +kernel
theorem d_RM_test_22 : decode prog_12_method_26_code 22 = .ok (.invokevirtual 172, 3) := by decide +kernel
theorem d_RM_test_25 : decode prog_12_method_26_code 25 = .ok (.istore_n 2, 1) := by decide +kernel
theorem d_RM_test_26 : decode prog_12_method_26_code 26 = .ok (.aload_n 0, 1) := by decide +kernel
theorem d_RM_test_27 : decode prog_12_method_26_code 27 = .ok (.bipush 33, 2) := by decide +kernel
theorem d_RM_test_29 : decode prog_12_method_26_code 29 = .ok (.invokevirtual 176, 3) := by decide +kernel
theorem d_RM_test_32 : decode prog_12_method_26_code 32 = .ok (.aload_n 0, 1) := by decide +kernel
theorem d_RM_test_33 : decode prog_12_method_26_code 33 = .ok (.iload_n 1, 1) := by decide +kernel
theorem d_RM_test_34 : decode prog_12_method_26_code 34 = .ok (.iconst 1, 1) := by decide +kernel
theorem d_RM_test_35 : decode prog_12_method_26_code 35 = .ok (.iadd, 1) := by decide +kernel
theorem d_RM_test_36 : decode prog_12_method_26_code 36 = .ok (.invokevirtual 179, 3) := by decide +kernel
theorem d_RM_test_39 : decode prog_12_method_26_code 39 = .ok (.aload_n 0, 1) := by decide +kernel
theorem d_RM_test_40 : decode prog_12_method_26_code 40 = .ok (.iload_n 2, 1) := by decide +kernel
theorem d_RM_test_41 : decode prog_12_method_26_code 41 = .ok (.aload_n 0, 1) := by decide +kernel
theorem d_RM_test_42 : decode prog_12_method_26_code 42 = .ok (.getfield 155, 3) := by decide +kernel
theorem d_RM_test_45 : decode prog_12_method_26_code 45 = .ok (.ifCond .eq 7, 3) := by decide +kernel
theorem d_RM_test_48 : decode prog_12_method_26_code 48 = .ok (.iconst (-1), 1) := by decide +kernel
theorem d_RM_test_49 : decode prog_12_method_26_code 49 = .ok (.goto 10, 3) := by decide +kernel
theorem d_RM_test_52 : decode prog_12_method_26_code 52 = .ok (.aload_n 0, 1) := by decide +kernel
theorem d_RM_test_53 : decode prog_12_method_26_code 53 = .ok (.iload_n 1, 1) := by decide +kernel
theorem d_RM_test_54 : decode prog_12_method_26_code 54 = .ok (.iconst 1, 1) := by decide +kernel
theorem d_RM_test_55 : decode prog_12_method_26_code 55 = .ok (.iadd, 1) := by decide +kernel
theorem d_RM_test_56 : decode prog_12_method_26_code 56 = .ok (.invokevirtual 205, 3) := by decide +kernel
theorem d_RM_test_59 : decode prog_12_method_26_code 59 = .ok (.invokevirtual 185, 3) := by decide +kernel
theorem d_RM_test_62 : decode prog_12_method_26_code 62 = .ok (.iload_n 2, 1) := by decide +kernel
theorem d_RM_test_63 : decode prog_12_method_26_code 63 = .ok (.ireturn, 1) := by decide +kernel
theorem d_RM_test_64 : decode prog_12_method_26_code 64 = .ok (.aload_n 0, 1) := by decide +kernel
theorem d_RM_test_65 : decode prog_12_method_26_code 65 = .ok (.invokevirtual 162, 3) := by decide +kernel
theorem d_RM_test_68 : decode prog_12_method_26_code 68 = .ok (.bipush 91, 2) := by decide +kernel
theorem d_RM_test_70 : decode prog_12_method_26_code 70 = .ok (.if_icmp .ne 36, 3) := by decide +kernel
theorem d_RM_test_73 : decode prog_12_method_26_code 73 = .ok (.aload_n 0, 1) := by decide +kernel
theorem d_RM_test_74 : decode prog_12_method_26_code 74 = .ok (.bipush 91, 2) := by decide +kernel
theorem d_RM_test_76 : decode prog_12_method_26_code 76 = .ok (.invokevirtual 176, 3) := by decide +kernel
theorem d_RM_test_79 : decode prog_12_method_26_code 79 = .ok (.aload_n 0, 1) := by decide +kernel
theorem d_RM_test_80 : decode prog_12_method_26_code 80 = .ok (.getfield 155, 3) := by decide +kernel
theorem d_RM_test_83 : decode prog_12_method_26_code 83 = .ok (.ifCond .eq 7, 3) := by decide +kernel
theorem d_RM_test_86 : decode prog_12_method_26_code 86 = .ok (.iconst (-1), 1) := by decide +kernel
theorem d_RM_test_87 : decode prog_12_method_26_code 87 = .ok (.goto 10, 3) := by decide +kernel
theorem d_RM_test_90 : decode prog_12_method_26_code 90 = .ok (.aload_n 0, 1) := by decide +kernel
theorem d_RM_test_91 : decode prog_12_method_26_code 91 = .ok (.iload_n 1, 1) := by decide +kernel
theorem d_RM_test_92 : decode prog_12_method_26_code 92 = .ok (.iconst 1, 1) := by decide +kernel
theorem d_RM_test_93 : decode prog_12_method_26_code 93 = .ok (.iadd, 1) := by decide +kernel
theorem d_RM_test_94 : decode prog_12_method_26_code 94 = .ok (.invokevirtual 208, 3) := by decide +kernel
theorem d_RM_test_97 : decode prog_12_method_26_code 97 = .ok (.istore_n 2, 1) := by decide +kernel
theorem d_RM_test_98 : decode prog_12_method_26_code 98 = .ok (.aload_n 0, 1) := by decide +kernel
theorem d_RM_test_99 : decode prog_12_method_26_code 99 = .ok (.bipush 93, 2) := by decide +kernel
theorem d_RM_test_101 : decode prog_12_method_26_code 101 = .ok (.invokevirtual 176, 3) := by decide +kernel
theorem d_RM_test_104 : decode prog_12_method_26_code 104 = .ok (.iload_n 2, 1) := by decide +kernel
theorem d_RM_test_105 : decode prog_12_method_26_code 105 = .ok (.ireturn, 1) := by decide +kernel
theorem d_RM_test_106 : decode prog_12_method_26_code 106 = .ok (.aload_n 0, 1) := by decide +kernel
theorem d_RM_test_107 : decode prog_12_method_26_code 107 = .ok (.iload_n 1, 1) := by decide +kernel
theorem d_RM_test_108 : decode prog_12_method_26_code 108 = .ok (.iconst 1, 1) := by decide +kernel
theorem d_RM_test_109 : decode prog_12_method_26_code 109 = .ok (.iadd, 1) := by decide +kernel
theorem d_RM_test_110 : decode prog_12_method_26_code 110 = .ok (.invokevirtual 199, 3) := by decide +kernel
theorem d_RM_test_113 : decode prog_12_method_26_code 113 = .ok (.istore_n 2, 1) := by decide +kernel
theorem d_RM_test_114 : decode prog_12_method_26_code 114 = .ok (.aload_n 0, 1) := by decide +kernel
theorem d_RM_test_115 : decode prog_12_method_26_code 115 = .ok (.invokevirtual 162, 3) := by decide +kernel
theorem d_RM_test_118 : decode prog_12_method_26_code 118 = .ok (.istore_n 3, 1) := by decide +kernel
theorem d_RM_test_119 : decode prog_12_method_26_code 119 = .ok (.iload_n 3, 1) := by decide +kernel
theorem d_RM_test_120 : decode prog_12_method_26_code 120 = .ok (.bipush 60, 2) := by decide +kernel
theorem d_RM_test_122 : decode prog_12_method_26_code 122 = .ok (.if_icmp .ne 8, 3) := by decide +kernel
theorem d_RM_test_125 : decode prog_12_method_26_code 125 = .ok (.bipush 27, 2) := by decide +kernel
theorem d_RM_test_127 : decode prog_12_method_26_code 127 = .ok (.goto 63, 3) := by decide +kernel
theorem d_RM_test_130 : decode prog_12_method_26_code 130 = .ok (.iload_n 3, 1) := by decide +kernel
theorem d_RM_test_131 : decode prog_12_method_26_code 131 = .ok (.sipush 256, 3) := by decide +kernel
theorem d_RM_test_134 : decode prog_12_method_26_code 134 = .ok (.if_icmp .ne 8, 3) := by decide +kernel
theorem d_RM_test_137 : decode prog_12_method_26_code 137 = .ok (.bipush 28, 2) := by decide +kernel
theorem d_RM_test_139 : decode prog_12_method_26_code 139 = .ok (.goto 51, 3) := by decide +kernel
theorem d_RM_test_142 : decode prog_12_method_26_code 142 = .ok (.iload_n 3, 1) := by decide +kernel
theorem d_RM_test_143 : decode prog_12_method_26_code 143 = .ok (.bipush 62, 2) := by decide +kernel
theorem d_RM_test_145 : decode prog_12_method_26_code 145 = .ok (.if_icmp .ne 8, 3) := by decide +kernel
theorem d_RM_test_148 : decode prog_12_method_26_code 148 = .ok (.bipush 29, 2) := by decide +kernel
theorem d_RM_test_150 : decode prog_12_method_26_code 150 = .ok (.goto 40, 3) := by decide +kernel
theorem d_RM_test_153 : decode prog_12_method_26_code 153 = .ok (.iload_n 3, 1) := by decide +kernel
theorem d_RM_test_154 : decode prog_12_method_26_code 154 = .ok (.sipush 257, 3) := by decide +kernel
theorem d_RM_test_157 : decode prog_12_method_26_code 157 = .ok (.if_icmp .ne 8, 3) := by decide +kernel
theorem d_RM_test_160 : decode prog_12_method_26_code 160 = .ok (.bipush 30, 2) := by decide +kernel
theorem d_RM_test_162 : decode prog_12_method_26_code 162 = .ok (.goto 28, 3) := by decide +kernel
theorem d_RM_test_165 : decode prog_12_method_26_code 165 = .ok (.iload_n 3, 1) := by decide +kernel
theorem d_RM_test_166 : decode prog_12_method_26_code 166 = .ok (.sipush 258, 3) := by decide +kernel
theorem d_RM_test_169 : decode prog_12_method_26_code 169 = .ok (.if_icmp .ne 8, 3) := by decide +kernel
theorem d_RM_test_172 : decode prog_12_method_26_code 172 = .ok (.bipush 31, 2) := by decide +kernel
theorem d_RM_test_174 : decode prog_12_method_26_code 174 = .ok (.goto 16, 3) := by decide +kernel
theorem d_RM_test_177 : decode prog_12_method_26_code 177 = .ok (.iload_n 3, 1) := by decide +kernel
theorem d_RM_test_178 : decode prog_12_method_26_code 178 = .ok (.sipush 259, 3) := by decide +kernel
theorem d_RM_test_181 : decode prog_12_method_26_code 181 = .ok (.if_icmp .ne 8, 3) := by decide +kernel
theorem d_RM_test_184 : decode prog_12_method_26_code 184 = .ok (.bipush 32, 2) := by decide +kernel
theorem d_RM_test_186 : decode prog_12_method_26_code 186 = .ok (.goto 4, 3) := by decide +kernel
theorem d_RM_test_189 : decode prog_12_method_26_code 189 = .ok (.iconst 0, 1) := by decide +kernel
theorem d_RM_test_190 : decode prog_12_method_26_code 190 = .ok (.istore 4, 2) := by decide +kernel
theorem d_RM_test_192 : decode prog_12_method_26_code 192 = .ok (.aload_n 0, 1) := by decide +kernel
theorem d_RM_test_193 : decode prog_12_method_26_code 193 = .ok (.iload 4, 2) := by decide +kernel
theorem d_RM_test_195 : decode prog_12_method_26_code 195 = .ok (.ifCond .le 7, 3) := by decide +kernel
theorem d_RM_test_198 : decode prog_12_method_26_code 198 = .ok (.iconst 1, 1) := by decide +kernel
theorem d_RM_test_199 : decode prog_12_method_26_code 199 = .ok (.goto 4, 3) := by decide +kernel
theorem d_RM_test_202 : decode prog_12_method_26_code 202 = .ok (.iconst 0, 1) := by decide +kernel
theorem d_RM_test_203 : decode prog_12_method_26_code 203 = .ok (.invokevirtual 165, 3) := by decide +kernel
theorem d_RM_test_206 : decode prog_12_method_26_code 206 = .ok (.aload_n 0, 1) := by decide +kernel
theorem d_RM_test_207 : decode prog_12_method_26_code 207 = .ok (.getfield 155, 3) := by decide +kernel
theorem d_RM_test_210 : decode prog_12_method_26_code 210 = .ok (.ifCond .eq 5, 3) := by decide +kernel
theorem d_RM_test_213 : decode prog_12_method_26_code 213 = .ok (.iconst (-1), 1) := by decide +kernel
theorem d_RM_test_214 : decode prog_12_method_26_code 214 = .ok (.ireturn, 1) := by decide +kernel
theorem d_RM_test_215 : decode prog_12_method_26_code 215 = .ok (.aload_n 0, 1) := by decide +kernel
theorem d_RM_test_216 : decode prog_12_method_26_code 216 = .ok (.iload 4, 2) := by decide +kernel
theorem d_RM_test_218 : decode prog_12_method_26_code 218 = .ok (.aload_n 0, 1) := by decide +kernel
theorem d_RM_test_219 : decode prog_12_method_26_code 219 = .ok (.getfield 35, 3) := by decide +kernel
theorem d_RM_test_222 : decode prog_12_method_26_code 222 = .ok (.iload_n 2, 1) := by decide +kernel
theorem d_RM_test_223 : decode prog_12_method_26_code 223 = .ok (.iaload, 1) := by decide +kernel
theorem d_RM_test_224 : decode prog_12_method_26_code 224 = .ok (.iconst 0, 1) := by decide +kernel
theorem d_RM_test_225 : decode prog_12_method_26_code 225 = .ok (.invokevirtual 172, 3) := by decide +kernel
theorem d_RM_test_228 : decode prog_12_method_26_code 228 = .ok (.istore 5, 2) := by decide +kernel
theorem d_RM_test_230 : decode prog_12_method_26_code 230 = .ok (.aload_n 0, 1) := by decide +kernel
theorem d_RM_test_231 : decode prog_12_method_26_code 231 = .ok (.iload_n 3, 1) := by decide +kernel
theorem d_RM_test_232 : decode prog_12_method_26_code 232 = .ok (.invokevirtual 176, 3) := by decide +kernel
theorem d_RM_test_235 : decode prog_12_method_26_code 235 = .ok (.aload_n 0, 1) := by decide +kernel
theorem d_RM_test_236 : decode prog_12_method_26_code 236 = .ok (.iload 5, 2) := by decide +kernel
theorem d_RM_test_238 : decode prog_12_method_26_code 238 = .ok (.iload_n 2, 1) := by decide +kernel
theorem d_RM_test_239 : decode prog_12_method_26_code 239 = .ok (.invokevirtual 185, 3) := by decide +kernel
theorem d_RM_test_242 : decode prog_12_method_26_code 242 = .ok (.aload_n 0, 1) := by decide +kernel
theorem d_RM_test_243 : decode prog_12_method_26_code 243 = .ok (.iload 5, 2) := by decide +kernel
theorem d_RM_test_245 : decode prog_12_method_26_code 245 = .ok (.aload_n 0, 1) := by decide +kernel
theorem d_RM_test_246 : decode prog_12_method_26_code 246 = .ok (.iload_n 1, 1) := by decide +kernel
theorem d_RM_test_247 : decode prog_12_method_26_code 247 = .ok (.iconst 1, 1) := by decide +kernel
theorem d_RM_test_248 : decode prog_12_method_26_code 248 = .ok (.iadd, 1) := by decide +kernel
theorem d_RM_test_249 : decode prog_12_method_26_code 249 = .ok (.invokevirtual 199, 3) := by decide +kernel
theorem d_RM_test_252 : decode prog_12_method_26_code 252 = .ok (.invokevirtual 185, 3) := by decide +kernel
theorem d_RM_test_255 : decode prog_12_method_26_code 255 = .ok (.iload 5, 2) := by decide +kernel
theorem d_RM_test_257 : decode prog_12_method_26_code 257 = .ok (.ireturn, 1) := by decide +kernel
theorem d_RM_block_0 : decode prog_12_method_27_code 0 = .ok (.aload_n 0, 1) := by decide +kernel
theorem d_RM_block_1 : decode prog_12_method_27_code 1 = .ok (.iload_n 1, 1) := by decide +kernel
theorem d_RM_block_2 : decode prog_12_method_27_code 2 = .ok (.invokevirtual 179, 3) := by decide +kernel
theorem d_RM_block_5 : decode prog_12_method_27_code 5 = .ok (.aload_n 0, 1) := by decide +kernel
theorem d_RM_block_6 : decode prog_12_method_27_code 6 = .ok (.iconst 2, 1) := by decide +kernel
theorem d_RM_block_7 : decode prog_12_method_27_code 7 = .ok (.aload_n 0, 1) := by decide +kernel
theorem d_RM_block_8 : decode prog_12_method_27_code 8 = .ok (.getfield 22, 3) := by decide +kernel
theorem d_RM_block_11 : decode prog_12_method_27_code 11 = .ok (.aload_n 0, 1) := by decide +kernel
theorem d_RM_block_12 : decode prog_12_method_27_code 12 = .ok (.getfield 159, 3) := by decide +kernel
theorem d_RM_block_15 : decode prog_12_method_27_code 15 = .ok (.iaload, 1) := by decide +kernel
theorem d_RM_block_16 : decode prog_12_method_27_code 16 = .ok (.iconst 0, 1) := by decide +kernel
theorem d_RM_block_17 : decode prog_12_method_27_code 17 = .ok (.invokevirtual 172, 3) := by decide +kernel
theorem d_RM_block_20 : decode prog_12_method_27_code 20 = .ok (.istore_n 2, 1) := by decide +kernel
theorem d_RM_block_21 : decode prog_12_method_27_code 21 = .ok (.aload_n 0, 1) := by decide +kernel
theorem d_RM_block_22 : decode prog_12_method_27_code 22 = .ok (.bipush 123, 2) := by decide +kernel
theorem d_RM_block_24 : decode prog_12_method_27_code 24 = .ok (.invokevirtual 176, 3) := by decide +kernel
theorem d_RM_block_27 : decode prog_12_method_27_code 27 = .ok (.aload_n 0, 1) := by decide +kernel
theorem d_RM_block_28 : decode prog_12_method_27_code 28 = .ok (.getfield 155, 3) := by decide +kernel
theorem d_RM_block_31 : decode prog_12_method_27_code 31 = .ok (.ifCond .ne 25, 3) := by decide +kernel
theorem d_RM_block_34 : decode prog_12_method_27_code 34 = .ok (.aload_n 0, 1) := by decide +kernel
theorem d_RM_block_35 : decode prog_12_method_27_code 35 = .ok (.invokevirtual 162, 3) := by decide +kernel
theorem d_RM_block_38 : decode prog_12_method_27_code 38 = .ok (.bipush 125, 2) := by decide +kernel
theorem d_RM_block_40 : decode prog_12_method_27_code 40 = .ok (.if_icmp .eq 16, 3) := by decide +kernel
theorem d_RM_block_43 : decode prog_12_method_27_code 43 = .ok (.aload_n 0, 1) := by decide +kernel
theorem d_RM_block_44 : decode prog_12_method_27_code 44 = .ok (.iload_n 2, 1) := by decide +kernel
theorem d_RM_block_45 : decode prog_12_method_27_code 45 = .ok (.aload_n 0, 1) := by decide +kernel
theorem d_RM_block_46 : decode prog_12_method_27_code 46 = .ok (.iload_n 1, 1) := by decide +kernel
theorem d_RM_block_47 : decode prog_12_method_27_code 47 = .ok (.invokevirtual 211, 3) := by decide +kernel
theorem d_RM_block_50 : decode prog_12_method_27_code 50 = .ok (.invokevirtual 185, 3) := by decide +kernel
theorem d_RM_block_53 : decode prog_12_method_27_code 53 = .ok (.goto (-26), 3) := by decide +kernel
theorem d_RM_block_56 : decode prog_12_method_27_code 56 = .ok (.aload_n 0, 1) := by decide +kernel
theorem d_RM_block_57 : decode prog_12_method_27_code 57 = .ok (.bipush 125, 2) := by decide +kernel
theorem d_RM_block_59 : decode prog_12_method_27_code 59 = .ok (.invokevirtual 176, 3) := by decide +kernel
theorem d_RM_block_62 : decode prog_12_method_27_code 62 = .ok (.iload_n 2, 1) := by decide +kernel
theorem d_RM_block_63 : decode prog_12_method_27_code 63 = .ok (.ireturn, 1) := by decide +kernel
theorem d_RM_sums_0 : decode prog_12_method_28_code 0 = .ok (.aload_n 0, 1) := by decide +kernel
theorem d_RM_sums_1 : decode prog_12_method_28_code 1 = .ok (.bipush 40, 2) := by decide +kernel
theorem d_RM_sums_3 : decode prog_12_method_28_code 3 = .ok (.invokevirtual 176, 3) := by decide +kernel
theorem d_RM_sums_6 : decode prog_12_method_28_code 6 = .ok (.aload_n 0, 1) := by decide +kernel
theorem d_RM_sums_7 : decode prog_12_method_28_code 7 = .ok (.invokevirtual 162, 3) := by decide +kernel
theorem d_RM_sums_10 : decode prog_12_method_28_code 10 = .ok (.bipush 41, 2) := by decide +kernel
theorem d_RM_sums_12 : decode prog_12_method_28_code 12 = .ok (.if_icmp .eq 67, 3) := by decide +kernel
theorem d_RM_sums_15 : decode prog_12_method_28_code 15 = .ok (.aload_n 0, 1) := by decide +kernel
theorem d_RM_sums_16 : decode prog_12_method_28_code 16 = .ok (.iload_n 1, 1) := by decide +kernel
theorem d_RM_sums_17 : decode prog_12_method_28_code 17 = .ok (.aload_n 0, 1) := by decide +kernel
theorem d_RM_sums_18 : decode prog_12_method_28_code 18 = .ok (.getfield 155, 3) := by decide +kernel
theorem d_RM_sums_21 : decode prog_12_method_28_code 21 = .ok (.ifCond .eq 7, 3) := by decide +kernel
theorem d_RM_sums_24 : decode prog_12_method_28_code 24 = .ok (.iconst (-1), 1) := by decide +kernel
theorem d_RM_sums_25 : decode prog_12_method_28_code 25 = .ok (.goto 10, 3) := by decide +kernel
theorem d_RM_sums_28 : decode prog_12_method_28_code 28 = .ok (.aload_n 0, 1) := by decide +kernel
theorem d_RM_sums_29 : decode prog_12_method_28_code 29 = .ok (.iload_n 2, 1) := by decide +kernel
theorem d_RM_sums_30 : decode prog_12_method_28_code 30 = .ok (.iconst 1, 1) := by decide +kernel
theorem d_RM_sums_31 : decode prog_12_method_28_code 31 = .ok (.iadd, 1) := by decide +kernel
theorem d_RM_sums_32 : decode prog_12_method_28_code 32 = .ok (.invokevirtual 199, 3) := by decide +kernel
theorem d_RM_sums_35 : decode prog_12_method_28_code 35 = .ok (.invokevirtual 185, 3) := by decide +kernel
theorem d_RM_sums_38 : decode prog_12_method_28_code 38 = .ok (.aload_n 0, 1) := by decide +kernel
theorem d_RM_sums_39 : decode prog_12_method_28_code 39 = .ok (.invokevirtual 162, 3) := by decide +kernel
theorem d_RM_sums_42 : decode prog_12_method_28_code 42 = .ok (.bipush 44, 2) := by decide +kernel
theorem d_RM_sums_44 : decode prog_12_method_28_code 44 = .ok (.if_icmp .ne 35, 3) := by decide +kernel
theorem d_RM_sums_47 : decode prog_12_method_28_code 47 = .ok (.aload_n 0, 1) := by decide +kernel
theorem d_RM_sums_48 : decode prog_12_method_28_code 48 = .ok (.bipush 44, 2) := by decide +kernel
theorem d_RM_sums_50 : decode prog_12_method_28_code 50 = .ok (.invokevirtual 176, 3) := by decide +kernel
theorem d_RM_sums_53 : decode prog_12_method_28_code 53 = .ok (.aload_n 0, 1) := by decide +kernel
theorem d_RM_sums_54 : decode prog_12_method_28_code 54 = .ok (.iload_n 1, 1) := by decide +kernel
theorem d_RM_sums_55 : decode prog_12_method_28_code 55 = .ok (.aload_n 0, 1) := by decide +kernel
theorem d_RM_sums_56 : decode prog_12_method_28_code 56 = .ok (.getfield 155, 3) := by decide +kernel
theorem d_RM_sums_59 : decode prog_12_method_28_code 59 = .ok (.ifCond .eq 7, 3) := by decide +kernel
theorem d_RM_sums_62 : decode prog_12_method_28_code 62 = .ok (.iconst (-1), 1) := by decide +kernel
theorem d_RM_sums_63 : decode prog_12_method_28_code 63 = .ok (.goto 10, 3) := by decide +kernel
theorem d_RM_sums_66 : decode prog_12_method_28_code 66 = .ok (.aload_n 0, 1) := by decide +kernel
theorem d_RM_sums_67 : decode prog_12_method_28_code 67 = .ok (.iload_n 2, 1) := by decide +kernel
theorem d_RM_sums_68 : decode prog_12_method_28_code 68 = .ok (.iconst 1, 1) := by decide +kernel
theorem d_RM_sums_69 : decode prog_12_method_28_code 69 = .ok (.iadd, 1) := by decide +kernel
theorem d_RM_sums_70 : decode prog_12_method_28_code 70 = .ok (.invokevirtual 199, 3) := by decide +kernel
theorem d_RM_sums_73 : decode prog_12_method_28_code 73 = .ok (.invokevirtual 185, 3) := by decide +kernel
theorem d_RM_sums_76 : decode prog_12_method_28_code 76 = .ok (.goto (-38), 3) := by decide +kernel
theorem d_RM_sums_79 : decode prog_12_method_28_code 79 = .ok (.aload_n 0, 1) := by decide +kernel
theorem d_RM_sums_80 : decode prog_12_method_28_code 80 = .ok (.bipush 41, 2) := by decide +kernel
theorem d_RM_sums_82 : decode prog_12_method_28_code 82 = .ok (.invokevirtual 176, 3) := by decide +kernel
theorem d_RM_sums_85 : decode prog_12_method_28_code 85 = .ok (.return_, 1) := by decide +kernel
theorem d_RM_statement_0 : decode prog_12_method_29_code 0 = .ok (.aload_n 0, 1) := by decide +kernel
theorem d_RM_statement_1 : decode prog_12_method_29_code 1 = .ok (.getfield 22, 3) := by decide +kernel
theorem d_RM_statement_4 : decode prog_12_method_29_code 4 = .ok (.aload_n 0, 1) := by decide +kernel
theorem d_RM_statement_5 : decode prog_12_method_29_code 5 = .ok (.getfield 159, 3) := by decide +kernel
theorem d_RM_statement_8 : decode prog_12_method_29_code 8 = .ok (.iaload, 1) := by decide +kernel
theorem d_RM_statement_9 : decode prog_12_method_29_code 9 = .ok (.istore_n 2, 1) := by decide +kernel
theorem d_RM_statement_10 : decode prog_12_method_29_code 10 = .ok (.aload_n 0, 1) := by decide +kernel
theorem d_RM_statement_11 : decode prog_12_method_29_code 11 = .ok (.invokevirtual 162, 3) := by decide +kernel
theorem d_RM_statement_14 : decode prog_12_method_29_code 14 = .ok (.istore_n 3, 1) := by decide +kernel
theorem d_RM_statement_15 : decode prog_12_method_29_code 15 = .ok (.iconst (-1), 1) := by decide +kernel
theorem d_RM_statement_16 : decode prog_12_method_29_code 16 = .ok (.istore 4, 2) := by decide +kernel
theorem d_RM_statement_18 : decode prog_12_method_29_code 18 = .ok (.iload_n 3, 1) := by decide +kernel
theorem d_RM_statement_19 : decode prog_12_method_29_code 19 = .ok (.sipush 301, 3) := by decide +kernel
theorem d_RM_statement_22 : decode prog_12_method_29_code 22 = .ok (.if_icmp .ne 129, 3) := by decide +kernel
theorem d_RM_statement_25 : decode prog_12_method_29_code 25 = .ok (.aload_n 0, 1) := by decide +kernel
theorem d_RM_statement_26 : decode prog_12_method_29_code 26 = .ok (.sipush 301, 3) := by decide +kernel
theorem d_RM_statement_29 : decode prog_12_method_29_code 29 = .ok (.invokevirtual 176, 3) := by decide +kernel
theorem d_RM_statement_32 : decode prog_12_method_29_code 32 = .ok (.aload_n 0, 1) := by decide +kernel
theorem d_RM_statement_33 : decode prog_12_method_29_code 33 = .ok (.invokevirtual 196, 3) := by decide +kernel
theorem d_RM_statement_36 : decode prog_12_method_29_code 36 = .ok (.istore 5, 2) := by decide +kernel
theorem d_RM_statement_38 : decode prog_12_method_29_code 38 = .ok (.aload_n 0, 1) := by decide +kernel
theorem d_RM_statement_39 : decode prog_12_method_29_code 39 = .ok (.aload_n 0, 1) := by decide +kernel
theorem d_RM_statement_40 : decode prog_12_method_29_code 40 = .ok (.invokevirtual 162, 3) := by decide +kernel
theorem d_RM_statement_43 : decode prog_12_method_29_code 43 = .ok (.bipush 91, 2) := by decide +kernel
theorem d_RM_statement_45 : decode prog_12_method_29_code 45 = .ok (.if_icmp .ne 7, 3) := by decide +kernel
theorem d_RM_statement_48 : decode prog_12_method_29_code 48 = .ok (.iconst 4, 1) := by decide +kernel
theorem d_RM_statement_49 : decode prog_12_method_29_code 49 = .ok (.goto 4, 3) := by decide +kernel
theorem d_RM_statement_52 : decode prog_12_method_29_code 52 = .ok (.iconst 3, 1) := by decide +kernel
theorem d_RM_statement_53 : decode prog_12_method_29_code 53 = .ok (.iload_n 2, 1) := by decide +kernel
theorem d_RM_statement_54 : decode prog_12_method_29_code 54 = .ok (.iconst 0, 1) := by decide +kernel
theorem d_RM_statement_55 : decode prog_12_method_29_code 55 = .ok (.invokevirtual 172, 3) := by decide +kernel
theorem d_RM_statement_58 : decode prog_12_method_29_code 58 = .ok (.istore 4, 2) := by decide +kernel
theorem d_RM_statement_60 : decode prog_12_method_29_code 60 = .ok (.aload_n 0, 1) := by decide +kernel
theorem d_RM_statement_61 : decode prog_12_method_29_code 61 = .ok (.iload 4, 2) := by decide +kernel
theorem d_RM_statement_63 : decode prog_12_method_29_code 63 = .ok (.iload 5, 2) := by decide +kernel
theorem d_RM_statement_65 : decode prog_12_method_29_code 65 = .ok (.invokevirtual 185, 3) := by decide +kernel
theorem d_RM_statement_68 : decode prog_12_method_29_code 68 = .ok (.aload_n 0, 1) := by decide +kernel
theorem d_RM_statement_69 : decode prog_12_method_29_code 69 = .ok (.invokevirtual 162, 3) := by decide +kernel
theorem d_RM_statement_72 : decode prog_12_method_29_code 72 = .ok (.bipush 91, 2) := by decide +kernel
theorem d_RM_statement_74 : decode prog_12_method_29_code 74 = .ok (.if_icmp .ne 29, 3) := by decide +kernel
theorem d_RM_statement_77 : decode prog_12_method_29_code 77 = .ok (.aload_n 0, 1) := by decide +kernel
theorem d_RM_statement_78 : decode prog_12_method_29_code 78 = .ok (.bipush 91, 2) := by decide +kernel
theorem d_RM_statement_80 : decode prog_12_method_29_code 80 = .ok (.invokevirtual 176, 3) := by decide +kernel
theorem d_RM_statement_83 : decode prog_12_method_29_code 83 = .ok (.aload_n 0, 1) := by decide +kernel
theorem d_RM_statement_84 : decode prog_12_method_29_code 84 = .ok (.iload 4, 2) := by decide +kernel
theorem d_RM_statement_86 : decode prog_12_method_29_code 86 = .ok (.aload_n 0, 1) := by decide +kernel
theorem d_RM_statement_87 : decode prog_12_method_29_code 87 = .ok (.iconst 0, 1) := by decide +kernel
theorem d_RM_statement_88 : decode prog_12_method_29_code 88 = .ok (.invokevirtual 192, 3) := by decide +kernel
theorem d_RM_statement_91 : decode prog_12_method_29_code 91 = .ok (.invokevirtual 185, 3) := by decide +kernel
theorem d_RM_statement_94 : decode prog_12_method_29_code 94 = .ok (.aload_n 0, 1) := by decide +kernel
theorem d_RM_statement_95 : decode prog_12_method_29_code 95 = .ok (.bipush 93, 2) := by decide +kernel
theorem d_RM_statement_97 : decode prog_12_method_29_code 97 = .ok (.invokevirtual 176, 3) := by decide +kernel
theorem d_RM_statement_100 : decode prog_12_method_29_code 100 = .ok (.goto 42, 3) := by decide +kernel
theorem d_RM_statement_103 : decode prog_12_method_29_code 103 = .ok (.aload_n 0, 1) := by decide +kernel
theorem d_RM_statement_104 : decode prog_12_method_29_code 104 = .ok (.invokevirtual 162, 3) := by decide +kernel
theorem d_RM_statement_107 : decode prog_12_method_29_code 107 = .ok (.bipush 61, 2) := by decide +kernel
theorem d_RM_statement_109 : decode prog_12_method_29_code 109 = .ok (.if_icmp .ne 33, 3) := by decide +kernel
theorem d_RM_statement_112 : decode prog_12_method_29_code 112 = .ok (.aload_n 0, 1) := by decide +kernel
theorem d_RM_statement_113 : decode prog_12_method_29_code 113 = .ok (.bipush 61, 2) := by decide +kernel
theorem d_RM_statement_115 : decode prog_12_method_29_code 115 = .ok (.invokevirtual 176, 3) := by decide +kernel
theorem d_RM_statement_118 : decode prog_12_method_29_code 118 = .ok (.aload_n 0, 1) := by decide +kernel
theorem d_RM_statement_119 : decode prog_12_method_29_code 119 = .ok (.iload 4, 2) := by decide +kernel
theorem d_RM_statement_121 : decode prog_12_method_29_code 121 = .ok (.aload_n 0, 1) := by decide +kernel
theorem d_RM_statement_122 : decode prog_12_method_29_code 122 = .ok (.getfield 155, 3) := by decide +kernel
theorem d_RM_statement_125 : decode prog_12_method_29_code 125 = .ok (.ifCond .eq 7, 3) := by decide +kernel
theorem d_RM_statement_128 : decode prog_12_method_29_code 128 = .ok (.iconst (-1), 1) := by decide +kernel
theorem d_RM_statement_129 : decode prog_12_method_29_code 129 = .ok (.goto 10, 3) := by decide +kernel
theorem d_RM_statement_132 : decode prog_12_method_29_code 132 = .ok (.aload_n 0, 1) := by decide +kernel
theorem d_RM_statement_133 : decode prog_12_method_29_code 133 = .ok (.iload_n 1, 1) := by decide +kernel
theorem d_RM_statement_134 : decode prog_12_method_29_code 134 = .ok (.iconst 1, 1) := by decide +kernel
theorem d_RM_statement_135 : decode prog_12_method_29_code 135 = .ok (.iadd, 1) := by decide +kernel
theorem d_RM_statement_136 : decode prog_12_method_29_code 136 = .ok (.invokevirtual 199, 3) := by decide +kernel
theorem d_RM_statement_139 : decode prog_12_method_29_code 139 = .ok (.invokevirtual 185, 3) := by decide +kernel
theorem d_RM_statement_142 : decode prog_12_method_29_code 142 = .ok (.aload_n 0, 1) := by decide +kernel
theorem d_RM_statement_143 : decode prog_12_method_29_code 143 = .ok (.bipush 59, 2) := by decide +kernel
theorem d_RM_statement_145 : decode prog_12_method_29_code 145 = .ok (.invokevirtual 176, 3) := by decide +kernel
theorem d_RM_statement_148 : decode prog_12_method_29_code 148 = .ok (.goto 293, 3) := by decide +kernel
theorem d_RM_statement_151 : decode prog_12_method_29_code 151 = .ok (.iload_n 3, 1) := by decide +kernel
theorem d_RM_statement_152 : decode prog_12_method_29_code 152 = .ok (.iconst 2, 1) := by decide +kernel
theorem d_RM_statement_153 : decode prog_12_method_29_code 153 = .ok (.if_icmp .ne 20, 3) := by decide +kernel
theorem d_RM_statement_156 : decode prog_12_method_29_code 156 = .ok (.aload_n 0, 1) := by decide +kernel
theorem d_RM_statement_157 : decode prog_12_method_29_code 157 = .ok (.iload_n 2, 1) := by decide +kernel
theorem d_RM_statement_158 : decode prog_12_method_29_code 158 = .ok (.iload_n 1, 1) := by decide +kernel
theorem d_RM_statement_159 : decode prog_12_method_29_code 159 = .ok (.invokevirtual 214, 3) := by decide +kernel
theorem d_RM_statement_162 : decode prog_12_method_29_code 162 = .ok (.istore 4, 2) := by decide +kernel
theorem d_RM_statement_164 : decode prog_12_method_29_code 164 = .ok (.aload_n 0, 1) := by decide +kernel
theorem d_RM_statement_165 : decode prog_12_method_29_code 165 = .ok (.bipush 59, 2) := by decide +kernel
theorem d_RM_statement_167 : decode prog_12_method_29_code 167 = .ok (.invokevirtual 176, 3) := by decide +kernel
theorem d_RM_statement_170 : decode prog_12_method_29_code 170 = .ok (.goto 271, 3) := by decide +kernel
theorem d_RM_statement_173 : decode prog_12_method_29_code 173 = .ok (.iload_n 3, 1) := by decide +kernel
theorem d_RM_statement_174 : decode prog_12_method_29_code 174 = .ok (.sipush 302, 3) := by decide +kernel
theorem d_RM_statement_177 : decode prog_12_method_29_code 177 = .ok (.if_icmp .eq 10, 3) := by decide +kernel
theorem d_RM_statement_180 : decode prog_12_method_29_code 180 = .ok (.iload_n 3, 1) := by decide +kernel
theorem d_RM_statement_181 : decode prog_12_method_29_code 181 = .ok (.sipush 304, 3) := by decide +kernel
theorem d_RM_statement_184 : decode prog_12_method_29_code 184 = .ok (.if_icmp .ne 141, 3) := by decide +kernel
theorem d_RM_statement_187 : decode prog_12_method_29_code 187 = .ok (.aload_n 0, 1) := by decide +kernel
theorem d_RM_statement_188 : decode prog_12_method_29_code 188 = .ok (.iload_n 3, 1) := by decide +kernel
theorem d_RM_statement_189 : decode prog_12_method_29_code 189 = .ok (.sipush 302, 3) := by decide +kernel
theorem d_RM_statement_192 : decode prog_12_method_29_code 192 = .ok (.if_icmp .ne 8, 3) := by decide +kernel
theorem d_RM_statement_195 : decode prog_12_method_29_code 195 = .ok (.bipush 8, 2) := by decide +kernel
theorem d_RM_statement_197 : decode prog_12_method_29_code 197 = .ok (.goto 5, 3) := by decide +kernel
theorem d_RM_statement_200 : decode prog_12_method_29_code 200 = .ok (.bipush 9, 2) := by decide +kernel
theorem d_RM_statement_202 : decode prog_12_method_29_code 202 = .ok (.iload_n 2, 1) := by decide +kernel
theorem d_RM_statement_203 : decode prog_12_method_29_code 203 = .ok (.iconst 0, 1) := by decide +kernel
theorem d_RM_statement_204 : decode prog_12_method_29_code 204 = .ok (.invokevirtual 172, 3) := by decide +kernel
theorem d_RM_statement_207 : decode prog_12_method_29_code 207 = .ok (.istore 4, 2) := by decide +kernel
theorem d_RM_statement_209 : decode prog_12_method_29_code 209 = .ok (.aload_n 0, 1) := by decide +kernel
theorem d_RM_statement_210 : decode prog_12_method_29_code 210 = .ok (.iload_n 3, 1) := by decide +kernel
theorem d_RM_statement_211 : decode prog_12_method_29_code 211 = .ok (.invokevirtual 176, 3) := by decide +kernel
theorem d_RM_statement_214 : decode prog_12_method_29_code 214 = .ok (.aload_n 0, 1) := by decide +kernel
theorem d_RM_statement_215 : decode prog_12_method_29_code 215 = .ok (.bipush 40, 2) := by decide +kernel
theorem d_RM_statement_217 : decode prog_12_method_29_code 217 = .ok (.invokevirtual 176, 3) := by decide +kernel
theorem d_RM_statement_220 : decode prog_12_method_29_code 220 = .ok (.aload_n 0, 1) := by decide +kernel
theorem d_RM_statement_221 : decode prog_12_method_29_code 221 = .ok (.iload 4, 2) := by decide +kernel
theorem d_RM_statement_223 : decode prog_12_method_29_code 223 = .ok (.aload_n 0, 1) := by decide +kernel
theorem d_RM_statement_224 : decode prog_12_method_29_code 224 = .ok (.getfield 155, 3) := by decide +kernel
theorem d_RM_statement_227 : decode prog_12_method_29_code 227 = .ok (.ifCond .eq 7, 3) := by decide +kernel
theorem d_RM_statement_230 : decode prog_12_method_29_code 230 = .ok (.iconst (-1), 1) := by decide +kernel
theorem d_RM_statement_231 : decode prog_12_method_29_code 231 = .ok (.goto 10, 3) := by decide +kernel
theorem d_RM_statement_234 : decode prog_12_method_29_code 234 = .ok (.aload_n 0, 1) := by decide +kernel
theorem d_RM_statement_235 : decode prog_12_method_29_code 235 = .ok (.iload_n 1, 1) := by decide +kernel
theorem d_RM_statement_236 : decode prog_12_method_29_code 236 = .ok (.iconst 1, 1) := by decide +kernel
theorem d_RM_statement_237 : decode prog_12_method_29_code 237 = .ok (.iadd, 1) := by decide +kernel
theorem d_RM_statement_238 : decode prog_12_method_29_code 238 = .ok (.invokevirtual 208, 3) := by decide +kernel
theorem d_RM_statement_241 : decode prog_12_method_29_code 241 = .ok (.invokevirtual 185, 3) := by decide +kernel
theorem d_RM_statement_244 : decode prog_12_method_29_code 244 = .ok (.aload_n 0, 1) := by decide +kernel
theorem d_RM_statement_245 : decode prog_12_method_29_code 245 = .ok (.bipush 41, 2) := by decide +kernel
theorem d_RM_statement_247 : decode prog_12_method_29_code 247 = .ok (.invokevirtual 176, 3) := by decide +kernel
theorem d_RM_statement_250 : decode prog_12_method_29_code 250 = .ok (.aload_n 0, 1) := by decide +kernel
theorem d_RM_statement_251 : decode prog_12_method_29_code 251 = .ok (.iload 4, 2) := by decide +kernel
theorem d_RM_statement_253 : decode prog_12_method_29_code 253 = .ok (.aload_n 0, 1) := by decide +kernel
theorem d_RM_statement_254 : decode prog_12_method_29_code 254 = .ok (.getfield 155, 3) := by decide +kernel
theorem d_RM_statement_257 : decode prog_12_method_29_code 257 = .ok (.ifCond .eq 7, 3) := by decide +kernel
theorem d_RM_statement_260 : decode prog_12_method_29_code 260 = .ok (.iconst (-1), 1) := by decide +kernel
theorem d_RM_statement_261 : decode prog_12_method_29_code 261 = .ok (.goto 10, 3) := by decide +kernel
theorem d_RM_statement_264 : decode prog_12_method_29_code 264 = .ok (.aload_n 0, 1) := by decide +kernel
theorem d_RM_statement_265 : decode prog_12_method_29_code 265 = .ok (.iload_n 1, 1) := by decide +kernel
theorem d_RM_statement_266 : decode prog_12_method_29_code 266 = .ok (.iconst 1, 1) := by decide +kernel
theorem d_RM_statement_267 : decode prog_12_method_29_code 267 = .ok (.iadd, 1) := by decide +kernel
theorem d_RM_statement_268 : decode prog_12_method_29_code 268 = .ok (.invokevirtual 217, 3) := by decide +kernel
theorem d_RM_statement_271 : decode prog_12_method_29_code 271 = .ok (.invokevirtual 185, 3) := by decide +kernel
theorem d_RM_statement_274 : decode prog_12_method_29_code 274 = .ok (.iload_n 3, 1) := by decide +kernel
theorem d_RM_statement_275 : decode prog_12_method_29_code 275 = .ok (.sipush 302, 3) := by decide +kernel
theorem d_RM_statement_278 : decode prog_12_method_29_code 278 = .ok (.if_icmp .ne 163, 3) := by decide +kernel
theorem d_RM_statement_281 : decode prog_12_method_29_code 281 = .ok (.aload_n 0, 1) := by decide +kernel
theorem d_RM_statement_282 : decode prog_12_method_29_code 282 = .ok (.invokevirtual 162, 3) := by decide +kernel
theorem d_RM_statement_285 : decode prog_12_method_29_code 285 = .ok (.sipush 303, 3) := by decide +kernel
theorem d_RM_statement_288 : decode prog_12_method_29_code 288 = .ok (.if_icmp .ne 153, 3) := by decide +kernel
theorem d_RM_statement_291 : decode prog_12_method_29_code 291 = .ok (.aload_n 0, 1) := by decide +kernel
theorem d_RM_statement_292 : decode prog_12_method_29_code 292 = .ok (.sipush 303, 3) := by decide +kernel
theorem d_RM_statement_295 : decode prog_12_method_29_code 295 = .ok (.invokevirtual 176, 3) := by decide +kernel
theorem d_RM_statement_298 : decode prog_12_method_29_code 298 = .ok (.aload_n 0, 1) := by decide +kernel
theorem d_RM_statement_299 : decode prog_12_method_29_code 299 = .ok (.iload 4, 2) := by decide +kernel
theorem d_RM_statement_301 : decode prog_12_method_29_code 301 = .ok (.aload_n 0, 1) := by decide +kernel
theorem d_RM_statement_302 : decode prog_12_method_29_code 302 = .ok (.getfield 155, 3) := by decide +kernel
theorem d_RM_statement_305 : decode prog_12_method_29_code 305 = .ok (.ifCond .eq 7, 3) := by decide +kernel
theorem d_RM_statement_308 : decode prog_12_method_29_code 308 = .ok (.iconst (-1), 1) := by decide +kernel
theorem d_RM_statement_309 : decode prog_12_method_29_code 309 = .ok (.goto 10, 3) := by decide +kernel
theorem d_RM_statement_312 : decode prog_12_method_29_code 312 = .ok (.aload_n 0, 1) := by decide +kernel
theorem d_RM_statement_313 : decode prog_12_method_29_code 313 = .ok (.iload_n 1, 1) := by decide +kernel
theorem d_RM_statement_314 : decode prog_12_method_29_code 314 = .ok (.iconst 1, 1) := by decide +kernel
theorem d_RM_statement_315 : decode prog_12_method_29_code 315 = .ok (.iadd, 1) := by decide +kernel
theorem d_RM_statement_316 : decode prog_12_method_29_code 316 = .ok (.invokevirtual 217, 3) := by decide +kernel
theorem d_RM_statement_319 : decode prog_12_method_29_code 319 = .ok (.invokevirtual 185, 3) := by decide +kernel
theorem d_RM_statement_322 : decode prog_12_method_29_code 322 = .ok (.goto 119, 3) := by decide +kernel
theorem d_RM_statement_325 : decode prog_12_method_29_code 325 = .ok (.iload_n 3, 1) := by decide +kernel
theorem d_RM_statement_326 : decode prog_12_method_29_code 326 = .ok (.sipush 305, 3) := by decide +kernel
theorem d_RM_statement_329 : decode prog_12_method_29_code 329 = .ok (.if_icmp .ne 65, 3) := by decide +kernel
theorem d_RM_statement_332 : decode prog_12_method_29_code 332 = .ok (.aload_n 0, 1) := by decide +kernel
theorem d_RM_statement_333 : decode prog_12_method_29_code 333 = .ok (.bipush 10, 2) := by decide +kernel
theorem d_RM_statement_335 : decode prog_12_method_29_code 335 = .ok (.iload_n 2, 1) := by decide +kernel
theorem d_RM_statement_336 : decode prog_12_method_29_code 336 = .ok (.iconst 0, 1) := by decide +kernel
theorem d_RM_statement_337 : decode prog_12_method_29_code 337 = .ok (.invokevirtual 172, 3) := by decide +kernel
theorem d_RM_statement_340 : decode prog_12_method_29_code 340 = .ok (.istore 4, 2) := by decide +kernel
theorem d_RM_statement_342 : decode prog_12_method_29_code 342 = .ok (.aload_n 0, 1) := by decide +kernel
theorem d_RM_statement_343 : decode prog_12_method_29_code 343 = .ok (.sipush 305, 3) := by decide +kernel
theorem d_RM_statement_346 : decode prog_12_method_29_code 346 = .ok (.invokevirtual 176, 3) := by decide +kernel
theorem d_RM_statement_349 : decode prog_12_method_29_code 349 = .ok (.aload_n 0, 1) := by decide +kernel
theorem d_RM_statement_350 : decode prog_12_method_29_code 350 = .ok (.bipush 40, 2) := by decide +kernel
theorem d_RM_statement_352 : decode prog_12_method_29_code 352 = .ok (.invokevirtual 176, 3) := by decide +kernel
theorem d_RM_statement_355 : decode prog_12_method_29_code 355 = .ok (.aload_n 0, 1) := by decide +kernel
theorem d_RM_statement_356 : decode prog_12_method_29_code 356 = .ok (.iload 4, 2) := by decide +kernel
theorem d_RM_statement_358 : decode prog_12_method_29_code 358 = .ok (.aload_n 0, 1) := by decide +kernel
theorem d_RM_statement_359 : decode prog_12_method_29_code 359 = .ok (.getfield 155, 3) := by decide +kernel
theorem d_RM_statement_362 : decode prog_12_method_29_code 362 = .ok (.ifCond .eq 7, 3) := by decide +kernel
theorem d_RM_statement_365 : decode prog_12_method_29_code 365 = .ok (.iconst (-1), 1) := by decide +kernel
theorem d_RM_statement_366 : decode prog_12_method_29_code 366 = .ok (.goto 10, 3) := by decide +kernel
theorem d_RM_statement_369 : decode prog_12_method_29_code 369 = .ok (.aload_n 0, 1) := by decide +kernel
theorem d_RM_statement_370 : decode prog_12_method_29_code 370 = .ok (.iload_n 1, 1) := by decide +kernel
theorem d_RM_statement_371 : decode prog_12_method_29_code 371 = .ok (.iconst 1, 1) := by decide +kernel
theorem d_RM_statement_372 : decode prog_12_method_29_code 372 = .ok (.iadd, 1) := by decide +kernel
theorem d_RM_statement_373 : decode prog_12_method_29_code 373 = .ok (.invokevirtual 208, 3) := by decide +kernel
theorem d_RM_statement_376 : decode prog_12_method_29_code 376 = .ok (.invokevirtual 185, 3) := by decide +kernel
theorem d_RM_statement_379 : decode prog_12_method_29_code 379 = .ok (.aload_n 0, 1) := by decide +kernel
theorem d_RM_statement_380 : decode prog_12_method_29_code 380 = .ok (.bipush 41, 2) := by decide +kernel
theorem d_RM_statement_382 : decode prog_12_method_29_code 382 = .ok (.invokevirtual 176, 3) := by decide +kernel
theorem d_RM_statement_385 : decode prog_12_method_29_code 385 = .ok (.aload_n 0, 1) := by decide +kernel
theorem d_RM_statement_386 : decode prog_12_method_29_code 386 = .ok (.bipush 59, 2) := by decide +kernel
theorem d_RM_statement_388 : decode prog_12_method_29_code 388 = .ok (.invokevirtual 176, 3) := by decide +kernel
theorem d_RM_statement_391 : decode prog_12_method_29_code 391 = .ok (.goto 50, 3) := by decide +kernel
theorem d_RM_statement_394 : decode prog_12_method_29_code 394 = .ok (.aload_n 0, 1) := by decide +kernel
theorem d_RM_statement_395 : decode prog_12_method_29_code 395 = .ok (.sipush 306, 3) := by decide +kernel
theorem d_RM_statement_398 : decode prog_12_method_29_code 398 = .ok (.invokevirtual 176, 3) := by decide +kernel
theorem d_RM_statement_401 : decode prog_12_method_29_code 401 = .ok (.aload_n 0, 1) := by decide +kernel
theorem d_RM_statement_402 : decode prog_12_method_29_code 402 = .ok (.bipush 11, 2) := by decide +kernel
theorem d_RM_statement_404 : decode prog_12_method_29_code 404 = .ok (.iload_n 2, 1) := by decide +kernel
theorem d_RM_statement_405 : decode prog_12_method_29_code 405 = .ok (.iconst 0, 1) := by decide +kernel
theorem d_RM_statement_406 : decode prog_12_method_29_code 406 = .ok (.invokevirtual 172, 3) := by decide +kernel
theorem d_RM_statement_409 : decode prog_12_method_29_code 409 = .ok (.istore 4, 2) := by decide +kernel
theorem d_RM_statement_411 : decode prog_12_method_29_code 411 = .ok (.aload_n 0, 1) := by decide +kernel
theorem d_RM_statement_412 : decode prog_12_method_29_code 412 = .ok (.iload 4, 2) := by decide +kernel
theorem d_RM_statement_414 : decode prog_12_method_29_code 414 = .ok (.aload_n 0, 1) := by decide +kernel
theorem d_RM_statement_415 : decode prog_12_method_29_code 415 = .ok (.getfield 155, 3) := by decide +kernel
theorem d_RM_statement_418 : decode prog_12_method_29_code 418 = .ok (.ifCond .eq 7, 3) := by decide +kernel
theorem d_RM_statement_421 : decode prog_12_method_29_code 421 = .ok (.iconst (-1), 1) := by decide +kernel
theorem d_RM_statement_422 : decode prog_12_method_29_code 422 = .ok (.goto 10, 3) := by decide +kernel
theorem d_RM_statement_425 : decode prog_12_method_29_code 425 = .ok (.aload_n 0, 1) := by decide +kernel
theorem d_RM_statement_426 : decode prog_12_method_29_code 426 = .ok (.iload_n 1, 1) := by decide +kernel
theorem d_RM_statement_427 : decode prog_12_method_29_code 427 = .ok (.iconst 1, 1) := by decide +kernel
theorem d_RM_statement_428 : decode prog_12_method_29_code 428 = .ok (.iadd, 1) := by decide +kernel
theorem d_RM_statement_429 : decode prog_12_method_29_code 429 = .ok (.invokevirtual 199, 3) := by decide +kernel
theorem d_RM_statement_432 : decode prog_12_method_29_code 432 = .ok (.invokevirtual 185, 3) := by decide +kernel
theorem d_RM_statement_435 : decode prog_12_method_29_code 435 = .ok (.aload_n 0, 1) := by decide +kernel
theorem d_RM_statement_436 : decode prog_12_method_29_code 436 = .ok (.bipush 59, 2) := by decide +kernel
theorem d_RM_statement_438 : decode prog_12_method_29_code 438 = .ok (.invokevirtual 176, 3) := by decide +kernel
theorem d_RM_statement_441 : decode prog_12_method_29_code 441 = .ok (.iload 4, 2) := by decide +kernel
theorem d_RM_statement_443 : decode prog_12_method_29_code 443 = .ok (.ireturn, 1) := by decide +kernel
theorem d_RM_named_0 : decode prog_12_method_30_code 0 = .ok (.aload_n 0, 1) := by decide +kernel
theorem d_RM_named_1 : decode prog_12_method_30_code 1 = .ok (.invokevirtual 196, 3) := by decide +kernel
theorem d_RM_named_4 : decode prog_12_method_30_code 4 = .ok (.istore_n 3, 1) := by decide +kernel
theorem d_RM_named_5 : decode prog_12_method_30_code 5 = .ok (.aload_n 0, 1) := by decide +kernel
theorem d_RM_named_6 : decode prog_12_method_30_code 6 = .ok (.invokevirtual 162, 3) := by decide +kernel
theorem d_RM_named_9 : decode prog_12_method_30_code 9 = .ok (.bipush 40, 2) := by decide +kernel
theorem d_RM_named_11 : decode prog_12_method_30_code 11 = .ok (.if_icmp .ne 44, 3) := by decide +kernel
theorem d_RM_named_14 : decode prog_12_method_30_code 14 = .ok (.aload_n 0, 1) := by decide +kernel
theorem d_RM_named_15 : decode prog_12_method_30_code 15 = .ok (.bipush 7, 2) := by decide +kernel
theorem d_RM_named_17 : decode prog_12_method_30_code 17 = .ok (.iload_n 1, 1) := by decide +kernel
theorem d_RM_named_18 : decode prog_12_method_30_code 18 = .ok (.iconst 0, 1) := by decide +kernel
theorem d_RM_named_19 : decode prog_12_method_30_code 19 = .ok (.invokevirtual 172, 3) := by decide +kernel
theorem d_RM_named_22 : decode prog_12_method_30_code 22 = .ok (.istore 4, 2) := by decide +kernel
theorem d_RM_named_24 : decode prog_12_method_30_code 24 = .ok (.aload_n 0, 1) := by decide +kernel
theorem d_RM_named_25 : decode prog_12_method_30_code 25 = .ok (.iload 4, 2) := by decide +kernel
theorem d_RM_named_27 : decode prog_12_method_30_code 27 = .ok (.aload_n 0, 1) := by decide +kernel
theorem d_RM_named_28 : decode prog_12_method_30_code 28 = .ok (.bipush 33, 2) := by decide +kernel
theorem d_RM_named_30 : decode prog_12_method_30_code 30 = .ok (.iload_n 1, 1) := by decide +kernel
theorem d_RM_named_31 : decode prog_12_method_30_code 31 = .ok (.iconst 0, 1) := by decide +kernel
theorem d_RM_named_32 : decode prog_12_method_30_code 32 = .ok (.invokevirtual 172, 3) := by decide +kernel
theorem d_RM_named_35 : decode prog_12_method_30_code 35 = .ok (.invokevirtual 185, 3) := by decide +kernel
theorem d_RM_named_38 : decode prog_12_method_30_code 38 = .ok (.aload_n 0, 1) := by decide +kernel
theorem d_RM_named_39 : decode prog_12_method_30_code 39 = .ok (.iload 4, 2) := by decide +kernel
theorem d_RM_named_41 : decode prog_12_method_30_code 41 = .ok (.iload_n 3, 1) := by decide +kernel
theorem d_RM_named_42 : decode prog_12_method_30_code 42 = .ok (.invokevirtual 185, 3) := by decide +kernel
theorem d_RM_named_45 : decode prog_12_method_30_code 45 = .ok (.aload_n 0, 1) := by decide +kernel
theorem d_RM_named_46 : decode prog_12_method_30_code 46 = .ok (.iload 4, 2) := by decide +kernel
theorem d_RM_named_48 : decode prog_12_method_30_code 48 = .ok (.iload_n 2, 1) := by decide +kernel
theorem d_RM_named_49 : decode prog_12_method_30_code 49 = .ok (.invokevirtual 220, 3) := by decide +kernel
theorem d_RM_named_52 : decode prog_12_method_30_code 52 = .ok (.iload 4, 2) := by decide +kernel
theorem d_RM_named_54 : decode prog_12_method_30_code 54 = .ok (.ireturn, 1) := by decide +kernel
theorem d_RM_named_55 : decode prog_12_method_30_code 55 = .ok (.aload_n 0, 1) := by decide +kernel
theorem d_RM_named_56 : decode prog_12_method_30_code 56 = .ok (.invokevirtual 162, 3) := by decide +kernel
theorem d_RM_named_59 : decode prog_12_method_30_code 59 = .ok (.bipush 91, 2) := by decide +kernel
theorem d_RM_named_61 : decode prog_12_method_30_code 61 = .ok (.if_icmp .ne 89, 3) := by decide +kernel
theorem d_RM_named_64 : decode prog_12_method_30_code 64 = .ok (.aload_n 0, 1) := by decide +kernel
theorem d_RM_named_65 : decode prog_12_method_30_code 65 = .ok (.bipush 6, 2) := by decide +kernel
theorem d_RM_named_67 : decode prog_12_method_30_code 67 = .ok (.iload_n 1, 1) := by decide +kernel
theorem d_RM_named_68 : decode prog_12_method_30_code 68 = .ok (.iconst 0, 1) := by decide +kernel
theorem d_RM_named_69 : decode prog_12_method_30_code 69 = .ok (.invokevirtual 172, 3) := by decide +kernel
theorem d_RM_named_72 : decode prog_12_method_30_code 72 = .ok (.istore 4, 2) := by decide +kernel
theorem d_RM_named_74 : decode prog_12_method_30_code 74 = .ok (.aload_n 0, 1) := by decide +kernel
theorem d_RM_named_75 : decode prog_12_method_30_code 75 = .ok (.iload 4, 2) := by decide +kernel
theorem d_RM_named_77 : decode prog_12_method_30_code 77 = .ok (.iload_n 3, 1) := by decide +kernel
theorem d_RM_named_78 : decode prog_12_method_30_code 78 = .ok (.invokevirtual 185, 3) := by decide +kernel
theorem d_RM_named_81 : decode prog_12_method_30_code 81 = .ok (.aload_n 0, 1) := by decide +kernel
theorem d_RM_named_82 : decode prog_12_method_30_code 82 = .ok (.bipush 91, 2) := by decide +kernel
theorem d_RM_named_84 : decode prog_12_method_30_code 84 = .ok (.invokevirtual 176, 3) := by decide +kernel
theorem d_RM_named_87 : decode prog_12_method_30_code 87 = .ok (.aload_n 0, 1) := by decide +kernel
theorem d_RM_named_88 : decode prog_12_method_30_code 88 = .ok (.iload 4, 2) := by decide +kernel
theorem d_RM_named_90 : decode prog_12_method_30_code 90 = .ok (.aload_n 0, 1) := by decide +kernel
theorem d_RM_named_91 : decode prog_12_method_30_code 91 = .ok (.getfield 155, 3) := by decide +kernel
theorem d_RM_named_94 : decode prog_12_method_30_code 94 = .ok (.ifCond .eq 7, 3) := by decide +kernel
theorem d_RM_named_97 : decode prog_12_method_30_code 97 = .ok (.iconst (-1), 1) := by decide +kernel
theorem d_RM_named_98 : decode prog_12_method_30_code 98 = .ok (.goto 10, 3) := by decide +kernel
theorem d_RM_named_101 : decode prog_12_method_30_code 101 = .ok (.aload_n 0, 1) := by decide +kernel
theorem d_RM_named_102 : decode prog_12_method_30_code 102 = .ok (.iload_n 2, 1) := by decide +kernel
theorem d_RM_named_103 : decode prog_12_method_30_code 103 = .ok (.iconst 1, 1) := by decide +kernel
theorem d_RM_named_104 : decode prog_12_method_30_code 104 = .ok (.iadd, 1) := by decide +kernel
theorem d_RM_named_105 : decode prog_12_method_30_code 105 = .ok (.invokevirtual 199, 3) := by decide +kernel
theorem d_RM_named_108 : decode prog_12_method_30_code 108 = .ok (.invokevirtual 185, 3) := by decide +kernel
theorem d_RM_named_111 : decode prog_12_method_30_code 111 = .ok (.aload_n 0, 1) := by decide +kernel
theorem d_RM_named_112 : decode prog_12_method_30_code 112 = .ok (.bipush 93, 2) := by decide +kernel
theorem d_RM_named_114 : decode prog_12_method_30_code 114 = .ok (.invokevirtual 176, 3) := by decide +kernel
theorem d_RM_named_117 : decode prog_12_method_30_code 117 = .ok (.aload_n 0, 1) := by decide +kernel
theorem d_RM_named_118 : decode prog_12_method_30_code 118 = .ok (.bipush 61, 2) := by decide +kernel
theorem d_RM_named_120 : decode prog_12_method_30_code 120 = .ok (.invokevirtual 176, 3) := by decide +kernel
theorem d_RM_named_123 : decode prog_12_method_30_code 123 = .ok (.aload_n 0, 1) := by decide +kernel
theorem d_RM_named_124 : decode prog_12_method_30_code 124 = .ok (.iload 4, 2) := by decide +kernel
theorem d_RM_named_126 : decode prog_12_method_30_code 126 = .ok (.aload_n 0, 1) := by decide +kernel
theorem d_RM_named_127 : decode prog_12_method_30_code 127 = .ok (.getfield 155, 3) := by decide +kernel
theorem d_RM_named_130 : decode prog_12_method_30_code 130 = .ok (.ifCond .eq 7, 3) := by decide +kernel
theorem d_RM_named_133 : decode prog_12_method_30_code 133 = .ok (.iconst (-1), 1) := by decide +kernel
theorem d_RM_named_134 : decode prog_12_method_30_code 134 = .ok (.goto 10, 3) := by decide +kernel
theorem d_RM_named_137 : decode prog_12_method_30_code 137 = .ok (.aload_n 0, 1) := by decide +kernel
theorem d_RM_named_138 : decode prog_12_method_30_code 138 = .ok (.iload_n 2, 1) := by decide +kernel
theorem d_RM_named_139 : decode prog_12_method_30_code 139 = .ok (.iconst 1, 1) := by decide +kernel
theorem d_RM_named_140 : decode prog_12_method_30_code 140 = .ok (.iadd, 1) := by decide +kernel
theorem d_RM_named_141 : decode prog_12_method_30_code 141 = .ok (.invokevirtual 199, 3) := by decide +kernel
theorem d_RM_named_144 : decode prog_12_method_30_code 144 = .ok (.invokevirtual 185, 3) := by decide +kernel
theorem d_RM_named_147 : decode prog_12_method_30_code 147 = .ok (.iload 4, 2) := by decide +kernel
theorem d_RM_named_149 : decode prog_12_method_30_code 149 = .ok (.ireturn, 1) := by decide +kernel
theorem d_RM_named_150 : decode prog_12_method_30_code 150 = .ok (.aload_n 0, 1) := by decide +kernel
theorem d_RM_named_151 : decode prog_12_method_30_code 151 = .ok (.bipush 61, 2) := by decide +kernel
theorem d_RM_named_153 : decode prog_12_method_30_code 153 = .ok (.invokevirtual 176, 3) := by decide +kernel
theorem d_RM_named_156 : decode prog_12_method_30_code 156 = .ok (.aload_n 0, 1) := by decide +kernel
theorem d_RM_named_157 : decode prog_12_method_30_code 157 = .ok (.invokevirtual 162, 3) := by decide +kernel
theorem d_RM_named_160 : decode prog_12_method_30_code 160 = .ok (.iconst 2, 1) := by decide +kernel
theorem d_RM_named_161 : decode prog_12_method_30_code 161 = .ok (.if_icmp .ne 56, 3) := by decide +kernel
theorem d_RM_named_164 : decode prog_12_method_30_code 164 = .ok (.aload_n 0, 1) := by decide +kernel
theorem d_RM_named_165 : decode prog_12_method_30_code 165 = .ok (.getfield 19, 3) := by decide +kernel
theorem d_RM_named_168 : decode prog_12_method_30_code 168 = .ok (.aload_n 0, 1) := by decide +kernel
theorem d_RM_named_169 : decode prog_12_method_30_code 169 = .ok (.getfield 159, 3) := by decide +kernel
theorem d_RM_named_172 : decode prog_12_method_30_code 172 = .ok (.iconst 1, 1) := by decide +kernel
theorem d_RM_named_173 : decode prog_12_method_30_code 173 = .ok (.iadd, 1) := by decide +kernel
theorem d_RM_named_174 : decode prog_12_method_30_code 174 = .ok (.iaload, 1) := by decide +kernel
theorem d_RM_named_175 : decode prog_12_method_30_code 175 = .ok (.bipush 40, 2) := by decide +kernel
theorem d_RM_named_177 : decode prog_12_method_30_code 177 = .ok (.if_icmp .ne 40, 3) := by decide +kernel
theorem d_RM_named_180 : decode prog_12_method_30_code 180 = .ok (.aload_n 0, 1) := by decide +kernel
theorem d_RM_named_181 : decode prog_12_method_30_code 181 = .ok (.bipush 7, 2) := by decide +kernel
theorem d_RM_named_183 : decode prog_12_method_30_code 183 = .ok (.iload_n 1, 1) := by decide +kernel
theorem d_RM_named_184 : decode prog_12_method_30_code 184 = .ok (.iconst 0, 1) := by decide +kernel
theorem d_RM_named_185 : decode prog_12_method_30_code 185 = .ok (.invokevirtual 172, 3) := by decide +kernel
theorem d_RM_named_188 : decode prog_12_method_30_code 188 = .ok (.istore 4, 2) := by decide +kernel
theorem d_RM_named_190 : decode prog_12_method_30_code 190 = .ok (.aload_n 0, 1) := by decide +kernel
theorem d_RM_named_191 : decode prog_12_method_30_code 191 = .ok (.iload 4, 2) := by decide +kernel
theorem d_RM_named_193 : decode prog_12_method_30_code 193 = .ok (.iload_n 3, 1) := by decide +kernel
theorem d_RM_named_194 : decode prog_12_method_30_code 194 = .ok (.invokevirtual 185, 3) := by decide +kernel
theorem d_RM_named_197 : decode prog_12_method_30_code 197 = .ok (.aload_n 0, 1) := by decide +kernel
theorem d_RM_named_198 : decode prog_12_method_30_code 198 = .ok (.iload 4, 2) := by decide +kernel
theorem d_RM_named_200 : decode prog_12_method_30_code 200 = .ok (.aload_n 0, 1) := by decide +kernel
theorem d_RM_named_201 : decode prog_12_method_30_code 201 = .ok (.invokevirtual 196, 3) := by decide +kernel
theorem d_RM_named_204 : decode prog_12_method_30_code 204 = .ok (.invokevirtual 185, 3) := by decide +kernel
theorem d_RM_named_207 : decode prog_12_method_30_code 207 = .ok (.aload_n 0, 1) := by decide +kernel
theorem d_RM_named_208 : decode prog_12_method_30_code 208 = .ok (.iload 4, 2) := by decide +kernel
theorem d_RM_named_210 : decode prog_12_method_30_code 210 = .ok (.iload_n 2, 1) := by decide +kernel
theorem d_RM_named_211 : decode prog_12_method_30_code 211 = .ok (.invokevirtual 220, 3) := by decide +kernel
theorem d_RM_named_214 : decode prog_12_method_30_code 214 = .ok (.iload 4, 2) := by decide +kernel
theorem d_RM_named_216 : decode prog_12_method_30_code 216 = .ok (.ireturn, 1) := by decide +kernel
theorem d_RM_named_217 : decode prog_12_method_30_code 217 = .ok (.aload_n 0, 1) := by decide +kernel
theorem d_RM_named_218 : decode prog_12_method_30_code 218 = .ok (.iconst 5, 1) := by decide +kernel
theorem d_RM_named_219 : decode prog_12_method_30_code 219 = .ok (.iload_n 1, 1) := by decide +kernel
theorem d_RM_named_220 : decode prog_12_method_30_code 220 = .ok (.iconst 0, 1) := by decide +kernel
theorem d_RM_named_221 : decode prog_12_method_30_code 221 = .ok (.invokevirtual 172, 3) := by decide +kernel
theorem d_RM_named_224 : decode prog_12_method_30_code 224 = .ok (.istore 4, 2) := by decide +kernel
theorem d_RM_named_226 : decode prog_12_method_30_code 226 = .ok (.aload_n 0, 1) := by decide +kernel
theorem d_RM_named_227 : decode prog_12_method_30_code 227 = .ok (.iload 4, 2) := by decide +kernel
theorem d_RM_named_229 : decode prog_12_method_30_code 229 = .ok (.iload_n 3, 1) := by decide +kernel
theorem d_RM_named_230 : decode prog_12_method_30_code 230 = .ok (.invokevirtual 185, 3) := by decide +kernel
theorem d_RM_named_233 : decode prog_12_method_30_code 233 = .ok (.aload_n 0, 1) := by decide +kernel
theorem d_RM_named_234 : decode prog_12_method_30_code 234 = .ok (.iload 4, 2) := by decide +kernel
theorem d_RM_named_236 : decode prog_12_method_30_code 236 = .ok (.aload_n 0, 1) := by decide +kernel
theorem d_RM_named_237 : decode prog_12_method_30_code 237 = .ok (.getfield 155, 3) := by decide +kernel
theorem d_RM_named_240 : decode prog_12_method_30_code 240 = .ok (.ifCond .eq 7, 3) := by decide +kernel
theorem d_RM_named_243 : decode prog_12_method_30_code 243 = .ok (.iconst (-1), 1) := by decide +kernel
theorem d_RM_named_244 : decode prog_12_method_30_code 244 = .ok (.goto 10, 3) := by decide +kernel
theorem d_RM_named_247 : decode prog_12_method_30_code 247 = .ok (.aload_n 0, 1) := by decide +kernel
theorem d_RM_named_248 : decode prog_12_method_30_code 248 = .ok (.iload_n 2, 1) := by decide +kernel
theorem d_RM_named_249 : decode prog_12_method_30_code 249 = .ok (.iconst 1, 1) := by decide +kernel
theorem d_RM_named_250 : decode prog_12_method_30_code 250 = .ok (.iadd, 1) := by decide +kernel
theorem d_RM_named_251 : decode prog_12_method_30_code 251 = .ok (.invokevirtual 199, 3) := by decide +kernel
theorem d_RM_named_254 : decode prog_12_method_30_code 254 = .ok (.invokevirtual 185, 3) := by decide +kernel
theorem d_RM_named_257 : decode prog_12_method_30_code 257 = .ok (.iload 4, 2) := by decide +kernel
theorem d_RM_named_259 : decode prog_12_method_30_code 259 = .ok (.ireturn, 1) := by decide +kernel
