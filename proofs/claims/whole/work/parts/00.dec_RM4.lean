theorem d_RM_function_0 : decode prog_12_method_31_code 0 = .ok (.aload_n 0, 1) := by decide +kernel
theorem d_RM_function_1 : decode prog_12_method_31_code 1 = .ok (.iconst 1, 1) := by decide +kernel
theorem d_RM_function_2 : decode prog_12_method_31_code 2 = .ok (.aload_n 0, 1) := by decide +kernel
theorem d_RM_function_3 : decode prog_12_method_31_code 3 = .ok (.getfield 22, 3) := by decide +kernel
theorem d_RM_function_6 : decode prog_12_method_31_code 6 = .ok (.aload_n 0, 1) := by decide +kernel
theorem d_RM_function_7 : decode prog_12_method_31_code 7 = .ok (.getfield 159, 3) := by decide +kernel
theorem d_RM_function_10 : decode prog_12_method_31_code 10 = .ok (.iaload, 1) := by decide +kernel
theorem d_RM_function_11 : decode prog_12_method_31_code 11 = .ok (.iconst 0, 1) := by decide +kernel
theorem d_RM_function_12 : decode prog_12_method_31_code 12 = .ok (.invokevirtual 172, 3) := by decide +kernel
theorem d_RM_function_15 : decode prog_12_method_31_code 15 = .ok (.istore_n 1, 1) := by decide +kernel
theorem d_RM_function_16 : decode prog_12_method_31_code 16 = .ok (.aload_n 0, 1) := by decide +kernel
theorem d_RM_function_17 : decode prog_12_method_31_code 17 = .ok (.sipush 300, 3) := by decide +kernel
theorem d_RM_function_20 : decode prog_12_method_31_code 20 = .ok (.invokevirtual 176, 3) := by decide +kernel
theorem d_RM_function_23 : decode prog_12_method_31_code 23 = .ok (.aload_n 0, 1) := by decide +kernel
theorem d_RM_function_24 : decode prog_12_method_31_code 24 = .ok (.iload_n 1, 1) := by decide +kernel
theorem d_RM_function_25 : decode prog_12_method_31_code 25 = .ok (.aload_n 0, 1) := by decide +kernel
theorem d_RM_function_26 : decode prog_12_method_31_code 26 = .ok (.invokevirtual 196, 3) := by decide +kernel
theorem d_RM_function_29 : decode prog_12_method_31_code 29 = .ok (.invokevirtual 185, 3) := by decide +kernel
theorem d_RM_function_32 : decode prog_12_method_31_code 32 = .ok (.aload_n 0, 1) := by decide +kernel
theorem d_RM_function_33 : decode prog_12_method_31_code 33 = .ok (.bipush 40, 2) := by decide +kernel
theorem d_RM_function_35 : decode prog_12_method_31_code 35 = .ok (.invokevirtual 176, 3) := by decide +kernel
theorem d_RM_function_38 : decode prog_12_method_31_code 38 = .ok (.aload_n 0, 1) := by decide +kernel
theorem d_RM_function_39 : decode prog_12_method_31_code 39 = .ok (.invokevirtual 162, 3) := by decide +kernel
theorem d_RM_function_42 : decode prog_12_method_31_code 42 = .ok (.bipush 41, 2) := by decide +kernel
theorem d_RM_function_44 : decode prog_12_method_31_code 44 = .ok (.if_icmp .eq 39, 3) := by decide +kernel
theorem d_RM_function_47 : decode prog_12_method_31_code 47 = .ok (.aload_n 0, 1) := by decide +kernel
theorem d_RM_function_48 : decode prog_12_method_31_code 48 = .ok (.iload_n 1, 1) := by decide +kernel
theorem d_RM_function_49 : decode prog_12_method_31_code 49 = .ok (.aload_n 0, 1) := by decide +kernel
theorem d_RM_function_50 : decode prog_12_method_31_code 50 = .ok (.invokevirtual 196, 3) := by decide +kernel
theorem d_RM_function_53 : decode prog_12_method_31_code 53 = .ok (.invokevirtual 185, 3) := by decide +kernel
theorem d_RM_function_56 : decode prog_12_method_31_code 56 = .ok (.aload_n 0, 1) := by decide +kernel
theorem d_RM_function_57 : decode prog_12_method_31_code 57 = .ok (.invokevirtual 162, 3) := by decide +kernel
theorem d_RM_function_60 : decode prog_12_method_31_code 60 = .ok (.bipush 44, 2) := by decide +kernel
theorem d_RM_function_62 : decode prog_12_method_31_code 62 = .ok (.if_icmp .ne 21, 3) := by decide +kernel
theorem d_RM_function_65 : decode prog_12_method_31_code 65 = .ok (.aload_n 0, 1) := by decide +kernel
theorem d_RM_function_66 : decode prog_12_method_31_code 66 = .ok (.bipush 44, 2) := by decide +kernel
theorem d_RM_function_68 : decode prog_12_method_31_code 68 = .ok (.invokevirtual 176, 3) := by decide +kernel
theorem d_RM_function_71 : decode prog_12_method_31_code 71 = .ok (.aload_n 0, 1) := by decide +kernel
theorem d_RM_function_72 : decode prog_12_method_31_code 72 = .ok (.iload_n 1, 1) := by decide +kernel
theorem d_RM_function_73 : decode prog_12_method_31_code 73 = .ok (.aload_n 0, 1) := by decide +kernel
theorem d_RM_function_74 : decode prog_12_method_31_code 74 = .ok (.invokevirtual 196, 3) := by decide +kernel
theorem d_RM_function_77 : decode prog_12_method_31_code 77 = .ok (.invokevirtual 185, 3) := by decide +kernel
theorem d_RM_function_80 : decode prog_12_method_31_code 80 = .ok (.goto (-24), 3) := by decide +kernel
theorem d_RM_function_83 : decode prog_12_method_31_code 83 = .ok (.aload_n 0, 1) := by decide +kernel
theorem d_RM_function_84 : decode prog_12_method_31_code 84 = .ok (.bipush 41, 2) := by decide +kernel
theorem d_RM_function_86 : decode prog_12_method_31_code 86 = .ok (.invokevirtual 176, 3) := by decide +kernel
theorem d_RM_function_89 : decode prog_12_method_31_code 89 = .ok (.aload_n 0, 1) := by decide +kernel
theorem d_RM_function_90 : decode prog_12_method_31_code 90 = .ok (.iload_n 1, 1) := by decide +kernel
theorem d_RM_function_91 : decode prog_12_method_31_code 91 = .ok (.aload_n 0, 1) := by decide +kernel
theorem d_RM_function_92 : decode prog_12_method_31_code 92 = .ok (.getfield 155, 3) := by decide +kernel
theorem d_RM_function_95 : decode prog_12_method_31_code 95 = .ok (.ifCond .eq 7, 3) := by decide +kernel
theorem d_RM_function_98 : decode prog_12_method_31_code 98 = .ok (.iconst (-1), 1) := by decide +kernel
theorem d_RM_function_99 : decode prog_12_method_31_code 99 = .ok (.goto 8, 3) := by decide +kernel
theorem d_RM_function_102 : decode prog_12_method_31_code 102 = .ok (.aload_n 0, 1) := by decide +kernel
theorem d_RM_function_103 : decode prog_12_method_31_code 103 = .ok (.iconst 1, 1) := by decide +kernel
theorem d_RM_function_104 : decode prog_12_method_31_code 104 = .ok (.invokevirtual 217, 3) := by decide +kernel
theorem d_RM_function_107 : decode prog_12_method_31_code 107 = .ok (.invokevirtual 185, 3) := by decide +kernel
theorem d_RM_function_110 : decode prog_12_method_31_code 110 = .ok (.iload_n 1, 1) := by decide +kernel
theorem d_RM_function_111 : decode prog_12_method_31_code 111 = .ok (.ireturn, 1) := by decide +kernel
theorem d_RM_nameOf_0 : decode prog_12_method_32_code 0 = .ok (.iconst 0, 1) := by decide +kernel
theorem d_RM_nameOf_1 : decode prog_12_method_32_code 1 = .ok (.istore_n 2, 1) := by decide +kernel
theorem d_RM_nameOf_2 : decode prog_12_method_32_code 2 = .ok (.iload_n 2, 1) := by decide +kernel
theorem d_RM_nameOf_3 : decode prog_12_method_32_code 3 = .ok (.aload_n 0, 1) := by decide +kernel
theorem d_RM_nameOf_4 : decode prog_12_method_32_code 4 = .ok (.getfield 223, 3) := by decide +kernel
theorem d_RM_nameOf_7 : decode prog_12_method_32_code 7 = .ok (.if_icmp .ge 106, 3) := by decide +kernel
theorem d_RM_nameOf_10 : decode prog_12_method_32_code 10 = .ok (.aload_n 0, 1) := by decide +kernel
theorem d_RM_nameOf_11 : decode prog_12_method_32_code 11 = .ok (.getfield 74, 3) := by decide +kernel
theorem d_RM_nameOf_14 : decode prog_12_method_32_code 14 = .ok (.iload_n 2, 1) := by decide +kernel
theorem d_RM_nameOf_15 : decode prog_12_method_32_code 15 = .ok (.iconst 1, 1) := by decide +kernel
theorem d_RM_nameOf_16 : decode prog_12_method_32_code 16 = .ok (.iadd, 1) := by decide +kernel
theorem d_RM_nameOf_17 : decode prog_12_method_32_code 17 = .ok (.iaload, 1) := by decide +kernel
theorem d_RM_nameOf_18 : decode prog_12_method_32_code 18 = .ok (.aload_n 0, 1) := by decide +kernel
theorem d_RM_nameOf_19 : decode prog_12_method_32_code 19 = .ok (.getfield 74, 3) := by decide +kernel
theorem d_RM_nameOf_22 : decode prog_12_method_32_code 22 = .ok (.iload_n 2, 1) := by decide +kernel
theorem d_RM_nameOf_23 : decode prog_12_method_32_code 23 = .ok (.iaload, 1) := by decide +kernel
theorem d_RM_nameOf_24 : decode prog_12_method_32_code 24 = .ok (.isub, 1) := by decide +kernel
theorem d_RM_nameOf_25 : decode prog_12_method_32_code 25 = .ok (.aload_n 0, 1) := by decide +kernel
theorem d_RM_nameOf_26 : decode prog_12_method_32_code 26 = .ok (.getfield 25, 3) := by decide +kernel
theorem d_RM_nameOf_29 : decode prog_12_method_32_code 29 = .ok (.iload_n 1, 1) := by decide +kernel
theorem d_RM_nameOf_30 : decode prog_12_method_32_code 30 = .ok (.iaload, 1) := by decide +kernel
theorem d_RM_nameOf_31 : decode prog_12_method_32_code 31 = .ok (.if_icmp .ne 7, 3) := by decide +kernel
theorem d_RM_nameOf_34 : decode prog_12_method_32_code 34 = .ok (.iconst 1, 1) := by decide +kernel
theorem d_RM_nameOf_35 : decode prog_12_method_32_code 35 = .ok (.goto 4, 3) := by decide +kernel
theorem d_RM_nameOf_38 : decode prog_12_method_32_code 38 = .ok (.iconst 0, 1) := by decide +kernel
theorem d_RM_nameOf_39 : decode prog_12_method_32_code 39 = .ok (.istore_n 3, 1) := by decide +kernel
theorem d_RM_nameOf_40 : decode prog_12_method_32_code 40 = .ok (.iconst 0, 1) := by decide +kernel
theorem d_RM_nameOf_41 : decode prog_12_method_32_code 41 = .ok (.istore 4, 2) := by decide +kernel
theorem d_RM_nameOf_43 : decode prog_12_method_32_code 43 = .ok (.iload 4, 2) := by decide +kernel
theorem d_RM_nameOf_45 : decode prog_12_method_32_code 45 = .ok (.aload_n 0, 1) := by decide +kernel
theorem d_RM_nameOf_46 : decode prog_12_method_32_code 46 = .ok (.getfield 25, 3) := by decide +kernel
theorem d_RM_nameOf_49 : decode prog_12_method_32_code 49 = .ok (.iload_n 1, 1) := by decide +kernel
theorem d_RM_nameOf_50 : decode prog_12_method_32_code 50 = .ok (.iaload, 1) := by decide +kernel
theorem d_RM_nameOf_51 : decode prog_12_method_32_code 51 = .ok (.if_icmp .ge 50, 3) := by decide +kernel
theorem d_RM_nameOf_54 : decode prog_12_method_32_code 54 = .ok (.iload_n 3, 1) := by decide +kernel
theorem d_RM_nameOf_55 : decode prog_12_method_32_code 55 = .ok (.ifCond .eq 46, 3) := by decide +kernel
theorem d_RM_nameOf_58 : decode prog_12_method_32_code 58 = .ok (.aload_n 0, 1) := by decide +kernel
theorem d_RM_nameOf_59 : decode prog_12_method_32_code 59 = .ok (.getfield 71, 3) := by decide +kernel
theorem d_RM_nameOf_62 : decode prog_12_method_32_code 62 = .ok (.aload_n 0, 1) := by decide +kernel
theorem d_RM_nameOf_63 : decode prog_12_method_32_code 63 = .ok (.getfield 74, 3) := by decide +kernel
theorem d_RM_nameOf_66 : decode prog_12_method_32_code 66 = .ok (.iload_n 2, 1) := by decide +kernel
theorem d_RM_nameOf_67 : decode prog_12_method_32_code 67 = .ok (.iaload, 1) := by decide +kernel
theorem d_RM_nameOf_68 : decode prog_12_method_32_code 68 = .ok (.iload 4, 2) := by decide +kernel
theorem d_RM_nameOf_70 : decode prog_12_method_32_code 70 = .ok (.iadd, 1) := by decide +kernel
theorem d_RM_nameOf_71 : decode prog_12_method_32_code 71 = .ok (.iaload, 1) := by decide +kernel
theorem d_RM_nameOf_72 : decode prog_12_method_32_code 72 = .ok (.aload_n 0, 1) := by decide +kernel
theorem d_RM_nameOf_73 : decode prog_12_method_32_code 73 = .ok (.getfield 9, 3) := by decide +kernel
theorem d_RM_nameOf_76 : decode prog_12_method_32_code 76 = .ok (.aload_n 0, 1) := by decide +kernel
theorem d_RM_nameOf_77 : decode prog_12_method_32_code 77 = .ok (.getfield 22, 3) := by decide +kernel
theorem d_RM_nameOf_80 : decode prog_12_method_32_code 80 = .ok (.iload_n 1, 1) := by decide +kernel
theorem d_RM_nameOf_81 : decode prog_12_method_32_code 81 = .ok (.iaload, 1) := by decide +kernel
theorem d_RM_nameOf_82 : decode prog_12_method_32_code 82 = .ok (.iload 4, 2) := by decide +kernel
theorem d_RM_nameOf_84 : decode prog_12_method_32_code 84 = .ok (.iadd, 1) := by decide +kernel
theorem d_RM_nameOf_85 : decode prog_12_method_32_code 85 = .ok (.iaload, 1) := by decide +kernel
theorem d_RM_nameOf_86 : decode prog_12_method_32_code 86 = .ok (.if_icmp .ne 7, 3) := by decide +kernel
theorem d_RM_nameOf_89 : decode prog_12_method_32_code 89 = .ok (.iconst 1, 1) := by decide +kernel
theorem d_RM_nameOf_90 : decode prog_12_method_32_code 90 = .ok (.goto 4, 3) := by decide +kernel
theorem d_RM_nameOf_93 : decode prog_12_method_32_code 93 = .ok (.iconst 0, 1) := by decide +kernel
theorem d_RM_nameOf_94 : decode prog_12_method_32_code 94 = .ok (.istore_n 3, 1) := by decide +kernel
theorem d_RM_nameOf_95 : decode prog_12_method_32_code 95 = .ok (.iinc 4 1, 3) := by decide +kernel
theorem d_RM_nameOf_98 : decode prog_12_method_32_code 98 = .ok (.goto (-55), 3) := by decide +kernel
theorem d_RM_nameOf_101 : decode prog_12_method_32_code 101 = .ok (.iload_n 3, 1) := by decide +kernel
theorem d_RM_nameOf_102 : decode prog_12_method_32_code 102 = .ok (.ifCond .eq 5, 3) := by decide +kernel
theorem d_RM_nameOf_105 : decode prog_12_method_32_code 105 = .ok (.iload_n 2, 1) := by decide +kernel
theorem d_RM_nameOf_106 : decode prog_12_method_32_code 106 = .ok (.ireturn, 1) := by decide +kernel
theorem d_RM_nameOf_107 : decode prog_12_method_32_code 107 = .ok (.iinc 2 1, 3) := by decide +kernel
theorem d_RM_nameOf_110 : decode prog_12_method_32_code 110 = .ok (.goto (-108), 3) := by decide +kernel
theorem d_RM_nameOf_113 : decode prog_12_method_32_code 113 = .ok (.iconst 0, 1) := by decide +kernel
theorem d_RM_nameOf_114 : decode prog_12_method_32_code 114 = .ok (.istore_n 2, 1) := by decide +kernel
theorem d_RM_nameOf_115 : decode prog_12_method_32_code 115 = .ok (.iload_n 2, 1) := by decide +kernel
theorem d_RM_nameOf_116 : decode prog_12_method_32_code 116 = .ok (.aload_n 0, 1) := by decide +kernel
theorem d_RM_nameOf_117 : decode prog_12_method_32_code 117 = .ok (.getfield 25, 3) := by decide +kernel
theorem d_RM_nameOf_120 : decode prog_12_method_32_code 120 = .ok (.iload_n 1, 1) := by decide +kernel
theorem d_RM_nameOf_121 : decode prog_12_method_32_code 121 = .ok (.iaload, 1) := by decide +kernel
theorem d_RM_nameOf_122 : decode prog_12_method_32_code 122 = .ok (.if_icmp .ge 38, 3) := by decide +kernel
theorem d_RM_nameOf_125 : decode prog_12_method_32_code 125 = .ok (.aload_n 0, 1) := by decide +kernel
theorem d_RM_nameOf_126 : decode prog_12_method_32_code 126 = .ok (.getfield 71, 3) := by decide +kernel
theorem d_RM_nameOf_129 : decode prog_12_method_32_code 129 = .ok (.aload_n 0, 1) := by decide +kernel
theorem d_RM_nameOf_130 : decode prog_12_method_32_code 130 = .ok (.getfield 74, 3) := by decide +kernel
theorem d_RM_nameOf_133 : decode prog_12_method_32_code 133 = .ok (.aload_n 0, 1) := by decide +kernel
theorem d_RM_nameOf_134 : decode prog_12_method_32_code 134 = .ok (.getfield 223, 3) := by decide +kernel
theorem d_RM_nameOf_137 : decode prog_12_method_32_code 137 = .ok (.iaload, 1) := by decide +kernel
theorem d_RM_nameOf_138 : decode prog_12_method_32_code 138 = .ok (.iload_n 2, 1) := by decide +kernel
theorem d_RM_nameOf_139 : decode prog_12_method_32_code 139 = .ok (.iadd, 1) := by decide +kernel
theorem d_RM_nameOf_140 : decode prog_12_method_32_code 140 = .ok (.aload_n 0, 1) := by decide +kernel
theorem d_RM_nameOf_141 : decode prog_12_method_32_code 141 = .ok (.getfield 9, 3) := by decide +kernel
theorem d_RM_nameOf_144 : decode prog_12_method_32_code 144 = .ok (.aload_n 0, 1) := by decide +kernel
theorem d_RM_nameOf_145 : decode prog_12_method_32_code 145 = .ok (.getfield 22, 3) := by decide +kernel
theorem d_RM_nameOf_148 : decode prog_12_method_32_code 148 = .ok (.iload_n 1, 1) := by decide +kernel
theorem d_RM_nameOf_149 : decode prog_12_method_32_code 149 = .ok (.iaload, 1) := by decide +kernel
theorem d_RM_nameOf_150 : decode prog_12_method_32_code 150 = .ok (.iload_n 2, 1) := by decide +kernel
theorem d_RM_nameOf_151 : decode prog_12_method_32_code 151 = .ok (.iadd, 1) := by decide +kernel
theorem d_RM_nameOf_152 : decode prog_12_method_32_code 152 = .ok (.iaload, 1) := by decide +kernel
theorem d_RM_nameOf_153 : decode prog_12_method_32_code 153 = .ok (.iastore, 1) := by decide +kernel
theorem d_RM_nameOf_154 : decode prog_12_method_32_code 154 = .ok (.iinc 2 1, 3) := by decide +kernel
theorem d_RM_nameOf_157 : decode prog_12_method_32_code 157 = .ok (.goto (-42), 3) := by decide +kernel
theorem d_RM_nameOf_160 : decode prog_12_method_32_code 160 = .ok (.aload_n 0, 1) := by decide +kernel
theorem d_RM_nameOf_161 : decode prog_12_method_32_code 161 = .ok (.dup, 1) := by decide +kernel
theorem d_RM_nameOf_162 : decode prog_12_method_32_code 162 = .ok (.getfield 223, 3) := by decide +kernel
theorem d_RM_nameOf_165 : decode prog_12_method_32_code 165 = .ok (.iconst 1, 1) := by decide +kernel
theorem d_RM_nameOf_166 : decode prog_12_method_32_code 166 = .ok (.iadd, 1) := by decide +kernel
theorem d_RM_nameOf_167 : decode prog_12_method_32_code 167 = .ok (.putfield 223, 3) := by decide +kernel
theorem d_RM_nameOf_170 : decode prog_12_method_32_code 170 = .ok (.aload_n 0, 1) := by decide +kernel
theorem d_RM_nameOf_171 : decode prog_12_method_32_code 171 = .ok (.getfield 74, 3) := by decide +kernel
theorem d_RM_nameOf_174 : decode prog_12_method_32_code 174 = .ok (.aload_n 0, 1) := by decide +kernel
theorem d_RM_nameOf_175 : decode prog_12_method_32_code 175 = .ok (.getfield 223, 3) := by decide +kernel
theorem d_RM_nameOf_178 : decode prog_12_method_32_code 178 = .ok (.aload_n 0, 1) := by decide +kernel
theorem d_RM_nameOf_179 : decode prog_12_method_32_code 179 = .ok (.getfield 74, 3) := by decide +kernel
theorem d_RM_nameOf_182 : decode prog_12_method_32_code 182 = .ok (.aload_n 0, 1) := by decide +kernel
theorem d_RM_nameOf_183 : decode prog_12_method_32_code 183 = .ok (.getfield 223, 3) := by decide +kernel
theorem d_RM_nameOf_186 : decode prog_12_method_32_code 186 = .ok (.iconst 1, 1) := by decide +kernel
theorem d_RM_nameOf_187 : decode prog_12_method_32_code 187 = .ok (.isub, 1) := by decide +kernel
theorem d_RM_nameOf_188 : decode prog_12_method_32_code 188 = .ok (.iaload, 1) := by decide +kernel
theorem d_RM_nameOf_189 : decode prog_12_method_32_code 189 = .ok (.aload_n 0, 1) := by decide +kernel
theorem d_RM_nameOf_190 : decode prog_12_method_32_code 190 = .ok (.getfield 25, 3) := by decide +kernel
theorem d_RM_nameOf_193 : decode prog_12_method_32_code 193 = .ok (.iload_n 1, 1) := by decide +kernel
theorem d_RM_nameOf_194 : decode prog_12_method_32_code 194 = .ok (.iaload, 1) := by decide +kernel
theorem d_RM_nameOf_195 : decode prog_12_method_32_code 195 = .ok (.iadd, 1) := by decide +kernel
theorem d_RM_nameOf_196 : decode prog_12_method_32_code 196 = .ok (.iastore, 1) := by decide +kernel
theorem d_RM_nameOf_197 : decode prog_12_method_32_code 197 = .ok (.aload_n 0, 1) := by decide +kernel
theorem d_RM_nameOf_198 : decode prog_12_method_32_code 198 = .ok (.getfield 223, 3) := by decide +kernel
theorem d_RM_nameOf_201 : decode prog_12_method_32_code 201 = .ok (.iconst 1, 1) := by decide +kernel
theorem d_RM_nameOf_202 : decode prog_12_method_32_code 202 = .ok (.isub, 1) := by decide +kernel
theorem d_RM_nameOf_203 : decode prog_12_method_32_code 203 = .ok (.ireturn, 1) := by decide +kernel
theorem d_RM_keep_0 : decode prog_12_method_33_code 0 = .ok (.iconst 0, 1) := by decide +kernel
theorem d_RM_keep_1 : decode prog_12_method_33_code 1 = .ok (.istore_n 3, 1) := by decide +kernel
theorem d_RM_keep_2 : decode prog_12_method_33_code 2 = .ok (.iload_n 2, 1) := by decide +kernel
theorem d_RM_keep_3 : decode prog_12_method_33_code 3 = .ok (.istore 4, 2) := by decide +kernel
theorem d_RM_keep_5 : decode prog_12_method_33_code 5 = .ok (.iconst 0, 1) := by decide +kernel
theorem d_RM_keep_6 : decode prog_12_method_33_code 6 = .ok (.istore 5, 2) := by decide +kernel
theorem d_RM_keep_8 : decode prog_12_method_33_code 8 = .ok (.iload 4, 2) := by decide +kernel
theorem d_RM_keep_10 : decode prog_12_method_33_code 10 = .ok (.iconst (-1), 1) := by decide +kernel
theorem d_RM_keep_11 : decode prog_12_method_33_code 11 = .ok (.if_icmp .eq 163, 3) := by decide +kernel
theorem d_RM_keep_14 : decode prog_12_method_33_code 14 = .ok (.aload_n 0, 1) := by decide +kernel
theorem d_RM_keep_15 : decode prog_12_method_33_code 15 = .ok (.iload_n 1, 1) := by decide +kernel
theorem d_RM_keep_16 : decode prog_12_method_33_code 16 = .ok (.aload_n 0, 1) := by decide +kernel
theorem d_RM_keep_17 : decode prog_12_method_33_code 17 = .ok (.getfield 32, 3) := by decide +kernel
theorem d_RM_keep_20 : decode prog_12_method_33_code 20 = .ok (.iload 4, 2) := by decide +kernel
theorem d_RM_keep_22 : decode prog_12_method_33_code 22 = .ok (.iaload, 1) := by decide +kernel
theorem d_RM_keep_23 : decode prog_12_method_33_code 23 = .ok (.aload_n 0, 1) := by decide +kernel
theorem d_RM_keep_24 : decode prog_12_method_33_code 24 = .ok (.getfield 35, 3) := by decide +kernel
theorem d_RM_keep_27 : decode prog_12_method_33_code 27 = .ok (.iload 4, 2) := by decide +kernel
theorem d_RM_keep_29 : decode prog_12_method_33_code 29 = .ok (.iaload, 1) := by decide +kernel
theorem d_RM_keep_30 : decode prog_12_method_33_code 30 = .ok (.aload_n 0, 1) := by decide +kernel
theorem d_RM_keep_31 : decode prog_12_method_33_code 31 = .ok (.getfield 32, 3) := by decide +kernel
theorem d_RM_keep_34 : decode prog_12_method_33_code 34 = .ok (.iload 4, 2) := by decide +kernel
theorem d_RM_keep_36 : decode prog_12_method_33_code 36 = .ok (.iaload, 1) := by decide +kernel
theorem d_RM_keep_37 : decode prog_12_method_33_code 37 = .ok (.bipush 13, 2) := by decide +kernel
theorem d_RM_keep_39 : decode prog_12_method_33_code 39 = .ok (.if_icmp .ne 17, 3) := by decide +kernel
theorem d_RM_keep_42 : decode prog_12_method_33_code 42 = .ok (.aload_n 0, 1) := by decide +kernel
theorem d_RM_keep_43 : decode prog_12_method_33_code 43 = .ok (.aload_n 0, 1) := by decide +kernel
theorem d_RM_keep_44 : decode prog_12_method_33_code 44 = .ok (.getfield 38, 3) := by decide +kernel
theorem d_RM_keep_47 : decode prog_12_method_33_code 47 = .ok (.iload 4, 2) := by decide +kernel
theorem d_RM_keep_49 : decode prog_12_method_33_code 49 = .ok (.iaload, 1) := by decide +kernel
theorem d_RM_keep_50 : decode prog_12_method_33_code 50 = .ok (.invokevirtual 226, 3) := by decide +kernel
theorem d_RM_keep_53 : decode prog_12_method_33_code 53 = .ok (.goto 10, 3) := by decide +kernel
theorem d_RM_keep_56 : decode prog_12_method_33_code 56 = .ok (.aload_n 0, 1) := by decide +kernel
theorem d_RM_keep_57 : decode prog_12_method_33_code 57 = .ok (.getfield 38, 3) := by decide +kernel
theorem d_RM_keep_60 : decode prog_12_method_33_code 60 = .ok (.iload 4, 2) := by decide +kernel
theorem d_RM_keep_62 : decode prog_12_method_33_code 62 = .ok (.iaload, 1) := by decide +kernel
theorem d_RM_keep_63 : decode prog_12_method_33_code 63 = .ok (.iload 5, 2) := by decide +kernel
theorem d_RM_keep_65 : decode prog_12_method_33_code 65 = .ok (.invokevirtual 103, 3) := by decide +kernel
theorem d_RM_keep_68 : decode prog_12_method_33_code 68 = .ok (.istore 6, 2) := by decide +kernel
theorem d_RM_keep_70 : decode prog_12_method_33_code 70 = .ok (.aload_n 0, 1) := by decide +kernel
theorem d_RM_keep_71 : decode prog_12_method_33_code 71 = .ok (.getfield 47, 3) := by decide +kernel
theorem d_RM_keep_74 : decode prog_12_method_33_code 74 = .ok (.iload 4, 2) := by decide +kernel
theorem d_RM_keep_76 : decode prog_12_method_33_code 76 = .ok (.iaload, 1) := by decide +kernel
theorem d_RM_keep_77 : decode prog_12_method_33_code 77 = .ok (.iconst (-1), 1) := by decide +kernel
theorem d_RM_keep_78 : decode prog_12_method_33_code 78 = .ok (.if_icmp .eq 35, 3) := by decide +kernel
theorem d_RM_keep_81 : decode prog_12_method_33_code 81 = .ok (.iload 4, 2) := by decide +kernel
theorem d_RM_keep_83 : decode prog_12_method_33_code 83 = .ok (.iload_n 2, 1) := by decide +kernel
theorem d_RM_keep_84 : decode prog_12_method_33_code 84 = .ok (.if_icmp .eq 29, 3) := by decide +kernel
theorem d_RM_keep_87 : decode prog_12_method_33_code 87 = .ok (.aload_n 0, 1) := by decide +kernel
theorem d_RM_keep_88 : decode prog_12_method_33_code 88 = .ok (.getfield 50, 3) := by decide +kernel
theorem d_RM_keep_91 : decode prog_12_method_33_code 91 = .ok (.iload_n 3, 1) := by decide +kernel
theorem d_RM_keep_92 : decode prog_12_method_33_code 92 = .ok (.aload_n 0, 1) := by decide +kernel
theorem d_RM_keep_93 : decode prog_12_method_33_code 93 = .ok (.getfield 47, 3) := by decide +kernel
theorem d_RM_keep_96 : decode prog_12_method_33_code 96 = .ok (.iload 4, 2) := by decide +kernel
theorem d_RM_keep_98 : decode prog_12_method_33_code 98 = .ok (.iaload, 1) := by decide +kernel
theorem d_RM_keep_99 : decode prog_12_method_33_code 99 = .ok (.iastore, 1) := by decide +kernel
theorem d_RM_keep_100 : decode prog_12_method_33_code 100 = .ok (.aload_n 0, 1) := by decide +kernel
theorem d_RM_keep_101 : decode prog_12_method_33_code 101 = .ok (.getfield 50, 3) := by decide +kernel
theorem d_RM_keep_104 : decode prog_12_method_33_code 104 = .ok (.iload_n 3, 1) := by decide +kernel
theorem d_RM_keep_105 : decode prog_12_method_33_code 105 = .ok (.iconst 1, 1) := by decide +kernel
theorem d_RM_keep_106 : decode prog_12_method_33_code 106 = .ok (.iadd, 1) := by decide +kernel
theorem d_RM_keep_107 : decode prog_12_method_33_code 107 = .ok (.iload 5, 2) := by decide +kernel
theorem d_RM_keep_109 : decode prog_12_method_33_code 109 = .ok (.iastore, 1) := by decide +kernel
theorem d_RM_keep_110 : decode prog_12_method_33_code 110 = .ok (.iinc 3 2, 3) := by decide +kernel
theorem d_RM_keep_113 : decode prog_12_method_33_code 113 = .ok (.aload_n 0, 1) := by decide +kernel
theorem d_RM_keep_114 : decode prog_12_method_33_code 114 = .ok (.getfield 41, 3) := by decide +kernel
theorem d_RM_keep_117 : decode prog_12_method_33_code 117 = .ok (.iload 4, 2) := by decide +kernel
theorem d_RM_keep_119 : decode prog_12_method_33_code 119 = .ok (.iaload, 1) := by decide +kernel
theorem d_RM_keep_120 : decode prog_12_method_33_code 120 = .ok (.iconst (-1), 1) := by decide +kernel
theorem d_RM_keep_121 : decode prog_12_method_33_code 121 = .ok (.if_icmp .eq 19, 3) := by decide +kernel
theorem d_RM_keep_124 : decode prog_12_method_33_code 124 = .ok (.aload_n 0, 1) := by decide +kernel
theorem d_RM_keep_125 : decode prog_12_method_33_code 125 = .ok (.getfield 41, 3) := by decide +kernel
theorem d_RM_keep_128 : decode prog_12_method_33_code 128 = .ok (.iload 4, 2) := by decide +kernel
theorem d_RM_keep_130 : decode prog_12_method_33_code 130 = .ok (.iaload, 1) := by decide +kernel
theorem d_RM_keep_131 : decode prog_12_method_33_code 131 = .ok (.istore 4, 2) := by decide +kernel
theorem d_RM_keep_133 : decode prog_12_method_33_code 133 = .ok (.iload 6, 2) := by decide +kernel
theorem d_RM_keep_135 : decode prog_12_method_33_code 135 = .ok (.istore 5, 2) := by decide +kernel
theorem d_RM_keep_137 : decode prog_12_method_33_code 137 = .ok (.goto 34, 3) := by decide +kernel
theorem d_RM_keep_140 : decode prog_12_method_33_code 140 = .ok (.iload_n 3, 1) := by decide +kernel
theorem d_RM_keep_141 : decode prog_12_method_33_code 141 = .ok (.ifCond .le 27, 3) := by decide +kernel
theorem d_RM_keep_144 : decode prog_12_method_33_code 144 = .ok (.iinc 3 (-2), 3) := by decide +kernel
theorem d_RM_keep_147 : decode prog_12_method_33_code 147 = .ok (.aload_n 0, 1) := by decide +kernel
theorem d_RM_keep_148 : decode prog_12_method_33_code 148 = .ok (.getfield 50, 3) := by decide +kernel
theorem d_RM_keep_151 : decode prog_12_method_33_code 151 = .ok (.iload_n 3, 1) := by decide +kernel
theorem d_RM_keep_152 : decode prog_12_method_33_code 152 = .ok (.iaload, 1) := by decide +kernel
theorem d_RM_keep_153 : decode prog_12_method_33_code 153 = .ok (.istore 4, 2) := by decide +kernel
theorem d_RM_keep_155 : decode prog_12_method_33_code 155 = .ok (.aload_n 0, 1) := by decide +kernel
theorem d_RM_keep_156 : decode prog_12_method_33_code 156 = .ok (.getfield 50, 3) := by decide +kernel
theorem d_RM_keep_159 : decode prog_12_method_33_code 159 = .ok (.iload_n 3, 1) := by decide +kernel
theorem d_RM_keep_160 : decode prog_12_method_33_code 160 = .ok (.iconst 1, 1) := by decide +kernel
theorem d_RM_keep_161 : decode prog_12_method_33_code 161 = .ok (.iadd, 1) := by decide +kernel
theorem d_RM_keep_162 : decode prog_12_method_33_code 162 = .ok (.iaload, 1) := by decide +kernel
theorem d_RM_keep_163 : decode prog_12_method_33_code 163 = .ok (.istore 5, 2) := by decide +kernel
theorem d_RM_keep_165 : decode prog_12_method_33_code 165 = .ok (.goto 6, 3) := by decide +kernel
theorem d_RM_keep_168 : decode prog_12_method_33_code 168 = .ok (.iconst (-1), 1) := by decide +kernel
theorem d_RM_keep_169 : decode prog_12_method_33_code 169 = .ok (.istore 4, 2) := by decide +kernel
theorem d_RM_keep_171 : decode prog_12_method_33_code 171 = .ok (.goto (-163), 3) := by decide +kernel
theorem d_RM_keep_174 : decode prog_12_method_33_code 174 = .ok (.return_, 1) := by decide +kernel
theorem d_RM_read_0 : decode prog_12_method_34_code 0 = .ok (.iload_n 1, 1) := by decide +kernel
theorem d_RM_read_1 : decode prog_12_method_34_code 1 = .ok (.ifCond .lt 21, 3) := by decide +kernel
theorem d_RM_read_4 : decode prog_12_method_34_code 4 = .ok (.iload_n 1, 1) := by decide +kernel
theorem d_RM_read_5 : decode prog_12_method_34_code 5 = .ok (.iconst 1, 1) := by decide +kernel
theorem d_RM_read_6 : decode prog_12_method_34_code 6 = .ok (.if_icmp .gt 16, 3) := by decide +kernel
theorem d_RM_read_9 : decode prog_12_method_34_code 9 = .ok (.iload_n 2, 1) := by decide +kernel
theorem d_RM_read_10 : decode prog_12_method_34_code 10 = .ok (.iconst (-1), 1) := by decide +kernel
theorem d_RM_read_11 : decode prog_12_method_34_code 11 = .ok (.if_icmp .lt 11, 3) := by decide +kernel
theorem d_RM_read_14 : decode prog_12_method_34_code 14 = .ok (.iload_n 2, 1) := by decide +kernel
theorem d_RM_read_15 : decode prog_12_method_34_code 15 = .ok (.aload_n 0, 1) := by decide +kernel
theorem d_RM_read_16 : decode prog_12_method_34_code 16 = .ok (.getfield 107, 3) := by decide +kernel
theorem d_RM_read_19 : decode prog_12_method_34_code 19 = .ok (.if_icmp .le 6, 3) := by decide +kernel
theorem d_RM_read_22 : decode prog_12_method_34_code 22 = .ok (.bipush (-2), 2) := by decide +kernel
theorem d_RM_read_24 : decode prog_12_method_34_code 24 = .ok (.ireturn, 1) := by decide +kernel
theorem d_RM_read_25 : decode prog_12_method_34_code 25 = .ok (.aload_n 0, 1) := by decide +kernel
theorem d_RM_read_26 : decode prog_12_method_34_code 26 = .ok (.iload_n 2, 1) := by decide +kernel
theorem d_RM_read_27 : decode prog_12_method_34_code 27 = .ok (.iconst (-1), 1) := by decide +kernel
theorem d_RM_read_28 : decode prog_12_method_34_code 28 = .ok (.if_icmp .ne 10, 3) := by decide +kernel
theorem d_RM_read_31 : decode prog_12_method_34_code 31 = .ok (.aload_n 0, 1) := by decide +kernel
theorem d_RM_read_32 : decode prog_12_method_34_code 32 = .ok (.getfield 107, 3) := by decide +kernel
theorem d_RM_read_35 : decode prog_12_method_34_code 35 = .ok (.goto 4, 3) := by decide +kernel
theorem d_RM_read_38 : decode prog_12_method_34_code 38 = .ok (.iload_n 2, 1) := by decide +kernel
theorem d_RM_read_39 : decode prog_12_method_34_code 39 = .ok (.putfield 110, 3) := by decide +kernel
theorem d_RM_read_42 : decode prog_12_method_34_code 42 = .ok (.aload_n 0, 1) := by decide +kernel
theorem d_RM_read_43 : decode prog_12_method_34_code 43 = .ok (.iload_n 1, 1) := by decide +kernel
theorem d_RM_read_44 : decode prog_12_method_34_code 44 = .ok (.invokevirtual 99, 3) := by decide +kernel
theorem d_RM_read_47 : decode prog_12_method_34_code 47 = .ok (.aload_n 0, 1) := by decide +kernel
theorem d_RM_read_48 : decode prog_12_method_34_code 48 = .ok (.invokevirtual 229, 3) := by decide +kernel
theorem d_RM_read_51 : decode prog_12_method_34_code 51 = .ok (.aload_n 0, 1) := by decide +kernel
theorem d_RM_read_52 : decode prog_12_method_34_code 52 = .ok (.iconst 0, 1) := by decide +kernel
theorem d_RM_read_53 : decode prog_12_method_34_code 53 = .ok (.putfield 159, 3) := by decide +kernel
theorem d_RM_read_56 : decode prog_12_method_34_code 56 = .ok (.aload_n 0, 1) := by decide +kernel
theorem d_RM_read_57 : decode prog_12_method_34_code 57 = .ok (.iconst 0, 1) := by decide +kernel
theorem d_RM_read_58 : decode prog_12_method_34_code 58 = .ok (.putfield 155, 3) := by decide +kernel
theorem d_RM_read_61 : decode prog_12_method_34_code 61 = .ok (.aload_n 0, 1) := by decide +kernel
theorem d_RM_read_62 : decode prog_12_method_34_code 62 = .ok (.iconst (-1), 1) := by decide +kernel
theorem d_RM_read_63 : decode prog_12_method_34_code 63 = .ok (.putfield 28, 3) := by decide +kernel
theorem d_RM_read_66 : decode prog_12_method_34_code 66 = .ok (.aload_n 0, 1) := by decide +kernel
theorem d_RM_read_67 : decode prog_12_method_34_code 67 = .ok (.iconst 0, 1) := by decide +kernel
theorem d_RM_read_68 : decode prog_12_method_34_code 68 = .ok (.putfield 169, 3) := by decide +kernel
theorem d_RM_read_71 : decode prog_12_method_34_code 71 = .ok (.aload_n 0, 1) := by decide +kernel
theorem d_RM_read_72 : decode prog_12_method_34_code 72 = .ok (.invokevirtual 232, 3) := by decide +kernel
theorem d_RM_read_75 : decode prog_12_method_34_code 75 = .ok (.istore_n 3, 1) := by decide +kernel
theorem d_RM_read_76 : decode prog_12_method_34_code 76 = .ok (.aload_n 0, 1) := by decide +kernel
theorem d_RM_read_77 : decode prog_12_method_34_code 77 = .ok (.getfield 155, 3) := by decide +kernel
theorem d_RM_read_80 : decode prog_12_method_34_code 80 = .ok (.ifCond .ne 9, 3) := by decide +kernel
theorem d_RM_read_83 : decode prog_12_method_34_code 83 = .ok (.aload_n 0, 1) := by decide +kernel
theorem d_RM_read_84 : decode prog_12_method_34_code 84 = .ok (.iload_n 1, 1) := by decide +kernel
theorem d_RM_read_85 : decode prog_12_method_34_code 85 = .ok (.iload_n 3, 1) := by decide +kernel
theorem d_RM_read_86 : decode prog_12_method_34_code 86 = .ok (.invokevirtual 235, 3) := by decide +kernel
theorem d_RM_read_89 : decode prog_12_method_34_code 89 = .ok (.aload_n 0, 1) := by decide +kernel
theorem d_RM_read_90 : decode prog_12_method_34_code 90 = .ok (.invokevirtual 162, 3) := by decide +kernel
theorem d_RM_read_93 : decode prog_12_method_34_code 93 = .ok (.ifCond .eq 10, 3) := by decide +kernel
theorem d_RM_read_96 : decode prog_12_method_34_code 96 = .ok (.aload_n 0, 1) := by decide +kernel
theorem d_RM_read_97 : decode prog_12_method_34_code 97 = .ok (.getfield 155, 3) := by decide +kernel
theorem d_RM_read_100 : decode prog_12_method_34_code 100 = .ok (.ifCond .eq (-34), 3) := by decide +kernel
theorem d_RM_read_103 : decode prog_12_method_34_code 103 = .ok (.aload_n 0, 1) := by decide +kernel
theorem d_RM_read_104 : decode prog_12_method_34_code 104 = .ok (.iconst 0, 1) := by decide +kernel
theorem d_RM_read_105 : decode prog_12_method_34_code 105 = .ok (.putfield 107, 3) := by decide +kernel
theorem d_RM_read_108 : decode prog_12_method_34_code 108 = .ok (.aload_n 0, 1) := by decide +kernel
theorem d_RM_read_109 : decode prog_12_method_34_code 109 = .ok (.getfield 28, 3) := by decide +kernel
theorem d_RM_read_112 : decode prog_12_method_34_code 112 = .ok (.ireturn, 1) := by decide +kernel
theorem d_RM_has_0 : decode prog_12_method_35_code 0 = .ok (.iload_n 1, 1) := by decide +kernel
theorem d_RM_has_1 : decode prog_12_method_35_code 1 = .ok (.ifCond .lt 26, 3) := by decide +kernel
theorem d_RM_has_4 : decode prog_12_method_35_code 4 = .ok (.iload_n 1, 1) := by decide +kernel
theorem d_RM_has_5 : decode prog_12_method_35_code 5 = .ok (.iconst 2, 1) := by decide +kernel
theorem d_RM_has_6 : decode prog_12_method_35_code 6 = .ok (.if_icmp .ge 21, 3) := by decide +kernel
theorem d_RM_has_9 : decode prog_12_method_35_code 9 = .ok (.iload_n 2, 1) := by decide +kernel
theorem d_RM_has_10 : decode prog_12_method_35_code 10 = .ok (.ifCond .lt 17, 3) := by decide +kernel
theorem d_RM_has_13 : decode prog_12_method_35_code 13 = .ok (.iload_n 2, 1) := by decide +kernel
theorem d_RM_has_14 : decode prog_12_method_35_code 14 = .ok (.aload_n 0, 1) := by decide +kernel
theorem d_RM_has_15 : decode prog_12_method_35_code 15 = .ok (.getfield 68, 3) := by decide +kernel
theorem d_RM_has_18 : decode prog_12_method_35_code 18 = .ok (.iload_n 1, 1) := by decide +kernel
theorem d_RM_has_19 : decode prog_12_method_35_code 19 = .ok (.iaload, 1) := by decide +kernel
theorem d_RM_has_20 : decode prog_12_method_35_code 20 = .ok (.if_icmp .ge 7, 3) := by decide +kernel
theorem d_RM_has_23 : decode prog_12_method_35_code 23 = .ok (.iconst 1, 1) := by decide +kernel
theorem d_RM_has_24 : decode prog_12_method_35_code 24 = .ok (.goto 4, 3) := by decide +kernel
theorem d_RM_has_27 : decode prog_12_method_35_code 27 = .ok (.iconst 0, 1) := by decide +kernel
theorem d_RM_has_28 : decode prog_12_method_35_code 28 = .ok (.ireturn, 1) := by decide +kernel
theorem d_RM_nodes_0 : decode prog_12_method_36_code 0 = .ok (.iload_n 1, 1) := by decide +kernel
theorem d_RM_nodes_1 : decode prog_12_method_36_code 1 = .ok (.ifCond .lt 8, 3) := by decide +kernel
theorem d_RM_nodes_4 : decode prog_12_method_36_code 4 = .ok (.iload_n 1, 1) := by decide +kernel
theorem d_RM_nodes_5 : decode prog_12_method_36_code 5 = .ok (.iconst 1, 1) := by decide +kernel
theorem d_RM_nodes_6 : decode prog_12_method_36_code 6 = .ok (.if_icmp .le 7, 3) := by decide +kernel
theorem d_RM_nodes_9 : decode prog_12_method_36_code 9 = .ok (.iconst 0, 1) := by decide +kernel
theorem d_RM_nodes_10 : decode prog_12_method_36_code 10 = .ok (.goto 9, 3) := by decide +kernel
theorem d_RM_nodes_13 : decode prog_12_method_36_code 13 = .ok (.aload_n 0, 1) := by decide +kernel
theorem d_RM_nodes_14 : decode prog_12_method_36_code 14 = .ok (.getfield 68, 3) := by decide +kernel
theorem d_RM_nodes_17 : decode prog_12_method_36_code 17 = .ok (.iload_n 1, 1) := by decide +kernel
theorem d_RM_nodes_18 : decode prog_12_method_36_code 18 = .ok (.iaload, 1) := by decide +kernel
theorem d_RM_nodes_19 : decode prog_12_method_36_code 19 = .ok (.ireturn, 1) := by decide +kernel
theorem d_RM_parts_0 : decode prog_12_method_37_code 0 = .ok (.iconst 0, 1) := by decide +kernel
theorem d_RM_parts_1 : decode prog_12_method_37_code 1 = .ok (.istore_n 3, 1) := by decide +kernel
theorem d_RM_parts_2 : decode prog_12_method_37_code 2 = .ok (.iload_n 2, 1) := by decide +kernel
theorem d_RM_parts_3 : decode prog_12_method_37_code 3 = .ok (.iconst 1, 1) := by decide +kernel
theorem d_RM_parts_4 : decode prog_12_method_37_code 4 = .ok (.iadd, 1) := by decide +kernel
theorem d_RM_parts_5 : decode prog_12_method_37_code 5 = .ok (.istore 4, 2) := by decide +kernel
theorem d_RM_parts_7 : decode prog_12_method_37_code 7 = .ok (.iload 4, 2) := by decide +kernel
theorem d_RM_parts_9 : decode prog_12_method_37_code 9 = .ok (.iload_n 2, 1) := by decide +kernel
theorem d_RM_parts_10 : decode prog_12_method_37_code 10 = .ok (.aload_n 0, 1) := by decide +kernel
theorem d_RM_parts_11 : decode prog_12_method_37_code 11 = .ok (.getfield 65, 3) := by decide +kernel
theorem d_RM_parts_14 : decode prog_12_method_37_code 14 = .ok (.sipush 13000, 3) := by decide +kernel
theorem d_RM_parts_17 : decode prog_12_method_37_code 17 = .ok (.iload_n 1, 1) := by decide +kernel
theorem d_RM_parts_18 : decode prog_12_method_37_code 18 = .ok (.imul, 1) := by decide +kernel
theorem d_RM_parts_19 : decode prog_12_method_37_code 19 = .ok (.iload_n 2, 1) := by decide +kernel
theorem d_RM_parts_20 : decode prog_12_method_37_code 20 = .ok (.iadd, 1) := by decide +kernel
theorem d_RM_parts_21 : decode prog_12_method_37_code 21 = .ok (.iaload, 1) := by decide +kernel
theorem d_RM_parts_22 : decode prog_12_method_37_code 22 = .ok (.iadd, 1) := by decide +kernel
theorem d_RM_parts_23 : decode prog_12_method_37_code 23 = .ok (.if_icmp .ge 27, 3) := by decide +kernel
theorem d_RM_parts_26 : decode prog_12_method_37_code 26 = .ok (.iinc 3 1, 3) := by decide +kernel
theorem d_RM_parts_29 : decode prog_12_method_37_code 29 = .ok (.iload 4, 2) := by decide +kernel
theorem d_RM_parts_31 : decode prog_12_method_37_code 31 = .ok (.aload_n 0, 1) := by decide +kernel
theorem d_RM_parts_32 : decode prog_12_method_37_code 32 = .ok (.getfield 65, 3) := by decide +kernel
theorem d_RM_parts_35 : decode prog_12_method_37_code 35 = .ok (.sipush 13000, 3) := by decide +kernel
theorem d_RM_parts_38 : decode prog_12_method_37_code 38 = .ok (.iload_n 1, 1) := by decide +kernel
theorem d_RM_parts_39 : decode prog_12_method_37_code 39 = .ok (.imul, 1) := by decide +kernel
theorem d_RM_parts_40 : decode prog_12_method_37_code 40 = .ok (.iload 4, 2) := by decide +kernel
theorem d_RM_parts_42 : decode prog_12_method_37_code 42 = .ok (.iadd, 1) := by decide +kernel
theorem d_RM_parts_43 : decode prog_12_method_37_code 43 = .ok (.iaload, 1) := by decide +kernel
theorem d_RM_parts_44 : decode prog_12_method_37_code 44 = .ok (.iadd, 1) := by decide +kernel
theorem d_RM_parts_45 : decode prog_12_method_37_code 45 = .ok (.istore 4, 2) := by decide +kernel
theorem d_RM_parts_47 : decode prog_12_method_37_code 47 = .ok (.goto (-40), 3) := by decide +kernel
theorem d_RM_parts_50 : decode prog_12_method_37_code 50 = .ok (.iload_n 3, 1) := by decide +kernel
theorem d_RM_parts_51 : decode prog_12_method_37_code 51 = .ok (.ireturn, 1) := by decide +kernel
theorem d_RM_part_0 : decode prog_12_method_38_code 0 = .ok (.aload_n 0, 1) := by decide +kernel
theorem d_RM_part_1 : decode prog_12_method_38_code 1 = .ok (.iload_n 1, 1) := by decide +kernel
theorem d_RM_part_2 : decode prog_12_method_38_code 2 = .ok (.iload_n 2, 1) := by decide +kernel
theorem d_RM_part_3 : decode prog_12_method_38_code 3 = .ok (.invokevirtual 238, 3) := by decide +kernel
theorem d_RM_part_6 : decode prog_12_method_38_code 6 = .ok (.ifCond .eq 7, 3) := by decide +kernel
theorem d_RM_part_9 : decode prog_12_method_38_code 9 = .ok (.iload_n 3, 1) := by decide +kernel
theorem d_RM_part_10 : decode prog_12_method_38_code 10 = .ok (.ifCond .ge 5, 3) := by decide +kernel
theorem d_RM_part_13 : decode prog_12_method_38_code 13 = .ok (.iconst (-1), 1) := by decide +kernel
theorem d_RM_part_14 : decode prog_12_method_38_code 14 = .ok (.ireturn, 1) := by decide +kernel
theorem d_RM_part_15 : decode prog_12_method_38_code 15 = .ok (.iconst 0, 1) := by decide +kernel
theorem d_RM_part_16 : decode prog_12_method_38_code 16 = .ok (.istore 4, 2) := by decide +kernel
theorem d_RM_part_18 : decode prog_12_method_38_code 18 = .ok (.iload_n 2, 1) := by decide +kernel
theorem d_RM_part_19 : decode prog_12_method_38_code 19 = .ok (.iconst 1, 1) := by decide +kernel
theorem d_RM_part_20 : decode prog_12_method_38_code 20 = .ok (.iadd, 1) := by decide +kernel
theorem d_RM_part_21 : decode prog_12_method_38_code 21 = .ok (.istore 5, 2) := by decide +kernel
theorem d_RM_part_23 : decode prog_12_method_38_code 23 = .ok (.iload 5, 2) := by decide +kernel
theorem d_RM_part_25 : decode prog_12_method_38_code 25 = .ok (.iload_n 2, 1) := by decide +kernel
theorem d_RM_part_26 : decode prog_12_method_38_code 26 = .ok (.aload_n 0, 1) := by decide +kernel
theorem d_RM_part_27 : decode prog_12_method_38_code 27 = .ok (.getfield 65, 3) := by decide +kernel
theorem d_RM_part_30 : decode prog_12_method_38_code 30 = .ok (.sipush 13000, 3) := by decide +kernel
theorem d_RM_part_33 : decode prog_12_method_38_code 33 = .ok (.iload_n 1, 1) := by decide +kernel
theorem d_RM_part_34 : decode prog_12_method_38_code 34 = .ok (.imul, 1) := by decide +kernel
theorem d_RM_part_35 : decode prog_12_method_38_code 35 = .ok (.iload_n 2, 1) := by decide +kernel
theorem d_RM_part_36 : decode prog_12_method_38_code 36 = .ok (.iadd, 1) := by decide +kernel
theorem d_RM_part_37 : decode prog_12_method_38_code 37 = .ok (.iaload, 1) := by decide +kernel
theorem d_RM_part_38 : decode prog_12_method_38_code 38 = .ok (.iadd, 1) := by decide +kernel
theorem d_RM_part_39 : decode prog_12_method_38_code 39 = .ok (.if_icmp .ge 36, 3) := by decide +kernel
theorem d_RM_part_42 : decode prog_12_method_38_code 42 = .ok (.iload 4, 2) := by decide +kernel
theorem d_RM_part_44 : decode prog_12_method_38_code 44 = .ok (.iload_n 3, 1) := by decide +kernel
theorem d_RM_part_45 : decode prog_12_method_38_code 45 = .ok (.if_icmp .ne 6, 3) := by decide +kernel
theorem d_RM_part_48 : decode prog_12_method_38_code 48 = .ok (.iload 5, 2) := by decide +kernel
theorem d_RM_part_50 : decode prog_12_method_38_code 50 = .ok (.ireturn, 1) := by decide +kernel
theorem d_RM_part_51 : decode prog_12_method_38_code 51 = .ok (.iinc 4 1, 3) := by decide +kernel
theorem d_RM_part_54 : decode prog_12_method_38_code 54 = .ok (.iload 5, 2) := by decide +kernel
theorem d_RM_part_56 : decode prog_12_method_38_code 56 = .ok (.aload_n 0, 1) := by decide +kernel
theorem d_RM_part_57 : decode prog_12_method_38_code 57 = .ok (.getfield 65, 3) := by decide +kernel
theorem d_RM_part_60 : decode prog_12_method_38_code 60 = .ok (.sipush 13000, 3) := by decide +kernel
theorem d_RM_part_63 : decode prog_12_method_38_code 63 = .ok (.iload_n 1, 1) := by decide +kernel
theorem d_RM_part_64 : decode prog_12_method_38_code 64 = .ok (.imul, 1) := by decide +kernel
theorem d_RM_part_65 : decode prog_12_method_38_code 65 = .ok (.iload 5, 2) := by decide +kernel
theorem d_RM_part_67 : decode prog_12_method_38_code 67 = .ok (.iadd, 1) := by decide +kernel
theorem d_RM_part_68 : decode prog_12_method_38_code 68 = .ok (.iaload, 1) := by decide +kernel
theorem d_RM_part_69 : decode prog_12_method_38_code 69 = .ok (.iadd, 1) := by decide +kernel
theorem d_RM_part_70 : decode prog_12_method_38_code 70 = .ok (.istore 5, 2) := by decide +kernel
theorem d_RM_part_72 : decode prog_12_method_38_code 72 = .ok (.goto (-49), 3) := by decide +kernel
theorem d_RM_part_75 : decode prog_12_method_38_code 75 = .ok (.iconst (-1), 1) := by decide +kernel
theorem d_RM_part_76 : decode prog_12_method_38_code 76 = .ok (.ireturn, 1) := by decide +kernel
theorem d_RM_node_0 : decode prog_12_method_39_code 0 = .ok (.aload_n 0, 1) := by decide +kernel
theorem d_RM_node_1 : decode prog_12_method_39_code 1 = .ok (.iload_n 1, 1) := by decide +kernel
theorem d_RM_node_2 : decode prog_12_method_39_code 2 = .ok (.iload_n 2, 1) := by decide +kernel
theorem d_RM_node_3 : decode prog_12_method_39_code 3 = .ok (.invokevirtual 238, 3) := by decide +kernel
theorem d_RM_node_6 : decode prog_12_method_39_code 6 = .ok (.ifCond .ne 6, 3) := by decide +kernel
theorem d_RM_node_9 : decode prog_12_method_39_code 9 = .ok (.bipush (-2), 2) := by decide +kernel
theorem d_RM_node_11 : decode prog_12_method_39_code 11 = .ok (.ireturn, 1) := by decide +kernel
theorem d_RM_node_12 : decode prog_12_method_39_code 12 = .ok (.sipush 13000, 3) := by decide +kernel
theorem d_RM_node_15 : decode prog_12_method_39_code 15 = .ok (.iload_n 1, 1) := by decide +kernel
theorem d_RM_node_16 : decode prog_12_method_39_code 16 = .ok (.imul, 1) := by decide +kernel
theorem d_RM_node_17 : decode prog_12_method_39_code 17 = .ok (.iload_n 2, 1) := by decide +kernel
theorem d_RM_node_18 : decode prog_12_method_39_code 18 = .ok (.iadd, 1) := by decide +kernel
theorem d_RM_node_19 : decode prog_12_method_39_code 19 = .ok (.istore 4, 2) := by decide +kernel
theorem d_RM_node_21 : decode prog_12_method_39_code 21 = .ok (.iload_n 3, 1) := by decide +kernel
theorem d_RM_node_22 : decode prog_12_method_39_code 22 = .ok (.ifCond .ne 13, 3) := by decide +kernel
theorem d_RM_node_25 : decode prog_12_method_39_code 25 = .ok (.aload_n 0, 1) := by decide +kernel
theorem d_RM_node_26 : decode prog_12_method_39_code 26 = .ok (.getfield 53, 3) := by decide +kernel
theorem d_RM_node_29 : decode prog_12_method_39_code 29 = .ok (.iload 4, 2) := by decide +kernel
theorem d_RM_node_31 : decode prog_12_method_39_code 31 = .ok (.iaload, 1) := by decide +kernel
theorem d_RM_node_32 : decode prog_12_method_39_code 32 = .ok (.goto 64, 3) := by decide +kernel
theorem d_RM_node_35 : decode prog_12_method_39_code 35 = .ok (.iload_n 3, 1) := by decide +kernel
theorem d_RM_node_36 : decode prog_12_method_39_code 36 = .ok (.iconst 1, 1) := by decide +kernel
theorem d_RM_node_37 : decode prog_12_method_39_code 37 = .ok (.if_icmp .ne 13, 3) := by decide +kernel
theorem d_RM_node_40 : decode prog_12_method_39_code 40 = .ok (.aload_n 0, 1) := by decide +kernel
theorem d_RM_node_41 : decode prog_12_method_39_code 41 = .ok (.getfield 56, 3) := by decide +kernel
theorem d_RM_node_44 : decode prog_12_method_39_code 44 = .ok (.iload 4, 2) := by decide +kernel
theorem d_RM_node_46 : decode prog_12_method_39_code 46 = .ok (.iaload, 1) := by decide +kernel
theorem d_RM_node_47 : decode prog_12_method_39_code 47 = .ok (.goto 49, 3) := by decide +kernel
theorem d_RM_node_50 : decode prog_12_method_39_code 50 = .ok (.iload_n 3, 1) := by decide +kernel
theorem d_RM_node_51 : decode prog_12_method_39_code 51 = .ok (.iconst 2, 1) := by decide +kernel
theorem d_RM_node_52 : decode prog_12_method_39_code 52 = .ok (.if_icmp .ne 13, 3) := by decide +kernel
theorem d_RM_node_55 : decode prog_12_method_39_code 55 = .ok (.aload_n 0, 1) := by decide +kernel
theorem d_RM_node_56 : decode prog_12_method_39_code 56 = .ok (.getfield 59, 3) := by decide +kernel
theorem d_RM_node_59 : decode prog_12_method_39_code 59 = .ok (.iload 4, 2) := by decide +kernel
theorem d_RM_node_61 : decode prog_12_method_39_code 61 = .ok (.iaload, 1) := by decide +kernel
theorem d_RM_node_62 : decode prog_12_method_39_code 62 = .ok (.goto 34, 3) := by decide +kernel
theorem d_RM_node_65 : decode prog_12_method_39_code 65 = .ok (.iload_n 3, 1) := by decide +kernel
theorem d_RM_node_66 : decode prog_12_method_39_code 66 = .ok (.iconst 3, 1) := by decide +kernel
theorem d_RM_node_67 : decode prog_12_method_39_code 67 = .ok (.if_icmp .ne 13, 3) := by decide +kernel
theorem d_RM_node_70 : decode prog_12_method_39_code 70 = .ok (.aload_n 0, 1) := by decide +kernel
theorem d_RM_node_71 : decode prog_12_method_39_code 71 = .ok (.getfield 65, 3) := by decide +kernel
theorem d_RM_node_74 : decode prog_12_method_39_code 74 = .ok (.iload 4, 2) := by decide +kernel
theorem d_RM_node_76 : decode prog_12_method_39_code 76 = .ok (.iaload, 1) := by decide +kernel
theorem d_RM_node_77 : decode prog_12_method_39_code 77 = .ok (.goto 19, 3) := by decide +kernel
theorem d_RM_node_80 : decode prog_12_method_39_code 80 = .ok (.iload_n 3, 1) := by decide +kernel
theorem d_RM_node_81 : decode prog_12_method_39_code 81 = .ok (.iconst 4, 1) := by decide +kernel
theorem d_RM_node_82 : decode prog_12_method_39_code 82 = .ok (.if_icmp .ne 12, 3) := by decide +kernel
theorem d_RM_node_85 : decode prog_12_method_39_code 85 = .ok (.aload_n 0, 1) := by decide +kernel
theorem d_RM_node_86 : decode prog_12_method_39_code 86 = .ok (.iload_n 1, 1) := by decide +kernel
theorem d_RM_node_87 : decode prog_12_method_39_code 87 = .ok (.iload_n 2, 1) := by decide +kernel
theorem d_RM_node_88 : decode prog_12_method_39_code 88 = .ok (.invokevirtual 241, 3) := by decide +kernel
theorem d_RM_node_91 : decode prog_12_method_39_code 91 = .ok (.goto 5, 3) := by decide +kernel
theorem d_RM_node_94 : decode prog_12_method_39_code 94 = .ok (.bipush (-2), 2) := by decide +kernel
theorem d_RM_node_96 : decode prog_12_method_39_code 96 = .ok (.ireturn, 1) := by decide +kernel
theorem d_RM_whole_0 : decode prog_12_method_40_code 0 = .ok (.aload_n 0, 1) := by decide +kernel
theorem d_RM_whole_1 : decode prog_12_method_40_code 1 = .ok (.iload_n 1, 1) := by decide +kernel
theorem d_RM_whole_2 : decode prog_12_method_40_code 2 = .ok (.iload_n 2, 1) := by decide +kernel
theorem d_RM_whole_3 : decode prog_12_method_40_code 3 = .ok (.invokevirtual 238, 3) := by decide +kernel
theorem d_RM_whole_6 : decode prog_12_method_40_code 6 = .ok (.ifCond .eq 18, 3) := by decide +kernel
theorem d_RM_whole_9 : decode prog_12_method_40_code 9 = .ok (.aload_n 0, 1) := by decide +kernel
theorem d_RM_whole_10 : decode prog_12_method_40_code 10 = .ok (.getfield 62, 3) := by decide +kernel
theorem d_RM_whole_13 : decode prog_12_method_40_code 13 = .ok (.sipush 13000, 3) := by decide +kernel
theorem d_RM_whole_16 : decode prog_12_method_40_code 16 = .ok (.iload_n 1, 1) := by decide +kernel
theorem d_RM_whole_17 : decode prog_12_method_40_code 17 = .ok (.imul, 1) := by decide +kernel
theorem d_RM_whole_18 : decode prog_12_method_40_code 18 = .ok (.iload_n 2, 1) := by decide +kernel
theorem d_RM_whole_19 : decode prog_12_method_40_code 19 = .ok (.iadd, 1) := by decide +kernel
theorem d_RM_whole_20 : decode prog_12_method_40_code 20 = .ok (.iaload, 1) := by decide +kernel
theorem d_RM_whole_21 : decode prog_12_method_40_code 21 = .ok (.goto 4, 3) := by decide +kernel
theorem d_RM_whole_24 : decode prog_12_method_40_code 24 = .ok (.iconst (-1), 1) := by decide +kernel
theorem d_RM_whole_25 : decode prog_12_method_40_code 25 = .ok (.ireturn, 1) := by decide +kernel
theorem d_RM_names_0 : decode prog_12_method_41_code 0 = .ok (.aload_n 0, 1) := by decide +kernel
theorem d_RM_names_1 : decode prog_12_method_41_code 1 = .ok (.getfield 223, 3) := by decide +kernel
theorem d_RM_names_4 : decode prog_12_method_41_code 4 = .ok (.ireturn, 1) := by decide +kernel
theorem d_RM_spelt_0 : decode prog_12_method_42_code 0 = .ok (.iload_n 1, 1) := by decide +kernel
theorem d_RM_spelt_1 : decode prog_12_method_42_code 1 = .ok (.ifCond .lt 34, 3) := by decide +kernel
theorem d_RM_spelt_4 : decode prog_12_method_42_code 4 = .ok (.iload_n 1, 1) := by decide +kernel
theorem d_RM_spelt_5 : decode prog_12_method_42_code 5 = .ok (.aload_n 0, 1) := by decide +kernel
theorem d_RM_spelt_6 : decode prog_12_method_42_code 6 = .ok (.getfield 223, 3) := by decide +kernel
theorem d_RM_spelt_9 : decode prog_12_method_42_code 9 = .ok (.if_icmp .ge 26, 3) := by decide +kernel
theorem d_RM_spelt_12 : decode prog_12_method_42_code 12 = .ok (.iload_n 2, 1) := by decide +kernel
theorem d_RM_spelt_13 : decode prog_12_method_42_code 13 = .ok (.ifCond .lt 22, 3) := by decide +kernel
theorem d_RM_spelt_16 : decode prog_12_method_42_code 16 = .ok (.iload_n 2, 1) := by decide +kernel
theorem d_RM_spelt_17 : decode prog_12_method_42_code 17 = .ok (.aload_n 0, 1) := by decide +kernel
theorem d_RM_spelt_18 : decode prog_12_method_42_code 18 = .ok (.getfield 74, 3) := by decide +kernel
theorem d_RM_spelt_21 : decode prog_12_method_42_code 21 = .ok (.iload_n 1, 1) := by decide +kernel
theorem d_RM_spelt_22 : decode prog_12_method_42_code 22 = .ok (.iconst 1, 1) := by decide +kernel
theorem d_RM_spelt_23 : decode prog_12_method_42_code 23 = .ok (.iadd, 1) := by decide +kernel
theorem d_RM_spelt_24 : decode prog_12_method_42_code 24 = .ok (.iaload, 1) := by decide +kernel
theorem d_RM_spelt_25 : decode prog_12_method_42_code 25 = .ok (.aload_n 0, 1) := by decide +kernel
theorem d_RM_spelt_26 : decode prog_12_method_42_code 26 = .ok (.getfield 74, 3) := by decide +kernel
theorem d_RM_spelt_29 : decode prog_12_method_42_code 29 = .ok (.iload_n 1, 1) := by decide +kernel
theorem d_RM_spelt_30 : decode prog_12_method_42_code 30 = .ok (.iaload, 1) := by decide +kernel
theorem d_RM_spelt_31 : decode prog_12_method_42_code 31 = .ok (.isub, 1) := by decide +kernel
theorem d_RM_spelt_32 : decode prog_12_method_42_code 32 = .ok (.if_icmp .lt 7, 3) := by decide +kernel
theorem d_RM_spelt_35 : decode prog_12_method_42_code 35 = .ok (.iconst (-1), 1) := by decide +kernel
theorem d_RM_spelt_36 : decode prog_12_method_42_code 36 = .ok (.goto 16, 3) := by decide +kernel
theorem d_RM_spelt_39 : decode prog_12_method_42_code 39 = .ok (.aload_n 0, 1) := by decide +kernel
theorem d_RM_spelt_40 : decode prog_12_method_42_code 40 = .ok (.getfield 71, 3) := by decide +kernel
theorem d_RM_spelt_43 : decode prog_12_method_42_code 43 = .ok (.aload_n 0, 1) := by decide +kernel
theorem d_RM_spelt_44 : decode prog_12_method_42_code 44 = .ok (.getfield 74, 3) := by decide +kernel
theorem d_RM_spelt_47 : decode prog_12_method_42_code 47 = .ok (.iload_n 1, 1) := by decide +kernel
theorem d_RM_spelt_48 : decode prog_12_method_42_code 48 = .ok (.iaload, 1) := by decide +kernel
theorem d_RM_spelt_49 : decode prog_12_method_42_code 49 = .ok (.iload_n 2, 1) := by decide +kernel
theorem d_RM_spelt_50 : decode prog_12_method_42_code 50 = .ok (.iadd, 1) := by decide +kernel
theorem d_RM_spelt_51 : decode prog_12_method_42_code 51 = .ok (.iaload, 1) := by decide +kernel
theorem d_RM_spelt_52 : decode prog_12_method_42_code 52 = .ok (.ireturn, 1) := by decide +kernel
