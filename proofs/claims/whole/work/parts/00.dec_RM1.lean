theorem d_RM_init_0 : decode prog_12_method_1_code 0 = .ok (.aload_n 0, 1) := by decide +kernel
theorem d_RM_init_1 : decode prog_12_method_1_code 1 = .ok (.invokespecial 1, 3) := by decide +kernel
theorem d_RM_init_4 : decode prog_12_method_1_code 4 = .ok (.aload_n 0, 1) := by decide +kernel
theorem d_RM_init_5 : decode prog_12_method_1_code 5 = .ok (.sipush 8000, 3) := by decide +kernel
theorem d_RM_init_8 : decode prog_12_method_1_code 8 = .ok (.newarray .int, 2) := by decide +kernel
theorem d_RM_init_10 : decode prog_12_method_1_code 10 = .ok (.putfield 9, 3) := by decide +kernel
theorem d_RM_init_13 : decode prog_12_method_1_code 13 = .ok (.aload_n 0, 1) := by decide +kernel
theorem d_RM_init_14 : decode prog_12_method_1_code 14 = .ok (.sipush 8000, 3) := by decide +kernel
theorem d_RM_init_17 : decode prog_12_method_1_code 17 = .ok (.newarray .int, 2) := by decide +kernel
theorem d_RM_init_19 : decode prog_12_method_1_code 19 = .ok (.putfield 13, 3) := by decide +kernel
theorem d_RM_init_22 : decode prog_12_method_1_code 22 = .ok (.aload_n 0, 1) := by decide +kernel
theorem d_RM_init_23 : decode prog_12_method_1_code 23 = .ok (.sipush 8001, 3) := by decide +kernel
theorem d_RM_init_26 : decode prog_12_method_1_code 26 = .ok (.newarray .int, 2) := by decide +kernel
theorem d_RM_init_28 : decode prog_12_method_1_code 28 = .ok (.putfield 16, 3) := by decide +kernel
theorem d_RM_init_31 : decode prog_12_method_1_code 31 = .ok (.aload_n 0, 1) := by decide +kernel
theorem d_RM_init_32 : decode prog_12_method_1_code 32 = .ok (.sipush 8002, 3) := by decide +kernel
theorem d_RM_init_35 : decode prog_12_method_1_code 35 = .ok (.newarray .int, 2) := by decide +kernel
theorem d_RM_init_37 : decode prog_12_method_1_code 37 = .ok (.putfield 19, 3) := by decide +kernel
theorem d_RM_init_40 : decode prog_12_method_1_code 40 = .ok (.aload_n 0, 1) := by decide +kernel
theorem d_RM_init_41 : decode prog_12_method_1_code 41 = .ok (.sipush 8002, 3) := by decide +kernel
theorem d_RM_init_44 : decode prog_12_method_1_code 44 = .ok (.newarray .int, 2) := by decide +kernel
theorem d_RM_init_46 : decode prog_12_method_1_code 46 = .ok (.putfield 22, 3) := by decide +kernel
theorem d_RM_init_49 : decode prog_12_method_1_code 49 = .ok (.aload_n 0, 1) := by decide +kernel
theorem d_RM_init_50 : decode prog_12_method_1_code 50 = .ok (.sipush 8002, 3) := by decide +kernel
theorem d_RM_init_53 : decode prog_12_method_1_code 53 = .ok (.newarray .int, 2) := by decide +kernel
theorem d_RM_init_55 : decode prog_12_method_1_code 55 = .ok (.putfield 25, 3) := by decide +kernel
theorem d_RM_init_58 : decode prog_12_method_1_code 58 = .ok (.aload_n 0, 1) := by decide +kernel
theorem d_RM_init_59 : decode prog_12_method_1_code 59 = .ok (.iconst (-1), 1) := by decide +kernel
theorem d_RM_init_60 : decode prog_12_method_1_code 60 = .ok (.putfield 28, 3) := by decide +kernel
theorem d_RM_init_63 : decode prog_12_method_1_code 63 = .ok (.aload_n 0, 1) := by decide +kernel
theorem d_RM_init_64 : decode prog_12_method_1_code 64 = .ok (.sipush 26000, 3) := by decide +kernel
theorem d_RM_init_67 : decode prog_12_method_1_code 67 = .ok (.newarray .int, 2) := by decide +kernel
theorem d_RM_init_69 : decode prog_12_method_1_code 69 = .ok (.putfield 32, 3) := by decide +kernel
theorem d_RM_init_72 : decode prog_12_method_1_code 72 = .ok (.aload_n 0, 1) := by decide +kernel
theorem d_RM_init_73 : decode prog_12_method_1_code 73 = .ok (.sipush 26000, 3) := by decide +kernel
theorem d_RM_init_76 : decode prog_12_method_1_code 76 = .ok (.newarray .int, 2) := by decide +kernel
theorem d_RM_init_78 : decode prog_12_method_1_code 78 = .ok (.putfield 35, 3) := by decide +kernel
theorem d_RM_init_81 : decode prog_12_method_1_code 81 = .ok (.aload_n 0, 1) := by decide +kernel
theorem d_RM_init_82 : decode prog_12_method_1_code 82 = .ok (.sipush 26000, 3) := by decide +kernel
theorem d_RM_init_85 : decode prog_12_method_1_code 85 = .ok (.newarray .int, 2) := by decide +kernel
theorem d_RM_init_87 : decode prog_12_method_1_code 87 = .ok (.putfield 38, 3) := by decide +kernel
theorem d_RM_init_90 : decode prog_12_method_1_code 90 = .ok (.aload_n 0, 1) := by decide +kernel
theorem d_RM_init_91 : decode prog_12_method_1_code 91 = .ok (.sipush 26000, 3) := by decide +kernel
theorem d_RM_init_94 : decode prog_12_method_1_code 94 = .ok (.newarray .int, 2) := by decide +kernel
theorem d_RM_init_96 : decode prog_12_method_1_code 96 = .ok (.putfield 41, 3) := by decide +kernel
theorem d_RM_init_99 : decode prog_12_method_1_code 99 = .ok (.aload_n 0, 1) := by decide +kernel
theorem d_RM_init_100 : decode prog_12_method_1_code 100 = .ok (.sipush 26000, 3) := by decide +kernel
theorem d_RM_init_103 : decode prog_12_method_1_code 103 = .ok (.newarray .int, 2) := by decide +kernel
theorem d_RM_init_105 : decode prog_12_method_1_code 105 = .ok (.putfield 44, 3) := by decide +kernel
theorem d_RM_init_108 : decode prog_12_method_1_code 108 = .ok (.aload_n 0, 1) := by decide +kernel
theorem d_RM_init_109 : decode prog_12_method_1_code 109 = .ok (.sipush 26000, 3) := by decide +kernel
theorem d_RM_init_112 : decode prog_12_method_1_code 112 = .ok (.newarray .int, 2) := by decide +kernel
theorem d_RM_init_114 : decode prog_12_method_1_code 114 = .ok (.putfield 47, 3) := by decide +kernel
theorem d_RM_init_117 : decode prog_12_method_1_code 117 = .ok (.aload_n 0, 1) := by decide +kernel
theorem d_RM_init_118 : decode prog_12_method_1_code 118 = .ok (.sipush 26000, 3) := by decide +kernel
theorem d_RM_init_121 : decode prog_12_method_1_code 121 = .ok (.newarray .int, 2) := by decide +kernel
theorem d_RM_init_123 : decode prog_12_method_1_code 123 = .ok (.putfield 50, 3) := by decide +kernel
theorem d_RM_init_126 : decode prog_12_method_1_code 126 = .ok (.aload_n 0, 1) := by decide +kernel
theorem d_RM_init_127 : decode prog_12_method_1_code 127 = .ok (.sipush 26000, 3) := by decide +kernel
theorem d_RM_init_130 : decode prog_12_method_1_code 130 = .ok (.newarray .int, 2) := by decide +kernel
theorem d_RM_init_132 : decode prog_12_method_1_code 132 = .ok (.putfield 53, 3) := by decide +kernel
theorem d_RM_init_135 : decode prog_12_method_1_code 135 = .ok (.aload_n 0, 1) := by decide +kernel
theorem d_RM_init_136 : decode prog_12_method_1_code 136 = .ok (.sipush 26000, 3) := by decide +kernel
theorem d_RM_init_139 : decode prog_12_method_1_code 139 = .ok (.newarray .int, 2) := by decide +kernel
theorem d_RM_init_141 : decode prog_12_method_1_code 141 = .ok (.putfield 56, 3) := by decide +kernel
theorem d_RM_init_144 : decode prog_12_method_1_code 144 = .ok (.aload_n 0, 1) := by decide +kernel
theorem d_RM_init_145 : decode prog_12_method_1_code 145 = .ok (.sipush 26000, 3) := by decide +kernel
theorem d_RM_init_148 : decode prog_12_method_1_code 148 = .ok (.newarray .int, 2) := by decide +kernel
theorem d_RM_init_150 : decode prog_12_method_1_code 150 = .ok (.putfield 59, 3) := by decide +kernel
theorem d_RM_init_153 : decode prog_12_method_1_code 153 = .ok (.aload_n 0, 1) := by decide +kernel
theorem d_RM_init_154 : decode prog_12_method_1_code 154 = .ok (.sipush 26000, 3) := by decide +kernel
theorem d_RM_init_157 : decode prog_12_method_1_code 157 = .ok (.newarray .int, 2) := by decide +kernel
theorem d_RM_init_159 : decode prog_12_method_1_code 159 = .ok (.putfield 62, 3) := by decide +kernel
theorem d_RM_init_162 : decode prog_12_method_1_code 162 = .ok (.aload_n 0, 1) := by decide +kernel
theorem d_RM_init_163 : decode prog_12_method_1_code 163 = .ok (.sipush 26000, 3) := by decide +kernel
theorem d_RM_init_166 : decode prog_12_method_1_code 166 = .ok (.newarray .int, 2) := by decide +kernel
theorem d_RM_init_168 : decode prog_12_method_1_code 168 = .ok (.putfield 65, 3) := by decide +kernel
theorem d_RM_init_171 : decode prog_12_method_1_code 171 = .ok (.aload_n 0, 1) := by decide +kernel
theorem d_RM_init_172 : decode prog_12_method_1_code 172 = .ok (.iconst 2, 1) := by decide +kernel
theorem d_RM_init_173 : decode prog_12_method_1_code 173 = .ok (.newarray .int, 2) := by decide +kernel
theorem d_RM_init_175 : decode prog_12_method_1_code 175 = .ok (.putfield 68, 3) := by decide +kernel
theorem d_RM_init_178 : decode prog_12_method_1_code 178 = .ok (.aload_n 0, 1) := by decide +kernel
theorem d_RM_init_179 : decode prog_12_method_1_code 179 = .ok (.sipush 12000, 3) := by decide +kernel
theorem d_RM_init_182 : decode prog_12_method_1_code 182 = .ok (.newarray .int, 2) := by decide +kernel
theorem d_RM_init_184 : decode prog_12_method_1_code 184 = .ok (.putfield 71, 3) := by decide +kernel
theorem d_RM_init_187 : decode prog_12_method_1_code 187 = .ok (.aload_n 0, 1) := by decide +kernel
theorem d_RM_init_188 : decode prog_12_method_1_code 188 = .ok (.sipush 6001, 3) := by decide +kernel
theorem d_RM_init_191 : decode prog_12_method_1_code 191 = .ok (.newarray .int, 2) := by decide +kernel
theorem d_RM_init_193 : decode prog_12_method_1_code 193 = .ok (.putfield 74, 3) := by decide +kernel
theorem d_RM_init_196 : decode prog_12_method_1_code 196 = .ok (.aload_n 0, 1) := by decide +kernel
theorem d_RM_init_197 : decode prog_12_method_1_code 197 = .ok (.bipush 8, 2) := by decide +kernel
theorem d_RM_init_199 : decode prog_12_method_1_code 199 = .ok (.anewarray 77, 3) := by decide +kernel
theorem d_RM_init_202 : decode prog_12_method_1_code 202 = .ok (.dup, 1) := by decide +kernel
theorem d_RM_init_203 : decode prog_12_method_1_code 203 = .ok (.iconst 0, 1) := by decide +kernel
theorem d_RM_init_204 : decode prog_12_method_1_code 204 = .ok (.ldc 79, 2) := by decide +kernel
theorem d_RM_init_206 : decode prog_12_method_1_code 206 = .ok (.aastore, 1) := by decide +kernel
theorem d_RM_init_207 : decode prog_12_method_1_code 207 = .ok (.dup, 1) := by decide +kernel
theorem d_RM_init_208 : decode prog_12_method_1_code 208 = .ok (.iconst 1, 1) := by decide +kernel
theorem d_RM_init_209 : decode prog_12_method_1_code 209 = .ok (.ldc 81, 2) := by decide +kernel
theorem d_RM_init_211 : decode prog_12_method_1_code 211 = .ok (.aastore, 1) := by decide +kernel
theorem d_RM_init_212 : decode prog_12_method_1_code 212 = .ok (.dup, 1) := by decide +kernel
theorem d_RM_init_213 : decode prog_12_method_1_code 213 = .ok (.iconst 2, 1) := by decide +kernel
theorem d_RM_init_214 : decode prog_12_method_1_code 214 = .ok (.ldc 83, 2) := by decide +kernel
theorem d_RM_init_216 : decode prog_12_method_1_code 216 = .ok (.aastore, 1) := by decide +kernel
theorem d_RM_init_217 : decode prog_12_method_1_code 217 = .ok (.dup, 1) := by decide +kernel
theorem d_RM_init_218 : decode prog_12_method_1_code 218 = .ok (.iconst 3, 1) := by decide +kernel
theorem d_RM_init_219 : decode prog_12_method_1_code 219 = .ok (.ldc 85, 2) := by decide +kernel
theorem d_RM_init_221 : decode prog_12_method_1_code 221 = .ok (.aastore, 1) := by decide +kernel
theorem d_RM_init_222 : decode prog_12_method_1_code 222 = .ok (.dup, 1) := by decide +kernel
theorem d_RM_init_223 : decode prog_12_method_1_code 223 = .ok (.iconst 4, 1) := by decide +kernel
theorem d_RM_init_224 : decode prog_12_method_1_code 224 = .ok (.ldc 87, 2) := by decide +kernel
theorem d_RM_init_226 : decode prog_12_method_1_code 226 = .ok (.aastore, 1) := by decide +kernel
theorem d_RM_init_227 : decode prog_12_method_1_code 227 = .ok (.dup, 1) := by decide +kernel
theorem d_RM_init_228 : decode prog_12_method_1_code 228 = .ok (.iconst 5, 1) := by decide +kernel
theorem d_RM_init_229 : decode prog_12_method_1_code 229 = .ok (.ldc 89, 2) := by decide +kernel
theorem d_RM_init_231 : decode prog_12_method_1_code 231 = .ok (.aastore, 1) := by decide +kernel
theorem d_RM_init_232 : decode prog_12_method_1_code 232 = .ok (.dup, 1) := by decide +kernel
theorem d_RM_init_233 : decode prog_12_method_1_code 233 = .ok (.bipush 6, 2) := by decide +kernel
theorem d_RM_init_235 : decode prog_12_method_1_code 235 = .ok (.ldc 91, 2) := by decide +kernel
theorem d_RM_init_237 : decode prog_12_method_1_code 237 = .ok (.aastore, 1) := by decide +kernel
theorem d_RM_init_238 : decode prog_12_method_1_code 238 = .ok (.dup, 1) := by decide +kernel
theorem d_RM_init_239 : decode prog_12_method_1_code 239 = .ok (.bipush 7, 2) := by decide +kernel
theorem d_RM_init_241 : decode prog_12_method_1_code 241 = .ok (.ldc 93, 2) := by decide +kernel
theorem d_RM_init_243 : decode prog_12_method_1_code 243 = .ok (.aastore, 1) := by decide +kernel
theorem d_RM_init_244 : decode prog_12_method_1_code 244 = .ok (.putfield 95, 3) := by decide +kernel
theorem d_RM_init_247 : decode prog_12_method_1_code 247 = .ok (.aload_n 0, 1) := by decide +kernel
theorem d_RM_init_248 : decode prog_12_method_1_code 248 = .ok (.iconst 0, 1) := by decide +kernel
theorem d_RM_init_249 : decode prog_12_method_1_code 249 = .ok (.invokevirtual 99, 3) := by decide +kernel
theorem d_RM_init_252 : decode prog_12_method_1_code 252 = .ok (.aload_n 0, 1) := by decide +kernel
theorem d_RM_init_253 : decode prog_12_method_1_code 253 = .ok (.iconst 1, 1) := by decide +kernel
theorem d_RM_init_254 : decode prog_12_method_1_code 254 = .ok (.invokevirtual 99, 3) := by decide +kernel
theorem d_RM_init_257 : decode prog_12_method_1_code 257 = .ok (.return_, 1) := by decide +kernel
theorem d_RM_clear_0 : decode prog_12_method_2_code 0 = .ok (.aload_n 0, 1) := by decide +kernel
theorem d_RM_clear_1 : decode prog_12_method_2_code 1 = .ok (.getfield 68, 3) := by decide +kernel
theorem d_RM_clear_4 : decode prog_12_method_2_code 4 = .ok (.iload_n 1, 1) := by decide +kernel
theorem d_RM_clear_5 : decode prog_12_method_2_code 5 = .ok (.iconst 0, 1) := by decide +kernel
theorem d_RM_clear_6 : decode prog_12_method_2_code 6 = .ok (.iastore, 1) := by decide +kernel
theorem d_RM_clear_7 : decode prog_12_method_2_code 7 = .ok (.aload_n 0, 1) := by decide +kernel
theorem d_RM_clear_8 : decode prog_12_method_2_code 8 = .ok (.iload_n 1, 1) := by decide +kernel
theorem d_RM_clear_9 : decode prog_12_method_2_code 9 = .ok (.iconst 0, 1) := by decide +kernel
theorem d_RM_clear_10 : decode prog_12_method_2_code 10 = .ok (.iconst 0, 1) := by decide +kernel
theorem d_RM_clear_11 : decode prog_12_method_2_code 11 = .ok (.iconst 0, 1) := by decide +kernel
theorem d_RM_clear_12 : decode prog_12_method_2_code 12 = .ok (.iconst (-1), 1) := by decide +kernel
theorem d_RM_clear_13 : decode prog_12_method_2_code 13 = .ok (.invokevirtual 103, 3) := by decide +kernel
theorem d_RM_clear_16 : decode prog_12_method_2_code 16 = .ok (.pop, 1) := by decide +kernel
theorem d_RM_clear_17 : decode prog_12_method_2_code 17 = .ok (.aload_n 0, 1) := by decide +kernel
theorem d_RM_clear_18 : decode prog_12_method_2_code 18 = .ok (.getfield 56, 3) := by decide +kernel
theorem d_RM_clear_21 : decode prog_12_method_2_code 21 = .ok (.sipush 13000, 3) := by decide +kernel
theorem d_RM_clear_24 : decode prog_12_method_2_code 24 = .ok (.iload_n 1, 1) := by decide +kernel
theorem d_RM_clear_25 : decode prog_12_method_2_code 25 = .ok (.imul, 1) := by decide +kernel
theorem d_RM_clear_26 : decode prog_12_method_2_code 26 = .ok (.iconst (-1), 1) := by decide +kernel
theorem d_RM_clear_27 : decode prog_12_method_2_code 27 = .ok (.iastore, 1) := by decide +kernel
theorem d_RM_clear_28 : decode prog_12_method_2_code 28 = .ok (.return_, 1) := by decide +kernel
theorem d_RM_add_0 : decode prog_12_method_3_code 0 = .ok (.sipush 13000, 3) := by decide +kernel
theorem d_RM_add_3 : decode prog_12_method_3_code 3 = .ok (.iload_n 1, 1) := by decide +kernel
theorem d_RM_add_4 : decode prog_12_method_3_code 4 = .ok (.imul, 1) := by decide +kernel
theorem d_RM_add_5 : decode prog_12_method_3_code 5 = .ok (.aload_n 0, 1) := by decide +kernel
theorem d_RM_add_6 : decode prog_12_method_3_code 6 = .ok (.getfield 68, 3) := by decide +kernel
theorem d_RM_add_9 : decode prog_12_method_3_code 9 = .ok (.iload_n 1, 1) := by decide +kernel
theorem d_RM_add_10 : decode prog_12_method_3_code 10 = .ok (.iaload, 1) := by decide +kernel
theorem d_RM_add_11 : decode prog_12_method_3_code 11 = .ok (.iadd, 1) := by decide +kernel
theorem d_RM_add_12 : decode prog_12_method_3_code 12 = .ok (.istore 6, 2) := by decide +kernel
theorem d_RM_add_14 : decode prog_12_method_3_code 14 = .ok (.aload_n 0, 1) := by decide +kernel
theorem d_RM_add_15 : decode prog_12_method_3_code 15 = .ok (.getfield 53, 3) := by decide +kernel
theorem d_RM_add_18 : decode prog_12_method_3_code 18 = .ok (.iload 6, 2) := by decide +kernel
theorem d_RM_add_20 : decode prog_12_method_3_code 20 = .ok (.iload_n 2, 1) := by decide +kernel
theorem d_RM_add_21 : decode prog_12_method_3_code 21 = .ok (.iastore, 1) := by decide +kernel
theorem d_RM_add_22 : decode prog_12_method_3_code 22 = .ok (.aload_n 0, 1) := by decide +kernel
theorem d_RM_add_23 : decode prog_12_method_3_code 23 = .ok (.getfield 56, 3) := by decide +kernel
theorem d_RM_add_26 : decode prog_12_method_3_code 26 = .ok (.iload 6, 2) := by decide +kernel
theorem d_RM_add_28 : decode prog_12_method_3_code 28 = .ok (.iload_n 3, 1) := by decide +kernel
theorem d_RM_add_29 : decode prog_12_method_3_code 29 = .ok (.iastore, 1) := by decide +kernel
theorem d_RM_add_30 : decode prog_12_method_3_code 30 = .ok (.aload_n 0, 1) := by decide +kernel
theorem d_RM_add_31 : decode prog_12_method_3_code 31 = .ok (.getfield 59, 3) := by decide +kernel
theorem d_RM_add_34 : decode prog_12_method_3_code 34 = .ok (.iload 6, 2) := by decide +kernel
theorem d_RM_add_36 : decode prog_12_method_3_code 36 = .ok (.iload 4, 2) := by decide +kernel
theorem d_RM_add_38 : decode prog_12_method_3_code 38 = .ok (.iastore, 1) := by decide +kernel
theorem d_RM_add_39 : decode prog_12_method_3_code 39 = .ok (.aload_n 0, 1) := by decide +kernel
theorem d_RM_add_40 : decode prog_12_method_3_code 40 = .ok (.getfield 62, 3) := by decide +kernel
theorem d_RM_add_43 : decode prog_12_method_3_code 43 = .ok (.iload 6, 2) := by decide +kernel
theorem d_RM_add_45 : decode prog_12_method_3_code 45 = .ok (.iload 5, 2) := by decide +kernel
theorem d_RM_add_47 : decode prog_12_method_3_code 47 = .ok (.iastore, 1) := by decide +kernel
theorem d_RM_add_48 : decode prog_12_method_3_code 48 = .ok (.aload_n 0, 1) := by decide +kernel
theorem d_RM_add_49 : decode prog_12_method_3_code 49 = .ok (.getfield 65, 3) := by decide +kernel
theorem d_RM_add_52 : decode prog_12_method_3_code 52 = .ok (.iload 6, 2) := by decide +kernel
theorem d_RM_add_54 : decode prog_12_method_3_code 54 = .ok (.iconst 1, 1) := by decide +kernel
theorem d_RM_add_55 : decode prog_12_method_3_code 55 = .ok (.iastore, 1) := by decide +kernel
theorem d_RM_add_56 : decode prog_12_method_3_code 56 = .ok (.iload 5, 2) := by decide +kernel
theorem d_RM_add_58 : decode prog_12_method_3_code 58 = .ok (.istore 7, 2) := by decide +kernel
theorem d_RM_add_60 : decode prog_12_method_3_code 60 = .ok (.iload 7, 2) := by decide +kernel
theorem d_RM_add_62 : decode prog_12_method_3_code 62 = .ok (.iconst (-1), 1) := by decide +kernel
theorem d_RM_add_63 : decode prog_12_method_3_code 63 = .ok (.if_icmp .eq 38, 3) := by decide +kernel
theorem d_RM_add_66 : decode prog_12_method_3_code 66 = .ok (.aload_n 0, 1) := by decide +kernel
theorem d_RM_add_67 : decode prog_12_method_3_code 67 = .ok (.getfield 65, 3) := by decide +kernel
theorem d_RM_add_70 : decode prog_12_method_3_code 70 = .ok (.sipush 13000, 3) := by decide +kernel
theorem d_RM_add_73 : decode prog_12_method_3_code 73 = .ok (.iload_n 1, 1) := by decide +kernel
theorem d_RM_add_74 : decode prog_12_method_3_code 74 = .ok (.imul, 1) := by decide +kernel
theorem d_RM_add_75 : decode prog_12_method_3_code 75 = .ok (.iload 7, 2) := by decide +kernel
theorem d_RM_add_77 : decode prog_12_method_3_code 77 = .ok (.iadd, 1) := by decide +kernel
theorem d_RM_add_78 : decode prog_12_method_3_code 78 = .ok (.dup2, 1) := by decide +kernel
theorem d_RM_add_79 : decode prog_12_method_3_code 79 = .ok (.iaload, 1) := by decide +kernel
theorem d_RM_add_80 : decode prog_12_method_3_code 80 = .ok (.iconst 1, 1) := by decide +kernel
theorem d_RM_add_81 : decode prog_12_method_3_code 81 = .ok (.iadd, 1) := by decide +kernel
theorem d_RM_add_82 : decode prog_12_method_3_code 82 = .ok (.iastore, 1) := by decide +kernel
theorem d_RM_add_83 : decode prog_12_method_3_code 83 = .ok (.aload_n 0, 1) := by decide +kernel
theorem d_RM_add_84 : decode prog_12_method_3_code 84 = .ok (.getfield 62, 3) := by decide +kernel
theorem d_RM_add_87 : decode prog_12_method_3_code 87 = .ok (.sipush 13000, 3) := by decide +kernel
theorem d_RM_add_90 : decode prog_12_method_3_code 90 = .ok (.iload_n 1, 1) := by decide +kernel
theorem d_RM_add_91 : decode prog_12_method_3_code 91 = .ok (.imul, 1) := by decide +kernel
theorem d_RM_add_92 : decode prog_12_method_3_code 92 = .ok (.iload 7, 2) := by decide +kernel
theorem d_RM_add_94 : decode prog_12_method_3_code 94 = .ok (.iadd, 1) := by decide +kernel
theorem d_RM_add_95 : decode prog_12_method_3_code 95 = .ok (.iaload, 1) := by decide +kernel
theorem d_RM_add_96 : decode prog_12_method_3_code 96 = .ok (.istore 7, 2) := by decide +kernel
theorem d_RM_add_98 : decode prog_12_method_3_code 98 = .ok (.goto (-38), 3) := by decide +kernel
theorem d_RM_add_101 : decode prog_12_method_3_code 101 = .ok (.aload_n 0, 1) := by decide +kernel
theorem d_RM_add_102 : decode prog_12_method_3_code 102 = .ok (.getfield 68, 3) := by decide +kernel
theorem d_RM_add_105 : decode prog_12_method_3_code 105 = .ok (.iload_n 1, 1) := by decide +kernel
theorem d_RM_add_106 : decode prog_12_method_3_code 106 = .ok (.dup2, 1) := by decide +kernel
theorem d_RM_add_107 : decode prog_12_method_3_code 107 = .ok (.iaload, 1) := by decide +kernel
theorem d_RM_add_108 : decode prog_12_method_3_code 108 = .ok (.iconst 1, 1) := by decide +kernel
theorem d_RM_add_109 : decode prog_12_method_3_code 109 = .ok (.iadd, 1) := by decide +kernel
theorem d_RM_add_110 : decode prog_12_method_3_code 110 = .ok (.iastore, 1) := by decide +kernel
theorem d_RM_add_111 : decode prog_12_method_3_code 111 = .ok (.aload_n 0, 1) := by decide +kernel
theorem d_RM_add_112 : decode prog_12_method_3_code 112 = .ok (.getfield 68, 3) := by decide +kernel
theorem d_RM_add_115 : decode prog_12_method_3_code 115 = .ok (.iload_n 1, 1) := by decide +kernel
theorem d_RM_add_116 : decode prog_12_method_3_code 116 = .ok (.iaload, 1) := by decide +kernel
theorem d_RM_add_117 : decode prog_12_method_3_code 117 = .ok (.iconst 1, 1) := by decide +kernel
theorem d_RM_add_118 : decode prog_12_method_3_code 118 = .ok (.isub, 1) := by decide +kernel
theorem d_RM_add_119 : decode prog_12_method_3_code 119 = .ok (.ireturn, 1) := by decide +kernel
theorem d_RM_feed_0 : decode prog_12_method_4_code 0 = .ok (.aload_n 0, 1) := by decide +kernel
theorem d_RM_feed_1 : decode prog_12_method_4_code 1 = .ok (.getfield 107, 3) := by decide +kernel
theorem d_RM_feed_4 : decode prog_12_method_4_code 4 = .ok (.bipush 20, 2) := by decide +kernel
theorem d_RM_feed_6 : decode prog_12_method_4_code 6 = .ok (.iadd, 1) := by decide +kernel
theorem d_RM_feed_7 : decode prog_12_method_4_code 7 = .ok (.sipush 8000, 3) := by decide +kernel
theorem d_RM_feed_10 : decode prog_12_method_4_code 10 = .ok (.if_icmp .le 5, 3) := by decide +kernel
theorem d_RM_feed_13 : decode prog_12_method_4_code 13 = .ok (.iconst (-1), 1) := by decide +kernel
theorem d_RM_feed_14 : decode prog_12_method_4_code 14 = .ok (.ireturn, 1) := by decide +kernel
theorem d_RM_feed_15 : decode prog_12_method_4_code 15 = .ok (.iconst 0, 1) := by decide +kernel
theorem d_RM_feed_16 : decode prog_12_method_4_code 16 = .ok (.istore 6, 2) := by decide +kernel
theorem d_RM_feed_18 : decode prog_12_method_4_code 18 = .ok (.iload 6, 2) := by decide +kernel
theorem d_RM_feed_20 : decode prog_12_method_4_code 20 = .ok (.bipush 20, 2) := by decide +kernel
theorem d_RM_feed_22 : decode prog_12_method_4_code 22 = .ok (.if_icmp .ge 93, 3) := by decide +kernel
theorem d_RM_feed_25 : decode prog_12_method_4_code 25 = .ok (.iload 6, 2) := by decide +kernel
theorem d_RM_feed_27 : decode prog_12_method_4_code 27 = .ok (.iconst 4, 1) := by decide +kernel
theorem d_RM_feed_28 : decode prog_12_method_4_code 28 = .ok (.if_icmp .ge 7, 3) := by decide +kernel
theorem d_RM_feed_31 : decode prog_12_method_4_code 31 = .ok (.iload_n 1, 1) := by decide +kernel
theorem d_RM_feed_32 : decode prog_12_method_4_code 32 = .ok (.goto 39, 3) := by decide +kernel
theorem d_RM_feed_35 : decode prog_12_method_4_code 35 = .ok (.iload 6, 2) := by decide +kernel
theorem d_RM_feed_37 : decode prog_12_method_4_code 37 = .ok (.bipush 8, 2) := by decide +kernel
theorem d_RM_feed_39 : decode prog_12_method_4_code 39 = .ok (.if_icmp .ge 7, 3) := by decide +kernel
theorem d_RM_feed_42 : decode prog_12_method_4_code 42 = .ok (.iload_n 2, 1) := by decide +kernel
theorem d_RM_feed_43 : decode prog_12_method_4_code 43 = .ok (.goto 28, 3) := by decide +kernel
theorem d_RM_feed_46 : decode prog_12_method_4_code 46 = .ok (.iload 6, 2) := by decide +kernel
theorem d_RM_feed_48 : decode prog_12_method_4_code 48 = .ok (.bipush 12, 2) := by decide +kernel
theorem d_RM_feed_50 : decode prog_12_method_4_code 50 = .ok (.if_icmp .ge 7, 3) := by decide +kernel
theorem d_RM_feed_53 : decode prog_12_method_4_code 53 = .ok (.iload_n 3, 1) := by decide +kernel
theorem d_RM_feed_54 : decode prog_12_method_4_code 54 = .ok (.goto 17, 3) := by decide +kernel
theorem d_RM_feed_57 : decode prog_12_method_4_code 57 = .ok (.iload 6, 2) := by decide +kernel
theorem d_RM_feed_59 : decode prog_12_method_4_code 59 = .ok (.bipush 16, 2) := by decide +kernel
theorem d_RM_feed_61 : decode prog_12_method_4_code 61 = .ok (.if_icmp .ge 8, 3) := by decide +kernel
theorem d_RM_feed_64 : decode prog_12_method_4_code 64 = .ok (.iload 4, 2) := by decide +kernel
theorem d_RM_feed_66 : decode prog_12_method_4_code 66 = .ok (.goto 5, 3) := by decide +kernel
theorem d_RM_feed_69 : decode prog_12_method_4_code 69 = .ok (.iload 5, 2) := by decide +kernel
theorem d_RM_feed_71 : decode prog_12_method_4_code 71 = .ok (.istore 7, 2) := by decide +kernel
theorem d_RM_feed_73 : decode prog_12_method_4_code 73 = .ok (.aload_n 0, 1) := by decide +kernel
theorem d_RM_feed_74 : decode prog_12_method_4_code 74 = .ok (.getfield 9, 3) := by decide +kernel
theorem d_RM_feed_77 : decode prog_12_method_4_code 77 = .ok (.aload_n 0, 1) := by decide +kernel
theorem d_RM_feed_78 : decode prog_12_method_4_code 78 = .ok (.getfield 107, 3) := by decide +kernel
theorem d_RM_feed_81 : decode prog_12_method_4_code 81 = .ok (.iload 7, 2) := by decide +kernel
theorem d_RM_feed_83 : decode prog_12_method_4_code 83 = .ok (.bipush 24, 2) := by decide +kernel
theorem d_RM_feed_85 : decode prog_12_method_4_code 85 = .ok (.bipush 8, 2) := by decide +kernel
theorem d_RM_feed_87 : decode prog_12_method_4_code 87 = .ok (.iload 6, 2) := by decide +kernel
theorem d_RM_feed_89 : decode prog_12_method_4_code 89 = .ok (.iconst 4, 1) := by decide +kernel
theorem d_RM_feed_90 : decode prog_12_method_4_code 90 = .ok (.irem, 1) := by decide +kernel
theorem d_RM_feed_91 : decode prog_12_method_4_code 91 = .ok (.imul, 1) := by decide +kernel
theorem d_RM_feed_92 : decode prog_12_method_4_code 92 = .ok (.isub, 1) := by decide +kernel
theorem d_RM_feed_93 : decode prog_12_method_4_code 93 = .ok (.ishr, 1) := by decide +kernel
theorem d_RM_feed_94 : decode prog_12_method_4_code 94 = .ok (.sipush 255, 3) := by decide +kernel
theorem d_RM_feed_97 : decode prog_12_method_4_code 97 = .ok (.iand, 1) := by decide +kernel
theorem d_RM_feed_98 : decode prog_12_method_4_code 98 = .ok (.iastore, 1) := by decide +kernel
theorem d_RM_feed_99 : decode prog_12_method_4_code 99 = .ok (.aload_n 0, 1) := by decide +kernel
theorem d_RM_feed_100 : decode prog_12_method_4_code 100 = .ok (.dup, 1) := by decide +kernel
theorem d_RM_feed_101 : decode prog_12_method_4_code 101 = .ok (.getfield 107, 3) := by decide +kernel
theorem d_RM_feed_104 : decode prog_12_method_4_code 104 = .ok (.iconst 1, 1) := by decide +kernel
theorem d_RM_feed_105 : decode prog_12_method_4_code 105 = .ok (.iadd, 1) := by decide +kernel
theorem d_RM_feed_106 : decode prog_12_method_4_code 106 = .ok (.putfield 107, 3) := by decide +kernel
theorem d_RM_feed_109 : decode prog_12_method_4_code 109 = .ok (.iinc 6 1, 3) := by decide +kernel
theorem d_RM_feed_112 : decode prog_12_method_4_code 112 = .ok (.goto (-94), 3) := by decide +kernel
theorem d_RM_feed_115 : decode prog_12_method_4_code 115 = .ok (.aload_n 0, 1) := by decide +kernel
theorem d_RM_feed_116 : decode prog_12_method_4_code 116 = .ok (.getfield 107, 3) := by decide +kernel
theorem d_RM_feed_119 : decode prog_12_method_4_code 119 = .ok (.ireturn, 1) := by decide +kernel
theorem d_RM_isAt_0 : decode prog_12_method_5_code 0 = .ok (.iload_n 1, 1) := by decide +kernel
theorem d_RM_isAt_1 : decode prog_12_method_5_code 1 = .ok (.iconst 1, 1) := by decide +kernel
theorem d_RM_isAt_2 : decode prog_12_method_5_code 2 = .ok (.iadd, 1) := by decide +kernel
theorem d_RM_isAt_3 : decode prog_12_method_5_code 3 = .ok (.aload_n 0, 1) := by decide +kernel
theorem d_RM_isAt_4 : decode prog_12_method_5_code 4 = .ok (.getfield 110, 3) := by decide +kernel
theorem d_RM_isAt_7 : decode prog_12_method_5_code 7 = .ok (.if_icmp .ge 29, 3) := by decide +kernel
theorem d_RM_isAt_10 : decode prog_12_method_5_code 10 = .ok (.aload_n 0, 1) := by decide +kernel
theorem d_RM_isAt_11 : decode prog_12_method_5_code 11 = .ok (.getfield 9, 3) := by decide +kernel
theorem d_RM_isAt_14 : decode prog_12_method_5_code 14 = .ok (.iload_n 1, 1) := by decide +kernel
theorem d_RM_isAt_15 : decode prog_12_method_5_code 15 = .ok (.iaload, 1) := by decide +kernel
theorem d_RM_isAt_16 : decode prog_12_method_5_code 16 = .ok (.iload_n 2, 1) := by decide +kernel
theorem d_RM_isAt_17 : decode prog_12_method_5_code 17 = .ok (.if_icmp .ne 19, 3) := by decide +kernel
theorem d_RM_isAt_20 : decode prog_12_method_5_code 20 = .ok (.aload_n 0, 1) := by decide +kernel
theorem d_RM_isAt_21 : decode prog_12_method_5_code 21 = .ok (.getfield 9, 3) := by decide +kernel
theorem d_RM_isAt_24 : decode prog_12_method_5_code 24 = .ok (.iload_n 1, 1) := by decide +kernel
theorem d_RM_isAt_25 : decode prog_12_method_5_code 25 = .ok (.iconst 1, 1) := by decide +kernel
theorem d_RM_isAt_26 : decode prog_12_method_5_code 26 = .ok (.iadd, 1) := by decide +kernel
theorem d_RM_isAt_27 : decode prog_12_method_5_code 27 = .ok (.iaload, 1) := by decide +kernel
theorem d_RM_isAt_28 : decode prog_12_method_5_code 28 = .ok (.iload_n 3, 1) := by decide +kernel
theorem d_RM_isAt_29 : decode prog_12_method_5_code 29 = .ok (.if_icmp .ne 7, 3) := by decide +kernel
theorem d_RM_isAt_32 : decode prog_12_method_5_code 32 = .ok (.iconst 1, 1) := by decide +kernel
theorem d_RM_isAt_33 : decode prog_12_method_5_code 33 = .ok (.goto 4, 3) := by decide +kernel
theorem d_RM_isAt_36 : decode prog_12_method_5_code 36 = .ok (.iconst 0, 1) := by decide +kernel
theorem d_RM_isAt_37 : decode prog_12_method_5_code 37 = .ok (.ireturn, 1) := by decide +kernel
theorem d_RM_isLetter_0 : decode prog_12_method_6_code 0 = .ok (.iload_n 0, 1) := by decide +kernel
theorem d_RM_isLetter_1 : decode prog_12_method_6_code 1 = .ok (.bipush 97, 2) := by decide +kernel
theorem d_RM_isLetter_3 : decode prog_12_method_6_code 3 = .ok (.if_icmp .lt 9, 3) := by decide +kernel
theorem d_RM_isLetter_6 : decode prog_12_method_6_code 6 = .ok (.iload_n 0, 1) := by decide +kernel
theorem d_RM_isLetter_7 : decode prog_12_method_6_code 7 = .ok (.bipush 122, 2) := by decide +kernel
theorem d_RM_isLetter_9 : decode prog_12_method_6_code 9 = .ok (.if_icmp .le 21, 3) := by decide +kernel
theorem d_RM_isLetter_12 : decode prog_12_method_6_code 12 = .ok (.iload_n 0, 1) := by decide +kernel
theorem d_RM_isLetter_13 : decode prog_12_method_6_code 13 = .ok (.bipush 65, 2) := by decide +kernel
theorem d_RM_isLetter_15 : decode prog_12_method_6_code 15 = .ok (.if_icmp .lt 9, 3) := by decide +kernel
theorem d_RM_isLetter_18 : decode prog_12_method_6_code 18 = .ok (.iload_n 0, 1) := by decide +kernel
theorem d_RM_isLetter_19 : decode prog_12_method_6_code 19 = .ok (.bipush 90, 2) := by decide +kernel
theorem d_RM_isLetter_21 : decode prog_12_method_6_code 21 = .ok (.if_icmp .le 9, 3) := by decide +kernel
theorem d_RM_isLetter_24 : decode prog_12_method_6_code 24 = .ok (.iload_n 0, 1) := by decide +kernel
theorem d_RM_isLetter_25 : decode prog_12_method_6_code 25 = .ok (.bipush 95, 2) := by decide +kernel
theorem d_RM_isLetter_27 : decode prog_12_method_6_code 27 = .ok (.if_icmp .ne 7, 3) := by decide +kernel
theorem d_RM_isLetter_30 : decode prog_12_method_6_code 30 = .ok (.iconst 1, 1) := by decide +kernel
theorem d_RM_isLetter_31 : decode prog_12_method_6_code 31 = .ok (.goto 4, 3) := by decide +kernel
theorem d_RM_isLetter_34 : decode prog_12_method_6_code 34 = .ok (.iconst 0, 1) := by decide +kernel
theorem d_RM_isLetter_35 : decode prog_12_method_6_code 35 = .ok (.ireturn, 1) := by decide +kernel
theorem d_RM_isDigit_0 : decode prog_12_method_7_code 0 = .ok (.iload_n 0, 1) := by decide +kernel
theorem d_RM_isDigit_1 : decode prog_12_method_7_code 1 = .ok (.bipush 48, 2) := by decide +kernel
theorem d_RM_isDigit_3 : decode prog_12_method_7_code 3 = .ok (.if_icmp .lt 13, 3) := by decide +kernel
theorem d_RM_isDigit_6 : decode prog_12_method_7_code 6 = .ok (.iload_n 0, 1) := by decide +kernel
theorem d_RM_isDigit_7 : decode prog_12_method_7_code 7 = .ok (.bipush 57, 2) := by decide +kernel
theorem d_RM_isDigit_9 : decode prog_12_method_7_code 9 = .ok (.if_icmp .gt 7, 3) := by decide +kernel
theorem d_RM_isDigit_12 : decode prog_12_method_7_code 12 = .ok (.iconst 1, 1) := by decide +kernel
theorem d_RM_isDigit_13 : decode prog_12_method_7_code 13 = .ok (.goto 4, 3) := by decide +kernel
theorem d_RM_isDigit_16 : decode prog_12_method_7_code 16 = .ok (.iconst 0, 1) := by decide +kernel
theorem d_RM_isDigit_17 : decode prog_12_method_7_code 17 = .ok (.ireturn, 1) := by decide +kernel
theorem d_RM_isWord_0 : decode prog_12_method_8_code 0 = .ok (.iload_n 1, 1) := by decide +kernel
theorem d_RM_isWord_1 : decode prog_12_method_8_code 1 = .ok (.aload_n 0, 1) := by decide +kernel
theorem d_RM_isWord_2 : decode prog_12_method_8_code 2 = .ok (.getfield 110, 3) := by decide +kernel
theorem d_RM_isWord_5 : decode prog_12_method_8_code 5 = .ok (.if_icmp .ge 31, 3) := by decide +kernel
theorem d_RM_isWord_8 : decode prog_12_method_8_code 8 = .ok (.aload_n 0, 1) := by decide +kernel
theorem d_RM_isWord_9 : decode prog_12_method_8_code 9 = .ok (.getfield 9, 3) := by decide +kernel
theorem d_RM_isWord_12 : decode prog_12_method_8_code 12 = .ok (.iload_n 1, 1) := by decide +kernel
theorem d_RM_isWord_13 : decode prog_12_method_8_code 13 = .ok (.iaload, 1) := by decide +kernel
theorem d_RM_isWord_14 : decode prog_12_method_8_code 14 = .ok (.invokestatic 113, 3) := by decide +kernel
theorem d_RM_isWord_17 : decode prog_12_method_8_code 17 = .ok (.ifCond .ne 15, 3) := by decide +kernel
theorem d_RM_isWord_20 : decode prog_12_method_8_code 20 = .ok (.aload_n 0, 1) := by decide +kernel
theorem d_RM_isWord_21 : decode prog_12_method_8_code 21 = .ok (.getfield 9, 3) := by decide +kernel
theorem d_RM_isWord_24 : decode prog_12_method_8_code 24 = .ok (.iload_n 1, 1) := by decide +kernel
theorem d_RM_isWord_25 : decode prog_12_method_8_code 25 = .ok (.iaload, 1) := by decide +kernel
theorem d_RM_isWord_26 : decode prog_12_method_8_code 26 = .ok (.invokestatic 117, 3) := by decide +kernel
theorem d_RM_isWord_29 : decode prog_12_method_8_code 29 = .ok (.ifCond .eq 7, 3) := by decide +kernel
theorem d_RM_isWord_32 : decode prog_12_method_8_code 32 = .ok (.iconst 1, 1) := by decide +kernel
theorem d_RM_isWord_33 : decode prog_12_method_8_code 33 = .ok (.goto 4, 3) := by decide +kernel
theorem d_RM_isWord_36 : decode prog_12_method_8_code 36 = .ok (.iconst 0, 1) := by decide +kernel
theorem d_RM_isWord_37 : decode prog_12_method_8_code 37 = .ok (.ireturn, 1) := by decide +kernel
theorem d_RM_behindBlanks_0 : decode prog_12_method_9_code 0 = .ok (.iload_n 1, 1) := by decide +kernel
theorem d_RM_behindBlanks_1 : decode prog_12_method_9_code 1 = .ok (.istore_n 2, 1) := by decide +kernel
theorem d_RM_behindBlanks_2 : decode prog_12_method_9_code 2 = .ok (.iconst 1, 1) := by decide +kernel
theorem d_RM_behindBlanks_3 : decode prog_12_method_9_code 3 = .ok (.istore_n 3, 1) := by decide +kernel
theorem d_RM_behindBlanks_4 : decode prog_12_method_9_code 4 = .ok (.iload_n 3, 1) := by decide +kernel
theorem d_RM_behindBlanks_5 : decode prog_12_method_9_code 5 = .ok (.ifCond .eq 95, 3) := by decide +kernel
theorem d_RM_behindBlanks_8 : decode prog_12_method_9_code 8 = .ok (.iload_n 2, 1) := by decide +kernel
theorem d_RM_behindBlanks_9 : decode prog_12_method_9_code 9 = .ok (.aload_n 0, 1) := by decide +kernel
theorem d_RM_behindBlanks_10 : decode prog_12_method_9_code 10 = .ok (.getfield 110, 3) := by decide +kernel
theorem d_RM_behindBlanks_13 : decode prog_12_method_9_code 13 = .ok (.if_icmp .ge 87, 3) := by decide +kernel
theorem d_RM_behindBlanks_16 : decode prog_12_method_9_code 16 = .ok (.aload_n 0, 1) := by decide +kernel
theorem d_RM_behindBlanks_17 : decode prog_12_method_9_code 17 = .ok (.getfield 9, 3) := by decide +kernel
theorem d_RM_behindBlanks_20 : decode prog_12_method_9_code 20 = .ok (.iload_n 2, 1) := by decide +kernel
theorem d_RM_behindBlanks_21 : decode prog_12_method_9_code 21 = .ok (.iaload, 1) := by decide +kernel
theorem d_RM_behindBlanks_22 : decode prog_12_method_9_code 22 = .ok (.istore 4, 2) := by decide +kernel
theorem d_RM_behindBlanks_24 : decode prog_12_method_9_code 24 = .ok (.iload 4, 2) := by decide +kernel
theorem d_RM_behindBlanks_26 : decode prog_12_method_9_code 26 = .ok (.bipush 9, 2) := by decide +kernel
theorem d_RM_behindBlanks_28 : decode prog_12_method_9_code 28 = .ok (.if_icmp .eq 24, 3) := by decide +kernel
theorem d_RM_behindBlanks_31 : decode prog_12_method_9_code 31 = .ok (.iload 4, 2) := by decide +kernel
theorem d_RM_behindBlanks_33 : decode prog_12_method_9_code 33 = .ok (.bipush 10, 2) := by decide +kernel
theorem d_RM_behindBlanks_35 : decode prog_12_method_9_code 35 = .ok (.if_icmp .eq 17, 3) := by decide +kernel
theorem d_RM_behindBlanks_38 : decode prog_12_method_9_code 38 = .ok (.iload 4, 2) := by decide +kernel
theorem d_RM_behindBlanks_40 : decode prog_12_method_9_code 40 = .ok (.bipush 13, 2) := by decide +kernel
theorem d_RM_behindBlanks_42 : decode prog_12_method_9_code 42 = .ok (.if_icmp .eq 10, 3) := by decide +kernel
theorem d_RM_behindBlanks_45 : decode prog_12_method_9_code 45 = .ok (.iload 4, 2) := by decide +kernel
theorem d_RM_behindBlanks_47 : decode prog_12_method_9_code 47 = .ok (.bipush 32, 2) := by decide +kernel
theorem d_RM_behindBlanks_49 : decode prog_12_method_9_code 49 = .ok (.if_icmp .ne 9, 3) := by decide +kernel
theorem d_RM_behindBlanks_52 : decode prog_12_method_9_code 52 = .ok (.iinc 2 1, 3) := by decide +kernel
theorem d_RM_behindBlanks_55 : decode prog_12_method_9_code 55 = .ok (.goto 42, 3) := by decide +kernel
theorem d_RM_behindBlanks_58 : decode prog_12_method_9_code 58 = .ok (.aload_n 0, 1) := by decide +kernel
theorem d_RM_behindBlanks_59 : decode prog_12_method_9_code 59 = .ok (.iload_n 2, 1) := by decide +kernel
theorem d_RM_behindBlanks_60 : decode prog_12_method_9_code 60 = .ok (.bipush 47, 2) := by decide +kernel
theorem d_RM_behindBlanks_62 : decode prog_12_method_9_code 62 = .ok (.bipush 47, 2) := by decide +kernel
theorem d_RM_behindBlanks_64 : decode prog_12_method_9_code 64 = .ok (.invokevirtual 120, 3) := by decide +kernel
theorem d_RM_behindBlanks_67 : decode prog_12_method_9_code 67 = .ok (.ifCond .eq 28, 3) := by decide +kernel
theorem d_RM_behindBlanks_70 : decode prog_12_method_9_code 70 = .ok (.iload_n 2, 1) := by decide +kernel
theorem d_RM_behindBlanks_71 : decode prog_12_method_9_code 71 = .ok (.aload_n 0, 1) := by decide +kernel
theorem d_RM_behindBlanks_72 : decode prog_12_method_9_code 72 = .ok (.getfield 110, 3) := by decide +kernel
theorem d_RM_behindBlanks_75 : decode prog_12_method_9_code 75 = .ok (.if_icmp .ge 22, 3) := by decide +kernel
theorem d_RM_behindBlanks_78 : decode prog_12_method_9_code 78 = .ok (.aload_n 0, 1) := by decide +kernel
theorem d_RM_behindBlanks_79 : decode prog_12_method_9_code 79 = .ok (.getfield 9, 3) := by decide +kernel
theorem d_RM_behindBlanks_82 : decode prog_12_method_9_code 82 = .ok (.iload_n 2, 1) := by decide +kernel
theorem d_RM_behindBlanks_83 : decode prog_12_method_9_code 83 = .ok (.iaload, 1) := by decide +kernel
theorem d_RM_behindBlanks_84 : decode prog_12_method_9_code 84 = .ok (.bipush 10, 2) := by decide +kernel
theorem d_RM_behindBlanks_86 : decode prog_12_method_9_code 86 = .ok (.if_icmp .eq 11, 3) := by decide +kernel
theorem d_RM_behindBlanks_89 : decode prog_12_method_9_code 89 = .ok (.iinc 2 1, 3) := by decide +kernel
theorem d_RM_behindBlanks_92 : decode prog_12_method_9_code 92 = .ok (.goto (-22), 3) := by decide +kernel
theorem d_RM_behindBlanks_95 : decode prog_12_method_9_code 95 = .ok (.iconst 0, 1) := by decide +kernel
theorem d_RM_behindBlanks_96 : decode prog_12_method_9_code 96 = .ok (.istore_n 3, 1) := by decide +kernel
theorem d_RM_behindBlanks_97 : decode prog_12_method_9_code 97 = .ok (.goto (-93), 3) := by decide +kernel
theorem d_RM_behindBlanks_100 : decode prog_12_method_9_code 100 = .ok (.iload_n 2, 1) := by decide +kernel
theorem d_RM_behindBlanks_101 : decode prog_12_method_9_code 101 = .ok (.ireturn, 1) := by decide +kernel
theorem d_RM_wordOf_0 : decode prog_12_method_10_code 0 = .ok (.iconst 0, 1) := by decide +kernel
theorem d_RM_wordOf_1 : decode prog_12_method_10_code 1 = .ok (.istore_n 3, 1) := by decide +kernel
theorem d_RM_wordOf_2 : decode prog_12_method_10_code 2 = .ok (.iload_n 3, 1) := by decide +kernel
theorem d_RM_wordOf_3 : decode prog_12_method_10_code 3 = .ok (.aload_n 0, 1) := by decide +kernel
theorem d_RM_wordOf_4 : decode prog_12_method_10_code 4 = .ok (.getfield 95, 3) := by decide +kernel
theorem d_RM_wordOf_7 : decode prog_12_method_10_code 7 = .ok (.arraylength, 1) := by decide +kernel
theorem d_RM_wordOf_8 : decode prog_12_method_10_code 8 = .ok (.if_icmp .ge 90, 3) := by decide +kernel
theorem d_RM_wordOf_11 : decode prog_12_method_10_code 11 = .ok (.iload_n 2, 1) := by decide +kernel
theorem d_RM_wordOf_12 : decode prog_12_method_10_code 12 = .ok (.aload_n 0, 1) := by decide +kernel
theorem d_RM_wordOf_13 : decode prog_12_method_10_code 13 = .ok (.getfield 95, 3) := by decide +kernel
theorem d_RM_wordOf_16 : decode prog_12_method_10_code 16 = .ok (.iload_n 3, 1) := by decide +kernel
theorem d_RM_wordOf_17 : decode prog_12_method_10_code 17 = .ok (.aaload, 1) := by decide +kernel
theorem d_RM_wordOf_18 : decode prog_12_method_10_code 18 = .ok (.invokevirtual 124, 3) := by decide +kernel
theorem d_RM_wordOf_21 : decode prog_12_method_10_code 21 = .ok (.if_icmp .ne 7, 3) := by decide +kernel
theorem d_RM_wordOf_24 : decode prog_12_method_10_code 24 = .ok (.iconst 1, 1) := by decide +kernel
theorem d_RM_wordOf_25 : decode prog_12_method_10_code 25 = .ok (.goto 4, 3) := by decide +kernel
theorem d_RM_wordOf_28 : decode prog_12_method_10_code 28 = .ok (.iconst 0, 1) := by decide +kernel
theorem d_RM_wordOf_29 : decode prog_12_method_10_code 29 = .ok (.istore 4, 2) := by decide +kernel
theorem d_RM_wordOf_31 : decode prog_12_method_10_code 31 = .ok (.iconst 0, 1) := by decide +kernel
theorem d_RM_wordOf_32 : decode prog_12_method_10_code 32 = .ok (.istore 5, 2) := by decide +kernel
theorem d_RM_wordOf_34 : decode prog_12_method_10_code 34 = .ok (.iload 5, 2) := by decide +kernel
theorem d_RM_wordOf_36 : decode prog_12_method_10_code 36 = .ok (.iload_n 2, 1) := by decide +kernel
theorem d_RM_wordOf_37 : decode prog_12_method_10_code 37 = .ok (.if_icmp .ge 44, 3) := by decide +kernel
theorem d_RM_wordOf_40 : decode prog_12_method_10_code 40 = .ok (.iload 4, 2) := by decide +kernel
theorem d_RM_wordOf_42 : decode prog_12_method_10_code 42 = .ok (.ifCond .eq 39, 3) := by decide +kernel
theorem d_RM_wordOf_45 : decode prog_12_method_10_code 45 = .ok (.aload_n 0, 1) := by decide +kernel
theorem d_RM_wordOf_46 : decode prog_12_method_10_code 46 = .ok (.getfield 9, 3) := by decide +kernel
theorem d_RM_wordOf_49 : decode prog_12_method_10_code 49 = .ok (.iload_n 1, 1) := by decide +kernel
theorem d_RM_wordOf_50 : decode prog_12_method_10_code 50 = .ok (.iload 5, 2) := by decide +kernel
theorem d_RM_wordOf_52 : decode prog_12_method_10_code 52 = .ok (.iadd, 1) := by decide +kernel
theorem d_RM_wordOf_53 : decode prog_12_method_10_code 53 = .ok (.iaload, 1) := by decide +kernel
theorem d_RM_wordOf_54 : decode prog_12_method_10_code 54 = .ok (.aload_n 0, 1) := by decide +kernel
theorem d_RM_wordOf_55 : decode prog_12_method_10_code 55 = .ok (.getfield 95, 3) := by decide +kernel
theorem d_RM_wordOf_58 : decode prog_12_method_10_code 58 = .ok (.iload_n 3, 1) := by decide +kernel
theorem d_RM_wordOf_59 : decode prog_12_method_10_code 59 = .ok (.aaload, 1) := by decide +kernel
theorem d_RM_wordOf_60 : decode prog_12_method_10_code 60 = .ok (.iload 5, 2) := by decide +kernel
theorem d_RM_wordOf_62 : decode prog_12_method_10_code 62 = .ok (.invokevirtual 127, 3) := by decide +kernel
theorem d_RM_wordOf_65 : decode prog_12_method_10_code 65 = .ok (.if_icmp .ne 7, 3) := by decide +kernel
theorem d_RM_wordOf_68 : decode prog_12_method_10_code 68 = .ok (.iconst 1, 1) := by decide +kernel
theorem d_RM_wordOf_69 : decode prog_12_method_10_code 69 = .ok (.goto 4, 3) := by decide +kernel
theorem d_RM_wordOf_72 : decode prog_12_method_10_code 72 = .ok (.iconst 0, 1) := by decide +kernel
theorem d_RM_wordOf_73 : decode prog_12_method_10_code 73 = .ok (.istore 4, 2) := by decide +kernel
theorem d_RM_wordOf_75 : decode prog_12_method_10_code 75 = .ok (.iinc 5 1, 3) := by decide +kernel
theorem d_RM_wordOf_78 : decode prog_12_method_10_code 78 = .ok (.goto (-44), 3) := by decide +kernel
theorem d_RM_wordOf_81 : decode prog_12_method_10_code 81 = .ok (.iload 4, 2) := by decide +kernel
theorem d_RM_wordOf_83 : decode prog_12_method_10_code 83 = .ok (.ifCond .eq 9, 3) := by decide +kernel
theorem d_RM_wordOf_86 : decode prog_12_method_10_code 86 = .ok (.sipush 300, 3) := by decide +kernel
theorem d_RM_wordOf_89 : decode prog_12_method_10_code 89 = .ok (.iload_n 3, 1) := by decide +kernel
theorem d_RM_wordOf_90 : decode prog_12_method_10_code 90 = .ok (.iadd, 1) := by decide +kernel
theorem d_RM_wordOf_91 : decode prog_12_method_10_code 91 = .ok (.ireturn, 1) := by decide +kernel
theorem d_RM_wordOf_92 : decode prog_12_method_10_code 92 = .ok (.iinc 3 1, 3) := by decide +kernel
theorem d_RM_wordOf_95 : decode prog_12_method_10_code 95 = .ok (.goto (-93), 3) := by decide +kernel
theorem d_RM_wordOf_98 : decode prog_12_method_10_code 98 = .ok (.iload_n 2, 1) := by decide +kernel
theorem d_RM_wordOf_99 : decode prog_12_method_10_code 99 = .ok (.bipush 30, 2) := by decide +kernel
theorem d_RM_wordOf_101 : decode prog_12_method_10_code 101 = .ok (.if_icmp .le 7, 3) := by decide +kernel
theorem d_RM_wordOf_104 : decode prog_12_method_10_code 104 = .ok (.iconst 1, 1) := by decide +kernel
theorem d_RM_wordOf_105 : decode prog_12_method_10_code 105 = .ok (.goto 4, 3) := by decide +kernel
theorem d_RM_wordOf_108 : decode prog_12_method_10_code 108 = .ok (.iconst 2, 1) := by decide +kernel
theorem d_RM_wordOf_109 : decode prog_12_method_10_code 109 = .ok (.ireturn, 1) := by decide +kernel
theorem d_RM_isNumber_0 : decode prog_12_method_11_code 0 = .ok (.lconst 0, 1) := by decide +kernel
theorem d_RM_isNumber_1 : decode prog_12_method_11_code 1 = .ok (.lstore_n 3, 1) := by decide +kernel
theorem d_RM_isNumber_2 : decode prog_12_method_11_code 2 = .ok (.iconst 0, 1) := by decide +kernel
theorem d_RM_isNumber_3 : decode prog_12_method_11_code 3 = .ok (.istore 5, 2) := by decide +kernel
theorem d_RM_isNumber_5 : decode prog_12_method_11_code 5 = .ok (.iload 5, 2) := by decide +kernel
theorem d_RM_isNumber_7 : decode prog_12_method_11_code 7 = .ok (.iload_n 2, 1) := by decide +kernel
theorem d_RM_isNumber_8 : decode prog_12_method_11_code 8 = .ok (.if_icmp .ge 38, 3) := by decide +kernel
theorem d_RM_isNumber_11 : decode prog_12_method_11_code 11 = .ok (.lload_n 3, 1) := by decide +kernel
theorem d_RM_isNumber_12 : decode prog_12_method_11_code 12 = .ok (.ldc2_w 131, 3) := by decide +kernel
theorem d_RM_isNumber_15 : decode prog_12_method_11_code 15 = .ok (.lcmp, 1) := by decide +kernel
theorem d_RM_isNumber_16 : decode prog_12_method_11_code 16 = .ok (.ifCond .gt 30, 3) := by decide +kernel
theorem d_RM_isNumber_19 : decode prog_12_method_11_code 19 = .ok (.ldc2_w 133, 3) := by decide +kernel
theorem d_RM_isNumber_22 : decode prog_12_method_11_code 22 = .ok (.lload_n 3, 1) := by decide +kernel
theorem d_RM_isNumber_23 : decode prog_12_method_11_code 23 = .ok (.lmul, 1) := by decide +kernel
theorem d_RM_isNumber_24 : decode prog_12_method_11_code 24 = .ok (.aload_n 0, 1) := by decide +kernel
theorem d_RM_isNumber_25 : decode prog_12_method_11_code 25 = .ok (.getfield 9, 3) := by decide +kernel
theorem d_RM_isNumber_28 : decode prog_12_method_11_code 28 = .ok (.iload_n 1, 1) := by decide +kernel
theorem d_RM_isNumber_29 : decode prog_12_method_11_code 29 = .ok (.iload 5, 2) := by decide +kernel
theorem d_RM_isNumber_31 : decode prog_12_method_11_code 31 = .ok (.iadd, 1) := by decide +kernel
theorem d_RM_isNumber_32 : decode prog_12_method_11_code 32 = .ok (.iaload, 1) := by decide +kernel
theorem d_RM_isNumber_33 : decode prog_12_method_11_code 33 = .ok (.i2l, 1) := by decide +kernel
theorem d_RM_isNumber_34 : decode prog_12_method_11_code 34 = .ok (.ladd, 1) := by decide +kernel
theorem d_RM_isNumber_35 : decode prog_12_method_11_code 35 = .ok (.ldc2_w 135, 3) := by decide +kernel
theorem d_RM_isNumber_38 : decode prog_12_method_11_code 38 = .ok (.lsub, 1) := by decide +kernel
theorem d_RM_isNumber_39 : decode prog_12_method_11_code 39 = .ok (.lstore_n 3, 1) := by decide +kernel
theorem d_RM_isNumber_40 : decode prog_12_method_11_code 40 = .ok (.iinc 5 1, 3) := by decide +kernel
theorem d_RM_isNumber_43 : decode prog_12_method_11_code 43 = .ok (.goto (-38), 3) := by decide +kernel
theorem d_RM_isNumber_46 : decode prog_12_method_11_code 46 = .ok (.lload_n 3, 1) := by decide +kernel
theorem d_RM_isNumber_47 : decode prog_12_method_11_code 47 = .ok (.ldc2_w 131, 3) := by decide +kernel
theorem d_RM_isNumber_50 : decode prog_12_method_11_code 50 = .ok (.lcmp, 1) := by decide +kernel
theorem d_RM_isNumber_51 : decode prog_12_method_11_code 51 = .ok (.ifCond .gt 33, 3) := by decide +kernel
theorem d_RM_isNumber_54 : decode prog_12_method_11_code 54 = .ok (.iload_n 2, 1) := by decide +kernel
theorem d_RM_isNumber_55 : decode prog_12_method_11_code 55 = .ok (.iconst 1, 1) := by decide +kernel
theorem d_RM_isNumber_56 : decode prog_12_method_11_code 56 = .ok (.if_icmp .eq 14, 3) := by decide +kernel
theorem d_RM_isNumber_59 : decode prog_12_method_11_code 59 = .ok (.aload_n 0, 1) := by decide +kernel
theorem d_RM_isNumber_60 : decode prog_12_method_11_code 60 = .ok (.getfield 9, 3) := by decide +kernel
theorem d_RM_isNumber_63 : decode prog_12_method_11_code 63 = .ok (.iload_n 1, 1) := by decide +kernel
theorem d_RM_isNumber_64 : decode prog_12_method_11_code 64 = .ok (.iaload, 1) := by decide +kernel
theorem d_RM_isNumber_65 : decode prog_12_method_11_code 65 = .ok (.bipush 48, 2) := by decide +kernel
theorem d_RM_isNumber_67 : decode prog_12_method_11_code 67 = .ok (.if_icmp .eq 17, 3) := by decide +kernel
theorem d_RM_isNumber_70 : decode prog_12_method_11_code 70 = .ok (.aload_n 0, 1) := by decide +kernel
theorem d_RM_isNumber_71 : decode prog_12_method_11_code 71 = .ok (.iload_n 1, 1) := by decide +kernel
theorem d_RM_isNumber_72 : decode prog_12_method_11_code 72 = .ok (.iload_n 2, 1) := by decide +kernel
theorem d_RM_isNumber_73 : decode prog_12_method_11_code 73 = .ok (.iadd, 1) := by decide +kernel
theorem d_RM_isNumber_74 : decode prog_12_method_11_code 74 = .ok (.invokevirtual 137, 3) := by decide +kernel
theorem d_RM_isNumber_77 : decode prog_12_method_11_code 77 = .ok (.ifCond .ne 7, 3) := by decide +kernel
theorem d_RM_isNumber_80 : decode prog_12_method_11_code 80 = .ok (.iconst 1, 1) := by decide +kernel
theorem d_RM_isNumber_81 : decode prog_12_method_11_code 81 = .ok (.goto 4, 3) := by decide +kernel
theorem d_RM_isNumber_84 : decode prog_12_method_11_code 84 = .ok (.iconst 0, 1) := by decide +kernel
theorem d_RM_isNumber_85 : decode prog_12_method_11_code 85 = .ok (.ireturn, 1) := by decide +kernel
theorem d_RM_scan_0 : decode prog_12_method_12_code 0 = .ok (.aload_n 0, 1) := by decide +kernel
theorem d_RM_scan_1 : decode prog_12_method_12_code 1 = .ok (.iconst 0, 1) := by decide +kernel
theorem d_RM_scan_2 : decode prog_12_method_12_code 2 = .ok (.putfield 140, 3) := by decide +kernel
theorem d_RM_scan_5 : decode prog_12_method_12_code 5 = .ok (.aload_n 0, 1) := by decide +kernel
theorem d_RM_scan_6 : decode prog_12_method_12_code 6 = .ok (.iconst 0, 1) := by decide +kernel
theorem d_RM_scan_7 : decode prog_12_method_12_code 7 = .ok (.invokevirtual 143, 3) := by decide +kernel
theorem d_RM_scan_10 : decode prog_12_method_12_code 10 = .ok (.istore_n 1, 1) := by decide +kernel
theorem d_RM_scan_11 : decode prog_12_method_12_code 11 = .ok (.iconst 1, 1) := by decide +kernel
theorem d_RM_scan_12 : decode prog_12_method_12_code 12 = .ok (.istore_n 2, 1) := by decide +kernel
theorem d_RM_scan_13 : decode prog_12_method_12_code 13 = .ok (.iload_n 2, 1) := by decide +kernel
theorem d_RM_scan_14 : decode prog_12_method_12_code 14 = .ok (.ifCond .eq 475, 3) := by decide +kernel
theorem d_RM_scan_17 : decode prog_12_method_12_code 17 = .ok (.iconst 1, 1) := by decide +kernel
theorem d_RM_scan_18 : decode prog_12_method_12_code 18 = .ok (.istore_n 3, 1) := by decide +kernel
theorem d_RM_scan_19 : decode prog_12_method_12_code 19 = .ok (.iconst 1, 1) := by decide +kernel
theorem d_RM_scan_20 : decode prog_12_method_12_code 20 = .ok (.istore 4, 2) := by decide +kernel
theorem d_RM_scan_22 : decode prog_12_method_12_code 22 = .ok (.iload_n 1, 1) := by decide +kernel
theorem d_RM_scan_23 : decode prog_12_method_12_code 23 = .ok (.aload_n 0, 1) := by decide +kernel
theorem d_RM_scan_24 : decode prog_12_method_12_code 24 = .ok (.getfield 110, 3) := by decide +kernel
theorem d_RM_scan_27 : decode prog_12_method_12_code 27 = .ok (.if_icmp .ge 12, 3) := by decide +kernel
theorem d_RM_scan_30 : decode prog_12_method_12_code 30 = .ok (.aload_n 0, 1) := by decide +kernel
theorem d_RM_scan_31 : decode prog_12_method_12_code 31 = .ok (.getfield 9, 3) := by decide +kernel
theorem d_RM_scan_34 : decode prog_12_method_12_code 34 = .ok (.iload_n 1, 1) := by decide +kernel
theorem d_RM_scan_35 : decode prog_12_method_12_code 35 = .ok (.iaload, 1) := by decide +kernel
theorem d_RM_scan_36 : decode prog_12_method_12_code 36 = .ok (.goto 4, 3) := by decide +kernel
theorem d_RM_scan_39 : decode prog_12_method_12_code 39 = .ok (.iconst 0, 1) := by decide +kernel
theorem d_RM_scan_40 : decode prog_12_method_12_code 40 = .ok (.istore 5, 2) := by decide +kernel
theorem d_RM_scan_42 : decode prog_12_method_12_code 42 = .ok (.iload_n 1, 1) := by decide +kernel
theorem d_RM_scan_43 : decode prog_12_method_12_code 43 = .ok (.aload_n 0, 1) := by decide +kernel
theorem d_RM_scan_44 : decode prog_12_method_12_code 44 = .ok (.getfield 110, 3) := by decide +kernel
theorem d_RM_scan_47 : decode prog_12_method_12_code 47 = .ok (.if_icmp .lt 11, 3) := by decide +kernel
theorem d_RM_scan_50 : decode prog_12_method_12_code 50 = .ok (.iconst 0, 1) := by decide +kernel
theorem d_RM_scan_51 : decode prog_12_method_12_code 51 = .ok (.istore 4, 2) := by decide +kernel
theorem d_RM_scan_53 : decode prog_12_method_12_code 53 = .ok (.iconst 0, 1) := by decide +kernel
theorem d_RM_scan_54 : decode prog_12_method_12_code 54 = .ok (.istore_n 3, 1) := by decide +kernel
theorem d_RM_scan_55 : decode prog_12_method_12_code 55 = .ok (.goto 365, 3) := by decide +kernel
theorem d_RM_scan_58 : decode prog_12_method_12_code 58 = .ok (.iload 5, 2) := by decide +kernel
theorem d_RM_scan_60 : decode prog_12_method_12_code 60 = .ok (.invokestatic 113, 3) := by decide +kernel
theorem d_RM_scan_63 : decode prog_12_method_12_code 63 = .ok (.ifCond .eq 30, 3) := by decide +kernel
theorem d_RM_scan_66 : decode prog_12_method_12_code 66 = .ok (.aload_n 0, 1) := by decide +kernel
theorem d_RM_scan_67 : decode prog_12_method_12_code 67 = .ok (.iload_n 1, 1) := by decide +kernel
theorem d_RM_scan_68 : decode prog_12_method_12_code 68 = .ok (.iload_n 3, 1) := by decide +kernel
theorem d_RM_scan_69 : decode prog_12_method_12_code 69 = .ok (.iadd, 1) := by decide +kernel
theorem d_RM_scan_70 : decode prog_12_method_12_code 70 = .ok (.invokevirtual 137, 3) := by decide +kernel
theorem d_RM_scan_73 : decode prog_12_method_12_code 73 = .ok (.ifCond .eq 9, 3) := by decide +kernel
theorem d_RM_scan_76 : decode prog_12_method_12_code 76 = .ok (.iinc 3 1, 3) := by decide +kernel
theorem d_RM_scan_79 : decode prog_12_method_12_code 79 = .ok (.goto (-13), 3) := by decide +kernel
theorem d_RM_scan_82 : decode prog_12_method_12_code 82 = .ok (.aload_n 0, 1) := by decide +kernel
theorem d_RM_scan_83 : decode prog_12_method_12_code 83 = .ok (.iload_n 1, 1) := by decide +kernel
theorem d_RM_scan_84 : decode prog_12_method_12_code 84 = .ok (.iload_n 3, 1) := by decide +kernel
theorem d_RM_scan_85 : decode prog_12_method_12_code 85 = .ok (.invokevirtual 147, 3) := by decide +kernel
theorem d_RM_scan_88 : decode prog_12_method_12_code 88 = .ok (.istore 4, 2) := by decide +kernel
theorem d_RM_scan_90 : decode prog_12_method_12_code 90 = .ok (.goto 330, 3) := by decide +kernel
theorem d_RM_scan_93 : decode prog_12_method_12_code 93 = .ok (.iload 5, 2) := by decide +kernel
theorem d_RM_scan_95 : decode prog_12_method_12_code 95 = .ok (.invokestatic 117, 3) := by decide +kernel
theorem d_RM_scan_98 : decode prog_12_method_12_code 98 = .ok (.ifCond .eq 52, 3) := by decide +kernel
theorem d_RM_scan_101 : decode prog_12_method_12_code 101 = .ok (.iload_n 1, 1) := by decide +kernel
theorem d_RM_scan_102 : decode prog_12_method_12_code 102 = .ok (.iload_n 3, 1) := by decide +kernel
theorem d_RM_scan_103 : decode prog_12_method_12_code 103 = .ok (.iadd, 1) := by decide +kernel
theorem d_RM_scan_104 : decode prog_12_method_12_code 104 = .ok (.aload_n 0, 1) := by decide +kernel
theorem d_RM_scan_105 : decode prog_12_method_12_code 105 = .ok (.getfield 110, 3) := by decide +kernel
theorem d_RM_scan_108 : decode prog_12_method_12_code 108 = .ok (.if_icmp .ge 23, 3) := by decide +kernel
theorem d_RM_scan_111 : decode prog_12_method_12_code 111 = .ok (.aload_n 0, 1) := by decide +kernel
theorem d_RM_scan_112 : decode prog_12_method_12_code 112 = .ok (.getfield 9, 3) := by decide +kernel
theorem d_RM_scan_115 : decode prog_12_method_12_code 115 = .ok (.iload_n 1, 1) := by decide +kernel
theorem d_RM_scan_116 : decode prog_12_method_12_code 116 = .ok (.iload_n 3, 1) := by decide +kernel
theorem d_RM_scan_117 : decode prog_12_method_12_code 117 = .ok (.iadd, 1) := by decide +kernel
theorem d_RM_scan_118 : decode prog_12_method_12_code 118 = .ok (.iaload, 1) := by decide +kernel
theorem d_RM_scan_119 : decode prog_12_method_12_code 119 = .ok (.invokestatic 117, 3) := by decide +kernel
theorem d_RM_scan_122 : decode prog_12_method_12_code 122 = .ok (.ifCond .eq 9, 3) := by decide +kernel
theorem d_RM_scan_125 : decode prog_12_method_12_code 125 = .ok (.iinc 3 1, 3) := by decide +kernel
theorem d_RM_scan_128 : decode prog_12_method_12_code 128 = .ok (.goto (-27), 3) := by decide +kernel
theorem d_RM_scan_131 : decode prog_12_method_12_code 131 = .ok (.aload_n 0, 1) := by decide +kernel
theorem d_RM_scan_132 : decode prog_12_method_12_code 132 = .ok (.iload_n 1, 1) := by decide +kernel
theorem d_RM_scan_133 : decode prog_12_method_12_code 133 = .ok (.iload_n 3, 1) := by decide +kernel
theorem d_RM_scan_134 : decode prog_12_method_12_code 134 = .ok (.invokevirtual 151, 3) := by decide +kernel
theorem d_RM_scan_137 : decode prog_12_method_12_code 137 = .ok (.ifCond .eq 7, 3) := by decide +kernel
theorem d_RM_scan_140 : decode prog_12_method_12_code 140 = .ok (.iconst 3, 1) := by decide +kernel
theorem d_RM_scan_141 : decode prog_12_method_12_code 141 = .ok (.goto 4, 3) := by decide +kernel
theorem d_RM_scan_144 : decode prog_12_method_12_code 144 = .ok (.iconst 1, 1) := by decide +kernel
theorem d_RM_scan_145 : decode prog_12_method_12_code 145 = .ok (.istore 4, 2) := by decide +kernel
theorem d_RM_scan_147 : decode prog_12_method_12_code 147 = .ok (.goto 273, 3) := by decide +kernel
theorem d_RM_scan_150 : decode prog_12_method_12_code 150 = .ok (.aload_n 0, 1) := by decide +kernel
theorem d_RM_scan_151 : decode prog_12_method_12_code 151 = .ok (.iload_n 1, 1) := by decide +kernel
theorem d_RM_scan_152 : decode prog_12_method_12_code 152 = .ok (.bipush 60, 2) := by decide +kernel
theorem d_RM_scan_154 : decode prog_12_method_12_code 154 = .ok (.bipush 61, 2) := by decide +kernel
theorem d_RM_scan_156 : decode prog_12_method_12_code 156 = .ok (.invokevirtual 120, 3) := by decide +kernel
theorem d_RM_scan_159 : decode prog_12_method_12_code 159 = .ok (.ifCond .ne 63, 3) := by decide +kernel
theorem d_RM_scan_162 : decode prog_12_method_12_code 162 = .ok (.aload_n 0, 1) := by decide +kernel
theorem d_RM_scan_163 : decode prog_12_method_12_code 163 = .ok (.iload_n 1, 1) := by decide +kernel
theorem d_RM_scan_164 : decode prog_12_method_12_code 164 = .ok (.bipush 62, 2) := by decide +kernel
theorem d_RM_scan_166 : decode prog_12_method_12_code 166 = .ok (.bipush 61, 2) := by decide +kernel
theorem d_RM_scan_168 : decode prog_12_method_12_code 168 = .ok (.invokevirtual 120, 3) := by decide +kernel
theorem d_RM_scan_171 : decode prog_12_method_12_code 171 = .ok (.ifCond .ne 51, 3) := by decide +kernel
theorem d_RM_scan_174 : decode prog_12_method_12_code 174 = .ok (.aload_n 0, 1) := by decide +kernel
theorem d_RM_scan_175 : decode prog_12_method_12_code 175 = .ok (.iload_n 1, 1) := by decide +kernel
theorem d_RM_scan_176 : decode prog_12_method_12_code 176 = .ok (.bipush 61, 2) := by decide +kernel
theorem d_RM_scan_178 : decode prog_12_method_12_code 178 = .ok (.bipush 61, 2) := by decide +kernel
theorem d_RM_scan_180 : decode prog_12_method_12_code 180 = .ok (.invokevirtual 120, 3) := by decide +kernel
theorem d_RM_scan_183 : decode prog_12_method_12_code 183 = .ok (.ifCond .ne 39, 3) := by decide +kernel
theorem d_RM_scan_186 : decode prog_12_method_12_code 186 = .ok (.aload_n 0, 1) := by decide +kernel
theorem d_RM_scan_187 : decode prog_12_method_12_code 187 = .ok (.iload_n 1, 1) := by decide +kernel
theorem d_RM_scan_188 : decode prog_12_method_12_code 188 = .ok (.bipush 33, 2) := by decide +kernel
theorem d_RM_scan_190 : decode prog_12_method_12_code 190 = .ok (.bipush 61, 2) := by decide +kernel
theorem d_RM_scan_192 : decode prog_12_method_12_code 192 = .ok (.invokevirtual 120, 3) := by decide +kernel
theorem d_RM_scan_195 : decode prog_12_method_12_code 195 = .ok (.ifCond .ne 27, 3) := by decide +kernel
theorem d_RM_scan_198 : decode prog_12_method_12_code 198 = .ok (.aload_n 0, 1) := by decide +kernel
theorem d_RM_scan_199 : decode prog_12_method_12_code 199 = .ok (.iload_n 1, 1) := by decide +kernel
theorem d_RM_scan_200 : decode prog_12_method_12_code 200 = .ok (.bipush 38, 2) := by decide +kernel
theorem d_RM_scan_202 : decode prog_12_method_12_code 202 = .ok (.bipush 38, 2) := by decide +kernel
theorem d_RM_scan_204 : decode prog_12_method_12_code 204 = .ok (.invokevirtual 120, 3) := by decide +kernel
theorem d_RM_scan_207 : decode prog_12_method_12_code 207 = .ok (.ifCond .ne 15, 3) := by decide +kernel
theorem d_RM_scan_210 : decode prog_12_method_12_code 210 = .ok (.aload_n 0, 1) := by decide +kernel
theorem d_RM_scan_211 : decode prog_12_method_12_code 211 = .ok (.iload_n 1, 1) := by decide +kernel
theorem d_RM_scan_212 : decode prog_12_method_12_code 212 = .ok (.bipush 124, 2) := by decide +kernel
theorem d_RM_scan_214 : decode prog_12_method_12_code 214 = .ok (.bipush 124, 2) := by decide +kernel
theorem d_RM_scan_216 : decode prog_12_method_12_code 216 = .ok (.invokevirtual 120, 3) := by decide +kernel
theorem d_RM_scan_219 : decode prog_12_method_12_code 219 = .ok (.ifCond .eq 78, 3) := by decide +kernel
theorem d_RM_scan_222 : decode prog_12_method_12_code 222 = .ok (.iconst 2, 1) := by decide +kernel
theorem d_RM_scan_223 : decode prog_12_method_12_code 223 = .ok (.istore_n 3, 1) := by decide +kernel
theorem d_RM_scan_224 : decode prog_12_method_12_code 224 = .ok (.iload 5, 2) := by decide +kernel
theorem d_RM_scan_226 : decode prog_12_method_12_code 226 = .ok (.bipush 60, 2) := by decide +kernel
theorem d_RM_scan_228 : decode prog_12_method_12_code 228 = .ok (.if_icmp .ne 9, 3) := by decide +kernel
theorem d_RM_scan_231 : decode prog_12_method_12_code 231 = .ok (.sipush 256, 3) := by decide +kernel
theorem d_RM_scan_234 : decode prog_12_method_12_code 234 = .ok (.goto 58, 3) := by decide +kernel
theorem d_RM_scan_237 : decode prog_12_method_12_code 237 = .ok (.iload 5, 2) := by decide +kernel
theorem d_RM_scan_239 : decode prog_12_method_12_code 239 = .ok (.bipush 62, 2) := by decide +kernel
theorem d_RM_scan_241 : decode prog_12_method_12_code 241 = .ok (.if_icmp .ne 9, 3) := by decide +kernel
theorem d_RM_scan_244 : decode prog_12_method_12_code 244 = .ok (.sipush 257, 3) := by decide +kernel
theorem d_RM_scan_247 : decode prog_12_method_12_code 247 = .ok (.goto 45, 3) := by decide +kernel
theorem d_RM_scan_250 : decode prog_12_method_12_code 250 = .ok (.iload 5, 2) := by decide +kernel
theorem d_RM_scan_252 : decode prog_12_method_12_code 252 = .ok (.bipush 61, 2) := by decide +kernel
theorem d_RM_scan_254 : decode prog_12_method_12_code 254 = .ok (.if_icmp .ne 9, 3) := by decide +kernel
theorem d_RM_scan_257 : decode prog_12_method_12_code 257 = .ok (.sipush 258, 3) := by decide +kernel
theorem d_RM_scan_260 : decode prog_12_method_12_code 260 = .ok (.goto 32, 3) := by decide +kernel
theorem d_RM_scan_263 : decode prog_12_method_12_code 263 = .ok (.iload 5, 2) := by decide +kernel
theorem d_RM_scan_265 : decode prog_12_method_12_code 265 = .ok (.bipush 33, 2) := by decide +kernel
theorem d_RM_scan_267 : decode prog_12_method_12_code 267 = .ok (.if_icmp .ne 9, 3) := by decide +kernel
theorem d_RM_scan_270 : decode prog_12_method_12_code 270 = .ok (.sipush 259, 3) := by decide +kernel
theorem d_RM_scan_273 : decode prog_12_method_12_code 273 = .ok (.goto 19, 3) := by decide +kernel
theorem d_RM_scan_276 : decode prog_12_method_12_code 276 = .ok (.iload 5, 2) := by decide +kernel
theorem d_RM_scan_278 : decode prog_12_method_12_code 278 = .ok (.bipush 38, 2) := by decide +kernel
theorem d_RM_scan_280 : decode prog_12_method_12_code 280 = .ok (.if_icmp .ne 9, 3) := by decide +kernel
theorem d_RM_scan_283 : decode prog_12_method_12_code 283 = .ok (.sipush 260, 3) := by decide +kernel
theorem d_RM_scan_286 : decode prog_12_method_12_code 286 = .ok (.goto 6, 3) := by decide +kernel
theorem d_RM_scan_289 : decode prog_12_method_12_code 289 = .ok (.sipush 261, 3) := by decide +kernel
theorem d_RM_scan_292 : decode prog_12_method_12_code 292 = .ok (.istore 4, 2) := by decide +kernel
theorem d_RM_scan_294 : decode prog_12_method_12_code 294 = .ok (.goto 126, 3) := by decide +kernel
theorem d_RM_scan_297 : decode prog_12_method_12_code 297 = .ok (.iload 5, 2) := by decide +kernel
theorem d_RM_scan_299 : decode prog_12_method_12_code 299 = .ok (.bipush 40, 2) := by decide +kernel
theorem d_RM_scan_301 : decode prog_12_method_12_code 301 = .ok (.if_icmp .eq 115, 3) := by decide +kernel
theorem d_RM_scan_304 : decode prog_12_method_12_code 304 = .ok (.iload 5, 2) := by decide +kernel
theorem d_RM_scan_306 : decode prog_12_method_12_code 306 = .ok (.bipush 41, 2) := by decide +kernel
theorem d_RM_scan_308 : decode prog_12_method_12_code 308 = .ok (.if_icmp .eq 108, 3) := by decide +kernel
theorem d_RM_scan_311 : decode prog_12_method_12_code 311 = .ok (.iload 5, 2) := by decide +kernel
theorem d_RM_scan_313 : decode prog_12_method_12_code 313 = .ok (.bipush 123, 2) := by decide +kernel
theorem d_RM_scan_315 : decode prog_12_method_12_code 315 = .ok (.if_icmp .eq 101, 3) := by decide +kernel
theorem d_RM_scan_318 : decode prog_12_method_12_code 318 = .ok (.iload 5, 2) := by decide +kernel
theorem d_RM_scan_320 : decode prog_12_method_12_code 320 = .ok (.bipush 125, 2) := by decide +kernel
theorem d_RM_scan_322 : decode prog_12_method_12_code 322 = .ok (.if_icmp .eq 94, 3) := by decide +kernel
theorem d_RM_scan_325 : decode prog_12_method_12_code 325 = .ok (.iload 5, 2) := by decide +kernel
theorem d_RM_scan_327 : decode prog_12_method_12_code 327 = .ok (.bipush 91, 2) := by decide +kernel
theorem d_RM_scan_329 : decode prog_12_method_12_code 329 = .ok (.if_icmp .eq 87, 3) := by decide +kernel
theorem d_RM_scan_332 : decode prog_12_method_12_code 332 = .ok (.iload 5, 2) := by decide +kernel
theorem d_RM_scan_334 : decode prog_12_method_12_code 334 = .ok (.bipush 93, 2) := by decide +kernel
theorem d_RM_scan_336 : decode prog_12_method_12_code 336 = .ok (.if_icmp .eq 80, 3) := by decide +kernel
theorem d_RM_scan_339 : decode prog_12_method_12_code 339 = .ok (.iload 5, 2) := by decide +kernel
theorem d_RM_scan_341 : decode prog_12_method_12_code 341 = .ok (.bipush 44, 2) := by decide +kernel
theorem d_RM_scan_343 : decode prog_12_method_12_code 343 = .ok (.if_icmp .eq 73, 3) := by decide +kernel
theorem d_RM_scan_346 : decode prog_12_method_12_code 346 = .ok (.iload 5, 2) := by decide +kernel
theorem d_RM_scan_348 : decode prog_12_method_12_code 348 = .ok (.bipush 59, 2) := by decide +kernel
theorem d_RM_scan_350 : decode prog_12_method_12_code 350 = .ok (.if_icmp .eq 66, 3) := by decide +kernel
theorem d_RM_scan_353 : decode prog_12_method_12_code 353 = .ok (.iload 5, 2) := by decide +kernel
theorem d_RM_scan_355 : decode prog_12_method_12_code 355 = .ok (.bipush 61, 2) := by decide +kernel
theorem d_RM_scan_357 : decode prog_12_method_12_code 357 = .ok (.if_icmp .eq 59, 3) := by decide +kernel
theorem d_RM_scan_360 : decode prog_12_method_12_code 360 = .ok (.iload 5, 2) := by decide +kernel
theorem d_RM_scan_362 : decode prog_12_method_12_code 362 = .ok (.bipush 43, 2) := by decide +kernel
theorem d_RM_scan_364 : decode prog_12_method_12_code 364 = .ok (.if_icmp .eq 52, 3) := by decide +kernel
theorem d_RM_scan_367 : decode prog_12_method_12_code 367 = .ok (.iload 5, 2) := by decide +kernel
theorem d_RM_scan_369 : decode prog_12_method_12_code 369 = .ok (.bipush 45, 2) := by decide +kernel
theorem d_RM_scan_371 : decode prog_12_method_12_code 371 = .ok (.if_icmp .eq 45, 3) := by decide +kernel
theorem d_RM_scan_374 : decode prog_12_method_12_code 374 = .ok (.iload 5, 2) := by decide +kernel
theorem d_RM_scan_376 : decode prog_12_method_12_code 376 = .ok (.bipush 42, 2) := by decide +kernel
theorem d_RM_scan_378 : decode prog_12_method_12_code 378 = .ok (.if_icmp .eq 38, 3) := by decide +kernel
theorem d_RM_scan_381 : decode prog_12_method_12_code 381 = .ok (.iload 5, 2) := by decide +kernel
theorem d_RM_scan_383 : decode prog_12_method_12_code 383 = .ok (.bipush 47, 2) := by decide +kernel
theorem d_RM_scan_385 : decode prog_12_method_12_code 385 = .ok (.if_icmp .eq 31, 3) := by decide +kernel
theorem d_RM_scan_388 : decode prog_12_method_12_code 388 = .ok (.iload 5, 2) := by decide +kernel
theorem d_RM_scan_390 : decode prog_12_method_12_code 390 = .ok (.bipush 37, 2) := by decide +kernel
theorem d_RM_scan_392 : decode prog_12_method_12_code 392 = .ok (.if_icmp .eq 24, 3) := by decide +kernel
theorem d_RM_scan_395 : decode prog_12_method_12_code 395 = .ok (.iload 5, 2) := by decide +kernel
theorem d_RM_scan_397 : decode prog_12_method_12_code 397 = .ok (.bipush 60, 2) := by decide +kernel
theorem d_RM_scan_399 : decode prog_12_method_12_code 399 = .ok (.if_icmp .eq 17, 3) := by decide +kernel
theorem d_RM_scan_402 : decode prog_12_method_12_code 402 = .ok (.iload 5, 2) := by decide +kernel
theorem d_RM_scan_404 : decode prog_12_method_12_code 404 = .ok (.bipush 62, 2) := by decide +kernel
theorem d_RM_scan_406 : decode prog_12_method_12_code 406 = .ok (.if_icmp .eq 10, 3) := by decide +kernel
theorem d_RM_scan_409 : decode prog_12_method_12_code 409 = .ok (.iload 5, 2) := by decide +kernel
theorem d_RM_scan_411 : decode prog_12_method_12_code 411 = .ok (.bipush 33, 2) := by decide +kernel
theorem d_RM_scan_413 : decode prog_12_method_12_code 413 = .ok (.if_icmp .ne 7, 3) := by decide +kernel
theorem d_RM_scan_416 : decode prog_12_method_12_code 416 = .ok (.iload 5, 2) := by decide +kernel
theorem d_RM_scan_418 : decode prog_12_method_12_code 418 = .ok (.istore 4, 2) := by decide +kernel
theorem d_RM_scan_420 : decode prog_12_method_12_code 420 = .ok (.aload_n 0, 1) := by decide +kernel
theorem d_RM_scan_421 : decode prog_12_method_12_code 421 = .ok (.getfield 19, 3) := by decide +kernel
theorem d_RM_scan_424 : decode prog_12_method_12_code 424 = .ok (.aload_n 0, 1) := by decide +kernel
theorem d_RM_scan_425 : decode prog_12_method_12_code 425 = .ok (.getfield 140, 3) := by decide +kernel
theorem d_RM_scan_428 : decode prog_12_method_12_code 428 = .ok (.iload 4, 2) := by decide +kernel
theorem d_RM_scan_430 : decode prog_12_method_12_code 430 = .ok (.iastore, 1) := by decide +kernel
theorem d_RM_scan_431 : decode prog_12_method_12_code 431 = .ok (.aload_n 0, 1) := by decide +kernel
theorem d_RM_scan_432 : decode prog_12_method_12_code 432 = .ok (.getfield 22, 3) := by decide +kernel
theorem d_RM_scan_435 : decode prog_12_method_12_code 435 = .ok (.aload_n 0, 1) := by decide +kernel
theorem d_RM_scan_436 : decode prog_12_method_12_code 436 = .ok (.getfield 140, 3) := by decide +kernel
theorem d_RM_scan_439 : decode prog_12_method_12_code 439 = .ok (.iload_n 1, 1) := by decide +kernel
theorem d_RM_scan_440 : decode prog_12_method_12_code 440 = .ok (.iastore, 1) := by decide +kernel
theorem d_RM_scan_441 : decode prog_12_method_12_code 441 = .ok (.aload_n 0, 1) := by decide +kernel
theorem d_RM_scan_442 : decode prog_12_method_12_code 442 = .ok (.getfield 25, 3) := by decide +kernel
theorem d_RM_scan_445 : decode prog_12_method_12_code 445 = .ok (.aload_n 0, 1) := by decide +kernel
theorem d_RM_scan_446 : decode prog_12_method_12_code 446 = .ok (.getfield 140, 3) := by decide +kernel
theorem d_RM_scan_449 : decode prog_12_method_12_code 449 = .ok (.iload_n 3, 1) := by decide +kernel
theorem d_RM_scan_450 : decode prog_12_method_12_code 450 = .ok (.iastore, 1) := by decide +kernel
theorem d_RM_scan_451 : decode prog_12_method_12_code 451 = .ok (.aload_n 0, 1) := by decide +kernel
theorem d_RM_scan_452 : decode prog_12_method_12_code 452 = .ok (.dup, 1) := by decide +kernel
theorem d_RM_scan_453 : decode prog_12_method_12_code 453 = .ok (.getfield 140, 3) := by decide +kernel
theorem d_RM_scan_456 : decode prog_12_method_12_code 456 = .ok (.iconst 1, 1) := by decide +kernel
theorem d_RM_scan_457 : decode prog_12_method_12_code 457 = .ok (.iadd, 1) := by decide +kernel
theorem d_RM_scan_458 : decode prog_12_method_12_code 458 = .ok (.putfield 140, 3) := by decide +kernel
theorem d_RM_scan_461 : decode prog_12_method_12_code 461 = .ok (.iload 4, 2) := by decide +kernel
theorem d_RM_scan_463 : decode prog_12_method_12_code 463 = .ok (.iconst 1, 1) := by decide +kernel
theorem d_RM_scan_464 : decode prog_12_method_12_code 464 = .ok (.if_icmp .eq 12, 3) := by decide +kernel
theorem d_RM_scan_467 : decode prog_12_method_12_code 467 = .ok (.iload 4, 2) := by decide +kernel
theorem d_RM_scan_469 : decode prog_12_method_12_code 469 = .ok (.ifCond .eq 7, 3) := by decide +kernel
theorem d_RM_scan_472 : decode prog_12_method_12_code 472 = .ok (.iconst 1, 1) := by decide +kernel
theorem d_RM_scan_473 : decode prog_12_method_12_code 473 = .ok (.goto 4, 3) := by decide +kernel
theorem d_RM_scan_476 : decode prog_12_method_12_code 476 = .ok (.iconst 0, 1) := by decide +kernel
theorem d_RM_scan_477 : decode prog_12_method_12_code 477 = .ok (.istore_n 2, 1) := by decide +kernel
theorem d_RM_scan_478 : decode prog_12_method_12_code 478 = .ok (.aload_n 0, 1) := by decide +kernel
theorem d_RM_scan_479 : decode prog_12_method_12_code 479 = .ok (.iload_n 1, 1) := by decide +kernel
theorem d_RM_scan_480 : decode prog_12_method_12_code 480 = .ok (.iload_n 3, 1) := by decide +kernel
theorem d_RM_scan_481 : decode prog_12_method_12_code 481 = .ok (.iadd, 1) := by decide +kernel
theorem d_RM_scan_482 : decode prog_12_method_12_code 482 = .ok (.invokevirtual 143, 3) := by decide +kernel
theorem d_RM_scan_485 : decode prog_12_method_12_code 485 = .ok (.istore_n 1, 1) := by decide +kernel
theorem d_RM_scan_486 : decode prog_12_method_12_code 486 = .ok (.goto (-473), 3) := by decide +kernel
theorem d_RM_scan_489 : decode prog_12_method_12_code 489 = .ok (.return_, 1) := by decide +kernel
