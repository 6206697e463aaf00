theorem d_RM_show_0 : decode prog_12_method_58_code 0 = .ok (.aload_n 0, 1) := by decide +kernel
theorem d_RM_show_1 : decode prog_12_method_58_code 1 = .ok (.iload_n 1, 1) := by decide +kernel
theorem d_RM_show_2 : decode prog_12_method_58_code 2 = .ok (.iload_n 2, 1) := by decide +kernel
theorem d_RM_show_3 : decode prog_12_method_58_code 3 = .ok (.invokevirtual 261, 3) := by decide +kernel
theorem d_RM_show_6 : decode prog_12_method_58_code 6 = .ok (.istore_n 3, 1) := by decide +kernel
theorem d_RM_show_7 : decode prog_12_method_58_code 7 = .ok (.iload_n 2, 1) := by decide +kernel
theorem d_RM_show_8 : decode prog_12_method_58_code 8 = .ok (.iconst 1, 1) := by decide +kernel
theorem d_RM_show_9 : decode prog_12_method_58_code 9 = .ok (.iadd, 1) := by decide +kernel
theorem d_RM_show_10 : decode prog_12_method_58_code 10 = .ok (.istore 4, 2) := by decide +kernel
theorem d_RM_show_12 : decode prog_12_method_58_code 12 = .ok (.aload_n 0, 1) := by decide +kernel
theorem d_RM_show_13 : decode prog_12_method_58_code 13 = .ok (.iload_n 1, 1) := by decide +kernel
theorem d_RM_show_14 : decode prog_12_method_58_code 14 = .ok (.iload_n 2, 1) := by decide +kernel
theorem d_RM_show_15 : decode prog_12_method_58_code 15 = .ok (.invokevirtual 268, 3) := by decide +kernel
theorem d_RM_show_18 : decode prog_12_method_58_code 18 = .ok (.istore 5, 2) := by decide +kernel
theorem d_RM_show_20 : decode prog_12_method_58_code 20 = .ok (.iload_n 3, 1) := by decide +kernel
theorem d_RM_show_21 : decode prog_12_method_58_code 21 = .ok (.ifCond .eq 8, 3) := by decide +kernel
theorem d_RM_show_24 : decode prog_12_method_58_code 24 = .ok (.iload_n 3, 1) := by decide +kernel
theorem d_RM_show_25 : decode prog_12_method_58_code 25 = .ok (.iconst 2, 1) := by decide +kernel
theorem d_RM_show_26 : decode prog_12_method_58_code 26 = .ok (.if_icmp .ne 54, 3) := by decide +kernel
theorem d_RM_show_29 : decode prog_12_method_58_code 29 = .ok (.iload_n 3, 1) := by decide +kernel
theorem d_RM_show_30 : decode prog_12_method_58_code 30 = .ok (.iconst 2, 1) := by decide +kernel
theorem d_RM_show_31 : decode prog_12_method_58_code 31 = .ok (.if_icmp .ne 9, 3) := by decide +kernel
theorem d_RM_show_34 : decode prog_12_method_58_code 34 = .ok (.aload_n 0, 1) := by decide +kernel
theorem d_RM_show_35 : decode prog_12_method_58_code 35 = .ok (.bipush 123, 2) := by decide +kernel
theorem d_RM_show_37 : decode prog_12_method_58_code 37 = .ok (.invokevirtual 253, 3) := by decide +kernel
theorem d_RM_show_40 : decode prog_12_method_58_code 40 = .ok (.iload 4, 2) := by decide +kernel
theorem d_RM_show_42 : decode prog_12_method_58_code 42 = .ok (.iload 5, 2) := by decide +kernel
theorem d_RM_show_44 : decode prog_12_method_58_code 44 = .ok (.if_icmp .ge 22, 3) := by decide +kernel
theorem d_RM_show_47 : decode prog_12_method_58_code 47 = .ok (.aload_n 0, 1) := by decide +kernel
theorem d_RM_show_48 : decode prog_12_method_58_code 48 = .ok (.iload_n 1, 1) := by decide +kernel
theorem d_RM_show_49 : decode prog_12_method_58_code 49 = .ok (.iload 4, 2) := by decide +kernel
theorem d_RM_show_51 : decode prog_12_method_58_code 51 = .ok (.invokevirtual 258, 3) := by decide +kernel
theorem d_RM_show_54 : decode prog_12_method_58_code 54 = .ok (.aload_n 0, 1) := by decide +kernel
theorem d_RM_show_55 : decode prog_12_method_58_code 55 = .ok (.iload_n 1, 1) := by decide +kernel
theorem d_RM_show_56 : decode prog_12_method_58_code 56 = .ok (.iload 4, 2) := by decide +kernel
theorem d_RM_show_58 : decode prog_12_method_58_code 58 = .ok (.invokevirtual 268, 3) := by decide +kernel
theorem d_RM_show_61 : decode prog_12_method_58_code 61 = .ok (.istore 4, 2) := by decide +kernel
theorem d_RM_show_63 : decode prog_12_method_58_code 63 = .ok (.goto (-23), 3) := by decide +kernel
theorem d_RM_show_66 : decode prog_12_method_58_code 66 = .ok (.iload_n 3, 1) := by decide +kernel
theorem d_RM_show_67 : decode prog_12_method_58_code 67 = .ok (.iconst 2, 1) := by decide +kernel
theorem d_RM_show_68 : decode prog_12_method_58_code 68 = .ok (.if_icmp .ne 493, 3) := by decide +kernel
theorem d_RM_show_71 : decode prog_12_method_58_code 71 = .ok (.aload_n 0, 1) := by decide +kernel
theorem d_RM_show_72 : decode prog_12_method_58_code 72 = .ok (.bipush 125, 2) := by decide +kernel
theorem d_RM_show_74 : decode prog_12_method_58_code 74 = .ok (.invokevirtual 253, 3) := by decide +kernel
theorem d_RM_show_77 : decode prog_12_method_58_code 77 = .ok (.goto 484, 3) := by decide +kernel
theorem d_RM_show_80 : decode prog_12_method_58_code 80 = .ok (.iload_n 3, 1) := by decide +kernel
theorem d_RM_show_81 : decode prog_12_method_58_code 81 = .ok (.iconst 1, 1) := by decide +kernel
theorem d_RM_show_82 : decode prog_12_method_58_code 82 = .ok (.if_icmp .ne 61, 3) := by decide +kernel
theorem d_RM_show_85 : decode prog_12_method_58_code 85 = .ok (.aload_n 0, 1) := by decide +kernel
theorem d_RM_show_86 : decode prog_12_method_58_code 86 = .ok (.ldc 79, 2) := by decide +kernel
theorem d_RM_show_88 : decode prog_12_method_58_code 88 = .ok (.invokevirtual 293, 3) := by decide +kernel
theorem d_RM_show_91 : decode prog_12_method_58_code 91 = .ok (.aload_n 0, 1) := by decide +kernel
theorem d_RM_show_92 : decode prog_12_method_58_code 92 = .ok (.iload_n 1, 1) := by decide +kernel
theorem d_RM_show_93 : decode prog_12_method_58_code 93 = .ok (.iload 4, 2) := by decide +kernel
theorem d_RM_show_95 : decode prog_12_method_58_code 95 = .ok (.invokevirtual 258, 3) := by decide +kernel
theorem d_RM_show_98 : decode prog_12_method_58_code 98 = .ok (.iload 4, 2) := by decide +kernel
theorem d_RM_show_100 : decode prog_12_method_58_code 100 = .ok (.iconst 1, 1) := by decide +kernel
theorem d_RM_show_101 : decode prog_12_method_58_code 101 = .ok (.iadd, 1) := by decide +kernel
theorem d_RM_show_102 : decode prog_12_method_58_code 102 = .ok (.istore 6, 2) := by decide +kernel
theorem d_RM_show_104 : decode prog_12_method_58_code 104 = .ok (.aload_n 0, 1) := by decide +kernel
theorem d_RM_show_105 : decode prog_12_method_58_code 105 = .ok (.iload_n 1, 1) := by decide +kernel
theorem d_RM_show_106 : decode prog_12_method_58_code 106 = .ok (.iload 6, 2) := by decide +kernel
theorem d_RM_show_108 : decode prog_12_method_58_code 108 = .ok (.invokevirtual 261, 3) := by decide +kernel
theorem d_RM_show_111 : decode prog_12_method_58_code 111 = .ok (.bipush 13, 2) := by decide +kernel
theorem d_RM_show_113 : decode prog_12_method_58_code 113 = .ok (.if_icmp .ne 9, 3) := by decide +kernel
theorem d_RM_show_116 : decode prog_12_method_58_code 116 = .ok (.iinc 6 1, 3) := by decide +kernel
theorem d_RM_show_119 : decode prog_12_method_58_code 119 = .ok (.goto (-15), 3) := by decide +kernel
theorem d_RM_show_122 : decode prog_12_method_58_code 122 = .ok (.aload_n 0, 1) := by decide +kernel
theorem d_RM_show_123 : decode prog_12_method_58_code 123 = .ok (.iload_n 1, 1) := by decide +kernel
theorem d_RM_show_124 : decode prog_12_method_58_code 124 = .ok (.iload 4, 2) := by decide +kernel
theorem d_RM_show_126 : decode prog_12_method_58_code 126 = .ok (.iconst 1, 1) := by decide +kernel
theorem d_RM_show_127 : decode prog_12_method_58_code 127 = .ok (.iadd, 1) := by decide +kernel
theorem d_RM_show_128 : decode prog_12_method_58_code 128 = .ok (.iload 6, 2) := by decide +kernel
theorem d_RM_show_130 : decode prog_12_method_58_code 130 = .ok (.invokevirtual 297, 3) := by decide +kernel
theorem d_RM_show_133 : decode prog_12_method_58_code 133 = .ok (.aload_n 0, 1) := by decide +kernel
theorem d_RM_show_134 : decode prog_12_method_58_code 134 = .ok (.iload_n 1, 1) := by decide +kernel
theorem d_RM_show_135 : decode prog_12_method_58_code 135 = .ok (.iload 6, 2) := by decide +kernel
theorem d_RM_show_137 : decode prog_12_method_58_code 137 = .ok (.invokevirtual 258, 3) := by decide +kernel
theorem d_RM_show_140 : decode prog_12_method_58_code 140 = .ok (.goto 421, 3) := by decide +kernel
theorem d_RM_show_143 : decode prog_12_method_58_code 143 = .ok (.iload_n 3, 1) := by decide +kernel
theorem d_RM_show_144 : decode prog_12_method_58_code 144 = .ok (.bipush 12, 2) := by decide +kernel
theorem d_RM_show_146 : decode prog_12_method_58_code 146 = .ok (.if_icmp .ge 13, 3) := by decide +kernel
theorem d_RM_show_149 : decode prog_12_method_58_code 149 = .ok (.aload_n 0, 1) := by decide +kernel
theorem d_RM_show_150 : decode prog_12_method_58_code 150 = .ok (.iload_n 1, 1) := by decide +kernel
theorem d_RM_show_151 : decode prog_12_method_58_code 151 = .ok (.iload_n 2, 1) := by decide +kernel
theorem d_RM_show_152 : decode prog_12_method_58_code 152 = .ok (.iload_n 3, 1) := by decide +kernel
theorem d_RM_show_153 : decode prog_12_method_58_code 153 = .ok (.invokevirtual 301, 3) := by decide +kernel
theorem d_RM_show_156 : decode prog_12_method_58_code 156 = .ok (.goto 405, 3) := by decide +kernel
theorem d_RM_show_159 : decode prog_12_method_58_code 159 = .ok (.iload_n 3, 1) := by decide +kernel
theorem d_RM_show_160 : decode prog_12_method_58_code 160 = .ok (.bipush 12, 2) := by decide +kernel
theorem d_RM_show_162 : decode prog_12_method_58_code 162 = .ok (.if_icmp .ne 22, 3) := by decide +kernel
theorem d_RM_show_165 : decode prog_12_method_58_code 165 = .ok (.aload_n 0, 1) := by decide +kernel
theorem d_RM_show_166 : decode prog_12_method_58_code 166 = .ok (.aload_n 0, 1) := by decide +kernel
theorem d_RM_show_167 : decode prog_12_method_58_code 167 = .ok (.getfield 59, 3) := by decide +kernel
theorem d_RM_show_170 : decode prog_12_method_58_code 170 = .ok (.sipush 13000, 3) := by decide +kernel
theorem d_RM_show_173 : decode prog_12_method_58_code 173 = .ok (.iload_n 1, 1) := by decide +kernel
theorem d_RM_show_174 : decode prog_12_method_58_code 174 = .ok (.imul, 1) := by decide +kernel
theorem d_RM_show_175 : decode prog_12_method_58_code 175 = .ok (.iload_n 2, 1) := by decide +kernel
theorem d_RM_show_176 : decode prog_12_method_58_code 176 = .ok (.iadd, 1) := by decide +kernel
theorem d_RM_show_177 : decode prog_12_method_58_code 177 = .ok (.iaload, 1) := by decide +kernel
theorem d_RM_show_178 : decode prog_12_method_58_code 178 = .ok (.invokevirtual 304, 3) := by decide +kernel
theorem d_RM_show_181 : decode prog_12_method_58_code 181 = .ok (.goto 380, 3) := by decide +kernel
theorem d_RM_show_184 : decode prog_12_method_58_code 184 = .ok (.iload_n 3, 1) := by decide +kernel
theorem d_RM_show_185 : decode prog_12_method_58_code 185 = .ok (.bipush 13, 2) := by decide +kernel
theorem d_RM_show_187 : decode prog_12_method_58_code 187 = .ok (.if_icmp .ne 22, 3) := by decide +kernel
theorem d_RM_show_190 : decode prog_12_method_58_code 190 = .ok (.aload_n 0, 1) := by decide +kernel
theorem d_RM_show_191 : decode prog_12_method_58_code 191 = .ok (.aload_n 0, 1) := by decide +kernel
theorem d_RM_show_192 : decode prog_12_method_58_code 192 = .ok (.getfield 59, 3) := by decide +kernel
theorem d_RM_show_195 : decode prog_12_method_58_code 195 = .ok (.sipush 13000, 3) := by decide +kernel
theorem d_RM_show_198 : decode prog_12_method_58_code 198 = .ok (.iload_n 1, 1) := by decide +kernel
theorem d_RM_show_199 : decode prog_12_method_58_code 199 = .ok (.imul, 1) := by decide +kernel
theorem d_RM_show_200 : decode prog_12_method_58_code 200 = .ok (.iload_n 2, 1) := by decide +kernel
theorem d_RM_show_201 : decode prog_12_method_58_code 201 = .ok (.iadd, 1) := by decide +kernel
theorem d_RM_show_202 : decode prog_12_method_58_code 202 = .ok (.iaload, 1) := by decide +kernel
theorem d_RM_show_203 : decode prog_12_method_58_code 203 = .ok (.invokevirtual 307, 3) := by decide +kernel
theorem d_RM_show_206 : decode prog_12_method_58_code 206 = .ok (.goto 355, 3) := by decide +kernel
theorem d_RM_show_209 : decode prog_12_method_58_code 209 = .ok (.iload_n 3, 1) := by decide +kernel
theorem d_RM_show_210 : decode prog_12_method_58_code 210 = .ok (.bipush 14, 2) := by decide +kernel
theorem d_RM_show_212 : decode prog_12_method_58_code 212 = .ok (.if_icmp .ne 37, 3) := by decide +kernel
theorem d_RM_show_215 : decode prog_12_method_58_code 215 = .ok (.aload_n 0, 1) := by decide +kernel
theorem d_RM_show_216 : decode prog_12_method_58_code 216 = .ok (.iload_n 1, 1) := by decide +kernel
theorem d_RM_show_217 : decode prog_12_method_58_code 217 = .ok (.iload 4, 2) := by decide +kernel
theorem d_RM_show_219 : decode prog_12_method_58_code 219 = .ok (.invokevirtual 258, 3) := by decide +kernel
theorem d_RM_show_222 : decode prog_12_method_58_code 222 = .ok (.aload_n 0, 1) := by decide +kernel
theorem d_RM_show_223 : decode prog_12_method_58_code 223 = .ok (.bipush 91, 2) := by decide +kernel
theorem d_RM_show_225 : decode prog_12_method_58_code 225 = .ok (.invokevirtual 253, 3) := by decide +kernel
theorem d_RM_show_228 : decode prog_12_method_58_code 228 = .ok (.aload_n 0, 1) := by decide +kernel
theorem d_RM_show_229 : decode prog_12_method_58_code 229 = .ok (.iload_n 1, 1) := by decide +kernel
theorem d_RM_show_230 : decode prog_12_method_58_code 230 = .ok (.aload_n 0, 1) := by decide +kernel
theorem d_RM_show_231 : decode prog_12_method_58_code 231 = .ok (.iload_n 1, 1) := by decide +kernel
theorem d_RM_show_232 : decode prog_12_method_58_code 232 = .ok (.iload 4, 2) := by decide +kernel
theorem d_RM_show_234 : decode prog_12_method_58_code 234 = .ok (.invokevirtual 268, 3) := by decide +kernel
theorem d_RM_show_237 : decode prog_12_method_58_code 237 = .ok (.invokevirtual 258, 3) := by decide +kernel
theorem d_RM_show_240 : decode prog_12_method_58_code 240 = .ok (.aload_n 0, 1) := by decide +kernel
theorem d_RM_show_241 : decode prog_12_method_58_code 241 = .ok (.bipush 93, 2) := by decide +kernel
theorem d_RM_show_243 : decode prog_12_method_58_code 243 = .ok (.invokevirtual 253, 3) := by decide +kernel
theorem d_RM_show_246 : decode prog_12_method_58_code 246 = .ok (.goto 315, 3) := by decide +kernel
theorem d_RM_show_249 : decode prog_12_method_58_code 249 = .ok (.iload_n 3, 1) := by decide +kernel
theorem d_RM_show_250 : decode prog_12_method_58_code 250 = .ok (.bipush 15, 2) := by decide +kernel
theorem d_RM_show_252 : decode prog_12_method_58_code 252 = .ok (.if_icmp .ne 20, 3) := by decide +kernel
theorem d_RM_show_255 : decode prog_12_method_58_code 255 = .ok (.aload_n 0, 1) := by decide +kernel
theorem d_RM_show_256 : decode prog_12_method_58_code 256 = .ok (.bipush 45, 2) := by decide +kernel
theorem d_RM_show_258 : decode prog_12_method_58_code 258 = .ok (.invokevirtual 253, 3) := by decide +kernel
theorem d_RM_show_261 : decode prog_12_method_58_code 261 = .ok (.aload_n 0, 1) := by decide +kernel
theorem d_RM_show_262 : decode prog_12_method_58_code 262 = .ok (.iload_n 1, 1) := by decide +kernel
theorem d_RM_show_263 : decode prog_12_method_58_code 263 = .ok (.iload 4, 2) := by decide +kernel
theorem d_RM_show_265 : decode prog_12_method_58_code 265 = .ok (.iconst 0, 1) := by decide +kernel
theorem d_RM_show_266 : decode prog_12_method_58_code 266 = .ok (.invokevirtual 310, 3) := by decide +kernel
theorem d_RM_show_269 : decode prog_12_method_58_code 269 = .ok (.goto 292, 3) := by decide +kernel
theorem d_RM_show_272 : decode prog_12_method_58_code 272 = .ok (.iload_n 3, 1) := by decide +kernel
theorem d_RM_show_273 : decode prog_12_method_58_code 273 = .ok (.bipush 16, 2) := by decide +kernel
theorem d_RM_show_275 : decode prog_12_method_58_code 275 = .ok (.if_icmp .ne 28, 3) := by decide +kernel
theorem d_RM_show_278 : decode prog_12_method_58_code 278 = .ok (.aload_n 0, 1) := by decide +kernel
theorem d_RM_show_279 : decode prog_12_method_58_code 279 = .ok (.ldc 93, 2) := by decide +kernel
theorem d_RM_show_281 : decode prog_12_method_58_code 281 = .ok (.invokevirtual 293, 3) := by decide +kernel
theorem d_RM_show_284 : decode prog_12_method_58_code 284 = .ok (.iload 4, 2) := by decide +kernel
theorem d_RM_show_286 : decode prog_12_method_58_code 286 = .ok (.iload 5, 2) := by decide +kernel
theorem d_RM_show_288 : decode prog_12_method_58_code 288 = .ok (.if_icmp .ge 273, 3) := by decide +kernel
theorem d_RM_show_291 : decode prog_12_method_58_code 291 = .ok (.aload_n 0, 1) := by decide +kernel
theorem d_RM_show_292 : decode prog_12_method_58_code 292 = .ok (.iload_n 1, 1) := by decide +kernel
theorem d_RM_show_293 : decode prog_12_method_58_code 293 = .ok (.iload 4, 2) := by decide +kernel
theorem d_RM_show_295 : decode prog_12_method_58_code 295 = .ok (.iload 5, 2) := by decide +kernel
theorem d_RM_show_297 : decode prog_12_method_58_code 297 = .ok (.invokevirtual 297, 3) := by decide +kernel
theorem d_RM_show_300 : decode prog_12_method_58_code 300 = .ok (.goto 261, 3) := by decide +kernel
theorem d_RM_show_303 : decode prog_12_method_58_code 303 = .ok (.iload_n 3, 1) := by decide +kernel
theorem d_RM_show_304 : decode prog_12_method_58_code 304 = .ok (.bipush 17, 2) := by decide +kernel
theorem d_RM_show_306 : decode prog_12_method_58_code 306 = .ok (.if_icmp .eq 9, 3) := by decide +kernel
theorem d_RM_show_309 : decode prog_12_method_58_code 309 = .ok (.iload_n 3, 1) := by decide +kernel
theorem d_RM_show_310 : decode prog_12_method_58_code 310 = .ok (.bipush 20, 2) := by decide +kernel
theorem d_RM_show_312 : decode prog_12_method_58_code 312 = .ok (.if_icmp .ne 56, 3) := by decide +kernel
theorem d_RM_show_315 : decode prog_12_method_58_code 315 = .ok (.aload_n 0, 1) := by decide +kernel
theorem d_RM_show_316 : decode prog_12_method_58_code 316 = .ok (.iload_n 1, 1) := by decide +kernel
theorem d_RM_show_317 : decode prog_12_method_58_code 317 = .ok (.iload 4, 2) := by decide +kernel
theorem d_RM_show_319 : decode prog_12_method_58_code 319 = .ok (.iload_n 3, 1) := by decide +kernel
theorem d_RM_show_320 : decode prog_12_method_58_code 320 = .ok (.bipush 17, 2) := by decide +kernel
theorem d_RM_show_322 : decode prog_12_method_58_code 322 = .ok (.if_icmp .ne 7, 3) := by decide +kernel
theorem d_RM_show_325 : decode prog_12_method_58_code 325 = .ok (.iconst 1, 1) := by decide +kernel
theorem d_RM_show_326 : decode prog_12_method_58_code 326 = .ok (.goto 4, 3) := by decide +kernel
theorem d_RM_show_329 : decode prog_12_method_58_code 329 = .ok (.iconst 0, 1) := by decide +kernel
theorem d_RM_show_330 : decode prog_12_method_58_code 330 = .ok (.invokevirtual 310, 3) := by decide +kernel
theorem d_RM_show_333 : decode prog_12_method_58_code 333 = .ok (.aload_n 0, 1) := by decide +kernel
theorem d_RM_show_334 : decode prog_12_method_58_code 334 = .ok (.iload_n 1, 1) := by decide +kernel
theorem d_RM_show_335 : decode prog_12_method_58_code 335 = .ok (.iload 4, 2) := by decide +kernel
theorem d_RM_show_337 : decode prog_12_method_58_code 337 = .ok (.invokevirtual 268, 3) := by decide +kernel
theorem d_RM_show_340 : decode prog_12_method_58_code 340 = .ok (.istore 4, 2) := by decide +kernel
theorem d_RM_show_342 : decode prog_12_method_58_code 342 = .ok (.iload 4, 2) := by decide +kernel
theorem d_RM_show_344 : decode prog_12_method_58_code 344 = .ok (.iload 5, 2) := by decide +kernel
theorem d_RM_show_346 : decode prog_12_method_58_code 346 = .ok (.if_icmp .ge 215, 3) := by decide +kernel
theorem d_RM_show_349 : decode prog_12_method_58_code 349 = .ok (.aload_n 0, 1) := by decide +kernel
theorem d_RM_show_350 : decode prog_12_method_58_code 350 = .ok (.iload_n 1, 1) := by decide +kernel
theorem d_RM_show_351 : decode prog_12_method_58_code 351 = .ok (.iload 4, 2) := by decide +kernel
theorem d_RM_show_353 : decode prog_12_method_58_code 353 = .ok (.invokevirtual 258, 3) := by decide +kernel
theorem d_RM_show_356 : decode prog_12_method_58_code 356 = .ok (.aload_n 0, 1) := by decide +kernel
theorem d_RM_show_357 : decode prog_12_method_58_code 357 = .ok (.iload_n 1, 1) := by decide +kernel
theorem d_RM_show_358 : decode prog_12_method_58_code 358 = .ok (.iload 4, 2) := by decide +kernel
theorem d_RM_show_360 : decode prog_12_method_58_code 360 = .ok (.invokevirtual 268, 3) := by decide +kernel
theorem d_RM_show_363 : decode prog_12_method_58_code 363 = .ok (.istore 4, 2) := by decide +kernel
theorem d_RM_show_365 : decode prog_12_method_58_code 365 = .ok (.goto (-23), 3) := by decide +kernel
theorem d_RM_show_368 : decode prog_12_method_58_code 368 = .ok (.iload_n 3, 1) := by decide +kernel
theorem d_RM_show_369 : decode prog_12_method_58_code 369 = .ok (.bipush 18, 2) := by decide +kernel
theorem d_RM_show_371 : decode prog_12_method_58_code 371 = .ok (.if_icmp .eq 21, 3) := by decide +kernel
theorem d_RM_show_374 : decode prog_12_method_58_code 374 = .ok (.iload_n 3, 1) := by decide +kernel
theorem d_RM_show_375 : decode prog_12_method_58_code 375 = .ok (.bipush 19, 2) := by decide +kernel
theorem d_RM_show_377 : decode prog_12_method_58_code 377 = .ok (.if_icmp .eq 15, 3) := by decide +kernel
theorem d_RM_show_380 : decode prog_12_method_58_code 380 = .ok (.iload_n 3, 1) := by decide +kernel
theorem d_RM_show_381 : decode prog_12_method_58_code 381 = .ok (.bipush 20, 2) := by decide +kernel
theorem d_RM_show_383 : decode prog_12_method_58_code 383 = .ok (.if_icmp .le 39, 3) := by decide +kernel
theorem d_RM_show_386 : decode prog_12_method_58_code 386 = .ok (.iload_n 3, 1) := by decide +kernel
theorem d_RM_show_387 : decode prog_12_method_58_code 387 = .ok (.bipush 24, 2) := by decide +kernel
theorem d_RM_show_389 : decode prog_12_method_58_code 389 = .ok (.if_icmp .ge 33, 3) := by decide +kernel
theorem d_RM_show_392 : decode prog_12_method_58_code 392 = .ok (.aload_n 0, 1) := by decide +kernel
theorem d_RM_show_393 : decode prog_12_method_58_code 393 = .ok (.aload_n 0, 1) := by decide +kernel
theorem d_RM_show_394 : decode prog_12_method_58_code 394 = .ok (.iload_n 3, 1) := by decide +kernel
theorem d_RM_show_395 : decode prog_12_method_58_code 395 = .ok (.invokevirtual 314, 3) := by decide +kernel
theorem d_RM_show_398 : decode prog_12_method_58_code 398 = .ok (.invokevirtual 293, 3) := by decide +kernel
theorem d_RM_show_401 : decode prog_12_method_58_code 401 = .ok (.aload_n 0, 1) := by decide +kernel
theorem d_RM_show_402 : decode prog_12_method_58_code 402 = .ok (.iload_n 1, 1) := by decide +kernel
theorem d_RM_show_403 : decode prog_12_method_58_code 403 = .ok (.iload 4, 2) := by decide +kernel
theorem d_RM_show_405 : decode prog_12_method_58_code 405 = .ok (.iload_n 3, 1) := by decide +kernel
theorem d_RM_show_406 : decode prog_12_method_58_code 406 = .ok (.bipush 20, 2) := by decide +kernel
theorem d_RM_show_408 : decode prog_12_method_58_code 408 = .ok (.if_icmp .ge 7, 3) := by decide +kernel
theorem d_RM_show_411 : decode prog_12_method_58_code 411 = .ok (.iconst 1, 1) := by decide +kernel
theorem d_RM_show_412 : decode prog_12_method_58_code 412 = .ok (.goto 4, 3) := by decide +kernel
theorem d_RM_show_415 : decode prog_12_method_58_code 415 = .ok (.iconst 0, 1) := by decide +kernel
theorem d_RM_show_416 : decode prog_12_method_58_code 416 = .ok (.invokevirtual 310, 3) := by decide +kernel
theorem d_RM_show_419 : decode prog_12_method_58_code 419 = .ok (.goto 142, 3) := by decide +kernel
theorem d_RM_show_422 : decode prog_12_method_58_code 422 = .ok (.iload_n 3, 1) := by decide +kernel
theorem d_RM_show_423 : decode prog_12_method_58_code 423 = .ok (.bipush 24, 2) := by decide +kernel
theorem d_RM_show_425 : decode prog_12_method_58_code 425 = .ok (.if_icmp .eq 9, 3) := by decide +kernel
theorem d_RM_show_428 : decode prog_12_method_58_code 428 = .ok (.iload_n 3, 1) := by decide +kernel
theorem d_RM_show_429 : decode prog_12_method_58_code 429 = .ok (.bipush 25, 2) := by decide +kernel
theorem d_RM_show_431 : decode prog_12_method_58_code 431 = .ok (.if_icmp .ne 73, 3) := by decide +kernel
theorem d_RM_show_434 : decode prog_12_method_58_code 434 = .ok (.iload 4, 2) := by decide +kernel
theorem d_RM_show_436 : decode prog_12_method_58_code 436 = .ok (.istore 6, 2) := by decide +kernel
theorem d_RM_show_438 : decode prog_12_method_58_code 438 = .ok (.iload 4, 2) := by decide +kernel
theorem d_RM_show_440 : decode prog_12_method_58_code 440 = .ok (.iload 5, 2) := by decide +kernel
theorem d_RM_show_442 : decode prog_12_method_58_code 442 = .ok (.if_icmp .ge 59, 3) := by decide +kernel
theorem d_RM_show_445 : decode prog_12_method_58_code 445 = .ok (.iload 4, 2) := by decide +kernel
theorem d_RM_show_447 : decode prog_12_method_58_code 447 = .ok (.iload 6, 2) := by decide +kernel
theorem d_RM_show_449 : decode prog_12_method_58_code 449 = .ok (.if_icmp .le 22, 3) := by decide +kernel
theorem d_RM_show_452 : decode prog_12_method_58_code 452 = .ok (.aload_n 0, 1) := by decide +kernel
theorem d_RM_show_453 : decode prog_12_method_58_code 453 = .ok (.iload_n 3, 1) := by decide +kernel
theorem d_RM_show_454 : decode prog_12_method_58_code 454 = .ok (.bipush 24, 2) := by decide +kernel
theorem d_RM_show_456 : decode prog_12_method_58_code 456 = .ok (.if_icmp .ne 9, 3) := by decide +kernel
theorem d_RM_show_459 : decode prog_12_method_58_code 459 = .ok (.ldc_w 318, 3) := by decide +kernel
theorem d_RM_show_462 : decode prog_12_method_58_code 462 = .ok (.goto 6, 3) := by decide +kernel
theorem d_RM_show_465 : decode prog_12_method_58_code 465 = .ok (.ldc_w 320, 3) := by decide +kernel
theorem d_RM_show_468 : decode prog_12_method_58_code 468 = .ok (.invokevirtual 293, 3) := by decide +kernel
theorem d_RM_show_471 : decode prog_12_method_58_code 471 = .ok (.aload_n 0, 1) := by decide +kernel
theorem d_RM_show_472 : decode prog_12_method_58_code 472 = .ok (.iload_n 1, 1) := by decide +kernel
theorem d_RM_show_473 : decode prog_12_method_58_code 473 = .ok (.iload 4, 2) := by decide +kernel
theorem d_RM_show_475 : decode prog_12_method_58_code 475 = .ok (.iload_n 3, 1) := by decide +kernel
theorem d_RM_show_476 : decode prog_12_method_58_code 476 = .ok (.bipush 24, 2) := by decide +kernel
theorem d_RM_show_478 : decode prog_12_method_58_code 478 = .ok (.if_icmp .ne 7, 3) := by decide +kernel
theorem d_RM_show_481 : decode prog_12_method_58_code 481 = .ok (.iconst 1, 1) := by decide +kernel
theorem d_RM_show_482 : decode prog_12_method_58_code 482 = .ok (.goto 4, 3) := by decide +kernel
theorem d_RM_show_485 : decode prog_12_method_58_code 485 = .ok (.iconst 0, 1) := by decide +kernel
theorem d_RM_show_486 : decode prog_12_method_58_code 486 = .ok (.invokevirtual 322, 3) := by decide +kernel
theorem d_RM_show_489 : decode prog_12_method_58_code 489 = .ok (.aload_n 0, 1) := by decide +kernel
theorem d_RM_show_490 : decode prog_12_method_58_code 490 = .ok (.iload_n 1, 1) := by decide +kernel
theorem d_RM_show_491 : decode prog_12_method_58_code 491 = .ok (.iload 4, 2) := by decide +kernel
theorem d_RM_show_493 : decode prog_12_method_58_code 493 = .ok (.invokevirtual 268, 3) := by decide +kernel
theorem d_RM_show_496 : decode prog_12_method_58_code 496 = .ok (.istore 4, 2) := by decide +kernel
theorem d_RM_show_498 : decode prog_12_method_58_code 498 = .ok (.goto (-60), 3) := by decide +kernel
theorem d_RM_show_501 : decode prog_12_method_58_code 501 = .ok (.goto 60, 3) := by decide +kernel
theorem d_RM_show_504 : decode prog_12_method_58_code 504 = .ok (.iload_n 3, 1) := by decide +kernel
theorem d_RM_show_505 : decode prog_12_method_58_code 505 = .ok (.bipush 26, 2) := by decide +kernel
theorem d_RM_show_507 : decode prog_12_method_58_code 507 = .ok (.if_icmp .ne 20, 3) := by decide +kernel
theorem d_RM_show_510 : decode prog_12_method_58_code 510 = .ok (.aload_n 0, 1) := by decide +kernel
theorem d_RM_show_511 : decode prog_12_method_58_code 511 = .ok (.bipush 33, 2) := by decide +kernel
theorem d_RM_show_513 : decode prog_12_method_58_code 513 = .ok (.invokevirtual 253, 3) := by decide +kernel
theorem d_RM_show_516 : decode prog_12_method_58_code 516 = .ok (.aload_n 0, 1) := by decide +kernel
theorem d_RM_show_517 : decode prog_12_method_58_code 517 = .ok (.iload_n 1, 1) := by decide +kernel
theorem d_RM_show_518 : decode prog_12_method_58_code 518 = .ok (.iload 4, 2) := by decide +kernel
theorem d_RM_show_520 : decode prog_12_method_58_code 520 = .ok (.iconst 0, 1) := by decide +kernel
theorem d_RM_show_521 : decode prog_12_method_58_code 521 = .ok (.invokevirtual 322, 3) := by decide +kernel
theorem d_RM_show_524 : decode prog_12_method_58_code 524 = .ok (.goto 37, 3) := by decide +kernel
theorem d_RM_show_527 : decode prog_12_method_58_code 527 = .ok (.iload_n 3, 1) := by decide +kernel
theorem d_RM_show_528 : decode prog_12_method_58_code 528 = .ok (.bipush 33, 2) := by decide +kernel
theorem d_RM_show_530 : decode prog_12_method_58_code 530 = .ok (.if_icmp .ge 31, 3) := by decide +kernel
theorem d_RM_show_533 : decode prog_12_method_58_code 533 = .ok (.aload_n 0, 1) := by decide +kernel
theorem d_RM_show_534 : decode prog_12_method_58_code 534 = .ok (.iload_n 1, 1) := by decide +kernel
theorem d_RM_show_535 : decode prog_12_method_58_code 535 = .ok (.iload 4, 2) := by decide +kernel
theorem d_RM_show_537 : decode prog_12_method_58_code 537 = .ok (.invokevirtual 258, 3) := by decide +kernel
theorem d_RM_show_540 : decode prog_12_method_58_code 540 = .ok (.aload_n 0, 1) := by decide +kernel
theorem d_RM_show_541 : decode prog_12_method_58_code 541 = .ok (.aload_n 0, 1) := by decide +kernel
theorem d_RM_show_542 : decode prog_12_method_58_code 542 = .ok (.iload_n 3, 1) := by decide +kernel
theorem d_RM_show_543 : decode prog_12_method_58_code 543 = .ok (.invokevirtual 314, 3) := by decide +kernel
theorem d_RM_show_546 : decode prog_12_method_58_code 546 = .ok (.invokevirtual 293, 3) := by decide +kernel
theorem d_RM_show_549 : decode prog_12_method_58_code 549 = .ok (.aload_n 0, 1) := by decide +kernel
theorem d_RM_show_550 : decode prog_12_method_58_code 550 = .ok (.iload_n 1, 1) := by decide +kernel
theorem d_RM_show_551 : decode prog_12_method_58_code 551 = .ok (.aload_n 0, 1) := by decide +kernel
theorem d_RM_show_552 : decode prog_12_method_58_code 552 = .ok (.iload_n 1, 1) := by decide +kernel
theorem d_RM_show_553 : decode prog_12_method_58_code 553 = .ok (.iload 4, 2) := by decide +kernel
theorem d_RM_show_555 : decode prog_12_method_58_code 555 = .ok (.invokevirtual 268, 3) := by decide +kernel
theorem d_RM_show_558 : decode prog_12_method_58_code 558 = .ok (.invokevirtual 258, 3) := by decide +kernel
theorem d_RM_show_561 : decode prog_12_method_58_code 561 = .ok (.return_, 1) := by decide +kernel
theorem d_RM_write_0 : decode prog_12_method_59_code 0 = .ok (.aload_n 0, 1) := by decide +kernel
theorem d_RM_write_1 : decode prog_12_method_59_code 1 = .ok (.iload_n 1, 1) := by decide +kernel
theorem d_RM_write_2 : decode prog_12_method_59_code 2 = .ok (.iload_n 2, 1) := by decide +kernel
theorem d_RM_write_3 : decode prog_12_method_59_code 3 = .ok (.invokevirtual 238, 3) := by decide +kernel
theorem d_RM_write_6 : decode prog_12_method_59_code 6 = .ok (.ifCond .ne 5, 3) := by decide +kernel
theorem d_RM_write_9 : decode prog_12_method_59_code 9 = .ok (.iconst (-1), 1) := by decide +kernel
theorem d_RM_write_10 : decode prog_12_method_59_code 10 = .ok (.ireturn, 1) := by decide +kernel
theorem d_RM_write_11 : decode prog_12_method_59_code 11 = .ok (.aload_n 0, 1) := by decide +kernel
theorem d_RM_write_12 : decode prog_12_method_59_code 12 = .ok (.iconst 0, 1) := by decide +kernel
theorem d_RM_write_13 : decode prog_12_method_59_code 13 = .ok (.putfield 244, 3) := by decide +kernel
theorem d_RM_write_16 : decode prog_12_method_59_code 16 = .ok (.aload_n 0, 1) := by decide +kernel
theorem d_RM_write_17 : decode prog_12_method_59_code 17 = .ok (.iload_n 1, 1) := by decide +kernel
theorem d_RM_write_18 : decode prog_12_method_59_code 18 = .ok (.iload_n 2, 1) := by decide +kernel
theorem d_RM_write_19 : decode prog_12_method_59_code 19 = .ok (.invokevirtual 258, 3) := by decide +kernel
theorem d_RM_write_22 : decode prog_12_method_59_code 22 = .ok (.aload_n 0, 1) := by decide +kernel
theorem d_RM_write_23 : decode prog_12_method_59_code 23 = .ok (.getfield 244, 3) := by decide +kernel
theorem d_RM_write_26 : decode prog_12_method_59_code 26 = .ok (.sipush 8000, 3) := by decide +kernel
theorem d_RM_write_29 : decode prog_12_method_59_code 29 = .ok (.if_icmp .le 5, 3) := by decide +kernel
theorem d_RM_write_32 : decode prog_12_method_59_code 32 = .ok (.iconst (-1), 1) := by decide +kernel
theorem d_RM_write_33 : decode prog_12_method_59_code 33 = .ok (.ireturn, 1) := by decide +kernel
theorem d_RM_write_34 : decode prog_12_method_59_code 34 = .ok (.aload_n 0, 1) := by decide +kernel
theorem d_RM_write_35 : decode prog_12_method_59_code 35 = .ok (.aload_n 0, 1) := by decide +kernel
theorem d_RM_write_36 : decode prog_12_method_59_code 36 = .ok (.getfield 244, 3) := by decide +kernel
theorem d_RM_write_39 : decode prog_12_method_59_code 39 = .ok (.putfield 325, 3) := by decide +kernel
theorem d_RM_write_42 : decode prog_12_method_59_code 42 = .ok (.iconst 0, 1) := by decide +kernel
theorem d_RM_write_43 : decode prog_12_method_59_code 43 = .ok (.istore_n 3, 1) := by decide +kernel
theorem d_RM_write_44 : decode prog_12_method_59_code 44 = .ok (.iload_n 3, 1) := by decide +kernel
theorem d_RM_write_45 : decode prog_12_method_59_code 45 = .ok (.aload_n 0, 1) := by decide +kernel
theorem d_RM_write_46 : decode prog_12_method_59_code 46 = .ok (.getfield 244, 3) := by decide +kernel
theorem d_RM_write_49 : decode prog_12_method_59_code 49 = .ok (.if_icmp .ge 21, 3) := by decide +kernel
theorem d_RM_write_52 : decode prog_12_method_59_code 52 = .ok (.aload_n 0, 1) := by decide +kernel
theorem d_RM_write_53 : decode prog_12_method_59_code 53 = .ok (.getfield 13, 3) := by decide +kernel
theorem d_RM_write_56 : decode prog_12_method_59_code 56 = .ok (.iload_n 3, 1) := by decide +kernel
theorem d_RM_write_57 : decode prog_12_method_59_code 57 = .ok (.aload_n 0, 1) := by decide +kernel
theorem d_RM_write_58 : decode prog_12_method_59_code 58 = .ok (.getfield 16, 3) := by decide +kernel
theorem d_RM_write_61 : decode prog_12_method_59_code 61 = .ok (.iload_n 3, 1) := by decide +kernel
theorem d_RM_write_62 : decode prog_12_method_59_code 62 = .ok (.iaload, 1) := by decide +kernel
theorem d_RM_write_63 : decode prog_12_method_59_code 63 = .ok (.iastore, 1) := by decide +kernel
theorem d_RM_write_64 : decode prog_12_method_59_code 64 = .ok (.iinc 3 1, 3) := by decide +kernel
theorem d_RM_write_67 : decode prog_12_method_59_code 67 = .ok (.goto (-23), 3) := by decide +kernel
theorem d_RM_write_70 : decode prog_12_method_59_code 70 = .ok (.aload_n 0, 1) := by decide +kernel
theorem d_RM_write_71 : decode prog_12_method_59_code 71 = .ok (.getfield 325, 3) := by decide +kernel
theorem d_RM_write_74 : decode prog_12_method_59_code 74 = .ok (.ireturn, 1) := by decide +kernel
theorem d_RM_written_0 : decode prog_12_method_60_code 0 = .ok (.iload_n 1, 1) := by decide +kernel
theorem d_RM_written_1 : decode prog_12_method_60_code 1 = .ok (.ifCond .lt 11, 3) := by decide +kernel
theorem d_RM_written_4 : decode prog_12_method_60_code 4 = .ok (.iload_n 1, 1) := by decide +kernel
theorem d_RM_written_5 : decode prog_12_method_60_code 5 = .ok (.aload_n 0, 1) := by decide +kernel
theorem d_RM_written_6 : decode prog_12_method_60_code 6 = .ok (.getfield 325, 3) := by decide +kernel
theorem d_RM_written_9 : decode prog_12_method_60_code 9 = .ok (.if_icmp .lt 7, 3) := by decide +kernel
theorem d_RM_written_12 : decode prog_12_method_60_code 12 = .ok (.iconst (-1), 1) := by decide +kernel
theorem d_RM_written_13 : decode prog_12_method_60_code 13 = .ok (.goto 9, 3) := by decide +kernel
theorem d_RM_written_16 : decode prog_12_method_60_code 16 = .ok (.aload_n 0, 1) := by decide +kernel
theorem d_RM_written_17 : decode prog_12_method_60_code 17 = .ok (.getfield 13, 3) := by decide +kernel
theorem d_RM_written_20 : decode prog_12_method_60_code 20 = .ok (.iload_n 1, 1) := by decide +kernel
theorem d_RM_written_21 : decode prog_12_method_60_code 21 = .ok (.iaload, 1) := by decide +kernel
theorem d_RM_written_22 : decode prog_12_method_60_code 22 = .ok (.ireturn, 1) := by decide +kernel
theorem d_RM_again_0 : decode prog_12_method_61_code 0 = .ok (.aload_n 0, 1) := by decide +kernel
theorem d_RM_again_1 : decode prog_12_method_61_code 1 = .ok (.aload_n 0, 1) := by decide +kernel
theorem d_RM_again_2 : decode prog_12_method_61_code 2 = .ok (.getfield 325, 3) := by decide +kernel
theorem d_RM_again_5 : decode prog_12_method_61_code 5 = .ok (.putfield 107, 3) := by decide +kernel
theorem d_RM_again_8 : decode prog_12_method_61_code 8 = .ok (.iconst 0, 1) := by decide +kernel
theorem d_RM_again_9 : decode prog_12_method_61_code 9 = .ok (.istore_n 1, 1) := by decide +kernel
theorem d_RM_again_10 : decode prog_12_method_61_code 10 = .ok (.iload_n 1, 1) := by decide +kernel
theorem d_RM_again_11 : decode prog_12_method_61_code 11 = .ok (.aload_n 0, 1) := by decide +kernel
theorem d_RM_again_12 : decode prog_12_method_61_code 12 = .ok (.getfield 107, 3) := by decide +kernel
theorem d_RM_again_15 : decode prog_12_method_61_code 15 = .ok (.if_icmp .ge 21, 3) := by decide +kernel
theorem d_RM_again_18 : decode prog_12_method_61_code 18 = .ok (.aload_n 0, 1) := by decide +kernel
theorem d_RM_again_19 : decode prog_12_method_61_code 19 = .ok (.getfield 9, 3) := by decide +kernel
theorem d_RM_again_22 : decode prog_12_method_61_code 22 = .ok (.iload_n 1, 1) := by decide +kernel
theorem d_RM_again_23 : decode prog_12_method_61_code 23 = .ok (.aload_n 0, 1) := by decide +kernel
theorem d_RM_again_24 : decode prog_12_method_61_code 24 = .ok (.getfield 13, 3) := by decide +kernel
theorem d_RM_again_27 : decode prog_12_method_61_code 27 = .ok (.iload_n 1, 1) := by decide +kernel
theorem d_RM_again_28 : decode prog_12_method_61_code 28 = .ok (.iaload, 1) := by decide +kernel
theorem d_RM_again_29 : decode prog_12_method_61_code 29 = .ok (.iastore, 1) := by decide +kernel
theorem d_RM_again_30 : decode prog_12_method_61_code 30 = .ok (.iinc 1 1, 3) := by decide +kernel
theorem d_RM_again_33 : decode prog_12_method_61_code 33 = .ok (.goto (-23), 3) := by decide +kernel
theorem d_RM_again_36 : decode prog_12_method_61_code 36 = .ok (.aload_n 0, 1) := by decide +kernel
theorem d_RM_again_37 : decode prog_12_method_61_code 37 = .ok (.getfield 107, 3) := by decide +kernel
theorem d_RM_again_40 : decode prog_12_method_61_code 40 = .ok (.ireturn, 1) := by decide +kernel
