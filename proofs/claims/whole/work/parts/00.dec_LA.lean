theorem d_LA_law_0 : decode code 0 = .ok (.new 7, 3) := by decide +kernel
theorem d_LA_law_3 : decode code 3 = .ok (.dup, 1) := by decide +kernel
theorem d_LA_law_4 : decode code 4 = .ok (.invokespecial 9, 3) := by decide +kernel
theorem d_LA_law_7 : decode code 7 = .ok (.astore_n 1, 1) := by decide +kernel
theorem d_LA_law_8 : decode code 8 = .ok (.new 10, 3) := by decide +kernel
theorem d_LA_law_11 : decode code 11 = .ok (.dup, 1) := by decide +kernel
theorem d_LA_law_12 : decode code 12 = .ok (.invokespecial 12, 3) := by decide +kernel
theorem d_LA_law_15 : decode code 15 = .ok (.astore_n 2, 1) := by decide +kernel
theorem d_LA_law_16 : decode code 16 = .ok (.iconst 0, 1) := by decide +kernel
theorem d_LA_law_17 : decode code 17 = .ok (.istore_n 3, 1) := by decide +kernel
theorem d_LA_law_18 : decode code 18 = .ok (.iload_n 3, 1) := by decide +kernel
theorem d_LA_law_19 : decode code 19 = .ok (.aload_n 0, 1) := by decide +kernel
theorem d_LA_law_20 : decode code 20 = .ok (.arraylength, 1) := by decide +kernel
theorem d_LA_law_21 : decode code 21 = .ok (.bipush 6, 2) := by decide +kernel
theorem d_LA_law_23 : decode code 23 = .ok (.isub, 1) := by decide +kernel
theorem d_LA_law_24 : decode code 24 = .ok (.if_icmp .gt 444, 3) := by decide +kernel
theorem d_LA_law_27 : decode code 27 = .ok (.aload_n 0, 1) := by decide +kernel
theorem d_LA_law_28 : decode code 28 = .ok (.iload_n 3, 1) := by decide +kernel
theorem d_LA_law_29 : decode code 29 = .ok (.iaload, 1) := by decide +kernel
theorem d_LA_law_30 : decode code 30 = .ok (.bipush 15, 2) := by decide +kernel
theorem d_LA_law_32 : decode code 32 = .ok (.iand, 1) := by decide +kernel
theorem d_LA_law_33 : decode code 33 = .ok (.tableswitch 429 0 11 #[63, 126, 159, 182, 225, 268, 301, 314, 347, 380, 403, 416], 63) := by decide +kernel
theorem d_LA_law_96 : decode code 96 = .ok (.aload_n 1, 1) := by decide +kernel
theorem d_LA_law_97 : decode code 97 = .ok (.aload_n 0, 1) := by decide +kernel
theorem d_LA_law_98 : decode code 98 = .ok (.iload_n 3, 1) := by decide +kernel
theorem d_LA_law_99 : decode code 99 = .ok (.iconst 1, 1) := by decide +kernel
theorem d_LA_law_100 : decode code 100 = .ok (.iadd, 1) := by decide +kernel
theorem d_LA_law_101 : decode code 101 = .ok (.iaload, 1) := by decide +kernel
theorem d_LA_law_102 : decode code 102 = .ok (.aload_n 0, 1) := by decide +kernel
theorem d_LA_law_103 : decode code 103 = .ok (.iload_n 3, 1) := by decide +kernel
theorem d_LA_law_104 : decode code 104 = .ok (.iconst 2, 1) := by decide +kernel
theorem d_LA_law_105 : decode code 105 = .ok (.iadd, 1) := by decide +kernel
theorem d_LA_law_106 : decode code 106 = .ok (.iaload, 1) := by decide +kernel
theorem d_LA_law_107 : decode code 107 = .ok (.aload_n 0, 1) := by decide +kernel
theorem d_LA_law_108 : decode code 108 = .ok (.iload_n 3, 1) := by decide +kernel
theorem d_LA_law_109 : decode code 109 = .ok (.iconst 3, 1) := by decide +kernel
theorem d_LA_law_110 : decode code 110 = .ok (.iadd, 1) := by decide +kernel
theorem d_LA_law_111 : decode code 111 = .ok (.iaload, 1) := by decide +kernel
theorem d_LA_law_112 : decode code 112 = .ok (.aload_n 0, 1) := by decide +kernel
theorem d_LA_law_113 : decode code 113 = .ok (.iload_n 3, 1) := by decide +kernel
theorem d_LA_law_114 : decode code 114 = .ok (.iconst 4, 1) := by decide +kernel
theorem d_LA_law_115 : decode code 115 = .ok (.iadd, 1) := by decide +kernel
theorem d_LA_law_116 : decode code 116 = .ok (.iaload, 1) := by decide +kernel
theorem d_LA_law_117 : decode code 117 = .ok (.aload_n 0, 1) := by decide +kernel
theorem d_LA_law_118 : decode code 118 = .ok (.iload_n 3, 1) := by decide +kernel
theorem d_LA_law_119 : decode code 119 = .ok (.iconst 5, 1) := by decide +kernel
theorem d_LA_law_120 : decode code 120 = .ok (.iadd, 1) := by decide +kernel
theorem d_LA_law_121 : decode code 121 = .ok (.iaload, 1) := by decide +kernel
theorem d_LA_law_122 : decode code 122 = .ok (.invokevirtual 13, 3) := by decide +kernel
theorem d_LA_law_125 : decode code 125 = .ok (.aload_n 2, 1) := by decide +kernel
theorem d_LA_law_126 : decode code 126 = .ok (.aload_n 0, 1) := by decide +kernel
theorem d_LA_law_127 : decode code 127 = .ok (.iload_n 3, 1) := by decide +kernel
theorem d_LA_law_128 : decode code 128 = .ok (.iconst 1, 1) := by decide +kernel
theorem d_LA_law_129 : decode code 129 = .ok (.iadd, 1) := by decide +kernel
theorem d_LA_law_130 : decode code 130 = .ok (.iaload, 1) := by decide +kernel
theorem d_LA_law_131 : decode code 131 = .ok (.aload_n 0, 1) := by decide +kernel
theorem d_LA_law_132 : decode code 132 = .ok (.iload_n 3, 1) := by decide +kernel
theorem d_LA_law_133 : decode code 133 = .ok (.iconst 2, 1) := by decide +kernel
theorem d_LA_law_134 : decode code 134 = .ok (.iadd, 1) := by decide +kernel
theorem d_LA_law_135 : decode code 135 = .ok (.iaload, 1) := by decide +kernel
theorem d_LA_law_136 : decode code 136 = .ok (.aload_n 0, 1) := by decide +kernel
theorem d_LA_law_137 : decode code 137 = .ok (.iload_n 3, 1) := by decide +kernel
theorem d_LA_law_138 : decode code 138 = .ok (.iconst 3, 1) := by decide +kernel
theorem d_LA_law_139 : decode code 139 = .ok (.iadd, 1) := by decide +kernel
theorem d_LA_law_140 : decode code 140 = .ok (.iaload, 1) := by decide +kernel
theorem d_LA_law_141 : decode code 141 = .ok (.aload_n 0, 1) := by decide +kernel
theorem d_LA_law_142 : decode code 142 = .ok (.iload_n 3, 1) := by decide +kernel
theorem d_LA_law_143 : decode code 143 = .ok (.iconst 4, 1) := by decide +kernel
theorem d_LA_law_144 : decode code 144 = .ok (.iadd, 1) := by decide +kernel
theorem d_LA_law_145 : decode code 145 = .ok (.iaload, 1) := by decide +kernel
theorem d_LA_law_146 : decode code 146 = .ok (.aload_n 0, 1) := by decide +kernel
theorem d_LA_law_147 : decode code 147 = .ok (.iload_n 3, 1) := by decide +kernel
theorem d_LA_law_148 : decode code 148 = .ok (.iconst 5, 1) := by decide +kernel
theorem d_LA_law_149 : decode code 149 = .ok (.iadd, 1) := by decide +kernel
theorem d_LA_law_150 : decode code 150 = .ok (.iaload, 1) := by decide +kernel
theorem d_LA_law_151 : decode code 151 = .ok (.invokevirtual 17, 3) := by decide +kernel
theorem d_LA_law_154 : decode code 154 = .ok (.if_icmp .eq 308, 3) := by decide +kernel
theorem d_LA_law_157 : decode code 157 = .ok (.iconst 0, 1) := by decide +kernel
theorem d_LA_law_158 : decode code 158 = .ok (.ireturn, 1) := by decide +kernel
theorem d_LA_law_159 : decode code 159 = .ok (.aload_n 1, 1) := by decide +kernel
theorem d_LA_law_160 : decode code 160 = .ok (.aload_n 0, 1) := by decide +kernel
theorem d_LA_law_161 : decode code 161 = .ok (.iload_n 3, 1) := by decide +kernel
theorem d_LA_law_162 : decode code 162 = .ok (.iconst 1, 1) := by decide +kernel
theorem d_LA_law_163 : decode code 163 = .ok (.iadd, 1) := by decide +kernel
theorem d_LA_law_164 : decode code 164 = .ok (.iaload, 1) := by decide +kernel
theorem d_LA_law_165 : decode code 165 = .ok (.aload_n 0, 1) := by decide +kernel
theorem d_LA_law_166 : decode code 166 = .ok (.iload_n 3, 1) := by decide +kernel
theorem d_LA_law_167 : decode code 167 = .ok (.iconst 2, 1) := by decide +kernel
theorem d_LA_law_168 : decode code 168 = .ok (.iadd, 1) := by decide +kernel
theorem d_LA_law_169 : decode code 169 = .ok (.iaload, 1) := by decide +kernel
theorem d_LA_law_170 : decode code 170 = .ok (.invokevirtual 18, 3) := by decide +kernel
theorem d_LA_law_173 : decode code 173 = .ok (.aload_n 2, 1) := by decide +kernel
theorem d_LA_law_174 : decode code 174 = .ok (.aload_n 0, 1) := by decide +kernel
theorem d_LA_law_175 : decode code 175 = .ok (.iload_n 3, 1) := by decide +kernel
theorem d_LA_law_176 : decode code 176 = .ok (.iconst 1, 1) := by decide +kernel
theorem d_LA_law_177 : decode code 177 = .ok (.iadd, 1) := by decide +kernel
theorem d_LA_law_178 : decode code 178 = .ok (.iaload, 1) := by decide +kernel
theorem d_LA_law_179 : decode code 179 = .ok (.aload_n 0, 1) := by decide +kernel
theorem d_LA_law_180 : decode code 180 = .ok (.iload_n 3, 1) := by decide +kernel
theorem d_LA_law_181 : decode code 181 = .ok (.iconst 2, 1) := by decide +kernel
theorem d_LA_law_182 : decode code 182 = .ok (.iadd, 1) := by decide +kernel
theorem d_LA_law_183 : decode code 183 = .ok (.iaload, 1) := by decide +kernel
theorem d_LA_law_184 : decode code 184 = .ok (.invokevirtual 22, 3) := by decide +kernel
theorem d_LA_law_187 : decode code 187 = .ok (.if_icmp .eq 275, 3) := by decide +kernel
theorem d_LA_law_190 : decode code 190 = .ok (.iconst 0, 1) := by decide +kernel
theorem d_LA_law_191 : decode code 191 = .ok (.ireturn, 1) := by decide +kernel
theorem d_LA_law_192 : decode code 192 = .ok (.aload_n 1, 1) := by decide +kernel
theorem d_LA_law_193 : decode code 193 = .ok (.aload_n 0, 1) := by decide +kernel
theorem d_LA_law_194 : decode code 194 = .ok (.iload_n 3, 1) := by decide +kernel
theorem d_LA_law_195 : decode code 195 = .ok (.iconst 1, 1) := by decide +kernel
theorem d_LA_law_196 : decode code 196 = .ok (.iadd, 1) := by decide +kernel
theorem d_LA_law_197 : decode code 197 = .ok (.iaload, 1) := by decide +kernel
theorem d_LA_law_198 : decode code 198 = .ok (.invokevirtual 23, 3) := by decide +kernel
theorem d_LA_law_201 : decode code 201 = .ok (.aload_n 2, 1) := by decide +kernel
theorem d_LA_law_202 : decode code 202 = .ok (.aload_n 0, 1) := by decide +kernel
theorem d_LA_law_203 : decode code 203 = .ok (.iload_n 3, 1) := by decide +kernel
theorem d_LA_law_204 : decode code 204 = .ok (.iconst 1, 1) := by decide +kernel
theorem d_LA_law_205 : decode code 205 = .ok (.iadd, 1) := by decide +kernel
theorem d_LA_law_206 : decode code 206 = .ok (.iaload, 1) := by decide +kernel
theorem d_LA_law_207 : decode code 207 = .ok (.invokevirtual 27, 3) := by decide +kernel
theorem d_LA_law_210 : decode code 210 = .ok (.if_icmp .eq 252, 3) := by decide +kernel
theorem d_LA_law_213 : decode code 213 = .ok (.iconst 0, 1) := by decide +kernel
theorem d_LA_law_214 : decode code 214 = .ok (.ireturn, 1) := by decide +kernel
theorem d_LA_law_215 : decode code 215 = .ok (.aload_n 1, 1) := by decide +kernel
theorem d_LA_law_216 : decode code 216 = .ok (.aload_n 0, 1) := by decide +kernel
theorem d_LA_law_217 : decode code 217 = .ok (.iload_n 3, 1) := by decide +kernel
theorem d_LA_law_218 : decode code 218 = .ok (.iconst 1, 1) := by decide +kernel
theorem d_LA_law_219 : decode code 219 = .ok (.iadd, 1) := by decide +kernel
theorem d_LA_law_220 : decode code 220 = .ok (.iaload, 1) := by decide +kernel
theorem d_LA_law_221 : decode code 221 = .ok (.aload_n 0, 1) := by decide +kernel
theorem d_LA_law_222 : decode code 222 = .ok (.iload_n 3, 1) := by decide +kernel
theorem d_LA_law_223 : decode code 223 = .ok (.iconst 2, 1) := by decide +kernel
theorem d_LA_law_224 : decode code 224 = .ok (.iadd, 1) := by decide +kernel
theorem d_LA_law_225 : decode code 225 = .ok (.iaload, 1) := by decide +kernel
theorem d_LA_law_226 : decode code 226 = .ok (.aload_n 0, 1) := by decide +kernel
theorem d_LA_law_227 : decode code 227 = .ok (.iload_n 3, 1) := by decide +kernel
theorem d_LA_law_228 : decode code 228 = .ok (.iconst 3, 1) := by decide +kernel
theorem d_LA_law_229 : decode code 229 = .ok (.iadd, 1) := by decide +kernel
theorem d_LA_law_230 : decode code 230 = .ok (.iaload, 1) := by decide +kernel
theorem d_LA_law_231 : decode code 231 = .ok (.invokevirtual 28, 3) := by decide +kernel
theorem d_LA_law_234 : decode code 234 = .ok (.aload_n 2, 1) := by decide +kernel
theorem d_LA_law_235 : decode code 235 = .ok (.aload_n 0, 1) := by decide +kernel
theorem d_LA_law_236 : decode code 236 = .ok (.iload_n 3, 1) := by decide +kernel
theorem d_LA_law_237 : decode code 237 = .ok (.iconst 1, 1) := by decide +kernel
theorem d_LA_law_238 : decode code 238 = .ok (.iadd, 1) := by decide +kernel
theorem d_LA_law_239 : decode code 239 = .ok (.iaload, 1) := by decide +kernel
theorem d_LA_law_240 : decode code 240 = .ok (.aload_n 0, 1) := by decide +kernel
theorem d_LA_law_241 : decode code 241 = .ok (.iload_n 3, 1) := by decide +kernel
theorem d_LA_law_242 : decode code 242 = .ok (.iconst 2, 1) := by decide +kernel
theorem d_LA_law_243 : decode code 243 = .ok (.iadd, 1) := by decide +kernel
theorem d_LA_law_244 : decode code 244 = .ok (.iaload, 1) := by decide +kernel
theorem d_LA_law_245 : decode code 245 = .ok (.aload_n 0, 1) := by decide +kernel
theorem d_LA_law_246 : decode code 246 = .ok (.iload_n 3, 1) := by decide +kernel
theorem d_LA_law_247 : decode code 247 = .ok (.iconst 3, 1) := by decide +kernel
theorem d_LA_law_248 : decode code 248 = .ok (.iadd, 1) := by decide +kernel
theorem d_LA_law_249 : decode code 249 = .ok (.iaload, 1) := by decide +kernel
theorem d_LA_law_250 : decode code 250 = .ok (.invokevirtual 32, 3) := by decide +kernel
theorem d_LA_law_253 : decode code 253 = .ok (.if_icmp .eq 209, 3) := by decide +kernel
theorem d_LA_law_256 : decode code 256 = .ok (.iconst 0, 1) := by decide +kernel
theorem d_LA_law_257 : decode code 257 = .ok (.ireturn, 1) := by decide +kernel
theorem d_LA_law_258 : decode code 258 = .ok (.aload_n 1, 1) := by decide +kernel
theorem d_LA_law_259 : decode code 259 = .ok (.aload_n 0, 1) := by decide +kernel
theorem d_LA_law_260 : decode code 260 = .ok (.iload_n 3, 1) := by decide +kernel
theorem d_LA_law_261 : decode code 261 = .ok (.iconst 1, 1) := by decide +kernel
theorem d_LA_law_262 : decode code 262 = .ok (.iadd, 1) := by decide +kernel
theorem d_LA_law_263 : decode code 263 = .ok (.iaload, 1) := by decide +kernel
theorem d_LA_law_264 : decode code 264 = .ok (.aload_n 0, 1) := by decide +kernel
theorem d_LA_law_265 : decode code 265 = .ok (.iload_n 3, 1) := by decide +kernel
theorem d_LA_law_266 : decode code 266 = .ok (.iconst 2, 1) := by decide +kernel
theorem d_LA_law_267 : decode code 267 = .ok (.iadd, 1) := by decide +kernel
theorem d_LA_law_268 : decode code 268 = .ok (.iaload, 1) := by decide +kernel
theorem d_LA_law_269 : decode code 269 = .ok (.aload_n 0, 1) := by decide +kernel
theorem d_LA_law_270 : decode code 270 = .ok (.iload_n 3, 1) := by decide +kernel
theorem d_LA_law_271 : decode code 271 = .ok (.iconst 3, 1) := by decide +kernel
theorem d_LA_law_272 : decode code 272 = .ok (.iadd, 1) := by decide +kernel
theorem d_LA_law_273 : decode code 273 = .ok (.iaload, 1) := by decide +kernel
theorem d_LA_law_274 : decode code 274 = .ok (.invokevirtual 33, 3) := by decide +kernel
theorem d_LA_law_277 : decode code 277 = .ok (.aload_n 2, 1) := by decide +kernel
theorem d_LA_law_278 : decode code 278 = .ok (.aload_n 0, 1) := by decide +kernel
theorem d_LA_law_279 : decode code 279 = .ok (.iload_n 3, 1) := by decide +kernel
theorem d_LA_law_280 : decode code 280 = .ok (.iconst 1, 1) := by decide +kernel
theorem d_LA_law_281 : decode code 281 = .ok (.iadd, 1) := by decide +kernel
theorem d_LA_law_282 : decode code 282 = .ok (.iaload, 1) := by decide +kernel
theorem d_LA_law_283 : decode code 283 = .ok (.aload_n 0, 1) := by decide +kernel
theorem d_LA_law_284 : decode code 284 = .ok (.iload_n 3, 1) := by decide +kernel
theorem d_LA_law_285 : decode code 285 = .ok (.iconst 2, 1) := by decide +kernel
theorem d_LA_law_286 : decode code 286 = .ok (.iadd, 1) := by decide +kernel
theorem d_LA_law_287 : decode code 287 = .ok (.iaload, 1) := by decide +kernel
theorem d_LA_law_288 : decode code 288 = .ok (.aload_n 0, 1) := by decide +kernel
theorem d_LA_law_289 : decode code 289 = .ok (.iload_n 3, 1) := by decide +kernel
theorem d_LA_law_290 : decode code 290 = .ok (.iconst 3, 1) := by decide +kernel
theorem d_LA_law_291 : decode code 291 = .ok (.iadd, 1) := by decide +kernel
theorem d_LA_law_292 : decode code 292 = .ok (.iaload, 1) := by decide +kernel
theorem d_LA_law_293 : decode code 293 = .ok (.invokevirtual 36, 3) := by decide +kernel
theorem d_LA_law_296 : decode code 296 = .ok (.if_icmp .eq 166, 3) := by decide +kernel
theorem d_LA_law_299 : decode code 299 = .ok (.iconst 0, 1) := by decide +kernel
theorem d_LA_law_300 : decode code 300 = .ok (.ireturn, 1) := by decide +kernel
theorem d_LA_law_301 : decode code 301 = .ok (.aload_n 1, 1) := by decide +kernel
theorem d_LA_law_302 : decode code 302 = .ok (.aload_n 0, 1) := by decide +kernel
theorem d_LA_law_303 : decode code 303 = .ok (.iload_n 3, 1) := by decide +kernel
theorem d_LA_law_304 : decode code 304 = .ok (.iconst 1, 1) := by decide +kernel
theorem d_LA_law_305 : decode code 305 = .ok (.iadd, 1) := by decide +kernel
theorem d_LA_law_306 : decode code 306 = .ok (.iaload, 1) := by decide +kernel
theorem d_LA_law_307 : decode code 307 = .ok (.aload_n 0, 1) := by decide +kernel
theorem d_LA_law_308 : decode code 308 = .ok (.iload_n 3, 1) := by decide +kernel
theorem d_LA_law_309 : decode code 309 = .ok (.iconst 2, 1) := by decide +kernel
theorem d_LA_law_310 : decode code 310 = .ok (.iadd, 1) := by decide +kernel
theorem d_LA_law_311 : decode code 311 = .ok (.iaload, 1) := by decide +kernel
theorem d_LA_law_312 : decode code 312 = .ok (.invokevirtual 37, 3) := by decide +kernel
theorem d_LA_law_315 : decode code 315 = .ok (.aload_n 2, 1) := by decide +kernel
theorem d_LA_law_316 : decode code 316 = .ok (.aload_n 0, 1) := by decide +kernel
theorem d_LA_law_317 : decode code 317 = .ok (.iload_n 3, 1) := by decide +kernel
theorem d_LA_law_318 : decode code 318 = .ok (.iconst 1, 1) := by decide +kernel
theorem d_LA_law_319 : decode code 319 = .ok (.iadd, 1) := by decide +kernel
theorem d_LA_law_320 : decode code 320 = .ok (.iaload, 1) := by decide +kernel
theorem d_LA_law_321 : decode code 321 = .ok (.aload_n 0, 1) := by decide +kernel
theorem d_LA_law_322 : decode code 322 = .ok (.iload_n 3, 1) := by decide +kernel
theorem d_LA_law_323 : decode code 323 = .ok (.iconst 2, 1) := by decide +kernel
theorem d_LA_law_324 : decode code 324 = .ok (.iadd, 1) := by decide +kernel
theorem d_LA_law_325 : decode code 325 = .ok (.iaload, 1) := by decide +kernel
theorem d_LA_law_326 : decode code 326 = .ok (.invokevirtual 40, 3) := by decide +kernel
theorem d_LA_law_329 : decode code 329 = .ok (.if_icmp .eq 133, 3) := by decide +kernel
theorem d_LA_law_332 : decode code 332 = .ok (.iconst 0, 1) := by decide +kernel
theorem d_LA_law_333 : decode code 333 = .ok (.ireturn, 1) := by decide +kernel
theorem d_LA_law_334 : decode code 334 = .ok (.aload_n 1, 1) := by decide +kernel
theorem d_LA_law_335 : decode code 335 = .ok (.invokevirtual 41, 3) := by decide +kernel
theorem d_LA_law_338 : decode code 338 = .ok (.aload_n 2, 1) := by decide +kernel
theorem d_LA_law_339 : decode code 339 = .ok (.invokevirtual 45, 3) := by decide +kernel
theorem d_LA_law_342 : decode code 342 = .ok (.if_icmp .eq 120, 3) := by decide +kernel
theorem d_LA_law_345 : decode code 345 = .ok (.iconst 0, 1) := by decide +kernel
theorem d_LA_law_346 : decode code 346 = .ok (.ireturn, 1) := by decide +kernel
theorem d_LA_law_347 : decode code 347 = .ok (.aload_n 1, 1) := by decide +kernel
theorem d_LA_law_348 : decode code 348 = .ok (.aload_n 0, 1) := by decide +kernel
theorem d_LA_law_349 : decode code 349 = .ok (.iload_n 3, 1) := by decide +kernel
theorem d_LA_law_350 : decode code 350 = .ok (.iconst 1, 1) := by decide +kernel
theorem d_LA_law_351 : decode code 351 = .ok (.iadd, 1) := by decide +kernel
theorem d_LA_law_352 : decode code 352 = .ok (.iaload, 1) := by decide +kernel
theorem d_LA_law_353 : decode code 353 = .ok (.aload_n 0, 1) := by decide +kernel
theorem d_LA_law_354 : decode code 354 = .ok (.iload_n 3, 1) := by decide +kernel
theorem d_LA_law_355 : decode code 355 = .ok (.iconst 2, 1) := by decide +kernel
theorem d_LA_law_356 : decode code 356 = .ok (.iadd, 1) := by decide +kernel
theorem d_LA_law_357 : decode code 357 = .ok (.iaload, 1) := by decide +kernel
theorem d_LA_law_358 : decode code 358 = .ok (.invokevirtual 46, 3) := by decide +kernel
theorem d_LA_law_361 : decode code 361 = .ok (.aload_n 2, 1) := by decide +kernel
theorem d_LA_law_362 : decode code 362 = .ok (.aload_n 0, 1) := by decide +kernel
theorem d_LA_law_363 : decode code 363 = .ok (.iload_n 3, 1) := by decide +kernel
theorem d_LA_law_364 : decode code 364 = .ok (.iconst 1, 1) := by decide +kernel
theorem d_LA_law_365 : decode code 365 = .ok (.iadd, 1) := by decide +kernel
theorem d_LA_law_366 : decode code 366 = .ok (.iaload, 1) := by decide +kernel
theorem d_LA_law_367 : decode code 367 = .ok (.aload_n 0, 1) := by decide +kernel
theorem d_LA_law_368 : decode code 368 = .ok (.iload_n 3, 1) := by decide +kernel
theorem d_LA_law_369 : decode code 369 = .ok (.iconst 2, 1) := by decide +kernel
theorem d_LA_law_370 : decode code 370 = .ok (.iadd, 1) := by decide +kernel
theorem d_LA_law_371 : decode code 371 = .ok (.iaload, 1) := by decide +kernel
theorem d_LA_law_372 : decode code 372 = .ok (.invokevirtual 49, 3) := by decide +kernel
theorem d_LA_law_375 : decode code 375 = .ok (.if_icmp .eq 87, 3) := by decide +kernel
theorem d_LA_law_378 : decode code 378 = .ok (.iconst 0, 1) := by decide +kernel
theorem d_LA_law_379 : decode code 379 = .ok (.ireturn, 1) := by decide +kernel
theorem d_LA_law_380 : decode code 380 = .ok (.aload_n 1, 1) := by decide +kernel
theorem d_LA_law_381 : decode code 381 = .ok (.aload_n 0, 1) := by decide +kernel
theorem d_LA_law_382 : decode code 382 = .ok (.iload_n 3, 1) := by decide +kernel
theorem d_LA_law_383 : decode code 383 = .ok (.iconst 1, 1) := by decide +kernel
theorem d_LA_law_384 : decode code 384 = .ok (.iadd, 1) := by decide +kernel
theorem d_LA_law_385 : decode code 385 = .ok (.iaload, 1) := by decide +kernel
theorem d_LA_law_386 : decode code 386 = .ok (.aload_n 0, 1) := by decide +kernel
theorem d_LA_law_387 : decode code 387 = .ok (.iload_n 3, 1) := by decide +kernel
theorem d_LA_law_388 : decode code 388 = .ok (.iconst 2, 1) := by decide +kernel
theorem d_LA_law_389 : decode code 389 = .ok (.iadd, 1) := by decide +kernel
theorem d_LA_law_390 : decode code 390 = .ok (.iaload, 1) := by decide +kernel
theorem d_LA_law_391 : decode code 391 = .ok (.invokevirtual 50, 3) := by decide +kernel
theorem d_LA_law_394 : decode code 394 = .ok (.aload_n 2, 1) := by decide +kernel
theorem d_LA_law_395 : decode code 395 = .ok (.aload_n 0, 1) := by decide +kernel
theorem d_LA_law_396 : decode code 396 = .ok (.iload_n 3, 1) := by decide +kernel
theorem d_LA_law_397 : decode code 397 = .ok (.iconst 1, 1) := by decide +kernel
theorem d_LA_law_398 : decode code 398 = .ok (.iadd, 1) := by decide +kernel
theorem d_LA_law_399 : decode code 399 = .ok (.iaload, 1) := by decide +kernel
theorem d_LA_law_400 : decode code 400 = .ok (.aload_n 0, 1) := by decide +kernel
theorem d_LA_law_401 : decode code 401 = .ok (.iload_n 3, 1) := by decide +kernel
theorem d_LA_law_402 : decode code 402 = .ok (.iconst 2, 1) := by decide +kernel
theorem d_LA_law_403 : decode code 403 = .ok (.iadd, 1) := by decide +kernel
theorem d_LA_law_404 : decode code 404 = .ok (.iaload, 1) := by decide +kernel
theorem d_LA_law_405 : decode code 405 = .ok (.invokevirtual 53, 3) := by decide +kernel
theorem d_LA_law_408 : decode code 408 = .ok (.if_icmp .eq 54, 3) := by decide +kernel
theorem d_LA_law_411 : decode code 411 = .ok (.iconst 0, 1) := by decide +kernel
theorem d_LA_law_412 : decode code 412 = .ok (.ireturn, 1) := by decide +kernel
theorem d_LA_law_413 : decode code 413 = .ok (.aload_n 1, 1) := by decide +kernel
theorem d_LA_law_414 : decode code 414 = .ok (.aload_n 0, 1) := by decide +kernel
theorem d_LA_law_415 : decode code 415 = .ok (.iload_n 3, 1) := by decide +kernel
theorem d_LA_law_416 : decode code 416 = .ok (.iconst 1, 1) := by decide +kernel
theorem d_LA_law_417 : decode code 417 = .ok (.iadd, 1) := by decide +kernel
theorem d_LA_law_418 : decode code 418 = .ok (.iaload, 1) := by decide +kernel
theorem d_LA_law_419 : decode code 419 = .ok (.invokevirtual 54, 3) := by decide +kernel
theorem d_LA_law_422 : decode code 422 = .ok (.aload_n 2, 1) := by decide +kernel
theorem d_LA_law_423 : decode code 423 = .ok (.aload_n 0, 1) := by decide +kernel
theorem d_LA_law_424 : decode code 424 = .ok (.iload_n 3, 1) := by decide +kernel
theorem d_LA_law_425 : decode code 425 = .ok (.iconst 1, 1) := by decide +kernel
theorem d_LA_law_426 : decode code 426 = .ok (.iadd, 1) := by decide +kernel
theorem d_LA_law_427 : decode code 427 = .ok (.iaload, 1) := by decide +kernel
theorem d_LA_law_428 : decode code 428 = .ok (.invokevirtual 57, 3) := by decide +kernel
theorem d_LA_law_431 : decode code 431 = .ok (.if_icmp .eq 31, 3) := by decide +kernel
theorem d_LA_law_434 : decode code 434 = .ok (.iconst 0, 1) := by decide +kernel
theorem d_LA_law_435 : decode code 435 = .ok (.ireturn, 1) := by decide +kernel
theorem d_LA_law_436 : decode code 436 = .ok (.aload_n 1, 1) := by decide +kernel
theorem d_LA_law_437 : decode code 437 = .ok (.invokevirtual 58, 3) := by decide +kernel
theorem d_LA_law_440 : decode code 440 = .ok (.aload_n 2, 1) := by decide +kernel
theorem d_LA_law_441 : decode code 441 = .ok (.invokevirtual 61, 3) := by decide +kernel
theorem d_LA_law_444 : decode code 444 = .ok (.if_icmp .eq 18, 3) := by decide +kernel
theorem d_LA_law_447 : decode code 447 = .ok (.iconst 0, 1) := by decide +kernel
theorem d_LA_law_448 : decode code 448 = .ok (.ireturn, 1) := by decide +kernel
theorem d_LA_law_449 : decode code 449 = .ok (.aload_n 1, 1) := by decide +kernel
theorem d_LA_law_450 : decode code 450 = .ok (.invokevirtual 62, 3) := by decide +kernel
theorem d_LA_law_453 : decode code 453 = .ok (.aload_n 2, 1) := by decide +kernel
theorem d_LA_law_454 : decode code 454 = .ok (.invokevirtual 66, 3) := by decide +kernel
theorem d_LA_law_457 : decode code 457 = .ok (.if_icmp .eq 5, 3) := by decide +kernel
theorem d_LA_law_460 : decode code 460 = .ok (.iconst 0, 1) := by decide +kernel
theorem d_LA_law_461 : decode code 461 = .ok (.ireturn, 1) := by decide +kernel
theorem d_LA_law_462 : decode code 462 = .ok (.iinc 3 6, 3) := by decide +kernel
theorem d_LA_law_465 : decode code 465 = .ok (.goto (-447), 3) := by decide +kernel
theorem d_LA_law_468 : decode code 468 = .ok (.iconst 1, 1) := by decide +kernel
theorem d_LA_law_469 : decode code 469 = .ok (.ireturn, 1) := by decide +kernel
