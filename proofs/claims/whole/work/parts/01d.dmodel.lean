theorem dX11_init_0 : decode cX11_init 0 = .ok (.aload_n 0, 1) := by decide +kernel
theorem dX11_init_1 : decode cX11_init 1 = .ok (.invokespecial 1, 3) := by decide +kernel
theorem dX11_init_4 : decode cX11_init 4 = .ok (.aload_n 0, 1) := by decide +kernel
theorem dX11_init_5 : decode cX11_init 5 = .ok (.iconst 5, 1) := by decide +kernel
theorem dX11_init_6 : decode cX11_init 6 = .ok (.newarray .int, 2) := by decide +kernel
theorem dX11_init_8 : decode cX11_init 8 = .ok (.putfield 7, 3) := by decide +kernel
theorem dX11_init_11 : decode cX11_init 11 = .ok (.aload_n 0, 1) := by decide +kernel
theorem dX11_init_12 : decode cX11_init 12 = .ok (.iconst 5, 1) := by decide +kernel
theorem dX11_init_13 : decode cX11_init 13 = .ok (.newarray .int, 2) := by decide +kernel
theorem dX11_init_15 : decode cX11_init 15 = .ok (.putfield 13, 3) := by decide +kernel
theorem dX11_init_18 : decode cX11_init 18 = .ok (.aload_n 0, 1) := by decide +kernel
theorem dX11_init_19 : decode cX11_init 19 = .ok (.bipush 20, 2) := by decide +kernel
theorem dX11_init_21 : decode cX11_init 21 = .ok (.newarray .int, 2) := by decide +kernel
theorem dX11_init_23 : decode cX11_init 23 = .ok (.putfield 16, 3) := by decide +kernel
theorem dX11_init_26 : decode cX11_init 26 = .ok (.aload_n 0, 1) := by decide +kernel
theorem dX11_init_27 : decode cX11_init 27 = .ok (.bipush 20, 2) := by decide +kernel
theorem dX11_init_29 : decode cX11_init 29 = .ok (.newarray .int, 2) := by decide +kernel
theorem dX11_init_31 : decode cX11_init 31 = .ok (.putfield 19, 3) := by decide +kernel
theorem dX11_init_34 : decode cX11_init 34 = .ok (.aload_n 0, 1) := by decide +kernel
theorem dX11_init_35 : decode cX11_init 35 = .ok (.bipush 20, 2) := by decide +kernel
theorem dX11_init_37 : decode cX11_init 37 = .ok (.newarray .int, 2) := by decide +kernel
theorem dX11_init_39 : decode cX11_init 39 = .ok (.putfield 22, 3) := by decide +kernel
theorem dX11_init_42 : decode cX11_init 42 = .ok (.aload_n 0, 1) := by decide +kernel
theorem dX11_init_43 : decode cX11_init 43 = .ok (.bipush 6, 2) := by decide +kernel
theorem dX11_init_45 : decode cX11_init 45 = .ok (.newarray .int, 2) := by decide +kernel
theorem dX11_init_47 : decode cX11_init 47 = .ok (.putfield 25, 3) := by decide +kernel
theorem dX11_init_50 : decode cX11_init 50 = .ok (.aload_n 0, 1) := by decide +kernel
theorem dX11_init_51 : decode cX11_init 51 = .ok (.bipush 6, 2) := by decide +kernel
theorem dX11_init_53 : decode cX11_init 53 = .ok (.newarray .int, 2) := by decide +kernel
theorem dX11_init_55 : decode cX11_init 55 = .ok (.putfield 28, 3) := by decide +kernel
theorem dX11_init_58 : decode cX11_init 58 = .ok (.aload_n 0, 1) := by decide +kernel
theorem dX11_init_59 : decode cX11_init 59 = .ok (.bipush 6, 2) := by decide +kernel
theorem dX11_init_61 : decode cX11_init 61 = .ok (.newarray .int, 2) := by decide +kernel
theorem dX11_init_63 : decode cX11_init 63 = .ok (.putfield 31, 3) := by decide +kernel
theorem dX11_init_66 : decode cX11_init 66 = .ok (.aload_n 0, 1) := by decide +kernel
theorem dX11_init_67 : decode cX11_init 67 = .ok (.bipush 6, 2) := by decide +kernel
theorem dX11_init_69 : decode cX11_init 69 = .ok (.newarray .int, 2) := by decide +kernel
theorem dX11_init_71 : decode cX11_init 71 = .ok (.putfield 34, 3) := by decide +kernel
theorem dX11_init_74 : decode cX11_init 74 = .ok (.aload_n 0, 1) := by decide +kernel
theorem dX11_init_75 : decode cX11_init 75 = .ok (.bipush 6, 2) := by decide +kernel
theorem dX11_init_77 : decode cX11_init 77 = .ok (.newarray .int, 2) := by decide +kernel
theorem dX11_init_79 : decode cX11_init 79 = .ok (.putfield 37, 3) := by decide +kernel
theorem dX11_init_82 : decode cX11_init 82 = .ok (.aload_n 0, 1) := by decide +kernel
theorem dX11_init_83 : decode cX11_init 83 = .ok (.iconst 5, 1) := by decide +kernel
theorem dX11_init_84 : decode cX11_init 84 = .ok (.newarray .boolean, 2) := by decide +kernel
theorem dX11_init_86 : decode cX11_init 86 = .ok (.putfield 40, 3) := by decide +kernel
theorem dX11_init_89 : decode cX11_init 89 = .ok (.aload_n 0, 1) := by decide +kernel
theorem dX11_init_90 : decode cX11_init 90 = .ok (.iconst 5, 1) := by decide +kernel
theorem dX11_init_91 : decode cX11_init 91 = .ok (.newarray .int, 2) := by decide +kernel
theorem dX11_init_93 : decode cX11_init 93 = .ok (.putfield 44, 3) := by decide +kernel
theorem dX11_init_96 : decode cX11_init 96 = .ok (.aload_n 0, 1) := by decide +kernel
theorem dX11_init_97 : decode cX11_init 97 = .ok (.iconst 5, 1) := by decide +kernel
theorem dX11_init_98 : decode cX11_init 98 = .ok (.newarray .int, 2) := by decide +kernel
theorem dX11_init_100 : decode cX11_init 100 = .ok (.putfield 47, 3) := by decide +kernel
theorem dX11_init_103 : decode cX11_init 103 = .ok (.aload_n 0, 1) := by decide +kernel
theorem dX11_init_104 : decode cX11_init 104 = .ok (.iconst 5, 1) := by decide +kernel
theorem dX11_init_105 : decode cX11_init 105 = .ok (.newarray .int, 2) := by decide +kernel
theorem dX11_init_107 : decode cX11_init 107 = .ok (.putfield 50, 3) := by decide +kernel
theorem dX11_init_110 : decode cX11_init 110 = .ok (.aload_n 0, 1) := by decide +kernel
theorem dX11_init_111 : decode cX11_init 111 = .ok (.iconst 5, 1) := by decide +kernel
theorem dX11_init_112 : decode cX11_init 112 = .ok (.newarray .int, 2) := by decide +kernel
theorem dX11_init_114 : decode cX11_init 114 = .ok (.putfield 53, 3) := by decide +kernel
theorem dX11_init_117 : decode cX11_init 117 = .ok (.aload_n 0, 1) := by decide +kernel
theorem dX11_init_118 : decode cX11_init 118 = .ok (.iconst 5, 1) := by decide +kernel
theorem dX11_init_119 : decode cX11_init 119 = .ok (.newarray .int, 2) := by decide +kernel
theorem dX11_init_121 : decode cX11_init 121 = .ok (.putfield 56, 3) := by decide +kernel
theorem dX11_init_124 : decode cX11_init 124 = .ok (.aload_n 0, 1) := by decide +kernel
theorem dX11_init_125 : decode cX11_init 125 = .ok (.iconst 5, 1) := by decide +kernel
theorem dX11_init_126 : decode cX11_init 126 = .ok (.newarray .int, 2) := by decide +kernel
theorem dX11_init_128 : decode cX11_init 128 = .ok (.putfield 59, 3) := by decide +kernel
theorem dX11_init_131 : decode cX11_init 131 = .ok (.aload_n 0, 1) := by decide +kernel
theorem dX11_init_132 : decode cX11_init 132 = .ok (.iconst 5, 1) := by decide +kernel
theorem dX11_init_133 : decode cX11_init 133 = .ok (.newarray .int, 2) := by decide +kernel
theorem dX11_init_135 : decode cX11_init 135 = .ok (.putfield 62, 3) := by decide +kernel
theorem dX11_init_138 : decode cX11_init 138 = .ok (.aload_n 0, 1) := by decide +kernel
theorem dX11_init_139 : decode cX11_init 139 = .ok (.iconst 4, 1) := by decide +kernel
theorem dX11_init_140 : decode cX11_init 140 = .ok (.newarray .int, 2) := by decide +kernel
theorem dX11_init_142 : decode cX11_init 142 = .ok (.dup, 1) := by decide +kernel
theorem dX11_init_143 : decode cX11_init 143 = .ok (.iconst 0, 1) := by decide +kernel
theorem dX11_init_144 : decode cX11_init 144 = .ok (.bipush 60, 2) := by decide +kernel
theorem dX11_init_146 : decode cX11_init 146 = .ok (.iastore, 1) := by decide +kernel
theorem dX11_init_147 : decode cX11_init 147 = .ok (.dup, 1) := by decide +kernel
theorem dX11_init_148 : decode cX11_init 148 = .ok (.iconst 1, 1) := by decide +kernel
theorem dX11_init_149 : decode cX11_init 149 = .ok (.bipush 60, 2) := by decide +kernel
theorem dX11_init_151 : decode cX11_init 151 = .ok (.iastore, 1) := by decide +kernel
theorem dX11_init_152 : decode cX11_init 152 = .ok (.dup, 1) := by decide +kernel
theorem dX11_init_153 : decode cX11_init 153 = .ok (.iconst 2, 1) := by decide +kernel
theorem dX11_init_154 : decode cX11_init 154 = .ok (.bipush 60, 2) := by decide +kernel
theorem dX11_init_156 : decode cX11_init 156 = .ok (.iastore, 1) := by decide +kernel
theorem dX11_init_157 : decode cX11_init 157 = .ok (.dup, 1) := by decide +kernel
theorem dX11_init_158 : decode cX11_init 158 = .ok (.iconst 3, 1) := by decide +kernel
theorem dX11_init_159 : decode cX11_init 159 = .ok (.bipush 60, 2) := by decide +kernel
theorem dX11_init_161 : decode cX11_init 161 = .ok (.iastore, 1) := by decide +kernel
theorem dX11_init_162 : decode cX11_init 162 = .ok (.putfield 65, 3) := by decide +kernel
theorem dX11_init_165 : decode cX11_init 165 = .ok (.aload_n 0, 1) := by decide +kernel
theorem dX11_init_166 : decode cX11_init 166 = .ok (.sipush 1000, 3) := by decide +kernel
theorem dX11_init_169 : decode cX11_init 169 = .ok (.newarray .int, 2) := by decide +kernel
theorem dX11_init_171 : decode cX11_init 171 = .ok (.putfield 68, 3) := by decide +kernel
theorem dX11_init_174 : decode cX11_init 174 = .ok (.aload_n 0, 1) := by decide +kernel
theorem dX11_init_175 : decode cX11_init 175 = .ok (.sipush 1000, 3) := by decide +kernel
theorem dX11_init_178 : decode cX11_init 178 = .ok (.newarray .int, 2) := by decide +kernel
theorem dX11_init_180 : decode cX11_init 180 = .ok (.putfield 71, 3) := by decide +kernel
theorem dX11_init_183 : decode cX11_init 183 = .ok (.aload_n 0, 1) := by decide +kernel
theorem dX11_init_184 : decode cX11_init 184 = .ok (.sipush 1000, 3) := by decide +kernel
theorem dX11_init_187 : decode cX11_init 187 = .ok (.newarray .int, 2) := by decide +kernel
theorem dX11_init_189 : decode cX11_init 189 = .ok (.putfield 74, 3) := by decide +kernel
theorem dX11_init_192 : decode cX11_init 192 = .ok (.aload_n 0, 1) := by decide +kernel
theorem dX11_init_193 : decode cX11_init 193 = .ok (.sipush 1000, 3) := by decide +kernel
theorem dX11_init_196 : decode cX11_init 196 = .ok (.newarray .int, 2) := by decide +kernel
theorem dX11_init_198 : decode cX11_init 198 = .ok (.putfield 77, 3) := by decide +kernel
theorem dX11_init_201 : decode cX11_init 201 = .ok (.aload_n 0, 1) := by decide +kernel
theorem dX11_init_202 : decode cX11_init 202 = .ok (.sipush 1000, 3) := by decide +kernel
theorem dX11_init_205 : decode cX11_init 205 = .ok (.newarray .int, 2) := by decide +kernel
theorem dX11_init_207 : decode cX11_init 207 = .ok (.putfield 80, 3) := by decide +kernel
theorem dX11_init_210 : decode cX11_init 210 = .ok (.aload_n 0, 1) := by decide +kernel
theorem dX11_init_211 : decode cX11_init 211 = .ok (.sipush 1000, 3) := by decide +kernel
theorem dX11_init_214 : decode cX11_init 214 = .ok (.newarray .int, 2) := by decide +kernel
theorem dX11_init_216 : decode cX11_init 216 = .ok (.putfield 83, 3) := by decide +kernel
theorem dX11_init_219 : decode cX11_init 219 = .ok (.aload_n 0, 1) := by decide +kernel
theorem dX11_init_220 : decode cX11_init 220 = .ok (.sipush 1000, 3) := by decide +kernel
theorem dX11_init_223 : decode cX11_init 223 = .ok (.newarray .int, 2) := by decide +kernel
theorem dX11_init_225 : decode cX11_init 225 = .ok (.putfield 86, 3) := by decide +kernel
theorem dX11_init_228 : decode cX11_init 228 = .ok (.aload_n 0, 1) := by decide +kernel
theorem dX11_init_229 : decode cX11_init 229 = .ok (.sipush 1000, 3) := by decide +kernel
theorem dX11_init_232 : decode cX11_init 232 = .ok (.newarray .int, 2) := by decide +kernel
theorem dX11_init_234 : decode cX11_init 234 = .ok (.putfield 89, 3) := by decide +kernel
theorem dX11_init_237 : decode cX11_init 237 = .ok (.aload_n 0, 1) := by decide +kernel
theorem dX11_init_238 : decode cX11_init 238 = .ok (.sipush 1000, 3) := by decide +kernel
theorem dX11_init_241 : decode cX11_init 241 = .ok (.newarray .int, 2) := by decide +kernel
theorem dX11_init_243 : decode cX11_init 243 = .ok (.putfield 92, 3) := by decide +kernel
theorem dX11_init_246 : decode cX11_init 246 = .ok (.aload_n 0, 1) := by decide +kernel
theorem dX11_init_247 : decode cX11_init 247 = .ok (.iconst 3, 1) := by decide +kernel
theorem dX11_init_248 : decode cX11_init 248 = .ok (.newarray .int, 2) := by decide +kernel
theorem dX11_init_250 : decode cX11_init 250 = .ok (.putfield 95, 3) := by decide +kernel
theorem dX11_init_253 : decode cX11_init 253 = .ok (.aload_n 0, 1) := by decide +kernel
theorem dX11_init_254 : decode cX11_init 254 = .ok (.sipush 200, 3) := by decide +kernel
theorem dX11_init_257 : decode cX11_init 257 = .ok (.newarray .byte, 2) := by decide +kernel
theorem dX11_init_259 : decode cX11_init 259 = .ok (.putfield 98, 3) := by decide +kernel
theorem dX11_init_262 : decode cX11_init 262 = .ok (.aload_n 0, 1) := by decide +kernel
theorem dX11_init_263 : decode cX11_init 263 = .ok (.bipush 8, 2) := by decide +kernel
theorem dX11_init_265 : decode cX11_init 265 = .ok (.newarray .int, 2) := by decide +kernel
theorem dX11_init_267 : decode cX11_init 267 = .ok (.putfield 102, 3) := by decide +kernel
theorem dX11_init_270 : decode cX11_init 270 = .ok (.aload_n 0, 1) := by decide +kernel
theorem dX11_init_271 : decode cX11_init 271 = .ok (.bipush 8, 2) := by decide +kernel
theorem dX11_init_273 : decode cX11_init 273 = .ok (.newarray .int, 2) := by decide +kernel
theorem dX11_init_275 : decode cX11_init 275 = .ok (.putfield 105, 3) := by decide +kernel
theorem dX11_init_278 : decode cX11_init 278 = .ok (.aload_n 0, 1) := by decide +kernel
theorem dX11_init_279 : decode cX11_init 279 = .ok (.bipush 8, 2) := by decide +kernel
theorem dX11_init_281 : decode cX11_init 281 = .ok (.newarray .int, 2) := by decide +kernel
theorem dX11_init_283 : decode cX11_init 283 = .ok (.putfield 108, 3) := by decide +kernel
theorem dX11_init_286 : decode cX11_init 286 = .ok (.aload_n 0, 1) := by decide +kernel
theorem dX11_init_287 : decode cX11_init 287 = .ok (.bipush 8, 2) := by decide +kernel
theorem dX11_init_289 : decode cX11_init 289 = .ok (.newarray .int, 2) := by decide +kernel
theorem dX11_init_291 : decode cX11_init 291 = .ok (.putfield 111, 3) := by decide +kernel
theorem dX11_init_294 : decode cX11_init 294 = .ok (.aload_n 0, 1) := by decide +kernel
theorem dX11_init_295 : decode cX11_init 295 = .ok (.bipush 8, 2) := by decide +kernel
theorem dX11_init_297 : decode cX11_init 297 = .ok (.newarray .int, 2) := by decide +kernel
theorem dX11_init_299 : decode cX11_init 299 = .ok (.putfield 114, 3) := by decide +kernel
theorem dX11_init_302 : decode cX11_init 302 = .ok (.aload_n 0, 1) := by decide +kernel
theorem dX11_init_303 : decode cX11_init 303 = .ok (.bipush 8, 2) := by decide +kernel
theorem dX11_init_305 : decode cX11_init 305 = .ok (.newarray .int, 2) := by decide +kernel
theorem dX11_init_307 : decode cX11_init 307 = .ok (.putfield 117, 3) := by decide +kernel
theorem dX11_init_310 : decode cX11_init 310 = .ok (.aload_n 0, 1) := by decide +kernel
theorem dX11_init_311 : decode cX11_init 311 = .ok (.ldc 120, 2) := by decide +kernel
theorem dX11_init_313 : decode cX11_init 313 = .ok (.newarray .long, 2) := by decide +kernel
theorem dX11_init_315 : decode cX11_init 315 = .ok (.putfield 121, 3) := by decide +kernel
theorem dX11_init_318 : decode cX11_init 318 = .ok (.aload_n 0, 1) := by decide +kernel
theorem dX11_init_319 : decode cX11_init 319 = .ok (.bipush 7, 2) := by decide +kernel
theorem dX11_init_321 : decode cX11_init 321 = .ok (.newarray .int, 2) := by decide +kernel
theorem dX11_init_323 : decode cX11_init 323 = .ok (.putfield 125, 3) := by decide +kernel
theorem dX11_init_326 : decode cX11_init 326 = .ok (.aload_n 0, 1) := by decide +kernel
theorem dX11_init_327 : decode cX11_init 327 = .ok (.bipush 50, 2) := by decide +kernel
theorem dX11_init_329 : decode cX11_init 329 = .ok (.newarray .int, 2) := by decide +kernel
theorem dX11_init_331 : decode cX11_init 331 = .ok (.putfield 128, 3) := by decide +kernel
theorem dX11_init_334 : decode cX11_init 334 = .ok (.aload_n 0, 1) := by decide +kernel
theorem dX11_init_335 : decode cX11_init 335 = .ok (.bipush 25, 2) := by decide +kernel
theorem dX11_init_337 : decode cX11_init 337 = .ok (.newarray .int, 2) := by decide +kernel
theorem dX11_init_339 : decode cX11_init 339 = .ok (.putfield 131, 3) := by decide +kernel
theorem dX11_init_342 : decode cX11_init 342 = .ok (.aload_n 0, 1) := by decide +kernel
theorem dX11_init_343 : decode cX11_init 343 = .ok (.bipush 55, 2) := by decide +kernel
theorem dX11_init_345 : decode cX11_init 345 = .ok (.newarray .int, 2) := by decide +kernel
theorem dX11_init_347 : decode cX11_init 347 = .ok (.putfield 134, 3) := by decide +kernel
theorem dX11_init_350 : decode cX11_init 350 = .ok (.aload_n 0, 1) := by decide +kernel
theorem dX11_init_351 : decode cX11_init 351 = .ok (.bipush 10, 2) := by decide +kernel
theorem dX11_init_353 : decode cX11_init 353 = .ok (.newarray .int, 2) := by decide +kernel
theorem dX11_init_355 : decode cX11_init 355 = .ok (.putfield 137, 3) := by decide +kernel
theorem dX11_init_358 : decode cX11_init 358 = .ok (.iconst 0, 1) := by decide +kernel
theorem dX11_init_359 : decode cX11_init 359 = .ok (.istore_n 1, 1) := by decide +kernel
theorem dX11_init_360 : decode cX11_init 360 = .ok (.iload_n 1, 1) := by decide +kernel
theorem dX11_init_361 : decode cX11_init 361 = .ok (.bipush 6, 2) := by decide +kernel
theorem dX11_init_363 : decode cX11_init 363 = .ok (.if_icmp .ge 16, 3) := by decide +kernel
theorem dX11_init_366 : decode cX11_init 366 = .ok (.aload_n 0, 1) := by decide +kernel
theorem dX11_init_367 : decode cX11_init 367 = .ok (.getfield 25, 3) := by decide +kernel
theorem dX11_init_370 : decode cX11_init 370 = .ok (.iload_n 1, 1) := by decide +kernel
theorem dX11_init_371 : decode cX11_init 371 = .ok (.iconst (-1), 1) := by decide +kernel
theorem dX11_init_372 : decode cX11_init 372 = .ok (.iastore, 1) := by decide +kernel
theorem dX11_init_373 : decode cX11_init 373 = .ok (.iinc 1 1, 3) := by decide +kernel
theorem dX11_init_376 : decode cX11_init 376 = .ok (.goto (-16), 3) := by decide +kernel
theorem dX11_init_379 : decode cX11_init 379 = .ok (.iconst 0, 1) := by decide +kernel
theorem dX11_init_380 : decode cX11_init 380 = .ok (.istore_n 1, 1) := by decide +kernel
theorem dX11_init_381 : decode cX11_init 381 = .ok (.iload_n 1, 1) := by decide +kernel
theorem dX11_init_382 : decode cX11_init 382 = .ok (.bipush 7, 2) := by decide +kernel
theorem dX11_init_384 : decode cX11_init 384 = .ok (.if_icmp .ge 16, 3) := by decide +kernel
theorem dX11_init_387 : decode cX11_init 387 = .ok (.aload_n 0, 1) := by decide +kernel
theorem dX11_init_388 : decode cX11_init 388 = .ok (.getfield 125, 3) := by decide +kernel
theorem dX11_init_391 : decode cX11_init 391 = .ok (.iload_n 1, 1) := by decide +kernel
theorem dX11_init_392 : decode cX11_init 392 = .ok (.iconst (-1), 1) := by decide +kernel
theorem dX11_init_393 : decode cX11_init 393 = .ok (.iastore, 1) := by decide +kernel
theorem dX11_init_394 : decode cX11_init 394 = .ok (.iinc 1 1, 3) := by decide +kernel
theorem dX11_init_397 : decode cX11_init 397 = .ok (.goto (-16), 3) := by decide +kernel
theorem dX11_init_400 : decode cX11_init 400 = .ok (.return_, 1) := by decide +kernel
theorem dX11_in_0 : decode cX11_in 0 = .ok (.iload_n 0, 1) := by decide +kernel
theorem dX11_in_1 : decode cX11_in 1 = .ok (.iload_n 1, 1) := by decide +kernel
theorem dX11_in_2 : decode cX11_in 2 = .ok (.if_icmp .lt 12, 3) := by decide +kernel
theorem dX11_in_5 : decode cX11_in 5 = .ok (.iload_n 0, 1) := by decide +kernel
theorem dX11_in_6 : decode cX11_in 6 = .ok (.iload_n 2, 1) := by decide +kernel
theorem dX11_in_7 : decode cX11_in 7 = .ok (.if_icmp .gt 7, 3) := by decide +kernel
theorem dX11_in_10 : decode cX11_in 10 = .ok (.iconst 1, 1) := by decide +kernel
theorem dX11_in_11 : decode cX11_in 11 = .ok (.goto 4, 3) := by decide +kernel
theorem dX11_in_14 : decode cX11_in 14 = .ok (.iconst 0, 1) := by decide +kernel
theorem dX11_in_15 : decode cX11_in 15 = .ok (.ireturn, 1) := by decide +kernel
theorem dX11_right_0 : decode cX11_right 0 = .ok (.iload_n 1, 1) := by decide +kernel
theorem dX11_right_1 : decode cX11_right 1 = .ok (.iconst 0, 1) := by decide +kernel
theorem dX11_right_2 : decode cX11_right 2 = .ok (.iconst 4, 1) := by decide +kernel
theorem dX11_right_3 : decode cX11_right 3 = .ok (.invokestatic 140, 3) := by decide +kernel
theorem dX11_right_6 : decode cX11_right 6 = .ok (.ifCond .eq 14, 3) := by decide +kernel
theorem dX11_right_9 : decode cX11_right 9 = .ok (.iload_n 2, 1) := by decide +kernel
theorem dX11_right_10 : decode cX11_right 10 = .ok (.iconst 0, 1) := by decide +kernel
theorem dX11_right_11 : decode cX11_right 11 = .ok (.sipush 10000, 3) := by decide +kernel
theorem dX11_right_14 : decode cX11_right 14 = .ok (.invokestatic 140, 3) := by decide +kernel
theorem dX11_right_17 : decode cX11_right 17 = .ok (.ifCond .ne 5, 3) := by decide +kernel
theorem dX11_right_20 : decode cX11_right 20 = .ok (.iconst (-1), 1) := by decide +kernel
theorem dX11_right_21 : decode cX11_right 21 = .ok (.ireturn, 1) := by decide +kernel
theorem dX11_right_22 : decode cX11_right 22 = .ok (.aload_n 0, 1) := by decide +kernel
theorem dX11_right_23 : decode cX11_right 23 = .ok (.getfield 7, 3) := by decide +kernel
theorem dX11_right_26 : decode cX11_right 26 = .ok (.iload_n 1, 1) := by decide +kernel
theorem dX11_right_27 : decode cX11_right 27 = .ok (.iaload, 1) := by decide +kernel
theorem dX11_right_28 : decode cX11_right 28 = .ok (.istore_n 3, 1) := by decide +kernel
theorem dX11_right_29 : decode cX11_right 29 = .ok (.aload_n 0, 1) := by decide +kernel
theorem dX11_right_30 : decode cX11_right 30 = .ok (.getfield 7, 3) := by decide +kernel
theorem dX11_right_33 : decode cX11_right 33 = .ok (.iload_n 1, 1) := by decide +kernel
theorem dX11_right_34 : decode cX11_right 34 = .ok (.iload_n 2, 1) := by decide +kernel
theorem dX11_right_35 : decode cX11_right 35 = .ok (.iastore, 1) := by decide +kernel
theorem dX11_right_36 : decode cX11_right 36 = .ok (.iload_n 3, 1) := by decide +kernel
theorem dX11_right_37 : decode cX11_right 37 = .ok (.ireturn, 1) := by decide +kernel
theorem dX11_cut_0 : decode cX11_cut 0 = .ok (.iload_n 1, 1) := by decide +kernel
theorem dX11_cut_1 : decode cX11_cut 1 = .ok (.iconst 1, 1) := by decide +kernel
theorem dX11_cut_2 : decode cX11_cut 2 = .ok (.sipush 10000, 3) := by decide +kernel
theorem dX11_cut_5 : decode cX11_cut 5 = .ok (.invokestatic 140, 3) := by decide +kernel
theorem dX11_cut_8 : decode cX11_cut 8 = .ok (.ifCond .eq 13, 3) := by decide +kernel
theorem dX11_cut_11 : decode cX11_cut 11 = .ok (.aload_n 0, 1) := by decide +kernel
theorem dX11_cut_12 : decode cX11_cut 12 = .ok (.getfield 144, 3) := by decide +kernel
theorem dX11_cut_15 : decode cX11_cut 15 = .ok (.sipush 5000, 3) := by decide +kernel
theorem dX11_cut_18 : decode cX11_cut 18 = .ok (.if_icmp .ne 5, 3) := by decide +kernel
theorem dX11_cut_21 : decode cX11_cut 21 = .ok (.iconst (-1), 1) := by decide +kernel
theorem dX11_cut_22 : decode cX11_cut 22 = .ok (.ireturn, 1) := by decide +kernel
theorem dX11_cut_23 : decode cX11_cut 23 = .ok (.iload_n 1, 1) := by decide +kernel
theorem dX11_cut_24 : decode cX11_cut 24 = .ok (.istore_n 2, 1) := by decide +kernel
theorem dX11_cut_25 : decode cX11_cut 25 = .ok (.aload_n 0, 1) := by decide +kernel
theorem dX11_cut_26 : decode cX11_cut 26 = .ok (.getfield 7, 3) := by decide +kernel
theorem dX11_cut_29 : decode cX11_cut 29 = .ok (.aload_n 0, 1) := by decide +kernel
theorem dX11_cut_30 : decode cX11_cut 30 = .ok (.getfield 148, 3) := by decide +kernel
theorem dX11_cut_33 : decode cX11_cut 33 = .ok (.iaload, 1) := by decide +kernel
theorem dX11_cut_34 : decode cX11_cut 34 = .ok (.aload_n 0, 1) := by decide +kernel
theorem dX11_cut_35 : decode cX11_cut 35 = .ok (.getfield 13, 3) := by decide +kernel
theorem dX11_cut_38 : decode cX11_cut 38 = .ok (.aload_n 0, 1) := by decide +kernel
theorem dX11_cut_39 : decode cX11_cut 39 = .ok (.getfield 148, 3) := by decide +kernel
theorem dX11_cut_42 : decode cX11_cut 42 = .ok (.iaload, 1) := by decide +kernel
theorem dX11_cut_43 : decode cX11_cut 43 = .ok (.isub, 1) := by decide +kernel
theorem dX11_cut_44 : decode cX11_cut 44 = .ok (.iload_n 2, 1) := by decide +kernel
theorem dX11_cut_45 : decode cX11_cut 45 = .ok (.if_icmp .ge 23, 3) := by decide +kernel
theorem dX11_cut_48 : decode cX11_cut 48 = .ok (.aload_n 0, 1) := by decide +kernel
theorem dX11_cut_49 : decode cX11_cut 49 = .ok (.getfield 7, 3) := by decide +kernel
theorem dX11_cut_52 : decode cX11_cut 52 = .ok (.aload_n 0, 1) := by decide +kernel
theorem dX11_cut_53 : decode cX11_cut 53 = .ok (.getfield 148, 3) := by decide +kernel
theorem dX11_cut_56 : decode cX11_cut 56 = .ok (.iaload, 1) := by decide +kernel
theorem dX11_cut_57 : decode cX11_cut 57 = .ok (.aload_n 0, 1) := by decide +kernel
theorem dX11_cut_58 : decode cX11_cut 58 = .ok (.getfield 13, 3) := by decide +kernel
theorem dX11_cut_61 : decode cX11_cut 61 = .ok (.aload_n 0, 1) := by decide +kernel
theorem dX11_cut_62 : decode cX11_cut 62 = .ok (.getfield 148, 3) := by decide +kernel
theorem dX11_cut_65 : decode cX11_cut 65 = .ok (.iaload, 1) := by decide +kernel
theorem dX11_cut_66 : decode cX11_cut 66 = .ok (.isub, 1) := by decide +kernel
theorem dX11_cut_67 : decode cX11_cut 67 = .ok (.istore_n 2, 1) := by decide +kernel
theorem dX11_cut_68 : decode cX11_cut 68 = .ok (.sipush 20000, 3) := by decide +kernel
theorem dX11_cut_71 : decode cX11_cut 71 = .ok (.aload_n 0, 1) := by decide +kernel
theorem dX11_cut_72 : decode cX11_cut 72 = .ok (.getfield 151, 3) := by decide +kernel
theorem dX11_cut_75 : decode cX11_cut 75 = .ok (.isub, 1) := by decide +kernel
theorem dX11_cut_76 : decode cX11_cut 76 = .ok (.iload_n 2, 1) := by decide +kernel
theorem dX11_cut_77 : decode cX11_cut 77 = .ok (.if_icmp .ge 12, 3) := by decide +kernel
theorem dX11_cut_80 : decode cX11_cut 80 = .ok (.sipush 20000, 3) := by decide +kernel
theorem dX11_cut_83 : decode cX11_cut 83 = .ok (.aload_n 0, 1) := by decide +kernel
theorem dX11_cut_84 : decode cX11_cut 84 = .ok (.getfield 151, 3) := by decide +kernel
theorem dX11_cut_87 : decode cX11_cut 87 = .ok (.isub, 1) := by decide +kernel
theorem dX11_cut_88 : decode cX11_cut 88 = .ok (.istore_n 2, 1) := by decide +kernel
theorem dX11_cut_89 : decode cX11_cut 89 = .ok (.iload_n 2, 1) := by decide +kernel
theorem dX11_cut_90 : decode cX11_cut 90 = .ok (.ifCond .ge 5, 3) := by decide +kernel
theorem dX11_cut_93 : decode cX11_cut 93 = .ok (.iconst 0, 1) := by decide +kernel
theorem dX11_cut_94 : decode cX11_cut 94 = .ok (.istore_n 2, 1) := by decide +kernel
theorem dX11_cut_95 : decode cX11_cut 95 = .ok (.aload_n 0, 1) := by decide +kernel
theorem dX11_cut_96 : decode cX11_cut 96 = .ok (.getfield 13, 3) := by decide +kernel
theorem dX11_cut_99 : decode cX11_cut 99 = .ok (.aload_n 0, 1) := by decide +kernel
theorem dX11_cut_100 : decode cX11_cut 100 = .ok (.getfield 148, 3) := by decide +kernel
theorem dX11_cut_103 : decode cX11_cut 103 = .ok (.dup2, 1) := by decide +kernel
theorem dX11_cut_104 : decode cX11_cut 104 = .ok (.iaload, 1) := by decide +kernel
theorem dX11_cut_105 : decode cX11_cut 105 = .ok (.iload_n 2, 1) := by decide +kernel
theorem dX11_cut_106 : decode cX11_cut 106 = .ok (.iadd, 1) := by decide +kernel
theorem dX11_cut_107 : decode cX11_cut 107 = .ok (.iastore, 1) := by decide +kernel
theorem dX11_cut_108 : decode cX11_cut 108 = .ok (.aload_n 0, 1) := by decide +kernel
theorem dX11_cut_109 : decode cX11_cut 109 = .ok (.dup, 1) := by decide +kernel
theorem dX11_cut_110 : decode cX11_cut 110 = .ok (.getfield 151, 3) := by decide +kernel
theorem dX11_cut_113 : decode cX11_cut 113 = .ok (.iload_n 2, 1) := by decide +kernel
theorem dX11_cut_114 : decode cX11_cut 114 = .ok (.iadd, 1) := by decide +kernel
theorem dX11_cut_115 : decode cX11_cut 115 = .ok (.putfield 151, 3) := by decide +kernel
theorem dX11_cut_118 : decode cX11_cut 118 = .ok (.iload_n 2, 1) := by decide +kernel
theorem dX11_cut_119 : decode cX11_cut 119 = .ok (.ireturn, 1) := by decide +kernel
theorem dX11_rate_0 : decode cX11_rate 0 = .ok (.iload_n 1, 1) := by decide +kernel
theorem dX11_rate_1 : decode cX11_rate 1 = .ok (.iconst 0, 1) := by decide +kernel
theorem dX11_rate_2 : decode cX11_rate 2 = .ok (.bipush 20, 2) := by decide +kernel
theorem dX11_rate_4 : decode cX11_rate 4 = .ok (.invokestatic 140, 3) := by decide +kernel
theorem dX11_rate_7 : decode cX11_rate 7 = .ok (.ifCond .ne 5, 3) := by decide +kernel
theorem dX11_rate_10 : decode cX11_rate 10 = .ok (.iconst (-1), 1) := by decide +kernel
theorem dX11_rate_11 : decode cX11_rate 11 = .ok (.ireturn, 1) := by decide +kernel
theorem dX11_rate_12 : decode cX11_rate 12 = .ok (.aload_n 0, 1) := by decide +kernel
theorem dX11_rate_13 : decode cX11_rate 13 = .ok (.getfield 154, 3) := by decide +kernel
theorem dX11_rate_16 : decode cX11_rate 16 = .ok (.istore_n 2, 1) := by decide +kernel
theorem dX11_rate_17 : decode cX11_rate 17 = .ok (.aload_n 0, 1) := by decide +kernel
theorem dX11_rate_18 : decode cX11_rate 18 = .ok (.iload_n 1, 1) := by decide +kernel
theorem dX11_rate_19 : decode cX11_rate 19 = .ok (.putfield 154, 3) := by decide +kernel
theorem dX11_rate_22 : decode cX11_rate 22 = .ok (.iload_n 2, 1) := by decide +kernel
theorem dX11_rate_23 : decode cX11_rate 23 = .ok (.ireturn, 1) := by decide +kernel
theorem dX11_cold_0 : decode cX11_cold 0 = .ok (.aload_n 0, 1) := by decide +kernel
theorem dX11_cold_1 : decode cX11_cold 1 = .ok (.getfield 157, 3) := by decide +kernel
theorem dX11_cold_4 : decode cX11_cold 4 = .ok (.bipush 20, 2) := by decide +kernel
theorem dX11_cold_6 : decode cX11_cold 6 = .ok (.if_icmp .eq 33, 3) := by decide +kernel
theorem dX11_cold_9 : decode cX11_cold 9 = .ok (.iload_n 1, 1) := by decide +kernel
theorem dX11_cold_10 : decode cX11_cold 10 = .ok (.iconst 0, 1) := by decide +kernel
theorem dX11_cold_11 : decode cX11_cold 11 = .ok (.iload_n 2, 1) := by decide +kernel
theorem dX11_cold_12 : decode cX11_cold 12 = .ok (.invokestatic 140, 3) := by decide +kernel
theorem dX11_cold_15 : decode cX11_cold 15 = .ok (.ifCond .eq 24, 3) := by decide +kernel
theorem dX11_cold_18 : decode cX11_cold 18 = .ok (.iload_n 2, 1) := by decide +kernel
theorem dX11_cold_19 : decode cX11_cold 19 = .ok (.iconst 0, 1) := by decide +kernel
theorem dX11_cold_20 : decode cX11_cold 20 = .ok (.sipush 4999, 3) := by decide +kernel
theorem dX11_cold_23 : decode cX11_cold 23 = .ok (.invokestatic 140, 3) := by decide +kernel
theorem dX11_cold_26 : decode cX11_cold 26 = .ok (.ifCond .eq 13, 3) := by decide +kernel
theorem dX11_cold_29 : decode cX11_cold 29 = .ok (.iload_n 3, 1) := by decide +kernel
theorem dX11_cold_30 : decode cX11_cold 30 = .ok (.iconst 1, 1) := by decide +kernel
theorem dX11_cold_31 : decode cX11_cold 31 = .ok (.bipush 100, 2) := by decide +kernel
theorem dX11_cold_33 : decode cX11_cold 33 = .ok (.invokestatic 140, 3) := by decide +kernel
theorem dX11_cold_36 : decode cX11_cold 36 = .ok (.ifCond .ne 5, 3) := by decide +kernel
theorem dX11_cold_39 : decode cX11_cold 39 = .ok (.iconst (-1), 1) := by decide +kernel
theorem dX11_cold_40 : decode cX11_cold 40 = .ok (.ireturn, 1) := by decide +kernel
theorem dX11_cold_41 : decode cX11_cold 41 = .ok (.aload_n 0, 1) := by decide +kernel
theorem dX11_cold_42 : decode cX11_cold 42 = .ok (.getfield 16, 3) := by decide +kernel
theorem dX11_cold_45 : decode cX11_cold 45 = .ok (.aload_n 0, 1) := by decide +kernel
theorem dX11_cold_46 : decode cX11_cold 46 = .ok (.getfield 157, 3) := by decide +kernel
theorem dX11_cold_49 : decode cX11_cold 49 = .ok (.iload_n 1, 1) := by decide +kernel
theorem dX11_cold_50 : decode cX11_cold 50 = .ok (.iastore, 1) := by decide +kernel
theorem dX11_cold_51 : decode cX11_cold 51 = .ok (.aload_n 0, 1) := by decide +kernel
theorem dX11_cold_52 : decode cX11_cold 52 = .ok (.getfield 19, 3) := by decide +kernel
theorem dX11_cold_55 : decode cX11_cold 55 = .ok (.aload_n 0, 1) := by decide +kernel
theorem dX11_cold_56 : decode cX11_cold 56 = .ok (.getfield 157, 3) := by decide +kernel
theorem dX11_cold_59 : decode cX11_cold 59 = .ok (.iload_n 2, 1) := by decide +kernel
theorem dX11_cold_60 : decode cX11_cold 60 = .ok (.iastore, 1) := by decide +kernel
theorem dX11_cold_61 : decode cX11_cold 61 = .ok (.aload_n 0, 1) := by decide +kernel
theorem dX11_cold_62 : decode cX11_cold 62 = .ok (.getfield 22, 3) := by decide +kernel
theorem dX11_cold_65 : decode cX11_cold 65 = .ok (.aload_n 0, 1) := by decide +kernel
theorem dX11_cold_66 : decode cX11_cold 66 = .ok (.getfield 157, 3) := by decide +kernel
theorem dX11_cold_69 : decode cX11_cold 69 = .ok (.iload_n 3, 1) := by decide +kernel
theorem dX11_cold_70 : decode cX11_cold 70 = .ok (.iastore, 1) := by decide +kernel
theorem dX11_cold_71 : decode cX11_cold 71 = .ok (.aload_n 0, 1) := by decide +kernel
theorem dX11_cold_72 : decode cX11_cold 72 = .ok (.dup, 1) := by decide +kernel
theorem dX11_cold_73 : decode cX11_cold 73 = .ok (.getfield 157, 3) := by decide +kernel
theorem dX11_cold_76 : decode cX11_cold 76 = .ok (.iconst 1, 1) := by decide +kernel
theorem dX11_cold_77 : decode cX11_cold 77 = .ok (.iadd, 1) := by decide +kernel
theorem dX11_cold_78 : decode cX11_cold 78 = .ok (.putfield 157, 3) := by decide +kernel
theorem dX11_cold_81 : decode cX11_cold 81 = .ok (.aload_n 0, 1) := by decide +kernel
theorem dX11_cold_82 : decode cX11_cold 82 = .ok (.getfield 157, 3) := by decide +kernel
theorem dX11_cold_85 : decode cX11_cold 85 = .ok (.ireturn, 1) := by decide +kernel
theorem dX11_go_0 : decode cX11_go 0 = .ok (.iload_n 1, 1) := by decide +kernel
theorem dX11_go_1 : decode cX11_go 1 = .ok (.iconst 0, 1) := by decide +kernel
theorem dX11_go_2 : decode cX11_go 2 = .ok (.iconst 4, 1) := by decide +kernel
theorem dX11_go_3 : decode cX11_go 3 = .ok (.invokestatic 140, 3) := by decide +kernel
theorem dX11_go_6 : decode cX11_go 6 = .ok (.ifCond .eq 21, 3) := by decide +kernel
theorem dX11_go_9 : decode cX11_go 9 = .ok (.iload_n 1, 1) := by decide +kernel
theorem dX11_go_10 : decode cX11_go 10 = .ok (.aload_n 0, 1) := by decide +kernel
theorem dX11_go_11 : decode cX11_go 11 = .ok (.getfield 148, 3) := by decide +kernel
theorem dX11_go_14 : decode cX11_go 14 = .ok (.if_icmp .eq 13, 3) := by decide +kernel
theorem dX11_go_17 : decode cX11_go 17 = .ok (.aload_n 0, 1) := by decide +kernel
theorem dX11_go_18 : decode cX11_go 18 = .ok (.getfield 144, 3) := by decide +kernel
theorem dX11_go_21 : decode cX11_go 21 = .ok (.sipush 5000, 3) := by decide +kernel
theorem dX11_go_24 : decode cX11_go 24 = .ok (.if_icmp .ne 5, 3) := by decide +kernel
theorem dX11_go_27 : decode cX11_go 27 = .ok (.iconst 0, 1) := by decide +kernel
theorem dX11_go_28 : decode cX11_go 28 = .ok (.ireturn, 1) := by decide +kernel
theorem dX11_go_29 : decode cX11_go 29 = .ok (.iconst 0, 1) := by decide +kernel
theorem dX11_go_30 : decode cX11_go 30 = .ok (.istore_n 2, 1) := by decide +kernel
theorem dX11_go_31 : decode cX11_go 31 = .ok (.iload_n 2, 1) := by decide +kernel
theorem dX11_go_32 : decode cX11_go 32 = .ok (.bipush 6, 2) := by decide +kernel
theorem dX11_go_34 : decode cX11_go 34 = .ok (.if_icmp .ge 20, 3) := by decide +kernel
theorem dX11_go_37 : decode cX11_go 37 = .ok (.aload_n 0, 1) := by decide +kernel
theorem dX11_go_38 : decode cX11_go 38 = .ok (.getfield 25, 3) := by decide +kernel
theorem dX11_go_41 : decode cX11_go 41 = .ok (.iload_n 2, 1) := by decide +kernel
theorem dX11_go_42 : decode cX11_go 42 = .ok (.iaload, 1) := by decide +kernel
theorem dX11_go_43 : decode cX11_go 43 = .ok (.ifCond .lt 5, 3) := by decide +kernel
theorem dX11_go_46 : decode cX11_go 46 = .ok (.iconst 0, 1) := by decide +kernel
theorem dX11_go_47 : decode cX11_go 47 = .ok (.ireturn, 1) := by decide +kernel
theorem dX11_go_48 : decode cX11_go 48 = .ok (.iinc 2 1, 3) := by decide +kernel
theorem dX11_go_51 : decode cX11_go 51 = .ok (.goto (-20), 3) := by decide +kernel
theorem dX11_go_54 : decode cX11_go 54 = .ok (.iconst 0, 1) := by decide +kernel
theorem dX11_go_55 : decode cX11_go 55 = .ok (.istore_n 2, 1) := by decide +kernel
theorem dX11_go_56 : decode cX11_go 56 = .ok (.iload_n 2, 1) := by decide +kernel
theorem dX11_go_57 : decode cX11_go 57 = .ok (.iconst 3, 1) := by decide +kernel
theorem dX11_go_58 : decode cX11_go 58 = .ok (.if_icmp .ge 20, 3) := by decide +kernel
theorem dX11_go_61 : decode cX11_go 61 = .ok (.aload_n 0, 1) := by decide +kernel
theorem dX11_go_62 : decode cX11_go 62 = .ok (.getfield 95, 3) := by decide +kernel
theorem dX11_go_65 : decode cX11_go 65 = .ok (.iload_n 2, 1) := by decide +kernel
theorem dX11_go_66 : decode cX11_go 66 = .ok (.iaload, 1) := by decide +kernel
theorem dX11_go_67 : decode cX11_go 67 = .ok (.ifCond .le 5, 3) := by decide +kernel
theorem dX11_go_70 : decode cX11_go 70 = .ok (.iconst 0, 1) := by decide +kernel
theorem dX11_go_71 : decode cX11_go 71 = .ok (.ireturn, 1) := by decide +kernel
theorem dX11_go_72 : decode cX11_go 72 = .ok (.iinc 2 1, 3) := by decide +kernel
theorem dX11_go_75 : decode cX11_go 75 = .ok (.goto (-19), 3) := by decide +kernel
theorem dX11_go_78 : decode cX11_go 78 = .ok (.aload_n 0, 1) := by decide +kernel
theorem dX11_go_79 : decode cX11_go 79 = .ok (.iload_n 1, 1) := by decide +kernel
theorem dX11_go_80 : decode cX11_go 80 = .ok (.putfield 148, 3) := by decide +kernel
theorem dX11_go_83 : decode cX11_go 83 = .ok (.aload_n 0, 1) := by decide +kernel
theorem dX11_go_84 : decode cX11_go 84 = .ok (.iconst 0, 1) := by decide +kernel
theorem dX11_go_85 : decode cX11_go 85 = .ok (.putfield 160, 3) := by decide +kernel
theorem dX11_go_88 : decode cX11_go 88 = .ok (.aload_n 0, 1) := by decide +kernel
theorem dX11_go_89 : decode cX11_go 89 = .ok (.iconst 0, 1) := by decide +kernel
theorem dX11_go_90 : decode cX11_go 90 = .ok (.putfield 151, 3) := by decide +kernel
theorem dX11_go_93 : decode cX11_go 93 = .ok (.iconst 1, 1) := by decide +kernel
theorem dX11_go_94 : decode cX11_go 94 = .ok (.ireturn, 1) := by decide +kernel
theorem dX11_four_0 : decode cX11_four 0 = .ok (.bipush 24, 2) := by decide +kernel
theorem dX11_four_2 : decode cX11_four 2 = .ok (.istore_n 2, 1) := by decide +kernel
theorem dX11_four_3 : decode cX11_four 3 = .ok (.iload_n 2, 1) := by decide +kernel
theorem dX11_four_4 : decode cX11_four 4 = .ok (.ifCond .lt 32, 3) := by decide +kernel
theorem dX11_four_7 : decode cX11_four 7 = .ok (.aload_n 0, 1) := by decide +kernel
theorem dX11_four_8 : decode cX11_four 8 = .ok (.getfield 98, 3) := by decide +kernel
theorem dX11_four_11 : decode cX11_four 11 = .ok (.aload_n 0, 1) := by decide +kernel
theorem dX11_four_12 : decode cX11_four 12 = .ok (.getfield 163, 3) := by decide +kernel
theorem dX11_four_15 : decode cX11_four 15 = .ok (.iload_n 1, 1) := by decide +kernel
theorem dX11_four_16 : decode cX11_four 16 = .ok (.iload_n 2, 1) := by decide +kernel
theorem dX11_four_17 : decode cX11_four 17 = .ok (.ishr, 1) := by decide +kernel
theorem dX11_four_18 : decode cX11_four 18 = .ok (.i2b, 1) := by decide +kernel
theorem dX11_four_19 : decode cX11_four 19 = .ok (.bastore, 1) := by decide +kernel
theorem dX11_four_20 : decode cX11_four 20 = .ok (.aload_n 0, 1) := by decide +kernel
theorem dX11_four_21 : decode cX11_four 21 = .ok (.dup, 1) := by decide +kernel
theorem dX11_four_22 : decode cX11_four 22 = .ok (.getfield 163, 3) := by decide +kernel
theorem dX11_four_25 : decode cX11_four 25 = .ok (.iconst 1, 1) := by decide +kernel
theorem dX11_four_26 : decode cX11_four 26 = .ok (.iadd, 1) := by decide +kernel
theorem dX11_four_27 : decode cX11_four 27 = .ok (.putfield 163, 3) := by decide +kernel
theorem dX11_four_30 : decode cX11_four 30 = .ok (.iinc 2 (-8), 3) := by decide +kernel
theorem dX11_four_33 : decode cX11_four 33 = .ok (.goto (-30), 3) := by decide +kernel
theorem dX11_four_36 : decode cX11_four 36 = .ok (.return_, 1) := by decide +kernel
theorem dX11_feed_0 : decode cX11_feed 0 = .ok (.aload_n 0, 1) := by decide +kernel
theorem dX11_feed_1 : decode cX11_feed 1 = .ok (.getfield 163, 3) := by decide +kernel
theorem dX11_feed_4 : decode cX11_feed 4 = .ok (.bipush 20, 2) := by decide +kernel
theorem dX11_feed_6 : decode cX11_feed 6 = .ok (.iadd, 1) := by decide +kernel
theorem dX11_feed_7 : decode cX11_feed 7 = .ok (.sipush 200, 3) := by decide +kernel
theorem dX11_feed_10 : decode cX11_feed 10 = .ok (.if_icmp .le 5, 3) := by decide +kernel
theorem dX11_feed_13 : decode cX11_feed 13 = .ok (.iconst (-1), 1) := by decide +kernel
theorem dX11_feed_14 : decode cX11_feed 14 = .ok (.ireturn, 1) := by decide +kernel
theorem dX11_feed_15 : decode cX11_feed 15 = .ok (.aload_n 0, 1) := by decide +kernel
theorem dX11_feed_16 : decode cX11_feed 16 = .ok (.iload_n 1, 1) := by decide +kernel
theorem dX11_feed_17 : decode cX11_feed 17 = .ok (.invokevirtual 166, 3) := by decide +kernel
theorem dX11_feed_20 : decode cX11_feed 20 = .ok (.aload_n 0, 1) := by decide +kernel
theorem dX11_feed_21 : decode cX11_feed 21 = .ok (.iload_n 2, 1) := by decide +kernel
theorem dX11_feed_22 : decode cX11_feed 22 = .ok (.invokevirtual 166, 3) := by decide +kernel
theorem dX11_feed_25 : decode cX11_feed 25 = .ok (.aload_n 0, 1) := by decide +kernel
theorem dX11_feed_26 : decode cX11_feed 26 = .ok (.iload_n 3, 1) := by decide +kernel
theorem dX11_feed_27 : decode cX11_feed 27 = .ok (.invokevirtual 166, 3) := by decide +kernel
theorem dX11_feed_30 : decode cX11_feed 30 = .ok (.aload_n 0, 1) := by decide +kernel
theorem dX11_feed_31 : decode cX11_feed 31 = .ok (.iload 4, 2) := by decide +kernel
theorem dX11_feed_33 : decode cX11_feed 33 = .ok (.invokevirtual 166, 3) := by decide +kernel
theorem dX11_feed_36 : decode cX11_feed 36 = .ok (.aload_n 0, 1) := by decide +kernel
theorem dX11_feed_37 : decode cX11_feed 37 = .ok (.iload 5, 2) := by decide +kernel
theorem dX11_feed_39 : decode cX11_feed 39 = .ok (.invokevirtual 166, 3) := by decide +kernel
theorem dX11_feed_42 : decode cX11_feed 42 = .ok (.aload_n 0, 1) := by decide +kernel
theorem dX11_feed_43 : decode cX11_feed 43 = .ok (.getfield 163, 3) := by decide +kernel
theorem dX11_feed_46 : decode cX11_feed 46 = .ok (.ireturn, 1) := by decide +kernel
theorem dX11_end_0 : decode cX11_end 0 = .ok (.iload_n 1, 1) := by decide +kernel
theorem dX11_end_1 : decode cX11_end 1 = .ok (.ifCond .lt 11, 3) := by decide +kernel
theorem dX11_end_4 : decode cX11_end 4 = .ok (.iload_n 1, 1) := by decide +kernel
theorem dX11_end_5 : decode cX11_end 5 = .ok (.aload_n 0, 1) := by decide +kernel
theorem dX11_end_6 : decode cX11_end 6 = .ok (.getfield 163, 3) := by decide +kernel
theorem dX11_end_9 : decode cX11_end 9 = .ok (.if_icmp .le 5, 3) := by decide +kernel
theorem dX11_end_12 : decode cX11_end 12 = .ok (.iconst (-1), 1) := by decide +kernel
theorem dX11_end_13 : decode cX11_end 13 = .ok (.ireturn, 1) := by decide +kernel
theorem dX11_end_14 : decode cX11_end 14 = .ok (.aload_n 0, 1) := by decide +kernel
theorem dX11_end_15 : decode cX11_end 15 = .ok (.iload_n 1, 1) := by decide +kernel
theorem dX11_end_16 : decode cX11_end 16 = .ok (.putfield 163, 3) := by decide +kernel
theorem dX11_end_19 : decode cX11_end 19 = .ok (.iload_n 1, 1) := by decide +kernel
theorem dX11_end_20 : decode cX11_end 20 = .ok (.ireturn, 1) := by decide +kernel
theorem dX11_fails_0 : decode cX11_fails 0 = .ok (.aload_n 0, 1) := by decide +kernel
theorem dX11_fails_1 : decode cX11_fails 1 = .ok (.getfield 170, 3) := by decide +kernel
theorem dX11_fails_4 : decode cX11_fails 4 = .ok (.ifCond .ne 15, 3) := by decide +kernel
theorem dX11_fails_7 : decode cX11_fails 7 = .ok (.aload_n 0, 1) := by decide +kernel
theorem dX11_fails_8 : decode cX11_fails 8 = .ok (.iconst 1, 1) := by decide +kernel
theorem dX11_fails_9 : decode cX11_fails 9 = .ok (.bipush 8, 2) := by decide +kernel
theorem dX11_fails_11 : decode cX11_fails 11 = .ok (.iload_n 2, 1) := by decide +kernel
theorem dX11_fails_12 : decode cX11_fails 12 = .ok (.imul, 1) := by decide +kernel
theorem dX11_fails_13 : decode cX11_fails 13 = .ok (.iadd, 1) := by decide +kernel
theorem dX11_fails_14 : decode cX11_fails 14 = .ok (.iload_n 1, 1) := by decide +kernel
theorem dX11_fails_15 : decode cX11_fails 15 = .ok (.iadd, 1) := by decide +kernel
theorem dX11_fails_16 : decode cX11_fails 16 = .ok (.putfield 170, 3) := by decide +kernel
theorem dX11_fails_19 : decode cX11_fails 19 = .ok (.iconst 0, 1) := by decide +kernel
theorem dX11_fails_20 : decode cX11_fails 20 = .ok (.ireturn, 1) := by decide +kernel
theorem dX11_see_0 : decode cX11_see 0 = .ok (.aload_n 0, 1) := by decide +kernel
theorem dX11_see_1 : decode cX11_see 1 = .ok (.getfield 173, 3) := by decide +kernel
theorem dX11_see_4 : decode cX11_see 4 = .ok (.aload_n 0, 1) := by decide +kernel
theorem dX11_see_5 : decode cX11_see 5 = .ok (.getfield 163, 3) := by decide +kernel
theorem dX11_see_8 : decode cX11_see 8 = .ok (.if_icmp .ge 30, 3) := by decide +kernel
theorem dX11_see_11 : decode cX11_see 11 = .ok (.aload_n 0, 1) := by decide +kernel
theorem dX11_see_12 : decode cX11_see 12 = .ok (.getfield 98, 3) := by decide +kernel
theorem dX11_see_15 : decode cX11_see 15 = .ok (.aload_n 0, 1) := by decide +kernel
theorem dX11_see_16 : decode cX11_see 16 = .ok (.getfield 173, 3) := by decide +kernel
theorem dX11_see_19 : decode cX11_see 19 = .ok (.baload, 1) := by decide +kernel
theorem dX11_see_20 : decode cX11_see 20 = .ok (.bipush 32, 2) := by decide +kernel
theorem dX11_see_22 : decode cX11_see 22 = .ok (.if_icmp .ne 16, 3) := by decide +kernel
theorem dX11_see_25 : decode cX11_see 25 = .ok (.aload_n 0, 1) := by decide +kernel
theorem dX11_see_26 : decode cX11_see 26 = .ok (.dup, 1) := by decide +kernel
theorem dX11_see_27 : decode cX11_see 27 = .ok (.getfield 173, 3) := by decide +kernel
theorem dX11_see_30 : decode cX11_see 30 = .ok (.iconst 1, 1) := by decide +kernel
theorem dX11_see_31 : decode cX11_see 31 = .ok (.iadd, 1) := by decide +kernel
theorem dX11_see_32 : decode cX11_see 32 = .ok (.putfield 173, 3) := by decide +kernel
theorem dX11_see_35 : decode cX11_see 35 = .ok (.goto (-35), 3) := by decide +kernel
theorem dX11_see_38 : decode cX11_see 38 = .ok (.aload_n 0, 1) := by decide +kernel
theorem dX11_see_39 : decode cX11_see 39 = .ok (.getfield 173, 3) := by decide +kernel
theorem dX11_see_42 : decode cX11_see 42 = .ok (.aload_n 0, 1) := by decide +kernel
theorem dX11_see_43 : decode cX11_see 43 = .ok (.getfield 163, 3) := by decide +kernel
theorem dX11_see_46 : decode cX11_see 46 = .ok (.if_icmp .ge 19, 3) := by decide +kernel
theorem dX11_see_49 : decode cX11_see 49 = .ok (.aload_n 0, 1) := by decide +kernel
theorem dX11_see_50 : decode cX11_see 50 = .ok (.getfield 98, 3) := by decide +kernel
theorem dX11_see_53 : decode cX11_see 53 = .ok (.aload_n 0, 1) := by decide +kernel
theorem dX11_see_54 : decode cX11_see 54 = .ok (.getfield 173, 3) := by decide +kernel
theorem dX11_see_57 : decode cX11_see 57 = .ok (.baload, 1) := by decide +kernel
theorem dX11_see_58 : decode cX11_see 58 = .ok (.sipush 255, 3) := by decide +kernel
theorem dX11_see_61 : decode cX11_see 61 = .ok (.iand, 1) := by decide +kernel
theorem dX11_see_62 : decode cX11_see 62 = .ok (.goto 4, 3) := by decide +kernel
theorem dX11_see_65 : decode cX11_see 65 = .ok (.iconst (-1), 1) := by decide +kernel
theorem dX11_see_66 : decode cX11_see 66 = .ok (.ireturn, 1) := by decide +kernel
theorem dX11_isDigit_0 : decode cX11_isDigit 0 = .ok (.iload_n 0, 1) := by decide +kernel
theorem dX11_isDigit_1 : decode cX11_isDigit 1 = .ok (.bipush 48, 2) := by decide +kernel
theorem dX11_isDigit_3 : decode cX11_isDigit 3 = .ok (.if_icmp .lt 13, 3) := by decide +kernel
theorem dX11_isDigit_6 : decode cX11_isDigit 6 = .ok (.iload_n 0, 1) := by decide +kernel
theorem dX11_isDigit_7 : decode cX11_isDigit 7 = .ok (.bipush 57, 2) := by decide +kernel
theorem dX11_isDigit_9 : decode cX11_isDigit 9 = .ok (.if_icmp .gt 7, 3) := by decide +kernel
theorem dX11_isDigit_12 : decode cX11_isDigit 12 = .ok (.iconst 1, 1) := by decide +kernel
theorem dX11_isDigit_13 : decode cX11_isDigit 13 = .ok (.goto 4, 3) := by decide +kernel
theorem dX11_isDigit_16 : decode cX11_isDigit 16 = .ok (.iconst 0, 1) := by decide +kernel
theorem dX11_isDigit_17 : decode cX11_isDigit 17 = .ok (.ireturn, 1) := by decide +kernel
theorem dX11_number_0 : decode cX11_number 0 = .ok (.aload_n 0, 1) := by decide +kernel
theorem dX11_number_1 : decode cX11_number 1 = .ok (.invokevirtual 176, 3) := by decide +kernel
theorem dX11_number_4 : decode cX11_number 4 = .ok (.invokestatic 180, 3) := by decide +kernel
theorem dX11_number_7 : decode cX11_number 7 = .ok (.ifCond .ne 13, 3) := by decide +kernel
theorem dX11_number_10 : decode cX11_number 10 = .ok (.aload_n 0, 1) := by decide +kernel
theorem dX11_number_11 : decode cX11_number 11 = .ok (.iconst 0, 1) := by decide +kernel
theorem dX11_number_12 : decode cX11_number 12 = .ok (.aload_n 0, 1) := by decide +kernel
theorem dX11_number_13 : decode cX11_number 13 = .ok (.getfield 173, 3) := by decide +kernel
theorem dX11_number_16 : decode cX11_number 16 = .ok (.invokevirtual 184, 3) := by decide +kernel
theorem dX11_number_19 : decode cX11_number 19 = .ok (.ireturn, 1) := by decide +kernel
theorem dX11_number_20 : decode cX11_number 20 = .ok (.aload_n 0, 1) := by decide +kernel
theorem dX11_number_21 : decode cX11_number 21 = .ok (.getfield 173, 3) := by decide +kernel
theorem dX11_number_24 : decode cX11_number 24 = .ok (.istore_n 3, 1) := by decide +kernel
theorem dX11_number_25 : decode cX11_number 25 = .ok (.iconst 0, 1) := by decide +kernel
theorem dX11_number_26 : decode cX11_number 26 = .ok (.istore 4, 2) := by decide +kernel
theorem dX11_number_28 : decode cX11_number 28 = .ok (.iconst 0, 1) := by decide +kernel
theorem dX11_number_29 : decode cX11_number 29 = .ok (.istore 5, 2) := by decide +kernel
theorem dX11_number_31 : decode cX11_number 31 = .ok (.aload_n 0, 1) := by decide +kernel
theorem dX11_number_32 : decode cX11_number 32 = .ok (.getfield 173, 3) := by decide +kernel
theorem dX11_number_35 : decode cX11_number 35 = .ok (.aload_n 0, 1) := by decide +kernel
theorem dX11_number_36 : decode cX11_number 36 = .ok (.getfield 163, 3) := by decide +kernel
theorem dX11_number_39 : decode cX11_number 39 = .ok (.if_icmp .ge 60, 3) := by decide +kernel
theorem dX11_number_42 : decode cX11_number 42 = .ok (.aload_n 0, 1) := by decide +kernel
theorem dX11_number_43 : decode cX11_number 43 = .ok (.getfield 98, 3) := by decide +kernel
theorem dX11_number_46 : decode cX11_number 46 = .ok (.aload_n 0, 1) := by decide +kernel
theorem dX11_number_47 : decode cX11_number 47 = .ok (.getfield 173, 3) := by decide +kernel
theorem dX11_number_50 : decode cX11_number 50 = .ok (.baload, 1) := by decide +kernel
theorem dX11_number_51 : decode cX11_number 51 = .ok (.invokestatic 180, 3) := by decide +kernel
theorem dX11_number_54 : decode cX11_number 54 = .ok (.ifCond .eq 45, 3) := by decide +kernel
theorem dX11_number_57 : decode cX11_number 57 = .ok (.iload 4, 2) := by decide +kernel
theorem dX11_number_59 : decode cX11_number 59 = .ok (.iconst 3, 1) := by decide +kernel
theorem dX11_number_60 : decode cX11_number 60 = .ok (.if_icmp .ge 23, 3) := by decide +kernel
theorem dX11_number_63 : decode cX11_number 63 = .ok (.bipush 10, 2) := by decide +kernel
theorem dX11_number_65 : decode cX11_number 65 = .ok (.iload 5, 2) := by decide +kernel
theorem dX11_number_67 : decode cX11_number 67 = .ok (.imul, 1) := by decide +kernel
theorem dX11_number_68 : decode cX11_number 68 = .ok (.aload_n 0, 1) := by decide +kernel
theorem dX11_number_69 : decode cX11_number 69 = .ok (.getfield 98, 3) := by decide +kernel
theorem dX11_number_72 : decode cX11_number 72 = .ok (.aload_n 0, 1) := by decide +kernel
theorem dX11_number_73 : decode cX11_number 73 = .ok (.getfield 173, 3) := by decide +kernel
theorem dX11_number_76 : decode cX11_number 76 = .ok (.baload, 1) := by decide +kernel
theorem dX11_number_77 : decode cX11_number 77 = .ok (.iadd, 1) := by decide +kernel
theorem dX11_number_78 : decode cX11_number 78 = .ok (.bipush 48, 2) := by decide +kernel
theorem dX11_number_80 : decode cX11_number 80 = .ok (.isub, 1) := by decide +kernel
theorem dX11_number_81 : decode cX11_number 81 = .ok (.istore 5, 2) := by decide +kernel
theorem dX11_number_83 : decode cX11_number 83 = .ok (.iinc 4 1, 3) := by decide +kernel
theorem dX11_number_86 : decode cX11_number 86 = .ok (.aload_n 0, 1) := by decide +kernel
theorem dX11_number_87 : decode cX11_number 87 = .ok (.dup, 1) := by decide +kernel
theorem dX11_number_88 : decode cX11_number 88 = .ok (.getfield 173, 3) := by decide +kernel
theorem dX11_number_91 : decode cX11_number 91 = .ok (.iconst 1, 1) := by decide +kernel
theorem dX11_number_92 : decode cX11_number 92 = .ok (.iadd, 1) := by decide +kernel
theorem dX11_number_93 : decode cX11_number 93 = .ok (.putfield 173, 3) := by decide +kernel
theorem dX11_number_96 : decode cX11_number 96 = .ok (.goto (-65), 3) := by decide +kernel
theorem dX11_number_99 : decode cX11_number 99 = .ok (.aload_n 0, 1) := by decide +kernel
theorem dX11_number_100 : decode cX11_number 100 = .ok (.iload 5, 2) := by decide +kernel
theorem dX11_number_102 : decode cX11_number 102 = .ok (.putfield 188, 3) := by decide +kernel
theorem dX11_number_105 : decode cX11_number 105 = .ok (.iload 4, 2) := by decide +kernel
theorem dX11_number_107 : decode cX11_number 107 = .ok (.iconst 3, 1) := by decide +kernel
theorem dX11_number_108 : decode cX11_number 108 = .ok (.if_icmp .gt 13, 3) := by decide +kernel
theorem dX11_number_111 : decode cX11_number 111 = .ok (.iload 5, 2) := by decide +kernel
theorem dX11_number_113 : decode cX11_number 113 = .ok (.iload_n 1, 1) := by decide +kernel
theorem dX11_number_114 : decode cX11_number 114 = .ok (.iload_n 2, 1) := by decide +kernel
theorem dX11_number_115 : decode cX11_number 115 = .ok (.invokestatic 140, 3) := by decide +kernel
theorem dX11_number_118 : decode cX11_number 118 = .ok (.ifCond .ne 12, 3) := by decide +kernel
theorem dX11_number_121 : decode cX11_number 121 = .ok (.aload_n 0, 1) := by decide +kernel
theorem dX11_number_122 : decode cX11_number 122 = .ok (.iconst 1, 1) := by decide +kernel
theorem dX11_number_123 : decode cX11_number 123 = .ok (.iload_n 3, 1) := by decide +kernel
theorem dX11_number_124 : decode cX11_number 124 = .ok (.invokevirtual 184, 3) := by decide +kernel
theorem dX11_number_127 : decode cX11_number 127 = .ok (.ifCond .eq 7, 3) := by decide +kernel
theorem dX11_number_130 : decode cX11_number 130 = .ok (.iconst 1, 1) := by decide +kernel
theorem dX11_number_131 : decode cX11_number 131 = .ok (.goto 4, 3) := by decide +kernel
theorem dX11_number_134 : decode cX11_number 134 = .ok (.iconst 0, 1) := by decide +kernel
theorem dX11_number_135 : decode cX11_number 135 = .ok (.ireturn, 1) := by decide +kernel
theorem dX11_isTwice_0 : decode cX11_isTwice 0 = .ok (.iconst 0, 1) := by decide +kernel
theorem dX11_isTwice_1 : decode cX11_isTwice 1 = .ok (.istore_n 3, 1) := by decide +kernel
theorem dX11_isTwice_2 : decode cX11_isTwice 2 = .ok (.iload_n 3, 1) := by decide +kernel
theorem dX11_isTwice_3 : decode cX11_isTwice 3 = .ok (.aload_n 0, 1) := by decide +kernel
theorem dX11_isTwice_4 : decode cX11_isTwice 4 = .ok (.getfield 191, 3) := by decide +kernel
theorem dX11_isTwice_7 : decode cX11_isTwice 7 = .ok (.if_icmp .ge 86, 3) := by decide +kernel
theorem dX11_isTwice_10 : decode cX11_isTwice 10 = .ok (.aload_n 0, 1) := by decide +kernel
theorem dX11_isTwice_11 : decode cX11_isTwice 11 = .ok (.getfield 117, 3) := by decide +kernel
theorem dX11_isTwice_14 : decode cX11_isTwice 14 = .ok (.iload_n 3, 1) := by decide +kernel
theorem dX11_isTwice_15 : decode cX11_isTwice 15 = .ok (.iaload, 1) := by decide +kernel
theorem dX11_isTwice_16 : decode cX11_isTwice 16 = .ok (.iload_n 2, 1) := by decide +kernel
theorem dX11_isTwice_17 : decode cX11_isTwice 17 = .ok (.if_icmp .ne 7, 3) := by decide +kernel
theorem dX11_isTwice_20 : decode cX11_isTwice 20 = .ok (.iconst 1, 1) := by decide +kernel
theorem dX11_isTwice_21 : decode cX11_isTwice 21 = .ok (.goto 4, 3) := by decide +kernel
theorem dX11_isTwice_24 : decode cX11_isTwice 24 = .ok (.iconst 0, 1) := by decide +kernel
theorem dX11_isTwice_25 : decode cX11_isTwice 25 = .ok (.istore 4, 2) := by decide +kernel
theorem dX11_isTwice_27 : decode cX11_isTwice 27 = .ok (.iconst 0, 1) := by decide +kernel
theorem dX11_isTwice_28 : decode cX11_isTwice 28 = .ok (.istore 5, 2) := by decide +kernel
theorem dX11_isTwice_30 : decode cX11_isTwice 30 = .ok (.iload 4, 2) := by decide +kernel
theorem dX11_isTwice_32 : decode cX11_isTwice 32 = .ok (.ifCond .eq 48, 3) := by decide +kernel
theorem dX11_isTwice_35 : decode cX11_isTwice 35 = .ok (.iload 5, 2) := by decide +kernel
theorem dX11_isTwice_37 : decode cX11_isTwice 37 = .ok (.iload_n 2, 1) := by decide +kernel
theorem dX11_isTwice_38 : decode cX11_isTwice 38 = .ok (.if_icmp .ge 42, 3) := by decide +kernel
theorem dX11_isTwice_41 : decode cX11_isTwice 41 = .ok (.aload_n 0, 1) := by decide +kernel
theorem dX11_isTwice_42 : decode cX11_isTwice 42 = .ok (.getfield 98, 3) := by decide +kernel
theorem dX11_isTwice_45 : decode cX11_isTwice 45 = .ok (.aload_n 0, 1) := by decide +kernel
theorem dX11_isTwice_46 : decode cX11_isTwice 46 = .ok (.getfield 114, 3) := by decide +kernel
theorem dX11_isTwice_49 : decode cX11_isTwice 49 = .ok (.iload_n 3, 1) := by decide +kernel
theorem dX11_isTwice_50 : decode cX11_isTwice 50 = .ok (.iaload, 1) := by decide +kernel
theorem dX11_isTwice_51 : decode cX11_isTwice 51 = .ok (.iload 5, 2) := by decide +kernel
theorem dX11_isTwice_53 : decode cX11_isTwice 53 = .ok (.iadd, 1) := by decide +kernel
theorem dX11_isTwice_54 : decode cX11_isTwice 54 = .ok (.baload, 1) := by decide +kernel
theorem dX11_isTwice_55 : decode cX11_isTwice 55 = .ok (.aload_n 0, 1) := by decide +kernel
theorem dX11_isTwice_56 : decode cX11_isTwice 56 = .ok (.getfield 98, 3) := by decide +kernel
theorem dX11_isTwice_59 : decode cX11_isTwice 59 = .ok (.iload_n 1, 1) := by decide +kernel
theorem dX11_isTwice_60 : decode cX11_isTwice 60 = .ok (.iload 5, 2) := by decide +kernel
theorem dX11_isTwice_62 : decode cX11_isTwice 62 = .ok (.iadd, 1) := by decide +kernel
theorem dX11_isTwice_63 : decode cX11_isTwice 63 = .ok (.baload, 1) := by decide +kernel
theorem dX11_isTwice_64 : decode cX11_isTwice 64 = .ok (.if_icmp .ne 7, 3) := by decide +kernel
theorem dX11_isTwice_67 : decode cX11_isTwice 67 = .ok (.iconst 1, 1) := by decide +kernel
theorem dX11_isTwice_68 : decode cX11_isTwice 68 = .ok (.goto 4, 3) := by decide +kernel
theorem dX11_isTwice_71 : decode cX11_isTwice 71 = .ok (.iconst 0, 1) := by decide +kernel
theorem dX11_isTwice_72 : decode cX11_isTwice 72 = .ok (.istore 4, 2) := by decide +kernel
theorem dX11_isTwice_74 : decode cX11_isTwice 74 = .ok (.iinc 5 1, 3) := by decide +kernel
theorem dX11_isTwice_77 : decode cX11_isTwice 77 = .ok (.goto (-47), 3) := by decide +kernel
theorem dX11_isTwice_80 : decode cX11_isTwice 80 = .ok (.iload 4, 2) := by decide +kernel
theorem dX11_isTwice_82 : decode cX11_isTwice 82 = .ok (.ifCond .eq 5, 3) := by decide +kernel
theorem dX11_isTwice_85 : decode cX11_isTwice 85 = .ok (.iconst 1, 1) := by decide +kernel
theorem dX11_isTwice_86 : decode cX11_isTwice 86 = .ok (.ireturn, 1) := by decide +kernel
theorem dX11_isTwice_87 : decode cX11_isTwice 87 = .ok (.iinc 3 1, 3) := by decide +kernel
theorem dX11_isTwice_90 : decode cX11_isTwice 90 = .ok (.goto (-88), 3) := by decide +kernel
theorem dX11_isTwice_93 : decode cX11_isTwice 93 = .ok (.iconst 0, 1) := by decide +kernel
theorem dX11_isTwice_94 : decode cX11_isTwice 94 = .ok (.ireturn, 1) := by decide +kernel
theorem dX11_span_0 : decode cX11_span 0 = .ok (.aload_n 0, 1) := by decide +kernel
theorem dX11_span_1 : decode cX11_span 1 = .ok (.invokevirtual 176, 3) := by decide +kernel
theorem dX11_span_4 : decode cX11_span 4 = .ok (.istore_n 1, 1) := by decide +kernel
theorem dX11_span_5 : decode cX11_span 5 = .ok (.aload_n 0, 1) := by decide +kernel
theorem dX11_span_6 : decode cX11_span 6 = .ok (.getfield 173, 3) := by decide +kernel
theorem dX11_span_9 : decode cX11_span 9 = .ok (.istore_n 2, 1) := by decide +kernel
theorem dX11_span_10 : decode cX11_span 10 = .ok (.iconst 0, 1) := by decide +kernel
theorem dX11_span_11 : decode cX11_span 11 = .ok (.istore_n 3, 1) := by decide +kernel
theorem dX11_span_12 : decode cX11_span 12 = .ok (.iload_n 2, 1) := by decide +kernel
theorem dX11_span_13 : decode cX11_span 13 = .ok (.iload_n 3, 1) := by decide +kernel
theorem dX11_span_14 : decode cX11_span 14 = .ok (.iadd, 1) := by decide +kernel
theorem dX11_span_15 : decode cX11_span 15 = .ok (.aload_n 0, 1) := by decide +kernel
theorem dX11_span_16 : decode cX11_span 16 = .ok (.getfield 163, 3) := by decide +kernel
theorem dX11_span_19 : decode cX11_span 19 = .ok (.if_icmp .ge 35, 3) := by decide +kernel
theorem dX11_span_22 : decode cX11_span 22 = .ok (.aload_n 0, 1) := by decide +kernel
theorem dX11_span_23 : decode cX11_span 23 = .ok (.getfield 98, 3) := by decide +kernel
theorem dX11_span_26 : decode cX11_span 26 = .ok (.iload_n 2, 1) := by decide +kernel
theorem dX11_span_27 : decode cX11_span 27 = .ok (.iload_n 3, 1) := by decide +kernel
theorem dX11_span_28 : decode cX11_span 28 = .ok (.iadd, 1) := by decide +kernel
theorem dX11_span_29 : decode cX11_span 29 = .ok (.baload, 1) := by decide +kernel
theorem dX11_span_30 : decode cX11_span 30 = .ok (.bipush 97, 2) := by decide +kernel
theorem dX11_span_32 : decode cX11_span 32 = .ok (.if_icmp .lt 22, 3) := by decide +kernel
theorem dX11_span_35 : decode cX11_span 35 = .ok (.aload_n 0, 1) := by decide +kernel
theorem dX11_span_36 : decode cX11_span 36 = .ok (.getfield 98, 3) := by decide +kernel
theorem dX11_span_39 : decode cX11_span 39 = .ok (.iload_n 2, 1) := by decide +kernel
theorem dX11_span_40 : decode cX11_span 40 = .ok (.iload_n 3, 1) := by decide +kernel
theorem dX11_span_41 : decode cX11_span 41 = .ok (.iadd, 1) := by decide +kernel
theorem dX11_span_42 : decode cX11_span 42 = .ok (.baload, 1) := by decide +kernel
theorem dX11_span_43 : decode cX11_span 43 = .ok (.bipush 122, 2) := by decide +kernel
theorem dX11_span_45 : decode cX11_span 45 = .ok (.if_icmp .gt 9, 3) := by decide +kernel
theorem dX11_span_48 : decode cX11_span 48 = .ok (.iinc 3 1, 3) := by decide +kernel
theorem dX11_span_51 : decode cX11_span 51 = .ok (.goto (-39), 3) := by decide +kernel
theorem dX11_span_54 : decode cX11_span 54 = .ok (.iload_n 3, 1) := by decide +kernel
theorem dX11_span_55 : decode cX11_span 55 = .ok (.ifCond .ne 10, 3) := by decide +kernel
theorem dX11_span_58 : decode cX11_span 58 = .ok (.aload_n 0, 1) := by decide +kernel
theorem dX11_span_59 : decode cX11_span 59 = .ok (.iconst 0, 1) := by decide +kernel
theorem dX11_span_60 : decode cX11_span 60 = .ok (.iload_n 2, 1) := by decide +kernel
theorem dX11_span_61 : decode cX11_span 61 = .ok (.invokevirtual 184, 3) := by decide +kernel
theorem dX11_span_64 : decode cX11_span 64 = .ok (.ireturn, 1) := by decide +kernel
theorem dX11_span_65 : decode cX11_span 65 = .ok (.iload_n 3, 1) := by decide +kernel
theorem dX11_span_66 : decode cX11_span 66 = .ok (.bipush 10, 2) := by decide +kernel
theorem dX11_span_68 : decode cX11_span 68 = .ok (.if_icmp .le 10, 3) := by decide +kernel
theorem dX11_span_71 : decode cX11_span 71 = .ok (.aload_n 0, 1) := by decide +kernel
theorem dX11_span_72 : decode cX11_span 72 = .ok (.iconst 1, 1) := by decide +kernel
theorem dX11_span_73 : decode cX11_span 73 = .ok (.iload_n 2, 1) := by decide +kernel
theorem dX11_span_74 : decode cX11_span 74 = .ok (.invokevirtual 184, 3) := by decide +kernel
theorem dX11_span_77 : decode cX11_span 77 = .ok (.ireturn, 1) := by decide +kernel
theorem dX11_span_78 : decode cX11_span 78 = .ok (.aload_n 0, 1) := by decide +kernel
theorem dX11_span_79 : decode cX11_span 79 = .ok (.getfield 191, 3) := by decide +kernel
theorem dX11_span_82 : decode cX11_span 82 = .ok (.bipush 8, 2) := by decide +kernel
theorem dX11_span_84 : decode cX11_span 84 = .ok (.if_icmp .eq 12, 3) := by decide +kernel
theorem dX11_span_87 : decode cX11_span 87 = .ok (.aload_n 0, 1) := by decide +kernel
theorem dX11_span_88 : decode cX11_span 88 = .ok (.iload_n 2, 1) := by decide +kernel
theorem dX11_span_89 : decode cX11_span 89 = .ok (.iload_n 3, 1) := by decide +kernel
theorem dX11_span_90 : decode cX11_span 90 = .ok (.invokevirtual 194, 3) := by decide +kernel
theorem dX11_span_93 : decode cX11_span 93 = .ok (.ifCond .eq 10, 3) := by decide +kernel
theorem dX11_span_96 : decode cX11_span 96 = .ok (.aload_n 0, 1) := by decide +kernel
theorem dX11_span_97 : decode cX11_span 97 = .ok (.iconst 2, 1) := by decide +kernel
theorem dX11_span_98 : decode cX11_span 98 = .ok (.iload_n 2, 1) := by decide +kernel
theorem dX11_span_99 : decode cX11_span 99 = .ok (.invokevirtual 184, 3) := by decide +kernel
theorem dX11_span_102 : decode cX11_span 102 = .ok (.ireturn, 1) := by decide +kernel
theorem dX11_span_103 : decode cX11_span 103 = .ok (.aload_n 0, 1) := by decide +kernel
theorem dX11_span_104 : decode cX11_span 104 = .ok (.iload_n 2, 1) := by decide +kernel
theorem dX11_span_105 : decode cX11_span 105 = .ok (.iload_n 3, 1) := by decide +kernel
theorem dX11_span_106 : decode cX11_span 106 = .ok (.iadd, 1) := by decide +kernel
theorem dX11_span_107 : decode cX11_span 107 = .ok (.putfield 173, 3) := by decide +kernel
theorem dX11_span_110 : decode cX11_span 110 = .ok (.aload_n 0, 1) := by decide +kernel
theorem dX11_span_111 : decode cX11_span 111 = .ok (.getfield 114, 3) := by decide +kernel
theorem dX11_span_114 : decode cX11_span 114 = .ok (.aload_n 0, 1) := by decide +kernel
theorem dX11_span_115 : decode cX11_span 115 = .ok (.getfield 191, 3) := by decide +kernel
theorem dX11_span_118 : decode cX11_span 118 = .ok (.iload_n 2, 1) := by decide +kernel
theorem dX11_span_119 : decode cX11_span 119 = .ok (.iastore, 1) := by decide +kernel
theorem dX11_span_120 : decode cX11_span 120 = .ok (.aload_n 0, 1) := by decide +kernel
theorem dX11_span_121 : decode cX11_span 121 = .ok (.getfield 117, 3) := by decide +kernel
theorem dX11_span_124 : decode cX11_span 124 = .ok (.aload_n 0, 1) := by decide +kernel
theorem dX11_span_125 : decode cX11_span 125 = .ok (.getfield 191, 3) := by decide +kernel
theorem dX11_span_128 : decode cX11_span 128 = .ok (.iload_n 3, 1) := by decide +kernel
theorem dX11_span_129 : decode cX11_span 129 = .ok (.iastore, 1) := by decide +kernel
theorem dX11_span_130 : decode cX11_span 130 = .ok (.aload_n 0, 1) := by decide +kernel
theorem dX11_span_131 : decode cX11_span 131 = .ok (.iconst 0, 1) := by decide +kernel
theorem dX11_span_132 : decode cX11_span 132 = .ok (.bipush 100, 2) := by decide +kernel
theorem dX11_span_134 : decode cX11_span 134 = .ok (.invokevirtual 197, 3) := by decide +kernel
theorem dX11_span_137 : decode cX11_span 137 = .ok (.ifCond .ne 5, 3) := by decide +kernel
theorem dX11_span_140 : decode cX11_span 140 = .ok (.iconst 0, 1) := by decide +kernel
theorem dX11_span_141 : decode cX11_span 141 = .ok (.ireturn, 1) := by decide +kernel
theorem dX11_span_142 : decode cX11_span 142 = .ok (.aload_n 0, 1) := by decide +kernel
theorem dX11_span_143 : decode cX11_span 143 = .ok (.getfield 108, 3) := by decide +kernel
theorem dX11_span_146 : decode cX11_span 146 = .ok (.aload_n 0, 1) := by decide +kernel
theorem dX11_span_147 : decode cX11_span 147 = .ok (.getfield 191, 3) := by decide +kernel
theorem dX11_span_150 : decode cX11_span 150 = .ok (.aload_n 0, 1) := by decide +kernel
theorem dX11_span_151 : decode cX11_span 151 = .ok (.getfield 188, 3) := by decide +kernel
theorem dX11_span_154 : decode cX11_span 154 = .ok (.iastore, 1) := by decide +kernel
theorem dX11_span_155 : decode cX11_span 155 = .ok (.aload_n 0, 1) := by decide +kernel
theorem dX11_span_156 : decode cX11_span 156 = .ok (.aload_n 0, 1) := by decide +kernel
theorem dX11_span_157 : decode cX11_span 157 = .ok (.getfield 188, 3) := by decide +kernel
theorem dX11_span_160 : decode cX11_span 160 = .ok (.bipush 100, 2) := by decide +kernel
theorem dX11_span_162 : decode cX11_span 162 = .ok (.invokevirtual 197, 3) := by decide +kernel
theorem dX11_span_165 : decode cX11_span 165 = .ok (.ifCond .ne 5, 3) := by decide +kernel
theorem dX11_span_168 : decode cX11_span 168 = .ok (.iconst 0, 1) := by decide +kernel
theorem dX11_span_169 : decode cX11_span 169 = .ok (.ireturn, 1) := by decide +kernel
theorem dX11_span_170 : decode cX11_span 170 = .ok (.aload_n 0, 1) := by decide +kernel
theorem dX11_span_171 : decode cX11_span 171 = .ok (.getfield 111, 3) := by decide +kernel
theorem dX11_span_174 : decode cX11_span 174 = .ok (.aload_n 0, 1) := by decide +kernel
theorem dX11_span_175 : decode cX11_span 175 = .ok (.getfield 191, 3) := by decide +kernel
theorem dX11_span_178 : decode cX11_span 178 = .ok (.aload_n 0, 1) := by decide +kernel
theorem dX11_span_179 : decode cX11_span 179 = .ok (.getfield 188, 3) := by decide +kernel
theorem dX11_span_182 : decode cX11_span 182 = .ok (.iastore, 1) := by decide +kernel
theorem dX11_span_183 : decode cX11_span 183 = .ok (.aload_n 0, 1) := by decide +kernel
theorem dX11_span_184 : decode cX11_span 184 = .ok (.dup, 1) := by decide +kernel
theorem dX11_span_185 : decode cX11_span 185 = .ok (.getfield 191, 3) := by decide +kernel
theorem dX11_span_188 : decode cX11_span 188 = .ok (.iconst 1, 1) := by decide +kernel
theorem dX11_span_189 : decode cX11_span 189 = .ok (.iadd, 1) := by decide +kernel
theorem dX11_span_190 : decode cX11_span 190 = .ok (.putfield 191, 3) := by decide +kernel
theorem dX11_span_193 : decode cX11_span 193 = .ok (.iconst 1, 1) := by decide +kernel
theorem dX11_span_194 : decode cX11_span 194 = .ok (.ireturn, 1) := by decide +kernel
theorem dX11_spans_0 : decode cX11_spans 0 = .ok (.aload_n 0, 1) := by decide +kernel
theorem dX11_spans_1 : decode cX11_spans 1 = .ok (.iconst 0, 1) := by decide +kernel
theorem dX11_spans_2 : decode cX11_spans 2 = .ok (.putfield 173, 3) := by decide +kernel
theorem dX11_spans_5 : decode cX11_spans 5 = .ok (.aload_n 0, 1) := by decide +kernel
theorem dX11_spans_6 : decode cX11_spans 6 = .ok (.iconst 0, 1) := by decide +kernel
theorem dX11_spans_7 : decode cX11_spans 7 = .ok (.putfield 170, 3) := by decide +kernel
theorem dX11_spans_10 : decode cX11_spans 10 = .ok (.aload_n 0, 1) := by decide +kernel
theorem dX11_spans_11 : decode cX11_spans 11 = .ok (.iconst 0, 1) := by decide +kernel
theorem dX11_spans_12 : decode cX11_spans 12 = .ok (.putfield 191, 3) := by decide +kernel
theorem dX11_spans_15 : decode cX11_spans 15 = .ok (.iconst 1, 1) := by decide +kernel
theorem dX11_spans_16 : decode cX11_spans 16 = .ok (.istore_n 1, 1) := by decide +kernel
theorem dX11_spans_17 : decode cX11_spans 17 = .ok (.aload_n 0, 1) := by decide +kernel
theorem dX11_spans_18 : decode cX11_spans 18 = .ok (.invokevirtual 176, 3) := by decide +kernel
theorem dX11_spans_21 : decode cX11_spans 21 = .ok (.iconst (-1), 1) := by decide +kernel
theorem dX11_spans_22 : decode cX11_spans 22 = .ok (.if_icmp .eq 7, 3) := by decide +kernel
theorem dX11_spans_25 : decode cX11_spans 25 = .ok (.iconst 1, 1) := by decide +kernel
theorem dX11_spans_26 : decode cX11_spans 26 = .ok (.goto 4, 3) := by decide +kernel
theorem dX11_spans_29 : decode cX11_spans 29 = .ok (.iconst 0, 1) := by decide +kernel
theorem dX11_spans_30 : decode cX11_spans 30 = .ok (.istore_n 2, 1) := by decide +kernel
theorem dX11_spans_31 : decode cX11_spans 31 = .ok (.iload_n 1, 1) := by decide +kernel
theorem dX11_spans_32 : decode cX11_spans 32 = .ok (.ifCond .eq 70, 3) := by decide +kernel
theorem dX11_spans_35 : decode cX11_spans 35 = .ok (.iload_n 2, 1) := by decide +kernel
theorem dX11_spans_36 : decode cX11_spans 36 = .ok (.ifCond .eq 66, 3) := by decide +kernel
theorem dX11_spans_39 : decode cX11_spans 39 = .ok (.aload_n 0, 1) := by decide +kernel
theorem dX11_spans_40 : decode cX11_spans 40 = .ok (.invokevirtual 200, 3) := by decide +kernel
theorem dX11_spans_43 : decode cX11_spans 43 = .ok (.istore_n 1, 1) := by decide +kernel
theorem dX11_spans_44 : decode cX11_spans 44 = .ok (.iload_n 1, 1) := by decide +kernel
theorem dX11_spans_45 : decode cX11_spans 45 = .ok (.ifCond .eq 15, 3) := by decide +kernel
theorem dX11_spans_48 : decode cX11_spans 48 = .ok (.aload_n 0, 1) := by decide +kernel
theorem dX11_spans_49 : decode cX11_spans 49 = .ok (.invokevirtual 176, 3) := by decide +kernel
theorem dX11_spans_52 : decode cX11_spans 52 = .ok (.iconst (-1), 1) := by decide +kernel
theorem dX11_spans_53 : decode cX11_spans 53 = .ok (.if_icmp .eq 7, 3) := by decide +kernel
theorem dX11_spans_56 : decode cX11_spans 56 = .ok (.iconst 1, 1) := by decide +kernel
theorem dX11_spans_57 : decode cX11_spans 57 = .ok (.goto 4, 3) := by decide +kernel
theorem dX11_spans_60 : decode cX11_spans 60 = .ok (.iconst 0, 1) := by decide +kernel
theorem dX11_spans_61 : decode cX11_spans 61 = .ok (.istore_n 2, 1) := by decide +kernel
theorem dX11_spans_62 : decode cX11_spans 62 = .ok (.iload_n 2, 1) := by decide +kernel
theorem dX11_spans_63 : decode cX11_spans 63 = .ok (.ifCond .eq 22, 3) := by decide +kernel
theorem dX11_spans_66 : decode cX11_spans 66 = .ok (.aload_n 0, 1) := by decide +kernel
theorem dX11_spans_67 : decode cX11_spans 67 = .ok (.invokevirtual 176, 3) := by decide +kernel
theorem dX11_spans_70 : decode cX11_spans 70 = .ok (.bipush 59, 2) := by decide +kernel
theorem dX11_spans_72 : decode cX11_spans 72 = .ok (.if_icmp .eq 13, 3) := by decide +kernel
theorem dX11_spans_75 : decode cX11_spans 75 = .ok (.aload_n 0, 1) := by decide +kernel
theorem dX11_spans_76 : decode cX11_spans 76 = .ok (.iconst 0, 1) := by decide +kernel
theorem dX11_spans_77 : decode cX11_spans 77 = .ok (.aload_n 0, 1) := by decide +kernel
theorem dX11_spans_78 : decode cX11_spans 78 = .ok (.getfield 173, 3) := by decide +kernel
theorem dX11_spans_81 : decode cX11_spans 81 = .ok (.invokevirtual 184, 3) := by decide +kernel
theorem dX11_spans_84 : decode cX11_spans 84 = .ok (.istore_n 1, 1) := by decide +kernel
theorem dX11_spans_85 : decode cX11_spans 85 = .ok (.iload_n 2, 1) := by decide +kernel
theorem dX11_spans_86 : decode cX11_spans 86 = .ok (.ifCond .eq (-55), 3) := by decide +kernel
theorem dX11_spans_89 : decode cX11_spans 89 = .ok (.aload_n 0, 1) := by decide +kernel
theorem dX11_spans_90 : decode cX11_spans 90 = .ok (.dup, 1) := by decide +kernel
theorem dX11_spans_91 : decode cX11_spans 91 = .ok (.getfield 173, 3) := by decide +kernel
theorem dX11_spans_94 : decode cX11_spans 94 = .ok (.iconst 1, 1) := by decide +kernel
theorem dX11_spans_95 : decode cX11_spans 95 = .ok (.iadd, 1) := by decide +kernel
theorem dX11_spans_96 : decode cX11_spans 96 = .ok (.putfield 173, 3) := by decide +kernel
theorem dX11_spans_99 : decode cX11_spans 99 = .ok (.goto (-68), 3) := by decide +kernel
theorem dX11_spans_102 : decode cX11_spans 102 = .ok (.aload_n 0, 1) := by decide +kernel
theorem dX11_spans_103 : decode cX11_spans 103 = .ok (.iconst 0, 1) := by decide +kernel
theorem dX11_spans_104 : decode cX11_spans 104 = .ok (.putfield 163, 3) := by decide +kernel
theorem dX11_spans_107 : decode cX11_spans 107 = .ok (.iload_n 1, 1) := by decide +kernel
theorem dX11_spans_108 : decode cX11_spans 108 = .ok (.ifCond .ne 11, 3) := by decide +kernel
theorem dX11_spans_111 : decode cX11_spans 111 = .ok (.bipush (-2), 2) := by decide +kernel
theorem dX11_spans_113 : decode cX11_spans 113 = .ok (.aload_n 0, 1) := by decide +kernel
theorem dX11_spans_114 : decode cX11_spans 114 = .ok (.getfield 170, 3) := by decide +kernel
theorem dX11_spans_117 : decode cX11_spans 117 = .ok (.isub, 1) := by decide +kernel
theorem dX11_spans_118 : decode cX11_spans 118 = .ok (.ireturn, 1) := by decide +kernel
theorem dX11_spans_119 : decode cX11_spans 119 = .ok (.aload_n 0, 1) := by decide +kernel
theorem dX11_spans_120 : decode cX11_spans 120 = .ok (.aload_n 0, 1) := by decide +kernel
theorem dX11_spans_121 : decode cX11_spans 121 = .ok (.getfield 191, 3) := by decide +kernel
theorem dX11_spans_124 : decode cX11_spans 124 = .ok (.putfield 204, 3) := by decide +kernel
theorem dX11_spans_127 : decode cX11_spans 127 = .ok (.iconst 0, 1) := by decide +kernel
theorem dX11_spans_128 : decode cX11_spans 128 = .ok (.istore_n 3, 1) := by decide +kernel
theorem dX11_spans_129 : decode cX11_spans 129 = .ok (.iload_n 3, 1) := by decide +kernel
theorem dX11_spans_130 : decode cX11_spans 130 = .ok (.aload_n 0, 1) := by decide +kernel
theorem dX11_spans_131 : decode cX11_spans 131 = .ok (.getfield 191, 3) := by decide +kernel
theorem dX11_spans_134 : decode cX11_spans 134 = .ok (.if_icmp .ge 33, 3) := by decide +kernel
theorem dX11_spans_137 : decode cX11_spans 137 = .ok (.aload_n 0, 1) := by decide +kernel
theorem dX11_spans_138 : decode cX11_spans 138 = .ok (.getfield 102, 3) := by decide +kernel
theorem dX11_spans_141 : decode cX11_spans 141 = .ok (.iload_n 3, 1) := by decide +kernel
theorem dX11_spans_142 : decode cX11_spans 142 = .ok (.aload_n 0, 1) := by decide +kernel
theorem dX11_spans_143 : decode cX11_spans 143 = .ok (.getfield 108, 3) := by decide +kernel
theorem dX11_spans_146 : decode cX11_spans 146 = .ok (.iload_n 3, 1) := by decide +kernel
theorem dX11_spans_147 : decode cX11_spans 147 = .ok (.iaload, 1) := by decide +kernel
theorem dX11_spans_148 : decode cX11_spans 148 = .ok (.iastore, 1) := by decide +kernel
theorem dX11_spans_149 : decode cX11_spans 149 = .ok (.aload_n 0, 1) := by decide +kernel
theorem dX11_spans_150 : decode cX11_spans 150 = .ok (.getfield 105, 3) := by decide +kernel
theorem dX11_spans_153 : decode cX11_spans 153 = .ok (.iload_n 3, 1) := by decide +kernel
theorem dX11_spans_154 : decode cX11_spans 154 = .ok (.aload_n 0, 1) := by decide +kernel
theorem dX11_spans_155 : decode cX11_spans 155 = .ok (.getfield 111, 3) := by decide +kernel
theorem dX11_spans_158 : decode cX11_spans 158 = .ok (.iload_n 3, 1) := by decide +kernel
theorem dX11_spans_159 : decode cX11_spans 159 = .ok (.iaload, 1) := by decide +kernel
theorem dX11_spans_160 : decode cX11_spans 160 = .ok (.iastore, 1) := by decide +kernel
theorem dX11_spans_161 : decode cX11_spans 161 = .ok (.iinc 3 1, 3) := by decide +kernel
theorem dX11_spans_164 : decode cX11_spans 164 = .ok (.goto (-35), 3) := by decide +kernel
theorem dX11_spans_167 : decode cX11_spans 167 = .ok (.aload_n 0, 1) := by decide +kernel
theorem dX11_spans_168 : decode cX11_spans 168 = .ok (.getfield 204, 3) := by decide +kernel
theorem dX11_spans_171 : decode cX11_spans 171 = .ok (.ireturn, 1) := by decide +kernel
theorem dX11_isPot_0 : decode cX11_isPot 0 = .ok (.iload_n 0, 1) := by decide +kernel
theorem dX11_isPot_1 : decode cX11_isPot 1 = .ok (.iconst 0, 1) := by decide +kernel
theorem dX11_isPot_2 : decode cX11_isPot 2 = .ok (.iconst 5, 1) := by decide +kernel
theorem dX11_isPot_3 : decode cX11_isPot 3 = .ok (.invokestatic 140, 3) := by decide +kernel
theorem dX11_isPot_6 : decode cX11_isPot 6 = .ok (.ireturn, 1) := by decide +kernel
theorem dX11_isReady_0 : decode cX11_isReady 0 = .ok (.aload_n 0, 1) := by decide +kernel
theorem dX11_isReady_1 : decode cX11_isReady 1 = .ok (.getfield 31, 3) := by decide +kernel
theorem dX11_isReady_4 : decode cX11_isReady 4 = .ok (.iload_n 1, 1) := by decide +kernel
theorem dX11_isReady_5 : decode cX11_isReady 5 = .ok (.iaload, 1) := by decide +kernel
theorem dX11_isReady_6 : decode cX11_isReady 6 = .ok (.aload_n 0, 1) := by decide +kernel
theorem dX11_isReady_7 : decode cX11_isReady 7 = .ok (.getfield 34, 3) := by decide +kernel
theorem dX11_isReady_10 : decode cX11_isReady 10 = .ok (.iload_n 1, 1) := by decide +kernel
theorem dX11_isReady_11 : decode cX11_isReady 11 = .ok (.iaload, 1) := by decide +kernel
theorem dX11_isReady_12 : decode cX11_isReady 12 = .ok (.if_icmp .lt 7, 3) := by decide +kernel
theorem dX11_isReady_15 : decode cX11_isReady 15 = .ok (.iconst 1, 1) := by decide +kernel
theorem dX11_isReady_16 : decode cX11_isReady 16 = .ok (.goto 4, 3) := by decide +kernel
theorem dX11_isReady_19 : decode cX11_isReady 19 = .ok (.iconst 0, 1) := by decide +kernel
theorem dX11_isReady_20 : decode cX11_isReady 20 = .ok (.ireturn, 1) := by decide +kernel
theorem dX11_lay_0 : decode cX11_lay 0 = .ok (.iload_n 1, 1) := by decide +kernel
theorem dX11_lay_1 : decode cX11_lay 1 = .ok (.invokestatic 207, 3) := by decide +kernel
theorem dX11_lay_4 : decode cX11_lay 4 = .ok (.ifCond .eq 75, 3) := by decide +kernel
theorem dX11_lay_7 : decode cX11_lay 7 = .ok (.aload_n 0, 1) := by decide +kernel
theorem dX11_lay_8 : decode cX11_lay 8 = .ok (.getfield 25, 3) := by decide +kernel
theorem dX11_lay_11 : decode cX11_lay 11 = .ok (.iload_n 1, 1) := by decide +kernel
theorem dX11_lay_12 : decode cX11_lay 12 = .ok (.iaload, 1) := by decide +kernel
theorem dX11_lay_13 : decode cX11_lay 13 = .ok (.ifCond .ge 66, 3) := by decide +kernel
theorem dX11_lay_16 : decode cX11_lay 16 = .ok (.aload_n 0, 1) := by decide +kernel
theorem dX11_lay_17 : decode cX11_lay 17 = .ok (.getfield 210, 3) := by decide +kernel
theorem dX11_lay_20 : decode cX11_lay 20 = .ok (.sipush 200, 3) := by decide +kernel
theorem dX11_lay_23 : decode cX11_lay 23 = .ok (.if_icmp .eq 56, 3) := by decide +kernel
theorem dX11_lay_26 : decode cX11_lay 26 = .ok (.iload_n 2, 1) := by decide +kernel
theorem dX11_lay_27 : decode cX11_lay 27 = .ok (.iconst 1, 1) := by decide +kernel
theorem dX11_lay_28 : decode cX11_lay 28 = .ok (.sipush 200, 3) := by decide +kernel
theorem dX11_lay_31 : decode cX11_lay 31 = .ok (.invokestatic 140, 3) := by decide +kernel
theorem dX11_lay_34 : decode cX11_lay 34 = .ok (.ifCond .eq 45, 3) := by decide +kernel
theorem dX11_lay_37 : decode cX11_lay 37 = .ok (.iload_n 3, 1) := by decide +kernel
theorem dX11_lay_38 : decode cX11_lay 38 = .ok (.iconst 0, 1) := by decide +kernel
theorem dX11_lay_39 : decode cX11_lay 39 = .ok (.sipush 200, 3) := by decide +kernel
theorem dX11_lay_42 : decode cX11_lay 42 = .ok (.invokestatic 140, 3) := by decide +kernel
theorem dX11_lay_45 : decode cX11_lay 45 = .ok (.ifCond .eq 34, 3) := by decide +kernel
theorem dX11_lay_48 : decode cX11_lay 48 = .ok (.iload 4, 2) := by decide +kernel
theorem dX11_lay_50 : decode cX11_lay 50 = .ok (.iconst 0, 1) := by decide +kernel
theorem dX11_lay_51 : decode cX11_lay 51 = .ok (.sipush 200, 3) := by decide +kernel
theorem dX11_lay_54 : decode cX11_lay 54 = .ok (.invokestatic 140, 3) := by decide +kernel
theorem dX11_lay_57 : decode cX11_lay 57 = .ok (.ifCond .eq 22, 3) := by decide +kernel
theorem dX11_lay_60 : decode cX11_lay 60 = .ok (.iload 4, 2) := by decide +kernel
theorem dX11_lay_62 : decode cX11_lay 62 = .ok (.aload_n 0, 1) := by decide +kernel
theorem dX11_lay_63 : decode cX11_lay 63 = .ok (.getfield 213, 3) := by decide +kernel
theorem dX11_lay_66 : decode cX11_lay 66 = .ok (.if_icmp .gt 13, 3) := by decide +kernel
theorem dX11_lay_69 : decode cX11_lay 69 = .ok (.aload_n 0, 1) := by decide +kernel
theorem dX11_lay_70 : decode cX11_lay 70 = .ok (.getfield 144, 3) := by decide +kernel
theorem dX11_lay_73 : decode cX11_lay 73 = .ok (.sipush 5000, 3) := by decide +kernel
theorem dX11_lay_76 : decode cX11_lay 76 = .ok (.if_icmp .ne 5, 3) := by decide +kernel
theorem dX11_lay_79 : decode cX11_lay 79 = .ok (.iconst (-1), 1) := by decide +kernel
theorem dX11_lay_80 : decode cX11_lay 80 = .ok (.ireturn, 1) := by decide +kernel
theorem dX11_lay_81 : decode cX11_lay 81 = .ok (.aload_n 0, 1) := by decide +kernel
theorem dX11_lay_82 : decode cX11_lay 82 = .ok (.dup, 1) := by decide +kernel
theorem dX11_lay_83 : decode cX11_lay 83 = .ok (.getfield 213, 3) := by decide +kernel
theorem dX11_lay_86 : decode cX11_lay 86 = .ok (.iload 4, 2) := by decide +kernel
theorem dX11_lay_88 : decode cX11_lay 88 = .ok (.isub, 1) := by decide +kernel
theorem dX11_lay_89 : decode cX11_lay 89 = .ok (.putfield 213, 3) := by decide +kernel
theorem dX11_lay_92 : decode cX11_lay 92 = .ok (.aload_n 0, 1) := by decide +kernel
theorem dX11_lay_93 : decode cX11_lay 93 = .ok (.getfield 25, 3) := by decide +kernel
theorem dX11_lay_96 : decode cX11_lay 96 = .ok (.iload_n 1, 1) := by decide +kernel
theorem dX11_lay_97 : decode cX11_lay 97 = .ok (.aload_n 0, 1) := by decide +kernel
theorem dX11_lay_98 : decode cX11_lay 98 = .ok (.getfield 210, 3) := by decide +kernel
theorem dX11_lay_101 : decode cX11_lay 101 = .ok (.iastore, 1) := by decide +kernel
theorem dX11_lay_102 : decode cX11_lay 102 = .ok (.aload_n 0, 1) := by decide +kernel
theorem dX11_lay_103 : decode cX11_lay 103 = .ok (.dup, 1) := by decide +kernel
theorem dX11_lay_104 : decode cX11_lay 104 = .ok (.getfield 210, 3) := by decide +kernel
theorem dX11_lay_107 : decode cX11_lay 107 = .ok (.iconst 1, 1) := by decide +kernel
theorem dX11_lay_108 : decode cX11_lay 108 = .ok (.iadd, 1) := by decide +kernel
theorem dX11_lay_109 : decode cX11_lay 109 = .ok (.putfield 210, 3) := by decide +kernel
theorem dX11_lay_112 : decode cX11_lay 112 = .ok (.aload_n 0, 1) := by decide +kernel
theorem dX11_lay_113 : decode cX11_lay 113 = .ok (.getfield 28, 3) := by decide +kernel
theorem dX11_lay_116 : decode cX11_lay 116 = .ok (.iload_n 1, 1) := by decide +kernel
theorem dX11_lay_117 : decode cX11_lay 117 = .ok (.iload_n 2, 1) := by decide +kernel
theorem dX11_lay_118 : decode cX11_lay 118 = .ok (.iload_n 3, 1) := by decide +kernel
theorem dX11_lay_119 : decode cX11_lay 119 = .ok (.iconst 2, 1) := by decide +kernel
theorem dX11_lay_120 : decode cX11_lay 120 = .ok (.idiv, 1) := by decide +kernel
theorem dX11_lay_121 : decode cX11_lay 121 = .ok (.iadd, 1) := by decide +kernel
theorem dX11_lay_122 : decode cX11_lay 122 = .ok (.iload 4, 2) := by decide +kernel
theorem dX11_lay_124 : decode cX11_lay 124 = .ok (.iadd, 1) := by decide +kernel
theorem dX11_lay_125 : decode cX11_lay 125 = .ok (.iastore, 1) := by decide +kernel
theorem dX11_lay_126 : decode cX11_lay 126 = .ok (.aload_n 0, 1) := by decide +kernel
theorem dX11_lay_127 : decode cX11_lay 127 = .ok (.getfield 31, 3) := by decide +kernel
theorem dX11_lay_130 : decode cX11_lay 130 = .ok (.iload_n 1, 1) := by decide +kernel
theorem dX11_lay_131 : decode cX11_lay 131 = .ok (.iconst 0, 1) := by decide +kernel
theorem dX11_lay_132 : decode cX11_lay 132 = .ok (.iastore, 1) := by decide +kernel
theorem dX11_lay_133 : decode cX11_lay 133 = .ok (.aload_n 0, 1) := by decide +kernel
theorem dX11_lay_134 : decode cX11_lay 134 = .ok (.getfield 34, 3) := by decide +kernel
theorem dX11_lay_137 : decode cX11_lay 137 = .ok (.iload_n 1, 1) := by decide +kernel
theorem dX11_lay_138 : decode cX11_lay 138 = .ok (.bipush 60, 2) := by decide +kernel
theorem dX11_lay_140 : decode cX11_lay 140 = .ok (.iload_n 2, 1) := by decide +kernel
theorem dX11_lay_141 : decode cX11_lay 141 = .ok (.imul, 1) := by decide +kernel
theorem dX11_lay_142 : decode cX11_lay 142 = .ok (.bipush 10, 2) := by decide +kernel
theorem dX11_lay_144 : decode cX11_lay 144 = .ok (.iload_n 3, 1) := by decide +kernel
theorem dX11_lay_145 : decode cX11_lay 145 = .ok (.imul, 1) := by decide +kernel
theorem dX11_lay_146 : decode cX11_lay 146 = .ok (.iadd, 1) := by decide +kernel
theorem dX11_lay_147 : decode cX11_lay 147 = .ok (.bipush 20, 2) := by decide +kernel
theorem dX11_lay_149 : decode cX11_lay 149 = .ok (.iload 4, 2) := by decide +kernel
theorem dX11_lay_151 : decode cX11_lay 151 = .ok (.imul, 1) := by decide +kernel
theorem dX11_lay_152 : decode cX11_lay 152 = .ok (.iadd, 1) := by decide +kernel
theorem dX11_lay_153 : decode cX11_lay 153 = .ok (.iload_n 2, 1) := by decide +kernel
theorem dX11_lay_154 : decode cX11_lay 154 = .ok (.iload_n 3, 1) := by decide +kernel
theorem dX11_lay_155 : decode cX11_lay 155 = .ok (.iadd, 1) := by decide +kernel
theorem dX11_lay_156 : decode cX11_lay 156 = .ok (.iload 4, 2) := by decide +kernel
theorem dX11_lay_158 : decode cX11_lay 158 = .ok (.iadd, 1) := by decide +kernel
theorem dX11_lay_159 : decode cX11_lay 159 = .ok (.idiv, 1) := by decide +kernel
theorem dX11_lay_160 : decode cX11_lay 160 = .ok (.iastore, 1) := by decide +kernel
theorem dX11_lay_161 : decode cX11_lay 161 = .ok (.bipush 100, 2) := by decide +kernel
theorem dX11_lay_163 : decode cX11_lay 163 = .ok (.iload_n 3, 1) := by decide +kernel
theorem dX11_lay_164 : decode cX11_lay 164 = .ok (.imul, 1) := by decide +kernel
theorem dX11_lay_165 : decode cX11_lay 165 = .ok (.iload_n 2, 1) := by decide +kernel
theorem dX11_lay_166 : decode cX11_lay 166 = .ok (.iload_n 3, 1) := by decide +kernel
theorem dX11_lay_167 : decode cX11_lay 167 = .ok (.iadd, 1) := by decide +kernel
theorem dX11_lay_168 : decode cX11_lay 168 = .ok (.idiv, 1) := by decide +kernel
theorem dX11_lay_169 : decode cX11_lay 169 = .ok (.istore 5, 2) := by decide +kernel
theorem dX11_lay_171 : decode cX11_lay 171 = .ok (.aload_n 0, 1) := by decide +kernel
theorem dX11_lay_172 : decode cX11_lay 172 = .ok (.getfield 37, 3) := by decide +kernel
theorem dX11_lay_175 : decode cX11_lay 175 = .ok (.iload_n 1, 1) := by decide +kernel
theorem dX11_lay_176 : decode cX11_lay 176 = .ok (.iconst (-1), 1) := by decide +kernel
theorem dX11_lay_177 : decode cX11_lay 177 = .ok (.iastore, 1) := by decide +kernel
theorem dX11_lay_178 : decode cX11_lay 178 = .ok (.aload_n 0, 1) := by decide +kernel
theorem dX11_lay_179 : decode cX11_lay 179 = .ok (.getfield 204, 3) := by decide +kernel
theorem dX11_lay_182 : decode cX11_lay 182 = .ok (.iconst 1, 1) := by decide +kernel
theorem dX11_lay_183 : decode cX11_lay 183 = .ok (.isub, 1) := by decide +kernel
theorem dX11_lay_184 : decode cX11_lay 184 = .ok (.istore 6, 2) := by decide +kernel
theorem dX11_lay_186 : decode cX11_lay 186 = .ok (.iload 6, 2) := by decide +kernel
theorem dX11_lay_188 : decode cX11_lay 188 = .ok (.ifCond .lt 39, 3) := by decide +kernel
theorem dX11_lay_191 : decode cX11_lay 191 = .ok (.iload 5, 2) := by decide +kernel
theorem dX11_lay_193 : decode cX11_lay 193 = .ok (.aload_n 0, 1) := by decide +kernel
theorem dX11_lay_194 : decode cX11_lay 194 = .ok (.getfield 102, 3) := by decide +kernel
theorem dX11_lay_197 : decode cX11_lay 197 = .ok (.iload 6, 2) := by decide +kernel
theorem dX11_lay_199 : decode cX11_lay 199 = .ok (.iaload, 1) := by decide +kernel
theorem dX11_lay_200 : decode cX11_lay 200 = .ok (.aload_n 0, 1) := by decide +kernel
theorem dX11_lay_201 : decode cX11_lay 201 = .ok (.getfield 105, 3) := by decide +kernel
theorem dX11_lay_204 : decode cX11_lay 204 = .ok (.iload 6, 2) := by decide +kernel
theorem dX11_lay_206 : decode cX11_lay 206 = .ok (.iaload, 1) := by decide +kernel
theorem dX11_lay_207 : decode cX11_lay 207 = .ok (.invokestatic 140, 3) := by decide +kernel
theorem dX11_lay_210 : decode cX11_lay 210 = .ok (.ifCond .eq 11, 3) := by decide +kernel
theorem dX11_lay_213 : decode cX11_lay 213 = .ok (.aload_n 0, 1) := by decide +kernel
theorem dX11_lay_214 : decode cX11_lay 214 = .ok (.getfield 37, 3) := by decide +kernel
theorem dX11_lay_217 : decode cX11_lay 217 = .ok (.iload_n 1, 1) := by decide +kernel
theorem dX11_lay_218 : decode cX11_lay 218 = .ok (.iload 6, 2) := by decide +kernel
theorem dX11_lay_220 : decode cX11_lay 220 = .ok (.iastore, 1) := by decide +kernel
theorem dX11_lay_221 : decode cX11_lay 221 = .ok (.iinc 6 (-1), 3) := by decide +kernel
theorem dX11_lay_224 : decode cX11_lay 224 = .ok (.goto (-38), 3) := by decide +kernel
theorem dX11_lay_227 : decode cX11_lay 227 = .ok (.aload_n 0, 1) := by decide +kernel
theorem dX11_lay_228 : decode cX11_lay 228 = .ok (.getfield 25, 3) := by decide +kernel
theorem dX11_lay_231 : decode cX11_lay 231 = .ok (.iload_n 1, 1) := by decide +kernel
theorem dX11_lay_232 : decode cX11_lay 232 = .ok (.iaload, 1) := by decide +kernel
theorem dX11_lay_233 : decode cX11_lay 233 = .ok (.ireturn, 1) := by decide +kernel
theorem dX11_buy_0 : decode cX11_buy 0 = .ok (.iload_n 1, 1) := by decide +kernel
theorem dX11_buy_1 : decode cX11_buy 1 = .ok (.iconst 1, 1) := by decide +kernel
theorem dX11_buy_2 : decode cX11_buy 2 = .ok (.sipush 5000, 3) := by decide +kernel
theorem dX11_buy_5 : decode cX11_buy 5 = .ok (.invokestatic 140, 3) := by decide +kernel
theorem dX11_buy_8 : decode cX11_buy 8 = .ok (.ifCond .eq 14, 3) := by decide +kernel
theorem dX11_buy_11 : decode cX11_buy 11 = .ok (.aload_n 0, 1) := by decide +kernel
theorem dX11_buy_12 : decode cX11_buy 12 = .ok (.getfield 213, 3) := by decide +kernel
theorem dX11_buy_15 : decode cX11_buy 15 = .ok (.iload_n 1, 1) := by decide +kernel
theorem dX11_buy_16 : decode cX11_buy 16 = .ok (.iadd, 1) := by decide +kernel
theorem dX11_buy_17 : decode cX11_buy 17 = .ok (.ldc 216, 2) := by decide +kernel
theorem dX11_buy_19 : decode cX11_buy 19 = .ok (.if_icmp .le 5, 3) := by decide +kernel
theorem dX11_buy_22 : decode cX11_buy 22 = .ok (.iconst (-1), 1) := by decide +kernel
theorem dX11_buy_23 : decode cX11_buy 23 = .ok (.ireturn, 1) := by decide +kernel
theorem dX11_buy_24 : decode cX11_buy 24 = .ok (.aload_n 0, 1) := by decide +kernel
theorem dX11_buy_25 : decode cX11_buy 25 = .ok (.dup, 1) := by decide +kernel
theorem dX11_buy_26 : decode cX11_buy 26 = .ok (.getfield 213, 3) := by decide +kernel
theorem dX11_buy_29 : decode cX11_buy 29 = .ok (.iload_n 1, 1) := by decide +kernel
theorem dX11_buy_30 : decode cX11_buy 30 = .ok (.iadd, 1) := by decide +kernel
theorem dX11_buy_31 : decode cX11_buy 31 = .ok (.putfield 213, 3) := by decide +kernel
theorem dX11_buy_34 : decode cX11_buy 34 = .ok (.aload_n 0, 1) := by decide +kernel
theorem dX11_buy_35 : decode cX11_buy 35 = .ok (.getfield 213, 3) := by decide +kernel
theorem dX11_buy_38 : decode cX11_buy 38 = .ok (.ireturn, 1) := by decide +kernel
theorem dX11_drop_0 : decode cX11_drop 0 = .ok (.iload_n 1, 1) := by decide +kernel
theorem dX11_drop_1 : decode cX11_drop 1 = .ok (.invokestatic 207, 3) := by decide +kernel
theorem dX11_drop_4 : decode cX11_drop 4 = .ok (.ifCond .eq 12, 3) := by decide +kernel
theorem dX11_drop_7 : decode cX11_drop 7 = .ok (.aload_n 0, 1) := by decide +kernel
theorem dX11_drop_8 : decode cX11_drop 8 = .ok (.getfield 25, 3) := by decide +kernel
theorem dX11_drop_11 : decode cX11_drop 11 = .ok (.iload_n 1, 1) := by decide +kernel
theorem dX11_drop_12 : decode cX11_drop 12 = .ok (.iaload, 1) := by decide +kernel
theorem dX11_drop_13 : decode cX11_drop 13 = .ok (.ifCond .ge 5, 3) := by decide +kernel
theorem dX11_drop_16 : decode cX11_drop 16 = .ok (.iconst (-1), 1) := by decide +kernel
theorem dX11_drop_17 : decode cX11_drop 17 = .ok (.ireturn, 1) := by decide +kernel
theorem dX11_drop_18 : decode cX11_drop 18 = .ok (.aload_n 0, 1) := by decide +kernel
theorem dX11_drop_19 : decode cX11_drop 19 = .ok (.dup, 1) := by decide +kernel
theorem dX11_drop_20 : decode cX11_drop 20 = .ok (.getfield 213, 3) := by decide +kernel
theorem dX11_drop_23 : decode cX11_drop 23 = .ok (.aload_n 0, 1) := by decide +kernel
theorem dX11_drop_24 : decode cX11_drop 24 = .ok (.getfield 28, 3) := by decide +kernel
theorem dX11_drop_27 : decode cX11_drop 27 = .ok (.iload_n 1, 1) := by decide +kernel
theorem dX11_drop_28 : decode cX11_drop 28 = .ok (.iaload, 1) := by decide +kernel
theorem dX11_drop_29 : decode cX11_drop 29 = .ok (.iadd, 1) := by decide +kernel
theorem dX11_drop_30 : decode cX11_drop 30 = .ok (.putfield 213, 3) := by decide +kernel
theorem dX11_drop_33 : decode cX11_drop 33 = .ok (.aload_n 0, 1) := by decide +kernel
theorem dX11_drop_34 : decode cX11_drop 34 = .ok (.getfield 25, 3) := by decide +kernel
theorem dX11_drop_37 : decode cX11_drop 37 = .ok (.iload_n 1, 1) := by decide +kernel
theorem dX11_drop_38 : decode cX11_drop 38 = .ok (.iconst (-1), 1) := by decide +kernel
theorem dX11_drop_39 : decode cX11_drop 39 = .ok (.iastore, 1) := by decide +kernel
theorem dX11_drop_40 : decode cX11_drop 40 = .ok (.aload_n 0, 1) := by decide +kernel
theorem dX11_drop_41 : decode cX11_drop 41 = .ok (.getfield 28, 3) := by decide +kernel
theorem dX11_drop_44 : decode cX11_drop 44 = .ok (.iload_n 1, 1) := by decide +kernel
theorem dX11_drop_45 : decode cX11_drop 45 = .ok (.iaload, 1) := by decide +kernel
theorem dX11_drop_46 : decode cX11_drop 46 = .ok (.ireturn, 1) := by decide +kernel
theorem dX11_pot_0 : decode cX11_pot 0 = .ok (.iload_n 1, 1) := by decide +kernel
theorem dX11_pot_1 : decode cX11_pot 1 = .ok (.invokestatic 207, 3) := by decide +kernel
theorem dX11_pot_4 : decode cX11_pot 4 = .ok (.ifCond .eq 12, 3) := by decide +kernel
theorem dX11_pot_7 : decode cX11_pot 7 = .ok (.aload_n 0, 1) := by decide +kernel
theorem dX11_pot_8 : decode cX11_pot 8 = .ok (.getfield 25, 3) := by decide +kernel
theorem dX11_pot_11 : decode cX11_pot 11 = .ok (.iload_n 1, 1) := by decide +kernel
theorem dX11_pot_12 : decode cX11_pot 12 = .ok (.iaload, 1) := by decide +kernel
theorem dX11_pot_13 : decode cX11_pot 13 = .ok (.ifCond .ge 5, 3) := by decide +kernel
theorem dX11_pot_16 : decode cX11_pot 16 = .ok (.iconst (-1), 1) := by decide +kernel
theorem dX11_pot_17 : decode cX11_pot 17 = .ok (.ireturn, 1) := by decide +kernel
theorem dX11_pot_18 : decode cX11_pot 18 = .ok (.iload_n 2, 1) := by decide +kernel
theorem dX11_pot_19 : decode cX11_pot 19 = .ok (.tableswitch 86 0 5 #[37, 44, 51, 58, 65, 79], 37) := by decide +kernel
theorem dX11_pot_56 : decode cX11_pot 56 = .ok (.aload_n 0, 1) := by decide +kernel
theorem dX11_pot_57 : decode cX11_pot 57 = .ok (.getfield 25, 3) := by decide +kernel
theorem dX11_pot_60 : decode cX11_pot 60 = .ok (.iload_n 1, 1) := by decide +kernel
theorem dX11_pot_61 : decode cX11_pot 61 = .ok (.iaload, 1) := by decide +kernel
theorem dX11_pot_62 : decode cX11_pot 62 = .ok (.ireturn, 1) := by decide +kernel
theorem dX11_pot_63 : decode cX11_pot 63 = .ok (.aload_n 0, 1) := by decide +kernel
theorem dX11_pot_64 : decode cX11_pot 64 = .ok (.getfield 28, 3) := by decide +kernel
theorem dX11_pot_67 : decode cX11_pot 67 = .ok (.iload_n 1, 1) := by decide +kernel
theorem dX11_pot_68 : decode cX11_pot 68 = .ok (.iaload, 1) := by decide +kernel
theorem dX11_pot_69 : decode cX11_pot 69 = .ok (.ireturn, 1) := by decide +kernel
theorem dX11_pot_70 : decode cX11_pot 70 = .ok (.aload_n 0, 1) := by decide +kernel
theorem dX11_pot_71 : decode cX11_pot 71 = .ok (.getfield 31, 3) := by decide +kernel
theorem dX11_pot_74 : decode cX11_pot 74 = .ok (.iload_n 1, 1) := by decide +kernel
theorem dX11_pot_75 : decode cX11_pot 75 = .ok (.iaload, 1) := by decide +kernel
theorem dX11_pot_76 : decode cX11_pot 76 = .ok (.ireturn, 1) := by decide +kernel
theorem dX11_pot_77 : decode cX11_pot 77 = .ok (.aload_n 0, 1) := by decide +kernel
theorem dX11_pot_78 : decode cX11_pot 78 = .ok (.getfield 34, 3) := by decide +kernel
theorem dX11_pot_81 : decode cX11_pot 81 = .ok (.iload_n 1, 1) := by decide +kernel
theorem dX11_pot_82 : decode cX11_pot 82 = .ok (.iaload, 1) := by decide +kernel
theorem dX11_pot_83 : decode cX11_pot 83 = .ok (.ireturn, 1) := by decide +kernel
theorem dX11_pot_84 : decode cX11_pot 84 = .ok (.aload_n 0, 1) := by decide +kernel
theorem dX11_pot_85 : decode cX11_pot 85 = .ok (.iload_n 1, 1) := by decide +kernel
theorem dX11_pot_86 : decode cX11_pot 86 = .ok (.invokevirtual 217, 3) := by decide +kernel
theorem dX11_pot_89 : decode cX11_pot 89 = .ok (.ifCond .eq 7, 3) := by decide +kernel
theorem dX11_pot_92 : decode cX11_pot 92 = .ok (.iconst 1, 1) := by decide +kernel
theorem dX11_pot_93 : decode cX11_pot 93 = .ok (.goto 4, 3) := by decide +kernel
theorem dX11_pot_96 : decode cX11_pot 96 = .ok (.iconst 0, 1) := by decide +kernel
theorem dX11_pot_97 : decode cX11_pot 97 = .ok (.ireturn, 1) := by decide +kernel
theorem dX11_pot_98 : decode cX11_pot 98 = .ok (.aload_n 0, 1) := by decide +kernel
theorem dX11_pot_99 : decode cX11_pot 99 = .ok (.getfield 37, 3) := by decide +kernel
theorem dX11_pot_102 : decode cX11_pot 102 = .ok (.iload_n 1, 1) := by decide +kernel
theorem dX11_pot_103 : decode cX11_pot 103 = .ok (.iaload, 1) := by decide +kernel
theorem dX11_pot_104 : decode cX11_pot 104 = .ok (.ireturn, 1) := by decide +kernel
theorem dX11_pot_105 : decode cX11_pot 105 = .ok (.iconst (-1), 1) := by decide +kernel
theorem dX11_pot_106 : decode cX11_pot 106 = .ok (.ireturn, 1) := by decide +kernel
theorem dX11_kind_0 : decode cX11_kind 0 = .ok (.iload_n 1, 1) := by decide +kernel
theorem dX11_kind_1 : decode cX11_kind 1 = .ok (.iconst 0, 1) := by decide +kernel
theorem dX11_kind_2 : decode cX11_kind 2 = .ok (.iconst 4, 1) := by decide +kernel
theorem dX11_kind_3 : decode cX11_kind 3 = .ok (.invokestatic 140, 3) := by decide +kernel
theorem dX11_kind_6 : decode cX11_kind 6 = .ok (.ifCond .eq 73, 3) := by decide +kernel
theorem dX11_kind_9 : decode cX11_kind 9 = .ok (.iload_n 2, 1) := by decide +kernel
theorem dX11_kind_10 : decode cX11_kind 10 = .ok (.iconst 1, 1) := by decide +kernel
theorem dX11_kind_11 : decode cX11_kind 11 = .ok (.bipush 50, 2) := by decide +kernel
theorem dX11_kind_13 : decode cX11_kind 13 = .ok (.invokestatic 140, 3) := by decide +kernel
theorem dX11_kind_16 : decode cX11_kind 16 = .ok (.ifCond .eq 63, 3) := by decide +kernel
theorem dX11_kind_19 : decode cX11_kind 19 = .ok (.iload_n 3, 1) := by decide +kernel
theorem dX11_kind_20 : decode cX11_kind 20 = .ok (.iconst 1, 1) := by decide +kernel
theorem dX11_kind_21 : decode cX11_kind 21 = .ok (.bipush 60, 2) := by decide +kernel
theorem dX11_kind_23 : decode cX11_kind 23 = .ok (.invokestatic 140, 3) := by decide +kernel
theorem dX11_kind_26 : decode cX11_kind 26 = .ok (.ifCond .eq 53, 3) := by decide +kernel
theorem dX11_kind_29 : decode cX11_kind 29 = .ok (.iload 4, 2) := by decide +kernel
theorem dX11_kind_31 : decode cX11_kind 31 = .ok (.iconst 1, 1) := by decide +kernel
theorem dX11_kind_32 : decode cX11_kind 32 = .ok (.sipush 10000, 3) := by decide +kernel
theorem dX11_kind_35 : decode cX11_kind 35 = .ok (.invokestatic 140, 3) := by decide +kernel
theorem dX11_kind_38 : decode cX11_kind 38 = .ok (.ifCond .eq 41, 3) := by decide +kernel
theorem dX11_kind_41 : decode cX11_kind 41 = .ok (.iload 5, 2) := by decide +kernel
theorem dX11_kind_43 : decode cX11_kind 43 = .ok (.iconst (-1), 1) := by decide +kernel
theorem dX11_kind_44 : decode cX11_kind 44 = .ok (.bipush 7, 2) := by decide +kernel
theorem dX11_kind_46 : decode cX11_kind 46 = .ok (.invokestatic 140, 3) := by decide +kernel
theorem dX11_kind_49 : decode cX11_kind 49 = .ok (.ifCond .eq 30, 3) := by decide +kernel
theorem dX11_kind_52 : decode cX11_kind 52 = .ok (.iload 6, 2) := by decide +kernel
theorem dX11_kind_54 : decode cX11_kind 54 = .ok (.ifCond .eq 14, 3) := by decide +kernel
theorem dX11_kind_57 : decode cX11_kind 57 = .ok (.iload 6, 2) := by decide +kernel
theorem dX11_kind_59 : decode cX11_kind 59 = .ok (.iconst 2, 1) := by decide +kernel
theorem dX11_kind_60 : decode cX11_kind 60 = .ok (.bipush 50, 2) := by decide +kernel
theorem dX11_kind_62 : decode cX11_kind 62 = .ok (.invokestatic 140, 3) := by decide +kernel
theorem dX11_kind_65 : decode cX11_kind 65 = .ok (.ifCond .eq 14, 3) := by decide +kernel
theorem dX11_kind_68 : decode cX11_kind 68 = .ok (.iload 7, 2) := by decide +kernel
theorem dX11_kind_70 : decode cX11_kind 70 = .ok (.iconst 1, 1) := by decide +kernel
theorem dX11_kind_71 : decode cX11_kind 71 = .ok (.bipush 40, 2) := by decide +kernel
theorem dX11_kind_73 : decode cX11_kind 73 = .ok (.invokestatic 140, 3) := by decide +kernel
theorem dX11_kind_76 : decode cX11_kind 76 = .ok (.ifCond .ne 5, 3) := by decide +kernel
theorem dX11_kind_79 : decode cX11_kind 79 = .ok (.iconst 0, 1) := by decide +kernel
theorem dX11_kind_80 : decode cX11_kind 80 = .ok (.ireturn, 1) := by decide +kernel
theorem dX11_kind_81 : decode cX11_kind 81 = .ok (.aload_n 0, 1) := by decide +kernel
theorem dX11_kind_82 : decode cX11_kind 82 = .ok (.getfield 40, 3) := by decide +kernel
theorem dX11_kind_85 : decode cX11_kind 85 = .ok (.iload_n 1, 1) := by decide +kernel
theorem dX11_kind_86 : decode cX11_kind 86 = .ok (.iconst 1, 1) := by decide +kernel
theorem dX11_kind_87 : decode cX11_kind 87 = .ok (.bastore, 1) := by decide +kernel
theorem dX11_kind_88 : decode cX11_kind 88 = .ok (.aload_n 0, 1) := by decide +kernel
theorem dX11_kind_89 : decode cX11_kind 89 = .ok (.getfield 44, 3) := by decide +kernel
theorem dX11_kind_92 : decode cX11_kind 92 = .ok (.iload_n 1, 1) := by decide +kernel
theorem dX11_kind_93 : decode cX11_kind 93 = .ok (.iload_n 2, 1) := by decide +kernel
theorem dX11_kind_94 : decode cX11_kind 94 = .ok (.iastore, 1) := by decide +kernel
theorem dX11_kind_95 : decode cX11_kind 95 = .ok (.aload_n 0, 1) := by decide +kernel
theorem dX11_kind_96 : decode cX11_kind 96 = .ok (.getfield 47, 3) := by decide +kernel
theorem dX11_kind_99 : decode cX11_kind 99 = .ok (.iload_n 1, 1) := by decide +kernel
theorem dX11_kind_100 : decode cX11_kind 100 = .ok (.iload_n 3, 1) := by decide +kernel
theorem dX11_kind_101 : decode cX11_kind 101 = .ok (.iastore, 1) := by decide +kernel
theorem dX11_kind_102 : decode cX11_kind 102 = .ok (.aload_n 0, 1) := by decide +kernel
theorem dX11_kind_103 : decode cX11_kind 103 = .ok (.getfield 50, 3) := by decide +kernel
theorem dX11_kind_106 : decode cX11_kind 106 = .ok (.iload_n 1, 1) := by decide +kernel
theorem dX11_kind_107 : decode cX11_kind 107 = .ok (.iload 4, 2) := by decide +kernel
theorem dX11_kind_109 : decode cX11_kind 109 = .ok (.iastore, 1) := by decide +kernel
theorem dX11_kind_110 : decode cX11_kind 110 = .ok (.aload_n 0, 1) := by decide +kernel
theorem dX11_kind_111 : decode cX11_kind 111 = .ok (.getfield 53, 3) := by decide +kernel
theorem dX11_kind_114 : decode cX11_kind 114 = .ok (.iload_n 1, 1) := by decide +kernel
theorem dX11_kind_115 : decode cX11_kind 115 = .ok (.iload 5, 2) := by decide +kernel
theorem dX11_kind_117 : decode cX11_kind 117 = .ok (.iastore, 1) := by decide +kernel
theorem dX11_kind_118 : decode cX11_kind 118 = .ok (.aload_n 0, 1) := by decide +kernel
theorem dX11_kind_119 : decode cX11_kind 119 = .ok (.getfield 56, 3) := by decide +kernel
theorem dX11_kind_122 : decode cX11_kind 122 = .ok (.iload_n 1, 1) := by decide +kernel
theorem dX11_kind_123 : decode cX11_kind 123 = .ok (.iload 6, 2) := by decide +kernel
theorem dX11_kind_125 : decode cX11_kind 125 = .ok (.iastore, 1) := by decide +kernel
theorem dX11_kind_126 : decode cX11_kind 126 = .ok (.aload_n 0, 1) := by decide +kernel
theorem dX11_kind_127 : decode cX11_kind 127 = .ok (.getfield 59, 3) := by decide +kernel
theorem dX11_kind_130 : decode cX11_kind 130 = .ok (.iload_n 1, 1) := by decide +kernel
theorem dX11_kind_131 : decode cX11_kind 131 = .ok (.iload 7, 2) := by decide +kernel
theorem dX11_kind_133 : decode cX11_kind 133 = .ok (.iastore, 1) := by decide +kernel
theorem dX11_kind_134 : decode cX11_kind 134 = .ok (.iconst 1, 1) := by decide +kernel
theorem dX11_kind_135 : decode cX11_kind 135 = .ok (.ireturn, 1) := by decide +kernel
theorem dX11_firstBay_0 : decode cX11_firstBay 0 = .ok (.iconst 0, 1) := by decide +kernel
theorem dX11_firstBay_1 : decode cX11_firstBay 1 = .ok (.istore_n 1, 1) := by decide +kernel
theorem dX11_firstBay_2 : decode cX11_firstBay 2 = .ok (.iload_n 1, 1) := by decide +kernel
theorem dX11_firstBay_3 : decode cX11_firstBay 3 = .ok (.iconst 3, 1) := by decide +kernel
theorem dX11_firstBay_4 : decode cX11_firstBay 4 = .ok (.if_icmp .ge 22, 3) := by decide +kernel
theorem dX11_firstBay_7 : decode cX11_firstBay 7 = .ok (.aload_n 0, 1) := by decide +kernel
theorem dX11_firstBay_8 : decode cX11_firstBay 8 = .ok (.getfield 95, 3) := by decide +kernel
theorem dX11_firstBay_11 : decode cX11_firstBay 11 = .ok (.iload_n 1, 1) := by decide +kernel
theorem dX11_firstBay_12 : decode cX11_firstBay 12 = .ok (.iaload, 1) := by decide +kernel
theorem dX11_firstBay_13 : decode cX11_firstBay 13 = .ok (.bipush 20, 2) := by decide +kernel
theorem dX11_firstBay_15 : decode cX11_firstBay 15 = .ok (.if_icmp .ge 5, 3) := by decide +kernel
theorem dX11_firstBay_18 : decode cX11_firstBay 18 = .ok (.iload_n 1, 1) := by decide +kernel
theorem dX11_firstBay_19 : decode cX11_firstBay 19 = .ok (.ireturn, 1) := by decide +kernel
theorem dX11_firstBay_20 : decode cX11_firstBay 20 = .ok (.iinc 1 1, 3) := by decide +kernel
theorem dX11_firstBay_23 : decode cX11_firstBay 23 = .ok (.goto (-21), 3) := by decide +kernel
theorem dX11_firstBay_26 : decode cX11_firstBay 26 = .ok (.iconst (-1), 1) := by decide +kernel
theorem dX11_firstBay_27 : decode cX11_firstBay 27 = .ok (.ireturn, 1) := by decide +kernel
theorem dX11_blow_0 : decode cX11_blow 0 = .ok (.iload_n 1, 1) := by decide +kernel
theorem dX11_blow_1 : decode cX11_blow 1 = .ok (.iconst 0, 1) := by decide +kernel
theorem dX11_blow_2 : decode cX11_blow 2 = .ok (.iconst 3, 1) := by decide +kernel
theorem dX11_blow_3 : decode cX11_blow 3 = .ok (.invokestatic 140, 3) := by decide +kernel
theorem dX11_blow_6 : decode cX11_blow 6 = .ok (.ifCond .eq 38, 3) := by decide +kernel
theorem dX11_blow_9 : decode cX11_blow 9 = .ok (.iload_n 3, 1) := by decide +kernel
theorem dX11_blow_10 : decode cX11_blow 10 = .ok (.invokestatic 207, 3) := by decide +kernel
theorem dX11_blow_13 : decode cX11_blow 13 = .ok (.ifCond .eq 31, 3) := by decide +kernel
theorem dX11_blow_16 : decode cX11_blow 16 = .ok (.iload_n 2, 1) := by decide +kernel
theorem dX11_blow_17 : decode cX11_blow 17 = .ok (.iconst 0, 1) := by decide +kernel
theorem dX11_blow_18 : decode cX11_blow 18 = .ok (.iconst 4, 1) := by decide +kernel
theorem dX11_blow_19 : decode cX11_blow 19 = .ok (.invokestatic 140, 3) := by decide +kernel
theorem dX11_blow_22 : decode cX11_blow 22 = .ok (.ifCond .eq 22, 3) := by decide +kernel
theorem dX11_blow_25 : decode cX11_blow 25 = .ok (.aload_n 0, 1) := by decide +kernel
theorem dX11_blow_26 : decode cX11_blow 26 = .ok (.getfield 40, 3) := by decide +kernel
theorem dX11_blow_29 : decode cX11_blow 29 = .ok (.iload_n 2, 1) := by decide +kernel
theorem dX11_blow_30 : decode cX11_blow 30 = .ok (.baload, 1) := by decide +kernel
theorem dX11_blow_31 : decode cX11_blow 31 = .ok (.ifCond .eq 13, 3) := by decide +kernel
theorem dX11_blow_34 : decode cX11_blow 34 = .ok (.aload_n 0, 1) := by decide +kernel
theorem dX11_blow_35 : decode cX11_blow 35 = .ok (.getfield 144, 3) := by decide +kernel
theorem dX11_blow_38 : decode cX11_blow 38 = .ok (.sipush 5000, 3) := by decide +kernel
theorem dX11_blow_41 : decode cX11_blow 41 = .ok (.if_icmp .ne 5, 3) := by decide +kernel
theorem dX11_blow_44 : decode cX11_blow 44 = .ok (.iconst 1, 1) := by decide +kernel
theorem dX11_blow_45 : decode cX11_blow 45 = .ok (.ireturn, 1) := by decide +kernel
theorem dX11_blow_46 : decode cX11_blow 46 = .ok (.aload_n 0, 1) := by decide +kernel
theorem dX11_blow_47 : decode cX11_blow 47 = .ok (.getfield 25, 3) := by decide +kernel
theorem dX11_blow_50 : decode cX11_blow 50 = .ok (.iload_n 3, 1) := by decide +kernel
theorem dX11_blow_51 : decode cX11_blow 51 = .ok (.iaload, 1) := by decide +kernel
theorem dX11_blow_52 : decode cX11_blow 52 = .ok (.ifCond .lt 11, 3) := by decide +kernel
theorem dX11_blow_55 : decode cX11_blow 55 = .ok (.aload_n 0, 1) := by decide +kernel
theorem dX11_blow_56 : decode cX11_blow 56 = .ok (.iload_n 3, 1) := by decide +kernel
theorem dX11_blow_57 : decode cX11_blow 57 = .ok (.invokevirtual 217, 3) := by decide +kernel
theorem dX11_blow_60 : decode cX11_blow 60 = .ok (.ifCond .ne 5, 3) := by decide +kernel
theorem dX11_blow_63 : decode cX11_blow 63 = .ok (.iconst 2, 1) := by decide +kernel
theorem dX11_blow_64 : decode cX11_blow 64 = .ok (.ireturn, 1) := by decide +kernel
theorem dX11_blow_65 : decode cX11_blow 65 = .ok (.aload_n 0, 1) := by decide +kernel
theorem dX11_blow_66 : decode cX11_blow 66 = .ok (.getfield 160, 3) := by decide +kernel
theorem dX11_blow_69 : decode cX11_blow 69 = .ok (.sipush 900, 3) := by decide +kernel
theorem dX11_blow_72 : decode cX11_blow 72 = .ok (.if_icmp .ge 5, 3) := by decide +kernel
theorem dX11_blow_75 : decode cX11_blow 75 = .ok (.iconst 3, 1) := by decide +kernel
theorem dX11_blow_76 : decode cX11_blow 76 = .ok (.ireturn, 1) := by decide +kernel
theorem dX11_blow_77 : decode cX11_blow 77 = .ok (.aload_n 0, 1) := by decide +kernel
theorem dX11_blow_78 : decode cX11_blow 78 = .ok (.getfield 53, 3) := by decide +kernel
theorem dX11_blow_81 : decode cX11_blow 81 = .ok (.iload_n 2, 1) := by decide +kernel
theorem dX11_blow_82 : decode cX11_blow 82 = .ok (.iaload, 1) := by decide +kernel
theorem dX11_blow_83 : decode cX11_blow 83 = .ok (.iconst (-1), 1) := by decide +kernel
theorem dX11_blow_84 : decode cX11_blow 84 = .ok (.if_icmp .eq 20, 3) := by decide +kernel
theorem dX11_blow_87 : decode cX11_blow 87 = .ok (.aload_n 0, 1) := by decide +kernel
theorem dX11_blow_88 : decode cX11_blow 88 = .ok (.getfield 53, 3) := by decide +kernel
theorem dX11_blow_91 : decode cX11_blow 91 = .ok (.iload_n 2, 1) := by decide +kernel
theorem dX11_blow_92 : decode cX11_blow 92 = .ok (.iaload, 1) := by decide +kernel
theorem dX11_blow_93 : decode cX11_blow 93 = .ok (.aload_n 0, 1) := by decide +kernel
theorem dX11_blow_94 : decode cX11_blow 94 = .ok (.getfield 37, 3) := by decide +kernel
theorem dX11_blow_97 : decode cX11_blow 97 = .ok (.iload_n 3, 1) := by decide +kernel
theorem dX11_blow_98 : decode cX11_blow 98 = .ok (.iaload, 1) := by decide +kernel
theorem dX11_blow_99 : decode cX11_blow 99 = .ok (.if_icmp .eq 5, 3) := by decide +kernel
theorem dX11_blow_102 : decode cX11_blow 102 = .ok (.iconst 4, 1) := by decide +kernel
theorem dX11_blow_103 : decode cX11_blow 103 = .ok (.ireturn, 1) := by decide +kernel
theorem dX11_blow_104 : decode cX11_blow 104 = .ok (.aload_n 0, 1) := by decide +kernel
theorem dX11_blow_105 : decode cX11_blow 105 = .ok (.getfield 28, 3) := by decide +kernel
theorem dX11_blow_108 : decode cX11_blow 108 = .ok (.iload_n 3, 1) := by decide +kernel
theorem dX11_blow_109 : decode cX11_blow 109 = .ok (.iaload, 1) := by decide +kernel
theorem dX11_blow_110 : decode cX11_blow 110 = .ok (.aload_n 0, 1) := by decide +kernel
theorem dX11_blow_111 : decode cX11_blow 111 = .ok (.getfield 44, 3) := by decide +kernel
theorem dX11_blow_114 : decode cX11_blow 114 = .ok (.iload_n 2, 1) := by decide +kernel
theorem dX11_blow_115 : decode cX11_blow 115 = .ok (.iaload, 1) := by decide +kernel
theorem dX11_blow_116 : decode cX11_blow 116 = .ok (.if_icmp .ge 5, 3) := by decide +kernel
theorem dX11_blow_119 : decode cX11_blow 119 = .ok (.iconst 5, 1) := by decide +kernel
theorem dX11_blow_120 : decode cX11_blow 120 = .ok (.ireturn, 1) := by decide +kernel
theorem dX11_blow_121 : decode cX11_blow 121 = .ok (.aload_n 0, 1) := by decide +kernel
theorem dX11_blow_122 : decode cX11_blow 122 = .ok (.getfield 65, 3) := by decide +kernel
theorem dX11_blow_125 : decode cX11_blow 125 = .ok (.iload_n 1, 1) := by decide +kernel
theorem dX11_blow_126 : decode cX11_blow 126 = .ok (.iaload, 1) := by decide +kernel
theorem dX11_blow_127 : decode cX11_blow 127 = .ok (.aload_n 0, 1) := by decide +kernel
theorem dX11_blow_128 : decode cX11_blow 128 = .ok (.getfield 47, 3) := by decide +kernel
theorem dX11_blow_131 : decode cX11_blow 131 = .ok (.iload_n 2, 1) := by decide +kernel
theorem dX11_blow_132 : decode cX11_blow 132 = .ok (.iaload, 1) := by decide +kernel
theorem dX11_blow_133 : decode cX11_blow 133 = .ok (.if_icmp .ge 6, 3) := by decide +kernel
theorem dX11_blow_136 : decode cX11_blow 136 = .ok (.bipush 6, 2) := by decide +kernel
theorem dX11_blow_138 : decode cX11_blow 138 = .ok (.ireturn, 1) := by decide +kernel
theorem dX11_blow_139 : decode cX11_blow 139 = .ok (.aload_n 0, 1) := by decide +kernel
theorem dX11_blow_140 : decode cX11_blow 140 = .ok (.invokevirtual 220, 3) := by decide +kernel
theorem dX11_blow_143 : decode cX11_blow 143 = .ok (.istore 4, 2) := by decide +kernel
theorem dX11_blow_145 : decode cX11_blow 145 = .ok (.iload 4, 2) := by decide +kernel
theorem dX11_blow_147 : decode cX11_blow 147 = .ok (.ifCond .lt 13, 3) := by decide +kernel
theorem dX11_blow_150 : decode cX11_blow 150 = .ok (.aload_n 0, 1) := by decide +kernel
theorem dX11_blow_151 : decode cX11_blow 151 = .ok (.getfield 223, 3) := by decide +kernel
theorem dX11_blow_154 : decode cX11_blow 154 = .ok (.sipush 1000, 3) := by decide +kernel
theorem dX11_blow_157 : decode cX11_blow 157 = .ok (.if_icmp .ne 6, 3) := by decide +kernel
theorem dX11_blow_160 : decode cX11_blow 160 = .ok (.bipush 7, 2) := by decide +kernel
theorem dX11_blow_162 : decode cX11_blow 162 = .ok (.ireturn, 1) := by decide +kernel
theorem dX11_blow_163 : decode cX11_blow 163 = .ok (.aload_n 0, 1) := by decide +kernel
theorem dX11_blow_164 : decode cX11_blow 164 = .ok (.getfield 28, 3) := by decide +kernel
theorem dX11_blow_167 : decode cX11_blow 167 = .ok (.iload_n 3, 1) := by decide +kernel
theorem dX11_blow_168 : decode cX11_blow 168 = .ok (.dup2, 1) := by decide +kernel
theorem dX11_blow_169 : decode cX11_blow 169 = .ok (.iaload, 1) := by decide +kernel
theorem dX11_blow_170 : decode cX11_blow 170 = .ok (.aload_n 0, 1) := by decide +kernel
theorem dX11_blow_171 : decode cX11_blow 171 = .ok (.getfield 44, 3) := by decide +kernel
theorem dX11_blow_174 : decode cX11_blow 174 = .ok (.iload_n 2, 1) := by decide +kernel
theorem dX11_blow_175 : decode cX11_blow 175 = .ok (.iaload, 1) := by decide +kernel
theorem dX11_blow_176 : decode cX11_blow 176 = .ok (.isub, 1) := by decide +kernel
theorem dX11_blow_177 : decode cX11_blow 177 = .ok (.iastore, 1) := by decide +kernel
theorem dX11_blow_178 : decode cX11_blow 178 = .ok (.aload_n 0, 1) := by decide +kernel
theorem dX11_blow_179 : decode cX11_blow 179 = .ok (.getfield 65, 3) := by decide +kernel
theorem dX11_blow_182 : decode cX11_blow 182 = .ok (.iload_n 1, 1) := by decide +kernel
theorem dX11_blow_183 : decode cX11_blow 183 = .ok (.dup2, 1) := by decide +kernel
theorem dX11_blow_184 : decode cX11_blow 184 = .ok (.iaload, 1) := by decide +kernel
theorem dX11_blow_185 : decode cX11_blow 185 = .ok (.aload_n 0, 1) := by decide +kernel
theorem dX11_blow_186 : decode cX11_blow 186 = .ok (.getfield 47, 3) := by decide +kernel
theorem dX11_blow_189 : decode cX11_blow 189 = .ok (.iload_n 2, 1) := by decide +kernel
theorem dX11_blow_190 : decode cX11_blow 190 = .ok (.iaload, 1) := by decide +kernel
theorem dX11_blow_191 : decode cX11_blow 191 = .ok (.isub, 1) := by decide +kernel
theorem dX11_blow_192 : decode cX11_blow 192 = .ok (.iastore, 1) := by decide +kernel
theorem dX11_blow_193 : decode cX11_blow 193 = .ok (.aload_n 0, 1) := by decide +kernel
theorem dX11_blow_194 : decode cX11_blow 194 = .ok (.getfield 62, 3) := by decide +kernel
theorem dX11_blow_197 : decode cX11_blow 197 = .ok (.iload_n 2, 1) := by decide +kernel
theorem dX11_blow_198 : decode cX11_blow 198 = .ok (.dup2, 1) := by decide +kernel
theorem dX11_blow_199 : decode cX11_blow 199 = .ok (.iaload, 1) := by decide +kernel
theorem dX11_blow_200 : decode cX11_blow 200 = .ok (.iconst 1, 1) := by decide +kernel
theorem dX11_blow_201 : decode cX11_blow 201 = .ok (.iadd, 1) := by decide +kernel
theorem dX11_blow_202 : decode cX11_blow 202 = .ok (.iastore, 1) := by decide +kernel
theorem dX11_blow_203 : decode cX11_blow 203 = .ok (.aload_n 0, 1) := by decide +kernel
theorem dX11_blow_204 : decode cX11_blow 204 = .ok (.getfield 68, 3) := by decide +kernel
theorem dX11_blow_207 : decode cX11_blow 207 = .ok (.aload_n 0, 1) := by decide +kernel
theorem dX11_blow_208 : decode cX11_blow 208 = .ok (.getfield 223, 3) := by decide +kernel
theorem dX11_blow_211 : decode cX11_blow 211 = .ok (.iload_n 2, 1) := by decide +kernel
theorem dX11_blow_212 : decode cX11_blow 212 = .ok (.iastore, 1) := by decide +kernel
theorem dX11_blow_213 : decode cX11_blow 213 = .ok (.aload_n 0, 1) := by decide +kernel
theorem dX11_blow_214 : decode cX11_blow 214 = .ok (.getfield 71, 3) := by decide +kernel
theorem dX11_blow_217 : decode cX11_blow 217 = .ok (.aload_n 0, 1) := by decide +kernel
theorem dX11_blow_218 : decode cX11_blow 218 = .ok (.getfield 223, 3) := by decide +kernel
theorem dX11_blow_221 : decode cX11_blow 221 = .ok (.iload_n 1, 1) := by decide +kernel
theorem dX11_blow_222 : decode cX11_blow 222 = .ok (.iastore, 1) := by decide +kernel
theorem dX11_blow_223 : decode cX11_blow 223 = .ok (.aload_n 0, 1) := by decide +kernel
theorem dX11_blow_224 : decode cX11_blow 224 = .ok (.getfield 74, 3) := by decide +kernel
theorem dX11_blow_227 : decode cX11_blow 227 = .ok (.aload_n 0, 1) := by decide +kernel
theorem dX11_blow_228 : decode cX11_blow 228 = .ok (.getfield 223, 3) := by decide +kernel
theorem dX11_blow_231 : decode cX11_blow 231 = .ok (.aload_n 0, 1) := by decide +kernel
theorem dX11_blow_232 : decode cX11_blow 232 = .ok (.getfield 25, 3) := by decide +kernel
theorem dX11_blow_235 : decode cX11_blow 235 = .ok (.iload_n 3, 1) := by decide +kernel
theorem dX11_blow_236 : decode cX11_blow 236 = .ok (.iaload, 1) := by decide +kernel
theorem dX11_blow_237 : decode cX11_blow 237 = .ok (.iastore, 1) := by decide +kernel
theorem dX11_blow_238 : decode cX11_blow 238 = .ok (.aload_n 0, 1) := by decide +kernel
theorem dX11_blow_239 : decode cX11_blow 239 = .ok (.getfield 77, 3) := by decide +kernel
theorem dX11_blow_242 : decode cX11_blow 242 = .ok (.aload_n 0, 1) := by decide +kernel
theorem dX11_blow_243 : decode cX11_blow 243 = .ok (.getfield 223, 3) := by decide +kernel
theorem dX11_blow_246 : decode cX11_blow 246 = .ok (.aload_n 0, 1) := by decide +kernel
theorem dX11_blow_247 : decode cX11_blow 247 = .ok (.getfield 144, 3) := by decide +kernel
theorem dX11_blow_250 : decode cX11_blow 250 = .ok (.iastore, 1) := by decide +kernel
theorem dX11_blow_251 : decode cX11_blow 251 = .ok (.aload_n 0, 1) := by decide +kernel
theorem dX11_blow_252 : decode cX11_blow 252 = .ok (.getfield 92, 3) := by decide +kernel
theorem dX11_blow_255 : decode cX11_blow 255 = .ok (.aload_n 0, 1) := by decide +kernel
theorem dX11_blow_256 : decode cX11_blow 256 = .ok (.getfield 223, 3) := by decide +kernel
theorem dX11_blow_259 : decode cX11_blow 259 = .ok (.aload_n 0, 1) := by decide +kernel
theorem dX11_blow_260 : decode cX11_blow 260 = .ok (.getfield 44, 3) := by decide +kernel
theorem dX11_blow_263 : decode cX11_blow 263 = .ok (.iload_n 2, 1) := by decide +kernel
theorem dX11_blow_264 : decode cX11_blow 264 = .ok (.iaload, 1) := by decide +kernel
theorem dX11_blow_265 : decode cX11_blow 265 = .ok (.iastore, 1) := by decide +kernel
theorem dX11_blow_266 : decode cX11_blow 266 = .ok (.aload_n 0, 1) := by decide +kernel
theorem dX11_blow_267 : decode cX11_blow 267 = .ok (.getfield 89, 3) := by decide +kernel
theorem dX11_blow_270 : decode cX11_blow 270 = .ok (.aload_n 0, 1) := by decide +kernel
theorem dX11_blow_271 : decode cX11_blow 271 = .ok (.getfield 223, 3) := by decide +kernel
theorem dX11_blow_274 : decode cX11_blow 274 = .ok (.aload_n 0, 1) := by decide +kernel
theorem dX11_blow_275 : decode cX11_blow 275 = .ok (.getfield 59, 3) := by decide +kernel
theorem dX11_blow_278 : decode cX11_blow 278 = .ok (.iload_n 2, 1) := by decide +kernel
theorem dX11_blow_279 : decode cX11_blow 279 = .ok (.iaload, 1) := by decide +kernel
theorem dX11_blow_280 : decode cX11_blow 280 = .ok (.iastore, 1) := by decide +kernel
theorem dX11_blow_281 : decode cX11_blow 281 = .ok (.aload_n 0, 1) := by decide +kernel
theorem dX11_blow_282 : decode cX11_blow 282 = .ok (.getfield 86, 3) := by decide +kernel
theorem dX11_blow_285 : decode cX11_blow 285 = .ok (.aload_n 0, 1) := by decide +kernel
theorem dX11_blow_286 : decode cX11_blow 286 = .ok (.getfield 223, 3) := by decide +kernel
theorem dX11_blow_289 : decode cX11_blow 289 = .ok (.iconst 0, 1) := by decide +kernel
theorem dX11_blow_290 : decode cX11_blow 290 = .ok (.iastore, 1) := by decide +kernel
theorem dX11_blow_291 : decode cX11_blow 291 = .ok (.aload_n 0, 1) := by decide +kernel
theorem dX11_blow_292 : decode cX11_blow 292 = .ok (.getfield 56, 3) := by decide +kernel
theorem dX11_blow_295 : decode cX11_blow 295 = .ok (.iload_n 2, 1) := by decide +kernel
theorem dX11_blow_296 : decode cX11_blow 296 = .ok (.iaload, 1) := by decide +kernel
theorem dX11_blow_297 : decode cX11_blow 297 = .ok (.ifCond .le 23, 3) := by decide +kernel
theorem dX11_blow_300 : decode cX11_blow 300 = .ok (.aload_n 0, 1) := by decide +kernel
theorem dX11_blow_301 : decode cX11_blow 301 = .ok (.getfield 62, 3) := by decide +kernel
theorem dX11_blow_304 : decode cX11_blow 304 = .ok (.iload_n 2, 1) := by decide +kernel
theorem dX11_blow_305 : decode cX11_blow 305 = .ok (.iaload, 1) := by decide +kernel
theorem dX11_blow_306 : decode cX11_blow 306 = .ok (.aload_n 0, 1) := by decide +kernel
theorem dX11_blow_307 : decode cX11_blow 307 = .ok (.getfield 56, 3) := by decide +kernel
theorem dX11_blow_310 : decode cX11_blow 310 = .ok (.iload_n 2, 1) := by decide +kernel
theorem dX11_blow_311 : decode cX11_blow 311 = .ok (.iaload, 1) := by decide +kernel
theorem dX11_blow_312 : decode cX11_blow 312 = .ok (.irem, 1) := by decide +kernel
theorem dX11_blow_313 : decode cX11_blow 313 = .ok (.ifCond .ne 7, 3) := by decide +kernel
theorem dX11_blow_316 : decode cX11_blow 316 = .ok (.iconst 1, 1) := by decide +kernel
theorem dX11_blow_317 : decode cX11_blow 317 = .ok (.goto 4, 3) := by decide +kernel
theorem dX11_blow_320 : decode cX11_blow 320 = .ok (.iconst 0, 1) := by decide +kernel
theorem dX11_blow_321 : decode cX11_blow 321 = .ok (.istore 5, 2) := by decide +kernel
theorem dX11_blow_323 : decode cX11_blow 323 = .ok (.aload_n 0, 1) := by decide +kernel
theorem dX11_blow_324 : decode cX11_blow 324 = .ok (.getfield 80, 3) := by decide +kernel
theorem dX11_blow_327 : decode cX11_blow 327 = .ok (.aload_n 0, 1) := by decide +kernel
theorem dX11_blow_328 : decode cX11_blow 328 = .ok (.getfield 223, 3) := by decide +kernel
theorem dX11_blow_331 : decode cX11_blow 331 = .ok (.iload 5, 2) := by decide +kernel
theorem dX11_blow_333 : decode cX11_blow 333 = .ok (.ifCond .eq 7, 3) := by decide +kernel
theorem dX11_blow_336 : decode cX11_blow 336 = .ok (.iconst 2, 1) := by decide +kernel
theorem dX11_blow_337 : decode cX11_blow 337 = .ok (.goto 4, 3) := by decide +kernel
theorem dX11_blow_340 : decode cX11_blow 340 = .ok (.iconst 0, 1) := by decide +kernel
theorem dX11_blow_341 : decode cX11_blow 341 = .ok (.iastore, 1) := by decide +kernel
theorem dX11_blow_342 : decode cX11_blow 342 = .ok (.aload_n 0, 1) := by decide +kernel
theorem dX11_blow_343 : decode cX11_blow 343 = .ok (.getfield 83, 3) := by decide +kernel
theorem dX11_blow_346 : decode cX11_blow 346 = .ok (.aload_n 0, 1) := by decide +kernel
theorem dX11_blow_347 : decode cX11_blow 347 = .ok (.getfield 223, 3) := by decide +kernel
theorem dX11_blow_350 : decode cX11_blow 350 = .ok (.iload 5, 2) := by decide +kernel
theorem dX11_blow_352 : decode cX11_blow 352 = .ok (.ifCond .eq 7, 3) := by decide +kernel
theorem dX11_blow_355 : decode cX11_blow 355 = .ok (.iconst (-1), 1) := by decide +kernel
theorem dX11_blow_356 : decode cX11_blow 356 = .ok (.goto 5, 3) := by decide +kernel
theorem dX11_blow_359 : decode cX11_blow 359 = .ok (.iload 4, 2) := by decide +kernel
theorem dX11_blow_361 : decode cX11_blow 361 = .ok (.iastore, 1) := by decide +kernel
theorem dX11_blow_362 : decode cX11_blow 362 = .ok (.iload 5, 2) := by decide +kernel
theorem dX11_blow_364 : decode cX11_blow 364 = .ok (.ifCond .eq 21, 3) := by decide +kernel
theorem dX11_blow_367 : decode cX11_blow 367 = .ok (.aload_n 0, 1) := by decide +kernel
theorem dX11_blow_368 : decode cX11_blow 368 = .ok (.dup, 1) := by decide +kernel
theorem dX11_blow_369 : decode cX11_blow 369 = .ok (.getfield 213, 3) := by decide +kernel
theorem dX11_blow_372 : decode cX11_blow 372 = .ok (.aload_n 0, 1) := by decide +kernel
theorem dX11_blow_373 : decode cX11_blow 373 = .ok (.getfield 44, 3) := by decide +kernel
theorem dX11_blow_376 : decode cX11_blow 376 = .ok (.iload_n 2, 1) := by decide +kernel
theorem dX11_blow_377 : decode cX11_blow 377 = .ok (.iaload, 1) := by decide +kernel
theorem dX11_blow_378 : decode cX11_blow 378 = .ok (.iadd, 1) := by decide +kernel
theorem dX11_blow_379 : decode cX11_blow 379 = .ok (.putfield 213, 3) := by decide +kernel
theorem dX11_blow_382 : decode cX11_blow 382 = .ok (.goto 14, 3) := by decide +kernel
theorem dX11_blow_385 : decode cX11_blow 385 = .ok (.aload_n 0, 1) := by decide +kernel
theorem dX11_blow_386 : decode cX11_blow 386 = .ok (.getfield 95, 3) := by decide +kernel
theorem dX11_blow_389 : decode cX11_blow 389 = .ok (.iload 4, 2) := by decide +kernel
theorem dX11_blow_391 : decode cX11_blow 391 = .ok (.dup2, 1) := by decide +kernel
theorem dX11_blow_392 : decode cX11_blow 392 = .ok (.iaload, 1) := by decide +kernel
theorem dX11_blow_393 : decode cX11_blow 393 = .ok (.iconst 1, 1) := by decide +kernel
theorem dX11_blow_394 : decode cX11_blow 394 = .ok (.iadd, 1) := by decide +kernel
theorem dX11_blow_395 : decode cX11_blow 395 = .ok (.iastore, 1) := by decide +kernel
theorem dX11_blow_396 : decode cX11_blow 396 = .ok (.aload_n 0, 1) := by decide +kernel
theorem dX11_blow_397 : decode cX11_blow 397 = .ok (.dup, 1) := by decide +kernel
theorem dX11_blow_398 : decode cX11_blow 398 = .ok (.getfield 223, 3) := by decide +kernel
theorem dX11_blow_401 : decode cX11_blow 401 = .ok (.iconst 1, 1) := by decide +kernel
theorem dX11_blow_402 : decode cX11_blow 402 = .ok (.iadd, 1) := by decide +kernel
theorem dX11_blow_403 : decode cX11_blow 403 = .ok (.putfield 223, 3) := by decide +kernel
theorem dX11_blow_406 : decode cX11_blow 406 = .ok (.aload_n 0, 1) := by decide +kernel
theorem dX11_blow_407 : decode cX11_blow 407 = .ok (.getfield 28, 3) := by decide +kernel
theorem dX11_blow_410 : decode cX11_blow 410 = .ok (.iload_n 3, 1) := by decide +kernel
theorem dX11_blow_411 : decode cX11_blow 411 = .ok (.iaload, 1) := by decide +kernel
theorem dX11_blow_412 : decode cX11_blow 412 = .ok (.ifCond .ne 10, 3) := by decide +kernel
theorem dX11_blow_415 : decode cX11_blow 415 = .ok (.aload_n 0, 1) := by decide +kernel
theorem dX11_blow_416 : decode cX11_blow 416 = .ok (.getfield 25, 3) := by decide +kernel
theorem dX11_blow_419 : decode cX11_blow 419 = .ok (.iload_n 3, 1) := by decide +kernel
theorem dX11_blow_420 : decode cX11_blow 420 = .ok (.iconst (-1), 1) := by decide +kernel
theorem dX11_blow_421 : decode cX11_blow 421 = .ok (.iastore, 1) := by decide +kernel
theorem dX11_blow_422 : decode cX11_blow 422 = .ok (.iconst 0, 1) := by decide +kernel
theorem dX11_blow_423 : decode cX11_blow 423 = .ok (.ireturn, 1) := by decide +kernel
theorem dX11_open_0 : decode cX11_open 0 = .ok (.iload_n 1, 1) := by decide +kernel
theorem dX11_open_1 : decode cX11_open 1 = .ok (.iconst 0, 1) := by decide +kernel
theorem dX11_open_2 : decode cX11_open 2 = .ok (.iconst 2, 1) := by decide +kernel
theorem dX11_open_3 : decode cX11_open 3 = .ok (.invokestatic 140, 3) := by decide +kernel
theorem dX11_open_6 : decode cX11_open 6 = .ok (.ifCond .ne 5, 3) := by decide +kernel
theorem dX11_open_9 : decode cX11_open 9 = .ok (.iconst (-1), 1) := by decide +kernel
theorem dX11_open_10 : decode cX11_open 10 = .ok (.ireturn, 1) := by decide +kernel
theorem dX11_open_11 : decode cX11_open 11 = .ok (.iconst 0, 1) := by decide +kernel
theorem dX11_open_12 : decode cX11_open 12 = .ok (.istore_n 2, 1) := by decide +kernel
theorem dX11_open_13 : decode cX11_open 13 = .ok (.iconst 0, 1) := by decide +kernel
theorem dX11_open_14 : decode cX11_open 14 = .ok (.istore_n 3, 1) := by decide +kernel
theorem dX11_open_15 : decode cX11_open 15 = .ok (.iload_n 3, 1) := by decide +kernel
theorem dX11_open_16 : decode cX11_open 16 = .ok (.aload_n 0, 1) := by decide +kernel
theorem dX11_open_17 : decode cX11_open 17 = .ok (.getfield 223, 3) := by decide +kernel
theorem dX11_open_20 : decode cX11_open 20 = .ok (.if_icmp .ge 56, 3) := by decide +kernel
theorem dX11_open_23 : decode cX11_open 23 = .ok (.aload_n 0, 1) := by decide +kernel
theorem dX11_open_24 : decode cX11_open 24 = .ok (.getfield 80, 3) := by decide +kernel
theorem dX11_open_27 : decode cX11_open 27 = .ok (.iload_n 3, 1) := by decide +kernel
theorem dX11_open_28 : decode cX11_open 28 = .ok (.iaload, 1) := by decide +kernel
theorem dX11_open_29 : decode cX11_open 29 = .ok (.ifCond .ne 41, 3) := by decide +kernel
theorem dX11_open_32 : decode cX11_open 32 = .ok (.aload_n 0, 1) := by decide +kernel
theorem dX11_open_33 : decode cX11_open 33 = .ok (.getfield 83, 3) := by decide +kernel
theorem dX11_open_36 : decode cX11_open 36 = .ok (.iload_n 3, 1) := by decide +kernel
theorem dX11_open_37 : decode cX11_open 37 = .ok (.iaload, 1) := by decide +kernel
theorem dX11_open_38 : decode cX11_open 38 = .ok (.iload_n 1, 1) := by decide +kernel
theorem dX11_open_39 : decode cX11_open 39 = .ok (.if_icmp .eq 6, 3) := by decide +kernel
theorem dX11_open_42 : decode cX11_open 42 = .ok (.goto 28, 3) := by decide +kernel
theorem dX11_open_45 : decode cX11_open 45 = .ok (.aload_n 0, 1) := by decide +kernel
theorem dX11_open_46 : decode cX11_open 46 = .ok (.getfield 80, 3) := by decide +kernel
theorem dX11_open_49 : decode cX11_open 49 = .ok (.iload_n 3, 1) := by decide +kernel
theorem dX11_open_50 : decode cX11_open 50 = .ok (.iconst 3, 1) := by decide +kernel
theorem dX11_open_51 : decode cX11_open 51 = .ok (.iastore, 1) := by decide +kernel
theorem dX11_open_52 : decode cX11_open 52 = .ok (.aload_n 0, 1) := by decide +kernel
theorem dX11_open_53 : decode cX11_open 53 = .ok (.dup, 1) := by decide +kernel
theorem dX11_open_54 : decode cX11_open 54 = .ok (.getfield 213, 3) := by decide +kernel
theorem dX11_open_57 : decode cX11_open 57 = .ok (.aload_n 0, 1) := by decide +kernel
theorem dX11_open_58 : decode cX11_open 58 = .ok (.getfield 92, 3) := by decide +kernel
theorem dX11_open_61 : decode cX11_open 61 = .ok (.iload_n 3, 1) := by decide +kernel
theorem dX11_open_62 : decode cX11_open 62 = .ok (.iaload, 1) := by decide +kernel
theorem dX11_open_63 : decode cX11_open 63 = .ok (.iadd, 1) := by decide +kernel
theorem dX11_open_64 : decode cX11_open 64 = .ok (.putfield 213, 3) := by decide +kernel
theorem dX11_open_67 : decode cX11_open 67 = .ok (.iinc 2 1, 3) := by decide +kernel
theorem dX11_open_70 : decode cX11_open 70 = .ok (.iinc 3 1, 3) := by decide +kernel
theorem dX11_open_73 : decode cX11_open 73 = .ok (.goto (-58), 3) := by decide +kernel
theorem dX11_open_76 : decode cX11_open 76 = .ok (.aload_n 0, 1) := by decide +kernel
theorem dX11_open_77 : decode cX11_open 77 = .ok (.getfield 95, 3) := by decide +kernel
theorem dX11_open_80 : decode cX11_open 80 = .ok (.iload_n 1, 1) := by decide +kernel
theorem dX11_open_81 : decode cX11_open 81 = .ok (.iconst 0, 1) := by decide +kernel
theorem dX11_open_82 : decode cX11_open 82 = .ok (.iastore, 1) := by decide +kernel
theorem dX11_open_83 : decode cX11_open 83 = .ok (.iload_n 2, 1) := by decide +kernel
theorem dX11_open_84 : decode cX11_open 84 = .ok (.ireturn, 1) := by decide +kernel
theorem dX11_hour_0 : decode cX11_hour 0 = .ok (.aload_n 0, 1) := by decide +kernel
theorem dX11_hour_1 : decode cX11_hour 1 = .ok (.getfield 154, 3) := by decide +kernel
theorem dX11_hour_4 : decode cX11_hour 4 = .ok (.aload_n 0, 1) := by decide +kernel
theorem dX11_hour_5 : decode cX11_hour 5 = .ok (.getfield 151, 3) := by decide +kernel
theorem dX11_hour_8 : decode cX11_hour 8 = .ok (.if_icmp .ge 10, 3) := by decide +kernel
theorem dX11_hour_11 : decode cX11_hour 11 = .ok (.aload_n 0, 1) := by decide +kernel
theorem dX11_hour_12 : decode cX11_hour 12 = .ok (.getfield 154, 3) := by decide +kernel
theorem dX11_hour_15 : decode cX11_hour 15 = .ok (.goto 7, 3) := by decide +kernel
theorem dX11_hour_18 : decode cX11_hour 18 = .ok (.aload_n 0, 1) := by decide +kernel
theorem dX11_hour_19 : decode cX11_hour 19 = .ok (.getfield 151, 3) := by decide +kernel
theorem dX11_hour_22 : decode cX11_hour 22 = .ok (.istore_n 1, 1) := by decide +kernel
theorem dX11_hour_23 : decode cX11_hour 23 = .ok (.aload_n 0, 1) := by decide +kernel
theorem dX11_hour_24 : decode cX11_hour 24 = .ok (.dup, 1) := by decide +kernel
theorem dX11_hour_25 : decode cX11_hour 25 = .ok (.getfield 151, 3) := by decide +kernel
theorem dX11_hour_28 : decode cX11_hour 28 = .ok (.iload_n 1, 1) := by decide +kernel
theorem dX11_hour_29 : decode cX11_hour 29 = .ok (.isub, 1) := by decide +kernel
theorem dX11_hour_30 : decode cX11_hour 30 = .ok (.putfield 151, 3) := by decide +kernel
theorem dX11_hour_33 : decode cX11_hour 33 = .ok (.iconst 0, 1) := by decide +kernel
theorem dX11_hour_34 : decode cX11_hour 34 = .ok (.istore_n 2, 1) := by decide +kernel
theorem dX11_hour_35 : decode cX11_hour 35 = .ok (.iconst 0, 1) := by decide +kernel
theorem dX11_hour_36 : decode cX11_hour 36 = .ok (.istore_n 3, 1) := by decide +kernel
theorem dX11_hour_37 : decode cX11_hour 37 = .ok (.iload_n 3, 1) := by decide +kernel
theorem dX11_hour_38 : decode cX11_hour 38 = .ok (.aload_n 0, 1) := by decide +kernel
theorem dX11_hour_39 : decode cX11_hour 39 = .ok (.getfield 157, 3) := by decide +kernel
theorem dX11_hour_42 : decode cX11_hour 42 = .ok (.if_icmp .ge 48, 3) := by decide +kernel
theorem dX11_hour_45 : decode cX11_hour 45 = .ok (.iload_n 2, 1) := by decide +kernel
theorem dX11_hour_46 : decode cX11_hour 46 = .ok (.aload_n 0, 1) := by decide +kernel
theorem dX11_hour_47 : decode cX11_hour 47 = .ok (.getfield 16, 3) := by decide +kernel
theorem dX11_hour_50 : decode cX11_hour 50 = .ok (.iload_n 3, 1) := by decide +kernel
theorem dX11_hour_51 : decode cX11_hour 51 = .ok (.iaload, 1) := by decide +kernel
theorem dX11_hour_52 : decode cX11_hour 52 = .ok (.aload_n 0, 1) := by decide +kernel
theorem dX11_hour_53 : decode cX11_hour 53 = .ok (.getfield 144, 3) := by decide +kernel
theorem dX11_hour_56 : decode cX11_hour 56 = .ok (.if_icmp .gt 25, 3) := by decide +kernel
theorem dX11_hour_59 : decode cX11_hour 59 = .ok (.aload_n 0, 1) := by decide +kernel
theorem dX11_hour_60 : decode cX11_hour 60 = .ok (.getfield 19, 3) := by decide +kernel
theorem dX11_hour_63 : decode cX11_hour 63 = .ok (.iload_n 3, 1) := by decide +kernel
theorem dX11_hour_64 : decode cX11_hour 64 = .ok (.iaload, 1) := by decide +kernel
theorem dX11_hour_65 : decode cX11_hour 65 = .ok (.aload_n 0, 1) := by decide +kernel
theorem dX11_hour_66 : decode cX11_hour 66 = .ok (.getfield 144, 3) := by decide +kernel
theorem dX11_hour_69 : decode cX11_hour 69 = .ok (.if_icmp .lt 12, 3) := by decide +kernel
theorem dX11_hour_72 : decode cX11_hour 72 = .ok (.aload_n 0, 1) := by decide +kernel
theorem dX11_hour_73 : decode cX11_hour 73 = .ok (.getfield 22, 3) := by decide +kernel
theorem dX11_hour_76 : decode cX11_hour 76 = .ok (.iload_n 3, 1) := by decide +kernel
theorem dX11_hour_77 : decode cX11_hour 77 = .ok (.iaload, 1) := by decide +kernel
theorem dX11_hour_78 : decode cX11_hour 78 = .ok (.goto 4, 3) := by decide +kernel
theorem dX11_hour_81 : decode cX11_hour 81 = .ok (.iconst 0, 1) := by decide +kernel
theorem dX11_hour_82 : decode cX11_hour 82 = .ok (.iadd, 1) := by decide +kernel
theorem dX11_hour_83 : decode cX11_hour 83 = .ok (.istore_n 2, 1) := by decide +kernel
theorem dX11_hour_84 : decode cX11_hour 84 = .ok (.iinc 3 1, 3) := by decide +kernel
theorem dX11_hour_87 : decode cX11_hour 87 = .ok (.goto (-50), 3) := by decide +kernel
theorem dX11_hour_90 : decode cX11_hour 90 = .ok (.aload_n 0, 1) := by decide +kernel
theorem dX11_hour_91 : decode cX11_hour 91 = .ok (.aload_n 0, 1) := by decide +kernel
theorem dX11_hour_92 : decode cX11_hour 92 = .ok (.getfield 160, 3) := by decide +kernel
theorem dX11_hour_95 : decode cX11_hour 95 = .ok (.bipush 30, 2) := by decide +kernel
theorem dX11_hour_97 : decode cX11_hour 97 = .ok (.iload_n 1, 1) := by decide +kernel
theorem dX11_hour_98 : decode cX11_hour 98 = .ok (.imul, 1) := by decide +kernel
theorem dX11_hour_99 : decode cX11_hour 99 = .ok (.iadd, 1) := by decide +kernel
theorem dX11_hour_100 : decode cX11_hour 100 = .ok (.aload_n 0, 1) := by decide +kernel
theorem dX11_hour_101 : decode cX11_hour 101 = .ok (.getfield 160, 3) := by decide +kernel
theorem dX11_hour_104 : decode cX11_hour 104 = .ok (.bipush 20, 2) := by decide +kernel
theorem dX11_hour_106 : decode cX11_hour 106 = .ok (.idiv, 1) := by decide +kernel
theorem dX11_hour_107 : decode cX11_hour 107 = .ok (.isub, 1) := by decide +kernel
theorem dX11_hour_108 : decode cX11_hour 108 = .ok (.iload_n 2, 1) := by decide +kernel
theorem dX11_hour_109 : decode cX11_hour 109 = .ok (.isub, 1) := by decide +kernel
theorem dX11_hour_110 : decode cX11_hour 110 = .ok (.putfield 160, 3) := by decide +kernel
theorem dX11_hour_113 : decode cX11_hour 113 = .ok (.aload_n 0, 1) := by decide +kernel
theorem dX11_hour_114 : decode cX11_hour 114 = .ok (.aload_n 0, 1) := by decide +kernel
theorem dX11_hour_115 : decode cX11_hour 115 = .ok (.getfield 160, 3) := by decide +kernel
theorem dX11_hour_118 : decode cX11_hour 118 = .ok (.ifCond .ge 7, 3) := by decide +kernel
theorem dX11_hour_121 : decode cX11_hour 121 = .ok (.iconst 0, 1) := by decide +kernel
theorem dX11_hour_122 : decode cX11_hour 122 = .ok (.goto 23, 3) := by decide +kernel
theorem dX11_hour_125 : decode cX11_hour 125 = .ok (.aload_n 0, 1) := by decide +kernel
theorem dX11_hour_126 : decode cX11_hour 126 = .ok (.getfield 160, 3) := by decide +kernel
theorem dX11_hour_129 : decode cX11_hour 129 = .ok (.sipush 2000, 3) := by decide +kernel
theorem dX11_hour_132 : decode cX11_hour 132 = .ok (.if_icmp .le 9, 3) := by decide +kernel
theorem dX11_hour_135 : decode cX11_hour 135 = .ok (.sipush 2000, 3) := by decide +kernel
theorem dX11_hour_138 : decode cX11_hour 138 = .ok (.goto 7, 3) := by decide +kernel
theorem dX11_hour_141 : decode cX11_hour 141 = .ok (.aload_n 0, 1) := by decide +kernel
theorem dX11_hour_142 : decode cX11_hour 142 = .ok (.getfield 160, 3) := by decide +kernel
theorem dX11_hour_145 : decode cX11_hour 145 = .ok (.putfield 160, 3) := by decide +kernel
theorem dX11_hour_148 : decode cX11_hour 148 = .ok (.iconst 0, 1) := by decide +kernel
theorem dX11_hour_149 : decode cX11_hour 149 = .ok (.istore_n 3, 1) := by decide +kernel
theorem dX11_hour_150 : decode cX11_hour 150 = .ok (.iload_n 3, 1) := by decide +kernel
theorem dX11_hour_151 : decode cX11_hour 151 = .ok (.bipush 6, 2) := by decide +kernel
theorem dX11_hour_153 : decode cX11_hour 153 = .ok (.if_icmp .ge 104, 3) := by decide +kernel
theorem dX11_hour_156 : decode cX11_hour 156 = .ok (.aload_n 0, 1) := by decide +kernel
theorem dX11_hour_157 : decode cX11_hour 157 = .ok (.getfield 25, 3) := by decide +kernel
theorem dX11_hour_160 : decode cX11_hour 160 = .ok (.iload_n 3, 1) := by decide +kernel
theorem dX11_hour_161 : decode cX11_hour 161 = .ok (.iaload, 1) := by decide +kernel
theorem dX11_hour_162 : decode cX11_hour 162 = .ok (.ifCond .ge 6, 3) := by decide +kernel
theorem dX11_hour_165 : decode cX11_hour 165 = .ok (.goto 86, 3) := by decide +kernel
theorem dX11_hour_168 : decode cX11_hour 168 = .ok (.aload_n 0, 1) := by decide +kernel
theorem dX11_hour_169 : decode cX11_hour 169 = .ok (.getfield 160, 3) := by decide +kernel
theorem dX11_hour_172 : decode cX11_hour 172 = .ok (.sipush 1300, 3) := by decide +kernel
theorem dX11_hour_175 : decode cX11_hour 175 = .ok (.if_icmp .lt 16, 3) := by decide +kernel
theorem dX11_hour_178 : decode cX11_hour 178 = .ok (.aload_n 0, 1) := by decide +kernel
theorem dX11_hour_179 : decode cX11_hour 179 = .ok (.getfield 31, 3) := by decide +kernel
theorem dX11_hour_182 : decode cX11_hour 182 = .ok (.iload_n 3, 1) := by decide +kernel
theorem dX11_hour_183 : decode cX11_hour 183 = .ok (.dup2, 1) := by decide +kernel
theorem dX11_hour_184 : decode cX11_hour 184 = .ok (.iaload, 1) := by decide +kernel
theorem dX11_hour_185 : decode cX11_hour 185 = .ok (.iconst 3, 1) := by decide +kernel
theorem dX11_hour_186 : decode cX11_hour 186 = .ok (.iadd, 1) := by decide +kernel
theorem dX11_hour_187 : decode cX11_hour 187 = .ok (.iastore, 1) := by decide +kernel
theorem dX11_hour_188 : decode cX11_hour 188 = .ok (.goto 63, 3) := by decide +kernel
theorem dX11_hour_191 : decode cX11_hour 191 = .ok (.aload_n 0, 1) := by decide +kernel
theorem dX11_hour_192 : decode cX11_hour 192 = .ok (.getfield 160, 3) := by decide +kernel
theorem dX11_hour_195 : decode cX11_hour 195 = .ok (.sipush 1100, 3) := by decide +kernel
theorem dX11_hour_198 : decode cX11_hour 198 = .ok (.if_icmp .lt 16, 3) := by decide +kernel
theorem dX11_hour_201 : decode cX11_hour 201 = .ok (.aload_n 0, 1) := by decide +kernel
theorem dX11_hour_202 : decode cX11_hour 202 = .ok (.getfield 31, 3) := by decide +kernel
theorem dX11_hour_205 : decode cX11_hour 205 = .ok (.iload_n 3, 1) := by decide +kernel
theorem dX11_hour_206 : decode cX11_hour 206 = .ok (.dup2, 1) := by decide +kernel
theorem dX11_hour_207 : decode cX11_hour 207 = .ok (.iaload, 1) := by decide +kernel
theorem dX11_hour_208 : decode cX11_hour 208 = .ok (.iconst 2, 1) := by decide +kernel
theorem dX11_hour_209 : decode cX11_hour 209 = .ok (.iadd, 1) := by decide +kernel
theorem dX11_hour_210 : decode cX11_hour 210 = .ok (.iastore, 1) := by decide +kernel
theorem dX11_hour_211 : decode cX11_hour 211 = .ok (.goto 40, 3) := by decide +kernel
theorem dX11_hour_214 : decode cX11_hour 214 = .ok (.aload_n 0, 1) := by decide +kernel
theorem dX11_hour_215 : decode cX11_hour 215 = .ok (.getfield 160, 3) := by decide +kernel
theorem dX11_hour_218 : decode cX11_hour 218 = .ok (.sipush 800, 3) := by decide +kernel
theorem dX11_hour_221 : decode cX11_hour 221 = .ok (.if_icmp .ge 30, 3) := by decide +kernel
theorem dX11_hour_224 : decode cX11_hour 224 = .ok (.aload_n 0, 1) := by decide +kernel
theorem dX11_hour_225 : decode cX11_hour 225 = .ok (.iload_n 3, 1) := by decide +kernel
theorem dX11_hour_226 : decode cX11_hour 226 = .ok (.invokevirtual 217, 3) := by decide +kernel
theorem dX11_hour_229 : decode cX11_hour 229 = .ok (.ifCond .ne 22, 3) := by decide +kernel
theorem dX11_hour_232 : decode cX11_hour 232 = .ok (.aload_n 0, 1) := by decide +kernel
theorem dX11_hour_233 : decode cX11_hour 233 = .ok (.getfield 31, 3) := by decide +kernel
theorem dX11_hour_236 : decode cX11_hour 236 = .ok (.iload_n 3, 1) := by decide +kernel
theorem dX11_hour_237 : decode cX11_hour 237 = .ok (.iaload, 1) := by decide +kernel
theorem dX11_hour_238 : decode cX11_hour 238 = .ok (.ifCond .le 13, 3) := by decide +kernel
theorem dX11_hour_241 : decode cX11_hour 241 = .ok (.aload_n 0, 1) := by decide +kernel
theorem dX11_hour_242 : decode cX11_hour 242 = .ok (.getfield 31, 3) := by decide +kernel
theorem dX11_hour_245 : decode cX11_hour 245 = .ok (.iload_n 3, 1) := by decide +kernel
theorem dX11_hour_246 : decode cX11_hour 246 = .ok (.dup2, 1) := by decide +kernel
theorem dX11_hour_247 : decode cX11_hour 247 = .ok (.iaload, 1) := by decide +kernel
theorem dX11_hour_248 : decode cX11_hour 248 = .ok (.iconst 1, 1) := by decide +kernel
theorem dX11_hour_249 : decode cX11_hour 249 = .ok (.isub, 1) := by decide +kernel
theorem dX11_hour_250 : decode cX11_hour 250 = .ok (.iastore, 1) := by decide +kernel
theorem dX11_hour_251 : decode cX11_hour 251 = .ok (.iinc 3 1, 3) := by decide +kernel
theorem dX11_hour_254 : decode cX11_hour 254 = .ok (.goto (-104), 3) := by decide +kernel
theorem dX11_hour_257 : decode cX11_hour 257 = .ok (.iconst 0, 1) := by decide +kernel
theorem dX11_hour_258 : decode cX11_hour 258 = .ok (.istore_n 3, 1) := by decide +kernel
theorem dX11_hour_259 : decode cX11_hour 259 = .ok (.iload_n 3, 1) := by decide +kernel
theorem dX11_hour_260 : decode cX11_hour 260 = .ok (.aload_n 0, 1) := by decide +kernel
theorem dX11_hour_261 : decode cX11_hour 261 = .ok (.getfield 223, 3) := by decide +kernel
theorem dX11_hour_264 : decode cX11_hour 264 = .ok (.if_icmp .ge 71, 3) := by decide +kernel
theorem dX11_hour_267 : decode cX11_hour 267 = .ok (.aload_n 0, 1) := by decide +kernel
theorem dX11_hour_268 : decode cX11_hour 268 = .ok (.getfield 80, 3) := by decide +kernel
theorem dX11_hour_271 : decode cX11_hour 271 = .ok (.iload_n 3, 1) := by decide +kernel
theorem dX11_hour_272 : decode cX11_hour 272 = .ok (.iaload, 1) := by decide +kernel
theorem dX11_hour_273 : decode cX11_hour 273 = .ok (.ifCond .eq 6, 3) := by decide +kernel
theorem dX11_hour_276 : decode cX11_hour 276 = .ok (.goto 53, 3) := by decide +kernel
theorem dX11_hour_279 : decode cX11_hour 279 = .ok (.aload_n 0, 1) := by decide +kernel
theorem dX11_hour_280 : decode cX11_hour 280 = .ok (.getfield 86, 3) := by decide +kernel
theorem dX11_hour_283 : decode cX11_hour 283 = .ok (.iload_n 3, 1) := by decide +kernel
theorem dX11_hour_284 : decode cX11_hour 284 = .ok (.dup2, 1) := by decide +kernel
theorem dX11_hour_285 : decode cX11_hour 285 = .ok (.iaload, 1) := by decide +kernel
theorem dX11_hour_286 : decode cX11_hour 286 = .ok (.iconst 1, 1) := by decide +kernel
theorem dX11_hour_287 : decode cX11_hour 287 = .ok (.iadd, 1) := by decide +kernel
theorem dX11_hour_288 : decode cX11_hour 288 = .ok (.iastore, 1) := by decide +kernel
theorem dX11_hour_289 : decode cX11_hour 289 = .ok (.aload_n 0, 1) := by decide +kernel
theorem dX11_hour_290 : decode cX11_hour 290 = .ok (.getfield 86, 3) := by decide +kernel
theorem dX11_hour_293 : decode cX11_hour 293 = .ok (.iload_n 3, 1) := by decide +kernel
theorem dX11_hour_294 : decode cX11_hour 294 = .ok (.iaload, 1) := by decide +kernel
theorem dX11_hour_295 : decode cX11_hour 295 = .ok (.aload_n 0, 1) := by decide +kernel
theorem dX11_hour_296 : decode cX11_hour 296 = .ok (.getfield 89, 3) := by decide +kernel
theorem dX11_hour_299 : decode cX11_hour 299 = .ok (.iload_n 3, 1) := by decide +kernel
theorem dX11_hour_300 : decode cX11_hour 300 = .ok (.iaload, 1) := by decide +kernel
theorem dX11_hour_301 : decode cX11_hour 301 = .ok (.if_icmp .ge 6, 3) := by decide +kernel
theorem dX11_hour_304 : decode cX11_hour 304 = .ok (.goto 25, 3) := by decide +kernel
theorem dX11_hour_307 : decode cX11_hour 307 = .ok (.aload_n 0, 1) := by decide +kernel
theorem dX11_hour_308 : decode cX11_hour 308 = .ok (.getfield 80, 3) := by decide +kernel
theorem dX11_hour_311 : decode cX11_hour 311 = .ok (.iload_n 3, 1) := by decide +kernel
theorem dX11_hour_312 : decode cX11_hour 312 = .ok (.iconst 1, 1) := by decide +kernel
theorem dX11_hour_313 : decode cX11_hour 313 = .ok (.iastore, 1) := by decide +kernel
theorem dX11_hour_314 : decode cX11_hour 314 = .ok (.aload_n 0, 1) := by decide +kernel
theorem dX11_hour_315 : decode cX11_hour 315 = .ok (.getfield 95, 3) := by decide +kernel
theorem dX11_hour_318 : decode cX11_hour 318 = .ok (.aload_n 0, 1) := by decide +kernel
theorem dX11_hour_319 : decode cX11_hour 319 = .ok (.getfield 83, 3) := by decide +kernel
theorem dX11_hour_322 : decode cX11_hour 322 = .ok (.iload_n 3, 1) := by decide +kernel
theorem dX11_hour_323 : decode cX11_hour 323 = .ok (.iaload, 1) := by decide +kernel
theorem dX11_hour_324 : decode cX11_hour 324 = .ok (.dup2, 1) := by decide +kernel
theorem dX11_hour_325 : decode cX11_hour 325 = .ok (.iaload, 1) := by decide +kernel
theorem dX11_hour_326 : decode cX11_hour 326 = .ok (.iconst 1, 1) := by decide +kernel
theorem dX11_hour_327 : decode cX11_hour 327 = .ok (.isub, 1) := by decide +kernel
theorem dX11_hour_328 : decode cX11_hour 328 = .ok (.iastore, 1) := by decide +kernel
theorem dX11_hour_329 : decode cX11_hour 329 = .ok (.iinc 3 1, 3) := by decide +kernel
theorem dX11_hour_332 : decode cX11_hour 332 = .ok (.goto (-73), 3) := by decide +kernel
theorem dX11_hour_335 : decode cX11_hour 335 = .ok (.aload_n 0, 1) := by decide +kernel
theorem dX11_hour_336 : decode cX11_hour 336 = .ok (.dup, 1) := by decide +kernel
theorem dX11_hour_337 : decode cX11_hour 337 = .ok (.getfield 144, 3) := by decide +kernel
theorem dX11_hour_340 : decode cX11_hour 340 = .ok (.iconst 1, 1) := by decide +kernel
theorem dX11_hour_341 : decode cX11_hour 341 = .ok (.iadd, 1) := by decide +kernel
theorem dX11_hour_342 : decode cX11_hour 342 = .ok (.putfield 144, 3) := by decide +kernel
theorem dX11_hour_345 : decode cX11_hour 345 = .ok (.iconst 0, 1) := by decide +kernel
theorem dX11_hour_346 : decode cX11_hour 346 = .ok (.istore_n 3, 1) := by decide +kernel
theorem dX11_hour_347 : decode cX11_hour 347 = .ok (.iload_n 3, 1) := by decide +kernel
theorem dX11_hour_348 : decode cX11_hour 348 = .ok (.iconst 4, 1) := by decide +kernel
theorem dX11_hour_349 : decode cX11_hour 349 = .ok (.if_icmp .ge 17, 3) := by decide +kernel
theorem dX11_hour_352 : decode cX11_hour 352 = .ok (.aload_n 0, 1) := by decide +kernel
theorem dX11_hour_353 : decode cX11_hour 353 = .ok (.getfield 65, 3) := by decide +kernel
theorem dX11_hour_356 : decode cX11_hour 356 = .ok (.iload_n 3, 1) := by decide +kernel
theorem dX11_hour_357 : decode cX11_hour 357 = .ok (.bipush 60, 2) := by decide +kernel
theorem dX11_hour_359 : decode cX11_hour 359 = .ok (.iastore, 1) := by decide +kernel
theorem dX11_hour_360 : decode cX11_hour 360 = .ok (.iinc 3 1, 3) := by decide +kernel
theorem dX11_hour_363 : decode cX11_hour 363 = .ok (.goto (-16), 3) := by decide +kernel
theorem dX11_hour_366 : decode cX11_hour 366 = .ok (.aload_n 0, 1) := by decide +kernel
theorem dX11_hour_367 : decode cX11_hour 367 = .ok (.getfield 144, 3) := by decide +kernel
theorem dX11_hour_370 : decode cX11_hour 370 = .ok (.sipush 500, 3) := by decide +kernel
theorem dX11_hour_373 : decode cX11_hour 373 = .ok (.irem, 1) := by decide +kernel
theorem dX11_hour_374 : decode cX11_hour 374 = .ok (.ifCond .ne 23, 3) := by decide +kernel
theorem dX11_hour_377 : decode cX11_hour 377 = .ok (.iconst 0, 1) := by decide +kernel
theorem dX11_hour_378 : decode cX11_hour 378 = .ok (.istore_n 3, 1) := by decide +kernel
theorem dX11_hour_379 : decode cX11_hour 379 = .ok (.iload_n 3, 1) := by decide +kernel
theorem dX11_hour_380 : decode cX11_hour 380 = .ok (.iconst 5, 1) := by decide +kernel
theorem dX11_hour_381 : decode cX11_hour 381 = .ok (.if_icmp .ge 16, 3) := by decide +kernel
theorem dX11_hour_384 : decode cX11_hour 384 = .ok (.aload_n 0, 1) := by decide +kernel
theorem dX11_hour_385 : decode cX11_hour 385 = .ok (.getfield 13, 3) := by decide +kernel
theorem dX11_hour_388 : decode cX11_hour 388 = .ok (.iload_n 3, 1) := by decide +kernel
theorem dX11_hour_389 : decode cX11_hour 389 = .ok (.iconst 0, 1) := by decide +kernel
theorem dX11_hour_390 : decode cX11_hour 390 = .ok (.iastore, 1) := by decide +kernel
theorem dX11_hour_391 : decode cX11_hour 391 = .ok (.iinc 3 1, 3) := by decide +kernel
theorem dX11_hour_394 : decode cX11_hour 394 = .ok (.goto (-15), 3) := by decide +kernel
theorem dX11_hour_397 : decode cX11_hour 397 = .ok (.return_, 1) := by decide +kernel
theorem dX11_pass_0 : decode cX11_pass 0 = .ok (.iload_n 1, 1) := by decide +kernel
theorem dX11_pass_1 : decode cX11_pass 1 = .ok (.iconst 1, 1) := by decide +kernel
theorem dX11_pass_2 : decode cX11_pass 2 = .ok (.sipush 500, 3) := by decide +kernel
theorem dX11_pass_5 : decode cX11_pass 5 = .ok (.invokestatic 140, 3) := by decide +kernel
theorem dX11_pass_8 : decode cX11_pass 8 = .ok (.ifCond .eq 15, 3) := by decide +kernel
theorem dX11_pass_11 : decode cX11_pass 11 = .ok (.aload_n 0, 1) := by decide +kernel
theorem dX11_pass_12 : decode cX11_pass 12 = .ok (.getfield 144, 3) := by decide +kernel
theorem dX11_pass_15 : decode cX11_pass 15 = .ok (.iload_n 1, 1) := by decide +kernel
theorem dX11_pass_16 : decode cX11_pass 16 = .ok (.iadd, 1) := by decide +kernel
theorem dX11_pass_17 : decode cX11_pass 17 = .ok (.sipush 5000, 3) := by decide +kernel
theorem dX11_pass_20 : decode cX11_pass 20 = .ok (.if_icmp .le 5, 3) := by decide +kernel
theorem dX11_pass_23 : decode cX11_pass 23 = .ok (.iconst (-1), 1) := by decide +kernel
theorem dX11_pass_24 : decode cX11_pass 24 = .ok (.ireturn, 1) := by decide +kernel
theorem dX11_pass_25 : decode cX11_pass 25 = .ok (.iconst 0, 1) := by decide +kernel
theorem dX11_pass_26 : decode cX11_pass 26 = .ok (.istore_n 2, 1) := by decide +kernel
theorem dX11_pass_27 : decode cX11_pass 27 = .ok (.iload_n 2, 1) := by decide +kernel
theorem dX11_pass_28 : decode cX11_pass 28 = .ok (.iload_n 1, 1) := by decide +kernel
theorem dX11_pass_29 : decode cX11_pass 29 = .ok (.if_icmp .ge 13, 3) := by decide +kernel
theorem dX11_pass_32 : decode cX11_pass 32 = .ok (.aload_n 0, 1) := by decide +kernel
theorem dX11_pass_33 : decode cX11_pass 33 = .ok (.invokevirtual 226, 3) := by decide +kernel
theorem dX11_pass_36 : decode cX11_pass 36 = .ok (.iinc 2 1, 3) := by decide +kernel
theorem dX11_pass_39 : decode cX11_pass 39 = .ok (.goto (-12), 3) := by decide +kernel
theorem dX11_pass_42 : decode cX11_pass 42 = .ok (.aload_n 0, 1) := by decide +kernel
theorem dX11_pass_43 : decode cX11_pass 43 = .ok (.getfield 160, 3) := by decide +kernel
theorem dX11_pass_46 : decode cX11_pass 46 = .ok (.ireturn, 1) := by decide +kernel
theorem dX11_piece_0 : decode cX11_piece 0 = .ok (.iload_n 1, 1) := by decide +kernel
theorem dX11_piece_1 : decode cX11_piece 1 = .ok (.iconst 0, 1) := by decide +kernel
theorem dX11_piece_2 : decode cX11_piece 2 = .ok (.aload_n 0, 1) := by decide +kernel
theorem dX11_piece_3 : decode cX11_piece 3 = .ok (.getfield 223, 3) := by decide +kernel
theorem dX11_piece_6 : decode cX11_piece 6 = .ok (.iconst 1, 1) := by decide +kernel
theorem dX11_piece_7 : decode cX11_piece 7 = .ok (.isub, 1) := by decide +kernel
theorem dX11_piece_8 : decode cX11_piece 8 = .ok (.invokestatic 140, 3) := by decide +kernel
theorem dX11_piece_11 : decode cX11_piece 11 = .ok (.ifCond .ne 5, 3) := by decide +kernel
theorem dX11_piece_14 : decode cX11_piece 14 = .ok (.iconst (-1), 1) := by decide +kernel
theorem dX11_piece_15 : decode cX11_piece 15 = .ok (.ireturn, 1) := by decide +kernel
theorem dX11_piece_16 : decode cX11_piece 16 = .ok (.iload_n 2, 1) := by decide +kernel
theorem dX11_piece_17 : decode cX11_piece 17 = .ok (.tableswitch 92 0 6 #[43, 50, 57, 64, 71, 78, 85], 43) := by decide +kernel
theorem dX11_piece_60 : decode cX11_piece 60 = .ok (.aload_n 0, 1) := by decide +kernel
theorem dX11_piece_61 : decode cX11_piece 61 = .ok (.getfield 68, 3) := by decide +kernel
theorem dX11_piece_64 : decode cX11_piece 64 = .ok (.iload_n 1, 1) := by decide +kernel
theorem dX11_piece_65 : decode cX11_piece 65 = .ok (.iaload, 1) := by decide +kernel
theorem dX11_piece_66 : decode cX11_piece 66 = .ok (.ireturn, 1) := by decide +kernel
theorem dX11_piece_67 : decode cX11_piece 67 = .ok (.aload_n 0, 1) := by decide +kernel
theorem dX11_piece_68 : decode cX11_piece 68 = .ok (.getfield 71, 3) := by decide +kernel
theorem dX11_piece_71 : decode cX11_piece 71 = .ok (.iload_n 1, 1) := by decide +kernel
theorem dX11_piece_72 : decode cX11_piece 72 = .ok (.iaload, 1) := by decide +kernel
theorem dX11_piece_73 : decode cX11_piece 73 = .ok (.ireturn, 1) := by decide +kernel
theorem dX11_piece_74 : decode cX11_piece 74 = .ok (.aload_n 0, 1) := by decide +kernel
theorem dX11_piece_75 : decode cX11_piece 75 = .ok (.getfield 74, 3) := by decide +kernel
theorem dX11_piece_78 : decode cX11_piece 78 = .ok (.iload_n 1, 1) := by decide +kernel
theorem dX11_piece_79 : decode cX11_piece 79 = .ok (.iaload, 1) := by decide +kernel
theorem dX11_piece_80 : decode cX11_piece 80 = .ok (.ireturn, 1) := by decide +kernel
theorem dX11_piece_81 : decode cX11_piece 81 = .ok (.aload_n 0, 1) := by decide +kernel
theorem dX11_piece_82 : decode cX11_piece 82 = .ok (.getfield 77, 3) := by decide +kernel
theorem dX11_piece_85 : decode cX11_piece 85 = .ok (.iload_n 1, 1) := by decide +kernel
theorem dX11_piece_86 : decode cX11_piece 86 = .ok (.iaload, 1) := by decide +kernel
theorem dX11_piece_87 : decode cX11_piece 87 = .ok (.ireturn, 1) := by decide +kernel
theorem dX11_piece_88 : decode cX11_piece 88 = .ok (.aload_n 0, 1) := by decide +kernel
theorem dX11_piece_89 : decode cX11_piece 89 = .ok (.getfield 80, 3) := by decide +kernel
theorem dX11_piece_92 : decode cX11_piece 92 = .ok (.iload_n 1, 1) := by decide +kernel
theorem dX11_piece_93 : decode cX11_piece 93 = .ok (.iaload, 1) := by decide +kernel
theorem dX11_piece_94 : decode cX11_piece 94 = .ok (.ireturn, 1) := by decide +kernel
theorem dX11_piece_95 : decode cX11_piece 95 = .ok (.aload_n 0, 1) := by decide +kernel
theorem dX11_piece_96 : decode cX11_piece 96 = .ok (.getfield 83, 3) := by decide +kernel
theorem dX11_piece_99 : decode cX11_piece 99 = .ok (.iload_n 1, 1) := by decide +kernel
theorem dX11_piece_100 : decode cX11_piece 100 = .ok (.iaload, 1) := by decide +kernel
theorem dX11_piece_101 : decode cX11_piece 101 = .ok (.ireturn, 1) := by decide +kernel
theorem dX11_piece_102 : decode cX11_piece 102 = .ok (.aload_n 0, 1) := by decide +kernel
theorem dX11_piece_103 : decode cX11_piece 103 = .ok (.getfield 86, 3) := by decide +kernel
theorem dX11_piece_106 : decode cX11_piece 106 = .ok (.iload_n 1, 1) := by decide +kernel
theorem dX11_piece_107 : decode cX11_piece 107 = .ok (.iaload, 1) := by decide +kernel
theorem dX11_piece_108 : decode cX11_piece 108 = .ok (.ireturn, 1) := by decide +kernel
theorem dX11_piece_109 : decode cX11_piece 109 = .ok (.iconst (-1), 1) := by decide +kernel
theorem dX11_piece_110 : decode cX11_piece 110 = .ok (.ireturn, 1) := by decide +kernel
theorem dX11_pay_0 : decode cX11_pay 0 = .ok (.iload_n 1, 1) := by decide +kernel
theorem dX11_pay_1 : decode cX11_pay 1 = .ok (.iconst 0, 1) := by decide +kernel
theorem dX11_pay_2 : decode cX11_pay 2 = .ok (.iconst 3, 1) := by decide +kernel
theorem dX11_pay_3 : decode cX11_pay 3 = .ok (.invokestatic 140, 3) := by decide +kernel
theorem dX11_pay_6 : decode cX11_pay 6 = .ok (.ifCond .ne 5, 3) := by decide +kernel
theorem dX11_pay_9 : decode cX11_pay 9 = .ok (.iconst (-1), 1) := by decide +kernel
theorem dX11_pay_10 : decode cX11_pay 10 = .ok (.ireturn, 1) := by decide +kernel
theorem dX11_pay_11 : decode cX11_pay 11 = .ok (.iconst 0, 1) := by decide +kernel
theorem dX11_pay_12 : decode cX11_pay 12 = .ok (.istore_n 2, 1) := by decide +kernel
theorem dX11_pay_13 : decode cX11_pay 13 = .ok (.iconst 0, 1) := by decide +kernel
theorem dX11_pay_14 : decode cX11_pay 14 = .ok (.istore_n 3, 1) := by decide +kernel
theorem dX11_pay_15 : decode cX11_pay 15 = .ok (.iload_n 3, 1) := by decide +kernel
theorem dX11_pay_16 : decode cX11_pay 16 = .ok (.iconst 5, 1) := by decide +kernel
theorem dX11_pay_17 : decode cX11_pay 17 = .ok (.if_icmp .ge 88, 3) := by decide +kernel
theorem dX11_pay_20 : decode cX11_pay 20 = .ok (.iconst 0, 1) := by decide +kernel
theorem dX11_pay_21 : decode cX11_pay 21 = .ok (.istore 4, 2) := by decide +kernel
theorem dX11_pay_23 : decode cX11_pay 23 = .ok (.iconst 0, 1) := by decide +kernel
theorem dX11_pay_24 : decode cX11_pay 24 = .ok (.istore 5, 2) := by decide +kernel
theorem dX11_pay_26 : decode cX11_pay 26 = .ok (.iload 5, 2) := by decide +kernel
theorem dX11_pay_28 : decode cX11_pay 28 = .ok (.aload_n 0, 1) := by decide +kernel
theorem dX11_pay_29 : decode cX11_pay 29 = .ok (.getfield 223, 3) := by decide +kernel
theorem dX11_pay_32 : decode cX11_pay 32 = .ok (.if_icmp .ge 52, 3) := by decide +kernel
theorem dX11_pay_35 : decode cX11_pay 35 = .ok (.iload 4, 2) := by decide +kernel
theorem dX11_pay_37 : decode cX11_pay 37 = .ok (.aload_n 0, 1) := by decide +kernel
theorem dX11_pay_38 : decode cX11_pay 38 = .ok (.getfield 71, 3) := by decide +kernel
theorem dX11_pay_41 : decode cX11_pay 41 = .ok (.iload 5, 2) := by decide +kernel
theorem dX11_pay_43 : decode cX11_pay 43 = .ok (.iaload, 1) := by decide +kernel
theorem dX11_pay_44 : decode cX11_pay 44 = .ok (.iload_n 1, 1) := by decide +kernel
theorem dX11_pay_45 : decode cX11_pay 45 = .ok (.if_icmp .ne 29, 3) := by decide +kernel
theorem dX11_pay_48 : decode cX11_pay 48 = .ok (.aload_n 0, 1) := by decide +kernel
theorem dX11_pay_49 : decode cX11_pay 49 = .ok (.getfield 68, 3) := by decide +kernel
theorem dX11_pay_52 : decode cX11_pay 52 = .ok (.iload 5, 2) := by decide +kernel
theorem dX11_pay_54 : decode cX11_pay 54 = .ok (.iaload, 1) := by decide +kernel
theorem dX11_pay_55 : decode cX11_pay 55 = .ok (.iload_n 3, 1) := by decide +kernel
theorem dX11_pay_56 : decode cX11_pay 56 = .ok (.if_icmp .ne 18, 3) := by decide +kernel
theorem dX11_pay_59 : decode cX11_pay 59 = .ok (.aload_n 0, 1) := by decide +kernel
theorem dX11_pay_60 : decode cX11_pay 60 = .ok (.getfield 80, 3) := by decide +kernel
theorem dX11_pay_63 : decode cX11_pay 63 = .ok (.iload 5, 2) := by decide +kernel
theorem dX11_pay_65 : decode cX11_pay 65 = .ok (.iaload, 1) := by decide +kernel
theorem dX11_pay_66 : decode cX11_pay 66 = .ok (.iconst 1, 1) := by decide +kernel
theorem dX11_pay_67 : decode cX11_pay 67 = .ok (.if_icmp .ne 7, 3) := by decide +kernel
theorem dX11_pay_70 : decode cX11_pay 70 = .ok (.iconst 1, 1) := by decide +kernel
theorem dX11_pay_71 : decode cX11_pay 71 = .ok (.goto 4, 3) := by decide +kernel
theorem dX11_pay_74 : decode cX11_pay 74 = .ok (.iconst 0, 1) := by decide +kernel
theorem dX11_pay_75 : decode cX11_pay 75 = .ok (.iadd, 1) := by decide +kernel
theorem dX11_pay_76 : decode cX11_pay 76 = .ok (.istore 4, 2) := by decide +kernel
theorem dX11_pay_78 : decode cX11_pay 78 = .ok (.iinc 5 1, 3) := by decide +kernel
theorem dX11_pay_81 : decode cX11_pay 81 = .ok (.goto (-55), 3) := by decide +kernel
theorem dX11_pay_84 : decode cX11_pay 84 = .ok (.iload_n 2, 1) := by decide +kernel
theorem dX11_pay_85 : decode cX11_pay 85 = .ok (.iload 4, 2) := by decide +kernel
theorem dX11_pay_87 : decode cX11_pay 87 = .ok (.aload_n 0, 1) := by decide +kernel
theorem dX11_pay_88 : decode cX11_pay 88 = .ok (.getfield 50, 3) := by decide +kernel
theorem dX11_pay_91 : decode cX11_pay 91 = .ok (.iload_n 3, 1) := by decide +kernel
theorem dX11_pay_92 : decode cX11_pay 92 = .ok (.iaload, 1) := by decide +kernel
theorem dX11_pay_93 : decode cX11_pay 93 = .ok (.imul, 1) := by decide +kernel
theorem dX11_pay_94 : decode cX11_pay 94 = .ok (.bipush 100, 2) := by decide +kernel
theorem dX11_pay_96 : decode cX11_pay 96 = .ok (.idiv, 1) := by decide +kernel
theorem dX11_pay_97 : decode cX11_pay 97 = .ok (.iadd, 1) := by decide +kernel
theorem dX11_pay_98 : decode cX11_pay 98 = .ok (.istore_n 2, 1) := by decide +kernel
theorem dX11_pay_99 : decode cX11_pay 99 = .ok (.iinc 3 1, 3) := by decide +kernel
theorem dX11_pay_102 : decode cX11_pay 102 = .ok (.goto (-87), 3) := by decide +kernel
theorem dX11_pay_105 : decode cX11_pay 105 = .ok (.iload_n 2, 1) := by decide +kernel
theorem dX11_pay_106 : decode cX11_pay 106 = .ok (.ireturn, 1) := by decide +kernel
theorem dX11_isOf_0 : decode cX11_isOf 0 = .ok (.aload_n 0, 1) := by decide +kernel
theorem dX11_isOf_1 : decode cX11_isOf 1 = .ok (.getfield 40, 3) := by decide +kernel
theorem dX11_isOf_4 : decode cX11_isOf 4 = .ok (.iload_n 1, 1) := by decide +kernel
theorem dX11_isOf_5 : decode cX11_isOf 5 = .ok (.baload, 1) := by decide +kernel
theorem dX11_isOf_6 : decode cX11_isOf 6 = .ok (.ifCond .eq 27, 3) := by decide +kernel
theorem dX11_isOf_9 : decode cX11_isOf 9 = .ok (.aload_n 0, 1) := by decide +kernel
theorem dX11_isOf_10 : decode cX11_isOf 10 = .ok (.getfield 53, 3) := by decide +kernel
theorem dX11_isOf_13 : decode cX11_isOf 13 = .ok (.iload_n 1, 1) := by decide +kernel
theorem dX11_isOf_14 : decode cX11_isOf 14 = .ok (.iaload, 1) := by decide +kernel
theorem dX11_isOf_15 : decode cX11_isOf 15 = .ok (.iconst (-1), 1) := by decide +kernel
theorem dX11_isOf_16 : decode cX11_isOf 16 = .ok (.if_icmp .eq 13, 3) := by decide +kernel
theorem dX11_isOf_19 : decode cX11_isOf 19 = .ok (.aload_n 0, 1) := by decide +kernel
theorem dX11_isOf_20 : decode cX11_isOf 20 = .ok (.getfield 53, 3) := by decide +kernel
theorem dX11_isOf_23 : decode cX11_isOf 23 = .ok (.iload_n 1, 1) := by decide +kernel
theorem dX11_isOf_24 : decode cX11_isOf 24 = .ok (.iaload, 1) := by decide +kernel
theorem dX11_isOf_25 : decode cX11_isOf 25 = .ok (.iload_n 2, 1) := by decide +kernel
theorem dX11_isOf_26 : decode cX11_isOf 26 = .ok (.if_icmp .ne 7, 3) := by decide +kernel
theorem dX11_isOf_29 : decode cX11_isOf 29 = .ok (.iconst 1, 1) := by decide +kernel
theorem dX11_isOf_30 : decode cX11_isOf 30 = .ok (.goto 4, 3) := by decide +kernel
theorem dX11_isOf_33 : decode cX11_isOf 33 = .ok (.iconst 0, 1) := by decide +kernel
theorem dX11_isOf_34 : decode cX11_isOf 34 = .ok (.ireturn, 1) := by decide +kernel
theorem dX11_shift_0 : decode cX11_shift 0 = .ok (.iload_n 1, 1) := by decide +kernel
theorem dX11_shift_1 : decode cX11_shift 1 = .ok (.iconst 0, 1) := by decide +kernel
theorem dX11_shift_2 : decode cX11_shift 2 = .ok (.sipush 480, 3) := by decide +kernel
theorem dX11_shift_5 : decode cX11_shift 5 = .ok (.invokestatic 140, 3) := by decide +kernel
theorem dX11_shift_8 : decode cX11_shift 8 = .ok (.ifCond .eq 24, 3) := by decide +kernel
theorem dX11_shift_11 : decode cX11_shift 11 = .ok (.iload_n 2, 1) := by decide +kernel
theorem dX11_shift_12 : decode cX11_shift 12 = .ok (.iconst 0, 1) := by decide +kernel
theorem dX11_shift_13 : decode cX11_shift 13 = .ok (.sipush 500, 3) := by decide +kernel
theorem dX11_shift_16 : decode cX11_shift 16 = .ok (.invokestatic 140, 3) := by decide +kernel
theorem dX11_shift_19 : decode cX11_shift 19 = .ok (.ifCond .eq 13, 3) := by decide +kernel
theorem dX11_shift_22 : decode cX11_shift 22 = .ok (.iload_n 3, 1) := by decide +kernel
theorem dX11_shift_23 : decode cX11_shift 23 = .ok (.iconst 0, 1) := by decide +kernel
theorem dX11_shift_24 : decode cX11_shift 24 = .ok (.bipush 7, 2) := by decide +kernel
theorem dX11_shift_26 : decode cX11_shift 26 = .ok (.invokestatic 140, 3) := by decide +kernel
theorem dX11_shift_29 : decode cX11_shift 29 = .ok (.ifCond .ne 5, 3) := by decide +kernel
theorem dX11_shift_32 : decode cX11_shift 32 = .ok (.iconst (-1), 1) := by decide +kernel
theorem dX11_shift_33 : decode cX11_shift 33 = .ok (.ireturn, 1) := by decide +kernel
theorem dX11_shift_34 : decode cX11_shift 34 = .ok (.iconst 0, 1) := by decide +kernel
theorem dX11_shift_35 : decode cX11_shift 35 = .ok (.istore 4, 2) := by decide +kernel
theorem dX11_shift_37 : decode cX11_shift 37 = .ok (.iload 4, 2) := by decide +kernel
theorem dX11_shift_39 : decode cX11_shift 39 = .ok (.iload_n 1, 1) := by decide +kernel
theorem dX11_shift_40 : decode cX11_shift 40 = .ok (.if_icmp .gt 42, 3) := by decide +kernel
theorem dX11_shift_43 : decode cX11_shift 43 = .ok (.iconst 0, 1) := by decide +kernel
theorem dX11_shift_44 : decode cX11_shift 44 = .ok (.istore 5, 2) := by decide +kernel
theorem dX11_shift_46 : decode cX11_shift 46 = .ok (.iload 5, 2) := by decide +kernel
theorem dX11_shift_48 : decode cX11_shift 48 = .ok (.iload_n 2, 1) := by decide +kernel
theorem dX11_shift_49 : decode cX11_shift 49 = .ok (.if_icmp .gt 27, 3) := by decide +kernel
theorem dX11_shift_52 : decode cX11_shift 52 = .ok (.aload_n 0, 1) := by decide +kernel
theorem dX11_shift_53 : decode cX11_shift 53 = .ok (.getfield 121, 3) := by decide +kernel
theorem dX11_shift_56 : decode cX11_shift 56 = .ok (.ldc 229, 2) := by decide +kernel
theorem dX11_shift_58 : decode cX11_shift 58 = .ok (.sipush 501, 3) := by decide +kernel
theorem dX11_shift_61 : decode cX11_shift 61 = .ok (.iload 4, 2) := by decide +kernel
theorem dX11_shift_63 : decode cX11_shift 63 = .ok (.imul, 1) := by decide +kernel
theorem dX11_shift_64 : decode cX11_shift 64 = .ok (.iadd, 1) := by decide +kernel
theorem dX11_shift_65 : decode cX11_shift 65 = .ok (.iload 5, 2) := by decide +kernel
theorem dX11_shift_67 : decode cX11_shift 67 = .ok (.iadd, 1) := by decide +kernel
theorem dX11_shift_68 : decode cX11_shift 68 = .ok (.lconst 0, 1) := by decide +kernel
theorem dX11_shift_69 : decode cX11_shift 69 = .ok (.lastore, 1) := by decide +kernel
theorem dX11_shift_70 : decode cX11_shift 70 = .ok (.iinc 5 1, 3) := by decide +kernel
theorem dX11_shift_73 : decode cX11_shift 73 = .ok (.goto (-27), 3) := by decide +kernel
theorem dX11_shift_76 : decode cX11_shift 76 = .ok (.iinc 4 1, 3) := by decide +kernel
theorem dX11_shift_79 : decode cX11_shift 79 = .ok (.goto (-42), 3) := by decide +kernel
theorem dX11_shift_82 : decode cX11_shift 82 = .ok (.iconst 4, 1) := by decide +kernel
theorem dX11_shift_83 : decode cX11_shift 83 = .ok (.istore 4, 2) := by decide +kernel
theorem dX11_shift_85 : decode cX11_shift 85 = .ok (.iload 4, 2) := by decide +kernel
theorem dX11_shift_87 : decode cX11_shift 87 = .ok (.ifCond .lt 196, 3) := by decide +kernel
theorem dX11_shift_90 : decode cX11_shift 90 = .ok (.iconst 0, 1) := by decide +kernel
theorem dX11_shift_91 : decode cX11_shift 91 = .ok (.istore 5, 2) := by decide +kernel
theorem dX11_shift_93 : decode cX11_shift 93 = .ok (.iload 5, 2) := by decide +kernel
theorem dX11_shift_95 : decode cX11_shift 95 = .ok (.iload_n 1, 1) := by decide +kernel
theorem dX11_shift_96 : decode cX11_shift 96 = .ok (.if_icmp .gt 181, 3) := by decide +kernel
theorem dX11_shift_99 : decode cX11_shift 99 = .ok (.iconst 0, 1) := by decide +kernel
theorem dX11_shift_100 : decode cX11_shift 100 = .ok (.istore 6, 2) := by decide +kernel
theorem dX11_shift_102 : decode cX11_shift 102 = .ok (.iload 6, 2) := by decide +kernel
theorem dX11_shift_104 : decode cX11_shift 104 = .ok (.iload_n 2, 1) := by decide +kernel
theorem dX11_shift_105 : decode cX11_shift 105 = .ok (.if_icmp .gt 166, 3) := by decide +kernel
theorem dX11_shift_108 : decode cX11_shift 108 = .ok (.aload_n 0, 1) := by decide +kernel
theorem dX11_shift_109 : decode cX11_shift 109 = .ok (.getfield 121, 3) := by decide +kernel
theorem dX11_shift_112 : decode cX11_shift 112 = .ok (.ldc 230, 2) := by decide +kernel
theorem dX11_shift_114 : decode cX11_shift 114 = .ok (.iload 4, 2) := by decide +kernel
theorem dX11_shift_116 : decode cX11_shift 116 = .ok (.iconst 1, 1) := by decide +kernel
theorem dX11_shift_117 : decode cX11_shift 117 = .ok (.iadd, 1) := by decide +kernel
theorem dX11_shift_118 : decode cX11_shift 118 = .ok (.imul, 1) := by decide +kernel
theorem dX11_shift_119 : decode cX11_shift 119 = .ok (.sipush 501, 3) := by decide +kernel
theorem dX11_shift_122 : decode cX11_shift 122 = .ok (.iload 5, 2) := by decide +kernel
theorem dX11_shift_124 : decode cX11_shift 124 = .ok (.imul, 1) := by decide +kernel
theorem dX11_shift_125 : decode cX11_shift 125 = .ok (.iadd, 1) := by decide +kernel
theorem dX11_shift_126 : decode cX11_shift 126 = .ok (.iload 6, 2) := by decide +kernel
theorem dX11_shift_128 : decode cX11_shift 128 = .ok (.iadd, 1) := by decide +kernel
theorem dX11_shift_129 : decode cX11_shift 129 = .ok (.laload, 1) := by decide +kernel
theorem dX11_shift_130 : decode cX11_shift 130 = .ok (.lstore 7, 2) := by decide +kernel
theorem dX11_shift_132 : decode cX11_shift 132 = .ok (.aload_n 0, 1) := by decide +kernel
theorem dX11_shift_133 : decode cX11_shift 133 = .ok (.iload 4, 2) := by decide +kernel
theorem dX11_shift_135 : decode cX11_shift 135 = .ok (.iload_n 3, 1) := by decide +kernel
theorem dX11_shift_136 : decode cX11_shift 136 = .ok (.invokevirtual 231, 3) := by decide +kernel
theorem dX11_shift_139 : decode cX11_shift 139 = .ok (.ifCond .eq 104, 3) := by decide +kernel
theorem dX11_shift_142 : decode cX11_shift 142 = .ok (.iload 5, 2) := by decide +kernel
theorem dX11_shift_144 : decode cX11_shift 144 = .ok (.aload_n 0, 1) := by decide +kernel
theorem dX11_shift_145 : decode cX11_shift 145 = .ok (.getfield 47, 3) := by decide +kernel
theorem dX11_shift_148 : decode cX11_shift 148 = .ok (.iload 4, 2) := by decide +kernel
theorem dX11_shift_150 : decode cX11_shift 150 = .ok (.iaload, 1) := by decide +kernel
theorem dX11_shift_151 : decode cX11_shift 151 = .ok (.if_icmp .lt 92, 3) := by decide +kernel
theorem dX11_shift_154 : decode cX11_shift 154 = .ok (.iload 6, 2) := by decide +kernel
theorem dX11_shift_156 : decode cX11_shift 156 = .ok (.aload_n 0, 1) := by decide +kernel
theorem dX11_shift_157 : decode cX11_shift 157 = .ok (.getfield 44, 3) := by decide +kernel
theorem dX11_shift_160 : decode cX11_shift 160 = .ok (.iload 4, 2) := by decide +kernel
theorem dX11_shift_162 : decode cX11_shift 162 = .ok (.iaload, 1) := by decide +kernel
theorem dX11_shift_163 : decode cX11_shift 163 = .ok (.if_icmp .lt 80, 3) := by decide +kernel
theorem dX11_shift_166 : decode cX11_shift 166 = .ok (.aload_n 0, 1) := by decide +kernel
theorem dX11_shift_167 : decode cX11_shift 167 = .ok (.getfield 121, 3) := by decide +kernel
theorem dX11_shift_170 : decode cX11_shift 170 = .ok (.ldc 230, 2) := by decide +kernel
theorem dX11_shift_172 : decode cX11_shift 172 = .ok (.iload 4, 2) := by decide +kernel
theorem dX11_shift_174 : decode cX11_shift 174 = .ok (.imul, 1) := by decide +kernel
theorem dX11_shift_175 : decode cX11_shift 175 = .ok (.sipush 501, 3) := by decide +kernel
theorem dX11_shift_178 : decode cX11_shift 178 = .ok (.iload 5, 2) := by decide +kernel
theorem dX11_shift_180 : decode cX11_shift 180 = .ok (.aload_n 0, 1) := by decide +kernel
theorem dX11_shift_181 : decode cX11_shift 181 = .ok (.getfield 47, 3) := by decide +kernel
theorem dX11_shift_184 : decode cX11_shift 184 = .ok (.iload 4, 2) := by decide +kernel
theorem dX11_shift_186 : decode cX11_shift 186 = .ok (.iaload, 1) := by decide +kernel
theorem dX11_shift_187 : decode cX11_shift 187 = .ok (.isub, 1) := by decide +kernel
theorem dX11_shift_188 : decode cX11_shift 188 = .ok (.imul, 1) := by decide +kernel
theorem dX11_shift_189 : decode cX11_shift 189 = .ok (.iadd, 1) := by decide +kernel
theorem dX11_shift_190 : decode cX11_shift 190 = .ok (.iload 6, 2) := by decide +kernel
theorem dX11_shift_192 : decode cX11_shift 192 = .ok (.iadd, 1) := by decide +kernel
theorem dX11_shift_193 : decode cX11_shift 193 = .ok (.aload_n 0, 1) := by decide +kernel
theorem dX11_shift_194 : decode cX11_shift 194 = .ok (.getfield 44, 3) := by decide +kernel
theorem dX11_shift_197 : decode cX11_shift 197 = .ok (.iload 4, 2) := by decide +kernel
theorem dX11_shift_199 : decode cX11_shift 199 = .ok (.iaload, 1) := by decide +kernel
theorem dX11_shift_200 : decode cX11_shift 200 = .ok (.isub, 1) := by decide +kernel
theorem dX11_shift_201 : decode cX11_shift 201 = .ok (.laload, 1) := by decide +kernel
theorem dX11_shift_202 : decode cX11_shift 202 = .ok (.ldc2_w 234, 3) := by decide +kernel
theorem dX11_shift_205 : decode cX11_shift 205 = .ok (.aload_n 0, 1) := by decide +kernel
theorem dX11_shift_206 : decode cX11_shift 206 = .ok (.getfield 50, 3) := by decide +kernel
theorem dX11_shift_209 : decode cX11_shift 209 = .ok (.iload 4, 2) := by decide +kernel
theorem dX11_shift_211 : decode cX11_shift 211 = .ok (.iaload, 1) := by decide +kernel
theorem dX11_shift_212 : decode cX11_shift 212 = .ok (.i2l, 1) := by decide +kernel
theorem dX11_shift_213 : decode cX11_shift 213 = .ok (.lmul, 1) := by decide +kernel
theorem dX11_shift_214 : decode cX11_shift 214 = .ok (.ladd, 1) := by decide +kernel
theorem dX11_shift_215 : decode cX11_shift 215 = .ok (.aload_n 0, 1) := by decide +kernel
theorem dX11_shift_216 : decode cX11_shift 216 = .ok (.getfield 47, 3) := by decide +kernel
theorem dX11_shift_219 : decode cX11_shift 219 = .ok (.iload 4, 2) := by decide +kernel
theorem dX11_shift_221 : decode cX11_shift 221 = .ok (.iaload, 1) := by decide +kernel
theorem dX11_shift_222 : decode cX11_shift 222 = .ok (.i2l, 1) := by decide +kernel
theorem dX11_shift_223 : decode cX11_shift 223 = .ok (.lsub, 1) := by decide +kernel
theorem dX11_shift_224 : decode cX11_shift 224 = .ok (.lstore 9, 2) := by decide +kernel
theorem dX11_shift_226 : decode cX11_shift 226 = .ok (.lload 9, 2) := by decide +kernel
theorem dX11_shift_228 : decode cX11_shift 228 = .ok (.lload 7, 2) := by decide +kernel
theorem dX11_shift_230 : decode cX11_shift 230 = .ok (.lcmp, 1) := by decide +kernel
theorem dX11_shift_231 : decode cX11_shift 231 = .ok (.ifCond .le 8, 3) := by decide +kernel
theorem dX11_shift_234 : decode cX11_shift 234 = .ok (.lload 9, 2) := by decide +kernel
theorem dX11_shift_236 : decode cX11_shift 236 = .ok (.goto 5, 3) := by decide +kernel
theorem dX11_shift_239 : decode cX11_shift 239 = .ok (.lload 7, 2) := by decide +kernel
theorem dX11_shift_241 : decode cX11_shift 241 = .ok (.lstore 7, 2) := by decide +kernel
theorem dX11_shift_243 : decode cX11_shift 243 = .ok (.aload_n 0, 1) := by decide +kernel
theorem dX11_shift_244 : decode cX11_shift 244 = .ok (.getfield 121, 3) := by decide +kernel
theorem dX11_shift_247 : decode cX11_shift 247 = .ok (.ldc 230, 2) := by decide +kernel
theorem dX11_shift_249 : decode cX11_shift 249 = .ok (.iload 4, 2) := by decide +kernel
theorem dX11_shift_251 : decode cX11_shift 251 = .ok (.imul, 1) := by decide +kernel
theorem dX11_shift_252 : decode cX11_shift 252 = .ok (.sipush 501, 3) := by decide +kernel
theorem dX11_shift_255 : decode cX11_shift 255 = .ok (.iload 5, 2) := by decide +kernel
theorem dX11_shift_257 : decode cX11_shift 257 = .ok (.imul, 1) := by decide +kernel
theorem dX11_shift_258 : decode cX11_shift 258 = .ok (.iadd, 1) := by decide +kernel
theorem dX11_shift_259 : decode cX11_shift 259 = .ok (.iload 6, 2) := by decide +kernel
theorem dX11_shift_261 : decode cX11_shift 261 = .ok (.iadd, 1) := by decide +kernel
theorem dX11_shift_262 : decode cX11_shift 262 = .ok (.lload 7, 2) := by decide +kernel
theorem dX11_shift_264 : decode cX11_shift 264 = .ok (.lastore, 1) := by decide +kernel
theorem dX11_shift_265 : decode cX11_shift 265 = .ok (.iinc 6 1, 3) := by decide +kernel
theorem dX11_shift_268 : decode cX11_shift 268 = .ok (.goto (-166), 3) := by decide +kernel
theorem dX11_shift_271 : decode cX11_shift 271 = .ok (.iinc 5 1, 3) := by decide +kernel
theorem dX11_shift_274 : decode cX11_shift 274 = .ok (.goto (-181), 3) := by decide +kernel
theorem dX11_shift_277 : decode cX11_shift 277 = .ok (.iinc 4 (-1), 3) := by decide +kernel
theorem dX11_shift_280 : decode cX11_shift 280 = .ok (.goto (-195), 3) := by decide +kernel
theorem dX11_shift_283 : decode cX11_shift 283 = .ok (.aload_n 0, 1) := by decide +kernel
theorem dX11_shift_284 : decode cX11_shift 284 = .ok (.getfield 121, 3) := by decide +kernel
theorem dX11_shift_287 : decode cX11_shift 287 = .ok (.sipush 501, 3) := by decide +kernel
theorem dX11_shift_290 : decode cX11_shift 290 = .ok (.iload_n 1, 1) := by decide +kernel
theorem dX11_shift_291 : decode cX11_shift 291 = .ok (.imul, 1) := by decide +kernel
theorem dX11_shift_292 : decode cX11_shift 292 = .ok (.iload_n 2, 1) := by decide +kernel
theorem dX11_shift_293 : decode cX11_shift 293 = .ok (.iadd, 1) := by decide +kernel
theorem dX11_shift_294 : decode cX11_shift 294 = .ok (.laload, 1) := by decide +kernel
theorem dX11_shift_295 : decode cX11_shift 295 = .ok (.lstore 4, 2) := by decide +kernel
theorem dX11_shift_297 : decode cX11_shift 297 = .ok (.iload_n 1, 1) := by decide +kernel
theorem dX11_shift_298 : decode cX11_shift 298 = .ok (.istore 6, 2) := by decide +kernel
theorem dX11_shift_300 : decode cX11_shift 300 = .ok (.iload_n 2, 1) := by decide +kernel
theorem dX11_shift_301 : decode cX11_shift 301 = .ok (.istore 7, 2) := by decide +kernel
theorem dX11_shift_303 : decode cX11_shift 303 = .ok (.lload 4, 2) := by decide +kernel
theorem dX11_shift_305 : decode cX11_shift 305 = .ok (.lstore 8, 2) := by decide +kernel
theorem dX11_shift_307 : decode cX11_shift 307 = .ok (.iconst 0, 1) := by decide +kernel
theorem dX11_shift_308 : decode cX11_shift 308 = .ok (.istore 10, 2) := by decide +kernel
theorem dX11_shift_310 : decode cX11_shift 310 = .ok (.iload 10, 2) := by decide +kernel
theorem dX11_shift_312 : decode cX11_shift 312 = .ok (.iconst 5, 1) := by decide +kernel
theorem dX11_shift_313 : decode cX11_shift 313 = .ok (.if_icmp .ge 210, 3) := by decide +kernel
theorem dX11_shift_316 : decode cX11_shift 316 = .ok (.iconst 0, 1) := by decide +kernel
theorem dX11_shift_317 : decode cX11_shift 317 = .ok (.istore 11, 2) := by decide +kernel
theorem dX11_shift_319 : decode cX11_shift 319 = .ok (.aload_n 0, 1) := by decide +kernel
theorem dX11_shift_320 : decode cX11_shift 320 = .ok (.iload 10, 2) := by decide +kernel
theorem dX11_shift_322 : decode cX11_shift 322 = .ok (.iload_n 3, 1) := by decide +kernel
theorem dX11_shift_323 : decode cX11_shift 323 = .ok (.invokevirtual 231, 3) := by decide +kernel
theorem dX11_shift_326 : decode cX11_shift 326 = .ok (.ifCond .eq 182, 3) := by decide +kernel
theorem dX11_shift_329 : decode cX11_shift 329 = .ok (.iconst 1, 1) := by decide +kernel
theorem dX11_shift_330 : decode cX11_shift 330 = .ok (.istore 12, 2) := by decide +kernel
theorem dX11_shift_332 : decode cX11_shift 332 = .ok (.iload 12, 2) := by decide +kernel
theorem dX11_shift_334 : decode cX11_shift 334 = .ok (.aload_n 0, 1) := by decide +kernel
theorem dX11_shift_335 : decode cX11_shift 335 = .ok (.getfield 47, 3) := by decide +kernel
theorem dX11_shift_338 : decode cX11_shift 338 = .ok (.iload 10, 2) := by decide +kernel
theorem dX11_shift_340 : decode cX11_shift 340 = .ok (.iaload, 1) := by decide +kernel
theorem dX11_shift_341 : decode cX11_shift 341 = .ok (.imul, 1) := by decide +kernel
theorem dX11_shift_342 : decode cX11_shift 342 = .ok (.iload 6, 2) := by decide +kernel
theorem dX11_shift_344 : decode cX11_shift 344 = .ok (.if_icmp .gt 104, 3) := by decide +kernel
theorem dX11_shift_347 : decode cX11_shift 347 = .ok (.iload 12, 2) := by decide +kernel
theorem dX11_shift_349 : decode cX11_shift 349 = .ok (.aload_n 0, 1) := by decide +kernel
theorem dX11_shift_350 : decode cX11_shift 350 = .ok (.getfield 44, 3) := by decide +kernel
theorem dX11_shift_353 : decode cX11_shift 353 = .ok (.iload 10, 2) := by decide +kernel
theorem dX11_shift_355 : decode cX11_shift 355 = .ok (.iaload, 1) := by decide +kernel
theorem dX11_shift_356 : decode cX11_shift 356 = .ok (.imul, 1) := by decide +kernel
theorem dX11_shift_357 : decode cX11_shift 357 = .ok (.iload 7, 2) := by decide +kernel
theorem dX11_shift_359 : decode cX11_shift 359 = .ok (.if_icmp .gt 89, 3) := by decide +kernel
theorem dX11_shift_362 : decode cX11_shift 362 = .ok (.aload_n 0, 1) := by decide +kernel
theorem dX11_shift_363 : decode cX11_shift 363 = .ok (.getfield 121, 3) := by decide +kernel
theorem dX11_shift_366 : decode cX11_shift 366 = .ok (.ldc 230, 2) := by decide +kernel
theorem dX11_shift_368 : decode cX11_shift 368 = .ok (.iload 10, 2) := by decide +kernel
theorem dX11_shift_370 : decode cX11_shift 370 = .ok (.iconst 1, 1) := by decide +kernel
theorem dX11_shift_371 : decode cX11_shift 371 = .ok (.iadd, 1) := by decide +kernel
theorem dX11_shift_372 : decode cX11_shift 372 = .ok (.imul, 1) := by decide +kernel
theorem dX11_shift_373 : decode cX11_shift 373 = .ok (.sipush 501, 3) := by decide +kernel
theorem dX11_shift_376 : decode cX11_shift 376 = .ok (.iload 6, 2) := by decide +kernel
theorem dX11_shift_378 : decode cX11_shift 378 = .ok (.iload 12, 2) := by decide +kernel
theorem dX11_shift_380 : decode cX11_shift 380 = .ok (.aload_n 0, 1) := by decide +kernel
theorem dX11_shift_381 : decode cX11_shift 381 = .ok (.getfield 47, 3) := by decide +kernel
theorem dX11_shift_384 : decode cX11_shift 384 = .ok (.iload 10, 2) := by decide +kernel
theorem dX11_shift_386 : decode cX11_shift 386 = .ok (.iaload, 1) := by decide +kernel
theorem dX11_shift_387 : decode cX11_shift 387 = .ok (.imul, 1) := by decide +kernel
theorem dX11_shift_388 : decode cX11_shift 388 = .ok (.isub, 1) := by decide +kernel
theorem dX11_shift_389 : decode cX11_shift 389 = .ok (.imul, 1) := by decide +kernel
theorem dX11_shift_390 : decode cX11_shift 390 = .ok (.iadd, 1) := by decide +kernel
theorem dX11_shift_391 : decode cX11_shift 391 = .ok (.iload 7, 2) := by decide +kernel
theorem dX11_shift_393 : decode cX11_shift 393 = .ok (.iadd, 1) := by decide +kernel
theorem dX11_shift_394 : decode cX11_shift 394 = .ok (.iload 12, 2) := by decide +kernel
theorem dX11_shift_396 : decode cX11_shift 396 = .ok (.aload_n 0, 1) := by decide +kernel
theorem dX11_shift_397 : decode cX11_shift 397 = .ok (.getfield 44, 3) := by decide +kernel
theorem dX11_shift_400 : decode cX11_shift 400 = .ok (.iload 10, 2) := by decide +kernel
theorem dX11_shift_402 : decode cX11_shift 402 = .ok (.iaload, 1) := by decide +kernel
theorem dX11_shift_403 : decode cX11_shift 403 = .ok (.imul, 1) := by decide +kernel
theorem dX11_shift_404 : decode cX11_shift 404 = .ok (.isub, 1) := by decide +kernel
theorem dX11_shift_405 : decode cX11_shift 405 = .ok (.laload, 1) := by decide +kernel
theorem dX11_shift_406 : decode cX11_shift 406 = .ok (.iload 12, 2) := by decide +kernel
theorem dX11_shift_408 : decode cX11_shift 408 = .ok (.i2l, 1) := by decide +kernel
theorem dX11_shift_409 : decode cX11_shift 409 = .ok (.ldc2_w 234, 3) := by decide +kernel
theorem dX11_shift_412 : decode cX11_shift 412 = .ok (.aload_n 0, 1) := by decide +kernel
theorem dX11_shift_413 : decode cX11_shift 413 = .ok (.getfield 50, 3) := by decide +kernel
theorem dX11_shift_416 : decode cX11_shift 416 = .ok (.iload 10, 2) := by decide +kernel
theorem dX11_shift_418 : decode cX11_shift 418 = .ok (.iaload, 1) := by decide +kernel
theorem dX11_shift_419 : decode cX11_shift 419 = .ok (.i2l, 1) := by decide +kernel
theorem dX11_shift_420 : decode cX11_shift 420 = .ok (.lmul, 1) := by decide +kernel
theorem dX11_shift_421 : decode cX11_shift 421 = .ok (.aload_n 0, 1) := by decide +kernel
theorem dX11_shift_422 : decode cX11_shift 422 = .ok (.getfield 47, 3) := by decide +kernel
theorem dX11_shift_425 : decode cX11_shift 425 = .ok (.iload 10, 2) := by decide +kernel
theorem dX11_shift_427 : decode cX11_shift 427 = .ok (.iaload, 1) := by decide +kernel
theorem dX11_shift_428 : decode cX11_shift 428 = .ok (.i2l, 1) := by decide +kernel
theorem dX11_shift_429 : decode cX11_shift 429 = .ok (.lsub, 1) := by decide +kernel
theorem dX11_shift_430 : decode cX11_shift 430 = .ok (.lmul, 1) := by decide +kernel
theorem dX11_shift_431 : decode cX11_shift 431 = .ok (.ladd, 1) := by decide +kernel
theorem dX11_shift_432 : decode cX11_shift 432 = .ok (.lload 8, 2) := by decide +kernel
theorem dX11_shift_434 : decode cX11_shift 434 = .ok (.lcmp, 1) := by decide +kernel
theorem dX11_shift_435 : decode cX11_shift 435 = .ok (.ifCond .ne 7, 3) := by decide +kernel
theorem dX11_shift_438 : decode cX11_shift 438 = .ok (.iload 12, 2) := by decide +kernel
theorem dX11_shift_440 : decode cX11_shift 440 = .ok (.istore 11, 2) := by decide +kernel
theorem dX11_shift_442 : decode cX11_shift 442 = .ok (.iinc 12 1, 3) := by decide +kernel
theorem dX11_shift_445 : decode cX11_shift 445 = .ok (.goto (-113), 3) := by decide +kernel
theorem dX11_shift_448 : decode cX11_shift 448 = .ok (.iload 6, 2) := by decide +kernel
theorem dX11_shift_450 : decode cX11_shift 450 = .ok (.iload 11, 2) := by decide +kernel
theorem dX11_shift_452 : decode cX11_shift 452 = .ok (.aload_n 0, 1) := by decide +kernel
theorem dX11_shift_453 : decode cX11_shift 453 = .ok (.getfield 47, 3) := by decide +kernel
theorem dX11_shift_456 : decode cX11_shift 456 = .ok (.iload 10, 2) := by decide +kernel
theorem dX11_shift_458 : decode cX11_shift 458 = .ok (.iaload, 1) := by decide +kernel
theorem dX11_shift_459 : decode cX11_shift 459 = .ok (.imul, 1) := by decide +kernel
theorem dX11_shift_460 : decode cX11_shift 460 = .ok (.isub, 1) := by decide +kernel
theorem dX11_shift_461 : decode cX11_shift 461 = .ok (.istore 6, 2) := by decide +kernel
theorem dX11_shift_463 : decode cX11_shift 463 = .ok (.iload 7, 2) := by decide +kernel
theorem dX11_shift_465 : decode cX11_shift 465 = .ok (.iload 11, 2) := by decide +kernel
theorem dX11_shift_467 : decode cX11_shift 467 = .ok (.aload_n 0, 1) := by decide +kernel
theorem dX11_shift_468 : decode cX11_shift 468 = .ok (.getfield 44, 3) := by decide +kernel
theorem dX11_shift_471 : decode cX11_shift 471 = .ok (.iload 10, 2) := by decide +kernel
theorem dX11_shift_473 : decode cX11_shift 473 = .ok (.iaload, 1) := by decide +kernel
theorem dX11_shift_474 : decode cX11_shift 474 = .ok (.imul, 1) := by decide +kernel
theorem dX11_shift_475 : decode cX11_shift 475 = .ok (.isub, 1) := by decide +kernel
theorem dX11_shift_476 : decode cX11_shift 476 = .ok (.istore 7, 2) := by decide +kernel
theorem dX11_shift_478 : decode cX11_shift 478 = .ok (.lload 8, 2) := by decide +kernel
theorem dX11_shift_480 : decode cX11_shift 480 = .ok (.iload 11, 2) := by decide +kernel
theorem dX11_shift_482 : decode cX11_shift 482 = .ok (.i2l, 1) := by decide +kernel
theorem dX11_shift_483 : decode cX11_shift 483 = .ok (.ldc2_w 234, 3) := by decide +kernel
theorem dX11_shift_486 : decode cX11_shift 486 = .ok (.aload_n 0, 1) := by decide +kernel
theorem dX11_shift_487 : decode cX11_shift 487 = .ok (.getfield 50, 3) := by decide +kernel
theorem dX11_shift_490 : decode cX11_shift 490 = .ok (.iload 10, 2) := by decide +kernel
theorem dX11_shift_492 : decode cX11_shift 492 = .ok (.iaload, 1) := by decide +kernel
theorem dX11_shift_493 : decode cX11_shift 493 = .ok (.i2l, 1) := by decide +kernel
theorem dX11_shift_494 : decode cX11_shift 494 = .ok (.lmul, 1) := by decide +kernel
theorem dX11_shift_495 : decode cX11_shift 495 = .ok (.aload_n 0, 1) := by decide +kernel
theorem dX11_shift_496 : decode cX11_shift 496 = .ok (.getfield 47, 3) := by decide +kernel
theorem dX11_shift_499 : decode cX11_shift 499 = .ok (.iload 10, 2) := by decide +kernel
theorem dX11_shift_501 : decode cX11_shift 501 = .ok (.iaload, 1) := by decide +kernel
theorem dX11_shift_502 : decode cX11_shift 502 = .ok (.i2l, 1) := by decide +kernel
theorem dX11_shift_503 : decode cX11_shift 503 = .ok (.lsub, 1) := by decide +kernel
theorem dX11_shift_504 : decode cX11_shift 504 = .ok (.lmul, 1) := by decide +kernel
theorem dX11_shift_505 : decode cX11_shift 505 = .ok (.lsub, 1) := by decide +kernel
theorem dX11_shift_506 : decode cX11_shift 506 = .ok (.lstore 8, 2) := by decide +kernel
theorem dX11_shift_508 : decode cX11_shift 508 = .ok (.aload_n 0, 1) := by decide +kernel
theorem dX11_shift_509 : decode cX11_shift 509 = .ok (.getfield 125, 3) := by decide +kernel
theorem dX11_shift_512 : decode cX11_shift 512 = .ok (.iload 10, 2) := by decide +kernel
theorem dX11_shift_514 : decode cX11_shift 514 = .ok (.iload 11, 2) := by decide +kernel
theorem dX11_shift_516 : decode cX11_shift 516 = .ok (.iastore, 1) := by decide +kernel
theorem dX11_shift_517 : decode cX11_shift 517 = .ok (.iinc 10 1, 3) := by decide +kernel
theorem dX11_shift_520 : decode cX11_shift 520 = .ok (.goto (-210), 3) := by decide +kernel
theorem dX11_shift_523 : decode cX11_shift 523 = .ok (.aload_n 0, 1) := by decide +kernel
theorem dX11_shift_524 : decode cX11_shift 524 = .ok (.getfield 125, 3) := by decide +kernel
theorem dX11_shift_527 : decode cX11_shift 527 = .ok (.iconst 5, 1) := by decide +kernel
theorem dX11_shift_528 : decode cX11_shift 528 = .ok (.iload_n 1, 1) := by decide +kernel
theorem dX11_shift_529 : decode cX11_shift 529 = .ok (.iload 6, 2) := by decide +kernel
theorem dX11_shift_531 : decode cX11_shift 531 = .ok (.isub, 1) := by decide +kernel
theorem dX11_shift_532 : decode cX11_shift 532 = .ok (.iastore, 1) := by decide +kernel
theorem dX11_shift_533 : decode cX11_shift 533 = .ok (.aload_n 0, 1) := by decide +kernel
theorem dX11_shift_534 : decode cX11_shift 534 = .ok (.getfield 125, 3) := by decide +kernel
theorem dX11_shift_537 : decode cX11_shift 537 = .ok (.bipush 6, 2) := by decide +kernel
theorem dX11_shift_539 : decode cX11_shift 539 = .ok (.iload_n 2, 1) := by decide +kernel
theorem dX11_shift_540 : decode cX11_shift 540 = .ok (.iload 7, 2) := by decide +kernel
theorem dX11_shift_542 : decode cX11_shift 542 = .ok (.isub, 1) := by decide +kernel
theorem dX11_shift_543 : decode cX11_shift 543 = .ok (.iastore, 1) := by decide +kernel
theorem dX11_shift_544 : decode cX11_shift 544 = .ok (.lload 4, 2) := by decide +kernel
theorem dX11_shift_546 : decode cX11_shift 546 = .ok (.aload_n 0, 1) := by decide +kernel
theorem dX11_shift_547 : decode cX11_shift 547 = .ok (.getfield 125, 3) := by decide +kernel
theorem dX11_shift_550 : decode cX11_shift 550 = .ok (.iconst 5, 1) := by decide +kernel
theorem dX11_shift_551 : decode cX11_shift 551 = .ok (.iaload, 1) := by decide +kernel
theorem dX11_shift_552 : decode cX11_shift 552 = .ok (.i2l, 1) := by decide +kernel
theorem dX11_shift_553 : decode cX11_shift 553 = .ok (.ladd, 1) := by decide +kernel
theorem dX11_shift_554 : decode cX11_shift 554 = .ok (.ldc2_w 234, 3) := by decide +kernel
theorem dX11_shift_557 : decode cX11_shift 557 = .ok (.ldiv, 1) := by decide +kernel
theorem dX11_shift_558 : decode cX11_shift 558 = .ok (.l2i, 1) := by decide +kernel
theorem dX11_shift_559 : decode cX11_shift 559 = .ok (.ireturn, 1) := by decide +kernel
theorem dX11_shifted_0 : decode cX11_shifted 0 = .ok (.iload_n 1, 1) := by decide +kernel
theorem dX11_shifted_1 : decode cX11_shifted 1 = .ok (.iconst 0, 1) := by decide +kernel
theorem dX11_shifted_2 : decode cX11_shifted 2 = .ok (.bipush 6, 2) := by decide +kernel
theorem dX11_shifted_4 : decode cX11_shifted 4 = .ok (.invokestatic 140, 3) := by decide +kernel
theorem dX11_shifted_7 : decode cX11_shifted 7 = .ok (.ifCond .eq 12, 3) := by decide +kernel
theorem dX11_shifted_10 : decode cX11_shifted 10 = .ok (.aload_n 0, 1) := by decide +kernel
theorem dX11_shifted_11 : decode cX11_shifted 11 = .ok (.getfield 125, 3) := by decide +kernel
theorem dX11_shifted_14 : decode cX11_shifted 14 = .ok (.iload_n 1, 1) := by decide +kernel
theorem dX11_shifted_15 : decode cX11_shifted 15 = .ok (.iaload, 1) := by decide +kernel
theorem dX11_shifted_16 : decode cX11_shifted 16 = .ok (.goto 4, 3) := by decide +kernel
theorem dX11_shifted_19 : decode cX11_shifted 19 = .ok (.iconst (-1), 1) := by decide +kernel
theorem dX11_shifted_20 : decode cX11_shifted 20 = .ok (.ireturn, 1) := by decide +kernel
theorem dX11_cost_0 : decode cX11_cost 0 = .ok (.iload_n 1, 1) := by decide +kernel
theorem dX11_cost_1 : decode cX11_cost 1 = .ok (.iconst 0, 1) := by decide +kernel
theorem dX11_cost_2 : decode cX11_cost 2 = .ok (.iconst 4, 1) := by decide +kernel
theorem dX11_cost_3 : decode cX11_cost 3 = .ok (.invokestatic 140, 3) := by decide +kernel
theorem dX11_cost_6 : decode cX11_cost 6 = .ok (.ifCond .eq 23, 3) := by decide +kernel
theorem dX11_cost_9 : decode cX11_cost 9 = .ok (.iload_n 2, 1) := by decide +kernel
theorem dX11_cost_10 : decode cX11_cost 10 = .ok (.iconst 0, 1) := by decide +kernel
theorem dX11_cost_11 : decode cX11_cost 11 = .ok (.bipush 9, 2) := by decide +kernel
theorem dX11_cost_13 : decode cX11_cost 13 = .ok (.invokestatic 140, 3) := by decide +kernel
theorem dX11_cost_16 : decode cX11_cost 16 = .ok (.ifCond .eq 13, 3) := by decide +kernel
theorem dX11_cost_19 : decode cX11_cost 19 = .ok (.iload_n 3, 1) := by decide +kernel
theorem dX11_cost_20 : decode cX11_cost 20 = .ok (.iconst 0, 1) := by decide +kernel
theorem dX11_cost_21 : decode cX11_cost 21 = .ok (.ldc 216, 2) := by decide +kernel
theorem dX11_cost_23 : decode cX11_cost 23 = .ok (.invokestatic 140, 3) := by decide +kernel
theorem dX11_cost_26 : decode cX11_cost 26 = .ok (.ifCond .ne 5, 3) := by decide +kernel
theorem dX11_cost_29 : decode cX11_cost 29 = .ok (.iconst (-1), 1) := by decide +kernel
theorem dX11_cost_30 : decode cX11_cost 30 = .ok (.ireturn, 1) := by decide +kernel
theorem dX11_cost_31 : decode cX11_cost 31 = .ok (.aload_n 0, 1) := by decide +kernel
theorem dX11_cost_32 : decode cX11_cost 32 = .ok (.getfield 128, 3) := by decide +kernel
theorem dX11_cost_35 : decode cX11_cost 35 = .ok (.bipush 10, 2) := by decide +kernel
theorem dX11_cost_37 : decode cX11_cost 37 = .ok (.iload_n 1, 1) := by decide +kernel
theorem dX11_cost_38 : decode cX11_cost 38 = .ok (.imul, 1) := by decide +kernel
theorem dX11_cost_39 : decode cX11_cost 39 = .ok (.iload_n 2, 1) := by decide +kernel
theorem dX11_cost_40 : decode cX11_cost 40 = .ok (.iadd, 1) := by decide +kernel
theorem dX11_cost_41 : decode cX11_cost 41 = .ok (.iaload, 1) := by decide +kernel
theorem dX11_cost_42 : decode cX11_cost 42 = .ok (.istore 4, 2) := by decide +kernel
theorem dX11_cost_44 : decode cX11_cost 44 = .ok (.aload_n 0, 1) := by decide +kernel
theorem dX11_cost_45 : decode cX11_cost 45 = .ok (.getfield 128, 3) := by decide +kernel
theorem dX11_cost_48 : decode cX11_cost 48 = .ok (.bipush 10, 2) := by decide +kernel
theorem dX11_cost_50 : decode cX11_cost 50 = .ok (.iload_n 1, 1) := by decide +kernel
theorem dX11_cost_51 : decode cX11_cost 51 = .ok (.imul, 1) := by decide +kernel
theorem dX11_cost_52 : decode cX11_cost 52 = .ok (.iload_n 2, 1) := by decide +kernel
theorem dX11_cost_53 : decode cX11_cost 53 = .ok (.iadd, 1) := by decide +kernel
theorem dX11_cost_54 : decode cX11_cost 54 = .ok (.iload_n 3, 1) := by decide +kernel
theorem dX11_cost_55 : decode cX11_cost 55 = .ok (.iastore, 1) := by decide +kernel
theorem dX11_cost_56 : decode cX11_cost 56 = .ok (.iload 4, 2) := by decide +kernel
theorem dX11_cost_58 : decode cX11_cost 58 = .ok (.ireturn, 1) := by decide +kernel
theorem dX11_way_0 : decode cX11_way 0 = .ok (.iload_n 1, 1) := by decide +kernel
theorem dX11_way_1 : decode cX11_way 1 = .ok (.iconst 0, 1) := by decide +kernel
theorem dX11_way_2 : decode cX11_way 2 = .ok (.iconst 4, 1) := by decide +kernel
theorem dX11_way_3 : decode cX11_way 3 = .ok (.invokestatic 140, 3) := by decide +kernel
theorem dX11_way_6 : decode cX11_way 6 = .ok (.ifCond .eq 27, 3) := by decide +kernel
theorem dX11_way_9 : decode cX11_way 9 = .ok (.iload_n 2, 1) := by decide +kernel
theorem dX11_way_10 : decode cX11_way 10 = .ok (.iconst 0, 1) := by decide +kernel
theorem dX11_way_11 : decode cX11_way 11 = .ok (.iconst 4, 1) := by decide +kernel
theorem dX11_way_12 : decode cX11_way 12 = .ok (.invokestatic 140, 3) := by decide +kernel
theorem dX11_way_15 : decode cX11_way 15 = .ok (.ifCond .eq 18, 3) := by decide +kernel
theorem dX11_way_18 : decode cX11_way 18 = .ok (.iload_n 1, 1) := by decide +kernel
theorem dX11_way_19 : decode cX11_way 19 = .ok (.iload_n 2, 1) := by decide +kernel
theorem dX11_way_20 : decode cX11_way 20 = .ok (.if_icmp .eq 13, 3) := by decide +kernel
theorem dX11_way_23 : decode cX11_way 23 = .ok (.iload_n 3, 1) := by decide +kernel
theorem dX11_way_24 : decode cX11_way 24 = .ok (.iconst 0, 1) := by decide +kernel
theorem dX11_way_25 : decode cX11_way 25 = .ok (.ldc 216, 2) := by decide +kernel
theorem dX11_way_27 : decode cX11_way 27 = .ok (.invokestatic 140, 3) := by decide +kernel
theorem dX11_way_30 : decode cX11_way 30 = .ok (.ifCond .ne 5, 3) := by decide +kernel
theorem dX11_way_33 : decode cX11_way 33 = .ok (.iconst (-1), 1) := by decide +kernel
theorem dX11_way_34 : decode cX11_way 34 = .ok (.ireturn, 1) := by decide +kernel
theorem dX11_way_35 : decode cX11_way 35 = .ok (.aload_n 0, 1) := by decide +kernel
theorem dX11_way_36 : decode cX11_way 36 = .ok (.getfield 131, 3) := by decide +kernel
theorem dX11_way_39 : decode cX11_way 39 = .ok (.iconst 5, 1) := by decide +kernel
theorem dX11_way_40 : decode cX11_way 40 = .ok (.iload_n 1, 1) := by decide +kernel
theorem dX11_way_41 : decode cX11_way 41 = .ok (.imul, 1) := by decide +kernel
theorem dX11_way_42 : decode cX11_way 42 = .ok (.iload_n 2, 1) := by decide +kernel
theorem dX11_way_43 : decode cX11_way 43 = .ok (.iadd, 1) := by decide +kernel
theorem dX11_way_44 : decode cX11_way 44 = .ok (.iaload, 1) := by decide +kernel
theorem dX11_way_45 : decode cX11_way 45 = .ok (.istore 4, 2) := by decide +kernel
theorem dX11_way_47 : decode cX11_way 47 = .ok (.aload_n 0, 1) := by decide +kernel
theorem dX11_way_48 : decode cX11_way 48 = .ok (.getfield 131, 3) := by decide +kernel
theorem dX11_way_51 : decode cX11_way 51 = .ok (.iconst 5, 1) := by decide +kernel
theorem dX11_way_52 : decode cX11_way 52 = .ok (.iload_n 1, 1) := by decide +kernel
theorem dX11_way_53 : decode cX11_way 53 = .ok (.imul, 1) := by decide +kernel
theorem dX11_way_54 : decode cX11_way 54 = .ok (.iload_n 2, 1) := by decide +kernel
theorem dX11_way_55 : decode cX11_way 55 = .ok (.iadd, 1) := by decide +kernel
theorem dX11_way_56 : decode cX11_way 56 = .ok (.iload_n 3, 1) := by decide +kernel
theorem dX11_way_57 : decode cX11_way 57 = .ok (.iastore, 1) := by decide +kernel
theorem dX11_way_58 : decode cX11_way 58 = .ok (.iload 4, 2) := by decide +kernel
theorem dX11_way_60 : decode cX11_way 60 = .ok (.ireturn, 1) := by decide +kernel
theorem dX11_from_0 : decode cX11_from 0 = .ok (.ldc 236, 2) := by decide +kernel
theorem dX11_from_2 : decode cX11_from 2 = .ok (.istore_n 3, 1) := by decide +kernel
theorem dX11_from_3 : decode cX11_from 3 = .ok (.iconst 0, 1) := by decide +kernel
theorem dX11_from_4 : decode cX11_from 4 = .ok (.istore 4, 2) := by decide +kernel
theorem dX11_from_6 : decode cX11_from 6 = .ok (.iload 4, 2) := by decide +kernel
theorem dX11_from_8 : decode cX11_from 8 = .ok (.iconst 5, 1) := by decide +kernel
theorem dX11_from_9 : decode cX11_from 9 = .ok (.if_icmp .ge 62, 3) := by decide +kernel
theorem dX11_from_12 : decode cX11_from 12 = .ok (.aload_n 0, 1) := by decide +kernel
theorem dX11_from_13 : decode cX11_from 13 = .ok (.getfield 131, 3) := by decide +kernel
theorem dX11_from_16 : decode cX11_from 16 = .ok (.iconst 5, 1) := by decide +kernel
theorem dX11_from_17 : decode cX11_from 17 = .ok (.iload_n 2, 1) := by decide +kernel
theorem dX11_from_18 : decode cX11_from 18 = .ok (.imul, 1) := by decide +kernel
theorem dX11_from_19 : decode cX11_from 19 = .ok (.iload 4, 2) := by decide +kernel
theorem dX11_from_21 : decode cX11_from 21 = .ok (.iadd, 1) := by decide +kernel
theorem dX11_from_22 : decode cX11_from 22 = .ok (.iaload, 1) := by decide +kernel
theorem dX11_from_23 : decode cX11_from 23 = .ok (.aload_n 0, 1) := by decide +kernel
theorem dX11_from_24 : decode cX11_from 24 = .ok (.getfield 128, 3) := by decide +kernel
theorem dX11_from_27 : decode cX11_from 27 = .ok (.bipush 10, 2) := by decide +kernel
theorem dX11_from_29 : decode cX11_from 29 = .ok (.iload 4, 2) := by decide +kernel
theorem dX11_from_31 : decode cX11_from 31 = .ok (.imul, 1) := by decide +kernel
theorem dX11_from_32 : decode cX11_from 32 = .ok (.iload_n 1, 1) := by decide +kernel
theorem dX11_from_33 : decode cX11_from 33 = .ok (.iadd, 1) := by decide +kernel
theorem dX11_from_34 : decode cX11_from 34 = .ok (.iaload, 1) := by decide +kernel
theorem dX11_from_35 : decode cX11_from 35 = .ok (.iadd, 1) := by decide +kernel
theorem dX11_from_36 : decode cX11_from 36 = .ok (.aload_n 0, 1) := by decide +kernel
theorem dX11_from_37 : decode cX11_from 37 = .ok (.getfield 134, 3) := by decide +kernel
theorem dX11_from_40 : decode cX11_from 40 = .ok (.iconst 5, 1) := by decide +kernel
theorem dX11_from_41 : decode cX11_from 41 = .ok (.iload_n 1, 1) := by decide +kernel
theorem dX11_from_42 : decode cX11_from 42 = .ok (.iconst 1, 1) := by decide +kernel
theorem dX11_from_43 : decode cX11_from 43 = .ok (.iadd, 1) := by decide +kernel
theorem dX11_from_44 : decode cX11_from 44 = .ok (.imul, 1) := by decide +kernel
theorem dX11_from_45 : decode cX11_from 45 = .ok (.iload 4, 2) := by decide +kernel
theorem dX11_from_47 : decode cX11_from 47 = .ok (.iadd, 1) := by decide +kernel
theorem dX11_from_48 : decode cX11_from 48 = .ok (.iaload, 1) := by decide +kernel
theorem dX11_from_49 : decode cX11_from 49 = .ok (.iadd, 1) := by decide +kernel
theorem dX11_from_50 : decode cX11_from 50 = .ok (.istore 5, 2) := by decide +kernel
theorem dX11_from_52 : decode cX11_from 52 = .ok (.iload 5, 2) := by decide +kernel
theorem dX11_from_54 : decode cX11_from 54 = .ok (.iload_n 3, 1) := by decide +kernel
theorem dX11_from_55 : decode cX11_from 55 = .ok (.if_icmp .ge 8, 3) := by decide +kernel
theorem dX11_from_58 : decode cX11_from 58 = .ok (.iload 5, 2) := by decide +kernel
theorem dX11_from_60 : decode cX11_from 60 = .ok (.goto 4, 3) := by decide +kernel
theorem dX11_from_63 : decode cX11_from 63 = .ok (.iload_n 3, 1) := by decide +kernel
theorem dX11_from_64 : decode cX11_from 64 = .ok (.istore_n 3, 1) := by decide +kernel
theorem dX11_from_65 : decode cX11_from 65 = .ok (.iinc 4 1, 3) := by decide +kernel
theorem dX11_from_68 : decode cX11_from 68 = .ok (.goto (-62), 3) := by decide +kernel
theorem dX11_from_71 : decode cX11_from 71 = .ok (.iload_n 3, 1) := by decide +kernel
theorem dX11_from_72 : decode cX11_from 72 = .ok (.ireturn, 1) := by decide +kernel
theorem dX11_move_0 : decode cX11_move 0 = .ok (.iload_n 1, 1) := by decide +kernel
theorem dX11_move_1 : decode cX11_move 1 = .ok (.iconst 1, 1) := by decide +kernel
theorem dX11_move_2 : decode cX11_move 2 = .ok (.bipush 10, 2) := by decide +kernel
theorem dX11_move_4 : decode cX11_move 4 = .ok (.invokestatic 140, 3) := by decide +kernel
theorem dX11_move_7 : decode cX11_move 7 = .ok (.ifCond .ne 5, 3) := by decide +kernel
theorem dX11_move_10 : decode cX11_move 10 = .ok (.iconst (-1), 1) := by decide +kernel
theorem dX11_move_11 : decode cX11_move 11 = .ok (.ireturn, 1) := by decide +kernel
theorem dX11_move_12 : decode cX11_move 12 = .ok (.iconst 0, 1) := by decide +kernel
theorem dX11_move_13 : decode cX11_move 13 = .ok (.istore_n 2, 1) := by decide +kernel
theorem dX11_move_14 : decode cX11_move 14 = .ok (.iload_n 2, 1) := by decide +kernel
theorem dX11_move_15 : decode cX11_move 15 = .ok (.iconst 5, 1) := by decide +kernel
theorem dX11_move_16 : decode cX11_move 16 = .ok (.if_icmp .ge 20, 3) := by decide +kernel
theorem dX11_move_19 : decode cX11_move 19 = .ok (.aload_n 0, 1) := by decide +kernel
theorem dX11_move_20 : decode cX11_move 20 = .ok (.getfield 134, 3) := by decide +kernel
theorem dX11_move_23 : decode cX11_move 23 = .ok (.iconst 5, 1) := by decide +kernel
theorem dX11_move_24 : decode cX11_move 24 = .ok (.iload_n 1, 1) := by decide +kernel
theorem dX11_move_25 : decode cX11_move 25 = .ok (.imul, 1) := by decide +kernel
theorem dX11_move_26 : decode cX11_move 26 = .ok (.iload_n 2, 1) := by decide +kernel
theorem dX11_move_27 : decode cX11_move 27 = .ok (.iadd, 1) := by decide +kernel
theorem dX11_move_28 : decode cX11_move 28 = .ok (.iconst 0, 1) := by decide +kernel
theorem dX11_move_29 : decode cX11_move 29 = .ok (.iastore, 1) := by decide +kernel
theorem dX11_move_30 : decode cX11_move 30 = .ok (.iinc 2 1, 3) := by decide +kernel
theorem dX11_move_33 : decode cX11_move 33 = .ok (.goto (-19), 3) := by decide +kernel
theorem dX11_move_36 : decode cX11_move 36 = .ok (.iload_n 1, 1) := by decide +kernel
theorem dX11_move_37 : decode cX11_move 37 = .ok (.iconst 1, 1) := by decide +kernel
theorem dX11_move_38 : decode cX11_move 38 = .ok (.isub, 1) := by decide +kernel
theorem dX11_move_39 : decode cX11_move 39 = .ok (.istore_n 2, 1) := by decide +kernel
theorem dX11_move_40 : decode cX11_move 40 = .ok (.iload_n 2, 1) := by decide +kernel
theorem dX11_move_41 : decode cX11_move 41 = .ok (.ifCond .lt 38, 3) := by decide +kernel
theorem dX11_move_44 : decode cX11_move 44 = .ok (.iconst 0, 1) := by decide +kernel
theorem dX11_move_45 : decode cX11_move 45 = .ok (.istore_n 3, 1) := by decide +kernel
theorem dX11_move_46 : decode cX11_move 46 = .ok (.iload_n 3, 1) := by decide +kernel
theorem dX11_move_47 : decode cX11_move 47 = .ok (.iconst 5, 1) := by decide +kernel
theorem dX11_move_48 : decode cX11_move 48 = .ok (.if_icmp .ge 25, 3) := by decide +kernel
theorem dX11_move_51 : decode cX11_move 51 = .ok (.aload_n 0, 1) := by decide +kernel
theorem dX11_move_52 : decode cX11_move 52 = .ok (.getfield 134, 3) := by decide +kernel
theorem dX11_move_55 : decode cX11_move 55 = .ok (.iconst 5, 1) := by decide +kernel
theorem dX11_move_56 : decode cX11_move 56 = .ok (.iload_n 2, 1) := by decide +kernel
theorem dX11_move_57 : decode cX11_move 57 = .ok (.imul, 1) := by decide +kernel
theorem dX11_move_58 : decode cX11_move 58 = .ok (.iload_n 3, 1) := by decide +kernel
theorem dX11_move_59 : decode cX11_move 59 = .ok (.iadd, 1) := by decide +kernel
theorem dX11_move_60 : decode cX11_move 60 = .ok (.aload_n 0, 1) := by decide +kernel
theorem dX11_move_61 : decode cX11_move 61 = .ok (.iload_n 2, 1) := by decide +kernel
theorem dX11_move_62 : decode cX11_move 62 = .ok (.iload_n 3, 1) := by decide +kernel
theorem dX11_move_63 : decode cX11_move 63 = .ok (.invokevirtual 237, 3) := by decide +kernel
theorem dX11_move_66 : decode cX11_move 66 = .ok (.iastore, 1) := by decide +kernel
theorem dX11_move_67 : decode cX11_move 67 = .ok (.iinc 3 1, 3) := by decide +kernel
theorem dX11_move_70 : decode cX11_move 70 = .ok (.goto (-24), 3) := by decide +kernel
theorem dX11_move_73 : decode cX11_move 73 = .ok (.iinc 2 (-1), 3) := by decide +kernel
theorem dX11_move_76 : decode cX11_move 76 = .ok (.goto (-36), 3) := by decide +kernel
theorem dX11_move_79 : decode cX11_move 79 = .ok (.aload_n 0, 1) := by decide +kernel
theorem dX11_move_80 : decode cX11_move 80 = .ok (.getfield 148, 3) := by decide +kernel
theorem dX11_move_83 : decode cX11_move 83 = .ok (.istore_n 2, 1) := by decide +kernel
theorem dX11_move_84 : decode cX11_move 84 = .ok (.iconst 0, 1) := by decide +kernel
theorem dX11_move_85 : decode cX11_move 85 = .ok (.istore_n 3, 1) := by decide +kernel
theorem dX11_move_86 : decode cX11_move 86 = .ok (.iload_n 3, 1) := by decide +kernel
theorem dX11_move_87 : decode cX11_move 87 = .ok (.iload_n 1, 1) := by decide +kernel
theorem dX11_move_88 : decode cX11_move 88 = .ok (.if_icmp .ge 80, 3) := by decide +kernel
theorem dX11_move_91 : decode cX11_move 91 = .ok (.iconst 0, 1) := by decide +kernel
theorem dX11_move_92 : decode cX11_move 92 = .ok (.istore 4, 2) := by decide +kernel
theorem dX11_move_94 : decode cX11_move 94 = .ok (.aload_n 0, 1) := by decide +kernel
theorem dX11_move_95 : decode cX11_move 95 = .ok (.getfield 131, 3) := by decide +kernel
theorem dX11_move_98 : decode cX11_move 98 = .ok (.iconst 5, 1) := by decide +kernel
theorem dX11_move_99 : decode cX11_move 99 = .ok (.iload_n 2, 1) := by decide +kernel
theorem dX11_move_100 : decode cX11_move 100 = .ok (.imul, 1) := by decide +kernel
theorem dX11_move_101 : decode cX11_move 101 = .ok (.iload 4, 2) := by decide +kernel
theorem dX11_move_103 : decode cX11_move 103 = .ok (.iadd, 1) := by decide +kernel
theorem dX11_move_104 : decode cX11_move 104 = .ok (.iaload, 1) := by decide +kernel
theorem dX11_move_105 : decode cX11_move 105 = .ok (.aload_n 0, 1) := by decide +kernel
theorem dX11_move_106 : decode cX11_move 106 = .ok (.getfield 128, 3) := by decide +kernel
theorem dX11_move_109 : decode cX11_move 109 = .ok (.bipush 10, 2) := by decide +kernel
theorem dX11_move_111 : decode cX11_move 111 = .ok (.iload 4, 2) := by decide +kernel
theorem dX11_move_113 : decode cX11_move 113 = .ok (.imul, 1) := by decide +kernel
theorem dX11_move_114 : decode cX11_move 114 = .ok (.iload_n 3, 1) := by decide +kernel
theorem dX11_move_115 : decode cX11_move 115 = .ok (.iadd, 1) := by decide +kernel
theorem dX11_move_116 : decode cX11_move 116 = .ok (.iaload, 1) := by decide +kernel
theorem dX11_move_117 : decode cX11_move 117 = .ok (.iadd, 1) := by decide +kernel
theorem dX11_move_118 : decode cX11_move 118 = .ok (.aload_n 0, 1) := by decide +kernel
theorem dX11_move_119 : decode cX11_move 119 = .ok (.getfield 134, 3) := by decide +kernel
theorem dX11_move_122 : decode cX11_move 122 = .ok (.iconst 5, 1) := by decide +kernel
theorem dX11_move_123 : decode cX11_move 123 = .ok (.iload_n 3, 1) := by decide +kernel
theorem dX11_move_124 : decode cX11_move 124 = .ok (.iconst 1, 1) := by decide +kernel
theorem dX11_move_125 : decode cX11_move 125 = .ok (.iadd, 1) := by decide +kernel
theorem dX11_move_126 : decode cX11_move 126 = .ok (.imul, 1) := by decide +kernel
theorem dX11_move_127 : decode cX11_move 127 = .ok (.iload 4, 2) := by decide +kernel
theorem dX11_move_129 : decode cX11_move 129 = .ok (.iadd, 1) := by decide +kernel
theorem dX11_move_130 : decode cX11_move 130 = .ok (.iaload, 1) := by decide +kernel
theorem dX11_move_131 : decode cX11_move 131 = .ok (.iadd, 1) := by decide +kernel
theorem dX11_move_132 : decode cX11_move 132 = .ok (.aload_n 0, 1) := by decide +kernel
theorem dX11_move_133 : decode cX11_move 133 = .ok (.getfield 134, 3) := by decide +kernel
theorem dX11_move_136 : decode cX11_move 136 = .ok (.iconst 5, 1) := by decide +kernel
theorem dX11_move_137 : decode cX11_move 137 = .ok (.iload_n 3, 1) := by decide +kernel
theorem dX11_move_138 : decode cX11_move 138 = .ok (.imul, 1) := by decide +kernel
theorem dX11_move_139 : decode cX11_move 139 = .ok (.iload_n 2, 1) := by decide +kernel
theorem dX11_move_140 : decode cX11_move 140 = .ok (.iadd, 1) := by decide +kernel
theorem dX11_move_141 : decode cX11_move 141 = .ok (.iaload, 1) := by decide +kernel
theorem dX11_move_142 : decode cX11_move 142 = .ok (.if_icmp .eq 9, 3) := by decide +kernel
theorem dX11_move_145 : decode cX11_move 145 = .ok (.iinc 4 1, 3) := by decide +kernel
theorem dX11_move_148 : decode cX11_move 148 = .ok (.goto (-54), 3) := by decide +kernel
theorem dX11_move_151 : decode cX11_move 151 = .ok (.aload_n 0, 1) := by decide +kernel
theorem dX11_move_152 : decode cX11_move 152 = .ok (.getfield 137, 3) := by decide +kernel
theorem dX11_move_155 : decode cX11_move 155 = .ok (.iload_n 3, 1) := by decide +kernel
theorem dX11_move_156 : decode cX11_move 156 = .ok (.iload 4, 2) := by decide +kernel
theorem dX11_move_158 : decode cX11_move 158 = .ok (.iastore, 1) := by decide +kernel
theorem dX11_move_159 : decode cX11_move 159 = .ok (.iload 4, 2) := by decide +kernel
theorem dX11_move_161 : decode cX11_move 161 = .ok (.istore_n 2, 1) := by decide +kernel
theorem dX11_move_162 : decode cX11_move 162 = .ok (.iinc 3 1, 3) := by decide +kernel
theorem dX11_move_165 : decode cX11_move 165 = .ok (.goto (-79), 3) := by decide +kernel
theorem dX11_move_168 : decode cX11_move 168 = .ok (.aload_n 0, 1) := by decide +kernel
theorem dX11_move_169 : decode cX11_move 169 = .ok (.iload_n 1, 1) := by decide +kernel
theorem dX11_move_170 : decode cX11_move 170 = .ok (.putfield 241, 3) := by decide +kernel
theorem dX11_move_173 : decode cX11_move 173 = .ok (.aload_n 0, 1) := by decide +kernel
theorem dX11_move_174 : decode cX11_move 174 = .ok (.getfield 134, 3) := by decide +kernel
theorem dX11_move_177 : decode cX11_move 177 = .ok (.aload_n 0, 1) := by decide +kernel
theorem dX11_move_178 : decode cX11_move 178 = .ok (.getfield 148, 3) := by decide +kernel
theorem dX11_move_181 : decode cX11_move 181 = .ok (.iaload, 1) := by decide +kernel
theorem dX11_move_182 : decode cX11_move 182 = .ok (.ireturn, 1) := by decide +kernel
theorem dX11_moved_0 : decode cX11_moved 0 = .ok (.iload_n 1, 1) := by decide +kernel
theorem dX11_moved_1 : decode cX11_moved 1 = .ok (.iconst 0, 1) := by decide +kernel
theorem dX11_moved_2 : decode cX11_moved 2 = .ok (.aload_n 0, 1) := by decide +kernel
theorem dX11_moved_3 : decode cX11_moved 3 = .ok (.getfield 241, 3) := by decide +kernel
theorem dX11_moved_6 : decode cX11_moved 6 = .ok (.iconst 1, 1) := by decide +kernel
theorem dX11_moved_7 : decode cX11_moved 7 = .ok (.isub, 1) := by decide +kernel
theorem dX11_moved_8 : decode cX11_moved 8 = .ok (.invokestatic 140, 3) := by decide +kernel
theorem dX11_moved_11 : decode cX11_moved 11 = .ok (.ifCond .eq 12, 3) := by decide +kernel
theorem dX11_moved_14 : decode cX11_moved 14 = .ok (.aload_n 0, 1) := by decide +kernel
theorem dX11_moved_15 : decode cX11_moved 15 = .ok (.getfield 137, 3) := by decide +kernel
theorem dX11_moved_18 : decode cX11_moved 18 = .ok (.iload_n 1, 1) := by decide +kernel
theorem dX11_moved_19 : decode cX11_moved 19 = .ok (.iaload, 1) := by decide +kernel
theorem dX11_moved_20 : decode cX11_moved 20 = .ok (.goto 4, 3) := by decide +kernel
theorem dX11_moved_23 : decode cX11_moved 23 = .ok (.iconst (-1), 1) := by decide +kernel
theorem dX11_moved_24 : decode cX11_moved 24 = .ok (.ireturn, 1) := by decide +kernel
theorem dX11_count_0 : decode cX11_count 0 = .ok (.iload_n 1, 1) := by decide +kernel
theorem dX11_count_1 : decode cX11_count 1 = .ok (.tableswitch 110 0 9 #[55, 60, 65, 70, 75, 85, 90, 95, 100, 105], 55) := by decide +kernel
theorem dX11_count_56 : decode cX11_count 56 = .ok (.aload_n 0, 1) := by decide +kernel
theorem dX11_count_57 : decode cX11_count 57 = .ok (.getfield 144, 3) := by decide +kernel
theorem dX11_count_60 : decode cX11_count 60 = .ok (.ireturn, 1) := by decide +kernel
theorem dX11_count_61 : decode cX11_count 61 = .ok (.aload_n 0, 1) := by decide +kernel
theorem dX11_count_62 : decode cX11_count 62 = .ok (.getfield 160, 3) := by decide +kernel
theorem dX11_count_65 : decode cX11_count 65 = .ok (.ireturn, 1) := by decide +kernel
theorem dX11_count_66 : decode cX11_count 66 = .ok (.aload_n 0, 1) := by decide +kernel
theorem dX11_count_67 : decode cX11_count 67 = .ok (.getfield 151, 3) := by decide +kernel
theorem dX11_count_70 : decode cX11_count 70 = .ok (.ireturn, 1) := by decide +kernel
theorem dX11_count_71 : decode cX11_count 71 = .ok (.aload_n 0, 1) := by decide +kernel
theorem dX11_count_72 : decode cX11_count 72 = .ok (.getfield 148, 3) := by decide +kernel
theorem dX11_count_75 : decode cX11_count 75 = .ok (.ireturn, 1) := by decide +kernel
theorem dX11_count_76 : decode cX11_count 76 = .ok (.aload_n 0, 1) := by decide +kernel
theorem dX11_count_77 : decode cX11_count 77 = .ok (.getfield 13, 3) := by decide +kernel
theorem dX11_count_80 : decode cX11_count 80 = .ok (.aload_n 0, 1) := by decide +kernel
theorem dX11_count_81 : decode cX11_count 81 = .ok (.getfield 148, 3) := by decide +kernel
theorem dX11_count_84 : decode cX11_count 84 = .ok (.iaload, 1) := by decide +kernel
theorem dX11_count_85 : decode cX11_count 85 = .ok (.ireturn, 1) := by decide +kernel
theorem dX11_count_86 : decode cX11_count 86 = .ok (.aload_n 0, 1) := by decide +kernel
theorem dX11_count_87 : decode cX11_count 87 = .ok (.getfield 213, 3) := by decide +kernel
theorem dX11_count_90 : decode cX11_count 90 = .ok (.ireturn, 1) := by decide +kernel
theorem dX11_count_91 : decode cX11_count 91 = .ok (.aload_n 0, 1) := by decide +kernel
theorem dX11_count_92 : decode cX11_count 92 = .ok (.getfield 210, 3) := by decide +kernel
theorem dX11_count_95 : decode cX11_count 95 = .ok (.ireturn, 1) := by decide +kernel
theorem dX11_count_96 : decode cX11_count 96 = .ok (.aload_n 0, 1) := by decide +kernel
theorem dX11_count_97 : decode cX11_count 97 = .ok (.getfield 223, 3) := by decide +kernel
theorem dX11_count_100 : decode cX11_count 100 = .ok (.ireturn, 1) := by decide +kernel
theorem dX11_count_101 : decode cX11_count 101 = .ok (.aload_n 0, 1) := by decide +kernel
theorem dX11_count_102 : decode cX11_count 102 = .ok (.getfield 163, 3) := by decide +kernel
theorem dX11_count_105 : decode cX11_count 105 = .ok (.ireturn, 1) := by decide +kernel
theorem dX11_count_106 : decode cX11_count 106 = .ok (.aload_n 0, 1) := by decide +kernel
theorem dX11_count_107 : decode cX11_count 107 = .ok (.getfield 204, 3) := by decide +kernel
theorem dX11_count_110 : decode cX11_count 110 = .ok (.ireturn, 1) := by decide +kernel
theorem dX11_count_111 : decode cX11_count 111 = .ok (.iload_n 1, 1) := by decide +kernel
theorem dX11_count_112 : decode cX11_count 112 = .ok (.bipush 10, 2) := by decide +kernel
theorem dX11_count_114 : decode cX11_count 114 = .ok (.bipush 12, 2) := by decide +kernel
theorem dX11_count_116 : decode cX11_count 116 = .ok (.invokestatic 140, 3) := by decide +kernel
theorem dX11_count_119 : decode cX11_count 119 = .ok (.ifCond .eq 13, 3) := by decide +kernel
theorem dX11_count_122 : decode cX11_count 122 = .ok (.aload_n 0, 1) := by decide +kernel
theorem dX11_count_123 : decode cX11_count 123 = .ok (.getfield 95, 3) := by decide +kernel
theorem dX11_count_126 : decode cX11_count 126 = .ok (.iload_n 1, 1) := by decide +kernel
theorem dX11_count_127 : decode cX11_count 127 = .ok (.bipush 10, 2) := by decide +kernel
theorem dX11_count_129 : decode cX11_count 129 = .ok (.isub, 1) := by decide +kernel
theorem dX11_count_130 : decode cX11_count 130 = .ok (.iaload, 1) := by decide +kernel
theorem dX11_count_131 : decode cX11_count 131 = .ok (.ireturn, 1) := by decide +kernel
theorem dX11_count_132 : decode cX11_count 132 = .ok (.iload_n 1, 1) := by decide +kernel
theorem dX11_count_133 : decode cX11_count 133 = .ok (.bipush 20, 2) := by decide +kernel
theorem dX11_count_135 : decode cX11_count 135 = .ok (.bipush 23, 2) := by decide +kernel
theorem dX11_count_137 : decode cX11_count 137 = .ok (.invokestatic 140, 3) := by decide +kernel
theorem dX11_count_140 : decode cX11_count 140 = .ok (.ifCond .eq 13, 3) := by decide +kernel
theorem dX11_count_143 : decode cX11_count 143 = .ok (.aload_n 0, 1) := by decide +kernel
theorem dX11_count_144 : decode cX11_count 144 = .ok (.getfield 65, 3) := by decide +kernel
theorem dX11_count_147 : decode cX11_count 147 = .ok (.iload_n 1, 1) := by decide +kernel
theorem dX11_count_148 : decode cX11_count 148 = .ok (.bipush 20, 2) := by decide +kernel
theorem dX11_count_150 : decode cX11_count 150 = .ok (.isub, 1) := by decide +kernel
theorem dX11_count_151 : decode cX11_count 151 = .ok (.iaload, 1) := by decide +kernel
theorem dX11_count_152 : decode cX11_count 152 = .ok (.ireturn, 1) := by decide +kernel
theorem dX11_count_153 : decode cX11_count 153 = .ok (.iload_n 1, 1) := by decide +kernel
theorem dX11_count_154 : decode cX11_count 154 = .ok (.bipush 30, 2) := by decide +kernel
theorem dX11_count_156 : decode cX11_count 156 = .ok (.bipush 34, 2) := by decide +kernel
theorem dX11_count_158 : decode cX11_count 158 = .ok (.invokestatic 140, 3) := by decide +kernel
theorem dX11_count_161 : decode cX11_count 161 = .ok (.ifCond .eq 15, 3) := by decide +kernel
theorem dX11_count_164 : decode cX11_count 164 = .ok (.aload_n 0, 1) := by decide +kernel
theorem dX11_count_165 : decode cX11_count 165 = .ok (.getfield 62, 3) := by decide +kernel
theorem dX11_count_168 : decode cX11_count 168 = .ok (.iload_n 1, 1) := by decide +kernel
theorem dX11_count_169 : decode cX11_count 169 = .ok (.bipush 30, 2) := by decide +kernel
theorem dX11_count_171 : decode cX11_count 171 = .ok (.isub, 1) := by decide +kernel
theorem dX11_count_172 : decode cX11_count 172 = .ok (.iaload, 1) := by decide +kernel
theorem dX11_count_173 : decode cX11_count 173 = .ok (.goto 4, 3) := by decide +kernel
theorem dX11_count_176 : decode cX11_count 176 = .ok (.iconst (-1), 1) := by decide +kernel
theorem dX11_count_177 : decode cX11_count 177 = .ok (.ireturn, 1) := by decide +kernel
