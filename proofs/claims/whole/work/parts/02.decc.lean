theorem dX12_init_0 : decode cX12_init 0 = .ok (.aload_n 0, 1) := by decide +kernel
theorem dX12_init_1 : decode cX12_init 1 = .ok (.invokespecial 1, 3) := by decide +kernel
theorem dX12_init_4 : decode cX12_init 4 = .ok (.aload_n 0, 1) := by decide +kernel
theorem dX12_init_5 : decode cX12_init 5 = .ok (.sipush 200, 3) := by decide +kernel
theorem dX12_init_8 : decode cX12_init 8 = .ok (.newarray .byte, 2) := by decide +kernel
theorem dX12_init_10 : decode cX12_init 10 = .ok (.putfield 7, 3) := by decide +kernel
theorem dX12_init_13 : decode cX12_init 13 = .ok (.aload_n 0, 1) := by decide +kernel
theorem dX12_init_14 : decode cX12_init 14 = .ok (.bipush 26, 2) := by decide +kernel
theorem dX12_init_16 : decode cX12_init 16 = .ok (.newarray .int, 2) := by decide +kernel
theorem dX12_init_18 : decode cX12_init 18 = .ok (.dup, 1) := by decide +kernel
theorem dX12_init_19 : decode cX12_init 19 = .ok (.iconst 0, 1) := by decide +kernel
theorem dX12_init_20 : decode cX12_init 20 = .ok (.iconst 0, 1) := by decide +kernel
theorem dX12_init_21 : decode cX12_init 21 = .ok (.iastore, 1) := by decide +kernel
theorem dX12_init_22 : decode cX12_init 22 = .ok (.dup, 1) := by decide +kernel
theorem dX12_init_23 : decode cX12_init 23 = .ok (.iconst 1, 1) := by decide +kernel
theorem dX12_init_24 : decode cX12_init 24 = .ok (.iconst 1, 1) := by decide +kernel
theorem dX12_init_25 : decode cX12_init 25 = .ok (.iastore, 1) := by decide +kernel
theorem dX12_init_26 : decode cX12_init 26 = .ok (.dup, 1) := by decide +kernel
theorem dX12_init_27 : decode cX12_init 27 = .ok (.iconst 2, 1) := by decide +kernel
theorem dX12_init_28 : decode cX12_init 28 = .ok (.iconst 2, 1) := by decide +kernel
theorem dX12_init_29 : decode cX12_init 29 = .ok (.iastore, 1) := by decide +kernel
theorem dX12_init_30 : decode cX12_init 30 = .ok (.dup, 1) := by decide +kernel
theorem dX12_init_31 : decode cX12_init 31 = .ok (.iconst 3, 1) := by decide +kernel
theorem dX12_init_32 : decode cX12_init 32 = .ok (.iconst 3, 1) := by decide +kernel
theorem dX12_init_33 : decode cX12_init 33 = .ok (.iastore, 1) := by decide +kernel
theorem dX12_init_34 : decode cX12_init 34 = .ok (.dup, 1) := by decide +kernel
theorem dX12_init_35 : decode cX12_init 35 = .ok (.iconst 4, 1) := by decide +kernel
theorem dX12_init_36 : decode cX12_init 36 = .ok (.iconst 4, 1) := by decide +kernel
theorem dX12_init_37 : decode cX12_init 37 = .ok (.iastore, 1) := by decide +kernel
theorem dX12_init_38 : decode cX12_init 38 = .ok (.dup, 1) := by decide +kernel
theorem dX12_init_39 : decode cX12_init 39 = .ok (.iconst 5, 1) := by decide +kernel
theorem dX12_init_40 : decode cX12_init 40 = .ok (.iconst 5, 1) := by decide +kernel
theorem dX12_init_41 : decode cX12_init 41 = .ok (.iastore, 1) := by decide +kernel
theorem dX12_init_42 : decode cX12_init 42 = .ok (.dup, 1) := by decide +kernel
theorem dX12_init_43 : decode cX12_init 43 = .ok (.bipush 6, 2) := by decide +kernel
theorem dX12_init_45 : decode cX12_init 45 = .ok (.bipush 6, 2) := by decide +kernel
theorem dX12_init_47 : decode cX12_init 47 = .ok (.iastore, 1) := by decide +kernel
theorem dX12_init_48 : decode cX12_init 48 = .ok (.dup, 1) := by decide +kernel
theorem dX12_init_49 : decode cX12_init 49 = .ok (.bipush 7, 2) := by decide +kernel
theorem dX12_init_51 : decode cX12_init 51 = .ok (.bipush 7, 2) := by decide +kernel
theorem dX12_init_53 : decode cX12_init 53 = .ok (.iastore, 1) := by decide +kernel
theorem dX12_init_54 : decode cX12_init 54 = .ok (.dup, 1) := by decide +kernel
theorem dX12_init_55 : decode cX12_init 55 = .ok (.bipush 8, 2) := by decide +kernel
theorem dX12_init_57 : decode cX12_init 57 = .ok (.bipush 8, 2) := by decide +kernel
theorem dX12_init_59 : decode cX12_init 59 = .ok (.iastore, 1) := by decide +kernel
theorem dX12_init_60 : decode cX12_init 60 = .ok (.dup, 1) := by decide +kernel
theorem dX12_init_61 : decode cX12_init 61 = .ok (.bipush 9, 2) := by decide +kernel
theorem dX12_init_63 : decode cX12_init 63 = .ok (.bipush 9, 2) := by decide +kernel
theorem dX12_init_65 : decode cX12_init 65 = .ok (.iastore, 1) := by decide +kernel
theorem dX12_init_66 : decode cX12_init 66 = .ok (.dup, 1) := by decide +kernel
theorem dX12_init_67 : decode cX12_init 67 = .ok (.bipush 10, 2) := by decide +kernel
theorem dX12_init_69 : decode cX12_init 69 = .ok (.bipush 10, 2) := by decide +kernel
theorem dX12_init_71 : decode cX12_init 71 = .ok (.iastore, 1) := by decide +kernel
theorem dX12_init_72 : decode cX12_init 72 = .ok (.dup, 1) := by decide +kernel
theorem dX12_init_73 : decode cX12_init 73 = .ok (.bipush 11, 2) := by decide +kernel
theorem dX12_init_75 : decode cX12_init 75 = .ok (.bipush 11, 2) := by decide +kernel
theorem dX12_init_77 : decode cX12_init 77 = .ok (.iastore, 1) := by decide +kernel
theorem dX12_init_78 : decode cX12_init 78 = .ok (.dup, 1) := by decide +kernel
theorem dX12_init_79 : decode cX12_init 79 = .ok (.bipush 12, 2) := by decide +kernel
theorem dX12_init_81 : decode cX12_init 81 = .ok (.bipush 12, 2) := by decide +kernel
theorem dX12_init_83 : decode cX12_init 83 = .ok (.iastore, 1) := by decide +kernel
theorem dX12_init_84 : decode cX12_init 84 = .ok (.dup, 1) := by decide +kernel
theorem dX12_init_85 : decode cX12_init 85 = .ok (.bipush 13, 2) := by decide +kernel
theorem dX12_init_87 : decode cX12_init 87 = .ok (.bipush 13, 2) := by decide +kernel
theorem dX12_init_89 : decode cX12_init 89 = .ok (.iastore, 1) := by decide +kernel
theorem dX12_init_90 : decode cX12_init 90 = .ok (.dup, 1) := by decide +kernel
theorem dX12_init_91 : decode cX12_init 91 = .ok (.bipush 14, 2) := by decide +kernel
theorem dX12_init_93 : decode cX12_init 93 = .ok (.bipush 14, 2) := by decide +kernel
theorem dX12_init_95 : decode cX12_init 95 = .ok (.iastore, 1) := by decide +kernel
theorem dX12_init_96 : decode cX12_init 96 = .ok (.dup, 1) := by decide +kernel
theorem dX12_init_97 : decode cX12_init 97 = .ok (.bipush 15, 2) := by decide +kernel
theorem dX12_init_99 : decode cX12_init 99 = .ok (.bipush 15, 2) := by decide +kernel
theorem dX12_init_101 : decode cX12_init 101 = .ok (.iastore, 1) := by decide +kernel
theorem dX12_init_102 : decode cX12_init 102 = .ok (.dup, 1) := by decide +kernel
theorem dX12_init_103 : decode cX12_init 103 = .ok (.bipush 16, 2) := by decide +kernel
theorem dX12_init_105 : decode cX12_init 105 = .ok (.bipush 16, 2) := by decide +kernel
theorem dX12_init_107 : decode cX12_init 107 = .ok (.iastore, 1) := by decide +kernel
theorem dX12_init_108 : decode cX12_init 108 = .ok (.dup, 1) := by decide +kernel
theorem dX12_init_109 : decode cX12_init 109 = .ok (.bipush 17, 2) := by decide +kernel
theorem dX12_init_111 : decode cX12_init 111 = .ok (.bipush 17, 2) := by decide +kernel
theorem dX12_init_113 : decode cX12_init 113 = .ok (.iastore, 1) := by decide +kernel
theorem dX12_init_114 : decode cX12_init 114 = .ok (.dup, 1) := by decide +kernel
theorem dX12_init_115 : decode cX12_init 115 = .ok (.bipush 18, 2) := by decide +kernel
theorem dX12_init_117 : decode cX12_init 117 = .ok (.bipush 18, 2) := by decide +kernel
theorem dX12_init_119 : decode cX12_init 119 = .ok (.iastore, 1) := by decide +kernel
theorem dX12_init_120 : decode cX12_init 120 = .ok (.dup, 1) := by decide +kernel
theorem dX12_init_121 : decode cX12_init 121 = .ok (.bipush 19, 2) := by decide +kernel
theorem dX12_init_123 : decode cX12_init 123 = .ok (.bipush 19, 2) := by decide +kernel
theorem dX12_init_125 : decode cX12_init 125 = .ok (.iastore, 1) := by decide +kernel
theorem dX12_init_126 : decode cX12_init 126 = .ok (.dup, 1) := by decide +kernel
theorem dX12_init_127 : decode cX12_init 127 = .ok (.bipush 20, 2) := by decide +kernel
theorem dX12_init_129 : decode cX12_init 129 = .ok (.bipush 20, 2) := by decide +kernel
theorem dX12_init_131 : decode cX12_init 131 = .ok (.iastore, 1) := by decide +kernel
theorem dX12_init_132 : decode cX12_init 132 = .ok (.dup, 1) := by decide +kernel
theorem dX12_init_133 : decode cX12_init 133 = .ok (.bipush 21, 2) := by decide +kernel
theorem dX12_init_135 : decode cX12_init 135 = .ok (.bipush 21, 2) := by decide +kernel
theorem dX12_init_137 : decode cX12_init 137 = .ok (.iastore, 1) := by decide +kernel
theorem dX12_init_138 : decode cX12_init 138 = .ok (.dup, 1) := by decide +kernel
theorem dX12_init_139 : decode cX12_init 139 = .ok (.bipush 22, 2) := by decide +kernel
theorem dX12_init_141 : decode cX12_init 141 = .ok (.bipush 22, 2) := by decide +kernel
theorem dX12_init_143 : decode cX12_init 143 = .ok (.iastore, 1) := by decide +kernel
theorem dX12_init_144 : decode cX12_init 144 = .ok (.dup, 1) := by decide +kernel
theorem dX12_init_145 : decode cX12_init 145 = .ok (.bipush 23, 2) := by decide +kernel
theorem dX12_init_147 : decode cX12_init 147 = .ok (.bipush 23, 2) := by decide +kernel
theorem dX12_init_149 : decode cX12_init 149 = .ok (.iastore, 1) := by decide +kernel
theorem dX12_init_150 : decode cX12_init 150 = .ok (.dup, 1) := by decide +kernel
theorem dX12_init_151 : decode cX12_init 151 = .ok (.bipush 24, 2) := by decide +kernel
theorem dX12_init_153 : decode cX12_init 153 = .ok (.bipush 24, 2) := by decide +kernel
theorem dX12_init_155 : decode cX12_init 155 = .ok (.iastore, 1) := by decide +kernel
theorem dX12_init_156 : decode cX12_init 156 = .ok (.dup, 1) := by decide +kernel
theorem dX12_init_157 : decode cX12_init 157 = .ok (.bipush 25, 2) := by decide +kernel
theorem dX12_init_159 : decode cX12_init 159 = .ok (.bipush 25, 2) := by decide +kernel
theorem dX12_init_161 : decode cX12_init 161 = .ok (.iastore, 1) := by decide +kernel
theorem dX12_init_162 : decode cX12_init 162 = .ok (.putfield 13, 3) := by decide +kernel
theorem dX12_init_165 : decode cX12_init 165 = .ok (.aload_n 0, 1) := by decide +kernel
theorem dX12_init_166 : decode cX12_init 166 = .ok (.bipush 81, 2) := by decide +kernel
theorem dX12_init_168 : decode cX12_init 168 = .ok (.newarray .int, 2) := by decide +kernel
theorem dX12_init_170 : decode cX12_init 170 = .ok (.putfield 17, 3) := by decide +kernel
theorem dX12_init_173 : decode cX12_init 173 = .ok (.aload_n 0, 1) := by decide +kernel
theorem dX12_init_174 : decode cX12_init 174 = .ok (.iconst 5, 1) := by decide +kernel
theorem dX12_init_175 : decode cX12_init 175 = .ok (.newarray .int, 2) := by decide +kernel
theorem dX12_init_177 : decode cX12_init 177 = .ok (.putfield 20, 3) := by decide +kernel
theorem dX12_init_180 : decode cX12_init 180 = .ok (.aload_n 0, 1) := by decide +kernel
theorem dX12_init_181 : decode cX12_init 181 = .ok (.iconst 5, 1) := by decide +kernel
theorem dX12_init_182 : decode cX12_init 182 = .ok (.newarray .int, 2) := by decide +kernel
theorem dX12_init_184 : decode cX12_init 184 = .ok (.putfield 23, 3) := by decide +kernel
theorem dX12_init_187 : decode cX12_init 187 = .ok (.aload_n 0, 1) := by decide +kernel
theorem dX12_init_188 : decode cX12_init 188 = .ok (.bipush 50, 2) := by decide +kernel
theorem dX12_init_190 : decode cX12_init 190 = .ok (.newarray .long, 2) := by decide +kernel
theorem dX12_init_192 : decode cX12_init 192 = .ok (.putfield 26, 3) := by decide +kernel
theorem dX12_init_195 : decode cX12_init 195 = .ok (.aload_n 0, 1) := by decide +kernel
theorem dX12_init_196 : decode cX12_init 196 = .ok (.sipush 450, 3) := by decide +kernel
theorem dX12_init_199 : decode cX12_init 199 = .ok (.newarray .int, 2) := by decide +kernel
theorem dX12_init_201 : decode cX12_init 201 = .ok (.putfield 30, 3) := by decide +kernel
theorem dX12_init_204 : decode cX12_init 204 = .ok (.aload_n 0, 1) := by decide +kernel
theorem dX12_init_205 : decode cX12_init 205 = .ok (.bipush 50, 2) := by decide +kernel
theorem dX12_init_207 : decode cX12_init 207 = .ok (.newarray .int, 2) := by decide +kernel
theorem dX12_init_209 : decode cX12_init 209 = .ok (.putfield 33, 3) := by decide +kernel
theorem dX12_init_212 : decode cX12_init 212 = .ok (.aload_n 0, 1) := by decide +kernel
theorem dX12_init_213 : decode cX12_init 213 = .ok (.iconst (-1), 1) := by decide +kernel
theorem dX12_init_214 : decode cX12_init 214 = .ok (.putfield 36, 3) := by decide +kernel
theorem dX12_init_217 : decode cX12_init 217 = .ok (.aload_n 0, 1) := by decide +kernel
theorem dX12_init_218 : decode cX12_init 218 = .ok (.bipush 12, 2) := by decide +kernel
theorem dX12_init_220 : decode cX12_init 220 = .ok (.newarray .int, 2) := by decide +kernel
theorem dX12_init_222 : decode cX12_init 222 = .ok (.putfield 40, 3) := by decide +kernel
theorem dX12_init_225 : decode cX12_init 225 = .ok (.aload_n 0, 1) := by decide +kernel
theorem dX12_init_226 : decode cX12_init 226 = .ok (.bipush 12, 2) := by decide +kernel
theorem dX12_init_228 : decode cX12_init 228 = .ok (.newarray .long, 2) := by decide +kernel
theorem dX12_init_230 : decode cX12_init 230 = .ok (.putfield 43, 3) := by decide +kernel
theorem dX12_init_233 : decode cX12_init 233 = .ok (.aload_n 0, 1) := by decide +kernel
theorem dX12_init_234 : decode cX12_init 234 = .ok (.bipush 12, 2) := by decide +kernel
theorem dX12_init_236 : decode cX12_init 236 = .ok (.newarray .int, 2) := by decide +kernel
theorem dX12_init_238 : decode cX12_init 238 = .ok (.putfield 46, 3) := by decide +kernel
theorem dX12_init_241 : decode cX12_init 241 = .ok (.aload_n 0, 1) := by decide +kernel
theorem dX12_init_242 : decode cX12_init 242 = .ok (.bipush 12, 2) := by decide +kernel
theorem dX12_init_244 : decode cX12_init 244 = .ok (.newarray .int, 2) := by decide +kernel
theorem dX12_init_246 : decode cX12_init 246 = .ok (.putfield 49, 3) := by decide +kernel
theorem dX12_init_249 : decode cX12_init 249 = .ok (.aload_n 0, 1) := by decide +kernel
theorem dX12_init_250 : decode cX12_init 250 = .ok (.bipush 12, 2) := by decide +kernel
theorem dX12_init_252 : decode cX12_init 252 = .ok (.newarray .long, 2) := by decide +kernel
theorem dX12_init_254 : decode cX12_init 254 = .ok (.putfield 52, 3) := by decide +kernel
theorem dX12_init_257 : decode cX12_init 257 = .ok (.aload_n 0, 1) := by decide +kernel
theorem dX12_init_258 : decode cX12_init 258 = .ok (.bipush 12, 2) := by decide +kernel
theorem dX12_init_260 : decode cX12_init 260 = .ok (.newarray .int, 2) := by decide +kernel
theorem dX12_init_262 : decode cX12_init 262 = .ok (.putfield 55, 3) := by decide +kernel
theorem dX12_init_265 : decode cX12_init 265 = .ok (.aload_n 0, 1) := by decide +kernel
theorem dX12_init_266 : decode cX12_init 266 = .ok (.bipush 12, 2) := by decide +kernel
theorem dX12_init_268 : decode cX12_init 268 = .ok (.newarray .int, 2) := by decide +kernel
theorem dX12_init_270 : decode cX12_init 270 = .ok (.putfield 58, 3) := by decide +kernel
theorem dX12_init_273 : decode cX12_init 273 = .ok (.aload_n 0, 1) := by decide +kernel
theorem dX12_init_274 : decode cX12_init 274 = .ok (.bipush 20, 2) := by decide +kernel
theorem dX12_init_276 : decode cX12_init 276 = .ok (.newarray .int, 2) := by decide +kernel
theorem dX12_init_278 : decode cX12_init 278 = .ok (.putfield 61, 3) := by decide +kernel
theorem dX12_init_281 : decode cX12_init 281 = .ok (.aload_n 0, 1) := by decide +kernel
theorem dX12_init_282 : decode cX12_init 282 = .ok (.bipush 20, 2) := by decide +kernel
theorem dX12_init_284 : decode cX12_init 284 = .ok (.newarray .int, 2) := by decide +kernel
theorem dX12_init_286 : decode cX12_init 286 = .ok (.putfield 64, 3) := by decide +kernel
theorem dX12_init_289 : decode cX12_init 289 = .ok (.aload_n 0, 1) := by decide +kernel
theorem dX12_init_290 : decode cX12_init 290 = .ok (.bipush 20, 2) := by decide +kernel
theorem dX12_init_292 : decode cX12_init 292 = .ok (.newarray .int, 2) := by decide +kernel
theorem dX12_init_294 : decode cX12_init 294 = .ok (.putfield 67, 3) := by decide +kernel
theorem dX12_init_297 : decode cX12_init 297 = .ok (.aload_n 0, 1) := by decide +kernel
theorem dX12_init_298 : decode cX12_init 298 = .ok (.bipush 10, 2) := by decide +kernel
theorem dX12_init_300 : decode cX12_init 300 = .ok (.putfield 70, 3) := by decide +kernel
theorem dX12_init_303 : decode cX12_init 303 = .ok (.aload_n 0, 1) := by decide +kernel
theorem dX12_init_304 : decode cX12_init 304 = .ok (.bipush 6, 2) := by decide +kernel
theorem dX12_init_306 : decode cX12_init 306 = .ok (.putfield 73, 3) := by decide +kernel
theorem dX12_init_309 : decode cX12_init 309 = .ok (.aload_n 0, 1) := by decide +kernel
theorem dX12_init_310 : decode cX12_init 310 = .ok (.sipush 210, 3) := by decide +kernel
theorem dX12_init_313 : decode cX12_init 313 = .ok (.newarray .int, 2) := by decide +kernel
theorem dX12_init_315 : decode cX12_init 315 = .ok (.putfield 76, 3) := by decide +kernel
theorem dX12_init_318 : decode cX12_init 318 = .ok (.aload_n 0, 1) := by decide +kernel
theorem dX12_init_319 : decode cX12_init 319 = .ok (.sipush 210, 3) := by decide +kernel
theorem dX12_init_322 : decode cX12_init 322 = .ok (.newarray .int, 2) := by decide +kernel
theorem dX12_init_324 : decode cX12_init 324 = .ok (.putfield 79, 3) := by decide +kernel
theorem dX12_init_327 : decode cX12_init 327 = .ok (.aload_n 0, 1) := by decide +kernel
theorem dX12_init_328 : decode cX12_init 328 = .ok (.bipush 10, 2) := by decide +kernel
theorem dX12_init_330 : decode cX12_init 330 = .ok (.newarray .int, 2) := by decide +kernel
theorem dX12_init_332 : decode cX12_init 332 = .ok (.putfield 82, 3) := by decide +kernel
theorem dX12_init_335 : decode cX12_init 335 = .ok (.aload_n 0, 1) := by decide +kernel
theorem dX12_init_336 : decode cX12_init 336 = .ok (.sipush 6010, 3) := by decide +kernel
theorem dX12_init_339 : decode cX12_init 339 = .ok (.newarray .int, 2) := by decide +kernel
theorem dX12_init_341 : decode cX12_init 341 = .ok (.putfield 85, 3) := by decide +kernel
theorem dX12_init_344 : decode cX12_init 344 = .ok (.aload_n 0, 1) := by decide +kernel
theorem dX12_init_345 : decode cX12_init 345 = .ok (.sipush 6010, 3) := by decide +kernel
theorem dX12_init_348 : decode cX12_init 348 = .ok (.newarray .int, 2) := by decide +kernel
theorem dX12_init_350 : decode cX12_init 350 = .ok (.putfield 88, 3) := by decide +kernel
theorem dX12_init_353 : decode cX12_init 353 = .ok (.aload_n 0, 1) := by decide +kernel
theorem dX12_init_354 : decode cX12_init 354 = .ok (.sipush 6010, 3) := by decide +kernel
theorem dX12_init_357 : decode cX12_init 357 = .ok (.newarray .int, 2) := by decide +kernel
theorem dX12_init_359 : decode cX12_init 359 = .ok (.putfield 91, 3) := by decide +kernel
theorem dX12_init_362 : decode cX12_init 362 = .ok (.aload_n 0, 1) := by decide +kernel
theorem dX12_init_363 : decode cX12_init 363 = .ok (.bipush 10, 2) := by decide +kernel
theorem dX12_init_365 : decode cX12_init 365 = .ok (.newarray .int, 2) := by decide +kernel
theorem dX12_init_367 : decode cX12_init 367 = .ok (.putfield 94, 3) := by decide +kernel
theorem dX12_init_370 : decode cX12_init 370 = .ok (.aload_n 0, 1) := by decide +kernel
theorem dX12_init_371 : decode cX12_init 371 = .ok (.bipush 10, 2) := by decide +kernel
theorem dX12_init_373 : decode cX12_init 373 = .ok (.newarray .int, 2) := by decide +kernel
theorem dX12_init_375 : decode cX12_init 375 = .ok (.putfield 97, 3) := by decide +kernel
theorem dX12_init_378 : decode cX12_init 378 = .ok (.aload_n 0, 1) := by decide +kernel
theorem dX12_init_379 : decode cX12_init 379 = .ok (.sipush 25242, 3) := by decide +kernel
theorem dX12_init_382 : decode cX12_init 382 = .ok (.newarray .int, 2) := by decide +kernel
theorem dX12_init_384 : decode cX12_init 384 = .ok (.putfield 100, 3) := by decide +kernel
theorem dX12_init_387 : decode cX12_init 387 = .ok (.aload_n 0, 1) := by decide +kernel
theorem dX12_init_388 : decode cX12_init 388 = .ok (.bipush 10, 2) := by decide +kernel
theorem dX12_init_390 : decode cX12_init 390 = .ok (.newarray .int, 2) := by decide +kernel
theorem dX12_init_392 : decode cX12_init 392 = .ok (.putfield 103, 3) := by decide +kernel
theorem dX12_init_395 : decode cX12_init 395 = .ok (.return_, 1) := by decide +kernel
theorem dX12_thrown_0 : decode cX12_thrown 0 = .ok (.aload_n 0, 1) := by decide +kernel
theorem dX12_thrown_1 : decode cX12_thrown 1 = .ok (.getfield 106, 3) := by decide +kernel
theorem dX12_thrown_4 : decode cX12_thrown 4 = .ok (.ireturn, 1) := by decide +kernel
theorem dX12_within_0 : decode cX12_within 0 = .ok (.iload_n 0, 1) := by decide +kernel
theorem dX12_within_1 : decode cX12_within 1 = .ok (.iload_n 1, 1) := by decide +kernel
theorem dX12_within_2 : decode cX12_within 2 = .ok (.if_icmp .lt 12, 3) := by decide +kernel
theorem dX12_within_5 : decode cX12_within 5 = .ok (.iload_n 0, 1) := by decide +kernel
theorem dX12_within_6 : decode cX12_within 6 = .ok (.iload_n 2, 1) := by decide +kernel
theorem dX12_within_7 : decode cX12_within 7 = .ok (.if_icmp .gt 7, 3) := by decide +kernel
theorem dX12_within_10 : decode cX12_within 10 = .ok (.iconst 1, 1) := by decide +kernel
theorem dX12_within_11 : decode cX12_within 11 = .ok (.goto 4, 3) := by decide +kernel
theorem dX12_within_14 : decode cX12_within 14 = .ok (.iconst 0, 1) := by decide +kernel
theorem dX12_within_15 : decode cX12_within 15 = .ok (.ireturn, 1) := by decide +kernel
theorem dX12_feed_0 : decode cX12_feed 0 = .ok (.aload_n 0, 1) := by decide +kernel
theorem dX12_feed_1 : decode cX12_feed 1 = .ok (.iconst 0, 1) := by decide +kernel
theorem dX12_feed_2 : decode cX12_feed 2 = .ok (.putfield 106, 3) := by decide +kernel
theorem dX12_feed_5 : decode cX12_feed 5 = .ok (.aload_n 0, 1) := by decide +kernel
theorem dX12_feed_6 : decode cX12_feed 6 = .ok (.getfield 109, 3) := by decide +kernel
theorem dX12_feed_9 : decode cX12_feed 9 = .ok (.sipush 180, 3) := by decide +kernel
theorem dX12_feed_12 : decode cX12_feed 12 = .ok (.if_icmp .le 5, 3) := by decide +kernel
theorem dX12_feed_15 : decode cX12_feed 15 = .ok (.iconst (-1), 1) := by decide +kernel
theorem dX12_feed_16 : decode cX12_feed 16 = .ok (.ireturn, 1) := by decide +kernel
theorem dX12_feed_17 : decode cX12_feed 17 = .ok (.iconst 0, 1) := by decide +kernel
theorem dX12_feed_18 : decode cX12_feed 18 = .ok (.istore 6, 2) := by decide +kernel
theorem dX12_feed_20 : decode cX12_feed 20 = .ok (.iload 6, 2) := by decide +kernel
theorem dX12_feed_22 : decode cX12_feed 22 = .ok (.bipush 20, 2) := by decide +kernel
theorem dX12_feed_24 : decode cX12_feed 24 = .ok (.if_icmp .ge 90, 3) := by decide +kernel
theorem dX12_feed_27 : decode cX12_feed 27 = .ok (.iload 6, 2) := by decide +kernel
theorem dX12_feed_29 : decode cX12_feed 29 = .ok (.iconst 4, 1) := by decide +kernel
theorem dX12_feed_30 : decode cX12_feed 30 = .ok (.if_icmp .ge 7, 3) := by decide +kernel
theorem dX12_feed_33 : decode cX12_feed 33 = .ok (.iload_n 1, 1) := by decide +kernel
theorem dX12_feed_34 : decode cX12_feed 34 = .ok (.goto 39, 3) := by decide +kernel
theorem dX12_feed_37 : decode cX12_feed 37 = .ok (.iload 6, 2) := by decide +kernel
theorem dX12_feed_39 : decode cX12_feed 39 = .ok (.bipush 8, 2) := by decide +kernel
theorem dX12_feed_41 : decode cX12_feed 41 = .ok (.if_icmp .ge 7, 3) := by decide +kernel
theorem dX12_feed_44 : decode cX12_feed 44 = .ok (.iload_n 2, 1) := by decide +kernel
theorem dX12_feed_45 : decode cX12_feed 45 = .ok (.goto 28, 3) := by decide +kernel
theorem dX12_feed_48 : decode cX12_feed 48 = .ok (.iload 6, 2) := by decide +kernel
theorem dX12_feed_50 : decode cX12_feed 50 = .ok (.bipush 12, 2) := by decide +kernel
theorem dX12_feed_52 : decode cX12_feed 52 = .ok (.if_icmp .ge 7, 3) := by decide +kernel
theorem dX12_feed_55 : decode cX12_feed 55 = .ok (.iload_n 3, 1) := by decide +kernel
theorem dX12_feed_56 : decode cX12_feed 56 = .ok (.goto 17, 3) := by decide +kernel
theorem dX12_feed_59 : decode cX12_feed 59 = .ok (.iload 6, 2) := by decide +kernel
theorem dX12_feed_61 : decode cX12_feed 61 = .ok (.bipush 16, 2) := by decide +kernel
theorem dX12_feed_63 : decode cX12_feed 63 = .ok (.if_icmp .ge 8, 3) := by decide +kernel
theorem dX12_feed_66 : decode cX12_feed 66 = .ok (.iload 4, 2) := by decide +kernel
theorem dX12_feed_68 : decode cX12_feed 68 = .ok (.goto 5, 3) := by decide +kernel
theorem dX12_feed_71 : decode cX12_feed 71 = .ok (.iload 5, 2) := by decide +kernel
theorem dX12_feed_73 : decode cX12_feed 73 = .ok (.istore 7, 2) := by decide +kernel
theorem dX12_feed_75 : decode cX12_feed 75 = .ok (.aload_n 0, 1) := by decide +kernel
theorem dX12_feed_76 : decode cX12_feed 76 = .ok (.getfield 7, 3) := by decide +kernel
theorem dX12_feed_79 : decode cX12_feed 79 = .ok (.aload_n 0, 1) := by decide +kernel
theorem dX12_feed_80 : decode cX12_feed 80 = .ok (.getfield 109, 3) := by decide +kernel
theorem dX12_feed_83 : decode cX12_feed 83 = .ok (.iload 7, 2) := by decide +kernel
theorem dX12_feed_85 : decode cX12_feed 85 = .ok (.bipush 24, 2) := by decide +kernel
theorem dX12_feed_87 : decode cX12_feed 87 = .ok (.bipush 8, 2) := by decide +kernel
theorem dX12_feed_89 : decode cX12_feed 89 = .ok (.iload 6, 2) := by decide +kernel
theorem dX12_feed_91 : decode cX12_feed 91 = .ok (.iconst 4, 1) := by decide +kernel
theorem dX12_feed_92 : decode cX12_feed 92 = .ok (.irem, 1) := by decide +kernel
theorem dX12_feed_93 : decode cX12_feed 93 = .ok (.imul, 1) := by decide +kernel
theorem dX12_feed_94 : decode cX12_feed 94 = .ok (.isub, 1) := by decide +kernel
theorem dX12_feed_95 : decode cX12_feed 95 = .ok (.ishr, 1) := by decide +kernel
theorem dX12_feed_96 : decode cX12_feed 96 = .ok (.i2b, 1) := by decide +kernel
theorem dX12_feed_97 : decode cX12_feed 97 = .ok (.bastore, 1) := by decide +kernel
theorem dX12_feed_98 : decode cX12_feed 98 = .ok (.aload_n 0, 1) := by decide +kernel
theorem dX12_feed_99 : decode cX12_feed 99 = .ok (.dup, 1) := by decide +kernel
theorem dX12_feed_100 : decode cX12_feed 100 = .ok (.getfield 109, 3) := by decide +kernel
theorem dX12_feed_103 : decode cX12_feed 103 = .ok (.iconst 1, 1) := by decide +kernel
theorem dX12_feed_104 : decode cX12_feed 104 = .ok (.iadd, 1) := by decide +kernel
theorem dX12_feed_105 : decode cX12_feed 105 = .ok (.putfield 109, 3) := by decide +kernel
theorem dX12_feed_108 : decode cX12_feed 108 = .ok (.iinc 6 1, 3) := by decide +kernel
theorem dX12_feed_111 : decode cX12_feed 111 = .ok (.goto (-91), 3) := by decide +kernel
theorem dX12_feed_114 : decode cX12_feed 114 = .ok (.aload_n 0, 1) := by decide +kernel
theorem dX12_feed_115 : decode cX12_feed 115 = .ok (.getfield 109, 3) := by decide +kernel
theorem dX12_feed_118 : decode cX12_feed 118 = .ok (.ireturn, 1) := by decide +kernel
theorem dX12_end_0 : decode cX12_end 0 = .ok (.aload_n 0, 1) := by decide +kernel
theorem dX12_end_1 : decode cX12_end 1 = .ok (.iconst 0, 1) := by decide +kernel
theorem dX12_end_2 : decode cX12_end 2 = .ok (.putfield 106, 3) := by decide +kernel
theorem dX12_end_5 : decode cX12_end 5 = .ok (.iload_n 1, 1) := by decide +kernel
theorem dX12_end_6 : decode cX12_end 6 = .ok (.iconst 0, 1) := by decide +kernel
theorem dX12_end_7 : decode cX12_end 7 = .ok (.aload_n 0, 1) := by decide +kernel
theorem dX12_end_8 : decode cX12_end 8 = .ok (.getfield 109, 3) := by decide +kernel
theorem dX12_end_11 : decode cX12_end 11 = .ok (.invokestatic 112, 3) := by decide +kernel
theorem dX12_end_14 : decode cX12_end 14 = .ok (.ifCond .ne 5, 3) := by decide +kernel
theorem dX12_end_17 : decode cX12_end 17 = .ok (.iconst (-1), 1) := by decide +kernel
theorem dX12_end_18 : decode cX12_end 18 = .ok (.ireturn, 1) := by decide +kernel
theorem dX12_end_19 : decode cX12_end 19 = .ok (.aload_n 0, 1) := by decide +kernel
theorem dX12_end_20 : decode cX12_end 20 = .ok (.iload_n 1, 1) := by decide +kernel
theorem dX12_end_21 : decode cX12_end 21 = .ok (.putfield 109, 3) := by decide +kernel
theorem dX12_end_24 : decode cX12_end 24 = .ok (.iload_n 1, 1) := by decide +kernel
theorem dX12_end_25 : decode cX12_end 25 = .ok (.ireturn, 1) := by decide +kernel
theorem dX12_byteAt_0 : decode cX12_byteAt 0 = .ok (.iload_n 1, 1) := by decide +kernel
theorem dX12_byteAt_1 : decode cX12_byteAt 1 = .ok (.aload_n 0, 1) := by decide +kernel
theorem dX12_byteAt_2 : decode cX12_byteAt 2 = .ok (.getfield 109, 3) := by decide +kernel
theorem dX12_byteAt_5 : decode cX12_byteAt 5 = .ok (.if_icmp .ge 16, 3) := by decide +kernel
theorem dX12_byteAt_8 : decode cX12_byteAt 8 = .ok (.aload_n 0, 1) := by decide +kernel
theorem dX12_byteAt_9 : decode cX12_byteAt 9 = .ok (.getfield 7, 3) := by decide +kernel
theorem dX12_byteAt_12 : decode cX12_byteAt 12 = .ok (.iload_n 1, 1) := by decide +kernel
theorem dX12_byteAt_13 : decode cX12_byteAt 13 = .ok (.baload, 1) := by decide +kernel
theorem dX12_byteAt_14 : decode cX12_byteAt 14 = .ok (.sipush 255, 3) := by decide +kernel
theorem dX12_byteAt_17 : decode cX12_byteAt 17 = .ok (.iand, 1) := by decide +kernel
theorem dX12_byteAt_18 : decode cX12_byteAt 18 = .ok (.goto 4, 3) := by decide +kernel
theorem dX12_byteAt_21 : decode cX12_byteAt 21 = .ok (.iconst 0, 1) := by decide +kernel
theorem dX12_byteAt_22 : decode cX12_byteAt 22 = .ok (.ireturn, 1) := by decide +kernel
theorem dX12_nameOf_0 : decode cX12_nameOf 0 = .ok (.lconst 0, 1) := by decide +kernel
theorem dX12_nameOf_1 : decode cX12_nameOf 1 = .ok (.lstore_n 3, 1) := by decide +kernel
theorem dX12_nameOf_2 : decode cX12_nameOf 2 = .ok (.iload_n 2, 1) := by decide +kernel
theorem dX12_nameOf_3 : decode cX12_nameOf 3 = .ok (.iload_n 1, 1) := by decide +kernel
theorem dX12_nameOf_4 : decode cX12_nameOf 4 = .ok (.if_icmp .le 15, 3) := by decide +kernel
theorem dX12_nameOf_7 : decode cX12_nameOf 7 = .ok (.iload_n 2, 1) := by decide +kernel
theorem dX12_nameOf_8 : decode cX12_nameOf 8 = .ok (.iload_n 1, 1) := by decide +kernel
theorem dX12_nameOf_9 : decode cX12_nameOf 9 = .ok (.isub, 1) := by decide +kernel
theorem dX12_nameOf_10 : decode cX12_nameOf 10 = .ok (.bipush 8, 2) := by decide +kernel
theorem dX12_nameOf_12 : decode cX12_nameOf 12 = .ok (.if_icmp .gt 7, 3) := by decide +kernel
theorem dX12_nameOf_15 : decode cX12_nameOf 15 = .ok (.iconst 1, 1) := by decide +kernel
theorem dX12_nameOf_16 : decode cX12_nameOf 16 = .ok (.goto 4, 3) := by decide +kernel
theorem dX12_nameOf_19 : decode cX12_nameOf 19 = .ok (.iconst 0, 1) := by decide +kernel
theorem dX12_nameOf_20 : decode cX12_nameOf 20 = .ok (.istore 5, 2) := by decide +kernel
theorem dX12_nameOf_22 : decode cX12_nameOf 22 = .ok (.iload_n 1, 1) := by decide +kernel
theorem dX12_nameOf_23 : decode cX12_nameOf 23 = .ok (.istore 6, 2) := by decide +kernel
theorem dX12_nameOf_25 : decode cX12_nameOf 25 = .ok (.iload 6, 2) := by decide +kernel
theorem dX12_nameOf_27 : decode cX12_nameOf 27 = .ok (.iload_n 2, 1) := by decide +kernel
theorem dX12_nameOf_28 : decode cX12_nameOf 28 = .ok (.if_icmp .ge 42, 3) := by decide +kernel
theorem dX12_nameOf_31 : decode cX12_nameOf 31 = .ok (.iload 5, 2) := by decide +kernel
theorem dX12_nameOf_33 : decode cX12_nameOf 33 = .ok (.ifCond .eq 37, 3) := by decide +kernel
theorem dX12_nameOf_36 : decode cX12_nameOf 36 = .ok (.aload_n 0, 1) := by decide +kernel
theorem dX12_nameOf_37 : decode cX12_nameOf 37 = .ok (.iload 6, 2) := by decide +kernel
theorem dX12_nameOf_39 : decode cX12_nameOf 39 = .ok (.invokevirtual 116, 3) := by decide +kernel
theorem dX12_nameOf_42 : decode cX12_nameOf 42 = .ok (.bipush 97, 2) := by decide +kernel
theorem dX12_nameOf_44 : decode cX12_nameOf 44 = .ok (.bipush 122, 2) := by decide +kernel
theorem dX12_nameOf_46 : decode cX12_nameOf 46 = .ok (.invokestatic 112, 3) := by decide +kernel
theorem dX12_nameOf_49 : decode cX12_nameOf 49 = .ok (.istore 5, 2) := by decide +kernel
theorem dX12_nameOf_51 : decode cX12_nameOf 51 = .ok (.lload_n 3, 1) := by decide +kernel
theorem dX12_nameOf_52 : decode cX12_nameOf 52 = .ok (.bipush 8, 2) := by decide +kernel
theorem dX12_nameOf_54 : decode cX12_nameOf 54 = .ok (.lshl, 1) := by decide +kernel
theorem dX12_nameOf_55 : decode cX12_nameOf 55 = .ok (.aload_n 0, 1) := by decide +kernel
theorem dX12_nameOf_56 : decode cX12_nameOf 56 = .ok (.iload 6, 2) := by decide +kernel
theorem dX12_nameOf_58 : decode cX12_nameOf 58 = .ok (.invokevirtual 116, 3) := by decide +kernel
theorem dX12_nameOf_61 : decode cX12_nameOf 61 = .ok (.i2l, 1) := by decide +kernel
theorem dX12_nameOf_62 : decode cX12_nameOf 62 = .ok (.lor, 1) := by decide +kernel
theorem dX12_nameOf_63 : decode cX12_nameOf 63 = .ok (.lstore_n 3, 1) := by decide +kernel
theorem dX12_nameOf_64 : decode cX12_nameOf 64 = .ok (.iinc 6 1, 3) := by decide +kernel
theorem dX12_nameOf_67 : decode cX12_nameOf 67 = .ok (.goto (-42), 3) := by decide +kernel
theorem dX12_nameOf_70 : decode cX12_nameOf 70 = .ok (.iload 5, 2) := by decide +kernel
theorem dX12_nameOf_72 : decode cX12_nameOf 72 = .ok (.ifCond .eq 7, 3) := by decide +kernel
theorem dX12_nameOf_75 : decode cX12_nameOf 75 = .ok (.lload_n 3, 1) := by decide +kernel
theorem dX12_nameOf_76 : decode cX12_nameOf 76 = .ok (.goto 4, 3) := by decide +kernel
theorem dX12_nameOf_79 : decode cX12_nameOf 79 = .ok (.lconst 0, 1) := by decide +kernel
theorem dX12_nameOf_80 : decode cX12_nameOf 80 = .ok (.lreturn, 1) := by decide +kernel
theorem dX12_tapeName_0 : decode cX12_tapeName 0 = .ok (.aload_n 0, 1) := by decide +kernel
theorem dX12_tapeName_1 : decode cX12_tapeName 1 = .ok (.iconst 0, 1) := by decide +kernel
theorem dX12_tapeName_2 : decode cX12_tapeName 2 = .ok (.aload_n 0, 1) := by decide +kernel
theorem dX12_tapeName_3 : decode cX12_tapeName 3 = .ok (.getfield 109, 3) := by decide +kernel
theorem dX12_tapeName_6 : decode cX12_tapeName 6 = .ok (.invokevirtual 120, 3) := by decide +kernel
theorem dX12_tapeName_9 : decode cX12_tapeName 9 = .ok (.lstore_n 1, 1) := by decide +kernel
theorem dX12_tapeName_10 : decode cX12_tapeName 10 = .ok (.aload_n 0, 1) := by decide +kernel
theorem dX12_tapeName_11 : decode cX12_tapeName 11 = .ok (.iconst 0, 1) := by decide +kernel
theorem dX12_tapeName_12 : decode cX12_tapeName 12 = .ok (.putfield 109, 3) := by decide +kernel
theorem dX12_tapeName_15 : decode cX12_tapeName 15 = .ok (.lload_n 1, 1) := by decide +kernel
theorem dX12_tapeName_16 : decode cX12_tapeName 16 = .ok (.lreturn, 1) := by decide +kernel
theorem dX12_letters_0 : decode cX12_letters 0 = .ok (.iconst 0, 1) := by decide +kernel
theorem dX12_letters_1 : decode cX12_letters 1 = .ok (.istore_n 2, 1) := by decide +kernel
theorem dX12_letters_2 : decode cX12_letters 2 = .ok (.lload_n 0, 1) := by decide +kernel
theorem dX12_letters_3 : decode cX12_letters 3 = .ok (.lstore_n 3, 1) := by decide +kernel
theorem dX12_letters_4 : decode cX12_letters 4 = .ok (.lload_n 3, 1) := by decide +kernel
theorem dX12_letters_5 : decode cX12_letters 5 = .ok (.lconst 0, 1) := by decide +kernel
theorem dX12_letters_6 : decode cX12_letters 6 = .ok (.lcmp, 1) := by decide +kernel
theorem dX12_letters_7 : decode cX12_letters 7 = .ok (.ifCond .eq 14, 3) := by decide +kernel
theorem dX12_letters_10 : decode cX12_letters 10 = .ok (.iinc 2 1, 3) := by decide +kernel
theorem dX12_letters_13 : decode cX12_letters 13 = .ok (.lload_n 3, 1) := by decide +kernel
theorem dX12_letters_14 : decode cX12_letters 14 = .ok (.bipush 8, 2) := by decide +kernel
theorem dX12_letters_16 : decode cX12_letters 16 = .ok (.lushr, 1) := by decide +kernel
theorem dX12_letters_17 : decode cX12_letters 17 = .ok (.lstore_n 3, 1) := by decide +kernel
theorem dX12_letters_18 : decode cX12_letters 18 = .ok (.goto (-14), 3) := by decide +kernel
theorem dX12_letters_21 : decode cX12_letters 21 = .ok (.iload_n 2, 1) := by decide +kernel
theorem dX12_letters_22 : decode cX12_letters 22 = .ok (.ireturn, 1) := by decide +kernel
theorem dX12_letterOf_0 : decode cX12_letterOf 0 = .ok (.lload_n 0, 1) := by decide +kernel
theorem dX12_letterOf_1 : decode cX12_letterOf 1 = .ok (.bipush 8, 2) := by decide +kernel
theorem dX12_letterOf_3 : decode cX12_letterOf 3 = .ok (.lload_n 0, 1) := by decide +kernel
theorem dX12_letterOf_4 : decode cX12_letterOf 4 = .ok (.invokestatic 124, 3) := by decide +kernel
theorem dX12_letterOf_7 : decode cX12_letterOf 7 = .ok (.iconst 1, 1) := by decide +kernel
theorem dX12_letterOf_8 : decode cX12_letterOf 8 = .ok (.isub, 1) := by decide +kernel
theorem dX12_letterOf_9 : decode cX12_letterOf 9 = .ok (.iload_n 2, 1) := by decide +kernel
theorem dX12_letterOf_10 : decode cX12_letterOf 10 = .ok (.isub, 1) := by decide +kernel
theorem dX12_letterOf_11 : decode cX12_letterOf 11 = .ok (.imul, 1) := by decide +kernel
theorem dX12_letterOf_12 : decode cX12_letterOf 12 = .ok (.lushr, 1) := by decide +kernel
theorem dX12_letterOf_13 : decode cX12_letterOf 13 = .ok (.ldc2_w 128, 3) := by decide +kernel
theorem dX12_letterOf_16 : decode cX12_letterOf 16 = .ok (.land, 1) := by decide +kernel
theorem dX12_letterOf_17 : decode cX12_letterOf 17 = .ok (.l2i, 1) := by decide +kernel
theorem dX12_letterOf_18 : decode cX12_letterOf 18 = .ok (.ireturn, 1) := by decide +kernel
theorem dX12_sound_0 : decode cX12_sound 0 = .ok (.aload_n 0, 1) := by decide +kernel
theorem dX12_sound_1 : decode cX12_sound 1 = .ok (.iconst 0, 1) := by decide +kernel
theorem dX12_sound_2 : decode cX12_sound 2 = .ok (.putfield 106, 3) := by decide +kernel
theorem dX12_sound_5 : decode cX12_sound 5 = .ok (.iload_n 1, 1) := by decide +kernel
theorem dX12_sound_6 : decode cX12_sound 6 = .ok (.iconst 0, 1) := by decide +kernel
theorem dX12_sound_7 : decode cX12_sound 7 = .ok (.bipush 25, 2) := by decide +kernel
theorem dX12_sound_9 : decode cX12_sound 9 = .ok (.invokestatic 112, 3) := by decide +kernel
theorem dX12_sound_12 : decode cX12_sound 12 = .ok (.ifCond .eq 28, 3) := by decide +kernel
theorem dX12_sound_15 : decode cX12_sound 15 = .ok (.iload_n 2, 1) := by decide +kernel
theorem dX12_sound_16 : decode cX12_sound 16 = .ok (.iconst 0, 1) := by decide +kernel
theorem dX12_sound_17 : decode cX12_sound 17 = .ok (.bipush 25, 2) := by decide +kernel
theorem dX12_sound_19 : decode cX12_sound 19 = .ok (.invokestatic 112, 3) := by decide +kernel
theorem dX12_sound_22 : decode cX12_sound 22 = .ok (.ifCond .eq 18, 3) := by decide +kernel
theorem dX12_sound_25 : decode cX12_sound 25 = .ok (.aload_n 0, 1) := by decide +kernel
theorem dX12_sound_26 : decode cX12_sound 26 = .ok (.getfield 13, 3) := by decide +kernel
theorem dX12_sound_29 : decode cX12_sound 29 = .ok (.iload_n 1, 1) := by decide +kernel
theorem dX12_sound_30 : decode cX12_sound 30 = .ok (.iaload, 1) := by decide +kernel
theorem dX12_sound_31 : decode cX12_sound 31 = .ok (.aload_n 0, 1) := by decide +kernel
theorem dX12_sound_32 : decode cX12_sound 32 = .ok (.getfield 13, 3) := by decide +kernel
theorem dX12_sound_35 : decode cX12_sound 35 = .ok (.iload_n 2, 1) := by decide +kernel
theorem dX12_sound_36 : decode cX12_sound 36 = .ok (.iaload, 1) := by decide +kernel
theorem dX12_sound_37 : decode cX12_sound 37 = .ok (.if_icmp .ne 5, 3) := by decide +kernel
theorem dX12_sound_40 : decode cX12_sound 40 = .ok (.iconst 0, 1) := by decide +kernel
theorem dX12_sound_41 : decode cX12_sound 41 = .ok (.ireturn, 1) := by decide +kernel
theorem dX12_sound_42 : decode cX12_sound 42 = .ok (.aload_n 0, 1) := by decide +kernel
theorem dX12_sound_43 : decode cX12_sound 43 = .ok (.getfield 13, 3) := by decide +kernel
theorem dX12_sound_46 : decode cX12_sound 46 = .ok (.iload_n 2, 1) := by decide +kernel
theorem dX12_sound_47 : decode cX12_sound 47 = .ok (.iaload, 1) := by decide +kernel
theorem dX12_sound_48 : decode cX12_sound 48 = .ok (.istore_n 3, 1) := by decide +kernel
theorem dX12_sound_49 : decode cX12_sound 49 = .ok (.iconst 0, 1) := by decide +kernel
theorem dX12_sound_50 : decode cX12_sound 50 = .ok (.istore 4, 2) := by decide +kernel
theorem dX12_sound_52 : decode cX12_sound 52 = .ok (.iload 4, 2) := by decide +kernel
theorem dX12_sound_54 : decode cX12_sound 54 = .ok (.bipush 26, 2) := by decide +kernel
theorem dX12_sound_56 : decode cX12_sound 56 = .ok (.if_icmp .ge 33, 3) := by decide +kernel
theorem dX12_sound_59 : decode cX12_sound 59 = .ok (.aload_n 0, 1) := by decide +kernel
theorem dX12_sound_60 : decode cX12_sound 60 = .ok (.getfield 13, 3) := by decide +kernel
theorem dX12_sound_63 : decode cX12_sound 63 = .ok (.iload 4, 2) := by decide +kernel
theorem dX12_sound_65 : decode cX12_sound 65 = .ok (.iaload, 1) := by decide +kernel
theorem dX12_sound_66 : decode cX12_sound 66 = .ok (.iload_n 3, 1) := by decide +kernel
theorem dX12_sound_67 : decode cX12_sound 67 = .ok (.if_icmp .ne 16, 3) := by decide +kernel
theorem dX12_sound_70 : decode cX12_sound 70 = .ok (.aload_n 0, 1) := by decide +kernel
theorem dX12_sound_71 : decode cX12_sound 71 = .ok (.getfield 13, 3) := by decide +kernel
theorem dX12_sound_74 : decode cX12_sound 74 = .ok (.iload 4, 2) := by decide +kernel
theorem dX12_sound_76 : decode cX12_sound 76 = .ok (.aload_n 0, 1) := by decide +kernel
theorem dX12_sound_77 : decode cX12_sound 77 = .ok (.getfield 13, 3) := by decide +kernel
theorem dX12_sound_80 : decode cX12_sound 80 = .ok (.iload_n 1, 1) := by decide +kernel
theorem dX12_sound_81 : decode cX12_sound 81 = .ok (.iaload, 1) := by decide +kernel
theorem dX12_sound_82 : decode cX12_sound 82 = .ok (.iastore, 1) := by decide +kernel
theorem dX12_sound_83 : decode cX12_sound 83 = .ok (.iinc 4 1, 3) := by decide +kernel
theorem dX12_sound_86 : decode cX12_sound 86 = .ok (.goto (-34), 3) := by decide +kernel
theorem dX12_sound_89 : decode cX12_sound 89 = .ok (.iconst 1, 1) := by decide +kernel
theorem dX12_sound_90 : decode cX12_sound 90 = .ok (.ireturn, 1) := by decide +kernel
theorem dX12_apart_0 : decode cX12_apart 0 = .ok (.lload_n 1, 1) := by decide +kernel
theorem dX12_apart_1 : decode cX12_apart 1 = .ok (.invokestatic 124, 3) := by decide +kernel
theorem dX12_apart_4 : decode cX12_apart 4 = .ok (.istore 5, 2) := by decide +kernel
theorem dX12_apart_6 : decode cX12_apart 6 = .ok (.lload_n 3, 1) := by decide +kernel
theorem dX12_apart_7 : decode cX12_apart 7 = .ok (.invokestatic 124, 3) := by decide +kernel
theorem dX12_apart_10 : decode cX12_apart 10 = .ok (.istore 6, 2) := by decide +kernel
theorem dX12_apart_12 : decode cX12_apart 12 = .ok (.iload 5, 2) := by decide +kernel
theorem dX12_apart_14 : decode cX12_apart 14 = .ok (.istore 7, 2) := by decide +kernel
theorem dX12_apart_16 : decode cX12_apart 16 = .ok (.iload 7, 2) := by decide +kernel
theorem dX12_apart_18 : decode cX12_apart 18 = .ok (.ifCond .lt 171, 3) := by decide +kernel
theorem dX12_apart_21 : decode cX12_apart 21 = .ok (.iload 6, 2) := by decide +kernel
theorem dX12_apart_23 : decode cX12_apart 23 = .ok (.istore 8, 2) := by decide +kernel
theorem dX12_apart_25 : decode cX12_apart 25 = .ok (.iload 8, 2) := by decide +kernel
theorem dX12_apart_27 : decode cX12_apart 27 = .ok (.ifCond .lt 156, 3) := by decide +kernel
theorem dX12_apart_30 : decode cX12_apart 30 = .ok (.iconst 2, 1) := by decide +kernel
theorem dX12_apart_31 : decode cX12_apart 31 = .ok (.iload 5, 2) := by decide +kernel
theorem dX12_apart_33 : decode cX12_apart 33 = .ok (.iload 7, 2) := by decide +kernel
theorem dX12_apart_35 : decode cX12_apart 35 = .ok (.isub, 1) := by decide +kernel
theorem dX12_apart_36 : decode cX12_apart 36 = .ok (.iload 6, 2) := by decide +kernel
theorem dX12_apart_38 : decode cX12_apart 38 = .ok (.iadd, 1) := by decide +kernel
theorem dX12_apart_39 : decode cX12_apart 39 = .ok (.iload 8, 2) := by decide +kernel
theorem dX12_apart_41 : decode cX12_apart 41 = .ok (.isub, 1) := by decide +kernel
theorem dX12_apart_42 : decode cX12_apart 42 = .ok (.imul, 1) := by decide +kernel
theorem dX12_apart_43 : decode cX12_apart 43 = .ok (.istore 9, 2) := by decide +kernel
theorem dX12_apart_45 : decode cX12_apart 45 = .ok (.iload 7, 2) := by decide +kernel
theorem dX12_apart_47 : decode cX12_apart 47 = .ok (.iload 5, 2) := by decide +kernel
theorem dX12_apart_49 : decode cX12_apart 49 = .ok (.if_icmp .ge 27, 3) := by decide +kernel
theorem dX12_apart_52 : decode cX12_apart 52 = .ok (.iload 9, 2) := by decide +kernel
theorem dX12_apart_54 : decode cX12_apart 54 = .ok (.aload_n 0, 1) := by decide +kernel
theorem dX12_apart_55 : decode cX12_apart 55 = .ok (.getfield 17, 3) := by decide +kernel
theorem dX12_apart_58 : decode cX12_apart 58 = .ok (.bipush 9, 2) := by decide +kernel
theorem dX12_apart_60 : decode cX12_apart 60 = .ok (.iload 7, 2) := by decide +kernel
theorem dX12_apart_62 : decode cX12_apart 62 = .ok (.iconst 1, 1) := by decide +kernel
theorem dX12_apart_63 : decode cX12_apart 63 = .ok (.iadd, 1) := by decide +kernel
theorem dX12_apart_64 : decode cX12_apart 64 = .ok (.imul, 1) := by decide +kernel
theorem dX12_apart_65 : decode cX12_apart 65 = .ok (.iload 8, 2) := by decide +kernel
theorem dX12_apart_67 : decode cX12_apart 67 = .ok (.iadd, 1) := by decide +kernel
theorem dX12_apart_68 : decode cX12_apart 68 = .ok (.iaload, 1) := by decide +kernel
theorem dX12_apart_69 : decode cX12_apart 69 = .ok (.iconst 2, 1) := by decide +kernel
theorem dX12_apart_70 : decode cX12_apart 70 = .ok (.iadd, 1) := by decide +kernel
theorem dX12_apart_71 : decode cX12_apart 71 = .ok (.invokestatic 130, 3) := by decide +kernel
theorem dX12_apart_74 : decode cX12_apart 74 = .ok (.istore 9, 2) := by decide +kernel
theorem dX12_apart_76 : decode cX12_apart 76 = .ok (.iload 8, 2) := by decide +kernel
theorem dX12_apart_78 : decode cX12_apart 78 = .ok (.iload 6, 2) := by decide +kernel
theorem dX12_apart_80 : decode cX12_apart 80 = .ok (.if_icmp .ge 27, 3) := by decide +kernel
theorem dX12_apart_83 : decode cX12_apart 83 = .ok (.iload 9, 2) := by decide +kernel
theorem dX12_apart_85 : decode cX12_apart 85 = .ok (.aload_n 0, 1) := by decide +kernel
theorem dX12_apart_86 : decode cX12_apart 86 = .ok (.getfield 17, 3) := by decide +kernel
theorem dX12_apart_89 : decode cX12_apart 89 = .ok (.bipush 9, 2) := by decide +kernel
theorem dX12_apart_91 : decode cX12_apart 91 = .ok (.iload 7, 2) := by decide +kernel
theorem dX12_apart_93 : decode cX12_apart 93 = .ok (.imul, 1) := by decide +kernel
theorem dX12_apart_94 : decode cX12_apart 94 = .ok (.iload 8, 2) := by decide +kernel
theorem dX12_apart_96 : decode cX12_apart 96 = .ok (.iadd, 1) := by decide +kernel
theorem dX12_apart_97 : decode cX12_apart 97 = .ok (.iconst 1, 1) := by decide +kernel
theorem dX12_apart_98 : decode cX12_apart 98 = .ok (.iadd, 1) := by decide +kernel
theorem dX12_apart_99 : decode cX12_apart 99 = .ok (.iaload, 1) := by decide +kernel
theorem dX12_apart_100 : decode cX12_apart 100 = .ok (.iconst 2, 1) := by decide +kernel
theorem dX12_apart_101 : decode cX12_apart 101 = .ok (.iadd, 1) := by decide +kernel
theorem dX12_apart_102 : decode cX12_apart 102 = .ok (.invokestatic 130, 3) := by decide +kernel
theorem dX12_apart_105 : decode cX12_apart 105 = .ok (.istore 9, 2) := by decide +kernel
theorem dX12_apart_107 : decode cX12_apart 107 = .ok (.iload 7, 2) := by decide +kernel
theorem dX12_apart_109 : decode cX12_apart 109 = .ok (.iload 5, 2) := by decide +kernel
theorem dX12_apart_111 : decode cX12_apart 111 = .ok (.if_icmp .ge 51, 3) := by decide +kernel
theorem dX12_apart_114 : decode cX12_apart 114 = .ok (.iload 8, 2) := by decide +kernel
theorem dX12_apart_116 : decode cX12_apart 116 = .ok (.iload 6, 2) := by decide +kernel
theorem dX12_apart_118 : decode cX12_apart 118 = .ok (.if_icmp .ge 44, 3) := by decide +kernel
theorem dX12_apart_121 : decode cX12_apart 121 = .ok (.iload 9, 2) := by decide +kernel
theorem dX12_apart_123 : decode cX12_apart 123 = .ok (.aload_n 0, 1) := by decide +kernel
theorem dX12_apart_124 : decode cX12_apart 124 = .ok (.getfield 17, 3) := by decide +kernel
theorem dX12_apart_127 : decode cX12_apart 127 = .ok (.bipush 9, 2) := by decide +kernel
theorem dX12_apart_129 : decode cX12_apart 129 = .ok (.iload 7, 2) := by decide +kernel
theorem dX12_apart_131 : decode cX12_apart 131 = .ok (.iconst 1, 1) := by decide +kernel
theorem dX12_apart_132 : decode cX12_apart 132 = .ok (.iadd, 1) := by decide +kernel
theorem dX12_apart_133 : decode cX12_apart 133 = .ok (.imul, 1) := by decide +kernel
theorem dX12_apart_134 : decode cX12_apart 134 = .ok (.iload 8, 2) := by decide +kernel
theorem dX12_apart_136 : decode cX12_apart 136 = .ok (.iadd, 1) := by decide +kernel
theorem dX12_apart_137 : decode cX12_apart 137 = .ok (.iconst 1, 1) := by decide +kernel
theorem dX12_apart_138 : decode cX12_apart 138 = .ok (.iadd, 1) := by decide +kernel
theorem dX12_apart_139 : decode cX12_apart 139 = .ok (.iaload, 1) := by decide +kernel
theorem dX12_apart_140 : decode cX12_apart 140 = .ok (.aload_n 0, 1) := by decide +kernel
theorem dX12_apart_141 : decode cX12_apart 141 = .ok (.lload_n 1, 1) := by decide +kernel
theorem dX12_apart_142 : decode cX12_apart 142 = .ok (.iload 7, 2) := by decide +kernel
theorem dX12_apart_144 : decode cX12_apart 144 = .ok (.invokestatic 134, 3) := by decide +kernel
theorem dX12_apart_147 : decode cX12_apart 147 = .ok (.lload_n 3, 1) := by decide +kernel
theorem dX12_apart_148 : decode cX12_apart 148 = .ok (.iload 8, 2) := by decide +kernel
theorem dX12_apart_150 : decode cX12_apart 150 = .ok (.invokestatic 134, 3) := by decide +kernel
theorem dX12_apart_153 : decode cX12_apart 153 = .ok (.invokevirtual 138, 3) := by decide +kernel
theorem dX12_apart_156 : decode cX12_apart 156 = .ok (.iadd, 1) := by decide +kernel
theorem dX12_apart_157 : decode cX12_apart 157 = .ok (.invokestatic 130, 3) := by decide +kernel
theorem dX12_apart_160 : decode cX12_apart 160 = .ok (.istore 9, 2) := by decide +kernel
theorem dX12_apart_162 : decode cX12_apart 162 = .ok (.aload_n 0, 1) := by decide +kernel
theorem dX12_apart_163 : decode cX12_apart 163 = .ok (.getfield 17, 3) := by decide +kernel
theorem dX12_apart_166 : decode cX12_apart 166 = .ok (.bipush 9, 2) := by decide +kernel
theorem dX12_apart_168 : decode cX12_apart 168 = .ok (.iload 7, 2) := by decide +kernel
theorem dX12_apart_170 : decode cX12_apart 170 = .ok (.imul, 1) := by decide +kernel
theorem dX12_apart_171 : decode cX12_apart 171 = .ok (.iload 8, 2) := by decide +kernel
theorem dX12_apart_173 : decode cX12_apart 173 = .ok (.iadd, 1) := by decide +kernel
theorem dX12_apart_174 : decode cX12_apart 174 = .ok (.iload 9, 2) := by decide +kernel
theorem dX12_apart_176 : decode cX12_apart 176 = .ok (.iastore, 1) := by decide +kernel
theorem dX12_apart_177 : decode cX12_apart 177 = .ok (.iinc 8 (-1), 3) := by decide +kernel
theorem dX12_apart_180 : decode cX12_apart 180 = .ok (.goto (-155), 3) := by decide +kernel
theorem dX12_apart_183 : decode cX12_apart 183 = .ok (.iinc 7 (-1), 3) := by decide +kernel
theorem dX12_apart_186 : decode cX12_apart 186 = .ok (.goto (-170), 3) := by decide +kernel
theorem dX12_apart_189 : decode cX12_apart 189 = .ok (.aload_n 0, 1) := by decide +kernel
theorem dX12_apart_190 : decode cX12_apart 190 = .ok (.getfield 17, 3) := by decide +kernel
theorem dX12_apart_193 : decode cX12_apart 193 = .ok (.iconst 0, 1) := by decide +kernel
theorem dX12_apart_194 : decode cX12_apart 194 = .ok (.iaload, 1) := by decide +kernel
theorem dX12_apart_195 : decode cX12_apart 195 = .ok (.ireturn, 1) := by decide +kernel
theorem dX12_less_0 : decode cX12_less 0 = .ok (.iload_n 0, 1) := by decide +kernel
theorem dX12_less_1 : decode cX12_less 1 = .ok (.iload_n 1, 1) := by decide +kernel
theorem dX12_less_2 : decode cX12_less 2 = .ok (.if_icmp .ge 7, 3) := by decide +kernel
theorem dX12_less_5 : decode cX12_less 5 = .ok (.iload_n 0, 1) := by decide +kernel
theorem dX12_less_6 : decode cX12_less 6 = .ok (.goto 4, 3) := by decide +kernel
theorem dX12_less_9 : decode cX12_less 9 = .ok (.iload_n 1, 1) := by decide +kernel
theorem dX12_less_10 : decode cX12_less 10 = .ok (.ireturn, 1) := by decide +kernel
theorem dX12_swap_0 : decode cX12_swap 0 = .ok (.iload_n 1, 1) := by decide +kernel
theorem dX12_swap_1 : decode cX12_swap 1 = .ok (.iload_n 2, 1) := by decide +kernel
theorem dX12_swap_2 : decode cX12_swap 2 = .ok (.if_icmp .ne 7, 3) := by decide +kernel
theorem dX12_swap_5 : decode cX12_swap 5 = .ok (.iconst 0, 1) := by decide +kernel
theorem dX12_swap_6 : decode cX12_swap 6 = .ok (.goto 29, 3) := by decide +kernel
theorem dX12_swap_9 : decode cX12_swap 9 = .ok (.aload_n 0, 1) := by decide +kernel
theorem dX12_swap_10 : decode cX12_swap 10 = .ok (.getfield 13, 3) := by decide +kernel
theorem dX12_swap_13 : decode cX12_swap 13 = .ok (.iload_n 1, 1) := by decide +kernel
theorem dX12_swap_14 : decode cX12_swap 14 = .ok (.bipush 97, 2) := by decide +kernel
theorem dX12_swap_16 : decode cX12_swap 16 = .ok (.isub, 1) := by decide +kernel
theorem dX12_swap_17 : decode cX12_swap 17 = .ok (.iaload, 1) := by decide +kernel
theorem dX12_swap_18 : decode cX12_swap 18 = .ok (.aload_n 0, 1) := by decide +kernel
theorem dX12_swap_19 : decode cX12_swap 19 = .ok (.getfield 13, 3) := by decide +kernel
theorem dX12_swap_22 : decode cX12_swap 22 = .ok (.iload_n 2, 1) := by decide +kernel
theorem dX12_swap_23 : decode cX12_swap 23 = .ok (.bipush 97, 2) := by decide +kernel
theorem dX12_swap_25 : decode cX12_swap 25 = .ok (.isub, 1) := by decide +kernel
theorem dX12_swap_26 : decode cX12_swap 26 = .ok (.iaload, 1) := by decide +kernel
theorem dX12_swap_27 : decode cX12_swap 27 = .ok (.if_icmp .ne 7, 3) := by decide +kernel
theorem dX12_swap_30 : decode cX12_swap 30 = .ok (.iconst 1, 1) := by decide +kernel
theorem dX12_swap_31 : decode cX12_swap 31 = .ok (.goto 4, 3) := by decide +kernel
theorem dX12_swap_34 : decode cX12_swap 34 = .ok (.iconst 3, 1) := by decide +kernel
theorem dX12_swap_35 : decode cX12_swap 35 = .ok (.ireturn, 1) := by decide +kernel
theorem dX12_signOf_0 : decode cX12_signOf 0 = .ok (.iload_n 0, 1) := by decide +kernel
theorem dX12_signOf_1 : decode cX12_signOf 1 = .ok (.bipush 73, 2) := by decide +kernel
theorem dX12_signOf_3 : decode cX12_signOf 3 = .ok (.if_icmp .ne 7, 3) := by decide +kernel
theorem dX12_signOf_6 : decode cX12_signOf 6 = .ok (.iconst 1, 1) := by decide +kernel
theorem dX12_signOf_7 : decode cX12_signOf 7 = .ok (.goto 34, 3) := by decide +kernel
theorem dX12_signOf_10 : decode cX12_signOf 10 = .ok (.iload_n 0, 1) := by decide +kernel
theorem dX12_signOf_11 : decode cX12_signOf 11 = .ok (.bipush 86, 2) := by decide +kernel
theorem dX12_signOf_13 : decode cX12_signOf 13 = .ok (.if_icmp .ne 7, 3) := by decide +kernel
theorem dX12_signOf_16 : decode cX12_signOf 16 = .ok (.iconst 2, 1) := by decide +kernel
theorem dX12_signOf_17 : decode cX12_signOf 17 = .ok (.goto 24, 3) := by decide +kernel
theorem dX12_signOf_20 : decode cX12_signOf 20 = .ok (.iload_n 0, 1) := by decide +kernel
theorem dX12_signOf_21 : decode cX12_signOf 21 = .ok (.bipush 88, 2) := by decide +kernel
theorem dX12_signOf_23 : decode cX12_signOf 23 = .ok (.if_icmp .ne 7, 3) := by decide +kernel
theorem dX12_signOf_26 : decode cX12_signOf 26 = .ok (.iconst 3, 1) := by decide +kernel
theorem dX12_signOf_27 : decode cX12_signOf 27 = .ok (.goto 14, 3) := by decide +kernel
theorem dX12_signOf_30 : decode cX12_signOf 30 = .ok (.iload_n 0, 1) := by decide +kernel
theorem dX12_signOf_31 : decode cX12_signOf 31 = .ok (.bipush 76, 2) := by decide +kernel
theorem dX12_signOf_33 : decode cX12_signOf 33 = .ok (.if_icmp .ne 7, 3) := by decide +kernel
theorem dX12_signOf_36 : decode cX12_signOf 36 = .ok (.iconst 4, 1) := by decide +kernel
theorem dX12_signOf_37 : decode cX12_signOf 37 = .ok (.goto 4, 3) := by decide +kernel
theorem dX12_signOf_40 : decode cX12_signOf 40 = .ok (.iconst 0, 1) := by decide +kernel
theorem dX12_signOf_41 : decode cX12_signOf 41 = .ok (.ireturn, 1) := by decide +kernel
theorem dX12_worth_0 : decode cX12_worth 0 = .ok (.iload_n 0, 1) := by decide +kernel
theorem dX12_worth_1 : decode cX12_worth 1 = .ok (.iconst 1, 1) := by decide +kernel
theorem dX12_worth_2 : decode cX12_worth 2 = .ok (.if_icmp .ne 7, 3) := by decide +kernel
theorem dX12_worth_5 : decode cX12_worth 5 = .ok (.iconst 1, 1) := by decide +kernel
theorem dX12_worth_6 : decode cX12_worth 6 = .ok (.goto 33, 3) := by decide +kernel
theorem dX12_worth_9 : decode cX12_worth 9 = .ok (.iload_n 0, 1) := by decide +kernel
theorem dX12_worth_10 : decode cX12_worth 10 = .ok (.iconst 2, 1) := by decide +kernel
theorem dX12_worth_11 : decode cX12_worth 11 = .ok (.if_icmp .ne 7, 3) := by decide +kernel
theorem dX12_worth_14 : decode cX12_worth 14 = .ok (.iconst 5, 1) := by decide +kernel
theorem dX12_worth_15 : decode cX12_worth 15 = .ok (.goto 24, 3) := by decide +kernel
theorem dX12_worth_18 : decode cX12_worth 18 = .ok (.iload_n 0, 1) := by decide +kernel
theorem dX12_worth_19 : decode cX12_worth 19 = .ok (.iconst 3, 1) := by decide +kernel
theorem dX12_worth_20 : decode cX12_worth 20 = .ok (.if_icmp .ne 8, 3) := by decide +kernel
theorem dX12_worth_23 : decode cX12_worth 23 = .ok (.bipush 10, 2) := by decide +kernel
theorem dX12_worth_25 : decode cX12_worth 25 = .ok (.goto 14, 3) := by decide +kernel
theorem dX12_worth_28 : decode cX12_worth 28 = .ok (.iload_n 0, 1) := by decide +kernel
theorem dX12_worth_29 : decode cX12_worth 29 = .ok (.iconst 4, 1) := by decide +kernel
theorem dX12_worth_30 : decode cX12_worth 30 = .ok (.if_icmp .ne 8, 3) := by decide +kernel
theorem dX12_worth_33 : decode cX12_worth 33 = .ok (.bipush 50, 2) := by decide +kernel
theorem dX12_worth_35 : decode cX12_worth 35 = .ok (.goto 4, 3) := by decide +kernel
theorem dX12_worth_38 : decode cX12_worth 38 = .ok (.iconst 0, 1) := by decide +kernel
theorem dX12_worth_39 : decode cX12_worth 39 = .ok (.ireturn, 1) := by decide +kernel
theorem dX12_wrong_0 : decode cX12_wrong 0 = .ok (.aload_n 0, 1) := by decide +kernel
theorem dX12_wrong_1 : decode cX12_wrong 1 = .ok (.iload_n 1, 1) := by decide +kernel
theorem dX12_wrong_2 : decode cX12_wrong 2 = .ok (.putfield 141, 3) := by decide +kernel
theorem dX12_wrong_5 : decode cX12_wrong 5 = .ok (.aload_n 0, 1) := by decide +kernel
theorem dX12_wrong_6 : decode cX12_wrong 6 = .ok (.iload_n 2, 1) := by decide +kernel
theorem dX12_wrong_7 : decode cX12_wrong 7 = .ok (.putfield 36, 3) := by decide +kernel
theorem dX12_wrong_10 : decode cX12_wrong 10 = .ok (.iconst 0, 1) := by decide +kernel
theorem dX12_wrong_11 : decode cX12_wrong 11 = .ok (.ireturn, 1) := by decide +kernel
theorem dX12_blanks_0 : decode cX12_blanks 0 = .ok (.aload_n 0, 1) := by decide +kernel
theorem dX12_blanks_1 : decode cX12_blanks 1 = .ok (.getfield 144, 3) := by decide +kernel
theorem dX12_blanks_4 : decode cX12_blanks 4 = .ok (.aload_n 0, 1) := by decide +kernel
theorem dX12_blanks_5 : decode cX12_blanks 5 = .ok (.getfield 109, 3) := by decide +kernel
theorem dX12_blanks_8 : decode cX12_blanks 8 = .ok (.if_icmp .ge 42, 3) := by decide +kernel
theorem dX12_blanks_11 : decode cX12_blanks 11 = .ok (.aload_n 0, 1) := by decide +kernel
theorem dX12_blanks_12 : decode cX12_blanks 12 = .ok (.aload_n 0, 1) := by decide +kernel
theorem dX12_blanks_13 : decode cX12_blanks 13 = .ok (.getfield 144, 3) := by decide +kernel
theorem dX12_blanks_16 : decode cX12_blanks 16 = .ok (.invokevirtual 116, 3) := by decide +kernel
theorem dX12_blanks_19 : decode cX12_blanks 19 = .ok (.bipush 32, 2) := by decide +kernel
theorem dX12_blanks_21 : decode cX12_blanks 21 = .ok (.if_icmp .eq 16, 3) := by decide +kernel
theorem dX12_blanks_24 : decode cX12_blanks 24 = .ok (.aload_n 0, 1) := by decide +kernel
theorem dX12_blanks_25 : decode cX12_blanks 25 = .ok (.aload_n 0, 1) := by decide +kernel
theorem dX12_blanks_26 : decode cX12_blanks 26 = .ok (.getfield 144, 3) := by decide +kernel
theorem dX12_blanks_29 : decode cX12_blanks 29 = .ok (.invokevirtual 116, 3) := by decide +kernel
theorem dX12_blanks_32 : decode cX12_blanks 32 = .ok (.bipush 10, 2) := by decide +kernel
theorem dX12_blanks_34 : decode cX12_blanks 34 = .ok (.if_icmp .ne 16, 3) := by decide +kernel
theorem dX12_blanks_37 : decode cX12_blanks 37 = .ok (.aload_n 0, 1) := by decide +kernel
theorem dX12_blanks_38 : decode cX12_blanks 38 = .ok (.dup, 1) := by decide +kernel
theorem dX12_blanks_39 : decode cX12_blanks 39 = .ok (.getfield 144, 3) := by decide +kernel
theorem dX12_blanks_42 : decode cX12_blanks 42 = .ok (.iconst 1, 1) := by decide +kernel
theorem dX12_blanks_43 : decode cX12_blanks 43 = .ok (.iadd, 1) := by decide +kernel
theorem dX12_blanks_44 : decode cX12_blanks 44 = .ok (.putfield 144, 3) := by decide +kernel
theorem dX12_blanks_47 : decode cX12_blanks 47 = .ok (.goto (-47), 3) := by decide +kernel
theorem dX12_blanks_50 : decode cX12_blanks 50 = .ok (.return_, 1) := by decide +kernel
theorem dX12_station_0 : decode cX12_station 0 = .ok (.aload_n 0, 1) := by decide +kernel
theorem dX12_station_1 : decode cX12_station 1 = .ok (.invokevirtual 147, 3) := by decide +kernel
theorem dX12_station_4 : decode cX12_station 4 = .ok (.aload_n 0, 1) := by decide +kernel
theorem dX12_station_5 : decode cX12_station 5 = .ok (.getfield 144, 3) := by decide +kernel
theorem dX12_station_8 : decode cX12_station 8 = .ok (.istore_n 1, 1) := by decide +kernel
theorem dX12_station_9 : decode cX12_station 9 = .ok (.aload_n 0, 1) := by decide +kernel
theorem dX12_station_10 : decode cX12_station 10 = .ok (.iload_n 1, 1) := by decide +kernel
theorem dX12_station_11 : decode cX12_station 11 = .ok (.invokevirtual 116, 3) := by decide +kernel
theorem dX12_station_14 : decode cX12_station 14 = .ok (.bipush 97, 2) := by decide +kernel
theorem dX12_station_16 : decode cX12_station 16 = .ok (.bipush 122, 2) := by decide +kernel
theorem dX12_station_18 : decode cX12_station 18 = .ok (.invokestatic 112, 3) := by decide +kernel
theorem dX12_station_21 : decode cX12_station 21 = .ok (.ifCond .eq 9, 3) := by decide +kernel
theorem dX12_station_24 : decode cX12_station 24 = .ok (.iinc 1 1, 3) := by decide +kernel
theorem dX12_station_27 : decode cX12_station 27 = .ok (.goto (-18), 3) := by decide +kernel
theorem dX12_station_30 : decode cX12_station 30 = .ok (.aload_n 0, 1) := by decide +kernel
theorem dX12_station_31 : decode cX12_station 31 = .ok (.aload_n 0, 1) := by decide +kernel
theorem dX12_station_32 : decode cX12_station 32 = .ok (.getfield 144, 3) := by decide +kernel
theorem dX12_station_35 : decode cX12_station 35 = .ok (.iload_n 1, 1) := by decide +kernel
theorem dX12_station_36 : decode cX12_station 36 = .ok (.invokevirtual 120, 3) := by decide +kernel
theorem dX12_station_39 : decode cX12_station 39 = .ok (.lstore_n 2, 1) := by decide +kernel
theorem dX12_station_40 : decode cX12_station 40 = .ok (.lload_n 2, 1) := by decide +kernel
theorem dX12_station_41 : decode cX12_station 41 = .ok (.lconst 0, 1) := by decide +kernel
theorem dX12_station_42 : decode cX12_station 42 = .ok (.lcmp, 1) := by decide +kernel
theorem dX12_station_43 : decode cX12_station 43 = .ok (.ifCond .ne 13, 3) := by decide +kernel
theorem dX12_station_46 : decode cX12_station 46 = .ok (.aload_n 0, 1) := by decide +kernel
theorem dX12_station_47 : decode cX12_station 47 = .ok (.iconst 1, 1) := by decide +kernel
theorem dX12_station_48 : decode cX12_station 48 = .ok (.aload_n 0, 1) := by decide +kernel
theorem dX12_station_49 : decode cX12_station 49 = .ok (.getfield 144, 3) := by decide +kernel
theorem dX12_station_52 : decode cX12_station 52 = .ok (.invokevirtual 150, 3) := by decide +kernel
theorem dX12_station_55 : decode cX12_station 55 = .ok (.ireturn, 1) := by decide +kernel
theorem dX12_station_56 : decode cX12_station 56 = .ok (.aload_n 0, 1) := by decide +kernel
theorem dX12_station_57 : decode cX12_station 57 = .ok (.getfield 23, 3) := by decide +kernel
theorem dX12_station_60 : decode cX12_station 60 = .ok (.iconst 4, 1) := by decide +kernel
theorem dX12_station_61 : decode cX12_station 61 = .ok (.iaload, 1) := by decide +kernel
theorem dX12_station_62 : decode cX12_station 62 = .ok (.bipush 10, 2) := by decide +kernel
theorem dX12_station_64 : decode cX12_station 64 = .ok (.if_icmp .ne 13, 3) := by decide +kernel
theorem dX12_station_67 : decode cX12_station 67 = .ok (.aload_n 0, 1) := by decide +kernel
theorem dX12_station_68 : decode cX12_station 68 = .ok (.iconst 2, 1) := by decide +kernel
theorem dX12_station_69 : decode cX12_station 69 = .ok (.aload_n 0, 1) := by decide +kernel
theorem dX12_station_70 : decode cX12_station 70 = .ok (.getfield 144, 3) := by decide +kernel
theorem dX12_station_73 : decode cX12_station 73 = .ok (.invokevirtual 150, 3) := by decide +kernel
theorem dX12_station_76 : decode cX12_station 76 = .ok (.ireturn, 1) := by decide +kernel
theorem dX12_station_77 : decode cX12_station 77 = .ok (.iconst 0, 1) := by decide +kernel
theorem dX12_station_78 : decode cX12_station 78 = .ok (.istore 4, 2) := by decide +kernel
theorem dX12_station_80 : decode cX12_station 80 = .ok (.iload 4, 2) := by decide +kernel
theorem dX12_station_82 : decode cX12_station 82 = .ok (.aload_n 0, 1) := by decide +kernel
theorem dX12_station_83 : decode cX12_station 83 = .ok (.getfield 23, 3) := by decide +kernel
theorem dX12_station_86 : decode cX12_station 86 = .ok (.iconst 4, 1) := by decide +kernel
theorem dX12_station_87 : decode cX12_station 87 = .ok (.iaload, 1) := by decide +kernel
theorem dX12_station_88 : decode cX12_station 88 = .ok (.if_icmp .ge 34, 3) := by decide +kernel
theorem dX12_station_91 : decode cX12_station 91 = .ok (.aload_n 0, 1) := by decide +kernel
theorem dX12_station_92 : decode cX12_station 92 = .ok (.getfield 26, 3) := by decide +kernel
theorem dX12_station_95 : decode cX12_station 95 = .ok (.bipush 40, 2) := by decide +kernel
theorem dX12_station_97 : decode cX12_station 97 = .ok (.iload 4, 2) := by decide +kernel
theorem dX12_station_99 : decode cX12_station 99 = .ok (.iadd, 1) := by decide +kernel
theorem dX12_station_100 : decode cX12_station 100 = .ok (.laload, 1) := by decide +kernel
theorem dX12_station_101 : decode cX12_station 101 = .ok (.lload_n 2, 1) := by decide +kernel
theorem dX12_station_102 : decode cX12_station 102 = .ok (.lcmp, 1) := by decide +kernel
theorem dX12_station_103 : decode cX12_station 103 = .ok (.ifCond .ne 13, 3) := by decide +kernel
theorem dX12_station_106 : decode cX12_station 106 = .ok (.aload_n 0, 1) := by decide +kernel
theorem dX12_station_107 : decode cX12_station 107 = .ok (.iconst 3, 1) := by decide +kernel
theorem dX12_station_108 : decode cX12_station 108 = .ok (.aload_n 0, 1) := by decide +kernel
theorem dX12_station_109 : decode cX12_station 109 = .ok (.getfield 144, 3) := by decide +kernel
theorem dX12_station_112 : decode cX12_station 112 = .ok (.invokevirtual 150, 3) := by decide +kernel
theorem dX12_station_115 : decode cX12_station 115 = .ok (.ireturn, 1) := by decide +kernel
theorem dX12_station_116 : decode cX12_station 116 = .ok (.iinc 4 1, 3) := by decide +kernel
theorem dX12_station_119 : decode cX12_station 119 = .ok (.goto (-39), 3) := by decide +kernel
theorem dX12_station_122 : decode cX12_station 122 = .ok (.aload_n 0, 1) := by decide +kernel
theorem dX12_station_123 : decode cX12_station 123 = .ok (.getfield 26, 3) := by decide +kernel
theorem dX12_station_126 : decode cX12_station 126 = .ok (.bipush 40, 2) := by decide +kernel
theorem dX12_station_128 : decode cX12_station 128 = .ok (.aload_n 0, 1) := by decide +kernel
theorem dX12_station_129 : decode cX12_station 129 = .ok (.getfield 23, 3) := by decide +kernel
theorem dX12_station_132 : decode cX12_station 132 = .ok (.iconst 4, 1) := by decide +kernel
theorem dX12_station_133 : decode cX12_station 133 = .ok (.iaload, 1) := by decide +kernel
theorem dX12_station_134 : decode cX12_station 134 = .ok (.iadd, 1) := by decide +kernel
theorem dX12_station_135 : decode cX12_station 135 = .ok (.lload_n 2, 1) := by decide +kernel
theorem dX12_station_136 : decode cX12_station 136 = .ok (.lastore, 1) := by decide +kernel
theorem dX12_station_137 : decode cX12_station 137 = .ok (.aload_n 0, 1) := by decide +kernel
theorem dX12_station_138 : decode cX12_station 138 = .ok (.getfield 23, 3) := by decide +kernel
theorem dX12_station_141 : decode cX12_station 141 = .ok (.iconst 4, 1) := by decide +kernel
theorem dX12_station_142 : decode cX12_station 142 = .ok (.dup2, 1) := by decide +kernel
theorem dX12_station_143 : decode cX12_station 143 = .ok (.iaload, 1) := by decide +kernel
theorem dX12_station_144 : decode cX12_station 144 = .ok (.iconst 1, 1) := by decide +kernel
theorem dX12_station_145 : decode cX12_station 145 = .ok (.iadd, 1) := by decide +kernel
theorem dX12_station_146 : decode cX12_station 146 = .ok (.iastore, 1) := by decide +kernel
theorem dX12_station_147 : decode cX12_station 147 = .ok (.aload_n 0, 1) := by decide +kernel
theorem dX12_station_148 : decode cX12_station 148 = .ok (.iload_n 1, 1) := by decide +kernel
theorem dX12_station_149 : decode cX12_station 149 = .ok (.putfield 144, 3) := by decide +kernel
theorem dX12_station_152 : decode cX12_station 152 = .ok (.iconst 1, 1) := by decide +kernel
theorem dX12_station_153 : decode cX12_station 153 = .ok (.ireturn, 1) := by decide +kernel
theorem dX12_numeral_0 : decode cX12_numeral 0 = .ok (.aload_n 0, 1) := by decide +kernel
theorem dX12_numeral_1 : decode cX12_numeral 1 = .ok (.invokevirtual 147, 3) := by decide +kernel
theorem dX12_numeral_4 : decode cX12_numeral 4 = .ok (.bipush 40, 2) := by decide +kernel
theorem dX12_numeral_6 : decode cX12_numeral 6 = .ok (.aload_n 0, 1) := by decide +kernel
theorem dX12_numeral_7 : decode cX12_numeral 7 = .ok (.getfield 23, 3) := by decide +kernel
theorem dX12_numeral_10 : decode cX12_numeral 10 = .ok (.iconst 4, 1) := by decide +kernel
theorem dX12_numeral_11 : decode cX12_numeral 11 = .ok (.iaload, 1) := by decide +kernel
theorem dX12_numeral_12 : decode cX12_numeral 12 = .ok (.iadd, 1) := by decide +kernel
theorem dX12_numeral_13 : decode cX12_numeral 13 = .ok (.iconst 1, 1) := by decide +kernel
theorem dX12_numeral_14 : decode cX12_numeral 14 = .ok (.isub, 1) := by decide +kernel
theorem dX12_numeral_15 : decode cX12_numeral 15 = .ok (.istore_n 1, 1) := by decide +kernel
theorem dX12_numeral_16 : decode cX12_numeral 16 = .ok (.aload_n 0, 1) := by decide +kernel
theorem dX12_numeral_17 : decode cX12_numeral 17 = .ok (.getfield 144, 3) := by decide +kernel
theorem dX12_numeral_20 : decode cX12_numeral 20 = .ok (.istore_n 2, 1) := by decide +kernel
theorem dX12_numeral_21 : decode cX12_numeral 21 = .ok (.aload_n 0, 1) := by decide +kernel
theorem dX12_numeral_22 : decode cX12_numeral 22 = .ok (.getfield 33, 3) := by decide +kernel
theorem dX12_numeral_25 : decode cX12_numeral 25 = .ok (.iload_n 1, 1) := by decide +kernel
theorem dX12_numeral_26 : decode cX12_numeral 26 = .ok (.iconst 0, 1) := by decide +kernel
theorem dX12_numeral_27 : decode cX12_numeral 27 = .ok (.iastore, 1) := by decide +kernel
theorem dX12_numeral_28 : decode cX12_numeral 28 = .ok (.iconst 1, 1) := by decide +kernel
theorem dX12_numeral_29 : decode cX12_numeral 29 = .ok (.istore_n 3, 1) := by decide +kernel
theorem dX12_numeral_30 : decode cX12_numeral 30 = .ok (.aload_n 0, 1) := by decide +kernel
theorem dX12_numeral_31 : decode cX12_numeral 31 = .ok (.aload_n 0, 1) := by decide +kernel
theorem dX12_numeral_32 : decode cX12_numeral 32 = .ok (.getfield 144, 3) := by decide +kernel
theorem dX12_numeral_35 : decode cX12_numeral 35 = .ok (.invokevirtual 116, 3) := by decide +kernel
theorem dX12_numeral_38 : decode cX12_numeral 38 = .ok (.invokestatic 154, 3) := by decide +kernel
theorem dX12_numeral_41 : decode cX12_numeral 41 = .ok (.ifCond .le 110, 3) := by decide +kernel
theorem dX12_numeral_44 : decode cX12_numeral 44 = .ok (.aload_n 0, 1) := by decide +kernel
theorem dX12_numeral_45 : decode cX12_numeral 45 = .ok (.aload_n 0, 1) := by decide +kernel
theorem dX12_numeral_46 : decode cX12_numeral 46 = .ok (.getfield 144, 3) := by decide +kernel
theorem dX12_numeral_49 : decode cX12_numeral 49 = .ok (.invokevirtual 116, 3) := by decide +kernel
theorem dX12_numeral_52 : decode cX12_numeral 52 = .ok (.invokestatic 154, 3) := by decide +kernel
theorem dX12_numeral_55 : decode cX12_numeral 55 = .ok (.istore 4, 2) := by decide +kernel
theorem dX12_numeral_57 : decode cX12_numeral 57 = .ok (.aload_n 0, 1) := by decide +kernel
theorem dX12_numeral_58 : decode cX12_numeral 58 = .ok (.getfield 33, 3) := by decide +kernel
theorem dX12_numeral_61 : decode cX12_numeral 61 = .ok (.iload_n 1, 1) := by decide +kernel
theorem dX12_numeral_62 : decode cX12_numeral 62 = .ok (.iaload, 1) := by decide +kernel
theorem dX12_numeral_63 : decode cX12_numeral 63 = .ok (.bipush 8, 2) := by decide +kernel
theorem dX12_numeral_65 : decode cX12_numeral 65 = .ok (.if_icmp .ge 63, 3) := by decide +kernel
theorem dX12_numeral_68 : decode cX12_numeral 68 = .ok (.iload_n 3, 1) := by decide +kernel
theorem dX12_numeral_69 : decode cX12_numeral 69 = .ok (.ifCond .eq 39, 3) := by decide +kernel
theorem dX12_numeral_72 : decode cX12_numeral 72 = .ok (.aload_n 0, 1) := by decide +kernel
theorem dX12_numeral_73 : decode cX12_numeral 73 = .ok (.getfield 33, 3) := by decide +kernel
theorem dX12_numeral_76 : decode cX12_numeral 76 = .ok (.iload_n 1, 1) := by decide +kernel
theorem dX12_numeral_77 : decode cX12_numeral 77 = .ok (.iaload, 1) := by decide +kernel
theorem dX12_numeral_78 : decode cX12_numeral 78 = .ok (.ifCond .eq 26, 3) := by decide +kernel
theorem dX12_numeral_81 : decode cX12_numeral 81 = .ok (.iload 4, 2) := by decide +kernel
theorem dX12_numeral_83 : decode cX12_numeral 83 = .ok (.aload_n 0, 1) := by decide +kernel
theorem dX12_numeral_84 : decode cX12_numeral 84 = .ok (.getfield 30, 3) := by decide +kernel
theorem dX12_numeral_87 : decode cX12_numeral 87 = .ok (.bipush 9, 2) := by decide +kernel
theorem dX12_numeral_89 : decode cX12_numeral 89 = .ok (.iload_n 1, 1) := by decide +kernel
theorem dX12_numeral_90 : decode cX12_numeral 90 = .ok (.imul, 1) := by decide +kernel
theorem dX12_numeral_91 : decode cX12_numeral 91 = .ok (.aload_n 0, 1) := by decide +kernel
theorem dX12_numeral_92 : decode cX12_numeral 92 = .ok (.getfield 33, 3) := by decide +kernel
theorem dX12_numeral_95 : decode cX12_numeral 95 = .ok (.iload_n 1, 1) := by decide +kernel
theorem dX12_numeral_96 : decode cX12_numeral 96 = .ok (.iaload, 1) := by decide +kernel
theorem dX12_numeral_97 : decode cX12_numeral 97 = .ok (.iadd, 1) := by decide +kernel
theorem dX12_numeral_98 : decode cX12_numeral 98 = .ok (.iconst 1, 1) := by decide +kernel
theorem dX12_numeral_99 : decode cX12_numeral 99 = .ok (.isub, 1) := by decide +kernel
theorem dX12_numeral_100 : decode cX12_numeral 100 = .ok (.iaload, 1) := by decide +kernel
theorem dX12_numeral_101 : decode cX12_numeral 101 = .ok (.if_icmp .gt 7, 3) := by decide +kernel
theorem dX12_numeral_104 : decode cX12_numeral 104 = .ok (.iconst 1, 1) := by decide +kernel
theorem dX12_numeral_105 : decode cX12_numeral 105 = .ok (.goto 4, 3) := by decide +kernel
theorem dX12_numeral_108 : decode cX12_numeral 108 = .ok (.iconst 0, 1) := by decide +kernel
theorem dX12_numeral_109 : decode cX12_numeral 109 = .ok (.istore_n 3, 1) := by decide +kernel
theorem dX12_numeral_110 : decode cX12_numeral 110 = .ok (.aload_n 0, 1) := by decide +kernel
theorem dX12_numeral_111 : decode cX12_numeral 111 = .ok (.getfield 30, 3) := by decide +kernel
theorem dX12_numeral_114 : decode cX12_numeral 114 = .ok (.bipush 9, 2) := by decide +kernel
theorem dX12_numeral_116 : decode cX12_numeral 116 = .ok (.iload_n 1, 1) := by decide +kernel
theorem dX12_numeral_117 : decode cX12_numeral 117 = .ok (.imul, 1) := by decide +kernel
theorem dX12_numeral_118 : decode cX12_numeral 118 = .ok (.aload_n 0, 1) := by decide +kernel
theorem dX12_numeral_119 : decode cX12_numeral 119 = .ok (.getfield 33, 3) := by decide +kernel
theorem dX12_numeral_122 : decode cX12_numeral 122 = .ok (.iload_n 1, 1) := by decide +kernel
theorem dX12_numeral_123 : decode cX12_numeral 123 = .ok (.iaload, 1) := by decide +kernel
theorem dX12_numeral_124 : decode cX12_numeral 124 = .ok (.iadd, 1) := by decide +kernel
theorem dX12_numeral_125 : decode cX12_numeral 125 = .ok (.iload 4, 2) := by decide +kernel
theorem dX12_numeral_127 : decode cX12_numeral 127 = .ok (.iastore, 1) := by decide +kernel
theorem dX12_numeral_128 : decode cX12_numeral 128 = .ok (.aload_n 0, 1) := by decide +kernel
theorem dX12_numeral_129 : decode cX12_numeral 129 = .ok (.getfield 33, 3) := by decide +kernel
theorem dX12_numeral_132 : decode cX12_numeral 132 = .ok (.iload_n 1, 1) := by decide +kernel
theorem dX12_numeral_133 : decode cX12_numeral 133 = .ok (.dup2, 1) := by decide +kernel
theorem dX12_numeral_134 : decode cX12_numeral 134 = .ok (.iaload, 1) := by decide +kernel
theorem dX12_numeral_135 : decode cX12_numeral 135 = .ok (.iconst 1, 1) := by decide +kernel
theorem dX12_numeral_136 : decode cX12_numeral 136 = .ok (.iadd, 1) := by decide +kernel
theorem dX12_numeral_137 : decode cX12_numeral 137 = .ok (.iastore, 1) := by decide +kernel
theorem dX12_numeral_138 : decode cX12_numeral 138 = .ok (.aload_n 0, 1) := by decide +kernel
theorem dX12_numeral_139 : decode cX12_numeral 139 = .ok (.dup, 1) := by decide +kernel
theorem dX12_numeral_140 : decode cX12_numeral 140 = .ok (.getfield 144, 3) := by decide +kernel
theorem dX12_numeral_143 : decode cX12_numeral 143 = .ok (.iconst 1, 1) := by decide +kernel
theorem dX12_numeral_144 : decode cX12_numeral 144 = .ok (.iadd, 1) := by decide +kernel
theorem dX12_numeral_145 : decode cX12_numeral 145 = .ok (.putfield 144, 3) := by decide +kernel
theorem dX12_numeral_148 : decode cX12_numeral 148 = .ok (.goto (-118), 3) := by decide +kernel
theorem dX12_numeral_151 : decode cX12_numeral 151 = .ok (.aload_n 0, 1) := by decide +kernel
theorem dX12_numeral_152 : decode cX12_numeral 152 = .ok (.getfield 33, 3) := by decide +kernel
theorem dX12_numeral_155 : decode cX12_numeral 155 = .ok (.iload_n 1, 1) := by decide +kernel
theorem dX12_numeral_156 : decode cX12_numeral 156 = .ok (.iaload, 1) := by decide +kernel
theorem dX12_numeral_157 : decode cX12_numeral 157 = .ok (.ifCond .le 18, 3) := by decide +kernel
theorem dX12_numeral_160 : decode cX12_numeral 160 = .ok (.aload_n 0, 1) := by decide +kernel
theorem dX12_numeral_161 : decode cX12_numeral 161 = .ok (.getfield 33, 3) := by decide +kernel
theorem dX12_numeral_164 : decode cX12_numeral 164 = .ok (.iload_n 1, 1) := by decide +kernel
theorem dX12_numeral_165 : decode cX12_numeral 165 = .ok (.iaload, 1) := by decide +kernel
theorem dX12_numeral_166 : decode cX12_numeral 166 = .ok (.bipush 9, 2) := by decide +kernel
theorem dX12_numeral_168 : decode cX12_numeral 168 = .ok (.if_icmp .ge 7, 3) := by decide +kernel
theorem dX12_numeral_171 : decode cX12_numeral 171 = .ok (.iload_n 3, 1) := by decide +kernel
theorem dX12_numeral_172 : decode cX12_numeral 172 = .ok (.ifCond .ne 12, 3) := by decide +kernel
theorem dX12_numeral_175 : decode cX12_numeral 175 = .ok (.aload_n 0, 1) := by decide +kernel
theorem dX12_numeral_176 : decode cX12_numeral 176 = .ok (.iconst 1, 1) := by decide +kernel
theorem dX12_numeral_177 : decode cX12_numeral 177 = .ok (.iload_n 2, 1) := by decide +kernel
theorem dX12_numeral_178 : decode cX12_numeral 178 = .ok (.invokevirtual 150, 3) := by decide +kernel
theorem dX12_numeral_181 : decode cX12_numeral 181 = .ok (.ifCond .eq 7, 3) := by decide +kernel
theorem dX12_numeral_184 : decode cX12_numeral 184 = .ok (.iconst 1, 1) := by decide +kernel
theorem dX12_numeral_185 : decode cX12_numeral 185 = .ok (.goto 4, 3) := by decide +kernel
theorem dX12_numeral_188 : decode cX12_numeral 188 = .ok (.iconst 0, 1) := by decide +kernel
theorem dX12_numeral_189 : decode cX12_numeral 189 = .ok (.ireturn, 1) := by decide +kernel
theorem dX12_list_0 : decode cX12_list 0 = .ok (.aload_n 0, 1) := by decide +kernel
theorem dX12_list_1 : decode cX12_list 1 = .ok (.iconst 0, 1) := by decide +kernel
theorem dX12_list_2 : decode cX12_list 2 = .ok (.putfield 106, 3) := by decide +kernel
theorem dX12_list_5 : decode cX12_list 5 = .ok (.iload_n 1, 1) := by decide +kernel
theorem dX12_list_6 : decode cX12_list 6 = .ok (.iconst 2, 1) := by decide +kernel
theorem dX12_list_7 : decode cX12_list 7 = .ok (.iconst 3, 1) := by decide +kernel
theorem dX12_list_8 : decode cX12_list 8 = .ok (.invokestatic 112, 3) := by decide +kernel
theorem dX12_list_11 : decode cX12_list 11 = .ok (.ifCond .eq 11, 3) := by decide +kernel
theorem dX12_list_14 : decode cX12_list 14 = .ok (.aload_n 0, 1) := by decide +kernel
theorem dX12_list_15 : decode cX12_list 15 = .ok (.getfield 157, 3) := by decide +kernel
theorem dX12_list_18 : decode cX12_list 18 = .ok (.iconst 4, 1) := by decide +kernel
theorem dX12_list_19 : decode cX12_list 19 = .ok (.if_icmp .ne 5, 3) := by decide +kernel
theorem dX12_list_22 : decode cX12_list 22 = .ok (.iconst (-1), 1) := by decide +kernel
theorem dX12_list_23 : decode cX12_list 23 = .ok (.ireturn, 1) := by decide +kernel
theorem dX12_list_24 : decode cX12_list 24 = .ok (.aload_n 0, 1) := by decide +kernel
theorem dX12_list_25 : decode cX12_list 25 = .ok (.iconst 0, 1) := by decide +kernel
theorem dX12_list_26 : decode cX12_list 26 = .ok (.putfield 141, 3) := by decide +kernel
theorem dX12_list_29 : decode cX12_list 29 = .ok (.aload_n 0, 1) := by decide +kernel
theorem dX12_list_30 : decode cX12_list 30 = .ok (.iconst (-1), 1) := by decide +kernel
theorem dX12_list_31 : decode cX12_list 31 = .ok (.putfield 36, 3) := by decide +kernel
theorem dX12_list_34 : decode cX12_list 34 = .ok (.aload_n 0, 1) := by decide +kernel
theorem dX12_list_35 : decode cX12_list 35 = .ok (.getfield 23, 3) := by decide +kernel
theorem dX12_list_38 : decode cX12_list 38 = .ok (.iconst 4, 1) := by decide +kernel
theorem dX12_list_39 : decode cX12_list 39 = .ok (.iconst 0, 1) := by decide +kernel
theorem dX12_list_40 : decode cX12_list 40 = .ok (.iastore, 1) := by decide +kernel
theorem dX12_list_41 : decode cX12_list 41 = .ok (.aload_n 0, 1) := by decide +kernel
theorem dX12_list_42 : decode cX12_list 42 = .ok (.iconst 0, 1) := by decide +kernel
theorem dX12_list_43 : decode cX12_list 43 = .ok (.putfield 144, 3) := by decide +kernel
theorem dX12_list_46 : decode cX12_list 46 = .ok (.aload_n 0, 1) := by decide +kernel
theorem dX12_list_47 : decode cX12_list 47 = .ok (.invokevirtual 160, 3) := by decide +kernel
theorem dX12_list_50 : decode cX12_list 50 = .ok (.istore_n 2, 1) := by decide +kernel
theorem dX12_list_51 : decode cX12_list 51 = .ok (.aload_n 0, 1) := by decide +kernel
theorem dX12_list_52 : decode cX12_list 52 = .ok (.invokevirtual 147, 3) := by decide +kernel
theorem dX12_list_55 : decode cX12_list 55 = .ok (.iload_n 2, 1) := by decide +kernel
theorem dX12_list_56 : decode cX12_list 56 = .ok (.ifCond .eq 41, 3) := by decide +kernel
theorem dX12_list_59 : decode cX12_list 59 = .ok (.aload_n 0, 1) := by decide +kernel
theorem dX12_list_60 : decode cX12_list 60 = .ok (.getfield 144, 3) := by decide +kernel
theorem dX12_list_63 : decode cX12_list 63 = .ok (.aload_n 0, 1) := by decide +kernel
theorem dX12_list_64 : decode cX12_list 64 = .ok (.getfield 109, 3) := by decide +kernel
theorem dX12_list_67 : decode cX12_list 67 = .ok (.if_icmp .ge 30, 3) := by decide +kernel
theorem dX12_list_70 : decode cX12_list 70 = .ok (.aload_n 0, 1) := by decide +kernel
theorem dX12_list_71 : decode cX12_list 71 = .ok (.invokevirtual 164, 3) := by decide +kernel
theorem dX12_list_74 : decode cX12_list 74 = .ok (.ifCond .eq 14, 3) := by decide +kernel
theorem dX12_list_77 : decode cX12_list 77 = .ok (.aload_n 0, 1) := by decide +kernel
theorem dX12_list_78 : decode cX12_list 78 = .ok (.invokevirtual 160, 3) := by decide +kernel
theorem dX12_list_81 : decode cX12_list 81 = .ok (.ifCond .eq 7, 3) := by decide +kernel
theorem dX12_list_84 : decode cX12_list 84 = .ok (.iconst 1, 1) := by decide +kernel
theorem dX12_list_85 : decode cX12_list 85 = .ok (.goto 4, 3) := by decide +kernel
theorem dX12_list_88 : decode cX12_list 88 = .ok (.iconst 0, 1) := by decide +kernel
theorem dX12_list_89 : decode cX12_list 89 = .ok (.istore_n 2, 1) := by decide +kernel
theorem dX12_list_90 : decode cX12_list 90 = .ok (.aload_n 0, 1) := by decide +kernel
theorem dX12_list_91 : decode cX12_list 91 = .ok (.invokevirtual 147, 3) := by decide +kernel
theorem dX12_list_94 : decode cX12_list 94 = .ok (.goto (-39), 3) := by decide +kernel
theorem dX12_list_97 : decode cX12_list 97 = .ok (.aload_n 0, 1) := by decide +kernel
theorem dX12_list_98 : decode cX12_list 98 = .ok (.getfield 141, 3) := by decide +kernel
theorem dX12_list_101 : decode cX12_list 101 = .ok (.ifCond .ne 23, 3) := by decide +kernel
theorem dX12_list_104 : decode cX12_list 104 = .ok (.aload_n 0, 1) := by decide +kernel
theorem dX12_list_105 : decode cX12_list 105 = .ok (.getfield 23, 3) := by decide +kernel
theorem dX12_list_108 : decode cX12_list 108 = .ok (.iconst 4, 1) := by decide +kernel
theorem dX12_list_109 : decode cX12_list 109 = .ok (.iaload, 1) := by decide +kernel
theorem dX12_list_110 : decode cX12_list 110 = .ok (.iconst 1, 1) := by decide +kernel
theorem dX12_list_111 : decode cX12_list 111 = .ok (.if_icmp .ne 13, 3) := by decide +kernel
theorem dX12_list_114 : decode cX12_list 114 = .ok (.aload_n 0, 1) := by decide +kernel
theorem dX12_list_115 : decode cX12_list 115 = .ok (.iconst 1, 1) := by decide +kernel
theorem dX12_list_116 : decode cX12_list 116 = .ok (.aload_n 0, 1) := by decide +kernel
theorem dX12_list_117 : decode cX12_list 117 = .ok (.getfield 109, 3) := by decide +kernel
theorem dX12_list_120 : decode cX12_list 120 = .ok (.invokevirtual 150, 3) := by decide +kernel
theorem dX12_list_123 : decode cX12_list 123 = .ok (.istore_n 2, 1) := by decide +kernel
theorem dX12_list_124 : decode cX12_list 124 = .ok (.aload_n 0, 1) := by decide +kernel
theorem dX12_list_125 : decode cX12_list 125 = .ok (.iconst 0, 1) := by decide +kernel
theorem dX12_list_126 : decode cX12_list 126 = .ok (.putfield 109, 3) := by decide +kernel
theorem dX12_list_129 : decode cX12_list 129 = .ok (.aload_n 0, 1) := by decide +kernel
theorem dX12_list_130 : decode cX12_list 130 = .ok (.getfield 141, 3) := by decide +kernel
theorem dX12_list_133 : decode cX12_list 133 = .ok (.ifCond .le 10, 3) := by decide +kernel
theorem dX12_list_136 : decode cX12_list 136 = .ok (.iconst (-1), 1) := by decide +kernel
theorem dX12_list_137 : decode cX12_list 137 = .ok (.aload_n 0, 1) := by decide +kernel
theorem dX12_list_138 : decode cX12_list 138 = .ok (.getfield 141, 3) := by decide +kernel
theorem dX12_list_141 : decode cX12_list 141 = .ok (.isub, 1) := by decide +kernel
theorem dX12_list_142 : decode cX12_list 142 = .ok (.ireturn, 1) := by decide +kernel
theorem dX12_list_143 : decode cX12_list 143 = .ok (.aload_n 0, 1) := by decide +kernel
theorem dX12_list_144 : decode cX12_list 144 = .ok (.getfield 20, 3) := by decide +kernel
theorem dX12_list_147 : decode cX12_list 147 = .ok (.aload_n 0, 1) := by decide +kernel
theorem dX12_list_148 : decode cX12_list 148 = .ok (.getfield 157, 3) := by decide +kernel
theorem dX12_list_151 : decode cX12_list 151 = .ok (.iload_n 1, 1) := by decide +kernel
theorem dX12_list_152 : decode cX12_list 152 = .ok (.iastore, 1) := by decide +kernel
theorem dX12_list_153 : decode cX12_list 153 = .ok (.aload_n 0, 1) := by decide +kernel
theorem dX12_list_154 : decode cX12_list 154 = .ok (.getfield 23, 3) := by decide +kernel
theorem dX12_list_157 : decode cX12_list 157 = .ok (.aload_n 0, 1) := by decide +kernel
theorem dX12_list_158 : decode cX12_list 158 = .ok (.getfield 157, 3) := by decide +kernel
theorem dX12_list_161 : decode cX12_list 161 = .ok (.aload_n 0, 1) := by decide +kernel
theorem dX12_list_162 : decode cX12_list 162 = .ok (.getfield 23, 3) := by decide +kernel
theorem dX12_list_165 : decode cX12_list 165 = .ok (.iconst 4, 1) := by decide +kernel
theorem dX12_list_166 : decode cX12_list 166 = .ok (.iaload, 1) := by decide +kernel
theorem dX12_list_167 : decode cX12_list 167 = .ok (.iastore, 1) := by decide +kernel
theorem dX12_list_168 : decode cX12_list 168 = .ok (.iconst 0, 1) := by decide +kernel
theorem dX12_list_169 : decode cX12_list 169 = .ok (.istore_n 3, 1) := by decide +kernel
theorem dX12_list_170 : decode cX12_list 170 = .ok (.iload_n 3, 1) := by decide +kernel
theorem dX12_list_171 : decode cX12_list 171 = .ok (.bipush 10, 2) := by decide +kernel
theorem dX12_list_173 : decode cX12_list 173 = .ok (.if_icmp .ge 106, 3) := by decide +kernel
theorem dX12_list_176 : decode cX12_list 176 = .ok (.aload_n 0, 1) := by decide +kernel
theorem dX12_list_177 : decode cX12_list 177 = .ok (.getfield 26, 3) := by decide +kernel
theorem dX12_list_180 : decode cX12_list 180 = .ok (.bipush 10, 2) := by decide +kernel
theorem dX12_list_182 : decode cX12_list 182 = .ok (.aload_n 0, 1) := by decide +kernel
theorem dX12_list_183 : decode cX12_list 183 = .ok (.getfield 157, 3) := by decide +kernel
theorem dX12_list_186 : decode cX12_list 186 = .ok (.imul, 1) := by decide +kernel
theorem dX12_list_187 : decode cX12_list 187 = .ok (.iload_n 3, 1) := by decide +kernel
theorem dX12_list_188 : decode cX12_list 188 = .ok (.iadd, 1) := by decide +kernel
theorem dX12_list_189 : decode cX12_list 189 = .ok (.aload_n 0, 1) := by decide +kernel
theorem dX12_list_190 : decode cX12_list 190 = .ok (.getfield 26, 3) := by decide +kernel
theorem dX12_list_193 : decode cX12_list 193 = .ok (.bipush 40, 2) := by decide +kernel
theorem dX12_list_195 : decode cX12_list 195 = .ok (.iload_n 3, 1) := by decide +kernel
theorem dX12_list_196 : decode cX12_list 196 = .ok (.iadd, 1) := by decide +kernel
theorem dX12_list_197 : decode cX12_list 197 = .ok (.laload, 1) := by decide +kernel
theorem dX12_list_198 : decode cX12_list 198 = .ok (.lastore, 1) := by decide +kernel
theorem dX12_list_199 : decode cX12_list 199 = .ok (.aload_n 0, 1) := by decide +kernel
theorem dX12_list_200 : decode cX12_list 200 = .ok (.getfield 33, 3) := by decide +kernel
theorem dX12_list_203 : decode cX12_list 203 = .ok (.bipush 10, 2) := by decide +kernel
theorem dX12_list_205 : decode cX12_list 205 = .ok (.aload_n 0, 1) := by decide +kernel
theorem dX12_list_206 : decode cX12_list 206 = .ok (.getfield 157, 3) := by decide +kernel
theorem dX12_list_209 : decode cX12_list 209 = .ok (.imul, 1) := by decide +kernel
theorem dX12_list_210 : decode cX12_list 210 = .ok (.iload_n 3, 1) := by decide +kernel
theorem dX12_list_211 : decode cX12_list 211 = .ok (.iadd, 1) := by decide +kernel
theorem dX12_list_212 : decode cX12_list 212 = .ok (.aload_n 0, 1) := by decide +kernel
theorem dX12_list_213 : decode cX12_list 213 = .ok (.getfield 33, 3) := by decide +kernel
theorem dX12_list_216 : decode cX12_list 216 = .ok (.bipush 40, 2) := by decide +kernel
theorem dX12_list_218 : decode cX12_list 218 = .ok (.iload_n 3, 1) := by decide +kernel
theorem dX12_list_219 : decode cX12_list 219 = .ok (.iadd, 1) := by decide +kernel
theorem dX12_list_220 : decode cX12_list 220 = .ok (.iaload, 1) := by decide +kernel
theorem dX12_list_221 : decode cX12_list 221 = .ok (.iastore, 1) := by decide +kernel
theorem dX12_list_222 : decode cX12_list 222 = .ok (.iconst 0, 1) := by decide +kernel
theorem dX12_list_223 : decode cX12_list 223 = .ok (.istore 4, 2) := by decide +kernel
theorem dX12_list_225 : decode cX12_list 225 = .ok (.iload 4, 2) := by decide +kernel
theorem dX12_list_227 : decode cX12_list 227 = .ok (.bipush 9, 2) := by decide +kernel
theorem dX12_list_229 : decode cX12_list 229 = .ok (.if_icmp .ge 44, 3) := by decide +kernel
theorem dX12_list_232 : decode cX12_list 232 = .ok (.aload_n 0, 1) := by decide +kernel
theorem dX12_list_233 : decode cX12_list 233 = .ok (.getfield 30, 3) := by decide +kernel
theorem dX12_list_236 : decode cX12_list 236 = .ok (.bipush 9, 2) := by decide +kernel
theorem dX12_list_238 : decode cX12_list 238 = .ok (.bipush 10, 2) := by decide +kernel
theorem dX12_list_240 : decode cX12_list 240 = .ok (.aload_n 0, 1) := by decide +kernel
theorem dX12_list_241 : decode cX12_list 241 = .ok (.getfield 157, 3) := by decide +kernel
theorem dX12_list_244 : decode cX12_list 244 = .ok (.imul, 1) := by decide +kernel
theorem dX12_list_245 : decode cX12_list 245 = .ok (.iload_n 3, 1) := by decide +kernel
theorem dX12_list_246 : decode cX12_list 246 = .ok (.iadd, 1) := by decide +kernel
theorem dX12_list_247 : decode cX12_list 247 = .ok (.imul, 1) := by decide +kernel
theorem dX12_list_248 : decode cX12_list 248 = .ok (.iload 4, 2) := by decide +kernel
theorem dX12_list_250 : decode cX12_list 250 = .ok (.iadd, 1) := by decide +kernel
theorem dX12_list_251 : decode cX12_list 251 = .ok (.aload_n 0, 1) := by decide +kernel
theorem dX12_list_252 : decode cX12_list 252 = .ok (.getfield 30, 3) := by decide +kernel
theorem dX12_list_255 : decode cX12_list 255 = .ok (.bipush 9, 2) := by decide +kernel
theorem dX12_list_257 : decode cX12_list 257 = .ok (.bipush 40, 2) := by decide +kernel
theorem dX12_list_259 : decode cX12_list 259 = .ok (.iload_n 3, 1) := by decide +kernel
theorem dX12_list_260 : decode cX12_list 260 = .ok (.iadd, 1) := by decide +kernel
theorem dX12_list_261 : decode cX12_list 261 = .ok (.imul, 1) := by decide +kernel
theorem dX12_list_262 : decode cX12_list 262 = .ok (.iload 4, 2) := by decide +kernel
theorem dX12_list_264 : decode cX12_list 264 = .ok (.iadd, 1) := by decide +kernel
theorem dX12_list_265 : decode cX12_list 265 = .ok (.iaload, 1) := by decide +kernel
theorem dX12_list_266 : decode cX12_list 266 = .ok (.iastore, 1) := by decide +kernel
theorem dX12_list_267 : decode cX12_list 267 = .ok (.iinc 4 1, 3) := by decide +kernel
theorem dX12_list_270 : decode cX12_list 270 = .ok (.goto (-45), 3) := by decide +kernel
theorem dX12_list_273 : decode cX12_list 273 = .ok (.iinc 3 1, 3) := by decide +kernel
theorem dX12_list_276 : decode cX12_list 276 = .ok (.goto (-106), 3) := by decide +kernel
theorem dX12_list_279 : decode cX12_list 279 = .ok (.aload_n 0, 1) := by decide +kernel
theorem dX12_list_280 : decode cX12_list 280 = .ok (.dup, 1) := by decide +kernel
theorem dX12_list_281 : decode cX12_list 281 = .ok (.getfield 157, 3) := by decide +kernel
theorem dX12_list_284 : decode cX12_list 284 = .ok (.iconst 1, 1) := by decide +kernel
theorem dX12_list_285 : decode cX12_list 285 = .ok (.iadd, 1) := by decide +kernel
theorem dX12_list_286 : decode cX12_list 286 = .ok (.putfield 157, 3) := by decide +kernel
theorem dX12_list_289 : decode cX12_list 289 = .ok (.aload_n 0, 1) := by decide +kernel
theorem dX12_list_290 : decode cX12_list 290 = .ok (.getfield 157, 3) := by decide +kernel
theorem dX12_list_293 : decode cX12_list 293 = .ok (.iconst 1, 1) := by decide +kernel
theorem dX12_list_294 : decode cX12_list 294 = .ok (.isub, 1) := by decide +kernel
theorem dX12_list_295 : decode cX12_list 295 = .ok (.ireturn, 1) := by decide +kernel
theorem dX12_place_0 : decode cX12_place 0 = .ok (.aload_n 0, 1) := by decide +kernel
theorem dX12_place_1 : decode cX12_place 1 = .ok (.iconst 0, 1) := by decide +kernel
theorem dX12_place_2 : decode cX12_place 2 = .ok (.putfield 106, 3) := by decide +kernel
theorem dX12_place_5 : decode cX12_place 5 = .ok (.aload_n 0, 1) := by decide +kernel
theorem dX12_place_6 : decode cX12_place 6 = .ok (.getfield 36, 3) := by decide +kernel
theorem dX12_place_9 : decode cX12_place 9 = .ok (.ireturn, 1) := by decide +kernel
theorem dX12_isList_0 : decode cX12_isList 0 = .ok (.iload_n 1, 1) := by decide +kernel
theorem dX12_isList_1 : decode cX12_isList 1 = .ok (.iconst 0, 1) := by decide +kernel
theorem dX12_isList_2 : decode cX12_isList 2 = .ok (.aload_n 0, 1) := by decide +kernel
theorem dX12_isList_3 : decode cX12_isList 3 = .ok (.getfield 157, 3) := by decide +kernel
theorem dX12_isList_6 : decode cX12_isList 6 = .ok (.iconst 1, 1) := by decide +kernel
theorem dX12_isList_7 : decode cX12_isList 7 = .ok (.isub, 1) := by decide +kernel
theorem dX12_isList_8 : decode cX12_isList 8 = .ok (.invokestatic 112, 3) := by decide +kernel
theorem dX12_isList_11 : decode cX12_isList 11 = .ok (.ireturn, 1) := by decide +kernel
theorem dX12_isStation_0 : decode cX12_isStation 0 = .ok (.aload_n 0, 1) := by decide +kernel
theorem dX12_isStation_1 : decode cX12_isStation 1 = .ok (.iload_n 1, 1) := by decide +kernel
theorem dX12_isStation_2 : decode cX12_isStation 2 = .ok (.invokevirtual 167, 3) := by decide +kernel
theorem dX12_isStation_5 : decode cX12_isStation 5 = .ok (.ifCond .eq 23, 3) := by decide +kernel
theorem dX12_isStation_8 : decode cX12_isStation 8 = .ok (.iload_n 2, 1) := by decide +kernel
theorem dX12_isStation_9 : decode cX12_isStation 9 = .ok (.iconst 0, 1) := by decide +kernel
theorem dX12_isStation_10 : decode cX12_isStation 10 = .ok (.aload_n 0, 1) := by decide +kernel
theorem dX12_isStation_11 : decode cX12_isStation 11 = .ok (.getfield 23, 3) := by decide +kernel
theorem dX12_isStation_14 : decode cX12_isStation 14 = .ok (.iload_n 1, 1) := by decide +kernel
theorem dX12_isStation_15 : decode cX12_isStation 15 = .ok (.iaload, 1) := by decide +kernel
theorem dX12_isStation_16 : decode cX12_isStation 16 = .ok (.iconst 1, 1) := by decide +kernel
theorem dX12_isStation_17 : decode cX12_isStation 17 = .ok (.isub, 1) := by decide +kernel
theorem dX12_isStation_18 : decode cX12_isStation 18 = .ok (.invokestatic 112, 3) := by decide +kernel
theorem dX12_isStation_21 : decode cX12_isStation 21 = .ok (.ifCond .eq 7, 3) := by decide +kernel
theorem dX12_isStation_24 : decode cX12_isStation 24 = .ok (.iconst 1, 1) := by decide +kernel
theorem dX12_isStation_25 : decode cX12_isStation 25 = .ok (.goto 4, 3) := by decide +kernel
theorem dX12_isStation_28 : decode cX12_isStation 28 = .ok (.iconst 0, 1) := by decide +kernel
theorem dX12_isStation_29 : decode cX12_isStation 29 = .ok (.ireturn, 1) := by decide +kernel
theorem dX12_valueOf_0 : decode cX12_valueOf 0 = .ok (.iconst 0, 1) := by decide +kernel
theorem dX12_valueOf_1 : decode cX12_valueOf 1 = .ok (.istore_n 3, 1) := by decide +kernel
theorem dX12_valueOf_2 : decode cX12_valueOf 2 = .ok (.iconst 0, 1) := by decide +kernel
theorem dX12_valueOf_3 : decode cX12_valueOf 3 = .ok (.istore 4, 2) := by decide +kernel
theorem dX12_valueOf_5 : decode cX12_valueOf 5 = .ok (.iload 4, 2) := by decide +kernel
theorem dX12_valueOf_7 : decode cX12_valueOf 7 = .ok (.aload_n 0, 1) := by decide +kernel
theorem dX12_valueOf_8 : decode cX12_valueOf 8 = .ok (.getfield 33, 3) := by decide +kernel
theorem dX12_valueOf_11 : decode cX12_valueOf 11 = .ok (.bipush 10, 2) := by decide +kernel
theorem dX12_valueOf_13 : decode cX12_valueOf 13 = .ok (.iload_n 1, 1) := by decide +kernel
theorem dX12_valueOf_14 : decode cX12_valueOf 14 = .ok (.imul, 1) := by decide +kernel
theorem dX12_valueOf_15 : decode cX12_valueOf 15 = .ok (.iload_n 2, 1) := by decide +kernel
theorem dX12_valueOf_16 : decode cX12_valueOf 16 = .ok (.iadd, 1) := by decide +kernel
theorem dX12_valueOf_17 : decode cX12_valueOf 17 = .ok (.iaload, 1) := by decide +kernel
theorem dX12_valueOf_18 : decode cX12_valueOf 18 = .ok (.if_icmp .ge 32, 3) := by decide +kernel
theorem dX12_valueOf_21 : decode cX12_valueOf 21 = .ok (.iload_n 3, 1) := by decide +kernel
theorem dX12_valueOf_22 : decode cX12_valueOf 22 = .ok (.aload_n 0, 1) := by decide +kernel
theorem dX12_valueOf_23 : decode cX12_valueOf 23 = .ok (.getfield 30, 3) := by decide +kernel
theorem dX12_valueOf_26 : decode cX12_valueOf 26 = .ok (.bipush 9, 2) := by decide +kernel
theorem dX12_valueOf_28 : decode cX12_valueOf 28 = .ok (.bipush 10, 2) := by decide +kernel
theorem dX12_valueOf_30 : decode cX12_valueOf 30 = .ok (.iload_n 1, 1) := by decide +kernel
theorem dX12_valueOf_31 : decode cX12_valueOf 31 = .ok (.imul, 1) := by decide +kernel
theorem dX12_valueOf_32 : decode cX12_valueOf 32 = .ok (.iload_n 2, 1) := by decide +kernel
theorem dX12_valueOf_33 : decode cX12_valueOf 33 = .ok (.iadd, 1) := by decide +kernel
theorem dX12_valueOf_34 : decode cX12_valueOf 34 = .ok (.imul, 1) := by decide +kernel
theorem dX12_valueOf_35 : decode cX12_valueOf 35 = .ok (.iload 4, 2) := by decide +kernel
theorem dX12_valueOf_37 : decode cX12_valueOf 37 = .ok (.iadd, 1) := by decide +kernel
theorem dX12_valueOf_38 : decode cX12_valueOf 38 = .ok (.iaload, 1) := by decide +kernel
theorem dX12_valueOf_39 : decode cX12_valueOf 39 = .ok (.invokestatic 171, 3) := by decide +kernel
theorem dX12_valueOf_42 : decode cX12_valueOf 42 = .ok (.iadd, 1) := by decide +kernel
theorem dX12_valueOf_43 : decode cX12_valueOf 43 = .ok (.istore_n 3, 1) := by decide +kernel
theorem dX12_valueOf_44 : decode cX12_valueOf 44 = .ok (.iinc 4 1, 3) := by decide +kernel
theorem dX12_valueOf_47 : decode cX12_valueOf 47 = .ok (.goto (-42), 3) := by decide +kernel
theorem dX12_valueOf_50 : decode cX12_valueOf 50 = .ok (.iload_n 3, 1) := by decide +kernel
theorem dX12_valueOf_51 : decode cX12_valueOf 51 = .ok (.ireturn, 1) := by decide +kernel
theorem dX12_ruin_0 : decode cX12_ruin 0 = .ok (.aload_n 0, 1) := by decide +kernel
theorem dX12_ruin_1 : decode cX12_ruin 1 = .ok (.iconst 0, 1) := by decide +kernel
theorem dX12_ruin_2 : decode cX12_ruin 2 = .ok (.putfield 106, 3) := by decide +kernel
theorem dX12_ruin_5 : decode cX12_ruin 5 = .ok (.aload_n 0, 1) := by decide +kernel
theorem dX12_ruin_6 : decode cX12_ruin 6 = .ok (.invokevirtual 174, 3) := by decide +kernel
theorem dX12_ruin_9 : decode cX12_ruin 9 = .ok (.lstore_n 2, 1) := by decide +kernel
theorem dX12_ruin_10 : decode cX12_ruin 10 = .ok (.lload_n 2, 1) := by decide +kernel
theorem dX12_ruin_11 : decode cX12_ruin 11 = .ok (.lconst 0, 1) := by decide +kernel
theorem dX12_ruin_12 : decode cX12_ruin 12 = .ok (.lcmp, 1) := by decide +kernel
theorem dX12_ruin_13 : decode cX12_ruin 13 = .ok (.ifCond .eq 23, 3) := by decide +kernel
theorem dX12_ruin_16 : decode cX12_ruin 16 = .ok (.iload_n 1, 1) := by decide +kernel
theorem dX12_ruin_17 : decode cX12_ruin 17 = .ok (.iconst 0, 1) := by decide +kernel
theorem dX12_ruin_18 : decode cX12_ruin 18 = .ok (.sipush 600, 3) := by decide +kernel
theorem dX12_ruin_21 : decode cX12_ruin 21 = .ok (.invokestatic 112, 3) := by decide +kernel
theorem dX12_ruin_24 : decode cX12_ruin 24 = .ok (.ifCond .eq 12, 3) := by decide +kernel
theorem dX12_ruin_27 : decode cX12_ruin 27 = .ok (.aload_n 0, 1) := by decide +kernel
theorem dX12_ruin_28 : decode cX12_ruin 28 = .ok (.getfield 178, 3) := by decide +kernel
theorem dX12_ruin_31 : decode cX12_ruin 31 = .ok (.bipush 12, 2) := by decide +kernel
theorem dX12_ruin_33 : decode cX12_ruin 33 = .ok (.if_icmp .ne 5, 3) := by decide +kernel
theorem dX12_ruin_36 : decode cX12_ruin 36 = .ok (.iconst (-1), 1) := by decide +kernel
theorem dX12_ruin_37 : decode cX12_ruin 37 = .ok (.ireturn, 1) := by decide +kernel
theorem dX12_ruin_38 : decode cX12_ruin 38 = .ok (.iconst 0, 1) := by decide +kernel
theorem dX12_ruin_39 : decode cX12_ruin 39 = .ok (.istore 4, 2) := by decide +kernel
theorem dX12_ruin_41 : decode cX12_ruin 41 = .ok (.iload 4, 2) := by decide +kernel
theorem dX12_ruin_43 : decode cX12_ruin 43 = .ok (.aload_n 0, 1) := by decide +kernel
theorem dX12_ruin_44 : decode cX12_ruin 44 = .ok (.getfield 178, 3) := by decide +kernel
theorem dX12_ruin_47 : decode cX12_ruin 47 = .ok (.if_icmp .ge 22, 3) := by decide +kernel
theorem dX12_ruin_50 : decode cX12_ruin 50 = .ok (.aload_n 0, 1) := by decide +kernel
theorem dX12_ruin_51 : decode cX12_ruin 51 = .ok (.getfield 40, 3) := by decide +kernel
theorem dX12_ruin_54 : decode cX12_ruin 54 = .ok (.iload 4, 2) := by decide +kernel
theorem dX12_ruin_56 : decode cX12_ruin 56 = .ok (.iaload, 1) := by decide +kernel
theorem dX12_ruin_57 : decode cX12_ruin 57 = .ok (.iload_n 1, 1) := by decide +kernel
theorem dX12_ruin_58 : decode cX12_ruin 58 = .ok (.if_icmp .ne 5, 3) := by decide +kernel
theorem dX12_ruin_61 : decode cX12_ruin 61 = .ok (.iconst (-1), 1) := by decide +kernel
theorem dX12_ruin_62 : decode cX12_ruin 62 = .ok (.ireturn, 1) := by decide +kernel
theorem dX12_ruin_63 : decode cX12_ruin 63 = .ok (.iinc 4 1, 3) := by decide +kernel
theorem dX12_ruin_66 : decode cX12_ruin 66 = .ok (.goto (-25), 3) := by decide +kernel
theorem dX12_ruin_69 : decode cX12_ruin 69 = .ok (.aload_n 0, 1) := by decide +kernel
theorem dX12_ruin_70 : decode cX12_ruin 70 = .ok (.getfield 40, 3) := by decide +kernel
theorem dX12_ruin_73 : decode cX12_ruin 73 = .ok (.aload_n 0, 1) := by decide +kernel
theorem dX12_ruin_74 : decode cX12_ruin 74 = .ok (.getfield 178, 3) := by decide +kernel
theorem dX12_ruin_77 : decode cX12_ruin 77 = .ok (.iload_n 1, 1) := by decide +kernel
theorem dX12_ruin_78 : decode cX12_ruin 78 = .ok (.iastore, 1) := by decide +kernel
theorem dX12_ruin_79 : decode cX12_ruin 79 = .ok (.aload_n 0, 1) := by decide +kernel
theorem dX12_ruin_80 : decode cX12_ruin 80 = .ok (.getfield 43, 3) := by decide +kernel
theorem dX12_ruin_83 : decode cX12_ruin 83 = .ok (.aload_n 0, 1) := by decide +kernel
theorem dX12_ruin_84 : decode cX12_ruin 84 = .ok (.getfield 178, 3) := by decide +kernel
theorem dX12_ruin_87 : decode cX12_ruin 87 = .ok (.lload_n 2, 1) := by decide +kernel
theorem dX12_ruin_88 : decode cX12_ruin 88 = .ok (.lastore, 1) := by decide +kernel
theorem dX12_ruin_89 : decode cX12_ruin 89 = .ok (.aload_n 0, 1) := by decide +kernel
theorem dX12_ruin_90 : decode cX12_ruin 90 = .ok (.getfield 46, 3) := by decide +kernel
theorem dX12_ruin_93 : decode cX12_ruin 93 = .ok (.aload_n 0, 1) := by decide +kernel
theorem dX12_ruin_94 : decode cX12_ruin 94 = .ok (.getfield 178, 3) := by decide +kernel
theorem dX12_ruin_97 : decode cX12_ruin 97 = .ok (.aload_n 0, 1) := by decide +kernel
theorem dX12_ruin_98 : decode cX12_ruin 98 = .ok (.getfield 181, 3) := by decide +kernel
theorem dX12_ruin_101 : decode cX12_ruin 101 = .ok (.iastore, 1) := by decide +kernel
theorem dX12_ruin_102 : decode cX12_ruin 102 = .ok (.aload_n 0, 1) := by decide +kernel
theorem dX12_ruin_103 : decode cX12_ruin 103 = .ok (.dup, 1) := by decide +kernel
theorem dX12_ruin_104 : decode cX12_ruin 104 = .ok (.getfield 178, 3) := by decide +kernel
theorem dX12_ruin_107 : decode cX12_ruin 107 = .ok (.iconst 1, 1) := by decide +kernel
theorem dX12_ruin_108 : decode cX12_ruin 108 = .ok (.iadd, 1) := by decide +kernel
theorem dX12_ruin_109 : decode cX12_ruin 109 = .ok (.putfield 178, 3) := by decide +kernel
theorem dX12_ruin_112 : decode cX12_ruin 112 = .ok (.aload_n 0, 1) := by decide +kernel
theorem dX12_ruin_113 : decode cX12_ruin 113 = .ok (.getfield 178, 3) := by decide +kernel
theorem dX12_ruin_116 : decode cX12_ruin 116 = .ok (.iconst 1, 1) := by decide +kernel
theorem dX12_ruin_117 : decode cX12_ruin 117 = .ok (.isub, 1) := by decide +kernel
theorem dX12_ruin_118 : decode cX12_ruin 118 = .ok (.ireturn, 1) := by decide +kernel
theorem dX12_stone_0 : decode cX12_stone 0 = .ok (.aload_n 0, 1) := by decide +kernel
theorem dX12_stone_1 : decode cX12_stone 1 = .ok (.iconst 0, 1) := by decide +kernel
theorem dX12_stone_2 : decode cX12_stone 2 = .ok (.putfield 106, 3) := by decide +kernel
theorem dX12_stone_5 : decode cX12_stone 5 = .ok (.aload_n 0, 1) := by decide +kernel
theorem dX12_stone_6 : decode cX12_stone 6 = .ok (.invokevirtual 174, 3) := by decide +kernel
theorem dX12_stone_9 : decode cX12_stone 9 = .ok (.lstore 4, 2) := by decide +kernel
theorem dX12_stone_11 : decode cX12_stone 11 = .ok (.lload 4, 2) := by decide +kernel
theorem dX12_stone_13 : decode cX12_stone 13 = .ok (.lconst 0, 1) := by decide +kernel
theorem dX12_stone_14 : decode cX12_stone 14 = .ok (.lcmp, 1) := by decide +kernel
theorem dX12_stone_15 : decode cX12_stone 15 = .ok (.ifCond .eq 43, 3) := by decide +kernel
theorem dX12_stone_18 : decode cX12_stone 18 = .ok (.iload_n 1, 1) := by decide +kernel
theorem dX12_stone_19 : decode cX12_stone 19 = .ok (.iconst 0, 1) := by decide +kernel
theorem dX12_stone_20 : decode cX12_stone 20 = .ok (.sipush 600, 3) := by decide +kernel
theorem dX12_stone_23 : decode cX12_stone 23 = .ok (.invokestatic 112, 3) := by decide +kernel
theorem dX12_stone_26 : decode cX12_stone 26 = .ok (.ifCond .eq 32, 3) := by decide +kernel
theorem dX12_stone_29 : decode cX12_stone 29 = .ok (.iload_n 2, 1) := by decide +kernel
theorem dX12_stone_30 : decode cX12_stone 30 = .ok (.iconst 1, 1) := by decide +kernel
theorem dX12_stone_31 : decode cX12_stone 31 = .ok (.sipush 200, 3) := by decide +kernel
theorem dX12_stone_34 : decode cX12_stone 34 = .ok (.invokestatic 112, 3) := by decide +kernel
theorem dX12_stone_37 : decode cX12_stone 37 = .ok (.ifCond .eq 21, 3) := by decide +kernel
theorem dX12_stone_40 : decode cX12_stone 40 = .ok (.iload_n 3, 1) := by decide +kernel
theorem dX12_stone_41 : decode cX12_stone 41 = .ok (.iconst 2, 1) := by decide +kernel
theorem dX12_stone_42 : decode cX12_stone 42 = .ok (.iconst 3, 1) := by decide +kernel
theorem dX12_stone_43 : decode cX12_stone 43 = .ok (.invokestatic 112, 3) := by decide +kernel
theorem dX12_stone_46 : decode cX12_stone 46 = .ok (.ifCond .eq 12, 3) := by decide +kernel
theorem dX12_stone_49 : decode cX12_stone 49 = .ok (.aload_n 0, 1) := by decide +kernel
theorem dX12_stone_50 : decode cX12_stone 50 = .ok (.getfield 184, 3) := by decide +kernel
theorem dX12_stone_53 : decode cX12_stone 53 = .ok (.bipush 12, 2) := by decide +kernel
theorem dX12_stone_55 : decode cX12_stone 55 = .ok (.if_icmp .ne 5, 3) := by decide +kernel
theorem dX12_stone_58 : decode cX12_stone 58 = .ok (.iconst (-1), 1) := by decide +kernel
theorem dX12_stone_59 : decode cX12_stone 59 = .ok (.ireturn, 1) := by decide +kernel
theorem dX12_stone_60 : decode cX12_stone 60 = .ok (.aload_n 0, 1) := by decide +kernel
theorem dX12_stone_61 : decode cX12_stone 61 = .ok (.getfield 49, 3) := by decide +kernel
theorem dX12_stone_64 : decode cX12_stone 64 = .ok (.aload_n 0, 1) := by decide +kernel
theorem dX12_stone_65 : decode cX12_stone 65 = .ok (.getfield 184, 3) := by decide +kernel
theorem dX12_stone_68 : decode cX12_stone 68 = .ok (.iload_n 1, 1) := by decide +kernel
theorem dX12_stone_69 : decode cX12_stone 69 = .ok (.iastore, 1) := by decide +kernel
theorem dX12_stone_70 : decode cX12_stone 70 = .ok (.aload_n 0, 1) := by decide +kernel
theorem dX12_stone_71 : decode cX12_stone 71 = .ok (.getfield 52, 3) := by decide +kernel
theorem dX12_stone_74 : decode cX12_stone 74 = .ok (.aload_n 0, 1) := by decide +kernel
theorem dX12_stone_75 : decode cX12_stone 75 = .ok (.getfield 184, 3) := by decide +kernel
theorem dX12_stone_78 : decode cX12_stone 78 = .ok (.lload 4, 2) := by decide +kernel
theorem dX12_stone_80 : decode cX12_stone 80 = .ok (.lastore, 1) := by decide +kernel
theorem dX12_stone_81 : decode cX12_stone 81 = .ok (.aload_n 0, 1) := by decide +kernel
theorem dX12_stone_82 : decode cX12_stone 82 = .ok (.getfield 55, 3) := by decide +kernel
theorem dX12_stone_85 : decode cX12_stone 85 = .ok (.aload_n 0, 1) := by decide +kernel
theorem dX12_stone_86 : decode cX12_stone 86 = .ok (.getfield 184, 3) := by decide +kernel
theorem dX12_stone_89 : decode cX12_stone 89 = .ok (.iload_n 2, 1) := by decide +kernel
theorem dX12_stone_90 : decode cX12_stone 90 = .ok (.iload_n 3, 1) := by decide +kernel
theorem dX12_stone_91 : decode cX12_stone 91 = .ok (.imul, 1) := by decide +kernel
theorem dX12_stone_92 : decode cX12_stone 92 = .ok (.iastore, 1) := by decide +kernel
theorem dX12_stone_93 : decode cX12_stone 93 = .ok (.aload_n 0, 1) := by decide +kernel
theorem dX12_stone_94 : decode cX12_stone 94 = .ok (.getfield 58, 3) := by decide +kernel
theorem dX12_stone_97 : decode cX12_stone 97 = .ok (.aload_n 0, 1) := by decide +kernel
theorem dX12_stone_98 : decode cX12_stone 98 = .ok (.getfield 184, 3) := by decide +kernel
theorem dX12_stone_101 : decode cX12_stone 101 = .ok (.aload_n 0, 1) := by decide +kernel
theorem dX12_stone_102 : decode cX12_stone 102 = .ok (.getfield 181, 3) := by decide +kernel
theorem dX12_stone_105 : decode cX12_stone 105 = .ok (.iastore, 1) := by decide +kernel
theorem dX12_stone_106 : decode cX12_stone 106 = .ok (.aload_n 0, 1) := by decide +kernel
theorem dX12_stone_107 : decode cX12_stone 107 = .ok (.dup, 1) := by decide +kernel
theorem dX12_stone_108 : decode cX12_stone 108 = .ok (.getfield 184, 3) := by decide +kernel
theorem dX12_stone_111 : decode cX12_stone 111 = .ok (.iconst 1, 1) := by decide +kernel
theorem dX12_stone_112 : decode cX12_stone 112 = .ok (.iadd, 1) := by decide +kernel
theorem dX12_stone_113 : decode cX12_stone 113 = .ok (.putfield 184, 3) := by decide +kernel
theorem dX12_stone_116 : decode cX12_stone 116 = .ok (.aload_n 0, 1) := by decide +kernel
theorem dX12_stone_117 : decode cX12_stone 117 = .ok (.getfield 184, 3) := by decide +kernel
theorem dX12_stone_120 : decode cX12_stone 120 = .ok (.iconst 1, 1) := by decide +kernel
theorem dX12_stone_121 : decode cX12_stone 121 = .ok (.isub, 1) := by decide +kernel
theorem dX12_stone_122 : decode cX12_stone 122 = .ok (.ireturn, 1) := by decide +kernel
theorem dX12_habit_0 : decode cX12_habit 0 = .ok (.aload_n 0, 1) := by decide +kernel
theorem dX12_habit_1 : decode cX12_habit 1 = .ok (.iconst 0, 1) := by decide +kernel
theorem dX12_habit_2 : decode cX12_habit 2 = .ok (.putfield 106, 3) := by decide +kernel
theorem dX12_habit_5 : decode cX12_habit 5 = .ok (.iload_n 1, 1) := by decide +kernel
theorem dX12_habit_6 : decode cX12_habit 6 = .ok (.iconst 0, 1) := by decide +kernel
theorem dX12_habit_7 : decode cX12_habit 7 = .ok (.iconst 4, 1) := by decide +kernel
theorem dX12_habit_8 : decode cX12_habit 8 = .ok (.invokestatic 112, 3) := by decide +kernel
theorem dX12_habit_11 : decode cX12_habit 11 = .ok (.ifCond .eq 36, 3) := by decide +kernel
theorem dX12_habit_14 : decode cX12_habit 14 = .ok (.iload_n 2, 1) := by decide +kernel
theorem dX12_habit_15 : decode cX12_habit 15 = .ok (.iconst 0, 1) := by decide +kernel
theorem dX12_habit_16 : decode cX12_habit 16 = .ok (.iconst 4, 1) := by decide +kernel
theorem dX12_habit_17 : decode cX12_habit 17 = .ok (.invokestatic 112, 3) := by decide +kernel
theorem dX12_habit_20 : decode cX12_habit 20 = .ok (.ifCond .eq 27, 3) := by decide +kernel
theorem dX12_habit_23 : decode cX12_habit 23 = .ok (.iload_n 1, 1) := by decide +kernel
theorem dX12_habit_24 : decode cX12_habit 24 = .ok (.iload_n 2, 1) := by decide +kernel
theorem dX12_habit_25 : decode cX12_habit 25 = .ok (.if_icmp .eq 22, 3) := by decide +kernel
theorem dX12_habit_28 : decode cX12_habit 28 = .ok (.iload_n 3, 1) := by decide +kernel
theorem dX12_habit_29 : decode cX12_habit 29 = .ok (.iconst 1, 1) := by decide +kernel
theorem dX12_habit_30 : decode cX12_habit 30 = .ok (.bipush 20, 2) := by decide +kernel
theorem dX12_habit_32 : decode cX12_habit 32 = .ok (.invokestatic 112, 3) := by decide +kernel
theorem dX12_habit_35 : decode cX12_habit 35 = .ok (.ifCond .eq 12, 3) := by decide +kernel
theorem dX12_habit_38 : decode cX12_habit 38 = .ok (.aload_n 0, 1) := by decide +kernel
theorem dX12_habit_39 : decode cX12_habit 39 = .ok (.getfield 187, 3) := by decide +kernel
theorem dX12_habit_42 : decode cX12_habit 42 = .ok (.bipush 20, 2) := by decide +kernel
theorem dX12_habit_44 : decode cX12_habit 44 = .ok (.if_icmp .ne 5, 3) := by decide +kernel
theorem dX12_habit_47 : decode cX12_habit 47 = .ok (.iconst (-1), 1) := by decide +kernel
theorem dX12_habit_48 : decode cX12_habit 48 = .ok (.ireturn, 1) := by decide +kernel
theorem dX12_habit_49 : decode cX12_habit 49 = .ok (.aload_n 0, 1) := by decide +kernel
theorem dX12_habit_50 : decode cX12_habit 50 = .ok (.getfield 61, 3) := by decide +kernel
theorem dX12_habit_53 : decode cX12_habit 53 = .ok (.aload_n 0, 1) := by decide +kernel
theorem dX12_habit_54 : decode cX12_habit 54 = .ok (.getfield 187, 3) := by decide +kernel
theorem dX12_habit_57 : decode cX12_habit 57 = .ok (.iload_n 1, 1) := by decide +kernel
theorem dX12_habit_58 : decode cX12_habit 58 = .ok (.iastore, 1) := by decide +kernel
theorem dX12_habit_59 : decode cX12_habit 59 = .ok (.aload_n 0, 1) := by decide +kernel
theorem dX12_habit_60 : decode cX12_habit 60 = .ok (.getfield 64, 3) := by decide +kernel
theorem dX12_habit_63 : decode cX12_habit 63 = .ok (.aload_n 0, 1) := by decide +kernel
theorem dX12_habit_64 : decode cX12_habit 64 = .ok (.getfield 187, 3) := by decide +kernel
theorem dX12_habit_67 : decode cX12_habit 67 = .ok (.iload_n 2, 1) := by decide +kernel
theorem dX12_habit_68 : decode cX12_habit 68 = .ok (.iastore, 1) := by decide +kernel
theorem dX12_habit_69 : decode cX12_habit 69 = .ok (.aload_n 0, 1) := by decide +kernel
theorem dX12_habit_70 : decode cX12_habit 70 = .ok (.getfield 67, 3) := by decide +kernel
theorem dX12_habit_73 : decode cX12_habit 73 = .ok (.aload_n 0, 1) := by decide +kernel
theorem dX12_habit_74 : decode cX12_habit 74 = .ok (.getfield 187, 3) := by decide +kernel
theorem dX12_habit_77 : decode cX12_habit 77 = .ok (.iload_n 3, 1) := by decide +kernel
theorem dX12_habit_78 : decode cX12_habit 78 = .ok (.iastore, 1) := by decide +kernel
theorem dX12_habit_79 : decode cX12_habit 79 = .ok (.aload_n 0, 1) := by decide +kernel
theorem dX12_habit_80 : decode cX12_habit 80 = .ok (.dup, 1) := by decide +kernel
theorem dX12_habit_81 : decode cX12_habit 81 = .ok (.getfield 187, 3) := by decide +kernel
theorem dX12_habit_84 : decode cX12_habit 84 = .ok (.iconst 1, 1) := by decide +kernel
theorem dX12_habit_85 : decode cX12_habit 85 = .ok (.iadd, 1) := by decide +kernel
theorem dX12_habit_86 : decode cX12_habit 86 = .ok (.putfield 187, 3) := by decide +kernel
theorem dX12_habit_89 : decode cX12_habit 89 = .ok (.aload_n 0, 1) := by decide +kernel
theorem dX12_habit_90 : decode cX12_habit 90 = .ok (.getfield 187, 3) := by decide +kernel
theorem dX12_habit_93 : decode cX12_habit 93 = .ok (.iconst 1, 1) := by decide +kernel
theorem dX12_habit_94 : decode cX12_habit 94 = .ok (.isub, 1) := by decide +kernel
theorem dX12_habit_95 : decode cX12_habit 95 = .ok (.ireturn, 1) := by decide +kernel
theorem dX12_costs_0 : decode cX12_costs 0 = .ok (.aload_n 0, 1) := by decide +kernel
theorem dX12_costs_1 : decode cX12_costs 1 = .ok (.iconst 0, 1) := by decide +kernel
theorem dX12_costs_2 : decode cX12_costs 2 = .ok (.putfield 106, 3) := by decide +kernel
theorem dX12_costs_5 : decode cX12_costs 5 = .ok (.iload_n 1, 1) := by decide +kernel
theorem dX12_costs_6 : decode cX12_costs 6 = .ok (.iconst 0, 1) := by decide +kernel
theorem dX12_costs_7 : decode cX12_costs 7 = .ok (.bipush 50, 2) := by decide +kernel
theorem dX12_costs_9 : decode cX12_costs 9 = .ok (.invokestatic 112, 3) := by decide +kernel
theorem dX12_costs_12 : decode cX12_costs 12 = .ok (.ifCond .eq 13, 3) := by decide +kernel
theorem dX12_costs_15 : decode cX12_costs 15 = .ok (.iload_n 2, 1) := by decide +kernel
theorem dX12_costs_16 : decode cX12_costs 16 = .ok (.iconst 0, 1) := by decide +kernel
theorem dX12_costs_17 : decode cX12_costs 17 = .ok (.bipush 50, 2) := by decide +kernel
theorem dX12_costs_19 : decode cX12_costs 19 = .ok (.invokestatic 112, 3) := by decide +kernel
theorem dX12_costs_22 : decode cX12_costs 22 = .ok (.ifCond .ne 5, 3) := by decide +kernel
theorem dX12_costs_25 : decode cX12_costs 25 = .ok (.iconst 0, 1) := by decide +kernel
theorem dX12_costs_26 : decode cX12_costs 26 = .ok (.ireturn, 1) := by decide +kernel
theorem dX12_costs_27 : decode cX12_costs 27 = .ok (.aload_n 0, 1) := by decide +kernel
theorem dX12_costs_28 : decode cX12_costs 28 = .ok (.iload_n 1, 1) := by decide +kernel
theorem dX12_costs_29 : decode cX12_costs 29 = .ok (.putfield 70, 3) := by decide +kernel
theorem dX12_costs_32 : decode cX12_costs 32 = .ok (.aload_n 0, 1) := by decide +kernel
theorem dX12_costs_33 : decode cX12_costs 33 = .ok (.iload_n 2, 1) := by decide +kernel
theorem dX12_costs_34 : decode cX12_costs 34 = .ok (.putfield 73, 3) := by decide +kernel
theorem dX12_costs_37 : decode cX12_costs 37 = .ok (.iconst 1, 1) := by decide +kernel
theorem dX12_costs_38 : decode cX12_costs 38 = .ok (.ireturn, 1) := by decide +kernel
theorem dX12_day_0 : decode cX12_day 0 = .ok (.aload_n 0, 1) := by decide +kernel
theorem dX12_day_1 : decode cX12_day 1 = .ok (.iconst 0, 1) := by decide +kernel
theorem dX12_day_2 : decode cX12_day 2 = .ok (.putfield 106, 3) := by decide +kernel
theorem dX12_day_5 : decode cX12_day 5 = .ok (.iload_n 1, 1) := by decide +kernel
theorem dX12_day_6 : decode cX12_day 6 = .ok (.iconst 0, 1) := by decide +kernel
theorem dX12_day_7 : decode cX12_day 7 = .ok (.sipush 1000, 3) := by decide +kernel
theorem dX12_day_10 : decode cX12_day 10 = .ok (.invokestatic 112, 3) := by decide +kernel
theorem dX12_day_13 : decode cX12_day 13 = .ok (.ifCond .eq 14, 3) := by decide +kernel
theorem dX12_day_16 : decode cX12_day 16 = .ok (.aload_n 0, 1) := by decide +kernel
theorem dX12_day_17 : decode cX12_day 17 = .ok (.getfield 181, 3) := by decide +kernel
theorem dX12_day_20 : decode cX12_day 20 = .ok (.iload_n 1, 1) := by decide +kernel
theorem dX12_day_21 : decode cX12_day 21 = .ok (.iadd, 1) := by decide +kernel
theorem dX12_day_22 : decode cX12_day 22 = .ok (.ldc 190, 2) := by decide +kernel
theorem dX12_day_24 : decode cX12_day 24 = .ok (.if_icmp .le 5, 3) := by decide +kernel
theorem dX12_day_27 : decode cX12_day 27 = .ok (.iconst (-1), 1) := by decide +kernel
theorem dX12_day_28 : decode cX12_day 28 = .ok (.ireturn, 1) := by decide +kernel
theorem dX12_day_29 : decode cX12_day 29 = .ok (.aload_n 0, 1) := by decide +kernel
theorem dX12_day_30 : decode cX12_day 30 = .ok (.dup, 1) := by decide +kernel
theorem dX12_day_31 : decode cX12_day 31 = .ok (.getfield 181, 3) := by decide +kernel
theorem dX12_day_34 : decode cX12_day 34 = .ok (.iload_n 1, 1) := by decide +kernel
theorem dX12_day_35 : decode cX12_day 35 = .ok (.iadd, 1) := by decide +kernel
theorem dX12_day_36 : decode cX12_day 36 = .ok (.putfield 181, 3) := by decide +kernel
theorem dX12_day_39 : decode cX12_day 39 = .ok (.aload_n 0, 1) := by decide +kernel
theorem dX12_day_40 : decode cX12_day 40 = .ok (.getfield 181, 3) := by decide +kernel
theorem dX12_day_43 : decode cX12_day 43 = .ok (.ireturn, 1) := by decide +kernel
theorem dX12_apart__0 : decode cX12_apart_ 0 = .ok (.aload_n 0, 1) := by decide +kernel
theorem dX12_apart__1 : decode cX12_apart_ 1 = .ok (.iconst 0, 1) := by decide +kernel
theorem dX12_apart__2 : decode cX12_apart_ 2 = .ok (.putfield 106, 3) := by decide +kernel
theorem dX12_apart__5 : decode cX12_apart_ 5 = .ok (.aload_n 0, 1) := by decide +kernel
theorem dX12_apart__6 : decode cX12_apart_ 6 = .ok (.invokevirtual 174, 3) := by decide +kernel
theorem dX12_apart__9 : decode cX12_apart_ 9 = .ok (.lstore_n 3, 1) := by decide +kernel
theorem dX12_apart__10 : decode cX12_apart_ 10 = .ok (.lload_n 3, 1) := by decide +kernel
theorem dX12_apart__11 : decode cX12_apart_ 11 = .ok (.lconst 0, 1) := by decide +kernel
theorem dX12_apart__12 : decode cX12_apart_ 12 = .ok (.lcmp, 1) := by decide +kernel
theorem dX12_apart__13 : decode cX12_apart_ 13 = .ok (.ifCond .eq 12, 3) := by decide +kernel
theorem dX12_apart__16 : decode cX12_apart_ 16 = .ok (.aload_n 0, 1) := by decide +kernel
theorem dX12_apart__17 : decode cX12_apart_ 17 = .ok (.iload_n 1, 1) := by decide +kernel
theorem dX12_apart__18 : decode cX12_apart_ 18 = .ok (.iload_n 2, 1) := by decide +kernel
theorem dX12_apart__19 : decode cX12_apart_ 19 = .ok (.invokevirtual 191, 3) := by decide +kernel
theorem dX12_apart__22 : decode cX12_apart_ 22 = .ok (.ifCond .ne 7, 3) := by decide +kernel
theorem dX12_apart__25 : decode cX12_apart_ 25 = .ok (.iconst (-1), 1) := by decide +kernel
theorem dX12_apart__26 : decode cX12_apart_ 26 = .ok (.goto 19, 3) := by decide +kernel
theorem dX12_apart__29 : decode cX12_apart_ 29 = .ok (.aload_n 0, 1) := by decide +kernel
theorem dX12_apart__30 : decode cX12_apart_ 30 = .ok (.lload_n 3, 1) := by decide +kernel
theorem dX12_apart__31 : decode cX12_apart_ 31 = .ok (.aload_n 0, 1) := by decide +kernel
theorem dX12_apart__32 : decode cX12_apart_ 32 = .ok (.getfield 26, 3) := by decide +kernel
theorem dX12_apart__35 : decode cX12_apart_ 35 = .ok (.bipush 10, 2) := by decide +kernel
theorem dX12_apart__37 : decode cX12_apart_ 37 = .ok (.iload_n 1, 1) := by decide +kernel
theorem dX12_apart__38 : decode cX12_apart_ 38 = .ok (.imul, 1) := by decide +kernel
theorem dX12_apart__39 : decode cX12_apart_ 39 = .ok (.iload_n 2, 1) := by decide +kernel
theorem dX12_apart__40 : decode cX12_apart_ 40 = .ok (.iadd, 1) := by decide +kernel
theorem dX12_apart__41 : decode cX12_apart_ 41 = .ok (.laload, 1) := by decide +kernel
theorem dX12_apart__42 : decode cX12_apart_ 42 = .ok (.invokevirtual 194, 3) := by decide +kernel
theorem dX12_apart__45 : decode cX12_apart_ 45 = .ok (.ireturn, 1) := by decide +kernel
theorem dX12_canBe_0 : decode cX12_canBe 0 = .ok (.bipush 10, 2) := by decide +kernel
theorem dX12_canBe_2 : decode cX12_canBe 2 = .ok (.iload_n 1, 1) := by decide +kernel
theorem dX12_canBe_3 : decode cX12_canBe 3 = .ok (.imul, 1) := by decide +kernel
theorem dX12_canBe_4 : decode cX12_canBe 4 = .ok (.iload_n 2, 1) := by decide +kernel
theorem dX12_canBe_5 : decode cX12_canBe 5 = .ok (.iadd, 1) := by decide +kernel
theorem dX12_canBe_6 : decode cX12_canBe 6 = .ok (.istore 4, 2) := by decide +kernel
theorem dX12_canBe_8 : decode cX12_canBe 8 = .ok (.aload_n 0, 1) := by decide +kernel
theorem dX12_canBe_9 : decode cX12_canBe 9 = .ok (.getfield 64, 3) := by decide +kernel
theorem dX12_canBe_12 : decode cX12_canBe 12 = .ok (.iload_n 3, 1) := by decide +kernel
theorem dX12_canBe_13 : decode cX12_canBe 13 = .ok (.iaload, 1) := by decide +kernel
theorem dX12_canBe_14 : decode cX12_canBe 14 = .ok (.ifCond .ne 5, 3) := by decide +kernel
theorem dX12_canBe_17 : decode cX12_canBe 17 = .ok (.iconst 1, 1) := by decide +kernel
theorem dX12_canBe_18 : decode cX12_canBe 18 = .ok (.ireturn, 1) := by decide +kernel
theorem dX12_canBe_19 : decode cX12_canBe 19 = .ok (.aload_n 0, 1) := by decide +kernel
theorem dX12_canBe_20 : decode cX12_canBe 20 = .ok (.getfield 61, 3) := by decide +kernel
theorem dX12_canBe_23 : decode cX12_canBe 23 = .ok (.iload_n 3, 1) := by decide +kernel
theorem dX12_canBe_24 : decode cX12_canBe 24 = .ok (.iaload, 1) := by decide +kernel
theorem dX12_canBe_25 : decode cX12_canBe 25 = .ok (.ifCond .ne 36, 3) := by decide +kernel
theorem dX12_canBe_28 : decode cX12_canBe 28 = .ok (.aload_n 0, 1) := by decide +kernel
theorem dX12_canBe_29 : decode cX12_canBe 29 = .ok (.getfield 33, 3) := by decide +kernel
theorem dX12_canBe_32 : decode cX12_canBe 32 = .ok (.iload 4, 2) := by decide +kernel
theorem dX12_canBe_34 : decode cX12_canBe 34 = .ok (.iaload, 1) := by decide +kernel
theorem dX12_canBe_35 : decode cX12_canBe 35 = .ok (.iconst 1, 1) := by decide +kernel
theorem dX12_canBe_36 : decode cX12_canBe 36 = .ok (.if_icmp .le 23, 3) := by decide +kernel
theorem dX12_canBe_39 : decode cX12_canBe 39 = .ok (.aload_n 0, 1) := by decide +kernel
theorem dX12_canBe_40 : decode cX12_canBe 40 = .ok (.iload 4, 2) := by decide +kernel
theorem dX12_canBe_42 : decode cX12_canBe 42 = .ok (.aload_n 0, 1) := by decide +kernel
theorem dX12_canBe_43 : decode cX12_canBe 43 = .ok (.getfield 64, 3) := by decide +kernel
theorem dX12_canBe_46 : decode cX12_canBe 46 = .ok (.iload_n 3, 1) := by decide +kernel
theorem dX12_canBe_47 : decode cX12_canBe 47 = .ok (.iaload, 1) := by decide +kernel
theorem dX12_canBe_48 : decode cX12_canBe 48 = .ok (.invokevirtual 198, 3) := by decide +kernel
theorem dX12_canBe_51 : decode cX12_canBe 51 = .ok (.iconst (-1), 1) := by decide +kernel
theorem dX12_canBe_52 : decode cX12_canBe 52 = .ok (.if_icmp .eq 7, 3) := by decide +kernel
theorem dX12_canBe_55 : decode cX12_canBe 55 = .ok (.iconst 1, 1) := by decide +kernel
theorem dX12_canBe_56 : decode cX12_canBe 56 = .ok (.goto 4, 3) := by decide +kernel
theorem dX12_canBe_59 : decode cX12_canBe 59 = .ok (.iconst 0, 1) := by decide +kernel
theorem dX12_canBe_60 : decode cX12_canBe 60 = .ok (.ireturn, 1) := by decide +kernel
theorem dX12_canBe_61 : decode cX12_canBe 61 = .ok (.iconst 0, 1) := by decide +kernel
theorem dX12_canBe_62 : decode cX12_canBe 62 = .ok (.istore 5, 2) := by decide +kernel
theorem dX12_canBe_64 : decode cX12_canBe 64 = .ok (.iload 5, 2) := by decide +kernel
theorem dX12_canBe_66 : decode cX12_canBe 66 = .ok (.aload_n 0, 1) := by decide +kernel
theorem dX12_canBe_67 : decode cX12_canBe 67 = .ok (.getfield 33, 3) := by decide +kernel
theorem dX12_canBe_70 : decode cX12_canBe 70 = .ok (.iload 4, 2) := by decide +kernel
theorem dX12_canBe_72 : decode cX12_canBe 72 = .ok (.iaload, 1) := by decide +kernel
theorem dX12_canBe_73 : decode cX12_canBe 73 = .ok (.if_icmp .ge 115, 3) := by decide +kernel
theorem dX12_canBe_76 : decode cX12_canBe 76 = .ok (.aload_n 0, 1) := by decide +kernel
theorem dX12_canBe_77 : decode cX12_canBe 77 = .ok (.getfield 30, 3) := by decide +kernel
theorem dX12_canBe_80 : decode cX12_canBe 80 = .ok (.bipush 9, 2) := by decide +kernel
theorem dX12_canBe_82 : decode cX12_canBe 82 = .ok (.iload 4, 2) := by decide +kernel
theorem dX12_canBe_84 : decode cX12_canBe 84 = .ok (.imul, 1) := by decide +kernel
theorem dX12_canBe_85 : decode cX12_canBe 85 = .ok (.iload 5, 2) := by decide +kernel
theorem dX12_canBe_87 : decode cX12_canBe 87 = .ok (.iadd, 1) := by decide +kernel
theorem dX12_canBe_88 : decode cX12_canBe 88 = .ok (.iaload, 1) := by decide +kernel
theorem dX12_canBe_89 : decode cX12_canBe 89 = .ok (.aload_n 0, 1) := by decide +kernel
theorem dX12_canBe_90 : decode cX12_canBe 90 = .ok (.getfield 64, 3) := by decide +kernel
theorem dX12_canBe_93 : decode cX12_canBe 93 = .ok (.iload_n 3, 1) := by decide +kernel
theorem dX12_canBe_94 : decode cX12_canBe 94 = .ok (.iaload, 1) := by decide +kernel
theorem dX12_canBe_95 : decode cX12_canBe 95 = .ok (.if_icmp .eq 6, 3) := by decide +kernel
theorem dX12_canBe_98 : decode cX12_canBe 98 = .ok (.goto 84, 3) := by decide +kernel
theorem dX12_canBe_101 : decode cX12_canBe 101 = .ok (.iload 5, 2) := by decide +kernel
theorem dX12_canBe_103 : decode cX12_canBe 103 = .ok (.ifCond .eq 27, 3) := by decide +kernel
theorem dX12_canBe_106 : decode cX12_canBe 106 = .ok (.aload_n 0, 1) := by decide +kernel
theorem dX12_canBe_107 : decode cX12_canBe 107 = .ok (.getfield 30, 3) := by decide +kernel
theorem dX12_canBe_110 : decode cX12_canBe 110 = .ok (.bipush 9, 2) := by decide +kernel
theorem dX12_canBe_112 : decode cX12_canBe 112 = .ok (.iload 4, 2) := by decide +kernel
theorem dX12_canBe_114 : decode cX12_canBe 114 = .ok (.imul, 1) := by decide +kernel
theorem dX12_canBe_115 : decode cX12_canBe 115 = .ok (.iload 5, 2) := by decide +kernel
theorem dX12_canBe_117 : decode cX12_canBe 117 = .ok (.iadd, 1) := by decide +kernel
theorem dX12_canBe_118 : decode cX12_canBe 118 = .ok (.iconst 1, 1) := by decide +kernel
theorem dX12_canBe_119 : decode cX12_canBe 119 = .ok (.isub, 1) := by decide +kernel
theorem dX12_canBe_120 : decode cX12_canBe 120 = .ok (.iaload, 1) := by decide +kernel
theorem dX12_canBe_121 : decode cX12_canBe 121 = .ok (.aload_n 0, 1) := by decide +kernel
theorem dX12_canBe_122 : decode cX12_canBe 122 = .ok (.getfield 61, 3) := by decide +kernel
theorem dX12_canBe_125 : decode cX12_canBe 125 = .ok (.iload_n 3, 1) := by decide +kernel
theorem dX12_canBe_126 : decode cX12_canBe 126 = .ok (.iaload, 1) := by decide +kernel
theorem dX12_canBe_127 : decode cX12_canBe 127 = .ok (.if_icmp .lt 45, 3) := by decide +kernel
theorem dX12_canBe_130 : decode cX12_canBe 130 = .ok (.iload 5, 2) := by decide +kernel
theorem dX12_canBe_132 : decode cX12_canBe 132 = .ok (.aload_n 0, 1) := by decide +kernel
theorem dX12_canBe_133 : decode cX12_canBe 133 = .ok (.getfield 33, 3) := by decide +kernel
theorem dX12_canBe_136 : decode cX12_canBe 136 = .ok (.iload 4, 2) := by decide +kernel
theorem dX12_canBe_138 : decode cX12_canBe 138 = .ok (.iaload, 1) := by decide +kernel
theorem dX12_canBe_139 : decode cX12_canBe 139 = .ok (.iconst 1, 1) := by decide +kernel
theorem dX12_canBe_140 : decode cX12_canBe 140 = .ok (.isub, 1) := by decide +kernel
theorem dX12_canBe_141 : decode cX12_canBe 141 = .ok (.if_icmp .eq 27, 3) := by decide +kernel
theorem dX12_canBe_144 : decode cX12_canBe 144 = .ok (.aload_n 0, 1) := by decide +kernel
theorem dX12_canBe_145 : decode cX12_canBe 145 = .ok (.getfield 30, 3) := by decide +kernel
theorem dX12_canBe_148 : decode cX12_canBe 148 = .ok (.bipush 9, 2) := by decide +kernel
theorem dX12_canBe_150 : decode cX12_canBe 150 = .ok (.iload 4, 2) := by decide +kernel
theorem dX12_canBe_152 : decode cX12_canBe 152 = .ok (.imul, 1) := by decide +kernel
theorem dX12_canBe_153 : decode cX12_canBe 153 = .ok (.iload 5, 2) := by decide +kernel
theorem dX12_canBe_155 : decode cX12_canBe 155 = .ok (.iadd, 1) := by decide +kernel
theorem dX12_canBe_156 : decode cX12_canBe 156 = .ok (.iconst 1, 1) := by decide +kernel
theorem dX12_canBe_157 : decode cX12_canBe 157 = .ok (.iadd, 1) := by decide +kernel
theorem dX12_canBe_158 : decode cX12_canBe 158 = .ok (.iaload, 1) := by decide +kernel
theorem dX12_canBe_159 : decode cX12_canBe 159 = .ok (.aload_n 0, 1) := by decide +kernel
theorem dX12_canBe_160 : decode cX12_canBe 160 = .ok (.getfield 61, 3) := by decide +kernel
theorem dX12_canBe_163 : decode cX12_canBe 163 = .ok (.iload_n 3, 1) := by decide +kernel
theorem dX12_canBe_164 : decode cX12_canBe 164 = .ok (.iaload, 1) := by decide +kernel
theorem dX12_canBe_165 : decode cX12_canBe 165 = .ok (.if_icmp .gt 7, 3) := by decide +kernel
theorem dX12_canBe_168 : decode cX12_canBe 168 = .ok (.iconst 1, 1) := by decide +kernel
theorem dX12_canBe_169 : decode cX12_canBe 169 = .ok (.goto 4, 3) := by decide +kernel
theorem dX12_canBe_172 : decode cX12_canBe 172 = .ok (.iconst 0, 1) := by decide +kernel
theorem dX12_canBe_173 : decode cX12_canBe 173 = .ok (.istore 6, 2) := by decide +kernel
theorem dX12_canBe_175 : decode cX12_canBe 175 = .ok (.iload 6, 2) := by decide +kernel
theorem dX12_canBe_177 : decode cX12_canBe 177 = .ok (.ifCond .eq 5, 3) := by decide +kernel
theorem dX12_canBe_180 : decode cX12_canBe 180 = .ok (.iconst 1, 1) := by decide +kernel
theorem dX12_canBe_181 : decode cX12_canBe 181 = .ok (.ireturn, 1) := by decide +kernel
theorem dX12_canBe_182 : decode cX12_canBe 182 = .ok (.iinc 5 1, 3) := by decide +kernel
theorem dX12_canBe_185 : decode cX12_canBe 185 = .ok (.goto (-121), 3) := by decide +kernel
theorem dX12_canBe_188 : decode cX12_canBe 188 = .ok (.iconst 0, 1) := by decide +kernel
theorem dX12_canBe_189 : decode cX12_canBe 189 = .ok (.ireturn, 1) := by decide +kernel
theorem dX12_first_0 : decode cX12_first 0 = .ok (.iconst 0, 1) := by decide +kernel
theorem dX12_first_1 : decode cX12_first 1 = .ok (.istore_n 3, 1) := by decide +kernel
theorem dX12_first_2 : decode cX12_first 2 = .ok (.iload_n 3, 1) := by decide +kernel
theorem dX12_first_3 : decode cX12_first 3 = .ok (.aload_n 0, 1) := by decide +kernel
theorem dX12_first_4 : decode cX12_first 4 = .ok (.getfield 33, 3) := by decide +kernel
theorem dX12_first_7 : decode cX12_first 7 = .ok (.iload_n 1, 1) := by decide +kernel
theorem dX12_first_8 : decode cX12_first 8 = .ok (.iaload, 1) := by decide +kernel
theorem dX12_first_9 : decode cX12_first 9 = .ok (.if_icmp .ge 26, 3) := by decide +kernel
theorem dX12_first_12 : decode cX12_first 12 = .ok (.aload_n 0, 1) := by decide +kernel
theorem dX12_first_13 : decode cX12_first 13 = .ok (.getfield 30, 3) := by decide +kernel
theorem dX12_first_16 : decode cX12_first 16 = .ok (.bipush 9, 2) := by decide +kernel
theorem dX12_first_18 : decode cX12_first 18 = .ok (.iload_n 1, 1) := by decide +kernel
theorem dX12_first_19 : decode cX12_first 19 = .ok (.imul, 1) := by decide +kernel
theorem dX12_first_20 : decode cX12_first 20 = .ok (.iload_n 3, 1) := by decide +kernel
theorem dX12_first_21 : decode cX12_first 21 = .ok (.iadd, 1) := by decide +kernel
theorem dX12_first_22 : decode cX12_first 22 = .ok (.iaload, 1) := by decide +kernel
theorem dX12_first_23 : decode cX12_first 23 = .ok (.iload_n 2, 1) := by decide +kernel
theorem dX12_first_24 : decode cX12_first 24 = .ok (.if_icmp .ne 5, 3) := by decide +kernel
theorem dX12_first_27 : decode cX12_first 27 = .ok (.iload_n 3, 1) := by decide +kernel
theorem dX12_first_28 : decode cX12_first 28 = .ok (.ireturn, 1) := by decide +kernel
theorem dX12_first_29 : decode cX12_first 29 = .ok (.iinc 3 1, 3) := by decide +kernel
theorem dX12_first_32 : decode cX12_first 32 = .ok (.goto (-30), 3) := by decide +kernel
