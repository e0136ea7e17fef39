theorem dX12_init_0 : decode cX12_init 0 = .ok (.aload_n 0, 1) := by decide +kernel
theorem dX12_init_1 : decode cX12_init 1 = .ok (.invokespecial 7, 3) := by decide +kernel
theorem dX12_init_4 : decode cX12_init 4 = .ok (.aload_n 0, 1) := by decide +kernel
theorem dX12_init_5 : decode cX12_init 5 = .ok (.sipush 2000, 3) := by decide +kernel
theorem dX12_init_8 : decode cX12_init 8 = .ok (.newarray .byte, 2) := by decide +kernel
theorem dX12_init_10 : decode cX12_init 10 = .ok (.putfield 13, 3) := by decide +kernel
theorem dX12_init_13 : decode cX12_init 13 = .ok (.aload_n 0, 1) := by decide +kernel
theorem dX12_init_14 : decode cX12_init 14 = .ok (.sipush 2000, 3) := by decide +kernel
theorem dX12_init_17 : decode cX12_init 17 = .ok (.newarray .byte, 2) := by decide +kernel
theorem dX12_init_19 : decode cX12_init 19 = .ok (.putfield 17, 3) := by decide +kernel
theorem dX12_init_22 : decode cX12_init 22 = .ok (.aload_n 0, 1) := by decide +kernel
theorem dX12_init_23 : decode cX12_init 23 = .ok (.sipush 403, 3) := by decide +kernel
theorem dX12_init_26 : decode cX12_init 26 = .ok (.newarray .int, 2) := by decide +kernel
theorem dX12_init_28 : decode cX12_init 28 = .ok (.putfield 20, 3) := by decide +kernel
theorem dX12_init_31 : decode cX12_init 31 = .ok (.aload_n 0, 1) := by decide +kernel
theorem dX12_init_32 : decode cX12_init 32 = .ok (.sipush 403, 3) := by decide +kernel
theorem dX12_init_35 : decode cX12_init 35 = .ok (.newarray .int, 2) := by decide +kernel
theorem dX12_init_37 : decode cX12_init 37 = .ok (.putfield 24, 3) := by decide +kernel
theorem dX12_init_40 : decode cX12_init 40 = .ok (.aload_n 0, 1) := by decide +kernel
theorem dX12_init_41 : decode cX12_init 41 = .ok (.sipush 403, 3) := by decide +kernel
theorem dX12_init_44 : decode cX12_init 44 = .ok (.newarray .int, 2) := by decide +kernel
theorem dX12_init_46 : decode cX12_init 46 = .ok (.putfield 27, 3) := by decide +kernel
theorem dX12_init_49 : decode cX12_init 49 = .ok (.aload_n 0, 1) := by decide +kernel
theorem dX12_init_50 : decode cX12_init 50 = .ok (.sipush 403, 3) := by decide +kernel
theorem dX12_init_53 : decode cX12_init 53 = .ok (.newarray .long, 2) := by decide +kernel
theorem dX12_init_55 : decode cX12_init 55 = .ok (.putfield 30, 3) := by decide +kernel
theorem dX12_init_58 : decode cX12_init 58 = .ok (.aload_n 0, 1) := by decide +kernel
theorem dX12_init_59 : decode cX12_init 59 = .ok (.bipush 22, 2) := by decide +kernel
theorem dX12_init_61 : decode cX12_init 61 = .ok (.newarray .long, 2) := by decide +kernel
theorem dX12_init_63 : decode cX12_init 63 = .ok (.putfield 34, 3) := by decide +kernel
theorem dX12_init_66 : decode cX12_init 66 = .ok (.aload_n 0, 1) := by decide +kernel
theorem dX12_init_67 : decode cX12_init 67 = .ok (.iconst (-1), 1) := by decide +kernel
theorem dX12_init_68 : decode cX12_init 68 = .ok (.putfield 37, 3) := by decide +kernel
theorem dX12_init_71 : decode cX12_init 71 = .ok (.aload_n 0, 1) := by decide +kernel
theorem dX12_init_72 : decode cX12_init 72 = .ok (.iconst 5, 1) := by decide +kernel
theorem dX12_init_73 : decode cX12_init 73 = .ok (.newarray .long, 2) := by decide +kernel
theorem dX12_init_75 : decode cX12_init 75 = .ok (.putfield 40, 3) := by decide +kernel
theorem dX12_init_78 : decode cX12_init 78 = .ok (.aload_n 0, 1) := by decide +kernel
theorem dX12_init_79 : decode cX12_init 79 = .ok (.iconst 2, 1) := by decide +kernel
theorem dX12_init_80 : decode cX12_init 80 = .ok (.newarray .int, 2) := by decide +kernel
theorem dX12_init_82 : decode cX12_init 82 = .ok (.putfield 43, 3) := by decide +kernel
theorem dX12_init_85 : decode cX12_init 85 = .ok (.aload_n 0, 1) := by decide +kernel
theorem dX12_init_86 : decode cX12_init 86 = .ok (.iconst 2, 1) := by decide +kernel
theorem dX12_init_87 : decode cX12_init 87 = .ok (.newarray .int, 2) := by decide +kernel
theorem dX12_init_89 : decode cX12_init 89 = .ok (.putfield 46, 3) := by decide +kernel
theorem dX12_init_92 : decode cX12_init 92 = .ok (.aload_n 0, 1) := by decide +kernel
theorem dX12_init_93 : decode cX12_init 93 = .ok (.iconst 2, 1) := by decide +kernel
theorem dX12_init_94 : decode cX12_init 94 = .ok (.newarray .int, 2) := by decide +kernel
theorem dX12_init_96 : decode cX12_init 96 = .ok (.putfield 49, 3) := by decide +kernel
theorem dX12_init_99 : decode cX12_init 99 = .ok (.aload_n 0, 1) := by decide +kernel
theorem dX12_init_100 : decode cX12_init 100 = .ok (.bipush 16, 2) := by decide +kernel
theorem dX12_init_102 : decode cX12_init 102 = .ok (.newarray .int, 2) := by decide +kernel
theorem dX12_init_104 : decode cX12_init 104 = .ok (.putfield 52, 3) := by decide +kernel
theorem dX12_init_107 : decode cX12_init 107 = .ok (.aload_n 0, 1) := by decide +kernel
theorem dX12_init_108 : decode cX12_init 108 = .ok (.bipush 16, 2) := by decide +kernel
theorem dX12_init_110 : decode cX12_init 110 = .ok (.newarray .int, 2) := by decide +kernel
theorem dX12_init_112 : decode cX12_init 112 = .ok (.putfield 55, 3) := by decide +kernel
theorem dX12_init_115 : decode cX12_init 115 = .ok (.aload_n 0, 1) := by decide +kernel
theorem dX12_init_116 : decode cX12_init 116 = .ok (.bipush 16, 2) := by decide +kernel
theorem dX12_init_118 : decode cX12_init 118 = .ok (.newarray .int, 2) := by decide +kernel
theorem dX12_init_120 : decode cX12_init 120 = .ok (.putfield 58, 3) := by decide +kernel
theorem dX12_init_123 : decode cX12_init 123 = .ok (.aload_n 0, 1) := by decide +kernel
theorem dX12_init_124 : decode cX12_init 124 = .ok (.bipush 16, 2) := by decide +kernel
theorem dX12_init_126 : decode cX12_init 126 = .ok (.newarray .int, 2) := by decide +kernel
theorem dX12_init_128 : decode cX12_init 128 = .ok (.putfield 61, 3) := by decide +kernel
theorem dX12_init_131 : decode cX12_init 131 = .ok (.aload_n 0, 1) := by decide +kernel
theorem dX12_init_132 : decode cX12_init 132 = .ok (.iconst 2, 1) := by decide +kernel
theorem dX12_init_133 : decode cX12_init 133 = .ok (.newarray .int, 2) := by decide +kernel
theorem dX12_init_135 : decode cX12_init 135 = .ok (.putfield 64, 3) := by decide +kernel
theorem dX12_init_138 : decode cX12_init 138 = .ok (.aload_n 0, 1) := by decide +kernel
theorem dX12_init_139 : decode cX12_init 139 = .ok (.bipush 10, 2) := by decide +kernel
theorem dX12_init_141 : decode cX12_init 141 = .ok (.newarray .int, 2) := by decide +kernel
theorem dX12_init_143 : decode cX12_init 143 = .ok (.putfield 67, 3) := by decide +kernel
theorem dX12_init_146 : decode cX12_init 146 = .ok (.aload_n 0, 1) := by decide +kernel
theorem dX12_init_147 : decode cX12_init 147 = .ok (.bipush 10, 2) := by decide +kernel
theorem dX12_init_149 : decode cX12_init 149 = .ok (.newarray .int, 2) := by decide +kernel
theorem dX12_init_151 : decode cX12_init 151 = .ok (.putfield 70, 3) := by decide +kernel
theorem dX12_init_154 : decode cX12_init 154 = .ok (.aload_n 0, 1) := by decide +kernel
theorem dX12_init_155 : decode cX12_init 155 = .ok (.iconst 2, 1) := by decide +kernel
theorem dX12_init_156 : decode cX12_init 156 = .ok (.newarray .int, 2) := by decide +kernel
theorem dX12_init_158 : decode cX12_init 158 = .ok (.putfield 73, 3) := by decide +kernel
theorem dX12_init_161 : decode cX12_init 161 = .ok (.aload_n 0, 1) := by decide +kernel
theorem dX12_init_162 : decode cX12_init 162 = .ok (.bipush 16, 2) := by decide +kernel
theorem dX12_init_164 : decode cX12_init 164 = .ok (.newarray .int, 2) := by decide +kernel
theorem dX12_init_166 : decode cX12_init 166 = .ok (.putfield 76, 3) := by decide +kernel
theorem dX12_init_169 : decode cX12_init 169 = .ok (.aload_n 0, 1) := by decide +kernel
theorem dX12_init_170 : decode cX12_init 170 = .ok (.bipush 16, 2) := by decide +kernel
theorem dX12_init_172 : decode cX12_init 172 = .ok (.newarray .int, 2) := by decide +kernel
theorem dX12_init_174 : decode cX12_init 174 = .ok (.putfield 79, 3) := by decide +kernel
theorem dX12_init_177 : decode cX12_init 177 = .ok (.aload_n 0, 1) := by decide +kernel
theorem dX12_init_178 : decode cX12_init 178 = .ok (.iconst 2, 1) := by decide +kernel
theorem dX12_init_179 : decode cX12_init 179 = .ok (.newarray .int, 2) := by decide +kernel
theorem dX12_init_181 : decode cX12_init 181 = .ok (.putfield 82, 3) := by decide +kernel
theorem dX12_init_184 : decode cX12_init 184 = .ok (.aload_n 0, 1) := by decide +kernel
theorem dX12_init_185 : decode cX12_init 185 = .ok (.iconst 2, 1) := by decide +kernel
theorem dX12_init_186 : decode cX12_init 186 = .ok (.newarray .int, 2) := by decide +kernel
theorem dX12_init_188 : decode cX12_init 188 = .ok (.putfield 85, 3) := by decide +kernel
theorem dX12_init_191 : decode cX12_init 191 = .ok (.aload_n 0, 1) := by decide +kernel
theorem dX12_init_192 : decode cX12_init 192 = .ok (.bipush 8, 2) := by decide +kernel
theorem dX12_init_194 : decode cX12_init 194 = .ok (.newarray .int, 2) := by decide +kernel
theorem dX12_init_196 : decode cX12_init 196 = .ok (.putfield 88, 3) := by decide +kernel
theorem dX12_init_199 : decode cX12_init 199 = .ok (.aload_n 0, 1) := by decide +kernel
theorem dX12_init_200 : decode cX12_init 200 = .ok (.bipush 8, 2) := by decide +kernel
theorem dX12_init_202 : decode cX12_init 202 = .ok (.newarray .int, 2) := by decide +kernel
theorem dX12_init_204 : decode cX12_init 204 = .ok (.putfield 91, 3) := by decide +kernel
theorem dX12_init_207 : decode cX12_init 207 = .ok (.aload_n 0, 1) := by decide +kernel
theorem dX12_init_208 : decode cX12_init 208 = .ok (.sipush 260, 3) := by decide +kernel
theorem dX12_init_211 : decode cX12_init 211 = .ok (.newarray .boolean, 2) := by decide +kernel
theorem dX12_init_213 : decode cX12_init 213 = .ok (.putfield 94, 3) := by decide +kernel
theorem dX12_init_216 : decode cX12_init 216 = .ok (.aload_n 0, 1) := by decide +kernel
theorem dX12_init_217 : decode cX12_init 217 = .ok (.sipush 260, 3) := by decide +kernel
theorem dX12_init_220 : decode cX12_init 220 = .ok (.newarray .int, 2) := by decide +kernel
theorem dX12_init_222 : decode cX12_init 222 = .ok (.putfield 98, 3) := by decide +kernel
theorem dX12_init_225 : decode cX12_init 225 = .ok (.aload_n 0, 1) := by decide +kernel
theorem dX12_init_226 : decode cX12_init 226 = .ok (.sipush 260, 3) := by decide +kernel
theorem dX12_init_229 : decode cX12_init 229 = .ok (.newarray .int, 2) := by decide +kernel
theorem dX12_init_231 : decode cX12_init 231 = .ok (.putfield 101, 3) := by decide +kernel
theorem dX12_init_234 : decode cX12_init 234 = .ok (.aload_n 0, 1) := by decide +kernel
theorem dX12_init_235 : decode cX12_init 235 = .ok (.sipush 260, 3) := by decide +kernel
theorem dX12_init_238 : decode cX12_init 238 = .ok (.newarray .int, 2) := by decide +kernel
theorem dX12_init_240 : decode cX12_init 240 = .ok (.putfield 104, 3) := by decide +kernel
theorem dX12_init_243 : decode cX12_init 243 = .ok (.aload_n 0, 1) := by decide +kernel
theorem dX12_init_244 : decode cX12_init 244 = .ok (.sipush 260, 3) := by decide +kernel
theorem dX12_init_247 : decode cX12_init 247 = .ok (.newarray .int, 2) := by decide +kernel
theorem dX12_init_249 : decode cX12_init 249 = .ok (.putfield 107, 3) := by decide +kernel
theorem dX12_init_252 : decode cX12_init 252 = .ok (.aload_n 0, 1) := by decide +kernel
theorem dX12_init_253 : decode cX12_init 253 = .ok (.sipush 840, 3) := by decide +kernel
theorem dX12_init_256 : decode cX12_init 256 = .ok (.newarray .int, 2) := by decide +kernel
theorem dX12_init_258 : decode cX12_init 258 = .ok (.putfield 110, 3) := by decide +kernel
theorem dX12_init_261 : decode cX12_init 261 = .ok (.aload_n 0, 1) := by decide +kernel
theorem dX12_init_262 : decode cX12_init 262 = .ok (.sipush 840, 3) := by decide +kernel
theorem dX12_init_265 : decode cX12_init 265 = .ok (.newarray .int, 2) := by decide +kernel
theorem dX12_init_267 : decode cX12_init 267 = .ok (.putfield 113, 3) := by decide +kernel
theorem dX12_init_270 : decode cX12_init 270 = .ok (.aload_n 0, 1) := by decide +kernel
theorem dX12_init_271 : decode cX12_init 271 = .ok (.bipush 64, 2) := by decide +kernel
theorem dX12_init_273 : decode cX12_init 273 = .ok (.newarray .int, 2) := by decide +kernel
theorem dX12_init_275 : decode cX12_init 275 = .ok (.putfield 116, 3) := by decide +kernel
theorem dX12_init_278 : decode cX12_init 278 = .ok (.aload_n 0, 1) := by decide +kernel
theorem dX12_init_279 : decode cX12_init 279 = .ok (.bipush 9, 2) := by decide +kernel
theorem dX12_init_281 : decode cX12_init 281 = .ok (.newarray .int, 2) := by decide +kernel
theorem dX12_init_283 : decode cX12_init 283 = .ok (.putfield 119, 3) := by decide +kernel
theorem dX12_init_286 : decode cX12_init 286 = .ok (.aload_n 0, 1) := by decide +kernel
theorem dX12_init_287 : decode cX12_init 287 = .ok (.sipush 400, 3) := by decide +kernel
theorem dX12_init_290 : decode cX12_init 290 = .ok (.newarray .int, 2) := by decide +kernel
theorem dX12_init_292 : decode cX12_init 292 = .ok (.putfield 122, 3) := by decide +kernel
theorem dX12_init_295 : decode cX12_init 295 = .ok (.aload_n 0, 1) := by decide +kernel
theorem dX12_init_296 : decode cX12_init 296 = .ok (.bipush 63, 2) := by decide +kernel
theorem dX12_init_298 : decode cX12_init 298 = .ok (.newarray .int, 2) := by decide +kernel
theorem dX12_init_300 : decode cX12_init 300 = .ok (.putfield 125, 3) := by decide +kernel
theorem dX12_init_303 : decode cX12_init 303 = .ok (.aload_n 0, 1) := by decide +kernel
theorem dX12_init_304 : decode cX12_init 304 = .ok (.bipush 63, 2) := by decide +kernel
theorem dX12_init_306 : decode cX12_init 306 = .ok (.newarray .int, 2) := by decide +kernel
theorem dX12_init_308 : decode cX12_init 308 = .ok (.putfield 128, 3) := by decide +kernel
theorem dX12_init_311 : decode cX12_init 311 = .ok (.aload_n 0, 1) := by decide +kernel
theorem dX12_init_312 : decode cX12_init 312 = .ok (.bipush 125, 2) := by decide +kernel
theorem dX12_init_314 : decode cX12_init 314 = .ok (.newarray .int, 2) := by decide +kernel
theorem dX12_init_316 : decode cX12_init 316 = .ok (.putfield 131, 3) := by decide +kernel
theorem dX12_init_319 : decode cX12_init 319 = .ok (.aload_n 0, 1) := by decide +kernel
theorem dX12_init_320 : decode cX12_init 320 = .ok (.iconst 5, 1) := by decide +kernel
theorem dX12_init_321 : decode cX12_init 321 = .ok (.newarray .int, 2) := by decide +kernel
theorem dX12_init_323 : decode cX12_init 323 = .ok (.putfield 134, 3) := by decide +kernel
theorem dX12_init_326 : decode cX12_init 326 = .ok (.aload_n 0, 1) := by decide +kernel
theorem dX12_init_327 : decode cX12_init 327 = .ok (.sipush 2520, 3) := by decide +kernel
theorem dX12_init_330 : decode cX12_init 330 = .ok (.newarray .int, 2) := by decide +kernel
theorem dX12_init_332 : decode cX12_init 332 = .ok (.putfield 137, 3) := by decide +kernel
theorem dX12_init_335 : decode cX12_init 335 = .ok (.aload_n 0, 1) := by decide +kernel
theorem dX12_init_336 : decode cX12_init 336 = .ok (.bipush 101, 2) := by decide +kernel
theorem dX12_init_338 : decode cX12_init 338 = .ok (.newarray .int, 2) := by decide +kernel
theorem dX12_init_340 : decode cX12_init 340 = .ok (.putfield 140, 3) := by decide +kernel
theorem dX12_init_343 : decode cX12_init 343 = .ok (.aload_n 0, 1) := by decide +kernel
theorem dX12_init_344 : decode cX12_init 344 = .ok (.bipush 101, 2) := by decide +kernel
theorem dX12_init_346 : decode cX12_init 346 = .ok (.newarray .int, 2) := by decide +kernel
theorem dX12_init_348 : decode cX12_init 348 = .ok (.putfield 143, 3) := by decide +kernel
theorem dX12_init_351 : decode cX12_init 351 = .ok (.aload_n 0, 1) := by decide +kernel
theorem dX12_init_352 : decode cX12_init 352 = .ok (.bipush 101, 2) := by decide +kernel
theorem dX12_init_354 : decode cX12_init 354 = .ok (.newarray .int, 2) := by decide +kernel
theorem dX12_init_356 : decode cX12_init 356 = .ok (.putfield 146, 3) := by decide +kernel
theorem dX12_init_359 : decode cX12_init 359 = .ok (.aload_n 0, 1) := by decide +kernel
theorem dX12_init_360 : decode cX12_init 360 = .ok (.bipush 32, 2) := by decide +kernel
theorem dX12_init_362 : decode cX12_init 362 = .ok (.newarray .int, 2) := by decide +kernel
theorem dX12_init_364 : decode cX12_init 364 = .ok (.putfield 149, 3) := by decide +kernel
theorem dX12_init_367 : decode cX12_init 367 = .ok (.aload_n 0, 1) := by decide +kernel
theorem dX12_init_368 : decode cX12_init 368 = .ok (.bipush 20, 2) := by decide +kernel
theorem dX12_init_370 : decode cX12_init 370 = .ok (.newarray .int, 2) := by decide +kernel
theorem dX12_init_372 : decode cX12_init 372 = .ok (.putfield 152, 3) := by decide +kernel
theorem dX12_init_375 : decode cX12_init 375 = .ok (.aload_n 0, 1) := by decide +kernel
theorem dX12_init_376 : decode cX12_init 376 = .ok (.bipush 20, 2) := by decide +kernel
theorem dX12_init_378 : decode cX12_init 378 = .ok (.newarray .boolean, 2) := by decide +kernel
theorem dX12_init_380 : decode cX12_init 380 = .ok (.putfield 155, 3) := by decide +kernel
theorem dX12_init_383 : decode cX12_init 383 = .ok (.aload_n 0, 1) := by decide +kernel
theorem dX12_init_384 : decode cX12_init 384 = .ok (.iconst 3, 1) := by decide +kernel
theorem dX12_init_385 : decode cX12_init 385 = .ok (.newarray .boolean, 2) := by decide +kernel
theorem dX12_init_387 : decode cX12_init 387 = .ok (.putfield 158, 3) := by decide +kernel
theorem dX12_init_390 : decode cX12_init 390 = .ok (.aload_n 0, 1) := by decide +kernel
theorem dX12_init_391 : decode cX12_init 391 = .ok (.sipush 189, 3) := by decide +kernel
theorem dX12_init_394 : decode cX12_init 394 = .ok (.newarray .int, 2) := by decide +kernel
theorem dX12_init_396 : decode cX12_init 396 = .ok (.putfield 161, 3) := by decide +kernel
theorem dX12_init_399 : decode cX12_init 399 = .ok (.aload_n 0, 1) := by decide +kernel
theorem dX12_init_400 : decode cX12_init 400 = .ok (.iconst 0, 1) := by decide +kernel
theorem dX12_init_401 : decode cX12_init 401 = .ok (.invokevirtual 164, 3) := by decide +kernel
theorem dX12_init_404 : decode cX12_init 404 = .ok (.aload_n 0, 1) := by decide +kernel
theorem dX12_init_405 : decode cX12_init 405 = .ok (.iconst 1, 1) := by decide +kernel
theorem dX12_init_406 : decode cX12_init 406 = .ok (.invokevirtual 164, 3) := by decide +kernel
theorem dX12_init_409 : decode cX12_init 409 = .ok (.aload_n 0, 1) := by decide +kernel
theorem dX12_init_410 : decode cX12_init 410 = .ok (.getfield 34, 3) := by decide +kernel
theorem dX12_init_413 : decode cX12_init 413 = .ok (.iconst 0, 1) := by decide +kernel
theorem dX12_init_414 : decode cX12_init 414 = .ok (.bipush 108, 2) := by decide +kernel
theorem dX12_init_416 : decode cX12_init 416 = .ok (.bipush 97, 2) := by decide +kernel
theorem dX12_init_418 : decode cX12_init 418 = .ok (.bipush 119, 2) := by decide +kernel
theorem dX12_init_420 : decode cX12_init 420 = .ok (.bipush 110, 2) := by decide +kernel
theorem dX12_init_422 : decode cX12_init 422 = .ok (.iconst 0, 1) := by decide +kernel
theorem dX12_init_423 : decode cX12_init 423 = .ok (.iconst 0, 1) := by decide +kernel
theorem dX12_init_424 : decode cX12_init 424 = .ok (.iconst 0, 1) := by decide +kernel
theorem dX12_init_425 : decode cX12_init 425 = .ok (.invokestatic 168, 3) := by decide +kernel
theorem dX12_init_428 : decode cX12_init 428 = .ok (.lastore, 1) := by decide +kernel
theorem dX12_init_429 : decode cX12_init 429 = .ok (.aload_n 0, 1) := by decide +kernel
theorem dX12_init_430 : decode cX12_init 430 = .ok (.getfield 34, 3) := by decide +kernel
theorem dX12_init_433 : decode cX12_init 433 = .ok (.iconst 1, 1) := by decide +kernel
theorem dX12_init_434 : decode cX12_init 434 = .ok (.bipush 116, 2) := by decide +kernel
theorem dX12_init_436 : decode cX12_init 436 = .ok (.bipush 117, 2) := by decide +kernel
theorem dX12_init_438 : decode cX12_init 438 = .ok (.bipush 110, 2) := by decide +kernel
theorem dX12_init_440 : decode cX12_init 440 = .ok (.bipush 101, 2) := by decide +kernel
theorem dX12_init_442 : decode cX12_init 442 = .ok (.iconst 0, 1) := by decide +kernel
theorem dX12_init_443 : decode cX12_init 443 = .ok (.iconst 0, 1) := by decide +kernel
theorem dX12_init_444 : decode cX12_init 444 = .ok (.iconst 0, 1) := by decide +kernel
theorem dX12_init_445 : decode cX12_init 445 = .ok (.invokestatic 168, 3) := by decide +kernel
theorem dX12_init_448 : decode cX12_init 448 = .ok (.lastore, 1) := by decide +kernel
theorem dX12_init_449 : decode cX12_init 449 = .ok (.aload_n 0, 1) := by decide +kernel
theorem dX12_init_450 : decode cX12_init 450 = .ok (.getfield 34, 3) := by decide +kernel
theorem dX12_init_453 : decode cX12_init 453 = .ok (.iconst 2, 1) := by decide +kernel
theorem dX12_init_454 : decode cX12_init 454 = .ok (.bipush 103, 2) := by decide +kernel
theorem dX12_init_456 : decode cX12_init 456 = .ok (.bipush 111, 2) := by decide +kernel
theorem dX12_init_458 : decode cX12_init 458 = .ok (.bipush 101, 2) := by decide +kernel
theorem dX12_init_460 : decode cX12_init 460 = .ok (.bipush 114, 2) := by decide +kernel
theorem dX12_init_462 : decode cX12_init 462 = .ok (.iconst 0, 1) := by decide +kernel
theorem dX12_init_463 : decode cX12_init 463 = .ok (.iconst 0, 1) := by decide +kernel
theorem dX12_init_464 : decode cX12_init 464 = .ok (.iconst 0, 1) := by decide +kernel
theorem dX12_init_465 : decode cX12_init 465 = .ok (.invokestatic 168, 3) := by decide +kernel
theorem dX12_init_468 : decode cX12_init 468 = .ok (.lastore, 1) := by decide +kernel
theorem dX12_init_469 : decode cX12_init 469 = .ok (.aload_n 0, 1) := by decide +kernel
theorem dX12_init_470 : decode cX12_init 470 = .ok (.getfield 34, 3) := by decide +kernel
theorem dX12_init_473 : decode cX12_init 473 = .ok (.iconst 3, 1) := by decide +kernel
theorem dX12_init_474 : decode cX12_init 474 = .ok (.bipush 114, 2) := by decide +kernel
theorem dX12_init_476 : decode cX12_init 476 = .ok (.bipush 111, 2) := by decide +kernel
theorem dX12_init_478 : decode cX12_init 478 = .ok (.bipush 112, 2) := by decide +kernel
theorem dX12_init_480 : decode cX12_init 480 = .ok (.bipush 101, 2) := by decide +kernel
theorem dX12_init_482 : decode cX12_init 482 = .ok (.iconst 0, 1) := by decide +kernel
theorem dX12_init_483 : decode cX12_init 483 = .ok (.iconst 0, 1) := by decide +kernel
theorem dX12_init_484 : decode cX12_init 484 = .ok (.iconst 0, 1) := by decide +kernel
theorem dX12_init_485 : decode cX12_init 485 = .ok (.invokestatic 168, 3) := by decide +kernel
theorem dX12_init_488 : decode cX12_init 488 = .ok (.lastore, 1) := by decide +kernel
theorem dX12_init_489 : decode cX12_init 489 = .ok (.aload_n 0, 1) := by decide +kernel
theorem dX12_init_490 : decode cX12_init 490 = .ok (.getfield 34, 3) := by decide +kernel
theorem dX12_init_493 : decode cX12_init 493 = .ok (.iconst 4, 1) := by decide +kernel
theorem dX12_init_494 : decode cX12_init 494 = .ok (.bipush 115, 2) := by decide +kernel
theorem dX12_init_496 : decode cX12_init 496 = .ok (.bipush 116, 2) := by decide +kernel
theorem dX12_init_498 : decode cX12_init 498 = .ok (.bipush 101, 2) := by decide +kernel
theorem dX12_init_500 : decode cX12_init 500 = .ok (.bipush 112, 2) := by decide +kernel
theorem dX12_init_502 : decode cX12_init 502 = .ok (.bipush 115, 2) := by decide +kernel
theorem dX12_init_504 : decode cX12_init 504 = .ok (.iconst 0, 1) := by decide +kernel
theorem dX12_init_505 : decode cX12_init 505 = .ok (.iconst 0, 1) := by decide +kernel
theorem dX12_init_506 : decode cX12_init 506 = .ok (.invokestatic 168, 3) := by decide +kernel
theorem dX12_init_509 : decode cX12_init 509 = .ok (.lastore, 1) := by decide +kernel
theorem dX12_init_510 : decode cX12_init 510 = .ok (.aload_n 0, 1) := by decide +kernel
theorem dX12_init_511 : decode cX12_init 511 = .ok (.getfield 34, 3) := by decide +kernel
theorem dX12_init_514 : decode cX12_init 514 = .ok (.iconst 5, 1) := by decide +kernel
theorem dX12_init_515 : decode cX12_init 515 = .ok (.bipush 109, 2) := by decide +kernel
theorem dX12_init_517 : decode cX12_init 517 = .ok (.bipush 111, 2) := by decide +kernel
theorem dX12_init_519 : decode cX12_init 519 = .ok (.bipush 118, 2) := by decide +kernel
theorem dX12_init_521 : decode cX12_init 521 = .ok (.bipush 101, 2) := by decide +kernel
theorem dX12_init_523 : decode cX12_init 523 = .ok (.bipush 115, 2) := by decide +kernel
theorem dX12_init_525 : decode cX12_init 525 = .ok (.iconst 0, 1) := by decide +kernel
theorem dX12_init_526 : decode cX12_init 526 = .ok (.iconst 0, 1) := by decide +kernel
theorem dX12_init_527 : decode cX12_init 527 = .ok (.invokestatic 168, 3) := by decide +kernel
theorem dX12_init_530 : decode cX12_init 530 = .ok (.lastore, 1) := by decide +kernel
theorem dX12_init_531 : decode cX12_init 531 = .ok (.aload_n 0, 1) := by decide +kernel
theorem dX12_init_532 : decode cX12_init 532 = .ok (.getfield 34, 3) := by decide +kernel
theorem dX12_init_535 : decode cX12_init 535 = .ok (.bipush 6, 2) := by decide +kernel
theorem dX12_init_537 : decode cX12_init 537 = .ok (.bipush 115, 2) := by decide +kernel
theorem dX12_init_539 : decode cX12_init 539 = .ok (.bipush 112, 2) := by decide +kernel
theorem dX12_init_541 : decode cX12_init 541 = .ok (.bipush 114, 2) := by decide +kernel
theorem dX12_init_543 : decode cX12_init 543 = .ok (.bipush 101, 2) := by decide +kernel
theorem dX12_init_545 : decode cX12_init 545 = .ok (.bipush 97, 2) := by decide +kernel
theorem dX12_init_547 : decode cX12_init 547 = .ok (.bipush 100, 2) := by decide +kernel
theorem dX12_init_549 : decode cX12_init 549 = .ok (.bipush 115, 2) := by decide +kernel
theorem dX12_init_551 : decode cX12_init 551 = .ok (.invokestatic 168, 3) := by decide +kernel
theorem dX12_init_554 : decode cX12_init 554 = .ok (.lastore, 1) := by decide +kernel
theorem dX12_init_555 : decode cX12_init 555 = .ok (.aload_n 0, 1) := by decide +kernel
theorem dX12_init_556 : decode cX12_init 556 = .ok (.getfield 34, 3) := by decide +kernel
theorem dX12_init_559 : decode cX12_init 559 = .ok (.bipush 7, 2) := by decide +kernel
theorem dX12_init_561 : decode cX12_init 561 = .ok (.bipush 99, 2) := by decide +kernel
theorem dX12_init_563 : decode cX12_init 563 = .ok (.bipush 111, 2) := by decide +kernel
theorem dX12_init_565 : decode cX12_init 565 = .ok (.bipush 115, 2) := by decide +kernel
theorem dX12_init_567 : decode cX12_init 567 = .ok (.bipush 116, 2) := by decide +kernel
theorem dX12_init_569 : decode cX12_init 569 = .ok (.bipush 115, 2) := by decide +kernel
theorem dX12_init_571 : decode cX12_init 571 = .ok (.iconst 0, 1) := by decide +kernel
theorem dX12_init_572 : decode cX12_init 572 = .ok (.iconst 0, 1) := by decide +kernel
theorem dX12_init_573 : decode cX12_init 573 = .ok (.invokestatic 168, 3) := by decide +kernel
theorem dX12_init_576 : decode cX12_init 576 = .ok (.lastore, 1) := by decide +kernel
theorem dX12_init_577 : decode cX12_init 577 = .ok (.aload_n 0, 1) := by decide +kernel
theorem dX12_init_578 : decode cX12_init 578 = .ok (.getfield 34, 3) := by decide +kernel
theorem dX12_init_581 : decode cX12_init 581 = .ok (.bipush 8, 2) := by decide +kernel
theorem dX12_init_583 : decode cX12_init 583 = .ok (.bipush 119, 2) := by decide +kernel
theorem dX12_init_585 : decode cX12_init 585 = .ok (.bipush 101, 2) := by decide +kernel
theorem dX12_init_587 : decode cX12_init 587 = .ok (.bipush 116, 2) := by decide +kernel
theorem dX12_init_589 : decode cX12_init 589 = .ok (.iconst 0, 1) := by decide +kernel
theorem dX12_init_590 : decode cX12_init 590 = .ok (.iconst 0, 1) := by decide +kernel
theorem dX12_init_591 : decode cX12_init 591 = .ok (.iconst 0, 1) := by decide +kernel
theorem dX12_init_592 : decode cX12_init 592 = .ok (.iconst 0, 1) := by decide +kernel
theorem dX12_init_593 : decode cX12_init 593 = .ok (.invokestatic 168, 3) := by decide +kernel
theorem dX12_init_596 : decode cX12_init 596 = .ok (.lastore, 1) := by decide +kernel
theorem dX12_init_597 : decode cX12_init 597 = .ok (.aload_n 0, 1) := by decide +kernel
theorem dX12_init_598 : decode cX12_init 598 = .ok (.getfield 34, 3) := by decide +kernel
theorem dX12_init_601 : decode cX12_init 601 = .ok (.bipush 9, 2) := by decide +kernel
theorem dX12_init_603 : decode cX12_init 603 = .ok (.bipush 115, 2) := by decide +kernel
theorem dX12_init_605 : decode cX12_init 605 = .ok (.bipush 101, 2) := by decide +kernel
theorem dX12_init_607 : decode cX12_init 607 = .ok (.bipush 101, 2) := by decide +kernel
theorem dX12_init_609 : decode cX12_init 609 = .ok (.bipush 100, 2) := by decide +kernel
theorem dX12_init_611 : decode cX12_init 611 = .ok (.iconst 0, 1) := by decide +kernel
theorem dX12_init_612 : decode cX12_init 612 = .ok (.iconst 0, 1) := by decide +kernel
theorem dX12_init_613 : decode cX12_init 613 = .ok (.iconst 0, 1) := by decide +kernel
theorem dX12_init_614 : decode cX12_init 614 = .ok (.invokestatic 168, 3) := by decide +kernel
theorem dX12_init_617 : decode cX12_init 617 = .ok (.lastore, 1) := by decide +kernel
theorem dX12_init_618 : decode cX12_init 618 = .ok (.aload_n 0, 1) := by decide +kernel
theorem dX12_init_619 : decode cX12_init 619 = .ok (.getfield 34, 3) := by decide +kernel
theorem dX12_init_622 : decode cX12_init 622 = .ok (.bipush 10, 2) := by decide +kernel
theorem dX12_init_624 : decode cX12_init 624 = .ok (.bipush 105, 2) := by decide +kernel
theorem dX12_init_626 : decode cX12_init 626 = .ok (.bipush 102, 2) := by decide +kernel
theorem dX12_init_628 : decode cX12_init 628 = .ok (.iconst 0, 1) := by decide +kernel
theorem dX12_init_629 : decode cX12_init 629 = .ok (.iconst 0, 1) := by decide +kernel
theorem dX12_init_630 : decode cX12_init 630 = .ok (.iconst 0, 1) := by decide +kernel
theorem dX12_init_631 : decode cX12_init 631 = .ok (.iconst 0, 1) := by decide +kernel
theorem dX12_init_632 : decode cX12_init 632 = .ok (.iconst 0, 1) := by decide +kernel
theorem dX12_init_633 : decode cX12_init 633 = .ok (.invokestatic 168, 3) := by decide +kernel
theorem dX12_init_636 : decode cX12_init 636 = .ok (.lastore, 1) := by decide +kernel
theorem dX12_init_637 : decode cX12_init 637 = .ok (.aload_n 0, 1) := by decide +kernel
theorem dX12_init_638 : decode cX12_init 638 = .ok (.getfield 34, 3) := by decide +kernel
theorem dX12_init_641 : decode cX12_init 641 = .ok (.bipush 11, 2) := by decide +kernel
theorem dX12_init_643 : decode cX12_init 643 = .ok (.bipush 116, 2) := by decide +kernel
theorem dX12_init_645 : decode cX12_init 645 = .ok (.bipush 104, 2) := by decide +kernel
theorem dX12_init_647 : decode cX12_init 647 = .ok (.bipush 101, 2) := by decide +kernel
theorem dX12_init_649 : decode cX12_init 649 = .ok (.bipush 110, 2) := by decide +kernel
theorem dX12_init_651 : decode cX12_init 651 = .ok (.iconst 0, 1) := by decide +kernel
theorem dX12_init_652 : decode cX12_init 652 = .ok (.iconst 0, 1) := by decide +kernel
theorem dX12_init_653 : decode cX12_init 653 = .ok (.iconst 0, 1) := by decide +kernel
theorem dX12_init_654 : decode cX12_init 654 = .ok (.invokestatic 168, 3) := by decide +kernel
theorem dX12_init_657 : decode cX12_init 657 = .ok (.lastore, 1) := by decide +kernel
theorem dX12_init_658 : decode cX12_init 658 = .ok (.aload_n 0, 1) := by decide +kernel
theorem dX12_init_659 : decode cX12_init 659 = .ok (.getfield 34, 3) := by decide +kernel
theorem dX12_init_662 : decode cX12_init 662 = .ok (.bipush 12, 2) := by decide +kernel
theorem dX12_init_664 : decode cX12_init 664 = .ok (.bipush 101, 2) := by decide +kernel
theorem dX12_init_666 : decode cX12_init 666 = .ok (.bipush 108, 2) := by decide +kernel
theorem dX12_init_668 : decode cX12_init 668 = .ok (.bipush 115, 2) := by decide +kernel
theorem dX12_init_670 : decode cX12_init 670 = .ok (.bipush 101, 2) := by decide +kernel
theorem dX12_init_672 : decode cX12_init 672 = .ok (.iconst 0, 1) := by decide +kernel
theorem dX12_init_673 : decode cX12_init 673 = .ok (.iconst 0, 1) := by decide +kernel
theorem dX12_init_674 : decode cX12_init 674 = .ok (.iconst 0, 1) := by decide +kernel
theorem dX12_init_675 : decode cX12_init 675 = .ok (.invokestatic 168, 3) := by decide +kernel
theorem dX12_init_678 : decode cX12_init 678 = .ok (.lastore, 1) := by decide +kernel
theorem dX12_init_679 : decode cX12_init 679 = .ok (.aload_n 0, 1) := by decide +kernel
theorem dX12_init_680 : decode cX12_init 680 = .ok (.getfield 34, 3) := by decide +kernel
theorem dX12_init_683 : decode cX12_init 683 = .ok (.bipush 13, 2) := by decide +kernel
theorem dX12_init_685 : decode cX12_init 685 = .ok (.bipush 108, 2) := by decide +kernel
theorem dX12_init_687 : decode cX12_init 687 = .ok (.bipush 101, 2) := by decide +kernel
theorem dX12_init_689 : decode cX12_init 689 = .ok (.bipush 102, 2) := by decide +kernel
theorem dX12_init_691 : decode cX12_init 691 = .ok (.bipush 116, 2) := by decide +kernel
theorem dX12_init_693 : decode cX12_init 693 = .ok (.iconst 0, 1) := by decide +kernel
theorem dX12_init_694 : decode cX12_init 694 = .ok (.iconst 0, 1) := by decide +kernel
theorem dX12_init_695 : decode cX12_init 695 = .ok (.iconst 0, 1) := by decide +kernel
theorem dX12_init_696 : decode cX12_init 696 = .ok (.invokestatic 168, 3) := by decide +kernel
theorem dX12_init_699 : decode cX12_init 699 = .ok (.lastore, 1) := by decide +kernel
theorem dX12_init_700 : decode cX12_init 700 = .ok (.aload_n 0, 1) := by decide +kernel
theorem dX12_init_701 : decode cX12_init 701 = .ok (.getfield 34, 3) := by decide +kernel
theorem dX12_init_704 : decode cX12_init 704 = .ok (.bipush 14, 2) := by decide +kernel
theorem dX12_init_706 : decode cX12_init 706 = .ok (.bipush 116, 2) := by decide +kernel
theorem dX12_init_708 : decode cX12_init 708 = .ok (.bipush 111, 2) := by decide +kernel
theorem dX12_init_710 : decode cX12_init 710 = .ok (.bipush 112, 2) := by decide +kernel
theorem dX12_init_712 : decode cX12_init 712 = .ok (.iconst 0, 1) := by decide +kernel
theorem dX12_init_713 : decode cX12_init 713 = .ok (.iconst 0, 1) := by decide +kernel
theorem dX12_init_714 : decode cX12_init 714 = .ok (.iconst 0, 1) := by decide +kernel
theorem dX12_init_715 : decode cX12_init 715 = .ok (.iconst 0, 1) := by decide +kernel
theorem dX12_init_716 : decode cX12_init 716 = .ok (.invokestatic 168, 3) := by decide +kernel
theorem dX12_init_719 : decode cX12_init 719 = .ok (.lastore, 1) := by decide +kernel
theorem dX12_init_720 : decode cX12_init 720 = .ok (.aload_n 0, 1) := by decide +kernel
theorem dX12_init_721 : decode cX12_init 721 = .ok (.getfield 34, 3) := by decide +kernel
theorem dX12_init_724 : decode cX12_init 724 = .ok (.bipush 15, 2) := by decide +kernel
theorem dX12_init_726 : decode cX12_init 726 = .ok (.bipush 116, 2) := by decide +kernel
theorem dX12_init_728 : decode cX12_init 728 = .ok (.bipush 105, 2) := by decide +kernel
theorem dX12_init_730 : decode cX12_init 730 = .ok (.bipush 109, 2) := by decide +kernel
theorem dX12_init_732 : decode cX12_init 732 = .ok (.bipush 101, 2) := by decide +kernel
theorem dX12_init_734 : decode cX12_init 734 = .ok (.iconst 0, 1) := by decide +kernel
theorem dX12_init_735 : decode cX12_init 735 = .ok (.iconst 0, 1) := by decide +kernel
theorem dX12_init_736 : decode cX12_init 736 = .ok (.iconst 0, 1) := by decide +kernel
theorem dX12_init_737 : decode cX12_init 737 = .ok (.invokestatic 168, 3) := by decide +kernel
theorem dX12_init_740 : decode cX12_init 740 = .ok (.lastore, 1) := by decide +kernel
theorem dX12_init_741 : decode cX12_init 741 = .ok (.aload_n 0, 1) := by decide +kernel
theorem dX12_init_742 : decode cX12_init 742 = .ok (.getfield 34, 3) := by decide +kernel
theorem dX12_init_745 : decode cX12_init 745 = .ok (.bipush 16, 2) := by decide +kernel
theorem dX12_init_747 : decode cX12_init 747 = .ok (.bipush 98, 2) := by decide +kernel
theorem dX12_init_749 : decode cX12_init 749 = .ok (.bipush 101, 2) := by decide +kernel
theorem dX12_init_751 : decode cX12_init 751 = .ok (.bipush 97, 2) := by decide +kernel
theorem dX12_init_753 : decode cX12_init 753 = .ok (.bipush 116, 2) := by decide +kernel
theorem dX12_init_755 : decode cX12_init 755 = .ok (.iconst 0, 1) := by decide +kernel
theorem dX12_init_756 : decode cX12_init 756 = .ok (.iconst 0, 1) := by decide +kernel
theorem dX12_init_757 : decode cX12_init 757 = .ok (.iconst 0, 1) := by decide +kernel
theorem dX12_init_758 : decode cX12_init 758 = .ok (.invokestatic 168, 3) := by decide +kernel
theorem dX12_init_761 : decode cX12_init 761 = .ok (.lastore, 1) := by decide +kernel
theorem dX12_init_762 : decode cX12_init 762 = .ok (.aload_n 0, 1) := by decide +kernel
theorem dX12_init_763 : decode cX12_init 763 = .ok (.getfield 34, 3) := by decide +kernel
theorem dX12_init_766 : decode cX12_init 766 = .ok (.bipush 17, 2) := by decide +kernel
theorem dX12_init_768 : decode cX12_init 768 = .ok (.bipush 109, 2) := by decide +kernel
theorem dX12_init_770 : decode cX12_init 770 = .ok (.bipush 111, 2) := by decide +kernel
theorem dX12_init_772 : decode cX12_init 772 = .ok (.bipush 118, 2) := by decide +kernel
theorem dX12_init_774 : decode cX12_init 774 = .ok (.bipush 101, 2) := by decide +kernel
theorem dX12_init_776 : decode cX12_init 776 = .ok (.bipush 100, 2) := by decide +kernel
theorem dX12_init_778 : decode cX12_init 778 = .ok (.iconst 0, 1) := by decide +kernel
theorem dX12_init_779 : decode cX12_init 779 = .ok (.iconst 0, 1) := by decide +kernel
theorem dX12_init_780 : decode cX12_init 780 = .ok (.invokestatic 168, 3) := by decide +kernel
theorem dX12_init_783 : decode cX12_init 783 = .ok (.lastore, 1) := by decide +kernel
theorem dX12_init_784 : decode cX12_init 784 = .ok (.aload_n 0, 1) := by decide +kernel
theorem dX12_init_785 : decode cX12_init 785 = .ok (.getfield 34, 3) := by decide +kernel
theorem dX12_init_788 : decode cX12_init 788 = .ok (.bipush 18, 2) := by decide +kernel
theorem dX12_init_790 : decode cX12_init 790 = .ok (.bipush 119, 2) := by decide +kernel
theorem dX12_init_792 : decode cX12_init 792 = .ok (.bipush 104, 2) := by decide +kernel
theorem dX12_init_794 : decode cX12_init 794 = .ok (.bipush 105, 2) := by decide +kernel
theorem dX12_init_796 : decode cX12_init 796 = .ok (.bipush 99, 2) := by decide +kernel
theorem dX12_init_798 : decode cX12_init 798 = .ok (.bipush 104, 2) := by decide +kernel
theorem dX12_init_800 : decode cX12_init 800 = .ok (.iconst 0, 1) := by decide +kernel
theorem dX12_init_801 : decode cX12_init 801 = .ok (.iconst 0, 1) := by decide +kernel
theorem dX12_init_802 : decode cX12_init 802 = .ok (.invokestatic 168, 3) := by decide +kernel
theorem dX12_init_805 : decode cX12_init 805 = .ok (.lastore, 1) := by decide +kernel
theorem dX12_init_806 : decode cX12_init 806 = .ok (.aload_n 0, 1) := by decide +kernel
theorem dX12_init_807 : decode cX12_init 807 = .ok (.getfield 34, 3) := by decide +kernel
theorem dX12_init_810 : decode cX12_init 810 = .ok (.bipush 19, 2) := by decide +kernel
theorem dX12_init_812 : decode cX12_init 812 = .ok (.bipush 119, 2) := by decide +kernel
theorem dX12_init_814 : decode cX12_init 814 = .ok (.bipush 105, 2) := by decide +kernel
theorem dX12_init_816 : decode cX12_init 816 = .ok (.bipush 100, 2) := by decide +kernel
theorem dX12_init_818 : decode cX12_init 818 = .ok (.bipush 101, 2) := by decide +kernel
theorem dX12_init_820 : decode cX12_init 820 = .ok (.iconst 0, 1) := by decide +kernel
theorem dX12_init_821 : decode cX12_init 821 = .ok (.iconst 0, 1) := by decide +kernel
theorem dX12_init_822 : decode cX12_init 822 = .ok (.iconst 0, 1) := by decide +kernel
theorem dX12_init_823 : decode cX12_init 823 = .ok (.invokestatic 168, 3) := by decide +kernel
theorem dX12_init_826 : decode cX12_init 826 = .ok (.lastore, 1) := by decide +kernel
theorem dX12_init_827 : decode cX12_init 827 = .ok (.aload_n 0, 1) := by decide +kernel
theorem dX12_init_828 : decode cX12_init 828 = .ok (.getfield 34, 3) := by decide +kernel
theorem dX12_init_831 : decode cX12_init 831 = .ok (.bipush 20, 2) := by decide +kernel
theorem dX12_init_833 : decode cX12_init 833 = .ok (.bipush 104, 2) := by decide +kernel
theorem dX12_init_835 : decode cX12_init 835 = .ok (.bipush 105, 2) := by decide +kernel
theorem dX12_init_837 : decode cX12_init 837 = .ok (.bipush 103, 2) := by decide +kernel
theorem dX12_init_839 : decode cX12_init 839 = .ok (.bipush 104, 2) := by decide +kernel
theorem dX12_init_841 : decode cX12_init 841 = .ok (.iconst 0, 1) := by decide +kernel
theorem dX12_init_842 : decode cX12_init 842 = .ok (.iconst 0, 1) := by decide +kernel
theorem dX12_init_843 : decode cX12_init 843 = .ok (.iconst 0, 1) := by decide +kernel
theorem dX12_init_844 : decode cX12_init 844 = .ok (.invokestatic 168, 3) := by decide +kernel
theorem dX12_init_847 : decode cX12_init 847 = .ok (.lastore, 1) := by decide +kernel
theorem dX12_init_848 : decode cX12_init 848 = .ok (.aload_n 0, 1) := by decide +kernel
theorem dX12_init_849 : decode cX12_init 849 = .ok (.getfield 34, 3) := by decide +kernel
theorem dX12_init_852 : decode cX12_init 852 = .ok (.bipush 21, 2) := by decide +kernel
theorem dX12_init_854 : decode cX12_init 854 = .ok (.bipush 116, 2) := by decide +kernel
theorem dX12_init_856 : decode cX12_init 856 = .ok (.bipush 117, 2) := by decide +kernel
theorem dX12_init_858 : decode cX12_init 858 = .ok (.bipush 110, 2) := by decide +kernel
theorem dX12_init_860 : decode cX12_init 860 = .ok (.bipush 101, 2) := by decide +kernel
theorem dX12_init_862 : decode cX12_init 862 = .ok (.bipush 115, 2) := by decide +kernel
theorem dX12_init_864 : decode cX12_init 864 = .ok (.iconst 0, 1) := by decide +kernel
theorem dX12_init_865 : decode cX12_init 865 = .ok (.iconst 0, 1) := by decide +kernel
theorem dX12_init_866 : decode cX12_init 866 = .ok (.invokestatic 168, 3) := by decide +kernel
theorem dX12_init_869 : decode cX12_init 869 = .ok (.lastore, 1) := by decide +kernel
theorem dX12_init_870 : decode cX12_init 870 = .ok (.aload_n 0, 1) := by decide +kernel
theorem dX12_init_871 : decode cX12_init 871 = .ok (.invokevirtual 172, 3) := by decide +kernel
theorem dX12_init_874 : decode cX12_init 874 = .ok (.aload_n 0, 1) := by decide +kernel
theorem dX12_init_875 : decode cX12_init 875 = .ok (.invokevirtual 175, 3) := by decide +kernel
theorem dX12_init_878 : decode cX12_init 878 = .ok (.return_, 1) := by decide +kernel
theorem dX12_feed_0 : decode cX12_feed 0 = .ok (.aload_n 0, 1) := by decide +kernel
theorem dX12_feed_1 : decode cX12_feed 1 = .ok (.getfield 178, 3) := by decide +kernel
theorem dX12_feed_4 : decode cX12_feed 4 = .ok (.bipush 20, 2) := by decide +kernel
theorem dX12_feed_6 : decode cX12_feed 6 = .ok (.iadd, 1) := by decide +kernel
theorem dX12_feed_7 : decode cX12_feed 7 = .ok (.sipush 2000, 3) := by decide +kernel
theorem dX12_feed_10 : decode cX12_feed 10 = .ok (.if_icmp .le 5, 3) := by decide +kernel
theorem dX12_feed_13 : decode cX12_feed 13 = .ok (.iconst (-1), 1) := by decide +kernel
theorem dX12_feed_14 : decode cX12_feed 14 = .ok (.ireturn, 1) := by decide +kernel
theorem dX12_feed_15 : decode cX12_feed 15 = .ok (.aload_n 0, 1) := by decide +kernel
theorem dX12_feed_16 : decode cX12_feed 16 = .ok (.iload_n 1, 1) := by decide +kernel
theorem dX12_feed_17 : decode cX12_feed 17 = .ok (.invokevirtual 181, 3) := by decide +kernel
theorem dX12_feed_20 : decode cX12_feed 20 = .ok (.aload_n 0, 1) := by decide +kernel
theorem dX12_feed_21 : decode cX12_feed 21 = .ok (.iload_n 2, 1) := by decide +kernel
theorem dX12_feed_22 : decode cX12_feed 22 = .ok (.invokevirtual 181, 3) := by decide +kernel
theorem dX12_feed_25 : decode cX12_feed 25 = .ok (.aload_n 0, 1) := by decide +kernel
theorem dX12_feed_26 : decode cX12_feed 26 = .ok (.iload_n 3, 1) := by decide +kernel
theorem dX12_feed_27 : decode cX12_feed 27 = .ok (.invokevirtual 181, 3) := by decide +kernel
theorem dX12_feed_30 : decode cX12_feed 30 = .ok (.aload_n 0, 1) := by decide +kernel
theorem dX12_feed_31 : decode cX12_feed 31 = .ok (.iload 4, 2) := by decide +kernel
theorem dX12_feed_33 : decode cX12_feed 33 = .ok (.invokevirtual 181, 3) := by decide +kernel
theorem dX12_feed_36 : decode cX12_feed 36 = .ok (.aload_n 0, 1) := by decide +kernel
theorem dX12_feed_37 : decode cX12_feed 37 = .ok (.iload 5, 2) := by decide +kernel
theorem dX12_feed_39 : decode cX12_feed 39 = .ok (.invokevirtual 181, 3) := by decide +kernel
theorem dX12_feed_42 : decode cX12_feed 42 = .ok (.aload_n 0, 1) := by decide +kernel
theorem dX12_feed_43 : decode cX12_feed 43 = .ok (.getfield 178, 3) := by decide +kernel
theorem dX12_feed_46 : decode cX12_feed 46 = .ok (.ireturn, 1) := by decide +kernel
theorem dX12_lays_0 : decode cX12_lays 0 = .ok (.bipush 24, 2) := by decide +kernel
theorem dX12_lays_2 : decode cX12_lays 2 = .ok (.istore_n 2, 1) := by decide +kernel
theorem dX12_lays_3 : decode cX12_lays 3 = .ok (.iload_n 2, 1) := by decide +kernel
theorem dX12_lays_4 : decode cX12_lays 4 = .ok (.ifCond .lt 32, 3) := by decide +kernel
theorem dX12_lays_7 : decode cX12_lays 7 = .ok (.aload_n 0, 1) := by decide +kernel
theorem dX12_lays_8 : decode cX12_lays 8 = .ok (.getfield 13, 3) := by decide +kernel
theorem dX12_lays_11 : decode cX12_lays 11 = .ok (.aload_n 0, 1) := by decide +kernel
theorem dX12_lays_12 : decode cX12_lays 12 = .ok (.getfield 178, 3) := by decide +kernel
theorem dX12_lays_15 : decode cX12_lays 15 = .ok (.iload_n 1, 1) := by decide +kernel
theorem dX12_lays_16 : decode cX12_lays 16 = .ok (.iload_n 2, 1) := by decide +kernel
theorem dX12_lays_17 : decode cX12_lays 17 = .ok (.ishr, 1) := by decide +kernel
theorem dX12_lays_18 : decode cX12_lays 18 = .ok (.i2b, 1) := by decide +kernel
theorem dX12_lays_19 : decode cX12_lays 19 = .ok (.bastore, 1) := by decide +kernel
theorem dX12_lays_20 : decode cX12_lays 20 = .ok (.aload_n 0, 1) := by decide +kernel
theorem dX12_lays_21 : decode cX12_lays 21 = .ok (.dup, 1) := by decide +kernel
theorem dX12_lays_22 : decode cX12_lays 22 = .ok (.getfield 178, 3) := by decide +kernel
theorem dX12_lays_25 : decode cX12_lays 25 = .ok (.iconst 1, 1) := by decide +kernel
theorem dX12_lays_26 : decode cX12_lays 26 = .ok (.iadd, 1) := by decide +kernel
theorem dX12_lays_27 : decode cX12_lays 27 = .ok (.putfield 178, 3) := by decide +kernel
theorem dX12_lays_30 : decode cX12_lays 30 = .ok (.iinc 2 (-8), 3) := by decide +kernel
theorem dX12_lays_33 : decode cX12_lays 33 = .ok (.goto (-30), 3) := by decide +kernel
theorem dX12_lays_36 : decode cX12_lays 36 = .ok (.return_, 1) := by decide +kernel
theorem dX12_back_0 : decode cX12_back 0 = .ok (.iload_n 1, 1) := by decide +kernel
theorem dX12_back_1 : decode cX12_back 1 = .ok (.ifCond .lt 11, 3) := by decide +kernel
theorem dX12_back_4 : decode cX12_back 4 = .ok (.iload_n 1, 1) := by decide +kernel
theorem dX12_back_5 : decode cX12_back 5 = .ok (.aload_n 0, 1) := by decide +kernel
theorem dX12_back_6 : decode cX12_back 6 = .ok (.getfield 178, 3) := by decide +kernel
theorem dX12_back_9 : decode cX12_back 9 = .ok (.if_icmp .le 5, 3) := by decide +kernel
theorem dX12_back_12 : decode cX12_back 12 = .ok (.iconst (-1), 1) := by decide +kernel
theorem dX12_back_13 : decode cX12_back 13 = .ok (.ireturn, 1) := by decide +kernel
theorem dX12_back_14 : decode cX12_back 14 = .ok (.aload_n 0, 1) := by decide +kernel
theorem dX12_back_15 : decode cX12_back 15 = .ok (.dup, 1) := by decide +kernel
theorem dX12_back_16 : decode cX12_back 16 = .ok (.getfield 178, 3) := by decide +kernel
theorem dX12_back_19 : decode cX12_back 19 = .ok (.iload_n 1, 1) := by decide +kernel
theorem dX12_back_20 : decode cX12_back 20 = .ok (.isub, 1) := by decide +kernel
theorem dX12_back_21 : decode cX12_back 21 = .ok (.putfield 178, 3) := by decide +kernel
theorem dX12_back_24 : decode cX12_back 24 = .ok (.aload_n 0, 1) := by decide +kernel
theorem dX12_back_25 : decode cX12_back 25 = .ok (.getfield 178, 3) := by decide +kernel
theorem dX12_back_28 : decode cX12_back 28 = .ok (.ireturn, 1) := by decide +kernel
theorem dX12_byteAt_0 : decode cX12_byteAt 0 = .ok (.iload_n 1, 1) := by decide +kernel
theorem dX12_byteAt_1 : decode cX12_byteAt 1 = .ok (.aload_n 0, 1) := by decide +kernel
theorem dX12_byteAt_2 : decode cX12_byteAt 2 = .ok (.getfield 184, 3) := by decide +kernel
theorem dX12_byteAt_5 : decode cX12_byteAt 5 = .ok (.if_icmp .ge 16, 3) := by decide +kernel
theorem dX12_byteAt_8 : decode cX12_byteAt 8 = .ok (.aload_n 0, 1) := by decide +kernel
theorem dX12_byteAt_9 : decode cX12_byteAt 9 = .ok (.getfield 17, 3) := by decide +kernel
theorem dX12_byteAt_12 : decode cX12_byteAt 12 = .ok (.iload_n 1, 1) := by decide +kernel
theorem dX12_byteAt_13 : decode cX12_byteAt 13 = .ok (.baload, 1) := by decide +kernel
theorem dX12_byteAt_14 : decode cX12_byteAt 14 = .ok (.sipush 255, 3) := by decide +kernel
theorem dX12_byteAt_17 : decode cX12_byteAt 17 = .ok (.iand, 1) := by decide +kernel
theorem dX12_byteAt_18 : decode cX12_byteAt 18 = .ok (.goto 4, 3) := by decide +kernel
theorem dX12_byteAt_21 : decode cX12_byteAt 21 = .ok (.iconst 0, 1) := by decide +kernel
theorem dX12_byteAt_22 : decode cX12_byteAt 22 = .ok (.ireturn, 1) := by decide +kernel
theorem dX12_isDigit_0 : decode cX12_isDigit 0 = .ok (.iload_n 0, 1) := by decide +kernel
theorem dX12_isDigit_1 : decode cX12_isDigit 1 = .ok (.bipush 48, 2) := by decide +kernel
theorem dX12_isDigit_3 : decode cX12_isDigit 3 = .ok (.if_icmp .lt 13, 3) := by decide +kernel
theorem dX12_isDigit_6 : decode cX12_isDigit 6 = .ok (.iload_n 0, 1) := by decide +kernel
theorem dX12_isDigit_7 : decode cX12_isDigit 7 = .ok (.bipush 57, 2) := by decide +kernel
theorem dX12_isDigit_9 : decode cX12_isDigit 9 = .ok (.if_icmp .gt 7, 3) := by decide +kernel
theorem dX12_isDigit_12 : decode cX12_isDigit 12 = .ok (.iconst 1, 1) := by decide +kernel
theorem dX12_isDigit_13 : decode cX12_isDigit 13 = .ok (.goto 4, 3) := by decide +kernel
theorem dX12_isDigit_16 : decode cX12_isDigit 16 = .ok (.iconst 0, 1) := by decide +kernel
theorem dX12_isDigit_17 : decode cX12_isDigit 17 = .ok (.ireturn, 1) := by decide +kernel
theorem dX12_isLetter_0 : decode cX12_isLetter 0 = .ok (.iload_n 0, 1) := by decide +kernel
theorem dX12_isLetter_1 : decode cX12_isLetter 1 = .ok (.bipush 97, 2) := by decide +kernel
theorem dX12_isLetter_3 : decode cX12_isLetter 3 = .ok (.if_icmp .lt 13, 3) := by decide +kernel
theorem dX12_isLetter_6 : decode cX12_isLetter 6 = .ok (.iload_n 0, 1) := by decide +kernel
theorem dX12_isLetter_7 : decode cX12_isLetter 7 = .ok (.bipush 122, 2) := by decide +kernel
theorem dX12_isLetter_9 : decode cX12_isLetter 9 = .ok (.if_icmp .gt 7, 3) := by decide +kernel
theorem dX12_isLetter_12 : decode cX12_isLetter 12 = .ok (.iconst 1, 1) := by decide +kernel
theorem dX12_isLetter_13 : decode cX12_isLetter 13 = .ok (.goto 4, 3) := by decide +kernel
theorem dX12_isLetter_16 : decode cX12_isLetter 16 = .ok (.iconst 0, 1) := by decide +kernel
theorem dX12_isLetter_17 : decode cX12_isLetter 17 = .ok (.ireturn, 1) := by decide +kernel
theorem dX12_appends_0 : decode cX12_appends 0 = .ok (.iload_n 2, 1) := by decide +kernel
theorem dX12_appends_1 : decode cX12_appends 1 = .ok (.ifCond .ne 7, 3) := by decide +kernel
theorem dX12_appends_4 : decode cX12_appends 4 = .ok (.lload_n 0, 1) := by decide +kernel
theorem dX12_appends_5 : decode cX12_appends 5 = .ok (.goto 16, 3) := by decide +kernel
theorem dX12_appends_8 : decode cX12_appends 8 = .ok (.ldc2_w 187, 3) := by decide +kernel
theorem dX12_appends_11 : decode cX12_appends 11 = .ok (.lload_n 0, 1) := by decide +kernel
theorem dX12_appends_12 : decode cX12_appends 12 = .ok (.lmul, 1) := by decide +kernel
theorem dX12_appends_13 : decode cX12_appends 13 = .ok (.iload_n 2, 1) := by decide +kernel
theorem dX12_appends_14 : decode cX12_appends 14 = .ok (.bipush 97, 2) := by decide +kernel
theorem dX12_appends_16 : decode cX12_appends 16 = .ok (.isub, 1) := by decide +kernel
theorem dX12_appends_17 : decode cX12_appends 17 = .ok (.iconst 1, 1) := by decide +kernel
theorem dX12_appends_18 : decode cX12_appends 18 = .ok (.iadd, 1) := by decide +kernel
theorem dX12_appends_19 : decode cX12_appends 19 = .ok (.i2l, 1) := by decide +kernel
theorem dX12_appends_20 : decode cX12_appends 20 = .ok (.ladd, 1) := by decide +kernel
theorem dX12_appends_21 : decode cX12_appends 21 = .ok (.lreturn, 1) := by decide +kernel
theorem dX12_letters_0 : decode cX12_letters 0 = .ok (.lconst 0, 1) := by decide +kernel
theorem dX12_letters_1 : decode cX12_letters 1 = .ok (.iload_n 0, 1) := by decide +kernel
theorem dX12_letters_2 : decode cX12_letters 2 = .ok (.invokestatic 189, 3) := by decide +kernel
theorem dX12_letters_5 : decode cX12_letters 5 = .ok (.iload_n 1, 1) := by decide +kernel
theorem dX12_letters_6 : decode cX12_letters 6 = .ok (.invokestatic 189, 3) := by decide +kernel
theorem dX12_letters_9 : decode cX12_letters 9 = .ok (.iload_n 2, 1) := by decide +kernel
theorem dX12_letters_10 : decode cX12_letters 10 = .ok (.invokestatic 189, 3) := by decide +kernel
theorem dX12_letters_13 : decode cX12_letters 13 = .ok (.iload_n 3, 1) := by decide +kernel
theorem dX12_letters_14 : decode cX12_letters 14 = .ok (.invokestatic 189, 3) := by decide +kernel
theorem dX12_letters_17 : decode cX12_letters 17 = .ok (.iload 4, 2) := by decide +kernel
theorem dX12_letters_19 : decode cX12_letters 19 = .ok (.invokestatic 189, 3) := by decide +kernel
theorem dX12_letters_22 : decode cX12_letters 22 = .ok (.iload 5, 2) := by decide +kernel
theorem dX12_letters_24 : decode cX12_letters 24 = .ok (.invokestatic 189, 3) := by decide +kernel
theorem dX12_letters_27 : decode cX12_letters 27 = .ok (.iload 6, 2) := by decide +kernel
theorem dX12_letters_29 : decode cX12_letters 29 = .ok (.invokestatic 189, 3) := by decide +kernel
theorem dX12_letters_32 : decode cX12_letters 32 = .ok (.lreturn, 1) := by decide +kernel
theorem dX12_token_0 : decode cX12_token 0 = .ok (.aload_n 0, 1) := by decide +kernel
theorem dX12_token_1 : decode cX12_token 1 = .ok (.getfield 20, 3) := by decide +kernel
theorem dX12_token_4 : decode cX12_token 4 = .ok (.aload_n 0, 1) := by decide +kernel
theorem dX12_token_5 : decode cX12_token 5 = .ok (.getfield 193, 3) := by decide +kernel
theorem dX12_token_8 : decode cX12_token 8 = .ok (.iload_n 1, 1) := by decide +kernel
theorem dX12_token_9 : decode cX12_token 9 = .ok (.iastore, 1) := by decide +kernel
theorem dX12_token_10 : decode cX12_token 10 = .ok (.aload_n 0, 1) := by decide +kernel
theorem dX12_token_11 : decode cX12_token 11 = .ok (.getfield 24, 3) := by decide +kernel
theorem dX12_token_14 : decode cX12_token 14 = .ok (.aload_n 0, 1) := by decide +kernel
theorem dX12_token_15 : decode cX12_token 15 = .ok (.getfield 193, 3) := by decide +kernel
theorem dX12_token_18 : decode cX12_token 18 = .ok (.iload_n 2, 1) := by decide +kernel
theorem dX12_token_19 : decode cX12_token 19 = .ok (.iastore, 1) := by decide +kernel
theorem dX12_token_20 : decode cX12_token 20 = .ok (.aload_n 0, 1) := by decide +kernel
theorem dX12_token_21 : decode cX12_token 21 = .ok (.getfield 27, 3) := by decide +kernel
theorem dX12_token_24 : decode cX12_token 24 = .ok (.aload_n 0, 1) := by decide +kernel
theorem dX12_token_25 : decode cX12_token 25 = .ok (.getfield 193, 3) := by decide +kernel
theorem dX12_token_28 : decode cX12_token 28 = .ok (.iload_n 3, 1) := by decide +kernel
theorem dX12_token_29 : decode cX12_token 29 = .ok (.iastore, 1) := by decide +kernel
theorem dX12_token_30 : decode cX12_token 30 = .ok (.aload_n 0, 1) := by decide +kernel
theorem dX12_token_31 : decode cX12_token 31 = .ok (.getfield 30, 3) := by decide +kernel
theorem dX12_token_34 : decode cX12_token 34 = .ok (.aload_n 0, 1) := by decide +kernel
theorem dX12_token_35 : decode cX12_token 35 = .ok (.getfield 193, 3) := by decide +kernel
theorem dX12_token_38 : decode cX12_token 38 = .ok (.lload 4, 2) := by decide +kernel
theorem dX12_token_40 : decode cX12_token 40 = .ok (.lastore, 1) := by decide +kernel
theorem dX12_token_41 : decode cX12_token 41 = .ok (.aload_n 0, 1) := by decide +kernel
theorem dX12_token_42 : decode cX12_token 42 = .ok (.dup, 1) := by decide +kernel
theorem dX12_token_43 : decode cX12_token 43 = .ok (.getfield 193, 3) := by decide +kernel
theorem dX12_token_46 : decode cX12_token 46 = .ok (.iconst 1, 1) := by decide +kernel
theorem dX12_token_47 : decode cX12_token 47 = .ok (.iadd, 1) := by decide +kernel
theorem dX12_token_48 : decode cX12_token 48 = .ok (.putfield 193, 3) := by decide +kernel
theorem dX12_token_51 : decode cX12_token 51 = .ok (.return_, 1) := by decide +kernel
theorem dX12_cut_0 : decode cX12_cut 0 = .ok (.aload_n 0, 1) := by decide +kernel
theorem dX12_cut_1 : decode cX12_cut 1 = .ok (.iconst 0, 1) := by decide +kernel
theorem dX12_cut_2 : decode cX12_cut 2 = .ok (.putfield 193, 3) := by decide +kernel
theorem dX12_cut_5 : decode cX12_cut 5 = .ok (.iconst 0, 1) := by decide +kernel
theorem dX12_cut_6 : decode cX12_cut 6 = .ok (.istore_n 1, 1) := by decide +kernel
theorem dX12_cut_7 : decode cX12_cut 7 = .ok (.aload_n 0, 1) := by decide +kernel
theorem dX12_cut_8 : decode cX12_cut 8 = .ok (.getfield 193, 3) := by decide +kernel
theorem dX12_cut_11 : decode cX12_cut 11 = .ok (.sipush 400, 3) := by decide +kernel
theorem dX12_cut_14 : decode cX12_cut 14 = .ok (.if_icmp .gt 280, 3) := by decide +kernel
theorem dX12_cut_17 : decode cX12_cut 17 = .ok (.aload_n 0, 1) := by decide +kernel
theorem dX12_cut_18 : decode cX12_cut 18 = .ok (.iload_n 1, 1) := by decide +kernel
theorem dX12_cut_19 : decode cX12_cut 19 = .ok (.invokevirtual 196, 3) := by decide +kernel
theorem dX12_cut_22 : decode cX12_cut 22 = .ok (.istore_n 2, 1) := by decide +kernel
theorem dX12_cut_23 : decode cX12_cut 23 = .ok (.iload_n 1, 1) := by decide +kernel
theorem dX12_cut_24 : decode cX12_cut 24 = .ok (.aload_n 0, 1) := by decide +kernel
theorem dX12_cut_25 : decode cX12_cut 25 = .ok (.getfield 184, 3) := by decide +kernel
theorem dX12_cut_28 : decode cX12_cut 28 = .ok (.if_icmp .lt 15, 3) := by decide +kernel
theorem dX12_cut_31 : decode cX12_cut 31 = .ok (.aload_n 0, 1) := by decide +kernel
theorem dX12_cut_32 : decode cX12_cut 32 = .ok (.iconst 0, 1) := by decide +kernel
theorem dX12_cut_33 : decode cX12_cut 33 = .ok (.aload_n 0, 1) := by decide +kernel
theorem dX12_cut_34 : decode cX12_cut 34 = .ok (.getfield 184, 3) := by decide +kernel
theorem dX12_cut_37 : decode cX12_cut 37 = .ok (.iconst 0, 1) := by decide +kernel
theorem dX12_cut_38 : decode cX12_cut 38 = .ok (.lconst 0, 1) := by decide +kernel
theorem dX12_cut_39 : decode cX12_cut 39 = .ok (.invokevirtual 200, 3) := by decide +kernel
theorem dX12_cut_42 : decode cX12_cut 42 = .ok (.return_, 1) := by decide +kernel
theorem dX12_cut_43 : decode cX12_cut 43 = .ok (.iload_n 2, 1) := by decide +kernel
theorem dX12_cut_44 : decode cX12_cut 44 = .ok (.bipush 9, 2) := by decide +kernel
theorem dX12_cut_46 : decode cX12_cut 46 = .ok (.if_icmp .eq 21, 3) := by decide +kernel
theorem dX12_cut_49 : decode cX12_cut 49 = .ok (.iload_n 2, 1) := by decide +kernel
theorem dX12_cut_50 : decode cX12_cut 50 = .ok (.bipush 10, 2) := by decide +kernel
theorem dX12_cut_52 : decode cX12_cut 52 = .ok (.if_icmp .eq 15, 3) := by decide +kernel
theorem dX12_cut_55 : decode cX12_cut 55 = .ok (.iload_n 2, 1) := by decide +kernel
theorem dX12_cut_56 : decode cX12_cut 56 = .ok (.bipush 13, 2) := by decide +kernel
theorem dX12_cut_58 : decode cX12_cut 58 = .ok (.if_icmp .eq 9, 3) := by decide +kernel
theorem dX12_cut_61 : decode cX12_cut 61 = .ok (.iload_n 2, 1) := by decide +kernel
theorem dX12_cut_62 : decode cX12_cut 62 = .ok (.bipush 32, 2) := by decide +kernel
theorem dX12_cut_64 : decode cX12_cut 64 = .ok (.if_icmp .ne 9, 3) := by decide +kernel
theorem dX12_cut_67 : decode cX12_cut 67 = .ok (.iinc 1 1, 3) := by decide +kernel
theorem dX12_cut_70 : decode cX12_cut 70 = .ok (.goto 221, 3) := by decide +kernel
theorem dX12_cut_73 : decode cX12_cut 73 = .ok (.iload_n 2, 1) := by decide +kernel
theorem dX12_cut_74 : decode cX12_cut 74 = .ok (.invokestatic 204, 3) := by decide +kernel
theorem dX12_cut_77 : decode cX12_cut 77 = .ok (.ifCond .eq 119, 3) := by decide +kernel
theorem dX12_cut_80 : decode cX12_cut 80 = .ok (.iconst 0, 1) := by decide +kernel
theorem dX12_cut_81 : decode cX12_cut 81 = .ok (.istore_n 3, 1) := by decide +kernel
theorem dX12_cut_82 : decode cX12_cut 82 = .ok (.lconst 0, 1) := by decide +kernel
theorem dX12_cut_83 : decode cX12_cut 83 = .ok (.lstore 4, 2) := by decide +kernel
theorem dX12_cut_85 : decode cX12_cut 85 = .ok (.aload_n 0, 1) := by decide +kernel
theorem dX12_cut_86 : decode cX12_cut 86 = .ok (.iload_n 1, 1) := by decide +kernel
theorem dX12_cut_87 : decode cX12_cut 87 = .ok (.iload_n 3, 1) := by decide +kernel
theorem dX12_cut_88 : decode cX12_cut 88 = .ok (.iadd, 1) := by decide +kernel
theorem dX12_cut_89 : decode cX12_cut 89 = .ok (.invokevirtual 196, 3) := by decide +kernel
theorem dX12_cut_92 : decode cX12_cut 92 = .ok (.invokestatic 204, 3) := by decide +kernel
theorem dX12_cut_95 : decode cX12_cut 95 = .ok (.ifCond .eq 29, 3) := by decide +kernel
theorem dX12_cut_98 : decode cX12_cut 98 = .ok (.iload_n 3, 1) := by decide +kernel
theorem dX12_cut_99 : decode cX12_cut 99 = .ok (.bipush 8, 2) := by decide +kernel
theorem dX12_cut_101 : decode cX12_cut 101 = .ok (.if_icmp .ge 17, 3) := by decide +kernel
theorem dX12_cut_104 : decode cX12_cut 104 = .ok (.lload 4, 2) := by decide +kernel
theorem dX12_cut_106 : decode cX12_cut 106 = .ok (.aload_n 0, 1) := by decide +kernel
theorem dX12_cut_107 : decode cX12_cut 107 = .ok (.iload_n 1, 1) := by decide +kernel
theorem dX12_cut_108 : decode cX12_cut 108 = .ok (.iload_n 3, 1) := by decide +kernel
theorem dX12_cut_109 : decode cX12_cut 109 = .ok (.iadd, 1) := by decide +kernel
theorem dX12_cut_110 : decode cX12_cut 110 = .ok (.invokevirtual 196, 3) := by decide +kernel
theorem dX12_cut_113 : decode cX12_cut 113 = .ok (.invokestatic 189, 3) := by decide +kernel
theorem dX12_cut_116 : decode cX12_cut 116 = .ok (.lstore 4, 2) := by decide +kernel
theorem dX12_cut_118 : decode cX12_cut 118 = .ok (.iinc 3 1, 3) := by decide +kernel
theorem dX12_cut_121 : decode cX12_cut 121 = .ok (.goto (-36), 3) := by decide +kernel
theorem dX12_cut_124 : decode cX12_cut 124 = .ok (.iload_n 3, 1) := by decide +kernel
theorem dX12_cut_125 : decode cX12_cut 125 = .ok (.bipush 8, 2) := by decide +kernel
theorem dX12_cut_127 : decode cX12_cut 127 = .ok (.if_icmp .le 7, 3) := by decide +kernel
theorem dX12_cut_130 : decode cX12_cut 130 = .ok (.iconst 3, 1) := by decide +kernel
theorem dX12_cut_131 : decode cX12_cut 131 = .ok (.goto 4, 3) := by decide +kernel
theorem dX12_cut_134 : decode cX12_cut 134 = .ok (.iconst 1, 1) := by decide +kernel
theorem dX12_cut_135 : decode cX12_cut 135 = .ok (.istore 6, 2) := by decide +kernel
theorem dX12_cut_137 : decode cX12_cut 137 = .ok (.iload_n 3, 1) := by decide +kernel
theorem dX12_cut_138 : decode cX12_cut 138 = .ok (.bipush 8, 2) := by decide +kernel
theorem dX12_cut_140 : decode cX12_cut 140 = .ok (.if_icmp .gt 39, 3) := by decide +kernel
theorem dX12_cut_143 : decode cX12_cut 143 = .ok (.iconst 0, 1) := by decide +kernel
theorem dX12_cut_144 : decode cX12_cut 144 = .ok (.istore 7, 2) := by decide +kernel
theorem dX12_cut_146 : decode cX12_cut 146 = .ok (.iload 7, 2) := by decide +kernel
theorem dX12_cut_148 : decode cX12_cut 148 = .ok (.bipush 22, 2) := by decide +kernel
theorem dX12_cut_150 : decode cX12_cut 150 = .ok (.if_icmp .ge 29, 3) := by decide +kernel
theorem dX12_cut_153 : decode cX12_cut 153 = .ok (.aload_n 0, 1) := by decide +kernel
theorem dX12_cut_154 : decode cX12_cut 154 = .ok (.getfield 34, 3) := by decide +kernel
theorem dX12_cut_157 : decode cX12_cut 157 = .ok (.iload 7, 2) := by decide +kernel
theorem dX12_cut_159 : decode cX12_cut 159 = .ok (.laload, 1) := by decide +kernel
theorem dX12_cut_160 : decode cX12_cut 160 = .ok (.lload 4, 2) := by decide +kernel
theorem dX12_cut_162 : decode cX12_cut 162 = .ok (.lcmp, 1) := by decide +kernel
theorem dX12_cut_163 : decode cX12_cut 163 = .ok (.ifCond .ne 10, 3) := by decide +kernel
theorem dX12_cut_166 : decode cX12_cut 166 = .ok (.bipush 20, 2) := by decide +kernel
theorem dX12_cut_168 : decode cX12_cut 168 = .ok (.iload 7, 2) := by decide +kernel
theorem dX12_cut_170 : decode cX12_cut 170 = .ok (.iadd, 1) := by decide +kernel
theorem dX12_cut_171 : decode cX12_cut 171 = .ok (.istore 6, 2) := by decide +kernel
theorem dX12_cut_173 : decode cX12_cut 173 = .ok (.iinc 7 1, 3) := by decide +kernel
theorem dX12_cut_176 : decode cX12_cut 176 = .ok (.goto (-30), 3) := by decide +kernel
theorem dX12_cut_179 : decode cX12_cut 179 = .ok (.aload_n 0, 1) := by decide +kernel
theorem dX12_cut_180 : decode cX12_cut 180 = .ok (.iload 6, 2) := by decide +kernel
theorem dX12_cut_182 : decode cX12_cut 182 = .ok (.iload_n 1, 1) := by decide +kernel
theorem dX12_cut_183 : decode cX12_cut 183 = .ok (.iconst 0, 1) := by decide +kernel
theorem dX12_cut_184 : decode cX12_cut 184 = .ok (.lload 4, 2) := by decide +kernel
theorem dX12_cut_186 : decode cX12_cut 186 = .ok (.invokevirtual 200, 3) := by decide +kernel
theorem dX12_cut_189 : decode cX12_cut 189 = .ok (.iload_n 1, 1) := by decide +kernel
theorem dX12_cut_190 : decode cX12_cut 190 = .ok (.iload_n 3, 1) := by decide +kernel
theorem dX12_cut_191 : decode cX12_cut 191 = .ok (.iadd, 1) := by decide +kernel
theorem dX12_cut_192 : decode cX12_cut 192 = .ok (.istore_n 1, 1) := by decide +kernel
theorem dX12_cut_193 : decode cX12_cut 193 = .ok (.goto 98, 3) := by decide +kernel
theorem dX12_cut_196 : decode cX12_cut 196 = .ok (.iload_n 2, 1) := by decide +kernel
theorem dX12_cut_197 : decode cX12_cut 197 = .ok (.invokestatic 208, 3) := by decide +kernel
theorem dX12_cut_200 : decode cX12_cut 200 = .ok (.ifCond .eq 75, 3) := by decide +kernel
theorem dX12_cut_203 : decode cX12_cut 203 = .ok (.iconst 0, 1) := by decide +kernel
theorem dX12_cut_204 : decode cX12_cut 204 = .ok (.istore_n 3, 1) := by decide +kernel
theorem dX12_cut_205 : decode cX12_cut 205 = .ok (.iconst 0, 1) := by decide +kernel
theorem dX12_cut_206 : decode cX12_cut 206 = .ok (.istore 4, 2) := by decide +kernel
theorem dX12_cut_208 : decode cX12_cut 208 = .ok (.aload_n 0, 1) := by decide +kernel
theorem dX12_cut_209 : decode cX12_cut 209 = .ok (.iload_n 1, 1) := by decide +kernel
theorem dX12_cut_210 : decode cX12_cut 210 = .ok (.iload_n 3, 1) := by decide +kernel
theorem dX12_cut_211 : decode cX12_cut 211 = .ok (.iadd, 1) := by decide +kernel
theorem dX12_cut_212 : decode cX12_cut 212 = .ok (.invokevirtual 196, 3) := by decide +kernel
theorem dX12_cut_215 : decode cX12_cut 215 = .ok (.invokestatic 208, 3) := by decide +kernel
theorem dX12_cut_218 : decode cX12_cut 218 = .ok (.ifCond .eq 32, 3) := by decide +kernel
theorem dX12_cut_221 : decode cX12_cut 221 = .ok (.iload_n 3, 1) := by decide +kernel
theorem dX12_cut_222 : decode cX12_cut 222 = .ok (.iconst 4, 1) := by decide +kernel
theorem dX12_cut_223 : decode cX12_cut 223 = .ok (.if_icmp .ge 21, 3) := by decide +kernel
theorem dX12_cut_226 : decode cX12_cut 226 = .ok (.bipush 10, 2) := by decide +kernel
theorem dX12_cut_228 : decode cX12_cut 228 = .ok (.iload 4, 2) := by decide +kernel
theorem dX12_cut_230 : decode cX12_cut 230 = .ok (.imul, 1) := by decide +kernel
theorem dX12_cut_231 : decode cX12_cut 231 = .ok (.aload_n 0, 1) := by decide +kernel
theorem dX12_cut_232 : decode cX12_cut 232 = .ok (.iload_n 1, 1) := by decide +kernel
theorem dX12_cut_233 : decode cX12_cut 233 = .ok (.iload_n 3, 1) := by decide +kernel
theorem dX12_cut_234 : decode cX12_cut 234 = .ok (.iadd, 1) := by decide +kernel
theorem dX12_cut_235 : decode cX12_cut 235 = .ok (.invokevirtual 196, 3) := by decide +kernel
theorem dX12_cut_238 : decode cX12_cut 238 = .ok (.iadd, 1) := by decide +kernel
theorem dX12_cut_239 : decode cX12_cut 239 = .ok (.bipush 48, 2) := by decide +kernel
theorem dX12_cut_241 : decode cX12_cut 241 = .ok (.isub, 1) := by decide +kernel
theorem dX12_cut_242 : decode cX12_cut 242 = .ok (.istore 4, 2) := by decide +kernel
theorem dX12_cut_244 : decode cX12_cut 244 = .ok (.iinc 3 1, 3) := by decide +kernel
theorem dX12_cut_247 : decode cX12_cut 247 = .ok (.goto (-39), 3) := by decide +kernel
theorem dX12_cut_250 : decode cX12_cut 250 = .ok (.aload_n 0, 1) := by decide +kernel
theorem dX12_cut_251 : decode cX12_cut 251 = .ok (.iload_n 3, 1) := by decide +kernel
theorem dX12_cut_252 : decode cX12_cut 252 = .ok (.iconst 4, 1) := by decide +kernel
theorem dX12_cut_253 : decode cX12_cut 253 = .ok (.if_icmp .le 7, 3) := by decide +kernel
theorem dX12_cut_256 : decode cX12_cut 256 = .ok (.iconst 3, 1) := by decide +kernel
theorem dX12_cut_257 : decode cX12_cut 257 = .ok (.goto 4, 3) := by decide +kernel
theorem dX12_cut_260 : decode cX12_cut 260 = .ok (.iconst 2, 1) := by decide +kernel
theorem dX12_cut_261 : decode cX12_cut 261 = .ok (.iload_n 1, 1) := by decide +kernel
theorem dX12_cut_262 : decode cX12_cut 262 = .ok (.iload 4, 2) := by decide +kernel
theorem dX12_cut_264 : decode cX12_cut 264 = .ok (.lconst 0, 1) := by decide +kernel
theorem dX12_cut_265 : decode cX12_cut 265 = .ok (.invokevirtual 200, 3) := by decide +kernel
theorem dX12_cut_268 : decode cX12_cut 268 = .ok (.iload_n 1, 1) := by decide +kernel
theorem dX12_cut_269 : decode cX12_cut 269 = .ok (.iload_n 3, 1) := by decide +kernel
theorem dX12_cut_270 : decode cX12_cut 270 = .ok (.iadd, 1) := by decide +kernel
theorem dX12_cut_271 : decode cX12_cut 271 = .ok (.istore_n 1, 1) := by decide +kernel
theorem dX12_cut_272 : decode cX12_cut 272 = .ok (.goto 19, 3) := by decide +kernel
theorem dX12_cut_275 : decode cX12_cut 275 = .ok (.iload_n 1, 1) := by decide +kernel
theorem dX12_cut_276 : decode cX12_cut 276 = .ok (.aload_n 0, 1) := by decide +kernel
theorem dX12_cut_277 : decode cX12_cut 277 = .ok (.iload_n 1, 1) := by decide +kernel
theorem dX12_cut_278 : decode cX12_cut 278 = .ok (.iload_n 2, 1) := by decide +kernel
theorem dX12_cut_279 : decode cX12_cut 279 = .ok (.aload_n 0, 1) := by decide +kernel
theorem dX12_cut_280 : decode cX12_cut 280 = .ok (.iload_n 1, 1) := by decide +kernel
theorem dX12_cut_281 : decode cX12_cut 281 = .ok (.iconst 1, 1) := by decide +kernel
theorem dX12_cut_282 : decode cX12_cut 282 = .ok (.iadd, 1) := by decide +kernel
theorem dX12_cut_283 : decode cX12_cut 283 = .ok (.invokevirtual 196, 3) := by decide +kernel
theorem dX12_cut_286 : decode cX12_cut 286 = .ok (.invokevirtual 211, 3) := by decide +kernel
theorem dX12_cut_289 : decode cX12_cut 289 = .ok (.iadd, 1) := by decide +kernel
theorem dX12_cut_290 : decode cX12_cut 290 = .ok (.istore_n 1, 1) := by decide +kernel
theorem dX12_cut_291 : decode cX12_cut 291 = .ok (.goto (-284), 3) := by decide +kernel
theorem dX12_cut_294 : decode cX12_cut 294 = .ok (.return_, 1) := by decide +kernel
theorem dX12_sign_0 : decode cX12_sign 0 = .ok (.iload_n 2, 1) := by decide +kernel
theorem dX12_sign_1 : decode cX12_sign 1 = .ok (.bipush 59, 2) := by decide +kernel
theorem dX12_sign_3 : decode cX12_sign 3 = .ok (.if_icmp .ne 7, 3) := by decide +kernel
theorem dX12_sign_6 : decode cX12_sign 6 = .ok (.iconst 4, 1) := by decide +kernel
theorem dX12_sign_7 : decode cX12_sign 7 = .ok (.goto 36, 3) := by decide +kernel
theorem dX12_sign_10 : decode cX12_sign 10 = .ok (.iload_n 2, 1) := by decide +kernel
theorem dX12_sign_11 : decode cX12_sign 11 = .ok (.bipush 61, 2) := by decide +kernel
theorem dX12_sign_13 : decode cX12_sign 13 = .ok (.if_icmp .ne 7, 3) := by decide +kernel
theorem dX12_sign_16 : decode cX12_sign 16 = .ok (.iconst 5, 1) := by decide +kernel
theorem dX12_sign_17 : decode cX12_sign 17 = .ok (.goto 26, 3) := by decide +kernel
theorem dX12_sign_20 : decode cX12_sign 20 = .ok (.iload_n 2, 1) := by decide +kernel
theorem dX12_sign_21 : decode cX12_sign 21 = .ok (.bipush 40, 2) := by decide +kernel
theorem dX12_sign_23 : decode cX12_sign 23 = .ok (.if_icmp .ne 8, 3) := by decide +kernel
theorem dX12_sign_26 : decode cX12_sign 26 = .ok (.bipush 6, 2) := by decide +kernel
theorem dX12_sign_28 : decode cX12_sign 28 = .ok (.goto 15, 3) := by decide +kernel
theorem dX12_sign_31 : decode cX12_sign 31 = .ok (.iload_n 2, 1) := by decide +kernel
theorem dX12_sign_32 : decode cX12_sign 32 = .ok (.bipush 41, 2) := by decide +kernel
theorem dX12_sign_34 : decode cX12_sign 34 = .ok (.if_icmp .ne 8, 3) := by decide +kernel
theorem dX12_sign_37 : decode cX12_sign 37 = .ok (.bipush 7, 2) := by decide +kernel
theorem dX12_sign_39 : decode cX12_sign 39 = .ok (.goto 4, 3) := by decide +kernel
theorem dX12_sign_42 : decode cX12_sign 42 = .ok (.iconst 3, 1) := by decide +kernel
theorem dX12_sign_43 : decode cX12_sign 43 = .ok (.istore 4, 2) := by decide +kernel
theorem dX12_sign_45 : decode cX12_sign 45 = .ok (.iload_n 2, 1) := by decide +kernel
theorem dX12_sign_46 : decode cX12_sign 46 = .ok (.bipush 43, 2) := by decide +kernel
theorem dX12_sign_48 : decode cX12_sign 48 = .ok (.if_icmp .ne 7, 3) := by decide +kernel
theorem dX12_sign_51 : decode cX12_sign 51 = .ok (.bipush 8, 2) := by decide +kernel
theorem dX12_sign_53 : decode cX12_sign 53 = .ok (.istore 4, 2) := by decide +kernel
theorem dX12_sign_55 : decode cX12_sign 55 = .ok (.iload_n 2, 1) := by decide +kernel
theorem dX12_sign_56 : decode cX12_sign 56 = .ok (.bipush 45, 2) := by decide +kernel
theorem dX12_sign_58 : decode cX12_sign 58 = .ok (.if_icmp .ne 7, 3) := by decide +kernel
theorem dX12_sign_61 : decode cX12_sign 61 = .ok (.bipush 9, 2) := by decide +kernel
theorem dX12_sign_63 : decode cX12_sign 63 = .ok (.istore 4, 2) := by decide +kernel
theorem dX12_sign_65 : decode cX12_sign 65 = .ok (.iload_n 2, 1) := by decide +kernel
theorem dX12_sign_66 : decode cX12_sign 66 = .ok (.bipush 42, 2) := by decide +kernel
theorem dX12_sign_68 : decode cX12_sign 68 = .ok (.if_icmp .ne 7, 3) := by decide +kernel
theorem dX12_sign_71 : decode cX12_sign 71 = .ok (.bipush 10, 2) := by decide +kernel
theorem dX12_sign_73 : decode cX12_sign 73 = .ok (.istore 4, 2) := by decide +kernel
theorem dX12_sign_75 : decode cX12_sign 75 = .ok (.iload_n 2, 1) := by decide +kernel
theorem dX12_sign_76 : decode cX12_sign 76 = .ok (.bipush 47, 2) := by decide +kernel
theorem dX12_sign_78 : decode cX12_sign 78 = .ok (.if_icmp .ne 7, 3) := by decide +kernel
theorem dX12_sign_81 : decode cX12_sign 81 = .ok (.bipush 15, 2) := by decide +kernel
theorem dX12_sign_83 : decode cX12_sign 83 = .ok (.istore 4, 2) := by decide +kernel
theorem dX12_sign_85 : decode cX12_sign 85 = .ok (.iload_n 2, 1) := by decide +kernel
theorem dX12_sign_86 : decode cX12_sign 86 = .ok (.bipush 60, 2) := by decide +kernel
theorem dX12_sign_88 : decode cX12_sign 88 = .ok (.if_icmp .ne 7, 3) := by decide +kernel
theorem dX12_sign_91 : decode cX12_sign 91 = .ok (.bipush 13, 2) := by decide +kernel
theorem dX12_sign_93 : decode cX12_sign 93 = .ok (.istore 4, 2) := by decide +kernel
theorem dX12_sign_95 : decode cX12_sign 95 = .ok (.aload_n 0, 1) := by decide +kernel
theorem dX12_sign_96 : decode cX12_sign 96 = .ok (.iload 4, 2) := by decide +kernel
theorem dX12_sign_98 : decode cX12_sign 98 = .ok (.iload_n 1, 1) := by decide +kernel
theorem dX12_sign_99 : decode cX12_sign 99 = .ok (.iconst 0, 1) := by decide +kernel
theorem dX12_sign_100 : decode cX12_sign 100 = .ok (.lconst 0, 1) := by decide +kernel
theorem dX12_sign_101 : decode cX12_sign 101 = .ok (.invokevirtual 200, 3) := by decide +kernel
theorem dX12_sign_104 : decode cX12_sign 104 = .ok (.iconst 1, 1) := by decide +kernel
theorem dX12_sign_105 : decode cX12_sign 105 = .ok (.ireturn, 1) := by decide +kernel
theorem dX12_is_0 : decode cX12_is 0 = .ok (.aload_n 0, 1) := by decide +kernel
theorem dX12_is_1 : decode cX12_is 1 = .ok (.getfield 215, 3) := by decide +kernel
theorem dX12_is_4 : decode cX12_is 4 = .ok (.ifCond .ne 20, 3) := by decide +kernel
theorem dX12_is_7 : decode cX12_is 7 = .ok (.aload_n 0, 1) := by decide +kernel
theorem dX12_is_8 : decode cX12_is 8 = .ok (.getfield 20, 3) := by decide +kernel
theorem dX12_is_11 : decode cX12_is 11 = .ok (.aload_n 0, 1) := by decide +kernel
theorem dX12_is_12 : decode cX12_is 12 = .ok (.getfield 218, 3) := by decide +kernel
theorem dX12_is_15 : decode cX12_is 15 = .ok (.iaload, 1) := by decide +kernel
theorem dX12_is_16 : decode cX12_is 16 = .ok (.iload_n 1, 1) := by decide +kernel
theorem dX12_is_17 : decode cX12_is 17 = .ok (.if_icmp .ne 7, 3) := by decide +kernel
theorem dX12_is_20 : decode cX12_is 20 = .ok (.iconst 1, 1) := by decide +kernel
theorem dX12_is_21 : decode cX12_is 21 = .ok (.goto 4, 3) := by decide +kernel
theorem dX12_is_24 : decode cX12_is 24 = .ok (.iconst 0, 1) := by decide +kernel
theorem dX12_is_25 : decode cX12_is 25 = .ok (.ireturn, 1) := by decide +kernel
theorem dX12_fail_0 : decode cX12_fail 0 = .ok (.aload_n 0, 1) := by decide +kernel
theorem dX12_fail_1 : decode cX12_fail 1 = .ok (.getfield 215, 3) := by decide +kernel
theorem dX12_fail_4 : decode cX12_fail 4 = .ok (.ifCond .le 4, 3) := by decide +kernel
theorem dX12_fail_7 : decode cX12_fail 7 = .ok (.return_, 1) := by decide +kernel
theorem dX12_fail_8 : decode cX12_fail 8 = .ok (.aload_n 0, 1) := by decide +kernel
theorem dX12_fail_9 : decode cX12_fail 9 = .ok (.iload_n 1, 1) := by decide +kernel
theorem dX12_fail_10 : decode cX12_fail 10 = .ok (.putfield 215, 3) := by decide +kernel
theorem dX12_fail_13 : decode cX12_fail 13 = .ok (.aload_n 0, 1) := by decide +kernel
theorem dX12_fail_14 : decode cX12_fail 14 = .ok (.aload_n 0, 1) := by decide +kernel
theorem dX12_fail_15 : decode cX12_fail 15 = .ok (.getfield 24, 3) := by decide +kernel
theorem dX12_fail_18 : decode cX12_fail 18 = .ok (.aload_n 0, 1) := by decide +kernel
theorem dX12_fail_19 : decode cX12_fail 19 = .ok (.getfield 218, 3) := by decide +kernel
theorem dX12_fail_22 : decode cX12_fail 22 = .ok (.iaload, 1) := by decide +kernel
theorem dX12_fail_23 : decode cX12_fail 23 = .ok (.putfield 221, 3) := by decide +kernel
theorem dX12_fail_26 : decode cX12_fail 26 = .ok (.return_, 1) := by decide +kernel
theorem dX12_wrong_0 : decode cX12_wrong 0 = .ok (.aload_n 0, 1) := by decide +kernel
theorem dX12_wrong_1 : decode cX12_wrong 1 = .ok (.getfield 24, 3) := by decide +kernel
theorem dX12_wrong_4 : decode cX12_wrong 4 = .ok (.iload_n 2, 1) := by decide +kernel
theorem dX12_wrong_5 : decode cX12_wrong 5 = .ok (.iaload, 1) := by decide +kernel
theorem dX12_wrong_6 : decode cX12_wrong 6 = .ok (.istore_n 3, 1) := by decide +kernel
theorem dX12_wrong_7 : decode cX12_wrong 7 = .ok (.aload_n 0, 1) := by decide +kernel
theorem dX12_wrong_8 : decode cX12_wrong 8 = .ok (.getfield 215, 3) := by decide +kernel
theorem dX12_wrong_11 : decode cX12_wrong 11 = .ok (.ifCond .gt 34, 3) := by decide +kernel
theorem dX12_wrong_14 : decode cX12_wrong 14 = .ok (.aload_n 0, 1) := by decide +kernel
theorem dX12_wrong_15 : decode cX12_wrong 15 = .ok (.getfield 224, 3) := by decide +kernel
theorem dX12_wrong_18 : decode cX12_wrong 18 = .ok (.ifCond .eq 28, 3) := by decide +kernel
theorem dX12_wrong_21 : decode cX12_wrong 21 = .ok (.iload_n 3, 1) := by decide +kernel
theorem dX12_wrong_22 : decode cX12_wrong 22 = .ok (.aload_n 0, 1) := by decide +kernel
theorem dX12_wrong_23 : decode cX12_wrong 23 = .ok (.getfield 227, 3) := by decide +kernel
theorem dX12_wrong_26 : decode cX12_wrong 26 = .ok (.if_icmp .gt 19, 3) := by decide +kernel
theorem dX12_wrong_29 : decode cX12_wrong 29 = .ok (.iload_n 3, 1) := by decide +kernel
theorem dX12_wrong_30 : decode cX12_wrong 30 = .ok (.aload_n 0, 1) := by decide +kernel
theorem dX12_wrong_31 : decode cX12_wrong 31 = .ok (.getfield 227, 3) := by decide +kernel
theorem dX12_wrong_34 : decode cX12_wrong 34 = .ok (.if_icmp .ne 12, 3) := by decide +kernel
theorem dX12_wrong_37 : decode cX12_wrong 37 = .ok (.iload_n 1, 1) := by decide +kernel
theorem dX12_wrong_38 : decode cX12_wrong 38 = .ok (.aload_n 0, 1) := by decide +kernel
theorem dX12_wrong_39 : decode cX12_wrong 39 = .ok (.getfield 224, 3) := by decide +kernel
theorem dX12_wrong_42 : decode cX12_wrong 42 = .ok (.if_icmp .lt 4, 3) := by decide +kernel
theorem dX12_wrong_45 : decode cX12_wrong 45 = .ok (.return_, 1) := by decide +kernel
theorem dX12_wrong_46 : decode cX12_wrong 46 = .ok (.aload_n 0, 1) := by decide +kernel
theorem dX12_wrong_47 : decode cX12_wrong 47 = .ok (.iload_n 1, 1) := by decide +kernel
theorem dX12_wrong_48 : decode cX12_wrong 48 = .ok (.putfield 224, 3) := by decide +kernel
theorem dX12_wrong_51 : decode cX12_wrong 51 = .ok (.aload_n 0, 1) := by decide +kernel
theorem dX12_wrong_52 : decode cX12_wrong 52 = .ok (.iload_n 3, 1) := by decide +kernel
theorem dX12_wrong_53 : decode cX12_wrong 53 = .ok (.putfield 227, 3) := by decide +kernel
theorem dX12_wrong_56 : decode cX12_wrong 56 = .ok (.return_, 1) := by decide +kernel
theorem dX12_goesOn_0 : decode cX12_goesOn 0 = .ok (.aload_n 0, 1) := by decide +kernel
theorem dX12_goesOn_1 : decode cX12_goesOn 1 = .ok (.getfield 218, 3) := by decide +kernel
theorem dX12_goesOn_4 : decode cX12_goesOn 4 = .ok (.sipush 400, 3) := by decide +kernel
theorem dX12_goesOn_7 : decode cX12_goesOn 7 = .ok (.if_icmp .ne 11, 3) := by decide +kernel
theorem dX12_goesOn_10 : decode cX12_goesOn 10 = .ok (.aload_n 0, 1) := by decide +kernel
theorem dX12_goesOn_11 : decode cX12_goesOn 11 = .ok (.iconst 2, 1) := by decide +kernel
theorem dX12_goesOn_12 : decode cX12_goesOn 12 = .ok (.invokevirtual 230, 3) := by decide +kernel
theorem dX12_goesOn_15 : decode cX12_goesOn 15 = .ok (.goto 13, 3) := by decide +kernel
theorem dX12_goesOn_18 : decode cX12_goesOn 18 = .ok (.aload_n 0, 1) := by decide +kernel
theorem dX12_goesOn_19 : decode cX12_goesOn 19 = .ok (.dup, 1) := by decide +kernel
theorem dX12_goesOn_20 : decode cX12_goesOn 20 = .ok (.getfield 218, 3) := by decide +kernel
theorem dX12_goesOn_23 : decode cX12_goesOn 23 = .ok (.iconst 1, 1) := by decide +kernel
theorem dX12_goesOn_24 : decode cX12_goesOn 24 = .ok (.iadd, 1) := by decide +kernel
theorem dX12_goesOn_25 : decode cX12_goesOn 25 = .ok (.putfield 218, 3) := by decide +kernel
theorem dX12_goesOn_28 : decode cX12_goesOn 28 = .ok (.return_, 1) := by decide +kernel
theorem dX12_must_0 : decode cX12_must 0 = .ok (.aload_n 0, 1) := by decide +kernel
theorem dX12_must_1 : decode cX12_must 1 = .ok (.iload_n 1, 1) := by decide +kernel
theorem dX12_must_2 : decode cX12_must 2 = .ok (.invokevirtual 233, 3) := by decide +kernel
theorem dX12_must_5 : decode cX12_must 5 = .ok (.ifCond .eq 10, 3) := by decide +kernel
theorem dX12_must_8 : decode cX12_must 8 = .ok (.aload_n 0, 1) := by decide +kernel
theorem dX12_must_9 : decode cX12_must 9 = .ok (.invokevirtual 236, 3) := by decide +kernel
theorem dX12_must_12 : decode cX12_must 12 = .ok (.goto 8, 3) := by decide +kernel
theorem dX12_must_15 : decode cX12_must 15 = .ok (.aload_n 0, 1) := by decide +kernel
theorem dX12_must_16 : decode cX12_must 16 = .ok (.iconst 1, 1) := by decide +kernel
theorem dX12_must_17 : decode cX12_must 17 = .ok (.invokevirtual 230, 3) := by decide +kernel
theorem dX12_must_20 : decode cX12_must 20 = .ok (.return_, 1) := by decide +kernel
theorem dX12_plain_0 : decode cX12_plain 0 = .ok (.aload_n 0, 1) := by decide +kernel
theorem dX12_plain_1 : decode cX12_plain 1 = .ok (.getfield 43, 3) := by decide +kernel
theorem dX12_plain_4 : decode cX12_plain 4 = .ok (.iload_n 1, 1) := by decide +kernel
theorem dX12_plain_5 : decode cX12_plain 5 = .ok (.iconst 4, 1) := by decide +kernel
theorem dX12_plain_6 : decode cX12_plain 6 = .ok (.iastore, 1) := by decide +kernel
theorem dX12_plain_7 : decode cX12_plain 7 = .ok (.aload_n 0, 1) := by decide +kernel
theorem dX12_plain_8 : decode cX12_plain 8 = .ok (.getfield 46, 3) := by decide +kernel
theorem dX12_plain_11 : decode cX12_plain 11 = .ok (.iload_n 1, 1) := by decide +kernel
theorem dX12_plain_12 : decode cX12_plain 12 = .ok (.iconst 4, 1) := by decide +kernel
theorem dX12_plain_13 : decode cX12_plain 13 = .ok (.iastore, 1) := by decide +kernel
theorem dX12_plain_14 : decode cX12_plain 14 = .ok (.aload_n 0, 1) := by decide +kernel
theorem dX12_plain_15 : decode cX12_plain 15 = .ok (.getfield 49, 3) := by decide +kernel
theorem dX12_plain_18 : decode cX12_plain 18 = .ok (.iload_n 1, 1) := by decide +kernel
theorem dX12_plain_19 : decode cX12_plain 19 = .ok (.iconst 0, 1) := by decide +kernel
theorem dX12_plain_20 : decode cX12_plain 20 = .ok (.iastore, 1) := by decide +kernel
theorem dX12_plain_21 : decode cX12_plain 21 = .ok (.aload_n 0, 1) := by decide +kernel
theorem dX12_plain_22 : decode cX12_plain 22 = .ok (.getfield 64, 3) := by decide +kernel
theorem dX12_plain_25 : decode cX12_plain 25 = .ok (.iload_n 1, 1) := by decide +kernel
theorem dX12_plain_26 : decode cX12_plain 26 = .ok (.iconst 0, 1) := by decide +kernel
theorem dX12_plain_27 : decode cX12_plain 27 = .ok (.iastore, 1) := by decide +kernel
theorem dX12_plain_28 : decode cX12_plain 28 = .ok (.aload_n 0, 1) := by decide +kernel
theorem dX12_plain_29 : decode cX12_plain 29 = .ok (.getfield 73, 3) := by decide +kernel
theorem dX12_plain_32 : decode cX12_plain 32 = .ok (.iload_n 1, 1) := by decide +kernel
theorem dX12_plain_33 : decode cX12_plain 33 = .ok (.iconst 0, 1) := by decide +kernel
theorem dX12_plain_34 : decode cX12_plain 34 = .ok (.iastore, 1) := by decide +kernel
theorem dX12_plain_35 : decode cX12_plain 35 = .ok (.aload_n 0, 1) := by decide +kernel
theorem dX12_plain_36 : decode cX12_plain 36 = .ok (.getfield 82, 3) := by decide +kernel
theorem dX12_plain_39 : decode cX12_plain 39 = .ok (.iload_n 1, 1) := by decide +kernel
theorem dX12_plain_40 : decode cX12_plain 40 = .ok (.iconst 0, 1) := by decide +kernel
theorem dX12_plain_41 : decode cX12_plain 41 = .ok (.iastore, 1) := by decide +kernel
theorem dX12_plain_42 : decode cX12_plain 42 = .ok (.aload_n 0, 1) := by decide +kernel
theorem dX12_plain_43 : decode cX12_plain 43 = .ok (.getfield 85, 3) := by decide +kernel
theorem dX12_plain_46 : decode cX12_plain 46 = .ok (.iload_n 1, 1) := by decide +kernel
theorem dX12_plain_47 : decode cX12_plain 47 = .ok (.iconst 0, 1) := by decide +kernel
theorem dX12_plain_48 : decode cX12_plain 48 = .ok (.iastore, 1) := by decide +kernel
theorem dX12_plain_49 : decode cX12_plain 49 = .ok (.iconst 0, 1) := by decide +kernel
theorem dX12_plain_50 : decode cX12_plain 50 = .ok (.istore_n 2, 1) := by decide +kernel
theorem dX12_plain_51 : decode cX12_plain 51 = .ok (.iload_n 2, 1) := by decide +kernel
theorem dX12_plain_52 : decode cX12_plain 52 = .ok (.iconst 4, 1) := by decide +kernel
theorem dX12_plain_53 : decode cX12_plain 53 = .ok (.if_icmp .ge 31, 3) := by decide +kernel
theorem dX12_plain_56 : decode cX12_plain 56 = .ok (.aload_n 0, 1) := by decide +kernel
theorem dX12_plain_57 : decode cX12_plain 57 = .ok (.getfield 88, 3) := by decide +kernel
theorem dX12_plain_60 : decode cX12_plain 60 = .ok (.iconst 4, 1) := by decide +kernel
theorem dX12_plain_61 : decode cX12_plain 61 = .ok (.iload_n 1, 1) := by decide +kernel
theorem dX12_plain_62 : decode cX12_plain 62 = .ok (.imul, 1) := by decide +kernel
theorem dX12_plain_63 : decode cX12_plain 63 = .ok (.iload_n 2, 1) := by decide +kernel
theorem dX12_plain_64 : decode cX12_plain 64 = .ok (.iadd, 1) := by decide +kernel
theorem dX12_plain_65 : decode cX12_plain 65 = .ok (.iconst 0, 1) := by decide +kernel
theorem dX12_plain_66 : decode cX12_plain 66 = .ok (.iastore, 1) := by decide +kernel
theorem dX12_plain_67 : decode cX12_plain 67 = .ok (.aload_n 0, 1) := by decide +kernel
theorem dX12_plain_68 : decode cX12_plain 68 = .ok (.getfield 91, 3) := by decide +kernel
theorem dX12_plain_71 : decode cX12_plain 71 = .ok (.iconst 4, 1) := by decide +kernel
theorem dX12_plain_72 : decode cX12_plain 72 = .ok (.iload_n 1, 1) := by decide +kernel
theorem dX12_plain_73 : decode cX12_plain 73 = .ok (.imul, 1) := by decide +kernel
theorem dX12_plain_74 : decode cX12_plain 74 = .ok (.iload_n 2, 1) := by decide +kernel
theorem dX12_plain_75 : decode cX12_plain 75 = .ok (.iadd, 1) := by decide +kernel
theorem dX12_plain_76 : decode cX12_plain 76 = .ok (.iconst 0, 1) := by decide +kernel
theorem dX12_plain_77 : decode cX12_plain 77 = .ok (.iastore, 1) := by decide +kernel
theorem dX12_plain_78 : decode cX12_plain 78 = .ok (.iinc 2 1, 3) := by decide +kernel
theorem dX12_plain_81 : decode cX12_plain 81 = .ok (.goto (-30), 3) := by decide +kernel
theorem dX12_plain_84 : decode cX12_plain 84 = .ok (.return_, 1) := by decide +kernel
theorem dX12_read_0 : decode cX12_read 0 = .ok (.aload_n 0, 1) := by decide +kernel
theorem dX12_read_1 : decode cX12_read 1 = .ok (.aload_n 0, 1) := by decide +kernel
theorem dX12_read_2 : decode cX12_read 2 = .ok (.getfield 178, 3) := by decide +kernel
theorem dX12_read_5 : decode cX12_read 5 = .ok (.putfield 184, 3) := by decide +kernel
theorem dX12_read_8 : decode cX12_read 8 = .ok (.iconst 0, 1) := by decide +kernel
theorem dX12_read_9 : decode cX12_read 9 = .ok (.istore_n 1, 1) := by decide +kernel
theorem dX12_read_10 : decode cX12_read 10 = .ok (.iload_n 1, 1) := by decide +kernel
theorem dX12_read_11 : decode cX12_read 11 = .ok (.aload_n 0, 1) := by decide +kernel
theorem dX12_read_12 : decode cX12_read 12 = .ok (.getfield 184, 3) := by decide +kernel
theorem dX12_read_15 : decode cX12_read 15 = .ok (.if_icmp .ge 21, 3) := by decide +kernel
theorem dX12_read_18 : decode cX12_read 18 = .ok (.aload_n 0, 1) := by decide +kernel
theorem dX12_read_19 : decode cX12_read 19 = .ok (.getfield 17, 3) := by decide +kernel
theorem dX12_read_22 : decode cX12_read 22 = .ok (.iload_n 1, 1) := by decide +kernel
theorem dX12_read_23 : decode cX12_read 23 = .ok (.aload_n 0, 1) := by decide +kernel
theorem dX12_read_24 : decode cX12_read 24 = .ok (.getfield 13, 3) := by decide +kernel
theorem dX12_read_27 : decode cX12_read 27 = .ok (.iload_n 1, 1) := by decide +kernel
theorem dX12_read_28 : decode cX12_read 28 = .ok (.baload, 1) := by decide +kernel
theorem dX12_read_29 : decode cX12_read 29 = .ok (.bastore, 1) := by decide +kernel
theorem dX12_read_30 : decode cX12_read 30 = .ok (.iinc 1 1, 3) := by decide +kernel
theorem dX12_read_33 : decode cX12_read 33 = .ok (.goto (-23), 3) := by decide +kernel
theorem dX12_read_36 : decode cX12_read 36 = .ok (.aload_n 0, 1) := by decide +kernel
theorem dX12_read_37 : decode cX12_read 37 = .ok (.iconst 0, 1) := by decide +kernel
theorem dX12_read_38 : decode cX12_read 38 = .ok (.putfield 178, 3) := by decide +kernel
theorem dX12_read_41 : decode cX12_read 41 = .ok (.aload_n 0, 1) := by decide +kernel
theorem dX12_read_42 : decode cX12_read 42 = .ok (.invokevirtual 239, 3) := by decide +kernel
theorem dX12_read_45 : decode cX12_read 45 = .ok (.aload_n 0, 1) := by decide +kernel
theorem dX12_read_46 : decode cX12_read 46 = .ok (.iconst 0, 1) := by decide +kernel
theorem dX12_read_47 : decode cX12_read 47 = .ok (.putfield 218, 3) := by decide +kernel
theorem dX12_read_50 : decode cX12_read 50 = .ok (.aload_n 0, 1) := by decide +kernel
theorem dX12_read_51 : decode cX12_read 51 = .ok (.iconst 0, 1) := by decide +kernel
theorem dX12_read_52 : decode cX12_read 52 = .ok (.putfield 242, 3) := by decide +kernel
theorem dX12_read_55 : decode cX12_read 55 = .ok (.aload_n 0, 1) := by decide +kernel
theorem dX12_read_56 : decode cX12_read 56 = .ok (.iconst 0, 1) := by decide +kernel
theorem dX12_read_57 : decode cX12_read 57 = .ok (.putfield 215, 3) := by decide +kernel
theorem dX12_read_60 : decode cX12_read 60 = .ok (.aload_n 0, 1) := by decide +kernel
theorem dX12_read_61 : decode cX12_read 61 = .ok (.iconst 0, 1) := by decide +kernel
theorem dX12_read_62 : decode cX12_read 62 = .ok (.putfield 224, 3) := by decide +kernel
theorem dX12_read_65 : decode cX12_read 65 = .ok (.aload_n 0, 1) := by decide +kernel
theorem dX12_read_66 : decode cX12_read 66 = .ok (.iconst 1, 1) := by decide +kernel
theorem dX12_read_67 : decode cX12_read 67 = .ok (.aload_n 0, 1) := by decide +kernel
theorem dX12_read_68 : decode cX12_read 68 = .ok (.getfield 245, 3) := by decide +kernel
theorem dX12_read_71 : decode cX12_read 71 = .ok (.isub, 1) := by decide +kernel
theorem dX12_read_72 : decode cX12_read 72 = .ok (.putfield 248, 3) := by decide +kernel
theorem dX12_read_75 : decode cX12_read 75 = .ok (.aload_n 0, 1) := by decide +kernel
theorem dX12_read_76 : decode cX12_read 76 = .ok (.iconst 0, 1) := by decide +kernel
theorem dX12_read_77 : decode cX12_read 77 = .ok (.putfield 251, 3) := by decide +kernel
theorem dX12_read_80 : decode cX12_read 80 = .ok (.aload_n 0, 1) := by decide +kernel
theorem dX12_read_81 : decode cX12_read 81 = .ok (.aload_n 0, 1) := by decide +kernel
theorem dX12_read_82 : decode cX12_read 82 = .ok (.getfield 248, 3) := by decide +kernel
theorem dX12_read_85 : decode cX12_read 85 = .ok (.invokevirtual 164, 3) := by decide +kernel
theorem dX12_read_88 : decode cX12_read 88 = .ok (.aload_n 0, 1) := by decide +kernel
theorem dX12_read_89 : decode cX12_read 89 = .ok (.sipush 130, 3) := by decide +kernel
theorem dX12_read_92 : decode cX12_read 92 = .ok (.aload_n 0, 1) := by decide +kernel
theorem dX12_read_93 : decode cX12_read 93 = .ok (.getfield 248, 3) := by decide +kernel
theorem dX12_read_96 : decode cX12_read 96 = .ok (.imul, 1) := by decide +kernel
theorem dX12_read_97 : decode cX12_read 97 = .ok (.putfield 254, 3) := by decide +kernel
theorem dX12_read_100 : decode cX12_read 100 = .ok (.aload_n 0, 1) := by decide +kernel
theorem dX12_read_101 : decode cX12_read 101 = .ok (.sipush 420, 3) := by decide +kernel
theorem dX12_read_104 : decode cX12_read 104 = .ok (.aload_n 0, 1) := by decide +kernel
theorem dX12_read_105 : decode cX12_read 105 = .ok (.getfield 248, 3) := by decide +kernel
theorem dX12_read_108 : decode cX12_read 108 = .ok (.imul, 1) := by decide +kernel
theorem dX12_read_109 : decode cX12_read 109 = .ok (.putfield 257, 3) := by decide +kernel
theorem dX12_read_112 : decode cX12_read 112 = .ok (.aload_n 0, 1) := by decide +kernel
theorem dX12_read_113 : decode cX12_read 113 = .ok (.getfield 215, 3) := by decide +kernel
theorem dX12_read_116 : decode cX12_read 116 = .ok (.ifCond .ne 18, 3) := by decide +kernel
theorem dX12_read_119 : decode cX12_read 119 = .ok (.aload_n 0, 1) := by decide +kernel
theorem dX12_read_120 : decode cX12_read 120 = .ok (.iconst 0, 1) := by decide +kernel
theorem dX12_read_121 : decode cX12_read 121 = .ok (.invokevirtual 233, 3) := by decide +kernel
theorem dX12_read_124 : decode cX12_read 124 = .ok (.ifCond .ne 10, 3) := by decide +kernel
theorem dX12_read_127 : decode cX12_read 127 = .ok (.aload_n 0, 1) := by decide +kernel
theorem dX12_read_128 : decode cX12_read 128 = .ok (.invokevirtual 260, 3) := by decide +kernel
theorem dX12_read_131 : decode cX12_read 131 = .ok (.goto (-19), 3) := by decide +kernel
theorem dX12_read_134 : decode cX12_read 134 = .ok (.aload_n 0, 1) := by decide +kernel
theorem dX12_read_135 : decode cX12_read 135 = .ok (.getfield 215, 3) := by decide +kernel
theorem dX12_read_138 : decode cX12_read 138 = .ok (.ifCond .ne 20, 3) := by decide +kernel
theorem dX12_read_141 : decode cX12_read 141 = .ok (.aload_n 0, 1) := by decide +kernel
theorem dX12_read_142 : decode cX12_read 142 = .ok (.invokevirtual 263, 3) := by decide +kernel
theorem dX12_read_145 : decode cX12_read 145 = .ok (.ifCond .eq 13, 3) := by decide +kernel
theorem dX12_read_148 : decode cX12_read 148 = .ok (.aload_n 0, 1) := by decide +kernel
theorem dX12_read_149 : decode cX12_read 149 = .ok (.bipush 6, 2) := by decide +kernel
theorem dX12_read_151 : decode cX12_read 151 = .ok (.aload_n 0, 1) := by decide +kernel
theorem dX12_read_152 : decode cX12_read 152 = .ok (.getfield 218, 3) := by decide +kernel
theorem dX12_read_155 : decode cX12_read 155 = .ok (.invokevirtual 267, 3) := by decide +kernel
theorem dX12_read_158 : decode cX12_read 158 = .ok (.aload_n 0, 1) := by decide +kernel
theorem dX12_read_159 : decode cX12_read 159 = .ok (.aload_n 0, 1) := by decide +kernel
theorem dX12_read_160 : decode cX12_read 160 = .ok (.getfield 215, 3) := by decide +kernel
theorem dX12_read_163 : decode cX12_read 163 = .ok (.ifCond .le 10, 3) := by decide +kernel
theorem dX12_read_166 : decode cX12_read 166 = .ok (.aload_n 0, 1) := by decide +kernel
theorem dX12_read_167 : decode cX12_read 167 = .ok (.getfield 221, 3) := by decide +kernel
theorem dX12_read_170 : decode cX12_read 170 = .ok (.goto 18, 3) := by decide +kernel
theorem dX12_read_173 : decode cX12_read 173 = .ok (.aload_n 0, 1) := by decide +kernel
theorem dX12_read_174 : decode cX12_read 174 = .ok (.getfield 224, 3) := by decide +kernel
theorem dX12_read_177 : decode cX12_read 177 = .ok (.ifCond .le 10, 3) := by decide +kernel
theorem dX12_read_180 : decode cX12_read 180 = .ok (.aload_n 0, 1) := by decide +kernel
theorem dX12_read_181 : decode cX12_read 181 = .ok (.getfield 227, 3) := by decide +kernel
theorem dX12_read_184 : decode cX12_read 184 = .ok (.goto 4, 3) := by decide +kernel
theorem dX12_read_187 : decode cX12_read 187 = .ok (.iconst (-1), 1) := by decide +kernel
theorem dX12_read_188 : decode cX12_read 188 = .ok (.putfield 37, 3) := by decide +kernel
theorem dX12_read_191 : decode cX12_read 191 = .ok (.aload_n 0, 1) := by decide +kernel
theorem dX12_read_192 : decode cX12_read 192 = .ok (.getfield 215, 3) := by decide +kernel
theorem dX12_read_195 : decode cX12_read 195 = .ok (.ifCond .le 8, 3) := by decide +kernel
theorem dX12_read_198 : decode cX12_read 198 = .ok (.aload_n 0, 1) := by decide +kernel
theorem dX12_read_199 : decode cX12_read 199 = .ok (.getfield 215, 3) := by decide +kernel
theorem dX12_read_202 : decode cX12_read 202 = .ok (.ireturn, 1) := by decide +kernel
theorem dX12_read_203 : decode cX12_read 203 = .ok (.aload_n 0, 1) := by decide +kernel
theorem dX12_read_204 : decode cX12_read 204 = .ok (.getfield 224, 3) := by decide +kernel
theorem dX12_read_207 : decode cX12_read 207 = .ok (.ifCond .le 8, 3) := by decide +kernel
theorem dX12_read_210 : decode cX12_read 210 = .ok (.aload_n 0, 1) := by decide +kernel
theorem dX12_read_211 : decode cX12_read 211 = .ok (.getfield 224, 3) := by decide +kernel
theorem dX12_read_214 : decode cX12_read 214 = .ok (.ireturn, 1) := by decide +kernel
theorem dX12_read_215 : decode cX12_read 215 = .ok (.aload_n 0, 1) := by decide +kernel
theorem dX12_read_216 : decode cX12_read 216 = .ok (.aload_n 0, 1) := by decide +kernel
theorem dX12_read_217 : decode cX12_read 217 = .ok (.getfield 248, 3) := by decide +kernel
theorem dX12_read_220 : decode cX12_read 220 = .ok (.putfield 245, 3) := by decide +kernel
theorem dX12_read_223 : decode cX12_read 223 = .ok (.aload_n 0, 1) := by decide +kernel
theorem dX12_read_224 : decode cX12_read 224 = .ok (.invokevirtual 172, 3) := by decide +kernel
theorem dX12_read_227 : decode cX12_read 227 = .ok (.aload_n 0, 1) := by decide +kernel
theorem dX12_read_228 : decode cX12_read 228 = .ok (.invokevirtual 175, 3) := by decide +kernel
theorem dX12_read_231 : decode cX12_read 231 = .ok (.aload_n 0, 1) := by decide +kernel
theorem dX12_read_232 : decode cX12_read 232 = .ok (.iconst 0, 1) := by decide +kernel
theorem dX12_read_233 : decode cX12_read 233 = .ok (.putfield 271, 3) := by decide +kernel
theorem dX12_read_236 : decode cX12_read 236 = .ok (.aload_n 0, 1) := by decide +kernel
theorem dX12_read_237 : decode cX12_read 237 = .ok (.iconst 0, 1) := by decide +kernel
theorem dX12_read_238 : decode cX12_read 238 = .ok (.putfield 274, 3) := by decide +kernel
theorem dX12_read_241 : decode cX12_read 241 = .ok (.iconst 0, 1) := by decide +kernel
theorem dX12_read_242 : decode cX12_read 242 = .ok (.istore_n 1, 1) := by decide +kernel
theorem dX12_read_243 : decode cX12_read 243 = .ok (.iload_n 1, 1) := by decide +kernel
theorem dX12_read_244 : decode cX12_read 244 = .ok (.iconst 3, 1) := by decide +kernel
theorem dX12_read_245 : decode cX12_read 245 = .ok (.if_icmp .ge 16, 3) := by decide +kernel
theorem dX12_read_248 : decode cX12_read 248 = .ok (.aload_n 0, 1) := by decide +kernel
theorem dX12_read_249 : decode cX12_read 249 = .ok (.getfield 158, 3) := by decide +kernel
theorem dX12_read_252 : decode cX12_read 252 = .ok (.iload_n 1, 1) := by decide +kernel
theorem dX12_read_253 : decode cX12_read 253 = .ok (.iconst 0, 1) := by decide +kernel
theorem dX12_read_254 : decode cX12_read 254 = .ok (.bastore, 1) := by decide +kernel
theorem dX12_read_255 : decode cX12_read 255 = .ok (.iinc 1 1, 3) := by decide +kernel
theorem dX12_read_258 : decode cX12_read 258 = .ok (.goto (-15), 3) := by decide +kernel
theorem dX12_read_261 : decode cX12_read 261 = .ok (.iconst 0, 1) := by decide +kernel
theorem dX12_read_262 : decode cX12_read 262 = .ok (.ireturn, 1) := by decide +kernel
theorem dX12_place_0 : decode cX12_place 0 = .ok (.aload_n 0, 1) := by decide +kernel
theorem dX12_place_1 : decode cX12_place 1 = .ok (.getfield 37, 3) := by decide +kernel
theorem dX12_place_4 : decode cX12_place 4 = .ok (.ireturn, 1) := by decide +kernel
theorem dX12_isOff_0 : decode cX12_isOff 0 = .ok (.iload_n 1, 1) := by decide +kernel
theorem dX12_isOff_1 : decode cX12_isOff 1 = .ok (.aload_n 0, 1) := by decide +kernel
theorem dX12_isOff_2 : decode cX12_isOff 2 = .ok (.getfield 43, 3) := by decide +kernel
theorem dX12_isOff_5 : decode cX12_isOff 5 = .ok (.aload_n 0, 1) := by decide +kernel
theorem dX12_isOff_6 : decode cX12_isOff 6 = .ok (.getfield 248, 3) := by decide +kernel
theorem dX12_isOff_9 : decode cX12_isOff 9 = .ok (.iaload, 1) := by decide +kernel
theorem dX12_isOff_10 : decode cX12_isOff 10 = .ok (.if_icmp .ge 16, 3) := by decide +kernel
theorem dX12_isOff_13 : decode cX12_isOff 13 = .ok (.iload_n 2, 1) := by decide +kernel
theorem dX12_isOff_14 : decode cX12_isOff 14 = .ok (.aload_n 0, 1) := by decide +kernel
theorem dX12_isOff_15 : decode cX12_isOff 15 = .ok (.getfield 46, 3) := by decide +kernel
theorem dX12_isOff_18 : decode cX12_isOff 18 = .ok (.aload_n 0, 1) := by decide +kernel
theorem dX12_isOff_19 : decode cX12_isOff 19 = .ok (.getfield 248, 3) := by decide +kernel
theorem dX12_isOff_22 : decode cX12_isOff 22 = .ok (.iaload, 1) := by decide +kernel
theorem dX12_isOff_23 : decode cX12_isOff 23 = .ok (.if_icmp .lt 7, 3) := by decide +kernel
theorem dX12_isOff_26 : decode cX12_isOff 26 = .ok (.iconst 1, 1) := by decide +kernel
theorem dX12_isOff_27 : decode cX12_isOff 27 = .ok (.goto 4, 3) := by decide +kernel
theorem dX12_isOff_30 : decode cX12_isOff 30 = .ok (.iconst 0, 1) := by decide +kernel
theorem dX12_isOff_31 : decode cX12_isOff 31 = .ok (.ireturn, 1) := by decide +kernel
theorem dX12_isBeyond_0 : decode cX12_isBeyond 0 = .ok (.bipush 8, 2) := by decide +kernel
theorem dX12_isBeyond_2 : decode cX12_isBeyond 2 = .ok (.aload_n 0, 1) := by decide +kernel
theorem dX12_isBeyond_3 : decode cX12_isBeyond 3 = .ok (.getfield 248, 3) := by decide +kernel
theorem dX12_isBeyond_6 : decode cX12_isBeyond 6 = .ok (.imul, 1) := by decide +kernel
theorem dX12_isBeyond_7 : decode cX12_isBeyond 7 = .ok (.istore_n 1, 1) := by decide +kernel
theorem dX12_isBeyond_8 : decode cX12_isBeyond 8 = .ok (.iload_n 1, 1) := by decide +kernel
theorem dX12_isBeyond_9 : decode cX12_isBeyond 9 = .ok (.bipush 8, 2) := by decide +kernel
theorem dX12_isBeyond_11 : decode cX12_isBeyond 11 = .ok (.aload_n 0, 1) := by decide +kernel
theorem dX12_isBeyond_12 : decode cX12_isBeyond 12 = .ok (.getfield 248, 3) := by decide +kernel
theorem dX12_isBeyond_15 : decode cX12_isBeyond 15 = .ok (.imul, 1) := by decide +kernel
theorem dX12_isBeyond_16 : decode cX12_isBeyond 16 = .ok (.aload_n 0, 1) := by decide +kernel
theorem dX12_isBeyond_17 : decode cX12_isBeyond 17 = .ok (.getfield 49, 3) := by decide +kernel
theorem dX12_isBeyond_20 : decode cX12_isBeyond 20 = .ok (.aload_n 0, 1) := by decide +kernel
theorem dX12_isBeyond_21 : decode cX12_isBeyond 21 = .ok (.getfield 248, 3) := by decide +kernel
theorem dX12_isBeyond_24 : decode cX12_isBeyond 24 = .ok (.iaload, 1) := by decide +kernel
theorem dX12_isBeyond_25 : decode cX12_isBeyond 25 = .ok (.iadd, 1) := by decide +kernel
theorem dX12_isBeyond_26 : decode cX12_isBeyond 26 = .ok (.if_icmp .ge 30, 3) := by decide +kernel
theorem dX12_isBeyond_29 : decode cX12_isBeyond 29 = .ok (.aload_n 0, 1) := by decide +kernel
theorem dX12_isBeyond_30 : decode cX12_isBeyond 30 = .ok (.aload_n 0, 1) := by decide +kernel
theorem dX12_isBeyond_31 : decode cX12_isBeyond 31 = .ok (.getfield 52, 3) := by decide +kernel
theorem dX12_isBeyond_34 : decode cX12_isBeyond 34 = .ok (.iload_n 1, 1) := by decide +kernel
theorem dX12_isBeyond_35 : decode cX12_isBeyond 35 = .ok (.iaload, 1) := by decide +kernel
theorem dX12_isBeyond_36 : decode cX12_isBeyond 36 = .ok (.aload_n 0, 1) := by decide +kernel
theorem dX12_isBeyond_37 : decode cX12_isBeyond 37 = .ok (.getfield 55, 3) := by decide +kernel
theorem dX12_isBeyond_40 : decode cX12_isBeyond 40 = .ok (.iload_n 1, 1) := by decide +kernel
theorem dX12_isBeyond_41 : decode cX12_isBeyond 41 = .ok (.iaload, 1) := by decide +kernel
theorem dX12_isBeyond_42 : decode cX12_isBeyond 42 = .ok (.invokevirtual 277, 3) := by decide +kernel
theorem dX12_isBeyond_45 : decode cX12_isBeyond 45 = .ok (.ifCond .eq 5, 3) := by decide +kernel
theorem dX12_isBeyond_48 : decode cX12_isBeyond 48 = .ok (.iconst 1, 1) := by decide +kernel
theorem dX12_isBeyond_49 : decode cX12_isBeyond 49 = .ok (.ireturn, 1) := by decide +kernel
theorem dX12_isBeyond_50 : decode cX12_isBeyond 50 = .ok (.iinc 1 1, 3) := by decide +kernel
theorem dX12_isBeyond_53 : decode cX12_isBeyond 53 = .ok (.goto (-45), 3) := by decide +kernel
theorem dX12_isBeyond_56 : decode cX12_isBeyond 56 = .ok (.bipush 8, 2) := by decide +kernel
theorem dX12_isBeyond_58 : decode cX12_isBeyond 58 = .ok (.aload_n 0, 1) := by decide +kernel
theorem dX12_isBeyond_59 : decode cX12_isBeyond 59 = .ok (.getfield 248, 3) := by decide +kernel
theorem dX12_isBeyond_62 : decode cX12_isBeyond 62 = .ok (.imul, 1) := by decide +kernel
theorem dX12_isBeyond_63 : decode cX12_isBeyond 63 = .ok (.istore_n 1, 1) := by decide +kernel
theorem dX12_isBeyond_64 : decode cX12_isBeyond 64 = .ok (.iload_n 1, 1) := by decide +kernel
theorem dX12_isBeyond_65 : decode cX12_isBeyond 65 = .ok (.bipush 8, 2) := by decide +kernel
theorem dX12_isBeyond_67 : decode cX12_isBeyond 67 = .ok (.aload_n 0, 1) := by decide +kernel
theorem dX12_isBeyond_68 : decode cX12_isBeyond 68 = .ok (.getfield 248, 3) := by decide +kernel
