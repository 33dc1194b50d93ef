theorem dL_caravan_54 : decode cL_caravan 54 = .ok (.invokevirtual 232, 3) := by decide +kernel
theorem dL_caravan_57 : decode cL_caravan 57 = .ok (.iload_n 3, 1) := by decide +kernel
theorem dL_caravan_58 : decode cL_caravan 58 = .ok (.aload_n 0, 1) := by decide +kernel
theorem dL_caravan_59 : decode cL_caravan 59 = .ok (.invokevirtual 231, 3) := by decide +kernel
theorem dL_caravan_62 : decode cL_caravan 62 = .ok (.if_icmp .ne 7, 3) := by decide +kernel
theorem dL_caravan_65 : decode cL_caravan 65 = .ok (.iconst 1, 1) := by decide +kernel
theorem dL_caravan_66 : decode cL_caravan 66 = .ok (.goto 4, 3) := by decide +kernel
theorem dL_caravan_69 : decode cL_caravan 69 = .ok (.iconst 0, 1) := by decide +kernel
theorem dL_caravan_70 : decode cL_caravan 70 = .ok (.if_icmp .ne 83, 3) := by decide +kernel
theorem dL_caravan_73 : decode cL_caravan 73 = .ok (.aload_n 0, 1) := by decide +kernel
theorem dL_caravan_74 : decode cL_caravan 74 = .ok (.invokevirtual 205, 3) := by decide +kernel
theorem dL_caravan_77 : decode cL_caravan 77 = .ok (.sipush 200, 3) := by decide +kernel
theorem dL_caravan_80 : decode cL_caravan 80 = .ok (.if_icmp .gt 73, 3) := by decide +kernel
theorem dL_caravan_83 : decode cL_caravan 83 = .ok (.aload_n 0, 1) := by decide +kernel
theorem dL_caravan_84 : decode cL_caravan 84 = .ok (.bipush 23, 2) := by decide +kernel
theorem dL_caravan_86 : decode cL_caravan 86 = .ok (.iload_n 1, 1) := by decide +kernel
theorem dL_caravan_87 : decode cL_caravan 87 = .ok (.invokestatic 163, 3) := by decide +kernel
theorem dL_caravan_90 : decode cL_caravan 90 = .ok (.bipush (-104), 2) := by decide +kernel
theorem dL_caravan_92 : decode cL_caravan 92 = .ok (.if_icmp .ne 61, 3) := by decide +kernel
theorem dL_caravan_95 : decode cL_caravan 95 = .ok (.aload_n 0, 1) := by decide +kernel
theorem dL_caravan_96 : decode cL_caravan 96 = .ok (.bipush 32, 2) := by decide +kernel
theorem dL_caravan_98 : decode cL_caravan 98 = .ok (.iload_n 2, 1) := by decide +kernel
theorem dL_caravan_99 : decode cL_caravan 99 = .ok (.invokestatic 163, 3) := by decide +kernel
theorem dL_caravan_102 : decode cL_caravan 102 = .ok (.bipush (-104), 2) := by decide +kernel
theorem dL_caravan_104 : decode cL_caravan 104 = .ok (.if_icmp .ne 49, 3) := by decide +kernel
theorem dL_caravan_107 : decode cL_caravan 107 = .ok (.aload_n 0, 1) := by decide +kernel
theorem dL_caravan_108 : decode cL_caravan 108 = .ok (.bipush 17, 2) := by decide +kernel
theorem dL_caravan_110 : decode cL_caravan 110 = .ok (.aload_n 0, 1) := by decide +kernel
theorem dL_caravan_111 : decode cL_caravan 111 = .ok (.invokevirtual 225, 3) := by decide +kernel
theorem dL_caravan_114 : decode cL_caravan 114 = .ok (.invokestatic 163, 3) := by decide +kernel
theorem dL_caravan_117 : decode cL_caravan 117 = .ok (.bipush (-104), 2) := by decide +kernel
theorem dL_caravan_119 : decode cL_caravan 119 = .ok (.if_icmp .ne 34, 3) := by decide +kernel
theorem dL_caravan_122 : decode cL_caravan 122 = .ok (.aload_n 0, 1) := by decide +kernel
theorem dL_caravan_123 : decode cL_caravan 123 = .ok (.bipush 14, 2) := by decide +kernel
theorem dL_caravan_125 : decode cL_caravan 125 = .ok (.sipush 1000, 3) := by decide +kernel
theorem dL_caravan_128 : decode cL_caravan 128 = .ok (.invokestatic 163, 3) := by decide +kernel
theorem dL_caravan_131 : decode cL_caravan 131 = .ok (.bipush (-103), 2) := by decide +kernel
theorem dL_caravan_133 : decode cL_caravan 133 = .ok (.if_icmp .ne 20, 3) := by decide +kernel
theorem dL_caravan_136 : decode cL_caravan 136 = .ok (.aload_n 0, 1) := by decide +kernel
theorem dL_caravan_137 : decode cL_caravan 137 = .ok (.bipush 38, 2) := by decide +kernel
theorem dL_caravan_139 : decode cL_caravan 139 = .ok (.bipush 51, 2) := by decide +kernel
theorem dL_caravan_141 : decode cL_caravan 141 = .ok (.invokestatic 163, 3) := by decide +kernel
theorem dL_caravan_144 : decode cL_caravan 144 = .ok (.bipush (-103), 2) := by decide +kernel
theorem dL_caravan_146 : decode cL_caravan 146 = .ok (.if_icmp .ne 7, 3) := by decide +kernel
theorem dL_caravan_149 : decode cL_caravan 149 = .ok (.iconst 1, 1) := by decide +kernel
theorem dL_caravan_150 : decode cL_caravan 150 = .ok (.goto 4, 3) := by decide +kernel
theorem dL_caravan_153 : decode cL_caravan 153 = .ok (.iconst 0, 1) := by decide +kernel
theorem dL_caravan_154 : decode cL_caravan 154 = .ok (.istore 6, 2) := by decide +kernel
theorem dL_caravan_156 : decode cL_caravan 156 = .ok (.iconst 0, 1) := by decide +kernel
theorem dL_caravan_157 : decode cL_caravan 157 = .ok (.istore 7, 2) := by decide +kernel
theorem dL_caravan_159 : decode cL_caravan 159 = .ok (.iload 7, 2) := by decide +kernel
theorem dL_caravan_161 : decode cL_caravan 161 = .ok (.iload_n 2, 1) := by decide +kernel
theorem dL_caravan_162 : decode cL_caravan 162 = .ok (.if_icmp .ge 131, 3) := by decide +kernel
theorem dL_caravan_165 : decode cL_caravan 165 = .ok (.iload 6, 2) := by decide +kernel
theorem dL_caravan_167 : decode cL_caravan 167 = .ok (.ifCond .eq 126, 3) := by decide +kernel
theorem dL_caravan_170 : decode cL_caravan 170 = .ok (.aload_n 0, 1) := by decide +kernel
theorem dL_caravan_171 : decode cL_caravan 171 = .ok (.bipush 35, 2) := by decide +kernel
theorem dL_caravan_173 : decode cL_caravan 173 = .ok (.iload 7, 2) := by decide +kernel
theorem dL_caravan_175 : decode cL_caravan 175 = .ok (.invokestatic 163, 3) := by decide +kernel
theorem dL_caravan_178 : decode cL_caravan 178 = .ok (.istore 8, 2) := by decide +kernel
theorem dL_caravan_180 : decode cL_caravan 180 = .ok (.aload_n 0, 1) := by decide +kernel
theorem dL_caravan_181 : decode cL_caravan 181 = .ok (.bipush 34, 2) := by decide +kernel
theorem dL_caravan_183 : decode cL_caravan 183 = .ok (.iload 7, 2) := by decide +kernel
theorem dL_caravan_185 : decode cL_caravan 185 = .ok (.invokestatic 163, 3) := by decide +kernel
theorem dL_caravan_188 : decode cL_caravan 188 = .ok (.iload 8, 2) := by decide +kernel
theorem dL_caravan_190 : decode cL_caravan 190 = .ok (.ifCond .ge 7, 3) := by decide +kernel
theorem dL_caravan_193 : decode cL_caravan 193 = .ok (.iconst 0, 1) := by decide +kernel
theorem dL_caravan_194 : decode cL_caravan 194 = .ok (.goto 4, 3) := by decide +kernel
theorem dL_caravan_197 : decode cL_caravan 197 = .ok (.iconst 1, 1) := by decide +kernel
theorem dL_caravan_198 : decode cL_caravan 198 = .ok (.if_icmp .ne 49, 3) := by decide +kernel
theorem dL_caravan_201 : decode cL_caravan 201 = .ok (.iload 8, 2) := by decide +kernel
theorem dL_caravan_203 : decode cL_caravan 203 = .ok (.bipush (-101), 2) := by decide +kernel
theorem dL_caravan_205 : decode cL_caravan 205 = .ok (.if_icmp .eq 26, 3) := by decide +kernel
theorem dL_caravan_208 : decode cL_caravan 208 = .ok (.aload_n 0, 1) := by decide +kernel
theorem dL_caravan_209 : decode cL_caravan 209 = .ok (.bipush 20, 2) := by decide +kernel
theorem dL_caravan_211 : decode cL_caravan 211 = .ok (.iload 8, 2) := by decide +kernel
theorem dL_caravan_213 : decode cL_caravan 213 = .ok (.invokestatic 163, 3) := by decide +kernel
theorem dL_caravan_216 : decode cL_caravan 216 = .ok (.ifCond .ne 31, 3) := by decide +kernel
theorem dL_caravan_219 : decode cL_caravan 219 = .ok (.aload_n 0, 1) := by decide +kernel
theorem dL_caravan_220 : decode cL_caravan 220 = .ok (.bipush 36, 2) := by decide +kernel
theorem dL_caravan_222 : decode cL_caravan 222 = .ok (.iload 7, 2) := by decide +kernel
theorem dL_caravan_224 : decode cL_caravan 224 = .ok (.invokestatic 163, 3) := by decide +kernel
theorem dL_caravan_227 : decode cL_caravan 227 = .ok (.iload_n 3, 1) := by decide +kernel
theorem dL_caravan_228 : decode cL_caravan 228 = .ok (.if_icmp .ne 19, 3) := by decide +kernel
theorem dL_caravan_231 : decode cL_caravan 231 = .ok (.aload_n 0, 1) := by decide +kernel
theorem dL_caravan_232 : decode cL_caravan 232 = .ok (.bipush 36, 2) := by decide +kernel
theorem dL_caravan_234 : decode cL_caravan 234 = .ok (.iload 7, 2) := by decide +kernel
theorem dL_caravan_236 : decode cL_caravan 236 = .ok (.invokestatic 163, 3) := by decide +kernel
theorem dL_caravan_239 : decode cL_caravan 239 = .ok (.iload_n 3, 1) := by decide +kernel
theorem dL_caravan_240 : decode cL_caravan 240 = .ok (.if_icmp .gt 7, 3) := by decide +kernel
theorem dL_caravan_243 : decode cL_caravan 243 = .ok (.iconst 1, 1) := by decide +kernel
theorem dL_caravan_244 : decode cL_caravan 244 = .ok (.goto 4, 3) := by decide +kernel
theorem dL_caravan_247 : decode cL_caravan 247 = .ok (.iconst 0, 1) := by decide +kernel
theorem dL_caravan_248 : decode cL_caravan 248 = .ok (.istore 6, 2) := by decide +kernel
theorem dL_caravan_250 : decode cL_caravan 250 = .ok (.iload 8, 2) := by decide +kernel
theorem dL_caravan_252 : decode cL_caravan 252 = .ok (.ifCond .ge 6, 3) := by decide +kernel
theorem dL_caravan_255 : decode cL_caravan 255 = .ok (.goto 32, 3) := by decide +kernel
theorem dL_caravan_258 : decode cL_caravan 258 = .ok (.aload 4, 2) := by decide +kernel
theorem dL_caravan_260 : decode cL_caravan 260 = .ok (.iload 8, 2) := by decide +kernel
theorem dL_caravan_262 : decode cL_caravan 262 = .ok (.dup2, 1) := by decide +kernel
theorem dL_caravan_263 : decode cL_caravan 263 = .ok (.iaload, 1) := by decide +kernel
theorem dL_caravan_264 : decode cL_caravan 264 = .ok (.aload_n 0, 1) := by decide +kernel
theorem dL_caravan_265 : decode cL_caravan 265 = .ok (.bipush 32, 2) := by decide +kernel
theorem dL_caravan_267 : decode cL_caravan 267 = .ok (.iload 7, 2) := by decide +kernel
theorem dL_caravan_269 : decode cL_caravan 269 = .ok (.invokestatic 163, 3) := by decide +kernel
theorem dL_caravan_272 : decode cL_caravan 272 = .ok (.iadd, 1) := by decide +kernel
theorem dL_caravan_273 : decode cL_caravan 273 = .ok (.iastore, 1) := by decide +kernel
theorem dL_caravan_274 : decode cL_caravan 274 = .ok (.iload 5, 2) := by decide +kernel
theorem dL_caravan_276 : decode cL_caravan 276 = .ok (.aload_n 0, 1) := by decide +kernel
theorem dL_caravan_277 : decode cL_caravan 277 = .ok (.bipush 33, 2) := by decide +kernel
theorem dL_caravan_279 : decode cL_caravan 279 = .ok (.iload 7, 2) := by decide +kernel
theorem dL_caravan_281 : decode cL_caravan 281 = .ok (.invokestatic 163, 3) := by decide +kernel
theorem dL_caravan_284 : decode cL_caravan 284 = .ok (.iadd, 1) := by decide +kernel
theorem dL_caravan_285 : decode cL_caravan 285 = .ok (.istore 5, 2) := by decide +kernel
theorem dL_caravan_287 : decode cL_caravan 287 = .ok (.iinc 7 1, 3) := by decide +kernel
theorem dL_caravan_290 : decode cL_caravan 290 = .ok (.goto (-131), 3) := by decide +kernel
theorem dL_caravan_293 : decode cL_caravan 293 = .ok (.iconst 0, 1) := by decide +kernel
theorem dL_caravan_294 : decode cL_caravan 294 = .ok (.istore 7, 2) := by decide +kernel
theorem dL_caravan_296 : decode cL_caravan 296 = .ok (.iconst 0, 1) := by decide +kernel
theorem dL_caravan_297 : decode cL_caravan 297 = .ok (.istore 8, 2) := by decide +kernel
theorem dL_caravan_299 : decode cL_caravan 299 = .ok (.bipush (-101), 2) := by decide +kernel
theorem dL_caravan_301 : decode cL_caravan 301 = .ok (.istore 9, 2) := by decide +kernel
theorem dL_caravan_303 : decode cL_caravan 303 = .ok (.bipush (-101), 2) := by decide +kernel
theorem dL_caravan_305 : decode cL_caravan 305 = .ok (.istore 10, 2) := by decide +kernel
theorem dL_caravan_307 : decode cL_caravan 307 = .ok (.aload_n 0, 1) := by decide +kernel
theorem dL_caravan_308 : decode cL_caravan 308 = .ok (.bipush 14, 2) := by decide +kernel
theorem dL_caravan_310 : decode cL_caravan 310 = .ok (.aload_n 0, 1) := by decide +kernel
theorem dL_caravan_311 : decode cL_caravan 311 = .ok (.invokevirtual 205, 3) := by decide +kernel
theorem dL_caravan_314 : decode cL_caravan 314 = .ok (.invokestatic 163, 3) := by decide +kernel
theorem dL_caravan_317 : decode cL_caravan 317 = .ok (.istore 11, 2) := by decide +kernel
theorem dL_caravan_319 : decode cL_caravan 319 = .ok (.iconst 0, 1) := by decide +kernel
theorem dL_caravan_320 : decode cL_caravan 320 = .ok (.istore 12, 2) := by decide +kernel
theorem dL_caravan_322 : decode cL_caravan 322 = .ok (.iload 12, 2) := by decide +kernel
theorem dL_caravan_324 : decode cL_caravan 324 = .ok (.iload_n 1, 1) := by decide +kernel
theorem dL_caravan_325 : decode cL_caravan 325 = .ok (.if_icmp .ge 374, 3) := by decide +kernel
theorem dL_caravan_328 : decode cL_caravan 328 = .ok (.iload 6, 2) := by decide +kernel
theorem dL_caravan_330 : decode cL_caravan 330 = .ok (.ifCond .eq 369, 3) := by decide +kernel
theorem dL_caravan_333 : decode cL_caravan 333 = .ok (.aload_n 0, 1) := by decide +kernel
theorem dL_caravan_334 : decode cL_caravan 334 = .ok (.bipush 25, 2) := by decide +kernel
theorem dL_caravan_336 : decode cL_caravan 336 = .ok (.iload 12, 2) := by decide +kernel
theorem dL_caravan_338 : decode cL_caravan 338 = .ok (.invokestatic 163, 3) := by decide +kernel
theorem dL_caravan_341 : decode cL_caravan 341 = .ok (.ifCond .le 16, 3) := by decide +kernel
theorem dL_caravan_344 : decode cL_caravan 344 = .ok (.aload_n 0, 1) := by decide +kernel
theorem dL_caravan_345 : decode cL_caravan 345 = .ok (.bipush 21, 2) := by decide +kernel
theorem dL_caravan_347 : decode cL_caravan 347 = .ok (.iload 12, 2) := by decide +kernel
theorem dL_caravan_349 : decode cL_caravan 349 = .ok (.invokestatic 163, 3) := by decide +kernel
theorem dL_caravan_352 : decode cL_caravan 352 = .ok (.iconst 2, 1) := by decide +kernel
theorem dL_caravan_353 : decode cL_caravan 353 = .ok (.idiv, 1) := by decide +kernel
theorem dL_caravan_354 : decode cL_caravan 354 = .ok (.goto 11, 3) := by decide +kernel
theorem dL_caravan_357 : decode cL_caravan 357 = .ok (.aload_n 0, 1) := by decide +kernel
theorem dL_caravan_358 : decode cL_caravan 358 = .ok (.bipush 21, 2) := by decide +kernel
theorem dL_caravan_360 : decode cL_caravan 360 = .ok (.iload 12, 2) := by decide +kernel
theorem dL_caravan_362 : decode cL_caravan 362 = .ok (.invokestatic 163, 3) := by decide +kernel
theorem dL_caravan_365 : decode cL_caravan 365 = .ok (.istore 13, 2) := by decide +kernel
theorem dL_caravan_367 : decode cL_caravan 367 = .ok (.aload_n 0, 1) := by decide +kernel
theorem dL_caravan_368 : decode cL_caravan 368 = .ok (.bipush 20, 2) := by decide +kernel
theorem dL_caravan_370 : decode cL_caravan 370 = .ok (.iload 12, 2) := by decide +kernel
theorem dL_caravan_372 : decode cL_caravan 372 = .ok (.invokestatic 163, 3) := by decide +kernel
theorem dL_caravan_375 : decode cL_caravan 375 = .ok (.istore 14, 2) := by decide +kernel
theorem dL_caravan_377 : decode cL_caravan 377 = .ok (.aload_n 0, 1) := by decide +kernel
theorem dL_caravan_378 : decode cL_caravan 378 = .ok (.bipush 27, 2) := by decide +kernel
theorem dL_caravan_380 : decode cL_caravan 380 = .ok (.iload 12, 2) := by decide +kernel
theorem dL_caravan_382 : decode cL_caravan 382 = .ok (.invokestatic 163, 3) := by decide +kernel
theorem dL_caravan_385 : decode cL_caravan 385 = .ok (.aload 4, 2) := by decide +kernel
theorem dL_caravan_387 : decode cL_caravan 387 = .ok (.iload 12, 2) := by decide +kernel
theorem dL_caravan_389 : decode cL_caravan 389 = .ok (.iaload, 1) := by decide +kernel
theorem dL_caravan_390 : decode cL_caravan 390 = .ok (.if_icmp .ne 219, 3) := by decide +kernel
theorem dL_caravan_393 : decode cL_caravan 393 = .ok (.aload_n 0, 1) := by decide +kernel
theorem dL_caravan_394 : decode cL_caravan 394 = .ok (.bipush 28, 2) := by decide +kernel
theorem dL_caravan_396 : decode cL_caravan 396 = .ok (.iload 12, 2) := by decide +kernel
theorem dL_caravan_398 : decode cL_caravan 398 = .ok (.invokestatic 163, 3) := by decide +kernel
theorem dL_caravan_401 : decode cL_caravan 401 = .ok (.ifCond .lt 208, 3) := by decide +kernel
theorem dL_caravan_404 : decode cL_caravan 404 = .ok (.aload 4, 2) := by decide +kernel
theorem dL_caravan_406 : decode cL_caravan 406 = .ok (.iload 12, 2) := by decide +kernel
theorem dL_caravan_408 : decode cL_caravan 408 = .ok (.iaload, 1) := by decide +kernel
theorem dL_caravan_409 : decode cL_caravan 409 = .ok (.aload_n 0, 1) := by decide +kernel
theorem dL_caravan_410 : decode cL_caravan 410 = .ok (.bipush 28, 2) := by decide +kernel
theorem dL_caravan_412 : decode cL_caravan 412 = .ok (.iload 12, 2) := by decide +kernel
theorem dL_caravan_414 : decode cL_caravan 414 = .ok (.invokestatic 163, 3) := by decide +kernel
theorem dL_caravan_417 : decode cL_caravan 417 = .ok (.iadd, 1) := by decide +kernel
theorem dL_caravan_418 : decode cL_caravan 418 = .ok (.bipush 20, 2) := by decide +kernel
theorem dL_caravan_420 : decode cL_caravan 420 = .ok (.irem, 1) := by decide +kernel
theorem dL_caravan_421 : decode cL_caravan 421 = .ok (.ifCond .ne 188, 3) := by decide +kernel
theorem dL_caravan_424 : decode cL_caravan 424 = .ok (.aload_n 0, 1) := by decide +kernel
theorem dL_caravan_425 : decode cL_caravan 425 = .ok (.bipush 23, 2) := by decide +kernel
theorem dL_caravan_427 : decode cL_caravan 427 = .ok (.iload 12, 2) := by decide +kernel
theorem dL_caravan_429 : decode cL_caravan 429 = .ok (.invokestatic 163, 3) := by decide +kernel
theorem dL_caravan_432 : decode cL_caravan 432 = .ok (.ifCond .lt 177, 3) := by decide +kernel
theorem dL_caravan_435 : decode cL_caravan 435 = .ok (.aload_n 0, 1) := by decide +kernel
theorem dL_caravan_436 : decode cL_caravan 436 = .ok (.bipush 23, 2) := by decide +kernel
theorem dL_caravan_438 : decode cL_caravan 438 = .ok (.iload 12, 2) := by decide +kernel
theorem dL_caravan_440 : decode cL_caravan 440 = .ok (.invokestatic 163, 3) := by decide +kernel
theorem dL_caravan_443 : decode cL_caravan 443 = .ok (.aload_n 0, 1) := by decide +kernel
theorem dL_caravan_444 : decode cL_caravan 444 = .ok (.bipush 22, 2) := by decide +kernel
theorem dL_caravan_446 : decode cL_caravan 446 = .ok (.iload 12, 2) := by decide +kernel
theorem dL_caravan_448 : decode cL_caravan 448 = .ok (.invokestatic 163, 3) := by decide +kernel
theorem dL_caravan_451 : decode cL_caravan 451 = .ok (.if_icmp .gt 158, 3) := by decide +kernel
theorem dL_caravan_454 : decode cL_caravan 454 = .ok (.aload_n 0, 1) := by decide +kernel
theorem dL_caravan_455 : decode cL_caravan 455 = .ok (.bipush 24, 2) := by decide +kernel
theorem dL_caravan_457 : decode cL_caravan 457 = .ok (.iload 12, 2) := by decide +kernel
theorem dL_caravan_459 : decode cL_caravan 459 = .ok (.invokestatic 163, 3) := by decide +kernel
theorem dL_caravan_462 : decode cL_caravan 462 = .ok (.ifCond .lt 147, 3) := by decide +kernel
theorem dL_caravan_465 : decode cL_caravan 465 = .ok (.aload_n 0, 1) := by decide +kernel
theorem dL_caravan_466 : decode cL_caravan 466 = .ok (.bipush 24, 2) := by decide +kernel
theorem dL_caravan_468 : decode cL_caravan 468 = .ok (.iload 12, 2) := by decide +kernel
theorem dL_caravan_470 : decode cL_caravan 470 = .ok (.invokestatic 163, 3) := by decide +kernel
theorem dL_caravan_473 : decode cL_caravan 473 = .ok (.bipush 60, 2) := by decide +kernel
theorem dL_caravan_475 : decode cL_caravan 475 = .ok (.if_icmp .gt 134, 3) := by decide +kernel
theorem dL_caravan_478 : decode cL_caravan 478 = .ok (.aload_n 0, 1) := by decide +kernel
theorem dL_caravan_479 : decode cL_caravan 479 = .ok (.bipush 25, 2) := by decide +kernel
theorem dL_caravan_481 : decode cL_caravan 481 = .ok (.iload 12, 2) := by decide +kernel
theorem dL_caravan_483 : decode cL_caravan 483 = .ok (.invokestatic 163, 3) := by decide +kernel
theorem dL_caravan_486 : decode cL_caravan 486 = .ok (.ifCond .lt 123, 3) := by decide +kernel
theorem dL_caravan_489 : decode cL_caravan 489 = .ok (.aload_n 0, 1) := by decide +kernel
theorem dL_caravan_490 : decode cL_caravan 490 = .ok (.bipush 29, 2) := by decide +kernel
theorem dL_caravan_492 : decode cL_caravan 492 = .ok (.iload 12, 2) := by decide +kernel
theorem dL_caravan_494 : decode cL_caravan 494 = .ok (.invokestatic 163, 3) := by decide +kernel
theorem dL_caravan_497 : decode cL_caravan 497 = .ok (.iconst 5, 1) := by decide +kernel
theorem dL_caravan_498 : decode cL_caravan 498 = .ok (.iload 13, 2) := by decide +kernel
theorem dL_caravan_500 : decode cL_caravan 500 = .ok (.aload 4, 2) := by decide +kernel
theorem dL_caravan_502 : decode cL_caravan 502 = .ok (.iload 12, 2) := by decide +kernel
theorem dL_caravan_504 : decode cL_caravan 504 = .ok (.iaload, 1) := by decide +kernel
theorem dL_caravan_505 : decode cL_caravan 505 = .ok (.bipush 10, 2) := by decide +kernel
theorem dL_caravan_507 : decode cL_caravan 507 = .ok (.idiv, 1) := by decide +kernel
theorem dL_caravan_508 : decode cL_caravan 508 = .ok (.isub, 1) := by decide +kernel
theorem dL_caravan_509 : decode cL_caravan 509 = .ok (.invokestatic 235, 3) := by decide +kernel
theorem dL_caravan_512 : decode cL_caravan 512 = .ok (.if_icmp .ne 97, 3) := by decide +kernel
theorem dL_caravan_515 : decode cL_caravan 515 = .ok (.aload_n 0, 1) := by decide +kernel
theorem dL_caravan_516 : decode cL_caravan 516 = .ok (.bipush 26, 2) := by decide +kernel
theorem dL_caravan_518 : decode cL_caravan 518 = .ok (.iload 12, 2) := by decide +kernel
theorem dL_caravan_520 : decode cL_caravan 520 = .ok (.invokestatic 163, 3) := by decide +kernel
theorem dL_caravan_523 : decode cL_caravan 523 = .ok (.iconst 3, 1) := by decide +kernel
theorem dL_caravan_524 : decode cL_caravan 524 = .ok (.if_icmp .ne 7, 3) := by decide +kernel
theorem dL_caravan_527 : decode cL_caravan 527 = .ok (.iconst 1, 1) := by decide +kernel
theorem dL_caravan_528 : decode cL_caravan 528 = .ok (.goto 4, 3) := by decide +kernel
theorem dL_caravan_531 : decode cL_caravan 531 = .ok (.iconst 0, 1) := by decide +kernel
theorem dL_caravan_532 : decode cL_caravan 532 = .ok (.iload 14, 2) := by decide +kernel
theorem dL_caravan_534 : decode cL_caravan 534 = .ok (.iconst 1, 1) := by decide +kernel
theorem dL_caravan_535 : decode cL_caravan 535 = .ok (.if_icmp .ne 7, 3) := by decide +kernel
theorem dL_caravan_538 : decode cL_caravan 538 = .ok (.iconst 1, 1) := by decide +kernel
theorem dL_caravan_539 : decode cL_caravan 539 = .ok (.goto 4, 3) := by decide +kernel
theorem dL_caravan_542 : decode cL_caravan 542 = .ok (.iconst 0, 1) := by decide +kernel
theorem dL_caravan_543 : decode cL_caravan 543 = .ok (.if_icmp .ne 66, 3) := by decide +kernel
theorem dL_caravan_546 : decode cL_caravan 546 = .ok (.aload_n 0, 1) := by decide +kernel
theorem dL_caravan_547 : decode cL_caravan 547 = .ok (.bipush 26, 2) := by decide +kernel
theorem dL_caravan_549 : decode cL_caravan 549 = .ok (.iload 12, 2) := by decide +kernel
theorem dL_caravan_551 : decode cL_caravan 551 = .ok (.invokestatic 163, 3) := by decide +kernel
theorem dL_caravan_554 : decode cL_caravan 554 = .ok (.iconst 3, 1) := by decide +kernel
theorem dL_caravan_555 : decode cL_caravan 555 = .ok (.if_icmp .gt 54, 3) := by decide +kernel
theorem dL_caravan_558 : decode cL_caravan 558 = .ok (.iload 14, 2) := by decide +kernel
theorem dL_caravan_560 : decode cL_caravan 560 = .ok (.ifCond .eq 11, 3) := by decide +kernel
theorem dL_caravan_563 : decode cL_caravan 563 = .ok (.aload 4, 2) := by decide +kernel
theorem dL_caravan_565 : decode cL_caravan 565 = .ok (.iload 12, 2) := by decide +kernel
theorem dL_caravan_567 : decode cL_caravan 567 = .ok (.iaload, 1) := by decide +kernel
theorem dL_caravan_568 : decode cL_caravan 568 = .ok (.ifCond .ne 41, 3) := by decide +kernel
theorem dL_caravan_571 : decode cL_caravan 571 = .ok (.aload_n 0, 1) := by decide +kernel
theorem dL_caravan_572 : decode cL_caravan 572 = .ok (.bipush 37, 2) := by decide +kernel
theorem dL_caravan_574 : decode cL_caravan 574 = .ok (.iload 12, 2) := by decide +kernel
theorem dL_caravan_576 : decode cL_caravan 576 = .ok (.invokestatic 163, 3) := by decide +kernel
theorem dL_caravan_579 : decode cL_caravan 579 = .ok (.iload 14, 2) := by decide +kernel
theorem dL_caravan_581 : decode cL_caravan 581 = .ok (.iconst 1, 1) := by decide +kernel
theorem dL_caravan_582 : decode cL_caravan 582 = .ok (.if_icmp .ne 7, 3) := by decide +kernel
theorem dL_caravan_585 : decode cL_caravan 585 = .ok (.iconst 0, 1) := by decide +kernel
theorem dL_caravan_586 : decode cL_caravan 586 = .ok (.goto 16, 3) := by decide +kernel
theorem dL_caravan_589 : decode cL_caravan 589 = .ok (.iconst 5, 1) := by decide +kernel
theorem dL_caravan_590 : decode cL_caravan 590 = .ok (.aload 4, 2) := by decide +kernel
theorem dL_caravan_592 : decode cL_caravan 592 = .ok (.iload 12, 2) := by decide +kernel
theorem dL_caravan_594 : decode cL_caravan 594 = .ok (.iaload, 1) := by decide +kernel
theorem dL_caravan_595 : decode cL_caravan 595 = .ok (.bipush 25, 2) := by decide +kernel
theorem dL_caravan_597 : decode cL_caravan 597 = .ok (.idiv, 1) := by decide +kernel
theorem dL_caravan_598 : decode cL_caravan 598 = .ok (.iadd, 1) := by decide +kernel
theorem dL_caravan_599 : decode cL_caravan 599 = .ok (.iload 11, 2) := by decide +kernel
theorem dL_caravan_601 : decode cL_caravan 601 = .ok (.iadd, 1) := by decide +kernel
theorem dL_caravan_602 : decode cL_caravan 602 = .ok (.if_icmp .ne 7, 3) := by decide +kernel
theorem dL_caravan_605 : decode cL_caravan 605 = .ok (.iconst 1, 1) := by decide +kernel
theorem dL_caravan_606 : decode cL_caravan 606 = .ok (.goto 4, 3) := by decide +kernel
theorem dL_caravan_609 : decode cL_caravan 609 = .ok (.iconst 0, 1) := by decide +kernel
theorem dL_caravan_610 : decode cL_caravan 610 = .ok (.istore 6, 2) := by decide +kernel
theorem dL_caravan_612 : decode cL_caravan 612 = .ok (.iload 14, 2) := by decide +kernel
theorem dL_caravan_614 : decode cL_caravan 614 = .ok (.iconst 1, 1) := by decide +kernel
theorem dL_caravan_615 : decode cL_caravan 615 = .ok (.if_icmp .ne 6, 3) := by decide +kernel
theorem dL_caravan_618 : decode cL_caravan 618 = .ok (.goto 75, 3) := by decide +kernel
theorem dL_caravan_621 : decode cL_caravan 621 = .ok (.iinc 7 1, 3) := by decide +kernel
theorem dL_caravan_624 : decode cL_caravan 624 = .ok (.iload 8, 2) := by decide +kernel
theorem dL_caravan_626 : decode cL_caravan 626 = .ok (.aload_n 0, 1) := by decide +kernel
theorem dL_caravan_627 : decode cL_caravan 627 = .ok (.bipush 23, 2) := by decide +kernel
theorem dL_caravan_629 : decode cL_caravan 629 = .ok (.iload 12, 2) := by decide +kernel
theorem dL_caravan_631 : decode cL_caravan 631 = .ok (.invokestatic 163, 3) := by decide +kernel
theorem dL_caravan_634 : decode cL_caravan 634 = .ok (.iadd, 1) := by decide +kernel
theorem dL_caravan_635 : decode cL_caravan 635 = .ok (.istore 8, 2) := by decide +kernel
theorem dL_caravan_637 : decode cL_caravan 637 = .ok (.iload 9, 2) := by decide +kernel
theorem dL_caravan_639 : decode cL_caravan 639 = .ok (.ifCond .lt 22, 3) := by decide +kernel
theorem dL_caravan_642 : decode cL_caravan 642 = .ok (.aload_n 0, 1) := by decide +kernel
theorem dL_caravan_643 : decode cL_caravan 643 = .ok (.bipush 23, 2) := by decide +kernel
theorem dL_caravan_645 : decode cL_caravan 645 = .ok (.iload 12, 2) := by decide +kernel
theorem dL_caravan_647 : decode cL_caravan 647 = .ok (.invokestatic 163, 3) := by decide +kernel
theorem dL_caravan_650 : decode cL_caravan 650 = .ok (.aload_n 0, 1) := by decide +kernel
theorem dL_caravan_651 : decode cL_caravan 651 = .ok (.bipush 23, 2) := by decide +kernel
theorem dL_caravan_653 : decode cL_caravan 653 = .ok (.iload 9, 2) := by decide +kernel
theorem dL_caravan_655 : decode cL_caravan 655 = .ok (.invokestatic 163, 3) := by decide +kernel
theorem dL_caravan_658 : decode cL_caravan 658 = .ok (.if_icmp .ge 7, 3) := by decide +kernel
theorem dL_caravan_661 : decode cL_caravan 661 = .ok (.iload 12, 2) := by decide +kernel
theorem dL_caravan_663 : decode cL_caravan 663 = .ok (.istore 9, 2) := by decide +kernel
theorem dL_caravan_665 : decode cL_caravan 665 = .ok (.iload 10, 2) := by decide +kernel
theorem dL_caravan_667 : decode cL_caravan 667 = .ok (.ifCond .lt 22, 3) := by decide +kernel
theorem dL_caravan_670 : decode cL_caravan 670 = .ok (.aload_n 0, 1) := by decide +kernel
theorem dL_caravan_671 : decode cL_caravan 671 = .ok (.bipush 29, 2) := by decide +kernel
theorem dL_caravan_673 : decode cL_caravan 673 = .ok (.iload 12, 2) := by decide +kernel
theorem dL_caravan_675 : decode cL_caravan 675 = .ok (.invokestatic 163, 3) := by decide +kernel
theorem dL_caravan_678 : decode cL_caravan 678 = .ok (.aload_n 0, 1) := by decide +kernel
theorem dL_caravan_679 : decode cL_caravan 679 = .ok (.bipush 29, 2) := by decide +kernel
theorem dL_caravan_681 : decode cL_caravan 681 = .ok (.iload 10, 2) := by decide +kernel
theorem dL_caravan_683 : decode cL_caravan 683 = .ok (.invokestatic 163, 3) := by decide +kernel
theorem dL_caravan_686 : decode cL_caravan 686 = .ok (.if_icmp .le 7, 3) := by decide +kernel
theorem dL_caravan_689 : decode cL_caravan 689 = .ok (.iload 12, 2) := by decide +kernel
theorem dL_caravan_691 : decode cL_caravan 691 = .ok (.istore 10, 2) := by decide +kernel
theorem dL_caravan_693 : decode cL_caravan 693 = .ok (.iinc 12 1, 3) := by decide +kernel
theorem dL_caravan_696 : decode cL_caravan 696 = .ok (.goto (-374), 3) := by decide +kernel
theorem dL_caravan_699 : decode cL_caravan 699 = .ok (.bipush (-101), 2) := by decide +kernel
theorem dL_caravan_701 : decode cL_caravan 701 = .ok (.istore 12, 2) := by decide +kernel
theorem dL_caravan_703 : decode cL_caravan 703 = .ok (.bipush (-101), 2) := by decide +kernel
theorem dL_caravan_705 : decode cL_caravan 705 = .ok (.istore 13, 2) := by decide +kernel
theorem dL_caravan_707 : decode cL_caravan 707 = .ok (.iconst 0, 1) := by decide +kernel
theorem dL_caravan_708 : decode cL_caravan 708 = .ok (.istore 14, 2) := by decide +kernel
theorem dL_caravan_710 : decode cL_caravan 710 = .ok (.iload 14, 2) := by decide +kernel
theorem dL_caravan_712 : decode cL_caravan 712 = .ok (.aload_n 0, 1) := by decide +kernel
theorem dL_caravan_713 : decode cL_caravan 713 = .ok (.invokevirtual 225, 3) := by decide +kernel
theorem dL_caravan_716 : decode cL_caravan 716 = .ok (.if_icmp .ge 99, 3) := by decide +kernel
theorem dL_caravan_719 : decode cL_caravan 719 = .ok (.iload 6, 2) := by decide +kernel
theorem dL_caravan_721 : decode cL_caravan 721 = .ok (.ifCond .eq 94, 3) := by decide +kernel
theorem dL_caravan_724 : decode cL_caravan 724 = .ok (.aload_n 0, 1) := by decide +kernel
theorem dL_caravan_725 : decode cL_caravan 725 = .ok (.bipush 15, 2) := by decide +kernel
theorem dL_caravan_727 : decode cL_caravan 727 = .ok (.iload 14, 2) := by decide +kernel
theorem dL_caravan_729 : decode cL_caravan 729 = .ok (.invokestatic 163, 3) := by decide +kernel
theorem dL_caravan_732 : decode cL_caravan 732 = .ok (.istore 15, 2) := by decide +kernel
theorem dL_caravan_734 : decode cL_caravan 734 = .ok (.aload_n 0, 1) := by decide +kernel
theorem dL_caravan_735 : decode cL_caravan 735 = .ok (.bipush 17, 2) := by decide +kernel
theorem dL_caravan_737 : decode cL_caravan 737 = .ok (.iload 14, 2) := by decide +kernel
theorem dL_caravan_739 : decode cL_caravan 739 = .ok (.invokestatic 163, 3) := by decide +kernel
theorem dL_caravan_742 : decode cL_caravan 742 = .ok (.ifCond .lt 26, 3) := by decide +kernel
theorem dL_caravan_745 : decode cL_caravan 745 = .ok (.aload_n 0, 1) := by decide +kernel
theorem dL_caravan_746 : decode cL_caravan 746 = .ok (.bipush 17, 2) := by decide +kernel
theorem dL_caravan_748 : decode cL_caravan 748 = .ok (.iload 14, 2) := by decide +kernel
theorem dL_caravan_750 : decode cL_caravan 750 = .ok (.invokestatic 163, 3) := by decide +kernel
theorem dL_caravan_753 : decode cL_caravan 753 = .ok (.aload_n 0, 1) := by decide +kernel
theorem dL_caravan_754 : decode cL_caravan 754 = .ok (.bipush 16, 2) := by decide +kernel
theorem dL_caravan_756 : decode cL_caravan 756 = .ok (.iload 14, 2) := by decide +kernel
theorem dL_caravan_758 : decode cL_caravan 758 = .ok (.invokestatic 163, 3) := by decide +kernel
theorem dL_caravan_761 : decode cL_caravan 761 = .ok (.if_icmp .gt 7, 3) := by decide +kernel
theorem dL_caravan_764 : decode cL_caravan 764 = .ok (.iconst 1, 1) := by decide +kernel
theorem dL_caravan_765 : decode cL_caravan 765 = .ok (.goto 4, 3) := by decide +kernel
theorem dL_caravan_768 : decode cL_caravan 768 = .ok (.iconst 0, 1) := by decide +kernel
theorem dL_caravan_769 : decode cL_caravan 769 = .ok (.istore 6, 2) := by decide +kernel
theorem dL_caravan_771 : decode cL_caravan 771 = .ok (.iload 15, 2) := by decide +kernel
theorem dL_caravan_773 : decode cL_caravan 773 = .ok (.iload_n 3, 1) := by decide +kernel
theorem dL_caravan_774 : decode cL_caravan 774 = .ok (.if_icmp .ne 7, 3) := by decide +kernel
theorem dL_caravan_777 : decode cL_caravan 777 = .ok (.iload 14, 2) := by decide +kernel
theorem dL_caravan_779 : decode cL_caravan 779 = .ok (.istore 12, 2) := by decide +kernel
theorem dL_caravan_781 : decode cL_caravan 781 = .ok (.iload 15, 2) := by decide +kernel
theorem dL_caravan_783 : decode cL_caravan 783 = .ok (.iload_n 3, 1) := by decide +kernel
theorem dL_caravan_784 : decode cL_caravan 784 = .ok (.if_icmp .le 25, 3) := by decide +kernel
theorem dL_caravan_787 : decode cL_caravan 787 = .ok (.iload 13, 2) := by decide +kernel
theorem dL_caravan_789 : decode cL_caravan 789 = .ok (.ifCond .lt 16, 3) := by decide +kernel
theorem dL_caravan_792 : decode cL_caravan 792 = .ok (.iload 15, 2) := by decide +kernel
theorem dL_caravan_794 : decode cL_caravan 794 = .ok (.aload_n 0, 1) := by decide +kernel
theorem dL_caravan_795 : decode cL_caravan 795 = .ok (.bipush 15, 2) := by decide +kernel
theorem dL_caravan_797 : decode cL_caravan 797 = .ok (.iload 13, 2) := by decide +kernel
theorem dL_caravan_799 : decode cL_caravan 799 = .ok (.invokestatic 163, 3) := by decide +kernel
theorem dL_caravan_802 : decode cL_caravan 802 = .ok (.if_icmp .ge 7, 3) := by decide +kernel
theorem dL_caravan_805 : decode cL_caravan 805 = .ok (.iload 14, 2) := by decide +kernel
theorem dL_caravan_807 : decode cL_caravan 807 = .ok (.istore 13, 2) := by decide +kernel
theorem dL_caravan_809 : decode cL_caravan 809 = .ok (.iinc 14 1, 3) := by decide +kernel
theorem dL_caravan_812 : decode cL_caravan 812 = .ok (.goto (-102), 3) := by decide +kernel
theorem dL_caravan_815 : decode cL_caravan 815 = .ok (.iload 6, 2) := by decide +kernel
theorem dL_caravan_817 : decode cL_caravan 817 = .ok (.ifCond .eq 131, 3) := by decide +kernel
theorem dL_caravan_820 : decode cL_caravan 820 = .ok (.aload_n 0, 1) := by decide +kernel
theorem dL_caravan_821 : decode cL_caravan 821 = .ok (.invokevirtual 240, 3) := by decide +kernel
theorem dL_caravan_824 : decode cL_caravan 824 = .ok (.iload 7, 2) := by decide +kernel
theorem dL_caravan_826 : decode cL_caravan 826 = .ok (.if_icmp .ne 122, 3) := by decide +kernel
theorem dL_caravan_829 : decode cL_caravan 829 = .ok (.iload 7, 2) := by decide +kernel
theorem dL_caravan_831 : decode cL_caravan 831 = .ok (.ifCond .eq 16, 3) := by decide +kernel
theorem dL_caravan_834 : decode cL_caravan 834 = .ok (.aload_n 0, 1) := by decide +kernel
theorem dL_caravan_835 : decode cL_caravan 835 = .ok (.bipush 20, 2) := by decide +kernel
theorem dL_caravan_837 : decode cL_caravan 837 = .ok (.aload_n 0, 1) := by decide +kernel
theorem dL_caravan_838 : decode cL_caravan 838 = .ok (.invokevirtual 210, 3) := by decide +kernel
theorem dL_caravan_841 : decode cL_caravan 841 = .ok (.invokestatic 163, 3) := by decide +kernel
theorem dL_caravan_844 : decode cL_caravan 844 = .ok (.ifCond .ne 104, 3) := by decide +kernel
theorem dL_caravan_847 : decode cL_caravan 847 = .ok (.aload_n 0, 1) := by decide +kernel
theorem dL_caravan_848 : decode cL_caravan 848 = .ok (.bipush 30, 2) := by decide +kernel
theorem dL_caravan_850 : decode cL_caravan 850 = .ok (.iconst 0, 1) := by decide +kernel
theorem dL_caravan_851 : decode cL_caravan 851 = .ok (.invokestatic 163, 3) := by decide +kernel
theorem dL_caravan_854 : decode cL_caravan 854 = .ok (.iload 9, 2) := by decide +kernel
theorem dL_caravan_856 : decode cL_caravan 856 = .ok (.if_icmp .ne 92, 3) := by decide +kernel
theorem dL_caravan_859 : decode cL_caravan 859 = .ok (.aload_n 0, 1) := by decide +kernel
theorem dL_caravan_860 : decode cL_caravan 860 = .ok (.bipush 31, 2) := by decide +kernel
theorem dL_caravan_862 : decode cL_caravan 862 = .ok (.iconst 0, 1) := by decide +kernel
theorem dL_caravan_863 : decode cL_caravan 863 = .ok (.invokestatic 163, 3) := by decide +kernel
theorem dL_caravan_866 : decode cL_caravan 866 = .ok (.iload 10, 2) := by decide +kernel
theorem dL_caravan_868 : decode cL_caravan 868 = .ok (.if_icmp .ne 80, 3) := by decide +kernel
theorem dL_caravan_871 : decode cL_caravan 871 = .ok (.aload_n 0, 1) := by decide +kernel
theorem dL_caravan_872 : decode cL_caravan 872 = .ok (.bipush 18, 2) := by decide +kernel
theorem dL_caravan_874 : decode cL_caravan 874 = .ok (.iconst 0, 1) := by decide +kernel
theorem dL_caravan_875 : decode cL_caravan 875 = .ok (.invokestatic 163, 3) := by decide +kernel
theorem dL_caravan_878 : decode cL_caravan 878 = .ok (.iload 12, 2) := by decide +kernel
theorem dL_caravan_880 : decode cL_caravan 880 = .ok (.if_icmp .ne 68, 3) := by decide +kernel
theorem dL_caravan_883 : decode cL_caravan 883 = .ok (.aload_n 0, 1) := by decide +kernel
theorem dL_caravan_884 : decode cL_caravan 884 = .ok (.bipush 19, 2) := by decide +kernel
theorem dL_caravan_886 : decode cL_caravan 886 = .ok (.iconst 0, 1) := by decide +kernel
theorem dL_caravan_887 : decode cL_caravan 887 = .ok (.invokestatic 163, 3) := by decide +kernel
theorem dL_caravan_890 : decode cL_caravan 890 = .ok (.iload 13, 2) := by decide +kernel
theorem dL_caravan_892 : decode cL_caravan 892 = .ok (.if_icmp .ne 56, 3) := by decide +kernel
theorem dL_caravan_895 : decode cL_caravan 895 = .ok (.aload_n 0, 1) := by decide +kernel
theorem dL_caravan_896 : decode cL_caravan 896 = .ok (.invokevirtual 243, 3) := by decide +kernel
theorem dL_caravan_899 : decode cL_caravan 899 = .ok (.iload 5, 2) := by decide +kernel
theorem dL_caravan_901 : decode cL_caravan 901 = .ok (.if_icmp .ne 47, 3) := by decide +kernel
theorem dL_caravan_904 : decode cL_caravan 904 = .ok (.aload_n 0, 1) := by decide +kernel
theorem dL_caravan_905 : decode cL_caravan 905 = .ok (.invokevirtual 246, 3) := by decide +kernel
theorem dL_caravan_908 : decode cL_caravan 908 = .ok (.iload 7, 2) := by decide +kernel
theorem dL_caravan_910 : decode cL_caravan 910 = .ok (.ifCond .ne 7, 3) := by decide +kernel
theorem dL_caravan_913 : decode cL_caravan 913 = .ok (.dconst 0, 1) := by decide +kernel
theorem dL_caravan_914 : decode cL_caravan 914 = .ok (.goto 10, 3) := by decide +kernel
theorem dL_caravan_917 : decode cL_caravan 917 = .ok (.iload 8, 2) := by decide +kernel
theorem dL_caravan_919 : decode cL_caravan 919 = .ok (.i2d, 1) := by decide +kernel
theorem dL_caravan_920 : decode cL_caravan 920 = .ok (.iload 7, 2) := by decide +kernel
theorem dL_caravan_922 : decode cL_caravan 922 = .ok (.i2d, 1) := by decide +kernel
theorem dL_caravan_923 : decode cL_caravan 923 = .ok (.ddiv, 1) := by decide +kernel
theorem dL_caravan_924 : decode cL_caravan 924 = .ok (.dcmp .l, 1) := by decide +kernel
theorem dL_caravan_925 : decode cL_caravan 925 = .ok (.ifCond .ne 23, 3) := by decide +kernel
theorem dL_caravan_928 : decode cL_caravan 928 = .ok (.aload_n 0, 1) := by decide +kernel
theorem dL_caravan_929 : decode cL_caravan 929 = .ok (.invokevirtual 250, 3) := by decide +kernel
theorem dL_caravan_932 : decode cL_caravan 932 = .ok (.iload_n 3, 1) := by decide +kernel
theorem dL_caravan_933 : decode cL_caravan 933 = .ok (.i2f, 1) := by decide +kernel
theorem dL_caravan_934 : decode cL_caravan 934 = .ok (.aload_n 0, 1) := by decide +kernel
theorem dL_caravan_935 : decode cL_caravan 935 = .ok (.invokevirtual 231, 3) := by decide +kernel
theorem dL_caravan_938 : decode cL_caravan 938 = .ok (.i2f, 1) := by decide +kernel
theorem dL_caravan_939 : decode cL_caravan 939 = .ok (.fdiv, 1) := by decide +kernel
theorem dL_caravan_940 : decode cL_caravan 940 = .ok (.fcmp .l, 1) := by decide +kernel
theorem dL_caravan_941 : decode cL_caravan 941 = .ok (.ifCond .ne 7, 3) := by decide +kernel
theorem dL_caravan_944 : decode cL_caravan 944 = .ok (.iconst 1, 1) := by decide +kernel
theorem dL_caravan_945 : decode cL_caravan 945 = .ok (.goto 4, 3) := by decide +kernel
theorem dL_caravan_948 : decode cL_caravan 948 = .ok (.iconst 0, 1) := by decide +kernel
theorem dL_caravan_949 : decode cL_caravan 949 = .ok (.ireturn, 1) := by decide +kernel
theorem dL_distance_0 : decode cL_distance 0 = .ok (.aload_n 0, 1) := by decide +kernel
theorem dL_distance_1 : decode cL_distance 1 = .ok (.invokevirtual 232, 3) := by decide +kernel
theorem dL_distance_4 : decode cL_distance 4 = .ok (.ifCond .ne 10, 3) := by decide +kernel
theorem dL_distance_7 : decode cL_distance 7 = .ok (.aload_n 0, 1) := by decide +kernel
theorem dL_distance_8 : decode cL_distance 8 = .ok (.invokevirtual 240, 3) := by decide +kernel
theorem dL_distance_11 : decode cL_distance 11 = .ok (.ifCond .ne 5, 3) := by decide +kernel
theorem dL_distance_14 : decode cL_distance 14 = .ok (.iconst 0, 1) := by decide +kernel
theorem dL_distance_15 : decode cL_distance 15 = .ok (.ireturn, 1) := by decide +kernel
theorem dL_distance_16 : decode cL_distance 16 = .ok (.aload_n 0, 1) := by decide +kernel
theorem dL_distance_17 : decode cL_distance 17 = .ok (.invokevirtual 231, 3) := by decide +kernel
theorem dL_distance_20 : decode cL_distance 20 = .ok (.aload_n 0, 1) := by decide +kernel
theorem dL_distance_21 : decode cL_distance 21 = .ok (.invokevirtual 202, 3) := by decide +kernel
theorem dL_distance_24 : decode cL_distance 24 = .ok (.isub, 1) := by decide +kernel
theorem dL_distance_25 : decode cL_distance 25 = .ok (.aload_n 0, 1) := by decide +kernel
theorem dL_distance_26 : decode cL_distance 26 = .ok (.bipush 29, 2) := by decide +kernel
theorem dL_distance_28 : decode cL_distance 28 = .ok (.aload_n 0, 1) := by decide +kernel
theorem dL_distance_29 : decode cL_distance 29 = .ok (.invokevirtual 210, 3) := by decide +kernel
theorem dL_distance_32 : decode cL_distance 32 = .ok (.invokestatic 163, 3) := by decide +kernel
theorem dL_distance_35 : decode cL_distance 35 = .ok (.bipush 10, 2) := by decide +kernel
theorem dL_distance_37 : decode cL_distance 37 = .ok (.aload_n 0, 1) := by decide +kernel
theorem dL_distance_38 : decode cL_distance 38 = .ok (.bipush 14, 2) := by decide +kernel
theorem dL_distance_40 : decode cL_distance 40 = .ok (.aload_n 0, 1) := by decide +kernel
theorem dL_distance_41 : decode cL_distance 41 = .ok (.invokevirtual 205, 3) := by decide +kernel
theorem dL_distance_44 : decode cL_distance 44 = .ok (.invokestatic 163, 3) := by decide +kernel
theorem dL_distance_47 : decode cL_distance 47 = .ok (.isub, 1) := by decide +kernel
theorem dL_distance_48 : decode cL_distance 48 = .ok (.imul, 1) := by decide +kernel
theorem dL_distance_49 : decode cL_distance 49 = .ok (.bipush 10, 2) := by decide +kernel
theorem dL_distance_51 : decode cL_distance 51 = .ok (.idiv, 1) := by decide +kernel
theorem dL_distance_52 : decode cL_distance 52 = .ok (.invokestatic 254, 3) := by decide +kernel
theorem dL_distance_55 : decode cL_distance 55 = .ok (.istore_n 1, 1) := by decide +kernel
theorem dL_distance_56 : decode cL_distance 56 = .ok (.aload_n 0, 1) := by decide +kernel
theorem dL_distance_57 : decode cL_distance 57 = .ok (.bipush 19, 2) := by decide +kernel
theorem dL_distance_59 : decode cL_distance 59 = .ok (.iconst 0, 1) := by decide +kernel
theorem dL_distance_60 : decode cL_distance 60 = .ok (.invokestatic 163, 3) := by decide +kernel
theorem dL_distance_63 : decode cL_distance 63 = .ok (.istore_n 2, 1) := by decide +kernel
theorem dL_distance_64 : decode cL_distance 64 = .ok (.aload_n 0, 1) := by decide +kernel
theorem dL_distance_65 : decode cL_distance 65 = .ok (.invokevirtual 213, 3) := by decide +kernel
theorem dL_distance_68 : decode cL_distance 68 = .ok (.ifCond .eq 26, 3) := by decide +kernel
theorem dL_distance_71 : decode cL_distance 71 = .ok (.iload_n 2, 1) := by decide +kernel
theorem dL_distance_72 : decode cL_distance 72 = .ok (.ifCond .lt 22, 3) := by decide +kernel
theorem dL_distance_75 : decode cL_distance 75 = .ok (.iload_n 1, 1) := by decide +kernel
theorem dL_distance_76 : decode cL_distance 76 = .ok (.aload_n 0, 1) := by decide +kernel
theorem dL_distance_77 : decode cL_distance 77 = .ok (.bipush 15, 2) := by decide +kernel
theorem dL_distance_79 : decode cL_distance 79 = .ok (.iload_n 2, 1) := by decide +kernel
theorem dL_distance_80 : decode cL_distance 80 = .ok (.invokestatic 163, 3) := by decide +kernel
theorem dL_distance_83 : decode cL_distance 83 = .ok (.aload_n 0, 1) := by decide +kernel
theorem dL_distance_84 : decode cL_distance 84 = .ok (.invokevirtual 202, 3) := by decide +kernel
theorem dL_distance_87 : decode cL_distance 87 = .ok (.isub, 1) := by decide +kernel
theorem dL_distance_88 : decode cL_distance 88 = .ok (.invokestatic 254, 3) := by decide +kernel
theorem dL_distance_91 : decode cL_distance 91 = .ok (.goto 4, 3) := by decide +kernel
theorem dL_distance_94 : decode cL_distance 94 = .ok (.iload_n 1, 1) := by decide +kernel
theorem dL_distance_95 : decode cL_distance 95 = .ok (.ireturn, 1) := by decide +kernel
theorem dL_day_0 : decode cL_day 0 = .ok (.aload_n 0, 1) := by decide +kernel
theorem dL_day_1 : decode cL_day 1 = .ok (.invokestatic 257, 3) := by decide +kernel
theorem dL_day_4 : decode cL_day 4 = .ok (.lstore_n 2, 1) := by decide +kernel
theorem dL_day_5 : decode cL_day 5 = .ok (.aload_n 0, 1) := by decide +kernel
theorem dL_day_6 : decode cL_day 6 = .ok (.invokevirtual 222, 3) := by decide +kernel
theorem dL_day_9 : decode cL_day 9 = .ok (.istore 4, 2) := by decide +kernel
theorem dL_day_11 : decode cL_day 11 = .ok (.aload_n 0, 1) := by decide +kernel
theorem dL_day_12 : decode cL_day 12 = .ok (.invokevirtual 205, 3) := by decide +kernel
theorem dL_day_15 : decode cL_day 15 = .ok (.istore 5, 2) := by decide +kernel
theorem dL_day_17 : decode cL_day 17 = .ok (.aload_n 0, 1) := by decide +kernel
theorem dL_day_18 : decode cL_day 18 = .ok (.invokevirtual 202, 3) := by decide +kernel
theorem dL_day_21 : decode cL_day 21 = .ok (.istore 6, 2) := by decide +kernel
theorem dL_day_23 : decode cL_day 23 = .ok (.aload_n 0, 1) := by decide +kernel
theorem dL_day_24 : decode cL_day 24 = .ok (.invokestatic 261, 3) := by decide +kernel
theorem dL_day_27 : decode cL_day 27 = .ok (.istore 7, 2) := by decide +kernel
theorem dL_day_29 : decode cL_day 29 = .ok (.aload_n 0, 1) := by decide +kernel
theorem dL_day_30 : decode cL_day 30 = .ok (.bipush 29, 2) := by decide +kernel
theorem dL_day_32 : decode cL_day 32 = .ok (.aload_n 0, 1) := by decide +kernel
theorem dL_day_33 : decode cL_day 33 = .ok (.invokevirtual 210, 3) := by decide +kernel
theorem dL_day_36 : decode cL_day 36 = .ok (.invokestatic 163, 3) := by decide +kernel
theorem dL_day_39 : decode cL_day 39 = .ok (.istore 8, 2) := by decide +kernel
theorem dL_day_41 : decode cL_day 41 = .ok (.bipush 10, 2) := by decide +kernel
theorem dL_day_43 : decode cL_day 43 = .ok (.newarray .int, 2) := by decide +kernel
theorem dL_day_45 : decode cL_day 45 = .ok (.astore 9, 2) := by decide +kernel
theorem dL_day_47 : decode cL_day 47 = .ok (.bipush 10, 2) := by decide +kernel
theorem dL_day_49 : decode cL_day 49 = .ok (.newarray .int, 2) := by decide +kernel
theorem dL_day_51 : decode cL_day 51 = .ok (.astore 10, 2) := by decide +kernel
theorem dL_day_53 : decode cL_day 53 = .ok (.bipush 10, 2) := by decide +kernel
theorem dL_day_55 : decode cL_day 55 = .ok (.newarray .int, 2) := by decide +kernel
theorem dL_day_57 : decode cL_day 57 = .ok (.astore 11, 2) := by decide +kernel
theorem dL_day_59 : decode cL_day 59 = .ok (.bipush 10, 2) := by decide +kernel
theorem dL_day_61 : decode cL_day 61 = .ok (.newarray .int, 2) := by decide +kernel
theorem dL_day_63 : decode cL_day 63 = .ok (.astore 12, 2) := by decide +kernel
theorem dL_day_65 : decode cL_day 65 = .ok (.bipush 10, 2) := by decide +kernel
theorem dL_day_67 : decode cL_day 67 = .ok (.newarray .int, 2) := by decide +kernel
theorem dL_day_69 : decode cL_day 69 = .ok (.astore 13, 2) := by decide +kernel
theorem dL_day_71 : decode cL_day 71 = .ok (.bipush 10, 2) := by decide +kernel
theorem dL_day_73 : decode cL_day 73 = .ok (.newarray .int, 2) := by decide +kernel
theorem dL_day_75 : decode cL_day 75 = .ok (.astore 14, 2) := by decide +kernel
theorem dL_day_77 : decode cL_day 77 = .ok (.bipush 8, 2) := by decide +kernel
theorem dL_day_79 : decode cL_day 79 = .ok (.newarray .int, 2) := by decide +kernel
theorem dL_day_81 : decode cL_day 81 = .ok (.astore 15, 2) := by decide +kernel
theorem dL_day_83 : decode cL_day 83 = .ok (.aload_n 0, 1) := by decide +kernel
theorem dL_day_84 : decode cL_day 84 = .ok (.invokevirtual 240, 3) := by decide +kernel
theorem dL_day_87 : decode cL_day 87 = .ok (.ifCond .le 26, 3) := by decide +kernel
theorem dL_day_90 : decode cL_day 90 = .ok (.iload 5, 2) := by decide +kernel
theorem dL_day_92 : decode cL_day 92 = .ok (.sipush 200, 3) := by decide +kernel
theorem dL_day_95 : decode cL_day 95 = .ok (.if_icmp .ge 18, 3) := by decide +kernel
theorem dL_day_98 : decode cL_day 98 = .ok (.iload_n 1, 1) := by decide +kernel
theorem dL_day_99 : decode cL_day 99 = .ok (.ifCond .ne 10, 3) := by decide +kernel
theorem dL_day_102 : decode cL_day 102 = .ok (.aload_n 0, 1) := by decide +kernel
theorem dL_day_103 : decode cL_day 103 = .ok (.invokevirtual 232, 3) := by decide +kernel
theorem dL_day_106 : decode cL_day 106 = .ok (.ifCond .ne 7, 3) := by decide +kernel
theorem dL_day_109 : decode cL_day 109 = .ok (.iconst 1, 1) := by decide +kernel
theorem dL_day_110 : decode cL_day 110 = .ok (.goto 4, 3) := by decide +kernel
theorem dL_day_113 : decode cL_day 113 = .ok (.iconst 0, 1) := by decide +kernel
theorem dL_day_114 : decode cL_day 114 = .ok (.istore 16, 2) := by decide +kernel
theorem dL_day_116 : decode cL_day 116 = .ok (.aload_n 0, 1) := by decide +kernel
theorem dL_day_117 : decode cL_day 117 = .ok (.invokevirtual 265, 3) := by decide +kernel
theorem dL_day_120 : decode cL_day 120 = .ok (.iload 7, 2) := by decide +kernel
theorem dL_day_122 : decode cL_day 122 = .ok (.if_icmp .ne 7, 3) := by decide +kernel
theorem dL_day_125 : decode cL_day 125 = .ok (.iconst 1, 1) := by decide +kernel
theorem dL_day_126 : decode cL_day 126 = .ok (.goto 4, 3) := by decide +kernel
theorem dL_day_129 : decode cL_day 129 = .ok (.iconst 0, 1) := by decide +kernel
theorem dL_day_130 : decode cL_day 130 = .ok (.istore 17, 2) := by decide +kernel
theorem dL_day_132 : decode cL_day 132 = .ok (.iconst 0, 1) := by decide +kernel
theorem dL_day_133 : decode cL_day 133 = .ok (.istore 18, 2) := by decide +kernel
theorem dL_day_135 : decode cL_day 135 = .ok (.iload 18, 2) := by decide +kernel
theorem dL_day_137 : decode cL_day 137 = .ok (.iload 4, 2) := by decide +kernel
theorem dL_day_139 : decode cL_day 139 = .ok (.if_icmp .ge 106, 3) := by decide +kernel
theorem dL_day_142 : decode cL_day 142 = .ok (.aload 9, 2) := by decide +kernel
theorem dL_day_144 : decode cL_day 144 = .ok (.iload 18, 2) := by decide +kernel
theorem dL_day_146 : decode cL_day 146 = .ok (.aload_n 0, 1) := by decide +kernel
theorem dL_day_147 : decode cL_day 147 = .ok (.bipush 23, 2) := by decide +kernel
theorem dL_day_149 : decode cL_day 149 = .ok (.iload 18, 2) := by decide +kernel
theorem dL_day_151 : decode cL_day 151 = .ok (.invokestatic 163, 3) := by decide +kernel
theorem dL_day_154 : decode cL_day 154 = .ok (.iastore, 1) := by decide +kernel
theorem dL_day_155 : decode cL_day 155 = .ok (.aload 10, 2) := by decide +kernel
theorem dL_day_157 : decode cL_day 157 = .ok (.iload 18, 2) := by decide +kernel
theorem dL_day_159 : decode cL_day 159 = .ok (.iload_n 1, 1) := by decide +kernel
theorem dL_day_160 : decode cL_day 160 = .ok (.ifCond .eq 18, 3) := by decide +kernel
theorem dL_day_163 : decode cL_day 163 = .ok (.aload_n 0, 1) := by decide +kernel
theorem dL_day_164 : decode cL_day 164 = .ok (.bipush 37, 2) := by decide +kernel
theorem dL_day_166 : decode cL_day 166 = .ok (.iload 18, 2) := by decide +kernel
theorem dL_day_168 : decode cL_day 168 = .ok (.invokestatic 163, 3) := by decide +kernel
theorem dL_day_171 : decode cL_day 171 = .ok (.iconst 1, 1) := by decide +kernel
theorem dL_day_172 : decode cL_day 172 = .ok (.iadd, 1) := by decide +kernel
theorem dL_day_173 : decode cL_day 173 = .ok (.iconst 2, 1) := by decide +kernel
theorem dL_day_174 : decode cL_day 174 = .ok (.idiv, 1) := by decide +kernel
theorem dL_day_175 : decode cL_day 175 = .ok (.goto 11, 3) := by decide +kernel
theorem dL_day_178 : decode cL_day 178 = .ok (.aload_n 0, 1) := by decide +kernel
theorem dL_day_179 : decode cL_day 179 = .ok (.bipush 37, 2) := by decide +kernel
theorem dL_day_181 : decode cL_day 181 = .ok (.iload 18, 2) := by decide +kernel
theorem dL_day_183 : decode cL_day 183 = .ok (.invokestatic 163, 3) := by decide +kernel
theorem dL_day_186 : decode cL_day 186 = .ok (.iastore, 1) := by decide +kernel
theorem dL_day_187 : decode cL_day 187 = .ok (.aload 11, 2) := by decide +kernel
theorem dL_day_189 : decode cL_day 189 = .ok (.iload 18, 2) := by decide +kernel
theorem dL_day_191 : decode cL_day 191 = .ok (.aload_n 0, 1) := by decide +kernel
theorem dL_day_192 : decode cL_day 192 = .ok (.bipush 24, 2) := by decide +kernel
theorem dL_day_194 : decode cL_day 194 = .ok (.iload 18, 2) := by decide +kernel
theorem dL_day_196 : decode cL_day 196 = .ok (.invokestatic 163, 3) := by decide +kernel
theorem dL_day_199 : decode cL_day 199 = .ok (.iastore, 1) := by decide +kernel
theorem dL_day_200 : decode cL_day 200 = .ok (.aload 12, 2) := by decide +kernel
theorem dL_day_202 : decode cL_day 202 = .ok (.iload 18, 2) := by decide +kernel
theorem dL_day_204 : decode cL_day 204 = .ok (.aload_n 0, 1) := by decide +kernel
theorem dL_day_205 : decode cL_day 205 = .ok (.bipush 20, 2) := by decide +kernel
theorem dL_day_207 : decode cL_day 207 = .ok (.iload 18, 2) := by decide +kernel
theorem dL_day_209 : decode cL_day 209 = .ok (.invokestatic 163, 3) := by decide +kernel
theorem dL_day_212 : decode cL_day 212 = .ok (.iastore, 1) := by decide +kernel
theorem dL_day_213 : decode cL_day 213 = .ok (.aload 13, 2) := by decide +kernel
theorem dL_day_215 : decode cL_day 215 = .ok (.iload 18, 2) := by decide +kernel
theorem dL_day_217 : decode cL_day 217 = .ok (.aload_n 0, 1) := by decide +kernel
theorem dL_day_218 : decode cL_day 218 = .ok (.bipush 29, 2) := by decide +kernel
theorem dL_day_220 : decode cL_day 220 = .ok (.iload 18, 2) := by decide +kernel
theorem dL_day_222 : decode cL_day 222 = .ok (.invokestatic 163, 3) := by decide +kernel
theorem dL_day_225 : decode cL_day 225 = .ok (.iastore, 1) := by decide +kernel
theorem dL_day_226 : decode cL_day 226 = .ok (.aload 14, 2) := by decide +kernel
theorem dL_day_228 : decode cL_day 228 = .ok (.iload 18, 2) := by decide +kernel
theorem dL_day_230 : decode cL_day 230 = .ok (.aload_n 0, 1) := by decide +kernel
theorem dL_day_231 : decode cL_day 231 = .ok (.bipush 25, 2) := by decide +kernel
theorem dL_day_233 : decode cL_day 233 = .ok (.iload 18, 2) := by decide +kernel
theorem dL_day_235 : decode cL_day 235 = .ok (.invokestatic 163, 3) := by decide +kernel
theorem dL_day_238 : decode cL_day 238 = .ok (.iastore, 1) := by decide +kernel
theorem dL_day_239 : decode cL_day 239 = .ok (.iinc 18 1, 3) := by decide +kernel
theorem dL_day_242 : decode cL_day 242 = .ok (.goto (-107), 3) := by decide +kernel
theorem dL_day_245 : decode cL_day 245 = .ok (.iconst 0, 1) := by decide +kernel
theorem dL_day_246 : decode cL_day 246 = .ok (.istore 18, 2) := by decide +kernel
theorem dL_day_248 : decode cL_day 248 = .ok (.iload 18, 2) := by decide +kernel
theorem dL_day_250 : decode cL_day 250 = .ok (.aload_n 0, 1) := by decide +kernel
theorem dL_day_251 : decode cL_day 251 = .ok (.invokevirtual 225, 3) := by decide +kernel
theorem dL_day_254 : decode cL_day 254 = .ok (.if_icmp .ge 22, 3) := by decide +kernel
theorem dL_day_257 : decode cL_day 257 = .ok (.aload 15, 2) := by decide +kernel
theorem dL_day_259 : decode cL_day 259 = .ok (.iload 18, 2) := by decide +kernel
theorem dL_day_261 : decode cL_day 261 = .ok (.aload_n 0, 1) := by decide +kernel
theorem dL_day_262 : decode cL_day 262 = .ok (.bipush 17, 2) := by decide +kernel
theorem dL_day_264 : decode cL_day 264 = .ok (.iload 18, 2) := by decide +kernel
theorem dL_day_266 : decode cL_day 266 = .ok (.invokestatic 163, 3) := by decide +kernel
theorem dL_day_269 : decode cL_day 269 = .ok (.iastore, 1) := by decide +kernel
theorem dL_day_270 : decode cL_day 270 = .ok (.iinc 18 1, 3) := by decide +kernel
theorem dL_day_273 : decode cL_day 273 = .ok (.goto (-25), 3) := by decide +kernel
theorem dL_day_276 : decode cL_day 276 = .ok (.aload_n 0, 1) := by decide +kernel
theorem dL_day_277 : decode cL_day 277 = .ok (.iload_n 1, 1) := by decide +kernel
theorem dL_day_278 : decode cL_day 278 = .ok (.ifCond .eq 7, 3) := by decide +kernel
theorem dL_day_281 : decode cL_day 281 = .ok (.iconst 1, 1) := by decide +kernel
theorem dL_day_282 : decode cL_day 282 = .ok (.goto 4, 3) := by decide +kernel
theorem dL_day_285 : decode cL_day 285 = .ok (.iconst 0, 1) := by decide +kernel
theorem dL_day_286 : decode cL_day 286 = .ok (.iconst 0, 1) := by decide +kernel
theorem dL_day_287 : decode cL_day 287 = .ok (.invokestatic 163, 3) := by decide +kernel
theorem dL_day_290 : decode cL_day 290 = .ok (.istore 18, 2) := by decide +kernel
theorem dL_day_292 : decode cL_day 292 = .ok (.iload 16, 2) := by decide +kernel
theorem dL_day_294 : decode cL_day 294 = .ok (.ifCond .ne 30, 3) := by decide +kernel
theorem dL_day_297 : decode cL_day 297 = .ok (.iload 17, 2) := by decide +kernel
theorem dL_day_299 : decode cL_day 299 = .ok (.ifCond .eq 23, 3) := by decide +kernel
theorem dL_day_302 : decode cL_day 302 = .ok (.iload 18, 2) := by decide +kernel
theorem dL_day_304 : decode cL_day 304 = .ok (.bipush (-102), 2) := by decide +kernel
theorem dL_day_306 : decode cL_day 306 = .ok (.if_icmp .ne 16, 3) := by decide +kernel
theorem dL_day_309 : decode cL_day 309 = .ok (.aload_n 0, 1) := by decide +kernel
theorem dL_day_310 : decode cL_day 310 = .ok (.invokestatic 257, 3) := by decide +kernel
theorem dL_day_313 : decode cL_day 313 = .ok (.lload_n 2, 1) := by decide +kernel
theorem dL_day_314 : decode cL_day 314 = .ok (.lcmp, 1) := by decide +kernel
theorem dL_day_315 : decode cL_day 315 = .ok (.ifCond .ne 7, 3) := by decide +kernel
theorem dL_day_318 : decode cL_day 318 = .ok (.iconst 1, 1) := by decide +kernel
theorem dL_day_319 : decode cL_day 319 = .ok (.goto 4, 3) := by decide +kernel
theorem dL_day_322 : decode cL_day 322 = .ok (.iconst 0, 1) := by decide +kernel
theorem dL_day_323 : decode cL_day 323 = .ok (.ireturn, 1) := by decide +kernel
theorem dL_day_324 : decode cL_day 324 = .ok (.iload 17, 2) := by decide +kernel
theorem dL_day_326 : decode cL_day 326 = .ok (.ifCond .eq 57, 3) := by decide +kernel
theorem dL_day_329 : decode cL_day 329 = .ok (.iload 18, 2) := by decide +kernel
theorem dL_day_331 : decode cL_day 331 = .ok (.iload_n 1, 1) := by decide +kernel
theorem dL_day_332 : decode cL_day 332 = .ok (.ifCond .eq 10, 3) := by decide +kernel
theorem dL_day_335 : decode cL_day 335 = .ok (.aload_n 0, 1) := by decide +kernel
theorem dL_day_336 : decode cL_day 336 = .ok (.invokevirtual 240, 3) := by decide +kernel
theorem dL_day_339 : decode cL_day 339 = .ok (.goto 5, 3) := by decide +kernel
theorem dL_day_342 : decode cL_day 342 = .ok (.iload 7, 2) := by decide +kernel
theorem dL_day_344 : decode cL_day 344 = .ok (.if_icmp .ne 39, 3) := by decide +kernel
theorem dL_day_347 : decode cL_day 347 = .ok (.aload_n 0, 1) := by decide +kernel
theorem dL_day_348 : decode cL_day 348 = .ok (.invokevirtual 202, 3) := by decide +kernel
theorem dL_day_351 : decode cL_day 351 = .ok (.iload_n 1, 1) := by decide +kernel
theorem dL_day_352 : decode cL_day 352 = .ok (.ifCond .eq 8, 3) := by decide +kernel
theorem dL_day_355 : decode cL_day 355 = .ok (.iload 6, 2) := by decide +kernel
theorem dL_day_357 : decode cL_day 357 = .ok (.goto 8, 3) := by decide +kernel
theorem dL_day_360 : decode cL_day 360 = .ok (.iload 6, 2) := by decide +kernel
theorem dL_day_362 : decode cL_day 362 = .ok (.iload 7, 2) := by decide +kernel
theorem dL_day_364 : decode cL_day 364 = .ok (.iadd, 1) := by decide +kernel
theorem dL_day_365 : decode cL_day 365 = .ok (.if_icmp .ne 18, 3) := by decide +kernel
theorem dL_day_368 : decode cL_day 368 = .ok (.aload_n 0, 1) := by decide +kernel
theorem dL_day_369 : decode cL_day 369 = .ok (.invokevirtual 205, 3) := by decide +kernel
theorem dL_day_372 : decode cL_day 372 = .ok (.iload 5, 2) := by decide +kernel
theorem dL_day_374 : decode cL_day 374 = .ok (.iconst 1, 1) := by decide +kernel
theorem dL_day_375 : decode cL_day 375 = .ok (.iadd, 1) := by decide +kernel
theorem dL_day_376 : decode cL_day 376 = .ok (.if_icmp .ne 7, 3) := by decide +kernel
theorem dL_day_379 : decode cL_day 379 = .ok (.iconst 1, 1) := by decide +kernel
theorem dL_day_380 : decode cL_day 380 = .ok (.goto 4, 3) := by decide +kernel
theorem dL_day_383 : decode cL_day 383 = .ok (.iconst 0, 1) := by decide +kernel
theorem dL_day_384 : decode cL_day 384 = .ok (.istore 17, 2) := by decide +kernel
theorem dL_day_386 : decode cL_day 386 = .ok (.iconst 0, 1) := by decide +kernel
theorem dL_day_387 : decode cL_day 387 = .ok (.istore 19, 2) := by decide +kernel
theorem dL_day_389 : decode cL_day 389 = .ok (.iload 19, 2) := by decide +kernel
theorem dL_day_391 : decode cL_day 391 = .ok (.iload 4, 2) := by decide +kernel
theorem dL_day_393 : decode cL_day 393 = .ok (.if_icmp .ge 252, 3) := by decide +kernel
theorem dL_day_396 : decode cL_day 396 = .ok (.iload 17, 2) := by decide +kernel
theorem dL_day_398 : decode cL_day 398 = .ok (.ifCond .eq 247, 3) := by decide +kernel
theorem dL_day_401 : decode cL_day 401 = .ok (.aload 12, 2) := by decide +kernel
theorem dL_day_403 : decode cL_day 403 = .ok (.iload 19, 2) := by decide +kernel
theorem dL_day_405 : decode cL_day 405 = .ok (.iaload, 1) := by decide +kernel
theorem dL_day_406 : decode cL_day 406 = .ok (.iconst 1, 1) := by decide +kernel
