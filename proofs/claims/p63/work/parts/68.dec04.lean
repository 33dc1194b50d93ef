theorem dL_call_0 : decode cL_call 0 = .ok (.iload_n 1, 1) := by decide +kernel
theorem dL_call_1 : decode cL_call 1 = .ok (.tableswitch 439 0 40 #[179, 184, 189, 194, 200, 207, 213, 220, 225, 231, 237, 242, 255, 261, 266, 272, 278, 284, 290, 295, 300, 314, 320, 326, 332, 338, 344, 350, 356, 362, 368, 373, 378, 384, 390, 404, 410, 416, 422, 428, 433], 179) := by decide +kernel
theorem dL_call_180 : decode cL_call 180 = .ok (.aload_n 0, 1) := by decide +kernel
theorem dL_call_181 : decode cL_call 181 = .ok (.invokevirtual 7, 3) := by decide +kernel
theorem dL_call_184 : decode cL_call 184 = .ok (.ireturn, 1) := by decide +kernel
theorem dL_call_185 : decode cL_call 185 = .ok (.aload_n 0, 1) := by decide +kernel
theorem dL_call_186 : decode cL_call 186 = .ok (.invokevirtual 13, 3) := by decide +kernel
theorem dL_call_189 : decode cL_call 189 = .ok (.ireturn, 1) := by decide +kernel
theorem dL_call_190 : decode cL_call 190 = .ok (.aload_n 0, 1) := by decide +kernel
theorem dL_call_191 : decode cL_call 191 = .ok (.invokevirtual 16, 3) := by decide +kernel
theorem dL_call_194 : decode cL_call 194 = .ok (.ireturn, 1) := by decide +kernel
theorem dL_call_195 : decode cL_call 195 = .ok (.aload_n 0, 1) := by decide +kernel
theorem dL_call_196 : decode cL_call 196 = .ok (.iload_n 2, 1) := by decide +kernel
theorem dL_call_197 : decode cL_call 197 = .ok (.invokevirtual 19, 3) := by decide +kernel
theorem dL_call_200 : decode cL_call 200 = .ok (.ireturn, 1) := by decide +kernel
theorem dL_call_201 : decode cL_call 201 = .ok (.aload_n 0, 1) := by decide +kernel
theorem dL_call_202 : decode cL_call 202 = .ok (.iload_n 2, 1) := by decide +kernel
theorem dL_call_203 : decode cL_call 203 = .ok (.iload_n 3, 1) := by decide +kernel
theorem dL_call_204 : decode cL_call 204 = .ok (.invokevirtual 23, 3) := by decide +kernel
theorem dL_call_207 : decode cL_call 207 = .ok (.ireturn, 1) := by decide +kernel
theorem dL_call_208 : decode cL_call 208 = .ok (.aload_n 0, 1) := by decide +kernel
theorem dL_call_209 : decode cL_call 209 = .ok (.iload_n 2, 1) := by decide +kernel
theorem dL_call_210 : decode cL_call 210 = .ok (.invokevirtual 27, 3) := by decide +kernel
theorem dL_call_213 : decode cL_call 213 = .ok (.ireturn, 1) := by decide +kernel
theorem dL_call_214 : decode cL_call 214 = .ok (.aload_n 0, 1) := by decide +kernel
theorem dL_call_215 : decode cL_call 215 = .ok (.iload_n 2, 1) := by decide +kernel
theorem dL_call_216 : decode cL_call 216 = .ok (.iload_n 3, 1) := by decide +kernel
theorem dL_call_217 : decode cL_call 217 = .ok (.invokevirtual 30, 3) := by decide +kernel
theorem dL_call_220 : decode cL_call 220 = .ok (.ireturn, 1) := by decide +kernel
theorem dL_call_221 : decode cL_call 221 = .ok (.aload_n 0, 1) := by decide +kernel
theorem dL_call_222 : decode cL_call 222 = .ok (.invokevirtual 33, 3) := by decide +kernel
theorem dL_call_225 : decode cL_call 225 = .ok (.ireturn, 1) := by decide +kernel
theorem dL_call_226 : decode cL_call 226 = .ok (.aload_n 0, 1) := by decide +kernel
theorem dL_call_227 : decode cL_call 227 = .ok (.iload_n 2, 1) := by decide +kernel
theorem dL_call_228 : decode cL_call 228 = .ok (.invokevirtual 36, 3) := by decide +kernel
theorem dL_call_231 : decode cL_call 231 = .ok (.ireturn, 1) := by decide +kernel
theorem dL_call_232 : decode cL_call 232 = .ok (.aload_n 0, 1) := by decide +kernel
theorem dL_call_233 : decode cL_call 233 = .ok (.iload_n 2, 1) := by decide +kernel
theorem dL_call_234 : decode cL_call 234 = .ok (.invokevirtual 39, 3) := by decide +kernel
theorem dL_call_237 : decode cL_call 237 = .ok (.ireturn, 1) := by decide +kernel
theorem dL_call_238 : decode cL_call 238 = .ok (.aload_n 0, 1) := by decide +kernel
theorem dL_call_239 : decode cL_call 239 = .ok (.invokevirtual 42, 3) := by decide +kernel
theorem dL_call_242 : decode cL_call 242 = .ok (.ireturn, 1) := by decide +kernel
theorem dL_call_243 : decode cL_call 243 = .ok (.aload_n 0, 1) := by decide +kernel
theorem dL_call_244 : decode cL_call 244 = .ok (.iload_n 2, 1) := by decide +kernel
theorem dL_call_245 : decode cL_call 245 = .ok (.iload_n 3, 1) := by decide +kernel
theorem dL_call_246 : decode cL_call 246 = .ok (.iload 4, 2) := by decide +kernel
theorem dL_call_248 : decode cL_call 248 = .ok (.iload 5, 2) := by decide +kernel
theorem dL_call_250 : decode cL_call 250 = .ok (.iload 6, 2) := by decide +kernel
theorem dL_call_252 : decode cL_call 252 = .ok (.invokevirtual 45, 3) := by decide +kernel
theorem dL_call_255 : decode cL_call 255 = .ok (.ireturn, 1) := by decide +kernel
theorem dL_call_256 : decode cL_call 256 = .ok (.aload_n 0, 1) := by decide +kernel
theorem dL_call_257 : decode cL_call 257 = .ok (.iload_n 2, 1) := by decide +kernel
theorem dL_call_258 : decode cL_call 258 = .ok (.invokevirtual 49, 3) := by decide +kernel
theorem dL_call_261 : decode cL_call 261 = .ok (.ireturn, 1) := by decide +kernel
theorem dL_call_262 : decode cL_call 262 = .ok (.aload_n 0, 1) := by decide +kernel
theorem dL_call_263 : decode cL_call 263 = .ok (.invokevirtual 52, 3) := by decide +kernel
theorem dL_call_266 : decode cL_call 266 = .ok (.ireturn, 1) := by decide +kernel
theorem dL_call_267 : decode cL_call 267 = .ok (.aload_n 0, 1) := by decide +kernel
theorem dL_call_268 : decode cL_call 268 = .ok (.iload_n 2, 1) := by decide +kernel
theorem dL_call_269 : decode cL_call 269 = .ok (.invokevirtual 55, 3) := by decide +kernel
theorem dL_call_272 : decode cL_call 272 = .ok (.ireturn, 1) := by decide +kernel
theorem dL_call_273 : decode cL_call 273 = .ok (.aload_n 0, 1) := by decide +kernel
theorem dL_call_274 : decode cL_call 274 = .ok (.iload_n 2, 1) := by decide +kernel
theorem dL_call_275 : decode cL_call 275 = .ok (.invokevirtual 58, 3) := by decide +kernel
theorem dL_call_278 : decode cL_call 278 = .ok (.ireturn, 1) := by decide +kernel
theorem dL_call_279 : decode cL_call 279 = .ok (.aload_n 0, 1) := by decide +kernel
theorem dL_call_280 : decode cL_call 280 = .ok (.iload_n 2, 1) := by decide +kernel
theorem dL_call_281 : decode cL_call 281 = .ok (.invokevirtual 61, 3) := by decide +kernel
theorem dL_call_284 : decode cL_call 284 = .ok (.ireturn, 1) := by decide +kernel
theorem dL_call_285 : decode cL_call 285 = .ok (.aload_n 0, 1) := by decide +kernel
theorem dL_call_286 : decode cL_call 286 = .ok (.iload_n 2, 1) := by decide +kernel
theorem dL_call_287 : decode cL_call 287 = .ok (.invokevirtual 64, 3) := by decide +kernel
theorem dL_call_290 : decode cL_call 290 = .ok (.ireturn, 1) := by decide +kernel
theorem dL_call_291 : decode cL_call 291 = .ok (.aload_n 0, 1) := by decide +kernel
theorem dL_call_292 : decode cL_call 292 = .ok (.invokevirtual 67, 3) := by decide +kernel
theorem dL_call_295 : decode cL_call 295 = .ok (.ireturn, 1) := by decide +kernel
theorem dL_call_296 : decode cL_call 296 = .ok (.aload_n 0, 1) := by decide +kernel
theorem dL_call_297 : decode cL_call 297 = .ok (.invokevirtual 70, 3) := by decide +kernel
theorem dL_call_300 : decode cL_call 300 = .ok (.ireturn, 1) := by decide +kernel
theorem dL_call_301 : decode cL_call 301 = .ok (.aload_n 0, 1) := by decide +kernel
theorem dL_call_302 : decode cL_call 302 = .ok (.iload_n 2, 1) := by decide +kernel
theorem dL_call_303 : decode cL_call 303 = .ok (.invokevirtual 73, 3) := by decide +kernel
theorem dL_call_306 : decode cL_call 306 = .ok (.ifCond .eq 7, 3) := by decide +kernel
theorem dL_call_309 : decode cL_call 309 = .ok (.iconst 1, 1) := by decide +kernel
theorem dL_call_310 : decode cL_call 310 = .ok (.goto 4, 3) := by decide +kernel
theorem dL_call_313 : decode cL_call 313 = .ok (.iconst 0, 1) := by decide +kernel
theorem dL_call_314 : decode cL_call 314 = .ok (.ireturn, 1) := by decide +kernel
theorem dL_call_315 : decode cL_call 315 = .ok (.aload_n 0, 1) := by decide +kernel
theorem dL_call_316 : decode cL_call 316 = .ok (.iload_n 2, 1) := by decide +kernel
theorem dL_call_317 : decode cL_call 317 = .ok (.invokevirtual 77, 3) := by decide +kernel
theorem dL_call_320 : decode cL_call 320 = .ok (.ireturn, 1) := by decide +kernel
theorem dL_call_321 : decode cL_call 321 = .ok (.aload_n 0, 1) := by decide +kernel
theorem dL_call_322 : decode cL_call 322 = .ok (.iload_n 2, 1) := by decide +kernel
theorem dL_call_323 : decode cL_call 323 = .ok (.invokevirtual 80, 3) := by decide +kernel
theorem dL_call_326 : decode cL_call 326 = .ok (.ireturn, 1) := by decide +kernel
theorem dL_call_327 : decode cL_call 327 = .ok (.aload_n 0, 1) := by decide +kernel
theorem dL_call_328 : decode cL_call 328 = .ok (.iload_n 2, 1) := by decide +kernel
theorem dL_call_329 : decode cL_call 329 = .ok (.invokevirtual 83, 3) := by decide +kernel
theorem dL_call_332 : decode cL_call 332 = .ok (.ireturn, 1) := by decide +kernel
theorem dL_call_333 : decode cL_call 333 = .ok (.aload_n 0, 1) := by decide +kernel
theorem dL_call_334 : decode cL_call 334 = .ok (.iload_n 2, 1) := by decide +kernel
theorem dL_call_335 : decode cL_call 335 = .ok (.invokevirtual 86, 3) := by decide +kernel
theorem dL_call_338 : decode cL_call 338 = .ok (.ireturn, 1) := by decide +kernel
theorem dL_call_339 : decode cL_call 339 = .ok (.aload_n 0, 1) := by decide +kernel
theorem dL_call_340 : decode cL_call 340 = .ok (.iload_n 2, 1) := by decide +kernel
theorem dL_call_341 : decode cL_call 341 = .ok (.invokevirtual 89, 3) := by decide +kernel
theorem dL_call_344 : decode cL_call 344 = .ok (.ireturn, 1) := by decide +kernel
theorem dL_call_345 : decode cL_call 345 = .ok (.aload_n 0, 1) := by decide +kernel
theorem dL_call_346 : decode cL_call 346 = .ok (.iload_n 2, 1) := by decide +kernel
theorem dL_call_347 : decode cL_call 347 = .ok (.invokevirtual 92, 3) := by decide +kernel
theorem dL_call_350 : decode cL_call 350 = .ok (.ireturn, 1) := by decide +kernel
theorem dL_call_351 : decode cL_call 351 = .ok (.aload_n 0, 1) := by decide +kernel
theorem dL_call_352 : decode cL_call 352 = .ok (.iload_n 2, 1) := by decide +kernel
theorem dL_call_353 : decode cL_call 353 = .ok (.invokevirtual 95, 3) := by decide +kernel
theorem dL_call_356 : decode cL_call 356 = .ok (.ireturn, 1) := by decide +kernel
theorem dL_call_357 : decode cL_call 357 = .ok (.aload_n 0, 1) := by decide +kernel
theorem dL_call_358 : decode cL_call 358 = .ok (.iload_n 2, 1) := by decide +kernel
theorem dL_call_359 : decode cL_call 359 = .ok (.invokevirtual 98, 3) := by decide +kernel
theorem dL_call_362 : decode cL_call 362 = .ok (.ireturn, 1) := by decide +kernel
theorem dL_call_363 : decode cL_call 363 = .ok (.aload_n 0, 1) := by decide +kernel
theorem dL_call_364 : decode cL_call 364 = .ok (.iload_n 2, 1) := by decide +kernel
theorem dL_call_365 : decode cL_call 365 = .ok (.invokevirtual 101, 3) := by decide +kernel
theorem dL_call_368 : decode cL_call 368 = .ok (.ireturn, 1) := by decide +kernel
theorem dL_call_369 : decode cL_call 369 = .ok (.aload_n 0, 1) := by decide +kernel
theorem dL_call_370 : decode cL_call 370 = .ok (.invokevirtual 104, 3) := by decide +kernel
theorem dL_call_373 : decode cL_call 373 = .ok (.ireturn, 1) := by decide +kernel
theorem dL_call_374 : decode cL_call 374 = .ok (.aload_n 0, 1) := by decide +kernel
theorem dL_call_375 : decode cL_call 375 = .ok (.invokevirtual 107, 3) := by decide +kernel
theorem dL_call_378 : decode cL_call 378 = .ok (.ireturn, 1) := by decide +kernel
theorem dL_call_379 : decode cL_call 379 = .ok (.aload_n 0, 1) := by decide +kernel
theorem dL_call_380 : decode cL_call 380 = .ok (.iload_n 2, 1) := by decide +kernel
theorem dL_call_381 : decode cL_call 381 = .ok (.invokevirtual 110, 3) := by decide +kernel
theorem dL_call_384 : decode cL_call 384 = .ok (.ireturn, 1) := by decide +kernel
theorem dL_call_385 : decode cL_call 385 = .ok (.aload_n 0, 1) := by decide +kernel
theorem dL_call_386 : decode cL_call 386 = .ok (.iload_n 2, 1) := by decide +kernel
theorem dL_call_387 : decode cL_call 387 = .ok (.invokevirtual 113, 3) := by decide +kernel
theorem dL_call_390 : decode cL_call 390 = .ok (.ireturn, 1) := by decide +kernel
theorem dL_call_391 : decode cL_call 391 = .ok (.aload_n 0, 1) := by decide +kernel
theorem dL_call_392 : decode cL_call 392 = .ok (.iload_n 2, 1) := by decide +kernel
theorem dL_call_393 : decode cL_call 393 = .ok (.invokevirtual 116, 3) := by decide +kernel
theorem dL_call_396 : decode cL_call 396 = .ok (.ifCond .eq 7, 3) := by decide +kernel
theorem dL_call_399 : decode cL_call 399 = .ok (.iconst 1, 1) := by decide +kernel
theorem dL_call_400 : decode cL_call 400 = .ok (.goto 4, 3) := by decide +kernel
theorem dL_call_403 : decode cL_call 403 = .ok (.iconst 0, 1) := by decide +kernel
theorem dL_call_404 : decode cL_call 404 = .ok (.ireturn, 1) := by decide +kernel
theorem dL_call_405 : decode cL_call 405 = .ok (.aload_n 0, 1) := by decide +kernel
theorem dL_call_406 : decode cL_call 406 = .ok (.iload_n 2, 1) := by decide +kernel
theorem dL_call_407 : decode cL_call 407 = .ok (.invokevirtual 119, 3) := by decide +kernel
theorem dL_call_410 : decode cL_call 410 = .ok (.ireturn, 1) := by decide +kernel
theorem dL_call_411 : decode cL_call 411 = .ok (.aload_n 0, 1) := by decide +kernel
theorem dL_call_412 : decode cL_call 412 = .ok (.iload_n 2, 1) := by decide +kernel
theorem dL_call_413 : decode cL_call 413 = .ok (.invokevirtual 122, 3) := by decide +kernel
theorem dL_call_416 : decode cL_call 416 = .ok (.ireturn, 1) := by decide +kernel
theorem dL_call_417 : decode cL_call 417 = .ok (.aload_n 0, 1) := by decide +kernel
theorem dL_call_418 : decode cL_call 418 = .ok (.iload_n 2, 1) := by decide +kernel
theorem dL_call_419 : decode cL_call 419 = .ok (.invokevirtual 125, 3) := by decide +kernel
theorem dL_call_422 : decode cL_call 422 = .ok (.ireturn, 1) := by decide +kernel
theorem dL_call_423 : decode cL_call 423 = .ok (.aload_n 0, 1) := by decide +kernel
theorem dL_call_424 : decode cL_call 424 = .ok (.iload_n 2, 1) := by decide +kernel
theorem dL_call_425 : decode cL_call 425 = .ok (.invokevirtual 128, 3) := by decide +kernel
theorem dL_call_428 : decode cL_call 428 = .ok (.ireturn, 1) := by decide +kernel
theorem dL_call_429 : decode cL_call 429 = .ok (.aload_n 0, 1) := by decide +kernel
theorem dL_call_430 : decode cL_call 430 = .ok (.invokevirtual 131, 3) := by decide +kernel
theorem dL_call_433 : decode cL_call 433 = .ok (.ireturn, 1) := by decide +kernel
theorem dL_call_434 : decode cL_call 434 = .ok (.aload_n 0, 1) := by decide +kernel
theorem dL_call_435 : decode cL_call 435 = .ok (.iload_n 2, 1) := by decide +kernel
theorem dL_call_436 : decode cL_call 436 = .ok (.invokevirtual 134, 3) := by decide +kernel
theorem dL_call_439 : decode cL_call 439 = .ok (.ireturn, 1) := by decide +kernel
theorem dL_call_440 : decode cL_call 440 = .ok (.aload_n 0, 1) := by decide +kernel
theorem dL_call_441 : decode cL_call 441 = .ok (.iload_n 2, 1) := by decide +kernel
theorem dL_call_442 : decode cL_call 442 = .ok (.invokevirtual 137, 3) := by decide +kernel
theorem dL_call_445 : decode cL_call 445 = .ok (.ireturn, 1) := by decide +kernel
theorem dL_call_446 : decode cL_call 446 = .ok (.astore 7, 2) := by decide +kernel
theorem dL_call_448 : decode cL_call 448 = .ok (.bipush (-101), 2) := by decide +kernel
theorem dL_call_450 : decode cL_call 450 = .ok (.ireturn, 1) := by decide +kernel
theorem dL_call_451 : decode cL_call 451 = .ok (.astore 7, 2) := by decide +kernel
theorem dL_call_453 : decode cL_call 453 = .ok (.bipush (-102), 2) := by decide +kernel
theorem dL_call_455 : decode cL_call 455 = .ok (.ireturn, 1) := by decide +kernel
theorem dL_call_456 : decode cL_call 456 = .ok (.astore 7, 2) := by decide +kernel
theorem dL_call_458 : decode cL_call 458 = .ok (.bipush (-103), 2) := by decide +kernel
theorem dL_call_460 : decode cL_call 460 = .ok (.ireturn, 1) := by decide +kernel
theorem dL_call_461 : decode cL_call 461 = .ok (.astore 7, 2) := by decide +kernel
theorem dL_call_463 : decode cL_call 463 = .ok (.bipush (-104), 2) := by decide +kernel
theorem dL_call_465 : decode cL_call 465 = .ok (.ireturn, 1) := by decide +kernel
theorem dL_call__0 : decode cL_call_ 0 = .ok (.aload_n 0, 1) := by decide +kernel
theorem dL_call__1 : decode cL_call_ 1 = .ok (.iload_n 1, 1) := by decide +kernel
theorem dL_call__2 : decode cL_call_ 2 = .ok (.iload_n 2, 1) := by decide +kernel
theorem dL_call__3 : decode cL_call_ 3 = .ok (.iload_n 3, 1) := by decide +kernel
theorem dL_call__4 : decode cL_call_ 4 = .ok (.iconst 0, 1) := by decide +kernel
theorem dL_call__5 : decode cL_call_ 5 = .ok (.iconst 0, 1) := by decide +kernel
theorem dL_call__6 : decode cL_call_ 6 = .ok (.iconst 0, 1) := by decide +kernel
theorem dL_call__7 : decode cL_call_ 7 = .ok (.invokestatic 150, 3) := by decide +kernel
theorem dL_call__10 : decode cL_call_ 10 = .ok (.ireturn, 1) := by decide +kernel
theorem dL_call___0 : decode cL_call__ 0 = .ok (.aload_n 0, 1) := by decide +kernel
theorem dL_call___1 : decode cL_call__ 1 = .ok (.iload_n 1, 1) := by decide +kernel
theorem dL_call___2 : decode cL_call__ 2 = .ok (.iload_n 2, 1) := by decide +kernel
theorem dL_call___3 : decode cL_call__ 3 = .ok (.iconst 0, 1) := by decide +kernel
theorem dL_call___4 : decode cL_call__ 4 = .ok (.iconst 0, 1) := by decide +kernel
theorem dL_call___5 : decode cL_call__ 5 = .ok (.iconst 0, 1) := by decide +kernel
theorem dL_call___6 : decode cL_call__ 6 = .ok (.iconst 0, 1) := by decide +kernel
theorem dL_call___7 : decode cL_call__ 7 = .ok (.invokestatic 150, 3) := by decide +kernel
theorem dL_call___10 : decode cL_call__ 10 = .ok (.ireturn, 1) := by decide +kernel
theorem dL_feeds_0 : decode cL_feeds 0 = .ok (.iconst 0, 1) := by decide +kernel
theorem dL_feeds_1 : decode cL_feeds 1 = .ok (.istore_n 2, 1) := by decide +kernel
theorem dL_feeds_2 : decode cL_feeds 2 = .ok (.iload_n 2, 1) := by decide +kernel
theorem dL_feeds_3 : decode cL_feeds 3 = .ok (.aload_n 1, 1) := by decide +kernel
theorem dL_feeds_4 : decode cL_feeds 4 = .ok (.invokevirtual 154, 3) := by decide +kernel
theorem dL_feeds_7 : decode cL_feeds 7 = .ok (.if_icmp .ge 103, 3) := by decide +kernel
theorem dL_feeds_10 : decode cL_feeds 10 = .ok (.iconst 5, 1) := by decide +kernel
theorem dL_feeds_11 : decode cL_feeds 11 = .ok (.newarray .int, 2) := by decide +kernel
theorem dL_feeds_13 : decode cL_feeds 13 = .ok (.astore_n 3, 1) := by decide +kernel
theorem dL_feeds_14 : decode cL_feeds 14 = .ok (.iconst 0, 1) := by decide +kernel
theorem dL_feeds_15 : decode cL_feeds 15 = .ok (.istore 4, 2) := by decide +kernel
theorem dL_feeds_17 : decode cL_feeds 17 = .ok (.iload 4, 2) := by decide +kernel
theorem dL_feeds_19 : decode cL_feeds 19 = .ok (.bipush 20, 2) := by decide +kernel
theorem dL_feeds_21 : decode cL_feeds 21 = .ok (.if_icmp .ge 53, 3) := by decide +kernel
theorem dL_feeds_24 : decode cL_feeds 24 = .ok (.aload_n 3, 1) := by decide +kernel
theorem dL_feeds_25 : decode cL_feeds 25 = .ok (.iload 4, 2) := by decide +kernel
theorem dL_feeds_27 : decode cL_feeds 27 = .ok (.iconst 4, 1) := by decide +kernel
theorem dL_feeds_28 : decode cL_feeds 28 = .ok (.idiv, 1) := by decide +kernel
theorem dL_feeds_29 : decode cL_feeds 29 = .ok (.dup2, 1) := by decide +kernel
theorem dL_feeds_30 : decode cL_feeds 30 = .ok (.iaload, 1) := by decide +kernel
theorem dL_feeds_31 : decode cL_feeds 31 = .ok (.iload_n 2, 1) := by decide +kernel
theorem dL_feeds_32 : decode cL_feeds 32 = .ok (.iload 4, 2) := by decide +kernel
theorem dL_feeds_34 : decode cL_feeds 34 = .ok (.iadd, 1) := by decide +kernel
theorem dL_feeds_35 : decode cL_feeds 35 = .ok (.aload_n 1, 1) := by decide +kernel
theorem dL_feeds_36 : decode cL_feeds 36 = .ok (.invokevirtual 154, 3) := by decide +kernel
theorem dL_feeds_39 : decode cL_feeds 39 = .ok (.if_icmp .ge 14, 3) := by decide +kernel
theorem dL_feeds_42 : decode cL_feeds 42 = .ok (.aload_n 1, 1) := by decide +kernel
theorem dL_feeds_43 : decode cL_feeds 43 = .ok (.iload_n 2, 1) := by decide +kernel
theorem dL_feeds_44 : decode cL_feeds 44 = .ok (.iload 4, 2) := by decide +kernel
theorem dL_feeds_46 : decode cL_feeds 46 = .ok (.iadd, 1) := by decide +kernel
theorem dL_feeds_47 : decode cL_feeds 47 = .ok (.invokevirtual 159, 3) := by decide +kernel
theorem dL_feeds_50 : decode cL_feeds 50 = .ok (.goto 5, 3) := by decide +kernel
theorem dL_feeds_53 : decode cL_feeds 53 = .ok (.bipush 32, 2) := by decide +kernel
theorem dL_feeds_55 : decode cL_feeds 55 = .ok (.bipush 24, 2) := by decide +kernel
theorem dL_feeds_57 : decode cL_feeds 57 = .ok (.bipush 8, 2) := by decide +kernel
theorem dL_feeds_59 : decode cL_feeds 59 = .ok (.iload 4, 2) := by decide +kernel
theorem dL_feeds_61 : decode cL_feeds 61 = .ok (.iconst 4, 1) := by decide +kernel
theorem dL_feeds_62 : decode cL_feeds 62 = .ok (.irem, 1) := by decide +kernel
theorem dL_feeds_63 : decode cL_feeds 63 = .ok (.imul, 1) := by decide +kernel
theorem dL_feeds_64 : decode cL_feeds 64 = .ok (.isub, 1) := by decide +kernel
theorem dL_feeds_65 : decode cL_feeds 65 = .ok (.ishl, 1) := by decide +kernel
theorem dL_feeds_66 : decode cL_feeds 66 = .ok (.ior, 1) := by decide +kernel
theorem dL_feeds_67 : decode cL_feeds 67 = .ok (.iastore, 1) := by decide +kernel
theorem dL_feeds_68 : decode cL_feeds 68 = .ok (.iinc 4 1, 3) := by decide +kernel
theorem dL_feeds_71 : decode cL_feeds 71 = .ok (.goto (-54), 3) := by decide +kernel
theorem dL_feeds_74 : decode cL_feeds 74 = .ok (.aload_n 0, 1) := by decide +kernel
theorem dL_feeds_75 : decode cL_feeds 75 = .ok (.bipush 11, 2) := by decide +kernel
theorem dL_feeds_77 : decode cL_feeds 77 = .ok (.aload_n 3, 1) := by decide +kernel
theorem dL_feeds_78 : decode cL_feeds 78 = .ok (.iconst 0, 1) := by decide +kernel
theorem dL_feeds_79 : decode cL_feeds 79 = .ok (.iaload, 1) := by decide +kernel
theorem dL_feeds_80 : decode cL_feeds 80 = .ok (.aload_n 3, 1) := by decide +kernel
theorem dL_feeds_81 : decode cL_feeds 81 = .ok (.iconst 1, 1) := by decide +kernel
theorem dL_feeds_82 : decode cL_feeds 82 = .ok (.iaload, 1) := by decide +kernel
theorem dL_feeds_83 : decode cL_feeds 83 = .ok (.aload_n 3, 1) := by decide +kernel
theorem dL_feeds_84 : decode cL_feeds 84 = .ok (.iconst 2, 1) := by decide +kernel
theorem dL_feeds_85 : decode cL_feeds 85 = .ok (.iaload, 1) := by decide +kernel
theorem dL_feeds_86 : decode cL_feeds 86 = .ok (.aload_n 3, 1) := by decide +kernel
theorem dL_feeds_87 : decode cL_feeds 87 = .ok (.iconst 3, 1) := by decide +kernel
theorem dL_feeds_88 : decode cL_feeds 88 = .ok (.iaload, 1) := by decide +kernel
theorem dL_feeds_89 : decode cL_feeds 89 = .ok (.aload_n 3, 1) := by decide +kernel
theorem dL_feeds_90 : decode cL_feeds 90 = .ok (.iconst 4, 1) := by decide +kernel
theorem dL_feeds_91 : decode cL_feeds 91 = .ok (.iaload, 1) := by decide +kernel
theorem dL_feeds_92 : decode cL_feeds 92 = .ok (.invokestatic 150, 3) := by decide +kernel
theorem dL_feeds_95 : decode cL_feeds 95 = .ok (.iload_n 2, 1) := by decide +kernel
theorem dL_feeds_96 : decode cL_feeds 96 = .ok (.bipush 20, 2) := by decide +kernel
theorem dL_feeds_98 : decode cL_feeds 98 = .ok (.iadd, 1) := by decide +kernel
theorem dL_feeds_99 : decode cL_feeds 99 = .ok (.if_icmp .eq 5, 3) := by decide +kernel
theorem dL_feeds_102 : decode cL_feeds 102 = .ok (.iconst 0, 1) := by decide +kernel
theorem dL_feeds_103 : decode cL_feeds 103 = .ok (.ireturn, 1) := by decide +kernel
theorem dL_feeds_104 : decode cL_feeds 104 = .ok (.iinc 2 20, 3) := by decide +kernel
theorem dL_feeds_107 : decode cL_feeds 107 = .ok (.goto (-105), 3) := by decide +kernel
theorem dL_feeds_110 : decode cL_feeds 110 = .ok (.aload_n 0, 1) := by decide +kernel
theorem dL_feeds_111 : decode cL_feeds 111 = .ok (.bipush 12, 2) := by decide +kernel
theorem dL_feeds_113 : decode cL_feeds 113 = .ok (.aload_n 1, 1) := by decide +kernel
theorem dL_feeds_114 : decode cL_feeds 114 = .ok (.invokevirtual 154, 3) := by decide +kernel
theorem dL_feeds_117 : decode cL_feeds 117 = .ok (.invokestatic 163, 3) := by decide +kernel
theorem dL_feeds_120 : decode cL_feeds 120 = .ok (.aload_n 1, 1) := by decide +kernel
theorem dL_feeds_121 : decode cL_feeds 121 = .ok (.invokevirtual 154, 3) := by decide +kernel
theorem dL_feeds_124 : decode cL_feeds 124 = .ok (.if_icmp .ne 7, 3) := by decide +kernel
theorem dL_feeds_127 : decode cL_feeds 127 = .ok (.iconst 1, 1) := by decide +kernel
theorem dL_feeds_128 : decode cL_feeds 128 = .ok (.goto 4, 3) := by decide +kernel
theorem dL_feeds_131 : decode cL_feeds 131 = .ok (.iconst 0, 1) := by decide +kernel
theorem dL_feeds_132 : decode cL_feeds 132 = .ok (.ireturn, 1) := by decide +kernel
theorem dL_route_0 : decode cL_route 0 = .ok (.new 166, 3) := by decide +kernel
theorem dL_route_3 : decode cL_route 3 = .ok (.dup, 1) := by decide +kernel
theorem dL_route_4 : decode cL_route 4 = .ok (.ldc 168, 2) := by decide +kernel
theorem dL_route_6 : decode cL_route 6 = .ok (.invokespecial 170, 3) := by decide +kernel
theorem dL_route_9 : decode cL_route 9 = .ok (.bipush 60, 2) := by decide +kernel
theorem dL_route_11 : decode cL_route 11 = .ok (.iload_n 0, 1) := by decide +kernel
theorem dL_route_12 : decode cL_route 12 = .ok (.sipush 255, 3) := by decide +kernel
theorem dL_route_15 : decode cL_route 15 = .ok (.iand, 1) := by decide +kernel
theorem dL_route_16 : decode cL_route 16 = .ok (.iadd, 1) := by decide +kernel
theorem dL_route_17 : decode cL_route 17 = .ok (.invokevirtual 173, 3) := by decide +kernel
theorem dL_route_20 : decode cL_route 20 = .ok (.bipush 59, 2) := by decide +kernel
theorem dL_route_22 : decode cL_route 22 = .ok (.invokevirtual 176, 3) := by decide +kernel
theorem dL_route_25 : decode cL_route 25 = .ok (.astore_n 2, 1) := by decide +kernel
theorem dL_route_26 : decode cL_route 26 = .ok (.iload_n 1, 1) := by decide +kernel
theorem dL_route_27 : decode cL_route 27 = .ok (.istore_n 3, 1) := by decide +kernel
theorem dL_route_28 : decode cL_route 28 = .ok (.iconst 1, 1) := by decide +kernel
theorem dL_route_29 : decode cL_route 29 = .ok (.iload_n 0, 1) := by decide +kernel
theorem dL_route_30 : decode cL_route 30 = .ok (.iconst 3, 1) := by decide +kernel
theorem dL_route_31 : decode cL_route 31 = .ok (.ishr, 1) := by decide +kernel
theorem dL_route_32 : decode cL_route 32 = .ok (.sipush 255, 3) := by decide +kernel
theorem dL_route_35 : decode cL_route 35 = .ok (.iand, 1) := by decide +kernel
theorem dL_route_36 : decode cL_route 36 = .ok (.iconst 5, 1) := by decide +kernel
theorem dL_route_37 : decode cL_route 37 = .ok (.irem, 1) := by decide +kernel
theorem dL_route_38 : decode cL_route 38 = .ok (.iadd, 1) := by decide +kernel
theorem dL_route_39 : decode cL_route 39 = .ok (.istore 4, 2) := by decide +kernel
theorem dL_route_41 : decode cL_route 41 = .ok (.iconst 5, 1) := by decide +kernel
theorem dL_route_42 : decode cL_route 42 = .ok (.newarray .int, 2) := by decide +kernel
theorem dL_route_44 : decode cL_route 44 = .ok (.astore 5, 2) := by decide +kernel
theorem dL_route_46 : decode cL_route 46 = .ok (.iconst 0, 1) := by decide +kernel
theorem dL_route_47 : decode cL_route 47 = .ok (.istore 6, 2) := by decide +kernel
theorem dL_route_49 : decode cL_route 49 = .ok (.iload 6, 2) := by decide +kernel
theorem dL_route_51 : decode cL_route 51 = .ok (.iload 4, 2) := by decide +kernel
theorem dL_route_53 : decode cL_route 53 = .ok (.if_icmp .ge 94, 3) := by decide +kernel
theorem dL_route_56 : decode cL_route 56 = .ok (.iload_n 3, 1) := by decide +kernel
theorem dL_route_57 : decode cL_route 57 = .ok (.ldc 179, 2) := by decide +kernel
theorem dL_route_59 : decode cL_route 59 = .ok (.imul, 1) := by decide +kernel
theorem dL_route_60 : decode cL_route 60 = .ok (.sipush 12345, 3) := by decide +kernel
theorem dL_route_63 : decode cL_route 63 = .ok (.iadd, 1) := by decide +kernel
theorem dL_route_64 : decode cL_route 64 = .ok (.istore_n 3, 1) := by decide +kernel
theorem dL_route_65 : decode cL_route 65 = .ok (.aload 5, 2) := by decide +kernel
theorem dL_route_67 : decode cL_route 67 = .ok (.iload 6, 2) := by decide +kernel
theorem dL_route_69 : decode cL_route 69 = .ok (.bipush 20, 2) := by decide +kernel
theorem dL_route_71 : decode cL_route 71 = .ok (.iconst 1, 1) := by decide +kernel
theorem dL_route_72 : decode cL_route 72 = .ok (.iload_n 3, 1) := by decide +kernel
theorem dL_route_73 : decode cL_route 73 = .ok (.bipush 15, 2) := by decide +kernel
theorem dL_route_75 : decode cL_route 75 = .ok (.ishr, 1) := by decide +kernel
theorem dL_route_76 : decode cL_route 76 = .ok (.bipush 7, 2) := by decide +kernel
theorem dL_route_78 : decode cL_route 78 = .ok (.iand, 1) := by decide +kernel
theorem dL_route_79 : decode cL_route 79 = .ok (.iadd, 1) := by decide +kernel
theorem dL_route_80 : decode cL_route 80 = .ok (.imul, 1) := by decide +kernel
theorem dL_route_81 : decode cL_route 81 = .ok (.iastore, 1) := by decide +kernel
theorem dL_route_82 : decode cL_route 82 = .ok (.aload_n 2, 1) := by decide +kernel
theorem dL_route_83 : decode cL_route 83 = .ok (.ldc 180, 2) := by decide +kernel
theorem dL_route_85 : decode cL_route 85 = .ok (.invokevirtual 182, 3) := by decide +kernel
theorem dL_route_88 : decode cL_route 88 = .ok (.bipush 10, 2) := by decide +kernel
theorem dL_route_90 : decode cL_route 90 = .ok (.iload_n 3, 1) := by decide +kernel
theorem dL_route_91 : decode cL_route 91 = .ok (.bipush 8, 2) := by decide +kernel
theorem dL_route_93 : decode cL_route 93 = .ok (.ishr, 1) := by decide +kernel
theorem dL_route_94 : decode cL_route 94 = .ok (.bipush 31, 2) := by decide +kernel
theorem dL_route_96 : decode cL_route 96 = .ok (.iand, 1) := by decide +kernel
theorem dL_route_97 : decode cL_route 97 = .ok (.iadd, 1) := by decide +kernel
theorem dL_route_98 : decode cL_route 98 = .ok (.invokevirtual 173, 3) := by decide +kernel
theorem dL_route_101 : decode cL_route 101 = .ok (.bipush 32, 2) := by decide +kernel
theorem dL_route_103 : decode cL_route 103 = .ok (.invokevirtual 176, 3) := by decide +kernel
theorem dL_route_106 : decode cL_route 106 = .ok (.aload 5, 2) := by decide +kernel
theorem dL_route_108 : decode cL_route 108 = .ok (.iload 6, 2) := by decide +kernel
theorem dL_route_110 : decode cL_route 110 = .ok (.iaload, 1) := by decide +kernel
theorem dL_route_111 : decode cL_route 111 = .ok (.bipush 20, 2) := by decide +kernel
theorem dL_route_113 : decode cL_route 113 = .ok (.idiv, 1) := by decide +kernel
theorem dL_route_114 : decode cL_route 114 = .ok (.invokevirtual 173, 3) := by decide +kernel
theorem dL_route_117 : decode cL_route 117 = .ok (.bipush 32, 2) := by decide +kernel
theorem dL_route_119 : decode cL_route 119 = .ok (.invokevirtual 176, 3) := by decide +kernel
theorem dL_route_122 : decode cL_route 122 = .ok (.bipush 10, 2) := by decide +kernel
theorem dL_route_124 : decode cL_route 124 = .ok (.iload_n 3, 1) := by decide +kernel
theorem dL_route_125 : decode cL_route 125 = .ok (.bipush 18, 2) := by decide +kernel
theorem dL_route_127 : decode cL_route 127 = .ok (.ishr, 1) := by decide +kernel
theorem dL_route_128 : decode cL_route 128 = .ok (.bipush 63, 2) := by decide +kernel
theorem dL_route_130 : decode cL_route 130 = .ok (.iand, 1) := by decide +kernel
theorem dL_route_131 : decode cL_route 131 = .ok (.iadd, 1) := by decide +kernel
theorem dL_route_132 : decode cL_route 132 = .ok (.invokevirtual 173, 3) := by decide +kernel
theorem dL_route_135 : decode cL_route 135 = .ok (.bipush 59, 2) := by decide +kernel
theorem dL_route_137 : decode cL_route 137 = .ok (.invokevirtual 176, 3) := by decide +kernel
theorem dL_route_140 : decode cL_route 140 = .ok (.pop, 1) := by decide +kernel
theorem dL_route_141 : decode cL_route 141 = .ok (.iinc 6 1, 3) := by decide +kernel
theorem dL_route_144 : decode cL_route 144 = .ok (.goto (-95), 3) := by decide +kernel
theorem dL_route_147 : decode cL_route 147 = .ok (.iconst 0, 1) := by decide +kernel
theorem dL_route_148 : decode cL_route 148 = .ok (.istore 6, 2) := by decide +kernel
theorem dL_route_150 : decode cL_route 150 = .ok (.iload 6, 2) := by decide +kernel
theorem dL_route_152 : decode cL_route 152 = .ok (.iload_n 0, 1) := by decide +kernel
theorem dL_route_153 : decode cL_route 153 = .ok (.bipush 6, 2) := by decide +kernel
theorem dL_route_155 : decode cL_route 155 = .ok (.ishr, 1) := by decide +kernel
theorem dL_route_156 : decode cL_route 156 = .ok (.iconst 3, 1) := by decide +kernel
theorem dL_route_157 : decode cL_route 157 = .ok (.iand, 1) := by decide +kernel
theorem dL_route_158 : decode cL_route 158 = .ok (.if_icmp .ge 78, 3) := by decide +kernel
theorem dL_route_161 : decode cL_route 161 = .ok (.iload_n 3, 1) := by decide +kernel
theorem dL_route_162 : decode cL_route 162 = .ok (.ldc 179, 2) := by decide +kernel
theorem dL_route_164 : decode cL_route 164 = .ok (.imul, 1) := by decide +kernel
theorem dL_route_165 : decode cL_route 165 = .ok (.sipush 12345, 3) := by decide +kernel
theorem dL_route_168 : decode cL_route 168 = .ok (.iadd, 1) := by decide +kernel
theorem dL_route_169 : decode cL_route 169 = .ok (.istore_n 3, 1) := by decide +kernel
theorem dL_route_170 : decode cL_route 170 = .ok (.aload_n 2, 1) := by decide +kernel
theorem dL_route_171 : decode cL_route 171 = .ok (.ldc 185, 2) := by decide +kernel
theorem dL_route_173 : decode cL_route 173 = .ok (.invokevirtual 182, 3) := by decide +kernel
theorem dL_route_176 : decode cL_route 176 = .ok (.bipush 20, 2) := by decide +kernel
theorem dL_route_178 : decode cL_route 178 = .ok (.iload 6, 2) := by decide +kernel
theorem dL_route_180 : decode cL_route 180 = .ok (.imul, 1) := by decide +kernel
theorem dL_route_181 : decode cL_route 181 = .ok (.iload_n 3, 1) := by decide +kernel
theorem dL_route_182 : decode cL_route 182 = .ok (.bipush 8, 2) := by decide +kernel
theorem dL_route_184 : decode cL_route 184 = .ok (.ishr, 1) := by decide +kernel
theorem dL_route_185 : decode cL_route 185 = .ok (.bipush 15, 2) := by decide +kernel
theorem dL_route_187 : decode cL_route 187 = .ok (.iand, 1) := by decide +kernel
theorem dL_route_188 : decode cL_route 188 = .ok (.iadd, 1) := by decide +kernel
theorem dL_route_189 : decode cL_route 189 = .ok (.invokevirtual 173, 3) := by decide +kernel
theorem dL_route_192 : decode cL_route 192 = .ok (.bipush 32, 2) := by decide +kernel
theorem dL_route_194 : decode cL_route 194 = .ok (.invokevirtual 176, 3) := by decide +kernel
theorem dL_route_197 : decode cL_route 197 = .ok (.iconst 1, 1) := by decide +kernel
theorem dL_route_198 : decode cL_route 198 = .ok (.iload_n 3, 1) := by decide +kernel
theorem dL_route_199 : decode cL_route 199 = .ok (.bipush 12, 2) := by decide +kernel
theorem dL_route_201 : decode cL_route 201 = .ok (.ishr, 1) := by decide +kernel
theorem dL_route_202 : decode cL_route 202 = .ok (.bipush 127, 2) := by decide +kernel
theorem dL_route_204 : decode cL_route 204 = .ok (.iand, 1) := by decide +kernel
theorem dL_route_205 : decode cL_route 205 = .ok (.iadd, 1) := by decide +kernel
theorem dL_route_206 : decode cL_route 206 = .ok (.invokevirtual 173, 3) := by decide +kernel
theorem dL_route_209 : decode cL_route 209 = .ok (.bipush 32, 2) := by decide +kernel
theorem dL_route_211 : decode cL_route 211 = .ok (.invokevirtual 176, 3) := by decide +kernel
theorem dL_route_214 : decode cL_route 214 = .ok (.iload_n 3, 1) := by decide +kernel
theorem dL_route_215 : decode cL_route 215 = .ok (.bipush 19, 2) := by decide +kernel
theorem dL_route_217 : decode cL_route 217 = .ok (.ishr, 1) := by decide +kernel
theorem dL_route_218 : decode cL_route 218 = .ok (.bipush 31, 2) := by decide +kernel
theorem dL_route_220 : decode cL_route 220 = .ok (.iand, 1) := by decide +kernel
theorem dL_route_221 : decode cL_route 221 = .ok (.invokevirtual 173, 3) := by decide +kernel
theorem dL_route_224 : decode cL_route 224 = .ok (.bipush 59, 2) := by decide +kernel
theorem dL_route_226 : decode cL_route 226 = .ok (.invokevirtual 176, 3) := by decide +kernel
theorem dL_route_229 : decode cL_route 229 = .ok (.pop, 1) := by decide +kernel
theorem dL_route_230 : decode cL_route 230 = .ok (.iinc 6 1, 3) := by decide +kernel
theorem dL_route_233 : decode cL_route 233 = .ok (.goto (-83), 3) := by decide +kernel
theorem dL_route_236 : decode cL_route 236 = .ok (.iconst 0, 1) := by decide +kernel
theorem dL_route_237 : decode cL_route 237 = .ok (.istore 6, 2) := by decide +kernel
theorem dL_route_239 : decode cL_route 239 = .ok (.iload 6, 2) := by decide +kernel
theorem dL_route_241 : decode cL_route 241 = .ok (.iload_n 0, 1) := by decide +kernel
theorem dL_route_242 : decode cL_route 242 = .ok (.bipush 8, 2) := by decide +kernel
theorem dL_route_244 : decode cL_route 244 = .ok (.ishr, 1) := by decide +kernel
theorem dL_route_245 : decode cL_route 245 = .ok (.iconst 3, 1) := by decide +kernel
theorem dL_route_246 : decode cL_route 246 = .ok (.iand, 1) := by decide +kernel
theorem dL_route_247 : decode cL_route 247 = .ok (.if_icmp .ge 83, 3) := by decide +kernel
theorem dL_route_250 : decode cL_route 250 = .ok (.iload_n 3, 1) := by decide +kernel
theorem dL_route_251 : decode cL_route 251 = .ok (.ldc 179, 2) := by decide +kernel
theorem dL_route_253 : decode cL_route 253 = .ok (.imul, 1) := by decide +kernel
theorem dL_route_254 : decode cL_route 254 = .ok (.sipush 12345, 3) := by decide +kernel
theorem dL_route_257 : decode cL_route 257 = .ok (.iadd, 1) := by decide +kernel
theorem dL_route_258 : decode cL_route 258 = .ok (.istore_n 3, 1) := by decide +kernel
theorem dL_route_259 : decode cL_route 259 = .ok (.iload_n 3, 1) := by decide +kernel
theorem dL_route_260 : decode cL_route 260 = .ok (.bipush 8, 2) := by decide +kernel
theorem dL_route_262 : decode cL_route 262 = .ok (.ishr, 1) := by decide +kernel
theorem dL_route_263 : decode cL_route 263 = .ok (.bipush 7, 2) := by decide +kernel
theorem dL_route_265 : decode cL_route 265 = .ok (.iand, 1) := by decide +kernel
theorem dL_route_266 : decode cL_route 266 = .ok (.istore 7, 2) := by decide +kernel
theorem dL_route_268 : decode cL_route 268 = .ok (.aload_n 2, 1) := by decide +kernel
theorem dL_route_269 : decode cL_route 269 = .ok (.ldc 187, 2) := by decide +kernel
theorem dL_route_271 : decode cL_route 271 = .ok (.invokevirtual 182, 3) := by decide +kernel
theorem dL_route_274 : decode cL_route 274 = .ok (.iload 7, 2) := by decide +kernel
theorem dL_route_276 : decode cL_route 276 = .ok (.invokevirtual 173, 3) := by decide +kernel
theorem dL_route_279 : decode cL_route 279 = .ok (.bipush 32, 2) := by decide +kernel
theorem dL_route_281 : decode cL_route 281 = .ok (.invokevirtual 176, 3) := by decide +kernel
theorem dL_route_284 : decode cL_route 284 = .ok (.iload 7, 2) := by decide +kernel
theorem dL_route_286 : decode cL_route 286 = .ok (.iload_n 3, 1) := by decide +kernel
theorem dL_route_287 : decode cL_route 287 = .ok (.bipush 11, 2) := by decide +kernel
theorem dL_route_289 : decode cL_route 289 = .ok (.ishr, 1) := by decide +kernel
theorem dL_route_290 : decode cL_route 290 = .ok (.bipush 7, 2) := by decide +kernel
theorem dL_route_292 : decode cL_route 292 = .ok (.iand, 1) := by decide +kernel
theorem dL_route_293 : decode cL_route 293 = .ok (.iadd, 1) := by decide +kernel
theorem dL_route_294 : decode cL_route 294 = .ok (.invokevirtual 173, 3) := by decide +kernel
theorem dL_route_297 : decode cL_route 297 = .ok (.bipush 32, 2) := by decide +kernel
theorem dL_route_299 : decode cL_route 299 = .ok (.invokevirtual 176, 3) := by decide +kernel
theorem dL_route_302 : decode cL_route 302 = .ok (.iconst 1, 1) := by decide +kernel
theorem dL_route_303 : decode cL_route 303 = .ok (.iload_n 3, 1) := by decide +kernel
theorem dL_route_304 : decode cL_route 304 = .ok (.bipush 14, 2) := by decide +kernel
theorem dL_route_306 : decode cL_route 306 = .ok (.ishr, 1) := by decide +kernel
theorem dL_route_307 : decode cL_route 307 = .ok (.sipush 255, 3) := by decide +kernel
theorem dL_route_310 : decode cL_route 310 = .ok (.iand, 1) := by decide +kernel
theorem dL_route_311 : decode cL_route 311 = .ok (.bipush 9, 2) := by decide +kernel
theorem dL_route_313 : decode cL_route 313 = .ok (.irem, 1) := by decide +kernel
theorem dL_route_314 : decode cL_route 314 = .ok (.iadd, 1) := by decide +kernel
theorem dL_route_315 : decode cL_route 315 = .ok (.invokevirtual 173, 3) := by decide +kernel
theorem dL_route_318 : decode cL_route 318 = .ok (.bipush 59, 2) := by decide +kernel
theorem dL_route_320 : decode cL_route 320 = .ok (.invokevirtual 176, 3) := by decide +kernel
theorem dL_route_323 : decode cL_route 323 = .ok (.pop, 1) := by decide +kernel
theorem dL_route_324 : decode cL_route 324 = .ok (.iinc 6 1, 3) := by decide +kernel
theorem dL_route_327 : decode cL_route 327 = .ok (.goto (-88), 3) := by decide +kernel
theorem dL_route_330 : decode cL_route 330 = .ok (.iconst 0, 1) := by decide +kernel
theorem dL_route_331 : decode cL_route 331 = .ok (.istore 6, 2) := by decide +kernel
theorem dL_route_333 : decode cL_route 333 = .ok (.iload 6, 2) := by decide +kernel
theorem dL_route_335 : decode cL_route 335 = .ok (.iload_n 0, 1) := by decide +kernel
theorem dL_route_336 : decode cL_route 336 = .ok (.bipush 10, 2) := by decide +kernel
theorem dL_route_338 : decode cL_route 338 = .ok (.ishr, 1) := by decide +kernel
theorem dL_route_339 : decode cL_route 339 = .ok (.bipush 7, 2) := by decide +kernel
theorem dL_route_341 : decode cL_route 341 = .ok (.iand, 1) := by decide +kernel
theorem dL_route_342 : decode cL_route 342 = .ok (.if_icmp .ge 150, 3) := by decide +kernel
theorem dL_route_345 : decode cL_route 345 = .ok (.iload_n 3, 1) := by decide +kernel
theorem dL_route_346 : decode cL_route 346 = .ok (.ldc 179, 2) := by decide +kernel
theorem dL_route_348 : decode cL_route 348 = .ok (.imul, 1) := by decide +kernel
theorem dL_route_349 : decode cL_route 349 = .ok (.sipush 12345, 3) := by decide +kernel
theorem dL_route_352 : decode cL_route 352 = .ok (.iadd, 1) := by decide +kernel
theorem dL_route_353 : decode cL_route 353 = .ok (.istore_n 3, 1) := by decide +kernel
theorem dL_route_354 : decode cL_route 354 = .ok (.iconst 1, 1) := by decide +kernel
theorem dL_route_355 : decode cL_route 355 = .ok (.iload_n 3, 1) := by decide +kernel
theorem dL_route_356 : decode cL_route 356 = .ok (.bipush 8, 2) := by decide +kernel
theorem dL_route_358 : decode cL_route 358 = .ok (.ishr, 1) := by decide +kernel
theorem dL_route_359 : decode cL_route 359 = .ok (.bipush 63, 2) := by decide +kernel
theorem dL_route_361 : decode cL_route 361 = .ok (.iand, 1) := by decide +kernel
theorem dL_route_362 : decode cL_route 362 = .ok (.iadd, 1) := by decide +kernel
theorem dL_route_363 : decode cL_route 363 = .ok (.istore 7, 2) := by decide +kernel
theorem dL_route_365 : decode cL_route 365 = .ok (.iload_n 3, 1) := by decide +kernel
theorem dL_route_366 : decode cL_route 366 = .ok (.bipush 14, 2) := by decide +kernel
theorem dL_route_368 : decode cL_route 368 = .ok (.ishr, 1) := by decide +kernel
theorem dL_route_369 : decode cL_route 369 = .ok (.sipush 255, 3) := by decide +kernel
theorem dL_route_372 : decode cL_route 372 = .ok (.iand, 1) := by decide +kernel
theorem dL_route_373 : decode cL_route 373 = .ok (.iload 4, 2) := by decide +kernel
theorem dL_route_375 : decode cL_route 375 = .ok (.irem, 1) := by decide +kernel
theorem dL_route_376 : decode cL_route 376 = .ok (.istore 8, 2) := by decide +kernel
theorem dL_route_378 : decode cL_route 378 = .ok (.aload 5, 2) := by decide +kernel
theorem dL_route_380 : decode cL_route 380 = .ok (.iload 8, 2) := by decide +kernel
theorem dL_route_382 : decode cL_route 382 = .ok (.iaload, 1) := by decide +kernel
theorem dL_route_383 : decode cL_route 383 = .ok (.iload 7, 2) := by decide +kernel
theorem dL_route_385 : decode cL_route 385 = .ok (.if_icmp .lt 16, 3) := by decide +kernel
theorem dL_route_388 : decode cL_route 388 = .ok (.iload_n 3, 1) := by decide +kernel
theorem dL_route_389 : decode cL_route 389 = .ok (.bipush 18, 2) := by decide +kernel
theorem dL_route_391 : decode cL_route 391 = .ok (.ishr, 1) := by decide +kernel
theorem dL_route_392 : decode cL_route 392 = .ok (.iconst 3, 1) := by decide +kernel
theorem dL_route_393 : decode cL_route 393 = .ok (.iand, 1) := by decide +kernel
theorem dL_route_394 : decode cL_route 394 = .ok (.ifCond .le 7, 3) := by decide +kernel
theorem dL_route_397 : decode cL_route 397 = .ok (.iconst 1, 1) := by decide +kernel
theorem dL_route_398 : decode cL_route 398 = .ok (.goto 4, 3) := by decide +kernel
theorem dL_route_401 : decode cL_route 401 = .ok (.iconst 0, 1) := by decide +kernel
theorem dL_route_402 : decode cL_route 402 = .ok (.istore 9, 2) := by decide +kernel
theorem dL_route_404 : decode cL_route 404 = .ok (.iload 9, 2) := by decide +kernel
theorem dL_route_406 : decode cL_route 406 = .ok (.ifCond .eq 13, 3) := by decide +kernel
theorem dL_route_409 : decode cL_route 409 = .ok (.aload 5, 2) := by decide +kernel
theorem dL_route_411 : decode cL_route 411 = .ok (.iload 8, 2) := by decide +kernel
theorem dL_route_413 : decode cL_route 413 = .ok (.dup2, 1) := by decide +kernel
theorem dL_route_414 : decode cL_route 414 = .ok (.iaload, 1) := by decide +kernel
theorem dL_route_415 : decode cL_route 415 = .ok (.iload 7, 2) := by decide +kernel
theorem dL_route_417 : decode cL_route 417 = .ok (.isub, 1) := by decide +kernel
theorem dL_route_418 : decode cL_route 418 = .ok (.iastore, 1) := by decide +kernel
theorem dL_route_419 : decode cL_route 419 = .ok (.aload_n 2, 1) := by decide +kernel
theorem dL_route_420 : decode cL_route 420 = .ok (.ldc 189, 2) := by decide +kernel
theorem dL_route_422 : decode cL_route 422 = .ok (.invokevirtual 182, 3) := by decide +kernel
theorem dL_route_425 : decode cL_route 425 = .ok (.iload 7, 2) := by decide +kernel
theorem dL_route_427 : decode cL_route 427 = .ok (.invokevirtual 173, 3) := by decide +kernel
theorem dL_route_430 : decode cL_route 430 = .ok (.bipush 32, 2) := by decide +kernel
theorem dL_route_432 : decode cL_route 432 = .ok (.invokevirtual 176, 3) := by decide +kernel
theorem dL_route_435 : decode cL_route 435 = .ok (.iconst 1, 1) := by decide +kernel
theorem dL_route_436 : decode cL_route 436 = .ok (.iload_n 3, 1) := by decide +kernel
theorem dL_route_437 : decode cL_route 437 = .ok (.bipush 20, 2) := by decide +kernel
theorem dL_route_439 : decode cL_route 439 = .ok (.ishr, 1) := by decide +kernel
theorem dL_route_440 : decode cL_route 440 = .ok (.bipush 31, 2) := by decide +kernel
theorem dL_route_442 : decode cL_route 442 = .ok (.iand, 1) := by decide +kernel
theorem dL_route_443 : decode cL_route 443 = .ok (.iadd, 1) := by decide +kernel
theorem dL_route_444 : decode cL_route 444 = .ok (.invokevirtual 173, 3) := by decide +kernel
theorem dL_route_447 : decode cL_route 447 = .ok (.iload 9, 2) := by decide +kernel
theorem dL_route_449 : decode cL_route 449 = .ok (.ifCond .eq 31, 3) := by decide +kernel
theorem dL_route_452 : decode cL_route 452 = .ok (.new 166, 3) := by decide +kernel
theorem dL_route_455 : decode cL_route 455 = .ok (.dup, 1) := by decide +kernel
theorem dL_route_456 : decode cL_route 456 = .ok (.invokespecial 191, 3) := by decide +kernel
theorem dL_route_459 : decode cL_route 459 = .ok (.ldc 192, 2) := by decide +kernel
theorem dL_route_461 : decode cL_route 461 = .ok (.invokevirtual 182, 3) := by decide +kernel
theorem dL_route_464 : decode cL_route 464 = .ok (.iload 8, 2) := by decide +kernel
theorem dL_route_466 : decode cL_route 466 = .ok (.invokevirtual 173, 3) := by decide +kernel
theorem dL_route_469 : decode cL_route 469 = .ok (.ldc 194, 2) := by decide +kernel
theorem dL_route_471 : decode cL_route 471 = .ok (.invokevirtual 182, 3) := by decide +kernel
theorem dL_route_474 : decode cL_route 474 = .ok (.invokevirtual 196, 3) := by decide +kernel
theorem dL_route_477 : decode cL_route 477 = .ok (.goto 5, 3) := by decide +kernel
theorem dL_route_480 : decode cL_route 480 = .ok (.ldc 194, 2) := by decide +kernel
theorem dL_route_482 : decode cL_route 482 = .ok (.invokevirtual 182, 3) := by decide +kernel
theorem dL_route_485 : decode cL_route 485 = .ok (.pop, 1) := by decide +kernel
theorem dL_route_486 : decode cL_route 486 = .ok (.iinc 6 1, 3) := by decide +kernel
theorem dL_route_489 : decode cL_route 489 = .ok (.goto (-156), 3) := by decide +kernel
theorem dL_route_492 : decode cL_route 492 = .ok (.aload_n 2, 1) := by decide +kernel
theorem dL_route_493 : decode cL_route 493 = .ok (.invokevirtual 196, 3) := by decide +kernel
theorem dL_route_496 : decode cL_route 496 = .ok (.areturn, 1) := by decide +kernel
theorem dL_state_0 : decode cL_state 0 = .ok (.ldc2_w 200, 3) := by decide +kernel
theorem dL_state_3 : decode cL_state 3 = .ok (.aload_n 0, 1) := by decide +kernel
theorem dL_state_4 : decode cL_state 4 = .ok (.invokevirtual 202, 3) := by decide +kernel
theorem dL_state_7 : decode cL_state 7 = .ok (.i2l, 1) := by decide +kernel
theorem dL_state_8 : decode cL_state 8 = .ok (.lmul, 1) := by decide +kernel
theorem dL_state_9 : decode cL_state 9 = .ok (.aload_n 0, 1) := by decide +kernel
theorem dL_state_10 : decode cL_state 10 = .ok (.invokevirtual 205, 3) := by decide +kernel
theorem dL_state_13 : decode cL_state 13 = .ok (.i2l, 1) := by decide +kernel
theorem dL_state_14 : decode cL_state 14 = .ok (.ladd, 1) := by decide +kernel
theorem dL_state_15 : decode cL_state 15 = .ok (.lstore_n 1, 1) := by decide +kernel
theorem dL_state_16 : decode cL_state 16 = .ok (.lload_n 1, 1) := by decide +kernel
theorem dL_state_17 : decode cL_state 17 = .ok (.ldc2_w 208, 3) := by decide +kernel
theorem dL_state_20 : decode cL_state 20 = .ok (.lmul, 1) := by decide +kernel
theorem dL_state_21 : decode cL_state 21 = .ok (.aload_n 0, 1) := by decide +kernel
theorem dL_state_22 : decode cL_state 22 = .ok (.invokevirtual 210, 3) := by decide +kernel
theorem dL_state_25 : decode cL_state 25 = .ok (.i2l, 1) := by decide +kernel
theorem dL_state_26 : decode cL_state 26 = .ok (.ladd, 1) := by decide +kernel
theorem dL_state_27 : decode cL_state 27 = .ok (.aload_n 0, 1) := by decide +kernel
theorem dL_state_28 : decode cL_state 28 = .ok (.invokevirtual 213, 3) := by decide +kernel
theorem dL_state_31 : decode cL_state 31 = .ok (.ifCond .eq 8, 3) := by decide +kernel
theorem dL_state_34 : decode cL_state 34 = .ok (.bipush 16, 2) := by decide +kernel
theorem dL_state_36 : decode cL_state 36 = .ok (.goto 4, 3) := by decide +kernel
theorem dL_state_39 : decode cL_state 39 = .ok (.iconst 0, 1) := by decide +kernel
theorem dL_state_40 : decode cL_state 40 = .ok (.i2l, 1) := by decide +kernel
theorem dL_state_41 : decode cL_state 41 = .ok (.ladd, 1) := by decide +kernel
theorem dL_state_42 : decode cL_state 42 = .ok (.lstore_n 1, 1) := by decide +kernel
theorem dL_state_43 : decode cL_state 43 = .ok (.lload_n 1, 1) := by decide +kernel
theorem dL_state_44 : decode cL_state 44 = .ok (.ldc2_w 217, 3) := by decide +kernel
theorem dL_state_47 : decode cL_state 47 = .ok (.lmul, 1) := by decide +kernel
theorem dL_state_48 : decode cL_state 48 = .ok (.aload_n 0, 1) := by decide +kernel
theorem dL_state_49 : decode cL_state 49 = .ok (.invokevirtual 219, 3) := by decide +kernel
theorem dL_state_52 : decode cL_state 52 = .ok (.i2l, 1) := by decide +kernel
theorem dL_state_53 : decode cL_state 53 = .ok (.ladd, 1) := by decide +kernel
theorem dL_state_54 : decode cL_state 54 = .ok (.lstore_n 1, 1) := by decide +kernel
theorem dL_state_55 : decode cL_state 55 = .ok (.iconst 0, 1) := by decide +kernel
theorem dL_state_56 : decode cL_state 56 = .ok (.istore_n 3, 1) := by decide +kernel
theorem dL_state_57 : decode cL_state 57 = .ok (.iload_n 3, 1) := by decide +kernel
theorem dL_state_58 : decode cL_state 58 = .ok (.aload_n 0, 1) := by decide +kernel
theorem dL_state_59 : decode cL_state 59 = .ok (.invokevirtual 222, 3) := by decide +kernel
theorem dL_state_62 : decode cL_state 62 = .ok (.if_icmp .ge 41, 3) := by decide +kernel
theorem dL_state_65 : decode cL_state 65 = .ok (.bipush 20, 2) := by decide +kernel
theorem dL_state_67 : decode cL_state 67 = .ok (.istore 4, 2) := by decide +kernel
theorem dL_state_69 : decode cL_state 69 = .ok (.iload 4, 2) := by decide +kernel
theorem dL_state_71 : decode cL_state 71 = .ok (.bipush 30, 2) := by decide +kernel
theorem dL_state_73 : decode cL_state 73 = .ok (.if_icmp .ge 24, 3) := by decide +kernel
theorem dL_state_76 : decode cL_state 76 = .ok (.lload_n 1, 1) := by decide +kernel
theorem dL_state_77 : decode cL_state 77 = .ok (.ldc2_w 217, 3) := by decide +kernel
theorem dL_state_80 : decode cL_state 80 = .ok (.lmul, 1) := by decide +kernel
theorem dL_state_81 : decode cL_state 81 = .ok (.aload_n 0, 1) := by decide +kernel
theorem dL_state_82 : decode cL_state 82 = .ok (.iload 4, 2) := by decide +kernel
theorem dL_state_84 : decode cL_state 84 = .ok (.iload_n 3, 1) := by decide +kernel
theorem dL_state_85 : decode cL_state 85 = .ok (.invokestatic 163, 3) := by decide +kernel
theorem dL_state_88 : decode cL_state 88 = .ok (.i2l, 1) := by decide +kernel
theorem dL_state_89 : decode cL_state 89 = .ok (.ladd, 1) := by decide +kernel
theorem dL_state_90 : decode cL_state 90 = .ok (.lstore_n 1, 1) := by decide +kernel
theorem dL_state_91 : decode cL_state 91 = .ok (.iinc 4 1, 3) := by decide +kernel
theorem dL_state_94 : decode cL_state 94 = .ok (.goto (-25), 3) := by decide +kernel
theorem dL_state_97 : decode cL_state 97 = .ok (.iinc 3 1, 3) := by decide +kernel
theorem dL_state_100 : decode cL_state 100 = .ok (.goto (-43), 3) := by decide +kernel
theorem dL_state_103 : decode cL_state 103 = .ok (.iconst 0, 1) := by decide +kernel
theorem dL_state_104 : decode cL_state 104 = .ok (.istore_n 3, 1) := by decide +kernel
theorem dL_state_105 : decode cL_state 105 = .ok (.iload_n 3, 1) := by decide +kernel
theorem dL_state_106 : decode cL_state 106 = .ok (.aload_n 0, 1) := by decide +kernel
theorem dL_state_107 : decode cL_state 107 = .ok (.invokevirtual 225, 3) := by decide +kernel
theorem dL_state_110 : decode cL_state 110 = .ok (.if_icmp .ge 24, 3) := by decide +kernel
theorem dL_state_113 : decode cL_state 113 = .ok (.lload_n 1, 1) := by decide +kernel
theorem dL_state_114 : decode cL_state 114 = .ok (.ldc2_w 217, 3) := by decide +kernel
theorem dL_state_117 : decode cL_state 117 = .ok (.lmul, 1) := by decide +kernel
theorem dL_state_118 : decode cL_state 118 = .ok (.aload_n 0, 1) := by decide +kernel
theorem dL_state_119 : decode cL_state 119 = .ok (.bipush 17, 2) := by decide +kernel
theorem dL_state_121 : decode cL_state 121 = .ok (.iload_n 3, 1) := by decide +kernel
theorem dL_state_122 : decode cL_state 122 = .ok (.invokestatic 163, 3) := by decide +kernel
theorem dL_state_125 : decode cL_state 125 = .ok (.i2l, 1) := by decide +kernel
theorem dL_state_126 : decode cL_state 126 = .ok (.ladd, 1) := by decide +kernel
theorem dL_state_127 : decode cL_state 127 = .ok (.lstore_n 1, 1) := by decide +kernel
theorem dL_state_128 : decode cL_state 128 = .ok (.iinc 3 1, 3) := by decide +kernel
theorem dL_state_131 : decode cL_state 131 = .ok (.goto (-26), 3) := by decide +kernel
theorem dL_state_134 : decode cL_state 134 = .ok (.iconst 0, 1) := by decide +kernel
theorem dL_state_135 : decode cL_state 135 = .ok (.istore_n 3, 1) := by decide +kernel
theorem dL_state_136 : decode cL_state 136 = .ok (.iload_n 3, 1) := by decide +kernel
theorem dL_state_137 : decode cL_state 137 = .ok (.aload_n 0, 1) := by decide +kernel
theorem dL_state_138 : decode cL_state 138 = .ok (.invokevirtual 228, 3) := by decide +kernel
theorem dL_state_141 : decode cL_state 141 = .ok (.if_icmp .ge 41, 3) := by decide +kernel
theorem dL_state_144 : decode cL_state 144 = .ok (.bipush 32, 2) := by decide +kernel
theorem dL_state_146 : decode cL_state 146 = .ok (.istore 4, 2) := by decide +kernel
theorem dL_state_148 : decode cL_state 148 = .ok (.iload 4, 2) := by decide +kernel
theorem dL_state_150 : decode cL_state 150 = .ok (.bipush 37, 2) := by decide +kernel
theorem dL_state_152 : decode cL_state 152 = .ok (.if_icmp .ge 24, 3) := by decide +kernel
theorem dL_state_155 : decode cL_state 155 = .ok (.lload_n 1, 1) := by decide +kernel
theorem dL_state_156 : decode cL_state 156 = .ok (.ldc2_w 217, 3) := by decide +kernel
theorem dL_state_159 : decode cL_state 159 = .ok (.lmul, 1) := by decide +kernel
theorem dL_state_160 : decode cL_state 160 = .ok (.aload_n 0, 1) := by decide +kernel
theorem dL_state_161 : decode cL_state 161 = .ok (.iload 4, 2) := by decide +kernel
theorem dL_state_163 : decode cL_state 163 = .ok (.iload_n 3, 1) := by decide +kernel
theorem dL_state_164 : decode cL_state 164 = .ok (.invokestatic 163, 3) := by decide +kernel
theorem dL_state_167 : decode cL_state 167 = .ok (.i2l, 1) := by decide +kernel
theorem dL_state_168 : decode cL_state 168 = .ok (.ladd, 1) := by decide +kernel
theorem dL_state_169 : decode cL_state 169 = .ok (.lstore_n 1, 1) := by decide +kernel
theorem dL_state_170 : decode cL_state 170 = .ok (.iinc 4 1, 3) := by decide +kernel
theorem dL_state_173 : decode cL_state 173 = .ok (.goto (-25), 3) := by decide +kernel
theorem dL_state_176 : decode cL_state 176 = .ok (.iinc 3 1, 3) := by decide +kernel
theorem dL_state_179 : decode cL_state 179 = .ok (.goto (-43), 3) := by decide +kernel
theorem dL_state_182 : decode cL_state 182 = .ok (.lload_n 1, 1) := by decide +kernel
theorem dL_state_183 : decode cL_state 183 = .ok (.lreturn, 1) := by decide +kernel
theorem dL_caravan_0 : decode cL_caravan 0 = .ok (.aload_n 0, 1) := by decide +kernel
theorem dL_caravan_1 : decode cL_caravan 1 = .ok (.invokevirtual 222, 3) := by decide +kernel
theorem dL_caravan_4 : decode cL_caravan 4 = .ok (.istore_n 1, 1) := by decide +kernel
theorem dL_caravan_5 : decode cL_caravan 5 = .ok (.aload_n 0, 1) := by decide +kernel
theorem dL_caravan_6 : decode cL_caravan 6 = .ok (.invokevirtual 228, 3) := by decide +kernel
theorem dL_caravan_9 : decode cL_caravan 9 = .ok (.istore_n 2, 1) := by decide +kernel
theorem dL_caravan_10 : decode cL_caravan 10 = .ok (.aload_n 0, 1) := by decide +kernel
theorem dL_caravan_11 : decode cL_caravan 11 = .ok (.invokevirtual 202, 3) := by decide +kernel
theorem dL_caravan_14 : decode cL_caravan 14 = .ok (.istore_n 3, 1) := by decide +kernel
theorem dL_caravan_15 : decode cL_caravan 15 = .ok (.bipush 10, 2) := by decide +kernel
theorem dL_caravan_17 : decode cL_caravan 17 = .ok (.newarray .int, 2) := by decide +kernel
theorem dL_caravan_19 : decode cL_caravan 19 = .ok (.astore 4, 2) := by decide +kernel
theorem dL_caravan_21 : decode cL_caravan 21 = .ok (.iconst 0, 1) := by decide +kernel
theorem dL_caravan_22 : decode cL_caravan 22 = .ok (.istore 5, 2) := by decide +kernel
theorem dL_caravan_24 : decode cL_caravan 24 = .ok (.iload_n 1, 1) := by decide +kernel
theorem dL_caravan_25 : decode cL_caravan 25 = .ok (.iconst 1, 1) := by decide +kernel
theorem dL_caravan_26 : decode cL_caravan 26 = .ok (.if_icmp .lt 127, 3) := by decide +kernel
theorem dL_caravan_29 : decode cL_caravan 29 = .ok (.iload_n 1, 1) := by decide +kernel
theorem dL_caravan_30 : decode cL_caravan 30 = .ok (.bipush 10, 2) := by decide +kernel
theorem dL_caravan_32 : decode cL_caravan 32 = .ok (.if_icmp .gt 121, 3) := by decide +kernel
theorem dL_caravan_35 : decode cL_caravan 35 = .ok (.iload_n 2, 1) := by decide +kernel
theorem dL_caravan_36 : decode cL_caravan 36 = .ok (.bipush 20, 2) := by decide +kernel
theorem dL_caravan_38 : decode cL_caravan 38 = .ok (.if_icmp .gt 115, 3) := by decide +kernel
theorem dL_caravan_41 : decode cL_caravan 41 = .ok (.iload_n 3, 1) := by decide +kernel
theorem dL_caravan_42 : decode cL_caravan 42 = .ok (.ifCond .lt 111, 3) := by decide +kernel
theorem dL_caravan_45 : decode cL_caravan 45 = .ok (.iload_n 3, 1) := by decide +kernel
theorem dL_caravan_46 : decode cL_caravan 46 = .ok (.aload_n 0, 1) := by decide +kernel
theorem dL_caravan_47 : decode cL_caravan 47 = .ok (.invokevirtual 231, 3) := by decide +kernel
theorem dL_caravan_50 : decode cL_caravan 50 = .ok (.if_icmp .gt 103, 3) := by decide +kernel
theorem dL_caravan_53 : decode cL_caravan 53 = .ok (.aload_n 0, 1) := by decide +kernel
