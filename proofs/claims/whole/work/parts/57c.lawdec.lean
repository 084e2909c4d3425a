theorem d_L_law_257 : decode code 257 = .ok (.iaload, 1) := by decide +kernel
theorem d_L_law_258 : decode code 258 = .ok (.i2l, 1) := by decide +kernel
theorem d_L_law_259 : decode code 259 = .ok (.bipush 32, 2) := by decide +kernel
theorem d_L_law_261 : decode code 261 = .ok (.lshl, 1) := by decide +kernel
theorem d_L_law_262 : decode code 262 = .ok (.aload_n 0, 1) := by decide +kernel
theorem d_L_law_263 : decode code 263 = .ok (.iload 4, 2) := by decide +kernel
theorem d_L_law_265 : decode code 265 = .ok (.iconst 5, 1) := by decide +kernel
theorem d_L_law_266 : decode code 266 = .ok (.iadd, 1) := by decide +kernel
theorem d_L_law_267 : decode code 267 = .ok (.iaload, 1) := by decide +kernel
theorem d_L_law_268 : decode code 268 = .ok (.i2l, 1) := by decide +kernel
theorem d_L_law_269 : decode code 269 = .ok (.ldc2_w 70, 3) := by decide +kernel
theorem d_L_law_272 : decode code 272 = .ok (.land, 1) := by decide +kernel
theorem d_L_law_273 : decode code 273 = .ok (.lor, 1) := by decide +kernel
theorem d_L_law_274 : decode code 274 = .ok (.aload_n 0, 1) := by decide +kernel
theorem d_L_law_275 : decode code 275 = .ok (.iload 4, 2) := by decide +kernel
theorem d_L_law_277 : decode code 277 = .ok (.bipush 6, 2) := by decide +kernel
theorem d_L_law_279 : decode code 279 = .ok (.iadd, 1) := by decide +kernel
theorem d_L_law_280 : decode code 280 = .ok (.iaload, 1) := by decide +kernel
theorem d_L_law_281 : decode code 281 = .ok (.i2l, 1) := by decide +kernel
theorem d_L_law_282 : decode code 282 = .ok (.bipush 32, 2) := by decide +kernel
theorem d_L_law_284 : decode code 284 = .ok (.lshl, 1) := by decide +kernel
theorem d_L_law_285 : decode code 285 = .ok (.aload_n 0, 1) := by decide +kernel
theorem d_L_law_286 : decode code 286 = .ok (.iload 4, 2) := by decide +kernel
theorem d_L_law_288 : decode code 288 = .ok (.bipush 7, 2) := by decide +kernel
theorem d_L_law_290 : decode code 290 = .ok (.iadd, 1) := by decide +kernel
theorem d_L_law_291 : decode code 291 = .ok (.iaload, 1) := by decide +kernel
theorem d_L_law_292 : decode code 292 = .ok (.i2l, 1) := by decide +kernel
theorem d_L_law_293 : decode code 293 = .ok (.ldc2_w 70, 3) := by decide +kernel
theorem d_L_law_296 : decode code 296 = .ok (.land, 1) := by decide +kernel
theorem d_L_law_297 : decode code 297 = .ok (.lor, 1) := by decide +kernel
theorem d_L_law_298 : decode code 298 = .ok (.aload_n 0, 1) := by decide +kernel
theorem d_L_law_299 : decode code 299 = .ok (.iload 4, 2) := by decide +kernel
theorem d_L_law_301 : decode code 301 = .ok (.bipush 8, 2) := by decide +kernel
theorem d_L_law_303 : decode code 303 = .ok (.iadd, 1) := by decide +kernel
theorem d_L_law_304 : decode code 304 = .ok (.iaload, 1) := by decide +kernel
theorem d_L_law_305 : decode code 305 = .ok (.invokevirtual 75, 3) := by decide +kernel
theorem d_L_law_308 : decode code 308 = .ok (.aload_n 2, 1) := by decide +kernel
theorem d_L_law_309 : decode code 309 = .ok (.invokevirtual 66, 3) := by decide +kernel
theorem d_L_law_312 : decode code 312 = .ok (.iload 5, 2) := by decide +kernel
theorem d_L_law_314 : decode code 314 = .ok (.if_icmp .eq 5, 3) := by decide +kernel
theorem d_L_law_317 : decode code 317 = .ok (.iconst 0, 1) := by decide +kernel
theorem d_L_law_318 : decode code 318 = .ok (.ireturn, 1) := by decide +kernel
theorem d_L_law_319 : decode code 319 = .ok (.goto 564, 3) := by decide +kernel
theorem d_L_law_322 : decode code 322 = .ok (.aload_n 1, 1) := by decide +kernel
theorem d_L_law_323 : decode code 323 = .ok (.aload_n 0, 1) := by decide +kernel
theorem d_L_law_324 : decode code 324 = .ok (.iload 4, 2) := by decide +kernel
theorem d_L_law_326 : decode code 326 = .ok (.iconst 1, 1) := by decide +kernel
theorem d_L_law_327 : decode code 327 = .ok (.iadd, 1) := by decide +kernel
theorem d_L_law_328 : decode code 328 = .ok (.iaload, 1) := by decide +kernel
theorem d_L_law_329 : decode code 329 = .ok (.aload_n 0, 1) := by decide +kernel
theorem d_L_law_330 : decode code 330 = .ok (.iload 4, 2) := by decide +kernel
theorem d_L_law_332 : decode code 332 = .ok (.iconst 2, 1) := by decide +kernel
theorem d_L_law_333 : decode code 333 = .ok (.iadd, 1) := by decide +kernel
theorem d_L_law_334 : decode code 334 = .ok (.iaload, 1) := by decide +kernel
theorem d_L_law_335 : decode code 335 = .ok (.aload_n 0, 1) := by decide +kernel
theorem d_L_law_336 : decode code 336 = .ok (.iload 4, 2) := by decide +kernel
theorem d_L_law_338 : decode code 338 = .ok (.iconst 3, 1) := by decide +kernel
theorem d_L_law_339 : decode code 339 = .ok (.iadd, 1) := by decide +kernel
theorem d_L_law_340 : decode code 340 = .ok (.iaload, 1) := by decide +kernel
theorem d_L_law_341 : decode code 341 = .ok (.invokestatic 76, 3) := by decide +kernel
theorem d_L_law_344 : decode code 344 = .ok (.istore 5, 2) := by decide +kernel
theorem d_L_law_346 : decode code 346 = .ok (.aload_n 2, 1) := by decide +kernel
theorem d_L_law_347 : decode code 347 = .ok (.aload_n 0, 1) := by decide +kernel
theorem d_L_law_348 : decode code 348 = .ok (.iload 4, 2) := by decide +kernel
theorem d_L_law_350 : decode code 350 = .ok (.iconst 1, 1) := by decide +kernel
theorem d_L_law_351 : decode code 351 = .ok (.iadd, 1) := by decide +kernel
theorem d_L_law_352 : decode code 352 = .ok (.iaload, 1) := by decide +kernel
theorem d_L_law_353 : decode code 353 = .ok (.aload_n 0, 1) := by decide +kernel
theorem d_L_law_354 : decode code 354 = .ok (.iload 4, 2) := by decide +kernel
theorem d_L_law_356 : decode code 356 = .ok (.iconst 2, 1) := by decide +kernel
theorem d_L_law_357 : decode code 357 = .ok (.iadd, 1) := by decide +kernel
theorem d_L_law_358 : decode code 358 = .ok (.iaload, 1) := by decide +kernel
theorem d_L_law_359 : decode code 359 = .ok (.aload_n 0, 1) := by decide +kernel
theorem d_L_law_360 : decode code 360 = .ok (.iload 4, 2) := by decide +kernel
theorem d_L_law_362 : decode code 362 = .ok (.iconst 3, 1) := by decide +kernel
theorem d_L_law_363 : decode code 363 = .ok (.iadd, 1) := by decide +kernel
theorem d_L_law_364 : decode code 364 = .ok (.iaload, 1) := by decide +kernel
theorem d_L_law_365 : decode code 365 = .ok (.invokevirtual 79, 3) := by decide +kernel
theorem d_L_law_368 : decode code 368 = .ok (.aload_n 2, 1) := by decide +kernel
theorem d_L_law_369 : decode code 369 = .ok (.invokevirtual 66, 3) := by decide +kernel
theorem d_L_law_372 : decode code 372 = .ok (.iload 5, 2) := by decide +kernel
theorem d_L_law_374 : decode code 374 = .ok (.if_icmp .eq 5, 3) := by decide +kernel
theorem d_L_law_377 : decode code 377 = .ok (.iconst 0, 1) := by decide +kernel
theorem d_L_law_378 : decode code 378 = .ok (.ireturn, 1) := by decide +kernel
theorem d_L_law_379 : decode code 379 = .ok (.goto 504, 3) := by decide +kernel
theorem d_L_law_382 : decode code 382 = .ok (.aload_n 1, 1) := by decide +kernel
theorem d_L_law_383 : decode code 383 = .ok (.aload_n 0, 1) := by decide +kernel
theorem d_L_law_384 : decode code 384 = .ok (.iload 4, 2) := by decide +kernel
theorem d_L_law_386 : decode code 386 = .ok (.iconst 1, 1) := by decide +kernel
theorem d_L_law_387 : decode code 387 = .ok (.iadd, 1) := by decide +kernel
theorem d_L_law_388 : decode code 388 = .ok (.iaload, 1) := by decide +kernel
theorem d_L_law_389 : decode code 389 = .ok (.aload_n 3, 1) := by decide +kernel
theorem d_L_law_390 : decode code 390 = .ok (.invokestatic 80, 3) := by decide +kernel
theorem d_L_law_393 : decode code 393 = .ok (.istore 5, 2) := by decide +kernel
theorem d_L_law_395 : decode code 395 = .ok (.aload_n 2, 1) := by decide +kernel
theorem d_L_law_396 : decode code 396 = .ok (.aload_n 0, 1) := by decide +kernel
theorem d_L_law_397 : decode code 397 = .ok (.iload 4, 2) := by decide +kernel
theorem d_L_law_399 : decode code 399 = .ok (.iconst 1, 1) := by decide +kernel
theorem d_L_law_400 : decode code 400 = .ok (.iadd, 1) := by decide +kernel
theorem d_L_law_401 : decode code 401 = .ok (.iaload, 1) := by decide +kernel
theorem d_L_law_402 : decode code 402 = .ok (.invokevirtual 83, 3) := by decide +kernel
theorem d_L_law_405 : decode code 405 = .ok (.istore 6, 2) := by decide +kernel
theorem d_L_law_407 : decode code 407 = .ok (.aload_n 2, 1) := by decide +kernel
theorem d_L_law_408 : decode code 408 = .ok (.invokevirtual 66, 3) := by decide +kernel
theorem d_L_law_411 : decode code 411 = .ok (.iload 5, 2) := by decide +kernel
theorem d_L_law_413 : decode code 413 = .ok (.if_icmp .eq 5, 3) := by decide +kernel
theorem d_L_law_416 : decode code 416 = .ok (.iconst 0, 1) := by decide +kernel
theorem d_L_law_417 : decode code 417 = .ok (.ireturn, 1) := by decide +kernel
theorem d_L_law_418 : decode code 418 = .ok (.iload 5, 2) := by decide +kernel
theorem d_L_law_420 : decode code 420 = .ok (.ifCond .ne 15, 3) := by decide +kernel
theorem d_L_law_423 : decode code 423 = .ok (.aload_n 3, 1) := by decide +kernel
theorem d_L_law_424 : decode code 424 = .ok (.iconst 0, 1) := by decide +kernel
theorem d_L_law_425 : decode code 425 = .ok (.laload, 1) := by decide +kernel
theorem d_L_law_426 : decode code 426 = .ok (.iload 6, 2) := by decide +kernel
theorem d_L_law_428 : decode code 428 = .ok (.i2l, 1) := by decide +kernel
theorem d_L_law_429 : decode code 429 = .ok (.lcmp, 1) := by decide +kernel
theorem d_L_law_430 : decode code 430 = .ok (.ifCond .eq 5, 3) := by decide +kernel
theorem d_L_law_433 : decode code 433 = .ok (.iconst 0, 1) := by decide +kernel
theorem d_L_law_434 : decode code 434 = .ok (.ireturn, 1) := by decide +kernel
theorem d_L_law_435 : decode code 435 = .ok (.goto 448, 3) := by decide +kernel
theorem d_L_law_438 : decode code 438 = .ok (.aload_n 1, 1) := by decide +kernel
theorem d_L_law_439 : decode code 439 = .ok (.aload_n 0, 1) := by decide +kernel
theorem d_L_law_440 : decode code 440 = .ok (.iload 4, 2) := by decide +kernel
theorem d_L_law_442 : decode code 442 = .ok (.iconst 1, 1) := by decide +kernel
theorem d_L_law_443 : decode code 443 = .ok (.iadd, 1) := by decide +kernel
theorem d_L_law_444 : decode code 444 = .ok (.iaload, 1) := by decide +kernel
theorem d_L_law_445 : decode code 445 = .ok (.aload_n 0, 1) := by decide +kernel
theorem d_L_law_446 : decode code 446 = .ok (.iload 4, 2) := by decide +kernel
theorem d_L_law_448 : decode code 448 = .ok (.iconst 2, 1) := by decide +kernel
theorem d_L_law_449 : decode code 449 = .ok (.iadd, 1) := by decide +kernel
theorem d_L_law_450 : decode code 450 = .ok (.iaload, 1) := by decide +kernel
theorem d_L_law_451 : decode code 451 = .ok (.aload_n 3, 1) := by decide +kernel
theorem d_L_law_452 : decode code 452 = .ok (.invokestatic 84, 3) := by decide +kernel
theorem d_L_law_455 : decode code 455 = .ok (.istore 5, 2) := by decide +kernel
theorem d_L_law_457 : decode code 457 = .ok (.aload_n 2, 1) := by decide +kernel
theorem d_L_law_458 : decode code 458 = .ok (.aload_n 0, 1) := by decide +kernel
theorem d_L_law_459 : decode code 459 = .ok (.iload 4, 2) := by decide +kernel
