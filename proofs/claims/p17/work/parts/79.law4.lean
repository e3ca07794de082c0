theorem dL_law_291 : decode cL_law 291 = .ok (.pop, 1) := kt_o87 (j := 23) sL_law_268 rfl
theorem dL_law_292 : decode cL_law 292 = .ok (.goto 453, 3) := kt_o167 (j := 24) sL_law_268 rfl (by decide +kernel)
theorem dL_law_295 : decode cL_law 295 = .ok (.aload_n 1, 1) := kt_o43 (j := 27) sL_law_268 rfl
theorem dL_law_296 : decode cL_law 296 = .ok (.aload_n 0, 1) := kt_o42 (j := 28) sL_law_268 rfl
theorem dL_law_297 : decode cL_law 297 = .ok (.iload_n 3, 1) := kt_o29 (j := 29) sL_law_268 rfl
theorem dL_law_298 : decode cL_law 298 = .ok (.iconst 1, 1) := kt_o4 (j := 30) sL_law_268 rfl
theorem dL_law_299 : decode cL_law 299 = .ok (.iadd, 1) := kt_o96 (j := 31) sL_law_268 rfl
theorem dL_law_300 : decode cL_law 300 = .ok (.iaload, 1) := kt_o46 (j := 32) sL_law_268 rfl
theorem dL_law_301 : decode cL_law 301 = .ok (.invokevirtual 28, 3) := kt_o182 (j := 33) sL_law_268 rfl rfl
theorem dL_law_304 : decode cL_law 304 = .ok (.pop, 1) := kt_o87 (j := 36) sL_law_268 rfl
theorem dL_law_305 : decode cL_law 305 = .ok (.aload_n 2, 1) := kt_o44 (j := 37) sL_law_268 rfl
theorem dL_law_306 : decode cL_law 306 = .ok (.aload_n 0, 1) := kt_o42 (j := 38) sL_law_268 rfl
theorem dL_law_307 : decode cL_law 307 = .ok (.iload_n 3, 1) := kt_o29 (j := 39) sL_law_268 rfl
theorem dL_law_308 : decode cL_law 308 = .ok (.iconst 1, 1) := kt_o4 (j := 40) sL_law_268 rfl
theorem dL_law_309 : decode cL_law 309 = .ok (.iadd, 1) := kt_o96 (j := 41) sL_law_268 rfl
theorem dL_law_310 : decode cL_law 310 = .ok (.iaload, 1) := kt_o46 (j := 42) sL_law_268 rfl
theorem dL_law_311 : decode cL_law 311 = .ok (.invokevirtual 32, 3) := kt_o182 (j := 43) sL_law_268 rfl rfl
theorem dL_law_314 : decode cL_law 314 = .ok (.pop, 1) := kt_o87 (j := 46) sL_law_268 rfl
theorem dL_law_315 : decode cL_law 315 = .ok (.goto 430, 3) := kt_o167 (j := 47) sL_law_268 rfl (by decide +kernel)
theorem dL_law_318 : decode cL_law 318 = .ok (.aload_n 1, 1) := kt_o43 (j := 50) sL_law_268 rfl
theorem dL_law_319 : decode cL_law 319 = .ok (.invokevirtual 33, 3) := kt_o182 (j := 51) sL_law_268 rfl rfl
theorem dL_law_322 : decode cL_law 322 = .ok (.pop, 1) := kt_o87 (j := 54) sL_law_268 rfl
theorem dL_law_323 : decode cL_law 323 = .ok (.aload_n 2, 1) := kt_o44 (j := 55) sL_law_268 rfl
theorem dL_law_324 : decode cL_law 324 = .ok (.invokevirtual 37, 3) := kt_o182 (j := 56) sL_law_268 rfl rfl
theorem dL_law_327 : decode cL_law 327 = .ok (.pop, 1) := kt_o87 (j := 59) sL_law_268 rfl
theorem dL_law_328 : decode cL_law 328 = .ok (.goto 417, 3) := kt_o167 (j := 60) sL_law_268 rfl (by decide +kernel)
theorem dL_law_331 : decode cL_law 331 = .ok (.aload_n 1, 1) := kt_o43 (j := 63) sL_law_268 rfl
theorem sL_law_332 : kt_sg cL_law 332 [42, 29, 4, 96, 46, 42, 29, 5, 96, 46, 42, 29, 6, 96, 46, 182, 0, 38, 87, 44, 42, 29, 4, 96, 46, 42, 29, 5, 96, 46, 42, 29, 6, 96, 46, 182, 0, 42, 87, 167, 1, 118, 43, 42, 29, 4, 96, 46, 42, 29, 5, 96, 46, 42, 29, 6, 96, 46, 182, 0, 43, 87, 44, 42] = true := by decide +kernel
theorem dL_law_332 : decode cL_law 332 = .ok (.aload_n 0, 1) := kt_o42 (j := 0) sL_law_332 rfl
theorem dL_law_333 : decode cL_law 333 = .ok (.iload_n 3, 1) := kt_o29 (j := 1) sL_law_332 rfl
theorem dL_law_334 : decode cL_law 334 = .ok (.iconst 1, 1) := kt_o4 (j := 2) sL_law_332 rfl
theorem dL_law_335 : decode cL_law 335 = .ok (.iadd, 1) := kt_o96 (j := 3) sL_law_332 rfl
theorem dL_law_336 : decode cL_law 336 = .ok (.iaload, 1) := kt_o46 (j := 4) sL_law_332 rfl
theorem dL_law_337 : decode cL_law 337 = .ok (.aload_n 0, 1) := kt_o42 (j := 5) sL_law_332 rfl
theorem dL_law_338 : decode cL_law 338 = .ok (.iload_n 3, 1) := kt_o29 (j := 6) sL_law_332 rfl
theorem dL_law_339 : decode cL_law 339 = .ok (.iconst 2, 1) := kt_o5 (j := 7) sL_law_332 rfl
theorem dL_law_340 : decode cL_law 340 = .ok (.iadd, 1) := kt_o96 (j := 8) sL_law_332 rfl
theorem dL_law_341 : decode cL_law 341 = .ok (.iaload, 1) := kt_o46 (j := 9) sL_law_332 rfl
theorem dL_law_342 : decode cL_law 342 = .ok (.aload_n 0, 1) := kt_o42 (j := 10) sL_law_332 rfl
theorem dL_law_343 : decode cL_law 343 = .ok (.iload_n 3, 1) := kt_o29 (j := 11) sL_law_332 rfl
theorem dL_law_344 : decode cL_law 344 = .ok (.iconst 3, 1) := kt_o6 (j := 12) sL_law_332 rfl
theorem dL_law_345 : decode cL_law 345 = .ok (.iadd, 1) := kt_o96 (j := 13) sL_law_332 rfl
theorem dL_law_346 : decode cL_law 346 = .ok (.iaload, 1) := kt_o46 (j := 14) sL_law_332 rfl
theorem dL_law_347 : decode cL_law 347 = .ok (.invokevirtual 38, 3) := kt_o182 (j := 15) sL_law_332 rfl rfl
theorem dL_law_350 : decode cL_law 350 = .ok (.pop, 1) := kt_o87 (j := 18) sL_law_332 rfl
theorem dL_law_351 : decode cL_law 351 = .ok (.aload_n 2, 1) := kt_o44 (j := 19) sL_law_332 rfl
theorem dL_law_352 : decode cL_law 352 = .ok (.aload_n 0, 1) := kt_o42 (j := 20) sL_law_332 rfl
theorem dL_law_353 : decode cL_law 353 = .ok (.iload_n 3, 1) := kt_o29 (j := 21) sL_law_332 rfl
theorem dL_law_354 : decode cL_law 354 = .ok (.iconst 1, 1) := kt_o4 (j := 22) sL_law_332 rfl
theorem dL_law_355 : decode cL_law 355 = .ok (.iadd, 1) := kt_o96 (j := 23) sL_law_332 rfl
theorem dL_law_356 : decode cL_law 356 = .ok (.iaload, 1) := kt_o46 (j := 24) sL_law_332 rfl
theorem dL_law_357 : decode cL_law 357 = .ok (.aload_n 0, 1) := kt_o42 (j := 25) sL_law_332 rfl
theorem dL_law_358 : decode cL_law 358 = .ok (.iload_n 3, 1) := kt_o29 (j := 26) sL_law_332 rfl
theorem dL_law_359 : decode cL_law 359 = .ok (.iconst 2, 1) := kt_o5 (j := 27) sL_law_332 rfl
theorem dL_law_360 : decode cL_law 360 = .ok (.iadd, 1) := kt_o96 (j := 28) sL_law_332 rfl
theorem dL_law_361 : decode cL_law 361 = .ok (.iaload, 1) := kt_o46 (j := 29) sL_law_332 rfl
theorem dL_law_362 : decode cL_law 362 = .ok (.aload_n 0, 1) := kt_o42 (j := 30) sL_law_332 rfl
theorem dL_law_363 : decode cL_law 363 = .ok (.iload_n 3, 1) := kt_o29 (j := 31) sL_law_332 rfl
theorem dL_law_364 : decode cL_law 364 = .ok (.iconst 3, 1) := kt_o6 (j := 32) sL_law_332 rfl
theorem dL_law_365 : decode cL_law 365 = .ok (.iadd, 1) := kt_o96 (j := 33) sL_law_332 rfl
theorem dL_law_366 : decode cL_law 366 = .ok (.iaload, 1) := kt_o46 (j := 34) sL_law_332 rfl
theorem dL_law_367 : decode cL_law 367 = .ok (.invokevirtual 42, 3) := kt_o182 (j := 35) sL_law_332 rfl rfl
theorem dL_law_370 : decode cL_law 370 = .ok (.pop, 1) := kt_o87 (j := 38) sL_law_332 rfl
theorem dL_law_371 : decode cL_law 371 = .ok (.goto 374, 3) := kt_o167 (j := 39) sL_law_332 rfl (by decide +kernel)
theorem dL_law_374 : decode cL_law 374 = .ok (.aload_n 1, 1) := kt_o43 (j := 42) sL_law_332 rfl
theorem dL_law_375 : decode cL_law 375 = .ok (.aload_n 0, 1) := kt_o42 (j := 43) sL_law_332 rfl
theorem dL_law_376 : decode cL_law 376 = .ok (.iload_n 3, 1) := kt_o29 (j := 44) sL_law_332 rfl
theorem dL_law_377 : decode cL_law 377 = .ok (.iconst 1, 1) := kt_o4 (j := 45) sL_law_332 rfl
theorem dL_law_378 : decode cL_law 378 = .ok (.iadd, 1) := kt_o96 (j := 46) sL_law_332 rfl
theorem dL_law_379 : decode cL_law 379 = .ok (.iaload, 1) := kt_o46 (j := 47) sL_law_332 rfl
theorem dL_law_380 : decode cL_law 380 = .ok (.aload_n 0, 1) := kt_o42 (j := 48) sL_law_332 rfl
theorem dL_law_381 : decode cL_law 381 = .ok (.iload_n 3, 1) := kt_o29 (j := 49) sL_law_332 rfl
theorem dL_law_382 : decode cL_law 382 = .ok (.iconst 2, 1) := kt_o5 (j := 50) sL_law_332 rfl
theorem dL_law_383 : decode cL_law 383 = .ok (.iadd, 1) := kt_o96 (j := 51) sL_law_332 rfl
theorem dL_law_384 : decode cL_law 384 = .ok (.iaload, 1) := kt_o46 (j := 52) sL_law_332 rfl
theorem dL_law_385 : decode cL_law 385 = .ok (.aload_n 0, 1) := kt_o42 (j := 53) sL_law_332 rfl
theorem dL_law_386 : decode cL_law 386 = .ok (.iload_n 3, 1) := kt_o29 (j := 54) sL_law_332 rfl
theorem dL_law_387 : decode cL_law 387 = .ok (.iconst 3, 1) := kt_o6 (j := 55) sL_law_332 rfl
theorem dL_law_388 : decode cL_law 388 = .ok (.iadd, 1) := kt_o96 (j := 56) sL_law_332 rfl
theorem dL_law_389 : decode cL_law 389 = .ok (.iaload, 1) := kt_o46 (j := 57) sL_law_332 rfl
theorem dL_law_390 : decode cL_law 390 = .ok (.invokevirtual 43, 3) := kt_o182 (j := 58) sL_law_332 rfl rfl
theorem dL_law_393 : decode cL_law 393 = .ok (.pop, 1) := kt_o87 (j := 61) sL_law_332 rfl
theorem dL_law_394 : decode cL_law 394 = .ok (.aload_n 2, 1) := kt_o44 (j := 62) sL_law_332 rfl
theorem dL_law_395 : decode cL_law 395 = .ok (.aload_n 0, 1) := kt_o42 (j := 63) sL_law_332 rfl
theorem sL_law_396 : kt_sg cL_law 396 [29, 4, 96, 46, 42, 29, 5, 96, 46, 42, 29, 6, 96, 46, 182, 0, 46, 87, 167, 1, 75, 43, 42, 29, 4, 96, 46, 182, 0, 47, 87, 44, 42, 29, 4, 96, 46, 182, 0, 50, 87, 167, 1, 52, 43, 42, 29, 4, 96, 46, 42, 29, 5, 96, 46, 182, 0, 51, 87, 44, 42, 29, 4, 96] = true := by decide +kernel
theorem dL_law_396 : decode cL_law 396 = .ok (.iload_n 3, 1) := kt_o29 (j := 0) sL_law_396 rfl
theorem dL_law_397 : decode cL_law 397 = .ok (.iconst 1, 1) := kt_o4 (j := 1) sL_law_396 rfl
theorem dL_law_398 : decode cL_law 398 = .ok (.iadd, 1) := kt_o96 (j := 2) sL_law_396 rfl
theorem dL_law_399 : decode cL_law 399 = .ok (.iaload, 1) := kt_o46 (j := 3) sL_law_396 rfl
theorem dL_law_400 : decode cL_law 400 = .ok (.aload_n 0, 1) := kt_o42 (j := 4) sL_law_396 rfl
theorem dL_law_401 : decode cL_law 401 = .ok (.iload_n 3, 1) := kt_o29 (j := 5) sL_law_396 rfl
theorem dL_law_402 : decode cL_law 402 = .ok (.iconst 2, 1) := kt_o5 (j := 6) sL_law_396 rfl
theorem dL_law_403 : decode cL_law 403 = .ok (.iadd, 1) := kt_o96 (j := 7) sL_law_396 rfl
theorem dL_law_404 : decode cL_law 404 = .ok (.iaload, 1) := kt_o46 (j := 8) sL_law_396 rfl
theorem dL_law_405 : decode cL_law 405 = .ok (.aload_n 0, 1) := kt_o42 (j := 9) sL_law_396 rfl
theorem dL_law_406 : decode cL_law 406 = .ok (.iload_n 3, 1) := kt_o29 (j := 10) sL_law_396 rfl
theorem dL_law_407 : decode cL_law 407 = .ok (.iconst 3, 1) := kt_o6 (j := 11) sL_law_396 rfl
theorem dL_law_408 : decode cL_law 408 = .ok (.iadd, 1) := kt_o96 (j := 12) sL_law_396 rfl
theorem dL_law_409 : decode cL_law 409 = .ok (.iaload, 1) := kt_o46 (j := 13) sL_law_396 rfl
theorem dL_law_410 : decode cL_law 410 = .ok (.invokevirtual 46, 3) := kt_o182 (j := 14) sL_law_396 rfl rfl
theorem dL_law_413 : decode cL_law 413 = .ok (.pop, 1) := kt_o87 (j := 17) sL_law_396 rfl
theorem dL_law_414 : decode cL_law 414 = .ok (.goto 331, 3) := kt_o167 (j := 18) sL_law_396 rfl (by decide +kernel)
theorem dL_law_417 : decode cL_law 417 = .ok (.aload_n 1, 1) := kt_o43 (j := 21) sL_law_396 rfl
theorem dL_law_418 : decode cL_law 418 = .ok (.aload_n 0, 1) := kt_o42 (j := 22) sL_law_396 rfl
theorem dL_law_419 : decode cL_law 419 = .ok (.iload_n 3, 1) := kt_o29 (j := 23) sL_law_396 rfl
theorem dL_law_420 : decode cL_law 420 = .ok (.iconst 1, 1) := kt_o4 (j := 24) sL_law_396 rfl
theorem dL_law_421 : decode cL_law 421 = .ok (.iadd, 1) := kt_o96 (j := 25) sL_law_396 rfl
theorem dL_law_422 : decode cL_law 422 = .ok (.iaload, 1) := kt_o46 (j := 26) sL_law_396 rfl
theorem dL_law_423 : decode cL_law 423 = .ok (.invokevirtual 47, 3) := kt_o182 (j := 27) sL_law_396 rfl rfl
theorem dL_law_426 : decode cL_law 426 = .ok (.pop, 1) := kt_o87 (j := 30) sL_law_396 rfl
theorem dL_law_427 : decode cL_law 427 = .ok (.aload_n 2, 1) := kt_o44 (j := 31) sL_law_396 rfl
theorem dL_law_428 : decode cL_law 428 = .ok (.aload_n 0, 1) := kt_o42 (j := 32) sL_law_396 rfl
theorem dL_law_429 : decode cL_law 429 = .ok (.iload_n 3, 1) := kt_o29 (j := 33) sL_law_396 rfl
theorem dL_law_430 : decode cL_law 430 = .ok (.iconst 1, 1) := kt_o4 (j := 34) sL_law_396 rfl
theorem dL_law_431 : decode cL_law 431 = .ok (.iadd, 1) := kt_o96 (j := 35) sL_law_396 rfl
theorem dL_law_432 : decode cL_law 432 = .ok (.iaload, 1) := kt_o46 (j := 36) sL_law_396 rfl
theorem dL_law_433 : decode cL_law 433 = .ok (.invokevirtual 50, 3) := kt_o182 (j := 37) sL_law_396 rfl rfl
theorem dL_law_436 : decode cL_law 436 = .ok (.pop, 1) := kt_o87 (j := 40) sL_law_396 rfl
theorem dL_law_437 : decode cL_law 437 = .ok (.goto 308, 3) := kt_o167 (j := 41) sL_law_396 rfl (by decide +kernel)
theorem dL_law_440 : decode cL_law 440 = .ok (.aload_n 1, 1) := kt_o43 (j := 44) sL_law_396 rfl
theorem dL_law_441 : decode cL_law 441 = .ok (.aload_n 0, 1) := kt_o42 (j := 45) sL_law_396 rfl
theorem dL_law_442 : decode cL_law 442 = .ok (.iload_n 3, 1) := kt_o29 (j := 46) sL_law_396 rfl
theorem dL_law_443 : decode cL_law 443 = .ok (.iconst 1, 1) := kt_o4 (j := 47) sL_law_396 rfl
theorem dL_law_444 : decode cL_law 444 = .ok (.iadd, 1) := kt_o96 (j := 48) sL_law_396 rfl
theorem dL_law_445 : decode cL_law 445 = .ok (.iaload, 1) := kt_o46 (j := 49) sL_law_396 rfl
theorem dL_law_446 : decode cL_law 446 = .ok (.aload_n 0, 1) := kt_o42 (j := 50) sL_law_396 rfl
theorem dL_law_447 : decode cL_law 447 = .ok (.iload_n 3, 1) := kt_o29 (j := 51) sL_law_396 rfl
theorem dL_law_448 : decode cL_law 448 = .ok (.iconst 2, 1) := kt_o5 (j := 52) sL_law_396 rfl
theorem dL_law_449 : decode cL_law 449 = .ok (.iadd, 1) := kt_o96 (j := 53) sL_law_396 rfl
theorem dL_law_450 : decode cL_law 450 = .ok (.iaload, 1) := kt_o46 (j := 54) sL_law_396 rfl
theorem dL_law_451 : decode cL_law 451 = .ok (.invokevirtual 51, 3) := kt_o182 (j := 55) sL_law_396 rfl rfl
theorem dL_law_454 : decode cL_law 454 = .ok (.pop, 1) := kt_o87 (j := 58) sL_law_396 rfl
theorem dL_law_455 : decode cL_law 455 = .ok (.aload_n 2, 1) := kt_o44 (j := 59) sL_law_396 rfl
theorem dL_law_456 : decode cL_law 456 = .ok (.aload_n 0, 1) := kt_o42 (j := 60) sL_law_396 rfl
theorem dL_law_457 : decode cL_law 457 = .ok (.iload_n 3, 1) := kt_o29 (j := 61) sL_law_396 rfl
theorem dL_law_458 : decode cL_law 458 = .ok (.iconst 1, 1) := kt_o4 (j := 62) sL_law_396 rfl
theorem dL_law_459 : decode cL_law 459 = .ok (.iadd, 1) := kt_o96 (j := 63) sL_law_396 rfl
theorem sL_law_460 : kt_sg cL_law 460 [46, 42, 29, 5, 96, 46, 182, 0, 55, 87, 167, 1, 19, 43, 42, 29, 4, 96, 46, 182, 0, 56, 87, 44, 42, 29, 4, 96, 46, 182, 0, 59, 87, 167, 0, 252, 43, 42, 29, 4, 96, 46, 182, 0, 60, 87, 44, 42, 29, 4, 96, 46, 182, 0, 63, 87, 167, 0, 229, 43, 42, 29, 4, 96] = true := by decide +kernel
theorem dL_law_460 : decode cL_law 460 = .ok (.iaload, 1) := kt_o46 (j := 0) sL_law_460 rfl
theorem dL_law_461 : decode cL_law 461 = .ok (.aload_n 0, 1) := kt_o42 (j := 1) sL_law_460 rfl
theorem dL_law_462 : decode cL_law 462 = .ok (.iload_n 3, 1) := kt_o29 (j := 2) sL_law_460 rfl
theorem dL_law_463 : decode cL_law 463 = .ok (.iconst 2, 1) := kt_o5 (j := 3) sL_law_460 rfl
theorem dL_law_464 : decode cL_law 464 = .ok (.iadd, 1) := kt_o96 (j := 4) sL_law_460 rfl
theorem dL_law_465 : decode cL_law 465 = .ok (.iaload, 1) := kt_o46 (j := 5) sL_law_460 rfl
theorem dL_law_466 : decode cL_law 466 = .ok (.invokevirtual 55, 3) := kt_o182 (j := 6) sL_law_460 rfl rfl
theorem dL_law_469 : decode cL_law 469 = .ok (.pop, 1) := kt_o87 (j := 9) sL_law_460 rfl
theorem dL_law_470 : decode cL_law 470 = .ok (.goto 275, 3) := kt_o167 (j := 10) sL_law_460 rfl (by decide +kernel)
theorem dL_law_473 : decode cL_law 473 = .ok (.aload_n 1, 1) := kt_o43 (j := 13) sL_law_460 rfl
theorem dL_law_474 : decode cL_law 474 = .ok (.aload_n 0, 1) := kt_o42 (j := 14) sL_law_460 rfl
theorem dL_law_475 : decode cL_law 475 = .ok (.iload_n 3, 1) := kt_o29 (j := 15) sL_law_460 rfl
theorem dL_law_476 : decode cL_law 476 = .ok (.iconst 1, 1) := kt_o4 (j := 16) sL_law_460 rfl
theorem dL_law_477 : decode cL_law 477 = .ok (.iadd, 1) := kt_o96 (j := 17) sL_law_460 rfl
theorem dL_law_478 : decode cL_law 478 = .ok (.iaload, 1) := kt_o46 (j := 18) sL_law_460 rfl
theorem dL_law_479 : decode cL_law 479 = .ok (.invokevirtual 56, 3) := kt_o182 (j := 19) sL_law_460 rfl rfl
theorem dL_law_482 : decode cL_law 482 = .ok (.pop, 1) := kt_o87 (j := 22) sL_law_460 rfl
theorem dL_law_483 : decode cL_law 483 = .ok (.aload_n 2, 1) := kt_o44 (j := 23) sL_law_460 rfl
theorem dL_law_484 : decode cL_law 484 = .ok (.aload_n 0, 1) := kt_o42 (j := 24) sL_law_460 rfl
theorem dL_law_485 : decode cL_law 485 = .ok (.iload_n 3, 1) := kt_o29 (j := 25) sL_law_460 rfl
theorem dL_law_486 : decode cL_law 486 = .ok (.iconst 1, 1) := kt_o4 (j := 26) sL_law_460 rfl
theorem dL_law_487 : decode cL_law 487 = .ok (.iadd, 1) := kt_o96 (j := 27) sL_law_460 rfl
theorem dL_law_488 : decode cL_law 488 = .ok (.iaload, 1) := kt_o46 (j := 28) sL_law_460 rfl
theorem dL_law_489 : decode cL_law 489 = .ok (.invokevirtual 59, 3) := kt_o182 (j := 29) sL_law_460 rfl rfl
theorem dL_law_492 : decode cL_law 492 = .ok (.pop, 1) := kt_o87 (j := 32) sL_law_460 rfl
theorem dL_law_493 : decode cL_law 493 = .ok (.goto 252, 3) := kt_o167 (j := 33) sL_law_460 rfl (by decide +kernel)
theorem dL_law_496 : decode cL_law 496 = .ok (.aload_n 1, 1) := kt_o43 (j := 36) sL_law_460 rfl
theorem dL_law_497 : decode cL_law 497 = .ok (.aload_n 0, 1) := kt_o42 (j := 37) sL_law_460 rfl
theorem dL_law_498 : decode cL_law 498 = .ok (.iload_n 3, 1) := kt_o29 (j := 38) sL_law_460 rfl
theorem dL_law_499 : decode cL_law 499 = .ok (.iconst 1, 1) := kt_o4 (j := 39) sL_law_460 rfl
theorem dL_law_500 : decode cL_law 500 = .ok (.iadd, 1) := kt_o96 (j := 40) sL_law_460 rfl
theorem dL_law_501 : decode cL_law 501 = .ok (.iaload, 1) := kt_o46 (j := 41) sL_law_460 rfl
theorem dL_law_502 : decode cL_law 502 = .ok (.invokevirtual 60, 3) := kt_o182 (j := 42) sL_law_460 rfl rfl
theorem dL_law_505 : decode cL_law 505 = .ok (.pop, 1) := kt_o87 (j := 45) sL_law_460 rfl
theorem dL_law_506 : decode cL_law 506 = .ok (.aload_n 2, 1) := kt_o44 (j := 46) sL_law_460 rfl
theorem dL_law_507 : decode cL_law 507 = .ok (.aload_n 0, 1) := kt_o42 (j := 47) sL_law_460 rfl
theorem dL_law_508 : decode cL_law 508 = .ok (.iload_n 3, 1) := kt_o29 (j := 48) sL_law_460 rfl
theorem dL_law_509 : decode cL_law 509 = .ok (.iconst 1, 1) := kt_o4 (j := 49) sL_law_460 rfl
theorem dL_law_510 : decode cL_law 510 = .ok (.iadd, 1) := kt_o96 (j := 50) sL_law_460 rfl
theorem dL_law_511 : decode cL_law 511 = .ok (.iaload, 1) := kt_o46 (j := 51) sL_law_460 rfl
theorem dL_law_512 : decode cL_law 512 = .ok (.invokevirtual 63, 3) := kt_o182 (j := 52) sL_law_460 rfl rfl
theorem dL_law_515 : decode cL_law 515 = .ok (.pop, 1) := kt_o87 (j := 55) sL_law_460 rfl
theorem dL_law_516 : decode cL_law 516 = .ok (.goto 229, 3) := kt_o167 (j := 56) sL_law_460 rfl (by decide +kernel)
theorem dL_law_519 : decode cL_law 519 = .ok (.aload_n 1, 1) := kt_o43 (j := 59) sL_law_460 rfl
theorem dL_law_520 : decode cL_law 520 = .ok (.aload_n 0, 1) := kt_o42 (j := 60) sL_law_460 rfl
theorem dL_law_521 : decode cL_law 521 = .ok (.iload_n 3, 1) := kt_o29 (j := 61) sL_law_460 rfl
theorem dL_law_522 : decode cL_law 522 = .ok (.iconst 1, 1) := kt_o4 (j := 62) sL_law_460 rfl
theorem dL_law_523 : decode cL_law 523 = .ok (.iadd, 1) := kt_o96 (j := 63) sL_law_460 rfl
theorem sL_law_524 : kt_sg cL_law 524 [46, 182, 0, 64, 87, 44, 42, 29, 4, 96, 46, 182, 0, 67, 87, 167, 0, 206, 43, 182, 0, 68, 87, 44, 182, 0, 71, 87, 167, 0, 193, 43, 42, 29, 4, 96, 46, 182, 0, 72, 87, 44, 42, 29, 4, 96, 46, 182, 0, 76, 87, 167, 0, 170, 43, 182, 0, 77, 87, 44, 182, 0, 80, 87] = true := by decide +kernel
theorem dL_law_524 : decode cL_law 524 = .ok (.iaload, 1) := kt_o46 (j := 0) sL_law_524 rfl
theorem dL_law_525 : decode cL_law 525 = .ok (.invokevirtual 64, 3) := kt_o182 (j := 1) sL_law_524 rfl rfl
theorem dL_law_528 : decode cL_law 528 = .ok (.pop, 1) := kt_o87 (j := 4) sL_law_524 rfl
theorem dL_law_529 : decode cL_law 529 = .ok (.aload_n 2, 1) := kt_o44 (j := 5) sL_law_524 rfl
theorem dL_law_530 : decode cL_law 530 = .ok (.aload_n 0, 1) := kt_o42 (j := 6) sL_law_524 rfl
theorem dL_law_531 : decode cL_law 531 = .ok (.iload_n 3, 1) := kt_o29 (j := 7) sL_law_524 rfl
theorem dL_law_532 : decode cL_law 532 = .ok (.iconst 1, 1) := kt_o4 (j := 8) sL_law_524 rfl
theorem dL_law_533 : decode cL_law 533 = .ok (.iadd, 1) := kt_o96 (j := 9) sL_law_524 rfl
theorem dL_law_534 : decode cL_law 534 = .ok (.iaload, 1) := kt_o46 (j := 10) sL_law_524 rfl
theorem dL_law_535 : decode cL_law 535 = .ok (.invokevirtual 67, 3) := kt_o182 (j := 11) sL_law_524 rfl rfl
theorem dL_law_538 : decode cL_law 538 = .ok (.pop, 1) := kt_o87 (j := 14) sL_law_524 rfl
theorem dL_law_539 : decode cL_law 539 = .ok (.goto 206, 3) := kt_o167 (j := 15) sL_law_524 rfl (by decide +kernel)
theorem dL_law_542 : decode cL_law 542 = .ok (.aload_n 1, 1) := kt_o43 (j := 18) sL_law_524 rfl
theorem dL_law_543 : decode cL_law 543 = .ok (.invokevirtual 68, 3) := kt_o182 (j := 19) sL_law_524 rfl rfl
theorem dL_law_546 : decode cL_law 546 = .ok (.pop, 1) := kt_o87 (j := 22) sL_law_524 rfl
theorem dL_law_547 : decode cL_law 547 = .ok (.aload_n 2, 1) := kt_o44 (j := 23) sL_law_524 rfl
theorem dL_law_548 : decode cL_law 548 = .ok (.invokevirtual 71, 3) := kt_o182 (j := 24) sL_law_524 rfl rfl
theorem dL_law_551 : decode cL_law 551 = .ok (.pop, 1) := kt_o87 (j := 27) sL_law_524 rfl
theorem dL_law_552 : decode cL_law 552 = .ok (.goto 193, 3) := kt_o167 (j := 28) sL_law_524 rfl (by decide +kernel)
theorem dL_law_555 : decode cL_law 555 = .ok (.aload_n 1, 1) := kt_o43 (j := 31) sL_law_524 rfl
theorem dL_law_556 : decode cL_law 556 = .ok (.aload_n 0, 1) := kt_o42 (j := 32) sL_law_524 rfl
theorem dL_law_557 : decode cL_law 557 = .ok (.iload_n 3, 1) := kt_o29 (j := 33) sL_law_524 rfl
theorem dL_law_558 : decode cL_law 558 = .ok (.iconst 1, 1) := kt_o4 (j := 34) sL_law_524 rfl
theorem dL_law_559 : decode cL_law 559 = .ok (.iadd, 1) := kt_o96 (j := 35) sL_law_524 rfl
theorem dL_law_560 : decode cL_law 560 = .ok (.iaload, 1) := kt_o46 (j := 36) sL_law_524 rfl
theorem dL_law_561 : decode cL_law 561 = .ok (.invokevirtual 72, 3) := kt_o182 (j := 37) sL_law_524 rfl rfl
theorem dL_law_564 : decode cL_law 564 = .ok (.pop, 1) := kt_o87 (j := 40) sL_law_524 rfl
theorem dL_law_565 : decode cL_law 565 = .ok (.aload_n 2, 1) := kt_o44 (j := 41) sL_law_524 rfl
theorem dL_law_566 : decode cL_law 566 = .ok (.aload_n 0, 1) := kt_o42 (j := 42) sL_law_524 rfl
theorem dL_law_567 : decode cL_law 567 = .ok (.iload_n 3, 1) := kt_o29 (j := 43) sL_law_524 rfl
theorem dL_law_568 : decode cL_law 568 = .ok (.iconst 1, 1) := kt_o4 (j := 44) sL_law_524 rfl
theorem dL_law_569 : decode cL_law 569 = .ok (.iadd, 1) := kt_o96 (j := 45) sL_law_524 rfl
theorem dL_law_570 : decode cL_law 570 = .ok (.iaload, 1) := kt_o46 (j := 46) sL_law_524 rfl
theorem dL_law_571 : decode cL_law 571 = .ok (.invokevirtual 76, 3) := kt_o182 (j := 47) sL_law_524 rfl rfl
theorem dL_law_574 : decode cL_law 574 = .ok (.pop, 1) := kt_o87 (j := 50) sL_law_524 rfl
theorem dL_law_575 : decode cL_law 575 = .ok (.goto 170, 3) := kt_o167 (j := 51) sL_law_524 rfl (by decide +kernel)
theorem dL_law_578 : decode cL_law 578 = .ok (.aload_n 1, 1) := kt_o43 (j := 54) sL_law_524 rfl
theorem dL_law_579 : decode cL_law 579 = .ok (.invokevirtual 77, 3) := kt_o182 (j := 55) sL_law_524 rfl rfl
theorem dL_law_582 : decode cL_law 582 = .ok (.pop, 1) := kt_o87 (j := 58) sL_law_524 rfl
theorem dL_law_583 : decode cL_law 583 = .ok (.aload_n 2, 1) := kt_o44 (j := 59) sL_law_524 rfl
theorem dL_law_584 : decode cL_law 584 = .ok (.invokevirtual 80, 3) := kt_o182 (j := 60) sL_law_524 rfl rfl
theorem dL_law_587 : decode cL_law 587 = .ok (.pop, 1) := kt_o87 (j := 63) sL_law_524 rfl
theorem sL_law_588 : kt_sg cL_law 588 [167, 0, 157, 43, 182, 0, 81, 44, 182, 0, 84, 159, 0, 146, 3, 172, 43, 182, 0, 85, 87, 44, 182, 0, 89, 87, 167, 0, 131, 43, 182, 0, 90, 87, 44, 182, 0, 93, 87, 167, 0, 118, 43, 182, 0, 94, 87, 44, 182, 0, 97, 87, 167, 0, 105, 43, 182, 0, 98, 87, 44, 182, 0, 101] = true := by decide +kernel
theorem dL_law_588 : decode cL_law 588 = .ok (.goto 157, 3) := kt_o167 (j := 0) sL_law_588 rfl (by decide +kernel)
theorem dL_law_591 : decode cL_law 591 = .ok (.aload_n 1, 1) := kt_o43 (j := 3) sL_law_588 rfl
theorem dL_law_592 : decode cL_law 592 = .ok (.invokevirtual 81, 3) := kt_o182 (j := 4) sL_law_588 rfl rfl
theorem dL_law_595 : decode cL_law 595 = .ok (.aload_n 2, 1) := kt_o44 (j := 7) sL_law_588 rfl
theorem dL_law_596 : decode cL_law 596 = .ok (.invokevirtual 84, 3) := kt_o182 (j := 8) sL_law_588 rfl rfl
theorem dL_law_599 : decode cL_law 599 = .ok (.if_icmp .eq 146, 3) := kt_o159 (j := 11) sL_law_588 rfl (by decide +kernel)
theorem dL_law_602 : decode cL_law 602 = .ok (.iconst 0, 1) := kt_o3 (j := 14) sL_law_588 rfl
theorem dL_law_603 : decode cL_law 603 = .ok (.ireturn, 1) := kt_o172 (j := 15) sL_law_588 rfl
theorem dL_law_604 : decode cL_law 604 = .ok (.aload_n 1, 1) := kt_o43 (j := 16) sL_law_588 rfl
theorem dL_law_605 : decode cL_law 605 = .ok (.invokevirtual 85, 3) := kt_o182 (j := 17) sL_law_588 rfl rfl
theorem dL_law_608 : decode cL_law 608 = .ok (.pop, 1) := kt_o87 (j := 20) sL_law_588 rfl
theorem dL_law_609 : decode cL_law 609 = .ok (.aload_n 2, 1) := kt_o44 (j := 21) sL_law_588 rfl
theorem dL_law_610 : decode cL_law 610 = .ok (.invokevirtual 89, 3) := kt_o182 (j := 22) sL_law_588 rfl rfl
theorem dL_law_613 : decode cL_law 613 = .ok (.pop, 1) := kt_o87 (j := 25) sL_law_588 rfl
theorem dL_law_614 : decode cL_law 614 = .ok (.goto 131, 3) := kt_o167 (j := 26) sL_law_588 rfl (by decide +kernel)
theorem dL_law_617 : decode cL_law 617 = .ok (.aload_n 1, 1) := kt_o43 (j := 29) sL_law_588 rfl
theorem dL_law_618 : decode cL_law 618 = .ok (.invokevirtual 90, 3) := kt_o182 (j := 30) sL_law_588 rfl rfl
theorem dL_law_621 : decode cL_law 621 = .ok (.pop, 1) := kt_o87 (j := 33) sL_law_588 rfl
theorem dL_law_622 : decode cL_law 622 = .ok (.aload_n 2, 1) := kt_o44 (j := 34) sL_law_588 rfl
theorem dL_law_623 : decode cL_law 623 = .ok (.invokevirtual 93, 3) := kt_o182 (j := 35) sL_law_588 rfl rfl
theorem dL_law_626 : decode cL_law 626 = .ok (.pop, 1) := kt_o87 (j := 38) sL_law_588 rfl
theorem dL_law_627 : decode cL_law 627 = .ok (.goto 118, 3) := kt_o167 (j := 39) sL_law_588 rfl (by decide +kernel)
theorem dL_law_630 : decode cL_law 630 = .ok (.aload_n 1, 1) := kt_o43 (j := 42) sL_law_588 rfl
theorem dL_law_631 : decode cL_law 631 = .ok (.invokevirtual 94, 3) := kt_o182 (j := 43) sL_law_588 rfl rfl
theorem dL_law_634 : decode cL_law 634 = .ok (.pop, 1) := kt_o87 (j := 46) sL_law_588 rfl
theorem dL_law_635 : decode cL_law 635 = .ok (.aload_n 2, 1) := kt_o44 (j := 47) sL_law_588 rfl
theorem dL_law_636 : decode cL_law 636 = .ok (.invokevirtual 97, 3) := kt_o182 (j := 48) sL_law_588 rfl rfl
theorem dL_law_639 : decode cL_law 639 = .ok (.pop, 1) := kt_o87 (j := 51) sL_law_588 rfl
theorem dL_law_640 : decode cL_law 640 = .ok (.goto 105, 3) := kt_o167 (j := 52) sL_law_588 rfl (by decide +kernel)
theorem dL_law_643 : decode cL_law 643 = .ok (.aload_n 1, 1) := kt_o43 (j := 55) sL_law_588 rfl
theorem dL_law_644 : decode cL_law 644 = .ok (.invokevirtual 98, 3) := kt_o182 (j := 56) sL_law_588 rfl rfl
theorem dL_law_647 : decode cL_law 647 = .ok (.pop, 1) := kt_o87 (j := 59) sL_law_588 rfl
theorem dL_law_648 : decode cL_law 648 = .ok (.aload_n 2, 1) := kt_o44 (j := 60) sL_law_588 rfl
theorem dL_law_649 : decode cL_law 649 = .ok (.invokevirtual 101, 3) := kt_o182 (j := 61) sL_law_588 rfl rfl
theorem sL_law_652 : kt_sg cL_law 652 [87, 167, 0, 92, 43, 42, 29, 4, 96, 46, 42, 29, 5, 96, 46, 182, 0, 102, 87, 44, 42, 29, 4, 96, 46, 42, 29, 5, 96, 46, 182, 0, 105, 87, 167, 0, 59, 43, 42, 29, 4, 96, 46, 182, 0, 106, 87, 44, 42, 29, 4, 96, 46, 182, 0, 109, 87, 167, 0, 36, 43, 42, 29, 4] = true := by decide +kernel
theorem dL_law_652 : decode cL_law 652 = .ok (.pop, 1) := kt_o87 (j := 0) sL_law_652 rfl
theorem dL_law_653 : decode cL_law 653 = .ok (.goto 92, 3) := kt_o167 (j := 1) sL_law_652 rfl (by decide +kernel)
theorem dL_law_656 : decode cL_law 656 = .ok (.aload_n 1, 1) := kt_o43 (j := 4) sL_law_652 rfl
theorem dL_law_657 : decode cL_law 657 = .ok (.aload_n 0, 1) := kt_o42 (j := 5) sL_law_652 rfl
theorem dL_law_658 : decode cL_law 658 = .ok (.iload_n 3, 1) := kt_o29 (j := 6) sL_law_652 rfl
theorem dL_law_659 : decode cL_law 659 = .ok (.iconst 1, 1) := kt_o4 (j := 7) sL_law_652 rfl
theorem dL_law_660 : decode cL_law 660 = .ok (.iadd, 1) := kt_o96 (j := 8) sL_law_652 rfl
theorem dL_law_661 : decode cL_law 661 = .ok (.iaload, 1) := kt_o46 (j := 9) sL_law_652 rfl
theorem dL_law_662 : decode cL_law 662 = .ok (.aload_n 0, 1) := kt_o42 (j := 10) sL_law_652 rfl
theorem dL_law_663 : decode cL_law 663 = .ok (.iload_n 3, 1) := kt_o29 (j := 11) sL_law_652 rfl
theorem dL_law_664 : decode cL_law 664 = .ok (.iconst 2, 1) := kt_o5 (j := 12) sL_law_652 rfl
theorem dL_law_665 : decode cL_law 665 = .ok (.iadd, 1) := kt_o96 (j := 13) sL_law_652 rfl
theorem dL_law_666 : decode cL_law 666 = .ok (.iaload, 1) := kt_o46 (j := 14) sL_law_652 rfl
theorem dL_law_667 : decode cL_law 667 = .ok (.invokevirtual 102, 3) := kt_o182 (j := 15) sL_law_652 rfl rfl
theorem dL_law_670 : decode cL_law 670 = .ok (.pop, 1) := kt_o87 (j := 18) sL_law_652 rfl
theorem dL_law_671 : decode cL_law 671 = .ok (.aload_n 2, 1) := kt_o44 (j := 19) sL_law_652 rfl
theorem dL_law_672 : decode cL_law 672 = .ok (.aload_n 0, 1) := kt_o42 (j := 20) sL_law_652 rfl
theorem dL_law_673 : decode cL_law 673 = .ok (.iload_n 3, 1) := kt_o29 (j := 21) sL_law_652 rfl
theorem dL_law_674 : decode cL_law 674 = .ok (.iconst 1, 1) := kt_o4 (j := 22) sL_law_652 rfl
theorem dL_law_675 : decode cL_law 675 = .ok (.iadd, 1) := kt_o96 (j := 23) sL_law_652 rfl
theorem dL_law_676 : decode cL_law 676 = .ok (.iaload, 1) := kt_o46 (j := 24) sL_law_652 rfl
theorem dL_law_677 : decode cL_law 677 = .ok (.aload_n 0, 1) := kt_o42 (j := 25) sL_law_652 rfl
theorem dL_law_678 : decode cL_law 678 = .ok (.iload_n 3, 1) := kt_o29 (j := 26) sL_law_652 rfl
theorem dL_law_679 : decode cL_law 679 = .ok (.iconst 2, 1) := kt_o5 (j := 27) sL_law_652 rfl
theorem dL_law_680 : decode cL_law 680 = .ok (.iadd, 1) := kt_o96 (j := 28) sL_law_652 rfl
theorem dL_law_681 : decode cL_law 681 = .ok (.iaload, 1) := kt_o46 (j := 29) sL_law_652 rfl
theorem dL_law_682 : decode cL_law 682 = .ok (.invokevirtual 105, 3) := kt_o182 (j := 30) sL_law_652 rfl rfl
theorem dL_law_685 : decode cL_law 685 = .ok (.pop, 1) := kt_o87 (j := 33) sL_law_652 rfl
theorem dL_law_686 : decode cL_law 686 = .ok (.goto 59, 3) := kt_o167 (j := 34) sL_law_652 rfl (by decide +kernel)
theorem dL_law_689 : decode cL_law 689 = .ok (.aload_n 1, 1) := kt_o43 (j := 37) sL_law_652 rfl
theorem dL_law_690 : decode cL_law 690 = .ok (.aload_n 0, 1) := kt_o42 (j := 38) sL_law_652 rfl
theorem dL_law_691 : decode cL_law 691 = .ok (.iload_n 3, 1) := kt_o29 (j := 39) sL_law_652 rfl
theorem dL_law_692 : decode cL_law 692 = .ok (.iconst 1, 1) := kt_o4 (j := 40) sL_law_652 rfl
theorem dL_law_693 : decode cL_law 693 = .ok (.iadd, 1) := kt_o96 (j := 41) sL_law_652 rfl
theorem dL_law_694 : decode cL_law 694 = .ok (.iaload, 1) := kt_o46 (j := 42) sL_law_652 rfl
theorem dL_law_695 : decode cL_law 695 = .ok (.invokevirtual 106, 3) := kt_o182 (j := 43) sL_law_652 rfl rfl
theorem dL_law_698 : decode cL_law 698 = .ok (.pop, 1) := kt_o87 (j := 46) sL_law_652 rfl
theorem dL_law_699 : decode cL_law 699 = .ok (.aload_n 2, 1) := kt_o44 (j := 47) sL_law_652 rfl
theorem dL_law_700 : decode cL_law 700 = .ok (.aload_n 0, 1) := kt_o42 (j := 48) sL_law_652 rfl
theorem dL_law_701 : decode cL_law 701 = .ok (.iload_n 3, 1) := kt_o29 (j := 49) sL_law_652 rfl
theorem dL_law_702 : decode cL_law 702 = .ok (.iconst 1, 1) := kt_o4 (j := 50) sL_law_652 rfl
theorem dL_law_703 : decode cL_law 703 = .ok (.iadd, 1) := kt_o96 (j := 51) sL_law_652 rfl
theorem dL_law_704 : decode cL_law 704 = .ok (.iaload, 1) := kt_o46 (j := 52) sL_law_652 rfl
theorem dL_law_705 : decode cL_law 705 = .ok (.invokevirtual 109, 3) := kt_o182 (j := 53) sL_law_652 rfl rfl
theorem dL_law_708 : decode cL_law 708 = .ok (.pop, 1) := kt_o87 (j := 56) sL_law_652 rfl
theorem dL_law_709 : decode cL_law 709 = .ok (.goto 36, 3) := kt_o167 (j := 57) sL_law_652 rfl (by decide +kernel)
theorem dL_law_712 : decode cL_law 712 = .ok (.aload_n 1, 1) := kt_o43 (j := 60) sL_law_652 rfl
theorem dL_law_713 : decode cL_law 713 = .ok (.aload_n 0, 1) := kt_o42 (j := 61) sL_law_652 rfl
theorem dL_law_714 : decode cL_law 714 = .ok (.iload_n 3, 1) := kt_o29 (j := 62) sL_law_652 rfl
theorem dL_law_715 : decode cL_law 715 = .ok (.iconst 1, 1) := kt_o4 (j := 63) sL_law_652 rfl
theorem sL_law_716 : kt_sg cL_law 716 [96, 46, 42, 29, 5, 96, 46, 182, 0, 110, 87, 44, 42, 29, 4, 96, 46, 42, 29, 5, 96, 46, 182, 0, 113, 87, 167, 0, 3, 132, 3, 6, 167, 253, 38, 4, 172] = true := by decide +kernel
theorem dL_law_716 : decode cL_law 716 = .ok (.iadd, 1) := kt_o96 (j := 0) sL_law_716 rfl
theorem dL_law_717 : decode cL_law 717 = .ok (.iaload, 1) := kt_o46 (j := 1) sL_law_716 rfl
theorem dL_law_718 : decode cL_law 718 = .ok (.aload_n 0, 1) := kt_o42 (j := 2) sL_law_716 rfl
theorem dL_law_719 : decode cL_law 719 = .ok (.iload_n 3, 1) := kt_o29 (j := 3) sL_law_716 rfl
theorem dL_law_720 : decode cL_law 720 = .ok (.iconst 2, 1) := kt_o5 (j := 4) sL_law_716 rfl
theorem dL_law_721 : decode cL_law 721 = .ok (.iadd, 1) := kt_o96 (j := 5) sL_law_716 rfl
theorem dL_law_722 : decode cL_law 722 = .ok (.iaload, 1) := kt_o46 (j := 6) sL_law_716 rfl
theorem dL_law_723 : decode cL_law 723 = .ok (.invokevirtual 110, 3) := kt_o182 (j := 7) sL_law_716 rfl rfl
theorem dL_law_726 : decode cL_law 726 = .ok (.pop, 1) := kt_o87 (j := 10) sL_law_716 rfl
theorem dL_law_727 : decode cL_law 727 = .ok (.aload_n 2, 1) := kt_o44 (j := 11) sL_law_716 rfl
theorem dL_law_728 : decode cL_law 728 = .ok (.aload_n 0, 1) := kt_o42 (j := 12) sL_law_716 rfl
theorem dL_law_729 : decode cL_law 729 = .ok (.iload_n 3, 1) := kt_o29 (j := 13) sL_law_716 rfl
theorem dL_law_730 : decode cL_law 730 = .ok (.iconst 1, 1) := kt_o4 (j := 14) sL_law_716 rfl
theorem dL_law_731 : decode cL_law 731 = .ok (.iadd, 1) := kt_o96 (j := 15) sL_law_716 rfl
theorem dL_law_732 : decode cL_law 732 = .ok (.iaload, 1) := kt_o46 (j := 16) sL_law_716 rfl
theorem dL_law_733 : decode cL_law 733 = .ok (.aload_n 0, 1) := kt_o42 (j := 17) sL_law_716 rfl
theorem dL_law_734 : decode cL_law 734 = .ok (.iload_n 3, 1) := kt_o29 (j := 18) sL_law_716 rfl
theorem dL_law_735 : decode cL_law 735 = .ok (.iconst 2, 1) := kt_o5 (j := 19) sL_law_716 rfl
theorem dL_law_736 : decode cL_law 736 = .ok (.iadd, 1) := kt_o96 (j := 20) sL_law_716 rfl
theorem dL_law_737 : decode cL_law 737 = .ok (.iaload, 1) := kt_o46 (j := 21) sL_law_716 rfl
theorem dL_law_738 : decode cL_law 738 = .ok (.invokevirtual 113, 3) := kt_o182 (j := 22) sL_law_716 rfl rfl
theorem dL_law_741 : decode cL_law 741 = .ok (.pop, 1) := kt_o87 (j := 25) sL_law_716 rfl
theorem dL_law_742 : decode cL_law 742 = .ok (.goto 3, 3) := kt_o167 (j := 26) sL_law_716 rfl (by decide +kernel)
theorem dL_law_745 : decode cL_law 745 = .ok (.iinc 3 6, 3) := kt_o132 (j := 29) sL_law_716 rfl (by decide +kernel)
theorem dL_law_748 : decode cL_law 748 = .ok (.goto (-730), 3) := kt_o167 (j := 32) sL_law_716 rfl (by decide +kernel)
theorem dL_law_751 : decode cL_law 751 = .ok (.iconst 1, 1) := kt_o4 (j := 35) sL_law_716 rfl
theorem dL_law_752 : decode cL_law 752 = .ok (.ireturn, 1) := kt_o172 (j := 36) sL_law_716 rfl
