theorem dL_arePatterns_274 : decode cL_arePatterns 274 = .ok (.aload 8, 2) := by decide +kernel
theorem dL_arePatterns_276 : decode cL_arePatterns 276 = .ok (.aload 4, 2) := by decide +kernel
theorem dL_arePatterns_278 : decode cL_arePatterns 278 = .ok (.iload 9, 2) := by decide +kernel
theorem dL_arePatterns_280 : decode cL_arePatterns 280 = .ok (.iaload, 1) := by decide +kernel
theorem dL_arePatterns_281 : decode cL_arePatterns 281 = .ok (.dup2, 1) := by decide +kernel
theorem dL_arePatterns_282 : decode cL_arePatterns 282 = .ok (.iaload, 1) := by decide +kernel
theorem dL_arePatterns_283 : decode cL_arePatterns 283 = .ok (.iconst 1, 1) := by decide +kernel
theorem dL_arePatterns_284 : decode cL_arePatterns 284 = .ok (.iadd, 1) := by decide +kernel
theorem dL_arePatterns_285 : decode cL_arePatterns 285 = .ok (.iastore, 1) := by decide +kernel
theorem dL_arePatterns_286 : decode cL_arePatterns 286 = .ok (.iload 10, 2) := by decide +kernel
theorem dL_arePatterns_288 : decode cL_arePatterns 288 = .ok (.ifCond .le 7, 3) := by decide +kernel
theorem dL_arePatterns_291 : decode cL_arePatterns 291 = .ok (.iconst 1, 1) := by decide +kernel
theorem dL_arePatterns_292 : decode cL_arePatterns 292 = .ok (.goto 4, 3) := by decide +kernel
theorem dL_arePatterns_295 : decode cL_arePatterns 295 = .ok (.iconst 0, 1) := by decide +kernel
theorem dL_arePatterns_296 : decode cL_arePatterns 296 = .ok (.istore_n 3, 1) := by decide +kernel
theorem dL_arePatterns_297 : decode cL_arePatterns 297 = .ok (.iconst 0, 1) := by decide +kernel
theorem dL_arePatterns_298 : decode cL_arePatterns 298 = .ok (.istore 11, 2) := by decide +kernel
theorem dL_arePatterns_300 : decode cL_arePatterns 300 = .ok (.iload 11, 2) := by decide +kernel
theorem dL_arePatterns_302 : decode cL_arePatterns 302 = .ok (.iconst 3, 1) := by decide +kernel
theorem dL_arePatterns_303 : decode cL_arePatterns 303 = .ok (.if_icmp .ge 81, 3) := by decide +kernel
theorem dL_arePatterns_306 : decode cL_arePatterns 306 = .ok (.aload_n 0, 1) := by decide +kernel
theorem dL_arePatterns_307 : decode cL_arePatterns 307 = .ok (.iconst 5, 1) := by decide +kernel
theorem dL_arePatterns_308 : decode cL_arePatterns 308 = .ok (.iload 9, 2) := by decide +kernel
theorem dL_arePatterns_310 : decode cL_arePatterns 310 = .ok (.iload 11, 2) := by decide +kernel
theorem dL_arePatterns_312 : decode cL_arePatterns 312 = .ok (.invokestatic 120, 3) := by decide +kernel
theorem dL_arePatterns_315 : decode cL_arePatterns 315 = .ok (.istore 12, 2) := by decide +kernel
theorem dL_arePatterns_317 : decode cL_arePatterns 317 = .ok (.iload_n 3, 1) := by decide +kernel
theorem dL_arePatterns_318 : decode cL_arePatterns 318 = .ok (.ifCond .eq 58, 3) := by decide +kernel
theorem dL_arePatterns_321 : decode cL_arePatterns 321 = .ok (.iload 12, 2) := by decide +kernel
theorem dL_arePatterns_323 : decode cL_arePatterns 323 = .ok (.iconst 1, 1) := by decide +kernel
theorem dL_arePatterns_324 : decode cL_arePatterns 324 = .ok (.if_icmp .lt 52, 3) := by decide +kernel
theorem dL_arePatterns_327 : decode cL_arePatterns 327 = .ok (.iload 12, 2) := by decide +kernel
theorem dL_arePatterns_329 : decode cL_arePatterns 329 = .ok (.iload 10, 2) := by decide +kernel
theorem dL_arePatterns_331 : decode cL_arePatterns 331 = .ok (.if_icmp .gt 45, 3) := by decide +kernel
theorem dL_arePatterns_334 : decode cL_arePatterns 334 = .ok (.iload 12, 2) := by decide +kernel
theorem dL_arePatterns_336 : decode cL_arePatterns 336 = .ok (.iconst 1, 1) := by decide +kernel
theorem dL_arePatterns_337 : decode cL_arePatterns 337 = .ok (.if_icmp .eq 16, 3) := by decide +kernel
theorem dL_arePatterns_340 : decode cL_arePatterns 340 = .ok (.aload_n 0, 1) := by decide +kernel
theorem dL_arePatterns_341 : decode cL_arePatterns 341 = .ok (.iconst 3, 1) := by decide +kernel
theorem dL_arePatterns_342 : decode cL_arePatterns 342 = .ok (.iload 9, 2) := by decide +kernel
theorem dL_arePatterns_344 : decode cL_arePatterns 344 = .ok (.iload 11, 2) := by decide +kernel
theorem dL_arePatterns_346 : decode cL_arePatterns 346 = .ok (.invokestatic 120, 3) := by decide +kernel
theorem dL_arePatterns_349 : decode cL_arePatterns 349 = .ok (.iconst (-1), 1) := by decide +kernel
theorem dL_arePatterns_350 : decode cL_arePatterns 350 = .ok (.if_icmp .ne 26, 3) := by decide +kernel
theorem dL_arePatterns_353 : decode cL_arePatterns 353 = .ok (.aload_n 0, 1) := by decide +kernel
theorem dL_arePatterns_354 : decode cL_arePatterns 354 = .ok (.iconst 3, 1) := by decide +kernel
theorem dL_arePatterns_355 : decode cL_arePatterns 355 = .ok (.iload 9, 2) := by decide +kernel
theorem dL_arePatterns_357 : decode cL_arePatterns 357 = .ok (.iload 11, 2) := by decide +kernel
theorem dL_arePatterns_359 : decode cL_arePatterns 359 = .ok (.invokestatic 120, 3) := by decide +kernel
theorem dL_arePatterns_362 : decode cL_arePatterns 362 = .ok (.iconst (-1), 1) := by decide +kernel
theorem dL_arePatterns_363 : decode cL_arePatterns 363 = .ok (.if_icmp .eq 9, 3) := by decide +kernel
theorem dL_arePatterns_366 : decode cL_arePatterns 366 = .ok (.iload 12, 2) := by decide +kernel
theorem dL_arePatterns_368 : decode cL_arePatterns 368 = .ok (.iconst 1, 1) := by decide +kernel
theorem dL_arePatterns_369 : decode cL_arePatterns 369 = .ok (.if_icmp .ne 7, 3) := by decide +kernel
theorem dL_arePatterns_372 : decode cL_arePatterns 372 = .ok (.iconst 1, 1) := by decide +kernel
theorem dL_arePatterns_373 : decode cL_arePatterns 373 = .ok (.goto 4, 3) := by decide +kernel
theorem dL_arePatterns_376 : decode cL_arePatterns 376 = .ok (.iconst 0, 1) := by decide +kernel
theorem dL_arePatterns_377 : decode cL_arePatterns 377 = .ok (.istore_n 3, 1) := by decide +kernel
theorem dL_arePatterns_378 : decode cL_arePatterns 378 = .ok (.iinc 11 1, 3) := by decide +kernel
theorem dL_arePatterns_381 : decode cL_arePatterns 381 = .ok (.goto (-81), 3) := by decide +kernel
theorem dL_arePatterns_384 : decode cL_arePatterns 384 = .ok (.iconst 0, 1) := by decide +kernel
theorem dL_arePatterns_385 : decode cL_arePatterns 385 = .ok (.istore 11, 2) := by decide +kernel
theorem dL_arePatterns_387 : decode cL_arePatterns 387 = .ok (.iload 11, 2) := by decide +kernel
theorem dL_arePatterns_389 : decode cL_arePatterns 389 = .ok (.iconst 3, 1) := by decide +kernel
theorem dL_arePatterns_390 : decode cL_arePatterns 390 = .ok (.if_icmp .ge 28, 3) := by decide +kernel
theorem dL_arePatterns_393 : decode cL_arePatterns 393 = .ok (.aload 5, 2) := by decide +kernel
theorem dL_arePatterns_395 : decode cL_arePatterns 395 = .ok (.iconst 3, 1) := by decide +kernel
theorem dL_arePatterns_396 : decode cL_arePatterns 396 = .ok (.iload 9, 2) := by decide +kernel
theorem dL_arePatterns_398 : decode cL_arePatterns 398 = .ok (.imul, 1) := by decide +kernel
theorem dL_arePatterns_399 : decode cL_arePatterns 399 = .ok (.iload 11, 2) := by decide +kernel
theorem dL_arePatterns_401 : decode cL_arePatterns 401 = .ok (.iadd, 1) := by decide +kernel
theorem dL_arePatterns_402 : decode cL_arePatterns 402 = .ok (.aload_n 0, 1) := by decide +kernel
theorem dL_arePatterns_403 : decode cL_arePatterns 403 = .ok (.iconst 3, 1) := by decide +kernel
theorem dL_arePatterns_404 : decode cL_arePatterns 404 = .ok (.iload 9, 2) := by decide +kernel
theorem dL_arePatterns_406 : decode cL_arePatterns 406 = .ok (.iload 11, 2) := by decide +kernel
theorem dL_arePatterns_408 : decode cL_arePatterns 408 = .ok (.invokestatic 120, 3) := by decide +kernel
theorem dL_arePatterns_411 : decode cL_arePatterns 411 = .ok (.iastore, 1) := by decide +kernel
theorem dL_arePatterns_412 : decode cL_arePatterns 412 = .ok (.iinc 11 1, 3) := by decide +kernel
theorem dL_arePatterns_415 : decode cL_arePatterns 415 = .ok (.goto (-28), 3) := by decide +kernel
theorem dL_arePatterns_418 : decode cL_arePatterns 418 = .ok (.iconst 0, 1) := by decide +kernel
theorem dL_arePatterns_419 : decode cL_arePatterns 419 = .ok (.istore 11, 2) := by decide +kernel
theorem dL_arePatterns_421 : decode cL_arePatterns 421 = .ok (.iload 11, 2) := by decide +kernel
theorem dL_arePatterns_423 : decode cL_arePatterns 423 = .ok (.iload 9, 2) := by decide +kernel
theorem dL_arePatterns_425 : decode cL_arePatterns 425 = .ok (.if_icmp .ge 89, 3) := by decide +kernel
theorem dL_arePatterns_428 : decode cL_arePatterns 428 = .ok (.iconst 0, 1) := by decide +kernel
theorem dL_arePatterns_429 : decode cL_arePatterns 429 = .ok (.istore 12, 2) := by decide +kernel
theorem dL_arePatterns_431 : decode cL_arePatterns 431 = .ok (.iconst 0, 1) := by decide +kernel
theorem dL_arePatterns_432 : decode cL_arePatterns 432 = .ok (.istore 13, 2) := by decide +kernel
theorem dL_arePatterns_434 : decode cL_arePatterns 434 = .ok (.iload 13, 2) := by decide +kernel
theorem dL_arePatterns_436 : decode cL_arePatterns 436 = .ok (.iconst 3, 1) := by decide +kernel
theorem dL_arePatterns_437 : decode cL_arePatterns 437 = .ok (.if_icmp .ge 42, 3) := by decide +kernel
theorem dL_arePatterns_440 : decode cL_arePatterns 440 = .ok (.iload 12, 2) := by decide +kernel
theorem dL_arePatterns_442 : decode cL_arePatterns 442 = .ok (.aload 5, 2) := by decide +kernel
theorem dL_arePatterns_444 : decode cL_arePatterns 444 = .ok (.iconst 3, 1) := by decide +kernel
theorem dL_arePatterns_445 : decode cL_arePatterns 445 = .ok (.iload 11, 2) := by decide +kernel
theorem dL_arePatterns_447 : decode cL_arePatterns 447 = .ok (.imul, 1) := by decide +kernel
theorem dL_arePatterns_448 : decode cL_arePatterns 448 = .ok (.iload 13, 2) := by decide +kernel
theorem dL_arePatterns_450 : decode cL_arePatterns 450 = .ok (.iadd, 1) := by decide +kernel
theorem dL_arePatterns_451 : decode cL_arePatterns 451 = .ok (.iaload, 1) := by decide +kernel
theorem dL_arePatterns_452 : decode cL_arePatterns 452 = .ok (.aload 5, 2) := by decide +kernel
theorem dL_arePatterns_454 : decode cL_arePatterns 454 = .ok (.iconst 3, 1) := by decide +kernel
theorem dL_arePatterns_455 : decode cL_arePatterns 455 = .ok (.iload 9, 2) := by decide +kernel
theorem dL_arePatterns_457 : decode cL_arePatterns 457 = .ok (.imul, 1) := by decide +kernel
theorem dL_arePatterns_458 : decode cL_arePatterns 458 = .ok (.iload 13, 2) := by decide +kernel
theorem dL_arePatterns_460 : decode cL_arePatterns 460 = .ok (.iadd, 1) := by decide +kernel
theorem dL_arePatterns_461 : decode cL_arePatterns 461 = .ok (.iaload, 1) := by decide +kernel
theorem dL_arePatterns_462 : decode cL_arePatterns 462 = .ok (.if_icmp .ne 7, 3) := by decide +kernel
theorem dL_arePatterns_465 : decode cL_arePatterns 465 = .ok (.iconst 1, 1) := by decide +kernel
theorem dL_arePatterns_466 : decode cL_arePatterns 466 = .ok (.goto 4, 3) := by decide +kernel
theorem dL_arePatterns_469 : decode cL_arePatterns 469 = .ok (.iconst 0, 1) := by decide +kernel
theorem dL_arePatterns_470 : decode cL_arePatterns 470 = .ok (.iadd, 1) := by decide +kernel
theorem dL_arePatterns_471 : decode cL_arePatterns 471 = .ok (.istore 12, 2) := by decide +kernel
theorem dL_arePatterns_473 : decode cL_arePatterns 473 = .ok (.iinc 13 1, 3) := by decide +kernel
theorem dL_arePatterns_476 : decode cL_arePatterns 476 = .ok (.goto (-42), 3) := by decide +kernel
theorem dL_arePatterns_479 : decode cL_arePatterns 479 = .ok (.iload_n 3, 1) := by decide +kernel
theorem dL_arePatterns_480 : decode cL_arePatterns 480 = .ok (.ifCond .eq 26, 3) := by decide +kernel
theorem dL_arePatterns_483 : decode cL_arePatterns 483 = .ok (.iload 12, 2) := by decide +kernel
theorem dL_arePatterns_485 : decode cL_arePatterns 485 = .ok (.iconst 2, 1) := by decide +kernel
theorem dL_arePatterns_486 : decode cL_arePatterns 486 = .ok (.if_icmp .ne 16, 3) := by decide +kernel
theorem dL_arePatterns_489 : decode cL_arePatterns 489 = .ok (.aload 4, 2) := by decide +kernel
theorem dL_arePatterns_491 : decode cL_arePatterns 491 = .ok (.iload 9, 2) := by decide +kernel
theorem dL_arePatterns_493 : decode cL_arePatterns 493 = .ok (.iaload, 1) := by decide +kernel
theorem dL_arePatterns_494 : decode cL_arePatterns 494 = .ok (.aload 4, 2) := by decide +kernel
theorem dL_arePatterns_496 : decode cL_arePatterns 496 = .ok (.iload 11, 2) := by decide +kernel
theorem dL_arePatterns_498 : decode cL_arePatterns 498 = .ok (.iaload, 1) := by decide +kernel
theorem dL_arePatterns_499 : decode cL_arePatterns 499 = .ok (.if_icmp .eq 7, 3) := by decide +kernel
theorem dL_arePatterns_502 : decode cL_arePatterns 502 = .ok (.iconst 1, 1) := by decide +kernel
theorem dL_arePatterns_503 : decode cL_arePatterns 503 = .ok (.goto 4, 3) := by decide +kernel
theorem dL_arePatterns_506 : decode cL_arePatterns 506 = .ok (.iconst 0, 1) := by decide +kernel
theorem dL_arePatterns_507 : decode cL_arePatterns 507 = .ok (.istore_n 3, 1) := by decide +kernel
theorem dL_arePatterns_508 : decode cL_arePatterns 508 = .ok (.iinc 11 1, 3) := by decide +kernel
theorem dL_arePatterns_511 : decode cL_arePatterns 511 = .ok (.goto (-90), 3) := by decide +kernel
theorem dL_arePatterns_514 : decode cL_arePatterns 514 = .ok (.iinc 9 1, 3) := by decide +kernel
theorem dL_arePatterns_517 : decode cL_arePatterns 517 = .ok (.goto (-309), 3) := by decide +kernel
theorem dL_arePatterns_520 : decode cL_arePatterns 520 = .ok (.iconst 0, 1) := by decide +kernel
theorem dL_arePatterns_521 : decode cL_arePatterns 521 = .ok (.istore 9, 2) := by decide +kernel
theorem dL_arePatterns_523 : decode cL_arePatterns 523 = .ok (.iload 9, 2) := by decide +kernel
theorem dL_arePatterns_525 : decode cL_arePatterns 525 = .ok (.iconst 4, 1) := by decide +kernel
theorem dL_arePatterns_526 : decode cL_arePatterns 526 = .ok (.if_icmp .ge 35, 3) := by decide +kernel
theorem dL_arePatterns_529 : decode cL_arePatterns 529 = .ok (.iload_n 3, 1) := by decide +kernel
theorem dL_arePatterns_530 : decode cL_arePatterns 530 = .ok (.ifCond .eq 23, 3) := by decide +kernel
theorem dL_arePatterns_533 : decode cL_arePatterns 533 = .ok (.aload_n 0, 1) := by decide +kernel
theorem dL_arePatterns_534 : decode cL_arePatterns 534 = .ok (.iconst 2, 1) := by decide +kernel
theorem dL_arePatterns_535 : decode cL_arePatterns 535 = .ok (.iload 9, 2) := by decide +kernel
theorem dL_arePatterns_537 : decode cL_arePatterns 537 = .ok (.iconst 0, 1) := by decide +kernel
theorem dL_arePatterns_538 : decode cL_arePatterns 538 = .ok (.invokestatic 120, 3) := by decide +kernel
theorem dL_arePatterns_541 : decode cL_arePatterns 541 = .ok (.aload 8, 2) := by decide +kernel
theorem dL_arePatterns_543 : decode cL_arePatterns 543 = .ok (.iload 9, 2) := by decide +kernel
theorem dL_arePatterns_545 : decode cL_arePatterns 545 = .ok (.iaload, 1) := by decide +kernel
theorem dL_arePatterns_546 : decode cL_arePatterns 546 = .ok (.if_icmp .ne 7, 3) := by decide +kernel
