theorem dL_areAlerts_231 : decode cL_areAlerts 231 = .ok (.iload 11, 2) := by decide +kernel
theorem dL_areAlerts_233 : decode cL_areAlerts 233 = .ok (.ifCond .eq 7, 3) := by decide +kernel
theorem dL_areAlerts_236 : decode cL_areAlerts 236 = .ok (.iconst 1, 1) := by decide +kernel
theorem dL_areAlerts_237 : decode cL_areAlerts 237 = .ok (.goto 4, 3) := by decide +kernel
theorem dL_areAlerts_240 : decode cL_areAlerts 240 = .ok (.iconst 0, 1) := by decide +kernel
theorem dL_areAlerts_241 : decode cL_areAlerts 241 = .ok (.bastore, 1) := by decide +kernel
theorem dL_areAlerts_242 : decode cL_areAlerts 242 = .ok (.iinc 10 1, 3) := by decide +kernel
theorem dL_areAlerts_245 : decode cL_areAlerts 245 = .ok (.goto (-157), 3) := by decide +kernel
theorem dL_areAlerts_248 : decode cL_areAlerts 248 = .ok (.aload_n 0, 1) := by decide +kernel
theorem dL_areAlerts_249 : decode cL_areAlerts 249 = .ok (.bipush 9, 2) := by decide +kernel
theorem dL_areAlerts_251 : decode cL_areAlerts 251 = .ok (.iload 7, 2) := by decide +kernel
theorem dL_areAlerts_253 : decode cL_areAlerts 253 = .ok (.iconst 0, 1) := by decide +kernel
theorem dL_areAlerts_254 : decode cL_areAlerts 254 = .ok (.invokestatic 120, 3) := by decide +kernel
theorem dL_areAlerts_257 : decode cL_areAlerts 257 = .ok (.istore 10, 2) := by decide +kernel
theorem dL_areAlerts_259 : decode cL_areAlerts 259 = .ok (.aload_n 0, 1) := by decide +kernel
theorem dL_areAlerts_260 : decode cL_areAlerts 260 = .ok (.bipush 10, 2) := by decide +kernel
theorem dL_areAlerts_262 : decode cL_areAlerts 262 = .ok (.iload 7, 2) := by decide +kernel
theorem dL_areAlerts_264 : decode cL_areAlerts 264 = .ok (.iconst 0, 1) := by decide +kernel
theorem dL_areAlerts_265 : decode cL_areAlerts 265 = .ok (.invokestatic 120, 3) := by decide +kernel
theorem dL_areAlerts_268 : decode cL_areAlerts 268 = .ok (.iload 8, 2) := by decide +kernel
theorem dL_areAlerts_270 : decode cL_areAlerts 270 = .ok (.if_icmp .ne 108, 3) := by decide +kernel
theorem dL_areAlerts_273 : decode cL_areAlerts 273 = .ok (.aload_n 0, 1) := by decide +kernel
theorem dL_areAlerts_274 : decode cL_areAlerts 274 = .ok (.bipush 11, 2) := by decide +kernel
theorem dL_areAlerts_276 : decode cL_areAlerts 276 = .ok (.iload 7, 2) := by decide +kernel
theorem dL_areAlerts_278 : decode cL_areAlerts 278 = .ok (.iconst 0, 1) := by decide +kernel
theorem dL_areAlerts_279 : decode cL_areAlerts 279 = .ok (.invokestatic 120, 3) := by decide +kernel
theorem dL_areAlerts_282 : decode cL_areAlerts 282 = .ok (.iload 8, 2) := by decide +kernel
theorem dL_areAlerts_284 : decode cL_areAlerts 284 = .ok (.if_icmp .ne 94, 3) := by decide +kernel
theorem dL_areAlerts_287 : decode cL_areAlerts 287 = .ok (.iload 10, 2) := by decide +kernel
theorem dL_areAlerts_289 : decode cL_areAlerts 289 = .ok (.bipush 104, 2) := by decide +kernel
theorem dL_areAlerts_291 : decode cL_areAlerts 291 = .ok (.if_icmp .ne 7, 3) := by decide +kernel
theorem dL_areAlerts_294 : decode cL_areAlerts 294 = .ok (.iconst 1, 1) := by decide +kernel
theorem dL_areAlerts_295 : decode cL_areAlerts 295 = .ok (.goto 4, 3) := by decide +kernel
theorem dL_areAlerts_298 : decode cL_areAlerts 298 = .ok (.iconst 0, 1) := by decide +kernel
theorem dL_areAlerts_299 : decode cL_areAlerts 299 = .ok (.aload_n 0, 1) := by decide +kernel
theorem dL_areAlerts_300 : decode cL_areAlerts 300 = .ok (.bipush 12, 2) := by decide +kernel
theorem dL_areAlerts_302 : decode cL_areAlerts 302 = .ok (.iload 7, 2) := by decide +kernel
theorem dL_areAlerts_304 : decode cL_areAlerts 304 = .ok (.iconst 0, 1) := by decide +kernel
theorem dL_areAlerts_305 : decode cL_areAlerts 305 = .ok (.invokestatic 120, 3) := by decide +kernel
theorem dL_areAlerts_308 : decode cL_areAlerts 308 = .ok (.ifCond .le 7, 3) := by decide +kernel
theorem dL_areAlerts_311 : decode cL_areAlerts 311 = .ok (.iconst 1, 1) := by decide +kernel
theorem dL_areAlerts_312 : decode cL_areAlerts 312 = .ok (.goto 4, 3) := by decide +kernel
theorem dL_areAlerts_315 : decode cL_areAlerts 315 = .ok (.iconst 0, 1) := by decide +kernel
theorem dL_areAlerts_316 : decode cL_areAlerts 316 = .ok (.if_icmp .ne 62, 3) := by decide +kernel
theorem dL_areAlerts_319 : decode cL_areAlerts 319 = .ok (.aload_n 0, 1) := by decide +kernel
theorem dL_areAlerts_320 : decode cL_areAlerts 320 = .ok (.bipush 12, 2) := by decide +kernel
theorem dL_areAlerts_322 : decode cL_areAlerts 322 = .ok (.iload 7, 2) := by decide +kernel
theorem dL_areAlerts_324 : decode cL_areAlerts 324 = .ok (.iconst 0, 1) := by decide +kernel
theorem dL_areAlerts_325 : decode cL_areAlerts 325 = .ok (.invokestatic 120, 3) := by decide +kernel
theorem dL_areAlerts_328 : decode cL_areAlerts 328 = .ok (.aload_n 2, 1) := by decide +kernel
theorem dL_areAlerts_329 : decode cL_areAlerts 329 = .ok (.iload 9, 2) := by decide +kernel
theorem dL_areAlerts_331 : decode cL_areAlerts 331 = .ok (.bipush 6, 2) := by decide +kernel
theorem dL_areAlerts_333 : decode cL_areAlerts 333 = .ok (.iadd, 1) := by decide +kernel
theorem dL_areAlerts_334 : decode cL_areAlerts 334 = .ok (.iaload, 1) := by decide +kernel
theorem dL_areAlerts_335 : decode cL_areAlerts 335 = .ok (.if_icmp .gt 43, 3) := by decide +kernel
theorem dL_areAlerts_338 : decode cL_areAlerts 338 = .ok (.iload 8, 2) := by decide +kernel
theorem dL_areAlerts_340 : decode cL_areAlerts 340 = .ok (.aload_n 2, 1) := by decide +kernel
theorem dL_areAlerts_341 : decode cL_areAlerts 341 = .ok (.iload 9, 2) := by decide +kernel
theorem dL_areAlerts_343 : decode cL_areAlerts 343 = .ok (.iconst 4, 1) := by decide +kernel
theorem dL_areAlerts_344 : decode cL_areAlerts 344 = .ok (.iadd, 1) := by decide +kernel
theorem dL_areAlerts_345 : decode cL_areAlerts 345 = .ok (.iaload, 1) := by decide +kernel
theorem dL_areAlerts_346 : decode cL_areAlerts 346 = .ok (.if_icmp .lt 10, 3) := by decide +kernel
theorem dL_areAlerts_349 : decode cL_areAlerts 349 = .ok (.iload 10, 2) := by decide +kernel
theorem dL_areAlerts_351 : decode cL_areAlerts 351 = .ok (.bipush 102, 2) := by decide +kernel
theorem dL_areAlerts_353 : decode cL_areAlerts 353 = .ok (.if_icmp .ne 25, 3) := by decide +kernel
theorem dL_areAlerts_356 : decode cL_areAlerts 356 = .ok (.iload 8, 2) := by decide +kernel
theorem dL_areAlerts_358 : decode cL_areAlerts 358 = .ok (.aload_n 2, 1) := by decide +kernel
theorem dL_areAlerts_359 : decode cL_areAlerts 359 = .ok (.iload 9, 2) := by decide +kernel
theorem dL_areAlerts_361 : decode cL_areAlerts 361 = .ok (.iconst 4, 1) := by decide +kernel
theorem dL_areAlerts_362 : decode cL_areAlerts 362 = .ok (.iadd, 1) := by decide +kernel
theorem dL_areAlerts_363 : decode cL_areAlerts 363 = .ok (.iaload, 1) := by decide +kernel
theorem dL_areAlerts_364 : decode cL_areAlerts 364 = .ok (.if_icmp .ge 10, 3) := by decide +kernel
theorem dL_areAlerts_367 : decode cL_areAlerts 367 = .ok (.iload 10, 2) := by decide +kernel
theorem dL_areAlerts_369 : decode cL_areAlerts 369 = .ok (.bipush 102, 2) := by decide +kernel
theorem dL_areAlerts_371 : decode cL_areAlerts 371 = .ok (.if_icmp .eq 7, 3) := by decide +kernel
theorem dL_areAlerts_374 : decode cL_areAlerts 374 = .ok (.iconst 1, 1) := by decide +kernel
theorem dL_areAlerts_375 : decode cL_areAlerts 375 = .ok (.goto 4, 3) := by decide +kernel
theorem dL_areAlerts_378 : decode cL_areAlerts 378 = .ok (.iconst 0, 1) := by decide +kernel
theorem dL_areAlerts_379 : decode cL_areAlerts 379 = .ok (.istore 5, 2) := by decide +kernel
theorem dL_areAlerts_381 : decode cL_areAlerts 381 = .ok (.iinc 7 1, 3) := by decide +kernel
theorem dL_areAlerts_384 : decode cL_areAlerts 384 = .ok (.goto (-321), 3) := by decide +kernel
theorem dL_areAlerts_387 : decode cL_areAlerts 387 = .ok (.iconst 0, 1) := by decide +kernel
theorem dL_areAlerts_388 : decode cL_areAlerts 388 = .ok (.istore 7, 2) := by decide +kernel
theorem dL_areAlerts_390 : decode cL_areAlerts 390 = .ok (.iload 7, 2) := by decide +kernel
theorem dL_areAlerts_392 : decode cL_areAlerts 392 = .ok (.aload_n 0, 1) := by decide +kernel
theorem dL_areAlerts_393 : decode cL_areAlerts 393 = .ok (.invokevirtual 128, 3) := by decide +kernel
theorem dL_areAlerts_396 : decode cL_areAlerts 396 = .ok (.if_icmp .ge 161, 3) := by decide +kernel
theorem dL_areAlerts_399 : decode cL_areAlerts 399 = .ok (.iload 5, 2) := by decide +kernel
theorem dL_areAlerts_401 : decode cL_areAlerts 401 = .ok (.ifCond .eq 156, 3) := by decide +kernel
theorem dL_areAlerts_404 : decode cL_areAlerts 404 = .ok (.iconst 0, 1) := by decide +kernel
theorem dL_areAlerts_405 : decode cL_areAlerts 405 = .ok (.istore 8, 2) := by decide +kernel
theorem dL_areAlerts_407 : decode cL_areAlerts 407 = .ok (.iconst 0, 1) := by decide +kernel
theorem dL_areAlerts_408 : decode cL_areAlerts 408 = .ok (.istore 9, 2) := by decide +kernel
theorem dL_areAlerts_410 : decode cL_areAlerts 410 = .ok (.iload 9, 2) := by decide +kernel
theorem dL_areAlerts_412 : decode cL_areAlerts 412 = .ok (.iload_n 3, 1) := by decide +kernel
theorem dL_areAlerts_413 : decode cL_areAlerts 413 = .ok (.if_icmp .ge 82, 3) := by decide +kernel
theorem dL_areAlerts_416 : decode cL_areAlerts 416 = .ok (.aload_n 0, 1) := by decide +kernel
theorem dL_areAlerts_417 : decode cL_areAlerts 417 = .ok (.bipush 16, 2) := by decide +kernel
theorem dL_areAlerts_419 : decode cL_areAlerts 419 = .ok (.iload 7, 2) := by decide +kernel
theorem dL_areAlerts_421 : decode cL_areAlerts 421 = .ok (.iload 9, 2) := by decide +kernel
theorem dL_areAlerts_423 : decode cL_areAlerts 423 = .ok (.invokestatic 120, 3) := by decide +kernel
theorem dL_areAlerts_426 : decode cL_areAlerts 426 = .ok (.istore 10, 2) := by decide +kernel
theorem dL_areAlerts_428 : decode cL_areAlerts 428 = .ok (.iload 8, 2) := by decide +kernel
theorem dL_areAlerts_430 : decode cL_areAlerts 430 = .ok (.iload 10, 2) := by decide +kernel
theorem dL_areAlerts_432 : decode cL_areAlerts 432 = .ok (.iadd, 1) := by decide +kernel
theorem dL_areAlerts_433 : decode cL_areAlerts 433 = .ok (.istore 8, 2) := by decide +kernel
theorem dL_areAlerts_435 : decode cL_areAlerts 435 = .ok (.aload 6, 2) := by decide +kernel
theorem dL_areAlerts_437 : decode cL_areAlerts 437 = .ok (.iload 9, 2) := by decide +kernel
theorem dL_areAlerts_439 : decode cL_areAlerts 439 = .ok (.aload 6, 2) := by decide +kernel
theorem dL_areAlerts_441 : decode cL_areAlerts 441 = .ok (.iload 9, 2) := by decide +kernel
theorem dL_areAlerts_443 : decode cL_areAlerts 443 = .ok (.baload, 1) := by decide +kernel
theorem dL_areAlerts_444 : decode cL_areAlerts 444 = .ok (.ifCond .ne 9, 3) := by decide +kernel
theorem dL_areAlerts_447 : decode cL_areAlerts 447 = .ok (.iload 10, 2) := by decide +kernel
theorem dL_areAlerts_449 : decode cL_areAlerts 449 = .ok (.iconst 1, 1) := by decide +kernel
theorem dL_areAlerts_450 : decode cL_areAlerts 450 = .ok (.if_icmp .ne 7, 3) := by decide +kernel
theorem dL_areAlerts_453 : decode cL_areAlerts 453 = .ok (.iconst 1, 1) := by decide +kernel
theorem dL_areAlerts_454 : decode cL_areAlerts 454 = .ok (.goto 4, 3) := by decide +kernel
theorem dL_areAlerts_457 : decode cL_areAlerts 457 = .ok (.iconst 0, 1) := by decide +kernel
theorem dL_areAlerts_458 : decode cL_areAlerts 458 = .ok (.bastore, 1) := by decide +kernel
theorem dL_areAlerts_459 : decode cL_areAlerts 459 = .ok (.iload 5, 2) := by decide +kernel
theorem dL_areAlerts_461 : decode cL_areAlerts 461 = .ok (.ifCond .eq 25, 3) := by decide +kernel
theorem dL_areAlerts_464 : decode cL_areAlerts 464 = .ok (.iload 10, 2) := by decide +kernel
theorem dL_areAlerts_466 : decode cL_areAlerts 466 = .ok (.ifCond .eq 16, 3) := by decide +kernel
theorem dL_areAlerts_469 : decode cL_areAlerts 469 = .ok (.aload_n 0, 1) := by decide +kernel
theorem dL_areAlerts_470 : decode cL_areAlerts 470 = .ok (.iconst 0, 1) := by decide +kernel
theorem dL_areAlerts_471 : decode cL_areAlerts 471 = .ok (.iload 9, 2) := by decide +kernel
theorem dL_areAlerts_473 : decode cL_areAlerts 473 = .ok (.iconst 0, 1) := by decide +kernel
theorem dL_areAlerts_474 : decode cL_areAlerts 474 = .ok (.invokestatic 120, 3) := by decide +kernel
theorem dL_areAlerts_477 : decode cL_areAlerts 477 = .ok (.bipush 100, 2) := by decide +kernel
theorem dL_areAlerts_479 : decode cL_areAlerts 479 = .ok (.if_icmp .eq 7, 3) := by decide +kernel
theorem dL_areAlerts_482 : decode cL_areAlerts 482 = .ok (.iconst 1, 1) := by decide +kernel
theorem dL_areAlerts_483 : decode cL_areAlerts 483 = .ok (.goto 4, 3) := by decide +kernel
theorem dL_areAlerts_486 : decode cL_areAlerts 486 = .ok (.iconst 0, 1) := by decide +kernel
theorem dL_areAlerts_487 : decode cL_areAlerts 487 = .ok (.istore 5, 2) := by decide +kernel
theorem dL_areAlerts_489 : decode cL_areAlerts 489 = .ok (.iinc 9 1, 3) := by decide +kernel
theorem dL_areAlerts_492 : decode cL_areAlerts 492 = .ok (.goto (-82), 3) := by decide +kernel
theorem dL_areAlerts_495 : decode cL_areAlerts 495 = .ok (.iload 5, 2) := by decide +kernel
theorem dL_areAlerts_497 : decode cL_areAlerts 497 = .ok (.ifCond .eq 51, 3) := by decide +kernel
theorem dL_areAlerts_500 : decode cL_areAlerts 500 = .ok (.aload_n 0, 1) := by decide +kernel
theorem dL_areAlerts_501 : decode cL_areAlerts 501 = .ok (.bipush 15, 2) := by decide +kernel
theorem dL_areAlerts_503 : decode cL_areAlerts 503 = .ok (.iload 7, 2) := by decide +kernel
theorem dL_areAlerts_505 : decode cL_areAlerts 505 = .ok (.iconst 0, 1) := by decide +kernel
theorem dL_areAlerts_506 : decode cL_areAlerts 506 = .ok (.invokestatic 120, 3) := by decide +kernel
theorem dL_areAlerts_509 : decode cL_areAlerts 509 = .ok (.iload 8, 2) := by decide +kernel
theorem dL_areAlerts_511 : decode cL_areAlerts 511 = .ok (.if_icmp .ne 37, 3) := by decide +kernel
theorem dL_areAlerts_514 : decode cL_areAlerts 514 = .ok (.aload_n 0, 1) := by decide +kernel
theorem dL_areAlerts_515 : decode cL_areAlerts 515 = .ok (.bipush 14, 2) := by decide +kernel
theorem dL_areAlerts_517 : decode cL_areAlerts 517 = .ok (.iload 7, 2) := by decide +kernel
theorem dL_areAlerts_519 : decode cL_areAlerts 519 = .ok (.iconst 0, 1) := by decide +kernel
theorem dL_areAlerts_520 : decode cL_areAlerts 520 = .ok (.invokestatic 120, 3) := by decide +kernel
