theorem dL_moves_283 : decode cL_moves 283 = .ok (.iload 21, 2) := by decide +kernel
theorem dL_moves_285 : decode cL_moves 285 = .ok (.ifCond .eq 8, 3) := by decide +kernel
theorem dL_moves_288 : decode cL_moves 288 = .ok (.iload 19, 2) := by decide +kernel
theorem dL_moves_290 : decode cL_moves 290 = .ok (.goto 5, 3) := by decide +kernel
theorem dL_moves_293 : decode cL_moves 293 = .ok (.iload 15, 2) := by decide +kernel
theorem dL_moves_295 : decode cL_moves 295 = .ok (.istore 15, 2) := by decide +kernel
theorem dL_moves_297 : decode cL_moves 297 = .ok (.iload 21, 2) := by decide +kernel
theorem dL_moves_299 : decode cL_moves 299 = .ok (.ifCond .eq 8, 3) := by decide +kernel
theorem dL_moves_302 : decode cL_moves 302 = .ok (.iload 20, 2) := by decide +kernel
theorem dL_moves_304 : decode cL_moves 304 = .ok (.goto 5, 3) := by decide +kernel
theorem dL_moves_307 : decode cL_moves 307 = .ok (.iload 16, 2) := by decide +kernel
theorem dL_moves_309 : decode cL_moves 309 = .ok (.istore 16, 2) := by decide +kernel
theorem dL_moves_311 : decode cL_moves 311 = .ok (.aload 4, 2) := by decide +kernel
theorem dL_moves_313 : decode cL_moves 313 = .ok (.iconst 2, 1) := by decide +kernel
theorem dL_moves_314 : decode cL_moves 314 = .ok (.iload 6, 2) := by decide +kernel
theorem dL_moves_316 : decode cL_moves 316 = .ok (.imul, 1) := by decide +kernel
theorem dL_moves_317 : decode cL_moves 317 = .ok (.iconst 1, 1) := by decide +kernel
theorem dL_moves_318 : decode cL_moves 318 = .ok (.iadd, 1) := by decide +kernel
theorem dL_moves_319 : decode cL_moves 319 = .ok (.dup2, 1) := by decide +kernel
theorem dL_moves_320 : decode cL_moves 320 = .ok (.iaload, 1) := by decide +kernel
theorem dL_moves_321 : decode cL_moves 321 = .ok (.iload 21, 2) := by decide +kernel
theorem dL_moves_323 : decode cL_moves 323 = .ok (.ifCond .eq 7, 3) := by decide +kernel
theorem dL_moves_326 : decode cL_moves 326 = .ok (.iconst 0, 1) := by decide +kernel
theorem dL_moves_327 : decode cL_moves 327 = .ok (.goto 4, 3) := by decide +kernel
theorem dL_moves_330 : decode cL_moves 330 = .ok (.iconst 1, 1) := by decide +kernel
theorem dL_moves_331 : decode cL_moves 331 = .ok (.iadd, 1) := by decide +kernel
theorem dL_moves_332 : decode cL_moves 332 = .ok (.iastore, 1) := by decide +kernel
theorem dL_moves_333 : decode cL_moves 333 = .ok (.aload_n 0, 1) := by decide +kernel
theorem dL_moves_334 : decode cL_moves 334 = .ok (.aload_n 1, 1) := by decide +kernel
theorem dL_moves_335 : decode cL_moves 335 = .ok (.aload_n 2, 1) := by decide +kernel
theorem dL_moves_336 : decode cL_moves 336 = .ok (.iload 9, 2) := by decide +kernel
theorem dL_moves_338 : decode cL_moves 338 = .ok (.iload 7, 2) := by decide +kernel
theorem dL_moves_340 : decode cL_moves 340 = .ok (.ifCond .ne 7, 3) := by decide +kernel
theorem dL_moves_343 : decode cL_moves 343 = .ok (.iconst 1, 1) := by decide +kernel
theorem dL_moves_344 : decode cL_moves 344 = .ok (.goto 4, 3) := by decide +kernel
theorem dL_moves_347 : decode cL_moves 347 = .ok (.iconst 0, 1) := by decide +kernel
theorem dL_moves_348 : decode cL_moves 348 = .ok (.iload 15, 2) := by decide +kernel
theorem dL_moves_350 : decode cL_moves 350 = .ok (.iload 16, 2) := by decide +kernel
theorem dL_moves_352 : decode cL_moves 352 = .ok (.aload 8, 2) := by decide +kernel
theorem dL_moves_354 : decode cL_moves 354 = .ok (.invokestatic 107, 3) := by decide +kernel
theorem dL_moves_357 : decode cL_moves 357 = .ok (.aload 8, 2) := by decide +kernel
theorem dL_moves_359 : decode cL_moves 359 = .ok (.iconst 0, 1) := by decide +kernel
theorem dL_moves_360 : decode cL_moves 360 = .ok (.iaload, 1) := by decide +kernel
theorem dL_moves_361 : decode cL_moves 361 = .ok (.iload 13, 2) := by decide +kernel
theorem dL_moves_363 : decode cL_moves 363 = .ok (.if_icmp .ne 12, 3) := by decide +kernel
theorem dL_moves_366 : decode cL_moves 366 = .ok (.aload 8, 2) := by decide +kernel
theorem dL_moves_368 : decode cL_moves 368 = .ok (.iconst 1, 1) := by decide +kernel
theorem dL_moves_369 : decode cL_moves 369 = .ok (.iaload, 1) := by decide +kernel
theorem dL_moves_370 : decode cL_moves 370 = .ok (.iload 14, 2) := by decide +kernel
theorem dL_moves_372 : decode cL_moves 372 = .ok (.if_icmp .eq 46, 3) := by decide +kernel
theorem dL_moves_375 : decode cL_moves 375 = .ok (.aload 5, 2) := by decide +kernel
theorem dL_moves_377 : decode cL_moves 377 = .ok (.bipush 13, 2) := by decide +kernel
theorem dL_moves_379 : decode cL_moves 379 = .ok (.iload 6, 2) := by decide +kernel
theorem dL_moves_381 : decode cL_moves 381 = .ok (.imul, 1) := by decide +kernel
theorem dL_moves_382 : decode cL_moves 382 = .ok (.iload 9, 2) := by decide +kernel
theorem dL_moves_384 : decode cL_moves 384 = .ok (.iadd, 1) := by decide +kernel
theorem dL_moves_385 : decode cL_moves 385 = .ok (.iload 7, 2) := by decide +kernel
theorem dL_moves_387 : decode cL_moves 387 = .ok (.ifCond .eq 7, 3) := by decide +kernel
theorem dL_moves_390 : decode cL_moves 390 = .ok (.lconst 1, 1) := by decide +kernel
theorem dL_moves_391 : decode cL_moves 391 = .ok (.goto 6, 3) := by decide +kernel
theorem dL_moves_394 : decode cL_moves 394 = .ok (.ldc2_w 113, 3) := by decide +kernel
theorem dL_moves_397 : decode cL_moves 397 = .ok (.ldc2_w 111, 3) := by decide +kernel
theorem dL_moves_400 : decode cL_moves 400 = .ok (.iload 13, 2) := by decide +kernel
theorem dL_moves_402 : decode cL_moves 402 = .ok (.i2l, 1) := by decide +kernel
theorem dL_moves_403 : decode cL_moves 403 = .ok (.lconst 1, 1) := by decide +kernel
theorem dL_moves_404 : decode cL_moves 404 = .ok (.ladd, 1) := by decide +kernel
theorem dL_moves_405 : decode cL_moves 405 = .ok (.ldc2_w 115, 3) := by decide +kernel
theorem dL_moves_408 : decode cL_moves 408 = .ok (.iload 14, 2) := by decide +kernel
theorem dL_moves_410 : decode cL_moves 410 = .ok (.i2l, 1) := by decide +kernel
theorem dL_moves_411 : decode cL_moves 411 = .ok (.lconst 1, 1) := by decide +kernel
theorem dL_moves_412 : decode cL_moves 412 = .ok (.ladd, 1) := by decide +kernel
theorem dL_moves_413 : decode cL_moves 413 = .ok (.lmul, 1) := by decide +kernel
theorem dL_moves_414 : decode cL_moves 414 = .ok (.ladd, 1) := by decide +kernel
theorem dL_moves_415 : decode cL_moves 415 = .ok (.lmul, 1) := by decide +kernel
theorem dL_moves_416 : decode cL_moves 416 = .ok (.ladd, 1) := by decide +kernel
theorem dL_moves_417 : decode cL_moves 417 = .ok (.lastore, 1) := by decide +kernel
theorem dL_moves_418 : decode cL_moves 418 = .ok (.iconst 0, 1) := by decide +kernel
theorem dL_moves_419 : decode cL_moves 419 = .ok (.istore 19, 2) := by decide +kernel
theorem dL_moves_421 : decode cL_moves 421 = .ok (.iload 19, 2) := by decide +kernel
theorem dL_moves_423 : decode cL_moves 423 = .ok (.iconst 2, 1) := by decide +kernel
theorem dL_moves_424 : decode cL_moves 424 = .ok (.if_icmp .ge 39, 3) := by decide +kernel
theorem dL_moves_427 : decode cL_moves 427 = .ok (.iload 19, 2) := by decide +kernel
theorem dL_moves_429 : decode cL_moves 429 = .ok (.ifCond .ne 8, 3) := by decide +kernel
theorem dL_moves_432 : decode cL_moves 432 = .ok (.iload 11, 2) := by decide +kernel
theorem dL_moves_434 : decode cL_moves 434 = .ok (.goto 5, 3) := by decide +kernel
theorem dL_moves_437 : decode cL_moves 437 = .ok (.iload 12, 2) := by decide +kernel
theorem dL_moves_439 : decode cL_moves 439 = .ok (.istore 20, 2) := by decide +kernel
theorem dL_moves_441 : decode cL_moves 441 = .ok (.iload 20, 2) := by decide +kernel
theorem dL_moves_443 : decode cL_moves 443 = .ok (.ifCond .lt 14, 3) := by decide +kernel
theorem dL_moves_446 : decode cL_moves 446 = .ok (.aload_n 3, 1) := by decide +kernel
theorem dL_moves_447 : decode cL_moves 447 = .ok (.bipush 10, 2) := by decide +kernel
theorem dL_moves_449 : decode cL_moves 449 = .ok (.iload 6, 2) := by decide +kernel
theorem dL_moves_451 : decode cL_moves 451 = .ok (.imul, 1) := by decide +kernel
theorem dL_moves_452 : decode cL_moves 452 = .ok (.iload 20, 2) := by decide +kernel
theorem dL_moves_454 : decode cL_moves 454 = .ok (.iadd, 1) := by decide +kernel
theorem dL_moves_455 : decode cL_moves 455 = .ok (.iconst (-1), 1) := by decide +kernel
theorem dL_moves_456 : decode cL_moves 456 = .ok (.iastore, 1) := by decide +kernel
theorem dL_moves_457 : decode cL_moves 457 = .ok (.iinc 19 1, 3) := by decide +kernel
theorem dL_moves_460 : decode cL_moves 460 = .ok (.goto (-39), 3) := by decide +kernel
theorem dL_moves_463 : decode cL_moves 463 = .ok (.iload 10, 2) := by decide +kernel
theorem dL_moves_465 : decode cL_moves 465 = .ok (.ifCond .eq 7, 3) := by decide +kernel
theorem dL_moves_468 : decode cL_moves 468 = .ok (.iconst (-1), 1) := by decide +kernel
theorem dL_moves_469 : decode cL_moves 469 = .ok (.goto 20, 3) := by decide +kernel
theorem dL_moves_472 : decode cL_moves 472 = .ok (.aload_n 1, 1) := by decide +kernel
theorem dL_moves_473 : decode cL_moves 473 = .ok (.iload 9, 2) := by decide +kernel
theorem dL_moves_475 : decode cL_moves 475 = .ok (.iload 7, 2) := by decide +kernel
theorem dL_moves_477 : decode cL_moves 477 = .ok (.ifCond .ne 7, 3) := by decide +kernel
theorem dL_moves_480 : decode cL_moves 480 = .ok (.iconst 1, 1) := by decide +kernel
theorem dL_moves_481 : decode cL_moves 481 = .ok (.goto 4, 3) := by decide +kernel
theorem dL_moves_484 : decode cL_moves 484 = .ok (.iconst 0, 1) := by decide +kernel
theorem dL_moves_485 : decode cL_moves 485 = .ok (.iconst 0, 1) := by decide +kernel
theorem dL_moves_486 : decode cL_moves 486 = .ok (.invokestatic 86, 3) := by decide +kernel
theorem dL_moves_489 : decode cL_moves 489 = .ok (.istore 19, 2) := by decide +kernel
theorem dL_moves_491 : decode cL_moves 491 = .ok (.iload 10, 2) := by decide +kernel
theorem dL_moves_493 : decode cL_moves 493 = .ok (.ifCond .eq 7, 3) := by decide +kernel
theorem dL_moves_496 : decode cL_moves 496 = .ok (.iconst (-1), 1) := by decide +kernel
theorem dL_moves_497 : decode cL_moves 497 = .ok (.goto 20, 3) := by decide +kernel
theorem dL_moves_500 : decode cL_moves 500 = .ok (.aload_n 1, 1) := by decide +kernel
theorem dL_moves_501 : decode cL_moves 501 = .ok (.iload 9, 2) := by decide +kernel
theorem dL_moves_503 : decode cL_moves 503 = .ok (.iload 7, 2) := by decide +kernel
theorem dL_moves_505 : decode cL_moves 505 = .ok (.ifCond .ne 7, 3) := by decide +kernel
theorem dL_moves_508 : decode cL_moves 508 = .ok (.iconst 1, 1) := by decide +kernel
theorem dL_moves_509 : decode cL_moves 509 = .ok (.goto 4, 3) := by decide +kernel
theorem dL_moves_512 : decode cL_moves 512 = .ok (.iconst 0, 1) := by decide +kernel
theorem dL_moves_513 : decode cL_moves 513 = .ok (.iconst 1, 1) := by decide +kernel
theorem dL_moves_514 : decode cL_moves 514 = .ok (.invokestatic 86, 3) := by decide +kernel
theorem dL_moves_517 : decode cL_moves 517 = .ok (.istore 20, 2) := by decide +kernel
theorem dL_moves_519 : decode cL_moves 519 = .ok (.iload 19, 2) := by decide +kernel
theorem dL_moves_521 : decode cL_moves 521 = .ok (.ifCond .lt 15, 3) := by decide +kernel
theorem dL_moves_524 : decode cL_moves 524 = .ok (.aload_n 3, 1) := by decide +kernel
theorem dL_moves_525 : decode cL_moves 525 = .ok (.bipush 10, 2) := by decide +kernel
theorem dL_moves_527 : decode cL_moves 527 = .ok (.iload 6, 2) := by decide +kernel
theorem dL_moves_529 : decode cL_moves 529 = .ok (.imul, 1) := by decide +kernel
theorem dL_moves_530 : decode cL_moves 530 = .ok (.iload 19, 2) := by decide +kernel
theorem dL_moves_532 : decode cL_moves 532 = .ok (.iadd, 1) := by decide +kernel
theorem dL_moves_533 : decode cL_moves 533 = .ok (.iload 15, 2) := by decide +kernel
theorem dL_moves_535 : decode cL_moves 535 = .ok (.iastore, 1) := by decide +kernel
theorem dL_moves_536 : decode cL_moves 536 = .ok (.iload 20, 2) := by decide +kernel
theorem dL_moves_538 : decode cL_moves 538 = .ok (.ifCond .lt 15, 3) := by decide +kernel
theorem dL_moves_541 : decode cL_moves 541 = .ok (.aload_n 3, 1) := by decide +kernel
theorem dL_moves_542 : decode cL_moves 542 = .ok (.bipush 10, 2) := by decide +kernel
theorem dL_moves_544 : decode cL_moves 544 = .ok (.iload 6, 2) := by decide +kernel
theorem dL_moves_546 : decode cL_moves 546 = .ok (.imul, 1) := by decide +kernel
theorem dL_moves_547 : decode cL_moves 547 = .ok (.iload 20, 2) := by decide +kernel
theorem dL_moves_549 : decode cL_moves 549 = .ok (.iadd, 1) := by decide +kernel
theorem dL_moves_550 : decode cL_moves 550 = .ok (.iload 16, 2) := by decide +kernel
theorem dL_moves_552 : decode cL_moves 552 = .ok (.iastore, 1) := by decide +kernel
theorem dL_moves_553 : decode cL_moves 553 = .ok (.aload 4, 2) := by decide +kernel
theorem dL_moves_555 : decode cL_moves 555 = .ok (.iconst 2, 1) := by decide +kernel
theorem dL_moves_556 : decode cL_moves 556 = .ok (.iload 6, 2) := by decide +kernel
theorem dL_moves_558 : decode cL_moves 558 = .ok (.imul, 1) := by decide +kernel
theorem dL_moves_559 : decode cL_moves 559 = .ok (.iload 7, 2) := by decide +kernel
theorem dL_moves_561 : decode cL_moves 561 = .ok (.ifCond .eq 8, 3) := by decide +kernel
theorem dL_moves_564 : decode cL_moves 564 = .ok (.iload 9, 2) := by decide +kernel
theorem dL_moves_566 : decode cL_moves 566 = .ok (.goto 7, 3) := by decide +kernel
theorem dL_moves_569 : decode cL_moves 569 = .ok (.iload 9, 2) := by decide +kernel
theorem dL_moves_571 : decode cL_moves 571 = .ok (.iconst 1, 1) := by decide +kernel
theorem dL_moves_572 : decode cL_moves 572 = .ok (.isub, 1) := by decide +kernel
theorem dL_moves_573 : decode cL_moves 573 = .ok (.iastore, 1) := by decide +kernel
theorem dL_moves_574 : decode cL_moves 574 = .ok (.return_, 1) := by decide +kernel
theorem dL_copies_0 : decode cL_copies 0 = .ok (.iconst 0, 1) := by decide +kernel
theorem dL_copies_1 : decode cL_copies 1 = .ok (.istore 5, 2) := by decide +kernel
theorem dL_copies_3 : decode cL_copies 3 = .ok (.iload 5, 2) := by decide +kernel
theorem dL_copies_5 : decode cL_copies 5 = .ok (.bipush 10, 2) := by decide +kernel
theorem dL_copies_7 : decode cL_copies 7 = .ok (.if_icmp .ge 28, 3) := by decide +kernel
theorem dL_copies_10 : decode cL_copies 10 = .ok (.aload_n 0, 1) := by decide +kernel
theorem dL_copies_11 : decode cL_copies 11 = .ok (.bipush 10, 2) := by decide +kernel
theorem dL_copies_13 : decode cL_copies 13 = .ok (.iload 4, 2) := by decide +kernel
theorem dL_copies_15 : decode cL_copies 15 = .ok (.imul, 1) := by decide +kernel
theorem dL_copies_16 : decode cL_copies 16 = .ok (.iload 5, 2) := by decide +kernel
theorem dL_copies_18 : decode cL_copies 18 = .ok (.iadd, 1) := by decide +kernel
theorem dL_copies_19 : decode cL_copies 19 = .ok (.aload_n 0, 1) := by decide +kernel
theorem dL_copies_20 : decode cL_copies 20 = .ok (.bipush 10, 2) := by decide +kernel
theorem dL_copies_22 : decode cL_copies 22 = .ok (.iload_n 3, 1) := by decide +kernel
theorem dL_copies_23 : decode cL_copies 23 = .ok (.imul, 1) := by decide +kernel
theorem dL_copies_24 : decode cL_copies 24 = .ok (.iload 5, 2) := by decide +kernel
theorem dL_copies_26 : decode cL_copies 26 = .ok (.iadd, 1) := by decide +kernel
theorem dL_copies_27 : decode cL_copies 27 = .ok (.iaload, 1) := by decide +kernel
theorem dL_copies_28 : decode cL_copies 28 = .ok (.iastore, 1) := by decide +kernel
theorem dL_copies_29 : decode cL_copies 29 = .ok (.iinc 5 1, 3) := by decide +kernel
theorem dL_copies_32 : decode cL_copies 32 = .ok (.goto (-29), 3) := by decide +kernel
theorem dL_copies_35 : decode cL_copies 35 = .ok (.aload_n 1, 1) := by decide +kernel
theorem dL_copies_36 : decode cL_copies 36 = .ok (.iconst 2, 1) := by decide +kernel
theorem dL_copies_37 : decode cL_copies 37 = .ok (.iload 4, 2) := by decide +kernel
theorem dL_copies_39 : decode cL_copies 39 = .ok (.imul, 1) := by decide +kernel
theorem dL_copies_40 : decode cL_copies 40 = .ok (.aload_n 1, 1) := by decide +kernel
theorem dL_copies_41 : decode cL_copies 41 = .ok (.iconst 2, 1) := by decide +kernel
theorem dL_copies_42 : decode cL_copies 42 = .ok (.iload_n 3, 1) := by decide +kernel
theorem dL_copies_43 : decode cL_copies 43 = .ok (.imul, 1) := by decide +kernel
theorem dL_copies_44 : decode cL_copies 44 = .ok (.iaload, 1) := by decide +kernel
theorem dL_copies_45 : decode cL_copies 45 = .ok (.iastore, 1) := by decide +kernel
theorem dL_copies_46 : decode cL_copies 46 = .ok (.aload_n 1, 1) := by decide +kernel
theorem dL_copies_47 : decode cL_copies 47 = .ok (.iconst 2, 1) := by decide +kernel
theorem dL_copies_48 : decode cL_copies 48 = .ok (.iload 4, 2) := by decide +kernel
theorem dL_copies_50 : decode cL_copies 50 = .ok (.imul, 1) := by decide +kernel
theorem dL_copies_51 : decode cL_copies 51 = .ok (.iconst 1, 1) := by decide +kernel
theorem dL_copies_52 : decode cL_copies 52 = .ok (.iadd, 1) := by decide +kernel
theorem dL_copies_53 : decode cL_copies 53 = .ok (.aload_n 1, 1) := by decide +kernel
theorem dL_copies_54 : decode cL_copies 54 = .ok (.iconst 2, 1) := by decide +kernel
theorem dL_copies_55 : decode cL_copies 55 = .ok (.iload_n 3, 1) := by decide +kernel
theorem dL_copies_56 : decode cL_copies 56 = .ok (.imul, 1) := by decide +kernel
theorem dL_copies_57 : decode cL_copies 57 = .ok (.iconst 1, 1) := by decide +kernel
theorem dL_copies_58 : decode cL_copies 58 = .ok (.iadd, 1) := by decide +kernel
theorem dL_copies_59 : decode cL_copies 59 = .ok (.iaload, 1) := by decide +kernel
theorem dL_copies_60 : decode cL_copies 60 = .ok (.iastore, 1) := by decide +kernel
theorem dL_copies_61 : decode cL_copies 61 = .ok (.iconst 1, 1) := by decide +kernel
theorem dL_copies_62 : decode cL_copies 62 = .ok (.istore 5, 2) := by decide +kernel
theorem dL_copies_64 : decode cL_copies 64 = .ok (.iload 5, 2) := by decide +kernel
theorem dL_copies_66 : decode cL_copies 66 = .ok (.bipush 12, 2) := by decide +kernel
theorem dL_copies_68 : decode cL_copies 68 = .ok (.if_icmp .ge 28, 3) := by decide +kernel
theorem dL_copies_71 : decode cL_copies 71 = .ok (.aload_n 2, 1) := by decide +kernel
theorem dL_copies_72 : decode cL_copies 72 = .ok (.bipush 13, 2) := by decide +kernel
theorem dL_copies_74 : decode cL_copies 74 = .ok (.iload 4, 2) := by decide +kernel
theorem dL_copies_76 : decode cL_copies 76 = .ok (.imul, 1) := by decide +kernel
theorem dL_copies_77 : decode cL_copies 77 = .ok (.iload 5, 2) := by decide +kernel
theorem dL_copies_79 : decode cL_copies 79 = .ok (.iadd, 1) := by decide +kernel
theorem dL_copies_80 : decode cL_copies 80 = .ok (.aload_n 2, 1) := by decide +kernel
theorem dL_copies_81 : decode cL_copies 81 = .ok (.bipush 13, 2) := by decide +kernel
theorem dL_copies_83 : decode cL_copies 83 = .ok (.iload_n 3, 1) := by decide +kernel
theorem dL_copies_84 : decode cL_copies 84 = .ok (.imul, 1) := by decide +kernel
theorem dL_copies_85 : decode cL_copies 85 = .ok (.iload 5, 2) := by decide +kernel
theorem dL_copies_87 : decode cL_copies 87 = .ok (.iadd, 1) := by decide +kernel
theorem dL_copies_88 : decode cL_copies 88 = .ok (.laload, 1) := by decide +kernel
theorem dL_copies_89 : decode cL_copies 89 = .ok (.lastore, 1) := by decide +kernel
theorem dL_copies_90 : decode cL_copies 90 = .ok (.iinc 5 1, 3) := by decide +kernel
theorem dL_copies_93 : decode cL_copies 93 = .ok (.goto (-29), 3) := by decide +kernel
theorem dL_copies_96 : decode cL_copies 96 = .ok (.return_, 1) := by decide +kernel
theorem dL_isVersion_0 : decode cL_isVersion 0 = .ok (.aload_n 0, 1) := by decide +kernel
theorem dL_isVersion_1 : decode cL_isVersion 1 = .ok (.iconst 5, 1) := by decide +kernel
theorem dL_isVersion_2 : decode cL_isVersion 2 = .ok (.iconst 0, 1) := by decide +kernel
theorem dL_isVersion_3 : decode cL_isVersion 3 = .ok (.iconst 0, 1) := by decide +kernel
theorem dL_isVersion_4 : decode cL_isVersion 4 = .ok (.iconst 0, 1) := by decide +kernel
theorem dL_isVersion_5 : decode cL_isVersion 5 = .ok (.invokestatic 119, 3) := by decide +kernel
theorem dL_isVersion_8 : decode cL_isVersion 8 = .ok (.bipush 100, 2) := by decide +kernel
theorem dL_isVersion_10 : decode cL_isVersion 10 = .ok (.aload 4, 2) := by decide +kernel
theorem dL_isVersion_12 : decode cL_isVersion 12 = .ok (.iconst 0, 1) := by decide +kernel
theorem dL_isVersion_13 : decode cL_isVersion 13 = .ok (.iaload, 1) := by decide +kernel
theorem dL_isVersion_14 : decode cL_isVersion 14 = .ok (.imul, 1) := by decide +kernel
theorem dL_isVersion_15 : decode cL_isVersion 15 = .ok (.if_icmp .ne 89, 3) := by decide +kernel
theorem dL_isVersion_18 : decode cL_isVersion 18 = .ok (.aload_n 0, 1) := by decide +kernel
theorem dL_isVersion_19 : decode cL_isVersion 19 = .ok (.iconst 5, 1) := by decide +kernel
theorem dL_isVersion_20 : decode cL_isVersion 20 = .ok (.iconst 1, 1) := by decide +kernel
theorem dL_isVersion_21 : decode cL_isVersion 21 = .ok (.iconst 0, 1) := by decide +kernel
theorem dL_isVersion_22 : decode cL_isVersion 22 = .ok (.iconst 0, 1) := by decide +kernel
theorem dL_isVersion_23 : decode cL_isVersion 23 = .ok (.invokestatic 119, 3) := by decide +kernel
theorem dL_isVersion_26 : decode cL_isVersion 26 = .ok (.sipush (-300), 3) := by decide +kernel
theorem dL_isVersion_29 : decode cL_isVersion 29 = .ok (.if_icmp .ne 75, 3) := by decide +kernel
theorem dL_isVersion_32 : decode cL_isVersion 32 = .ok (.aload_n 0, 1) := by decide +kernel
theorem dL_isVersion_33 : decode cL_isVersion 33 = .ok (.iconst 0, 1) := by decide +kernel
theorem dL_isVersion_34 : decode cL_isVersion 34 = .ok (.iconst 0, 1) := by decide +kernel
theorem dL_isVersion_35 : decode cL_isVersion 35 = .ok (.aload 4, 2) := by decide +kernel
theorem dL_isVersion_37 : decode cL_isVersion 37 = .ok (.iconst 0, 1) := by decide +kernel
theorem dL_isVersion_38 : decode cL_isVersion 38 = .ok (.iaload, 1) := by decide +kernel
theorem dL_isVersion_39 : decode cL_isVersion 39 = .ok (.iconst 1, 1) := by decide +kernel
theorem dL_isVersion_40 : decode cL_isVersion 40 = .ok (.iadd, 1) := by decide +kernel
theorem dL_isVersion_41 : decode cL_isVersion 41 = .ok (.iconst 0, 1) := by decide +kernel
theorem dL_isVersion_42 : decode cL_isVersion 42 = .ok (.invokestatic 119, 3) := by decide +kernel
theorem dL_isVersion_45 : decode cL_isVersion 45 = .ok (.sipush (-300), 3) := by decide +kernel
theorem dL_isVersion_48 : decode cL_isVersion 48 = .ok (.if_icmp .ne 56, 3) := by decide +kernel
theorem dL_isVersion_51 : decode cL_isVersion 51 = .ok (.aload_n 0, 1) := by decide +kernel
theorem dL_isVersion_52 : decode cL_isVersion 52 = .ok (.iconst 0, 1) := by decide +kernel
theorem dL_isVersion_53 : decode cL_isVersion 53 = .ok (.iconst 0, 1) := by decide +kernel
theorem dL_isVersion_54 : decode cL_isVersion 54 = .ok (.iload 5, 2) := by decide +kernel
theorem dL_isVersion_56 : decode cL_isVersion 56 = .ok (.bipush 26, 2) := by decide +kernel
theorem dL_isVersion_58 : decode cL_isVersion 58 = .ok (.invokestatic 119, 3) := by decide +kernel
theorem dL_isVersion_61 : decode cL_isVersion 61 = .ok (.sipush (-200), 3) := by decide +kernel
theorem dL_isVersion_64 : decode cL_isVersion 64 = .ok (.if_icmp .ne 40, 3) := by decide +kernel
theorem dL_isVersion_67 : decode cL_isVersion 67 = .ok (.aload_n 0, 1) := by decide +kernel
theorem dL_isVersion_68 : decode cL_isVersion 68 = .ok (.iconst 1, 1) := by decide +kernel
theorem dL_isVersion_69 : decode cL_isVersion 69 = .ok (.iconst 0, 1) := by decide +kernel
theorem dL_isVersion_70 : decode cL_isVersion 70 = .ok (.iconst 0, 1) := by decide +kernel
theorem dL_isVersion_71 : decode cL_isVersion 71 = .ok (.iconst 0, 1) := by decide +kernel
theorem dL_isVersion_72 : decode cL_isVersion 72 = .ok (.invokestatic 119, 3) := by decide +kernel
theorem dL_isVersion_75 : decode cL_isVersion 75 = .ok (.sipush (-300), 3) := by decide +kernel
theorem dL_isVersion_78 : decode cL_isVersion 78 = .ok (.if_icmp .ne 26, 3) := by decide +kernel
theorem dL_isVersion_81 : decode cL_isVersion 81 = .ok (.aload_n 0, 1) := by decide +kernel
theorem dL_isVersion_82 : decode cL_isVersion 82 = .ok (.iconst 1, 1) := by decide +kernel
theorem dL_isVersion_83 : decode cL_isVersion 83 = .ok (.iconst 0, 1) := by decide +kernel
theorem dL_isVersion_84 : decode cL_isVersion 84 = .ok (.aload 4, 2) := by decide +kernel
theorem dL_isVersion_86 : decode cL_isVersion 86 = .ok (.iconst 0, 1) := by decide +kernel
theorem dL_isVersion_87 : decode cL_isVersion 87 = .ok (.iaload, 1) := by decide +kernel
theorem dL_isVersion_88 : decode cL_isVersion 88 = .ok (.iconst 1, 1) := by decide +kernel
theorem dL_isVersion_89 : decode cL_isVersion 89 = .ok (.iadd, 1) := by decide +kernel
theorem dL_isVersion_90 : decode cL_isVersion 90 = .ok (.iconst 0, 1) := by decide +kernel
theorem dL_isVersion_91 : decode cL_isVersion 91 = .ok (.invokestatic 119, 3) := by decide +kernel
theorem dL_isVersion_94 : decode cL_isVersion 94 = .ok (.sipush (-300), 3) := by decide +kernel
theorem dL_isVersion_97 : decode cL_isVersion 97 = .ok (.if_icmp .ne 7, 3) := by decide +kernel
theorem dL_isVersion_100 : decode cL_isVersion 100 = .ok (.iconst 1, 1) := by decide +kernel
theorem dL_isVersion_101 : decode cL_isVersion 101 = .ok (.goto 4, 3) := by decide +kernel
theorem dL_isVersion_104 : decode cL_isVersion 104 = .ok (.iconst 0, 1) := by decide +kernel
theorem dL_isVersion_105 : decode cL_isVersion 105 = .ok (.istore 6, 2) := by decide +kernel
theorem dL_isVersion_107 : decode cL_isVersion 107 = .ok (.iconst 0, 1) := by decide +kernel
theorem dL_isVersion_108 : decode cL_isVersion 108 = .ok (.istore 7, 2) := by decide +kernel
theorem dL_isVersion_110 : decode cL_isVersion 110 = .ok (.iload 7, 2) := by decide +kernel
theorem dL_isVersion_112 : decode cL_isVersion 112 = .ok (.bipush 26, 2) := by decide +kernel
theorem dL_isVersion_114 : decode cL_isVersion 114 = .ok (.if_icmp .ge 83, 3) := by decide +kernel
theorem dL_isVersion_117 : decode cL_isVersion 117 = .ok (.iload 6, 2) := by decide +kernel
theorem dL_isVersion_119 : decode cL_isVersion 119 = .ok (.ifCond .eq 78, 3) := by decide +kernel
theorem dL_isVersion_122 : decode cL_isVersion 122 = .ok (.aload_n 1, 1) := by decide +kernel
theorem dL_isVersion_123 : decode cL_isVersion 123 = .ok (.aload 4, 2) := by decide +kernel
theorem dL_isVersion_125 : decode cL_isVersion 125 = .ok (.iload 5, 2) := by decide +kernel
theorem dL_isVersion_127 : decode cL_isVersion 127 = .ok (.iload 7, 2) := by decide +kernel
theorem dL_isVersion_129 : decode cL_isVersion 129 = .ok (.invokestatic 123, 3) := by decide +kernel
theorem dL_isVersion_132 : decode cL_isVersion 132 = .ok (.istore 8, 2) := by decide +kernel
theorem dL_isVersion_134 : decode cL_isVersion 134 = .ok (.aload_n 0, 1) := by decide +kernel
theorem dL_isVersion_135 : decode cL_isVersion 135 = .ok (.iconst 0, 1) := by decide +kernel
theorem dL_isVersion_136 : decode cL_isVersion 136 = .ok (.iload 5, 2) := by decide +kernel
theorem dL_isVersion_138 : decode cL_isVersion 138 = .ok (.iload 7, 2) := by decide +kernel
theorem dL_isVersion_140 : decode cL_isVersion 140 = .ok (.invokevirtual 58, 3) := by decide +kernel
theorem dL_isVersion_143 : decode cL_isVersion 143 = .ok (.iload 8, 2) := by decide +kernel
theorem dL_isVersion_145 : decode cL_isVersion 145 = .ok (.ifCond .ge 7, 3) := by decide +kernel
theorem dL_isVersion_148 : decode cL_isVersion 148 = .ok (.iconst (-1), 1) := by decide +kernel
theorem dL_isVersion_149 : decode cL_isVersion 149 = .ok (.goto 32, 3) := by decide +kernel
theorem dL_isVersion_152 : decode cL_isVersion 152 = .ok (.bipush 10, 2) := by decide +kernel
theorem dL_isVersion_154 : decode cL_isVersion 154 = .ok (.iload 8, 2) := by decide +kernel
theorem dL_isVersion_156 : decode cL_isVersion 156 = .ok (.imul, 1) := by decide +kernel
theorem dL_isVersion_157 : decode cL_isVersion 157 = .ok (.aload_n 1, 1) := by decide +kernel
theorem dL_isVersion_158 : decode cL_isVersion 158 = .ok (.iload 5, 2) := by decide +kernel
theorem dL_isVersion_160 : decode cL_isVersion 160 = .ok (.iload 8, 2) := by decide +kernel
theorem dL_isVersion_162 : decode cL_isVersion 162 = .ok (.invokestatic 103, 3) := by decide +kernel
theorem dL_isVersion_165 : decode cL_isVersion 165 = .ok (.ifCond .eq 7, 3) := by decide +kernel
theorem dL_isVersion_168 : decode cL_isVersion 168 = .ok (.iconst 3, 1) := by decide +kernel
theorem dL_isVersion_169 : decode cL_isVersion 169 = .ok (.goto 4, 3) := by decide +kernel
theorem dL_isVersion_172 : decode cL_isVersion 172 = .ok (.iconst 0, 1) := by decide +kernel
theorem dL_isVersion_173 : decode cL_isVersion 173 = .ok (.iadd, 1) := by decide +kernel
theorem dL_isVersion_174 : decode cL_isVersion 174 = .ok (.aload_n 3, 1) := by decide +kernel
theorem dL_isVersion_175 : decode cL_isVersion 175 = .ok (.iload 8, 2) := by decide +kernel
theorem dL_isVersion_177 : decode cL_isVersion 177 = .ok (.iaload, 1) := by decide +kernel
theorem dL_isVersion_178 : decode cL_isVersion 178 = .ok (.iconst 3, 1) := by decide +kernel
theorem dL_isVersion_179 : decode cL_isVersion 179 = .ok (.irem, 1) := by decide +kernel
theorem dL_isVersion_180 : decode cL_isVersion 180 = .ok (.iadd, 1) := by decide +kernel
theorem dL_isVersion_181 : decode cL_isVersion 181 = .ok (.if_icmp .ne 7, 3) := by decide +kernel
theorem dL_isVersion_184 : decode cL_isVersion 184 = .ok (.iconst 1, 1) := by decide +kernel
theorem dL_isVersion_185 : decode cL_isVersion 185 = .ok (.goto 4, 3) := by decide +kernel
theorem dL_isVersion_188 : decode cL_isVersion 188 = .ok (.iconst 0, 1) := by decide +kernel
theorem dL_isVersion_189 : decode cL_isVersion 189 = .ok (.istore 6, 2) := by decide +kernel
theorem dL_isVersion_191 : decode cL_isVersion 191 = .ok (.iinc 7 1, 3) := by decide +kernel
theorem dL_isVersion_194 : decode cL_isVersion 194 = .ok (.goto (-84), 3) := by decide +kernel
theorem dL_isVersion_197 : decode cL_isVersion 197 = .ok (.iload 6, 2) := by decide +kernel
theorem dL_isVersion_199 : decode cL_isVersion 199 = .ok (.ifCond .eq 23, 3) := by decide +kernel
theorem dL_isVersion_202 : decode cL_isVersion 202 = .ok (.iload 5, 2) := by decide +kernel
theorem dL_isVersion_204 : decode cL_isVersion 204 = .ok (.ifCond .eq 14, 3) := by decide +kernel
theorem dL_isVersion_207 : decode cL_isVersion 207 = .ok (.aload_n 0, 1) := by decide +kernel
theorem dL_isVersion_208 : decode cL_isVersion 208 = .ok (.aload_n 1, 1) := by decide +kernel
theorem dL_isVersion_209 : decode cL_isVersion 209 = .ok (.aload_n 2, 1) := by decide +kernel
theorem dL_isVersion_210 : decode cL_isVersion 210 = .ok (.iload 5, 2) := by decide +kernel
theorem dL_isVersion_212 : decode cL_isVersion 212 = .ok (.invokestatic 127, 3) := by decide +kernel
theorem dL_isVersion_215 : decode cL_isVersion 215 = .ok (.ifCond .eq 7, 3) := by decide +kernel
theorem dL_isVersion_218 : decode cL_isVersion 218 = .ok (.iconst 1, 1) := by decide +kernel
theorem dL_isVersion_219 : decode cL_isVersion 219 = .ok (.goto 4, 3) := by decide +kernel
theorem dL_isVersion_222 : decode cL_isVersion 222 = .ok (.iconst 0, 1) := by decide +kernel
theorem dL_isVersion_223 : decode cL_isVersion 223 = .ok (.ireturn, 1) := by decide +kernel
theorem dL_isText_0 : decode cL_isText 0 = .ok (.aload_n 2, 1) := by decide +kernel
theorem dL_isText_1 : decode cL_isText 1 = .ok (.iload_n 3, 1) := by decide +kernel
theorem dL_isText_2 : decode cL_isText 2 = .ok (.iaload, 1) := by decide +kernel
theorem dL_isText_3 : decode cL_isText 3 = .ok (.bipush 8, 2) := by decide +kernel
theorem dL_isText_5 : decode cL_isText 5 = .ok (.irem, 1) := by decide +kernel
theorem dL_isText_6 : decode cL_isText 6 = .ok (.istore 4, 2) := by decide +kernel
theorem dL_isText_8 : decode cL_isText 8 = .ok (.iload 4, 2) := by decide +kernel
theorem dL_isText_10 : decode cL_isText 10 = .ok (.ifCond .ne 8, 3) := by decide +kernel
theorem dL_isText_13 : decode cL_isText 13 = .ok (.bipush 97, 2) := by decide +kernel
theorem dL_isText_15 : decode cL_isText 15 = .ok (.goto 60, 3) := by decide +kernel
theorem dL_isText_18 : decode cL_isText 18 = .ok (.iload 4, 2) := by decide +kernel
theorem dL_isText_20 : decode cL_isText 20 = .ok (.iconst 1, 1) := by decide +kernel
theorem dL_isText_21 : decode cL_isText 21 = .ok (.if_icmp .ne 8, 3) := by decide +kernel
theorem dL_isText_24 : decode cL_isText 24 = .ok (.bipush 114, 2) := by decide +kernel
theorem dL_isText_26 : decode cL_isText 26 = .ok (.goto 49, 3) := by decide +kernel
theorem dL_isText_29 : decode cL_isText 29 = .ok (.iload 4, 2) := by decide +kernel
theorem dL_isText_31 : decode cL_isText 31 = .ok (.iconst 2, 1) := by decide +kernel
theorem dL_isText_32 : decode cL_isText 32 = .ok (.if_icmp .ne 8, 3) := by decide +kernel
theorem dL_isText_35 : decode cL_isText 35 = .ok (.bipush 116, 2) := by decide +kernel
theorem dL_isText_37 : decode cL_isText 37 = .ok (.goto 38, 3) := by decide +kernel
theorem dL_isText_40 : decode cL_isText 40 = .ok (.iload 4, 2) := by decide +kernel
theorem dL_isText_42 : decode cL_isText 42 = .ok (.iconst 3, 1) := by decide +kernel
theorem dL_isText_43 : decode cL_isText 43 = .ok (.if_icmp .ne 8, 3) := by decide +kernel
theorem dL_isText_46 : decode cL_isText 46 = .ok (.bipush 115, 2) := by decide +kernel
theorem dL_isText_48 : decode cL_isText 48 = .ok (.goto 27, 3) := by decide +kernel
theorem dL_isText_51 : decode cL_isText 51 = .ok (.iload 4, 2) := by decide +kernel
theorem dL_isText_53 : decode cL_isText 53 = .ok (.iconst 4, 1) := by decide +kernel
theorem dL_isText_54 : decode cL_isText 54 = .ok (.if_icmp .ne 8, 3) := by decide +kernel
theorem dL_isText_57 : decode cL_isText 57 = .ok (.bipush 106, 2) := by decide +kernel
theorem dL_isText_59 : decode cL_isText 59 = .ok (.goto 16, 3) := by decide +kernel
theorem dL_isText_62 : decode cL_isText 62 = .ok (.iload 4, 2) := by decide +kernel
theorem dL_isText_64 : decode cL_isText 64 = .ok (.iconst 5, 1) := by decide +kernel
theorem dL_isText_65 : decode cL_isText 65 = .ok (.if_icmp .ne 8, 3) := by decide +kernel
theorem dL_isText_68 : decode cL_isText 68 = .ok (.bipush 100, 2) := by decide +kernel
theorem dL_isText_70 : decode cL_isText 70 = .ok (.goto 5, 3) := by decide +kernel
theorem dL_isText_73 : decode cL_isText 73 = .ok (.bipush 110, 2) := by decide +kernel
theorem dL_isText_75 : decode cL_isText 75 = .ok (.istore 5, 2) := by decide +kernel
theorem dL_isText_77 : decode cL_isText 77 = .ok (.iload 4, 2) := by decide +kernel
theorem dL_isText_79 : decode cL_isText 79 = .ok (.ifCond .ne 7, 3) := by decide +kernel
theorem dL_isText_82 : decode cL_isText 82 = .ok (.iconst 3, 1) := by decide +kernel
theorem dL_isText_83 : decode cL_isText 83 = .ok (.goto 25, 3) := by decide +kernel
theorem dL_isText_86 : decode cL_isText 86 = .ok (.iload 4, 2) := by decide +kernel
theorem dL_isText_88 : decode cL_isText 88 = .ok (.iconst 1, 1) := by decide +kernel
theorem dL_isText_89 : decode cL_isText 89 = .ok (.if_icmp .ne 8, 3) := by decide +kernel
theorem dL_isText_92 : decode cL_isText 92 = .ok (.bipush 6, 2) := by decide +kernel
theorem dL_isText_94 : decode cL_isText 94 = .ok (.goto 14, 3) := by decide +kernel
theorem dL_isText_97 : decode cL_isText 97 = .ok (.iload 4, 2) := by decide +kernel
theorem dL_isText_99 : decode cL_isText 99 = .ok (.iconst 3, 1) := by decide +kernel
theorem dL_isText_100 : decode cL_isText 100 = .ok (.if_icmp .ne 7, 3) := by decide +kernel
theorem dL_isText_103 : decode cL_isText 103 = .ok (.iconst 5, 1) := by decide +kernel
theorem dL_isText_104 : decode cL_isText 104 = .ok (.goto 4, 3) := by decide +kernel
theorem dL_isText_107 : decode cL_isText 107 = .ok (.iconst 4, 1) := by decide +kernel
theorem dL_isText_108 : decode cL_isText 108 = .ok (.istore 6, 2) := by decide +kernel
theorem dL_isText_110 : decode cL_isText 110 = .ok (.iload 4, 2) := by decide +kernel
theorem dL_isText_112 : decode cL_isText 112 = .ok (.ifCond .ne 8, 3) := by decide +kernel
theorem dL_isText_115 : decode cL_isText 115 = .ok (.bipush 100, 2) := by decide +kernel
theorem dL_isText_117 : decode cL_isText 117 = .ok (.goto 55, 3) := by decide +kernel
theorem dL_isText_120 : decode cL_isText 120 = .ok (.iload 4, 2) := by decide +kernel
theorem dL_isText_122 : decode cL_isText 122 = .ok (.iconst 1, 1) := by decide +kernel
theorem dL_isText_123 : decode cL_isText 123 = .ok (.if_icmp .ne 8, 3) := by decide +kernel
theorem dL_isText_126 : decode cL_isText 126 = .ok (.bipush 101, 2) := by decide +kernel
theorem dL_isText_128 : decode cL_isText 128 = .ok (.goto 44, 3) := by decide +kernel
theorem dL_isText_131 : decode cL_isText 131 = .ok (.iload 4, 2) := by decide +kernel
theorem dL_isText_133 : decode cL_isText 133 = .ok (.iconst 2, 1) := by decide +kernel
theorem dL_isText_134 : decode cL_isText 134 = .ok (.if_icmp .eq 9, 3) := by decide +kernel
theorem dL_isText_137 : decode cL_isText 137 = .ok (.iload 4, 2) := by decide +kernel
theorem dL_isText_139 : decode cL_isText 139 = .ok (.iconst 4, 1) := by decide +kernel
theorem dL_isText_140 : decode cL_isText 140 = .ok (.if_icmp .ne 8, 3) := by decide +kernel
theorem dL_isText_143 : decode cL_isText 143 = .ok (.bipush 110, 2) := by decide +kernel
theorem dL_isText_145 : decode cL_isText 145 = .ok (.goto 27, 3) := by decide +kernel
theorem dL_isText_148 : decode cL_isText 148 = .ok (.iload 4, 2) := by decide +kernel
theorem dL_isText_150 : decode cL_isText 150 = .ok (.iconst 3, 1) := by decide +kernel
theorem dL_isText_151 : decode cL_isText 151 = .ok (.if_icmp .ne 8, 3) := by decide +kernel
theorem dL_isText_154 : decode cL_isText 154 = .ok (.bipush 116, 2) := by decide +kernel
theorem dL_isText_156 : decode cL_isText 156 = .ok (.goto 16, 3) := by decide +kernel
theorem dL_isText_159 : decode cL_isText 159 = .ok (.iload 4, 2) := by decide +kernel
theorem dL_isText_161 : decode cL_isText 161 = .ok (.iconst 5, 1) := by decide +kernel
theorem dL_isText_162 : decode cL_isText 162 = .ok (.if_icmp .ne 8, 3) := by decide +kernel
theorem dL_isText_165 : decode cL_isText 165 = .ok (.bipush 112, 2) := by decide +kernel
theorem dL_isText_167 : decode cL_isText 167 = .ok (.goto 5, 3) := by decide +kernel
theorem dL_isText_170 : decode cL_isText 170 = .ok (.bipush 100, 2) := by decide +kernel
theorem dL_isText_172 : decode cL_isText 172 = .ok (.istore 7, 2) := by decide +kernel
theorem dL_isText_174 : decode cL_isText 174 = .ok (.aload_n 0, 1) := by decide +kernel
theorem dL_isText_175 : decode cL_isText 175 = .ok (.iconst 0, 1) := by decide +kernel
theorem dL_isText_176 : decode cL_isText 176 = .ok (.iload_n 3, 1) := by decide +kernel
theorem dL_isText_177 : decode cL_isText 177 = .ok (.iconst 0, 1) := by decide +kernel
theorem dL_isText_178 : decode cL_isText 178 = .ok (.invokevirtual 61, 3) := by decide +kernel
theorem dL_isText_181 : decode cL_isText 181 = .ok (.iload 5, 2) := by decide +kernel
theorem dL_isText_183 : decode cL_isText 183 = .ok (.if_icmp .ne 22, 3) := by decide +kernel
theorem dL_isText_186 : decode cL_isText 186 = .ok (.aload_n 0, 1) := by decide +kernel
theorem dL_isText_187 : decode cL_isText 187 = .ok (.iconst 0, 1) := by decide +kernel
theorem dL_isText_188 : decode cL_isText 188 = .ok (.iload_n 3, 1) := by decide +kernel
theorem dL_isText_189 : decode cL_isText 189 = .ok (.iload 6, 2) := by decide +kernel
theorem dL_isText_191 : decode cL_isText 191 = .ok (.iconst 1, 1) := by decide +kernel
theorem dL_isText_192 : decode cL_isText 192 = .ok (.isub, 1) := by decide +kernel
theorem dL_isText_193 : decode cL_isText 193 = .ok (.invokevirtual 61, 3) := by decide +kernel
theorem dL_isText_196 : decode cL_isText 196 = .ok (.iload 7, 2) := by decide +kernel
theorem dL_isText_198 : decode cL_isText 198 = .ok (.if_icmp .ne 7, 3) := by decide +kernel
theorem dL_isText_201 : decode cL_isText 201 = .ok (.iconst 1, 1) := by decide +kernel
theorem dL_isText_202 : decode cL_isText 202 = .ok (.goto 4, 3) := by decide +kernel
theorem dL_isText_205 : decode cL_isText 205 = .ok (.iconst 0, 1) := by decide +kernel
theorem dL_isText_206 : decode cL_isText 206 = .ok (.istore 8, 2) := by decide +kernel
theorem dL_isText_208 : decode cL_isText 208 = .ok (.iconst 0, 1) := by decide +kernel
theorem dL_isText_209 : decode cL_isText 209 = .ok (.istore 9, 2) := by decide +kernel
theorem dL_isText_211 : decode cL_isText 211 = .ok (.iload 9, 2) := by decide +kernel
theorem dL_isText_213 : decode cL_isText 213 = .ok (.iconst 4, 1) := by decide +kernel
theorem dL_isText_214 : decode cL_isText 214 = .ok (.if_icmp .ge 138, 3) := by decide +kernel
theorem dL_isText_217 : decode cL_isText 217 = .ok (.iload 8, 2) := by decide +kernel
theorem dL_isText_219 : decode cL_isText 219 = .ok (.ifCond .eq 133, 3) := by decide +kernel
theorem dL_isText_222 : decode cL_isText 222 = .ok (.iload 9, 2) := by decide +kernel
theorem dL_isText_224 : decode cL_isText 224 = .ok (.iconst 2, 1) := by decide +kernel
theorem dL_isText_225 : decode cL_isText 225 = .ok (.if_icmp .ne 26, 3) := by decide +kernel
theorem dL_isText_228 : decode cL_isText 228 = .ok (.aload_n 0, 1) := by decide +kernel
theorem dL_isText_229 : decode cL_isText 229 = .ok (.iconst 0, 1) := by decide +kernel
theorem dL_isText_230 : decode cL_isText 230 = .ok (.iload_n 3, 1) := by decide +kernel
theorem dL_isText_231 : decode cL_isText 231 = .ok (.iload 6, 2) := by decide +kernel
theorem dL_isText_233 : decode cL_isText 233 = .ok (.invokevirtual 61, 3) := by decide +kernel
theorem dL_isText_236 : decode cL_isText 236 = .ok (.bipush 62, 2) := by decide +kernel
theorem dL_isText_238 : decode cL_isText 238 = .ok (.if_icmp .ne 7, 3) := by decide +kernel
theorem dL_isText_241 : decode cL_isText 241 = .ok (.iconst 1, 1) := by decide +kernel
theorem dL_isText_242 : decode cL_isText 242 = .ok (.goto 4, 3) := by decide +kernel
theorem dL_isText_245 : decode cL_isText 245 = .ok (.iconst 0, 1) := by decide +kernel
theorem dL_isText_246 : decode cL_isText 246 = .ok (.istore 8, 2) := by decide +kernel
theorem dL_isText_248 : decode cL_isText 248 = .ok (.iinc 6 1, 3) := by decide +kernel
theorem dL_isText_251 : decode cL_isText 251 = .ok (.aload_n 2, 1) := by decide +kernel
theorem dL_isText_252 : decode cL_isText 252 = .ok (.iload_n 3, 1) := by decide +kernel
theorem dL_isText_253 : decode cL_isText 253 = .ok (.iload 9, 2) := by decide +kernel
theorem dL_isText_255 : decode cL_isText 255 = .ok (.iconst 2, 1) := by decide +kernel
theorem dL_isText_256 : decode cL_isText 256 = .ok (.if_icmp .ge 7, 3) := by decide +kernel
theorem dL_isText_259 : decode cL_isText 259 = .ok (.iconst 1, 1) := by decide +kernel
theorem dL_isText_260 : decode cL_isText 260 = .ok (.goto 4, 3) := by decide +kernel
theorem dL_isText_263 : decode cL_isText 263 = .ok (.iconst 0, 1) := by decide +kernel
theorem dL_isText_264 : decode cL_isText 264 = .ok (.iload 9, 2) := by decide +kernel
theorem dL_isText_266 : decode cL_isText 266 = .ok (.iconst 2, 1) := by decide +kernel
theorem dL_isText_267 : decode cL_isText 267 = .ok (.irem, 1) := by decide +kernel
theorem dL_isText_268 : decode cL_isText 268 = .ok (.invokestatic 86, 3) := by decide +kernel
theorem dL_isText_271 : decode cL_isText 271 = .ok (.istore 10, 2) := by decide +kernel
theorem dL_isText_273 : decode cL_isText 273 = .ok (.iload 10, 2) := by decide +kernel
theorem dL_isText_275 : decode cL_isText 275 = .ok (.ifCond .lt 71, 3) := by decide +kernel
theorem dL_isText_278 : decode cL_isText 278 = .ok (.iload 8, 2) := by decide +kernel
theorem dL_isText_280 : decode cL_isText 280 = .ok (.ifCond .eq 66, 3) := by decide +kernel
theorem dL_isText_283 : decode cL_isText 283 = .ok (.aload_n 0, 1) := by decide +kernel
theorem dL_isText_284 : decode cL_isText 284 = .ok (.iconst 0, 1) := by decide +kernel
theorem dL_isText_285 : decode cL_isText 285 = .ok (.iload_n 3, 1) := by decide +kernel
theorem dL_isText_286 : decode cL_isText 286 = .ok (.iload 6, 2) := by decide +kernel
theorem dL_isText_288 : decode cL_isText 288 = .ok (.invokevirtual 61, 3) := by decide +kernel
theorem dL_isText_291 : decode cL_isText 291 = .ok (.bipush 32, 2) := by decide +kernel
theorem dL_isText_293 : decode cL_isText 293 = .ok (.if_icmp .ne 47, 3) := by decide +kernel
theorem dL_isText_296 : decode cL_isText 296 = .ok (.aload_n 0, 1) := by decide +kernel
theorem dL_isText_297 : decode cL_isText 297 = .ok (.iconst 0, 1) := by decide +kernel
theorem dL_isText_298 : decode cL_isText 298 = .ok (.iload_n 3, 1) := by decide +kernel
theorem dL_isText_299 : decode cL_isText 299 = .ok (.iload 6, 2) := by decide +kernel
theorem dL_isText_301 : decode cL_isText 301 = .ok (.iconst 1, 1) := by decide +kernel
theorem dL_isText_302 : decode cL_isText 302 = .ok (.iadd, 1) := by decide +kernel
theorem dL_isText_303 : decode cL_isText 303 = .ok (.invokevirtual 61, 3) := by decide +kernel
theorem dL_isText_306 : decode cL_isText 306 = .ok (.bipush 97, 2) := by decide +kernel
theorem dL_isText_308 : decode cL_isText 308 = .ok (.aload_n 1, 1) := by decide +kernel
theorem dL_isText_309 : decode cL_isText 309 = .ok (.iload 9, 2) := by decide +kernel
theorem dL_isText_311 : decode cL_isText 311 = .ok (.iconst 2, 1) := by decide +kernel
theorem dL_isText_312 : decode cL_isText 312 = .ok (.if_icmp .ge 9, 3) := by decide +kernel
theorem dL_isText_315 : decode cL_isText 315 = .ok (.iload_n 3, 1) := by decide +kernel
theorem dL_isText_316 : decode cL_isText 316 = .ok (.iconst 1, 1) := by decide +kernel
theorem dL_isText_317 : decode cL_isText 317 = .ok (.isub, 1) := by decide +kernel
theorem dL_isText_318 : decode cL_isText 318 = .ok (.goto 4, 3) := by decide +kernel
theorem dL_isText_321 : decode cL_isText 321 = .ok (.iload_n 3, 1) := by decide +kernel
theorem dL_isText_322 : decode cL_isText 322 = .ok (.iload 10, 2) := by decide +kernel
theorem dL_isText_324 : decode cL_isText 324 = .ok (.invokestatic 79, 3) := by decide +kernel
theorem dL_isText_327 : decode cL_isText 327 = .ok (.bipush 32, 2) := by decide +kernel
theorem dL_isText_329 : decode cL_isText 329 = .ok (.irem, 1) := by decide +kernel
theorem dL_isText_330 : decode cL_isText 330 = .ok (.iadd, 1) := by decide +kernel
theorem dL_isText_331 : decode cL_isText 331 = .ok (.iconst 1, 1) := by decide +kernel
theorem dL_isText_332 : decode cL_isText 332 = .ok (.isub, 1) := by decide +kernel
theorem dL_isText_333 : decode cL_isText 333 = .ok (.if_icmp .ne 7, 3) := by decide +kernel
theorem dL_isText_336 : decode cL_isText 336 = .ok (.iconst 1, 1) := by decide +kernel
theorem dL_isText_337 : decode cL_isText 337 = .ok (.goto 4, 3) := by decide +kernel
theorem dL_isText_340 : decode cL_isText 340 = .ok (.iconst 0, 1) := by decide +kernel
theorem dL_isText_341 : decode cL_isText 341 = .ok (.istore 8, 2) := by decide +kernel
theorem dL_isText_343 : decode cL_isText 343 = .ok (.iinc 6 2, 3) := by decide +kernel
theorem dL_isText_346 : decode cL_isText 346 = .ok (.iinc 9 1, 3) := by decide +kernel
theorem dL_isText_349 : decode cL_isText 349 = .ok (.goto (-138), 3) := by decide +kernel
theorem dL_isText_352 : decode cL_isText 352 = .ok (.iload 8, 2) := by decide +kernel
theorem dL_isText_354 : decode cL_isText 354 = .ok (.ifCond .eq 36, 3) := by decide +kernel
theorem dL_isText_357 : decode cL_isText 357 = .ok (.aload_n 0, 1) := by decide +kernel
theorem dL_isText_358 : decode cL_isText 358 = .ok (.iconst 1, 1) := by decide +kernel
theorem dL_isText_359 : decode cL_isText 359 = .ok (.iconst 0, 1) := by decide +kernel
theorem dL_isText_360 : decode cL_isText 360 = .ok (.iload_n 3, 1) := by decide +kernel
theorem dL_isText_361 : decode cL_isText 361 = .ok (.iload 6, 2) := by decide +kernel
theorem dL_isText_363 : decode cL_isText 363 = .ok (.invokestatic 119, 3) := by decide +kernel
theorem dL_isText_366 : decode cL_isText 366 = .ok (.sipush (-300), 3) := by decide +kernel
theorem dL_isText_369 : decode cL_isText 369 = .ok (.if_icmp .ne 21, 3) := by decide +kernel
theorem dL_isText_372 : decode cL_isText 372 = .ok (.aload_n 0, 1) := by decide +kernel
theorem dL_isText_373 : decode cL_isText 373 = .ok (.iconst 1, 1) := by decide +kernel
theorem dL_isText_374 : decode cL_isText 374 = .ok (.iconst 0, 1) := by decide +kernel
theorem dL_isText_375 : decode cL_isText 375 = .ok (.iload_n 3, 1) := by decide +kernel
theorem dL_isText_376 : decode cL_isText 376 = .ok (.iconst (-1), 1) := by decide +kernel
theorem dL_isText_377 : decode cL_isText 377 = .ok (.invokestatic 119, 3) := by decide +kernel
theorem dL_isText_380 : decode cL_isText 380 = .ok (.sipush (-300), 3) := by decide +kernel
theorem dL_isText_383 : decode cL_isText 383 = .ok (.if_icmp .ne 7, 3) := by decide +kernel
theorem dL_isText_386 : decode cL_isText 386 = .ok (.iconst 1, 1) := by decide +kernel
theorem dL_isText_387 : decode cL_isText 387 = .ok (.goto 4, 3) := by decide +kernel
theorem dL_isText_390 : decode cL_isText 390 = .ok (.iconst 0, 1) := by decide +kernel
theorem dL_isText_391 : decode cL_isText 391 = .ok (.ireturn, 1) := by decide +kernel
theorem dL_areRows_0 : decode cL_areRows 0 = .ok (.aload_n 0, 1) := by decide +kernel
theorem dL_areRows_1 : decode cL_areRows 1 = .ok (.iconst 4, 1) := by decide +kernel
theorem dL_areRows_2 : decode cL_areRows 2 = .ok (.aload 4, 2) := by decide +kernel
theorem dL_areRows_4 : decode cL_areRows 4 = .ok (.iconst 2, 1) := by decide +kernel
theorem dL_areRows_5 : decode cL_areRows 5 = .ok (.iaload, 1) := by decide +kernel
theorem dL_areRows_6 : decode cL_areRows 6 = .ok (.iconst 0, 1) := by decide +kernel
theorem dL_areRows_7 : decode cL_areRows 7 = .ok (.iconst 0, 1) := by decide +kernel
theorem dL_areRows_8 : decode cL_areRows 8 = .ok (.invokestatic 119, 3) := by decide +kernel
theorem dL_areRows_11 : decode cL_areRows 11 = .ok (.sipush (-300), 3) := by decide +kernel
theorem dL_areRows_14 : decode cL_areRows 14 = .ok (.if_icmp .ne 38, 3) := by decide +kernel
theorem dL_areRows_17 : decode cL_areRows 17 = .ok (.aload_n 0, 1) := by decide +kernel
theorem dL_areRows_18 : decode cL_areRows 18 = .ok (.iconst 2, 1) := by decide +kernel
theorem dL_areRows_19 : decode cL_areRows 19 = .ok (.aload 4, 2) := by decide +kernel
theorem dL_areRows_21 : decode cL_areRows 21 = .ok (.iconst 2, 1) := by decide +kernel
theorem dL_areRows_22 : decode cL_areRows 22 = .ok (.iaload, 1) := by decide +kernel
theorem dL_areRows_23 : decode cL_areRows 23 = .ok (.iconst 0, 1) := by decide +kernel
theorem dL_areRows_24 : decode cL_areRows 24 = .ok (.iconst 0, 1) := by decide +kernel
theorem dL_areRows_25 : decode cL_areRows 25 = .ok (.invokestatic 119, 3) := by decide +kernel
theorem dL_areRows_28 : decode cL_areRows 28 = .ok (.sipush (-300), 3) := by decide +kernel
theorem dL_areRows_31 : decode cL_areRows 31 = .ok (.if_icmp .ne 21, 3) := by decide +kernel
theorem dL_areRows_34 : decode cL_areRows 34 = .ok (.aload_n 0, 1) := by decide +kernel
theorem dL_areRows_35 : decode cL_areRows 35 = .ok (.iconst 3, 1) := by decide +kernel
theorem dL_areRows_36 : decode cL_areRows 36 = .ok (.iconst (-1), 1) := by decide +kernel
theorem dL_areRows_37 : decode cL_areRows 37 = .ok (.iconst 0, 1) := by decide +kernel
theorem dL_areRows_38 : decode cL_areRows 38 = .ok (.iconst 0, 1) := by decide +kernel
theorem dL_areRows_39 : decode cL_areRows 39 = .ok (.invokestatic 119, 3) := by decide +kernel
theorem dL_areRows_42 : decode cL_areRows 42 = .ok (.sipush (-300), 3) := by decide +kernel
theorem dL_areRows_45 : decode cL_areRows 45 = .ok (.if_icmp .ne 7, 3) := by decide +kernel
theorem dL_areRows_48 : decode cL_areRows 48 = .ok (.iconst 1, 1) := by decide +kernel
theorem dL_areRows_49 : decode cL_areRows 49 = .ok (.goto 4, 3) := by decide +kernel
theorem dL_areRows_52 : decode cL_areRows 52 = .ok (.iconst 0, 1) := by decide +kernel
theorem dL_areRows_53 : decode cL_areRows 53 = .ok (.istore 10, 2) := by decide +kernel
theorem dL_areRows_55 : decode cL_areRows 55 = .ok (.iconst 0, 1) := by decide +kernel
theorem dL_areRows_56 : decode cL_areRows 56 = .ok (.istore 11, 2) := by decide +kernel
theorem dL_areRows_58 : decode cL_areRows 58 = .ok (.iload 11, 2) := by decide +kernel
theorem dL_areRows_60 : decode cL_areRows 60 = .ok (.aload 4, 2) := by decide +kernel
theorem dL_areRows_62 : decode cL_areRows 62 = .ok (.iconst 2, 1) := by decide +kernel
theorem dL_areRows_63 : decode cL_areRows 63 = .ok (.iaload, 1) := by decide +kernel
theorem dL_areRows_64 : decode cL_areRows 64 = .ok (.if_icmp .ge 327, 3) := by decide +kernel
theorem dL_areRows_67 : decode cL_areRows 67 = .ok (.iload 10, 2) := by decide +kernel
theorem dL_areRows_69 : decode cL_areRows 69 = .ok (.ifCond .eq 322, 3) := by decide +kernel
theorem dL_areRows_72 : decode cL_areRows 72 = .ok (.iconst 0, 1) := by decide +kernel
theorem dL_areRows_73 : decode cL_areRows 73 = .ok (.istore 12, 2) := by decide +kernel
theorem dL_areRows_75 : decode cL_areRows 75 = .ok (.iconst 1, 1) := by decide +kernel
theorem dL_areRows_76 : decode cL_areRows 76 = .ok (.istore 13, 2) := by decide +kernel
theorem dL_areRows_78 : decode cL_areRows 78 = .ok (.iload 13, 2) := by decide +kernel
theorem dL_areRows_80 : decode cL_areRows 80 = .ok (.bipush 12, 2) := by decide +kernel
theorem dL_areRows_82 : decode cL_areRows 82 = .ok (.if_icmp .ge 35, 3) := by decide +kernel
theorem dL_areRows_85 : decode cL_areRows 85 = .ok (.iload 12, 2) := by decide +kernel
theorem dL_areRows_87 : decode cL_areRows 87 = .ok (.aload 7, 2) := by decide +kernel
theorem dL_areRows_89 : decode cL_areRows 89 = .ok (.bipush 13, 2) := by decide +kernel
theorem dL_areRows_91 : decode cL_areRows 91 = .ok (.iload 11, 2) := by decide +kernel
theorem dL_areRows_93 : decode cL_areRows 93 = .ok (.imul, 1) := by decide +kernel
theorem dL_areRows_94 : decode cL_areRows 94 = .ok (.iload 13, 2) := by decide +kernel
theorem dL_areRows_96 : decode cL_areRows 96 = .ok (.iadd, 1) := by decide +kernel
theorem dL_areRows_97 : decode cL_areRows 97 = .ok (.laload, 1) := by decide +kernel
theorem dL_areRows_98 : decode cL_areRows 98 = .ok (.lconst 0, 1) := by decide +kernel
theorem dL_areRows_99 : decode cL_areRows 99 = .ok (.lcmp, 1) := by decide +kernel
theorem dL_areRows_100 : decode cL_areRows 100 = .ok (.ifCond .le 7, 3) := by decide +kernel
theorem dL_areRows_103 : decode cL_areRows 103 = .ok (.iconst 1, 1) := by decide +kernel
theorem dL_areRows_104 : decode cL_areRows 104 = .ok (.goto 4, 3) := by decide +kernel
theorem dL_areRows_107 : decode cL_areRows 107 = .ok (.iconst 0, 1) := by decide +kernel
theorem dL_areRows_108 : decode cL_areRows 108 = .ok (.iadd, 1) := by decide +kernel
theorem dL_areRows_109 : decode cL_areRows 109 = .ok (.istore 12, 2) := by decide +kernel
theorem dL_areRows_111 : decode cL_areRows 111 = .ok (.iinc 13 1, 3) := by decide +kernel
theorem dL_areRows_114 : decode cL_areRows 114 = .ok (.goto (-36), 3) := by decide +kernel
theorem dL_areRows_117 : decode cL_areRows 117 = .ok (.aload_n 0, 1) := by decide +kernel
theorem dL_areRows_118 : decode cL_areRows 118 = .ok (.iload 11, 2) := by decide +kernel
theorem dL_areRows_120 : decode cL_areRows 120 = .ok (.invokevirtual 71, 3) := by decide +kernel
theorem dL_areRows_123 : decode cL_areRows 123 = .ok (.sipush 10000, 3) := by decide +kernel
theorem dL_areRows_126 : decode cL_areRows 126 = .ok (.aload 6, 2) := by decide +kernel
theorem dL_areRows_128 : decode cL_areRows 128 = .ok (.iconst 2, 1) := by decide +kernel
theorem dL_areRows_129 : decode cL_areRows 129 = .ok (.iload 11, 2) := by decide +kernel
theorem dL_areRows_131 : decode cL_areRows 131 = .ok (.imul, 1) := by decide +kernel
theorem dL_areRows_132 : decode cL_areRows 132 = .ok (.iaload, 1) := by decide +kernel
theorem dL_areRows_133 : decode cL_areRows 133 = .ok (.imul, 1) := by decide +kernel
theorem dL_areRows_134 : decode cL_areRows 134 = .ok (.bipush 100, 2) := by decide +kernel
theorem dL_areRows_136 : decode cL_areRows 136 = .ok (.iload 12, 2) := by decide +kernel
theorem dL_areRows_138 : decode cL_areRows 138 = .ok (.imul, 1) := by decide +kernel
theorem dL_areRows_139 : decode cL_areRows 139 = .ok (.iadd, 1) := by decide +kernel
theorem dL_areRows_140 : decode cL_areRows 140 = .ok (.aload 6, 2) := by decide +kernel
theorem dL_areRows_142 : decode cL_areRows 142 = .ok (.iconst 2, 1) := by decide +kernel
theorem dL_areRows_143 : decode cL_areRows 143 = .ok (.iload 11, 2) := by decide +kernel
theorem dL_areRows_145 : decode cL_areRows 145 = .ok (.imul, 1) := by decide +kernel
theorem dL_areRows_146 : decode cL_areRows 146 = .ok (.iconst 1, 1) := by decide +kernel
theorem dL_areRows_147 : decode cL_areRows 147 = .ok (.iadd, 1) := by decide +kernel
theorem dL_areRows_148 : decode cL_areRows 148 = .ok (.iaload, 1) := by decide +kernel
theorem dL_areRows_149 : decode cL_areRows 149 = .ok (.iadd, 1) := by decide +kernel
theorem dL_areRows_150 : decode cL_areRows 150 = .ok (.if_icmp .ne 27, 3) := by decide +kernel
theorem dL_areRows_153 : decode cL_areRows 153 = .ok (.aload_n 0, 1) := by decide +kernel
theorem dL_areRows_154 : decode cL_areRows 154 = .ok (.iconst 2, 1) := by decide +kernel
theorem dL_areRows_155 : decode cL_areRows 155 = .ok (.iload 11, 2) := by decide +kernel
theorem dL_areRows_157 : decode cL_areRows 157 = .ok (.aload 4, 2) := by decide +kernel
theorem dL_areRows_159 : decode cL_areRows 159 = .ok (.iconst 0, 1) := by decide +kernel
theorem dL_areRows_160 : decode cL_areRows 160 = .ok (.iaload, 1) := by decide +kernel
theorem dL_areRows_161 : decode cL_areRows 161 = .ok (.iconst 1, 1) := by decide +kernel
theorem dL_areRows_162 : decode cL_areRows 162 = .ok (.iadd, 1) := by decide +kernel
theorem dL_areRows_163 : decode cL_areRows 163 = .ok (.iconst 0, 1) := by decide +kernel
theorem dL_areRows_164 : decode cL_areRows 164 = .ok (.invokestatic 119, 3) := by decide +kernel
theorem dL_areRows_167 : decode cL_areRows 167 = .ok (.sipush (-300), 3) := by decide +kernel
theorem dL_areRows_170 : decode cL_areRows 170 = .ok (.if_icmp .ne 7, 3) := by decide +kernel
theorem dL_areRows_173 : decode cL_areRows 173 = .ok (.iconst 1, 1) := by decide +kernel
theorem dL_areRows_174 : decode cL_areRows 174 = .ok (.goto 4, 3) := by decide +kernel
theorem dL_areRows_177 : decode cL_areRows 177 = .ok (.iconst 0, 1) := by decide +kernel
theorem dL_areRows_178 : decode cL_areRows 178 = .ok (.istore 10, 2) := by decide +kernel
theorem dL_areRows_180 : decode cL_areRows 180 = .ok (.iconst 0, 1) := by decide +kernel
theorem dL_areRows_181 : decode cL_areRows 181 = .ok (.istore 13, 2) := by decide +kernel
theorem dL_areRows_183 : decode cL_areRows 183 = .ok (.iload 13, 2) := by decide +kernel
theorem dL_areRows_185 : decode cL_areRows 185 = .ok (.aload 4, 2) := by decide +kernel
theorem dL_areRows_187 : decode cL_areRows 187 = .ok (.iconst 1, 1) := by decide +kernel
theorem dL_areRows_188 : decode cL_areRows 188 = .ok (.iaload, 1) := by decide +kernel
theorem dL_areRows_189 : decode cL_areRows 189 = .ok (.if_icmp .ge 68, 3) := by decide +kernel
theorem dL_areRows_192 : decode cL_areRows 192 = .ok (.iload 10, 2) := by decide +kernel
theorem dL_areRows_194 : decode cL_areRows 194 = .ok (.ifCond .eq 63, 3) := by decide +kernel
theorem dL_areRows_197 : decode cL_areRows 197 = .ok (.aload_n 1, 1) := by decide +kernel
theorem dL_areRows_198 : decode cL_areRows 198 = .ok (.aload 6, 2) := by decide +kernel
theorem dL_areRows_200 : decode cL_areRows 200 = .ok (.iconst 2, 1) := by decide +kernel
theorem dL_areRows_201 : decode cL_areRows 201 = .ok (.iload 11, 2) := by decide +kernel
theorem dL_areRows_203 : decode cL_areRows 203 = .ok (.imul, 1) := by decide +kernel
theorem dL_areRows_204 : decode cL_areRows 204 = .ok (.iaload, 1) := by decide +kernel
theorem dL_areRows_205 : decode cL_areRows 205 = .ok (.iload 13, 2) := by decide +kernel
theorem dL_areRows_207 : decode cL_areRows 207 = .ok (.invokestatic 79, 3) := by decide +kernel
theorem dL_areRows_210 : decode cL_areRows 210 = .ok (.bipush 32, 2) := by decide +kernel
theorem dL_areRows_212 : decode cL_areRows 212 = .ok (.irem, 1) := by decide +kernel
theorem dL_areRows_213 : decode cL_areRows 213 = .ok (.iconst 1, 1) := by decide +kernel
theorem dL_areRows_214 : decode cL_areRows 214 = .ok (.isub, 1) := by decide +kernel
theorem dL_areRows_215 : decode cL_areRows 215 = .ok (.istore 14, 2) := by decide +kernel
theorem dL_areRows_217 : decode cL_areRows 217 = .ok (.iload 14, 2) := by decide +kernel
theorem dL_areRows_219 : decode cL_areRows 219 = .ok (.ifCond .lt 25, 3) := by decide +kernel
theorem dL_areRows_222 : decode cL_areRows 222 = .ok (.aload_n 0, 1) := by decide +kernel
theorem dL_areRows_223 : decode cL_areRows 223 = .ok (.iload 11, 2) := by decide +kernel
theorem dL_areRows_225 : decode cL_areRows 225 = .ok (.iload 14, 2) := by decide +kernel
theorem dL_areRows_227 : decode cL_areRows 227 = .ok (.invokevirtual 68, 3) := by decide +kernel
theorem dL_areRows_230 : decode cL_areRows 230 = .ok (.aload 5, 2) := by decide +kernel
theorem dL_areRows_232 : decode cL_areRows 232 = .ok (.bipush 10, 2) := by decide +kernel
theorem dL_areRows_234 : decode cL_areRows 234 = .ok (.iload 11, 2) := by decide +kernel
theorem dL_areRows_236 : decode cL_areRows 236 = .ok (.imul, 1) := by decide +kernel
theorem dL_areRows_237 : decode cL_areRows 237 = .ok (.iload 13, 2) := by decide +kernel
theorem dL_areRows_239 : decode cL_areRows 239 = .ok (.iadd, 1) := by decide +kernel
theorem dL_areRows_240 : decode cL_areRows 240 = .ok (.iaload, 1) := by decide +kernel
theorem dL_areRows_241 : decode cL_areRows 241 = .ok (.if_icmp .ne 7, 3) := by decide +kernel
theorem dL_areRows_244 : decode cL_areRows 244 = .ok (.iconst 1, 1) := by decide +kernel
theorem dL_areRows_245 : decode cL_areRows 245 = .ok (.goto 4, 3) := by decide +kernel
theorem dL_areRows_248 : decode cL_areRows 248 = .ok (.iconst 0, 1) := by decide +kernel
theorem dL_areRows_249 : decode cL_areRows 249 = .ok (.istore 10, 2) := by decide +kernel
theorem dL_areRows_251 : decode cL_areRows 251 = .ok (.iinc 13 1, 3) := by decide +kernel
theorem dL_areRows_254 : decode cL_areRows 254 = .ok (.goto (-71), 3) := by decide +kernel
theorem dL_areRows_257 : decode cL_areRows 257 = .ok (.aload 5, 2) := by decide +kernel
theorem dL_areRows_259 : decode cL_areRows 259 = .ok (.aload 6, 2) := by decide +kernel
theorem dL_areRows_261 : decode cL_areRows 261 = .ok (.aload 7, 2) := by decide +kernel
theorem dL_areRows_263 : decode cL_areRows 263 = .ok (.iload 11, 2) := by decide +kernel
theorem dL_areRows_265 : decode cL_areRows 265 = .ok (.iconst 4, 1) := by decide +kernel
theorem dL_areRows_266 : decode cL_areRows 266 = .ok (.invokestatic 131, 3) := by decide +kernel
theorem dL_areRows_269 : decode cL_areRows 269 = .ok (.aload 6, 2) := by decide +kernel
theorem dL_areRows_271 : decode cL_areRows 271 = .ok (.bipush 8, 2) := by decide +kernel
theorem dL_areRows_273 : decode cL_areRows 273 = .ok (.iaload, 1) := by decide +kernel
theorem dL_areRows_274 : decode cL_areRows 274 = .ok (.iload 9, 2) := by decide +kernel
theorem dL_areRows_276 : decode cL_areRows 276 = .ok (.if_icmp .eq 36, 3) := by decide +kernel
theorem dL_areRows_279 : decode cL_areRows 279 = .ok (.aload_n 1, 1) := by decide +kernel
theorem dL_areRows_280 : decode cL_areRows 280 = .ok (.aload_n 2, 1) := by decide +kernel
theorem dL_areRows_281 : decode cL_areRows 281 = .ok (.aload_n 3, 1) := by decide +kernel
theorem dL_areRows_282 : decode cL_areRows 282 = .ok (.aload 5, 2) := by decide +kernel
theorem dL_areRows_284 : decode cL_areRows 284 = .ok (.aload 6, 2) := by decide +kernel
theorem dL_areRows_286 : decode cL_areRows 286 = .ok (.aload 7, 2) := by decide +kernel
theorem dL_areRows_288 : decode cL_areRows 288 = .ok (.iconst 4, 1) := by decide +kernel
theorem dL_areRows_289 : decode cL_areRows 289 = .ok (.aload 6, 2) := by decide +kernel
theorem dL_areRows_291 : decode cL_areRows 291 = .ok (.bipush 8, 2) := by decide +kernel
theorem dL_areRows_293 : decode cL_areRows 293 = .ok (.iaload, 1) := by decide +kernel
theorem dL_areRows_294 : decode cL_areRows 294 = .ok (.iload 9, 2) := by decide +kernel
theorem dL_areRows_296 : decode cL_areRows 296 = .ok (.if_icmp .ge 7, 3) := by decide +kernel
theorem dL_areRows_299 : decode cL_areRows 299 = .ok (.iconst 1, 1) := by decide +kernel
theorem dL_areRows_300 : decode cL_areRows 300 = .ok (.goto 4, 3) := by decide +kernel
theorem dL_areRows_303 : decode cL_areRows 303 = .ok (.iconst 0, 1) := by decide +kernel
theorem dL_areRows_304 : decode cL_areRows 304 = .ok (.aload 8, 2) := by decide +kernel
theorem dL_areRows_306 : decode cL_areRows 306 = .ok (.invokestatic 135, 3) := by decide +kernel
theorem dL_areRows_309 : decode cL_areRows 309 = .ok (.goto (-40), 3) := by decide +kernel
theorem dL_areRows_312 : decode cL_areRows 312 = .ok (.iconst 0, 1) := by decide +kernel
theorem dL_areRows_313 : decode cL_areRows 313 = .ok (.istore 13, 2) := by decide +kernel
theorem dL_areRows_315 : decode cL_areRows 315 = .ok (.iload 13, 2) := by decide +kernel
theorem dL_areRows_317 : decode cL_areRows 317 = .ok (.bipush 7, 2) := by decide +kernel
theorem dL_areRows_319 : decode cL_areRows 319 = .ok (.if_icmp .ge 66, 3) := by decide +kernel
theorem dL_areRows_322 : decode cL_areRows 322 = .ok (.iload 10, 2) := by decide +kernel
theorem dL_areRows_324 : decode cL_areRows 324 = .ok (.ifCond .eq 61, 3) := by decide +kernel
theorem dL_areRows_327 : decode cL_areRows 327 = .ok (.aload_n 1, 1) := by decide +kernel
theorem dL_areRows_328 : decode cL_areRows 328 = .ok (.aload 4, 2) := by decide +kernel
theorem dL_areRows_330 : decode cL_areRows 330 = .ok (.iload 9, 2) := by decide +kernel
theorem dL_areRows_332 : decode cL_areRows 332 = .ok (.iload 13, 2) := by decide +kernel
theorem dL_areRows_334 : decode cL_areRows 334 = .ok (.invokestatic 123, 3) := by decide +kernel
theorem dL_areRows_337 : decode cL_areRows 337 = .ok (.istore 14, 2) := by decide +kernel
theorem dL_areRows_339 : decode cL_areRows 339 = .ok (.aload_n 0, 1) := by decide +kernel
theorem dL_areRows_340 : decode cL_areRows 340 = .ok (.iconst 2, 1) := by decide +kernel
theorem dL_areRows_341 : decode cL_areRows 341 = .ok (.iload 11, 2) := by decide +kernel
theorem dL_areRows_343 : decode cL_areRows 343 = .ok (.iload 9, 2) := by decide +kernel
theorem dL_areRows_345 : decode cL_areRows 345 = .ok (.iload 13, 2) := by decide +kernel
theorem dL_areRows_347 : decode cL_areRows 347 = .ok (.invokestatic 119, 3) := by decide +kernel
theorem dL_areRows_350 : decode cL_areRows 350 = .ok (.iload 14, 2) := by decide +kernel
theorem dL_areRows_352 : decode cL_areRows 352 = .ok (.ifCond .ge 9, 3) := by decide +kernel
theorem dL_areRows_355 : decode cL_areRows 355 = .ok (.sipush (-300), 3) := by decide +kernel
theorem dL_areRows_358 : decode cL_areRows 358 = .ok (.goto 11, 3) := by decide +kernel
theorem dL_areRows_361 : decode cL_areRows 361 = .ok (.aload 5, 2) := by decide +kernel
theorem dL_areRows_363 : decode cL_areRows 363 = .ok (.bipush 40, 2) := by decide +kernel
theorem dL_areRows_365 : decode cL_areRows 365 = .ok (.iload 14, 2) := by decide +kernel
theorem dL_areRows_367 : decode cL_areRows 367 = .ok (.iadd, 1) := by decide +kernel
theorem dL_areRows_368 : decode cL_areRows 368 = .ok (.iaload, 1) := by decide +kernel
theorem dL_areRows_369 : decode cL_areRows 369 = .ok (.if_icmp .ne 7, 3) := by decide +kernel
theorem dL_areRows_372 : decode cL_areRows 372 = .ok (.iconst 1, 1) := by decide +kernel
theorem dL_areRows_373 : decode cL_areRows 373 = .ok (.goto 4, 3) := by decide +kernel
theorem dL_areRows_376 : decode cL_areRows 376 = .ok (.iconst 0, 1) := by decide +kernel
theorem dL_areRows_377 : decode cL_areRows 377 = .ok (.istore 10, 2) := by decide +kernel
theorem dL_areRows_379 : decode cL_areRows 379 = .ok (.iinc 13 1, 3) := by decide +kernel
theorem dL_areRows_382 : decode cL_areRows 382 = .ok (.goto (-67), 3) := by decide +kernel
theorem dL_areRows_385 : decode cL_areRows 385 = .ok (.iinc 11 1, 3) := by decide +kernel
theorem dL_areRows_388 : decode cL_areRows 388 = .ok (.goto (-330), 3) := by decide +kernel
theorem dL_areRows_391 : decode cL_areRows 391 = .ok (.iload 10, 2) := by decide +kernel
theorem dL_areRows_393 : decode cL_areRows 393 = .ok (.ireturn, 1) := by decide +kernel
theorem dL_begins_0 : decode cL_begins 0 = .ok (.aload_n 2, 1) := by decide +kernel
theorem dL_begins_1 : decode cL_begins 1 = .ok (.iconst 0, 1) := by decide +kernel
theorem dL_begins_2 : decode cL_begins 2 = .ok (.dup2, 1) := by decide +kernel
theorem dL_begins_3 : decode cL_begins 3 = .ok (.iaload, 1) := by decide +kernel
theorem dL_begins_4 : decode cL_begins 4 = .ok (.iconst 1, 1) := by decide +kernel
theorem dL_begins_5 : decode cL_begins 5 = .ok (.iadd, 1) := by decide +kernel
theorem dL_begins_6 : decode cL_begins 6 = .ok (.iastore, 1) := by decide +kernel
theorem dL_begins_7 : decode cL_begins 7 = .ok (.aload_n 0, 1) := by decide +kernel
theorem dL_begins_8 : decode cL_begins 8 = .ok (.aload_n 2, 1) := by decide +kernel
theorem dL_begins_9 : decode cL_begins 9 = .ok (.iconst 0, 1) := by decide +kernel
theorem dL_begins_10 : decode cL_begins 10 = .ok (.iaload, 1) := by decide +kernel
theorem dL_begins_11 : decode cL_begins 11 = .ok (.aload_n 0, 1) := by decide +kernel
theorem dL_begins_12 : decode cL_begins 12 = .ok (.aload_n 2, 1) := by decide +kernel
theorem dL_begins_13 : decode cL_begins 13 = .ok (.iconst 0, 1) := by decide +kernel
theorem dL_begins_14 : decode cL_begins 14 = .ok (.iaload, 1) := by decide +kernel
theorem dL_begins_15 : decode cL_begins 15 = .ok (.iconst 1, 1) := by decide +kernel
theorem dL_begins_16 : decode cL_begins 16 = .ok (.isub, 1) := by decide +kernel
theorem dL_begins_17 : decode cL_begins 17 = .ok (.laload, 1) := by decide +kernel
theorem dL_begins_18 : decode cL_begins 18 = .ok (.lastore, 1) := by decide +kernel
theorem dL_begins_19 : decode cL_begins 19 = .ok (.aload_n 1, 1) := by decide +kernel
theorem dL_begins_20 : decode cL_begins 20 = .ok (.aload_n 2, 1) := by decide +kernel
theorem dL_begins_21 : decode cL_begins 21 = .ok (.iconst 0, 1) := by decide +kernel
theorem dL_begins_22 : decode cL_begins 22 = .ok (.iaload, 1) := by decide +kernel
theorem dL_begins_23 : decode cL_begins 23 = .ok (.iload_n 3, 1) := by decide +kernel
theorem dL_begins_24 : decode cL_begins 24 = .ok (.bipush 8, 2) := by decide +kernel
theorem dL_begins_26 : decode cL_begins 26 = .ok (.iload 4, 2) := by decide +kernel
theorem dL_begins_28 : decode cL_begins 28 = .ok (.iconst 1, 1) := by decide +kernel
theorem dL_begins_29 : decode cL_begins 29 = .ok (.iadd, 1) := by decide +kernel
theorem dL_begins_30 : decode cL_begins 30 = .ok (.bipush 16, 2) := by decide +kernel
theorem dL_begins_32 : decode cL_begins 32 = .ok (.iload 5, 2) := by decide +kernel
theorem dL_begins_34 : decode cL_begins 34 = .ok (.iconst 1, 1) := by decide +kernel
theorem dL_begins_35 : decode cL_begins 35 = .ok (.iadd, 1) := by decide +kernel
theorem dL_begins_36 : decode cL_begins 36 = .ok (.imul, 1) := by decide +kernel
theorem dL_begins_37 : decode cL_begins 37 = .ok (.iadd, 1) := by decide +kernel
theorem dL_begins_38 : decode cL_begins 38 = .ok (.imul, 1) := by decide +kernel
theorem dL_begins_39 : decode cL_begins 39 = .ok (.iadd, 1) := by decide +kernel
theorem dL_begins_40 : decode cL_begins 40 = .ok (.ldc 85, 2) := by decide +kernel
theorem dL_begins_42 : decode cL_begins 42 = .ok (.iload 6, 2) := by decide +kernel
theorem dL_begins_44 : decode cL_begins 44 = .ok (.imul, 1) := by decide +kernel
theorem dL_begins_45 : decode cL_begins 45 = .ok (.iadd, 1) := by decide +kernel
theorem dL_begins_46 : decode cL_begins 46 = .ok (.iastore, 1) := by decide +kernel
theorem dL_begins_47 : decode cL_begins 47 = .ok (.return_, 1) := by decide +kernel
theorem dL_makes_0 : decode cL_makes 0 = .ok (.aload_n 2, 1) := by decide +kernel
theorem dL_makes_1 : decode cL_makes 1 = .ok (.aload_n 3, 1) := by decide +kernel
theorem dL_makes_2 : decode cL_makes 2 = .ok (.iconst 1, 1) := by decide +kernel
theorem dL_makes_3 : decode cL_makes 3 = .ok (.iaload, 1) := by decide +kernel
theorem dL_makes_4 : decode cL_makes 4 = .ok (.iload 5, 2) := by decide +kernel
theorem dL_makes_6 : decode cL_makes 6 = .ok (.iconst 3, 1) := by decide +kernel
theorem dL_makes_7 : decode cL_makes 7 = .ok (.iload 6, 2) := by decide +kernel
theorem dL_makes_9 : decode cL_makes 9 = .ok (.imul, 1) := by decide +kernel
theorem dL_makes_10 : decode cL_makes 10 = .ok (.iadd, 1) := by decide +kernel
theorem dL_makes_11 : decode cL_makes 11 = .ok (.iastore, 1) := by decide +kernel
theorem dL_makes_12 : decode cL_makes 12 = .ok (.aload_n 0, 1) := by decide +kernel
theorem dL_makes_13 : decode cL_makes 13 = .ok (.aload_n 3, 1) := by decide +kernel
theorem dL_makes_14 : decode cL_makes 14 = .ok (.iconst 0, 1) := by decide +kernel
theorem dL_makes_15 : decode cL_makes 15 = .ok (.iaload, 1) := by decide +kernel
theorem dL_makes_16 : decode cL_makes 16 = .ok (.dup2, 1) := by decide +kernel
theorem dL_makes_17 : decode cL_makes 17 = .ok (.laload, 1) := by decide +kernel
theorem dL_makes_18 : decode cL_makes 18 = .ok (.iload 4, 2) := by decide +kernel
theorem dL_makes_20 : decode cL_makes 20 = .ok (.iconst 1, 1) := by decide +kernel
theorem dL_makes_21 : decode cL_makes 21 = .ok (.iadd, 1) := by decide +kernel
theorem dL_makes_22 : decode cL_makes 22 = .ok (.iload 7, 2) := by decide +kernel
theorem dL_makes_24 : decode cL_makes 24 = .ok (.ifCond .eq 8, 3) := by decide +kernel
theorem dL_makes_27 : decode cL_makes 27 = .ok (.bipush 32, 2) := by decide +kernel
theorem dL_makes_29 : decode cL_makes 29 = .ok (.goto 4, 3) := by decide +kernel
theorem dL_makes_32 : decode cL_makes 32 = .ok (.iconst 0, 1) := by decide +kernel
theorem dL_makes_33 : decode cL_makes 33 = .ok (.iadd, 1) := by decide +kernel
theorem dL_makes_34 : decode cL_makes 34 = .ok (.i2l, 1) := by decide +kernel
theorem dL_makes_35 : decode cL_makes 35 = .ok (.bipush 6, 2) := by decide +kernel
theorem dL_makes_37 : decode cL_makes 37 = .ok (.aload_n 3, 1) := by decide +kernel
theorem dL_makes_38 : decode cL_makes 38 = .ok (.iconst 1, 1) := by decide +kernel
theorem dL_makes_39 : decode cL_makes 39 = .ok (.iaload, 1) := by decide +kernel
theorem dL_makes_40 : decode cL_makes 40 = .ok (.imul, 1) := by decide +kernel
theorem dL_makes_41 : decode cL_makes 41 = .ok (.lshl, 1) := by decide +kernel
theorem dL_makes_42 : decode cL_makes 42 = .ok (.lor, 1) := by decide +kernel
theorem dL_makes_43 : decode cL_makes 43 = .ok (.lastore, 1) := by decide +kernel
theorem dL_makes_44 : decode cL_makes 44 = .ok (.aload_n 1, 1) := by decide +kernel
theorem dL_makes_45 : decode cL_makes 45 = .ok (.aload_n 3, 1) := by decide +kernel
theorem dL_makes_46 : decode cL_makes 46 = .ok (.iconst 0, 1) := by decide +kernel
theorem dL_makes_47 : decode cL_makes 47 = .ok (.iaload, 1) := by decide +kernel
theorem dL_makes_48 : decode cL_makes 48 = .ok (.dup2, 1) := by decide +kernel
theorem dL_makes_49 : decode cL_makes 49 = .ok (.iaload, 1) := by decide +kernel
theorem dL_makes_50 : decode cL_makes 50 = .ok (.sipush 2048, 3) := by decide +kernel
theorem dL_makes_53 : decode cL_makes 53 = .ok (.iload 8, 2) := by decide +kernel
theorem dL_makes_55 : decode cL_makes 55 = .ok (.ifCond .ne 7, 3) := by decide +kernel
theorem dL_makes_58 : decode cL_makes 58 = .ok (.iconst 1, 1) := by decide +kernel
theorem dL_makes_59 : decode cL_makes 59 = .ok (.goto 5, 3) := by decide +kernel
theorem dL_makes_62 : decode cL_makes 62 = .ok (.bipush 16, 2) := by decide +kernel
theorem dL_makes_64 : decode cL_makes 64 = .ok (.imul, 1) := by decide +kernel
theorem dL_makes_65 : decode cL_makes 65 = .ok (.aload_n 3, 1) := by decide +kernel
theorem dL_makes_66 : decode cL_makes 66 = .ok (.iconst 1, 1) := by decide +kernel
theorem dL_makes_67 : decode cL_makes 67 = .ok (.iaload, 1) := by decide +kernel
theorem dL_makes_68 : decode cL_makes 68 = .ok (.iconst 1, 1) := by decide +kernel
theorem dL_makes_69 : decode cL_makes 69 = .ok (.iadd, 1) := by decide +kernel
theorem dL_makes_70 : decode cL_makes 70 = .ok (.imul, 1) := by decide +kernel
theorem dL_makes_71 : decode cL_makes 71 = .ok (.iadd, 1) := by decide +kernel
theorem dL_makes_72 : decode cL_makes 72 = .ok (.iastore, 1) := by decide +kernel
theorem dL_makes_73 : decode cL_makes 73 = .ok (.aload_n 3, 1) := by decide +kernel
theorem dL_makes_74 : decode cL_makes 74 = .ok (.iconst 1, 1) := by decide +kernel
theorem dL_makes_75 : decode cL_makes 75 = .ok (.dup2, 1) := by decide +kernel
theorem dL_makes_76 : decode cL_makes 76 = .ok (.iaload, 1) := by decide +kernel
theorem dL_makes_77 : decode cL_makes 77 = .ok (.iconst 1, 1) := by decide +kernel
theorem dL_makes_78 : decode cL_makes 78 = .ok (.iadd, 1) := by decide +kernel
theorem dL_makes_79 : decode cL_makes 79 = .ok (.iastore, 1) := by decide +kernel
theorem dL_makes_80 : decode cL_makes 80 = .ok (.return_, 1) := by decide +kernel
theorem dL_goes_0 : decode cL_goes 0 = .ok (.aload_n 0, 1) := by decide +kernel
theorem dL_goes_1 : decode cL_goes 1 = .ok (.aload_n 1, 1) := by decide +kernel
theorem dL_goes_2 : decode cL_goes 2 = .ok (.iconst 0, 1) := by decide +kernel
theorem dL_goes_3 : decode cL_goes 3 = .ok (.iaload, 1) := by decide +kernel
theorem dL_goes_4 : decode cL_goes 4 = .ok (.dup2, 1) := by decide +kernel
theorem dL_goes_5 : decode cL_goes 5 = .ok (.laload, 1) := by decide +kernel
theorem dL_goes_6 : decode cL_goes 6 = .ok (.ldc2_w 77, 3) := by decide +kernel
theorem dL_goes_9 : decode cL_goes 9 = .ok (.bipush 6, 2) := by decide +kernel
theorem dL_goes_11 : decode cL_goes 11 = .ok (.iload_n 2, 1) := by decide +kernel
theorem dL_goes_12 : decode cL_goes 12 = .ok (.imul, 1) := by decide +kernel
theorem dL_goes_13 : decode cL_goes 13 = .ok (.lshl, 1) := by decide +kernel
theorem dL_goes_14 : decode cL_goes 14 = .ok (.ldc2_w 139, 3) := by decide +kernel
theorem dL_goes_17 : decode cL_goes 17 = .ok (.lxor, 1) := by decide +kernel
theorem dL_goes_18 : decode cL_goes 18 = .ok (.land, 1) := by decide +kernel
theorem dL_goes_19 : decode cL_goes 19 = .ok (.lastore, 1) := by decide +kernel
theorem dL_goes_20 : decode cL_goes 20 = .ok (.return_, 1) := by decide +kernel
theorem dL_isStep_0 : decode cL_isStep 0 = .ok (.iload 6, 2) := by decide +kernel
theorem dL_isStep_2 : decode cL_isStep 2 = .ok (.bipush 25, 2) := by decide +kernel
theorem dL_isStep_4 : decode cL_isStep 4 = .ok (.irem, 1) := by decide +kernel
theorem dL_isStep_5 : decode cL_isStep 5 = .ok (.ifCond .ne 8, 3) := by decide +kernel
theorem dL_isStep_8 : decode cL_isStep 8 = .ok (.bipush 26, 2) := by decide +kernel
theorem dL_isStep_10 : decode cL_isStep 10 = .ok (.goto 8, 3) := by decide +kernel
theorem dL_isStep_13 : decode cL_isStep 13 = .ok (.iload 6, 2) := by decide +kernel
theorem dL_isStep_15 : decode cL_isStep 15 = .ok (.bipush 6, 2) := by decide +kernel
theorem dL_isStep_17 : decode cL_isStep 17 = .ok (.irem, 1) := by decide +kernel
theorem dL_isStep_18 : decode cL_isStep 18 = .ok (.istore 9, 2) := by decide +kernel
theorem dL_isStep_20 : decode cL_isStep 20 = .ok (.iload 7, 2) := by decide +kernel
theorem dL_isStep_22 : decode cL_isStep 22 = .ok (.bipush 25, 2) := by decide +kernel
theorem dL_isStep_24 : decode cL_isStep 24 = .ok (.irem, 1) := by decide +kernel
theorem dL_isStep_25 : decode cL_isStep 25 = .ok (.ifCond .ne 8, 3) := by decide +kernel
theorem dL_isStep_28 : decode cL_isStep 28 = .ok (.bipush 26, 2) := by decide +kernel
theorem dL_isStep_30 : decode cL_isStep 30 = .ok (.goto 8, 3) := by decide +kernel
theorem dL_isStep_33 : decode cL_isStep 33 = .ok (.iload 7, 2) := by decide +kernel
theorem dL_isStep_35 : decode cL_isStep 35 = .ok (.bipush 7, 2) := by decide +kernel
theorem dL_isStep_37 : decode cL_isStep 37 = .ok (.irem, 1) := by decide +kernel
theorem dL_isStep_38 : decode cL_isStep 38 = .ok (.istore 10, 2) := by decide +kernel
theorem dL_isStep_40 : decode cL_isStep 40 = .ok (.iload 8, 2) := by decide +kernel
theorem dL_isStep_42 : decode cL_isStep 42 = .ok (.bipush 25, 2) := by decide +kernel
theorem dL_isStep_44 : decode cL_isStep 44 = .ok (.irem, 1) := by decide +kernel
theorem dL_isStep_45 : decode cL_isStep 45 = .ok (.ifCond .ne 8, 3) := by decide +kernel
theorem dL_isStep_48 : decode cL_isStep 48 = .ok (.bipush 26, 2) := by decide +kernel
theorem dL_isStep_50 : decode cL_isStep 50 = .ok (.goto 8, 3) := by decide +kernel
theorem dL_isStep_53 : decode cL_isStep 53 = .ok (.iload 8, 2) := by decide +kernel
theorem dL_isStep_55 : decode cL_isStep 55 = .ok (.bipush 7, 2) := by decide +kernel
theorem dL_isStep_57 : decode cL_isStep 57 = .ok (.irem, 1) := by decide +kernel
theorem dL_isStep_58 : decode cL_isStep 58 = .ok (.istore 11, 2) := by decide +kernel
theorem dL_isStep_60 : decode cL_isStep 60 = .ok (.aload_n 1, 1) := by decide +kernel
theorem dL_isStep_61 : decode cL_isStep 61 = .ok (.aload 4, 2) := by decide +kernel
theorem dL_isStep_63 : decode cL_isStep 63 = .ok (.aload 4, 2) := by decide +kernel
theorem dL_isStep_65 : decode cL_isStep 65 = .ok (.iconst 0, 1) := by decide +kernel
theorem dL_isStep_66 : decode cL_isStep 66 = .ok (.iaload, 1) := by decide +kernel
theorem dL_isStep_67 : decode cL_isStep 67 = .ok (.iload 9, 2) := by decide +kernel
theorem dL_isStep_69 : decode cL_isStep 69 = .ok (.invokestatic 123, 3) := by decide +kernel
theorem dL_isStep_72 : decode cL_isStep 72 = .ok (.istore 12, 2) := by decide +kernel
theorem dL_isStep_74 : decode cL_isStep 74 = .ok (.aload_n 1, 1) := by decide +kernel
theorem dL_isStep_75 : decode cL_isStep 75 = .ok (.aload 4, 2) := by decide +kernel
theorem dL_isStep_77 : decode cL_isStep 77 = .ok (.aload 4, 2) := by decide +kernel
theorem dL_isStep_79 : decode cL_isStep 79 = .ok (.iconst 0, 1) := by decide +kernel
theorem dL_isStep_80 : decode cL_isStep 80 = .ok (.iaload, 1) := by decide +kernel
theorem dL_isStep_81 : decode cL_isStep 81 = .ok (.iload 10, 2) := by decide +kernel
theorem dL_isStep_83 : decode cL_isStep 83 = .ok (.invokestatic 123, 3) := by decide +kernel
theorem dL_isStep_86 : decode cL_isStep 86 = .ok (.istore 13, 2) := by decide +kernel
theorem dL_isStep_88 : decode cL_isStep 88 = .ok (.aload 4, 2) := by decide +kernel
theorem dL_isStep_90 : decode cL_isStep 90 = .ok (.iconst 0, 1) := by decide +kernel
theorem dL_isStep_91 : decode cL_isStep 91 = .ok (.iaload, 1) := by decide +kernel
theorem dL_isStep_92 : decode cL_isStep 92 = .ok (.bipush 9, 2) := by decide +kernel
theorem dL_isStep_94 : decode cL_isStep 94 = .ok (.if_icmp .gt 12, 3) := by decide +kernel
theorem dL_isStep_97 : decode cL_isStep 97 = .ok (.aload 4, 2) := by decide +kernel
theorem dL_isStep_99 : decode cL_isStep 99 = .ok (.iconst 1, 1) := by decide +kernel
theorem dL_isStep_100 : decode cL_isStep 100 = .ok (.iaload, 1) := by decide +kernel
theorem dL_isStep_101 : decode cL_isStep 101 = .ok (.bipush 8, 2) := by decide +kernel
theorem dL_isStep_103 : decode cL_isStep 103 = .ok (.if_icmp .le 24, 3) := by decide +kernel
theorem dL_isStep_106 : decode cL_isStep 106 = .ok (.aload_n 0, 1) := by decide +kernel
theorem dL_isStep_107 : decode cL_isStep 107 = .ok (.iconst 0, 1) := by decide +kernel
theorem dL_isStep_108 : decode cL_isStep 108 = .ok (.invokevirtual 74, 3) := by decide +kernel
theorem dL_isStep_111 : decode cL_isStep 111 = .ok (.bipush 100, 2) := by decide +kernel
theorem dL_isStep_113 : decode cL_isStep 113 = .ok (.aload 4, 2) := by decide +kernel
theorem dL_isStep_115 : decode cL_isStep 115 = .ok (.iconst 0, 1) := by decide +kernel
theorem dL_isStep_116 : decode cL_isStep 116 = .ok (.iaload, 1) := by decide +kernel
theorem dL_isStep_117 : decode cL_isStep 117 = .ok (.imul, 1) := by decide +kernel
theorem dL_isStep_118 : decode cL_isStep 118 = .ok (.if_icmp .ne 7, 3) := by decide +kernel
theorem dL_isStep_121 : decode cL_isStep 121 = .ok (.iconst 1, 1) := by decide +kernel
theorem dL_isStep_122 : decode cL_isStep 122 = .ok (.goto 4, 3) := by decide +kernel
theorem dL_isStep_125 : decode cL_isStep 125 = .ok (.iconst 0, 1) := by decide +kernel
theorem dL_isStep_126 : decode cL_isStep 126 = .ok (.ireturn, 1) := by decide +kernel
theorem dL_isStep_127 : decode cL_isStep 127 = .ok (.iload 5, 2) := by decide +kernel
theorem dL_isStep_129 : decode cL_isStep 129 = .ok (.ifCond .ne 191, 3) := by decide +kernel
theorem dL_isStep_132 : decode cL_isStep 132 = .ok (.iload 7, 2) := by decide +kernel
theorem dL_isStep_134 : decode cL_isStep 134 = .ok (.iconst 4, 1) := by decide +kernel
theorem dL_isStep_135 : decode cL_isStep 135 = .ok (.irem, 1) := by decide +kernel
theorem dL_isStep_136 : decode cL_isStep 136 = .ok (.istore 14, 2) := by decide +kernel
theorem dL_isStep_138 : decode cL_isStep 138 = .ok (.iload 8, 2) := by decide +kernel
theorem dL_isStep_140 : decode cL_isStep 140 = .ok (.bipush 30, 2) := by decide +kernel
theorem dL_isStep_142 : decode cL_isStep 142 = .ok (.irem, 1) := by decide +kernel
theorem dL_isStep_143 : decode cL_isStep 143 = .ok (.ifCond .ne 9, 3) := by decide +kernel
theorem dL_isStep_146 : decode cL_isStep 146 = .ok (.sipush 10000, 3) := by decide +kernel
theorem dL_isStep_149 : decode cL_isStep 149 = .ok (.goto 37, 3) := by decide +kernel
theorem dL_isStep_152 : decode cL_isStep 152 = .ok (.iload 14, 2) := by decide +kernel
theorem dL_isStep_154 : decode cL_isStep 154 = .ok (.iconst 1, 1) := by decide +kernel
theorem dL_isStep_155 : decode cL_isStep 155 = .ok (.if_icmp .ne 10, 3) := by decide +kernel
theorem dL_isStep_158 : decode cL_isStep 158 = .ok (.iload 8, 2) := by decide +kernel
theorem dL_isStep_160 : decode cL_isStep 160 = .ok (.iconst 2, 1) := by decide +kernel
theorem dL_isStep_161 : decode cL_isStep 161 = .ok (.irem, 1) := by decide +kernel
theorem dL_isStep_162 : decode cL_isStep 162 = .ok (.goto 24, 3) := by decide +kernel
theorem dL_isStep_165 : decode cL_isStep 165 = .ok (.iload 14, 2) := by decide +kernel
theorem dL_isStep_167 : decode cL_isStep 167 = .ok (.iconst 2, 1) := by decide +kernel
theorem dL_isStep_168 : decode cL_isStep 168 = .ok (.if_icmp .ne 12, 3) := by decide +kernel
theorem dL_isStep_171 : decode cL_isStep 171 = .ok (.iload 8, 2) := by decide +kernel
theorem dL_isStep_173 : decode cL_isStep 173 = .ok (.sipush 1000, 3) := by decide +kernel
theorem dL_isStep_176 : decode cL_isStep 176 = .ok (.irem, 1) := by decide +kernel
theorem dL_isStep_177 : decode cL_isStep 177 = .ok (.goto 9, 3) := by decide +kernel
theorem dL_isStep_180 : decode cL_isStep 180 = .ok (.iload 8, 2) := by decide +kernel
theorem dL_isStep_182 : decode cL_isStep 182 = .ok (.sipush 9000, 3) := by decide +kernel
theorem dL_isStep_185 : decode cL_isStep 185 = .ok (.irem, 1) := by decide +kernel
theorem dL_isStep_186 : decode cL_isStep 186 = .ok (.istore 15, 2) := by decide +kernel
theorem dL_isStep_188 : decode cL_isStep 188 = .ok (.iload 9, 2) := by decide +kernel
theorem dL_isStep_190 : decode cL_isStep 190 = .ok (.bipush 26, 2) := by decide +kernel
theorem dL_isStep_192 : decode cL_isStep 192 = .ok (.if_icmp .ge 21, 3) := by decide +kernel
theorem dL_isStep_195 : decode cL_isStep 195 = .ok (.iload 14, 2) := by decide +kernel
theorem dL_isStep_197 : decode cL_isStep 197 = .ok (.iconst 3, 1) := by decide +kernel
theorem dL_isStep_198 : decode cL_isStep 198 = .ok (.if_icmp .ge 15, 3) := by decide +kernel
theorem dL_isStep_201 : decode cL_isStep 201 = .ok (.iload 15, 2) := by decide +kernel
theorem dL_isStep_203 : decode cL_isStep 203 = .ok (.sipush 10000, 3) := by decide +kernel
theorem dL_isStep_206 : decode cL_isStep 206 = .ok (.if_icmp .ge 7, 3) := by decide +kernel
theorem dL_isStep_209 : decode cL_isStep 209 = .ok (.iconst 1, 1) := by decide +kernel
theorem dL_isStep_210 : decode cL_isStep 210 = .ok (.goto 4, 3) := by decide +kernel
theorem dL_isStep_213 : decode cL_isStep 213 = .ok (.iconst 0, 1) := by decide +kernel
theorem dL_isStep_214 : decode cL_isStep 214 = .ok (.istore 16, 2) := by decide +kernel
theorem dL_isStep_216 : decode cL_isStep 216 = .ok (.iload 16, 2) := by decide +kernel
theorem dL_isStep_218 : decode cL_isStep 218 = .ok (.ifCond .ne 9, 3) := by decide +kernel
theorem dL_isStep_221 : decode cL_isStep 221 = .ok (.sipush (-200), 3) := by decide +kernel
theorem dL_isStep_224 : decode cL_isStep 224 = .ok (.goto 17, 3) := by decide +kernel
theorem dL_isStep_227 : decode cL_isStep 227 = .ok (.iload 12, 2) := by decide +kernel
theorem dL_isStep_229 : decode cL_isStep 229 = .ok (.ifCond .lt 8, 3) := by decide +kernel
theorem dL_isStep_232 : decode cL_isStep 232 = .ok (.bipush (-100), 2) := by decide +kernel
theorem dL_isStep_234 : decode cL_isStep 234 = .ok (.goto 7, 3) := by decide +kernel
theorem dL_isStep_237 : decode cL_isStep 237 = .ok (.aload 4, 2) := by decide +kernel
theorem dL_isStep_239 : decode cL_isStep 239 = .ok (.iconst 1, 1) := by decide +kernel
theorem dL_isStep_240 : decode cL_isStep 240 = .ok (.iaload, 1) := by decide +kernel
theorem dL_isStep_241 : decode cL_isStep 241 = .ok (.istore 17, 2) := by decide +kernel
theorem dL_isStep_243 : decode cL_isStep 243 = .ok (.iload 17, 2) := by decide +kernel
theorem dL_isStep_245 : decode cL_isStep 245 = .ok (.ifCond .lt 45, 3) := by decide +kernel
theorem dL_isStep_248 : decode cL_isStep 248 = .ok (.aload_n 1, 1) := by decide +kernel
theorem dL_isStep_249 : decode cL_isStep 249 = .ok (.aload_n 2, 1) := by decide +kernel
theorem dL_isStep_250 : decode cL_isStep 250 = .ok (.aload 4, 2) := by decide +kernel
theorem dL_isStep_252 : decode cL_isStep 252 = .ok (.iconst 0, 1) := by decide +kernel
theorem dL_isStep_253 : decode cL_isStep 253 = .ok (.iconst (-1), 1) := by decide +kernel
theorem dL_isStep_254 : decode cL_isStep 254 = .ok (.iconst (-1), 1) := by decide +kernel
theorem dL_isStep_255 : decode cL_isStep 255 = .ok (.iconst 0, 1) := by decide +kernel
theorem dL_isStep_256 : decode cL_isStep 256 = .ok (.invokestatic 141, 3) := by decide +kernel
theorem dL_isStep_259 : decode cL_isStep 259 = .ok (.aload_n 1, 1) := by decide +kernel
theorem dL_isStep_260 : decode cL_isStep 260 = .ok (.aload_n 2, 1) := by decide +kernel
theorem dL_isStep_261 : decode cL_isStep 261 = .ok (.aload_n 3, 1) := by decide +kernel
theorem dL_isStep_262 : decode cL_isStep 262 = .ok (.aload 4, 2) := by decide +kernel
theorem dL_isStep_264 : decode cL_isStep 264 = .ok (.iload 9, 2) := by decide +kernel
theorem dL_isStep_266 : decode cL_isStep 266 = .ok (.iload 14, 2) := by decide +kernel
theorem dL_isStep_268 : decode cL_isStep 268 = .ok (.iload 15, 2) := by decide +kernel
theorem dL_isStep_270 : decode cL_isStep 270 = .ok (.iload 6, 2) := by decide +kernel
theorem dL_isStep_272 : decode cL_isStep 272 = .ok (.bipush 6, 2) := by decide +kernel
theorem dL_isStep_274 : decode cL_isStep 274 = .ok (.idiv, 1) := by decide +kernel
theorem dL_isStep_275 : decode cL_isStep 275 = .ok (.iconst 2, 1) := by decide +kernel
theorem dL_isStep_276 : decode cL_isStep 276 = .ok (.irem, 1) := by decide +kernel
theorem dL_isStep_277 : decode cL_isStep 277 = .ok (.iconst 1, 1) := by decide +kernel
theorem dL_isStep_278 : decode cL_isStep 278 = .ok (.if_icmp .ne 7, 3) := by decide +kernel
theorem dL_isStep_281 : decode cL_isStep 281 = .ok (.iconst 1, 1) := by decide +kernel
theorem dL_isStep_282 : decode cL_isStep 282 = .ok (.goto 4, 3) := by decide +kernel
theorem dL_isStep_285 : decode cL_isStep 285 = .ok (.iconst 0, 1) := by decide +kernel
theorem dL_isStep_286 : decode cL_isStep 286 = .ok (.iconst 0, 1) := by decide +kernel
theorem dL_isStep_287 : decode cL_isStep 287 = .ok (.invokestatic 145, 3) := by decide +kernel
theorem dL_isStep_290 : decode cL_isStep 290 = .ok (.aload_n 0, 1) := by decide +kernel
theorem dL_isStep_291 : decode cL_isStep 291 = .ok (.iconst 0, 1) := by decide +kernel
theorem dL_isStep_292 : decode cL_isStep 292 = .ok (.iconst 0, 1) := by decide +kernel
theorem dL_isStep_293 : decode cL_isStep 293 = .ok (.iload 9, 2) := by decide +kernel
theorem dL_isStep_295 : decode cL_isStep 295 = .ok (.iload 14, 2) := by decide +kernel
theorem dL_isStep_297 : decode cL_isStep 297 = .ok (.iload 15, 2) := by decide +kernel
theorem dL_isStep_299 : decode cL_isStep 299 = .ok (.iload 6, 2) := by decide +kernel
theorem dL_isStep_301 : decode cL_isStep 301 = .ok (.bipush 6, 2) := by decide +kernel
theorem dL_isStep_303 : decode cL_isStep 303 = .ok (.idiv, 1) := by decide +kernel
theorem dL_isStep_304 : decode cL_isStep 304 = .ok (.iconst 2, 1) := by decide +kernel
theorem dL_isStep_305 : decode cL_isStep 305 = .ok (.irem, 1) := by decide +kernel
theorem dL_isStep_306 : decode cL_isStep 306 = .ok (.invokestatic 149, 3) := by decide +kernel
theorem dL_isStep_309 : decode cL_isStep 309 = .ok (.iload 17, 2) := by decide +kernel
theorem dL_isStep_311 : decode cL_isStep 311 = .ok (.if_icmp .ne 7, 3) := by decide +kernel
theorem dL_isStep_314 : decode cL_isStep 314 = .ok (.iconst 1, 1) := by decide +kernel
theorem dL_isStep_315 : decode cL_isStep 315 = .ok (.goto 4, 3) := by decide +kernel
theorem dL_isStep_318 : decode cL_isStep 318 = .ok (.iconst 0, 1) := by decide +kernel
theorem dL_isStep_319 : decode cL_isStep 319 = .ok (.ireturn, 1) := by decide +kernel
theorem dL_isStep_320 : decode cL_isStep 320 = .ok (.iload 5, 2) := by decide +kernel
theorem dL_isStep_322 : decode cL_isStep 322 = .ok (.iconst 1, 1) := by decide +kernel
theorem dL_isStep_323 : decode cL_isStep 323 = .ok (.if_icmp .ne 155, 3) := by decide +kernel
theorem dL_isStep_326 : decode cL_isStep 326 = .ok (.iload 12, 2) := by decide +kernel
theorem dL_isStep_328 : decode cL_isStep 328 = .ok (.ifCond .ge 9, 3) := by decide +kernel
theorem dL_isStep_331 : decode cL_isStep 331 = .ok (.sipush (-300), 3) := by decide +kernel
theorem dL_isStep_334 : decode cL_isStep 334 = .ok (.goto 32, 3) := by decide +kernel
theorem dL_isStep_337 : decode cL_isStep 337 = .ok (.iload 10, 2) := by decide +kernel
theorem dL_isStep_339 : decode cL_isStep 339 = .ok (.bipush 26, 2) := by decide +kernel
theorem dL_isStep_341 : decode cL_isStep 341 = .ok (.if_icmp .ne 9, 3) := by decide +kernel
theorem dL_isStep_344 : decode cL_isStep 344 = .ok (.sipush (-200), 3) := by decide +kernel
theorem dL_isStep_347 : decode cL_isStep 347 = .ok (.goto 19, 3) := by decide +kernel
theorem dL_isStep_350 : decode cL_isStep 350 = .ok (.iload 13, 2) := by decide +kernel
theorem dL_isStep_352 : decode cL_isStep 352 = .ok (.ifCond .lt 8, 3) := by decide +kernel
theorem dL_isStep_355 : decode cL_isStep 355 = .ok (.bipush (-100), 2) := by decide +kernel
theorem dL_isStep_357 : decode cL_isStep 357 = .ok (.goto 9, 3) := by decide +kernel
theorem dL_isStep_360 : decode cL_isStep 360 = .ok (.aload 4, 2) := by decide +kernel
theorem dL_isStep_362 : decode cL_isStep 362 = .ok (.iconst 0, 1) := by decide +kernel
theorem dL_isStep_363 : decode cL_isStep 363 = .ok (.iaload, 1) := by decide +kernel
theorem dL_isStep_364 : decode cL_isStep 364 = .ok (.iconst 1, 1) := by decide +kernel
theorem dL_isStep_365 : decode cL_isStep 365 = .ok (.iadd, 1) := by decide +kernel
theorem dL_isStep_366 : decode cL_isStep 366 = .ok (.istore 14, 2) := by decide +kernel
theorem dL_isStep_368 : decode cL_isStep 368 = .ok (.iload 14, 2) := by decide +kernel
theorem dL_isStep_370 : decode cL_isStep 370 = .ok (.ifCond .lt 85, 3) := by decide +kernel
theorem dL_isStep_373 : decode cL_isStep 373 = .ok (.aload_n 1, 1) := by decide +kernel
theorem dL_isStep_374 : decode cL_isStep 374 = .ok (.aload_n 2, 1) := by decide +kernel
theorem dL_isStep_375 : decode cL_isStep 375 = .ok (.aload 4, 2) := by decide +kernel
theorem dL_isStep_377 : decode cL_isStep 377 = .ok (.iconst 1, 1) := by decide +kernel
theorem dL_isStep_378 : decode cL_isStep 378 = .ok (.iload 12, 2) := by decide +kernel
theorem dL_isStep_380 : decode cL_isStep 380 = .ok (.iconst (-1), 1) := by decide +kernel
theorem dL_isStep_381 : decode cL_isStep 381 = .ok (.iconst 0, 1) := by decide +kernel
theorem dL_isStep_382 : decode cL_isStep 382 = .ok (.invokestatic 141, 3) := by decide +kernel
theorem dL_isStep_385 : decode cL_isStep 385 = .ok (.aload_n 1, 1) := by decide +kernel
theorem dL_isStep_386 : decode cL_isStep 386 = .ok (.aload 4, 2) := by decide +kernel
theorem dL_isStep_388 : decode cL_isStep 388 = .ok (.iconst 0, 1) := by decide +kernel
theorem dL_isStep_389 : decode cL_isStep 389 = .ok (.iaload, 1) := by decide +kernel
theorem dL_isStep_390 : decode cL_isStep 390 = .ok (.iload 12, 2) := by decide +kernel
theorem dL_isStep_392 : decode cL_isStep 392 = .ok (.invokestatic 103, 3) := by decide +kernel
theorem dL_isStep_395 : decode cL_isStep 395 = .ok (.ifCond .eq 9, 3) := by decide +kernel
theorem dL_isStep_398 : decode cL_isStep 398 = .ok (.ldc2_w 153, 3) := by decide +kernel
theorem dL_isStep_401 : decode cL_isStep 401 = .ok (.goto 4, 3) := by decide +kernel
theorem dL_isStep_404 : decode cL_isStep 404 = .ok (.lconst 0, 1) := by decide +kernel
theorem dL_isStep_405 : decode cL_isStep 405 = .ok (.lstore 15, 2) := by decide +kernel
theorem dL_isStep_407 : decode cL_isStep 407 = .ok (.aload_n 1, 1) := by decide +kernel
theorem dL_isStep_408 : decode cL_isStep 408 = .ok (.aload 4, 2) := by decide +kernel
theorem dL_isStep_410 : decode cL_isStep 410 = .ok (.iload 12, 2) := by decide +kernel
theorem dL_isStep_412 : decode cL_isStep 412 = .ok (.invokestatic 155, 3) := by decide +kernel
theorem dL_isStep_415 : decode cL_isStep 415 = .ok (.aload_n 1, 1) := by decide +kernel
theorem dL_isStep_416 : decode cL_isStep 416 = .ok (.aload 4, 2) := by decide +kernel
theorem dL_isStep_418 : decode cL_isStep 418 = .ok (.iconst 0, 1) := by decide +kernel
theorem dL_isStep_419 : decode cL_isStep 419 = .ok (.iaload, 1) := by decide +kernel
theorem dL_isStep_420 : decode cL_isStep 420 = .ok (.dup2, 1) := by decide +kernel
theorem dL_isStep_421 : decode cL_isStep 421 = .ok (.laload, 1) := by decide +kernel
theorem dL_isStep_422 : decode cL_isStep 422 = .ok (.iload 10, 2) := by decide +kernel
theorem dL_isStep_424 : decode cL_isStep 424 = .ok (.i2l, 1) := by decide +kernel
theorem dL_isStep_425 : decode cL_isStep 425 = .ok (.lconst 1, 1) := by decide +kernel
theorem dL_isStep_426 : decode cL_isStep 426 = .ok (.ladd, 1) := by decide +kernel
theorem dL_isStep_427 : decode cL_isStep 427 = .ok (.lload 15, 2) := by decide +kernel
theorem dL_isStep_429 : decode cL_isStep 429 = .ok (.ladd, 1) := by decide +kernel
theorem dL_isStep_430 : decode cL_isStep 430 = .ok (.bipush 6, 2) := by decide +kernel
theorem dL_isStep_432 : decode cL_isStep 432 = .ok (.iload 12, 2) := by decide +kernel
theorem dL_isStep_434 : decode cL_isStep 434 = .ok (.imul, 1) := by decide +kernel
theorem dL_isStep_435 : decode cL_isStep 435 = .ok (.lshl, 1) := by decide +kernel
theorem dL_isStep_436 : decode cL_isStep 436 = .ok (.lor, 1) := by decide +kernel
theorem dL_isStep_437 : decode cL_isStep 437 = .ok (.lastore, 1) := by decide +kernel
theorem dL_isStep_438 : decode cL_isStep 438 = .ok (.aload_n 2, 1) := by decide +kernel
theorem dL_isStep_439 : decode cL_isStep 439 = .ok (.aload 4, 2) := by decide +kernel
theorem dL_isStep_441 : decode cL_isStep 441 = .ok (.iconst 0, 1) := by decide +kernel
theorem dL_isStep_442 : decode cL_isStep 442 = .ok (.iaload, 1) := by decide +kernel
theorem dL_isStep_443 : decode cL_isStep 443 = .ok (.dup2, 1) := by decide +kernel
theorem dL_isStep_444 : decode cL_isStep 444 = .ok (.iaload, 1) := by decide +kernel
theorem dL_isStep_445 : decode cL_isStep 445 = .ok (.sipush 2048, 3) := by decide +kernel
theorem dL_isStep_448 : decode cL_isStep 448 = .ok (.iload 12, 2) := by decide +kernel
theorem dL_isStep_450 : decode cL_isStep 450 = .ok (.iconst 1, 1) := by decide +kernel
theorem dL_isStep_451 : decode cL_isStep 451 = .ok (.iadd, 1) := by decide +kernel
theorem dL_isStep_452 : decode cL_isStep 452 = .ok (.imul, 1) := by decide +kernel
theorem dL_isStep_453 : decode cL_isStep 453 = .ok (.iadd, 1) := by decide +kernel
theorem dL_isStep_454 : decode cL_isStep 454 = .ok (.iastore, 1) := by decide +kernel
theorem dL_isStep_455 : decode cL_isStep 455 = .ok (.aload_n 0, 1) := by decide +kernel
theorem dL_isStep_456 : decode cL_isStep 456 = .ok (.iconst 1, 1) := by decide +kernel
theorem dL_isStep_457 : decode cL_isStep 457 = .ok (.iconst 0, 1) := by decide +kernel
theorem dL_isStep_458 : decode cL_isStep 458 = .ok (.iload 9, 2) := by decide +kernel
theorem dL_isStep_460 : decode cL_isStep 460 = .ok (.iload 10, 2) := by decide +kernel
theorem dL_isStep_462 : decode cL_isStep 462 = .ok (.iconst 0, 1) := by decide +kernel
theorem dL_isStep_463 : decode cL_isStep 463 = .ok (.iconst 0, 1) := by decide +kernel
theorem dL_isStep_464 : decode cL_isStep 464 = .ok (.invokestatic 149, 3) := by decide +kernel
theorem dL_isStep_467 : decode cL_isStep 467 = .ok (.iload 14, 2) := by decide +kernel
theorem dL_isStep_469 : decode cL_isStep 469 = .ok (.if_icmp .ne 7, 3) := by decide +kernel
theorem dL_isStep_472 : decode cL_isStep 472 = .ok (.iconst 1, 1) := by decide +kernel
theorem dL_isStep_473 : decode cL_isStep 473 = .ok (.goto 4, 3) := by decide +kernel
theorem dL_isStep_476 : decode cL_isStep 476 = .ok (.iconst 0, 1) := by decide +kernel
theorem dL_isStep_477 : decode cL_isStep 477 = .ok (.ireturn, 1) := by decide +kernel
theorem dL_isStep_478 : decode cL_isStep 478 = .ok (.iload 12, 2) := by decide +kernel
theorem dL_isStep_480 : decode cL_isStep 480 = .ok (.ifCond .lt 20, 3) := by decide +kernel
theorem dL_isStep_483 : decode cL_isStep 483 = .ok (.aload_n 1, 1) := by decide +kernel
theorem dL_isStep_484 : decode cL_isStep 484 = .ok (.aload 4, 2) := by decide +kernel
theorem dL_isStep_486 : decode cL_isStep 486 = .ok (.iconst 0, 1) := by decide +kernel
theorem dL_isStep_487 : decode cL_isStep 487 = .ok (.iaload, 1) := by decide +kernel
theorem dL_isStep_488 : decode cL_isStep 488 = .ok (.iload 12, 2) := by decide +kernel
theorem dL_isStep_490 : decode cL_isStep 490 = .ok (.invokestatic 103, 3) := by decide +kernel
theorem dL_isStep_493 : decode cL_isStep 493 = .ok (.ifCond .eq 7, 3) := by decide +kernel
theorem dL_isStep_496 : decode cL_isStep 496 = .ok (.iconst 1, 1) := by decide +kernel
theorem dL_isStep_497 : decode cL_isStep 497 = .ok (.goto 4, 3) := by decide +kernel
theorem dL_isStep_500 : decode cL_isStep 500 = .ok (.iconst 0, 1) := by decide +kernel
theorem dL_isStep_501 : decode cL_isStep 501 = .ok (.istore 14, 2) := by decide +kernel
theorem dL_isStep_503 : decode cL_isStep 503 = .ok (.iload 5, 2) := by decide +kernel
theorem dL_isStep_505 : decode cL_isStep 505 = .ok (.iconst 2, 1) := by decide +kernel
theorem dL_isStep_506 : decode cL_isStep 506 = .ok (.if_icmp .ne 138, 3) := by decide +kernel
theorem dL_isStep_509 : decode cL_isStep 509 = .ok (.iload 7, 2) := by decide +kernel
theorem dL_isStep_511 : decode cL_isStep 511 = .ok (.iconst 4, 1) := by decide +kernel
theorem dL_isStep_512 : decode cL_isStep 512 = .ok (.irem, 1) := by decide +kernel
theorem dL_isStep_513 : decode cL_isStep 513 = .ok (.istore 15, 2) := by decide +kernel
theorem dL_isStep_515 : decode cL_isStep 515 = .ok (.iload 12, 2) := by decide +kernel
theorem dL_isStep_517 : decode cL_isStep 517 = .ok (.ifCond .ge 9, 3) := by decide +kernel
theorem dL_isStep_520 : decode cL_isStep 520 = .ok (.sipush (-300), 3) := by decide +kernel
theorem dL_isStep_523 : decode cL_isStep 523 = .ok (.goto 35, 3) := by decide +kernel
theorem dL_isStep_526 : decode cL_isStep 526 = .ok (.iload 15, 2) := by decide +kernel
theorem dL_isStep_528 : decode cL_isStep 528 = .ok (.iconst 3, 1) := by decide +kernel
theorem dL_isStep_529 : decode cL_isStep 529 = .ok (.if_icmp .ne 9, 3) := by decide +kernel
theorem dL_isStep_532 : decode cL_isStep 532 = .ok (.sipush (-200), 3) := by decide +kernel
theorem dL_isStep_535 : decode cL_isStep 535 = .ok (.goto 23, 3) := by decide +kernel
theorem dL_isStep_538 : decode cL_isStep 538 = .ok (.aload_n 3, 1) := by decide +kernel
theorem dL_isStep_539 : decode cL_isStep 539 = .ok (.iload 12, 2) := by decide +kernel
theorem dL_isStep_541 : decode cL_isStep 541 = .ok (.iaload, 1) := by decide +kernel
theorem dL_isStep_542 : decode cL_isStep 542 = .ok (.iconst 3, 1) := by decide +kernel
theorem dL_isStep_543 : decode cL_isStep 543 = .ok (.irem, 1) := by decide +kernel
theorem dL_isStep_544 : decode cL_isStep 544 = .ok (.iload 15, 2) := by decide +kernel
theorem dL_isStep_546 : decode cL_isStep 546 = .ok (.if_icmp .ne 8, 3) := by decide +kernel
theorem dL_isStep_549 : decode cL_isStep 549 = .ok (.bipush (-100), 2) := by decide +kernel
theorem dL_isStep_551 : decode cL_isStep 551 = .ok (.goto 7, 3) := by decide +kernel
theorem dL_isStep_554 : decode cL_isStep 554 = .ok (.aload 4, 2) := by decide +kernel
theorem dL_isStep_556 : decode cL_isStep 556 = .ok (.iconst 1, 1) := by decide +kernel
theorem dL_isStep_557 : decode cL_isStep 557 = .ok (.iaload, 1) := by decide +kernel
theorem dL_isStep_558 : decode cL_isStep 558 = .ok (.istore 16, 2) := by decide +kernel
theorem dL_isStep_560 : decode cL_isStep 560 = .ok (.iload 16, 2) := by decide +kernel
theorem dL_isStep_562 : decode cL_isStep 562 = .ok (.ifCond .lt 59, 3) := by decide +kernel
theorem dL_isStep_565 : decode cL_isStep 565 = .ok (.aload_n 3, 1) := by decide +kernel
theorem dL_isStep_566 : decode cL_isStep 566 = .ok (.iload 12, 2) := by decide +kernel
theorem dL_isStep_568 : decode cL_isStep 568 = .ok (.iaload, 1) := by decide +kernel
theorem dL_isStep_569 : decode cL_isStep 569 = .ok (.iconst 3, 1) := by decide +kernel
theorem dL_isStep_570 : decode cL_isStep 570 = .ok (.idiv, 1) := by decide +kernel
theorem dL_isStep_571 : decode cL_isStep 571 = .ok (.aload_n 3, 1) := by decide +kernel
theorem dL_isStep_572 : decode cL_isStep 572 = .ok (.iload 12, 2) := by decide +kernel
theorem dL_isStep_574 : decode cL_isStep 574 = .ok (.iaload, 1) := by decide +kernel
theorem dL_isStep_575 : decode cL_isStep 575 = .ok (.iconst 3, 1) := by decide +kernel
theorem dL_isStep_576 : decode cL_isStep 576 = .ok (.irem, 1) := by decide +kernel
theorem dL_isStep_577 : decode cL_isStep 577 = .ok (.iload 15, 2) := by decide +kernel
theorem dL_isStep_579 : decode cL_isStep 579 = .ok (.invokestatic 94, 3) := by decide +kernel
theorem dL_isStep_582 : decode cL_isStep 582 = .ok (.istore 17, 2) := by decide +kernel
theorem dL_isStep_584 : decode cL_isStep 584 = .ok (.aload_n 1, 1) := by decide +kernel
theorem dL_isStep_585 : decode cL_isStep 585 = .ok (.aload_n 2, 1) := by decide +kernel
theorem dL_isStep_586 : decode cL_isStep 586 = .ok (.aload 4, 2) := by decide +kernel
theorem dL_isStep_588 : decode cL_isStep 588 = .ok (.iconst 2, 1) := by decide +kernel
theorem dL_isStep_589 : decode cL_isStep 589 = .ok (.iload 12, 2) := by decide +kernel
theorem dL_isStep_591 : decode cL_isStep 591 = .ok (.iconst (-1), 1) := by decide +kernel
theorem dL_isStep_592 : decode cL_isStep 592 = .ok (.iconst 0, 1) := by decide +kernel
theorem dL_isStep_593 : decode cL_isStep 593 = .ok (.invokestatic 141, 3) := by decide +kernel
theorem dL_isStep_596 : decode cL_isStep 596 = .ok (.aload_n 1, 1) := by decide +kernel
theorem dL_isStep_597 : decode cL_isStep 597 = .ok (.aload 4, 2) := by decide +kernel
theorem dL_isStep_599 : decode cL_isStep 599 = .ok (.iload 12, 2) := by decide +kernel
theorem dL_isStep_601 : decode cL_isStep 601 = .ok (.invokestatic 155, 3) := by decide +kernel
theorem dL_isStep_604 : decode cL_isStep 604 = .ok (.aload_n 1, 1) := by decide +kernel
theorem dL_isStep_605 : decode cL_isStep 605 = .ok (.aload_n 2, 1) := by decide +kernel
theorem dL_isStep_606 : decode cL_isStep 606 = .ok (.aload_n 3, 1) := by decide +kernel
theorem dL_isStep_607 : decode cL_isStep 607 = .ok (.aload 4, 2) := by decide +kernel
theorem dL_isStep_609 : decode cL_isStep 609 = .ok (.iload 9, 2) := by decide +kernel
theorem dL_isStep_611 : decode cL_isStep 611 = .ok (.iload 15, 2) := by decide +kernel
theorem dL_isStep_613 : decode cL_isStep 613 = .ok (.iload 17, 2) := by decide +kernel
theorem dL_isStep_615 : decode cL_isStep 615 = .ok (.iload 14, 2) := by decide +kernel
theorem dL_isStep_617 : decode cL_isStep 617 = .ok (.iconst 0, 1) := by decide +kernel
theorem dL_isStep_618 : decode cL_isStep 618 = .ok (.invokestatic 145, 3) := by decide +kernel
theorem dL_isStep_621 : decode cL_isStep 621 = .ok (.aload_n 0, 1) := by decide +kernel
theorem dL_isStep_622 : decode cL_isStep 622 = .ok (.iconst 2, 1) := by decide +kernel
theorem dL_isStep_623 : decode cL_isStep 623 = .ok (.iconst 0, 1) := by decide +kernel
theorem dL_isStep_624 : decode cL_isStep 624 = .ok (.iload 9, 2) := by decide +kernel
theorem dL_isStep_626 : decode cL_isStep 626 = .ok (.iload 15, 2) := by decide +kernel
theorem dL_isStep_628 : decode cL_isStep 628 = .ok (.iconst 0, 1) := by decide +kernel
theorem dL_isStep_629 : decode cL_isStep 629 = .ok (.iconst 0, 1) := by decide +kernel
theorem dL_isStep_630 : decode cL_isStep 630 = .ok (.invokestatic 149, 3) := by decide +kernel
theorem dL_isStep_633 : decode cL_isStep 633 = .ok (.iload 16, 2) := by decide +kernel
theorem dL_isStep_635 : decode cL_isStep 635 = .ok (.if_icmp .ne 7, 3) := by decide +kernel
theorem dL_isStep_638 : decode cL_isStep 638 = .ok (.iconst 1, 1) := by decide +kernel
theorem dL_isStep_639 : decode cL_isStep 639 = .ok (.goto 4, 3) := by decide +kernel
theorem dL_isStep_642 : decode cL_isStep 642 = .ok (.iconst 0, 1) := by decide +kernel
theorem dL_isStep_643 : decode cL_isStep 643 = .ok (.ireturn, 1) := by decide +kernel
theorem dL_isStep_644 : decode cL_isStep 644 = .ok (.iload 5, 2) := by decide +kernel
theorem dL_isStep_646 : decode cL_isStep 646 = .ok (.iconst 3, 1) := by decide +kernel
theorem dL_isStep_647 : decode cL_isStep 647 = .ok (.if_icmp .ne 265, 3) := by decide +kernel
theorem dL_isStep_650 : decode cL_isStep 650 = .ok (.iload 8, 2) := by decide +kernel
theorem dL_isStep_652 : decode cL_isStep 652 = .ok (.bipush 7, 2) := by decide +kernel
theorem dL_isStep_654 : decode cL_isStep 654 = .ok (.idiv, 1) := by decide +kernel
theorem dL_isStep_655 : decode cL_isStep 655 = .ok (.bipush 40, 2) := by decide +kernel
theorem dL_isStep_657 : decode cL_isStep 657 = .ok (.irem, 1) := by decide +kernel
theorem dL_isStep_658 : decode cL_isStep 658 = .ok (.ifCond .ne 8, 3) := by decide +kernel
theorem dL_isStep_661 : decode cL_isStep 661 = .ok (.bipush 101, 2) := by decide +kernel
theorem dL_isStep_663 : decode cL_isStep 663 = .ok (.goto 13, 3) := by decide +kernel
theorem dL_isStep_666 : decode cL_isStep 666 = .ok (.iconst 2, 1) := by decide +kernel
theorem dL_isStep_667 : decode cL_isStep 667 = .ok (.iload 8, 2) := by decide +kernel
theorem dL_isStep_669 : decode cL_isStep 669 = .ok (.bipush 7, 2) := by decide +kernel
theorem dL_isStep_671 : decode cL_isStep 671 = .ok (.idiv, 1) := by decide +kernel
theorem dL_isStep_672 : decode cL_isStep 672 = .ok (.bipush 30, 2) := by decide +kernel
theorem dL_isStep_674 : decode cL_isStep 674 = .ok (.irem, 1) := by decide +kernel
theorem dL_isStep_675 : decode cL_isStep 675 = .ok (.iadd, 1) := by decide +kernel
theorem dL_isStep_676 : decode cL_isStep 676 = .ok (.istore 15, 2) := by decide +kernel
theorem dL_isStep_678 : decode cL_isStep 678 = .ok (.aload_n 1, 1) := by decide +kernel
theorem dL_isStep_679 : decode cL_isStep 679 = .ok (.aload 4, 2) := by decide +kernel
theorem dL_isStep_681 : decode cL_isStep 681 = .ok (.aload 4, 2) := by decide +kernel
theorem dL_isStep_683 : decode cL_isStep 683 = .ok (.iconst 0, 1) := by decide +kernel
theorem dL_isStep_684 : decode cL_isStep 684 = .ok (.iaload, 1) := by decide +kernel
theorem dL_isStep_685 : decode cL_isStep 685 = .ok (.iload 11, 2) := by decide +kernel
theorem dL_isStep_687 : decode cL_isStep 687 = .ok (.invokestatic 123, 3) := by decide +kernel
theorem dL_isStep_690 : decode cL_isStep 690 = .ok (.istore 16, 2) := by decide +kernel
theorem dL_isStep_692 : decode cL_isStep 692 = .ok (.iload 10, 2) := by decide +kernel
theorem dL_isStep_694 : decode cL_isStep 694 = .ok (.bipush 26, 2) := by decide +kernel
theorem dL_isStep_696 : decode cL_isStep 696 = .ok (.if_icmp .ge 28, 3) := by decide +kernel
theorem dL_isStep_699 : decode cL_isStep 699 = .ok (.iload 11, 2) := by decide +kernel
theorem dL_isStep_701 : decode cL_isStep 701 = .ok (.bipush 26, 2) := by decide +kernel
theorem dL_isStep_703 : decode cL_isStep 703 = .ok (.if_icmp .ge 21, 3) := by decide +kernel
theorem dL_isStep_706 : decode cL_isStep 706 = .ok (.iload 10, 2) := by decide +kernel
theorem dL_isStep_708 : decode cL_isStep 708 = .ok (.iload 11, 2) := by decide +kernel
theorem dL_isStep_710 : decode cL_isStep 710 = .ok (.if_icmp .eq 14, 3) := by decide +kernel
theorem dL_isStep_713 : decode cL_isStep 713 = .ok (.iload 15, 2) := by decide +kernel
theorem dL_isStep_715 : decode cL_isStep 715 = .ok (.bipush 101, 2) := by decide +kernel
theorem dL_isStep_717 : decode cL_isStep 717 = .ok (.if_icmp .ge 7, 3) := by decide +kernel
theorem dL_isStep_720 : decode cL_isStep 720 = .ok (.iconst 1, 1) := by decide +kernel
theorem dL_isStep_721 : decode cL_isStep 721 = .ok (.goto 4, 3) := by decide +kernel
theorem dL_isStep_724 : decode cL_isStep 724 = .ok (.iconst 0, 1) := by decide +kernel
theorem dL_isStep_725 : decode cL_isStep 725 = .ok (.istore 17, 2) := by decide +kernel
theorem dL_isStep_727 : decode cL_isStep 727 = .ok (.iload 12, 2) := by decide +kernel
theorem dL_isStep_729 : decode cL_isStep 729 = .ok (.ifCond .lt 45, 3) := by decide +kernel
theorem dL_isStep_732 : decode cL_isStep 732 = .ok (.iload 17, 2) := by decide +kernel
theorem dL_isStep_734 : decode cL_isStep 734 = .ok (.ifCond .eq 40, 3) := by decide +kernel
theorem dL_isStep_737 : decode cL_isStep 737 = .ok (.aload_n 3, 1) := by decide +kernel
theorem dL_isStep_738 : decode cL_isStep 738 = .ok (.iload 12, 2) := by decide +kernel
theorem dL_isStep_740 : decode cL_isStep 740 = .ok (.iaload, 1) := by decide +kernel
theorem dL_isStep_741 : decode cL_isStep 741 = .ok (.iconst 3, 1) := by decide +kernel
theorem dL_isStep_742 : decode cL_isStep 742 = .ok (.irem, 1) := by decide +kernel
theorem dL_isStep_743 : decode cL_isStep 743 = .ok (.ifCond .ne 31, 3) := by decide +kernel
theorem dL_isStep_746 : decode cL_isStep 746 = .ok (.iload 13, 2) := by decide +kernel
theorem dL_isStep_748 : decode cL_isStep 748 = .ok (.ifCond .lt 10, 3) := by decide +kernel
theorem dL_isStep_751 : decode cL_isStep 751 = .ok (.iload 13, 2) := by decide +kernel
theorem dL_isStep_753 : decode cL_isStep 753 = .ok (.iload 12, 2) := by decide +kernel
theorem dL_isStep_755 : decode cL_isStep 755 = .ok (.if_icmp .ne 19, 3) := by decide +kernel
theorem dL_isStep_758 : decode cL_isStep 758 = .ok (.iload 16, 2) := by decide +kernel
theorem dL_isStep_760 : decode cL_isStep 760 = .ok (.ifCond .lt 10, 3) := by decide +kernel
theorem dL_isStep_763 : decode cL_isStep 763 = .ok (.iload 16, 2) := by decide +kernel
theorem dL_isStep_765 : decode cL_isStep 765 = .ok (.iload 12, 2) := by decide +kernel
theorem dL_isStep_767 : decode cL_isStep 767 = .ok (.if_icmp .ne 7, 3) := by decide +kernel
theorem dL_isStep_770 : decode cL_isStep 770 = .ok (.iconst 1, 1) := by decide +kernel
theorem dL_isStep_771 : decode cL_isStep 771 = .ok (.goto 4, 3) := by decide +kernel
theorem dL_isStep_774 : decode cL_isStep 774 = .ok (.iconst 0, 1) := by decide +kernel
theorem dL_isStep_775 : decode cL_isStep 775 = .ok (.istore 18, 2) := by decide +kernel
theorem dL_isStep_777 : decode cL_isStep 777 = .ok (.iload 12, 2) := by decide +kernel
theorem dL_isStep_779 : decode cL_isStep 779 = .ok (.ifCond .ge 9, 3) := by decide +kernel
theorem dL_isStep_782 : decode cL_isStep 782 = .ok (.sipush (-300), 3) := by decide +kernel
theorem dL_isStep_785 : decode cL_isStep 785 = .ok (.goto 28, 3) := by decide +kernel
theorem dL_isStep_788 : decode cL_isStep 788 = .ok (.iload 17, 2) := by decide +kernel
theorem dL_isStep_790 : decode cL_isStep 790 = .ok (.ifCond .ne 9, 3) := by decide +kernel
theorem dL_isStep_793 : decode cL_isStep 793 = .ok (.sipush (-200), 3) := by decide +kernel
theorem dL_isStep_796 : decode cL_isStep 796 = .ok (.goto 17, 3) := by decide +kernel
theorem dL_isStep_799 : decode cL_isStep 799 = .ok (.iload 18, 2) := by decide +kernel
theorem dL_isStep_801 : decode cL_isStep 801 = .ok (.ifCond .eq 10, 3) := by decide +kernel
theorem dL_isStep_804 : decode cL_isStep 804 = .ok (.aload 4, 2) := by decide +kernel
theorem dL_isStep_806 : decode cL_isStep 806 = .ok (.iconst 1, 1) := by decide +kernel
theorem dL_isStep_807 : decode cL_isStep 807 = .ok (.iaload, 1) := by decide +kernel
theorem dL_isStep_808 : decode cL_isStep 808 = .ok (.goto 5, 3) := by decide +kernel
theorem dL_isStep_811 : decode cL_isStep 811 = .ok (.bipush (-100), 2) := by decide +kernel
theorem dL_isStep_813 : decode cL_isStep 813 = .ok (.istore 19, 2) := by decide +kernel
theorem dL_isStep_815 : decode cL_isStep 815 = .ok (.iload 19, 2) := by decide +kernel
theorem dL_isStep_817 : decode cL_isStep 817 = .ok (.ifCond .lt 70, 3) := by decide +kernel
theorem dL_isStep_820 : decode cL_isStep 820 = .ok (.aload_n 3, 1) := by decide +kernel
theorem dL_isStep_821 : decode cL_isStep 821 = .ok (.iload 12, 2) := by decide +kernel
theorem dL_isStep_823 : decode cL_isStep 823 = .ok (.iaload, 1) := by decide +kernel
theorem dL_isStep_824 : decode cL_isStep 824 = .ok (.iconst 3, 1) := by decide +kernel
theorem dL_isStep_825 : decode cL_isStep 825 = .ok (.idiv, 1) := by decide +kernel
theorem dL_isStep_826 : decode cL_isStep 826 = .ok (.istore 20, 2) := by decide +kernel
theorem dL_isStep_828 : decode cL_isStep 828 = .ok (.aload_n 1, 1) := by decide +kernel
theorem dL_isStep_829 : decode cL_isStep 829 = .ok (.aload_n 2, 1) := by decide +kernel
theorem dL_isStep_830 : decode cL_isStep 830 = .ok (.aload 4, 2) := by decide +kernel
theorem dL_isStep_832 : decode cL_isStep 832 = .ok (.iconst 3, 1) := by decide +kernel
theorem dL_isStep_833 : decode cL_isStep 833 = .ok (.iload 12, 2) := by decide +kernel
theorem dL_isStep_835 : decode cL_isStep 835 = .ok (.iconst (-1), 1) := by decide +kernel
theorem dL_isStep_836 : decode cL_isStep 836 = .ok (.iload 15, 2) := by decide +kernel
theorem dL_isStep_838 : decode cL_isStep 838 = .ok (.invokestatic 141, 3) := by decide +kernel
theorem dL_isStep_841 : decode cL_isStep 841 = .ok (.aload_n 1, 1) := by decide +kernel
theorem dL_isStep_842 : decode cL_isStep 842 = .ok (.aload 4, 2) := by decide +kernel
theorem dL_isStep_844 : decode cL_isStep 844 = .ok (.iload 12, 2) := by decide +kernel
theorem dL_isStep_846 : decode cL_isStep 846 = .ok (.invokestatic 155, 3) := by decide +kernel
theorem dL_isStep_849 : decode cL_isStep 849 = .ok (.aload_n 1, 1) := by decide +kernel
theorem dL_isStep_850 : decode cL_isStep 850 = .ok (.aload_n 2, 1) := by decide +kernel
theorem dL_isStep_851 : decode cL_isStep 851 = .ok (.aload_n 3, 1) := by decide +kernel
theorem dL_isStep_852 : decode cL_isStep 852 = .ok (.aload 4, 2) := by decide +kernel
theorem dL_isStep_854 : decode cL_isStep 854 = .ok (.iload 10, 2) := by decide +kernel
theorem dL_isStep_856 : decode cL_isStep 856 = .ok (.iconst 0, 1) := by decide +kernel
theorem dL_isStep_857 : decode cL_isStep 857 = .ok (.iload 20, 2) := by decide +kernel
theorem dL_isStep_859 : decode cL_isStep 859 = .ok (.iload 15, 2) := by decide +kernel
theorem dL_isStep_861 : decode cL_isStep 861 = .ok (.idiv, 1) := by decide +kernel
theorem dL_isStep_862 : decode cL_isStep 862 = .ok (.iload 14, 2) := by decide +kernel
theorem dL_isStep_864 : decode cL_isStep 864 = .ok (.iconst 0, 1) := by decide +kernel
theorem dL_isStep_865 : decode cL_isStep 865 = .ok (.invokestatic 145, 3) := by decide +kernel
theorem dL_isStep_868 : decode cL_isStep 868 = .ok (.aload_n 1, 1) := by decide +kernel
theorem dL_isStep_869 : decode cL_isStep 869 = .ok (.aload_n 2, 1) := by decide +kernel
theorem dL_isStep_870 : decode cL_isStep 870 = .ok (.aload_n 3, 1) := by decide +kernel
theorem dL_isStep_871 : decode cL_isStep 871 = .ok (.aload 4, 2) := by decide +kernel
theorem dL_isStep_873 : decode cL_isStep 873 = .ok (.iload 11, 2) := by decide +kernel
theorem dL_isStep_875 : decode cL_isStep 875 = .ok (.iconst 0, 1) := by decide +kernel
theorem dL_isStep_876 : decode cL_isStep 876 = .ok (.iload 20, 2) := by decide +kernel
theorem dL_isStep_878 : decode cL_isStep 878 = .ok (.iload 15, 2) := by decide +kernel
theorem dL_isStep_880 : decode cL_isStep 880 = .ok (.irem, 1) := by decide +kernel
theorem dL_isStep_881 : decode cL_isStep 881 = .ok (.iload 14, 2) := by decide +kernel
theorem dL_isStep_883 : decode cL_isStep 883 = .ok (.iconst 1, 1) := by decide +kernel
theorem dL_isStep_884 : decode cL_isStep 884 = .ok (.invokestatic 145, 3) := by decide +kernel
theorem dL_isStep_887 : decode cL_isStep 887 = .ok (.aload_n 0, 1) := by decide +kernel
theorem dL_isStep_888 : decode cL_isStep 888 = .ok (.iconst 3, 1) := by decide +kernel
theorem dL_isStep_889 : decode cL_isStep 889 = .ok (.iconst 0, 1) := by decide +kernel
theorem dL_isStep_890 : decode cL_isStep 890 = .ok (.iload 9, 2) := by decide +kernel
theorem dL_isStep_892 : decode cL_isStep 892 = .ok (.iload 10, 2) := by decide +kernel
theorem dL_isStep_894 : decode cL_isStep 894 = .ok (.iload 11, 2) := by decide +kernel
theorem dL_isStep_896 : decode cL_isStep 896 = .ok (.iload 15, 2) := by decide +kernel
theorem dL_isStep_898 : decode cL_isStep 898 = .ok (.invokestatic 149, 3) := by decide +kernel
theorem dL_isStep_901 : decode cL_isStep 901 = .ok (.iload 19, 2) := by decide +kernel
theorem dL_isStep_903 : decode cL_isStep 903 = .ok (.if_icmp .ne 7, 3) := by decide +kernel
theorem dL_isStep_906 : decode cL_isStep 906 = .ok (.iconst 1, 1) := by decide +kernel
theorem dL_isStep_907 : decode cL_isStep 907 = .ok (.goto 4, 3) := by decide +kernel
theorem dL_isStep_910 : decode cL_isStep 910 = .ok (.iconst 0, 1) := by decide +kernel
theorem dL_isStep_911 : decode cL_isStep 911 = .ok (.ireturn, 1) := by decide +kernel
theorem dL_isStep_912 : decode cL_isStep 912 = .ok (.iload 5, 2) := by decide +kernel
theorem dL_isStep_914 : decode cL_isStep 914 = .ok (.iconst 4, 1) := by decide +kernel
theorem dL_isStep_915 : decode cL_isStep 915 = .ok (.if_icmp .ne 298, 3) := by decide +kernel
theorem dL_isStep_918 : decode cL_isStep 918 = .ok (.iload 8, 2) := by decide +kernel
theorem dL_isStep_920 : decode cL_isStep 920 = .ok (.bipush 7, 2) := by decide +kernel
theorem dL_isStep_922 : decode cL_isStep 922 = .ok (.idiv, 1) := by decide +kernel
theorem dL_isStep_923 : decode cL_isStep 923 = .ok (.bipush 40, 2) := by decide +kernel
theorem dL_isStep_925 : decode cL_isStep 925 = .ok (.irem, 1) := by decide +kernel
theorem dL_isStep_926 : decode cL_isStep 926 = .ok (.ifCond .ne 7, 3) := by decide +kernel
theorem dL_isStep_929 : decode cL_isStep 929 = .ok (.iconst 1, 1) := by decide +kernel
theorem dL_isStep_930 : decode cL_isStep 930 = .ok (.goto 13, 3) := by decide +kernel
theorem dL_isStep_933 : decode cL_isStep 933 = .ok (.iconst 2, 1) := by decide +kernel
theorem dL_isStep_934 : decode cL_isStep 934 = .ok (.iload 8, 2) := by decide +kernel
theorem dL_isStep_936 : decode cL_isStep 936 = .ok (.bipush 7, 2) := by decide +kernel
theorem dL_isStep_938 : decode cL_isStep 938 = .ok (.idiv, 1) := by decide +kernel
theorem dL_isStep_939 : decode cL_isStep 939 = .ok (.bipush 30, 2) := by decide +kernel
theorem dL_isStep_941 : decode cL_isStep 941 = .ok (.irem, 1) := by decide +kernel
theorem dL_isStep_942 : decode cL_isStep 942 = .ok (.iadd, 1) := by decide +kernel
theorem dL_isStep_943 : decode cL_isStep 943 = .ok (.istore 15, 2) := by decide +kernel
theorem dL_isStep_945 : decode cL_isStep 945 = .ok (.aload_n 1, 1) := by decide +kernel
theorem dL_isStep_946 : decode cL_isStep 946 = .ok (.aload 4, 2) := by decide +kernel
theorem dL_isStep_948 : decode cL_isStep 948 = .ok (.aload 4, 2) := by decide +kernel
theorem dL_isStep_950 : decode cL_isStep 950 = .ok (.iconst 0, 1) := by decide +kernel
theorem dL_isStep_951 : decode cL_isStep 951 = .ok (.iaload, 1) := by decide +kernel
theorem dL_isStep_952 : decode cL_isStep 952 = .ok (.iload 11, 2) := by decide +kernel
theorem dL_isStep_954 : decode cL_isStep 954 = .ok (.invokestatic 123, 3) := by decide +kernel
theorem dL_isStep_957 : decode cL_isStep 957 = .ok (.istore 16, 2) := by decide +kernel
theorem dL_isStep_959 : decode cL_isStep 959 = .ok (.iload 12, 2) := by decide +kernel
theorem dL_isStep_961 : decode cL_isStep 961 = .ok (.ifCond .lt 12, 3) := by decide +kernel
theorem dL_isStep_964 : decode cL_isStep 964 = .ok (.iload 13, 2) := by decide +kernel
theorem dL_isStep_966 : decode cL_isStep 966 = .ok (.ifCond .lt 7, 3) := by decide +kernel
theorem dL_isStep_969 : decode cL_isStep 969 = .ok (.iconst 1, 1) := by decide +kernel
theorem dL_isStep_970 : decode cL_isStep 970 = .ok (.goto 4, 3) := by decide +kernel
theorem dL_isStep_973 : decode cL_isStep 973 = .ok (.iconst 0, 1) := by decide +kernel
theorem dL_isStep_974 : decode cL_isStep 974 = .ok (.istore 17, 2) := by decide +kernel
theorem dL_isStep_976 : decode cL_isStep 976 = .ok (.iload 11, 2) := by decide +kernel
theorem dL_isStep_978 : decode cL_isStep 978 = .ok (.bipush 26, 2) := by decide +kernel
theorem dL_isStep_980 : decode cL_isStep 980 = .ok (.if_icmp .ge 20, 3) := by decide +kernel
theorem dL_isStep_983 : decode cL_isStep 983 = .ok (.iload 12, 2) := by decide +kernel
theorem dL_isStep_985 : decode cL_isStep 985 = .ok (.iload 13, 2) := by decide +kernel
theorem dL_isStep_987 : decode cL_isStep 987 = .ok (.if_icmp .eq 13, 3) := by decide +kernel
theorem dL_isStep_990 : decode cL_isStep 990 = .ok (.iload 15, 2) := by decide +kernel
theorem dL_isStep_992 : decode cL_isStep 992 = .ok (.iconst 1, 1) := by decide +kernel
theorem dL_isStep_993 : decode cL_isStep 993 = .ok (.if_icmp .le 7, 3) := by decide +kernel
theorem dL_isStep_996 : decode cL_isStep 996 = .ok (.iconst 1, 1) := by decide +kernel
theorem dL_isStep_997 : decode cL_isStep 997 = .ok (.goto 4, 3) := by decide +kernel
theorem dL_isStep_1000 : decode cL_isStep 1000 = .ok (.iconst 0, 1) := by decide +kernel
theorem dL_isStep_1001 : decode cL_isStep 1001 = .ok (.istore 18, 2) := by decide +kernel
theorem dL_isStep_1003 : decode cL_isStep 1003 = .ok (.iload 17, 2) := by decide +kernel
theorem dL_isStep_1005 : decode cL_isStep 1005 = .ok (.ifCond .eq 47, 3) := by decide +kernel
theorem dL_isStep_1008 : decode cL_isStep 1008 = .ok (.iload 18, 2) := by decide +kernel
theorem dL_isStep_1010 : decode cL_isStep 1010 = .ok (.ifCond .eq 42, 3) := by decide +kernel
theorem dL_isStep_1013 : decode cL_isStep 1013 = .ok (.aload_n 3, 1) := by decide +kernel
theorem dL_isStep_1014 : decode cL_isStep 1014 = .ok (.iload 12, 2) := by decide +kernel
theorem dL_isStep_1016 : decode cL_isStep 1016 = .ok (.iaload, 1) := by decide +kernel
theorem dL_isStep_1017 : decode cL_isStep 1017 = .ok (.iconst 3, 1) := by decide +kernel
theorem dL_isStep_1018 : decode cL_isStep 1018 = .ok (.irem, 1) := by decide +kernel
theorem dL_isStep_1019 : decode cL_isStep 1019 = .ok (.aload_n 3, 1) := by decide +kernel
theorem dL_isStep_1020 : decode cL_isStep 1020 = .ok (.iload 13, 2) := by decide +kernel
theorem dL_isStep_1022 : decode cL_isStep 1022 = .ok (.iaload, 1) := by decide +kernel
theorem dL_isStep_1023 : decode cL_isStep 1023 = .ok (.iconst 3, 1) := by decide +kernel
theorem dL_isStep_1024 : decode cL_isStep 1024 = .ok (.irem, 1) := by decide +kernel
theorem dL_isStep_1025 : decode cL_isStep 1025 = .ok (.iadd, 1) := by decide +kernel
theorem dL_isStep_1026 : decode cL_isStep 1026 = .ok (.ifCond .ne 26, 3) := by decide +kernel
theorem dL_isStep_1029 : decode cL_isStep 1029 = .ok (.iload 16, 2) := by decide +kernel
theorem dL_isStep_1031 : decode cL_isStep 1031 = .ok (.ifCond .lt 17, 3) := by decide +kernel
theorem dL_isStep_1034 : decode cL_isStep 1034 = .ok (.iload 16, 2) := by decide +kernel
theorem dL_isStep_1036 : decode cL_isStep 1036 = .ok (.iload 12, 2) := by decide +kernel
theorem dL_isStep_1038 : decode cL_isStep 1038 = .ok (.if_icmp .eq 10, 3) := by decide +kernel
theorem dL_isStep_1041 : decode cL_isStep 1041 = .ok (.iload 16, 2) := by decide +kernel
theorem dL_isStep_1043 : decode cL_isStep 1043 = .ok (.iload 13, 2) := by decide +kernel
theorem dL_isStep_1045 : decode cL_isStep 1045 = .ok (.if_icmp .ne 7, 3) := by decide +kernel
theorem dL_isStep_1048 : decode cL_isStep 1048 = .ok (.iconst 1, 1) := by decide +kernel
theorem dL_isStep_1049 : decode cL_isStep 1049 = .ok (.goto 4, 3) := by decide +kernel
theorem dL_isStep_1052 : decode cL_isStep 1052 = .ok (.iconst 0, 1) := by decide +kernel
theorem dL_isStep_1053 : decode cL_isStep 1053 = .ok (.istore 19, 2) := by decide +kernel
theorem dL_isStep_1055 : decode cL_isStep 1055 = .ok (.iload 17, 2) := by decide +kernel
theorem dL_isStep_1057 : decode cL_isStep 1057 = .ok (.ifCond .ne 9, 3) := by decide +kernel
theorem dL_isStep_1060 : decode cL_isStep 1060 = .ok (.sipush (-300), 3) := by decide +kernel
theorem dL_isStep_1063 : decode cL_isStep 1063 = .ok (.goto 28, 3) := by decide +kernel
theorem dL_isStep_1066 : decode cL_isStep 1066 = .ok (.iload 18, 2) := by decide +kernel
theorem dL_isStep_1068 : decode cL_isStep 1068 = .ok (.ifCond .ne 9, 3) := by decide +kernel
theorem dL_isStep_1071 : decode cL_isStep 1071 = .ok (.sipush (-200), 3) := by decide +kernel
theorem dL_isStep_1074 : decode cL_isStep 1074 = .ok (.goto 17, 3) := by decide +kernel
theorem dL_isStep_1077 : decode cL_isStep 1077 = .ok (.iload 19, 2) := by decide +kernel
theorem dL_isStep_1079 : decode cL_isStep 1079 = .ok (.ifCond .eq 10, 3) := by decide +kernel
theorem dL_isStep_1082 : decode cL_isStep 1082 = .ok (.aload 4, 2) := by decide +kernel
theorem dL_isStep_1084 : decode cL_isStep 1084 = .ok (.iconst 1, 1) := by decide +kernel
theorem dL_isStep_1085 : decode cL_isStep 1085 = .ok (.iaload, 1) := by decide +kernel
theorem dL_isStep_1086 : decode cL_isStep 1086 = .ok (.goto 5, 3) := by decide +kernel
theorem dL_isStep_1089 : decode cL_isStep 1089 = .ok (.bipush (-100), 2) := by decide +kernel
theorem dL_isStep_1091 : decode cL_isStep 1091 = .ok (.istore 20, 2) := by decide +kernel
theorem dL_isStep_1093 : decode cL_isStep 1093 = .ok (.iload 20, 2) := by decide +kernel
theorem dL_isStep_1095 : decode cL_isStep 1095 = .ok (.ifCond .lt 93, 3) := by decide +kernel
theorem dL_isStep_1098 : decode cL_isStep 1098 = .ok (.iload 14, 2) := by decide +kernel
theorem dL_isStep_1100 : decode cL_isStep 1100 = .ok (.ifCond .ne 16, 3) := by decide +kernel
theorem dL_isStep_1103 : decode cL_isStep 1103 = .ok (.aload_n 1, 1) := by decide +kernel
theorem dL_isStep_1104 : decode cL_isStep 1104 = .ok (.aload 4, 2) := by decide +kernel
theorem dL_isStep_1106 : decode cL_isStep 1106 = .ok (.iconst 0, 1) := by decide +kernel
theorem dL_isStep_1107 : decode cL_isStep 1107 = .ok (.iaload, 1) := by decide +kernel
theorem dL_isStep_1108 : decode cL_isStep 1108 = .ok (.iload 13, 2) := by decide +kernel
theorem dL_isStep_1110 : decode cL_isStep 1110 = .ok (.invokestatic 103, 3) := by decide +kernel
theorem dL_isStep_1113 : decode cL_isStep 1113 = .ok (.ifCond .eq 7, 3) := by decide +kernel
theorem dL_isStep_1116 : decode cL_isStep 1116 = .ok (.iconst 1, 1) := by decide +kernel
theorem dL_isStep_1117 : decode cL_isStep 1117 = .ok (.goto 4, 3) := by decide +kernel
theorem dL_isStep_1120 : decode cL_isStep 1120 = .ok (.iconst 0, 1) := by decide +kernel
theorem dL_isStep_1121 : decode cL_isStep 1121 = .ok (.istore 21, 2) := by decide +kernel
theorem dL_isStep_1123 : decode cL_isStep 1123 = .ok (.aload_n 3, 1) := by decide +kernel
theorem dL_isStep_1124 : decode cL_isStep 1124 = .ok (.iload 12, 2) := by decide +kernel
theorem dL_isStep_1126 : decode cL_isStep 1126 = .ok (.iaload, 1) := by decide +kernel
theorem dL_isStep_1127 : decode cL_isStep 1127 = .ok (.iconst 3, 1) := by decide +kernel
theorem dL_isStep_1128 : decode cL_isStep 1128 = .ok (.idiv, 1) := by decide +kernel
theorem dL_isStep_1129 : decode cL_isStep 1129 = .ok (.aload_n 3, 1) := by decide +kernel
theorem dL_isStep_1130 : decode cL_isStep 1130 = .ok (.iload 13, 2) := by decide +kernel
theorem dL_isStep_1132 : decode cL_isStep 1132 = .ok (.iaload, 1) := by decide +kernel
theorem dL_isStep_1133 : decode cL_isStep 1133 = .ok (.iconst 3, 1) := by decide +kernel
theorem dL_isStep_1134 : decode cL_isStep 1134 = .ok (.idiv, 1) := by decide +kernel
theorem dL_isStep_1135 : decode cL_isStep 1135 = .ok (.iload 15, 2) := by decide +kernel
theorem dL_isStep_1137 : decode cL_isStep 1137 = .ok (.invokestatic 100, 3) := by decide +kernel
theorem dL_isStep_1140 : decode cL_isStep 1140 = .ok (.istore 22, 2) := by decide +kernel
theorem dL_isStep_1142 : decode cL_isStep 1142 = .ok (.aload_n 1, 1) := by decide +kernel
theorem dL_isStep_1143 : decode cL_isStep 1143 = .ok (.aload_n 2, 1) := by decide +kernel
theorem dL_isStep_1144 : decode cL_isStep 1144 = .ok (.aload 4, 2) := by decide +kernel
theorem dL_isStep_1146 : decode cL_isStep 1146 = .ok (.iconst 4, 1) := by decide +kernel
theorem dL_isStep_1147 : decode cL_isStep 1147 = .ok (.iload 12, 2) := by decide +kernel
theorem dL_isStep_1149 : decode cL_isStep 1149 = .ok (.iload 13, 2) := by decide +kernel
theorem dL_isStep_1151 : decode cL_isStep 1151 = .ok (.iload 15, 2) := by decide +kernel
theorem dL_isStep_1153 : decode cL_isStep 1153 = .ok (.invokestatic 141, 3) := by decide +kernel
theorem dL_isStep_1156 : decode cL_isStep 1156 = .ok (.aload_n 1, 1) := by decide +kernel
theorem dL_isStep_1157 : decode cL_isStep 1157 = .ok (.aload 4, 2) := by decide +kernel
theorem dL_isStep_1159 : decode cL_isStep 1159 = .ok (.iload 12, 2) := by decide +kernel
theorem dL_isStep_1161 : decode cL_isStep 1161 = .ok (.invokestatic 155, 3) := by decide +kernel
theorem dL_isStep_1164 : decode cL_isStep 1164 = .ok (.aload_n 1, 1) := by decide +kernel
theorem dL_isStep_1165 : decode cL_isStep 1165 = .ok (.aload 4, 2) := by decide +kernel
theorem dL_isStep_1167 : decode cL_isStep 1167 = .ok (.iload 13, 2) := by decide +kernel
theorem dL_isStep_1169 : decode cL_isStep 1169 = .ok (.invokestatic 155, 3) := by decide +kernel
theorem dL_isStep_1172 : decode cL_isStep 1172 = .ok (.aload_n 1, 1) := by decide +kernel
theorem dL_isStep_1173 : decode cL_isStep 1173 = .ok (.aload_n 2, 1) := by decide +kernel
theorem dL_isStep_1174 : decode cL_isStep 1174 = .ok (.aload_n 3, 1) := by decide +kernel
theorem dL_isStep_1175 : decode cL_isStep 1175 = .ok (.aload 4, 2) := by decide +kernel
theorem dL_isStep_1177 : decode cL_isStep 1177 = .ok (.iload 11, 2) := by decide +kernel
theorem dL_isStep_1179 : decode cL_isStep 1179 = .ok (.iconst 0, 1) := by decide +kernel
theorem dL_isStep_1180 : decode cL_isStep 1180 = .ok (.iload 22, 2) := by decide +kernel
theorem dL_isStep_1182 : decode cL_isStep 1182 = .ok (.iload 21, 2) := by decide +kernel
theorem dL_isStep_1184 : decode cL_isStep 1184 = .ok (.iconst 0, 1) := by decide +kernel
theorem dL_isStep_1185 : decode cL_isStep 1185 = .ok (.invokestatic 145, 3) := by decide +kernel
theorem dL_isStep_1188 : decode cL_isStep 1188 = .ok (.aload_n 0, 1) := by decide +kernel
theorem dL_isStep_1189 : decode cL_isStep 1189 = .ok (.iconst 4, 1) := by decide +kernel
theorem dL_isStep_1190 : decode cL_isStep 1190 = .ok (.iconst 0, 1) := by decide +kernel
theorem dL_isStep_1191 : decode cL_isStep 1191 = .ok (.iload 9, 2) := by decide +kernel
theorem dL_isStep_1193 : decode cL_isStep 1193 = .ok (.iload 10, 2) := by decide +kernel
theorem dL_isStep_1195 : decode cL_isStep 1195 = .ok (.iload 11, 2) := by decide +kernel
theorem dL_isStep_1197 : decode cL_isStep 1197 = .ok (.iload 15, 2) := by decide +kernel
theorem dL_isStep_1199 : decode cL_isStep 1199 = .ok (.invokestatic 149, 3) := by decide +kernel
theorem dL_isStep_1202 : decode cL_isStep 1202 = .ok (.iload 20, 2) := by decide +kernel
theorem dL_isStep_1204 : decode cL_isStep 1204 = .ok (.if_icmp .ne 7, 3) := by decide +kernel
theorem dL_isStep_1207 : decode cL_isStep 1207 = .ok (.iconst 1, 1) := by decide +kernel
theorem dL_isStep_1208 : decode cL_isStep 1208 = .ok (.goto 4, 3) := by decide +kernel
theorem dL_isStep_1211 : decode cL_isStep 1211 = .ok (.iconst 0, 1) := by decide +kernel
theorem dL_isStep_1212 : decode cL_isStep 1212 = .ok (.ireturn, 1) := by decide +kernel
theorem dL_isStep_1213 : decode cL_isStep 1213 = .ok (.iload 12, 2) := by decide +kernel
theorem dL_isStep_1215 : decode cL_isStep 1215 = .ok (.ifCond .ge 9, 3) := by decide +kernel
theorem dL_isStep_1218 : decode cL_isStep 1218 = .ok (.sipush (-300), 3) := by decide +kernel
theorem dL_isStep_1221 : decode cL_isStep 1221 = .ok (.goto 19, 3) := by decide +kernel
theorem dL_isStep_1224 : decode cL_isStep 1224 = .ok (.iload 5, 2) := by decide +kernel
theorem dL_isStep_1226 : decode cL_isStep 1226 = .ok (.iconst 5, 1) := by decide +kernel
theorem dL_isStep_1227 : decode cL_isStep 1227 = .ok (.if_icmp .eq 8, 3) := by decide +kernel
theorem dL_isStep_1230 : decode cL_isStep 1230 = .ok (.iload 14, 2) := by decide +kernel
theorem dL_isStep_1232 : decode cL_isStep 1232 = .ok (.ifCond .ne 7, 3) := by decide +kernel
theorem dL_isStep_1235 : decode cL_isStep 1235 = .ok (.iconst 1, 1) := by decide +kernel
theorem dL_isStep_1236 : decode cL_isStep 1236 = .ok (.goto 4, 3) := by decide +kernel
theorem dL_isStep_1239 : decode cL_isStep 1239 = .ok (.iconst 0, 1) := by decide +kernel
theorem dL_isStep_1240 : decode cL_isStep 1240 = .ok (.istore 15, 2) := by decide +kernel
theorem dL_isStep_1242 : decode cL_isStep 1242 = .ok (.iload 15, 2) := by decide +kernel
theorem dL_isStep_1244 : decode cL_isStep 1244 = .ok (.ifCond .lt 68, 3) := by decide +kernel
theorem dL_isStep_1247 : decode cL_isStep 1247 = .ok (.aload_n 1, 1) := by decide +kernel
theorem dL_isStep_1248 : decode cL_isStep 1248 = .ok (.aload_n 2, 1) := by decide +kernel
theorem dL_isStep_1249 : decode cL_isStep 1249 = .ok (.aload 4, 2) := by decide +kernel
theorem dL_isStep_1251 : decode cL_isStep 1251 = .ok (.iload 5, 2) := by decide +kernel
theorem dL_isStep_1253 : decode cL_isStep 1253 = .ok (.iload 12, 2) := by decide +kernel
theorem dL_isStep_1255 : decode cL_isStep 1255 = .ok (.iconst (-1), 1) := by decide +kernel
theorem dL_isStep_1256 : decode cL_isStep 1256 = .ok (.iconst 0, 1) := by decide +kernel
theorem dL_isStep_1257 : decode cL_isStep 1257 = .ok (.invokestatic 141, 3) := by decide +kernel
theorem dL_isStep_1260 : decode cL_isStep 1260 = .ok (.iload 5, 2) := by decide +kernel
theorem dL_isStep_1262 : decode cL_isStep 1262 = .ok (.iconst 5, 1) := by decide +kernel
theorem dL_isStep_1263 : decode cL_isStep 1263 = .ok (.if_icmp .ne 14, 3) := by decide +kernel
theorem dL_isStep_1266 : decode cL_isStep 1266 = .ok (.aload_n 1, 1) := by decide +kernel
theorem dL_isStep_1267 : decode cL_isStep 1267 = .ok (.aload 4, 2) := by decide +kernel
theorem dL_isStep_1269 : decode cL_isStep 1269 = .ok (.iload 12, 2) := by decide +kernel
theorem dL_isStep_1271 : decode cL_isStep 1271 = .ok (.invokestatic 155, 3) := by decide +kernel
theorem dL_isStep_1274 : decode cL_isStep 1274 = .ok (.goto 38, 3) := by decide +kernel
theorem dL_isStep_1277 : decode cL_isStep 1277 = .ok (.aload_n 1, 1) := by decide +kernel
theorem dL_isStep_1278 : decode cL_isStep 1278 = .ok (.aload 4, 2) := by decide +kernel
theorem dL_isStep_1280 : decode cL_isStep 1280 = .ok (.iconst 0, 1) := by decide +kernel
theorem dL_isStep_1281 : decode cL_isStep 1281 = .ok (.iaload, 1) := by decide +kernel
theorem dL_isStep_1282 : decode cL_isStep 1282 = .ok (.dup2, 1) := by decide +kernel
theorem dL_isStep_1283 : decode cL_isStep 1283 = .ok (.laload, 1) := by decide +kernel
theorem dL_isStep_1284 : decode cL_isStep 1284 = .ok (.ldc2_w 153, 3) := by decide +kernel
theorem dL_isStep_1287 : decode cL_isStep 1287 = .ok (.bipush 6, 2) := by decide +kernel
theorem dL_isStep_1289 : decode cL_isStep 1289 = .ok (.iload 12, 2) := by decide +kernel
theorem dL_isStep_1291 : decode cL_isStep 1291 = .ok (.imul, 1) := by decide +kernel
theorem dL_isStep_1292 : decode cL_isStep 1292 = .ok (.lshl, 1) := by decide +kernel
theorem dL_isStep_1293 : decode cL_isStep 1293 = .ok (.lxor, 1) := by decide +kernel
theorem dL_isStep_1294 : decode cL_isStep 1294 = .ok (.lastore, 1) := by decide +kernel
theorem dL_isStep_1295 : decode cL_isStep 1295 = .ok (.aload_n 2, 1) := by decide +kernel
theorem dL_isStep_1296 : decode cL_isStep 1296 = .ok (.aload 4, 2) := by decide +kernel
theorem dL_isStep_1298 : decode cL_isStep 1298 = .ok (.iconst 0, 1) := by decide +kernel
theorem dL_isStep_1299 : decode cL_isStep 1299 = .ok (.iaload, 1) := by decide +kernel
theorem dL_isStep_1300 : decode cL_isStep 1300 = .ok (.dup2, 1) := by decide +kernel
theorem dL_isStep_1301 : decode cL_isStep 1301 = .ok (.iaload, 1) := by decide +kernel
theorem dL_isStep_1302 : decode cL_isStep 1302 = .ok (.sipush 2048, 3) := by decide +kernel
theorem dL_isStep_1305 : decode cL_isStep 1305 = .ok (.iload 12, 2) := by decide +kernel
theorem dL_isStep_1307 : decode cL_isStep 1307 = .ok (.iconst 1, 1) := by decide +kernel
theorem dL_isStep_1308 : decode cL_isStep 1308 = .ok (.iadd, 1) := by decide +kernel
theorem dL_isStep_1309 : decode cL_isStep 1309 = .ok (.imul, 1) := by decide +kernel
theorem dL_isStep_1310 : decode cL_isStep 1310 = .ok (.iadd, 1) := by decide +kernel
theorem dL_isStep_1311 : decode cL_isStep 1311 = .ok (.iastore, 1) := by decide +kernel
theorem dL_isStep_1312 : decode cL_isStep 1312 = .ok (.aload_n 0, 1) := by decide +kernel
theorem dL_isStep_1313 : decode cL_isStep 1313 = .ok (.iload 5, 2) := by decide +kernel
theorem dL_isStep_1315 : decode cL_isStep 1315 = .ok (.iconst 0, 1) := by decide +kernel
theorem dL_isStep_1316 : decode cL_isStep 1316 = .ok (.iload 9, 2) := by decide +kernel
theorem dL_isStep_1318 : decode cL_isStep 1318 = .ok (.iconst 0, 1) := by decide +kernel
theorem dL_isStep_1319 : decode cL_isStep 1319 = .ok (.iconst 0, 1) := by decide +kernel
theorem dL_isStep_1320 : decode cL_isStep 1320 = .ok (.iconst 0, 1) := by decide +kernel
theorem dL_isStep_1321 : decode cL_isStep 1321 = .ok (.invokestatic 149, 3) := by decide +kernel
theorem dL_isStep_1324 : decode cL_isStep 1324 = .ok (.iload 15, 2) := by decide +kernel
theorem dL_isStep_1326 : decode cL_isStep 1326 = .ok (.if_icmp .ne 7, 3) := by decide +kernel
theorem dL_isStep_1329 : decode cL_isStep 1329 = .ok (.iconst 1, 1) := by decide +kernel
theorem dL_isStep_1330 : decode cL_isStep 1330 = .ok (.goto 4, 3) := by decide +kernel
theorem dL_isStep_1333 : decode cL_isStep 1333 = .ok (.iconst 0, 1) := by decide +kernel
theorem dL_isStep_1334 : decode cL_isStep 1334 = .ok (.ireturn, 1) := by decide +kernel
theorem dL_isSet_0 : decode cL_isSet 0 = .ok (.iload 7, 2) := by decide +kernel
theorem dL_isSet_2 : decode cL_isSet 2 = .ok (.aload_n 3, 1) := by decide +kernel
theorem dL_isSet_3 : decode cL_isSet 3 = .ok (.iconst 2, 1) := by decide +kernel
theorem dL_isSet_4 : decode cL_isSet 4 = .ok (.iaload, 1) := by decide +kernel
theorem dL_isSet_5 : decode cL_isSet 5 = .ok (.if_icmp .ge 20, 3) := by decide +kernel
theorem dL_isSet_8 : decode cL_isSet 8 = .ok (.aload_n 1, 1) := by decide +kernel
theorem dL_isSet_9 : decode cL_isSet 9 = .ok (.aload_n 3, 1) := by decide +kernel
theorem dL_isSet_10 : decode cL_isSet 10 = .ok (.aload 5, 2) := by decide +kernel
theorem dL_isSet_12 : decode cL_isSet 12 = .ok (.iconst 2, 1) := by decide +kernel
theorem dL_isSet_13 : decode cL_isSet 13 = .ok (.iload 7, 2) := by decide +kernel
theorem dL_isSet_15 : decode cL_isSet 15 = .ok (.imul, 1) := by decide +kernel
theorem dL_isSet_16 : decode cL_isSet 16 = .ok (.iaload, 1) := by decide +kernel
theorem dL_isSet_17 : decode cL_isSet 17 = .ok (.iload 8, 2) := by decide +kernel
theorem dL_isSet_19 : decode cL_isSet 19 = .ok (.invokestatic 123, 3) := by decide +kernel
theorem dL_isSet_22 : decode cL_isSet 22 = .ok (.goto 4, 3) := by decide +kernel
theorem dL_isSet_25 : decode cL_isSet 25 = .ok (.iconst (-1), 1) := by decide +kernel
theorem dL_isSet_26 : decode cL_isSet 26 = .ok (.istore 10, 2) := by decide +kernel
theorem dL_isSet_28 : decode cL_isSet 28 = .ok (.iload 10, 2) := by decide +kernel
theorem dL_isSet_30 : decode cL_isSet 30 = .ok (.ifCond .ge 7, 3) := by decide +kernel
theorem dL_isSet_33 : decode cL_isSet 33 = .ok (.iconst 0, 1) := by decide +kernel
theorem dL_isSet_34 : decode cL_isSet 34 = .ok (.goto 35, 3) := by decide +kernel
theorem dL_isSet_37 : decode cL_isSet 37 = .ok (.aload_n 2, 1) := by decide +kernel
theorem dL_isSet_38 : decode cL_isSet 38 = .ok (.iload 10, 2) := by decide +kernel
theorem dL_isSet_40 : decode cL_isSet 40 = .ok (.iaload, 1) := by decide +kernel
theorem dL_isSet_41 : decode cL_isSet 41 = .ok (.iconst 3, 1) := by decide +kernel
theorem dL_isSet_42 : decode cL_isSet 42 = .ok (.irem, 1) := by decide +kernel
theorem dL_isSet_43 : decode cL_isSet 43 = .ok (.ifCond .ne 9, 3) := by decide +kernel
theorem dL_isSet_46 : decode cL_isSet 46 = .ok (.sipush 9999, 3) := by decide +kernel
theorem dL_isSet_49 : decode cL_isSet 49 = .ok (.goto 20, 3) := by decide +kernel
theorem dL_isSet_52 : decode cL_isSet 52 = .ok (.aload_n 2, 1) := by decide +kernel
theorem dL_isSet_53 : decode cL_isSet 53 = .ok (.iload 10, 2) := by decide +kernel
theorem dL_isSet_55 : decode cL_isSet 55 = .ok (.iaload, 1) := by decide +kernel
theorem dL_isSet_56 : decode cL_isSet 56 = .ok (.iconst 3, 1) := by decide +kernel
theorem dL_isSet_57 : decode cL_isSet 57 = .ok (.irem, 1) := by decide +kernel
theorem dL_isSet_58 : decode cL_isSet 58 = .ok (.iconst 1, 1) := by decide +kernel
theorem dL_isSet_59 : decode cL_isSet 59 = .ok (.if_icmp .ne 7, 3) := by decide +kernel
theorem dL_isSet_62 : decode cL_isSet 62 = .ok (.iconst 1, 1) := by decide +kernel
theorem dL_isSet_63 : decode cL_isSet 63 = .ok (.goto 6, 3) := by decide +kernel
theorem dL_isSet_66 : decode cL_isSet 66 = .ok (.sipush 999, 3) := by decide +kernel
theorem dL_isSet_69 : decode cL_isSet 69 = .ok (.istore 11, 2) := by decide +kernel
theorem dL_isSet_71 : decode cL_isSet 71 = .ok (.iload 10, 2) := by decide +kernel
theorem dL_isSet_73 : decode cL_isSet 73 = .ok (.ifCond .lt 35, 3) := by decide +kernel
theorem dL_isSet_76 : decode cL_isSet 76 = .ok (.iload 9, 2) := by decide +kernel
theorem dL_isSet_78 : decode cL_isSet 78 = .ok (.iload 11, 2) := by decide +kernel
theorem dL_isSet_80 : decode cL_isSet 80 = .ok (.if_icmp .gt 28, 3) := by decide +kernel
theorem dL_isSet_83 : decode cL_isSet 83 = .ok (.iload 9, 2) := by decide +kernel
theorem dL_isSet_85 : decode cL_isSet 85 = .ok (.ifCond .ge 19, 3) := by decide +kernel
theorem dL_isSet_88 : decode cL_isSet 88 = .ok (.aload_n 1, 1) := by decide +kernel
theorem dL_isSet_89 : decode cL_isSet 89 = .ok (.aload 5, 2) := by decide +kernel
theorem dL_isSet_91 : decode cL_isSet 91 = .ok (.iconst 2, 1) := by decide +kernel
theorem dL_isSet_92 : decode cL_isSet 92 = .ok (.iload 7, 2) := by decide +kernel
theorem dL_isSet_94 : decode cL_isSet 94 = .ok (.imul, 1) := by decide +kernel
theorem dL_isSet_95 : decode cL_isSet 95 = .ok (.iaload, 1) := by decide +kernel
theorem dL_isSet_96 : decode cL_isSet 96 = .ok (.iload 10, 2) := by decide +kernel
theorem dL_isSet_98 : decode cL_isSet 98 = .ok (.invokestatic 103, 3) := by decide +kernel
theorem dL_isSet_101 : decode cL_isSet 101 = .ok (.ifCond .ne 7, 3) := by decide +kernel
theorem dL_isSet_104 : decode cL_isSet 104 = .ok (.iconst 1, 1) := by decide +kernel
theorem dL_isSet_105 : decode cL_isSet 105 = .ok (.goto 4, 3) := by decide +kernel
theorem dL_isSet_108 : decode cL_isSet 108 = .ok (.iconst 0, 1) := by decide +kernel
theorem dL_isSet_109 : decode cL_isSet 109 = .ok (.istore 12, 2) := by decide +kernel
theorem dL_isSet_111 : decode cL_isSet 111 = .ok (.iload 10, 2) := by decide +kernel
theorem dL_isSet_113 : decode cL_isSet 113 = .ok (.ifCond .ge 9, 3) := by decide +kernel
theorem dL_isSet_116 : decode cL_isSet 116 = .ok (.sipush (-300), 3) := by decide +kernel
theorem dL_isSet_119 : decode cL_isSet 119 = .ok (.goto 25, 3) := by decide +kernel
theorem dL_isSet_122 : decode cL_isSet 122 = .ok (.iload 12, 2) := by decide +kernel
theorem dL_isSet_124 : decode cL_isSet 124 = .ok (.ifCond .eq 17, 3) := by decide +kernel
theorem dL_isSet_127 : decode cL_isSet 127 = .ok (.aload 4, 2) := by decide +kernel
theorem dL_isSet_129 : decode cL_isSet 129 = .ok (.bipush 10, 2) := by decide +kernel
theorem dL_isSet_131 : decode cL_isSet 131 = .ok (.iload 7, 2) := by decide +kernel
theorem dL_isSet_133 : decode cL_isSet 133 = .ok (.imul, 1) := by decide +kernel
theorem dL_isSet_134 : decode cL_isSet 134 = .ok (.iload 10, 2) := by decide +kernel
theorem dL_isSet_136 : decode cL_isSet 136 = .ok (.iadd, 1) := by decide +kernel
theorem dL_isSet_137 : decode cL_isSet 137 = .ok (.iaload, 1) := by decide +kernel
theorem dL_isSet_138 : decode cL_isSet 138 = .ok (.goto 6, 3) := by decide +kernel
theorem dL_isSet_141 : decode cL_isSet 141 = .ok (.sipush (-200), 3) := by decide +kernel
theorem dL_isSet_144 : decode cL_isSet 144 = .ok (.istore 13, 2) := by decide +kernel
theorem dL_isSet_146 : decode cL_isSet 146 = .ok (.iload 12, 2) := by decide +kernel
theorem dL_isSet_148 : decode cL_isSet 148 = .ok (.ifCond .eq 69, 3) := by decide +kernel
theorem dL_isSet_151 : decode cL_isSet 151 = .ok (.aload 4, 2) := by decide +kernel
theorem dL_isSet_153 : decode cL_isSet 153 = .ok (.bipush 10, 2) := by decide +kernel
theorem dL_isSet_155 : decode cL_isSet 155 = .ok (.iload 7, 2) := by decide +kernel
theorem dL_isSet_157 : decode cL_isSet 157 = .ok (.imul, 1) := by decide +kernel
theorem dL_isSet_158 : decode cL_isSet 158 = .ok (.iload 10, 2) := by decide +kernel
theorem dL_isSet_160 : decode cL_isSet 160 = .ok (.iadd, 1) := by decide +kernel
theorem dL_isSet_161 : decode cL_isSet 161 = .ok (.iload 9, 2) := by decide +kernel
theorem dL_isSet_163 : decode cL_isSet 163 = .ok (.iastore, 1) := by decide +kernel
theorem dL_isSet_164 : decode cL_isSet 164 = .ok (.iconst 0, 1) := by decide +kernel
theorem dL_isSet_165 : decode cL_isSet 165 = .ok (.istore 14, 2) := by decide +kernel
theorem dL_isSet_167 : decode cL_isSet 167 = .ok (.iload 14, 2) := by decide +kernel
theorem dL_isSet_169 : decode cL_isSet 169 = .ok (.aload_n 3, 1) := by decide +kernel
theorem dL_isSet_170 : decode cL_isSet 170 = .ok (.iconst 3, 1) := by decide +kernel
theorem dL_isSet_171 : decode cL_isSet 171 = .ok (.iaload, 1) := by decide +kernel
theorem dL_isSet_172 : decode cL_isSet 172 = .ok (.if_icmp .ge 45, 3) := by decide +kernel
theorem dL_isSet_175 : decode cL_isSet 175 = .ok (.aload 6, 2) := by decide +kernel
theorem dL_isSet_177 : decode cL_isSet 177 = .ok (.iconst 3, 1) := by decide +kernel
theorem dL_isSet_178 : decode cL_isSet 178 = .ok (.iload 14, 2) := by decide +kernel
theorem dL_isSet_180 : decode cL_isSet 180 = .ok (.imul, 1) := by decide +kernel
theorem dL_isSet_181 : decode cL_isSet 181 = .ok (.iconst 2, 1) := by decide +kernel
theorem dL_isSet_182 : decode cL_isSet 182 = .ok (.iadd, 1) := by decide +kernel
theorem dL_isSet_183 : decode cL_isSet 183 = .ok (.aload 6, 2) := by decide +kernel
theorem dL_isSet_185 : decode cL_isSet 185 = .ok (.iconst 3, 1) := by decide +kernel
theorem dL_isSet_186 : decode cL_isSet 186 = .ok (.iload 14, 2) := by decide +kernel
theorem dL_isSet_188 : decode cL_isSet 188 = .ok (.imul, 1) := by decide +kernel
theorem dL_isSet_189 : decode cL_isSet 189 = .ok (.iconst 1, 1) := by decide +kernel
theorem dL_isSet_190 : decode cL_isSet 190 = .ok (.iadd, 1) := by decide +kernel
theorem dL_isSet_191 : decode cL_isSet 191 = .ok (.iaload, 1) := by decide +kernel
theorem dL_isSet_192 : decode cL_isSet 192 = .ok (.iload 7, 2) := by decide +kernel
theorem dL_isSet_194 : decode cL_isSet 194 = .ok (.if_icmp .ne 7, 3) := by decide +kernel
theorem dL_isSet_197 : decode cL_isSet 197 = .ok (.iconst 0, 1) := by decide +kernel
theorem dL_isSet_198 : decode cL_isSet 198 = .ok (.goto 12, 3) := by decide +kernel
theorem dL_isSet_201 : decode cL_isSet 201 = .ok (.aload 6, 2) := by decide +kernel
theorem dL_isSet_203 : decode cL_isSet 203 = .ok (.iconst 3, 1) := by decide +kernel
theorem dL_isSet_204 : decode cL_isSet 204 = .ok (.iload 14, 2) := by decide +kernel
theorem dL_isSet_206 : decode cL_isSet 206 = .ok (.imul, 1) := by decide +kernel
theorem dL_isSet_207 : decode cL_isSet 207 = .ok (.iconst 2, 1) := by decide +kernel
theorem dL_isSet_208 : decode cL_isSet 208 = .ok (.iadd, 1) := by decide +kernel
theorem dL_isSet_209 : decode cL_isSet 209 = .ok (.iaload, 1) := by decide +kernel
theorem dL_isSet_210 : decode cL_isSet 210 = .ok (.iastore, 1) := by decide +kernel
theorem dL_isSet_211 : decode cL_isSet 211 = .ok (.iinc 14 1, 3) := by decide +kernel
theorem dL_isSet_214 : decode cL_isSet 214 = .ok (.goto (-47), 3) := by decide +kernel
theorem dL_isSet_217 : decode cL_isSet 217 = .ok (.aload_n 0, 1) := by decide +kernel
theorem dL_isSet_218 : decode cL_isSet 218 = .ok (.bipush 8, 2) := by decide +kernel
theorem dL_isSet_220 : decode cL_isSet 220 = .ok (.iload 7, 2) := by decide +kernel
theorem dL_isSet_222 : decode cL_isSet 222 = .ok (.iload 8, 2) := by decide +kernel
theorem dL_isSet_224 : decode cL_isSet 224 = .ok (.iload 9, 2) := by decide +kernel
theorem dL_isSet_226 : decode cL_isSet 226 = .ok (.iconst 0, 1) := by decide +kernel
theorem dL_isSet_227 : decode cL_isSet 227 = .ok (.iconst 0, 1) := by decide +kernel
theorem dL_isSet_228 : decode cL_isSet 228 = .ok (.invokestatic 149, 3) := by decide +kernel
theorem dL_isSet_231 : decode cL_isSet 231 = .ok (.iload 13, 2) := by decide +kernel
theorem dL_isSet_233 : decode cL_isSet 233 = .ok (.if_icmp .ne 7, 3) := by decide +kernel
theorem dL_isSet_236 : decode cL_isSet 236 = .ok (.iconst 1, 1) := by decide +kernel
theorem dL_isSet_237 : decode cL_isSet 237 = .ok (.goto 4, 3) := by decide +kernel
theorem dL_isSet_240 : decode cL_isSet 240 = .ok (.iconst 0, 1) := by decide +kernel
theorem dL_isSet_241 : decode cL_isSet 241 = .ok (.ireturn, 1) := by decide +kernel
theorem dL_isMoved_0 : decode cL_isMoved 0 = .ok (.iload 12, 2) := by decide +kernel
theorem dL_isMoved_2 : decode cL_isMoved 2 = .ok (.aload 4, 2) := by decide +kernel
theorem dL_isMoved_4 : decode cL_isMoved 4 = .ok (.iconst 3, 1) := by decide +kernel
theorem dL_isMoved_5 : decode cL_isMoved 5 = .ok (.iaload, 1) := by decide +kernel
theorem dL_isMoved_6 : decode cL_isMoved 6 = .ok (.if_icmp .ne 27, 3) := by decide +kernel
theorem dL_isMoved_9 : decode cL_isMoved 9 = .ok (.aload_n 0, 1) := by decide +kernel
theorem dL_isMoved_10 : decode cL_isMoved 10 = .ok (.bipush 10, 2) := by decide +kernel
theorem dL_isMoved_12 : decode cL_isMoved 12 = .ok (.iload 12, 2) := by decide +kernel
theorem dL_isMoved_14 : decode cL_isMoved 14 = .ok (.iconst 0, 1) := by decide +kernel
theorem dL_isMoved_15 : decode cL_isMoved 15 = .ok (.iconst 0, 1) := by decide +kernel
theorem dL_isMoved_16 : decode cL_isMoved 16 = .ok (.iconst 0, 1) := by decide +kernel
theorem dL_isMoved_17 : decode cL_isMoved 17 = .ok (.iconst 0, 1) := by decide +kernel
theorem dL_isMoved_18 : decode cL_isMoved 18 = .ok (.invokestatic 149, 3) := by decide +kernel
theorem dL_isMoved_21 : decode cL_isMoved 21 = .ok (.sipush (-300), 3) := by decide +kernel
theorem dL_isMoved_24 : decode cL_isMoved 24 = .ok (.if_icmp .ne 7, 3) := by decide +kernel
theorem dL_isMoved_27 : decode cL_isMoved 27 = .ok (.iconst 1, 1) := by decide +kernel
theorem dL_isMoved_28 : decode cL_isMoved 28 = .ok (.goto 4, 3) := by decide +kernel
theorem dL_isMoved_31 : decode cL_isMoved 31 = .ok (.iconst 0, 1) := by decide +kernel
theorem dL_isMoved_32 : decode cL_isMoved 32 = .ok (.ireturn, 1) := by decide +kernel
theorem dL_isMoved_33 : decode cL_isMoved 33 = .ok (.iconst (-1), 1) := by decide +kernel
theorem dL_isMoved_34 : decode cL_isMoved 34 = .ok (.istore 13, 2) := by decide +kernel
theorem dL_isMoved_36 : decode cL_isMoved 36 = .ok (.iconst 0, 1) := by decide +kernel
theorem dL_isMoved_37 : decode cL_isMoved 37 = .ok (.istore 14, 2) := by decide +kernel
theorem dL_isMoved_39 : decode cL_isMoved 39 = .ok (.iconst 0, 1) := by decide +kernel
theorem dL_isMoved_40 : decode cL_isMoved 40 = .ok (.istore 15, 2) := by decide +kernel
theorem dL_isMoved_42 : decode cL_isMoved 42 = .ok (.iload 15, 2) := by decide +kernel
theorem dL_isMoved_44 : decode cL_isMoved 44 = .ok (.aload 4, 2) := by decide +kernel
theorem dL_isMoved_46 : decode cL_isMoved 46 = .ok (.iconst 2, 1) := by decide +kernel
theorem dL_isMoved_47 : decode cL_isMoved 47 = .ok (.iaload, 1) := by decide +kernel
theorem dL_isMoved_48 : decode cL_isMoved 48 = .ok (.if_icmp .ge 73, 3) := by decide +kernel
theorem dL_isMoved_51 : decode cL_isMoved 51 = .ok (.aload 6, 2) := by decide +kernel
theorem dL_isMoved_53 : decode cL_isMoved 53 = .ok (.iconst 2, 1) := by decide +kernel
theorem dL_isMoved_54 : decode cL_isMoved 54 = .ok (.iload 15, 2) := by decide +kernel
theorem dL_isMoved_56 : decode cL_isMoved 56 = .ok (.imul, 1) := by decide +kernel
theorem dL_isMoved_57 : decode cL_isMoved 57 = .ok (.iaload, 1) := by decide +kernel
theorem dL_isMoved_58 : decode cL_isMoved 58 = .ok (.aload 8, 2) := by decide +kernel
theorem dL_isMoved_60 : decode cL_isMoved 60 = .ok (.iconst 3, 1) := by decide +kernel
theorem dL_isMoved_61 : decode cL_isMoved 61 = .ok (.iload 12, 2) := by decide +kernel
theorem dL_isMoved_63 : decode cL_isMoved 63 = .ok (.imul, 1) := by decide +kernel
theorem dL_isMoved_64 : decode cL_isMoved 64 = .ok (.iaload, 1) := by decide +kernel
theorem dL_isMoved_65 : decode cL_isMoved 65 = .ok (.isub, 1) := by decide +kernel
theorem dL_isMoved_66 : decode cL_isMoved 66 = .ok (.istore 16, 2) := by decide +kernel
theorem dL_isMoved_68 : decode cL_isMoved 68 = .ok (.iload 16, 2) := by decide +kernel
theorem dL_isMoved_70 : decode cL_isMoved 70 = .ok (.ifCond .ge 9, 3) := by decide +kernel
theorem dL_isMoved_73 : decode cL_isMoved 73 = .ok (.iload 16, 2) := by decide +kernel
theorem dL_isMoved_75 : decode cL_isMoved 75 = .ok (.ineg, 1) := by decide +kernel
theorem dL_isMoved_76 : decode cL_isMoved 76 = .ok (.goto 5, 3) := by decide +kernel
theorem dL_isMoved_79 : decode cL_isMoved 79 = .ok (.iload 16, 2) := by decide +kernel
theorem dL_isMoved_81 : decode cL_isMoved 81 = .ok (.istore 16, 2) := by decide +kernel
theorem dL_isMoved_83 : decode cL_isMoved 83 = .ok (.iload 16, 2) := by decide +kernel
theorem dL_isMoved_85 : decode cL_isMoved 85 = .ok (.iload 14, 2) := by decide +kernel
theorem dL_isMoved_87 : decode cL_isMoved 87 = .ok (.if_icmp .le 8, 3) := by decide +kernel
theorem dL_isMoved_90 : decode cL_isMoved 90 = .ok (.iload 15, 2) := by decide +kernel
theorem dL_isMoved_92 : decode cL_isMoved 92 = .ok (.goto 5, 3) := by decide +kernel
theorem dL_isMoved_95 : decode cL_isMoved 95 = .ok (.iload 13, 2) := by decide +kernel
theorem dL_isMoved_97 : decode cL_isMoved 97 = .ok (.istore 13, 2) := by decide +kernel
theorem dL_isMoved_99 : decode cL_isMoved 99 = .ok (.iload 16, 2) := by decide +kernel
theorem dL_isMoved_101 : decode cL_isMoved 101 = .ok (.iload 14, 2) := by decide +kernel
theorem dL_isMoved_103 : decode cL_isMoved 103 = .ok (.if_icmp .le 8, 3) := by decide +kernel
theorem dL_isMoved_106 : decode cL_isMoved 106 = .ok (.iload 16, 2) := by decide +kernel
theorem dL_isMoved_108 : decode cL_isMoved 108 = .ok (.goto 5, 3) := by decide +kernel
theorem dL_isMoved_111 : decode cL_isMoved 111 = .ok (.iload 14, 2) := by decide +kernel
theorem dL_isMoved_113 : decode cL_isMoved 113 = .ok (.istore 14, 2) := by decide +kernel
theorem dL_isMoved_115 : decode cL_isMoved 115 = .ok (.iinc 15 1, 3) := by decide +kernel
theorem dL_isMoved_118 : decode cL_isMoved 118 = .ok (.goto (-76), 3) := by decide +kernel
theorem dL_isMoved_121 : decode cL_isMoved 121 = .ok (.iload 13, 2) := by decide +kernel
theorem dL_isMoved_123 : decode cL_isMoved 123 = .ok (.ifCond .lt 230, 3) := by decide +kernel
theorem dL_isMoved_126 : decode cL_isMoved 126 = .ok (.iconst 0, 1) := by decide +kernel
theorem dL_isMoved_127 : decode cL_isMoved 127 = .ok (.istore 15, 2) := by decide +kernel
theorem dL_isMoved_129 : decode cL_isMoved 129 = .ok (.iload 15, 2) := by decide +kernel
theorem dL_isMoved_131 : decode cL_isMoved 131 = .ok (.bipush 10, 2) := by decide +kernel
theorem dL_isMoved_133 : decode cL_isMoved 133 = .ok (.if_icmp .ge 31, 3) := by decide +kernel
theorem dL_isMoved_136 : decode cL_isMoved 136 = .ok (.aload 10, 2) := by decide +kernel
theorem dL_isMoved_138 : decode cL_isMoved 138 = .ok (.bipush 12, 2) := by decide +kernel
theorem dL_isMoved_140 : decode cL_isMoved 140 = .ok (.iload 12, 2) := by decide +kernel
theorem dL_isMoved_142 : decode cL_isMoved 142 = .ok (.imul, 1) := by decide +kernel
theorem dL_isMoved_143 : decode cL_isMoved 143 = .ok (.iload 15, 2) := by decide +kernel
theorem dL_isMoved_145 : decode cL_isMoved 145 = .ok (.iadd, 1) := by decide +kernel
theorem dL_isMoved_146 : decode cL_isMoved 146 = .ok (.aload 5, 2) := by decide +kernel
theorem dL_isMoved_148 : decode cL_isMoved 148 = .ok (.bipush 10, 2) := by decide +kernel
theorem dL_isMoved_150 : decode cL_isMoved 150 = .ok (.iload 13, 2) := by decide +kernel
theorem dL_isMoved_152 : decode cL_isMoved 152 = .ok (.imul, 1) := by decide +kernel
theorem dL_isMoved_153 : decode cL_isMoved 153 = .ok (.iload 15, 2) := by decide +kernel
theorem dL_isMoved_155 : decode cL_isMoved 155 = .ok (.iadd, 1) := by decide +kernel
theorem dL_isMoved_156 : decode cL_isMoved 156 = .ok (.iaload, 1) := by decide +kernel
theorem dL_isMoved_157 : decode cL_isMoved 157 = .ok (.iastore, 1) := by decide +kernel
theorem dL_isMoved_158 : decode cL_isMoved 158 = .ok (.iinc 15 1, 3) := by decide +kernel
theorem dL_isMoved_161 : decode cL_isMoved 161 = .ok (.goto (-32), 3) := by decide +kernel
theorem dL_isMoved_164 : decode cL_isMoved 164 = .ok (.aload 10, 2) := by decide +kernel
theorem dL_isMoved_166 : decode cL_isMoved 166 = .ok (.bipush 12, 2) := by decide +kernel
theorem dL_isMoved_168 : decode cL_isMoved 168 = .ok (.iload 12, 2) := by decide +kernel
theorem dL_isMoved_170 : decode cL_isMoved 170 = .ok (.imul, 1) := by decide +kernel
theorem dL_isMoved_171 : decode cL_isMoved 171 = .ok (.bipush 10, 2) := by decide +kernel
theorem dL_isMoved_173 : decode cL_isMoved 173 = .ok (.iadd, 1) := by decide +kernel
theorem dL_isMoved_174 : decode cL_isMoved 174 = .ok (.aload 6, 2) := by decide +kernel
theorem dL_isMoved_176 : decode cL_isMoved 176 = .ok (.iconst 2, 1) := by decide +kernel
theorem dL_isMoved_177 : decode cL_isMoved 177 = .ok (.iload 13, 2) := by decide +kernel
theorem dL_isMoved_179 : decode cL_isMoved 179 = .ok (.imul, 1) := by decide +kernel
theorem dL_isMoved_180 : decode cL_isMoved 180 = .ok (.iaload, 1) := by decide +kernel
theorem dL_isMoved_181 : decode cL_isMoved 181 = .ok (.iastore, 1) := by decide +kernel
theorem dL_isMoved_182 : decode cL_isMoved 182 = .ok (.aload 10, 2) := by decide +kernel
theorem dL_isMoved_184 : decode cL_isMoved 184 = .ok (.bipush 12, 2) := by decide +kernel
theorem dL_isMoved_186 : decode cL_isMoved 186 = .ok (.iload 12, 2) := by decide +kernel
theorem dL_isMoved_188 : decode cL_isMoved 188 = .ok (.imul, 1) := by decide +kernel
theorem dL_isMoved_189 : decode cL_isMoved 189 = .ok (.bipush 11, 2) := by decide +kernel
theorem dL_isMoved_191 : decode cL_isMoved 191 = .ok (.iadd, 1) := by decide +kernel
theorem dL_isMoved_192 : decode cL_isMoved 192 = .ok (.aload 6, 2) := by decide +kernel
theorem dL_isMoved_194 : decode cL_isMoved 194 = .ok (.iconst 2, 1) := by decide +kernel
theorem dL_isMoved_195 : decode cL_isMoved 195 = .ok (.iload 13, 2) := by decide +kernel
theorem dL_isMoved_197 : decode cL_isMoved 197 = .ok (.imul, 1) := by decide +kernel
theorem dL_isMoved_198 : decode cL_isMoved 198 = .ok (.iconst 1, 1) := by decide +kernel
theorem dL_isMoved_199 : decode cL_isMoved 199 = .ok (.iadd, 1) := by decide +kernel
theorem dL_isMoved_200 : decode cL_isMoved 200 = .ok (.iaload, 1) := by decide +kernel
theorem dL_isMoved_201 : decode cL_isMoved 201 = .ok (.iastore, 1) := by decide +kernel
theorem dL_isMoved_202 : decode cL_isMoved 202 = .ok (.iconst 1, 1) := by decide +kernel
theorem dL_isMoved_203 : decode cL_isMoved 203 = .ok (.istore 15, 2) := by decide +kernel
theorem dL_isMoved_205 : decode cL_isMoved 205 = .ok (.iload 15, 2) := by decide +kernel
theorem dL_isMoved_207 : decode cL_isMoved 207 = .ok (.bipush 12, 2) := by decide +kernel
theorem dL_isMoved_209 : decode cL_isMoved 209 = .ok (.if_icmp .ge 31, 3) := by decide +kernel
theorem dL_isMoved_212 : decode cL_isMoved 212 = .ok (.aload 11, 2) := by decide +kernel
theorem dL_isMoved_214 : decode cL_isMoved 214 = .ok (.bipush 13, 2) := by decide +kernel
theorem dL_isMoved_216 : decode cL_isMoved 216 = .ok (.iload 12, 2) := by decide +kernel
theorem dL_isMoved_218 : decode cL_isMoved 218 = .ok (.imul, 1) := by decide +kernel
theorem dL_isMoved_219 : decode cL_isMoved 219 = .ok (.iload 15, 2) := by decide +kernel
theorem dL_isMoved_221 : decode cL_isMoved 221 = .ok (.iadd, 1) := by decide +kernel
theorem dL_isMoved_222 : decode cL_isMoved 222 = .ok (.aload 7, 2) := by decide +kernel
theorem dL_isMoved_224 : decode cL_isMoved 224 = .ok (.bipush 13, 2) := by decide +kernel
theorem dL_isMoved_226 : decode cL_isMoved 226 = .ok (.iload 13, 2) := by decide +kernel
theorem dL_isMoved_228 : decode cL_isMoved 228 = .ok (.imul, 1) := by decide +kernel
theorem dL_isMoved_229 : decode cL_isMoved 229 = .ok (.iload 15, 2) := by decide +kernel
theorem dL_isMoved_231 : decode cL_isMoved 231 = .ok (.iadd, 1) := by decide +kernel
theorem dL_isMoved_232 : decode cL_isMoved 232 = .ok (.laload, 1) := by decide +kernel
theorem dL_isMoved_233 : decode cL_isMoved 233 = .ok (.lastore, 1) := by decide +kernel
theorem dL_isMoved_234 : decode cL_isMoved 234 = .ok (.iinc 15 1, 3) := by decide +kernel
theorem dL_isMoved_237 : decode cL_isMoved 237 = .ok (.goto (-32), 3) := by decide +kernel
theorem dL_isMoved_240 : decode cL_isMoved 240 = .ok (.aload_n 1, 1) := by decide +kernel
theorem dL_isMoved_241 : decode cL_isMoved 241 = .ok (.aload_n 2, 1) := by decide +kernel
theorem dL_isMoved_242 : decode cL_isMoved 242 = .ok (.aload_n 3, 1) := by decide +kernel
theorem dL_isMoved_243 : decode cL_isMoved 243 = .ok (.aload 5, 2) := by decide +kernel
theorem dL_isMoved_245 : decode cL_isMoved 245 = .ok (.aload 6, 2) := by decide +kernel
theorem dL_isMoved_247 : decode cL_isMoved 247 = .ok (.aload 7, 2) := by decide +kernel
theorem dL_isMoved_249 : decode cL_isMoved 249 = .ok (.iload 13, 2) := by decide +kernel
theorem dL_isMoved_251 : decode cL_isMoved 251 = .ok (.aload 6, 2) := by decide +kernel
theorem dL_isMoved_253 : decode cL_isMoved 253 = .ok (.iconst 2, 1) := by decide +kernel
theorem dL_isMoved_254 : decode cL_isMoved 254 = .ok (.iload 13, 2) := by decide +kernel
theorem dL_isMoved_256 : decode cL_isMoved 256 = .ok (.imul, 1) := by decide +kernel
theorem dL_isMoved_257 : decode cL_isMoved 257 = .ok (.iaload, 1) := by decide +kernel
theorem dL_isMoved_258 : decode cL_isMoved 258 = .ok (.aload 8, 2) := by decide +kernel
theorem dL_isMoved_260 : decode cL_isMoved 260 = .ok (.iconst 3, 1) := by decide +kernel
theorem dL_isMoved_261 : decode cL_isMoved 261 = .ok (.iload 12, 2) := by decide +kernel
theorem dL_isMoved_263 : decode cL_isMoved 263 = .ok (.imul, 1) := by decide +kernel
theorem dL_isMoved_264 : decode cL_isMoved 264 = .ok (.iaload, 1) := by decide +kernel
theorem dL_isMoved_265 : decode cL_isMoved 265 = .ok (.if_icmp .ge 7, 3) := by decide +kernel
theorem dL_isMoved_268 : decode cL_isMoved 268 = .ok (.iconst 1, 1) := by decide +kernel
theorem dL_isMoved_269 : decode cL_isMoved 269 = .ok (.goto 4, 3) := by decide +kernel
theorem dL_isMoved_272 : decode cL_isMoved 272 = .ok (.iconst 0, 1) := by decide +kernel
theorem dL_isMoved_273 : decode cL_isMoved 273 = .ok (.aload 9, 2) := by decide +kernel
theorem dL_isMoved_275 : decode cL_isMoved 275 = .ok (.invokestatic 135, 3) := by decide +kernel
theorem dL_isMoved_278 : decode cL_isMoved 278 = .ok (.iconst 0, 1) := by decide +kernel
theorem dL_isMoved_279 : decode cL_isMoved 279 = .ok (.istore 15, 2) := by decide +kernel
theorem dL_isMoved_281 : decode cL_isMoved 281 = .ok (.iload 15, 2) := by decide +kernel
theorem dL_isMoved_283 : decode cL_isMoved 283 = .ok (.aload 4, 2) := by decide +kernel
theorem dL_isMoved_285 : decode cL_isMoved 285 = .ok (.iconst 3, 1) := by decide +kernel
theorem dL_isMoved_286 : decode cL_isMoved 286 = .ok (.iaload, 1) := by decide +kernel
theorem dL_isMoved_287 : decode cL_isMoved 287 = .ok (.if_icmp .ge 45, 3) := by decide +kernel
theorem dL_isMoved_290 : decode cL_isMoved 290 = .ok (.aload 8, 2) := by decide +kernel
theorem dL_isMoved_292 : decode cL_isMoved 292 = .ok (.iconst 3, 1) := by decide +kernel
theorem dL_isMoved_293 : decode cL_isMoved 293 = .ok (.iload 15, 2) := by decide +kernel
theorem dL_isMoved_295 : decode cL_isMoved 295 = .ok (.imul, 1) := by decide +kernel
theorem dL_isMoved_296 : decode cL_isMoved 296 = .ok (.iconst 2, 1) := by decide +kernel
theorem dL_isMoved_297 : decode cL_isMoved 297 = .ok (.iadd, 1) := by decide +kernel
theorem dL_isMoved_298 : decode cL_isMoved 298 = .ok (.aload 8, 2) := by decide +kernel
theorem dL_isMoved_300 : decode cL_isMoved 300 = .ok (.iconst 3, 1) := by decide +kernel
theorem dL_isMoved_301 : decode cL_isMoved 301 = .ok (.iload 15, 2) := by decide +kernel
theorem dL_isMoved_303 : decode cL_isMoved 303 = .ok (.imul, 1) := by decide +kernel
theorem dL_isMoved_304 : decode cL_isMoved 304 = .ok (.iconst 1, 1) := by decide +kernel
theorem dL_isMoved_305 : decode cL_isMoved 305 = .ok (.iadd, 1) := by decide +kernel
theorem dL_isMoved_306 : decode cL_isMoved 306 = .ok (.iaload, 1) := by decide +kernel
theorem dL_isMoved_307 : decode cL_isMoved 307 = .ok (.iload 13, 2) := by decide +kernel
theorem dL_isMoved_309 : decode cL_isMoved 309 = .ok (.if_icmp .ne 7, 3) := by decide +kernel
theorem dL_isMoved_312 : decode cL_isMoved 312 = .ok (.iconst 0, 1) := by decide +kernel
theorem dL_isMoved_313 : decode cL_isMoved 313 = .ok (.goto 12, 3) := by decide +kernel
theorem dL_isMoved_316 : decode cL_isMoved 316 = .ok (.aload 8, 2) := by decide +kernel
theorem dL_isMoved_318 : decode cL_isMoved 318 = .ok (.iconst 3, 1) := by decide +kernel
theorem dL_isMoved_319 : decode cL_isMoved 319 = .ok (.iload 15, 2) := by decide +kernel
theorem dL_isMoved_321 : decode cL_isMoved 321 = .ok (.imul, 1) := by decide +kernel
theorem dL_isMoved_322 : decode cL_isMoved 322 = .ok (.iconst 2, 1) := by decide +kernel
theorem dL_isMoved_323 : decode cL_isMoved 323 = .ok (.iadd, 1) := by decide +kernel
theorem dL_isMoved_324 : decode cL_isMoved 324 = .ok (.iaload, 1) := by decide +kernel
theorem dL_isMoved_325 : decode cL_isMoved 325 = .ok (.iastore, 1) := by decide +kernel
theorem dL_isMoved_326 : decode cL_isMoved 326 = .ok (.iinc 15 1, 3) := by decide +kernel
theorem dL_isMoved_329 : decode cL_isMoved 329 = .ok (.goto (-48), 3) := by decide +kernel
theorem dL_isMoved_332 : decode cL_isMoved 332 = .ok (.aload 8, 2) := by decide +kernel
theorem dL_isMoved_334 : decode cL_isMoved 334 = .ok (.iconst 3, 1) := by decide +kernel
theorem dL_isMoved_335 : decode cL_isMoved 335 = .ok (.iload 12, 2) := by decide +kernel
theorem dL_isMoved_337 : decode cL_isMoved 337 = .ok (.imul, 1) := by decide +kernel
theorem dL_isMoved_338 : decode cL_isMoved 338 = .ok (.iconst 1, 1) := by decide +kernel
theorem dL_isMoved_339 : decode cL_isMoved 339 = .ok (.iadd, 1) := by decide +kernel
theorem dL_isMoved_340 : decode cL_isMoved 340 = .ok (.iload 13, 2) := by decide +kernel
theorem dL_isMoved_342 : decode cL_isMoved 342 = .ok (.iastore, 1) := by decide +kernel
theorem dL_isMoved_343 : decode cL_isMoved 343 = .ok (.aload 8, 2) := by decide +kernel
theorem dL_isMoved_345 : decode cL_isMoved 345 = .ok (.iconst 3, 1) := by decide +kernel
theorem dL_isMoved_346 : decode cL_isMoved 346 = .ok (.iload 12, 2) := by decide +kernel
theorem dL_isMoved_348 : decode cL_isMoved 348 = .ok (.imul, 1) := by decide +kernel
theorem dL_isMoved_349 : decode cL_isMoved 349 = .ok (.iconst 2, 1) := by decide +kernel
theorem dL_isMoved_350 : decode cL_isMoved 350 = .ok (.iadd, 1) := by decide +kernel
theorem dL_isMoved_351 : decode cL_isMoved 351 = .ok (.iconst 1, 1) := by decide +kernel
theorem dL_isMoved_352 : decode cL_isMoved 352 = .ok (.iastore, 1) := by decide +kernel
theorem dL_isMoved_353 : decode cL_isMoved 353 = .ok (.aload_n 0, 1) := by decide +kernel
theorem dL_isMoved_354 : decode cL_isMoved 354 = .ok (.bipush 10, 2) := by decide +kernel
theorem dL_isMoved_356 : decode cL_isMoved 356 = .ok (.iload 12, 2) := by decide +kernel
theorem dL_isMoved_358 : decode cL_isMoved 358 = .ok (.iconst 0, 1) := by decide +kernel
theorem dL_isMoved_359 : decode cL_isMoved 359 = .ok (.iconst 0, 1) := by decide +kernel
theorem dL_isMoved_360 : decode cL_isMoved 360 = .ok (.iconst 0, 1) := by decide +kernel
theorem dL_isMoved_361 : decode cL_isMoved 361 = .ok (.iconst 0, 1) := by decide +kernel
theorem dL_isMoved_362 : decode cL_isMoved 362 = .ok (.invokestatic 149, 3) := by decide +kernel
theorem dL_isMoved_365 : decode cL_isMoved 365 = .ok (.iload 13, 2) := by decide +kernel
theorem dL_isMoved_367 : decode cL_isMoved 367 = .ok (.ifCond .ge 8, 3) := by decide +kernel
theorem dL_isMoved_370 : decode cL_isMoved 370 = .ok (.bipush (-100), 2) := by decide +kernel
theorem dL_isMoved_372 : decode cL_isMoved 372 = .ok (.goto 5, 3) := by decide +kernel
theorem dL_isMoved_375 : decode cL_isMoved 375 = .ok (.iload 13, 2) := by decide +kernel
theorem dL_isMoved_377 : decode cL_isMoved 377 = .ok (.if_icmp .ne 7, 3) := by decide +kernel
theorem dL_isMoved_380 : decode cL_isMoved 380 = .ok (.iconst 1, 1) := by decide +kernel
theorem dL_isMoved_381 : decode cL_isMoved 381 = .ok (.goto 4, 3) := by decide +kernel
theorem dL_isMoved_384 : decode cL_isMoved 384 = .ok (.iconst 0, 1) := by decide +kernel
theorem dL_isMoved_385 : decode cL_isMoved 385 = .ok (.ireturn, 1) := by decide +kernel
theorem dL_isUndone_0 : decode cL_isUndone 0 = .ok (.iload 8, 2) := by decide +kernel
theorem dL_isUndone_2 : decode cL_isUndone 2 = .ok (.aload 4, 2) := by decide +kernel
theorem dL_isUndone_4 : decode cL_isUndone 4 = .ok (.iconst 3, 1) := by decide +kernel
theorem dL_isUndone_5 : decode cL_isUndone 5 = .ok (.iaload, 1) := by decide +kernel
theorem dL_isUndone_6 : decode cL_isUndone 6 = .ok (.if_icmp .eq 15, 3) := by decide +kernel
theorem dL_isUndone_9 : decode cL_isUndone 9 = .ok (.aload 5, 2) := by decide +kernel
theorem dL_isUndone_11 : decode cL_isUndone 11 = .ok (.iconst 3, 1) := by decide +kernel
theorem dL_isUndone_12 : decode cL_isUndone 12 = .ok (.iload 8, 2) := by decide +kernel
theorem dL_isUndone_14 : decode cL_isUndone 14 = .ok (.imul, 1) := by decide +kernel
theorem dL_isUndone_15 : decode cL_isUndone 15 = .ok (.iconst 2, 1) := by decide +kernel
theorem dL_isUndone_16 : decode cL_isUndone 16 = .ok (.iadd, 1) := by decide +kernel
theorem dL_isUndone_17 : decode cL_isUndone 17 = .ok (.iaload, 1) := by decide +kernel
theorem dL_isUndone_18 : decode cL_isUndone 18 = .ok (.ifCond .ne 62, 3) := by decide +kernel
theorem dL_isUndone_21 : decode cL_isUndone 21 = .ok (.iload 8, 2) := by decide +kernel
theorem dL_isUndone_23 : decode cL_isUndone 23 = .ok (.aload 4, 2) := by decide +kernel
theorem dL_isUndone_25 : decode cL_isUndone 25 = .ok (.iconst 3, 1) := by decide +kernel
theorem dL_isUndone_26 : decode cL_isUndone 26 = .ok (.iaload, 1) := by decide +kernel
theorem dL_isUndone_27 : decode cL_isUndone 27 = .ok (.if_icmp .ge 15, 3) := by decide +kernel
theorem dL_isUndone_30 : decode cL_isUndone 30 = .ok (.aload 5, 2) := by decide +kernel
theorem dL_isUndone_32 : decode cL_isUndone 32 = .ok (.iconst 3, 1) := by decide +kernel
theorem dL_isUndone_33 : decode cL_isUndone 33 = .ok (.iload 8, 2) := by decide +kernel
theorem dL_isUndone_35 : decode cL_isUndone 35 = .ok (.imul, 1) := by decide +kernel
theorem dL_isUndone_36 : decode cL_isUndone 36 = .ok (.iconst 1, 1) := by decide +kernel
theorem dL_isUndone_37 : decode cL_isUndone 37 = .ok (.iadd, 1) := by decide +kernel
theorem dL_isUndone_38 : decode cL_isUndone 38 = .ok (.iaload, 1) := by decide +kernel
theorem dL_isUndone_39 : decode cL_isUndone 39 = .ok (.ifCond .ge 35, 3) := by decide +kernel
theorem dL_isUndone_42 : decode cL_isUndone 42 = .ok (.aload_n 0, 1) := by decide +kernel
theorem dL_isUndone_43 : decode cL_isUndone 43 = .ok (.bipush 11, 2) := by decide +kernel
theorem dL_isUndone_45 : decode cL_isUndone 45 = .ok (.iload 8, 2) := by decide +kernel
theorem dL_isUndone_47 : decode cL_isUndone 47 = .ok (.iconst 0, 1) := by decide +kernel
theorem dL_isUndone_48 : decode cL_isUndone 48 = .ok (.iconst 0, 1) := by decide +kernel
theorem dL_isUndone_49 : decode cL_isUndone 49 = .ok (.iconst 0, 1) := by decide +kernel
theorem dL_isUndone_50 : decode cL_isUndone 50 = .ok (.iconst 0, 1) := by decide +kernel
theorem dL_isUndone_51 : decode cL_isUndone 51 = .ok (.invokestatic 149, 3) := by decide +kernel
theorem dL_isUndone_54 : decode cL_isUndone 54 = .ok (.iload 8, 2) := by decide +kernel
theorem dL_isUndone_56 : decode cL_isUndone 56 = .ok (.aload 4, 2) := by decide +kernel
theorem dL_isUndone_58 : decode cL_isUndone 58 = .ok (.iconst 3, 1) := by decide +kernel
theorem dL_isUndone_59 : decode cL_isUndone 59 = .ok (.iaload, 1) := by decide +kernel
theorem dL_isUndone_60 : decode cL_isUndone 60 = .ok (.if_icmp .ne 9, 3) := by decide +kernel
theorem dL_isUndone_63 : decode cL_isUndone 63 = .ok (.sipush (-300), 3) := by decide +kernel
theorem dL_isUndone_66 : decode cL_isUndone 66 = .ok (.goto 5, 3) := by decide +kernel
theorem dL_isUndone_69 : decode cL_isUndone 69 = .ok (.bipush (-100), 2) := by decide +kernel
theorem dL_isUndone_71 : decode cL_isUndone 71 = .ok (.if_icmp .ne 7, 3) := by decide +kernel
theorem dL_isUndone_74 : decode cL_isUndone 74 = .ok (.iconst 1, 1) := by decide +kernel
theorem dL_isUndone_75 : decode cL_isUndone 75 = .ok (.goto 4, 3) := by decide +kernel
theorem dL_isUndone_78 : decode cL_isUndone 78 = .ok (.iconst 0, 1) := by decide +kernel
theorem dL_isUndone_79 : decode cL_isUndone 79 = .ok (.ireturn, 1) := by decide +kernel
theorem dL_isUndone_80 : decode cL_isUndone 80 = .ok (.aload 5, 2) := by decide +kernel
theorem dL_isUndone_82 : decode cL_isUndone 82 = .ok (.iconst 3, 1) := by decide +kernel
theorem dL_isUndone_83 : decode cL_isUndone 83 = .ok (.iload 8, 2) := by decide +kernel
theorem dL_isUndone_85 : decode cL_isUndone 85 = .ok (.imul, 1) := by decide +kernel
theorem dL_isUndone_86 : decode cL_isUndone 86 = .ok (.iconst 1, 1) := by decide +kernel
theorem dL_isUndone_87 : decode cL_isUndone 87 = .ok (.iadd, 1) := by decide +kernel
theorem dL_isUndone_88 : decode cL_isUndone 88 = .ok (.iaload, 1) := by decide +kernel
theorem dL_isUndone_89 : decode cL_isUndone 89 = .ok (.istore 9, 2) := by decide +kernel
theorem dL_isUndone_91 : decode cL_isUndone 91 = .ok (.iconst 0, 1) := by decide +kernel
theorem dL_isUndone_92 : decode cL_isUndone 92 = .ok (.istore 10, 2) := by decide +kernel
theorem dL_isUndone_94 : decode cL_isUndone 94 = .ok (.iload 10, 2) := by decide +kernel
theorem dL_isUndone_96 : decode cL_isUndone 96 = .ok (.bipush 10, 2) := by decide +kernel
theorem dL_isUndone_98 : decode cL_isUndone 98 = .ok (.if_icmp .ge 30, 3) := by decide +kernel
theorem dL_isUndone_101 : decode cL_isUndone 101 = .ok (.aload_n 1, 1) := by decide +kernel
theorem dL_isUndone_102 : decode cL_isUndone 102 = .ok (.bipush 10, 2) := by decide +kernel
theorem dL_isUndone_104 : decode cL_isUndone 104 = .ok (.iload 9, 2) := by decide +kernel
theorem dL_isUndone_106 : decode cL_isUndone 106 = .ok (.imul, 1) := by decide +kernel
theorem dL_isUndone_107 : decode cL_isUndone 107 = .ok (.iload 10, 2) := by decide +kernel
theorem dL_isUndone_109 : decode cL_isUndone 109 = .ok (.iadd, 1) := by decide +kernel
theorem dL_isUndone_110 : decode cL_isUndone 110 = .ok (.aload 6, 2) := by decide +kernel
theorem dL_isUndone_112 : decode cL_isUndone 112 = .ok (.bipush 12, 2) := by decide +kernel
theorem dL_isUndone_114 : decode cL_isUndone 114 = .ok (.iload 8, 2) := by decide +kernel
theorem dL_isUndone_116 : decode cL_isUndone 116 = .ok (.imul, 1) := by decide +kernel
theorem dL_isUndone_117 : decode cL_isUndone 117 = .ok (.iload 10, 2) := by decide +kernel
theorem dL_isUndone_119 : decode cL_isUndone 119 = .ok (.iadd, 1) := by decide +kernel
theorem dL_isUndone_120 : decode cL_isUndone 120 = .ok (.iaload, 1) := by decide +kernel
theorem dL_isUndone_121 : decode cL_isUndone 121 = .ok (.iastore, 1) := by decide +kernel
theorem dL_isUndone_122 : decode cL_isUndone 122 = .ok (.iinc 10 1, 3) := by decide +kernel
theorem dL_isUndone_125 : decode cL_isUndone 125 = .ok (.goto (-31), 3) := by decide +kernel
theorem dL_isUndone_128 : decode cL_isUndone 128 = .ok (.aload_n 2, 1) := by decide +kernel
theorem dL_isUndone_129 : decode cL_isUndone 129 = .ok (.iconst 2, 1) := by decide +kernel
theorem dL_isUndone_130 : decode cL_isUndone 130 = .ok (.iload 9, 2) := by decide +kernel
theorem dL_isUndone_132 : decode cL_isUndone 132 = .ok (.imul, 1) := by decide +kernel
theorem dL_isUndone_133 : decode cL_isUndone 133 = .ok (.aload 6, 2) := by decide +kernel
theorem dL_isUndone_135 : decode cL_isUndone 135 = .ok (.bipush 12, 2) := by decide +kernel
theorem dL_isUndone_137 : decode cL_isUndone 137 = .ok (.iload 8, 2) := by decide +kernel
theorem dL_isUndone_139 : decode cL_isUndone 139 = .ok (.imul, 1) := by decide +kernel
theorem dL_isUndone_140 : decode cL_isUndone 140 = .ok (.bipush 10, 2) := by decide +kernel
theorem dL_isUndone_142 : decode cL_isUndone 142 = .ok (.iadd, 1) := by decide +kernel
theorem dL_isUndone_143 : decode cL_isUndone 143 = .ok (.iaload, 1) := by decide +kernel
theorem dL_isUndone_144 : decode cL_isUndone 144 = .ok (.iastore, 1) := by decide +kernel
theorem dL_isUndone_145 : decode cL_isUndone 145 = .ok (.aload_n 2, 1) := by decide +kernel
theorem dL_isUndone_146 : decode cL_isUndone 146 = .ok (.iconst 2, 1) := by decide +kernel
theorem dL_isUndone_147 : decode cL_isUndone 147 = .ok (.iload 9, 2) := by decide +kernel
theorem dL_isUndone_149 : decode cL_isUndone 149 = .ok (.imul, 1) := by decide +kernel
theorem dL_isUndone_150 : decode cL_isUndone 150 = .ok (.iconst 1, 1) := by decide +kernel
theorem dL_isUndone_151 : decode cL_isUndone 151 = .ok (.iadd, 1) := by decide +kernel
theorem dL_isUndone_152 : decode cL_isUndone 152 = .ok (.aload 6, 2) := by decide +kernel
theorem dL_isUndone_154 : decode cL_isUndone 154 = .ok (.bipush 12, 2) := by decide +kernel
theorem dL_isUndone_156 : decode cL_isUndone 156 = .ok (.iload 8, 2) := by decide +kernel
theorem dL_isUndone_158 : decode cL_isUndone 158 = .ok (.imul, 1) := by decide +kernel
theorem dL_isUndone_159 : decode cL_isUndone 159 = .ok (.bipush 11, 2) := by decide +kernel
theorem dL_isUndone_161 : decode cL_isUndone 161 = .ok (.iadd, 1) := by decide +kernel
theorem dL_isUndone_162 : decode cL_isUndone 162 = .ok (.iaload, 1) := by decide +kernel
theorem dL_isUndone_163 : decode cL_isUndone 163 = .ok (.iastore, 1) := by decide +kernel
theorem dL_isUndone_164 : decode cL_isUndone 164 = .ok (.iconst 1, 1) := by decide +kernel
theorem dL_isUndone_165 : decode cL_isUndone 165 = .ok (.istore 10, 2) := by decide +kernel
theorem dL_isUndone_167 : decode cL_isUndone 167 = .ok (.iload 10, 2) := by decide +kernel
theorem dL_isUndone_169 : decode cL_isUndone 169 = .ok (.bipush 12, 2) := by decide +kernel
theorem dL_isUndone_171 : decode cL_isUndone 171 = .ok (.if_icmp .ge 30, 3) := by decide +kernel
theorem dL_isUndone_174 : decode cL_isUndone 174 = .ok (.aload_n 3, 1) := by decide +kernel
theorem dL_isUndone_175 : decode cL_isUndone 175 = .ok (.bipush 13, 2) := by decide +kernel
theorem dL_isUndone_177 : decode cL_isUndone 177 = .ok (.iload 9, 2) := by decide +kernel
theorem dL_isUndone_179 : decode cL_isUndone 179 = .ok (.imul, 1) := by decide +kernel
theorem dL_isUndone_180 : decode cL_isUndone 180 = .ok (.iload 10, 2) := by decide +kernel
theorem dL_isUndone_182 : decode cL_isUndone 182 = .ok (.iadd, 1) := by decide +kernel
theorem dL_isUndone_183 : decode cL_isUndone 183 = .ok (.aload 7, 2) := by decide +kernel
theorem dL_isUndone_185 : decode cL_isUndone 185 = .ok (.bipush 13, 2) := by decide +kernel
theorem dL_isUndone_187 : decode cL_isUndone 187 = .ok (.iload 8, 2) := by decide +kernel
theorem dL_isUndone_189 : decode cL_isUndone 189 = .ok (.imul, 1) := by decide +kernel
theorem dL_isUndone_190 : decode cL_isUndone 190 = .ok (.iload 10, 2) := by decide +kernel
theorem dL_isUndone_192 : decode cL_isUndone 192 = .ok (.iadd, 1) := by decide +kernel
theorem dL_isUndone_193 : decode cL_isUndone 193 = .ok (.laload, 1) := by decide +kernel
theorem dL_isUndone_194 : decode cL_isUndone 194 = .ok (.lastore, 1) := by decide +kernel
theorem dL_isUndone_195 : decode cL_isUndone 195 = .ok (.iinc 10 1, 3) := by decide +kernel
theorem dL_isUndone_198 : decode cL_isUndone 198 = .ok (.goto (-31), 3) := by decide +kernel
theorem dL_isUndone_201 : decode cL_isUndone 201 = .ok (.aload 5, 2) := by decide +kernel
theorem dL_isUndone_203 : decode cL_isUndone 203 = .ok (.iconst 3, 1) := by decide +kernel
theorem dL_isUndone_204 : decode cL_isUndone 204 = .ok (.iload 8, 2) := by decide +kernel
theorem dL_isUndone_206 : decode cL_isUndone 206 = .ok (.imul, 1) := by decide +kernel
theorem dL_isUndone_207 : decode cL_isUndone 207 = .ok (.iconst 2, 1) := by decide +kernel
theorem dL_isUndone_208 : decode cL_isUndone 208 = .ok (.iadd, 1) := by decide +kernel
theorem dL_isUndone_209 : decode cL_isUndone 209 = .ok (.iconst 0, 1) := by decide +kernel
theorem dL_isUndone_210 : decode cL_isUndone 210 = .ok (.iastore, 1) := by decide +kernel
theorem dL_isUndone_211 : decode cL_isUndone 211 = .ok (.aload_n 0, 1) := by decide +kernel
theorem dL_isUndone_212 : decode cL_isUndone 212 = .ok (.bipush 11, 2) := by decide +kernel
theorem dL_isUndone_214 : decode cL_isUndone 214 = .ok (.iload 8, 2) := by decide +kernel
theorem dL_isUndone_216 : decode cL_isUndone 216 = .ok (.iconst 0, 1) := by decide +kernel
theorem dL_isUndone_217 : decode cL_isUndone 217 = .ok (.iconst 0, 1) := by decide +kernel
theorem dL_isUndone_218 : decode cL_isUndone 218 = .ok (.iconst 0, 1) := by decide +kernel
theorem dL_isUndone_219 : decode cL_isUndone 219 = .ok (.iconst 0, 1) := by decide +kernel
theorem dL_isUndone_220 : decode cL_isUndone 220 = .ok (.invokestatic 149, 3) := by decide +kernel
theorem dL_isUndone_223 : decode cL_isUndone 223 = .ok (.iload 9, 2) := by decide +kernel
theorem dL_isUndone_225 : decode cL_isUndone 225 = .ok (.if_icmp .ne 7, 3) := by decide +kernel
theorem dL_isUndone_228 : decode cL_isUndone 228 = .ok (.iconst 1, 1) := by decide +kernel
theorem dL_isUndone_229 : decode cL_isUndone 229 = .ok (.goto 4, 3) := by decide +kernel
theorem dL_isUndone_232 : decode cL_isUndone 232 = .ok (.iconst 0, 1) := by decide +kernel
theorem dL_isUndone_233 : decode cL_isUndone 233 = .ok (.ireturn, 1) := by decide +kernel
theorem dL_isDone_0 : decode cL_isDone 0 = .ok (.aload_n 1, 1) := by decide +kernel
theorem dL_isDone_1 : decode cL_isDone 1 = .ok (.iload_n 2, 1) := by decide +kernel
theorem dL_isDone_2 : decode cL_isDone 2 = .ok (.bipush 40, 2) := by decide +kernel
theorem dL_isDone_4 : decode cL_isDone 4 = .ok (.invokestatic 159, 3) := by decide +kernel
theorem dL_isDone_7 : decode cL_isDone 7 = .ok (.istore 14, 2) := by decide +kernel
theorem dL_isDone_9 : decode cL_isDone 9 = .ok (.aload_n 1, 1) := by decide +kernel
theorem dL_isDone_10 : decode cL_isDone 10 = .ok (.iload_n 2, 1) := by decide +kernel
theorem dL_isDone_11 : decode cL_isDone 11 = .ok (.iconst 1, 1) := by decide +kernel
theorem dL_isDone_12 : decode cL_isDone 12 = .ok (.iadd, 1) := by decide +kernel
theorem dL_isDone_13 : decode cL_isDone 13 = .ok (.sipush 6000, 3) := by decide +kernel
theorem dL_isDone_16 : decode cL_isDone 16 = .ok (.invokestatic 159, 3) := by decide +kernel
theorem dL_isDone_19 : decode cL_isDone 19 = .ok (.istore 15, 2) := by decide +kernel
theorem dL_isDone_21 : decode cL_isDone 21 = .ok (.aload_n 1, 1) := by decide +kernel
theorem dL_isDone_22 : decode cL_isDone 22 = .ok (.iload_n 2, 1) := by decide +kernel
theorem dL_isDone_23 : decode cL_isDone 23 = .ok (.iconst 2, 1) := by decide +kernel
theorem dL_isDone_24 : decode cL_isDone 24 = .ok (.iadd, 1) := by decide +kernel
theorem dL_isDone_25 : decode cL_isDone 25 = .ok (.sipush 7000, 3) := by decide +kernel
theorem dL_isDone_28 : decode cL_isDone 28 = .ok (.invokestatic 159, 3) := by decide +kernel
theorem dL_isDone_31 : decode cL_isDone 31 = .ok (.istore 16, 2) := by decide +kernel
theorem dL_isDone_33 : decode cL_isDone 33 = .ok (.aload_n 1, 1) := by decide +kernel
theorem dL_isDone_34 : decode cL_isDone 34 = .ok (.iload_n 2, 1) := by decide +kernel
theorem dL_isDone_35 : decode cL_isDone 35 = .ok (.iconst 3, 1) := by decide +kernel
theorem dL_isDone_36 : decode cL_isDone 36 = .ok (.iadd, 1) := by decide +kernel
theorem dL_isDone_37 : decode cL_isDone 37 = .ok (.sipush 8000, 3) := by decide +kernel
theorem dL_isDone_40 : decode cL_isDone 40 = .ok (.invokestatic 159, 3) := by decide +kernel
theorem dL_isDone_43 : decode cL_isDone 43 = .ok (.istore 17, 2) := by decide +kernel
theorem dL_isDone_45 : decode cL_isDone 45 = .ok (.iload 14, 2) := by decide +kernel
theorem dL_isDone_47 : decode cL_isDone 47 = .ok (.bipush 15, 2) := by decide +kernel
theorem dL_isDone_49 : decode cL_isDone 49 = .ok (.if_icmp .ge 89, 3) := by decide +kernel
theorem dL_isDone_52 : decode cL_isDone 52 = .ok (.aload_n 0, 1) := by decide +kernel
theorem dL_isDone_53 : decode cL_isDone 53 = .ok (.aload_n 3, 1) := by decide +kernel
theorem dL_isDone_54 : decode cL_isDone 54 = .ok (.aload 4, 2) := by decide +kernel
theorem dL_isDone_56 : decode cL_isDone 56 = .ok (.aload 5, 2) := by decide +kernel
theorem dL_isDone_58 : decode cL_isDone 58 = .ok (.aload 6, 2) := by decide +kernel
theorem dL_isDone_60 : decode cL_isDone 60 = .ok (.iload 14, 2) := by decide +kernel
theorem dL_isDone_62 : decode cL_isDone 62 = .ok (.bipush 6, 2) := by decide +kernel
theorem dL_isDone_64 : decode cL_isDone 64 = .ok (.if_icmp .ge 7, 3) := by decide +kernel
theorem dL_isDone_67 : decode cL_isDone 67 = .ok (.iconst 0, 1) := by decide +kernel
theorem dL_isDone_68 : decode cL_isDone 68 = .ok (.goto 60, 3) := by decide +kernel
theorem dL_isDone_71 : decode cL_isDone 71 = .ok (.iload 14, 2) := by decide +kernel
theorem dL_isDone_73 : decode cL_isDone 73 = .ok (.bipush 7, 2) := by decide +kernel
theorem dL_isDone_75 : decode cL_isDone 75 = .ok (.if_icmp .ge 7, 3) := by decide +kernel
theorem dL_isDone_78 : decode cL_isDone 78 = .ok (.iconst 1, 1) := by decide +kernel
theorem dL_isDone_79 : decode cL_isDone 79 = .ok (.goto 49, 3) := by decide +kernel
theorem dL_isDone_82 : decode cL_isDone 82 = .ok (.iload 14, 2) := by decide +kernel
theorem dL_isDone_84 : decode cL_isDone 84 = .ok (.bipush 9, 2) := by decide +kernel
theorem dL_isDone_86 : decode cL_isDone 86 = .ok (.if_icmp .ge 7, 3) := by decide +kernel
theorem dL_isDone_89 : decode cL_isDone 89 = .ok (.iconst 2, 1) := by decide +kernel
theorem dL_isDone_90 : decode cL_isDone 90 = .ok (.goto 38, 3) := by decide +kernel
theorem dL_isDone_93 : decode cL_isDone 93 = .ok (.iload 14, 2) := by decide +kernel
theorem dL_isDone_95 : decode cL_isDone 95 = .ok (.bipush 11, 2) := by decide +kernel
theorem dL_isDone_97 : decode cL_isDone 97 = .ok (.if_icmp .ge 7, 3) := by decide +kernel
theorem dL_isDone_100 : decode cL_isDone 100 = .ok (.iconst 3, 1) := by decide +kernel
theorem dL_isDone_101 : decode cL_isDone 101 = .ok (.goto 27, 3) := by decide +kernel
theorem dL_isDone_104 : decode cL_isDone 104 = .ok (.iload 14, 2) := by decide +kernel
theorem dL_isDone_106 : decode cL_isDone 106 = .ok (.bipush 13, 2) := by decide +kernel
theorem dL_isDone_108 : decode cL_isDone 108 = .ok (.if_icmp .ge 7, 3) := by decide +kernel
theorem dL_isDone_111 : decode cL_isDone 111 = .ok (.iconst 4, 1) := by decide +kernel
theorem dL_isDone_112 : decode cL_isDone 112 = .ok (.goto 16, 3) := by decide +kernel
theorem dL_isDone_115 : decode cL_isDone 115 = .ok (.iload 14, 2) := by decide +kernel
theorem dL_isDone_117 : decode cL_isDone 117 = .ok (.bipush 13, 2) := by decide +kernel
theorem dL_isDone_119 : decode cL_isDone 119 = .ok (.if_icmp .ne 7, 3) := by decide +kernel
theorem dL_isDone_122 : decode cL_isDone 122 = .ok (.iconst 5, 1) := by decide +kernel
theorem dL_isDone_123 : decode cL_isDone 123 = .ok (.goto 5, 3) := by decide +kernel
theorem dL_isDone_126 : decode cL_isDone 126 = .ok (.bipush 6, 2) := by decide +kernel
theorem dL_isDone_128 : decode cL_isDone 128 = .ok (.iload 15, 2) := by decide +kernel
theorem dL_isDone_130 : decode cL_isDone 130 = .ok (.iload 16, 2) := by decide +kernel
theorem dL_isDone_132 : decode cL_isDone 132 = .ok (.iload 17, 2) := by decide +kernel
theorem dL_isDone_134 : decode cL_isDone 134 = .ok (.invokestatic 163, 3) := by decide +kernel
theorem dL_isDone_137 : decode cL_isDone 137 = .ok (.ireturn, 1) := by decide +kernel
theorem dL_isDone_138 : decode cL_isDone 138 = .ok (.iload 14, 2) := by decide +kernel
theorem dL_isDone_140 : decode cL_isDone 140 = .ok (.bipush 19, 2) := by decide +kernel
theorem dL_isDone_142 : decode cL_isDone 142 = .ok (.if_icmp .ge 196, 3) := by decide +kernel
theorem dL_isDone_145 : decode cL_isDone 145 = .ok (.iload 15, 2) := by decide +kernel
theorem dL_isDone_147 : decode cL_isDone 147 = .ok (.bipush 20, 2) := by decide +kernel
theorem dL_isDone_149 : decode cL_isDone 149 = .ok (.irem, 1) := by decide +kernel
theorem dL_isDone_150 : decode cL_isDone 150 = .ok (.ifCond .ne 12, 3) := by decide +kernel
theorem dL_isDone_153 : decode cL_isDone 153 = .ok (.aload 6, 2) := by decide +kernel
theorem dL_isDone_155 : decode cL_isDone 155 = .ok (.iconst 0, 1) := by decide +kernel
theorem dL_isDone_156 : decode cL_isDone 156 = .ok (.iaload, 1) := by decide +kernel
theorem dL_isDone_157 : decode cL_isDone 157 = .ok (.iconst 1, 1) := by decide +kernel
theorem dL_isDone_158 : decode cL_isDone 158 = .ok (.iadd, 1) := by decide +kernel
theorem dL_isDone_159 : decode cL_isDone 159 = .ok (.goto 12, 3) := by decide +kernel
theorem dL_isDone_162 : decode cL_isDone 162 = .ok (.iload 15, 2) := by decide +kernel
theorem dL_isDone_164 : decode cL_isDone 164 = .ok (.aload 6, 2) := by decide +kernel
theorem dL_isDone_166 : decode cL_isDone 166 = .ok (.iconst 0, 1) := by decide +kernel
theorem dL_isDone_167 : decode cL_isDone 167 = .ok (.iaload, 1) := by decide +kernel
theorem dL_isDone_168 : decode cL_isDone 168 = .ok (.iconst 1, 1) := by decide +kernel
theorem dL_isDone_169 : decode cL_isDone 169 = .ok (.iadd, 1) := by decide +kernel
theorem dL_isDone_170 : decode cL_isDone 170 = .ok (.irem, 1) := by decide +kernel
theorem dL_isDone_171 : decode cL_isDone 171 = .ok (.istore 18, 2) := by decide +kernel
theorem dL_isDone_173 : decode cL_isDone 173 = .ok (.iload 18, 2) := by decide +kernel
theorem dL_isDone_175 : decode cL_isDone 175 = .ok (.aload 6, 2) := by decide +kernel
theorem dL_isDone_177 : decode cL_isDone 177 = .ok (.iconst 0, 1) := by decide +kernel
theorem dL_isDone_178 : decode cL_isDone 178 = .ok (.iaload, 1) := by decide +kernel
theorem dL_isDone_179 : decode cL_isDone 179 = .ok (.if_icmp .gt 25, 3) := by decide +kernel
theorem dL_isDone_182 : decode cL_isDone 182 = .ok (.aload 6, 2) := by decide +kernel
theorem dL_isDone_184 : decode cL_isDone 184 = .ok (.iconst 2, 1) := by decide +kernel
theorem dL_isDone_185 : decode cL_isDone 185 = .ok (.iaload, 1) := by decide +kernel
theorem dL_isDone_186 : decode cL_isDone 186 = .ok (.iconst 4, 1) := by decide +kernel
theorem dL_isDone_187 : decode cL_isDone 187 = .ok (.if_icmp .ne 17, 3) := by decide +kernel
theorem dL_isDone_190 : decode cL_isDone 190 = .ok (.aload_n 0, 1) := by decide +kernel
theorem dL_isDone_191 : decode cL_isDone 191 = .ok (.iconst 3, 1) := by decide +kernel
theorem dL_isDone_192 : decode cL_isDone 192 = .ok (.invokevirtual 71, 3) := by decide +kernel
theorem dL_isDone_195 : decode cL_isDone 195 = .ok (.ifCond .lt 7, 3) := by decide +kernel
theorem dL_isDone_198 : decode cL_isDone 198 = .ok (.iconst 1, 1) := by decide +kernel
theorem dL_isDone_199 : decode cL_isDone 199 = .ok (.goto 4, 3) := by decide +kernel
theorem dL_isDone_202 : decode cL_isDone 202 = .ok (.iconst 0, 1) := by decide +kernel
theorem dL_isDone_203 : decode cL_isDone 203 = .ok (.ireturn, 1) := by decide +kernel
theorem dL_isDone_204 : decode cL_isDone 204 = .ok (.iload 18, 2) := by decide +kernel
theorem dL_isDone_206 : decode cL_isDone 206 = .ok (.aload 6, 2) := by decide +kernel
theorem dL_isDone_208 : decode cL_isDone 208 = .ok (.iconst 0, 1) := by decide +kernel
theorem dL_isDone_209 : decode cL_isDone 209 = .ok (.iaload, 1) := by decide +kernel
theorem dL_isDone_210 : decode cL_isDone 210 = .ok (.if_icmp .le 9, 3) := by decide +kernel
theorem dL_isDone_213 : decode cL_isDone 213 = .ok (.sipush (-300), 3) := by decide +kernel
theorem dL_isDone_216 : decode cL_isDone 216 = .ok (.goto 7, 3) := by decide +kernel
theorem dL_isDone_219 : decode cL_isDone 219 = .ok (.aload 6, 2) := by decide +kernel
theorem dL_isDone_221 : decode cL_isDone 221 = .ok (.iconst 2, 1) := by decide +kernel
theorem dL_isDone_222 : decode cL_isDone 222 = .ok (.iaload, 1) := by decide +kernel
theorem dL_isDone_223 : decode cL_isDone 223 = .ok (.istore 19, 2) := by decide +kernel
theorem dL_isDone_225 : decode cL_isDone 225 = .ok (.iload 19, 2) := by decide +kernel
theorem dL_isDone_227 : decode cL_isDone 227 = .ok (.ifCond .lt 88, 3) := by decide +kernel
theorem dL_isDone_230 : decode cL_isDone 230 = .ok (.iconst 0, 1) := by decide +kernel
theorem dL_isDone_231 : decode cL_isDone 231 = .ok (.istore 20, 2) := by decide +kernel
theorem dL_isDone_233 : decode cL_isDone 233 = .ok (.iload 20, 2) := by decide +kernel
theorem dL_isDone_235 : decode cL_isDone 235 = .ok (.bipush 10, 2) := by decide +kernel
theorem dL_isDone_237 : decode cL_isDone 237 = .ok (.if_icmp .ge 51, 3) := by decide +kernel
theorem dL_isDone_240 : decode cL_isDone 240 = .ok (.aload 7, 2) := by decide +kernel
theorem dL_isDone_242 : decode cL_isDone 242 = .ok (.bipush 10, 2) := by decide +kernel
theorem dL_isDone_244 : decode cL_isDone 244 = .ok (.iload 19, 2) := by decide +kernel
theorem dL_isDone_246 : decode cL_isDone 246 = .ok (.imul, 1) := by decide +kernel
theorem dL_isDone_247 : decode cL_isDone 247 = .ok (.iload 20, 2) := by decide +kernel
theorem dL_isDone_249 : decode cL_isDone 249 = .ok (.iadd, 1) := by decide +kernel
theorem dL_isDone_250 : decode cL_isDone 250 = .ok (.iload 20, 2) := by decide +kernel
theorem dL_isDone_252 : decode cL_isDone 252 = .ok (.aload 6, 2) := by decide +kernel
theorem dL_isDone_254 : decode cL_isDone 254 = .ok (.iconst 1, 1) := by decide +kernel
theorem dL_isDone_255 : decode cL_isDone 255 = .ok (.iaload, 1) := by decide +kernel
theorem dL_isDone_256 : decode cL_isDone 256 = .ok (.if_icmp .ge 24, 3) := by decide +kernel
theorem dL_isDone_259 : decode cL_isDone 259 = .ok (.aload_n 3, 1) := by decide +kernel
theorem dL_isDone_260 : decode cL_isDone 260 = .ok (.iload 18, 2) := by decide +kernel
theorem dL_isDone_262 : decode cL_isDone 262 = .ok (.iload 20, 2) := by decide +kernel
theorem dL_isDone_264 : decode cL_isDone 264 = .ok (.invokestatic 103, 3) := by decide +kernel
theorem dL_isDone_267 : decode cL_isDone 267 = .ok (.ifCond .eq 13, 3) := by decide +kernel
theorem dL_isDone_270 : decode cL_isDone 270 = .ok (.aload 5, 2) := by decide +kernel
theorem dL_isDone_272 : decode cL_isDone 272 = .ok (.iload 20, 2) := by decide +kernel
theorem dL_isDone_274 : decode cL_isDone 274 = .ok (.iaload, 1) := by decide +kernel
theorem dL_isDone_275 : decode cL_isDone 275 = .ok (.iconst 3, 1) := by decide +kernel
theorem dL_isDone_276 : decode cL_isDone 276 = .ok (.idiv, 1) := by decide +kernel
theorem dL_isDone_277 : decode cL_isDone 277 = .ok (.goto 4, 3) := by decide +kernel
theorem dL_isDone_280 : decode cL_isDone 280 = .ok (.iconst (-1), 1) := by decide +kernel
theorem dL_isDone_281 : decode cL_isDone 281 = .ok (.iastore, 1) := by decide +kernel
theorem dL_isDone_282 : decode cL_isDone 282 = .ok (.iinc 20 1, 3) := by decide +kernel
theorem dL_isDone_285 : decode cL_isDone 285 = .ok (.goto (-52), 3) := by decide +kernel
theorem dL_isDone_288 : decode cL_isDone 288 = .ok (.aload 8, 2) := by decide +kernel
theorem dL_isDone_290 : decode cL_isDone 290 = .ok (.iconst 2, 1) := by decide +kernel
theorem dL_isDone_291 : decode cL_isDone 291 = .ok (.iload 19, 2) := by decide +kernel
theorem dL_isDone_293 : decode cL_isDone 293 = .ok (.imul, 1) := by decide +kernel
theorem dL_isDone_294 : decode cL_isDone 294 = .ok (.iload 18, 2) := by decide +kernel
theorem dL_isDone_296 : decode cL_isDone 296 = .ok (.iastore, 1) := by decide +kernel
theorem dL_isDone_297 : decode cL_isDone 297 = .ok (.aload 8, 2) := by decide +kernel
theorem dL_isDone_299 : decode cL_isDone 299 = .ok (.iconst 2, 1) := by decide +kernel
theorem dL_isDone_300 : decode cL_isDone 300 = .ok (.iload 19, 2) := by decide +kernel
theorem dL_isDone_302 : decode cL_isDone 302 = .ok (.imul, 1) := by decide +kernel
theorem dL_isDone_303 : decode cL_isDone 303 = .ok (.iconst 1, 1) := by decide +kernel
theorem dL_isDone_304 : decode cL_isDone 304 = .ok (.iadd, 1) := by decide +kernel
theorem dL_isDone_305 : decode cL_isDone 305 = .ok (.iconst 0, 1) := by decide +kernel
theorem dL_isDone_306 : decode cL_isDone 306 = .ok (.iastore, 1) := by decide +kernel
theorem dL_isDone_307 : decode cL_isDone 307 = .ok (.aload 6, 2) := by decide +kernel
theorem dL_isDone_309 : decode cL_isDone 309 = .ok (.iconst 2, 1) := by decide +kernel
theorem dL_isDone_310 : decode cL_isDone 310 = .ok (.dup2, 1) := by decide +kernel
theorem dL_isDone_311 : decode cL_isDone 311 = .ok (.iaload, 1) := by decide +kernel
theorem dL_isDone_312 : decode cL_isDone 312 = .ok (.iconst 1, 1) := by decide +kernel
theorem dL_isDone_313 : decode cL_isDone 313 = .ok (.iadd, 1) := by decide +kernel
theorem dL_isDone_314 : decode cL_isDone 314 = .ok (.iastore, 1) := by decide +kernel
theorem dL_isDone_315 : decode cL_isDone 315 = .ok (.aload_n 0, 1) := by decide +kernel
theorem dL_isDone_316 : decode cL_isDone 316 = .ok (.bipush 7, 2) := by decide +kernel
theorem dL_isDone_318 : decode cL_isDone 318 = .ok (.iconst 0, 1) := by decide +kernel
theorem dL_isDone_319 : decode cL_isDone 319 = .ok (.iload 18, 2) := by decide +kernel
theorem dL_isDone_321 : decode cL_isDone 321 = .ok (.iconst 0, 1) := by decide +kernel
theorem dL_isDone_322 : decode cL_isDone 322 = .ok (.iconst 0, 1) := by decide +kernel
theorem dL_isDone_323 : decode cL_isDone 323 = .ok (.iconst 0, 1) := by decide +kernel
theorem dL_isDone_324 : decode cL_isDone 324 = .ok (.invokestatic 149, 3) := by decide +kernel
theorem dL_isDone_327 : decode cL_isDone 327 = .ok (.iload 19, 2) := by decide +kernel
theorem dL_isDone_329 : decode cL_isDone 329 = .ok (.if_icmp .ne 7, 3) := by decide +kernel
theorem dL_isDone_332 : decode cL_isDone 332 = .ok (.iconst 1, 1) := by decide +kernel
theorem dL_isDone_333 : decode cL_isDone 333 = .ok (.goto 4, 3) := by decide +kernel
theorem dL_isDone_336 : decode cL_isDone 336 = .ok (.iconst 0, 1) := by decide +kernel
theorem dL_isDone_337 : decode cL_isDone 337 = .ok (.ireturn, 1) := by decide +kernel
theorem dL_isDone_338 : decode cL_isDone 338 = .ok (.iload 14, 2) := by decide +kernel
theorem dL_isDone_340 : decode cL_isDone 340 = .ok (.bipush 27, 2) := by decide +kernel
theorem dL_isDone_342 : decode cL_isDone 342 = .ok (.if_icmp .ge 116, 3) := by decide +kernel
theorem dL_isDone_345 : decode cL_isDone 345 = .ok (.iload 15, 2) := by decide +kernel
theorem dL_isDone_347 : decode cL_isDone 347 = .ok (.bipush 20, 2) := by decide +kernel
theorem dL_isDone_349 : decode cL_isDone 349 = .ok (.irem, 1) := by decide +kernel
theorem dL_isDone_350 : decode cL_isDone 350 = .ok (.ifCond .eq 10, 3) := by decide +kernel
theorem dL_isDone_353 : decode cL_isDone 353 = .ok (.aload 6, 2) := by decide +kernel
theorem dL_isDone_355 : decode cL_isDone 355 = .ok (.iconst 2, 1) := by decide +kernel
theorem dL_isDone_356 : decode cL_isDone 356 = .ok (.iaload, 1) := by decide +kernel
theorem dL_isDone_357 : decode cL_isDone 357 = .ok (.ifCond .ne 10, 3) := by decide +kernel
theorem dL_isDone_360 : decode cL_isDone 360 = .ok (.aload 6, 2) := by decide +kernel
theorem dL_isDone_362 : decode cL_isDone 362 = .ok (.iconst 2, 1) := by decide +kernel
theorem dL_isDone_363 : decode cL_isDone 363 = .ok (.iaload, 1) := by decide +kernel
theorem dL_isDone_364 : decode cL_isDone 364 = .ok (.goto 10, 3) := by decide +kernel
theorem dL_isDone_367 : decode cL_isDone 367 = .ok (.iload 15, 2) := by decide +kernel
theorem dL_isDone_369 : decode cL_isDone 369 = .ok (.aload 6, 2) := by decide +kernel
theorem dL_isDone_371 : decode cL_isDone 371 = .ok (.iconst 2, 1) := by decide +kernel
theorem dL_isDone_372 : decode cL_isDone 372 = .ok (.iaload, 1) := by decide +kernel
theorem dL_isDone_373 : decode cL_isDone 373 = .ok (.irem, 1) := by decide +kernel
theorem dL_isDone_374 : decode cL_isDone 374 = .ok (.istore 18, 2) := by decide +kernel
theorem dL_isDone_376 : decode cL_isDone 376 = .ok (.aload_n 0, 1) := by decide +kernel
theorem dL_isDone_377 : decode cL_isDone 377 = .ok (.aload_n 3, 1) := by decide +kernel
theorem dL_isDone_378 : decode cL_isDone 378 = .ok (.aload 5, 2) := by decide +kernel
theorem dL_isDone_380 : decode cL_isDone 380 = .ok (.aload 6, 2) := by decide +kernel
theorem dL_isDone_382 : decode cL_isDone 382 = .ok (.aload 7, 2) := by decide +kernel
theorem dL_isDone_384 : decode cL_isDone 384 = .ok (.aload 8, 2) := by decide +kernel
theorem dL_isDone_386 : decode cL_isDone 386 = .ok (.aload 10, 2) := by decide +kernel
theorem dL_isDone_388 : decode cL_isDone 388 = .ok (.iload 18, 2) := by decide +kernel
theorem dL_isDone_390 : decode cL_isDone 390 = .ok (.iload 16, 2) := by decide +kernel
theorem dL_isDone_392 : decode cL_isDone 392 = .ok (.bipush 7, 2) := by decide +kernel
theorem dL_isDone_394 : decode cL_isDone 394 = .ok (.irem, 1) := by decide +kernel
theorem dL_isDone_395 : decode cL_isDone 395 = .ok (.iload 17, 2) := by decide +kernel
theorem dL_isDone_397 : decode cL_isDone 397 = .ok (.bipush 9, 2) := by decide +kernel
theorem dL_isDone_399 : decode cL_isDone 399 = .ok (.irem, 1) := by decide +kernel
theorem dL_isDone_400 : decode cL_isDone 400 = .ok (.ifCond .ne 7, 3) := by decide +kernel
theorem dL_isDone_403 : decode cL_isDone 403 = .ok (.iconst (-1), 1) := by decide +kernel
theorem dL_isDone_404 : decode cL_isDone 404 = .ok (.goto 50, 3) := by decide +kernel
theorem dL_isDone_407 : decode cL_isDone 407 = .ok (.iload 17, 2) := by decide +kernel
theorem dL_isDone_409 : decode cL_isDone 409 = .ok (.bipush 9, 2) := by decide +kernel
theorem dL_isDone_411 : decode cL_isDone 411 = .ok (.irem, 1) := by decide +kernel
theorem dL_isDone_412 : decode cL_isDone 412 = .ok (.iconst 3, 1) := by decide +kernel
theorem dL_isDone_413 : decode cL_isDone 413 = .ok (.if_icmp .ge 13, 3) := by decide +kernel
theorem dL_isDone_416 : decode cL_isDone 416 = .ok (.iload 17, 2) := by decide +kernel
theorem dL_isDone_418 : decode cL_isDone 418 = .ok (.bipush 9, 2) := by decide +kernel
theorem dL_isDone_420 : decode cL_isDone 420 = .ok (.idiv, 1) := by decide +kernel
theorem dL_isDone_421 : decode cL_isDone 421 = .ok (.iconst 2, 1) := by decide +kernel
theorem dL_isDone_422 : decode cL_isDone 422 = .ok (.irem, 1) := by decide +kernel
theorem dL_isDone_423 : decode cL_isDone 423 = .ok (.goto 31, 3) := by decide +kernel
theorem dL_isDone_426 : decode cL_isDone 426 = .ok (.iload 17, 2) := by decide +kernel
theorem dL_isDone_428 : decode cL_isDone 428 = .ok (.bipush 9, 2) := by decide +kernel
theorem dL_isDone_430 : decode cL_isDone 430 = .ok (.irem, 1) := by decide +kernel
theorem dL_isDone_431 : decode cL_isDone 431 = .ok (.bipush 6, 2) := by decide +kernel
theorem dL_isDone_433 : decode cL_isDone 433 = .ok (.if_icmp .ge 15, 3) := by decide +kernel
theorem dL_isDone_436 : decode cL_isDone 436 = .ok (.iload 17, 2) := by decide +kernel
theorem dL_isDone_438 : decode cL_isDone 438 = .ok (.bipush 9, 2) := by decide +kernel
theorem dL_isDone_440 : decode cL_isDone 440 = .ok (.idiv, 1) := by decide +kernel
theorem dL_isDone_441 : decode cL_isDone 441 = .ok (.sipush 1000, 3) := by decide +kernel
theorem dL_isDone_444 : decode cL_isDone 444 = .ok (.irem, 1) := by decide +kernel
theorem dL_isDone_445 : decode cL_isDone 445 = .ok (.goto 9, 3) := by decide +kernel
theorem dL_isDone_448 : decode cL_isDone 448 = .ok (.iload 17, 2) := by decide +kernel
theorem dL_isDone_450 : decode cL_isDone 450 = .ok (.sipush 10001, 3) := by decide +kernel
theorem dL_isDone_453 : decode cL_isDone 453 = .ok (.irem, 1) := by decide +kernel
theorem dL_isDone_454 : decode cL_isDone 454 = .ok (.invokestatic 167, 3) := by decide +kernel
theorem dL_isDone_457 : decode cL_isDone 457 = .ok (.ireturn, 1) := by decide +kernel
theorem dL_isDone_458 : decode cL_isDone 458 = .ok (.iload 14, 2) := by decide +kernel
theorem dL_isDone_460 : decode cL_isDone 460 = .ok (.bipush 29, 2) := by decide +kernel
theorem dL_isDone_462 : decode cL_isDone 462 = .ok (.if_icmp .ge 155, 3) := by decide +kernel
theorem dL_isDone_465 : decode cL_isDone 465 = .ok (.iload 15, 2) := by decide +kernel
theorem dL_isDone_467 : decode cL_isDone 467 = .ok (.bipush 20, 2) := by decide +kernel
theorem dL_isDone_469 : decode cL_isDone 469 = .ok (.irem, 1) := by decide +kernel
theorem dL_isDone_470 : decode cL_isDone 470 = .ok (.ifCond .ne 12, 3) := by decide +kernel
theorem dL_isDone_473 : decode cL_isDone 473 = .ok (.aload 6, 2) := by decide +kernel
theorem dL_isDone_475 : decode cL_isDone 475 = .ok (.iconst 0, 1) := by decide +kernel
theorem dL_isDone_476 : decode cL_isDone 476 = .ok (.iaload, 1) := by decide +kernel
theorem dL_isDone_477 : decode cL_isDone 477 = .ok (.iconst 1, 1) := by decide +kernel
theorem dL_isDone_478 : decode cL_isDone 478 = .ok (.iadd, 1) := by decide +kernel
theorem dL_isDone_479 : decode cL_isDone 479 = .ok (.goto 12, 3) := by decide +kernel
theorem dL_isDone_482 : decode cL_isDone 482 = .ok (.iload 15, 2) := by decide +kernel
theorem dL_isDone_484 : decode cL_isDone 484 = .ok (.aload 6, 2) := by decide +kernel
theorem dL_isDone_486 : decode cL_isDone 486 = .ok (.iconst 0, 1) := by decide +kernel
theorem dL_isDone_487 : decode cL_isDone 487 = .ok (.iaload, 1) := by decide +kernel
theorem dL_isDone_488 : decode cL_isDone 488 = .ok (.iconst 1, 1) := by decide +kernel
theorem dL_isDone_489 : decode cL_isDone 489 = .ok (.iadd, 1) := by decide +kernel
theorem dL_isDone_490 : decode cL_isDone 490 = .ok (.irem, 1) := by decide +kernel
theorem dL_isDone_491 : decode cL_isDone 491 = .ok (.istore 18, 2) := by decide +kernel
theorem dL_isDone_493 : decode cL_isDone 493 = .ok (.iload 18, 2) := by decide +kernel
theorem dL_isDone_495 : decode cL_isDone 495 = .ok (.aload 6, 2) := by decide +kernel
theorem dL_isDone_497 : decode cL_isDone 497 = .ok (.iconst 0, 1) := by decide +kernel
theorem dL_isDone_498 : decode cL_isDone 498 = .ok (.iaload, 1) := by decide +kernel
theorem dL_isDone_499 : decode cL_isDone 499 = .ok (.if_icmp .gt 32, 3) := by decide +kernel
theorem dL_isDone_502 : decode cL_isDone 502 = .ok (.aload 6, 2) := by decide +kernel
theorem dL_isDone_504 : decode cL_isDone 504 = .ok (.iconst 3, 1) := by decide +kernel
theorem dL_isDone_505 : decode cL_isDone 505 = .ok (.iaload, 1) := by decide +kernel
theorem dL_isDone_506 : decode cL_isDone 506 = .ok (.iconst 3, 1) := by decide +kernel
theorem dL_isDone_507 : decode cL_isDone 507 = .ok (.if_icmp .ne 24, 3) := by decide +kernel
theorem dL_isDone_510 : decode cL_isDone 510 = .ok (.aload_n 0, 1) := by decide +kernel
theorem dL_isDone_511 : decode cL_isDone 511 = .ok (.iconst 0, 1) := by decide +kernel
theorem dL_isDone_512 : decode cL_isDone 512 = .ok (.invokevirtual 74, 3) := by decide +kernel
theorem dL_isDone_515 : decode cL_isDone 515 = .ok (.bipush 100, 2) := by decide +kernel
theorem dL_isDone_517 : decode cL_isDone 517 = .ok (.aload 6, 2) := by decide +kernel
theorem dL_isDone_519 : decode cL_isDone 519 = .ok (.iconst 0, 1) := by decide +kernel
theorem dL_isDone_520 : decode cL_isDone 520 = .ok (.iaload, 1) := by decide +kernel
theorem dL_isDone_521 : decode cL_isDone 521 = .ok (.imul, 1) := by decide +kernel
theorem dL_isDone_522 : decode cL_isDone 522 = .ok (.if_icmp .ne 7, 3) := by decide +kernel
theorem dL_isDone_525 : decode cL_isDone 525 = .ok (.iconst 1, 1) := by decide +kernel
theorem dL_isDone_526 : decode cL_isDone 526 = .ok (.goto 4, 3) := by decide +kernel
theorem dL_isDone_529 : decode cL_isDone 529 = .ok (.iconst 0, 1) := by decide +kernel
theorem dL_isDone_530 : decode cL_isDone 530 = .ok (.ireturn, 1) := by decide +kernel
theorem dL_isDone_531 : decode cL_isDone 531 = .ok (.iload 18, 2) := by decide +kernel
theorem dL_isDone_533 : decode cL_isDone 533 = .ok (.aload 6, 2) := by decide +kernel
theorem dL_isDone_535 : decode cL_isDone 535 = .ok (.iconst 0, 1) := by decide +kernel
theorem dL_isDone_536 : decode cL_isDone 536 = .ok (.iaload, 1) := by decide +kernel
theorem dL_isDone_537 : decode cL_isDone 537 = .ok (.if_icmp .le 9, 3) := by decide +kernel
theorem dL_isDone_540 : decode cL_isDone 540 = .ok (.sipush (-300), 3) := by decide +kernel
theorem dL_isDone_543 : decode cL_isDone 543 = .ok (.goto 7, 3) := by decide +kernel
theorem dL_isDone_546 : decode cL_isDone 546 = .ok (.aload 6, 2) := by decide +kernel
theorem dL_isDone_548 : decode cL_isDone 548 = .ok (.iconst 3, 1) := by decide +kernel
theorem dL_isDone_549 : decode cL_isDone 549 = .ok (.iaload, 1) := by decide +kernel
theorem dL_isDone_550 : decode cL_isDone 550 = .ok (.istore 19, 2) := by decide +kernel
theorem dL_isDone_552 : decode cL_isDone 552 = .ok (.iload 19, 2) := by decide +kernel
theorem dL_isDone_554 : decode cL_isDone 554 = .ok (.ifCond .lt 40, 3) := by decide +kernel
theorem dL_isDone_557 : decode cL_isDone 557 = .ok (.aload 10, 2) := by decide +kernel
theorem dL_isDone_559 : decode cL_isDone 559 = .ok (.iconst 3, 1) := by decide +kernel
theorem dL_isDone_560 : decode cL_isDone 560 = .ok (.iload 19, 2) := by decide +kernel
theorem dL_isDone_562 : decode cL_isDone 562 = .ok (.imul, 1) := by decide +kernel
theorem dL_isDone_563 : decode cL_isDone 563 = .ok (.iload 18, 2) := by decide +kernel
theorem dL_isDone_565 : decode cL_isDone 565 = .ok (.iastore, 1) := by decide +kernel
theorem dL_isDone_566 : decode cL_isDone 566 = .ok (.aload 10, 2) := by decide +kernel
theorem dL_isDone_568 : decode cL_isDone 568 = .ok (.iconst 3, 1) := by decide +kernel
theorem dL_isDone_569 : decode cL_isDone 569 = .ok (.iload 19, 2) := by decide +kernel
theorem dL_isDone_571 : decode cL_isDone 571 = .ok (.imul, 1) := by decide +kernel
theorem dL_isDone_572 : decode cL_isDone 572 = .ok (.iconst 1, 1) := by decide +kernel
theorem dL_isDone_573 : decode cL_isDone 573 = .ok (.iadd, 1) := by decide +kernel
theorem dL_isDone_574 : decode cL_isDone 574 = .ok (.iconst (-1), 1) := by decide +kernel
theorem dL_isDone_575 : decode cL_isDone 575 = .ok (.iastore, 1) := by decide +kernel
theorem dL_isDone_576 : decode cL_isDone 576 = .ok (.aload 10, 2) := by decide +kernel
theorem dL_isDone_578 : decode cL_isDone 578 = .ok (.iconst 3, 1) := by decide +kernel
theorem dL_isDone_579 : decode cL_isDone 579 = .ok (.iload 19, 2) := by decide +kernel
theorem dL_isDone_581 : decode cL_isDone 581 = .ok (.imul, 1) := by decide +kernel
theorem dL_isDone_582 : decode cL_isDone 582 = .ok (.iconst 2, 1) := by decide +kernel
theorem dL_isDone_583 : decode cL_isDone 583 = .ok (.iadd, 1) := by decide +kernel
theorem dL_isDone_584 : decode cL_isDone 584 = .ok (.iconst 0, 1) := by decide +kernel
theorem dL_isDone_585 : decode cL_isDone 585 = .ok (.iastore, 1) := by decide +kernel
theorem dL_isDone_586 : decode cL_isDone 586 = .ok (.aload 6, 2) := by decide +kernel
theorem dL_isDone_588 : decode cL_isDone 588 = .ok (.iconst 3, 1) := by decide +kernel
theorem dL_isDone_589 : decode cL_isDone 589 = .ok (.dup2, 1) := by decide +kernel
theorem dL_isDone_590 : decode cL_isDone 590 = .ok (.iaload, 1) := by decide +kernel
theorem dL_isDone_591 : decode cL_isDone 591 = .ok (.iconst 1, 1) := by decide +kernel
theorem dL_isDone_592 : decode cL_isDone 592 = .ok (.iadd, 1) := by decide +kernel
theorem dL_isDone_593 : decode cL_isDone 593 = .ok (.iastore, 1) := by decide +kernel
theorem dL_isDone_594 : decode cL_isDone 594 = .ok (.aload_n 0, 1) := by decide +kernel
theorem dL_isDone_595 : decode cL_isDone 595 = .ok (.bipush 9, 2) := by decide +kernel
theorem dL_isDone_597 : decode cL_isDone 597 = .ok (.iconst 0, 1) := by decide +kernel
theorem dL_isDone_598 : decode cL_isDone 598 = .ok (.iload 18, 2) := by decide +kernel
theorem dL_isDone_600 : decode cL_isDone 600 = .ok (.iconst 0, 1) := by decide +kernel
theorem dL_isDone_601 : decode cL_isDone 601 = .ok (.iconst 0, 1) := by decide +kernel
theorem dL_isDone_602 : decode cL_isDone 602 = .ok (.iconst 0, 1) := by decide +kernel
theorem dL_isDone_603 : decode cL_isDone 603 = .ok (.invokestatic 149, 3) := by decide +kernel
theorem dL_isDone_606 : decode cL_isDone 606 = .ok (.iload 19, 2) := by decide +kernel
theorem dL_isDone_608 : decode cL_isDone 608 = .ok (.if_icmp .ne 7, 3) := by decide +kernel
theorem dL_isDone_611 : decode cL_isDone 611 = .ok (.iconst 1, 1) := by decide +kernel
theorem dL_isDone_612 : decode cL_isDone 612 = .ok (.goto 4, 3) := by decide +kernel
theorem dL_isDone_615 : decode cL_isDone 615 = .ok (.iconst 0, 1) := by decide +kernel
theorem dL_isDone_616 : decode cL_isDone 616 = .ok (.ireturn, 1) := by decide +kernel
theorem dL_isDone_617 : decode cL_isDone 617 = .ok (.iload 15, 2) := by decide +kernel
theorem dL_isDone_619 : decode cL_isDone 619 = .ok (.bipush 20, 2) := by decide +kernel
theorem dL_isDone_621 : decode cL_isDone 621 = .ok (.irem, 1) := by decide +kernel
theorem dL_isDone_622 : decode cL_isDone 622 = .ok (.ifCond .eq 10, 3) := by decide +kernel
theorem dL_isDone_625 : decode cL_isDone 625 = .ok (.aload 6, 2) := by decide +kernel
theorem dL_isDone_627 : decode cL_isDone 627 = .ok (.iconst 3, 1) := by decide +kernel
theorem dL_isDone_628 : decode cL_isDone 628 = .ok (.iaload, 1) := by decide +kernel
theorem dL_isDone_629 : decode cL_isDone 629 = .ok (.ifCond .ne 10, 3) := by decide +kernel
theorem dL_isDone_632 : decode cL_isDone 632 = .ok (.aload 6, 2) := by decide +kernel
theorem dL_isDone_634 : decode cL_isDone 634 = .ok (.iconst 3, 1) := by decide +kernel
theorem dL_isDone_635 : decode cL_isDone 635 = .ok (.iaload, 1) := by decide +kernel
theorem dL_isDone_636 : decode cL_isDone 636 = .ok (.goto 10, 3) := by decide +kernel
theorem dL_isDone_639 : decode cL_isDone 639 = .ok (.iload 15, 2) := by decide +kernel
theorem dL_isDone_641 : decode cL_isDone 641 = .ok (.aload 6, 2) := by decide +kernel
theorem dL_isDone_643 : decode cL_isDone 643 = .ok (.iconst 3, 1) := by decide +kernel
theorem dL_isDone_644 : decode cL_isDone 644 = .ok (.iaload, 1) := by decide +kernel
theorem dL_isDone_645 : decode cL_isDone 645 = .ok (.irem, 1) := by decide +kernel
theorem dL_isDone_646 : decode cL_isDone 646 = .ok (.istore 18, 2) := by decide +kernel
theorem dL_isDone_648 : decode cL_isDone 648 = .ok (.iload 14, 2) := by decide +kernel
theorem dL_isDone_650 : decode cL_isDone 650 = .ok (.bipush 36, 2) := by decide +kernel
theorem dL_isDone_652 : decode cL_isDone 652 = .ok (.if_icmp .ge 33, 3) := by decide +kernel
theorem dL_isDone_655 : decode cL_isDone 655 = .ok (.aload_n 0, 1) := by decide +kernel
theorem dL_isDone_656 : decode cL_isDone 656 = .ok (.aload_n 3, 1) := by decide +kernel
theorem dL_isDone_657 : decode cL_isDone 657 = .ok (.aload 4, 2) := by decide +kernel
theorem dL_isDone_659 : decode cL_isDone 659 = .ok (.aload 5, 2) := by decide +kernel
theorem dL_isDone_661 : decode cL_isDone 661 = .ok (.aload 6, 2) := by decide +kernel
theorem dL_isDone_663 : decode cL_isDone 663 = .ok (.aload 7, 2) := by decide +kernel
theorem dL_isDone_665 : decode cL_isDone 665 = .ok (.aload 8, 2) := by decide +kernel
theorem dL_isDone_667 : decode cL_isDone 667 = .ok (.aload 9, 2) := by decide +kernel
theorem dL_isDone_669 : decode cL_isDone 669 = .ok (.aload 10, 2) := by decide +kernel
theorem dL_isDone_671 : decode cL_isDone 671 = .ok (.aload 11, 2) := by decide +kernel
theorem dL_isDone_673 : decode cL_isDone 673 = .ok (.aload 12, 2) := by decide +kernel
theorem dL_isDone_675 : decode cL_isDone 675 = .ok (.aload 13, 2) := by decide +kernel
theorem dL_isDone_677 : decode cL_isDone 677 = .ok (.iload 18, 2) := by decide +kernel
theorem dL_isDone_679 : decode cL_isDone 679 = .ok (.invokestatic 171, 3) := by decide +kernel
theorem dL_isDone_682 : decode cL_isDone 682 = .ok (.goto 23, 3) := by decide +kernel
theorem dL_isDone_685 : decode cL_isDone 685 = .ok (.aload_n 0, 1) := by decide +kernel
theorem dL_isDone_686 : decode cL_isDone 686 = .ok (.aload 7, 2) := by decide +kernel
theorem dL_isDone_688 : decode cL_isDone 688 = .ok (.aload 8, 2) := by decide +kernel
theorem dL_isDone_690 : decode cL_isDone 690 = .ok (.aload 9, 2) := by decide +kernel
theorem dL_isDone_692 : decode cL_isDone 692 = .ok (.aload 6, 2) := by decide +kernel
theorem dL_isDone_694 : decode cL_isDone 694 = .ok (.aload 10, 2) := by decide +kernel
theorem dL_isDone_696 : decode cL_isDone 696 = .ok (.aload 12, 2) := by decide +kernel
theorem dL_isDone_698 : decode cL_isDone 698 = .ok (.aload 13, 2) := by decide +kernel
theorem dL_isDone_700 : decode cL_isDone 700 = .ok (.iload 18, 2) := by decide +kernel
theorem dL_isDone_702 : decode cL_isDone 702 = .ok (.invokestatic 175, 3) := by decide +kernel
theorem dL_isDone_705 : decode cL_isDone 705 = .ok (.ireturn, 1) := by decide +kernel
theorem dL_law_0 : decode cL_law 0 = .ok (.new 9, 3) := by decide +kernel
theorem dL_law_3 : decode cL_law 3 = .ok (.dup, 1) := by decide +kernel
theorem dL_law_4 : decode cL_law 4 = .ok (.invokespecial 179, 3) := by decide +kernel
theorem dL_law_7 : decode cL_law 7 = .ok (.astore_n 1, 1) := by decide +kernel
theorem dL_law_8 : decode cL_law 8 = .ok (.bipush 13, 2) := by decide +kernel
theorem dL_law_10 : decode cL_law 10 = .ok (.newarray .long, 2) := by decide +kernel
theorem dL_law_12 : decode cL_law 12 = .ok (.astore_n 2, 1) := by decide +kernel
theorem dL_law_13 : decode cL_law 13 = .ok (.bipush 13, 2) := by decide +kernel
theorem dL_law_15 : decode cL_law 15 = .ok (.newarray .int, 2) := by decide +kernel
theorem dL_law_17 : decode cL_law 17 = .ok (.astore_n 3, 1) := by decide +kernel
theorem dL_law_18 : decode cL_law 18 = .ok (.bipush 12, 2) := by decide +kernel
theorem dL_law_20 : decode cL_law 20 = .ok (.newarray .int, 2) := by decide +kernel
theorem dL_law_22 : decode cL_law 22 = .ok (.astore 4, 2) := by decide +kernel
theorem dL_law_24 : decode cL_law 24 = .ok (.iconst 4, 1) := by decide +kernel
theorem dL_law_25 : decode cL_law 25 = .ok (.newarray .int, 2) := by decide +kernel
theorem dL_law_27 : decode cL_law 27 = .ok (.astore 5, 2) := by decide +kernel
theorem dL_law_29 : decode cL_law 29 = .ok (.bipush 50, 2) := by decide +kernel
theorem dL_law_31 : decode cL_law 31 = .ok (.newarray .int, 2) := by decide +kernel
theorem dL_law_33 : decode cL_law 33 = .ok (.astore 6, 2) := by decide +kernel
theorem dL_law_35 : decode cL_law 35 = .ok (.bipush 10, 2) := by decide +kernel
theorem dL_law_37 : decode cL_law 37 = .ok (.newarray .int, 2) := by decide +kernel
theorem dL_law_39 : decode cL_law 39 = .ok (.astore 7, 2) := by decide +kernel
theorem dL_law_41 : decode cL_law 41 = .ok (.bipush 64, 2) := by decide +kernel
theorem dL_law_43 : decode cL_law 43 = .ok (.newarray .long, 2) := by decide +kernel
theorem dL_law_45 : decode cL_law 45 = .ok (.astore 8, 2) := by decide +kernel
theorem dL_law_47 : decode cL_law 47 = .ok (.bipush 9, 2) := by decide +kernel
theorem dL_law_49 : decode cL_law 49 = .ok (.newarray .int, 2) := by decide +kernel
theorem dL_law_51 : decode cL_law 51 = .ok (.astore 9, 2) := by decide +kernel
theorem dL_law_53 : decode cL_law 53 = .ok (.iconst 2, 1) := by decide +kernel
theorem dL_law_54 : decode cL_law 54 = .ok (.newarray .int, 2) := by decide +kernel
theorem dL_law_56 : decode cL_law 56 = .ok (.astore 10, 2) := by decide +kernel
theorem dL_law_58 : decode cL_law 58 = .ok (.bipush 36, 2) := by decide +kernel
theorem dL_law_60 : decode cL_law 60 = .ok (.newarray .int, 2) := by decide +kernel
theorem dL_law_62 : decode cL_law 62 = .ok (.astore 11, 2) := by decide +kernel
theorem dL_law_64 : decode cL_law 64 = .ok (.bipush 39, 2) := by decide +kernel
theorem dL_law_66 : decode cL_law 66 = .ok (.newarray .long, 2) := by decide +kernel
theorem dL_law_68 : decode cL_law 68 = .ok (.astore 12, 2) := by decide +kernel
theorem dL_law_70 : decode cL_law 70 = .ok (.aload_n 1, 1) := by decide +kernel
theorem dL_law_71 : decode cL_law 71 = .ok (.iconst 5, 1) := by decide +kernel
theorem dL_law_72 : decode cL_law 72 = .ok (.iconst 0, 1) := by decide +kernel
theorem dL_law_73 : decode cL_law 73 = .ok (.iconst 0, 1) := by decide +kernel
theorem dL_law_74 : decode cL_law 74 = .ok (.iconst 0, 1) := by decide +kernel
theorem dL_law_75 : decode cL_law 75 = .ok (.invokestatic 119, 3) := by decide +kernel
theorem dL_law_78 : decode cL_law 78 = .ok (.sipush (-300), 3) := by decide +kernel
theorem dL_law_81 : decode cL_law 81 = .ok (.if_icmp .ne 14, 3) := by decide +kernel
theorem dL_law_84 : decode cL_law 84 = .ok (.aload_n 1, 1) := by decide +kernel
theorem dL_law_85 : decode cL_law 85 = .ok (.invokevirtual 180, 3) := by decide +kernel
theorem dL_law_88 : decode cL_law 88 = .ok (.ifCond .ne 7, 3) := by decide +kernel
theorem dL_law_91 : decode cL_law 91 = .ok (.iconst 1, 1) := by decide +kernel
theorem dL_law_92 : decode cL_law 92 = .ok (.goto 4, 3) := by decide +kernel
theorem dL_law_95 : decode cL_law 95 = .ok (.iconst 0, 1) := by decide +kernel
theorem dL_law_96 : decode cL_law 96 = .ok (.istore 13, 2) := by decide +kernel
theorem dL_law_98 : decode cL_law 98 = .ok (.iconst 0, 1) := by decide +kernel
theorem dL_law_99 : decode cL_law 99 = .ok (.istore 14, 2) := by decide +kernel
theorem dL_law_101 : decode cL_law 101 = .ok (.iload 14, 2) := by decide +kernel
theorem dL_law_103 : decode cL_law 103 = .ok (.bipush 58, 2) := by decide +kernel
theorem dL_law_105 : decode cL_law 105 = .ok (.if_icmp .ge 119, 3) := by decide +kernel
theorem dL_law_108 : decode cL_law 108 = .ok (.iload 13, 2) := by decide +kernel
theorem dL_law_110 : decode cL_law 110 = .ok (.ifCond .eq 114, 3) := by decide +kernel
theorem dL_law_113 : decode cL_law 113 = .ok (.aload_n 1, 1) := by decide +kernel
theorem dL_law_114 : decode cL_law 114 = .ok (.aload_n 0, 1) := by decide +kernel
theorem dL_law_115 : decode cL_law 115 = .ok (.iconst 4, 1) := by decide +kernel
theorem dL_law_116 : decode cL_law 116 = .ok (.iload 14, 2) := by decide +kernel
theorem dL_law_118 : decode cL_law 118 = .ok (.imul, 1) := by decide +kernel
theorem dL_law_119 : decode cL_law 119 = .ok (.aload_n 2, 1) := by decide +kernel
theorem dL_law_120 : decode cL_law 120 = .ok (.aload_n 3, 1) := by decide +kernel
theorem dL_law_121 : decode cL_law 121 = .ok (.aload 4, 2) := by decide +kernel
theorem dL_law_123 : decode cL_law 123 = .ok (.aload 5, 2) := by decide +kernel
theorem dL_law_125 : decode cL_law 125 = .ok (.aload 6, 2) := by decide +kernel
theorem dL_law_127 : decode cL_law 127 = .ok (.aload 7, 2) := by decide +kernel
theorem dL_law_129 : decode cL_law 129 = .ok (.aload 8, 2) := by decide +kernel
theorem dL_law_131 : decode cL_law 131 = .ok (.aload 9, 2) := by decide +kernel
theorem dL_law_133 : decode cL_law 133 = .ok (.aload 10, 2) := by decide +kernel
theorem dL_law_135 : decode cL_law 135 = .ok (.aload 11, 2) := by decide +kernel
theorem dL_law_137 : decode cL_law 137 = .ok (.aload 12, 2) := by decide +kernel
theorem dL_law_139 : decode cL_law 139 = .ok (.invokestatic 184, 3) := by decide +kernel
theorem dL_law_142 : decode cL_law 142 = .ok (.ifCond .eq 73, 3) := by decide +kernel
theorem dL_law_145 : decode cL_law 145 = .ok (.aload_n 1, 1) := by decide +kernel
theorem dL_law_146 : decode cL_law 146 = .ok (.aload_n 2, 1) := by decide +kernel
theorem dL_law_147 : decode cL_law 147 = .ok (.aload_n 3, 1) := by decide +kernel
theorem dL_law_148 : decode cL_law 148 = .ok (.aload 4, 2) := by decide +kernel
theorem dL_law_150 : decode cL_law 150 = .ok (.aload 5, 2) := by decide +kernel
theorem dL_law_152 : decode cL_law 152 = .ok (.aload_n 0, 1) := by decide +kernel
theorem dL_law_153 : decode cL_law 153 = .ok (.iconst 4, 1) := by decide +kernel
theorem dL_law_154 : decode cL_law 154 = .ok (.iload 14, 2) := by decide +kernel
theorem dL_law_156 : decode cL_law 156 = .ok (.imul, 1) := by decide +kernel
theorem dL_law_157 : decode cL_law 157 = .ok (.iconst 1, 1) := by decide +kernel
theorem dL_law_158 : decode cL_law 158 = .ok (.iadd, 1) := by decide +kernel
theorem dL_law_159 : decode cL_law 159 = .ok (.aload 5, 2) := by decide +kernel
theorem dL_law_161 : decode cL_law 161 = .ok (.iconst 0, 1) := by decide +kernel
theorem dL_law_162 : decode cL_law 162 = .ok (.iaload, 1) := by decide +kernel
theorem dL_law_163 : decode cL_law 163 = .ok (.iconst 1, 1) := by decide +kernel
theorem dL_law_164 : decode cL_law 164 = .ok (.iadd, 1) := by decide +kernel
theorem dL_law_165 : decode cL_law 165 = .ok (.invokestatic 159, 3) := by decide +kernel
theorem dL_law_168 : decode cL_law 168 = .ok (.invokestatic 188, 3) := by decide +kernel
theorem dL_law_171 : decode cL_law 171 = .ok (.ifCond .eq 44, 3) := by decide +kernel
theorem dL_law_174 : decode cL_law 174 = .ok (.aload_n 1, 1) := by decide +kernel
theorem dL_law_175 : decode cL_law 175 = .ok (.aload_n 2, 1) := by decide +kernel
theorem dL_law_176 : decode cL_law 176 = .ok (.aload_n 3, 1) := by decide +kernel
theorem dL_law_177 : decode cL_law 177 = .ok (.aload 4, 2) := by decide +kernel
theorem dL_law_179 : decode cL_law 179 = .ok (.aload 5, 2) := by decide +kernel
theorem dL_law_181 : decode cL_law 181 = .ok (.aload 6, 2) := by decide +kernel
theorem dL_law_183 : decode cL_law 183 = .ok (.aload 7, 2) := by decide +kernel
theorem dL_law_185 : decode cL_law 185 = .ok (.aload 8, 2) := by decide +kernel
theorem dL_law_187 : decode cL_law 187 = .ok (.aload 10, 2) := by decide +kernel
theorem dL_law_189 : decode cL_law 189 = .ok (.aload_n 0, 1) := by decide +kernel
theorem dL_law_190 : decode cL_law 190 = .ok (.iconst 4, 1) := by decide +kernel
theorem dL_law_191 : decode cL_law 191 = .ok (.iload 14, 2) := by decide +kernel
theorem dL_law_193 : decode cL_law 193 = .ok (.imul, 1) := by decide +kernel
theorem dL_law_194 : decode cL_law 194 = .ok (.iconst 2, 1) := by decide +kernel
theorem dL_law_195 : decode cL_law 195 = .ok (.iadd, 1) := by decide +kernel
theorem dL_law_196 : decode cL_law 196 = .ok (.aload 5, 2) := by decide +kernel
theorem dL_law_198 : decode cL_law 198 = .ok (.iconst 0, 1) := by decide +kernel
theorem dL_law_199 : decode cL_law 199 = .ok (.iaload, 1) := by decide +kernel
theorem dL_law_200 : decode cL_law 200 = .ok (.iconst 1, 1) := by decide +kernel
theorem dL_law_201 : decode cL_law 201 = .ok (.iadd, 1) := by decide +kernel
theorem dL_law_202 : decode cL_law 202 = .ok (.invokestatic 159, 3) := by decide +kernel
theorem dL_law_205 : decode cL_law 205 = .ok (.invokestatic 192, 3) := by decide +kernel
theorem dL_law_208 : decode cL_law 208 = .ok (.ifCond .eq 7, 3) := by decide +kernel
theorem dL_law_211 : decode cL_law 211 = .ok (.iconst 1, 1) := by decide +kernel
theorem dL_law_212 : decode cL_law 212 = .ok (.goto 4, 3) := by decide +kernel
theorem dL_law_215 : decode cL_law 215 = .ok (.iconst 0, 1) := by decide +kernel
theorem dL_law_216 : decode cL_law 216 = .ok (.istore 13, 2) := by decide +kernel
theorem dL_law_218 : decode cL_law 218 = .ok (.iinc 14 1, 3) := by decide +kernel
theorem dL_law_221 : decode cL_law 221 = .ok (.goto (-120), 3) := by decide +kernel
theorem dL_law_224 : decode cL_law 224 = .ok (.iload 13, 2) := by decide +kernel
theorem dL_law_226 : decode cL_law 226 = .ok (.ifCond .eq 143, 3) := by decide +kernel
theorem dL_law_229 : decode cL_law 229 = .ok (.aload_n 1, 1) := by decide +kernel
theorem dL_law_230 : decode cL_law 230 = .ok (.iconst 0, 1) := by decide +kernel
theorem dL_law_231 : decode cL_law 231 = .ok (.iconst 1, 1) := by decide +kernel
theorem dL_law_232 : decode cL_law 232 = .ok (.bipush 26, 2) := by decide +kernel
theorem dL_law_234 : decode cL_law 234 = .ok (.iconst 0, 1) := by decide +kernel
theorem dL_law_235 : decode cL_law 235 = .ok (.iconst 0, 1) := by decide +kernel
theorem dL_law_236 : decode cL_law 236 = .ok (.iconst 0, 1) := by decide +kernel
theorem dL_law_237 : decode cL_law 237 = .ok (.invokestatic 149, 3) := by decide +kernel
theorem dL_law_240 : decode cL_law 240 = .ok (.sipush (-300), 3) := by decide +kernel
theorem dL_law_243 : decode cL_law 243 = .ok (.if_icmp .ne 126, 3) := by decide +kernel
theorem dL_law_246 : decode cL_law 246 = .ok (.aload_n 1, 1) := by decide +kernel
theorem dL_law_247 : decode cL_law 247 = .ok (.iconst 1, 1) := by decide +kernel
theorem dL_law_248 : decode cL_law 248 = .ok (.iconst 1, 1) := by decide +kernel
theorem dL_law_249 : decode cL_law 249 = .ok (.iconst 0, 1) := by decide +kernel
theorem dL_law_250 : decode cL_law 250 = .ok (.iconst 0, 1) := by decide +kernel
theorem dL_law_251 : decode cL_law 251 = .ok (.iconst 0, 1) := by decide +kernel
theorem dL_law_252 : decode cL_law 252 = .ok (.iconst 0, 1) := by decide +kernel
theorem dL_law_253 : decode cL_law 253 = .ok (.invokestatic 149, 3) := by decide +kernel
theorem dL_law_256 : decode cL_law 256 = .ok (.sipush (-300), 3) := by decide +kernel
theorem dL_law_259 : decode cL_law 259 = .ok (.if_icmp .ne 110, 3) := by decide +kernel
theorem dL_law_262 : decode cL_law 262 = .ok (.aload_n 1, 1) := by decide +kernel
theorem dL_law_263 : decode cL_law 263 = .ok (.iconst 3, 1) := by decide +kernel
theorem dL_law_264 : decode cL_law 264 = .ok (.iconst 0, 1) := by decide +kernel
theorem dL_law_265 : decode cL_law 265 = .ok (.bipush 26, 2) := by decide +kernel
theorem dL_law_267 : decode cL_law 267 = .ok (.iconst 0, 1) := by decide +kernel
theorem dL_law_268 : decode cL_law 268 = .ok (.iconst 0, 1) := by decide +kernel
theorem dL_law_269 : decode cL_law 269 = .ok (.iconst 0, 1) := by decide +kernel
theorem dL_law_270 : decode cL_law 270 = .ok (.invokestatic 149, 3) := by decide +kernel
theorem dL_law_273 : decode cL_law 273 = .ok (.sipush (-300), 3) := by decide +kernel
theorem dL_law_276 : decode cL_law 276 = .ok (.if_icmp .ne 93, 3) := by decide +kernel
theorem dL_law_279 : decode cL_law 279 = .ok (.aload_n 1, 1) := by decide +kernel
theorem dL_law_280 : decode cL_law 280 = .ok (.iconst 5, 1) := by decide +kernel
theorem dL_law_281 : decode cL_law 281 = .ok (.iconst (-1), 1) := by decide +kernel
theorem dL_law_282 : decode cL_law 282 = .ok (.iconst 0, 1) := by decide +kernel
theorem dL_law_283 : decode cL_law 283 = .ok (.iconst 0, 1) := by decide +kernel
theorem dL_law_284 : decode cL_law 284 = .ok (.iconst 0, 1) := by decide +kernel
theorem dL_law_285 : decode cL_law 285 = .ok (.iconst 0, 1) := by decide +kernel
theorem dL_law_286 : decode cL_law 286 = .ok (.invokestatic 149, 3) := by decide +kernel
theorem dL_law_289 : decode cL_law 289 = .ok (.sipush (-300), 3) := by decide +kernel
theorem dL_law_292 : decode cL_law 292 = .ok (.if_icmp .ne 77, 3) := by decide +kernel
theorem dL_law_295 : decode cL_law 295 = .ok (.aload_n 1, 1) := by decide +kernel
theorem dL_law_296 : decode cL_law 296 = .ok (.bipush 7, 2) := by decide +kernel
theorem dL_law_298 : decode cL_law 298 = .ok (.iconst 0, 1) := by decide +kernel
theorem dL_law_299 : decode cL_law 299 = .ok (.iconst (-1), 1) := by decide +kernel
theorem dL_law_300 : decode cL_law 300 = .ok (.iconst 0, 1) := by decide +kernel
theorem dL_law_301 : decode cL_law 301 = .ok (.iconst 0, 1) := by decide +kernel
theorem dL_law_302 : decode cL_law 302 = .ok (.iconst 0, 1) := by decide +kernel
theorem dL_law_303 : decode cL_law 303 = .ok (.invokestatic 149, 3) := by decide +kernel
theorem dL_law_306 : decode cL_law 306 = .ok (.sipush (-300), 3) := by decide +kernel
theorem dL_law_309 : decode cL_law 309 = .ok (.if_icmp .ne 60, 3) := by decide +kernel
theorem dL_law_312 : decode cL_law 312 = .ok (.aload_n 1, 1) := by decide +kernel
theorem dL_law_313 : decode cL_law 313 = .ok (.bipush 8, 2) := by decide +kernel
theorem dL_law_315 : decode cL_law 315 = .ok (.bipush 20, 2) := by decide +kernel
theorem dL_law_317 : decode cL_law 317 = .ok (.iconst 0, 1) := by decide +kernel
theorem dL_law_318 : decode cL_law 318 = .ok (.iconst 0, 1) := by decide +kernel
theorem dL_law_319 : decode cL_law 319 = .ok (.iconst 0, 1) := by decide +kernel
theorem dL_law_320 : decode cL_law 320 = .ok (.iconst 0, 1) := by decide +kernel
theorem dL_law_321 : decode cL_law 321 = .ok (.invokestatic 149, 3) := by decide +kernel
theorem dL_law_324 : decode cL_law 324 = .ok (.sipush (-300), 3) := by decide +kernel
theorem dL_law_327 : decode cL_law 327 = .ok (.if_icmp .ne 42, 3) := by decide +kernel
theorem dL_law_330 : decode cL_law 330 = .ok (.aload_n 1, 1) := by decide +kernel
theorem dL_law_331 : decode cL_law 331 = .ok (.bipush 9, 2) := by decide +kernel
theorem dL_law_333 : decode cL_law 333 = .ok (.iconst 1, 1) := by decide +kernel
theorem dL_law_334 : decode cL_law 334 = .ok (.iconst 0, 1) := by decide +kernel
theorem dL_law_335 : decode cL_law 335 = .ok (.iconst 0, 1) := by decide +kernel
theorem dL_law_336 : decode cL_law 336 = .ok (.iconst 0, 1) := by decide +kernel
theorem dL_law_337 : decode cL_law 337 = .ok (.iconst 0, 1) := by decide +kernel
theorem dL_law_338 : decode cL_law 338 = .ok (.invokestatic 149, 3) := by decide +kernel
theorem dL_law_341 : decode cL_law 341 = .ok (.sipush (-300), 3) := by decide +kernel
theorem dL_law_344 : decode cL_law 344 = .ok (.if_icmp .ne 25, 3) := by decide +kernel
theorem dL_law_347 : decode cL_law 347 = .ok (.aload_n 1, 1) := by decide +kernel
theorem dL_law_348 : decode cL_law 348 = .ok (.bipush 11, 2) := by decide +kernel
theorem dL_law_350 : decode cL_law 350 = .ok (.bipush 8, 2) := by decide +kernel
theorem dL_law_352 : decode cL_law 352 = .ok (.iconst 0, 1) := by decide +kernel
theorem dL_law_353 : decode cL_law 353 = .ok (.iconst 0, 1) := by decide +kernel
theorem dL_law_354 : decode cL_law 354 = .ok (.iconst 0, 1) := by decide +kernel
theorem dL_law_355 : decode cL_law 355 = .ok (.iconst 0, 1) := by decide +kernel
theorem dL_law_356 : decode cL_law 356 = .ok (.invokestatic 149, 3) := by decide +kernel
theorem dL_law_359 : decode cL_law 359 = .ok (.sipush (-300), 3) := by decide +kernel
theorem dL_law_362 : decode cL_law 362 = .ok (.if_icmp .ne 7, 3) := by decide +kernel
theorem dL_law_365 : decode cL_law 365 = .ok (.iconst 1, 1) := by decide +kernel
theorem dL_law_366 : decode cL_law 366 = .ok (.goto 4, 3) := by decide +kernel
theorem dL_law_369 : decode cL_law 369 = .ok (.iconst 0, 1) := by decide +kernel
theorem dL_law_370 : decode cL_law 370 = .ok (.ireturn, 1) := by decide +kernel
