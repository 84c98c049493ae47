theorem dX9_way_316 : decode cX9_way 316 = .ok (.iinc 7 (-1), 3) := by decide +kernel
theorem dX9_way_319 : decode cX9_way 319 = .ok (.goto (-30), 3) := by decide +kernel
theorem dX9_way_322 : decode cX9_way 322 = .ok (.iinc 6 1, 3) := by decide +kernel
theorem dX9_way_325 : decode cX9_way 325 = .ok (.goto (-47), 3) := by decide +kernel
theorem dX9_way_328 : decode cX9_way 328 = .ok (.aload_n 3, 1) := by decide +kernel
theorem dX9_way_329 : decode cX9_way 329 = .ok (.areturn, 1) := by decide +kernel
theorem dX9_way_330 : decode cX9_way 330 = .ok (.iconst 0, 1) := by decide +kernel
theorem dX9_way_331 : decode cX9_way 331 = .ok (.istore 5, 2) := by decide +kernel
theorem dX9_way_333 : decode cX9_way 333 = .ok (.iload 5, 2) := by decide +kernel
theorem dX9_way_335 : decode cX9_way 335 = .ok (.iload_n 1, 1) := by decide +kernel
theorem dX9_way_336 : decode cX9_way 336 = .ok (.if_icmp .ge 38, 3) := by decide +kernel
theorem dX9_way_339 : decode cX9_way 339 = .ok (.aload 4, 2) := by decide +kernel
theorem dX9_way_341 : decode cX9_way 341 = .ok (.iload 5, 2) := by decide +kernel
theorem dX9_way_343 : decode cX9_way 343 = .ok (.iload_n 1, 1) := by decide +kernel
theorem dX9_way_344 : decode cX9_way 344 = .ok (.iconst 1, 1) := by decide +kernel
theorem dX9_way_345 : decode cX9_way 345 = .ok (.isub, 1) := by decide +kernel
theorem dX9_way_346 : decode cX9_way 346 = .ok (.iload 5, 2) := by decide +kernel
theorem dX9_way_348 : decode cX9_way 348 = .ok (.isub, 1) := by decide +kernel
theorem dX9_way_349 : decode cX9_way 349 = .ok (.iastore, 1) := by decide +kernel
theorem dX9_way_350 : decode cX9_way 350 = .ok (.aload_n 3, 1) := by decide +kernel
theorem dX9_way_351 : decode cX9_way 351 = .ok (.getfield 36, 3) := by decide +kernel
theorem dX9_way_354 : decode cX9_way 354 = .ok (.iload 5, 2) := by decide +kernel
theorem dX9_way_356 : decode cX9_way 356 = .ok (.iload_n 0, 1) := by decide +kernel
theorem dX9_way_357 : decode cX9_way 357 = .ok (.bipush 7, 2) := by decide +kernel
theorem dX9_way_359 : decode cX9_way 359 = .ok (.if_icmp .ne 7, 3) := by decide +kernel
theorem dX9_way_362 : decode cX9_way 362 = .ok (.iconst 1, 1) := by decide +kernel
theorem dX9_way_363 : decode cX9_way 363 = .ok (.goto 4, 3) := by decide +kernel
theorem dX9_way_366 : decode cX9_way 366 = .ok (.iconst 0, 1) := by decide +kernel
theorem dX9_way_367 : decode cX9_way 367 = .ok (.bastore, 1) := by decide +kernel
theorem dX9_way_368 : decode cX9_way 368 = .ok (.iinc 5 1, 3) := by decide +kernel
theorem dX9_way_371 : decode cX9_way 371 = .ok (.goto (-38), 3) := by decide +kernel
theorem dX9_way_374 : decode cX9_way 374 = .ok (.aload_n 3, 1) := by decide +kernel
theorem dX9_way_375 : decode cX9_way 375 = .ok (.areturn, 1) := by decide +kernel
theorem dX9_way_376 : decode cX9_way 376 = .ok (.iconst 0, 1) := by decide +kernel
theorem dX9_way_377 : decode cX9_way 377 = .ok (.istore 5, 2) := by decide +kernel
theorem dX9_way_379 : decode cX9_way 379 = .ok (.iload_n 2, 1) := by decide +kernel
theorem dX9_way_380 : decode cX9_way 380 = .ok (.iload_n 1, 1) := by decide +kernel
theorem dX9_way_381 : decode cX9_way 381 = .ok (.invokestatic 40, 3) := by decide +kernel
theorem dX9_way_384 : decode cX9_way 384 = .ok (.isub, 1) := by decide +kernel
theorem dX9_way_385 : decode cX9_way 385 = .ok (.istore 6, 2) := by decide +kernel
theorem dX9_way_387 : decode cX9_way 387 = .ok (.iconst 0, 1) := by decide +kernel
theorem dX9_way_388 : decode cX9_way 388 = .ok (.istore 7, 2) := by decide +kernel
theorem dX9_way_390 : decode cX9_way 390 = .ok (.iload 7, 2) := by decide +kernel
theorem dX9_way_392 : decode cX9_way 392 = .ok (.iload_n 2, 1) := by decide +kernel
theorem dX9_way_393 : decode cX9_way 393 = .ok (.if_icmp .ge 57, 3) := by decide +kernel
theorem dX9_way_396 : decode cX9_way 396 = .ok (.iload_n 1, 1) := by decide +kernel
theorem dX9_way_397 : decode cX9_way 397 = .ok (.iload 7, 2) := by decide +kernel
theorem dX9_way_399 : decode cX9_way 399 = .ok (.ishr, 1) := by decide +kernel
theorem dX9_way_400 : decode cX9_way 400 = .ok (.iconst 1, 1) := by decide +kernel
theorem dX9_way_401 : decode cX9_way 401 = .ok (.iand, 1) := by decide +kernel
theorem dX9_way_402 : decode cX9_way 402 = .ok (.iconst 1, 1) := by decide +kernel
theorem dX9_way_403 : decode cX9_way 403 = .ok (.if_icmp .ne 7, 3) := by decide +kernel
theorem dX9_way_406 : decode cX9_way 406 = .ok (.iconst 1, 1) := by decide +kernel
theorem dX9_way_407 : decode cX9_way 407 = .ok (.goto 4, 3) := by decide +kernel
theorem dX9_way_410 : decode cX9_way 410 = .ok (.iconst 0, 1) := by decide +kernel
theorem dX9_way_411 : decode cX9_way 411 = .ok (.istore 8, 2) := by decide +kernel
theorem dX9_way_413 : decode cX9_way 413 = .ok (.aload 4, 2) := by decide +kernel
theorem dX9_way_415 : decode cX9_way 415 = .ok (.iload 7, 2) := by decide +kernel
theorem dX9_way_417 : decode cX9_way 417 = .ok (.iload 8, 2) := by decide +kernel
theorem dX9_way_419 : decode cX9_way 419 = .ok (.ifCond .eq 8, 3) := by decide +kernel
theorem dX9_way_422 : decode cX9_way 422 = .ok (.iload 6, 2) := by decide +kernel
theorem dX9_way_424 : decode cX9_way 424 = .ok (.goto 5, 3) := by decide +kernel
theorem dX9_way_427 : decode cX9_way 427 = .ok (.iload 5, 2) := by decide +kernel
theorem dX9_way_429 : decode cX9_way 429 = .ok (.iastore, 1) := by decide +kernel
theorem dX9_way_430 : decode cX9_way 430 = .ok (.iload 8, 2) := by decide +kernel
theorem dX9_way_432 : decode cX9_way 432 = .ok (.ifCond .eq 9, 3) := by decide +kernel
theorem dX9_way_435 : decode cX9_way 435 = .ok (.iinc 6 1, 3) := by decide +kernel
theorem dX9_way_438 : decode cX9_way 438 = .ok (.goto 6, 3) := by decide +kernel
theorem dX9_way_441 : decode cX9_way 441 = .ok (.iinc 5 1, 3) := by decide +kernel
theorem dX9_way_444 : decode cX9_way 444 = .ok (.iinc 7 1, 3) := by decide +kernel
theorem dX9_way_447 : decode cX9_way 447 = .ok (.goto (-57), 3) := by decide +kernel
theorem dX9_way_450 : decode cX9_way 450 = .ok (.aload_n 3, 1) := by decide +kernel
theorem dX9_way_451 : decode cX9_way 451 = .ok (.areturn, 1) := by decide +kernel
theorem dX9_way_452 : decode cX9_way 452 = .ok (.iload_n 2, 1) := by decide +kernel
theorem dX9_way_453 : decode cX9_way 453 = .ok (.istore 5, 2) := by decide +kernel
theorem dX9_way_455 : decode cX9_way 455 = .ok (.iconst 0, 1) := by decide +kernel
theorem dX9_way_456 : decode cX9_way 456 = .ok (.istore 6, 2) := by decide +kernel
theorem dX9_way_458 : decode cX9_way 458 = .ok (.iconst 0, 1) := by decide +kernel
theorem dX9_way_459 : decode cX9_way 459 = .ok (.istore 7, 2) := by decide +kernel
theorem dX9_way_461 : decode cX9_way 461 = .ok (.iload 7, 2) := by decide +kernel
theorem dX9_way_463 : decode cX9_way 463 = .ok (.iload_n 2, 1) := by decide +kernel
theorem dX9_way_464 : decode cX9_way 464 = .ok (.if_icmp .ge 77, 3) := by decide +kernel
theorem dX9_way_467 : decode cX9_way 467 = .ok (.iload 7, 2) := by decide +kernel
theorem dX9_way_469 : decode cX9_way 469 = .ok (.iload_n 2, 1) := by decide +kernel
theorem dX9_way_470 : decode cX9_way 470 = .ok (.iconst 1, 1) := by decide +kernel
theorem dX9_way_471 : decode cX9_way 471 = .ok (.isub, 1) := by decide +kernel
theorem dX9_way_472 : decode cX9_way 472 = .ok (.if_icmp .ge 15, 3) := by decide +kernel
theorem dX9_way_475 : decode cX9_way 475 = .ok (.iload_n 1, 1) := by decide +kernel
theorem dX9_way_476 : decode cX9_way 476 = .ok (.iload 7, 2) := by decide +kernel
theorem dX9_way_478 : decode cX9_way 478 = .ok (.ishr, 1) := by decide +kernel
theorem dX9_way_479 : decode cX9_way 479 = .ok (.iconst 1, 1) := by decide +kernel
theorem dX9_way_480 : decode cX9_way 480 = .ok (.iand, 1) := by decide +kernel
theorem dX9_way_481 : decode cX9_way 481 = .ok (.ifCond .ne 6, 3) := by decide +kernel
theorem dX9_way_484 : decode cX9_way 484 = .ok (.goto 51, 3) := by decide +kernel
theorem dX9_way_487 : decode cX9_way 487 = .ok (.iload 5, 2) := by decide +kernel
theorem dX9_way_489 : decode cX9_way 489 = .ok (.iload 7, 2) := by decide +kernel
theorem dX9_way_491 : decode cX9_way 491 = .ok (.iconst 1, 1) := by decide +kernel
theorem dX9_way_492 : decode cX9_way 492 = .ok (.iadd, 1) := by decide +kernel
theorem dX9_way_493 : decode cX9_way 493 = .ok (.iload 6, 2) := by decide +kernel
theorem dX9_way_495 : decode cX9_way 495 = .ok (.isub, 1) := by decide +kernel
theorem dX9_way_496 : decode cX9_way 496 = .ok (.isub, 1) := by decide +kernel
theorem dX9_way_497 : decode cX9_way 497 = .ok (.istore 5, 2) := by decide +kernel
theorem dX9_way_499 : decode cX9_way 499 = .ok (.iload 6, 2) := by decide +kernel
theorem dX9_way_501 : decode cX9_way 501 = .ok (.istore 8, 2) := by decide +kernel
theorem dX9_way_503 : decode cX9_way 503 = .ok (.iload 8, 2) := by decide +kernel
theorem dX9_way_505 : decode cX9_way 505 = .ok (.iload 7, 2) := by decide +kernel
theorem dX9_way_507 : decode cX9_way 507 = .ok (.if_icmp .gt 22, 3) := by decide +kernel
theorem dX9_way_510 : decode cX9_way 510 = .ok (.aload 4, 2) := by decide +kernel
theorem dX9_way_512 : decode cX9_way 512 = .ok (.iload 5, 2) := by decide +kernel
theorem dX9_way_514 : decode cX9_way 514 = .ok (.iload 8, 2) := by decide +kernel
theorem dX9_way_516 : decode cX9_way 516 = .ok (.iadd, 1) := by decide +kernel
theorem dX9_way_517 : decode cX9_way 517 = .ok (.iload 6, 2) := by decide +kernel
theorem dX9_way_519 : decode cX9_way 519 = .ok (.isub, 1) := by decide +kernel
theorem dX9_way_520 : decode cX9_way 520 = .ok (.iload 8, 2) := by decide +kernel
theorem dX9_way_522 : decode cX9_way 522 = .ok (.iastore, 1) := by decide +kernel
theorem dX9_way_523 : decode cX9_way 523 = .ok (.iinc 8 1, 3) := by decide +kernel
theorem dX9_way_526 : decode cX9_way 526 = .ok (.goto (-23), 3) := by decide +kernel
theorem dX9_way_529 : decode cX9_way 529 = .ok (.iload 7, 2) := by decide +kernel
theorem dX9_way_531 : decode cX9_way 531 = .ok (.iconst 1, 1) := by decide +kernel
theorem dX9_way_532 : decode cX9_way 532 = .ok (.iadd, 1) := by decide +kernel
theorem dX9_way_533 : decode cX9_way 533 = .ok (.istore 6, 2) := by decide +kernel
theorem dX9_way_535 : decode cX9_way 535 = .ok (.iinc 7 1, 3) := by decide +kernel
theorem dX9_way_538 : decode cX9_way 538 = .ok (.goto (-77), 3) := by decide +kernel
theorem dX9_way_541 : decode cX9_way 541 = .ok (.aload_n 3, 1) := by decide +kernel
theorem dX9_way_542 : decode cX9_way 542 = .ok (.areturn, 1) := by decide +kernel
theorem dX9_common_0 : decode cX9_common 0 = .ok (.iload_n 1, 1) := by decide +kernel
theorem dX9_common_1 : decode cX9_common 1 = .ok (.ifCond .ne 7, 3) := by decide +kernel
theorem dX9_common_4 : decode cX9_common 4 = .ok (.iload_n 0, 1) := by decide +kernel
theorem dX9_common_5 : decode cX9_common 5 = .ok (.goto 10, 3) := by decide +kernel
theorem dX9_common_8 : decode cX9_common 8 = .ok (.iload_n 1, 1) := by decide +kernel
theorem dX9_common_9 : decode cX9_common 9 = .ok (.iload_n 0, 1) := by decide +kernel
theorem dX9_common_10 : decode cX9_common 10 = .ok (.iload_n 1, 1) := by decide +kernel
theorem dX9_common_11 : decode cX9_common 11 = .ok (.irem, 1) := by decide +kernel
theorem dX9_common_12 : decode cX9_common 12 = .ok (.invokestatic 46, 3) := by decide +kernel
theorem dX9_common_15 : decode cX9_common 15 = .ok (.ireturn, 1) := by decide +kernel
theorem dX9_isDeck_0 : decode cX9_isDeck 0 = .ok (.iload_n 1, 1) := by decide +kernel
theorem dX9_isDeck_1 : decode cX9_isDeck 1 = .ok (.iconst 0, 1) := by decide +kernel
theorem dX9_isDeck_2 : decode cX9_isDeck 2 = .ok (.aload_n 0, 1) := by decide +kernel
theorem dX9_isDeck_3 : decode cX9_isDeck 3 = .ok (.getfield 10, 3) := by decide +kernel
theorem dX9_isDeck_6 : decode cX9_isDeck 6 = .ok (.invokevirtual 50, 3) := by decide +kernel
theorem dX9_isDeck_9 : decode cX9_isDeck 9 = .ok (.iconst 1, 1) := by decide +kernel
theorem dX9_isDeck_10 : decode cX9_isDeck 10 = .ok (.isub, 1) := by decide +kernel
theorem dX9_isDeck_11 : decode cX9_isDeck 11 = .ok (.invokestatic 23, 3) := by decide +kernel
theorem dX9_isDeck_14 : decode cX9_isDeck 14 = .ok (.ireturn, 1) := by decide +kernel
theorem dX9_isSequence_0 : decode cX9_isSequence 0 = .ok (.iload_n 1, 1) := by decide +kernel
theorem dX9_isSequence_1 : decode cX9_isSequence 1 = .ok (.iconst 0, 1) := by decide +kernel
theorem dX9_isSequence_2 : decode cX9_isSequence 2 = .ok (.aload_n 0, 1) := by decide +kernel
theorem dX9_isSequence_3 : decode cX9_isSequence 3 = .ok (.getfield 16, 3) := by decide +kernel
theorem dX9_isSequence_6 : decode cX9_isSequence 6 = .ok (.invokevirtual 50, 3) := by decide +kernel
theorem dX9_isSequence_9 : decode cX9_isSequence 9 = .ok (.iconst 1, 1) := by decide +kernel
theorem dX9_isSequence_10 : decode cX9_isSequence 10 = .ok (.isub, 1) := by decide +kernel
theorem dX9_isSequence_11 : decode cX9_isSequence 11 = .ok (.invokestatic 23, 3) := by decide +kernel
theorem dX9_isSequence_14 : decode cX9_isSequence 14 = .ok (.ireturn, 1) := by decide +kernel
theorem dX9_isPlace_0 : decode cX9_isPlace 0 = .ok (.aload_n 0, 1) := by decide +kernel
theorem dX9_isPlace_1 : decode cX9_isPlace 1 = .ok (.iload_n 1, 1) := by decide +kernel
theorem dX9_isPlace_2 : decode cX9_isPlace 2 = .ok (.invokevirtual 54, 3) := by decide +kernel
theorem dX9_isPlace_5 : decode cX9_isPlace 5 = .ok (.ifCond .eq 31, 3) := by decide +kernel
theorem dX9_isPlace_8 : decode cX9_isPlace 8 = .ok (.iload_n 2, 1) := by decide +kernel
theorem dX9_isPlace_9 : decode cX9_isPlace 9 = .ok (.iconst 0, 1) := by decide +kernel
theorem dX9_isPlace_10 : decode cX9_isPlace 10 = .ok (.aload_n 0, 1) := by decide +kernel
theorem dX9_isPlace_11 : decode cX9_isPlace 11 = .ok (.getfield 10, 3) := by decide +kernel
theorem dX9_isPlace_14 : decode cX9_isPlace 14 = .ok (.iload_n 1, 1) := by decide +kernel
theorem dX9_isPlace_15 : decode cX9_isPlace 15 = .ok (.invokevirtual 58, 3) := by decide +kernel
theorem dX9_isPlace_18 : decode cX9_isPlace 18 = .ok (.checkcast 62, 3) := by decide +kernel
theorem dX9_isPlace_21 : decode cX9_isPlace 21 = .ok (.invokevirtual 64, 3) := by decide +kernel
theorem dX9_isPlace_24 : decode cX9_isPlace 24 = .ok (.iconst 1, 1) := by decide +kernel
theorem dX9_isPlace_25 : decode cX9_isPlace 25 = .ok (.isub, 1) := by decide +kernel
theorem dX9_isPlace_26 : decode cX9_isPlace 26 = .ok (.invokestatic 23, 3) := by decide +kernel
theorem dX9_isPlace_29 : decode cX9_isPlace 29 = .ok (.ifCond .eq 7, 3) := by decide +kernel
theorem dX9_isPlace_32 : decode cX9_isPlace 32 = .ok (.iconst 1, 1) := by decide +kernel
theorem dX9_isPlace_33 : decode cX9_isPlace 33 = .ok (.goto 4, 3) := by decide +kernel
theorem dX9_isPlace_36 : decode cX9_isPlace 36 = .ok (.iconst 0, 1) := by decide +kernel
theorem dX9_isPlace_37 : decode cX9_isPlace 37 = .ok (.ireturn, 1) := by decide +kernel
theorem dX9_deck_0 : decode cX9_deck 0 = .ok (.aload_n 0, 1) := by decide +kernel
theorem dX9_deck_1 : decode cX9_deck 1 = .ok (.iconst 0, 1) := by decide +kernel
theorem dX9_deck_2 : decode cX9_deck 2 = .ok (.putfield 19, 3) := by decide +kernel
theorem dX9_deck_5 : decode cX9_deck 5 = .ok (.iload_n 1, 1) := by decide +kernel
theorem dX9_deck_6 : decode cX9_deck 6 = .ok (.iconst 2, 1) := by decide +kernel
theorem dX9_deck_7 : decode cX9_deck 7 = .ok (.bipush 16, 2) := by decide +kernel
theorem dX9_deck_9 : decode cX9_deck 9 = .ok (.invokestatic 23, 3) := by decide +kernel
theorem dX9_deck_12 : decode cX9_deck 12 = .ok (.ifCond .ne 9, 3) := by decide +kernel
theorem dX9_deck_15 : decode cX9_deck 15 = .ok (.aload_n 0, 1) := by decide +kernel
theorem dX9_deck_16 : decode cX9_deck 16 = .ok (.iconst 1, 1) := by decide +kernel
theorem dX9_deck_17 : decode cX9_deck 17 = .ok (.invokevirtual 65, 3) := by decide +kernel
theorem dX9_deck_20 : decode cX9_deck 20 = .ok (.ireturn, 1) := by decide +kernel
theorem dX9_deck_21 : decode cX9_deck 21 = .ok (.aload_n 0, 1) := by decide +kernel
theorem dX9_deck_22 : decode cX9_deck 22 = .ok (.getfield 10, 3) := by decide +kernel
theorem dX9_deck_25 : decode cX9_deck 25 = .ok (.invokevirtual 50, 3) := by decide +kernel
theorem dX9_deck_28 : decode cX9_deck 28 = .ok (.iconst 4, 1) := by decide +kernel
theorem dX9_deck_29 : decode cX9_deck 29 = .ok (.if_icmp .ne 9, 3) := by decide +kernel
theorem dX9_deck_32 : decode cX9_deck 32 = .ok (.aload_n 0, 1) := by decide +kernel
theorem dX9_deck_33 : decode cX9_deck 33 = .ok (.iconst 2, 1) := by decide +kernel
theorem dX9_deck_34 : decode cX9_deck 34 = .ok (.invokevirtual 65, 3) := by decide +kernel
theorem dX9_deck_37 : decode cX9_deck 37 = .ok (.ireturn, 1) := by decide +kernel
theorem dX9_deck_38 : decode cX9_deck 38 = .ok (.aload_n 0, 1) := by decide +kernel
theorem dX9_deck_39 : decode cX9_deck 39 = .ok (.getfield 10, 3) := by decide +kernel
theorem dX9_deck_42 : decode cX9_deck 42 = .ok (.new 62, 3) := by decide +kernel
theorem dX9_deck_45 : decode cX9_deck 45 = .ok (.dup, 1) := by decide +kernel
theorem dX9_deck_46 : decode cX9_deck 46 = .ok (.iload_n 1, 1) := by decide +kernel
theorem dX9_deck_47 : decode cX9_deck 47 = .ok (.invokespecial 68, 3) := by decide +kernel
theorem dX9_deck_50 : decode cX9_deck 50 = .ok (.invokevirtual 69, 3) := by decide +kernel
theorem dX9_deck_53 : decode cX9_deck 53 = .ok (.pop, 1) := by decide +kernel
theorem dX9_deck_54 : decode cX9_deck 54 = .ok (.aload_n 0, 1) := by decide +kernel
theorem dX9_deck_55 : decode cX9_deck 55 = .ok (.getfield 10, 3) := by decide +kernel
theorem dX9_deck_58 : decode cX9_deck 58 = .ok (.invokevirtual 50, 3) := by decide +kernel
theorem dX9_deck_61 : decode cX9_deck 61 = .ok (.iconst 1, 1) := by decide +kernel
theorem dX9_deck_62 : decode cX9_deck 62 = .ok (.isub, 1) := by decide +kernel
theorem dX9_deck_63 : decode cX9_deck 63 = .ok (.ireturn, 1) := by decide +kernel
theorem dX9_shuffle_0 : decode cX9_shuffle 0 = .ok (.aload_n 0, 1) := by decide +kernel
theorem dX9_shuffle_1 : decode cX9_shuffle 1 = .ok (.iconst 0, 1) := by decide +kernel
theorem dX9_shuffle_2 : decode cX9_shuffle 2 = .ok (.putfield 19, 3) := by decide +kernel
theorem dX9_shuffle_5 : decode cX9_shuffle 5 = .ok (.aload_n 0, 1) := by decide +kernel
theorem dX9_shuffle_6 : decode cX9_shuffle 6 = .ok (.iload_n 1, 1) := by decide +kernel
theorem dX9_shuffle_7 : decode cX9_shuffle 7 = .ok (.invokevirtual 54, 3) := by decide +kernel
theorem dX9_shuffle_10 : decode cX9_shuffle 10 = .ok (.ifCond .ne 9, 3) := by decide +kernel
theorem dX9_shuffle_13 : decode cX9_shuffle 13 = .ok (.aload_n 0, 1) := by decide +kernel
theorem dX9_shuffle_14 : decode cX9_shuffle 14 = .ok (.iconst 1, 1) := by decide +kernel
theorem dX9_shuffle_15 : decode cX9_shuffle 15 = .ok (.invokevirtual 65, 3) := by decide +kernel
theorem dX9_shuffle_18 : decode cX9_shuffle 18 = .ok (.ireturn, 1) := by decide +kernel
theorem dX9_shuffle_19 : decode cX9_shuffle 19 = .ok (.aload_n 0, 1) := by decide +kernel
theorem dX9_shuffle_20 : decode cX9_shuffle 20 = .ok (.getfield 10, 3) := by decide +kernel
theorem dX9_shuffle_23 : decode cX9_shuffle 23 = .ok (.iload_n 1, 1) := by decide +kernel
theorem dX9_shuffle_24 : decode cX9_shuffle 24 = .ok (.invokevirtual 58, 3) := by decide +kernel
theorem dX9_shuffle_27 : decode cX9_shuffle 27 = .ok (.checkcast 62, 3) := by decide +kernel
theorem dX9_shuffle_30 : decode cX9_shuffle 30 = .ok (.astore 5, 2) := by decide +kernel
theorem dX9_shuffle_32 : decode cX9_shuffle 32 = .ok (.iload_n 2, 1) := by decide +kernel
theorem dX9_shuffle_33 : decode cX9_shuffle 33 = .ok (.iload_n 3, 1) := by decide +kernel
theorem dX9_shuffle_34 : decode cX9_shuffle 34 = .ok (.aload 5, 2) := by decide +kernel
theorem dX9_shuffle_36 : decode cX9_shuffle 36 = .ok (.invokevirtual 64, 3) := by decide +kernel
theorem dX9_shuffle_39 : decode cX9_shuffle 39 = .ok (.invokestatic 73, 3) := by decide +kernel
theorem dX9_shuffle_42 : decode cX9_shuffle 42 = .ok (.ifCond .eq 14, 3) := by decide +kernel
theorem dX9_shuffle_45 : decode cX9_shuffle 45 = .ok (.iload 4, 2) := by decide +kernel
theorem dX9_shuffle_47 : decode cX9_shuffle 47 = .ok (.iconst 1, 1) := by decide +kernel
theorem dX9_shuffle_48 : decode cX9_shuffle 48 = .ok (.ldc 76, 2) := by decide +kernel
theorem dX9_shuffle_50 : decode cX9_shuffle 50 = .ok (.invokestatic 23, 3) := by decide +kernel
theorem dX9_shuffle_53 : decode cX9_shuffle 53 = .ok (.ifCond .ne 9, 3) := by decide +kernel
theorem dX9_shuffle_56 : decode cX9_shuffle 56 = .ok (.aload_n 0, 1) := by decide +kernel
theorem dX9_shuffle_57 : decode cX9_shuffle 57 = .ok (.iconst 2, 1) := by decide +kernel
theorem dX9_shuffle_58 : decode cX9_shuffle 58 = .ok (.invokevirtual 65, 3) := by decide +kernel
theorem dX9_shuffle_61 : decode cX9_shuffle 61 = .ok (.ireturn, 1) := by decide +kernel
theorem dX9_shuffle_62 : decode cX9_shuffle 62 = .ok (.aload 5, 2) := by decide +kernel
theorem dX9_shuffle_64 : decode cX9_shuffle 64 = .ok (.iload_n 2, 1) := by decide +kernel
theorem dX9_shuffle_65 : decode cX9_shuffle 65 = .ok (.iload_n 3, 1) := by decide +kernel
theorem dX9_shuffle_66 : decode cX9_shuffle 66 = .ok (.aload 5, 2) := by decide +kernel
theorem dX9_shuffle_68 : decode cX9_shuffle 68 = .ok (.invokevirtual 64, 3) := by decide +kernel
theorem dX9_shuffle_71 : decode cX9_shuffle 71 = .ok (.invokestatic 77, 3) := by decide +kernel
theorem dX9_shuffle_74 : decode cX9_shuffle 74 = .ok (.iload 4, 2) := by decide +kernel
theorem dX9_shuffle_76 : decode cX9_shuffle 76 = .ok (.invokevirtual 81, 3) := by decide +kernel
theorem dX9_shuffle_79 : decode cX9_shuffle 79 = .ok (.invokevirtual 85, 3) := by decide +kernel
theorem dX9_shuffle_82 : decode cX9_shuffle 82 = .ok (.aload 5, 2) := by decide +kernel
theorem dX9_shuffle_84 : decode cX9_shuffle 84 = .ok (.getfield 89, 3) := by decide +kernel
theorem dX9_shuffle_87 : decode cX9_shuffle 87 = .ok (.iconst 0, 1) := by decide +kernel
theorem dX9_shuffle_88 : decode cX9_shuffle 88 = .ok (.iaload, 1) := by decide +kernel
theorem dX9_shuffle_89 : decode cX9_shuffle 89 = .ok (.ireturn, 1) := by decide +kernel
theorem dX9_undo_0 : decode cX9_undo 0 = .ok (.aload_n 0, 1) := by decide +kernel
theorem dX9_undo_1 : decode cX9_undo 1 = .ok (.iconst 0, 1) := by decide +kernel
theorem dX9_undo_2 : decode cX9_undo 2 = .ok (.putfield 19, 3) := by decide +kernel
theorem dX9_undo_5 : decode cX9_undo 5 = .ok (.aload_n 0, 1) := by decide +kernel
theorem dX9_undo_6 : decode cX9_undo 6 = .ok (.iload_n 1, 1) := by decide +kernel
theorem dX9_undo_7 : decode cX9_undo 7 = .ok (.invokevirtual 54, 3) := by decide +kernel
theorem dX9_undo_10 : decode cX9_undo 10 = .ok (.ifCond .ne 9, 3) := by decide +kernel
theorem dX9_undo_13 : decode cX9_undo 13 = .ok (.aload_n 0, 1) := by decide +kernel
theorem dX9_undo_14 : decode cX9_undo 14 = .ok (.iconst 1, 1) := by decide +kernel
theorem dX9_undo_15 : decode cX9_undo 15 = .ok (.invokevirtual 65, 3) := by decide +kernel
theorem dX9_undo_18 : decode cX9_undo 18 = .ok (.ireturn, 1) := by decide +kernel
theorem dX9_undo_19 : decode cX9_undo 19 = .ok (.aload_n 0, 1) := by decide +kernel
theorem dX9_undo_20 : decode cX9_undo 20 = .ok (.getfield 10, 3) := by decide +kernel
theorem dX9_undo_23 : decode cX9_undo 23 = .ok (.iload_n 1, 1) := by decide +kernel
theorem dX9_undo_24 : decode cX9_undo 24 = .ok (.invokevirtual 58, 3) := by decide +kernel
theorem dX9_undo_27 : decode cX9_undo 27 = .ok (.checkcast 62, 3) := by decide +kernel
theorem dX9_undo_30 : decode cX9_undo 30 = .ok (.astore_n 2, 1) := by decide +kernel
theorem dX9_undo_31 : decode cX9_undo 31 = .ok (.aload_n 2, 1) := by decide +kernel
theorem dX9_undo_32 : decode cX9_undo 32 = .ok (.invokevirtual 92, 3) := by decide +kernel
theorem dX9_undo_35 : decode cX9_undo 35 = .ok (.ifCond .ne 5, 3) := by decide +kernel
theorem dX9_undo_38 : decode cX9_undo 38 = .ok (.iconst (-1), 1) := by decide +kernel
theorem dX9_undo_39 : decode cX9_undo 39 = .ok (.ireturn, 1) := by decide +kernel
theorem dX9_undo_40 : decode cX9_undo 40 = .ok (.aload_n 0, 1) := by decide +kernel
theorem dX9_undo_41 : decode cX9_undo 41 = .ok (.dup, 1) := by decide +kernel
theorem dX9_undo_42 : decode cX9_undo 42 = .ok (.getfield 96, 3) := by decide +kernel
theorem dX9_undo_45 : decode cX9_undo 45 = .ok (.iconst 1, 1) := by decide +kernel
theorem dX9_undo_46 : decode cX9_undo 46 = .ok (.iadd, 1) := by decide +kernel
theorem dX9_undo_47 : decode cX9_undo 47 = .ok (.putfield 96, 3) := by decide +kernel
theorem dX9_undo_50 : decode cX9_undo 50 = .ok (.aload_n 2, 1) := by decide +kernel
theorem dX9_undo_51 : decode cX9_undo 51 = .ok (.getfield 89, 3) := by decide +kernel
theorem dX9_undo_54 : decode cX9_undo 54 = .ok (.iconst 0, 1) := by decide +kernel
theorem dX9_undo_55 : decode cX9_undo 55 = .ok (.iaload, 1) := by decide +kernel
theorem dX9_undo_56 : decode cX9_undo 56 = .ok (.ireturn, 1) := by decide +kernel
theorem dX9_turn_0 : decode cX9_turn 0 = .ok (.aload_n 0, 1) := by decide +kernel
theorem dX9_turn_1 : decode cX9_turn 1 = .ok (.aload_n 0, 1) := by decide +kernel
theorem dX9_turn_2 : decode cX9_turn 2 = .ok (.iload_n 1, 1) := by decide +kernel
theorem dX9_turn_3 : decode cX9_turn 3 = .ok (.iload_n 2, 1) := by decide +kernel
theorem dX9_turn_4 : decode cX9_turn 4 = .ok (.invokevirtual 99, 3) := by decide +kernel
theorem dX9_turn_7 : decode cX9_turn 7 = .ok (.ifCond .eq 7, 3) := by decide +kernel
theorem dX9_turn_10 : decode cX9_turn 10 = .ok (.iconst 0, 1) := by decide +kernel
theorem dX9_turn_11 : decode cX9_turn 11 = .ok (.goto 4, 3) := by decide +kernel
theorem dX9_turn_14 : decode cX9_turn 14 = .ok (.iconst 1, 1) := by decide +kernel
theorem dX9_turn_15 : decode cX9_turn 15 = .ok (.putfield 19, 3) := by decide +kernel
theorem dX9_turn_18 : decode cX9_turn 18 = .ok (.aload_n 0, 1) := by decide +kernel
theorem dX9_turn_19 : decode cX9_turn 19 = .ok (.getfield 19, 3) := by decide +kernel
theorem dX9_turn_22 : decode cX9_turn 22 = .ok (.ifCond .le 5, 3) := by decide +kernel
theorem dX9_turn_25 : decode cX9_turn 25 = .ok (.iconst 0, 1) := by decide +kernel
theorem dX9_turn_26 : decode cX9_turn 26 = .ok (.ireturn, 1) := by decide +kernel
theorem dX9_turn_27 : decode cX9_turn 27 = .ok (.aload_n 0, 1) := by decide +kernel
theorem dX9_turn_28 : decode cX9_turn 28 = .ok (.getfield 10, 3) := by decide +kernel
theorem dX9_turn_31 : decode cX9_turn 31 = .ok (.iload_n 1, 1) := by decide +kernel
theorem dX9_turn_32 : decode cX9_turn 32 = .ok (.invokevirtual 58, 3) := by decide +kernel
theorem dX9_turn_35 : decode cX9_turn 35 = .ok (.checkcast 62, 3) := by decide +kernel
theorem dX9_turn_38 : decode cX9_turn 38 = .ok (.astore_n 3, 1) := by decide +kernel
theorem dX9_turn_39 : decode cX9_turn 39 = .ok (.aload_n 3, 1) := by decide +kernel
theorem dX9_turn_40 : decode cX9_turn 40 = .ok (.getfield 103, 3) := by decide +kernel
theorem dX9_turn_43 : decode cX9_turn 43 = .ok (.invokevirtual 106, 3) := by decide +kernel
theorem dX9_turn_46 : decode cX9_turn 46 = .ok (.checkcast 107, 3) := by decide +kernel
theorem dX9_turn_49 : decode cX9_turn 49 = .ok (.astore 4, 2) := by decide +kernel
theorem dX9_turn_51 : decode cX9_turn 51 = .ok (.aload 4, 2) := by decide +kernel
theorem dX9_turn_53 : decode cX9_turn 53 = .ok (.iload_n 2, 1) := by decide +kernel
theorem dX9_turn_54 : decode cX9_turn 54 = .ok (.aload 4, 2) := by decide +kernel
theorem dX9_turn_56 : decode cX9_turn 56 = .ok (.iload_n 2, 1) := by decide +kernel
theorem dX9_turn_57 : decode cX9_turn 57 = .ok (.baload, 1) := by decide +kernel
theorem dX9_turn_58 : decode cX9_turn 58 = .ok (.ifCond .ne 7, 3) := by decide +kernel
theorem dX9_turn_61 : decode cX9_turn 61 = .ok (.iconst 1, 1) := by decide +kernel
theorem dX9_turn_62 : decode cX9_turn 62 = .ok (.goto 4, 3) := by decide +kernel
theorem dX9_turn_65 : decode cX9_turn 65 = .ok (.iconst 0, 1) := by decide +kernel
theorem dX9_turn_66 : decode cX9_turn 66 = .ok (.bastore, 1) := by decide +kernel
theorem dX9_turn_67 : decode cX9_turn 67 = .ok (.aload_n 3, 1) := by decide +kernel
theorem dX9_turn_68 : decode cX9_turn 68 = .ok (.aload 4, 2) := by decide +kernel
theorem dX9_turn_70 : decode cX9_turn 70 = .ok (.putfield 103, 3) := by decide +kernel
theorem dX9_turn_73 : decode cX9_turn 73 = .ok (.aload 4, 2) := by decide +kernel
theorem dX9_turn_75 : decode cX9_turn 75 = .ok (.iload_n 2, 1) := by decide +kernel
theorem dX9_turn_76 : decode cX9_turn 76 = .ok (.baload, 1) := by decide +kernel
theorem dX9_turn_77 : decode cX9_turn 77 = .ok (.ireturn, 1) := by decide +kernel
theorem dX9_sequence_0 : decode cX9_sequence 0 = .ok (.aload_n 0, 1) := by decide +kernel
theorem dX9_sequence_1 : decode cX9_sequence 1 = .ok (.iconst 0, 1) := by decide +kernel
theorem dX9_sequence_2 : decode cX9_sequence 2 = .ok (.putfield 19, 3) := by decide +kernel
theorem dX9_sequence_5 : decode cX9_sequence 5 = .ok (.aload_n 0, 1) := by decide +kernel
theorem dX9_sequence_6 : decode cX9_sequence 6 = .ok (.getfield 16, 3) := by decide +kernel
theorem dX9_sequence_9 : decode cX9_sequence 9 = .ok (.invokevirtual 50, 3) := by decide +kernel
theorem dX9_sequence_12 : decode cX9_sequence 12 = .ok (.iconst 4, 1) := by decide +kernel
theorem dX9_sequence_13 : decode cX9_sequence 13 = .ok (.if_icmp .ne 9, 3) := by decide +kernel
theorem dX9_sequence_16 : decode cX9_sequence 16 = .ok (.aload_n 0, 1) := by decide +kernel
theorem dX9_sequence_17 : decode cX9_sequence 17 = .ok (.iconst 1, 1) := by decide +kernel
theorem dX9_sequence_18 : decode cX9_sequence 18 = .ok (.invokevirtual 65, 3) := by decide +kernel
theorem dX9_sequence_21 : decode cX9_sequence 21 = .ok (.ireturn, 1) := by decide +kernel
theorem dX9_sequence_22 : decode cX9_sequence 22 = .ok (.aload_n 0, 1) := by decide +kernel
theorem dX9_sequence_23 : decode cX9_sequence 23 = .ok (.getfield 16, 3) := by decide +kernel
theorem dX9_sequence_26 : decode cX9_sequence 26 = .ok (.new 7, 3) := by decide +kernel
theorem dX9_sequence_29 : decode cX9_sequence 29 = .ok (.dup, 1) := by decide +kernel
theorem dX9_sequence_30 : decode cX9_sequence 30 = .ok (.invokespecial 9, 3) := by decide +kernel
theorem dX9_sequence_33 : decode cX9_sequence 33 = .ok (.invokevirtual 69, 3) := by decide +kernel
theorem dX9_sequence_36 : decode cX9_sequence 36 = .ok (.pop, 1) := by decide +kernel
theorem dX9_sequence_37 : decode cX9_sequence 37 = .ok (.aload_n 0, 1) := by decide +kernel
theorem dX9_sequence_38 : decode cX9_sequence 38 = .ok (.getfield 16, 3) := by decide +kernel
theorem dX9_sequence_41 : decode cX9_sequence 41 = .ok (.invokevirtual 50, 3) := by decide +kernel
theorem dX9_sequence_44 : decode cX9_sequence 44 = .ok (.iconst 1, 1) := by decide +kernel
theorem dX9_sequence_45 : decode cX9_sequence 45 = .ok (.isub, 1) := by decide +kernel
theorem dX9_sequence_46 : decode cX9_sequence 46 = .ok (.ireturn, 1) := by decide +kernel
theorem dX9_step_0 : decode cX9_step 0 = .ok (.aload_n 0, 1) := by decide +kernel
theorem dX9_step_1 : decode cX9_step 1 = .ok (.iconst 0, 1) := by decide +kernel
theorem dX9_step_2 : decode cX9_step 2 = .ok (.putfield 19, 3) := by decide +kernel
theorem dX9_step_5 : decode cX9_step 5 = .ok (.aload_n 0, 1) := by decide +kernel
theorem dX9_step_6 : decode cX9_step 6 = .ok (.iload_n 1, 1) := by decide +kernel
theorem dX9_step_7 : decode cX9_step 7 = .ok (.invokevirtual 111, 3) := by decide +kernel
theorem dX9_step_10 : decode cX9_step 10 = .ok (.ifCond .ne 9, 3) := by decide +kernel
theorem dX9_step_13 : decode cX9_step 13 = .ok (.aload_n 0, 1) := by decide +kernel
theorem dX9_step_14 : decode cX9_step 14 = .ok (.iconst 1, 1) := by decide +kernel
theorem dX9_step_15 : decode cX9_step 15 = .ok (.invokevirtual 65, 3) := by decide +kernel
theorem dX9_step_18 : decode cX9_step 18 = .ok (.ireturn, 1) := by decide +kernel
theorem dX9_step_19 : decode cX9_step 19 = .ok (.iload_n 2, 1) := by decide +kernel
theorem dX9_step_20 : decode cX9_step 20 = .ok (.iconst 0, 1) := by decide +kernel
theorem dX9_step_21 : decode cX9_step 21 = .ok (.bipush 9, 2) := by decide +kernel
theorem dX9_step_23 : decode cX9_step 23 = .ok (.invokestatic 23, 3) := by decide +kernel
theorem dX9_step_26 : decode cX9_step 26 = .ok (.ifCond .eq 7, 3) := by decide +kernel
theorem dX9_step_29 : decode cX9_step 29 = .ok (.iload_n 3, 1) := by decide +kernel
theorem dX9_step_30 : decode cX9_step 30 = .ok (.ifCond .ge 9, 3) := by decide +kernel
theorem dX9_step_33 : decode cX9_step 33 = .ok (.aload_n 0, 1) := by decide +kernel
theorem dX9_step_34 : decode cX9_step 34 = .ok (.iconst 2, 1) := by decide +kernel
theorem dX9_step_35 : decode cX9_step 35 = .ok (.invokevirtual 65, 3) := by decide +kernel
theorem dX9_step_38 : decode cX9_step 38 = .ok (.ireturn, 1) := by decide +kernel
theorem dX9_step_39 : decode cX9_step 39 = .ok (.aload_n 0, 1) := by decide +kernel
theorem dX9_step_40 : decode cX9_step 40 = .ok (.getfield 16, 3) := by decide +kernel
theorem dX9_step_43 : decode cX9_step 43 = .ok (.iload_n 1, 1) := by decide +kernel
theorem dX9_step_44 : decode cX9_step 44 = .ok (.invokevirtual 58, 3) := by decide +kernel
theorem dX9_step_47 : decode cX9_step 47 = .ok (.checkcast 7, 3) := by decide +kernel
theorem dX9_step_50 : decode cX9_step 50 = .ok (.invokevirtual 50, 3) := by decide +kernel
theorem dX9_step_53 : decode cX9_step 53 = .ok (.bipush 8, 2) := by decide +kernel
theorem dX9_step_55 : decode cX9_step 55 = .ok (.if_icmp .ne 9, 3) := by decide +kernel
theorem dX9_step_58 : decode cX9_step 58 = .ok (.aload_n 0, 1) := by decide +kernel
theorem dX9_step_59 : decode cX9_step 59 = .ok (.iconst 3, 1) := by decide +kernel
theorem dX9_step_60 : decode cX9_step 60 = .ok (.invokevirtual 65, 3) := by decide +kernel
theorem dX9_step_63 : decode cX9_step 63 = .ok (.ireturn, 1) := by decide +kernel
theorem dX9_step_64 : decode cX9_step 64 = .ok (.iconst 2, 1) := by decide +kernel
theorem dX9_step_65 : decode cX9_step 65 = .ok (.newarray .int, 2) := by decide +kernel
theorem dX9_step_67 : decode cX9_step 67 = .ok (.dup, 1) := by decide +kernel
theorem dX9_step_68 : decode cX9_step 68 = .ok (.iconst 0, 1) := by decide +kernel
theorem dX9_step_69 : decode cX9_step 69 = .ok (.iload_n 2, 1) := by decide +kernel
theorem dX9_step_70 : decode cX9_step 70 = .ok (.iastore, 1) := by decide +kernel
theorem dX9_step_71 : decode cX9_step 71 = .ok (.dup, 1) := by decide +kernel
theorem dX9_step_72 : decode cX9_step 72 = .ok (.iconst 1, 1) := by decide +kernel
theorem dX9_step_73 : decode cX9_step 73 = .ok (.iload_n 3, 1) := by decide +kernel
theorem dX9_step_74 : decode cX9_step 74 = .ok (.iastore, 1) := by decide +kernel
theorem dX9_step_75 : decode cX9_step 75 = .ok (.astore 4, 2) := by decide +kernel
theorem dX9_step_77 : decode cX9_step 77 = .ok (.aload_n 0, 1) := by decide +kernel
theorem dX9_step_78 : decode cX9_step 78 = .ok (.getfield 16, 3) := by decide +kernel
theorem dX9_step_81 : decode cX9_step 81 = .ok (.iload_n 1, 1) := by decide +kernel
theorem dX9_step_82 : decode cX9_step 82 = .ok (.invokevirtual 58, 3) := by decide +kernel
theorem dX9_step_85 : decode cX9_step 85 = .ok (.checkcast 7, 3) := by decide +kernel
theorem dX9_step_88 : decode cX9_step 88 = .ok (.aload 4, 2) := by decide +kernel
theorem dX9_step_90 : decode cX9_step 90 = .ok (.invokevirtual 69, 3) := by decide +kernel
theorem dX9_step_93 : decode cX9_step 93 = .ok (.pop, 1) := by decide +kernel
theorem dX9_step_94 : decode cX9_step 94 = .ok (.aload_n 0, 1) := by decide +kernel
theorem dX9_step_95 : decode cX9_step 95 = .ok (.getfield 16, 3) := by decide +kernel
theorem dX9_step_98 : decode cX9_step 98 = .ok (.iload_n 1, 1) := by decide +kernel
theorem dX9_step_99 : decode cX9_step 99 = .ok (.invokevirtual 58, 3) := by decide +kernel
theorem dX9_step_102 : decode cX9_step 102 = .ok (.checkcast 7, 3) := by decide +kernel
theorem dX9_step_105 : decode cX9_step 105 = .ok (.invokevirtual 50, 3) := by decide +kernel
theorem dX9_step_108 : decode cX9_step 108 = .ok (.ireturn, 1) := by decide +kernel
theorem dX9_wayOf_0 : decode cX9_wayOf 0 = .ok (.new 27, 3) := by decide +kernel
theorem dX9_wayOf_3 : decode cX9_wayOf 3 = .ok (.dup, 1) := by decide +kernel
theorem dX9_wayOf_4 : decode cX9_wayOf 4 = .ok (.iload_n 2, 1) := by decide +kernel
theorem dX9_wayOf_5 : decode cX9_wayOf 5 = .ok (.invokespecial 29, 3) := by decide +kernel
theorem dX9_wayOf_8 : decode cX9_wayOf 8 = .ok (.astore_n 3, 1) := by decide +kernel
theorem dX9_wayOf_9 : decode cX9_wayOf 9 = .ok (.aload_n 0, 1) := by decide +kernel
theorem dX9_wayOf_10 : decode cX9_wayOf 10 = .ok (.getfield 16, 3) := by decide +kernel
theorem dX9_wayOf_13 : decode cX9_wayOf 13 = .ok (.iload_n 1, 1) := by decide +kernel
theorem dX9_wayOf_14 : decode cX9_wayOf 14 = .ok (.invokevirtual 58, 3) := by decide +kernel
theorem dX9_wayOf_17 : decode cX9_wayOf 17 = .ok (.checkcast 7, 3) := by decide +kernel
theorem dX9_wayOf_20 : decode cX9_wayOf 20 = .ok (.invokevirtual 114, 3) := by decide +kernel
theorem dX9_wayOf_23 : decode cX9_wayOf 23 = .ok (.astore 4, 2) := by decide +kernel
theorem dX9_wayOf_25 : decode cX9_wayOf 25 = .ok (.aload 4, 2) := by decide +kernel
theorem dX9_wayOf_27 : decode cX9_wayOf 27 = .ok (.invokeinterface 118 1, 5) := by decide +kernel
theorem dX9_wayOf_32 : decode cX9_wayOf 32 = .ok (.ifCond .eq 52, 3) := by decide +kernel
theorem dX9_wayOf_35 : decode cX9_wayOf 35 = .ok (.aload 4, 2) := by decide +kernel
theorem dX9_wayOf_37 : decode cX9_wayOf 37 = .ok (.invokeinterface 123 1, 5) := by decide +kernel
theorem dX9_wayOf_42 : decode cX9_wayOf 42 = .ok (.checkcast 126, 3) := by decide +kernel
theorem dX9_wayOf_45 : decode cX9_wayOf 45 = .ok (.astore 5, 2) := by decide +kernel
theorem dX9_wayOf_47 : decode cX9_wayOf 47 = .ok (.aload 5, 2) := by decide +kernel
theorem dX9_wayOf_49 : decode cX9_wayOf 49 = .ok (.iconst 0, 1) := by decide +kernel
theorem dX9_wayOf_50 : decode cX9_wayOf 50 = .ok (.iaload, 1) := by decide +kernel
theorem dX9_wayOf_51 : decode cX9_wayOf 51 = .ok (.aload 5, 2) := by decide +kernel
theorem dX9_wayOf_53 : decode cX9_wayOf 53 = .ok (.iconst 1, 1) := by decide +kernel
theorem dX9_wayOf_54 : decode cX9_wayOf 54 = .ok (.iaload, 1) := by decide +kernel
theorem dX9_wayOf_55 : decode cX9_wayOf 55 = .ok (.iload_n 2, 1) := by decide +kernel
theorem dX9_wayOf_56 : decode cX9_wayOf 56 = .ok (.invokestatic 73, 3) := by decide +kernel
theorem dX9_wayOf_59 : decode cX9_wayOf 59 = .ok (.ifCond .ne 5, 3) := by decide +kernel
theorem dX9_wayOf_62 : decode cX9_wayOf 62 = .ok (.aconst_null, 1) := by decide +kernel
theorem dX9_wayOf_63 : decode cX9_wayOf 63 = .ok (.areturn, 1) := by decide +kernel
theorem dX9_wayOf_64 : decode cX9_wayOf 64 = .ok (.aload_n 3, 1) := by decide +kernel
theorem dX9_wayOf_65 : decode cX9_wayOf 65 = .ok (.aload 5, 2) := by decide +kernel
theorem dX9_wayOf_67 : decode cX9_wayOf 67 = .ok (.iconst 0, 1) := by decide +kernel
theorem dX9_wayOf_68 : decode cX9_wayOf 68 = .ok (.iaload, 1) := by decide +kernel
theorem dX9_wayOf_69 : decode cX9_wayOf 69 = .ok (.aload 5, 2) := by decide +kernel
theorem dX9_wayOf_71 : decode cX9_wayOf 71 = .ok (.iconst 1, 1) := by decide +kernel
theorem dX9_wayOf_72 : decode cX9_wayOf 72 = .ok (.iaload, 1) := by decide +kernel
theorem dX9_wayOf_73 : decode cX9_wayOf 73 = .ok (.iload_n 2, 1) := by decide +kernel
theorem dX9_wayOf_74 : decode cX9_wayOf 74 = .ok (.invokestatic 77, 3) := by decide +kernel
theorem dX9_wayOf_77 : decode cX9_wayOf 77 = .ok (.invokevirtual 127, 3) := by decide +kernel
theorem dX9_wayOf_80 : decode cX9_wayOf 80 = .ok (.astore_n 3, 1) := by decide +kernel
theorem dX9_wayOf_81 : decode cX9_wayOf 81 = .ok (.goto (-56), 3) := by decide +kernel
theorem dX9_wayOf_84 : decode cX9_wayOf 84 = .ok (.aload_n 3, 1) := by decide +kernel
theorem dX9_wayOf_85 : decode cX9_wayOf 85 = .ok (.areturn, 1) := by decide +kernel
theorem dX9_perform_0 : decode cX9_perform 0 = .ok (.aload_n 0, 1) := by decide +kernel
theorem dX9_perform_1 : decode cX9_perform 1 = .ok (.iconst 0, 1) := by decide +kernel
theorem dX9_perform_2 : decode cX9_perform 2 = .ok (.putfield 19, 3) := by decide +kernel
theorem dX9_perform_5 : decode cX9_perform 5 = .ok (.aload_n 0, 1) := by decide +kernel
theorem dX9_perform_6 : decode cX9_perform 6 = .ok (.iload_n 1, 1) := by decide +kernel
theorem dX9_perform_7 : decode cX9_perform 7 = .ok (.invokevirtual 54, 3) := by decide +kernel
theorem dX9_perform_10 : decode cX9_perform 10 = .ok (.ifCond .eq 11, 3) := by decide +kernel
theorem dX9_perform_13 : decode cX9_perform 13 = .ok (.aload_n 0, 1) := by decide +kernel
theorem dX9_perform_14 : decode cX9_perform 14 = .ok (.iload_n 2, 1) := by decide +kernel
theorem dX9_perform_15 : decode cX9_perform 15 = .ok (.invokevirtual 111, 3) := by decide +kernel
theorem dX9_perform_18 : decode cX9_perform 18 = .ok (.ifCond .ne 9, 3) := by decide +kernel
theorem dX9_perform_21 : decode cX9_perform 21 = .ok (.aload_n 0, 1) := by decide +kernel
theorem dX9_perform_22 : decode cX9_perform 22 = .ok (.iconst 1, 1) := by decide +kernel
theorem dX9_perform_23 : decode cX9_perform 23 = .ok (.invokevirtual 65, 3) := by decide +kernel
theorem dX9_perform_26 : decode cX9_perform 26 = .ok (.ireturn, 1) := by decide +kernel
theorem dX9_perform_27 : decode cX9_perform 27 = .ok (.iload_n 3, 1) := by decide +kernel
theorem dX9_perform_28 : decode cX9_perform 28 = .ok (.iconst 1, 1) := by decide +kernel
theorem dX9_perform_29 : decode cX9_perform 29 = .ok (.ldc 76, 2) := by decide +kernel
theorem dX9_perform_31 : decode cX9_perform 31 = .ok (.invokestatic 23, 3) := by decide +kernel
theorem dX9_perform_34 : decode cX9_perform 34 = .ok (.ifCond .ne 9, 3) := by decide +kernel
theorem dX9_perform_37 : decode cX9_perform 37 = .ok (.aload_n 0, 1) := by decide +kernel
theorem dX9_perform_38 : decode cX9_perform 38 = .ok (.iconst 2, 1) := by decide +kernel
theorem dX9_perform_39 : decode cX9_perform 39 = .ok (.invokevirtual 65, 3) := by decide +kernel
theorem dX9_perform_42 : decode cX9_perform 42 = .ok (.ireturn, 1) := by decide +kernel
theorem dX9_perform_43 : decode cX9_perform 43 = .ok (.aload_n 0, 1) := by decide +kernel
theorem dX9_perform_44 : decode cX9_perform 44 = .ok (.getfield 10, 3) := by decide +kernel
theorem dX9_perform_47 : decode cX9_perform 47 = .ok (.iload_n 1, 1) := by decide +kernel
theorem dX9_perform_48 : decode cX9_perform 48 = .ok (.invokevirtual 58, 3) := by decide +kernel
theorem dX9_perform_51 : decode cX9_perform 51 = .ok (.checkcast 62, 3) := by decide +kernel
theorem dX9_perform_54 : decode cX9_perform 54 = .ok (.astore 4, 2) := by decide +kernel
theorem dX9_perform_56 : decode cX9_perform 56 = .ok (.aload_n 0, 1) := by decide +kernel
theorem dX9_perform_57 : decode cX9_perform 57 = .ok (.iload_n 2, 1) := by decide +kernel
theorem dX9_perform_58 : decode cX9_perform 58 = .ok (.aload 4, 2) := by decide +kernel
theorem dX9_perform_60 : decode cX9_perform 60 = .ok (.invokevirtual 64, 3) := by decide +kernel
theorem dX9_perform_63 : decode cX9_perform 63 = .ok (.invokevirtual 131, 3) := by decide +kernel
theorem dX9_perform_66 : decode cX9_perform 66 = .ok (.astore 5, 2) := by decide +kernel
theorem dX9_perform_68 : decode cX9_perform 68 = .ok (.aload 5, 2) := by decide +kernel
theorem dX9_perform_70 : decode cX9_perform 70 = .ok (.ifnonnull 9, 3) := by decide +kernel
theorem dX9_perform_73 : decode cX9_perform 73 = .ok (.aload_n 0, 1) := by decide +kernel
theorem dX9_perform_74 : decode cX9_perform 74 = .ok (.iconst 3, 1) := by decide +kernel
theorem dX9_perform_75 : decode cX9_perform 75 = .ok (.invokevirtual 65, 3) := by decide +kernel
theorem dX9_perform_78 : decode cX9_perform 78 = .ok (.ireturn, 1) := by decide +kernel
theorem dX9_perform_79 : decode cX9_perform 79 = .ok (.aload 4, 2) := by decide +kernel
theorem dX9_perform_81 : decode cX9_perform 81 = .ok (.aload 5, 2) := by decide +kernel
theorem dX9_perform_83 : decode cX9_perform 83 = .ok (.iload_n 3, 1) := by decide +kernel
theorem dX9_perform_84 : decode cX9_perform 84 = .ok (.invokevirtual 81, 3) := by decide +kernel
theorem dX9_perform_87 : decode cX9_perform 87 = .ok (.invokevirtual 85, 3) := by decide +kernel
theorem dX9_perform_90 : decode cX9_perform 90 = .ok (.aload 4, 2) := by decide +kernel
theorem dX9_perform_92 : decode cX9_perform 92 = .ok (.getfield 89, 3) := by decide +kernel
theorem dX9_perform_95 : decode cX9_perform 95 = .ok (.iconst 0, 1) := by decide +kernel
theorem dX9_perform_96 : decode cX9_perform 96 = .ok (.iaload, 1) := by decide +kernel
theorem dX9_perform_97 : decode cX9_perform 97 = .ok (.ireturn, 1) := by decide +kernel
theorem dX9_card_0 : decode cX9_card 0 = .ok (.aload_n 0, 1) := by decide +kernel
theorem dX9_card_1 : decode cX9_card 1 = .ok (.iconst 0, 1) := by decide +kernel
theorem dX9_card_2 : decode cX9_card 2 = .ok (.putfield 19, 3) := by decide +kernel
theorem dX9_card_5 : decode cX9_card 5 = .ok (.aload_n 0, 1) := by decide +kernel
theorem dX9_card_6 : decode cX9_card 6 = .ok (.iload_n 1, 1) := by decide +kernel
theorem dX9_card_7 : decode cX9_card 7 = .ok (.iload_n 2, 1) := by decide +kernel
theorem dX9_card_8 : decode cX9_card 8 = .ok (.invokevirtual 99, 3) := by decide +kernel
theorem dX9_card_11 : decode cX9_card 11 = .ok (.ifCond .eq 22, 3) := by decide +kernel
theorem dX9_card_14 : decode cX9_card 14 = .ok (.aload_n 0, 1) := by decide +kernel
theorem dX9_card_15 : decode cX9_card 15 = .ok (.getfield 10, 3) := by decide +kernel
theorem dX9_card_18 : decode cX9_card 18 = .ok (.iload_n 1, 1) := by decide +kernel
theorem dX9_card_19 : decode cX9_card 19 = .ok (.invokevirtual 58, 3) := by decide +kernel
theorem dX9_card_22 : decode cX9_card 22 = .ok (.checkcast 62, 3) := by decide +kernel
theorem dX9_card_25 : decode cX9_card 25 = .ok (.getfield 89, 3) := by decide +kernel
theorem dX9_card_28 : decode cX9_card 28 = .ok (.iload_n 2, 1) := by decide +kernel
theorem dX9_card_29 : decode cX9_card 29 = .ok (.iaload, 1) := by decide +kernel
theorem dX9_card_30 : decode cX9_card 30 = .ok (.goto 8, 3) := by decide +kernel
theorem dX9_card_33 : decode cX9_card 33 = .ok (.aload_n 0, 1) := by decide +kernel
theorem dX9_card_34 : decode cX9_card 34 = .ok (.iconst 1, 1) := by decide +kernel
theorem dX9_card_35 : decode cX9_card 35 = .ok (.invokevirtual 65, 3) := by decide +kernel
theorem dX9_card_38 : decode cX9_card 38 = .ok (.ireturn, 1) := by decide +kernel
theorem dX9_find_0 : decode cX9_find 0 = .ok (.aload_n 0, 1) := by decide +kernel
theorem dX9_find_1 : decode cX9_find 1 = .ok (.iconst 0, 1) := by decide +kernel
theorem dX9_find_2 : decode cX9_find 2 = .ok (.putfield 19, 3) := by decide +kernel
theorem dX9_find_5 : decode cX9_find 5 = .ok (.aload_n 0, 1) := by decide +kernel
theorem dX9_find_6 : decode cX9_find 6 = .ok (.iload_n 1, 1) := by decide +kernel
theorem dX9_find_7 : decode cX9_find 7 = .ok (.iload_n 2, 1) := by decide +kernel
theorem dX9_find_8 : decode cX9_find 8 = .ok (.invokevirtual 99, 3) := by decide +kernel
theorem dX9_find_11 : decode cX9_find 11 = .ok (.ifCond .ne 9, 3) := by decide +kernel
theorem dX9_find_14 : decode cX9_find 14 = .ok (.aload_n 0, 1) := by decide +kernel
theorem dX9_find_15 : decode cX9_find 15 = .ok (.iconst 1, 1) := by decide +kernel
theorem dX9_find_16 : decode cX9_find 16 = .ok (.invokevirtual 65, 3) := by decide +kernel
theorem dX9_find_19 : decode cX9_find 19 = .ok (.ireturn, 1) := by decide +kernel
theorem dX9_find_20 : decode cX9_find 20 = .ok (.aload_n 0, 1) := by decide +kernel
theorem dX9_find_21 : decode cX9_find 21 = .ok (.getfield 10, 3) := by decide +kernel
theorem dX9_find_24 : decode cX9_find 24 = .ok (.iload_n 1, 1) := by decide +kernel
theorem dX9_find_25 : decode cX9_find 25 = .ok (.invokevirtual 58, 3) := by decide +kernel
theorem dX9_find_28 : decode cX9_find 28 = .ok (.checkcast 62, 3) := by decide +kernel
theorem dX9_find_31 : decode cX9_find 31 = .ok (.iload_n 2, 1) := by decide +kernel
theorem dX9_find_32 : decode cX9_find 32 = .ok (.invokevirtual 135, 3) := by decide +kernel
theorem dX9_find_35 : decode cX9_find 35 = .ok (.istore 4, 2) := by decide +kernel
theorem dX9_find_37 : decode cX9_find 37 = .ok (.iload_n 3, 1) := by decide +kernel
theorem dX9_find_38 : decode cX9_find 38 = .ok (.ifCond .eq 31, 3) := by decide +kernel
theorem dX9_find_41 : decode cX9_find 41 = .ok (.aload_n 0, 1) := by decide +kernel
theorem dX9_find_42 : decode cX9_find 42 = .ok (.getfield 10, 3) := by decide +kernel
theorem dX9_find_45 : decode cX9_find 45 = .ok (.iload_n 1, 1) := by decide +kernel
theorem dX9_find_46 : decode cX9_find 46 = .ok (.invokevirtual 58, 3) := by decide +kernel
theorem dX9_find_49 : decode cX9_find 49 = .ok (.checkcast 62, 3) := by decide +kernel
theorem dX9_find_52 : decode cX9_find 52 = .ok (.getfield 103, 3) := by decide +kernel
theorem dX9_find_55 : decode cX9_find 55 = .ok (.iload 4, 2) := by decide +kernel
theorem dX9_find_57 : decode cX9_find 57 = .ok (.baload, 1) := by decide +kernel
theorem dX9_find_58 : decode cX9_find 58 = .ok (.ifCond .eq 7, 3) := by decide +kernel
theorem dX9_find_61 : decode cX9_find 61 = .ok (.iconst 1, 1) := by decide +kernel
theorem dX9_find_62 : decode cX9_find 62 = .ok (.goto 9, 3) := by decide +kernel
theorem dX9_find_65 : decode cX9_find 65 = .ok (.iconst 0, 1) := by decide +kernel
theorem dX9_find_66 : decode cX9_find 66 = .ok (.goto 5, 3) := by decide +kernel
theorem dX9_find_69 : decode cX9_find 69 = .ok (.iload 4, 2) := by decide +kernel
theorem dX9_find_71 : decode cX9_find 71 = .ok (.ireturn, 1) := by decide +kernel
theorem dX9_needed_0 : decode cX9_needed 0 = .ok (.iconst 0, 1) := by decide +kernel
theorem dX9_needed_1 : decode cX9_needed 1 = .ok (.istore_n 1, 1) := by decide +kernel
theorem dX9_needed_2 : decode cX9_needed 2 = .ok (.iconst 1, 1) := by decide +kernel
theorem dX9_needed_3 : decode cX9_needed 3 = .ok (.iload_n 1, 1) := by decide +kernel
theorem dX9_needed_4 : decode cX9_needed 4 = .ok (.ishl, 1) := by decide +kernel
theorem dX9_needed_5 : decode cX9_needed 5 = .ok (.iload_n 0, 1) := by decide +kernel
theorem dX9_needed_6 : decode cX9_needed 6 = .ok (.if_icmp .ge 9, 3) := by decide +kernel
theorem dX9_needed_9 : decode cX9_needed 9 = .ok (.iinc 1 1, 3) := by decide +kernel
theorem dX9_needed_12 : decode cX9_needed 12 = .ok (.goto (-10), 3) := by decide +kernel
theorem dX9_needed_15 : decode cX9_needed 15 = .ok (.iload_n 1, 1) := by decide +kernel
theorem dX9_needed_16 : decode cX9_needed 16 = .ok (.ireturn, 1) := by decide +kernel
theorem dX9_ofDeckNow_0 : decode cX9_ofDeckNow 0 = .ok (.iload_n 1, 1) := by decide +kernel
theorem dX9_ofDeckNow_1 : decode cX9_ofDeckNow 1 = .ok (.tableswitch 112 0 9 #[55, 60, 66, 72, 78, 83, 88, 96, 101, 106], 55) := by decide +kernel
theorem dX9_ofDeckNow_56 : decode cX9_ofDeckNow 56 = .ok (.aload_n 0, 1) := by decide +kernel
theorem dX9_ofDeckNow_57 : decode cX9_ofDeckNow 57 = .ok (.invokevirtual 64, 3) := by decide +kernel
theorem dX9_ofDeckNow_60 : decode cX9_ofDeckNow 60 = .ok (.ireturn, 1) := by decide +kernel
theorem dX9_ofDeckNow_61 : decode cX9_ofDeckNow 61 = .ok (.aload_n 0, 1) := by decide +kernel
theorem dX9_ofDeckNow_62 : decode cX9_ofDeckNow 62 = .ok (.iconst 0, 1) := by decide +kernel
theorem dX9_ofDeckNow_63 : decode cX9_ofDeckNow 63 = .ok (.invokevirtual 138, 3) := by decide +kernel
theorem dX9_ofDeckNow_66 : decode cX9_ofDeckNow 66 = .ok (.ireturn, 1) := by decide +kernel
theorem dX9_ofDeckNow_67 : decode cX9_ofDeckNow 67 = .ok (.aload_n 0, 1) := by decide +kernel
theorem dX9_ofDeckNow_68 : decode cX9_ofDeckNow 68 = .ok (.iconst 1, 1) := by decide +kernel
theorem dX9_ofDeckNow_69 : decode cX9_ofDeckNow 69 = .ok (.invokevirtual 138, 3) := by decide +kernel
theorem dX9_ofDeckNow_72 : decode cX9_ofDeckNow 72 = .ok (.ireturn, 1) := by decide +kernel
theorem dX9_ofDeckNow_73 : decode cX9_ofDeckNow 73 = .ok (.aload_n 0, 1) := by decide +kernel
theorem dX9_ofDeckNow_74 : decode cX9_ofDeckNow 74 = .ok (.iconst 2, 1) := by decide +kernel
theorem dX9_ofDeckNow_75 : decode cX9_ofDeckNow 75 = .ok (.invokevirtual 138, 3) := by decide +kernel
theorem dX9_ofDeckNow_78 : decode cX9_ofDeckNow 78 = .ok (.ireturn, 1) := by decide +kernel
theorem dX9_ofDeckNow_79 : decode cX9_ofDeckNow 79 = .ok (.aload_n 0, 1) := by decide +kernel
theorem dX9_ofDeckNow_80 : decode cX9_ofDeckNow 80 = .ok (.invokevirtual 141, 3) := by decide +kernel
theorem dX9_ofDeckNow_83 : decode cX9_ofDeckNow 83 = .ok (.ireturn, 1) := by decide +kernel
theorem dX9_ofDeckNow_84 : decode cX9_ofDeckNow 84 = .ok (.aload_n 0, 1) := by decide +kernel
theorem dX9_ofDeckNow_85 : decode cX9_ofDeckNow 85 = .ok (.invokevirtual 144, 3) := by decide +kernel
theorem dX9_ofDeckNow_88 : decode cX9_ofDeckNow 88 = .ok (.ireturn, 1) := by decide +kernel
theorem dX9_ofDeckNow_89 : decode cX9_ofDeckNow 89 = .ok (.aload_n 0, 1) := by decide +kernel
theorem dX9_ofDeckNow_90 : decode cX9_ofDeckNow 90 = .ok (.invokevirtual 144, 3) := by decide +kernel
theorem dX9_ofDeckNow_93 : decode cX9_ofDeckNow 93 = .ok (.invokestatic 147, 3) := by decide +kernel
theorem dX9_ofDeckNow_96 : decode cX9_ofDeckNow 96 = .ok (.ireturn, 1) := by decide +kernel
theorem dX9_ofDeckNow_97 : decode cX9_ofDeckNow 97 = .ok (.aload_n 0, 1) := by decide +kernel
theorem dX9_ofDeckNow_98 : decode cX9_ofDeckNow 98 = .ok (.invokevirtual 150, 3) := by decide +kernel
theorem dX9_ofDeckNow_101 : decode cX9_ofDeckNow 101 = .ok (.ireturn, 1) := by decide +kernel
theorem dX9_ofDeckNow_102 : decode cX9_ofDeckNow 102 = .ok (.aload_n 0, 1) := by decide +kernel
theorem dX9_ofDeckNow_103 : decode cX9_ofDeckNow 103 = .ok (.getfield 153, 3) := by decide +kernel
theorem dX9_ofDeckNow_106 : decode cX9_ofDeckNow 106 = .ok (.ireturn, 1) := by decide +kernel
theorem dX9_ofDeckNow_107 : decode cX9_ofDeckNow 107 = .ok (.aload_n 0, 1) := by decide +kernel
theorem dX9_ofDeckNow_108 : decode cX9_ofDeckNow 108 = .ok (.iconst 3, 1) := by decide +kernel
theorem dX9_ofDeckNow_109 : decode cX9_ofDeckNow 109 = .ok (.invokevirtual 138, 3) := by decide +kernel
theorem dX9_ofDeckNow_112 : decode cX9_ofDeckNow 112 = .ok (.ireturn, 1) := by decide +kernel
theorem dX9_ofDeckNow_113 : decode cX9_ofDeckNow 113 = .ok (.aload_n 0, 1) := by decide +kernel
theorem dX9_ofDeckNow_114 : decode cX9_ofDeckNow 114 = .ok (.invokevirtual 156, 3) := by decide +kernel
theorem dX9_ofDeckNow_117 : decode cX9_ofDeckNow 117 = .ok (.ireturn, 1) := by decide +kernel
theorem dX9_ofDeck_0 : decode cX9_ofDeck 0 = .ok (.aload_n 0, 1) := by decide +kernel
theorem dX9_ofDeck_1 : decode cX9_ofDeck 1 = .ok (.iconst 0, 1) := by decide +kernel
theorem dX9_ofDeck_2 : decode cX9_ofDeck 2 = .ok (.putfield 19, 3) := by decide +kernel
theorem dX9_ofDeck_5 : decode cX9_ofDeck 5 = .ok (.aload_n 0, 1) := by decide +kernel
theorem dX9_ofDeck_6 : decode cX9_ofDeck 6 = .ok (.iload_n 1, 1) := by decide +kernel
theorem dX9_ofDeck_7 : decode cX9_ofDeck 7 = .ok (.invokevirtual 54, 3) := by decide +kernel
theorem dX9_ofDeck_10 : decode cX9_ofDeck 10 = .ok (.ifCond .ne 9, 3) := by decide +kernel
theorem dX9_ofDeck_13 : decode cX9_ofDeck 13 = .ok (.aload_n 0, 1) := by decide +kernel
theorem dX9_ofDeck_14 : decode cX9_ofDeck 14 = .ok (.iconst 1, 1) := by decide +kernel
theorem dX9_ofDeck_15 : decode cX9_ofDeck 15 = .ok (.invokevirtual 65, 3) := by decide +kernel
theorem dX9_ofDeck_18 : decode cX9_ofDeck 18 = .ok (.ireturn, 1) := by decide +kernel
theorem dX9_ofDeck_19 : decode cX9_ofDeck 19 = .ok (.iload_n 2, 1) := by decide +kernel
theorem dX9_ofDeck_20 : decode cX9_ofDeck 20 = .ok (.iconst 0, 1) := by decide +kernel
theorem dX9_ofDeck_21 : decode cX9_ofDeck 21 = .ok (.bipush 10, 2) := by decide +kernel
theorem dX9_ofDeck_23 : decode cX9_ofDeck 23 = .ok (.invokestatic 23, 3) := by decide +kernel
theorem dX9_ofDeck_26 : decode cX9_ofDeck 26 = .ok (.ifCond .eq 21, 3) := by decide +kernel
theorem dX9_ofDeck_29 : decode cX9_ofDeck 29 = .ok (.aload_n 0, 1) := by decide +kernel
theorem dX9_ofDeck_30 : decode cX9_ofDeck 30 = .ok (.getfield 10, 3) := by decide +kernel
theorem dX9_ofDeck_33 : decode cX9_ofDeck 33 = .ok (.iload_n 1, 1) := by decide +kernel
theorem dX9_ofDeck_34 : decode cX9_ofDeck 34 = .ok (.invokevirtual 58, 3) := by decide +kernel
theorem dX9_ofDeck_37 : decode cX9_ofDeck 37 = .ok (.checkcast 62, 3) := by decide +kernel
theorem dX9_ofDeck_40 : decode cX9_ofDeck 40 = .ok (.iload_n 2, 1) := by decide +kernel
theorem dX9_ofDeck_41 : decode cX9_ofDeck 41 = .ok (.invokestatic 159, 3) := by decide +kernel
theorem dX9_ofDeck_44 : decode cX9_ofDeck 44 = .ok (.goto 8, 3) := by decide +kernel
theorem dX9_ofDeck_47 : decode cX9_ofDeck 47 = .ok (.aload_n 0, 1) := by decide +kernel
theorem dX9_ofDeck_48 : decode cX9_ofDeck 48 = .ok (.iconst 2, 1) := by decide +kernel
theorem dX9_ofDeck_49 : decode cX9_ofDeck 49 = .ok (.invokevirtual 65, 3) := by decide +kernel
theorem dX9_ofDeck_52 : decode cX9_ofDeck 52 = .ok (.ireturn, 1) := by decide +kernel
theorem dX9_keepsNow_0 : decode cX9_keepsNow 0 = .ok (.iload_n 1, 1) := by decide +kernel
theorem dX9_keepsNow_1 : decode cX9_keepsNow 1 = .ok (.tableswitch 70 0 4 #[35, 40, 45, 50, 65], 35) := by decide +kernel
theorem dX9_keepsNow_36 : decode cX9_keepsNow 36 = .ok (.aload_n 0, 1) := by decide +kernel
theorem dX9_keepsNow_37 : decode cX9_keepsNow 37 = .ok (.invokevirtual 163, 3) := by decide +kernel
theorem dX9_keepsNow_40 : decode cX9_keepsNow 40 = .ok (.ireturn, 1) := by decide +kernel
theorem dX9_keepsNow_41 : decode cX9_keepsNow 41 = .ok (.aload_n 0, 1) := by decide +kernel
theorem dX9_keepsNow_42 : decode cX9_keepsNow 42 = .ok (.invokevirtual 166, 3) := by decide +kernel
theorem dX9_keepsNow_45 : decode cX9_keepsNow 45 = .ok (.ireturn, 1) := by decide +kernel
theorem dX9_keepsNow_46 : decode cX9_keepsNow 46 = .ok (.aload_n 0, 1) := by decide +kernel
theorem dX9_keepsNow_47 : decode cX9_keepsNow 47 = .ok (.invokevirtual 169, 3) := by decide +kernel
theorem dX9_keepsNow_50 : decode cX9_keepsNow 50 = .ok (.ireturn, 1) := by decide +kernel
theorem dX9_keepsNow_51 : decode cX9_keepsNow 51 = .ok (.aload_n 0, 1) := by decide +kernel
theorem dX9_keepsNow_52 : decode cX9_keepsNow 52 = .ok (.invokevirtual 141, 3) := by decide +kernel
theorem dX9_keepsNow_55 : decode cX9_keepsNow 55 = .ok (.iconst 2, 1) := by decide +kernel
theorem dX9_keepsNow_56 : decode cX9_keepsNow 56 = .ok (.irem, 1) := by decide +kernel
theorem dX9_keepsNow_57 : decode cX9_keepsNow 57 = .ok (.ifCond .ne 7, 3) := by decide +kernel
theorem dX9_keepsNow_60 : decode cX9_keepsNow 60 = .ok (.iconst 1, 1) := by decide +kernel
theorem dX9_keepsNow_61 : decode cX9_keepsNow 61 = .ok (.goto 4, 3) := by decide +kernel
theorem dX9_keepsNow_64 : decode cX9_keepsNow 64 = .ok (.iconst 0, 1) := by decide +kernel
theorem dX9_keepsNow_65 : decode cX9_keepsNow 65 = .ok (.ireturn, 1) := by decide +kernel
theorem dX9_keepsNow_66 : decode cX9_keepsNow 66 = .ok (.aload_n 0, 1) := by decide +kernel
theorem dX9_keepsNow_67 : decode cX9_keepsNow 67 = .ok (.invokevirtual 172, 3) := by decide +kernel
theorem dX9_keepsNow_70 : decode cX9_keepsNow 70 = .ok (.ireturn, 1) := by decide +kernel
theorem dX9_keepsNow_71 : decode cX9_keepsNow 71 = .ok (.aload_n 0, 1) := by decide +kernel
theorem dX9_keepsNow_72 : decode cX9_keepsNow 72 = .ok (.invokevirtual 175, 3) := by decide +kernel
theorem dX9_keepsNow_75 : decode cX9_keepsNow 75 = .ok (.ireturn, 1) := by decide +kernel
theorem dX9_keeps_0 : decode cX9_keeps 0 = .ok (.aload_n 0, 1) := by decide +kernel
theorem dX9_keeps_1 : decode cX9_keeps 1 = .ok (.aload_n 0, 1) := by decide +kernel
theorem dX9_keeps_2 : decode cX9_keeps 2 = .ok (.iload_n 1, 1) := by decide +kernel
theorem dX9_keeps_3 : decode cX9_keeps 3 = .ok (.invokevirtual 54, 3) := by decide +kernel
theorem dX9_keeps_6 : decode cX9_keeps 6 = .ok (.ifCond .ne 7, 3) := by decide +kernel
theorem dX9_keeps_9 : decode cX9_keeps 9 = .ok (.iconst 1, 1) := by decide +kernel
theorem dX9_keeps_10 : decode cX9_keeps 10 = .ok (.goto 17, 3) := by decide +kernel
theorem dX9_keeps_13 : decode cX9_keeps 13 = .ok (.iload_n 2, 1) := by decide +kernel
theorem dX9_keeps_14 : decode cX9_keeps 14 = .ok (.iconst 0, 1) := by decide +kernel
theorem dX9_keeps_15 : decode cX9_keeps 15 = .ok (.iconst 5, 1) := by decide +kernel
theorem dX9_keeps_16 : decode cX9_keeps 16 = .ok (.invokestatic 23, 3) := by decide +kernel
theorem dX9_keeps_19 : decode cX9_keeps 19 = .ok (.ifCond .eq 7, 3) := by decide +kernel
theorem dX9_keeps_22 : decode cX9_keeps 22 = .ok (.iconst 0, 1) := by decide +kernel
theorem dX9_keeps_23 : decode cX9_keeps 23 = .ok (.goto 4, 3) := by decide +kernel
theorem dX9_keeps_26 : decode cX9_keeps 26 = .ok (.iconst 2, 1) := by decide +kernel
theorem dX9_keeps_27 : decode cX9_keeps 27 = .ok (.putfield 19, 3) := by decide +kernel
theorem dX9_keeps_30 : decode cX9_keeps 30 = .ok (.aload_n 0, 1) := by decide +kernel
theorem dX9_keeps_31 : decode cX9_keeps 31 = .ok (.getfield 19, 3) := by decide +kernel
theorem dX9_keeps_34 : decode cX9_keeps 34 = .ok (.ifCond .ne 25, 3) := by decide +kernel
theorem dX9_keeps_37 : decode cX9_keeps 37 = .ok (.aload_n 0, 1) := by decide +kernel
theorem dX9_keeps_38 : decode cX9_keeps 38 = .ok (.getfield 10, 3) := by decide +kernel
theorem dX9_keeps_41 : decode cX9_keeps 41 = .ok (.iload_n 1, 1) := by decide +kernel
theorem dX9_keeps_42 : decode cX9_keeps 42 = .ok (.invokevirtual 58, 3) := by decide +kernel
theorem dX9_keeps_45 : decode cX9_keeps 45 = .ok (.checkcast 62, 3) := by decide +kernel
theorem dX9_keeps_48 : decode cX9_keeps 48 = .ok (.iload_n 2, 1) := by decide +kernel
theorem dX9_keeps_49 : decode cX9_keeps 49 = .ok (.invokestatic 178, 3) := by decide +kernel
theorem dX9_keeps_52 : decode cX9_keeps 52 = .ok (.ifCond .eq 7, 3) := by decide +kernel
theorem dX9_keeps_55 : decode cX9_keeps 55 = .ok (.iconst 1, 1) := by decide +kernel
theorem dX9_keeps_56 : decode cX9_keeps 56 = .ok (.goto 4, 3) := by decide +kernel
theorem dX9_keeps_59 : decode cX9_keeps 59 = .ok (.iconst 0, 1) := by decide +kernel
theorem dX9_keeps_60 : decode cX9_keeps 60 = .ok (.ireturn, 1) := by decide +kernel
theorem dX9_chance_0 : decode cX9_chance 0 = .ok (.aload_n 0, 1) := by decide +kernel
theorem dX9_chance_1 : decode cX9_chance 1 = .ok (.aload_n 0, 1) := by decide +kernel
theorem dX9_chance_2 : decode cX9_chance 2 = .ok (.iload_n 1, 1) := by decide +kernel
theorem dX9_chance_3 : decode cX9_chance 3 = .ok (.invokevirtual 54, 3) := by decide +kernel
theorem dX9_chance_6 : decode cX9_chance 6 = .ok (.ifCond .ne 7, 3) := by decide +kernel
theorem dX9_chance_9 : decode cX9_chance 9 = .ok (.iconst 1, 1) := by decide +kernel
theorem dX9_chance_10 : decode cX9_chance 10 = .ok (.goto 18, 3) := by decide +kernel
theorem dX9_chance_13 : decode cX9_chance 13 = .ok (.iload_n 2, 1) := by decide +kernel
theorem dX9_chance_14 : decode cX9_chance 14 = .ok (.iconst 0, 1) := by decide +kernel
theorem dX9_chance_15 : decode cX9_chance 15 = .ok (.bipush 12, 2) := by decide +kernel
theorem dX9_chance_17 : decode cX9_chance 17 = .ok (.invokestatic 23, 3) := by decide +kernel
theorem dX9_chance_20 : decode cX9_chance 20 = .ok (.ifCond .eq 7, 3) := by decide +kernel
theorem dX9_chance_23 : decode cX9_chance 23 = .ok (.iconst 0, 1) := by decide +kernel
theorem dX9_chance_24 : decode cX9_chance 24 = .ok (.goto 4, 3) := by decide +kernel
theorem dX9_chance_27 : decode cX9_chance 27 = .ok (.iconst 2, 1) := by decide +kernel
theorem dX9_chance_28 : decode cX9_chance 28 = .ok (.putfield 19, 3) := by decide +kernel
theorem dX9_chance_31 : decode cX9_chance 31 = .ok (.aload_n 0, 1) := by decide +kernel
theorem dX9_chance_32 : decode cX9_chance 32 = .ok (.getfield 19, 3) := by decide +kernel
theorem dX9_chance_35 : decode cX9_chance 35 = .ok (.ifCond .le 5, 3) := by decide +kernel
theorem dX9_chance_38 : decode cX9_chance 38 = .ok (.dconst 0, 1) := by decide +kernel
theorem dX9_chance_39 : decode cX9_chance 39 = .ok (.dreturn, 1) := by decide +kernel
theorem dX9_chance_40 : decode cX9_chance 40 = .ok (.aload_n 0, 1) := by decide +kernel
theorem dX9_chance_41 : decode cX9_chance 41 = .ok (.getfield 10, 3) := by decide +kernel
theorem dX9_chance_44 : decode cX9_chance 44 = .ok (.iload_n 1, 1) := by decide +kernel
theorem dX9_chance_45 : decode cX9_chance 45 = .ok (.invokevirtual 58, 3) := by decide +kernel
theorem dX9_chance_48 : decode cX9_chance 48 = .ok (.checkcast 62, 3) := by decide +kernel
theorem dX9_chance_51 : decode cX9_chance 51 = .ok (.astore_n 3, 1) := by decide +kernel
theorem dX9_chance_52 : decode cX9_chance 52 = .ok (.iconst 1, 1) := by decide +kernel
theorem dX9_chance_53 : decode cX9_chance 53 = .ok (.iload_n 2, 1) := by decide +kernel
theorem dX9_chance_54 : decode cX9_chance 54 = .ok (.ishl, 1) := by decide +kernel
theorem dX9_chance_55 : decode cX9_chance 55 = .ok (.istore 4, 2) := by decide +kernel
theorem dX9_chance_57 : decode cX9_chance 57 = .ok (.aload_n 3, 1) := by decide +kernel
theorem dX9_chance_58 : decode cX9_chance 58 = .ok (.invokevirtual 144, 3) := by decide +kernel
theorem dX9_chance_61 : decode cX9_chance 61 = .ok (.istore 5, 2) := by decide +kernel
theorem dX9_chance_63 : decode cX9_chance 63 = .ok (.iload 4, 2) := by decide +kernel
theorem dX9_chance_65 : decode cX9_chance 65 = .ok (.iload 5, 2) := by decide +kernel
theorem dX9_chance_67 : decode cX9_chance 67 = .ok (.if_icmp .ge 5, 3) := by decide +kernel
theorem dX9_chance_70 : decode cX9_chance 70 = .ok (.dconst 0, 1) := by decide +kernel
theorem dX9_chance_71 : decode cX9_chance 71 = .ok (.dreturn, 1) := by decide +kernel
theorem dX9_chance_72 : decode cX9_chance 72 = .ok (.dconst 1, 1) := by decide +kernel
theorem dX9_chance_73 : decode cX9_chance 73 = .ok (.dstore 6, 2) := by decide +kernel
theorem dX9_chance_75 : decode cX9_chance 75 = .ok (.iconst 1, 1) := by decide +kernel
theorem dX9_chance_76 : decode cX9_chance 76 = .ok (.istore 8, 2) := by decide +kernel
theorem dX9_chance_78 : decode cX9_chance 78 = .ok (.iload 8, 2) := by decide +kernel
theorem dX9_chance_80 : decode cX9_chance 80 = .ok (.aload_n 3, 1) := by decide +kernel
theorem dX9_chance_81 : decode cX9_chance 81 = .ok (.invokevirtual 64, 3) := by decide +kernel
theorem dX9_chance_84 : decode cX9_chance 84 = .ok (.if_icmp .gt 31, 3) := by decide +kernel
theorem dX9_chance_87 : decode cX9_chance 87 = .ok (.dload 6, 2) := by decide +kernel
theorem dX9_chance_89 : decode cX9_chance 89 = .ok (.iload 4, 2) := by decide +kernel
theorem dX9_chance_91 : decode cX9_chance 91 = .ok (.iload 5, 2) := by decide +kernel
theorem dX9_chance_93 : decode cX9_chance 93 = .ok (.isub, 1) := by decide +kernel
theorem dX9_chance_94 : decode cX9_chance 94 = .ok (.iload 8, 2) := by decide +kernel
theorem dX9_chance_96 : decode cX9_chance 96 = .ok (.iadd, 1) := by decide +kernel
theorem dX9_chance_97 : decode cX9_chance 97 = .ok (.i2d, 1) := by decide +kernel
theorem dX9_chance_98 : decode cX9_chance 98 = .ok (.dmul, 1) := by decide +kernel
theorem dX9_chance_99 : decode cX9_chance 99 = .ok (.iload 8, 2) := by decide +kernel
theorem dX9_chance_101 : decode cX9_chance 101 = .ok (.i2d, 1) := by decide +kernel
theorem dX9_chance_102 : decode cX9_chance 102 = .ok (.ddiv, 1) := by decide +kernel
theorem dX9_chance_103 : decode cX9_chance 103 = .ok (.iload 4, 2) := by decide +kernel
theorem dX9_chance_105 : decode cX9_chance 105 = .ok (.i2d, 1) := by decide +kernel
theorem dX9_chance_106 : decode cX9_chance 106 = .ok (.ddiv, 1) := by decide +kernel
theorem dX9_chance_107 : decode cX9_chance 107 = .ok (.dstore 6, 2) := by decide +kernel
theorem dX9_chance_109 : decode cX9_chance 109 = .ok (.iinc 8 1, 3) := by decide +kernel
theorem dX9_chance_112 : decode cX9_chance 112 = .ok (.goto (-34), 3) := by decide +kernel
theorem dX9_chance_115 : decode cX9_chance 115 = .ok (.dload 6, 2) := by decide +kernel
theorem dX9_chance_117 : decode cX9_chance 117 = .ok (.dreturn, 1) := by decide +kernel
theorem dX9_far_0 : decode cX9_far 0 = .ok (.aload_n 0, 1) := by decide +kernel
theorem dX9_far_1 : decode cX9_far 1 = .ok (.aload_n 0, 1) := by decide +kernel
theorem dX9_far_2 : decode cX9_far 2 = .ok (.iload_n 1, 1) := by decide +kernel
theorem dX9_far_3 : decode cX9_far 3 = .ok (.invokevirtual 54, 3) := by decide +kernel
theorem dX9_far_6 : decode cX9_far 6 = .ok (.ifCond .eq 7, 3) := by decide +kernel
theorem dX9_far_9 : decode cX9_far 9 = .ok (.iconst 0, 1) := by decide +kernel
theorem dX9_far_10 : decode cX9_far 10 = .ok (.goto 4, 3) := by decide +kernel
theorem dX9_far_13 : decode cX9_far 13 = .ok (.iconst 1, 1) := by decide +kernel
theorem dX9_far_14 : decode cX9_far 14 = .ok (.putfield 19, 3) := by decide +kernel
theorem dX9_far_17 : decode cX9_far 17 = .ok (.aload_n 0, 1) := by decide +kernel
theorem dX9_far_18 : decode cX9_far 18 = .ok (.getfield 19, 3) := by decide +kernel
theorem dX9_far_21 : decode cX9_far 21 = .ok (.ifCond .le 5, 3) := by decide +kernel
theorem dX9_far_24 : decode cX9_far 24 = .ok (.dconst 0, 1) := by decide +kernel
theorem dX9_far_25 : decode cX9_far 25 = .ok (.dreturn, 1) := by decide +kernel
theorem dX9_far_26 : decode cX9_far 26 = .ok (.aload_n 0, 1) := by decide +kernel
theorem dX9_far_27 : decode cX9_far 27 = .ok (.getfield 10, 3) := by decide +kernel
theorem dX9_far_30 : decode cX9_far 30 = .ok (.iload_n 1, 1) := by decide +kernel
theorem dX9_far_31 : decode cX9_far 31 = .ok (.invokevirtual 58, 3) := by decide +kernel
theorem dX9_far_34 : decode cX9_far 34 = .ok (.checkcast 62, 3) := by decide +kernel
theorem dX9_far_37 : decode cX9_far 37 = .ok (.astore_n 2, 1) := by decide +kernel
theorem dX9_far_38 : decode cX9_far 38 = .ok (.iconst 0, 1) := by decide +kernel
theorem dX9_far_39 : decode cX9_far 39 = .ok (.istore_n 3, 1) := by decide +kernel
theorem dX9_far_40 : decode cX9_far 40 = .ok (.iconst 0, 1) := by decide +kernel
theorem dX9_far_41 : decode cX9_far 41 = .ok (.istore 4, 2) := by decide +kernel
theorem dX9_far_43 : decode cX9_far 43 = .ok (.iload 4, 2) := by decide +kernel
theorem dX9_far_45 : decode cX9_far 45 = .ok (.aload_n 2, 1) := by decide +kernel
theorem dX9_far_46 : decode cX9_far 46 = .ok (.invokevirtual 64, 3) := by decide +kernel
theorem dX9_far_49 : decode cX9_far 49 = .ok (.if_icmp .ge 25, 3) := by decide +kernel
theorem dX9_far_52 : decode cX9_far 52 = .ok (.iload_n 3, 1) := by decide +kernel
theorem dX9_far_53 : decode cX9_far 53 = .ok (.iload 4, 2) := by decide +kernel
theorem dX9_far_55 : decode cX9_far 55 = .ok (.aload_n 2, 1) := by decide +kernel
theorem dX9_far_56 : decode cX9_far 56 = .ok (.getfield 89, 3) := by decide +kernel
theorem dX9_far_59 : decode cX9_far 59 = .ok (.iload 4, 2) := by decide +kernel
theorem dX9_far_61 : decode cX9_far 61 = .ok (.iaload, 1) := by decide +kernel
theorem dX9_far_62 : decode cX9_far 62 = .ok (.isub, 1) := by decide +kernel
theorem dX9_far_63 : decode cX9_far 63 = .ok (.invokestatic 182, 3) := by decide +kernel
theorem dX9_far_66 : decode cX9_far 66 = .ok (.iadd, 1) := by decide +kernel
theorem dX9_far_67 : decode cX9_far 67 = .ok (.istore_n 3, 1) := by decide +kernel
theorem dX9_far_68 : decode cX9_far 68 = .ok (.iinc 4 1, 3) := by decide +kernel
theorem dX9_far_71 : decode cX9_far 71 = .ok (.goto (-28), 3) := by decide +kernel
theorem dX9_far_74 : decode cX9_far 74 = .ok (.iload_n 3, 1) := by decide +kernel
theorem dX9_far_75 : decode cX9_far 75 = .ok (.i2d, 1) := by decide +kernel
theorem dX9_far_76 : decode cX9_far 76 = .ok (.aload_n 2, 1) := by decide +kernel
theorem dX9_far_77 : decode cX9_far 77 = .ok (.invokevirtual 64, 3) := by decide +kernel
theorem dX9_far_80 : decode cX9_far 80 = .ok (.i2d, 1) := by decide +kernel
theorem dX9_far_81 : decode cX9_far 81 = .ok (.ddiv, 1) := by decide +kernel
theorem dX9_far_82 : decode cX9_far 82 = .ok (.dreturn, 1) := by decide +kernel
theorem dX9_alikeNow_0 : decode cX9_alikeNow 0 = .ok (.iconst 0, 1) := by decide +kernel
theorem dX9_alikeNow_1 : decode cX9_alikeNow 1 = .ok (.istore_n 2, 1) := by decide +kernel
theorem dX9_alikeNow_2 : decode cX9_alikeNow 2 = .ok (.iconst 0, 1) := by decide +kernel
theorem dX9_alikeNow_3 : decode cX9_alikeNow 3 = .ok (.istore_n 3, 1) := by decide +kernel
theorem dX9_alikeNow_4 : decode cX9_alikeNow 4 = .ok (.iload_n 3, 1) := by decide +kernel
theorem dX9_alikeNow_5 : decode cX9_alikeNow 5 = .ok (.aload_n 0, 1) := by decide +kernel
theorem dX9_alikeNow_6 : decode cX9_alikeNow 6 = .ok (.invokevirtual 64, 3) := by decide +kernel
theorem dX9_alikeNow_9 : decode cX9_alikeNow 9 = .ok (.if_icmp .ge 55, 3) := by decide +kernel
theorem dX9_alikeNow_12 : decode cX9_alikeNow 12 = .ok (.iload_n 3, 1) := by decide +kernel
theorem dX9_alikeNow_13 : decode cX9_alikeNow 13 = .ok (.aload_n 1, 1) := by decide +kernel
theorem dX9_alikeNow_14 : decode cX9_alikeNow 14 = .ok (.invokevirtual 64, 3) := by decide +kernel
theorem dX9_alikeNow_17 : decode cX9_alikeNow 17 = .ok (.if_icmp .ge 47, 3) := by decide +kernel
theorem dX9_alikeNow_20 : decode cX9_alikeNow 20 = .ok (.iload_n 2, 1) := by decide +kernel
theorem dX9_alikeNow_21 : decode cX9_alikeNow 21 = .ok (.aload_n 0, 1) := by decide +kernel
theorem dX9_alikeNow_22 : decode cX9_alikeNow 22 = .ok (.getfield 89, 3) := by decide +kernel
theorem dX9_alikeNow_25 : decode cX9_alikeNow 25 = .ok (.iload_n 3, 1) := by decide +kernel
theorem dX9_alikeNow_26 : decode cX9_alikeNow 26 = .ok (.iaload, 1) := by decide +kernel
theorem dX9_alikeNow_27 : decode cX9_alikeNow 27 = .ok (.aload_n 1, 1) := by decide +kernel
theorem dX9_alikeNow_28 : decode cX9_alikeNow 28 = .ok (.getfield 89, 3) := by decide +kernel
theorem dX9_alikeNow_31 : decode cX9_alikeNow 31 = .ok (.iload_n 3, 1) := by decide +kernel
theorem dX9_alikeNow_32 : decode cX9_alikeNow 32 = .ok (.iaload, 1) := by decide +kernel
theorem dX9_alikeNow_33 : decode cX9_alikeNow 33 = .ok (.if_icmp .ne 22, 3) := by decide +kernel
theorem dX9_alikeNow_36 : decode cX9_alikeNow 36 = .ok (.aload_n 0, 1) := by decide +kernel
theorem dX9_alikeNow_37 : decode cX9_alikeNow 37 = .ok (.getfield 103, 3) := by decide +kernel
theorem dX9_alikeNow_40 : decode cX9_alikeNow 40 = .ok (.iload_n 3, 1) := by decide +kernel
theorem dX9_alikeNow_41 : decode cX9_alikeNow 41 = .ok (.baload, 1) := by decide +kernel
theorem dX9_alikeNow_42 : decode cX9_alikeNow 42 = .ok (.aload_n 1, 1) := by decide +kernel
theorem dX9_alikeNow_43 : decode cX9_alikeNow 43 = .ok (.getfield 103, 3) := by decide +kernel
theorem dX9_alikeNow_46 : decode cX9_alikeNow 46 = .ok (.iload_n 3, 1) := by decide +kernel
theorem dX9_alikeNow_47 : decode cX9_alikeNow 47 = .ok (.baload, 1) := by decide +kernel
theorem dX9_alikeNow_48 : decode cX9_alikeNow 48 = .ok (.if_icmp .ne 7, 3) := by decide +kernel
theorem dX9_alikeNow_51 : decode cX9_alikeNow 51 = .ok (.iconst 1, 1) := by decide +kernel
theorem dX9_alikeNow_52 : decode cX9_alikeNow 52 = .ok (.goto 4, 3) := by decide +kernel
theorem dX9_alikeNow_55 : decode cX9_alikeNow 55 = .ok (.iconst 0, 1) := by decide +kernel
theorem dX9_alikeNow_56 : decode cX9_alikeNow 56 = .ok (.iadd, 1) := by decide +kernel
theorem dX9_alikeNow_57 : decode cX9_alikeNow 57 = .ok (.istore_n 2, 1) := by decide +kernel
theorem dX9_alikeNow_58 : decode cX9_alikeNow 58 = .ok (.iinc 3 1, 3) := by decide +kernel
theorem dX9_alikeNow_61 : decode cX9_alikeNow 61 = .ok (.goto (-57), 3) := by decide +kernel
theorem dX9_alikeNow_64 : decode cX9_alikeNow 64 = .ok (.iload_n 2, 1) := by decide +kernel
theorem dX9_alikeNow_65 : decode cX9_alikeNow 65 = .ok (.ireturn, 1) := by decide +kernel
theorem dX9_alike_0 : decode cX9_alike 0 = .ok (.aload_n 0, 1) := by decide +kernel
theorem dX9_alike_1 : decode cX9_alike 1 = .ok (.iconst 0, 1) := by decide +kernel
theorem dX9_alike_2 : decode cX9_alike 2 = .ok (.putfield 19, 3) := by decide +kernel
theorem dX9_alike_5 : decode cX9_alike 5 = .ok (.aload_n 0, 1) := by decide +kernel
theorem dX9_alike_6 : decode cX9_alike 6 = .ok (.iload_n 1, 1) := by decide +kernel
theorem dX9_alike_7 : decode cX9_alike 7 = .ok (.invokevirtual 54, 3) := by decide +kernel
theorem dX9_alike_10 : decode cX9_alike 10 = .ok (.ifCond .eq 39, 3) := by decide +kernel
theorem dX9_alike_13 : decode cX9_alike 13 = .ok (.aload_n 0, 1) := by decide +kernel
theorem dX9_alike_14 : decode cX9_alike 14 = .ok (.iload_n 2, 1) := by decide +kernel
theorem dX9_alike_15 : decode cX9_alike 15 = .ok (.invokevirtual 54, 3) := by decide +kernel
theorem dX9_alike_18 : decode cX9_alike 18 = .ok (.ifCond .eq 31, 3) := by decide +kernel
theorem dX9_alike_21 : decode cX9_alike 21 = .ok (.aload_n 0, 1) := by decide +kernel
theorem dX9_alike_22 : decode cX9_alike 22 = .ok (.getfield 10, 3) := by decide +kernel
theorem dX9_alike_25 : decode cX9_alike 25 = .ok (.iload_n 1, 1) := by decide +kernel
theorem dX9_alike_26 : decode cX9_alike 26 = .ok (.invokevirtual 58, 3) := by decide +kernel
theorem dX9_alike_29 : decode cX9_alike 29 = .ok (.checkcast 62, 3) := by decide +kernel
theorem dX9_alike_32 : decode cX9_alike 32 = .ok (.aload_n 0, 1) := by decide +kernel
theorem dX9_alike_33 : decode cX9_alike 33 = .ok (.getfield 10, 3) := by decide +kernel
theorem dX9_alike_36 : decode cX9_alike 36 = .ok (.iload_n 2, 1) := by decide +kernel
theorem dX9_alike_37 : decode cX9_alike 37 = .ok (.invokevirtual 58, 3) := by decide +kernel
theorem dX9_alike_40 : decode cX9_alike 40 = .ok (.checkcast 62, 3) := by decide +kernel
theorem dX9_alike_43 : decode cX9_alike 43 = .ok (.invokestatic 187, 3) := by decide +kernel
theorem dX9_alike_46 : decode cX9_alike 46 = .ok (.goto 8, 3) := by decide +kernel
theorem dX9_alike_49 : decode cX9_alike 49 = .ok (.aload_n 0, 1) := by decide +kernel
theorem dX9_alike_50 : decode cX9_alike 50 = .ok (.iconst 1, 1) := by decide +kernel
theorem dX9_alike_51 : decode cX9_alike 51 = .ok (.invokevirtual 65, 3) := by decide +kernel
theorem dX9_alike_54 : decode cX9_alike 54 = .ok (.ireturn, 1) := by decide +kernel
theorem dX9_ofSequenceNow_0 : decode cX9_ofSequenceNow 0 = .ok (.aload_n 0, 1) := by decide +kernel
theorem dX9_ofSequenceNow_1 : decode cX9_ofSequenceNow 1 = .ok (.getfield 16, 3) := by decide +kernel
theorem dX9_ofSequenceNow_4 : decode cX9_ofSequenceNow 4 = .ok (.iload_n 1, 1) := by decide +kernel
theorem dX9_ofSequenceNow_5 : decode cX9_ofSequenceNow 5 = .ok (.invokevirtual 58, 3) := by decide +kernel
theorem dX9_ofSequenceNow_8 : decode cX9_ofSequenceNow 8 = .ok (.checkcast 7, 3) := by decide +kernel
theorem dX9_ofSequenceNow_11 : decode cX9_ofSequenceNow 11 = .ok (.astore_n 3, 1) := by decide +kernel
theorem dX9_ofSequenceNow_12 : decode cX9_ofSequenceNow 12 = .ok (.iload_n 2, 1) := by decide +kernel
theorem dX9_ofSequenceNow_13 : decode cX9_ofSequenceNow 13 = .ok (.ifCond .ne 10, 3) := by decide +kernel
theorem dX9_ofSequenceNow_16 : decode cX9_ofSequenceNow 16 = .ok (.aload_n 3, 1) := by decide +kernel
theorem dX9_ofSequenceNow_17 : decode cX9_ofSequenceNow 17 = .ok (.invokevirtual 50, 3) := by decide +kernel
theorem dX9_ofSequenceNow_20 : decode cX9_ofSequenceNow 20 = .ok (.goto 34, 3) := by decide +kernel
theorem dX9_ofSequenceNow_23 : decode cX9_ofSequenceNow 23 = .ok (.ldc 191, 2) := by decide +kernel
theorem dX9_ofSequenceNow_25 : decode cX9_ofSequenceNow 25 = .ok (.aload_n 3, 1) := by decide +kernel
theorem dX9_ofSequenceNow_26 : decode cX9_ofSequenceNow 26 = .ok (.iload_n 2, 1) := by decide +kernel
theorem dX9_ofSequenceNow_27 : decode cX9_ofSequenceNow 27 = .ok (.iconst 1, 1) := by decide +kernel
theorem dX9_ofSequenceNow_28 : decode cX9_ofSequenceNow 28 = .ok (.isub, 1) := by decide +kernel
theorem dX9_ofSequenceNow_29 : decode cX9_ofSequenceNow 29 = .ok (.invokevirtual 58, 3) := by decide +kernel
theorem dX9_ofSequenceNow_32 : decode cX9_ofSequenceNow 32 = .ok (.checkcast 126, 3) := by decide +kernel
theorem dX9_ofSequenceNow_35 : decode cX9_ofSequenceNow 35 = .ok (.iconst 0, 1) := by decide +kernel
theorem dX9_ofSequenceNow_36 : decode cX9_ofSequenceNow 36 = .ok (.iaload, 1) := by decide +kernel
theorem dX9_ofSequenceNow_37 : decode cX9_ofSequenceNow 37 = .ok (.imul, 1) := by decide +kernel
theorem dX9_ofSequenceNow_38 : decode cX9_ofSequenceNow 38 = .ok (.aload_n 3, 1) := by decide +kernel
theorem dX9_ofSequenceNow_39 : decode cX9_ofSequenceNow 39 = .ok (.iload_n 2, 1) := by decide +kernel
theorem dX9_ofSequenceNow_40 : decode cX9_ofSequenceNow 40 = .ok (.iconst 1, 1) := by decide +kernel
theorem dX9_ofSequenceNow_41 : decode cX9_ofSequenceNow 41 = .ok (.isub, 1) := by decide +kernel
theorem dX9_ofSequenceNow_42 : decode cX9_ofSequenceNow 42 = .ok (.invokevirtual 58, 3) := by decide +kernel
theorem dX9_ofSequenceNow_45 : decode cX9_ofSequenceNow 45 = .ok (.checkcast 126, 3) := by decide +kernel
theorem dX9_ofSequenceNow_48 : decode cX9_ofSequenceNow 48 = .ok (.iconst 1, 1) := by decide +kernel
theorem dX9_ofSequenceNow_49 : decode cX9_ofSequenceNow 49 = .ok (.iaload, 1) := by decide +kernel
theorem dX9_ofSequenceNow_50 : decode cX9_ofSequenceNow 50 = .ok (.ldc 191, 2) := by decide +kernel
theorem dX9_ofSequenceNow_52 : decode cX9_ofSequenceNow 52 = .ok (.irem, 1) := by decide +kernel
theorem dX9_ofSequenceNow_53 : decode cX9_ofSequenceNow 53 = .ok (.iadd, 1) := by decide +kernel
theorem dX9_ofSequenceNow_54 : decode cX9_ofSequenceNow 54 = .ok (.ireturn, 1) := by decide +kernel
theorem dX9_ofSequence_0 : decode cX9_ofSequence 0 = .ok (.aload_n 0, 1) := by decide +kernel
theorem dX9_ofSequence_1 : decode cX9_ofSequence 1 = .ok (.iconst 0, 1) := by decide +kernel
theorem dX9_ofSequence_2 : decode cX9_ofSequence 2 = .ok (.putfield 19, 3) := by decide +kernel
theorem dX9_ofSequence_5 : decode cX9_ofSequence 5 = .ok (.aload_n 0, 1) := by decide +kernel
theorem dX9_ofSequence_6 : decode cX9_ofSequence 6 = .ok (.iload_n 1, 1) := by decide +kernel
theorem dX9_ofSequence_7 : decode cX9_ofSequence 7 = .ok (.invokevirtual 111, 3) := by decide +kernel
theorem dX9_ofSequence_10 : decode cX9_ofSequence 10 = .ok (.ifCond .ne 9, 3) := by decide +kernel
theorem dX9_ofSequence_13 : decode cX9_ofSequence 13 = .ok (.aload_n 0, 1) := by decide +kernel
theorem dX9_ofSequence_14 : decode cX9_ofSequence 14 = .ok (.iconst 1, 1) := by decide +kernel
theorem dX9_ofSequence_15 : decode cX9_ofSequence 15 = .ok (.invokevirtual 65, 3) := by decide +kernel
theorem dX9_ofSequence_18 : decode cX9_ofSequence 18 = .ok (.ireturn, 1) := by decide +kernel
theorem dX9_ofSequence_19 : decode cX9_ofSequence 19 = .ok (.iload_n 2, 1) := by decide +kernel
theorem dX9_ofSequence_20 : decode cX9_ofSequence 20 = .ok (.iconst 0, 1) := by decide +kernel
theorem dX9_ofSequence_21 : decode cX9_ofSequence 21 = .ok (.aload_n 0, 1) := by decide +kernel
theorem dX9_ofSequence_22 : decode cX9_ofSequence 22 = .ok (.getfield 16, 3) := by decide +kernel
theorem dX9_ofSequence_25 : decode cX9_ofSequence 25 = .ok (.iload_n 1, 1) := by decide +kernel
theorem dX9_ofSequence_26 : decode cX9_ofSequence 26 = .ok (.invokevirtual 58, 3) := by decide +kernel
theorem dX9_ofSequence_29 : decode cX9_ofSequence 29 = .ok (.checkcast 7, 3) := by decide +kernel
theorem dX9_ofSequence_32 : decode cX9_ofSequence 32 = .ok (.invokevirtual 50, 3) := by decide +kernel
theorem dX9_ofSequence_35 : decode cX9_ofSequence 35 = .ok (.invokestatic 23, 3) := by decide +kernel
theorem dX9_ofSequence_38 : decode cX9_ofSequence 38 = .ok (.ifCond .eq 12, 3) := by decide +kernel
theorem dX9_ofSequence_41 : decode cX9_ofSequence 41 = .ok (.aload_n 0, 1) := by decide +kernel
theorem dX9_ofSequence_42 : decode cX9_ofSequence 42 = .ok (.iload_n 1, 1) := by decide +kernel
theorem dX9_ofSequence_43 : decode cX9_ofSequence 43 = .ok (.iload_n 2, 1) := by decide +kernel
theorem dX9_ofSequence_44 : decode cX9_ofSequence 44 = .ok (.invokevirtual 192, 3) := by decide +kernel
theorem dX9_ofSequence_47 : decode cX9_ofSequence 47 = .ok (.goto 8, 3) := by decide +kernel
theorem dX9_ofSequence_50 : decode cX9_ofSequence 50 = .ok (.aload_n 0, 1) := by decide +kernel
theorem dX9_ofSequence_51 : decode cX9_ofSequence 51 = .ok (.iconst 2, 1) := by decide +kernel
theorem dX9_ofSequence_52 : decode cX9_ofSequence 52 = .ok (.invokevirtual 65, 3) := by decide +kernel
theorem dX9_ofSequence_55 : decode cX9_ofSequence 55 = .ok (.ireturn, 1) := by decide +kernel
theorem dX9_periodNow_0 : decode cX9_periodNow 0 = .ok (.aload_n 0, 1) := by decide +kernel
theorem dX9_periodNow_1 : decode cX9_periodNow 1 = .ok (.iload_n 1, 1) := by decide +kernel
theorem dX9_periodNow_2 : decode cX9_periodNow 2 = .ok (.iload_n 2, 1) := by decide +kernel
theorem dX9_periodNow_3 : decode cX9_periodNow 3 = .ok (.invokevirtual 131, 3) := by decide +kernel
theorem dX9_periodNow_6 : decode cX9_periodNow 6 = .ok (.astore_n 3, 1) := by decide +kernel
theorem dX9_periodNow_7 : decode cX9_periodNow 7 = .ok (.aload_n 3, 1) := by decide +kernel
theorem dX9_periodNow_8 : decode cX9_periodNow 8 = .ok (.ifnonnull 5, 3) := by decide +kernel
theorem dX9_periodNow_11 : decode cX9_periodNow 11 = .ok (.iconst (-1), 1) := by decide +kernel
theorem dX9_periodNow_12 : decode cX9_periodNow 12 = .ok (.ireturn, 1) := by decide +kernel
theorem dX9_periodNow_13 : decode cX9_periodNow 13 = .ok (.iconst 1, 1) := by decide +kernel
theorem dX9_periodNow_14 : decode cX9_periodNow 14 = .ok (.istore 4, 2) := by decide +kernel
theorem dX9_periodNow_16 : decode cX9_periodNow 16 = .ok (.aload_n 3, 1) := by decide +kernel
theorem dX9_periodNow_17 : decode cX9_periodNow 17 = .ok (.astore 5, 2) := by decide +kernel
theorem dX9_periodNow_19 : decode cX9_periodNow 19 = .ok (.aload 5, 2) := by decide +kernel
theorem dX9_periodNow_21 : decode cX9_periodNow 21 = .ok (.invokevirtual 195, 3) := by decide +kernel
theorem dX9_periodNow_24 : decode cX9_periodNow 24 = .ok (.ifCond .ne 17, 3) := by decide +kernel
theorem dX9_periodNow_27 : decode cX9_periodNow 27 = .ok (.iinc 4 1, 3) := by decide +kernel
theorem dX9_periodNow_30 : decode cX9_periodNow 30 = .ok (.aload 5, 2) := by decide +kernel
theorem dX9_periodNow_32 : decode cX9_periodNow 32 = .ok (.aload_n 3, 1) := by decide +kernel
theorem dX9_periodNow_33 : decode cX9_periodNow 33 = .ok (.invokevirtual 127, 3) := by decide +kernel
theorem dX9_periodNow_36 : decode cX9_periodNow 36 = .ok (.astore 5, 2) := by decide +kernel
theorem dX9_periodNow_38 : decode cX9_periodNow 38 = .ok (.goto (-19), 3) := by decide +kernel
theorem dX9_periodNow_41 : decode cX9_periodNow 41 = .ok (.iload 4, 2) := by decide +kernel
theorem dX9_periodNow_43 : decode cX9_periodNow 43 = .ok (.ireturn, 1) := by decide +kernel
theorem dX9_period_0 : decode cX9_period 0 = .ok (.aload_n 0, 1) := by decide +kernel
theorem dX9_period_1 : decode cX9_period 1 = .ok (.iconst 0, 1) := by decide +kernel
theorem dX9_period_2 : decode cX9_period 2 = .ok (.putfield 19, 3) := by decide +kernel
theorem dX9_period_5 : decode cX9_period 5 = .ok (.aload_n 0, 1) := by decide +kernel
theorem dX9_period_6 : decode cX9_period 6 = .ok (.iload_n 1, 1) := by decide +kernel
theorem dX9_period_7 : decode cX9_period 7 = .ok (.invokevirtual 111, 3) := by decide +kernel
theorem dX9_period_10 : decode cX9_period 10 = .ok (.ifCond .ne 9, 3) := by decide +kernel
theorem dX9_period_13 : decode cX9_period 13 = .ok (.aload_n 0, 1) := by decide +kernel
theorem dX9_period_14 : decode cX9_period 14 = .ok (.iconst 1, 1) := by decide +kernel
theorem dX9_period_15 : decode cX9_period 15 = .ok (.invokevirtual 65, 3) := by decide +kernel
theorem dX9_period_18 : decode cX9_period 18 = .ok (.ireturn, 1) := by decide +kernel
theorem dX9_period_19 : decode cX9_period 19 = .ok (.iload_n 2, 1) := by decide +kernel
theorem dX9_period_20 : decode cX9_period 20 = .ok (.iconst 2, 1) := by decide +kernel
theorem dX9_period_21 : decode cX9_period 21 = .ok (.bipush 16, 2) := by decide +kernel
theorem dX9_period_23 : decode cX9_period 23 = .ok (.invokestatic 23, 3) := by decide +kernel
theorem dX9_period_26 : decode cX9_period 26 = .ok (.ifCond .eq 12, 3) := by decide +kernel
theorem dX9_period_29 : decode cX9_period 29 = .ok (.aload_n 0, 1) := by decide +kernel
theorem dX9_period_30 : decode cX9_period 30 = .ok (.iload_n 1, 1) := by decide +kernel
theorem dX9_period_31 : decode cX9_period 31 = .ok (.iload_n 2, 1) := by decide +kernel
theorem dX9_period_32 : decode cX9_period 32 = .ok (.invokevirtual 198, 3) := by decide +kernel
theorem dX9_period_35 : decode cX9_period 35 = .ok (.goto 8, 3) := by decide +kernel
theorem dX9_period_38 : decode cX9_period 38 = .ok (.aload_n 0, 1) := by decide +kernel
theorem dX9_period_39 : decode cX9_period 39 = .ok (.iconst 2, 1) := by decide +kernel
theorem dX9_period_40 : decode cX9_period 40 = .ok (.invokevirtual 65, 3) := by decide +kernel
theorem dX9_period_43 : decode cX9_period 43 = .ok (.ireturn, 1) := by decide +kernel
theorem dX9_manyNow_0 : decode cX9_manyNow 0 = .ok (.iconst 0, 1) := by decide +kernel
theorem dX9_manyNow_1 : decode cX9_manyNow 1 = .ok (.istore_n 2, 1) := by decide +kernel
theorem dX9_manyNow_2 : decode cX9_manyNow 2 = .ok (.iconst 0, 1) := by decide +kernel
theorem dX9_manyNow_3 : decode cX9_manyNow 3 = .ok (.istore_n 3, 1) := by decide +kernel
theorem dX9_manyNow_4 : decode cX9_manyNow 4 = .ok (.iconst 0, 1) := by decide +kernel
theorem dX9_manyNow_5 : decode cX9_manyNow 5 = .ok (.istore 4, 2) := by decide +kernel
theorem dX9_manyNow_7 : decode cX9_manyNow 7 = .ok (.aload_n 0, 1) := by decide +kernel
theorem dX9_manyNow_8 : decode cX9_manyNow 8 = .ok (.getfield 10, 3) := by decide +kernel
theorem dX9_manyNow_11 : decode cX9_manyNow 11 = .ok (.invokevirtual 114, 3) := by decide +kernel
theorem dX9_manyNow_14 : decode cX9_manyNow 14 = .ok (.astore 5, 2) := by decide +kernel
theorem dX9_manyNow_16 : decode cX9_manyNow 16 = .ok (.aload 5, 2) := by decide +kernel
theorem dX9_manyNow_18 : decode cX9_manyNow 18 = .ok (.invokeinterface 118 1, 5) := by decide +kernel
theorem dX9_manyNow_23 : decode cX9_manyNow 23 = .ok (.ifCond .eq 44, 3) := by decide +kernel
theorem dX9_manyNow_26 : decode cX9_manyNow 26 = .ok (.aload 5, 2) := by decide +kernel
theorem dX9_manyNow_28 : decode cX9_manyNow 28 = .ok (.invokeinterface 123 1, 5) := by decide +kernel
theorem dX9_manyNow_33 : decode cX9_manyNow 33 = .ok (.checkcast 62, 3) := by decide +kernel
theorem dX9_manyNow_36 : decode cX9_manyNow 36 = .ok (.astore 6, 2) := by decide +kernel
theorem dX9_manyNow_38 : decode cX9_manyNow 38 = .ok (.iload_n 2, 1) := by decide +kernel
theorem dX9_manyNow_39 : decode cX9_manyNow 39 = .ok (.aload 6, 2) := by decide +kernel
theorem dX9_manyNow_41 : decode cX9_manyNow 41 = .ok (.getfield 153, 3) := by decide +kernel
theorem dX9_manyNow_44 : decode cX9_manyNow 44 = .ok (.iadd, 1) := by decide +kernel
theorem dX9_manyNow_45 : decode cX9_manyNow 45 = .ok (.istore_n 2, 1) := by decide +kernel
theorem dX9_manyNow_46 : decode cX9_manyNow 46 = .ok (.iload_n 3, 1) := by decide +kernel
theorem dX9_manyNow_47 : decode cX9_manyNow 47 = .ok (.aload 6, 2) := by decide +kernel
theorem dX9_manyNow_49 : decode cX9_manyNow 49 = .ok (.invokevirtual 64, 3) := by decide +kernel
theorem dX9_manyNow_52 : decode cX9_manyNow 52 = .ok (.iadd, 1) := by decide +kernel
theorem dX9_manyNow_53 : decode cX9_manyNow 53 = .ok (.istore_n 3, 1) := by decide +kernel
theorem dX9_manyNow_54 : decode cX9_manyNow 54 = .ok (.iload 4, 2) := by decide +kernel
theorem dX9_manyNow_56 : decode cX9_manyNow 56 = .ok (.aload 6, 2) := by decide +kernel
theorem dX9_manyNow_58 : decode cX9_manyNow 58 = .ok (.invokevirtual 150, 3) := by decide +kernel
theorem dX9_manyNow_61 : decode cX9_manyNow 61 = .ok (.iadd, 1) := by decide +kernel
theorem dX9_manyNow_62 : decode cX9_manyNow 62 = .ok (.istore 4, 2) := by decide +kernel
theorem dX9_manyNow_64 : decode cX9_manyNow 64 = .ok (.goto (-48), 3) := by decide +kernel
theorem dX9_manyNow_67 : decode cX9_manyNow 67 = .ok (.bipush 6, 2) := by decide +kernel
theorem dX9_manyNow_69 : decode cX9_manyNow 69 = .ok (.newarray .int, 2) := by decide +kernel
theorem dX9_manyNow_71 : decode cX9_manyNow 71 = .ok (.dup, 1) := by decide +kernel
theorem dX9_manyNow_72 : decode cX9_manyNow 72 = .ok (.iconst 0, 1) := by decide +kernel
theorem dX9_manyNow_73 : decode cX9_manyNow 73 = .ok (.aload_n 0, 1) := by decide +kernel
theorem dX9_manyNow_74 : decode cX9_manyNow 74 = .ok (.getfield 10, 3) := by decide +kernel
theorem dX9_manyNow_77 : decode cX9_manyNow 77 = .ok (.invokevirtual 50, 3) := by decide +kernel
theorem dX9_manyNow_80 : decode cX9_manyNow 80 = .ok (.iastore, 1) := by decide +kernel
theorem dX9_manyNow_81 : decode cX9_manyNow 81 = .ok (.dup, 1) := by decide +kernel
theorem dX9_manyNow_82 : decode cX9_manyNow 82 = .ok (.iconst 1, 1) := by decide +kernel
theorem dX9_manyNow_83 : decode cX9_manyNow 83 = .ok (.aload_n 0, 1) := by decide +kernel
theorem dX9_manyNow_84 : decode cX9_manyNow 84 = .ok (.getfield 16, 3) := by decide +kernel
theorem dX9_manyNow_87 : decode cX9_manyNow 87 = .ok (.invokevirtual 50, 3) := by decide +kernel
theorem dX9_manyNow_90 : decode cX9_manyNow 90 = .ok (.iastore, 1) := by decide +kernel
theorem dX9_manyNow_91 : decode cX9_manyNow 91 = .ok (.dup, 1) := by decide +kernel
theorem dX9_manyNow_92 : decode cX9_manyNow 92 = .ok (.iconst 2, 1) := by decide +kernel
theorem dX9_manyNow_93 : decode cX9_manyNow 93 = .ok (.iload_n 2, 1) := by decide +kernel
theorem dX9_manyNow_94 : decode cX9_manyNow 94 = .ok (.iastore, 1) := by decide +kernel
theorem dX9_manyNow_95 : decode cX9_manyNow 95 = .ok (.dup, 1) := by decide +kernel
theorem dX9_manyNow_96 : decode cX9_manyNow 96 = .ok (.iconst 3, 1) := by decide +kernel
theorem dX9_manyNow_97 : decode cX9_manyNow 97 = .ok (.aload_n 0, 1) := by decide +kernel
theorem dX9_manyNow_98 : decode cX9_manyNow 98 = .ok (.getfield 96, 3) := by decide +kernel
theorem dX9_manyNow_101 : decode cX9_manyNow 101 = .ok (.iastore, 1) := by decide +kernel
theorem dX9_manyNow_102 : decode cX9_manyNow 102 = .ok (.dup, 1) := by decide +kernel
theorem dX9_manyNow_103 : decode cX9_manyNow 103 = .ok (.iconst 4, 1) := by decide +kernel
theorem dX9_manyNow_104 : decode cX9_manyNow 104 = .ok (.iload_n 3, 1) := by decide +kernel
theorem dX9_manyNow_105 : decode cX9_manyNow 105 = .ok (.iastore, 1) := by decide +kernel
theorem dX9_manyNow_106 : decode cX9_manyNow 106 = .ok (.dup, 1) := by decide +kernel
theorem dX9_manyNow_107 : decode cX9_manyNow 107 = .ok (.iconst 5, 1) := by decide +kernel
theorem dX9_manyNow_108 : decode cX9_manyNow 108 = .ok (.iload 4, 2) := by decide +kernel
theorem dX9_manyNow_110 : decode cX9_manyNow 110 = .ok (.iastore, 1) := by decide +kernel
theorem dX9_manyNow_111 : decode cX9_manyNow 111 = .ok (.astore 5, 2) := by decide +kernel
theorem dX9_manyNow_113 : decode cX9_manyNow 113 = .ok (.aload 5, 2) := by decide +kernel
theorem dX9_manyNow_115 : decode cX9_manyNow 115 = .ok (.iload_n 1, 1) := by decide +kernel
theorem dX9_manyNow_116 : decode cX9_manyNow 116 = .ok (.iaload, 1) := by decide +kernel
theorem dX9_manyNow_117 : decode cX9_manyNow 117 = .ok (.ireturn, 1) := by decide +kernel
theorem dX9_many_0 : decode cX9_many 0 = .ok (.aload_n 0, 1) := by decide +kernel
theorem dX9_many_1 : decode cX9_many 1 = .ok (.iconst 0, 1) := by decide +kernel
theorem dX9_many_2 : decode cX9_many 2 = .ok (.putfield 19, 3) := by decide +kernel
theorem dX9_many_5 : decode cX9_many 5 = .ok (.iload_n 1, 1) := by decide +kernel
theorem dX9_many_6 : decode cX9_many 6 = .ok (.iconst 0, 1) := by decide +kernel
theorem dX9_many_7 : decode cX9_many 7 = .ok (.iconst 5, 1) := by decide +kernel
theorem dX9_many_8 : decode cX9_many 8 = .ok (.invokestatic 23, 3) := by decide +kernel
theorem dX9_many_11 : decode cX9_many 11 = .ok (.ifCond .eq 11, 3) := by decide +kernel
theorem dX9_many_14 : decode cX9_many 14 = .ok (.aload_n 0, 1) := by decide +kernel
theorem dX9_many_15 : decode cX9_many 15 = .ok (.iload_n 1, 1) := by decide +kernel
theorem dX9_many_16 : decode cX9_many 16 = .ok (.invokevirtual 201, 3) := by decide +kernel
theorem dX9_many_19 : decode cX9_many 19 = .ok (.goto 8, 3) := by decide +kernel
theorem dX9_many_22 : decode cX9_many 22 = .ok (.aload_n 0, 1) := by decide +kernel
theorem dX9_many_23 : decode cX9_many 23 = .ok (.iconst 1, 1) := by decide +kernel
theorem dX9_many_24 : decode cX9_many 24 = .ok (.invokevirtual 65, 3) := by decide +kernel
theorem dX9_many_27 : decode cX9_many 27 = .ok (.ireturn, 1) := by decide +kernel
theorem dX9_toTopNow_0 : decode cX9_toTopNow 0 = .ok (.aload_n 0, 1) := by decide +kernel
theorem dX9_toTopNow_1 : decode cX9_toTopNow 1 = .ok (.invokevirtual 64, 3) := by decide +kernel
theorem dX9_toTopNow_4 : decode cX9_toTopNow 4 = .ok (.istore_n 2, 1) := by decide +kernel
theorem dX9_toTopNow_5 : decode cX9_toTopNow 5 = .ok (.iload_n 2, 1) := by decide +kernel
theorem dX9_toTopNow_6 : decode cX9_toTopNow 6 = .ok (.iconst 2, 1) := by decide +kernel
theorem dX9_toTopNow_7 : decode cX9_toTopNow 7 = .ok (.irem, 1) := by decide +kernel
theorem dX9_toTopNow_8 : decode cX9_toTopNow 8 = .ok (.iconst 1, 1) := by decide +kernel
theorem dX9_toTopNow_9 : decode cX9_toTopNow 9 = .ok (.if_icmp .ne 5, 3) := by decide +kernel
theorem dX9_toTopNow_12 : decode cX9_toTopNow 12 = .ok (.iconst (-1), 1) := by decide +kernel
theorem dX9_toTopNow_13 : decode cX9_toTopNow 13 = .ok (.ireturn, 1) := by decide +kernel
theorem dX9_toTopNow_14 : decode cX9_toTopNow 14 = .ok (.iconst 1, 1) := by decide +kernel
theorem dX9_toTopNow_15 : decode cX9_toTopNow 15 = .ok (.iload_n 1, 1) := by decide +kernel
theorem dX9_toTopNow_16 : decode cX9_toTopNow 16 = .ok (.ishl, 1) := by decide +kernel
theorem dX9_toTopNow_17 : decode cX9_toTopNow 17 = .ok (.istore_n 3, 1) := by decide +kernel
theorem dX9_toTopNow_18 : decode cX9_toTopNow 18 = .ok (.iload_n 3, 1) := by decide +kernel
theorem dX9_toTopNow_19 : decode cX9_toTopNow 19 = .ok (.istore 4, 2) := by decide +kernel
theorem dX9_toTopNow_21 : decode cX9_toTopNow 21 = .ok (.iconst 0, 1) := by decide +kernel
theorem dX9_toTopNow_22 : decode cX9_toTopNow 22 = .ok (.istore 5, 2) := by decide +kernel
theorem dX9_toTopNow_24 : decode cX9_toTopNow 24 = .ok (.iload_n 3, 1) := by decide +kernel
theorem dX9_toTopNow_25 : decode cX9_toTopNow 25 = .ok (.ifCond .eq 129, 3) := by decide +kernel
theorem dX9_toTopNow_28 : decode cX9_toTopNow 28 = .ok (.iload_n 3, 1) := by decide +kernel
theorem dX9_toTopNow_29 : decode cX9_toTopNow 29 = .ok (.iconst 1, 1) := by decide +kernel
theorem dX9_toTopNow_30 : decode cX9_toTopNow 30 = .ok (.iand, 1) := by decide +kernel
theorem dX9_toTopNow_31 : decode cX9_toTopNow 31 = .ok (.iconst 1, 1) := by decide +kernel
theorem dX9_toTopNow_32 : decode cX9_toTopNow 32 = .ok (.if_icmp .ne 6, 3) := by decide +kernel
theorem dX9_toTopNow_35 : decode cX9_toTopNow 35 = .ok (.iload 5, 2) := by decide +kernel
theorem dX9_toTopNow_37 : decode cX9_toTopNow 37 = .ok (.ireturn, 1) := by decide +kernel
theorem dX9_toTopNow_38 : decode cX9_toTopNow 38 = .ok (.iconst 0, 1) := by decide +kernel
theorem dX9_toTopNow_39 : decode cX9_toTopNow 39 = .ok (.istore 6, 2) := by decide +kernel
theorem dX9_toTopNow_41 : decode cX9_toTopNow 41 = .ok (.iconst 0, 1) := by decide +kernel
theorem dX9_toTopNow_42 : decode cX9_toTopNow 42 = .ok (.istore 7, 2) := by decide +kernel
theorem dX9_toTopNow_44 : decode cX9_toTopNow 44 = .ok (.iload 7, 2) := by decide +kernel
theorem dX9_toTopNow_46 : decode cX9_toTopNow 46 = .ok (.iload_n 2, 1) := by decide +kernel
theorem dX9_toTopNow_47 : decode cX9_toTopNow 47 = .ok (.if_icmp .ge 86, 3) := by decide +kernel
theorem dX9_toTopNow_50 : decode cX9_toTopNow 50 = .ok (.iload_n 3, 1) := by decide +kernel
theorem dX9_toTopNow_51 : decode cX9_toTopNow 51 = .ok (.iload 7, 2) := by decide +kernel
theorem dX9_toTopNow_53 : decode cX9_toTopNow 53 = .ok (.ishr, 1) := by decide +kernel
theorem dX9_toTopNow_54 : decode cX9_toTopNow 54 = .ok (.iconst 1, 1) := by decide +kernel
theorem dX9_toTopNow_55 : decode cX9_toTopNow 55 = .ok (.iand, 1) := by decide +kernel
theorem dX9_toTopNow_56 : decode cX9_toTopNow 56 = .ok (.ifCond .ne 6, 3) := by decide +kernel
theorem dX9_toTopNow_59 : decode cX9_toTopNow 59 = .ok (.goto 68, 3) := by decide +kernel
theorem dX9_toTopNow_62 : decode cX9_toTopNow 62 = .ok (.iload 7, 2) := by decide +kernel
theorem dX9_toTopNow_64 : decode cX9_toTopNow 64 = .ok (.iload_n 2, 1) := by decide +kernel
theorem dX9_toTopNow_65 : decode cX9_toTopNow 65 = .ok (.iconst 2, 1) := by decide +kernel
theorem dX9_toTopNow_66 : decode cX9_toTopNow 66 = .ok (.idiv, 1) := by decide +kernel
theorem dX9_toTopNow_67 : decode cX9_toTopNow 67 = .ok (.if_icmp .ge 7, 3) := by decide +kernel
theorem dX9_toTopNow_70 : decode cX9_toTopNow 70 = .ok (.iconst 1, 1) := by decide +kernel
theorem dX9_toTopNow_71 : decode cX9_toTopNow 71 = .ok (.goto 4, 3) := by decide +kernel
theorem dX9_toTopNow_74 : decode cX9_toTopNow 74 = .ok (.iconst 0, 1) := by decide +kernel
theorem dX9_toTopNow_75 : decode cX9_toTopNow 75 = .ok (.istore 8, 2) := by decide +kernel
theorem dX9_toTopNow_77 : decode cX9_toTopNow 77 = .ok (.iload 8, 2) := by decide +kernel
theorem dX9_toTopNow_79 : decode cX9_toTopNow 79 = .ok (.ifCond .eq 10, 3) := by decide +kernel
theorem dX9_toTopNow_82 : decode cX9_toTopNow 82 = .ok (.iconst 2, 1) := by decide +kernel
theorem dX9_toTopNow_83 : decode cX9_toTopNow 83 = .ok (.iload 7, 2) := by decide +kernel
theorem dX9_toTopNow_85 : decode cX9_toTopNow 85 = .ok (.imul, 1) := by decide +kernel
theorem dX9_toTopNow_86 : decode cX9_toTopNow 86 = .ok (.goto 11, 3) := by decide +kernel
theorem dX9_toTopNow_89 : decode cX9_toTopNow 89 = .ok (.iconst 2, 1) := by decide +kernel
theorem dX9_toTopNow_90 : decode cX9_toTopNow 90 = .ok (.iload 7, 2) := by decide +kernel
theorem dX9_toTopNow_92 : decode cX9_toTopNow 92 = .ok (.imul, 1) := by decide +kernel
theorem dX9_toTopNow_93 : decode cX9_toTopNow 93 = .ok (.iload_n 2, 1) := by decide +kernel
theorem dX9_toTopNow_94 : decode cX9_toTopNow 94 = .ok (.isub, 1) := by decide +kernel
theorem dX9_toTopNow_95 : decode cX9_toTopNow 95 = .ok (.iconst 1, 1) := by decide +kernel
theorem dX9_toTopNow_96 : decode cX9_toTopNow 96 = .ok (.iadd, 1) := by decide +kernel
theorem dX9_toTopNow_97 : decode cX9_toTopNow 97 = .ok (.istore 9, 2) := by decide +kernel
theorem dX9_toTopNow_99 : decode cX9_toTopNow 99 = .ok (.iload 6, 2) := by decide +kernel
theorem dX9_toTopNow_101 : decode cX9_toTopNow 101 = .ok (.iconst 1, 1) := by decide +kernel
theorem dX9_toTopNow_102 : decode cX9_toTopNow 102 = .ok (.iload 9, 2) := by decide +kernel
theorem dX9_toTopNow_104 : decode cX9_toTopNow 104 = .ok (.ishl, 1) := by decide +kernel
theorem dX9_toTopNow_105 : decode cX9_toTopNow 105 = .ok (.iconst 1, 1) := by decide +kernel
theorem dX9_toTopNow_106 : decode cX9_toTopNow 106 = .ok (.iload 8, 2) := by decide +kernel
theorem dX9_toTopNow_108 : decode cX9_toTopNow 108 = .ok (.ifCond .eq 10, 3) := by decide +kernel
theorem dX9_toTopNow_111 : decode cX9_toTopNow 111 = .ok (.iload 9, 2) := by decide +kernel
theorem dX9_toTopNow_113 : decode cX9_toTopNow 113 = .ok (.iconst 1, 1) := by decide +kernel
theorem dX9_toTopNow_114 : decode cX9_toTopNow 114 = .ok (.iadd, 1) := by decide +kernel
theorem dX9_toTopNow_115 : decode cX9_toTopNow 115 = .ok (.goto 7, 3) := by decide +kernel
theorem dX9_toTopNow_118 : decode cX9_toTopNow 118 = .ok (.iload 9, 2) := by decide +kernel
theorem dX9_toTopNow_120 : decode cX9_toTopNow 120 = .ok (.iconst 1, 1) := by decide +kernel
theorem dX9_toTopNow_121 : decode cX9_toTopNow 121 = .ok (.isub, 1) := by decide +kernel
theorem dX9_toTopNow_122 : decode cX9_toTopNow 122 = .ok (.ishl, 1) := by decide +kernel
theorem dX9_toTopNow_123 : decode cX9_toTopNow 123 = .ok (.ior, 1) := by decide +kernel
theorem dX9_toTopNow_124 : decode cX9_toTopNow 124 = .ok (.ior, 1) := by decide +kernel
theorem dX9_toTopNow_125 : decode cX9_toTopNow 125 = .ok (.istore 6, 2) := by decide +kernel
theorem dX9_toTopNow_127 : decode cX9_toTopNow 127 = .ok (.iinc 7 1, 3) := by decide +kernel
theorem dX9_toTopNow_130 : decode cX9_toTopNow 130 = .ok (.goto (-86), 3) := by decide +kernel
theorem dX9_toTopNow_133 : decode cX9_toTopNow 133 = .ok (.iload 6, 2) := by decide +kernel
theorem dX9_toTopNow_135 : decode cX9_toTopNow 135 = .ok (.iload 4, 2) := by decide +kernel
theorem dX9_toTopNow_137 : decode cX9_toTopNow 137 = .ok (.iconst (-1), 1) := by decide +kernel
theorem dX9_toTopNow_138 : decode cX9_toTopNow 138 = .ok (.ixor, 1) := by decide +kernel
theorem dX9_toTopNow_139 : decode cX9_toTopNow 139 = .ok (.iand, 1) := by decide +kernel
theorem dX9_toTopNow_140 : decode cX9_toTopNow 140 = .ok (.istore_n 3, 1) := by decide +kernel
theorem dX9_toTopNow_141 : decode cX9_toTopNow 141 = .ok (.iload 4, 2) := by decide +kernel
theorem dX9_toTopNow_143 : decode cX9_toTopNow 143 = .ok (.iload 6, 2) := by decide +kernel
theorem dX9_toTopNow_145 : decode cX9_toTopNow 145 = .ok (.ior, 1) := by decide +kernel
theorem dX9_toTopNow_146 : decode cX9_toTopNow 146 = .ok (.istore 4, 2) := by decide +kernel
theorem dX9_toTopNow_148 : decode cX9_toTopNow 148 = .ok (.iinc 5 1, 3) := by decide +kernel
theorem dX9_toTopNow_151 : decode cX9_toTopNow 151 = .ok (.goto (-127), 3) := by decide +kernel
theorem dX9_toTopNow_154 : decode cX9_toTopNow 154 = .ok (.iconst (-1), 1) := by decide +kernel
theorem dX9_toTopNow_155 : decode cX9_toTopNow 155 = .ok (.ireturn, 1) := by decide +kernel
theorem dX9_toTop_0 : decode cX9_toTop 0 = .ok (.aload_n 0, 1) := by decide +kernel
theorem dX9_toTop_1 : decode cX9_toTop 1 = .ok (.iconst 0, 1) := by decide +kernel
theorem dX9_toTop_2 : decode cX9_toTop 2 = .ok (.putfield 19, 3) := by decide +kernel
theorem dX9_toTop_5 : decode cX9_toTop 5 = .ok (.aload_n 0, 1) := by decide +kernel
theorem dX9_toTop_6 : decode cX9_toTop 6 = .ok (.iload_n 1, 1) := by decide +kernel
theorem dX9_toTop_7 : decode cX9_toTop 7 = .ok (.iload_n 2, 1) := by decide +kernel
theorem dX9_toTop_8 : decode cX9_toTop 8 = .ok (.invokevirtual 99, 3) := by decide +kernel
theorem dX9_toTop_11 : decode cX9_toTop 11 = .ok (.ifCond .eq 21, 3) := by decide +kernel
theorem dX9_toTop_14 : decode cX9_toTop 14 = .ok (.aload_n 0, 1) := by decide +kernel
theorem dX9_toTop_15 : decode cX9_toTop 15 = .ok (.getfield 10, 3) := by decide +kernel
theorem dX9_toTop_18 : decode cX9_toTop 18 = .ok (.iload_n 1, 1) := by decide +kernel
theorem dX9_toTop_19 : decode cX9_toTop 19 = .ok (.invokevirtual 58, 3) := by decide +kernel
theorem dX9_toTop_22 : decode cX9_toTop 22 = .ok (.checkcast 62, 3) := by decide +kernel
theorem dX9_toTop_25 : decode cX9_toTop 25 = .ok (.iload_n 2, 1) := by decide +kernel
theorem dX9_toTop_26 : decode cX9_toTop 26 = .ok (.invokestatic 204, 3) := by decide +kernel
theorem dX9_toTop_29 : decode cX9_toTop 29 = .ok (.goto 8, 3) := by decide +kernel
theorem dX9_toTop_32 : decode cX9_toTop 32 = .ok (.aload_n 0, 1) := by decide +kernel
theorem dX9_toTop_33 : decode cX9_toTop 33 = .ok (.iconst 1, 1) := by decide +kernel
theorem dX9_toTop_34 : decode cX9_toTop 34 = .ok (.invokevirtual 65, 3) := by decide +kernel
theorem dX9_toTop_37 : decode cX9_toTop 37 = .ok (.ireturn, 1) := by decide +kernel
theorem dX9_goes_0 : decode cX9_goes 0 = .ok (.aload_n 0, 1) := by decide +kernel
theorem dX9_goes_1 : decode cX9_goes 1 = .ok (.iconst 0, 1) := by decide +kernel
theorem dX9_goes_2 : decode cX9_goes 2 = .ok (.putfield 19, 3) := by decide +kernel
theorem dX9_goes_5 : decode cX9_goes 5 = .ok (.aload_n 0, 1) := by decide +kernel
theorem dX9_goes_6 : decode cX9_goes 6 = .ok (.iload_n 1, 1) := by decide +kernel
theorem dX9_goes_7 : decode cX9_goes 7 = .ok (.iload_n 2, 1) := by decide +kernel
theorem dX9_goes_8 : decode cX9_goes 8 = .ok (.invokevirtual 99, 3) := by decide +kernel
theorem dX9_goes_11 : decode cX9_goes 11 = .ok (.ifCond .ne 9, 3) := by decide +kernel
theorem dX9_goes_14 : decode cX9_goes 14 = .ok (.aload_n 0, 1) := by decide +kernel
theorem dX9_goes_15 : decode cX9_goes 15 = .ok (.iconst 1, 1) := by decide +kernel
theorem dX9_goes_16 : decode cX9_goes 16 = .ok (.invokevirtual 65, 3) := by decide +kernel
theorem dX9_goes_19 : decode cX9_goes 19 = .ok (.ireturn, 1) := by decide +kernel
theorem dX9_goes_20 : decode cX9_goes 20 = .ok (.aload_n 0, 1) := by decide +kernel
theorem dX9_goes_21 : decode cX9_goes 21 = .ok (.getfield 10, 3) := by decide +kernel
theorem dX9_goes_24 : decode cX9_goes 24 = .ok (.iload_n 1, 1) := by decide +kernel
theorem dX9_goes_25 : decode cX9_goes 25 = .ok (.invokevirtual 58, 3) := by decide +kernel
theorem dX9_goes_28 : decode cX9_goes 28 = .ok (.checkcast 62, 3) := by decide +kernel
theorem dX9_goes_31 : decode cX9_goes 31 = .ok (.invokevirtual 64, 3) := by decide +kernel
theorem dX9_goes_34 : decode cX9_goes 34 = .ok (.istore 5, 2) := by decide +kernel
theorem dX9_goes_36 : decode cX9_goes 36 = .ok (.iload_n 3, 1) := by decide +kernel
theorem dX9_goes_37 : decode cX9_goes 37 = .ok (.iload 4, 2) := by decide +kernel
theorem dX9_goes_39 : decode cX9_goes 39 = .ok (.iload 5, 2) := by decide +kernel
theorem dX9_goes_41 : decode cX9_goes 41 = .ok (.invokestatic 73, 3) := by decide +kernel
theorem dX9_goes_44 : decode cX9_goes 44 = .ok (.ifCond .eq 18, 3) := by decide +kernel
theorem dX9_goes_47 : decode cX9_goes 47 = .ok (.iload_n 3, 1) := by decide +kernel
theorem dX9_goes_48 : decode cX9_goes 48 = .ok (.iload 4, 2) := by decide +kernel
theorem dX9_goes_50 : decode cX9_goes 50 = .ok (.iload 5, 2) := by decide +kernel
theorem dX9_goes_52 : decode cX9_goes 52 = .ok (.invokestatic 77, 3) := by decide +kernel
theorem dX9_goes_55 : decode cX9_goes 55 = .ok (.iload_n 2, 1) := by decide +kernel
theorem dX9_goes_56 : decode cX9_goes 56 = .ok (.invokevirtual 207, 3) := by decide +kernel
theorem dX9_goes_59 : decode cX9_goes 59 = .ok (.goto 8, 3) := by decide +kernel
theorem dX9_goes_62 : decode cX9_goes 62 = .ok (.aload_n 0, 1) := by decide +kernel
theorem dX9_goes_63 : decode cX9_goes 63 = .ok (.iconst 2, 1) := by decide +kernel
theorem dX9_goes_64 : decode cX9_goes 64 = .ok (.invokevirtual 65, 3) := by decide +kernel
theorem dX9_goes_67 : decode cX9_goes 67 = .ok (.ireturn, 1) := by decide +kernel
theorem dX9_bestNow_0 : decode cX9_bestNow 0 = .ok (.iconst (-1), 1) := by decide +kernel
theorem dX9_bestNow_1 : decode cX9_bestNow 1 = .ok (.istore_n 1, 1) := by decide +kernel
theorem dX9_bestNow_2 : decode cX9_bestNow 2 = .ok (.iconst 0, 1) := by decide +kernel
theorem dX9_bestNow_3 : decode cX9_bestNow 3 = .ok (.istore_n 2, 1) := by decide +kernel
theorem dX9_bestNow_4 : decode cX9_bestNow 4 = .ok (.iconst 1, 1) := by decide +kernel
theorem dX9_bestNow_5 : decode cX9_bestNow 5 = .ok (.istore_n 3, 1) := by decide +kernel
theorem dX9_bestNow_6 : decode cX9_bestNow 6 = .ok (.iload_n 3, 1) := by decide +kernel
theorem dX9_bestNow_7 : decode cX9_bestNow 7 = .ok (.iconst 5, 1) := by decide +kernel
theorem dX9_bestNow_8 : decode cX9_bestNow 8 = .ok (.if_icmp .gt 72, 3) := by decide +kernel
theorem dX9_bestNow_11 : decode cX9_bestNow 11 = .ok (.iload_n 3, 1) := by decide +kernel
theorem dX9_bestNow_12 : decode cX9_bestNow 12 = .ok (.iconst 5, 1) := by decide +kernel
theorem dX9_bestNow_13 : decode cX9_bestNow 13 = .ok (.if_icmp .ne 7, 3) := by decide +kernel
theorem dX9_bestNow_16 : decode cX9_bestNow 16 = .ok (.iconst 2, 1) := by decide +kernel
theorem dX9_bestNow_17 : decode cX9_bestNow 17 = .ok (.goto 4, 3) := by decide +kernel
theorem dX9_bestNow_20 : decode cX9_bestNow 20 = .ok (.iconst 0, 1) := by decide +kernel
theorem dX9_bestNow_21 : decode cX9_bestNow 21 = .ok (.istore 4, 2) := by decide +kernel
theorem dX9_bestNow_23 : decode cX9_bestNow 23 = .ok (.iload_n 3, 1) := by decide +kernel
theorem dX9_bestNow_24 : decode cX9_bestNow 24 = .ok (.iload 4, 2) := by decide +kernel
theorem dX9_bestNow_26 : decode cX9_bestNow 26 = .ok (.aload_n 0, 1) := by decide +kernel
theorem dX9_bestNow_27 : decode cX9_bestNow 27 = .ok (.invokevirtual 64, 3) := by decide +kernel
theorem dX9_bestNow_30 : decode cX9_bestNow 30 = .ok (.invokestatic 73, 3) := by decide +kernel
theorem dX9_bestNow_33 : decode cX9_bestNow 33 = .ok (.ifCond .ne 6, 3) := by decide +kernel
theorem dX9_bestNow_36 : decode cX9_bestNow 36 = .ok (.goto 38, 3) := by decide +kernel
theorem dX9_bestNow_39 : decode cX9_bestNow 39 = .ok (.aload_n 0, 1) := by decide +kernel
theorem dX9_bestNow_40 : decode cX9_bestNow 40 = .ok (.iload_n 3, 1) := by decide +kernel
theorem dX9_bestNow_41 : decode cX9_bestNow 41 = .ok (.iload 4, 2) := by decide +kernel
theorem dX9_bestNow_43 : decode cX9_bestNow 43 = .ok (.aload_n 0, 1) := by decide +kernel
theorem dX9_bestNow_44 : decode cX9_bestNow 44 = .ok (.invokevirtual 64, 3) := by decide +kernel
theorem dX9_bestNow_47 : decode cX9_bestNow 47 = .ok (.invokestatic 77, 3) := by decide +kernel
theorem dX9_bestNow_50 : decode cX9_bestNow 50 = .ok (.invokevirtual 210, 3) := by decide +kernel
theorem dX9_bestNow_53 : decode cX9_bestNow 53 = .ok (.istore 5, 2) := by decide +kernel
theorem dX9_bestNow_55 : decode cX9_bestNow 55 = .ok (.iload_n 1, 1) := by decide +kernel
theorem dX9_bestNow_56 : decode cX9_bestNow 56 = .ok (.iconst (-1), 1) := by decide +kernel
theorem dX9_bestNow_57 : decode cX9_bestNow 57 = .ok (.if_icmp .eq 12, 3) := by decide +kernel
theorem dX9_bestNow_60 : decode cX9_bestNow 60 = .ok (.iload 5, 2) := by decide +kernel
theorem dX9_bestNow_62 : decode cX9_bestNow 62 = .ok (.iload_n 2, 1) := by decide +kernel
theorem dX9_bestNow_63 : decode cX9_bestNow 63 = .ok (.if_icmp .lt 6, 3) := by decide +kernel
theorem dX9_bestNow_66 : decode cX9_bestNow 66 = .ok (.goto 8, 3) := by decide +kernel
theorem dX9_bestNow_69 : decode cX9_bestNow 69 = .ok (.iload_n 3, 1) := by decide +kernel
theorem dX9_bestNow_70 : decode cX9_bestNow 70 = .ok (.istore_n 1, 1) := by decide +kernel
theorem dX9_bestNow_71 : decode cX9_bestNow 71 = .ok (.iload 5, 2) := by decide +kernel
theorem dX9_bestNow_73 : decode cX9_bestNow 73 = .ok (.istore_n 2, 1) := by decide +kernel
theorem dX9_bestNow_74 : decode cX9_bestNow 74 = .ok (.iinc 3 1, 3) := by decide +kernel
theorem dX9_bestNow_77 : decode cX9_bestNow 77 = .ok (.goto (-71), 3) := by decide +kernel
theorem dX9_bestNow_80 : decode cX9_bestNow 80 = .ok (.iload_n 1, 1) := by decide +kernel
theorem dX9_bestNow_81 : decode cX9_bestNow 81 = .ok (.ireturn, 1) := by decide +kernel
theorem dX9_best_0 : decode cX9_best 0 = .ok (.aload_n 0, 1) := by decide +kernel
theorem dX9_best_1 : decode cX9_best 1 = .ok (.iconst 0, 1) := by decide +kernel
theorem dX9_best_2 : decode cX9_best 2 = .ok (.putfield 19, 3) := by decide +kernel
theorem dX9_best_5 : decode cX9_best 5 = .ok (.aload_n 0, 1) := by decide +kernel
theorem dX9_best_6 : decode cX9_best 6 = .ok (.iload_n 1, 1) := by decide +kernel
theorem dX9_best_7 : decode cX9_best 7 = .ok (.invokevirtual 54, 3) := by decide +kernel
theorem dX9_best_10 : decode cX9_best 10 = .ok (.ifCond .eq 20, 3) := by decide +kernel
theorem dX9_best_13 : decode cX9_best 13 = .ok (.aload_n 0, 1) := by decide +kernel
theorem dX9_best_14 : decode cX9_best 14 = .ok (.getfield 10, 3) := by decide +kernel
theorem dX9_best_17 : decode cX9_best 17 = .ok (.iload_n 1, 1) := by decide +kernel
theorem dX9_best_18 : decode cX9_best 18 = .ok (.invokevirtual 58, 3) := by decide +kernel
theorem dX9_best_21 : decode cX9_best 21 = .ok (.checkcast 62, 3) := by decide +kernel
theorem dX9_best_24 : decode cX9_best 24 = .ok (.invokestatic 213, 3) := by decide +kernel
theorem dX9_best_27 : decode cX9_best 27 = .ok (.goto 8, 3) := by decide +kernel
theorem dX9_best_30 : decode cX9_best 30 = .ok (.aload_n 0, 1) := by decide +kernel
theorem dX9_best_31 : decode cX9_best 31 = .ok (.iconst 1, 1) := by decide +kernel
theorem dX9_best_32 : decode cX9_best 32 = .ok (.invokevirtual 65, 3) := by decide +kernel
theorem dX9_best_35 : decode cX9_best 35 = .ok (.ireturn, 1) := by decide +kernel
theorem dX9_riffleNow_0 : decode cX9_riffleNow 0 = .ok (.aload_n 0, 1) := by decide +kernel
theorem dX9_riffleNow_1 : decode cX9_riffleNow 1 = .ok (.invokevirtual 144, 3) := by decide +kernel
theorem dX9_riffleNow_4 : decode cX9_riffleNow 4 = .ok (.istore_n 1, 1) := by decide +kernel
theorem dX9_riffleNow_5 : decode cX9_riffleNow 5 = .ok (.iload_n 1, 1) := by decide +kernel
theorem dX9_riffleNow_6 : decode cX9_riffleNow 6 = .ok (.iconst 2, 1) := by decide +kernel
theorem dX9_riffleNow_7 : decode cX9_riffleNow 7 = .ok (.if_icmp .le 5, 3) := by decide +kernel
theorem dX9_riffleNow_10 : decode cX9_riffleNow 10 = .ok (.iconst (-1), 1) := by decide +kernel
theorem dX9_riffleNow_11 : decode cX9_riffleNow 11 = .ok (.ireturn, 1) := by decide +kernel
theorem dX9_riffleNow_12 : decode cX9_riffleNow 12 = .ok (.iload_n 1, 1) := by decide +kernel
theorem dX9_riffleNow_13 : decode cX9_riffleNow 13 = .ok (.iconst 1, 1) := by decide +kernel
theorem dX9_riffleNow_14 : decode cX9_riffleNow 14 = .ok (.if_icmp .ne 5, 3) := by decide +kernel
theorem dX9_riffleNow_17 : decode cX9_riffleNow 17 = .ok (.iconst 0, 1) := by decide +kernel
theorem dX9_riffleNow_18 : decode cX9_riffleNow 18 = .ok (.ireturn, 1) := by decide +kernel
theorem dX9_riffleNow_19 : decode cX9_riffleNow 19 = .ok (.iconst 1, 1) := by decide +kernel
theorem dX9_riffleNow_20 : decode cX9_riffleNow 20 = .ok (.istore_n 2, 1) := by decide +kernel
theorem dX9_riffleNow_21 : decode cX9_riffleNow 21 = .ok (.aload_n 0, 1) := by decide +kernel
theorem dX9_riffleNow_22 : decode cX9_riffleNow 22 = .ok (.iload_n 2, 1) := by decide +kernel
theorem dX9_riffleNow_23 : decode cX9_riffleNow 23 = .ok (.invokevirtual 135, 3) := by decide +kernel
theorem dX9_riffleNow_26 : decode cX9_riffleNow 26 = .ok (.aload_n 0, 1) := by decide +kernel
theorem dX9_riffleNow_27 : decode cX9_riffleNow 27 = .ok (.iload_n 2, 1) := by decide +kernel
theorem dX9_riffleNow_28 : decode cX9_riffleNow 28 = .ok (.iconst 1, 1) := by decide +kernel
theorem dX9_riffleNow_29 : decode cX9_riffleNow 29 = .ok (.isub, 1) := by decide +kernel
theorem dX9_riffleNow_30 : decode cX9_riffleNow 30 = .ok (.invokevirtual 135, 3) := by decide +kernel
theorem dX9_riffleNow_33 : decode cX9_riffleNow 33 = .ok (.if_icmp .le 9, 3) := by decide +kernel
theorem dX9_riffleNow_36 : decode cX9_riffleNow 36 = .ok (.iinc 2 1, 3) := by decide +kernel
theorem dX9_riffleNow_39 : decode cX9_riffleNow 39 = .ok (.goto (-18), 3) := by decide +kernel
theorem dX9_riffleNow_42 : decode cX9_riffleNow 42 = .ok (.iconst 0, 1) := by decide +kernel
theorem dX9_riffleNow_43 : decode cX9_riffleNow 43 = .ok (.istore_n 3, 1) := by decide +kernel
theorem dX9_riffleNow_44 : decode cX9_riffleNow 44 = .ok (.iconst 0, 1) := by decide +kernel
theorem dX9_riffleNow_45 : decode cX9_riffleNow 45 = .ok (.istore 4, 2) := by decide +kernel
theorem dX9_riffleNow_47 : decode cX9_riffleNow 47 = .ok (.iload 4, 2) := by decide +kernel
theorem dX9_riffleNow_49 : decode cX9_riffleNow 49 = .ok (.aload_n 0, 1) := by decide +kernel
theorem dX9_riffleNow_50 : decode cX9_riffleNow 50 = .ok (.invokevirtual 64, 3) := by decide +kernel
theorem dX9_riffleNow_53 : decode cX9_riffleNow 53 = .ok (.if_icmp .ge 31, 3) := by decide +kernel
theorem dX9_riffleNow_56 : decode cX9_riffleNow 56 = .ok (.iload_n 3, 1) := by decide +kernel
theorem dX9_riffleNow_57 : decode cX9_riffleNow 57 = .ok (.aload_n 0, 1) := by decide +kernel
theorem dX9_riffleNow_58 : decode cX9_riffleNow 58 = .ok (.getfield 89, 3) := by decide +kernel
theorem dX9_riffleNow_61 : decode cX9_riffleNow 61 = .ok (.iload 4, 2) := by decide +kernel
theorem dX9_riffleNow_63 : decode cX9_riffleNow 63 = .ok (.iaload, 1) := by decide +kernel
theorem dX9_riffleNow_64 : decode cX9_riffleNow 64 = .ok (.iload_n 2, 1) := by decide +kernel
theorem dX9_riffleNow_65 : decode cX9_riffleNow 65 = .ok (.if_icmp .lt 10, 3) := by decide +kernel
theorem dX9_riffleNow_68 : decode cX9_riffleNow 68 = .ok (.iconst 1, 1) := by decide +kernel
theorem dX9_riffleNow_69 : decode cX9_riffleNow 69 = .ok (.iload 4, 2) := by decide +kernel
theorem dX9_riffleNow_71 : decode cX9_riffleNow 71 = .ok (.ishl, 1) := by decide +kernel
theorem dX9_riffleNow_72 : decode cX9_riffleNow 72 = .ok (.goto 4, 3) := by decide +kernel
theorem dX9_riffleNow_75 : decode cX9_riffleNow 75 = .ok (.iconst 0, 1) := by decide +kernel
theorem dX9_riffleNow_76 : decode cX9_riffleNow 76 = .ok (.ior, 1) := by decide +kernel
theorem dX9_riffleNow_77 : decode cX9_riffleNow 77 = .ok (.istore_n 3, 1) := by decide +kernel
theorem dX9_riffleNow_78 : decode cX9_riffleNow 78 = .ok (.iinc 4 1, 3) := by decide +kernel
theorem dX9_riffleNow_81 : decode cX9_riffleNow 81 = .ok (.goto (-34), 3) := by decide +kernel
theorem dX9_riffleNow_84 : decode cX9_riffleNow 84 = .ok (.iload_n 3, 1) := by decide +kernel
theorem dX9_riffleNow_85 : decode cX9_riffleNow 85 = .ok (.ireturn, 1) := by decide +kernel
theorem dX9_riffle_0 : decode cX9_riffle 0 = .ok (.aload_n 0, 1) := by decide +kernel
theorem dX9_riffle_1 : decode cX9_riffle 1 = .ok (.iconst 0, 1) := by decide +kernel
theorem dX9_riffle_2 : decode cX9_riffle 2 = .ok (.putfield 19, 3) := by decide +kernel
theorem dX9_riffle_5 : decode cX9_riffle 5 = .ok (.aload_n 0, 1) := by decide +kernel
theorem dX9_riffle_6 : decode cX9_riffle 6 = .ok (.iload_n 1, 1) := by decide +kernel
theorem dX9_riffle_7 : decode cX9_riffle 7 = .ok (.invokevirtual 54, 3) := by decide +kernel
theorem dX9_riffle_10 : decode cX9_riffle 10 = .ok (.ifCond .eq 20, 3) := by decide +kernel
theorem dX9_riffle_13 : decode cX9_riffle 13 = .ok (.aload_n 0, 1) := by decide +kernel
theorem dX9_riffle_14 : decode cX9_riffle 14 = .ok (.getfield 10, 3) := by decide +kernel
theorem dX9_riffle_17 : decode cX9_riffle 17 = .ok (.iload_n 1, 1) := by decide +kernel
theorem dX9_riffle_18 : decode cX9_riffle 18 = .ok (.invokevirtual 58, 3) := by decide +kernel
theorem dX9_riffle_21 : decode cX9_riffle 21 = .ok (.checkcast 62, 3) := by decide +kernel
theorem dX9_riffle_24 : decode cX9_riffle 24 = .ok (.invokestatic 217, 3) := by decide +kernel
theorem dX9_riffle_27 : decode cX9_riffle 27 = .ok (.goto 8, 3) := by decide +kernel
theorem dX9_riffle_30 : decode cX9_riffle 30 = .ok (.aload_n 0, 1) := by decide +kernel
theorem dX9_riffle_31 : decode cX9_riffle 31 = .ok (.iconst 1, 1) := by decide +kernel
theorem dX9_riffle_32 : decode cX9_riffle 32 = .ok (.invokevirtual 65, 3) := by decide +kernel
theorem dX9_riffle_35 : decode cX9_riffle 35 = .ok (.ireturn, 1) := by decide +kernel
theorem dX9_add_0 : decode cX9_add 0 = .ok (.aload_n 0, 1) := by decide +kernel
theorem dX9_add_1 : decode cX9_add 1 = .ok (.aload_n 0, 1) := by decide +kernel
theorem dX9_add_2 : decode cX9_add 2 = .ok (.getfield 220, 3) := by decide +kernel
theorem dX9_add_5 : decode cX9_add 5 = .ok (.ldc2_w 224, 3) := by decide +kernel
theorem dX9_add_8 : decode cX9_add 8 = .ok (.lmul, 1) := by decide +kernel
theorem dX9_add_9 : decode cX9_add 9 = .ok (.iload_n 1, 1) := by decide +kernel
theorem dX9_add_10 : decode cX9_add 10 = .ok (.i2l, 1) := by decide +kernel
theorem dX9_add_11 : decode cX9_add 11 = .ok (.ladd, 1) := by decide +kernel
theorem dX9_add_12 : decode cX9_add 12 = .ok (.putfield 220, 3) := by decide +kernel
theorem dX9_add_15 : decode cX9_add 15 = .ok (.return_, 1) := by decide +kernel
theorem dX9_digest_0 : decode cX9_digest 0 = .ok (.aload_n 0, 1) := by decide +kernel
theorem dX9_digest_1 : decode cX9_digest 1 = .ok (.iconst 0, 1) := by decide +kernel
theorem dX9_digest_2 : decode cX9_digest 2 = .ok (.putfield 19, 3) := by decide +kernel
theorem dX9_digest_5 : decode cX9_digest 5 = .ok (.aload_n 0, 1) := by decide +kernel
theorem dX9_digest_6 : decode cX9_digest 6 = .ok (.ldc2_w 226, 3) := by decide +kernel
theorem dX9_digest_9 : decode cX9_digest 9 = .ok (.putfield 220, 3) := by decide +kernel
theorem dX9_digest_12 : decode cX9_digest 12 = .ok (.iconst 0, 1) := by decide +kernel
theorem dX9_digest_13 : decode cX9_digest 13 = .ok (.istore_n 1, 1) := by decide +kernel
theorem dX9_digest_14 : decode cX9_digest 14 = .ok (.iload_n 1, 1) := by decide +kernel
theorem dX9_digest_15 : decode cX9_digest 15 = .ok (.bipush 6, 2) := by decide +kernel
theorem dX9_digest_17 : decode cX9_digest 17 = .ok (.if_icmp .ge 18, 3) := by decide +kernel
theorem dX9_digest_20 : decode cX9_digest 20 = .ok (.aload_n 0, 1) := by decide +kernel
theorem dX9_digest_21 : decode cX9_digest 21 = .ok (.aload_n 0, 1) := by decide +kernel
theorem dX9_digest_22 : decode cX9_digest 22 = .ok (.iload_n 1, 1) := by decide +kernel
theorem dX9_digest_23 : decode cX9_digest 23 = .ok (.invokevirtual 201, 3) := by decide +kernel
theorem dX9_digest_26 : decode cX9_digest 26 = .ok (.invokevirtual 228, 3) := by decide +kernel
theorem dX9_digest_29 : decode cX9_digest 29 = .ok (.iinc 1 1, 3) := by decide +kernel
theorem dX9_digest_32 : decode cX9_digest 32 = .ok (.goto (-18), 3) := by decide +kernel
theorem dX9_digest_35 : decode cX9_digest 35 = .ok (.aload_n 0, 1) := by decide +kernel
theorem dX9_digest_36 : decode cX9_digest 36 = .ok (.getfield 10, 3) := by decide +kernel
theorem dX9_digest_39 : decode cX9_digest 39 = .ok (.invokevirtual 114, 3) := by decide +kernel
theorem dX9_digest_42 : decode cX9_digest 42 = .ok (.astore_n 1, 1) := by decide +kernel
theorem dX9_digest_43 : decode cX9_digest 43 = .ok (.aload_n 1, 1) := by decide +kernel
theorem dX9_digest_44 : decode cX9_digest 44 = .ok (.invokeinterface 118 1, 5) := by decide +kernel
theorem dX9_digest_49 : decode cX9_digest 49 = .ok (.ifCond .eq 158, 3) := by decide +kernel
theorem dX9_digest_52 : decode cX9_digest 52 = .ok (.aload_n 1, 1) := by decide +kernel
theorem dX9_digest_53 : decode cX9_digest 53 = .ok (.invokeinterface 123 1, 5) := by decide +kernel
theorem dX9_digest_58 : decode cX9_digest 58 = .ok (.checkcast 62, 3) := by decide +kernel
theorem dX9_digest_61 : decode cX9_digest 61 = .ok (.astore_n 2, 1) := by decide +kernel
theorem dX9_digest_62 : decode cX9_digest 62 = .ok (.iconst 0, 1) := by decide +kernel
theorem dX9_digest_63 : decode cX9_digest 63 = .ok (.istore_n 3, 1) := by decide +kernel
theorem dX9_digest_64 : decode cX9_digest 64 = .ok (.iload_n 3, 1) := by decide +kernel
theorem dX9_digest_65 : decode cX9_digest 65 = .ok (.bipush 11, 2) := by decide +kernel
theorem dX9_digest_67 : decode cX9_digest 67 = .ok (.if_icmp .ge 18, 3) := by decide +kernel
theorem dX9_digest_70 : decode cX9_digest 70 = .ok (.aload_n 0, 1) := by decide +kernel
theorem dX9_digest_71 : decode cX9_digest 71 = .ok (.aload_n 2, 1) := by decide +kernel
theorem dX9_digest_72 : decode cX9_digest 72 = .ok (.iload_n 3, 1) := by decide +kernel
theorem dX9_digest_73 : decode cX9_digest 73 = .ok (.invokestatic 159, 3) := by decide +kernel
theorem dX9_digest_76 : decode cX9_digest 76 = .ok (.invokevirtual 228, 3) := by decide +kernel
theorem dX9_digest_79 : decode cX9_digest 79 = .ok (.iinc 3 1, 3) := by decide +kernel
theorem dX9_digest_82 : decode cX9_digest 82 = .ok (.goto (-18), 3) := by decide +kernel
theorem dX9_digest_85 : decode cX9_digest 85 = .ok (.iconst 0, 1) := by decide +kernel
theorem dX9_digest_86 : decode cX9_digest 86 = .ok (.istore_n 3, 1) := by decide +kernel
theorem dX9_digest_87 : decode cX9_digest 87 = .ok (.iload_n 3, 1) := by decide +kernel
theorem dX9_digest_88 : decode cX9_digest 88 = .ok (.bipush 6, 2) := by decide +kernel
theorem dX9_digest_90 : decode cX9_digest 90 = .ok (.if_icmp .ge 26, 3) := by decide +kernel
theorem dX9_digest_93 : decode cX9_digest 93 = .ok (.aload_n 0, 1) := by decide +kernel
theorem dX9_digest_94 : decode cX9_digest 94 = .ok (.aload_n 2, 1) := by decide +kernel
theorem dX9_digest_95 : decode cX9_digest 95 = .ok (.iload_n 3, 1) := by decide +kernel
theorem dX9_digest_96 : decode cX9_digest 96 = .ok (.invokestatic 178, 3) := by decide +kernel
theorem dX9_digest_99 : decode cX9_digest 99 = .ok (.ifCond .eq 7, 3) := by decide +kernel
theorem dX9_digest_102 : decode cX9_digest 102 = .ok (.iconst 1, 1) := by decide +kernel
theorem dX9_digest_103 : decode cX9_digest 103 = .ok (.goto 4, 3) := by decide +kernel
theorem dX9_digest_106 : decode cX9_digest 106 = .ok (.iconst 0, 1) := by decide +kernel
theorem dX9_digest_107 : decode cX9_digest 107 = .ok (.invokevirtual 228, 3) := by decide +kernel
theorem dX9_digest_110 : decode cX9_digest 110 = .ok (.iinc 3 1, 3) := by decide +kernel
theorem dX9_digest_113 : decode cX9_digest 113 = .ok (.goto (-26), 3) := by decide +kernel
theorem dX9_digest_116 : decode cX9_digest 116 = .ok (.iconst 0, 1) := by decide +kernel
theorem dX9_digest_117 : decode cX9_digest 117 = .ok (.istore_n 3, 1) := by decide +kernel
theorem dX9_digest_118 : decode cX9_digest 118 = .ok (.iload_n 3, 1) := by decide +kernel
theorem dX9_digest_119 : decode cX9_digest 119 = .ok (.aload_n 2, 1) := by decide +kernel
theorem dX9_digest_120 : decode cX9_digest 120 = .ok (.invokevirtual 64, 3) := by decide +kernel
theorem dX9_digest_123 : decode cX9_digest 123 = .ok (.if_icmp .ge 46, 3) := by decide +kernel
theorem dX9_digest_126 : decode cX9_digest 126 = .ok (.aload_n 0, 1) := by decide +kernel
theorem dX9_digest_127 : decode cX9_digest 127 = .ok (.aload_n 2, 1) := by decide +kernel
theorem dX9_digest_128 : decode cX9_digest 128 = .ok (.getfield 89, 3) := by decide +kernel
theorem dX9_digest_131 : decode cX9_digest 131 = .ok (.iload_n 3, 1) := by decide +kernel
theorem dX9_digest_132 : decode cX9_digest 132 = .ok (.iaload, 1) := by decide +kernel
theorem dX9_digest_133 : decode cX9_digest 133 = .ok (.invokevirtual 228, 3) := by decide +kernel
theorem dX9_digest_136 : decode cX9_digest 136 = .ok (.aload_n 0, 1) := by decide +kernel
theorem dX9_digest_137 : decode cX9_digest 137 = .ok (.aload_n 2, 1) := by decide +kernel
theorem dX9_digest_138 : decode cX9_digest 138 = .ok (.getfield 103, 3) := by decide +kernel
theorem dX9_digest_141 : decode cX9_digest 141 = .ok (.iload_n 3, 1) := by decide +kernel
theorem dX9_digest_142 : decode cX9_digest 142 = .ok (.baload, 1) := by decide +kernel
theorem dX9_digest_143 : decode cX9_digest 143 = .ok (.ifCond .eq 7, 3) := by decide +kernel
theorem dX9_digest_146 : decode cX9_digest 146 = .ok (.iconst 1, 1) := by decide +kernel
theorem dX9_digest_147 : decode cX9_digest 147 = .ok (.goto 4, 3) := by decide +kernel
theorem dX9_digest_150 : decode cX9_digest 150 = .ok (.iconst 0, 1) := by decide +kernel
theorem dX9_digest_151 : decode cX9_digest 151 = .ok (.invokevirtual 228, 3) := by decide +kernel
theorem dX9_digest_154 : decode cX9_digest 154 = .ok (.aload_n 0, 1) := by decide +kernel
theorem dX9_digest_155 : decode cX9_digest 155 = .ok (.aload_n 2, 1) := by decide +kernel
theorem dX9_digest_156 : decode cX9_digest 156 = .ok (.iload_n 3, 1) := by decide +kernel
theorem dX9_digest_157 : decode cX9_digest 157 = .ok (.invokestatic 204, 3) := by decide +kernel
theorem dX9_digest_160 : decode cX9_digest 160 = .ok (.invokevirtual 228, 3) := by decide +kernel
theorem dX9_digest_163 : decode cX9_digest 163 = .ok (.iinc 3 1, 3) := by decide +kernel
theorem dX9_digest_166 : decode cX9_digest 166 = .ok (.goto (-48), 3) := by decide +kernel
theorem dX9_digest_169 : decode cX9_digest 169 = .ok (.aload_n 0, 1) := by decide +kernel
theorem dX9_digest_170 : decode cX9_digest 170 = .ok (.aload_n 2, 1) := by decide +kernel
theorem dX9_digest_171 : decode cX9_digest 171 = .ok (.invokestatic 213, 3) := by decide +kernel
theorem dX9_digest_174 : decode cX9_digest 174 = .ok (.invokevirtual 228, 3) := by decide +kernel
theorem dX9_digest_177 : decode cX9_digest 177 = .ok (.aload_n 0, 1) := by decide +kernel
theorem dX9_digest_178 : decode cX9_digest 178 = .ok (.aload_n 2, 1) := by decide +kernel
theorem dX9_digest_179 : decode cX9_digest 179 = .ok (.invokestatic 217, 3) := by decide +kernel
theorem dX9_digest_182 : decode cX9_digest 182 = .ok (.invokevirtual 228, 3) := by decide +kernel
theorem dX9_digest_185 : decode cX9_digest 185 = .ok (.aload_n 0, 1) := by decide +kernel
theorem dX9_digest_186 : decode cX9_digest 186 = .ok (.aload_n 2, 1) := by decide +kernel
theorem dX9_digest_187 : decode cX9_digest 187 = .ok (.aload_n 0, 1) := by decide +kernel
theorem dX9_digest_188 : decode cX9_digest 188 = .ok (.getfield 10, 3) := by decide +kernel
theorem dX9_digest_191 : decode cX9_digest 191 = .ok (.iconst 0, 1) := by decide +kernel
theorem dX9_digest_192 : decode cX9_digest 192 = .ok (.invokevirtual 58, 3) := by decide +kernel
theorem dX9_digest_195 : decode cX9_digest 195 = .ok (.checkcast 62, 3) := by decide +kernel
theorem dX9_digest_198 : decode cX9_digest 198 = .ok (.invokestatic 187, 3) := by decide +kernel
theorem dX9_digest_201 : decode cX9_digest 201 = .ok (.invokevirtual 228, 3) := by decide +kernel
theorem dX9_digest_204 : decode cX9_digest 204 = .ok (.goto (-161), 3) := by decide +kernel
theorem dX9_digest_207 : decode cX9_digest 207 = .ok (.iconst 0, 1) := by decide +kernel
theorem dX9_digest_208 : decode cX9_digest 208 = .ok (.istore_n 1, 1) := by decide +kernel
theorem dX9_digest_209 : decode cX9_digest 209 = .ok (.iload_n 1, 1) := by decide +kernel
theorem dX9_digest_210 : decode cX9_digest 210 = .ok (.aload_n 0, 1) := by decide +kernel
theorem dX9_digest_211 : decode cX9_digest 211 = .ok (.getfield 16, 3) := by decide +kernel
theorem dX9_digest_214 : decode cX9_digest 214 = .ok (.invokevirtual 50, 3) := by decide +kernel
theorem dX9_digest_217 : decode cX9_digest 217 = .ok (.if_icmp .ge 30, 3) := by decide +kernel
theorem dX9_digest_220 : decode cX9_digest 220 = .ok (.aload_n 0, 1) := by decide +kernel
theorem dX9_digest_221 : decode cX9_digest 221 = .ok (.aload_n 0, 1) := by decide +kernel
theorem dX9_digest_222 : decode cX9_digest 222 = .ok (.iload_n 1, 1) := by decide +kernel
theorem dX9_digest_223 : decode cX9_digest 223 = .ok (.iconst 0, 1) := by decide +kernel
theorem dX9_digest_224 : decode cX9_digest 224 = .ok (.invokevirtual 192, 3) := by decide +kernel
theorem dX9_digest_227 : decode cX9_digest 227 = .ok (.invokevirtual 228, 3) := by decide +kernel
theorem dX9_digest_230 : decode cX9_digest 230 = .ok (.aload_n 0, 1) := by decide +kernel
theorem dX9_digest_231 : decode cX9_digest 231 = .ok (.aload_n 0, 1) := by decide +kernel
theorem dX9_digest_232 : decode cX9_digest 232 = .ok (.iload_n 1, 1) := by decide +kernel
theorem dX9_digest_233 : decode cX9_digest 233 = .ok (.bipush 8, 2) := by decide +kernel
theorem dX9_digest_235 : decode cX9_digest 235 = .ok (.invokevirtual 198, 3) := by decide +kernel
theorem dX9_digest_238 : decode cX9_digest 238 = .ok (.invokevirtual 228, 3) := by decide +kernel
theorem dX9_digest_241 : decode cX9_digest 241 = .ok (.iinc 1 1, 3) := by decide +kernel
theorem dX9_digest_244 : decode cX9_digest 244 = .ok (.goto (-35), 3) := by decide +kernel
theorem dX9_digest_247 : decode cX9_digest 247 = .ok (.aload_n 0, 1) := by decide +kernel
theorem dX9_digest_248 : decode cX9_digest 248 = .ok (.getfield 220, 3) := by decide +kernel
theorem dX9_digest_251 : decode cX9_digest 251 = .ok (.lreturn, 1) := by decide +kernel
theorem dJ6_bitCount_0f7a4_0 : decode cJ6_bitCount_0f7a4 0 = .ok (.iload_n 0, 1) := by decide +kernel
theorem dJ6_bitCount_0f7a4_1 : decode cJ6_bitCount_0f7a4 1 = .ok (.iload_n 0, 1) := by decide +kernel
theorem dJ6_bitCount_0f7a4_2 : decode cJ6_bitCount_0f7a4 2 = .ok (.iconst 1, 1) := by decide +kernel
theorem dJ6_bitCount_0f7a4_3 : decode cJ6_bitCount_0f7a4 3 = .ok (.iushr, 1) := by decide +kernel
theorem dJ6_bitCount_0f7a4_4 : decode cJ6_bitCount_0f7a4 4 = .ok (.ldc_w 265, 3) := by decide +kernel
theorem dJ6_bitCount_0f7a4_7 : decode cJ6_bitCount_0f7a4 7 = .ok (.iand, 1) := by decide +kernel
theorem dJ6_bitCount_0f7a4_8 : decode cJ6_bitCount_0f7a4 8 = .ok (.isub, 1) := by decide +kernel
theorem dJ6_bitCount_0f7a4_9 : decode cJ6_bitCount_0f7a4 9 = .ok (.istore_n 0, 1) := by decide +kernel
theorem dJ6_bitCount_0f7a4_10 : decode cJ6_bitCount_0f7a4 10 = .ok (.iload_n 0, 1) := by decide +kernel
theorem dJ6_bitCount_0f7a4_11 : decode cJ6_bitCount_0f7a4 11 = .ok (.ldc_w 266, 3) := by decide +kernel
theorem dJ6_bitCount_0f7a4_14 : decode cJ6_bitCount_0f7a4 14 = .ok (.iand, 1) := by decide +kernel
theorem dJ6_bitCount_0f7a4_15 : decode cJ6_bitCount_0f7a4 15 = .ok (.iload_n 0, 1) := by decide +kernel
theorem dJ6_bitCount_0f7a4_16 : decode cJ6_bitCount_0f7a4 16 = .ok (.iconst 2, 1) := by decide +kernel
theorem dJ6_bitCount_0f7a4_17 : decode cJ6_bitCount_0f7a4 17 = .ok (.iushr, 1) := by decide +kernel
theorem dJ6_bitCount_0f7a4_18 : decode cJ6_bitCount_0f7a4 18 = .ok (.ldc_w 266, 3) := by decide +kernel
theorem dJ6_bitCount_0f7a4_21 : decode cJ6_bitCount_0f7a4 21 = .ok (.iand, 1) := by decide +kernel
theorem dJ6_bitCount_0f7a4_22 : decode cJ6_bitCount_0f7a4 22 = .ok (.iadd, 1) := by decide +kernel
theorem dJ6_bitCount_0f7a4_23 : decode cJ6_bitCount_0f7a4 23 = .ok (.istore_n 0, 1) := by decide +kernel
theorem dJ6_bitCount_0f7a4_24 : decode cJ6_bitCount_0f7a4 24 = .ok (.iload_n 0, 1) := by decide +kernel
theorem dJ6_bitCount_0f7a4_25 : decode cJ6_bitCount_0f7a4 25 = .ok (.iload_n 0, 1) := by decide +kernel
theorem dJ6_bitCount_0f7a4_26 : decode cJ6_bitCount_0f7a4 26 = .ok (.iconst 4, 1) := by decide +kernel
theorem dJ6_bitCount_0f7a4_27 : decode cJ6_bitCount_0f7a4 27 = .ok (.iushr, 1) := by decide +kernel
theorem dJ6_bitCount_0f7a4_28 : decode cJ6_bitCount_0f7a4 28 = .ok (.iadd, 1) := by decide +kernel
theorem dJ6_bitCount_0f7a4_29 : decode cJ6_bitCount_0f7a4 29 = .ok (.ldc_w 267, 3) := by decide +kernel
theorem dJ6_bitCount_0f7a4_32 : decode cJ6_bitCount_0f7a4 32 = .ok (.iand, 1) := by decide +kernel
theorem dJ6_bitCount_0f7a4_33 : decode cJ6_bitCount_0f7a4 33 = .ok (.istore_n 0, 1) := by decide +kernel
theorem dJ6_bitCount_0f7a4_34 : decode cJ6_bitCount_0f7a4 34 = .ok (.iload_n 0, 1) := by decide +kernel
theorem dJ6_bitCount_0f7a4_35 : decode cJ6_bitCount_0f7a4 35 = .ok (.iload_n 0, 1) := by decide +kernel
theorem dJ6_bitCount_0f7a4_36 : decode cJ6_bitCount_0f7a4 36 = .ok (.bipush 8, 2) := by decide +kernel
theorem dJ6_bitCount_0f7a4_38 : decode cJ6_bitCount_0f7a4 38 = .ok (.iushr, 1) := by decide +kernel
theorem dJ6_bitCount_0f7a4_39 : decode cJ6_bitCount_0f7a4 39 = .ok (.iadd, 1) := by decide +kernel
theorem dJ6_bitCount_0f7a4_40 : decode cJ6_bitCount_0f7a4 40 = .ok (.istore_n 0, 1) := by decide +kernel
theorem dJ6_bitCount_0f7a4_41 : decode cJ6_bitCount_0f7a4 41 = .ok (.iload_n 0, 1) := by decide +kernel
theorem dJ6_bitCount_0f7a4_42 : decode cJ6_bitCount_0f7a4 42 = .ok (.iload_n 0, 1) := by decide +kernel
theorem dJ6_bitCount_0f7a4_43 : decode cJ6_bitCount_0f7a4 43 = .ok (.bipush 16, 2) := by decide +kernel
theorem dJ6_bitCount_0f7a4_45 : decode cJ6_bitCount_0f7a4 45 = .ok (.iushr, 1) := by decide +kernel
theorem dJ6_bitCount_0f7a4_46 : decode cJ6_bitCount_0f7a4 46 = .ok (.iadd, 1) := by decide +kernel
theorem dJ6_bitCount_0f7a4_47 : decode cJ6_bitCount_0f7a4 47 = .ok (.istore_n 0, 1) := by decide +kernel
theorem dJ6_bitCount_0f7a4_48 : decode cJ6_bitCount_0f7a4 48 = .ok (.iload_n 0, 1) := by decide +kernel
theorem dJ6_bitCount_0f7a4_49 : decode cJ6_bitCount_0f7a4 49 = .ok (.bipush 63, 2) := by decide +kernel
theorem dJ6_bitCount_0f7a4_51 : decode cJ6_bitCount_0f7a4 51 = .ok (.iand, 1) := by decide +kernel
theorem dJ6_bitCount_0f7a4_52 : decode cJ6_bitCount_0f7a4 52 = .ok (.ireturn, 1) := by decide +kernel
theorem dJ9_floorMod_7cf53_0 : decode cJ9_floorMod_7cf53 0 = .ok (.iload_n 0, 1) := by decide +kernel
theorem dJ9_floorMod_7cf53_1 : decode cJ9_floorMod_7cf53 1 = .ok (.iload_n 1, 1) := by decide +kernel
theorem dJ9_floorMod_7cf53_2 : decode cJ9_floorMod_7cf53 2 = .ok (.irem, 1) := by decide +kernel
theorem dJ9_floorMod_7cf53_3 : decode cJ9_floorMod_7cf53 3 = .ok (.istore_n 2, 1) := by decide +kernel
theorem dJ9_floorMod_7cf53_4 : decode cJ9_floorMod_7cf53 4 = .ok (.iload_n 0, 1) := by decide +kernel
theorem dJ9_floorMod_7cf53_5 : decode cJ9_floorMod_7cf53 5 = .ok (.iload_n 1, 1) := by decide +kernel
theorem dJ9_floorMod_7cf53_6 : decode cJ9_floorMod_7cf53 6 = .ok (.ixor, 1) := by decide +kernel
theorem dJ9_floorMod_7cf53_7 : decode cJ9_floorMod_7cf53 7 = .ok (.ifCond .ge 11, 3) := by decide +kernel
theorem dJ9_floorMod_7cf53_10 : decode cJ9_floorMod_7cf53 10 = .ok (.iload_n 2, 1) := by decide +kernel
theorem dJ9_floorMod_7cf53_11 : decode cJ9_floorMod_7cf53 11 = .ok (.ifCond .eq 7, 3) := by decide +kernel
theorem dJ9_floorMod_7cf53_14 : decode cJ9_floorMod_7cf53 14 = .ok (.iload_n 2, 1) := by decide +kernel
theorem dJ9_floorMod_7cf53_15 : decode cJ9_floorMod_7cf53 15 = .ok (.iload_n 1, 1) := by decide +kernel
theorem dJ9_floorMod_7cf53_16 : decode cJ9_floorMod_7cf53 16 = .ok (.iadd, 1) := by decide +kernel
theorem dJ9_floorMod_7cf53_17 : decode cJ9_floorMod_7cf53 17 = .ok (.ireturn, 1) := by decide +kernel
theorem dJ9_floorMod_7cf53_18 : decode cJ9_floorMod_7cf53 18 = .ok (.iload_n 2, 1) := by decide +kernel
theorem dJ9_floorMod_7cf53_19 : decode cJ9_floorMod_7cf53 19 = .ok (.ireturn, 1) := by decide +kernel
theorem dJ9_abs_0f7a4_0 : decode cJ9_abs_0f7a4 0 = .ok (.iload_n 0, 1) := by decide +kernel
theorem dJ9_abs_0f7a4_1 : decode cJ9_abs_0f7a4 1 = .ok (.ifCond .ge 8, 3) := by decide +kernel
theorem dJ9_abs_0f7a4_4 : decode cJ9_abs_0f7a4 4 = .ok (.iload_n 0, 1) := by decide +kernel
theorem dJ9_abs_0f7a4_5 : decode cJ9_abs_0f7a4 5 = .ok (.ineg, 1) := by decide +kernel
theorem dJ9_abs_0f7a4_6 : decode cJ9_abs_0f7a4 6 = .ok (.goto 4, 3) := by decide +kernel
theorem dJ9_abs_0f7a4_9 : decode cJ9_abs_0f7a4 9 = .ok (.iload_n 0, 1) := by decide +kernel
theorem dJ9_abs_0f7a4_10 : decode cJ9_abs_0f7a4 10 = .ok (.ireturn, 1) := by decide +kernel
theorem dJ9_max_7cf53_0 : decode cJ9_max_7cf53 0 = .ok (.iload_n 0, 1) := by decide +kernel
theorem dJ9_max_7cf53_1 : decode cJ9_max_7cf53 1 = .ok (.iload_n 1, 1) := by decide +kernel
theorem dJ9_max_7cf53_2 : decode cJ9_max_7cf53 2 = .ok (.if_icmp .lt 7, 3) := by decide +kernel
theorem dJ9_max_7cf53_5 : decode cJ9_max_7cf53 5 = .ok (.iload_n 0, 1) := by decide +kernel
theorem dJ9_max_7cf53_6 : decode cJ9_max_7cf53 6 = .ok (.goto 4, 3) := by decide +kernel
theorem dJ9_max_7cf53_9 : decode cJ9_max_7cf53 9 = .ok (.iload_n 1, 1) := by decide +kernel
theorem dJ9_max_7cf53_10 : decode cJ9_max_7cf53 10 = .ok (.ireturn, 1) := by decide +kernel
theorem dJ9_min_7cf53_0 : decode cJ9_min_7cf53 0 = .ok (.iload_n 0, 1) := by decide +kernel
theorem dJ9_min_7cf53_1 : decode cJ9_min_7cf53 1 = .ok (.iload_n 1, 1) := by decide +kernel
theorem dJ9_min_7cf53_2 : decode cJ9_min_7cf53 2 = .ok (.if_icmp .gt 7, 3) := by decide +kernel
theorem dJ9_min_7cf53_5 : decode cJ9_min_7cf53 5 = .ok (.iload_n 0, 1) := by decide +kernel
theorem dJ9_min_7cf53_6 : decode cJ9_min_7cf53 6 = .ok (.goto 4, 3) := by decide +kernel
theorem dJ9_min_7cf53_9 : decode cJ9_min_7cf53 9 = .ok (.iload_n 1, 1) := by decide +kernel
theorem dJ9_min_7cf53_10 : decode cJ9_min_7cf53 10 = .ok (.ireturn, 1) := by decide +kernel
theorem dJxa1e45_init_da8c8_0 : decode cJxa1e45_init_da8c8 0 = .ok (.aload_n 0, 1) := by decide +kernel
theorem dJxa1e45_init_da8c8_1 : decode cJxa1e45_init_da8c8 1 = .ok (.invokespecial 1, 3) := by decide +kernel
theorem dJxa1e45_init_da8c8_4 : decode cJxa1e45_init_da8c8 4 = .ok (.return_, 1) := by decide +kernel
theorem dJxc12de_init_da8c8_0 : decode cJxc12de_init_da8c8 0 = .ok (.aload_n 0, 1) := by decide +kernel
theorem dJxc12de_init_da8c8_1 : decode cJxc12de_init_da8c8 1 = .ok (.invokespecial 1, 3) := by decide +kernel
theorem dJxc12de_init_da8c8_4 : decode cJxc12de_init_da8c8 4 = .ok (.aload_n 0, 1) := by decide +kernel
theorem dJxc12de_init_da8c8_5 : decode cJxc12de_init_da8c8 5 = .ok (.iconst 0, 1) := by decide +kernel
theorem dJxc12de_init_da8c8_6 : decode cJxc12de_init_da8c8 6 = .ok (.putfield 7, 3) := by decide +kernel
theorem dJxc12de_init_da8c8_9 : decode cJxc12de_init_da8c8 9 = .ok (.return_, 1) := by decide +kernel
theorem dJx35411_init_45d68_0 : decode cJx35411_init_45d68 0 = .ok (.aload_n 0, 1) := by decide +kernel
theorem dJx35411_init_45d68_1 : decode cJx35411_init_45d68 1 = .ok (.aload_n 1, 1) := by decide +kernel
theorem dJx35411_init_45d68_2 : decode cJx35411_init_45d68 2 = .ok (.putfield 1, 3) := by decide +kernel
theorem dJx35411_init_45d68_5 : decode cJx35411_init_45d68 5 = .ok (.aload_n 0, 1) := by decide +kernel
theorem dJx35411_init_45d68_6 : decode cJx35411_init_45d68 6 = .ok (.invokespecial 7, 3) := by decide +kernel
theorem dJx35411_init_45d68_9 : decode cJx35411_init_45d68 9 = .ok (.aload_n 0, 1) := by decide +kernel
theorem dJx35411_init_45d68_10 : decode cJx35411_init_45d68 10 = .ok (.iconst (-1), 1) := by decide +kernel
theorem dJx35411_init_45d68_11 : decode cJx35411_init_45d68 11 = .ok (.putfield 13, 3) := by decide +kernel
theorem dJx35411_init_45d68_14 : decode cJx35411_init_45d68 14 = .ok (.aload_n 0, 1) := by decide +kernel
theorem dJx35411_init_45d68_15 : decode cJx35411_init_45d68 15 = .ok (.aload_n 0, 1) := by decide +kernel
theorem dJx35411_init_45d68_16 : decode cJx35411_init_45d68 16 = .ok (.getfield 1, 3) := by decide +kernel
theorem dJx35411_init_45d68_19 : decode cJx35411_init_45d68 19 = .ok (.getfield 17, 3) := by decide +kernel
theorem dJx35411_init_45d68_22 : decode cJx35411_init_45d68 22 = .ok (.putfield 22, 3) := by decide +kernel
theorem dJx35411_init_45d68_25 : decode cJx35411_init_45d68 25 = .ok (.return_, 1) := by decide +kernel
theorem dJx35411_hasNext_aae02_0 : decode cJx35411_hasNext_aae02 0 = .ok (.aload_n 0, 1) := by decide +kernel
theorem dJx35411_hasNext_aae02_1 : decode cJx35411_hasNext_aae02 1 = .ok (.getfield 25, 3) := by decide +kernel
theorem dJx35411_hasNext_aae02_4 : decode cJx35411_hasNext_aae02 4 = .ok (.aload_n 0, 1) := by decide +kernel
theorem dJx35411_hasNext_aae02_5 : decode cJx35411_hasNext_aae02 5 = .ok (.getfield 1, 3) := by decide +kernel
theorem dJx35411_hasNext_aae02_8 : decode cJx35411_hasNext_aae02 8 = .ok (.getfield 28, 3) := by decide +kernel
theorem dJx35411_hasNext_aae02_11 : decode cJx35411_hasNext_aae02 11 = .ok (.if_icmp .eq 7, 3) := by decide +kernel
theorem dJx35411_hasNext_aae02_14 : decode cJx35411_hasNext_aae02 14 = .ok (.iconst 1, 1) := by decide +kernel
theorem dJx35411_hasNext_aae02_15 : decode cJx35411_hasNext_aae02 15 = .ok (.goto 4, 3) := by decide +kernel
theorem dJx35411_hasNext_aae02_18 : decode cJx35411_hasNext_aae02 18 = .ok (.iconst 0, 1) := by decide +kernel
theorem dJx35411_hasNext_aae02_19 : decode cJx35411_hasNext_aae02 19 = .ok (.ireturn, 1) := by decide +kernel
theorem dJx35411_next_0502b_0 : decode cJx35411_next_0502b 0 = .ok (.aload_n 0, 1) := by decide +kernel
theorem dJx35411_next_0502b_1 : decode cJx35411_next_0502b 1 = .ok (.invokevirtual 31, 3) := by decide +kernel
theorem dJx35411_next_0502b_4 : decode cJx35411_next_0502b 4 = .ok (.aload_n 0, 1) := by decide +kernel
theorem dJx35411_next_0502b_5 : decode cJx35411_next_0502b 5 = .ok (.getfield 25, 3) := by decide +kernel
theorem dJx35411_next_0502b_8 : decode cJx35411_next_0502b 8 = .ok (.istore_n 1, 1) := by decide +kernel
theorem dJx35411_next_0502b_9 : decode cJx35411_next_0502b 9 = .ok (.iload_n 1, 1) := by decide +kernel
theorem dJx35411_next_0502b_10 : decode cJx35411_next_0502b 10 = .ok (.aload_n 0, 1) := by decide +kernel
theorem dJx35411_next_0502b_11 : decode cJx35411_next_0502b 11 = .ok (.getfield 1, 3) := by decide +kernel
theorem dJx35411_next_0502b_14 : decode cJx35411_next_0502b 14 = .ok (.getfield 28, 3) := by decide +kernel
theorem dJx35411_next_0502b_17 : decode cJx35411_next_0502b 17 = .ok (.if_icmp .lt 11, 3) := by decide +kernel
theorem dJx35411_next_0502b_20 : decode cJx35411_next_0502b 20 = .ok (.new 34, 3) := by decide +kernel
theorem dJx35411_next_0502b_23 : decode cJx35411_next_0502b 23 = .ok (.dup, 1) := by decide +kernel
theorem dJx35411_next_0502b_24 : decode cJx35411_next_0502b 24 = .ok (.invokespecial 36, 3) := by decide +kernel
theorem dJx35411_next_0502b_27 : decode cJx35411_next_0502b 27 = .ok (.athrow, 1) := by decide +kernel
theorem dJx35411_next_0502b_28 : decode cJx35411_next_0502b 28 = .ok (.aload_n 0, 1) := by decide +kernel
theorem dJx35411_next_0502b_29 : decode cJx35411_next_0502b 29 = .ok (.getfield 1, 3) := by decide +kernel
theorem dJx35411_next_0502b_32 : decode cJx35411_next_0502b 32 = .ok (.getfield 37, 3) := by decide +kernel
theorem dJx35411_next_0502b_35 : decode cJx35411_next_0502b 35 = .ok (.astore_n 2, 1) := by decide +kernel
theorem dJx35411_next_0502b_36 : decode cJx35411_next_0502b 36 = .ok (.iload_n 1, 1) := by decide +kernel
theorem dJx35411_next_0502b_37 : decode cJx35411_next_0502b 37 = .ok (.aload_n 2, 1) := by decide +kernel
theorem dJx35411_next_0502b_38 : decode cJx35411_next_0502b 38 = .ok (.arraylength, 1) := by decide +kernel
theorem dJx35411_next_0502b_39 : decode cJx35411_next_0502b 39 = .ok (.if_icmp .lt 11, 3) := by decide +kernel
theorem dJx35411_next_0502b_42 : decode cJx35411_next_0502b 42 = .ok (.new 41, 3) := by decide +kernel
theorem dJx35411_next_0502b_45 : decode cJx35411_next_0502b 45 = .ok (.dup, 1) := by decide +kernel
theorem dJx35411_next_0502b_46 : decode cJx35411_next_0502b 46 = .ok (.invokespecial 43, 3) := by decide +kernel
theorem dJx35411_next_0502b_49 : decode cJx35411_next_0502b 49 = .ok (.athrow, 1) := by decide +kernel
theorem dJx35411_next_0502b_50 : decode cJx35411_next_0502b 50 = .ok (.aload_n 0, 1) := by decide +kernel
theorem dJx35411_next_0502b_51 : decode cJx35411_next_0502b 51 = .ok (.iload_n 1, 1) := by decide +kernel
theorem dJx35411_next_0502b_52 : decode cJx35411_next_0502b 52 = .ok (.iconst 1, 1) := by decide +kernel
theorem dJx35411_next_0502b_53 : decode cJx35411_next_0502b 53 = .ok (.iadd, 1) := by decide +kernel
theorem dJx35411_next_0502b_54 : decode cJx35411_next_0502b 54 = .ok (.putfield 25, 3) := by decide +kernel
theorem dJx35411_next_0502b_57 : decode cJx35411_next_0502b 57 = .ok (.aload_n 2, 1) := by decide +kernel
theorem dJx35411_next_0502b_58 : decode cJx35411_next_0502b 58 = .ok (.aload_n 0, 1) := by decide +kernel
theorem dJx35411_next_0502b_59 : decode cJx35411_next_0502b 59 = .ok (.iload_n 1, 1) := by decide +kernel
theorem dJx35411_next_0502b_60 : decode cJx35411_next_0502b 60 = .ok (.dup_x1, 1) := by decide +kernel
theorem dJx35411_next_0502b_61 : decode cJx35411_next_0502b 61 = .ok (.putfield 13, 3) := by decide +kernel
theorem dJx35411_next_0502b_64 : decode cJx35411_next_0502b 64 = .ok (.aaload, 1) := by decide +kernel
theorem dJx35411_next_0502b_65 : decode cJx35411_next_0502b 65 = .ok (.areturn, 1) := by decide +kernel
theorem dJx35411_checkForComodification_da8c8_0 : decode cJx35411_checkForComodification_da8c8 0 = .ok (.aload_n 0, 1) := by decide +kernel
theorem dJx35411_checkForComodification_da8c8_1 : decode cJx35411_checkForComodification_da8c8 1 = .ok (.getfield 1, 3) := by decide +kernel
theorem dJx35411_checkForComodification_da8c8_4 : decode cJx35411_checkForComodification_da8c8 4 = .ok (.getfield 17, 3) := by decide +kernel
theorem dJx35411_checkForComodification_da8c8_7 : decode cJx35411_checkForComodification_da8c8 7 = .ok (.aload_n 0, 1) := by decide +kernel
theorem dJx35411_checkForComodification_da8c8_8 : decode cJx35411_checkForComodification_da8c8 8 = .ok (.getfield 22, 3) := by decide +kernel
theorem dJx35411_checkForComodification_da8c8_11 : decode cJx35411_checkForComodification_da8c8 11 = .ok (.if_icmp .eq 11, 3) := by decide +kernel
theorem dJx35411_checkForComodification_da8c8_14 : decode cJx35411_checkForComodification_da8c8 14 = .ok (.new 41, 3) := by decide +kernel
theorem dJx35411_checkForComodification_da8c8_17 : decode cJx35411_checkForComodification_da8c8 17 = .ok (.dup, 1) := by decide +kernel
theorem dJx35411_checkForComodification_da8c8_18 : decode cJx35411_checkForComodification_da8c8 18 = .ok (.invokespecial 43, 3) := by decide +kernel
theorem dJx35411_checkForComodification_da8c8_21 : decode cJx35411_checkForComodification_da8c8 21 = .ok (.athrow, 1) := by decide +kernel
theorem dJx35411_checkForComodification_da8c8_22 : decode cJx35411_checkForComodification_da8c8 22 = .ok (.return_, 1) := by decide +kernel
theorem dJx4a65c_init_da8c8_0 : decode cJx4a65c_init_da8c8 0 = .ok (.aload_n 0, 1) := by decide +kernel
theorem dJx4a65c_init_da8c8_1 : decode cJx4a65c_init_da8c8 1 = .ok (.invokespecial 1, 3) := by decide +kernel
theorem dJx4a65c_init_da8c8_4 : decode cJx4a65c_init_da8c8 4 = .ok (.aload_n 0, 1) := by decide +kernel
theorem dJx4a65c_init_da8c8_5 : decode cJx4a65c_init_da8c8 5 = .ok (.getstatic 39, 3) := by decide +kernel
theorem dJx4a65c_init_da8c8_8 : decode cJx4a65c_init_da8c8 8 = .ok (.putfield 9, 3) := by decide +kernel
theorem dJx4a65c_init_da8c8_11 : decode cJx4a65c_init_da8c8 11 = .ok (.return_, 1) := by decide +kernel
theorem dJx4a65c_grow_92f84_0 : decode cJx4a65c_grow_92f84 0 = .ok (.aload_n 0, 1) := by decide +kernel
theorem dJx4a65c_grow_92f84_1 : decode cJx4a65c_grow_92f84 1 = .ok (.getfield 9, 3) := by decide +kernel
theorem dJx4a65c_grow_92f84_4 : decode cJx4a65c_grow_92f84 4 = .ok (.arraylength, 1) := by decide +kernel
theorem dJx4a65c_grow_92f84_5 : decode cJx4a65c_grow_92f84 5 = .ok (.istore_n 2, 1) := by decide +kernel
theorem dJx4a65c_grow_92f84_6 : decode cJx4a65c_grow_92f84 6 = .ok (.iload_n 2, 1) := by decide +kernel
theorem dJx4a65c_grow_92f84_7 : decode cJx4a65c_grow_92f84 7 = .ok (.ifCond .gt 13, 3) := by decide +kernel
theorem dJx4a65c_grow_92f84_10 : decode cJx4a65c_grow_92f84 10 = .ok (.aload_n 0, 1) := by decide +kernel
theorem dJx4a65c_grow_92f84_11 : decode cJx4a65c_grow_92f84 11 = .ok (.getfield 9, 3) := by decide +kernel
theorem dJx4a65c_grow_92f84_14 : decode cJx4a65c_grow_92f84 14 = .ok (.getstatic 39, 3) := by decide +kernel
theorem dJx4a65c_grow_92f84_17 : decode cJx4a65c_grow_92f84 17 = .ok (.if_acmp .eq 28, 3) := by decide +kernel
theorem dJx4a65c_grow_92f84_20 : decode cJx4a65c_grow_92f84 20 = .ok (.iload_n 2, 1) := by decide +kernel
theorem dJx4a65c_grow_92f84_21 : decode cJx4a65c_grow_92f84 21 = .ok (.iload_n 1, 1) := by decide +kernel
theorem dJx4a65c_grow_92f84_22 : decode cJx4a65c_grow_92f84 22 = .ok (.iload_n 2, 1) := by decide +kernel
theorem dJx4a65c_grow_92f84_23 : decode cJx4a65c_grow_92f84 23 = .ok (.isub, 1) := by decide +kernel
theorem dJx4a65c_grow_92f84_24 : decode cJx4a65c_grow_92f84 24 = .ok (.iload_n 2, 1) := by decide +kernel
theorem dJx4a65c_grow_92f84_25 : decode cJx4a65c_grow_92f84 25 = .ok (.iconst 1, 1) := by decide +kernel
theorem dJx4a65c_grow_92f84_26 : decode cJx4a65c_grow_92f84 26 = .ok (.ishr, 1) := by decide +kernel
theorem dJx4a65c_grow_92f84_27 : decode cJx4a65c_grow_92f84 27 = .ok (.invokestatic 73, 3) := by decide +kernel
theorem dJx4a65c_grow_92f84_30 : decode cJx4a65c_grow_92f84 30 = .ok (.istore_n 3, 1) := by decide +kernel
theorem dJx4a65c_grow_92f84_31 : decode cJx4a65c_grow_92f84 31 = .ok (.aload_n 0, 1) := by decide +kernel
theorem dJx4a65c_grow_92f84_32 : decode cJx4a65c_grow_92f84 32 = .ok (.aload_n 0, 1) := by decide +kernel
theorem dJx4a65c_grow_92f84_33 : decode cJx4a65c_grow_92f84 33 = .ok (.getfield 9, 3) := by decide +kernel
theorem dJx4a65c_grow_92f84_36 : decode cJx4a65c_grow_92f84 36 = .ok (.iload_n 3, 1) := by decide +kernel
theorem dJx4a65c_grow_92f84_37 : decode cJx4a65c_grow_92f84 37 = .ok (.invokestatic 66, 3) := by decide +kernel
theorem dJx4a65c_grow_92f84_40 : decode cJx4a65c_grow_92f84 40 = .ok (.dup_x1, 1) := by decide +kernel
theorem dJx4a65c_grow_92f84_41 : decode cJx4a65c_grow_92f84 41 = .ok (.putfield 9, 3) := by decide +kernel
theorem dJx4a65c_grow_92f84_44 : decode cJx4a65c_grow_92f84 44 = .ok (.areturn, 1) := by decide +kernel
theorem dJx4a65c_grow_92f84_45 : decode cJx4a65c_grow_92f84 45 = .ok (.aload_n 0, 1) := by decide +kernel
theorem dJx4a65c_grow_92f84_46 : decode cJx4a65c_grow_92f84 46 = .ok (.bipush 10, 2) := by decide +kernel
theorem dJx4a65c_grow_92f84_48 : decode cJx4a65c_grow_92f84 48 = .ok (.iload_n 1, 1) := by decide +kernel
theorem dJx4a65c_grow_92f84_49 : decode cJx4a65c_grow_92f84 49 = .ok (.invokestatic 79, 3) := by decide +kernel
theorem dJx4a65c_grow_92f84_52 : decode cJx4a65c_grow_92f84 52 = .ok (.anewarray 7, 3) := by decide +kernel
theorem dJx4a65c_grow_92f84_55 : decode cJx4a65c_grow_92f84 55 = .ok (.dup_x1, 1) := by decide +kernel
theorem dJx4a65c_grow_92f84_56 : decode cJx4a65c_grow_92f84 56 = .ok (.putfield 9, 3) := by decide +kernel
theorem dJx4a65c_grow_92f84_59 : decode cJx4a65c_grow_92f84 59 = .ok (.areturn, 1) := by decide +kernel
theorem dJx4a65c_grow_d5877_0 : decode cJx4a65c_grow_d5877 0 = .ok (.aload_n 0, 1) := by decide +kernel
theorem dJx4a65c_grow_d5877_1 : decode cJx4a65c_grow_d5877 1 = .ok (.aload_n 0, 1) := by decide +kernel
theorem dJx4a65c_grow_d5877_2 : decode cJx4a65c_grow_d5877 2 = .ok (.getfield 48, 3) := by decide +kernel
theorem dJx4a65c_grow_d5877_5 : decode cJx4a65c_grow_d5877 5 = .ok (.iconst 1, 1) := by decide +kernel
theorem dJx4a65c_grow_d5877_6 : decode cJx4a65c_grow_d5877 6 = .ok (.iadd, 1) := by decide +kernel
theorem dJx4a65c_grow_d5877_7 : decode cJx4a65c_grow_d5877 7 = .ok (.invokevirtual 69, 3) := by decide +kernel
theorem dJx4a65c_grow_d5877_10 : decode cJx4a65c_grow_d5877 10 = .ok (.areturn, 1) := by decide +kernel
theorem dJx4a65c_size_8abf5_0 : decode cJx4a65c_size_8abf5 0 = .ok (.aload_n 0, 1) := by decide +kernel
theorem dJx4a65c_size_8abf5_1 : decode cJx4a65c_size_8abf5 1 = .ok (.getfield 48, 3) := by decide +kernel
theorem dJx4a65c_size_8abf5_4 : decode cJx4a65c_size_8abf5 4 = .ok (.ireturn, 1) := by decide +kernel
theorem dJx4a65c_elementData_915e3_0 : decode cJx4a65c_elementData_915e3 0 = .ok (.aload_n 0, 1) := by decide +kernel
theorem dJx4a65c_elementData_915e3_1 : decode cJx4a65c_elementData_915e3 1 = .ok (.getfield 9, 3) := by decide +kernel
theorem dJx4a65c_elementData_915e3_4 : decode cJx4a65c_elementData_915e3 4 = .ok (.iload_n 1, 1) := by decide +kernel
theorem dJx4a65c_elementData_915e3_5 : decode cJx4a65c_elementData_915e3 5 = .ok (.aaload, 1) := by decide +kernel
theorem dJx4a65c_elementData_915e3_6 : decode cJx4a65c_elementData_915e3 6 = .ok (.areturn, 1) := by decide +kernel
theorem dJx4a65c_get_915e3_0 : decode cJx4a65c_get_915e3 0 = .ok (.iload_n 1, 1) := by decide +kernel
theorem dJx4a65c_get_915e3_1 : decode cJx4a65c_get_915e3 1 = .ok (.aload_n 0, 1) := by decide +kernel
theorem dJx4a65c_get_915e3_2 : decode cJx4a65c_get_915e3 2 = .ok (.getfield 48, 3) := by decide +kernel
theorem dJx4a65c_get_915e3_5 : decode cJx4a65c_get_915e3 5 = .ok (.invokestatic 118, 3) := by decide +kernel
theorem dJx4a65c_get_915e3_8 : decode cJx4a65c_get_915e3 8 = .ok (.pop, 1) := by decide +kernel
theorem dJx4a65c_get_915e3_9 : decode cJx4a65c_get_915e3 9 = .ok (.aload_n 0, 1) := by decide +kernel
theorem dJx4a65c_get_915e3_10 : decode cJx4a65c_get_915e3 10 = .ok (.iload_n 1, 1) := by decide +kernel
theorem dJx4a65c_get_915e3_11 : decode cJx4a65c_get_915e3 11 = .ok (.invokevirtual 123, 3) := by decide +kernel
theorem dJx4a65c_get_915e3_14 : decode cJx4a65c_get_915e3 14 = .ok (.areturn, 1) := by decide +kernel
theorem dJx4a65c_add_72be8_0 : decode cJx4a65c_add_72be8 0 = .ok (.iload_n 3, 1) := by decide +kernel
theorem dJx4a65c_add_72be8_1 : decode cJx4a65c_add_72be8 1 = .ok (.aload_n 2, 1) := by decide +kernel
theorem dJx4a65c_add_72be8_2 : decode cJx4a65c_add_72be8 2 = .ok (.arraylength, 1) := by decide +kernel
theorem dJx4a65c_add_72be8_3 : decode cJx4a65c_add_72be8 3 = .ok (.if_icmp .ne 8, 3) := by decide +kernel
theorem dJx4a65c_add_72be8_6 : decode cJx4a65c_add_72be8 6 = .ok (.aload_n 0, 1) := by decide +kernel
theorem dJx4a65c_add_72be8_7 : decode cJx4a65c_add_72be8 7 = .ok (.invokevirtual 129, 3) := by decide +kernel
theorem dJx4a65c_add_72be8_10 : decode cJx4a65c_add_72be8 10 = .ok (.astore_n 2, 1) := by decide +kernel
theorem dJx4a65c_add_72be8_11 : decode cJx4a65c_add_72be8 11 = .ok (.aload_n 2, 1) := by decide +kernel
theorem dJx4a65c_add_72be8_12 : decode cJx4a65c_add_72be8 12 = .ok (.iload_n 3, 1) := by decide +kernel
theorem dJx4a65c_add_72be8_13 : decode cJx4a65c_add_72be8 13 = .ok (.aload_n 1, 1) := by decide +kernel
theorem dJx4a65c_add_72be8_14 : decode cJx4a65c_add_72be8 14 = .ok (.aastore, 1) := by decide +kernel
theorem dJx4a65c_add_72be8_15 : decode cJx4a65c_add_72be8 15 = .ok (.aload_n 0, 1) := by decide +kernel
theorem dJx4a65c_add_72be8_16 : decode cJx4a65c_add_72be8 16 = .ok (.iload_n 3, 1) := by decide +kernel
theorem dJx4a65c_add_72be8_17 : decode cJx4a65c_add_72be8 17 = .ok (.iconst 1, 1) := by decide +kernel
theorem dJx4a65c_add_72be8_18 : decode cJx4a65c_add_72be8 18 = .ok (.iadd, 1) := by decide +kernel
theorem dJx4a65c_add_72be8_19 : decode cJx4a65c_add_72be8 19 = .ok (.putfield 48, 3) := by decide +kernel
theorem dJx4a65c_add_72be8_22 : decode cJx4a65c_add_72be8 22 = .ok (.return_, 1) := by decide +kernel
theorem dJx4a65c_add_9ea2d_0 : decode cJx4a65c_add_9ea2d 0 = .ok (.aload_n 0, 1) := by decide +kernel
theorem dJx4a65c_add_9ea2d_1 : decode cJx4a65c_add_9ea2d 1 = .ok (.dup, 1) := by decide +kernel
theorem dJx4a65c_add_9ea2d_2 : decode cJx4a65c_add_9ea2d 2 = .ok (.getfield 63, 3) := by decide +kernel
theorem dJx4a65c_add_9ea2d_5 : decode cJx4a65c_add_9ea2d 5 = .ok (.iconst 1, 1) := by decide +kernel
theorem dJx4a65c_add_9ea2d_6 : decode cJx4a65c_add_9ea2d 6 = .ok (.iadd, 1) := by decide +kernel
theorem dJx4a65c_add_9ea2d_7 : decode cJx4a65c_add_9ea2d 7 = .ok (.putfield 63, 3) := by decide +kernel
theorem dJx4a65c_add_9ea2d_10 : decode cJx4a65c_add_9ea2d 10 = .ok (.aload_n 0, 1) := by decide +kernel
theorem dJx4a65c_add_9ea2d_11 : decode cJx4a65c_add_9ea2d 11 = .ok (.aload_n 1, 1) := by decide +kernel
theorem dJx4a65c_add_9ea2d_12 : decode cJx4a65c_add_9ea2d 12 = .ok (.aload_n 0, 1) := by decide +kernel
theorem dJx4a65c_add_9ea2d_13 : decode cJx4a65c_add_9ea2d 13 = .ok (.getfield 9, 3) := by decide +kernel
theorem dJx4a65c_add_9ea2d_16 : decode cJx4a65c_add_9ea2d 16 = .ok (.aload_n 0, 1) := by decide +kernel
theorem dJx4a65c_add_9ea2d_17 : decode cJx4a65c_add_9ea2d 17 = .ok (.getfield 48, 3) := by decide +kernel
theorem dJx4a65c_add_9ea2d_20 : decode cJx4a65c_add_9ea2d 20 = .ok (.invokevirtual 131, 3) := by decide +kernel
theorem dJx4a65c_add_9ea2d_23 : decode cJx4a65c_add_9ea2d 23 = .ok (.iconst 1, 1) := by decide +kernel
theorem dJx4a65c_add_9ea2d_24 : decode cJx4a65c_add_9ea2d 24 = .ok (.ireturn, 1) := by decide +kernel
theorem dJx4a65c_remove_915e3_0 : decode cJx4a65c_remove_915e3 0 = .ok (.iload_n 1, 1) := by decide +kernel
theorem dJx4a65c_remove_915e3_1 : decode cJx4a65c_remove_915e3 1 = .ok (.aload_n 0, 1) := by decide +kernel
theorem dJx4a65c_remove_915e3_2 : decode cJx4a65c_remove_915e3 2 = .ok (.getfield 48, 3) := by decide +kernel
theorem dJx4a65c_remove_915e3_5 : decode cJx4a65c_remove_915e3 5 = .ok (.invokestatic 118, 3) := by decide +kernel
theorem dJx4a65c_remove_915e3_8 : decode cJx4a65c_remove_915e3 8 = .ok (.pop, 1) := by decide +kernel
theorem dJx4a65c_remove_915e3_9 : decode cJx4a65c_remove_915e3 9 = .ok (.aload_n 0, 1) := by decide +kernel
theorem dJx4a65c_remove_915e3_10 : decode cJx4a65c_remove_915e3 10 = .ok (.getfield 9, 3) := by decide +kernel
theorem dJx4a65c_remove_915e3_13 : decode cJx4a65c_remove_915e3 13 = .ok (.astore_n 2, 1) := by decide +kernel
theorem dJx4a65c_remove_915e3_14 : decode cJx4a65c_remove_915e3 14 = .ok (.aload_n 2, 1) := by decide +kernel
theorem dJx4a65c_remove_915e3_15 : decode cJx4a65c_remove_915e3 15 = .ok (.iload_n 1, 1) := by decide +kernel
theorem dJx4a65c_remove_915e3_16 : decode cJx4a65c_remove_915e3 16 = .ok (.aaload, 1) := by decide +kernel
theorem dJx4a65c_remove_915e3_17 : decode cJx4a65c_remove_915e3 17 = .ok (.astore_n 3, 1) := by decide +kernel
theorem dJx4a65c_remove_915e3_18 : decode cJx4a65c_remove_915e3 18 = .ok (.aload_n 0, 1) := by decide +kernel
theorem dJx4a65c_remove_915e3_19 : decode cJx4a65c_remove_915e3 19 = .ok (.aload_n 2, 1) := by decide +kernel
theorem dJx4a65c_remove_915e3_20 : decode cJx4a65c_remove_915e3 20 = .ok (.iload_n 1, 1) := by decide +kernel
theorem dJx4a65c_remove_915e3_21 : decode cJx4a65c_remove_915e3 21 = .ok (.invokevirtual 144, 3) := by decide +kernel
theorem dJx4a65c_remove_915e3_24 : decode cJx4a65c_remove_915e3 24 = .ok (.aload_n 3, 1) := by decide +kernel
theorem dJx4a65c_remove_915e3_25 : decode cJx4a65c_remove_915e3 25 = .ok (.areturn, 1) := by decide +kernel
theorem dJx4a65c_fastRemove_b59b0_0 : decode cJx4a65c_fastRemove_b59b0 0 = .ok (.aload_n 0, 1) := by decide +kernel
theorem dJx4a65c_fastRemove_b59b0_1 : decode cJx4a65c_fastRemove_b59b0 1 = .ok (.dup, 1) := by decide +kernel
theorem dJx4a65c_fastRemove_b59b0_2 : decode cJx4a65c_fastRemove_b59b0 2 = .ok (.getfield 63, 3) := by decide +kernel
theorem dJx4a65c_fastRemove_b59b0_5 : decode cJx4a65c_fastRemove_b59b0 5 = .ok (.iconst 1, 1) := by decide +kernel
theorem dJx4a65c_fastRemove_b59b0_6 : decode cJx4a65c_fastRemove_b59b0 6 = .ok (.iadd, 1) := by decide +kernel
theorem dJx4a65c_fastRemove_b59b0_7 : decode cJx4a65c_fastRemove_b59b0 7 = .ok (.putfield 63, 3) := by decide +kernel
theorem dJx4a65c_fastRemove_b59b0_10 : decode cJx4a65c_fastRemove_b59b0 10 = .ok (.aload_n 0, 1) := by decide +kernel
theorem dJx4a65c_fastRemove_b59b0_11 : decode cJx4a65c_fastRemove_b59b0 11 = .ok (.getfield 48, 3) := by decide +kernel
theorem dJx4a65c_fastRemove_b59b0_14 : decode cJx4a65c_fastRemove_b59b0 14 = .ok (.iconst 1, 1) := by decide +kernel
theorem dJx4a65c_fastRemove_b59b0_15 : decode cJx4a65c_fastRemove_b59b0 15 = .ok (.isub, 1) := by decide +kernel
theorem dJx4a65c_fastRemove_b59b0_16 : decode cJx4a65c_fastRemove_b59b0 16 = .ok (.dup, 1) := by decide +kernel
theorem dJx4a65c_fastRemove_b59b0_17 : decode cJx4a65c_fastRemove_b59b0 17 = .ok (.istore_n 3, 1) := by decide +kernel
theorem dJx4a65c_fastRemove_b59b0_18 : decode cJx4a65c_fastRemove_b59b0 18 = .ok (.iload_n 2, 1) := by decide +kernel
theorem dJx4a65c_fastRemove_b59b0_19 : decode cJx4a65c_fastRemove_b59b0 19 = .ok (.if_icmp .le 15, 3) := by decide +kernel
theorem dJx4a65c_fastRemove_b59b0_22 : decode cJx4a65c_fastRemove_b59b0 22 = .ok (.aload_n 1, 1) := by decide +kernel
theorem dJx4a65c_fastRemove_b59b0_23 : decode cJx4a65c_fastRemove_b59b0 23 = .ok (.iload_n 2, 1) := by decide +kernel
theorem dJx4a65c_fastRemove_b59b0_24 : decode cJx4a65c_fastRemove_b59b0 24 = .ok (.iconst 1, 1) := by decide +kernel
theorem dJx4a65c_fastRemove_b59b0_25 : decode cJx4a65c_fastRemove_b59b0 25 = .ok (.iadd, 1) := by decide +kernel
theorem dJx4a65c_fastRemove_b59b0_26 : decode cJx4a65c_fastRemove_b59b0 26 = .ok (.aload_n 1, 1) := by decide +kernel
theorem dJx4a65c_fastRemove_b59b0_27 : decode cJx4a65c_fastRemove_b59b0 27 = .ok (.iload_n 2, 1) := by decide +kernel
theorem dJx4a65c_fastRemove_b59b0_28 : decode cJx4a65c_fastRemove_b59b0 28 = .ok (.iload_n 3, 1) := by decide +kernel
theorem dJx4a65c_fastRemove_b59b0_29 : decode cJx4a65c_fastRemove_b59b0 29 = .ok (.iload_n 2, 1) := by decide +kernel
theorem dJx4a65c_fastRemove_b59b0_30 : decode cJx4a65c_fastRemove_b59b0 30 = .ok (.isub, 1) := by decide +kernel
theorem dJx4a65c_fastRemove_b59b0_31 : decode cJx4a65c_fastRemove_b59b0 31 = .ok (.invokestatic 112, 3) := by decide +kernel
theorem dJx4a65c_fastRemove_b59b0_34 : decode cJx4a65c_fastRemove_b59b0 34 = .ok (.aload_n 1, 1) := by decide +kernel
theorem dJx4a65c_fastRemove_b59b0_35 : decode cJx4a65c_fastRemove_b59b0 35 = .ok (.aload_n 0, 1) := by decide +kernel
theorem dJx4a65c_fastRemove_b59b0_36 : decode cJx4a65c_fastRemove_b59b0 36 = .ok (.iload_n 3, 1) := by decide +kernel
theorem dJx4a65c_fastRemove_b59b0_37 : decode cJx4a65c_fastRemove_b59b0 37 = .ok (.dup_x1, 1) := by decide +kernel
theorem dJx4a65c_fastRemove_b59b0_38 : decode cJx4a65c_fastRemove_b59b0 38 = .ok (.putfield 48, 3) := by decide +kernel
theorem dJx4a65c_fastRemove_b59b0_41 : decode cJx4a65c_fastRemove_b59b0 41 = .ok (.aconst_null, 1) := by decide +kernel
theorem dJx4a65c_fastRemove_b59b0_42 : decode cJx4a65c_fastRemove_b59b0 42 = .ok (.aastore, 1) := by decide +kernel
theorem dJx4a65c_fastRemove_b59b0_43 : decode cJx4a65c_fastRemove_b59b0 43 = .ok (.return_, 1) := by decide +kernel
theorem dJx4a65c_iterator_32c93_0 : decode cJx4a65c_iterator_32c93 0 = .ok (.new 267, 3) := by decide +kernel
theorem dJx4a65c_iterator_32c93_3 : decode cJx4a65c_iterator_32c93 3 = .ok (.dup, 1) := by decide +kernel
theorem dJx4a65c_iterator_32c93_4 : decode cJx4a65c_iterator_32c93 4 = .ok (.aload_n 0, 1) := by decide +kernel
theorem dJx4a65c_iterator_32c93_5 : decode cJx4a65c_iterator_32c93 5 = .ok (.invokespecial 269, 3) := by decide +kernel
theorem dJx4a65c_iterator_32c93_8 : decode cJx4a65c_iterator_32c93 8 = .ok (.areturn, 1) := by decide +kernel
theorem dJ7_copyOf_1904c_0 : decode cJ7_copyOf_1904c 0 = .ok (.aload_n 0, 1) := by decide +kernel
theorem dJ7_copyOf_1904c_1 : decode cJ7_copyOf_1904c 1 = .ok (.iload_n 1, 1) := by decide +kernel
theorem dJ7_copyOf_1904c_2 : decode cJ7_copyOf_1904c 2 = .ok (.aload_n 0, 1) := by decide +kernel
theorem dJ7_copyOf_1904c_3 : decode cJ7_copyOf_1904c 3 = .ok (.invokevirtual 86, 3) := by decide +kernel
theorem dJ7_copyOf_1904c_6 : decode cJ7_copyOf_1904c 6 = .ok (.invokestatic 300, 3) := by decide +kernel
theorem dJ7_copyOf_1904c_9 : decode cJ7_copyOf_1904c 9 = .ok (.areturn, 1) := by decide +kernel
theorem dJ7_copyOf_6403c_0 : decode cJ7_copyOf_6403c 0 = .ok (.aload_n 2, 1) := by decide +kernel
theorem dJ7_copyOf_6403c_1 : decode cJ7_copyOf_6403c 1 = .ok (.ldc 110, 2) := by decide +kernel
theorem dJ7_copyOf_6403c_3 : decode cJ7_copyOf_6403c 3 = .ok (.if_acmp .ne 10, 3) := by decide +kernel
theorem dJ7_copyOf_6403c_6 : decode cJ7_copyOf_6403c 6 = .ok (.iload_n 1, 1) := by decide +kernel
theorem dJ7_copyOf_6403c_7 : decode cJ7_copyOf_6403c 7 = .ok (.anewarray 2, 3) := by decide +kernel
theorem dJ7_copyOf_6403c_10 : decode cJ7_copyOf_6403c 10 = .ok (.goto 14, 3) := by decide +kernel
theorem dJ7_copyOf_6403c_13 : decode cJ7_copyOf_6403c 13 = .ok (.aload_n 2, 1) := by decide +kernel
theorem dJ7_copyOf_6403c_14 : decode cJ7_copyOf_6403c 14 = .ok (.invokevirtual 90, 3) := by decide +kernel
theorem dJ7_copyOf_6403c_17 : decode cJ7_copyOf_6403c 17 = .ok (.iload_n 1, 1) := by decide +kernel
theorem dJ7_copyOf_6403c_18 : decode cJ7_copyOf_6403c 18 = .ok (.invokestatic 95, 3) := by decide +kernel
theorem dJ7_copyOf_6403c_21 : decode cJ7_copyOf_6403c 21 = .ok (.checkcast 110, 3) := by decide +kernel
theorem dJ7_copyOf_6403c_24 : decode cJ7_copyOf_6403c 24 = .ok (.astore_n 3, 1) := by decide +kernel
theorem dJ7_copyOf_6403c_25 : decode cJ7_copyOf_6403c 25 = .ok (.aload_n 0, 1) := by decide +kernel
theorem dJ7_copyOf_6403c_26 : decode cJ7_copyOf_6403c 26 = .ok (.iconst 0, 1) := by decide +kernel
theorem dJ7_copyOf_6403c_27 : decode cJ7_copyOf_6403c 27 = .ok (.aload_n 3, 1) := by decide +kernel
theorem dJ7_copyOf_6403c_28 : decode cJ7_copyOf_6403c 28 = .ok (.iconst 0, 1) := by decide +kernel
theorem dJ7_copyOf_6403c_29 : decode cJ7_copyOf_6403c 29 = .ok (.aload_n 0, 1) := by decide +kernel
theorem dJ7_copyOf_6403c_30 : decode cJ7_copyOf_6403c 30 = .ok (.arraylength, 1) := by decide +kernel
theorem dJ7_copyOf_6403c_31 : decode cJ7_copyOf_6403c 31 = .ok (.iload_n 1, 1) := by decide +kernel
theorem dJ7_copyOf_6403c_32 : decode cJ7_copyOf_6403c 32 = .ok (.invokestatic 304, 3) := by decide +kernel
theorem dJ7_copyOf_6403c_35 : decode cJ7_copyOf_6403c 35 = .ok (.invokestatic 150, 3) := by decide +kernel
theorem dJ7_copyOf_6403c_38 : decode cJ7_copyOf_6403c 38 = .ok (.aload_n 3, 1) := by decide +kernel
theorem dJ7_copyOf_6403c_39 : decode cJ7_copyOf_6403c 39 = .ok (.areturn, 1) := by decide +kernel
theorem dJ15_checkIndex_7cf53_0 : decode cJ15_checkIndex_7cf53 0 = .ok (.iload_n 0, 1) := by decide +kernel
theorem dJ15_checkIndex_7cf53_1 : decode cJ15_checkIndex_7cf53 1 = .ok (.iload_n 1, 1) := by decide +kernel
theorem dJ15_checkIndex_7cf53_2 : decode cJ15_checkIndex_7cf53 2 = .ok (.aconst_null, 1) := by decide +kernel
theorem dJ15_checkIndex_7cf53_3 : decode cJ15_checkIndex_7cf53 3 = .ok (.invokestatic 105, 3) := by decide +kernel
theorem dJ15_checkIndex_7cf53_6 : decode cJ15_checkIndex_7cf53 6 = .ok (.ireturn, 1) := by decide +kernel
theorem dJ8_newLength_cabcc_0 : decode cJ8_newLength_cabcc 0 = .ok (.iload_n 0, 1) := by decide +kernel
theorem dJ8_newLength_cabcc_1 : decode cJ8_newLength_cabcc 1 = .ok (.iload_n 1, 1) := by decide +kernel
theorem dJ8_newLength_cabcc_2 : decode cJ8_newLength_cabcc 2 = .ok (.iload_n 2, 1) := by decide +kernel
theorem dJ8_newLength_cabcc_3 : decode cJ8_newLength_cabcc 3 = .ok (.invokestatic 194, 3) := by decide +kernel
theorem dJ8_newLength_cabcc_6 : decode cJ8_newLength_cabcc 6 = .ok (.iadd, 1) := by decide +kernel
theorem dJ8_newLength_cabcc_7 : decode cJ8_newLength_cabcc 7 = .ok (.istore_n 3, 1) := by decide +kernel
theorem dJ8_newLength_cabcc_8 : decode cJ8_newLength_cabcc 8 = .ok (.iconst 0, 1) := by decide +kernel
theorem dJ8_newLength_cabcc_9 : decode cJ8_newLength_cabcc 9 = .ok (.iload_n 3, 1) := by decide +kernel
theorem dJ8_newLength_cabcc_10 : decode cJ8_newLength_cabcc 10 = .ok (.if_icmp .ge 11, 3) := by decide +kernel
theorem dJ8_newLength_cabcc_13 : decode cJ8_newLength_cabcc 13 = .ok (.iload_n 3, 1) := by decide +kernel
theorem dJ8_newLength_cabcc_14 : decode cJ8_newLength_cabcc 14 = .ok (.ldc 200, 2) := by decide +kernel
theorem dJ8_newLength_cabcc_16 : decode cJ8_newLength_cabcc 16 = .ok (.if_icmp .gt 5, 3) := by decide +kernel
theorem dJ8_newLength_cabcc_19 : decode cJ8_newLength_cabcc 19 = .ok (.iload_n 3, 1) := by decide +kernel
theorem dJ8_newLength_cabcc_20 : decode cJ8_newLength_cabcc 20 = .ok (.ireturn, 1) := by decide +kernel
theorem dJ8_newLength_cabcc_21 : decode cJ8_newLength_cabcc 21 = .ok (.iload_n 0, 1) := by decide +kernel
theorem dJ8_newLength_cabcc_22 : decode cJ8_newLength_cabcc 22 = .ok (.iload_n 1, 1) := by decide +kernel
theorem dJ8_newLength_cabcc_23 : decode cJ8_newLength_cabcc 23 = .ok (.invokestatic 201, 3) := by decide +kernel
theorem dJ8_newLength_cabcc_26 : decode cJ8_newLength_cabcc 26 = .ok (.ireturn, 1) := by decide +kernel
theorem dJ8_hugeLength_7cf53_0 : decode cJ8_hugeLength_7cf53 0 = .ok (.iload_n 0, 1) := by decide +kernel
theorem dJ8_hugeLength_7cf53_1 : decode cJ8_hugeLength_7cf53 1 = .ok (.iload_n 1, 1) := by decide +kernel
theorem dJ8_hugeLength_7cf53_2 : decode cJ8_hugeLength_7cf53 2 = .ok (.iadd, 1) := by decide +kernel
theorem dJ8_hugeLength_7cf53_3 : decode cJ8_hugeLength_7cf53 3 = .ok (.istore_n 2, 1) := by decide +kernel
theorem dJ8_hugeLength_7cf53_4 : decode cJ8_hugeLength_7cf53 4 = .ok (.iload_n 2, 1) := by decide +kernel
theorem dJ8_hugeLength_7cf53_5 : decode cJ8_hugeLength_7cf53 5 = .ok (.ifCond .ge 44, 3) := by decide +kernel
theorem dJ8_hugeLength_7cf53_8 : decode cJ8_hugeLength_7cf53 8 = .ok (.new 204, 3) := by decide +kernel
theorem dJ8_hugeLength_7cf53_11 : decode cJ8_hugeLength_7cf53 11 = .ok (.dup, 1) := by decide +kernel
theorem dJ8_hugeLength_7cf53_12 : decode cJ8_hugeLength_7cf53 12 = .ok (.new 89, 3) := by decide +kernel
theorem dJ8_hugeLength_7cf53_15 : decode cJ8_hugeLength_7cf53 15 = .ok (.dup, 1) := by decide +kernel
theorem dJ8_hugeLength_7cf53_16 : decode cJ8_hugeLength_7cf53 16 = .ok (.invokespecial 91, 3) := by decide +kernel
theorem dJ8_hugeLength_7cf53_19 : decode cJ8_hugeLength_7cf53 19 = .ok (.ldc 206, 2) := by decide +kernel
theorem dJ8_hugeLength_7cf53_21 : decode cJ8_hugeLength_7cf53 21 = .ok (.invokevirtual 94, 3) := by decide +kernel
theorem dJ8_hugeLength_7cf53_24 : decode cJ8_hugeLength_7cf53 24 = .ok (.iload_n 0, 1) := by decide +kernel
theorem dJ8_hugeLength_7cf53_25 : decode cJ8_hugeLength_7cf53 25 = .ok (.invokevirtual 98, 3) := by decide +kernel
theorem dJ8_hugeLength_7cf53_28 : decode cJ8_hugeLength_7cf53 28 = .ok (.ldc 208, 2) := by decide +kernel
theorem dJ8_hugeLength_7cf53_30 : decode cJ8_hugeLength_7cf53 30 = .ok (.invokevirtual 94, 3) := by decide +kernel
theorem dJ8_hugeLength_7cf53_33 : decode cJ8_hugeLength_7cf53 33 = .ok (.iload_n 1, 1) := by decide +kernel
theorem dJ8_hugeLength_7cf53_34 : decode cJ8_hugeLength_7cf53 34 = .ok (.invokevirtual 98, 3) := by decide +kernel
theorem dJ8_hugeLength_7cf53_37 : decode cJ8_hugeLength_7cf53 37 = .ok (.ldc 210, 2) := by decide +kernel
theorem dJ8_hugeLength_7cf53_39 : decode cJ8_hugeLength_7cf53 39 = .ok (.invokevirtual 94, 3) := by decide +kernel
theorem dJ8_hugeLength_7cf53_42 : decode cJ8_hugeLength_7cf53 42 = .ok (.invokevirtual 101, 3) := by decide +kernel
theorem dJ8_hugeLength_7cf53_45 : decode cJ8_hugeLength_7cf53 45 = .ok (.invokespecial 212, 3) := by decide +kernel
theorem dJ8_hugeLength_7cf53_48 : decode cJ8_hugeLength_7cf53 48 = .ok (.athrow, 1) := by decide +kernel
theorem dJ8_hugeLength_7cf53_49 : decode cJ8_hugeLength_7cf53 49 = .ok (.iload_n 2, 1) := by decide +kernel
theorem dJ8_hugeLength_7cf53_50 : decode cJ8_hugeLength_7cf53 50 = .ok (.ldc 200, 2) := by decide +kernel
theorem dJ8_hugeLength_7cf53_52 : decode cJ8_hugeLength_7cf53 52 = .ok (.if_icmp .gt 6, 3) := by decide +kernel
theorem dJ8_hugeLength_7cf53_55 : decode cJ8_hugeLength_7cf53 55 = .ok (.ldc 200, 2) := by decide +kernel
theorem dJ8_hugeLength_7cf53_57 : decode cJ8_hugeLength_7cf53 57 = .ok (.ireturn, 1) := by decide +kernel
theorem dJ8_hugeLength_7cf53_58 : decode cJ8_hugeLength_7cf53 58 = .ok (.iload_n 2, 1) := by decide +kernel
theorem dJ8_hugeLength_7cf53_59 : decode cJ8_hugeLength_7cf53 59 = .ok (.ireturn, 1) := by decide +kernel
theorem dJ3_checkIndex_8e157_0 : decode cJ3_checkIndex_8e157 0 = .ok (.iload_n 0, 1) := by decide +kernel
theorem dJ3_checkIndex_8e157_1 : decode cJ3_checkIndex_8e157 1 = .ok (.ifCond .lt 8, 3) := by decide +kernel
theorem dJ3_checkIndex_8e157_4 : decode cJ3_checkIndex_8e157 4 = .ok (.iload_n 0, 1) := by decide +kernel
theorem dJ3_checkIndex_8e157_5 : decode cJ3_checkIndex_8e157 5 = .ok (.iload_n 1, 1) := by decide +kernel
theorem dJ3_checkIndex_8e157_6 : decode cJ3_checkIndex_8e157 6 = .ok (.if_icmp .lt 10, 3) := by decide +kernel
theorem dJ3_checkIndex_8e157_9 : decode cJ3_checkIndex_8e157 9 = .ok (.aload_n 2, 1) := by decide +kernel
theorem dJ3_checkIndex_8e157_10 : decode cJ3_checkIndex_8e157 10 = .ok (.iload_n 0, 1) := by decide +kernel
theorem dJ3_checkIndex_8e157_11 : decode cJ3_checkIndex_8e157 11 = .ok (.iload_n 1, 1) := by decide +kernel
theorem dJ3_checkIndex_8e157_12 : decode cJ3_checkIndex_8e157 12 = .ok (.invokestatic 95, 3) := by decide +kernel
theorem dJ3_checkIndex_8e157_15 : decode cJ3_checkIndex_8e157 15 = .ok (.athrow, 1) := by decide +kernel
theorem dJ3_checkIndex_8e157_16 : decode cJ3_checkIndex_8e157 16 = .ok (.iload_n 0, 1) := by decide +kernel
theorem dJ3_checkIndex_8e157_17 : decode cJ3_checkIndex_8e157 17 = .ok (.ireturn, 1) := by decide +kernel
theorem dL_deck_0 : decode cL_deck 0 = .ok (.aload_n 2, 1) := by decide +kernel
theorem dL_deck_1 : decode cL_deck 1 = .ok (.iconst 0, 1) := by decide +kernel
theorem dL_deck_2 : decode cL_deck 2 = .ok (.aload_n 0, 1) := by decide +kernel
theorem dL_deck_3 : decode cL_deck 3 = .ok (.iload_n 1, 1) := by decide +kernel
theorem dL_deck_4 : decode cL_deck 4 = .ok (.invokevirtual 7, 3) := by decide +kernel
theorem dL_deck_7 : decode cL_deck 7 = .ok (.i2l, 1) := by decide +kernel
theorem dL_deck_8 : decode cL_deck 8 = .ok (.lastore, 1) := by decide +kernel
theorem dL_deck_9 : decode cL_deck 9 = .ok (.goto 9, 3) := by decide +kernel
theorem dL_deck_12 : decode cL_deck 12 = .ok (.astore_n 3, 1) := by decide +kernel
theorem dL_deck_13 : decode cL_deck 13 = .ok (.iconst 1, 1) := by decide +kernel
theorem dL_deck_14 : decode cL_deck 14 = .ok (.ireturn, 1) := by decide +kernel
theorem dL_deck_15 : decode cL_deck 15 = .ok (.astore_n 3, 1) := by decide +kernel
theorem dL_deck_16 : decode cL_deck 16 = .ok (.iconst 2, 1) := by decide +kernel
theorem dL_deck_17 : decode cL_deck 17 = .ok (.ireturn, 1) := by decide +kernel
theorem dL_deck_18 : decode cL_deck 18 = .ok (.iconst 0, 1) := by decide +kernel
theorem dL_deck_19 : decode cL_deck 19 = .ok (.ireturn, 1) := by decide +kernel
theorem dL_shuffle_0 : decode cL_shuffle 0 = .ok (.aload 5, 2) := by decide +kernel
theorem dL_shuffle_2 : decode cL_shuffle 2 = .ok (.iconst 0, 1) := by decide +kernel
theorem dL_shuffle_3 : decode cL_shuffle 3 = .ok (.aload_n 0, 1) := by decide +kernel
theorem dL_shuffle_4 : decode cL_shuffle 4 = .ok (.iload_n 1, 1) := by decide +kernel
theorem dL_shuffle_5 : decode cL_shuffle 5 = .ok (.iload_n 2, 1) := by decide +kernel
theorem dL_shuffle_6 : decode cL_shuffle 6 = .ok (.iload_n 3, 1) := by decide +kernel
theorem dL_shuffle_7 : decode cL_shuffle 7 = .ok (.iload 4, 2) := by decide +kernel
theorem dL_shuffle_9 : decode cL_shuffle 9 = .ok (.invokevirtual 17, 3) := by decide +kernel
theorem dL_shuffle_12 : decode cL_shuffle 12 = .ok (.i2l, 1) := by decide +kernel
theorem dL_shuffle_13 : decode cL_shuffle 13 = .ok (.lastore, 1) := by decide +kernel
theorem dL_shuffle_14 : decode cL_shuffle 14 = .ok (.goto 11, 3) := by decide +kernel
theorem dL_shuffle_17 : decode cL_shuffle 17 = .ok (.astore 6, 2) := by decide +kernel
theorem dL_shuffle_19 : decode cL_shuffle 19 = .ok (.iconst 1, 1) := by decide +kernel
theorem dL_shuffle_20 : decode cL_shuffle 20 = .ok (.ireturn, 1) := by decide +kernel
theorem dL_shuffle_21 : decode cL_shuffle 21 = .ok (.astore 6, 2) := by decide +kernel
theorem dL_shuffle_23 : decode cL_shuffle 23 = .ok (.iconst 2, 1) := by decide +kernel
theorem dL_shuffle_24 : decode cL_shuffle 24 = .ok (.ireturn, 1) := by decide +kernel
theorem dL_shuffle_25 : decode cL_shuffle 25 = .ok (.iconst 0, 1) := by decide +kernel
theorem dL_shuffle_26 : decode cL_shuffle 26 = .ok (.ireturn, 1) := by decide +kernel
theorem dL_undo_0 : decode cL_undo 0 = .ok (.aload_n 2, 1) := by decide +kernel
theorem dL_undo_1 : decode cL_undo 1 = .ok (.iconst 0, 1) := by decide +kernel
theorem dL_undo_2 : decode cL_undo 2 = .ok (.aload_n 0, 1) := by decide +kernel
theorem dL_undo_3 : decode cL_undo 3 = .ok (.iload_n 1, 1) := by decide +kernel
theorem dL_undo_4 : decode cL_undo 4 = .ok (.invokevirtual 23, 3) := by decide +kernel
theorem dL_undo_7 : decode cL_undo 7 = .ok (.i2l, 1) := by decide +kernel
theorem dL_undo_8 : decode cL_undo 8 = .ok (.lastore, 1) := by decide +kernel
theorem dL_undo_9 : decode cL_undo 9 = .ok (.goto 6, 3) := by decide +kernel
theorem dL_undo_12 : decode cL_undo 12 = .ok (.astore_n 3, 1) := by decide +kernel
theorem dL_undo_13 : decode cL_undo 13 = .ok (.iconst 1, 1) := by decide +kernel
theorem dL_undo_14 : decode cL_undo 14 = .ok (.ireturn, 1) := by decide +kernel
theorem dL_undo_15 : decode cL_undo 15 = .ok (.iconst 0, 1) := by decide +kernel
theorem dL_undo_16 : decode cL_undo 16 = .ok (.ireturn, 1) := by decide +kernel
theorem dL_turn_0 : decode cL_turn 0 = .ok (.aload_n 3, 1) := by decide +kernel
theorem dL_turn_1 : decode cL_turn 1 = .ok (.iconst 0, 1) := by decide +kernel
theorem dL_turn_2 : decode cL_turn 2 = .ok (.aload_n 0, 1) := by decide +kernel
theorem dL_turn_3 : decode cL_turn 3 = .ok (.iload_n 1, 1) := by decide +kernel
theorem dL_turn_4 : decode cL_turn 4 = .ok (.iload_n 2, 1) := by decide +kernel
theorem dL_turn_5 : decode cL_turn 5 = .ok (.invokevirtual 26, 3) := by decide +kernel
theorem dL_turn_8 : decode cL_turn 8 = .ok (.ifCond .eq 7, 3) := by decide +kernel
theorem dL_turn_11 : decode cL_turn 11 = .ok (.lconst 1, 1) := by decide +kernel
theorem dL_turn_12 : decode cL_turn 12 = .ok (.goto 4, 3) := by decide +kernel
theorem dL_turn_15 : decode cL_turn 15 = .ok (.lconst 0, 1) := by decide +kernel
theorem dL_turn_16 : decode cL_turn 16 = .ok (.lastore, 1) := by decide +kernel
theorem dL_turn_17 : decode cL_turn 17 = .ok (.goto 7, 3) := by decide +kernel
theorem dL_turn_20 : decode cL_turn 20 = .ok (.astore 4, 2) := by decide +kernel
theorem dL_turn_22 : decode cL_turn 22 = .ok (.iconst 1, 1) := by decide +kernel
theorem dL_turn_23 : decode cL_turn 23 = .ok (.ireturn, 1) := by decide +kernel
theorem dL_turn_24 : decode cL_turn 24 = .ok (.iconst 0, 1) := by decide +kernel
theorem dL_turn_25 : decode cL_turn 25 = .ok (.ireturn, 1) := by decide +kernel
theorem dL_sequence_0 : decode cL_sequence 0 = .ok (.aload_n 1, 1) := by decide +kernel
theorem dL_sequence_1 : decode cL_sequence 1 = .ok (.iconst 0, 1) := by decide +kernel
theorem dL_sequence_2 : decode cL_sequence 2 = .ok (.aload_n 0, 1) := by decide +kernel
theorem dL_sequence_3 : decode cL_sequence 3 = .ok (.invokevirtual 30, 3) := by decide +kernel
theorem dL_sequence_6 : decode cL_sequence 6 = .ok (.i2l, 1) := by decide +kernel
theorem dL_sequence_7 : decode cL_sequence 7 = .ok (.lastore, 1) := by decide +kernel
theorem dL_sequence_8 : decode cL_sequence 8 = .ok (.goto 6, 3) := by decide +kernel
theorem dL_sequence_11 : decode cL_sequence 11 = .ok (.astore_n 2, 1) := by decide +kernel
theorem dL_sequence_12 : decode cL_sequence 12 = .ok (.iconst 1, 1) := by decide +kernel
theorem dL_sequence_13 : decode cL_sequence 13 = .ok (.ireturn, 1) := by decide +kernel
theorem dL_sequence_14 : decode cL_sequence 14 = .ok (.iconst 0, 1) := by decide +kernel
theorem dL_sequence_15 : decode cL_sequence 15 = .ok (.ireturn, 1) := by decide +kernel
theorem dL_step_0 : decode cL_step 0 = .ok (.aload 4, 2) := by decide +kernel
theorem dL_step_2 : decode cL_step 2 = .ok (.iconst 0, 1) := by decide +kernel
theorem dL_step_3 : decode cL_step 3 = .ok (.aload_n 0, 1) := by decide +kernel
theorem dL_step_4 : decode cL_step 4 = .ok (.iload_n 1, 1) := by decide +kernel
theorem dL_step_5 : decode cL_step 5 = .ok (.iload_n 2, 1) := by decide +kernel
theorem dL_step_6 : decode cL_step 6 = .ok (.iload_n 3, 1) := by decide +kernel
theorem dL_step_7 : decode cL_step 7 = .ok (.invokevirtual 34, 3) := by decide +kernel
theorem dL_step_10 : decode cL_step 10 = .ok (.i2l, 1) := by decide +kernel
theorem dL_step_11 : decode cL_step 11 = .ok (.lastore, 1) := by decide +kernel
theorem dL_step_12 : decode cL_step 12 = .ok (.goto 15, 3) := by decide +kernel
theorem dL_step_15 : decode cL_step 15 = .ok (.astore 5, 2) := by decide +kernel
theorem dL_step_17 : decode cL_step 17 = .ok (.iconst 1, 1) := by decide +kernel
theorem dL_step_18 : decode cL_step 18 = .ok (.ireturn, 1) := by decide +kernel
theorem dL_step_19 : decode cL_step 19 = .ok (.astore 5, 2) := by decide +kernel
theorem dL_step_21 : decode cL_step 21 = .ok (.iconst 2, 1) := by decide +kernel
theorem dL_step_22 : decode cL_step 22 = .ok (.ireturn, 1) := by decide +kernel
theorem dL_step_23 : decode cL_step 23 = .ok (.astore 5, 2) := by decide +kernel
theorem dL_step_25 : decode cL_step 25 = .ok (.iconst 3, 1) := by decide +kernel
theorem dL_step_26 : decode cL_step 26 = .ok (.ireturn, 1) := by decide +kernel
theorem dL_step_27 : decode cL_step 27 = .ok (.iconst 0, 1) := by decide +kernel
theorem dL_step_28 : decode cL_step 28 = .ok (.ireturn, 1) := by decide +kernel
theorem dL_perform_0 : decode cL_perform 0 = .ok (.aload 4, 2) := by decide +kernel
theorem dL_perform_2 : decode cL_perform 2 = .ok (.iconst 0, 1) := by decide +kernel
theorem dL_perform_3 : decode cL_perform 3 = .ok (.aload_n 0, 1) := by decide +kernel
theorem dL_perform_4 : decode cL_perform 4 = .ok (.iload_n 1, 1) := by decide +kernel
theorem dL_perform_5 : decode cL_perform 5 = .ok (.iload_n 2, 1) := by decide +kernel
theorem dL_perform_6 : decode cL_perform 6 = .ok (.iload_n 3, 1) := by decide +kernel
theorem dL_perform_7 : decode cL_perform 7 = .ok (.invokevirtual 38, 3) := by decide +kernel
theorem dL_perform_10 : decode cL_perform 10 = .ok (.i2l, 1) := by decide +kernel
theorem dL_perform_11 : decode cL_perform 11 = .ok (.lastore, 1) := by decide +kernel
theorem dL_perform_12 : decode cL_perform 12 = .ok (.goto 15, 3) := by decide +kernel
theorem dL_perform_15 : decode cL_perform 15 = .ok (.astore 5, 2) := by decide +kernel
theorem dL_perform_17 : decode cL_perform 17 = .ok (.iconst 1, 1) := by decide +kernel
theorem dL_perform_18 : decode cL_perform 18 = .ok (.ireturn, 1) := by decide +kernel
theorem dL_perform_19 : decode cL_perform 19 = .ok (.astore 5, 2) := by decide +kernel
theorem dL_perform_21 : decode cL_perform 21 = .ok (.iconst 2, 1) := by decide +kernel
theorem dL_perform_22 : decode cL_perform 22 = .ok (.ireturn, 1) := by decide +kernel
theorem dL_perform_23 : decode cL_perform 23 = .ok (.astore 5, 2) := by decide +kernel
theorem dL_perform_25 : decode cL_perform 25 = .ok (.iconst 3, 1) := by decide +kernel
theorem dL_perform_26 : decode cL_perform 26 = .ok (.ireturn, 1) := by decide +kernel
theorem dL_perform_27 : decode cL_perform 27 = .ok (.iconst 0, 1) := by decide +kernel
theorem dL_perform_28 : decode cL_perform 28 = .ok (.ireturn, 1) := by decide +kernel
theorem dL_card_0 : decode cL_card 0 = .ok (.aload_n 3, 1) := by decide +kernel
theorem dL_card_1 : decode cL_card 1 = .ok (.iconst 0, 1) := by decide +kernel
theorem dL_card_2 : decode cL_card 2 = .ok (.aload_n 0, 1) := by decide +kernel
theorem dL_card_3 : decode cL_card 3 = .ok (.iload_n 1, 1) := by decide +kernel
theorem dL_card_4 : decode cL_card 4 = .ok (.iload_n 2, 1) := by decide +kernel
theorem dL_card_5 : decode cL_card 5 = .ok (.invokevirtual 41, 3) := by decide +kernel
theorem dL_card_8 : decode cL_card 8 = .ok (.i2l, 1) := by decide +kernel
theorem dL_card_9 : decode cL_card 9 = .ok (.lastore, 1) := by decide +kernel
theorem dL_card_10 : decode cL_card 10 = .ok (.goto 7, 3) := by decide +kernel
theorem dL_card_13 : decode cL_card 13 = .ok (.astore 4, 2) := by decide +kernel
theorem dL_card_15 : decode cL_card 15 = .ok (.iconst 1, 1) := by decide +kernel
theorem dL_card_16 : decode cL_card 16 = .ok (.ireturn, 1) := by decide +kernel
theorem dL_card_17 : decode cL_card 17 = .ok (.iconst 0, 1) := by decide +kernel
theorem dL_card_18 : decode cL_card 18 = .ok (.ireturn, 1) := by decide +kernel
theorem dL_find_0 : decode cL_find 0 = .ok (.aload 4, 2) := by decide +kernel
theorem dL_find_2 : decode cL_find 2 = .ok (.iconst 0, 1) := by decide +kernel
theorem dL_find_3 : decode cL_find 3 = .ok (.aload_n 0, 1) := by decide +kernel
theorem dL_find_4 : decode cL_find 4 = .ok (.iload_n 1, 1) := by decide +kernel
theorem dL_find_5 : decode cL_find 5 = .ok (.iload_n 2, 1) := by decide +kernel
theorem dL_find_6 : decode cL_find 6 = .ok (.iload_n 3, 1) := by decide +kernel
theorem dL_find_7 : decode cL_find 7 = .ok (.invokevirtual 45, 3) := by decide +kernel
theorem dL_find_10 : decode cL_find 10 = .ok (.i2l, 1) := by decide +kernel
theorem dL_find_11 : decode cL_find 11 = .ok (.lastore, 1) := by decide +kernel
theorem dL_find_12 : decode cL_find 12 = .ok (.goto 7, 3) := by decide +kernel
theorem dL_find_15 : decode cL_find 15 = .ok (.astore 5, 2) := by decide +kernel
theorem dL_find_17 : decode cL_find 17 = .ok (.iconst 1, 1) := by decide +kernel
theorem dL_find_18 : decode cL_find 18 = .ok (.ireturn, 1) := by decide +kernel
theorem dL_find_19 : decode cL_find 19 = .ok (.iconst 0, 1) := by decide +kernel
theorem dL_find_20 : decode cL_find 20 = .ok (.ireturn, 1) := by decide +kernel
theorem dL_ofDeck_0 : decode cL_ofDeck 0 = .ok (.aload_n 3, 1) := by decide +kernel
theorem dL_ofDeck_1 : decode cL_ofDeck 1 = .ok (.iconst 0, 1) := by decide +kernel
theorem dL_ofDeck_2 : decode cL_ofDeck 2 = .ok (.aload_n 0, 1) := by decide +kernel
theorem dL_ofDeck_3 : decode cL_ofDeck 3 = .ok (.iload_n 1, 1) := by decide +kernel
theorem dL_ofDeck_4 : decode cL_ofDeck 4 = .ok (.iload_n 2, 1) := by decide +kernel
theorem dL_ofDeck_5 : decode cL_ofDeck 5 = .ok (.invokevirtual 49, 3) := by decide +kernel
theorem dL_ofDeck_8 : decode cL_ofDeck 8 = .ok (.i2l, 1) := by decide +kernel
theorem dL_ofDeck_9 : decode cL_ofDeck 9 = .ok (.lastore, 1) := by decide +kernel
theorem dL_ofDeck_10 : decode cL_ofDeck 10 = .ok (.goto 11, 3) := by decide +kernel
theorem dL_ofDeck_13 : decode cL_ofDeck 13 = .ok (.astore 4, 2) := by decide +kernel
theorem dL_ofDeck_15 : decode cL_ofDeck 15 = .ok (.iconst 1, 1) := by decide +kernel
theorem dL_ofDeck_16 : decode cL_ofDeck 16 = .ok (.ireturn, 1) := by decide +kernel
theorem dL_ofDeck_17 : decode cL_ofDeck 17 = .ok (.astore 4, 2) := by decide +kernel
theorem dL_ofDeck_19 : decode cL_ofDeck 19 = .ok (.iconst 2, 1) := by decide +kernel
theorem dL_ofDeck_20 : decode cL_ofDeck 20 = .ok (.ireturn, 1) := by decide +kernel
theorem dL_ofDeck_21 : decode cL_ofDeck 21 = .ok (.iconst 0, 1) := by decide +kernel
theorem dL_ofDeck_22 : decode cL_ofDeck 22 = .ok (.ireturn, 1) := by decide +kernel
theorem dL_keeps_0 : decode cL_keeps 0 = .ok (.aload_n 3, 1) := by decide +kernel
theorem dL_keeps_1 : decode cL_keeps 1 = .ok (.iconst 0, 1) := by decide +kernel
theorem dL_keeps_2 : decode cL_keeps 2 = .ok (.aload_n 0, 1) := by decide +kernel
theorem dL_keeps_3 : decode cL_keeps 3 = .ok (.iload_n 1, 1) := by decide +kernel
theorem dL_keeps_4 : decode cL_keeps 4 = .ok (.iload_n 2, 1) := by decide +kernel
theorem dL_keeps_5 : decode cL_keeps 5 = .ok (.invokevirtual 52, 3) := by decide +kernel
theorem dL_keeps_8 : decode cL_keeps 8 = .ok (.ifCond .eq 7, 3) := by decide +kernel
theorem dL_keeps_11 : decode cL_keeps 11 = .ok (.lconst 1, 1) := by decide +kernel
theorem dL_keeps_12 : decode cL_keeps 12 = .ok (.goto 4, 3) := by decide +kernel
theorem dL_keeps_15 : decode cL_keeps 15 = .ok (.lconst 0, 1) := by decide +kernel
theorem dL_keeps_16 : decode cL_keeps 16 = .ok (.lastore, 1) := by decide +kernel
theorem dL_keeps_17 : decode cL_keeps 17 = .ok (.goto 11, 3) := by decide +kernel
theorem dL_keeps_20 : decode cL_keeps 20 = .ok (.astore 4, 2) := by decide +kernel
theorem dL_keeps_22 : decode cL_keeps 22 = .ok (.iconst 1, 1) := by decide +kernel
theorem dL_keeps_23 : decode cL_keeps 23 = .ok (.ireturn, 1) := by decide +kernel
theorem dL_keeps_24 : decode cL_keeps 24 = .ok (.astore 4, 2) := by decide +kernel
theorem dL_keeps_26 : decode cL_keeps 26 = .ok (.iconst 2, 1) := by decide +kernel
theorem dL_keeps_27 : decode cL_keeps 27 = .ok (.ireturn, 1) := by decide +kernel
theorem dL_keeps_28 : decode cL_keeps 28 = .ok (.iconst 0, 1) := by decide +kernel
theorem dL_keeps_29 : decode cL_keeps 29 = .ok (.ireturn, 1) := by decide +kernel
theorem dL_chance_0 : decode cL_chance 0 = .ok (.aload_n 3, 1) := by decide +kernel
theorem dL_chance_1 : decode cL_chance 1 = .ok (.iconst 0, 1) := by decide +kernel
theorem dL_chance_2 : decode cL_chance 2 = .ok (.aload_n 0, 1) := by decide +kernel
theorem dL_chance_3 : decode cL_chance 3 = .ok (.iload_n 1, 1) := by decide +kernel
theorem dL_chance_4 : decode cL_chance 4 = .ok (.iload_n 2, 1) := by decide +kernel
theorem dL_chance_5 : decode cL_chance 5 = .ok (.invokevirtual 55, 3) := by decide +kernel
theorem dL_chance_8 : decode cL_chance 8 = .ok (.dastore, 1) := by decide +kernel
theorem dL_chance_9 : decode cL_chance 9 = .ok (.goto 11, 3) := by decide +kernel
theorem dL_chance_12 : decode cL_chance 12 = .ok (.astore 4, 2) := by decide +kernel
theorem dL_chance_14 : decode cL_chance 14 = .ok (.iconst 1, 1) := by decide +kernel
theorem dL_chance_15 : decode cL_chance 15 = .ok (.ireturn, 1) := by decide +kernel
theorem dL_chance_16 : decode cL_chance 16 = .ok (.astore 4, 2) := by decide +kernel
theorem dL_chance_18 : decode cL_chance 18 = .ok (.iconst 2, 1) := by decide +kernel
theorem dL_chance_19 : decode cL_chance 19 = .ok (.ireturn, 1) := by decide +kernel
theorem dL_chance_20 : decode cL_chance 20 = .ok (.iconst 0, 1) := by decide +kernel
theorem dL_chance_21 : decode cL_chance 21 = .ok (.ireturn, 1) := by decide +kernel
theorem dL_far_0 : decode cL_far 0 = .ok (.aload_n 2, 1) := by decide +kernel
theorem dL_far_1 : decode cL_far 1 = .ok (.iconst 0, 1) := by decide +kernel
theorem dL_far_2 : decode cL_far 2 = .ok (.aload_n 0, 1) := by decide +kernel
theorem dL_far_3 : decode cL_far 3 = .ok (.iload_n 1, 1) := by decide +kernel
theorem dL_far_4 : decode cL_far 4 = .ok (.invokevirtual 59, 3) := by decide +kernel
theorem dL_far_7 : decode cL_far 7 = .ok (.dastore, 1) := by decide +kernel
theorem dL_far_8 : decode cL_far 8 = .ok (.goto 6, 3) := by decide +kernel
theorem dL_far_11 : decode cL_far 11 = .ok (.astore_n 3, 1) := by decide +kernel
theorem dL_far_12 : decode cL_far 12 = .ok (.iconst 1, 1) := by decide +kernel
theorem dL_far_13 : decode cL_far 13 = .ok (.ireturn, 1) := by decide +kernel
theorem dL_far_14 : decode cL_far 14 = .ok (.iconst 0, 1) := by decide +kernel
theorem dL_far_15 : decode cL_far 15 = .ok (.ireturn, 1) := by decide +kernel
theorem dL_alike_0 : decode cL_alike 0 = .ok (.aload_n 3, 1) := by decide +kernel
theorem dL_alike_1 : decode cL_alike 1 = .ok (.iconst 0, 1) := by decide +kernel
theorem dL_alike_2 : decode cL_alike 2 = .ok (.aload_n 0, 1) := by decide +kernel
theorem dL_alike_3 : decode cL_alike 3 = .ok (.iload_n 1, 1) := by decide +kernel
theorem dL_alike_4 : decode cL_alike 4 = .ok (.iload_n 2, 1) := by decide +kernel
theorem dL_alike_5 : decode cL_alike 5 = .ok (.invokevirtual 63, 3) := by decide +kernel
theorem dL_alike_8 : decode cL_alike 8 = .ok (.i2l, 1) := by decide +kernel
theorem dL_alike_9 : decode cL_alike 9 = .ok (.lastore, 1) := by decide +kernel
theorem dL_alike_10 : decode cL_alike 10 = .ok (.goto 7, 3) := by decide +kernel
theorem dL_alike_13 : decode cL_alike 13 = .ok (.astore 4, 2) := by decide +kernel
theorem dL_alike_15 : decode cL_alike 15 = .ok (.iconst 1, 1) := by decide +kernel
theorem dL_alike_16 : decode cL_alike 16 = .ok (.ireturn, 1) := by decide +kernel
theorem dL_alike_17 : decode cL_alike 17 = .ok (.iconst 0, 1) := by decide +kernel
theorem dL_alike_18 : decode cL_alike 18 = .ok (.ireturn, 1) := by decide +kernel
theorem dL_ofSequence_0 : decode cL_ofSequence 0 = .ok (.aload_n 3, 1) := by decide +kernel
theorem dL_ofSequence_1 : decode cL_ofSequence 1 = .ok (.iconst 0, 1) := by decide +kernel
theorem dL_ofSequence_2 : decode cL_ofSequence 2 = .ok (.aload_n 0, 1) := by decide +kernel
theorem dL_ofSequence_3 : decode cL_ofSequence 3 = .ok (.iload_n 1, 1) := by decide +kernel
theorem dL_ofSequence_4 : decode cL_ofSequence 4 = .ok (.iload_n 2, 1) := by decide +kernel
theorem dL_ofSequence_5 : decode cL_ofSequence 5 = .ok (.invokevirtual 66, 3) := by decide +kernel
theorem dL_ofSequence_8 : decode cL_ofSequence 8 = .ok (.i2l, 1) := by decide +kernel
theorem dL_ofSequence_9 : decode cL_ofSequence 9 = .ok (.lastore, 1) := by decide +kernel
theorem dL_ofSequence_10 : decode cL_ofSequence 10 = .ok (.goto 11, 3) := by decide +kernel
theorem dL_ofSequence_13 : decode cL_ofSequence 13 = .ok (.astore 4, 2) := by decide +kernel
theorem dL_ofSequence_15 : decode cL_ofSequence 15 = .ok (.iconst 1, 1) := by decide +kernel
theorem dL_ofSequence_16 : decode cL_ofSequence 16 = .ok (.ireturn, 1) := by decide +kernel
theorem dL_ofSequence_17 : decode cL_ofSequence 17 = .ok (.astore 4, 2) := by decide +kernel
theorem dL_ofSequence_19 : decode cL_ofSequence 19 = .ok (.iconst 2, 1) := by decide +kernel
theorem dL_ofSequence_20 : decode cL_ofSequence 20 = .ok (.ireturn, 1) := by decide +kernel
theorem dL_ofSequence_21 : decode cL_ofSequence 21 = .ok (.iconst 0, 1) := by decide +kernel
theorem dL_ofSequence_22 : decode cL_ofSequence 22 = .ok (.ireturn, 1) := by decide +kernel
theorem dL_period_0 : decode cL_period 0 = .ok (.aload_n 3, 1) := by decide +kernel
theorem dL_period_1 : decode cL_period 1 = .ok (.iconst 0, 1) := by decide +kernel
theorem dL_period_2 : decode cL_period 2 = .ok (.aload_n 0, 1) := by decide +kernel
theorem dL_period_3 : decode cL_period 3 = .ok (.iload_n 1, 1) := by decide +kernel
theorem dL_period_4 : decode cL_period 4 = .ok (.iload_n 2, 1) := by decide +kernel
theorem dL_period_5 : decode cL_period 5 = .ok (.invokevirtual 69, 3) := by decide +kernel
theorem dL_period_8 : decode cL_period 8 = .ok (.i2l, 1) := by decide +kernel
theorem dL_period_9 : decode cL_period 9 = .ok (.lastore, 1) := by decide +kernel
theorem dL_period_10 : decode cL_period 10 = .ok (.goto 11, 3) := by decide +kernel
theorem dL_period_13 : decode cL_period 13 = .ok (.astore 4, 2) := by decide +kernel
theorem dL_period_15 : decode cL_period 15 = .ok (.iconst 1, 1) := by decide +kernel
theorem dL_period_16 : decode cL_period 16 = .ok (.ireturn, 1) := by decide +kernel
theorem dL_period_17 : decode cL_period 17 = .ok (.astore 4, 2) := by decide +kernel
theorem dL_period_19 : decode cL_period 19 = .ok (.iconst 2, 1) := by decide +kernel
theorem dL_period_20 : decode cL_period 20 = .ok (.ireturn, 1) := by decide +kernel
theorem dL_period_21 : decode cL_period 21 = .ok (.iconst 0, 1) := by decide +kernel
theorem dL_period_22 : decode cL_period 22 = .ok (.ireturn, 1) := by decide +kernel
theorem dL_many_0 : decode cL_many 0 = .ok (.aload_n 2, 1) := by decide +kernel
theorem dL_many_1 : decode cL_many 1 = .ok (.iconst 0, 1) := by decide +kernel
theorem dL_many_2 : decode cL_many 2 = .ok (.aload_n 0, 1) := by decide +kernel
theorem dL_many_3 : decode cL_many 3 = .ok (.iload_n 1, 1) := by decide +kernel
theorem dL_many_4 : decode cL_many 4 = .ok (.invokevirtual 72, 3) := by decide +kernel
theorem dL_many_7 : decode cL_many 7 = .ok (.i2l, 1) := by decide +kernel
theorem dL_many_8 : decode cL_many 8 = .ok (.lastore, 1) := by decide +kernel
theorem dL_many_9 : decode cL_many 9 = .ok (.goto 6, 3) := by decide +kernel
theorem dL_many_12 : decode cL_many 12 = .ok (.astore_n 3, 1) := by decide +kernel
theorem dL_many_13 : decode cL_many 13 = .ok (.iconst 1, 1) := by decide +kernel
theorem dL_many_14 : decode cL_many 14 = .ok (.ireturn, 1) := by decide +kernel
theorem dL_many_15 : decode cL_many 15 = .ok (.iconst 0, 1) := by decide +kernel
theorem dL_many_16 : decode cL_many 16 = .ok (.ireturn, 1) := by decide +kernel
theorem dL_toTop_0 : decode cL_toTop 0 = .ok (.aload_n 3, 1) := by decide +kernel
theorem dL_toTop_1 : decode cL_toTop 1 = .ok (.iconst 0, 1) := by decide +kernel
theorem dL_toTop_2 : decode cL_toTop 2 = .ok (.aload_n 0, 1) := by decide +kernel
theorem dL_toTop_3 : decode cL_toTop 3 = .ok (.iload_n 1, 1) := by decide +kernel
theorem dL_toTop_4 : decode cL_toTop 4 = .ok (.iload_n 2, 1) := by decide +kernel
theorem dL_toTop_5 : decode cL_toTop 5 = .ok (.invokevirtual 75, 3) := by decide +kernel
theorem dL_toTop_8 : decode cL_toTop 8 = .ok (.i2l, 1) := by decide +kernel
theorem dL_toTop_9 : decode cL_toTop 9 = .ok (.lastore, 1) := by decide +kernel
theorem dL_toTop_10 : decode cL_toTop 10 = .ok (.goto 7, 3) := by decide +kernel
theorem dL_toTop_13 : decode cL_toTop 13 = .ok (.astore 4, 2) := by decide +kernel
theorem dL_toTop_15 : decode cL_toTop 15 = .ok (.iconst 1, 1) := by decide +kernel
theorem dL_toTop_16 : decode cL_toTop 16 = .ok (.ireturn, 1) := by decide +kernel
theorem dL_toTop_17 : decode cL_toTop 17 = .ok (.iconst 0, 1) := by decide +kernel
theorem dL_toTop_18 : decode cL_toTop 18 = .ok (.ireturn, 1) := by decide +kernel
theorem dL_goes_0 : decode cL_goes 0 = .ok (.aload 5, 2) := by decide +kernel
theorem dL_goes_2 : decode cL_goes 2 = .ok (.iconst 0, 1) := by decide +kernel
theorem dL_goes_3 : decode cL_goes 3 = .ok (.aload_n 0, 1) := by decide +kernel
theorem dL_goes_4 : decode cL_goes 4 = .ok (.iload_n 1, 1) := by decide +kernel
theorem dL_goes_5 : decode cL_goes 5 = .ok (.iload_n 2, 1) := by decide +kernel
theorem dL_goes_6 : decode cL_goes 6 = .ok (.iload_n 3, 1) := by decide +kernel
theorem dL_goes_7 : decode cL_goes 7 = .ok (.iload 4, 2) := by decide +kernel
theorem dL_goes_9 : decode cL_goes 9 = .ok (.invokevirtual 78, 3) := by decide +kernel
theorem dL_goes_12 : decode cL_goes 12 = .ok (.i2l, 1) := by decide +kernel
theorem dL_goes_13 : decode cL_goes 13 = .ok (.lastore, 1) := by decide +kernel
theorem dL_goes_14 : decode cL_goes 14 = .ok (.goto 11, 3) := by decide +kernel
theorem dL_goes_17 : decode cL_goes 17 = .ok (.astore 6, 2) := by decide +kernel
theorem dL_goes_19 : decode cL_goes 19 = .ok (.iconst 1, 1) := by decide +kernel
theorem dL_goes_20 : decode cL_goes 20 = .ok (.ireturn, 1) := by decide +kernel
theorem dL_goes_21 : decode cL_goes 21 = .ok (.astore 6, 2) := by decide +kernel
theorem dL_goes_23 : decode cL_goes 23 = .ok (.iconst 2, 1) := by decide +kernel
theorem dL_goes_24 : decode cL_goes 24 = .ok (.ireturn, 1) := by decide +kernel
theorem dL_goes_25 : decode cL_goes 25 = .ok (.iconst 0, 1) := by decide +kernel
theorem dL_goes_26 : decode cL_goes 26 = .ok (.ireturn, 1) := by decide +kernel
theorem dL_best_0 : decode cL_best 0 = .ok (.aload_n 2, 1) := by decide +kernel
theorem dL_best_1 : decode cL_best 1 = .ok (.iconst 0, 1) := by decide +kernel
theorem dL_best_2 : decode cL_best 2 = .ok (.aload_n 0, 1) := by decide +kernel
theorem dL_best_3 : decode cL_best 3 = .ok (.iload_n 1, 1) := by decide +kernel
theorem dL_best_4 : decode cL_best 4 = .ok (.invokevirtual 81, 3) := by decide +kernel
theorem dL_best_7 : decode cL_best 7 = .ok (.i2l, 1) := by decide +kernel
theorem dL_best_8 : decode cL_best 8 = .ok (.lastore, 1) := by decide +kernel
theorem dL_best_9 : decode cL_best 9 = .ok (.goto 6, 3) := by decide +kernel
theorem dL_best_12 : decode cL_best 12 = .ok (.astore_n 3, 1) := by decide +kernel
theorem dL_best_13 : decode cL_best 13 = .ok (.iconst 1, 1) := by decide +kernel
theorem dL_best_14 : decode cL_best 14 = .ok (.ireturn, 1) := by decide +kernel
theorem dL_best_15 : decode cL_best 15 = .ok (.iconst 0, 1) := by decide +kernel
theorem dL_best_16 : decode cL_best 16 = .ok (.ireturn, 1) := by decide +kernel
theorem dL_riffle_0 : decode cL_riffle 0 = .ok (.aload_n 2, 1) := by decide +kernel
theorem dL_riffle_1 : decode cL_riffle 1 = .ok (.iconst 0, 1) := by decide +kernel
theorem dL_riffle_2 : decode cL_riffle 2 = .ok (.aload_n 0, 1) := by decide +kernel
theorem dL_riffle_3 : decode cL_riffle 3 = .ok (.iload_n 1, 1) := by decide +kernel
theorem dL_riffle_4 : decode cL_riffle 4 = .ok (.invokevirtual 84, 3) := by decide +kernel
theorem dL_riffle_7 : decode cL_riffle 7 = .ok (.i2l, 1) := by decide +kernel
theorem dL_riffle_8 : decode cL_riffle 8 = .ok (.lastore, 1) := by decide +kernel
theorem dL_riffle_9 : decode cL_riffle 9 = .ok (.goto 6, 3) := by decide +kernel
theorem dL_riffle_12 : decode cL_riffle 12 = .ok (.astore_n 3, 1) := by decide +kernel
theorem dL_riffle_13 : decode cL_riffle 13 = .ok (.iconst 1, 1) := by decide +kernel
theorem dL_riffle_14 : decode cL_riffle 14 = .ok (.ireturn, 1) := by decide +kernel
theorem dL_riffle_15 : decode cL_riffle 15 = .ok (.iconst 0, 1) := by decide +kernel
theorem dL_riffle_16 : decode cL_riffle 16 = .ok (.ireturn, 1) := by decide +kernel
theorem dL_law_0 : decode cL_law 0 = .ok (.new 8, 3) := by decide +kernel
theorem dL_law_3 : decode cL_law 3 = .ok (.dup, 1) := by decide +kernel
theorem dL_law_4 : decode cL_law 4 = .ok (.invokespecial 87, 3) := by decide +kernel
theorem dL_law_7 : decode cL_law 7 = .ok (.astore_n 1, 1) := by decide +kernel
theorem dL_law_8 : decode cL_law 8 = .ok (.new 88, 3) := by decide +kernel
theorem dL_law_11 : decode cL_law 11 = .ok (.dup, 1) := by decide +kernel
theorem dL_law_12 : decode cL_law 12 = .ok (.invokespecial 90, 3) := by decide +kernel
theorem dL_law_15 : decode cL_law 15 = .ok (.astore_n 2, 1) := by decide +kernel
theorem dL_law_16 : decode cL_law 16 = .ok (.iconst 1, 1) := by decide +kernel
theorem dL_law_17 : decode cL_law 17 = .ok (.newarray .long, 2) := by decide +kernel
theorem dL_law_19 : decode cL_law 19 = .ok (.astore_n 3, 1) := by decide +kernel
theorem dL_law_20 : decode cL_law 20 = .ok (.iconst 1, 1) := by decide +kernel
theorem dL_law_21 : decode cL_law 21 = .ok (.newarray .double, 2) := by decide +kernel
theorem dL_law_23 : decode cL_law 23 = .ok (.astore 4, 2) := by decide +kernel
theorem dL_law_25 : decode cL_law 25 = .ok (.iconst 0, 1) := by decide +kernel
theorem dL_law_26 : decode cL_law 26 = .ok (.istore 5, 2) := by decide +kernel
theorem dL_law_28 : decode cL_law 28 = .ok (.iload 5, 2) := by decide +kernel
theorem dL_law_30 : decode cL_law 30 = .ok (.aload_n 0, 1) := by decide +kernel
theorem dL_law_31 : decode cL_law 31 = .ok (.arraylength, 1) := by decide +kernel
theorem dL_law_32 : decode cL_law 32 = .ok (.iconst 5, 1) := by decide +kernel
theorem dL_law_33 : decode cL_law 33 = .ok (.isub, 1) := by decide +kernel
theorem dL_law_34 : decode cL_law 34 = .ok (.if_icmp .gt 1622, 3) := by decide +kernel
theorem dL_law_37 : decode cL_law 37 = .ok (.aload_n 0, 1) := by decide +kernel
theorem dL_law_38 : decode cL_law 38 = .ok (.iload 5, 2) := by decide +kernel
theorem dL_law_40 : decode cL_law 40 = .ok (.iaload, 1) := by decide +kernel
theorem dL_law_41 : decode cL_law 41 = .ok (.bipush 31, 2) := by decide +kernel
theorem dL_law_43 : decode cL_law 43 = .ok (.iand, 1) := by decide +kernel
theorem dL_law_44 : decode cL_law 44 = .ok (.tableswitch 1606 0 21 #[104, 160, 252, 308, 383, 427, 507, 587, 655, 751, 819, 894, 983, 1060, 1128, 1196, 1264, 1320, 1388, 1480, 1536, 1592], 104) := by decide +kernel
theorem dL_law_148 : decode cL_law 148 = .ok (.aload_n 1, 1) := by decide +kernel
theorem dL_law_149 : decode cL_law 149 = .ok (.aload_n 0, 1) := by decide +kernel
theorem dL_law_150 : decode cL_law 150 = .ok (.iload 5, 2) := by decide +kernel
theorem dL_law_152 : decode cL_law 152 = .ok (.iconst 1, 1) := by decide +kernel
theorem dL_law_153 : decode cL_law 153 = .ok (.iadd, 1) := by decide +kernel
theorem dL_law_154 : decode cL_law 154 = .ok (.iaload, 1) := by decide +kernel
theorem dL_law_155 : decode cL_law 155 = .ok (.aload_n 3, 1) := by decide +kernel
theorem dL_law_156 : decode cL_law 156 = .ok (.invokestatic 91, 3) := by decide +kernel
theorem dL_law_159 : decode cL_law 159 = .ok (.istore 6, 2) := by decide +kernel
theorem dL_law_161 : decode cL_law 161 = .ok (.aload_n 2, 1) := by decide +kernel
theorem dL_law_162 : decode cL_law 162 = .ok (.aload_n 0, 1) := by decide +kernel
theorem dL_law_163 : decode cL_law 163 = .ok (.iload 5, 2) := by decide +kernel
theorem dL_law_165 : decode cL_law 165 = .ok (.iconst 1, 1) := by decide +kernel
theorem dL_law_166 : decode cL_law 166 = .ok (.iadd, 1) := by decide +kernel
theorem dL_law_167 : decode cL_law 167 = .ok (.iaload, 1) := by decide +kernel
theorem dL_law_168 : decode cL_law 168 = .ok (.invokevirtual 96, 3) := by decide +kernel
theorem dL_law_171 : decode cL_law 171 = .ok (.istore 7, 2) := by decide +kernel
theorem dL_law_173 : decode cL_law 173 = .ok (.aload_n 2, 1) := by decide +kernel
theorem dL_law_174 : decode cL_law 174 = .ok (.invokevirtual 97, 3) := by decide +kernel
theorem dL_law_177 : decode cL_law 177 = .ok (.iload 6, 2) := by decide +kernel
theorem dL_law_179 : decode cL_law 179 = .ok (.if_icmp .eq 5, 3) := by decide +kernel
theorem dL_law_182 : decode cL_law 182 = .ok (.iconst 0, 1) := by decide +kernel
theorem dL_law_183 : decode cL_law 183 = .ok (.ireturn, 1) := by decide +kernel
theorem dL_law_184 : decode cL_law 184 = .ok (.iload 6, 2) := by decide +kernel
theorem dL_law_186 : decode cL_law 186 = .ok (.ifCond .ne 15, 3) := by decide +kernel
theorem dL_law_189 : decode cL_law 189 = .ok (.aload_n 3, 1) := by decide +kernel
theorem dL_law_190 : decode cL_law 190 = .ok (.iconst 0, 1) := by decide +kernel
theorem dL_law_191 : decode cL_law 191 = .ok (.laload, 1) := by decide +kernel
theorem dL_law_192 : decode cL_law 192 = .ok (.iload 7, 2) := by decide +kernel
theorem dL_law_194 : decode cL_law 194 = .ok (.i2l, 1) := by decide +kernel
theorem dL_law_195 : decode cL_law 195 = .ok (.lcmp, 1) := by decide +kernel
theorem dL_law_196 : decode cL_law 196 = .ok (.ifCond .eq 5, 3) := by decide +kernel
theorem dL_law_199 : decode cL_law 199 = .ok (.iconst 0, 1) := by decide +kernel
theorem dL_law_200 : decode cL_law 200 = .ok (.ireturn, 1) := by decide +kernel
theorem dL_law_201 : decode cL_law 201 = .ok (.goto 1449, 3) := by decide +kernel
theorem dL_law_204 : decode cL_law 204 = .ok (.aload_n 1, 1) := by decide +kernel
theorem dL_law_205 : decode cL_law 205 = .ok (.aload_n 0, 1) := by decide +kernel
theorem dL_law_206 : decode cL_law 206 = .ok (.iload 5, 2) := by decide +kernel
theorem dL_law_208 : decode cL_law 208 = .ok (.iconst 1, 1) := by decide +kernel
theorem dL_law_209 : decode cL_law 209 = .ok (.iadd, 1) := by decide +kernel
theorem dL_law_210 : decode cL_law 210 = .ok (.iaload, 1) := by decide +kernel
theorem dL_law_211 : decode cL_law 211 = .ok (.aload_n 0, 1) := by decide +kernel
theorem dL_law_212 : decode cL_law 212 = .ok (.iload 5, 2) := by decide +kernel
theorem dL_law_214 : decode cL_law 214 = .ok (.iconst 2, 1) := by decide +kernel
theorem dL_law_215 : decode cL_law 215 = .ok (.iadd, 1) := by decide +kernel
theorem dL_law_216 : decode cL_law 216 = .ok (.iaload, 1) := by decide +kernel
theorem dL_law_217 : decode cL_law 217 = .ok (.aload_n 0, 1) := by decide +kernel
theorem dL_law_218 : decode cL_law 218 = .ok (.iload 5, 2) := by decide +kernel
theorem dL_law_220 : decode cL_law 220 = .ok (.iconst 3, 1) := by decide +kernel
theorem dL_law_221 : decode cL_law 221 = .ok (.iadd, 1) := by decide +kernel
theorem dL_law_222 : decode cL_law 222 = .ok (.iaload, 1) := by decide +kernel
theorem dL_law_223 : decode cL_law 223 = .ok (.aload_n 0, 1) := by decide +kernel
theorem dL_law_224 : decode cL_law 224 = .ok (.iload 5, 2) := by decide +kernel
theorem dL_law_226 : decode cL_law 226 = .ok (.iconst 4, 1) := by decide +kernel
theorem dL_law_227 : decode cL_law 227 = .ok (.iadd, 1) := by decide +kernel
theorem dL_law_228 : decode cL_law 228 = .ok (.iaload, 1) := by decide +kernel
theorem dL_law_229 : decode cL_law 229 = .ok (.aload_n 3, 1) := by decide +kernel
theorem dL_law_230 : decode cL_law 230 = .ok (.invokestatic 100, 3) := by decide +kernel
theorem dL_law_233 : decode cL_law 233 = .ok (.istore 6, 2) := by decide +kernel
theorem dL_law_235 : decode cL_law 235 = .ok (.aload_n 2, 1) := by decide +kernel
theorem dL_law_236 : decode cL_law 236 = .ok (.aload_n 0, 1) := by decide +kernel
theorem dL_law_237 : decode cL_law 237 = .ok (.iload 5, 2) := by decide +kernel
theorem dL_law_239 : decode cL_law 239 = .ok (.iconst 1, 1) := by decide +kernel
theorem dL_law_240 : decode cL_law 240 = .ok (.iadd, 1) := by decide +kernel
theorem dL_law_241 : decode cL_law 241 = .ok (.iaload, 1) := by decide +kernel
theorem dL_law_242 : decode cL_law 242 = .ok (.aload_n 0, 1) := by decide +kernel
theorem dL_law_243 : decode cL_law 243 = .ok (.iload 5, 2) := by decide +kernel
theorem dL_law_245 : decode cL_law 245 = .ok (.iconst 2, 1) := by decide +kernel
theorem dL_law_246 : decode cL_law 246 = .ok (.iadd, 1) := by decide +kernel
theorem dL_law_247 : decode cL_law 247 = .ok (.iaload, 1) := by decide +kernel
theorem dL_law_248 : decode cL_law 248 = .ok (.aload_n 0, 1) := by decide +kernel
theorem dL_law_249 : decode cL_law 249 = .ok (.iload 5, 2) := by decide +kernel
theorem dL_law_251 : decode cL_law 251 = .ok (.iconst 3, 1) := by decide +kernel
theorem dL_law_252 : decode cL_law 252 = .ok (.iadd, 1) := by decide +kernel
theorem dL_law_253 : decode cL_law 253 = .ok (.iaload, 1) := by decide +kernel
theorem dL_law_254 : decode cL_law 254 = .ok (.aload_n 0, 1) := by decide +kernel
theorem dL_law_255 : decode cL_law 255 = .ok (.iload 5, 2) := by decide +kernel
theorem dL_law_257 : decode cL_law 257 = .ok (.iconst 4, 1) := by decide +kernel
theorem dL_law_258 : decode cL_law 258 = .ok (.iadd, 1) := by decide +kernel
theorem dL_law_259 : decode cL_law 259 = .ok (.iaload, 1) := by decide +kernel
theorem dL_law_260 : decode cL_law 260 = .ok (.invokevirtual 103, 3) := by decide +kernel
theorem dL_law_263 : decode cL_law 263 = .ok (.istore 7, 2) := by decide +kernel
theorem dL_law_265 : decode cL_law 265 = .ok (.aload_n 2, 1) := by decide +kernel
theorem dL_law_266 : decode cL_law 266 = .ok (.invokevirtual 97, 3) := by decide +kernel
theorem dL_law_269 : decode cL_law 269 = .ok (.iload 6, 2) := by decide +kernel
theorem dL_law_271 : decode cL_law 271 = .ok (.if_icmp .eq 5, 3) := by decide +kernel
theorem dL_law_274 : decode cL_law 274 = .ok (.iconst 0, 1) := by decide +kernel
theorem dL_law_275 : decode cL_law 275 = .ok (.ireturn, 1) := by decide +kernel
theorem dL_law_276 : decode cL_law 276 = .ok (.iload 6, 2) := by decide +kernel
theorem dL_law_278 : decode cL_law 278 = .ok (.ifCond .ne 15, 3) := by decide +kernel
theorem dL_law_281 : decode cL_law 281 = .ok (.aload_n 3, 1) := by decide +kernel
theorem dL_law_282 : decode cL_law 282 = .ok (.iconst 0, 1) := by decide +kernel
theorem dL_law_283 : decode cL_law 283 = .ok (.laload, 1) := by decide +kernel
theorem dL_law_284 : decode cL_law 284 = .ok (.iload 7, 2) := by decide +kernel
theorem dL_law_286 : decode cL_law 286 = .ok (.i2l, 1) := by decide +kernel
theorem dL_law_287 : decode cL_law 287 = .ok (.lcmp, 1) := by decide +kernel
theorem dL_law_288 : decode cL_law 288 = .ok (.ifCond .eq 5, 3) := by decide +kernel
theorem dL_law_291 : decode cL_law 291 = .ok (.iconst 0, 1) := by decide +kernel
theorem dL_law_292 : decode cL_law 292 = .ok (.ireturn, 1) := by decide +kernel
theorem dL_law_293 : decode cL_law 293 = .ok (.goto 1357, 3) := by decide +kernel
theorem dL_law_296 : decode cL_law 296 = .ok (.aload_n 1, 1) := by decide +kernel
theorem dL_law_297 : decode cL_law 297 = .ok (.aload_n 0, 1) := by decide +kernel
theorem dL_law_298 : decode cL_law 298 = .ok (.iload 5, 2) := by decide +kernel
theorem dL_law_300 : decode cL_law 300 = .ok (.iconst 1, 1) := by decide +kernel
theorem dL_law_301 : decode cL_law 301 = .ok (.iadd, 1) := by decide +kernel
theorem dL_law_302 : decode cL_law 302 = .ok (.iaload, 1) := by decide +kernel
theorem dL_law_303 : decode cL_law 303 = .ok (.aload_n 3, 1) := by decide +kernel
theorem dL_law_304 : decode cL_law 304 = .ok (.invokestatic 104, 3) := by decide +kernel
theorem dL_law_307 : decode cL_law 307 = .ok (.istore 6, 2) := by decide +kernel
theorem dL_law_309 : decode cL_law 309 = .ok (.aload_n 2, 1) := by decide +kernel
theorem dL_law_310 : decode cL_law 310 = .ok (.aload_n 0, 1) := by decide +kernel
theorem dL_law_311 : decode cL_law 311 = .ok (.iload 5, 2) := by decide +kernel
theorem dL_law_313 : decode cL_law 313 = .ok (.iconst 1, 1) := by decide +kernel
theorem dL_law_314 : decode cL_law 314 = .ok (.iadd, 1) := by decide +kernel
theorem dL_law_315 : decode cL_law 315 = .ok (.iaload, 1) := by decide +kernel
theorem dL_law_316 : decode cL_law 316 = .ok (.invokevirtual 106, 3) := by decide +kernel
theorem dL_law_319 : decode cL_law 319 = .ok (.istore 7, 2) := by decide +kernel
theorem dL_law_321 : decode cL_law 321 = .ok (.aload_n 2, 1) := by decide +kernel
theorem dL_law_322 : decode cL_law 322 = .ok (.invokevirtual 97, 3) := by decide +kernel
theorem dL_law_325 : decode cL_law 325 = .ok (.iload 6, 2) := by decide +kernel
theorem dL_law_327 : decode cL_law 327 = .ok (.if_icmp .eq 5, 3) := by decide +kernel
theorem dL_law_330 : decode cL_law 330 = .ok (.iconst 0, 1) := by decide +kernel
theorem dL_law_331 : decode cL_law 331 = .ok (.ireturn, 1) := by decide +kernel
theorem dL_law_332 : decode cL_law 332 = .ok (.iload 6, 2) := by decide +kernel
theorem dL_law_334 : decode cL_law 334 = .ok (.ifCond .ne 15, 3) := by decide +kernel
theorem dL_law_337 : decode cL_law 337 = .ok (.aload_n 3, 1) := by decide +kernel
theorem dL_law_338 : decode cL_law 338 = .ok (.iconst 0, 1) := by decide +kernel
theorem dL_law_339 : decode cL_law 339 = .ok (.laload, 1) := by decide +kernel
theorem dL_law_340 : decode cL_law 340 = .ok (.iload 7, 2) := by decide +kernel
theorem dL_law_342 : decode cL_law 342 = .ok (.i2l, 1) := by decide +kernel
theorem dL_law_343 : decode cL_law 343 = .ok (.lcmp, 1) := by decide +kernel
theorem dL_law_344 : decode cL_law 344 = .ok (.ifCond .eq 5, 3) := by decide +kernel
theorem dL_law_347 : decode cL_law 347 = .ok (.iconst 0, 1) := by decide +kernel
theorem dL_law_348 : decode cL_law 348 = .ok (.ireturn, 1) := by decide +kernel
theorem dL_law_349 : decode cL_law 349 = .ok (.goto 1301, 3) := by decide +kernel
theorem dL_law_352 : decode cL_law 352 = .ok (.aload_n 1, 1) := by decide +kernel
theorem dL_law_353 : decode cL_law 353 = .ok (.aload_n 0, 1) := by decide +kernel
theorem dL_law_354 : decode cL_law 354 = .ok (.iload 5, 2) := by decide +kernel
theorem dL_law_356 : decode cL_law 356 = .ok (.iconst 1, 1) := by decide +kernel
theorem dL_law_357 : decode cL_law 357 = .ok (.iadd, 1) := by decide +kernel
theorem dL_law_358 : decode cL_law 358 = .ok (.iaload, 1) := by decide +kernel
theorem dL_law_359 : decode cL_law 359 = .ok (.aload_n 0, 1) := by decide +kernel
theorem dL_law_360 : decode cL_law 360 = .ok (.iload 5, 2) := by decide +kernel
theorem dL_law_362 : decode cL_law 362 = .ok (.iconst 2, 1) := by decide +kernel
theorem dL_law_363 : decode cL_law 363 = .ok (.iadd, 1) := by decide +kernel
theorem dL_law_364 : decode cL_law 364 = .ok (.iaload, 1) := by decide +kernel
theorem dL_law_365 : decode cL_law 365 = .ok (.aload_n 3, 1) := by decide +kernel
theorem dL_law_366 : decode cL_law 366 = .ok (.invokestatic 107, 3) := by decide +kernel
theorem dL_law_369 : decode cL_law 369 = .ok (.istore 6, 2) := by decide +kernel
theorem dL_law_371 : decode cL_law 371 = .ok (.aload_n 2, 1) := by decide +kernel
theorem dL_law_372 : decode cL_law 372 = .ok (.aload_n 0, 1) := by decide +kernel
theorem dL_law_373 : decode cL_law 373 = .ok (.iload 5, 2) := by decide +kernel
theorem dL_law_375 : decode cL_law 375 = .ok (.iconst 1, 1) := by decide +kernel
theorem dL_law_376 : decode cL_law 376 = .ok (.iadd, 1) := by decide +kernel
theorem dL_law_377 : decode cL_law 377 = .ok (.iaload, 1) := by decide +kernel
theorem dL_law_378 : decode cL_law 378 = .ok (.aload_n 0, 1) := by decide +kernel
theorem dL_law_379 : decode cL_law 379 = .ok (.iload 5, 2) := by decide +kernel
theorem dL_law_381 : decode cL_law 381 = .ok (.iconst 2, 1) := by decide +kernel
theorem dL_law_382 : decode cL_law 382 = .ok (.iadd, 1) := by decide +kernel
theorem dL_law_383 : decode cL_law 383 = .ok (.iaload, 1) := by decide +kernel
theorem dL_law_384 : decode cL_law 384 = .ok (.invokevirtual 110, 3) := by decide +kernel
theorem dL_law_387 : decode cL_law 387 = .ok (.istore 7, 2) := by decide +kernel
theorem dL_law_389 : decode cL_law 389 = .ok (.aload_n 2, 1) := by decide +kernel
theorem dL_law_390 : decode cL_law 390 = .ok (.invokevirtual 97, 3) := by decide +kernel
theorem dL_law_393 : decode cL_law 393 = .ok (.iload 6, 2) := by decide +kernel
theorem dL_law_395 : decode cL_law 395 = .ok (.if_icmp .eq 5, 3) := by decide +kernel
theorem dL_law_398 : decode cL_law 398 = .ok (.iconst 0, 1) := by decide +kernel
theorem dL_law_399 : decode cL_law 399 = .ok (.ireturn, 1) := by decide +kernel
theorem dL_law_400 : decode cL_law 400 = .ok (.iload 6, 2) := by decide +kernel
theorem dL_law_402 : decode cL_law 402 = .ok (.ifCond .ne 22, 3) := by decide +kernel
theorem dL_law_405 : decode cL_law 405 = .ok (.aload_n 3, 1) := by decide +kernel
theorem dL_law_406 : decode cL_law 406 = .ok (.iconst 0, 1) := by decide +kernel
theorem dL_law_407 : decode cL_law 407 = .ok (.laload, 1) := by decide +kernel
theorem dL_law_408 : decode cL_law 408 = .ok (.iload 7, 2) := by decide +kernel
theorem dL_law_410 : decode cL_law 410 = .ok (.ifCond .eq 7, 3) := by decide +kernel
theorem dL_law_413 : decode cL_law 413 = .ok (.lconst 1, 1) := by decide +kernel
theorem dL_law_414 : decode cL_law 414 = .ok (.goto 4, 3) := by decide +kernel
theorem dL_law_417 : decode cL_law 417 = .ok (.lconst 0, 1) := by decide +kernel
theorem dL_law_418 : decode cL_law 418 = .ok (.lcmp, 1) := by decide +kernel
theorem dL_law_419 : decode cL_law 419 = .ok (.ifCond .eq 5, 3) := by decide +kernel
theorem dL_law_422 : decode cL_law 422 = .ok (.iconst 0, 1) := by decide +kernel
theorem dL_law_423 : decode cL_law 423 = .ok (.ireturn, 1) := by decide +kernel
theorem dL_law_424 : decode cL_law 424 = .ok (.goto 1226, 3) := by decide +kernel
theorem dL_law_427 : decode cL_law 427 = .ok (.aload_n 1, 1) := by decide +kernel
theorem dL_law_428 : decode cL_law 428 = .ok (.aload_n 3, 1) := by decide +kernel
theorem dL_law_429 : decode cL_law 429 = .ok (.invokestatic 111, 3) := by decide +kernel
theorem dL_law_432 : decode cL_law 432 = .ok (.istore 6, 2) := by decide +kernel
theorem dL_law_434 : decode cL_law 434 = .ok (.aload_n 2, 1) := by decide +kernel
theorem dL_law_435 : decode cL_law 435 = .ok (.invokevirtual 114, 3) := by decide +kernel
theorem dL_law_438 : decode cL_law 438 = .ok (.istore 7, 2) := by decide +kernel
theorem dL_law_440 : decode cL_law 440 = .ok (.aload_n 2, 1) := by decide +kernel
theorem dL_law_441 : decode cL_law 441 = .ok (.invokevirtual 97, 3) := by decide +kernel
theorem dL_law_444 : decode cL_law 444 = .ok (.iload 6, 2) := by decide +kernel
theorem dL_law_446 : decode cL_law 446 = .ok (.if_icmp .eq 5, 3) := by decide +kernel
theorem dL_law_449 : decode cL_law 449 = .ok (.iconst 0, 1) := by decide +kernel
theorem dL_law_450 : decode cL_law 450 = .ok (.ireturn, 1) := by decide +kernel
theorem dL_law_451 : decode cL_law 451 = .ok (.iload 6, 2) := by decide +kernel
theorem dL_law_453 : decode cL_law 453 = .ok (.ifCond .ne 15, 3) := by decide +kernel
theorem dL_law_456 : decode cL_law 456 = .ok (.aload_n 3, 1) := by decide +kernel
theorem dL_law_457 : decode cL_law 457 = .ok (.iconst 0, 1) := by decide +kernel
theorem dL_law_458 : decode cL_law 458 = .ok (.laload, 1) := by decide +kernel
theorem dL_law_459 : decode cL_law 459 = .ok (.iload 7, 2) := by decide +kernel
theorem dL_law_461 : decode cL_law 461 = .ok (.i2l, 1) := by decide +kernel
theorem dL_law_462 : decode cL_law 462 = .ok (.lcmp, 1) := by decide +kernel
theorem dL_law_463 : decode cL_law 463 = .ok (.ifCond .eq 5, 3) := by decide +kernel
theorem dL_law_466 : decode cL_law 466 = .ok (.iconst 0, 1) := by decide +kernel
theorem dL_law_467 : decode cL_law 467 = .ok (.ireturn, 1) := by decide +kernel
theorem dL_law_468 : decode cL_law 468 = .ok (.goto 1182, 3) := by decide +kernel
theorem dL_law_471 : decode cL_law 471 = .ok (.aload_n 1, 1) := by decide +kernel
theorem dL_law_472 : decode cL_law 472 = .ok (.aload_n 0, 1) := by decide +kernel
theorem dL_law_473 : decode cL_law 473 = .ok (.iload 5, 2) := by decide +kernel
theorem dL_law_475 : decode cL_law 475 = .ok (.iconst 1, 1) := by decide +kernel
theorem dL_law_476 : decode cL_law 476 = .ok (.iadd, 1) := by decide +kernel
theorem dL_law_477 : decode cL_law 477 = .ok (.iaload, 1) := by decide +kernel
theorem dL_law_478 : decode cL_law 478 = .ok (.aload_n 0, 1) := by decide +kernel
theorem dL_law_479 : decode cL_law 479 = .ok (.iload 5, 2) := by decide +kernel
theorem dL_law_481 : decode cL_law 481 = .ok (.iconst 2, 1) := by decide +kernel
theorem dL_law_482 : decode cL_law 482 = .ok (.iadd, 1) := by decide +kernel
theorem dL_law_483 : decode cL_law 483 = .ok (.iaload, 1) := by decide +kernel
theorem dL_law_484 : decode cL_law 484 = .ok (.aload_n 0, 1) := by decide +kernel
theorem dL_law_485 : decode cL_law 485 = .ok (.iload 5, 2) := by decide +kernel
theorem dL_law_487 : decode cL_law 487 = .ok (.iconst 3, 1) := by decide +kernel
theorem dL_law_488 : decode cL_law 488 = .ok (.iadd, 1) := by decide +kernel
theorem dL_law_489 : decode cL_law 489 = .ok (.iaload, 1) := by decide +kernel
theorem dL_law_490 : decode cL_law 490 = .ok (.aload_n 3, 1) := by decide +kernel
theorem dL_law_491 : decode cL_law 491 = .ok (.invokestatic 115, 3) := by decide +kernel
theorem dL_law_494 : decode cL_law 494 = .ok (.istore 6, 2) := by decide +kernel
theorem dL_law_496 : decode cL_law 496 = .ok (.aload_n 2, 1) := by decide +kernel
theorem dL_law_497 : decode cL_law 497 = .ok (.aload_n 0, 1) := by decide +kernel
theorem dL_law_498 : decode cL_law 498 = .ok (.iload 5, 2) := by decide +kernel
theorem dL_law_500 : decode cL_law 500 = .ok (.iconst 1, 1) := by decide +kernel
theorem dL_law_501 : decode cL_law 501 = .ok (.iadd, 1) := by decide +kernel
theorem dL_law_502 : decode cL_law 502 = .ok (.iaload, 1) := by decide +kernel
theorem dL_law_503 : decode cL_law 503 = .ok (.aload_n 0, 1) := by decide +kernel
theorem dL_law_504 : decode cL_law 504 = .ok (.iload 5, 2) := by decide +kernel
theorem dL_law_506 : decode cL_law 506 = .ok (.iconst 2, 1) := by decide +kernel
theorem dL_law_507 : decode cL_law 507 = .ok (.iadd, 1) := by decide +kernel
theorem dL_law_508 : decode cL_law 508 = .ok (.iaload, 1) := by decide +kernel
theorem dL_law_509 : decode cL_law 509 = .ok (.aload_n 0, 1) := by decide +kernel
theorem dL_law_510 : decode cL_law 510 = .ok (.iload 5, 2) := by decide +kernel
theorem dL_law_512 : decode cL_law 512 = .ok (.iconst 3, 1) := by decide +kernel
theorem dL_law_513 : decode cL_law 513 = .ok (.iadd, 1) := by decide +kernel
theorem dL_law_514 : decode cL_law 514 = .ok (.iaload, 1) := by decide +kernel
theorem dL_law_515 : decode cL_law 515 = .ok (.invokevirtual 118, 3) := by decide +kernel
theorem dL_law_518 : decode cL_law 518 = .ok (.istore 7, 2) := by decide +kernel
theorem dL_law_520 : decode cL_law 520 = .ok (.aload_n 2, 1) := by decide +kernel
theorem dL_law_521 : decode cL_law 521 = .ok (.invokevirtual 97, 3) := by decide +kernel
theorem dL_law_524 : decode cL_law 524 = .ok (.iload 6, 2) := by decide +kernel
theorem dL_law_526 : decode cL_law 526 = .ok (.if_icmp .eq 5, 3) := by decide +kernel
theorem dL_law_529 : decode cL_law 529 = .ok (.iconst 0, 1) := by decide +kernel
theorem dL_law_530 : decode cL_law 530 = .ok (.ireturn, 1) := by decide +kernel
theorem dL_law_531 : decode cL_law 531 = .ok (.iload 6, 2) := by decide +kernel
theorem dL_law_533 : decode cL_law 533 = .ok (.ifCond .ne 15, 3) := by decide +kernel
theorem dL_law_536 : decode cL_law 536 = .ok (.aload_n 3, 1) := by decide +kernel
theorem dL_law_537 : decode cL_law 537 = .ok (.iconst 0, 1) := by decide +kernel
theorem dL_law_538 : decode cL_law 538 = .ok (.laload, 1) := by decide +kernel
theorem dL_law_539 : decode cL_law 539 = .ok (.iload 7, 2) := by decide +kernel
theorem dL_law_541 : decode cL_law 541 = .ok (.i2l, 1) := by decide +kernel
theorem dL_law_542 : decode cL_law 542 = .ok (.lcmp, 1) := by decide +kernel
theorem dL_law_543 : decode cL_law 543 = .ok (.ifCond .eq 5, 3) := by decide +kernel
theorem dL_law_546 : decode cL_law 546 = .ok (.iconst 0, 1) := by decide +kernel
theorem dL_law_547 : decode cL_law 547 = .ok (.ireturn, 1) := by decide +kernel
theorem dL_law_548 : decode cL_law 548 = .ok (.goto 1102, 3) := by decide +kernel
theorem dL_law_551 : decode cL_law 551 = .ok (.aload_n 1, 1) := by decide +kernel
theorem dL_law_552 : decode cL_law 552 = .ok (.aload_n 0, 1) := by decide +kernel
theorem dL_law_553 : decode cL_law 553 = .ok (.iload 5, 2) := by decide +kernel
theorem dL_law_555 : decode cL_law 555 = .ok (.iconst 1, 1) := by decide +kernel
theorem dL_law_556 : decode cL_law 556 = .ok (.iadd, 1) := by decide +kernel
theorem dL_law_557 : decode cL_law 557 = .ok (.iaload, 1) := by decide +kernel
theorem dL_law_558 : decode cL_law 558 = .ok (.aload_n 0, 1) := by decide +kernel
theorem dL_law_559 : decode cL_law 559 = .ok (.iload 5, 2) := by decide +kernel
theorem dL_law_561 : decode cL_law 561 = .ok (.iconst 2, 1) := by decide +kernel
theorem dL_law_562 : decode cL_law 562 = .ok (.iadd, 1) := by decide +kernel
theorem dL_law_563 : decode cL_law 563 = .ok (.iaload, 1) := by decide +kernel
theorem dL_law_564 : decode cL_law 564 = .ok (.aload_n 0, 1) := by decide +kernel
theorem dL_law_565 : decode cL_law 565 = .ok (.iload 5, 2) := by decide +kernel
theorem dL_law_567 : decode cL_law 567 = .ok (.iconst 3, 1) := by decide +kernel
theorem dL_law_568 : decode cL_law 568 = .ok (.iadd, 1) := by decide +kernel
theorem dL_law_569 : decode cL_law 569 = .ok (.iaload, 1) := by decide +kernel
theorem dL_law_570 : decode cL_law 570 = .ok (.aload_n 3, 1) := by decide +kernel
theorem dL_law_571 : decode cL_law 571 = .ok (.invokestatic 119, 3) := by decide +kernel
theorem dL_law_574 : decode cL_law 574 = .ok (.istore 6, 2) := by decide +kernel
theorem dL_law_576 : decode cL_law 576 = .ok (.aload_n 2, 1) := by decide +kernel
theorem dL_law_577 : decode cL_law 577 = .ok (.aload_n 0, 1) := by decide +kernel
theorem dL_law_578 : decode cL_law 578 = .ok (.iload 5, 2) := by decide +kernel
theorem dL_law_580 : decode cL_law 580 = .ok (.iconst 1, 1) := by decide +kernel
theorem dL_law_581 : decode cL_law 581 = .ok (.iadd, 1) := by decide +kernel
theorem dL_law_582 : decode cL_law 582 = .ok (.iaload, 1) := by decide +kernel
theorem dL_law_583 : decode cL_law 583 = .ok (.aload_n 0, 1) := by decide +kernel
theorem dL_law_584 : decode cL_law 584 = .ok (.iload 5, 2) := by decide +kernel
theorem dL_law_586 : decode cL_law 586 = .ok (.iconst 2, 1) := by decide +kernel
theorem dL_law_587 : decode cL_law 587 = .ok (.iadd, 1) := by decide +kernel
theorem dL_law_588 : decode cL_law 588 = .ok (.iaload, 1) := by decide +kernel
theorem dL_law_589 : decode cL_law 589 = .ok (.aload_n 0, 1) := by decide +kernel
theorem dL_law_590 : decode cL_law 590 = .ok (.iload 5, 2) := by decide +kernel
theorem dL_law_592 : decode cL_law 592 = .ok (.iconst 3, 1) := by decide +kernel
theorem dL_law_593 : decode cL_law 593 = .ok (.iadd, 1) := by decide +kernel
theorem dL_law_594 : decode cL_law 594 = .ok (.iaload, 1) := by decide +kernel
theorem dL_law_595 : decode cL_law 595 = .ok (.invokevirtual 121, 3) := by decide +kernel
theorem dL_law_598 : decode cL_law 598 = .ok (.istore 7, 2) := by decide +kernel
theorem dL_law_600 : decode cL_law 600 = .ok (.aload_n 2, 1) := by decide +kernel
theorem dL_law_601 : decode cL_law 601 = .ok (.invokevirtual 97, 3) := by decide +kernel
theorem dL_law_604 : decode cL_law 604 = .ok (.iload 6, 2) := by decide +kernel
theorem dL_law_606 : decode cL_law 606 = .ok (.if_icmp .eq 5, 3) := by decide +kernel
theorem dL_law_609 : decode cL_law 609 = .ok (.iconst 0, 1) := by decide +kernel
theorem dL_law_610 : decode cL_law 610 = .ok (.ireturn, 1) := by decide +kernel
theorem dL_law_611 : decode cL_law 611 = .ok (.iload 6, 2) := by decide +kernel
theorem dL_law_613 : decode cL_law 613 = .ok (.ifCond .ne 15, 3) := by decide +kernel
theorem dL_law_616 : decode cL_law 616 = .ok (.aload_n 3, 1) := by decide +kernel
theorem dL_law_617 : decode cL_law 617 = .ok (.iconst 0, 1) := by decide +kernel
theorem dL_law_618 : decode cL_law 618 = .ok (.laload, 1) := by decide +kernel
theorem dL_law_619 : decode cL_law 619 = .ok (.iload 7, 2) := by decide +kernel
theorem dL_law_621 : decode cL_law 621 = .ok (.i2l, 1) := by decide +kernel
theorem dL_law_622 : decode cL_law 622 = .ok (.lcmp, 1) := by decide +kernel
theorem dL_law_623 : decode cL_law 623 = .ok (.ifCond .eq 5, 3) := by decide +kernel
theorem dL_law_626 : decode cL_law 626 = .ok (.iconst 0, 1) := by decide +kernel
theorem dL_law_627 : decode cL_law 627 = .ok (.ireturn, 1) := by decide +kernel
theorem dL_law_628 : decode cL_law 628 = .ok (.goto 1022, 3) := by decide +kernel
theorem dL_law_631 : decode cL_law 631 = .ok (.aload_n 1, 1) := by decide +kernel
theorem dL_law_632 : decode cL_law 632 = .ok (.aload_n 0, 1) := by decide +kernel
theorem dL_law_633 : decode cL_law 633 = .ok (.iload 5, 2) := by decide +kernel
theorem dL_law_635 : decode cL_law 635 = .ok (.iconst 1, 1) := by decide +kernel
theorem dL_law_636 : decode cL_law 636 = .ok (.iadd, 1) := by decide +kernel
theorem dL_law_637 : decode cL_law 637 = .ok (.iaload, 1) := by decide +kernel
theorem dL_law_638 : decode cL_law 638 = .ok (.aload_n 0, 1) := by decide +kernel
theorem dL_law_639 : decode cL_law 639 = .ok (.iload 5, 2) := by decide +kernel
theorem dL_law_641 : decode cL_law 641 = .ok (.iconst 2, 1) := by decide +kernel
theorem dL_law_642 : decode cL_law 642 = .ok (.iadd, 1) := by decide +kernel
theorem dL_law_643 : decode cL_law 643 = .ok (.iaload, 1) := by decide +kernel
theorem dL_law_644 : decode cL_law 644 = .ok (.aload_n 3, 1) := by decide +kernel
theorem dL_law_645 : decode cL_law 645 = .ok (.invokestatic 122, 3) := by decide +kernel
theorem dL_law_648 : decode cL_law 648 = .ok (.istore 6, 2) := by decide +kernel
theorem dL_law_650 : decode cL_law 650 = .ok (.aload_n 2, 1) := by decide +kernel
theorem dL_law_651 : decode cL_law 651 = .ok (.aload_n 0, 1) := by decide +kernel
theorem dL_law_652 : decode cL_law 652 = .ok (.iload 5, 2) := by decide +kernel
theorem dL_law_654 : decode cL_law 654 = .ok (.iconst 1, 1) := by decide +kernel
theorem dL_law_655 : decode cL_law 655 = .ok (.iadd, 1) := by decide +kernel
theorem dL_law_656 : decode cL_law 656 = .ok (.iaload, 1) := by decide +kernel
theorem dL_law_657 : decode cL_law 657 = .ok (.aload_n 0, 1) := by decide +kernel
theorem dL_law_658 : decode cL_law 658 = .ok (.iload 5, 2) := by decide +kernel
theorem dL_law_660 : decode cL_law 660 = .ok (.iconst 2, 1) := by decide +kernel
theorem dL_law_661 : decode cL_law 661 = .ok (.iadd, 1) := by decide +kernel
theorem dL_law_662 : decode cL_law 662 = .ok (.iaload, 1) := by decide +kernel
theorem dL_law_663 : decode cL_law 663 = .ok (.invokevirtual 124, 3) := by decide +kernel
theorem dL_law_666 : decode cL_law 666 = .ok (.istore 7, 2) := by decide +kernel
theorem dL_law_668 : decode cL_law 668 = .ok (.aload_n 2, 1) := by decide +kernel
theorem dL_law_669 : decode cL_law 669 = .ok (.invokevirtual 97, 3) := by decide +kernel
theorem dL_law_672 : decode cL_law 672 = .ok (.iload 6, 2) := by decide +kernel
theorem dL_law_674 : decode cL_law 674 = .ok (.if_icmp .eq 5, 3) := by decide +kernel
theorem dL_law_677 : decode cL_law 677 = .ok (.iconst 0, 1) := by decide +kernel
theorem dL_law_678 : decode cL_law 678 = .ok (.ireturn, 1) := by decide +kernel
theorem dL_law_679 : decode cL_law 679 = .ok (.iload 6, 2) := by decide +kernel
theorem dL_law_681 : decode cL_law 681 = .ok (.ifCond .ne 15, 3) := by decide +kernel
theorem dL_law_684 : decode cL_law 684 = .ok (.aload_n 3, 1) := by decide +kernel
theorem dL_law_685 : decode cL_law 685 = .ok (.iconst 0, 1) := by decide +kernel
theorem dL_law_686 : decode cL_law 686 = .ok (.laload, 1) := by decide +kernel
theorem dL_law_687 : decode cL_law 687 = .ok (.iload 7, 2) := by decide +kernel
theorem dL_law_689 : decode cL_law 689 = .ok (.i2l, 1) := by decide +kernel
theorem dL_law_690 : decode cL_law 690 = .ok (.lcmp, 1) := by decide +kernel
theorem dL_law_691 : decode cL_law 691 = .ok (.ifCond .eq 5, 3) := by decide +kernel
theorem dL_law_694 : decode cL_law 694 = .ok (.iconst 0, 1) := by decide +kernel
theorem dL_law_695 : decode cL_law 695 = .ok (.ireturn, 1) := by decide +kernel
theorem dL_law_696 : decode cL_law 696 = .ok (.goto 954, 3) := by decide +kernel
theorem dL_law_699 : decode cL_law 699 = .ok (.aload_n 1, 1) := by decide +kernel
theorem dL_law_700 : decode cL_law 700 = .ok (.aload_n 0, 1) := by decide +kernel
theorem dL_law_701 : decode cL_law 701 = .ok (.iload 5, 2) := by decide +kernel
theorem dL_law_703 : decode cL_law 703 = .ok (.iconst 1, 1) := by decide +kernel
theorem dL_law_704 : decode cL_law 704 = .ok (.iadd, 1) := by decide +kernel
theorem dL_law_705 : decode cL_law 705 = .ok (.iaload, 1) := by decide +kernel
theorem dL_law_706 : decode cL_law 706 = .ok (.aload_n 0, 1) := by decide +kernel
theorem dL_law_707 : decode cL_law 707 = .ok (.iload 5, 2) := by decide +kernel
theorem dL_law_709 : decode cL_law 709 = .ok (.iconst 2, 1) := by decide +kernel
theorem dL_law_710 : decode cL_law 710 = .ok (.iadd, 1) := by decide +kernel
theorem dL_law_711 : decode cL_law 711 = .ok (.iaload, 1) := by decide +kernel
theorem dL_law_712 : decode cL_law 712 = .ok (.aload_n 0, 1) := by decide +kernel
theorem dL_law_713 : decode cL_law 713 = .ok (.iload 5, 2) := by decide +kernel
theorem dL_law_715 : decode cL_law 715 = .ok (.iconst 3, 1) := by decide +kernel
theorem dL_law_716 : decode cL_law 716 = .ok (.iadd, 1) := by decide +kernel
theorem dL_law_717 : decode cL_law 717 = .ok (.iaload, 1) := by decide +kernel
theorem dL_law_718 : decode cL_law 718 = .ok (.ifCond .eq 7, 3) := by decide +kernel
theorem dL_law_721 : decode cL_law 721 = .ok (.iconst 1, 1) := by decide +kernel
theorem dL_law_722 : decode cL_law 722 = .ok (.goto 4, 3) := by decide +kernel
theorem dL_law_725 : decode cL_law 725 = .ok (.iconst 0, 1) := by decide +kernel
theorem dL_law_726 : decode cL_law 726 = .ok (.aload_n 3, 1) := by decide +kernel
theorem dL_law_727 : decode cL_law 727 = .ok (.invokestatic 125, 3) := by decide +kernel
theorem dL_law_730 : decode cL_law 730 = .ok (.istore 6, 2) := by decide +kernel
theorem dL_law_732 : decode cL_law 732 = .ok (.aload_n 2, 1) := by decide +kernel
theorem dL_law_733 : decode cL_law 733 = .ok (.aload_n 0, 1) := by decide +kernel
theorem dL_law_734 : decode cL_law 734 = .ok (.iload 5, 2) := by decide +kernel
theorem dL_law_736 : decode cL_law 736 = .ok (.iconst 1, 1) := by decide +kernel
theorem dL_law_737 : decode cL_law 737 = .ok (.iadd, 1) := by decide +kernel
theorem dL_law_738 : decode cL_law 738 = .ok (.iaload, 1) := by decide +kernel
theorem dL_law_739 : decode cL_law 739 = .ok (.aload_n 0, 1) := by decide +kernel
theorem dL_law_740 : decode cL_law 740 = .ok (.iload 5, 2) := by decide +kernel
theorem dL_law_742 : decode cL_law 742 = .ok (.iconst 2, 1) := by decide +kernel
theorem dL_law_743 : decode cL_law 743 = .ok (.iadd, 1) := by decide +kernel
theorem dL_law_744 : decode cL_law 744 = .ok (.iaload, 1) := by decide +kernel
theorem dL_law_745 : decode cL_law 745 = .ok (.aload_n 0, 1) := by decide +kernel
theorem dL_law_746 : decode cL_law 746 = .ok (.iload 5, 2) := by decide +kernel
theorem dL_law_748 : decode cL_law 748 = .ok (.iconst 3, 1) := by decide +kernel
theorem dL_law_749 : decode cL_law 749 = .ok (.iadd, 1) := by decide +kernel
theorem dL_law_750 : decode cL_law 750 = .ok (.iaload, 1) := by decide +kernel
theorem dL_law_751 : decode cL_law 751 = .ok (.ifCond .eq 7, 3) := by decide +kernel
theorem dL_law_754 : decode cL_law 754 = .ok (.iconst 1, 1) := by decide +kernel
theorem dL_law_755 : decode cL_law 755 = .ok (.goto 4, 3) := by decide +kernel
theorem dL_law_758 : decode cL_law 758 = .ok (.iconst 0, 1) := by decide +kernel
theorem dL_law_759 : decode cL_law 759 = .ok (.invokevirtual 128, 3) := by decide +kernel
theorem dL_law_762 : decode cL_law 762 = .ok (.istore 7, 2) := by decide +kernel
theorem dL_law_764 : decode cL_law 764 = .ok (.aload_n 2, 1) := by decide +kernel
theorem dL_law_765 : decode cL_law 765 = .ok (.invokevirtual 97, 3) := by decide +kernel
theorem dL_law_768 : decode cL_law 768 = .ok (.iload 6, 2) := by decide +kernel
theorem dL_law_770 : decode cL_law 770 = .ok (.if_icmp .eq 5, 3) := by decide +kernel
theorem dL_law_773 : decode cL_law 773 = .ok (.iconst 0, 1) := by decide +kernel
theorem dL_law_774 : decode cL_law 774 = .ok (.ireturn, 1) := by decide +kernel
theorem dL_law_775 : decode cL_law 775 = .ok (.iload 6, 2) := by decide +kernel
theorem dL_law_777 : decode cL_law 777 = .ok (.ifCond .ne 15, 3) := by decide +kernel
theorem dL_law_780 : decode cL_law 780 = .ok (.aload_n 3, 1) := by decide +kernel
theorem dL_law_781 : decode cL_law 781 = .ok (.iconst 0, 1) := by decide +kernel
theorem dL_law_782 : decode cL_law 782 = .ok (.laload, 1) := by decide +kernel
theorem dL_law_783 : decode cL_law 783 = .ok (.iload 7, 2) := by decide +kernel
theorem dL_law_785 : decode cL_law 785 = .ok (.i2l, 1) := by decide +kernel
theorem dL_law_786 : decode cL_law 786 = .ok (.lcmp, 1) := by decide +kernel
theorem dL_law_787 : decode cL_law 787 = .ok (.ifCond .eq 5, 3) := by decide +kernel
theorem dL_law_790 : decode cL_law 790 = .ok (.iconst 0, 1) := by decide +kernel
theorem dL_law_791 : decode cL_law 791 = .ok (.ireturn, 1) := by decide +kernel
theorem dL_law_792 : decode cL_law 792 = .ok (.goto 858, 3) := by decide +kernel
theorem dL_law_795 : decode cL_law 795 = .ok (.aload_n 1, 1) := by decide +kernel
theorem dL_law_796 : decode cL_law 796 = .ok (.aload_n 0, 1) := by decide +kernel
theorem dL_law_797 : decode cL_law 797 = .ok (.iload 5, 2) := by decide +kernel
theorem dL_law_799 : decode cL_law 799 = .ok (.iconst 1, 1) := by decide +kernel
theorem dL_law_800 : decode cL_law 800 = .ok (.iadd, 1) := by decide +kernel
theorem dL_law_801 : decode cL_law 801 = .ok (.iaload, 1) := by decide +kernel
theorem dL_law_802 : decode cL_law 802 = .ok (.aload_n 0, 1) := by decide +kernel
theorem dL_law_803 : decode cL_law 803 = .ok (.iload 5, 2) := by decide +kernel
theorem dL_law_805 : decode cL_law 805 = .ok (.iconst 2, 1) := by decide +kernel
theorem dL_law_806 : decode cL_law 806 = .ok (.iadd, 1) := by decide +kernel
theorem dL_law_807 : decode cL_law 807 = .ok (.iaload, 1) := by decide +kernel
theorem dL_law_808 : decode cL_law 808 = .ok (.aload_n 3, 1) := by decide +kernel
theorem dL_law_809 : decode cL_law 809 = .ok (.invokestatic 129, 3) := by decide +kernel
theorem dL_law_812 : decode cL_law 812 = .ok (.istore 6, 2) := by decide +kernel
theorem dL_law_814 : decode cL_law 814 = .ok (.aload_n 2, 1) := by decide +kernel
theorem dL_law_815 : decode cL_law 815 = .ok (.aload_n 0, 1) := by decide +kernel
theorem dL_law_816 : decode cL_law 816 = .ok (.iload 5, 2) := by decide +kernel
theorem dL_law_818 : decode cL_law 818 = .ok (.iconst 1, 1) := by decide +kernel
theorem dL_law_819 : decode cL_law 819 = .ok (.iadd, 1) := by decide +kernel
theorem dL_law_820 : decode cL_law 820 = .ok (.iaload, 1) := by decide +kernel
theorem dL_law_821 : decode cL_law 821 = .ok (.aload_n 0, 1) := by decide +kernel
theorem dL_law_822 : decode cL_law 822 = .ok (.iload 5, 2) := by decide +kernel
theorem dL_law_824 : decode cL_law 824 = .ok (.iconst 2, 1) := by decide +kernel
theorem dL_law_825 : decode cL_law 825 = .ok (.iadd, 1) := by decide +kernel
theorem dL_law_826 : decode cL_law 826 = .ok (.iaload, 1) := by decide +kernel
theorem dL_law_827 : decode cL_law 827 = .ok (.invokevirtual 131, 3) := by decide +kernel
theorem dL_law_830 : decode cL_law 830 = .ok (.istore 7, 2) := by decide +kernel
theorem dL_law_832 : decode cL_law 832 = .ok (.aload_n 2, 1) := by decide +kernel
theorem dL_law_833 : decode cL_law 833 = .ok (.invokevirtual 97, 3) := by decide +kernel
theorem dL_law_836 : decode cL_law 836 = .ok (.iload 6, 2) := by decide +kernel
theorem dL_law_838 : decode cL_law 838 = .ok (.if_icmp .eq 5, 3) := by decide +kernel
theorem dL_law_841 : decode cL_law 841 = .ok (.iconst 0, 1) := by decide +kernel
theorem dL_law_842 : decode cL_law 842 = .ok (.ireturn, 1) := by decide +kernel
theorem dL_law_843 : decode cL_law 843 = .ok (.iload 6, 2) := by decide +kernel
theorem dL_law_845 : decode cL_law 845 = .ok (.ifCond .ne 15, 3) := by decide +kernel
theorem dL_law_848 : decode cL_law 848 = .ok (.aload_n 3, 1) := by decide +kernel
theorem dL_law_849 : decode cL_law 849 = .ok (.iconst 0, 1) := by decide +kernel
theorem dL_law_850 : decode cL_law 850 = .ok (.laload, 1) := by decide +kernel
theorem dL_law_851 : decode cL_law 851 = .ok (.iload 7, 2) := by decide +kernel
theorem dL_law_853 : decode cL_law 853 = .ok (.i2l, 1) := by decide +kernel
theorem dL_law_854 : decode cL_law 854 = .ok (.lcmp, 1) := by decide +kernel
theorem dL_law_855 : decode cL_law 855 = .ok (.ifCond .eq 5, 3) := by decide +kernel
theorem dL_law_858 : decode cL_law 858 = .ok (.iconst 0, 1) := by decide +kernel
theorem dL_law_859 : decode cL_law 859 = .ok (.ireturn, 1) := by decide +kernel
theorem dL_law_860 : decode cL_law 860 = .ok (.goto 790, 3) := by decide +kernel
theorem dL_law_863 : decode cL_law 863 = .ok (.aload_n 1, 1) := by decide +kernel
theorem dL_law_864 : decode cL_law 864 = .ok (.aload_n 0, 1) := by decide +kernel
theorem dL_law_865 : decode cL_law 865 = .ok (.iload 5, 2) := by decide +kernel
theorem dL_law_867 : decode cL_law 867 = .ok (.iconst 1, 1) := by decide +kernel
theorem dL_law_868 : decode cL_law 868 = .ok (.iadd, 1) := by decide +kernel
theorem dL_law_869 : decode cL_law 869 = .ok (.iaload, 1) := by decide +kernel
theorem dL_law_870 : decode cL_law 870 = .ok (.aload_n 0, 1) := by decide +kernel
theorem dL_law_871 : decode cL_law 871 = .ok (.iload 5, 2) := by decide +kernel
theorem dL_law_873 : decode cL_law 873 = .ok (.iconst 2, 1) := by decide +kernel
theorem dL_law_874 : decode cL_law 874 = .ok (.iadd, 1) := by decide +kernel
theorem dL_law_875 : decode cL_law 875 = .ok (.iaload, 1) := by decide +kernel
theorem dL_law_876 : decode cL_law 876 = .ok (.aload_n 3, 1) := by decide +kernel
theorem dL_law_877 : decode cL_law 877 = .ok (.invokestatic 132, 3) := by decide +kernel
theorem dL_law_880 : decode cL_law 880 = .ok (.istore 6, 2) := by decide +kernel
theorem dL_law_882 : decode cL_law 882 = .ok (.aload_n 2, 1) := by decide +kernel
theorem dL_law_883 : decode cL_law 883 = .ok (.aload_n 0, 1) := by decide +kernel
theorem dL_law_884 : decode cL_law 884 = .ok (.iload 5, 2) := by decide +kernel
theorem dL_law_886 : decode cL_law 886 = .ok (.iconst 1, 1) := by decide +kernel
theorem dL_law_887 : decode cL_law 887 = .ok (.iadd, 1) := by decide +kernel
theorem dL_law_888 : decode cL_law 888 = .ok (.iaload, 1) := by decide +kernel
theorem dL_law_889 : decode cL_law 889 = .ok (.aload_n 0, 1) := by decide +kernel
theorem dL_law_890 : decode cL_law 890 = .ok (.iload 5, 2) := by decide +kernel
theorem dL_law_892 : decode cL_law 892 = .ok (.iconst 2, 1) := by decide +kernel
theorem dL_law_893 : decode cL_law 893 = .ok (.iadd, 1) := by decide +kernel
theorem dL_law_894 : decode cL_law 894 = .ok (.iaload, 1) := by decide +kernel
theorem dL_law_895 : decode cL_law 895 = .ok (.invokevirtual 134, 3) := by decide +kernel
theorem dL_law_898 : decode cL_law 898 = .ok (.istore 7, 2) := by decide +kernel
theorem dL_law_900 : decode cL_law 900 = .ok (.aload_n 2, 1) := by decide +kernel
theorem dL_law_901 : decode cL_law 901 = .ok (.invokevirtual 97, 3) := by decide +kernel
theorem dL_law_904 : decode cL_law 904 = .ok (.iload 6, 2) := by decide +kernel
theorem dL_law_906 : decode cL_law 906 = .ok (.if_icmp .eq 5, 3) := by decide +kernel
theorem dL_law_909 : decode cL_law 909 = .ok (.iconst 0, 1) := by decide +kernel
theorem dL_law_910 : decode cL_law 910 = .ok (.ireturn, 1) := by decide +kernel
theorem dL_law_911 : decode cL_law 911 = .ok (.iload 6, 2) := by decide +kernel
theorem dL_law_913 : decode cL_law 913 = .ok (.ifCond .ne 22, 3) := by decide +kernel
theorem dL_law_916 : decode cL_law 916 = .ok (.aload_n 3, 1) := by decide +kernel
theorem dL_law_917 : decode cL_law 917 = .ok (.iconst 0, 1) := by decide +kernel
theorem dL_law_918 : decode cL_law 918 = .ok (.laload, 1) := by decide +kernel
theorem dL_law_919 : decode cL_law 919 = .ok (.iload 7, 2) := by decide +kernel
theorem dL_law_921 : decode cL_law 921 = .ok (.ifCond .eq 7, 3) := by decide +kernel
theorem dL_law_924 : decode cL_law 924 = .ok (.lconst 1, 1) := by decide +kernel
theorem dL_law_925 : decode cL_law 925 = .ok (.goto 4, 3) := by decide +kernel
theorem dL_law_928 : decode cL_law 928 = .ok (.lconst 0, 1) := by decide +kernel
theorem dL_law_929 : decode cL_law 929 = .ok (.lcmp, 1) := by decide +kernel
theorem dL_law_930 : decode cL_law 930 = .ok (.ifCond .eq 5, 3) := by decide +kernel
theorem dL_law_933 : decode cL_law 933 = .ok (.iconst 0, 1) := by decide +kernel
theorem dL_law_934 : decode cL_law 934 = .ok (.ireturn, 1) := by decide +kernel
theorem dL_law_935 : decode cL_law 935 = .ok (.goto 715, 3) := by decide +kernel
theorem dL_law_938 : decode cL_law 938 = .ok (.aload_n 1, 1) := by decide +kernel
theorem dL_law_939 : decode cL_law 939 = .ok (.aload_n 0, 1) := by decide +kernel
theorem dL_law_940 : decode cL_law 940 = .ok (.iload 5, 2) := by decide +kernel
theorem dL_law_942 : decode cL_law 942 = .ok (.iconst 1, 1) := by decide +kernel
theorem dL_law_943 : decode cL_law 943 = .ok (.iadd, 1) := by decide +kernel
theorem dL_law_944 : decode cL_law 944 = .ok (.iaload, 1) := by decide +kernel
theorem dL_law_945 : decode cL_law 945 = .ok (.aload_n 0, 1) := by decide +kernel
theorem dL_law_946 : decode cL_law 946 = .ok (.iload 5, 2) := by decide +kernel
theorem dL_law_948 : decode cL_law 948 = .ok (.iconst 2, 1) := by decide +kernel
theorem dL_law_949 : decode cL_law 949 = .ok (.iadd, 1) := by decide +kernel
theorem dL_law_950 : decode cL_law 950 = .ok (.iaload, 1) := by decide +kernel
theorem dL_law_951 : decode cL_law 951 = .ok (.aload 4, 2) := by decide +kernel
theorem dL_law_953 : decode cL_law 953 = .ok (.invokestatic 135, 3) := by decide +kernel
theorem dL_law_956 : decode cL_law 956 = .ok (.istore 6, 2) := by decide +kernel
theorem dL_law_958 : decode cL_law 958 = .ok (.aload_n 2, 1) := by decide +kernel
theorem dL_law_959 : decode cL_law 959 = .ok (.aload_n 0, 1) := by decide +kernel
theorem dL_law_960 : decode cL_law 960 = .ok (.iload 5, 2) := by decide +kernel
theorem dL_law_962 : decode cL_law 962 = .ok (.iconst 1, 1) := by decide +kernel
theorem dL_law_963 : decode cL_law 963 = .ok (.iadd, 1) := by decide +kernel
theorem dL_law_964 : decode cL_law 964 = .ok (.iaload, 1) := by decide +kernel
theorem dL_law_965 : decode cL_law 965 = .ok (.aload_n 0, 1) := by decide +kernel
theorem dL_law_966 : decode cL_law 966 = .ok (.iload 5, 2) := by decide +kernel
theorem dL_law_968 : decode cL_law 968 = .ok (.iconst 2, 1) := by decide +kernel
theorem dL_law_969 : decode cL_law 969 = .ok (.iadd, 1) := by decide +kernel
theorem dL_law_970 : decode cL_law 970 = .ok (.iaload, 1) := by decide +kernel
theorem dL_law_971 : decode cL_law 971 = .ok (.invokevirtual 138, 3) := by decide +kernel
theorem dL_law_974 : decode cL_law 974 = .ok (.dstore 7, 2) := by decide +kernel
theorem dL_law_976 : decode cL_law 976 = .ok (.aload_n 2, 1) := by decide +kernel
theorem dL_law_977 : decode cL_law 977 = .ok (.invokevirtual 97, 3) := by decide +kernel
theorem dL_law_980 : decode cL_law 980 = .ok (.iload 6, 2) := by decide +kernel
theorem dL_law_982 : decode cL_law 982 = .ok (.if_icmp .eq 5, 3) := by decide +kernel
theorem dL_law_985 : decode cL_law 985 = .ok (.iconst 0, 1) := by decide +kernel
theorem dL_law_986 : decode cL_law 986 = .ok (.ireturn, 1) := by decide +kernel
theorem dL_law_987 : decode cL_law 987 = .ok (.iload 6, 2) := by decide +kernel
theorem dL_law_989 : decode cL_law 989 = .ok (.ifCond .ne 35, 3) := by decide +kernel
theorem dL_law_992 : decode cL_law 992 = .ok (.aload 4, 2) := by decide +kernel
theorem dL_law_994 : decode cL_law 994 = .ok (.iconst 0, 1) := by decide +kernel
theorem dL_law_995 : decode cL_law 995 = .ok (.daload, 1) := by decide +kernel
theorem dL_law_996 : decode cL_law 996 = .ok (.dload 7, 2) := by decide +kernel
theorem dL_law_998 : decode cL_law 998 = .ok (.dcmp .l, 1) := by decide +kernel
theorem dL_law_999 : decode cL_law 999 = .ok (.ifCond .eq 25, 3) := by decide +kernel
theorem dL_law_1002 : decode cL_law 1002 = .ok (.aload 4, 2) := by decide +kernel
theorem dL_law_1004 : decode cL_law 1004 = .ok (.iconst 0, 1) := by decide +kernel
theorem dL_law_1005 : decode cL_law 1005 = .ok (.daload, 1) := by decide +kernel
theorem dL_law_1006 : decode cL_law 1006 = .ok (.aload 4, 2) := by decide +kernel
theorem dL_law_1008 : decode cL_law 1008 = .ok (.iconst 0, 1) := by decide +kernel
theorem dL_law_1009 : decode cL_law 1009 = .ok (.daload, 1) := by decide +kernel
theorem dL_law_1010 : decode cL_law 1010 = .ok (.dcmp .l, 1) := by decide +kernel
theorem dL_law_1011 : decode cL_law 1011 = .ok (.ifCond .eq 11, 3) := by decide +kernel
theorem dL_law_1014 : decode cL_law 1014 = .ok (.dload 7, 2) := by decide +kernel
theorem dL_law_1016 : decode cL_law 1016 = .ok (.dload 7, 2) := by decide +kernel
theorem dL_law_1018 : decode cL_law 1018 = .ok (.dcmp .l, 1) := by decide +kernel
theorem dL_law_1019 : decode cL_law 1019 = .ok (.ifCond .ne 5, 3) := by decide +kernel
theorem dL_law_1022 : decode cL_law 1022 = .ok (.iconst 0, 1) := by decide +kernel
theorem dL_law_1023 : decode cL_law 1023 = .ok (.ireturn, 1) := by decide +kernel
theorem dL_law_1024 : decode cL_law 1024 = .ok (.goto 626, 3) := by decide +kernel
theorem dL_law_1027 : decode cL_law 1027 = .ok (.aload_n 1, 1) := by decide +kernel
theorem dL_law_1028 : decode cL_law 1028 = .ok (.aload_n 0, 1) := by decide +kernel
theorem dL_law_1029 : decode cL_law 1029 = .ok (.iload 5, 2) := by decide +kernel
theorem dL_law_1031 : decode cL_law 1031 = .ok (.iconst 1, 1) := by decide +kernel
theorem dL_law_1032 : decode cL_law 1032 = .ok (.iadd, 1) := by decide +kernel
theorem dL_law_1033 : decode cL_law 1033 = .ok (.iaload, 1) := by decide +kernel
theorem dL_law_1034 : decode cL_law 1034 = .ok (.aload 4, 2) := by decide +kernel
theorem dL_law_1036 : decode cL_law 1036 = .ok (.invokestatic 139, 3) := by decide +kernel
theorem dL_law_1039 : decode cL_law 1039 = .ok (.istore 6, 2) := by decide +kernel
theorem dL_law_1041 : decode cL_law 1041 = .ok (.aload_n 2, 1) := by decide +kernel
theorem dL_law_1042 : decode cL_law 1042 = .ok (.aload_n 0, 1) := by decide +kernel
theorem dL_law_1043 : decode cL_law 1043 = .ok (.iload 5, 2) := by decide +kernel
theorem dL_law_1045 : decode cL_law 1045 = .ok (.iconst 1, 1) := by decide +kernel
theorem dL_law_1046 : decode cL_law 1046 = .ok (.iadd, 1) := by decide +kernel
theorem dL_law_1047 : decode cL_law 1047 = .ok (.iaload, 1) := by decide +kernel
theorem dL_law_1048 : decode cL_law 1048 = .ok (.invokevirtual 142, 3) := by decide +kernel
theorem dL_law_1051 : decode cL_law 1051 = .ok (.dstore 7, 2) := by decide +kernel
theorem dL_law_1053 : decode cL_law 1053 = .ok (.aload_n 2, 1) := by decide +kernel
theorem dL_law_1054 : decode cL_law 1054 = .ok (.invokevirtual 97, 3) := by decide +kernel
theorem dL_law_1057 : decode cL_law 1057 = .ok (.iload 6, 2) := by decide +kernel
theorem dL_law_1059 : decode cL_law 1059 = .ok (.if_icmp .eq 5, 3) := by decide +kernel
theorem dL_law_1062 : decode cL_law 1062 = .ok (.iconst 0, 1) := by decide +kernel
theorem dL_law_1063 : decode cL_law 1063 = .ok (.ireturn, 1) := by decide +kernel
theorem dL_law_1064 : decode cL_law 1064 = .ok (.iload 6, 2) := by decide +kernel
theorem dL_law_1066 : decode cL_law 1066 = .ok (.ifCond .ne 35, 3) := by decide +kernel
theorem dL_law_1069 : decode cL_law 1069 = .ok (.aload 4, 2) := by decide +kernel
theorem dL_law_1071 : decode cL_law 1071 = .ok (.iconst 0, 1) := by decide +kernel
theorem dL_law_1072 : decode cL_law 1072 = .ok (.daload, 1) := by decide +kernel
theorem dL_law_1073 : decode cL_law 1073 = .ok (.dload 7, 2) := by decide +kernel
theorem dL_law_1075 : decode cL_law 1075 = .ok (.dcmp .l, 1) := by decide +kernel
theorem dL_law_1076 : decode cL_law 1076 = .ok (.ifCond .eq 25, 3) := by decide +kernel
theorem dL_law_1079 : decode cL_law 1079 = .ok (.aload 4, 2) := by decide +kernel
theorem dL_law_1081 : decode cL_law 1081 = .ok (.iconst 0, 1) := by decide +kernel
theorem dL_law_1082 : decode cL_law 1082 = .ok (.daload, 1) := by decide +kernel
theorem dL_law_1083 : decode cL_law 1083 = .ok (.aload 4, 2) := by decide +kernel
theorem dL_law_1085 : decode cL_law 1085 = .ok (.iconst 0, 1) := by decide +kernel
theorem dL_law_1086 : decode cL_law 1086 = .ok (.daload, 1) := by decide +kernel
theorem dL_law_1087 : decode cL_law 1087 = .ok (.dcmp .l, 1) := by decide +kernel
theorem dL_law_1088 : decode cL_law 1088 = .ok (.ifCond .eq 11, 3) := by decide +kernel
theorem dL_law_1091 : decode cL_law 1091 = .ok (.dload 7, 2) := by decide +kernel
theorem dL_law_1093 : decode cL_law 1093 = .ok (.dload 7, 2) := by decide +kernel
theorem dL_law_1095 : decode cL_law 1095 = .ok (.dcmp .l, 1) := by decide +kernel
theorem dL_law_1096 : decode cL_law 1096 = .ok (.ifCond .ne 5, 3) := by decide +kernel
theorem dL_law_1099 : decode cL_law 1099 = .ok (.iconst 0, 1) := by decide +kernel
theorem dL_law_1100 : decode cL_law 1100 = .ok (.ireturn, 1) := by decide +kernel
theorem dL_law_1101 : decode cL_law 1101 = .ok (.goto 549, 3) := by decide +kernel
theorem dL_law_1104 : decode cL_law 1104 = .ok (.aload_n 1, 1) := by decide +kernel
theorem dL_law_1105 : decode cL_law 1105 = .ok (.aload_n 0, 1) := by decide +kernel
theorem dL_law_1106 : decode cL_law 1106 = .ok (.iload 5, 2) := by decide +kernel
theorem dL_law_1108 : decode cL_law 1108 = .ok (.iconst 1, 1) := by decide +kernel
theorem dL_law_1109 : decode cL_law 1109 = .ok (.iadd, 1) := by decide +kernel
theorem dL_law_1110 : decode cL_law 1110 = .ok (.iaload, 1) := by decide +kernel
theorem dL_law_1111 : decode cL_law 1111 = .ok (.aload_n 0, 1) := by decide +kernel
theorem dL_law_1112 : decode cL_law 1112 = .ok (.iload 5, 2) := by decide +kernel
theorem dL_law_1114 : decode cL_law 1114 = .ok (.iconst 2, 1) := by decide +kernel
theorem dL_law_1115 : decode cL_law 1115 = .ok (.iadd, 1) := by decide +kernel
theorem dL_law_1116 : decode cL_law 1116 = .ok (.iaload, 1) := by decide +kernel
theorem dL_law_1117 : decode cL_law 1117 = .ok (.aload_n 3, 1) := by decide +kernel
theorem dL_law_1118 : decode cL_law 1118 = .ok (.invokestatic 143, 3) := by decide +kernel
theorem dL_law_1121 : decode cL_law 1121 = .ok (.istore 6, 2) := by decide +kernel
theorem dL_law_1123 : decode cL_law 1123 = .ok (.aload_n 2, 1) := by decide +kernel
theorem dL_law_1124 : decode cL_law 1124 = .ok (.aload_n 0, 1) := by decide +kernel
theorem dL_law_1125 : decode cL_law 1125 = .ok (.iload 5, 2) := by decide +kernel
theorem dL_law_1127 : decode cL_law 1127 = .ok (.iconst 1, 1) := by decide +kernel
theorem dL_law_1128 : decode cL_law 1128 = .ok (.iadd, 1) := by decide +kernel
theorem dL_law_1129 : decode cL_law 1129 = .ok (.iaload, 1) := by decide +kernel
theorem dL_law_1130 : decode cL_law 1130 = .ok (.aload_n 0, 1) := by decide +kernel
theorem dL_law_1131 : decode cL_law 1131 = .ok (.iload 5, 2) := by decide +kernel
theorem dL_law_1133 : decode cL_law 1133 = .ok (.iconst 2, 1) := by decide +kernel
theorem dL_law_1134 : decode cL_law 1134 = .ok (.iadd, 1) := by decide +kernel
theorem dL_law_1135 : decode cL_law 1135 = .ok (.iaload, 1) := by decide +kernel
theorem dL_law_1136 : decode cL_law 1136 = .ok (.invokevirtual 145, 3) := by decide +kernel
theorem dL_law_1139 : decode cL_law 1139 = .ok (.istore 7, 2) := by decide +kernel
theorem dL_law_1141 : decode cL_law 1141 = .ok (.aload_n 2, 1) := by decide +kernel
theorem dL_law_1142 : decode cL_law 1142 = .ok (.invokevirtual 97, 3) := by decide +kernel
theorem dL_law_1145 : decode cL_law 1145 = .ok (.iload 6, 2) := by decide +kernel
theorem dL_law_1147 : decode cL_law 1147 = .ok (.if_icmp .eq 5, 3) := by decide +kernel
theorem dL_law_1150 : decode cL_law 1150 = .ok (.iconst 0, 1) := by decide +kernel
theorem dL_law_1151 : decode cL_law 1151 = .ok (.ireturn, 1) := by decide +kernel
theorem dL_law_1152 : decode cL_law 1152 = .ok (.iload 6, 2) := by decide +kernel
theorem dL_law_1154 : decode cL_law 1154 = .ok (.ifCond .ne 15, 3) := by decide +kernel
theorem dL_law_1157 : decode cL_law 1157 = .ok (.aload_n 3, 1) := by decide +kernel
theorem dL_law_1158 : decode cL_law 1158 = .ok (.iconst 0, 1) := by decide +kernel
theorem dL_law_1159 : decode cL_law 1159 = .ok (.laload, 1) := by decide +kernel
theorem dL_law_1160 : decode cL_law 1160 = .ok (.iload 7, 2) := by decide +kernel
theorem dL_law_1162 : decode cL_law 1162 = .ok (.i2l, 1) := by decide +kernel
theorem dL_law_1163 : decode cL_law 1163 = .ok (.lcmp, 1) := by decide +kernel
theorem dL_law_1164 : decode cL_law 1164 = .ok (.ifCond .eq 5, 3) := by decide +kernel
theorem dL_law_1167 : decode cL_law 1167 = .ok (.iconst 0, 1) := by decide +kernel
theorem dL_law_1168 : decode cL_law 1168 = .ok (.ireturn, 1) := by decide +kernel
theorem dL_law_1169 : decode cL_law 1169 = .ok (.goto 481, 3) := by decide +kernel
theorem dL_law_1172 : decode cL_law 1172 = .ok (.aload_n 1, 1) := by decide +kernel
theorem dL_law_1173 : decode cL_law 1173 = .ok (.aload_n 0, 1) := by decide +kernel
theorem dL_law_1174 : decode cL_law 1174 = .ok (.iload 5, 2) := by decide +kernel
theorem dL_law_1176 : decode cL_law 1176 = .ok (.iconst 1, 1) := by decide +kernel
theorem dL_law_1177 : decode cL_law 1177 = .ok (.iadd, 1) := by decide +kernel
theorem dL_law_1178 : decode cL_law 1178 = .ok (.iaload, 1) := by decide +kernel
theorem dL_law_1179 : decode cL_law 1179 = .ok (.aload_n 0, 1) := by decide +kernel
theorem dL_law_1180 : decode cL_law 1180 = .ok (.iload 5, 2) := by decide +kernel
theorem dL_law_1182 : decode cL_law 1182 = .ok (.iconst 2, 1) := by decide +kernel
theorem dL_law_1183 : decode cL_law 1183 = .ok (.iadd, 1) := by decide +kernel
theorem dL_law_1184 : decode cL_law 1184 = .ok (.iaload, 1) := by decide +kernel
theorem dL_law_1185 : decode cL_law 1185 = .ok (.aload_n 3, 1) := by decide +kernel
theorem dL_law_1186 : decode cL_law 1186 = .ok (.invokestatic 146, 3) := by decide +kernel
theorem dL_law_1189 : decode cL_law 1189 = .ok (.istore 6, 2) := by decide +kernel
theorem dL_law_1191 : decode cL_law 1191 = .ok (.aload_n 2, 1) := by decide +kernel
theorem dL_law_1192 : decode cL_law 1192 = .ok (.aload_n 0, 1) := by decide +kernel
theorem dL_law_1193 : decode cL_law 1193 = .ok (.iload 5, 2) := by decide +kernel
theorem dL_law_1195 : decode cL_law 1195 = .ok (.iconst 1, 1) := by decide +kernel
theorem dL_law_1196 : decode cL_law 1196 = .ok (.iadd, 1) := by decide +kernel
theorem dL_law_1197 : decode cL_law 1197 = .ok (.iaload, 1) := by decide +kernel
theorem dL_law_1198 : decode cL_law 1198 = .ok (.aload_n 0, 1) := by decide +kernel
theorem dL_law_1199 : decode cL_law 1199 = .ok (.iload 5, 2) := by decide +kernel
theorem dL_law_1201 : decode cL_law 1201 = .ok (.iconst 2, 1) := by decide +kernel
theorem dL_law_1202 : decode cL_law 1202 = .ok (.iadd, 1) := by decide +kernel
theorem dL_law_1203 : decode cL_law 1203 = .ok (.iaload, 1) := by decide +kernel
theorem dL_law_1204 : decode cL_law 1204 = .ok (.invokevirtual 148, 3) := by decide +kernel
theorem dL_law_1207 : decode cL_law 1207 = .ok (.istore 7, 2) := by decide +kernel
theorem dL_law_1209 : decode cL_law 1209 = .ok (.aload_n 2, 1) := by decide +kernel
theorem dL_law_1210 : decode cL_law 1210 = .ok (.invokevirtual 97, 3) := by decide +kernel
theorem dL_law_1213 : decode cL_law 1213 = .ok (.iload 6, 2) := by decide +kernel
theorem dL_law_1215 : decode cL_law 1215 = .ok (.if_icmp .eq 5, 3) := by decide +kernel
theorem dL_law_1218 : decode cL_law 1218 = .ok (.iconst 0, 1) := by decide +kernel
theorem dL_law_1219 : decode cL_law 1219 = .ok (.ireturn, 1) := by decide +kernel
theorem dL_law_1220 : decode cL_law 1220 = .ok (.iload 6, 2) := by decide +kernel
theorem dL_law_1222 : decode cL_law 1222 = .ok (.ifCond .ne 15, 3) := by decide +kernel
theorem dL_law_1225 : decode cL_law 1225 = .ok (.aload_n 3, 1) := by decide +kernel
theorem dL_law_1226 : decode cL_law 1226 = .ok (.iconst 0, 1) := by decide +kernel
theorem dL_law_1227 : decode cL_law 1227 = .ok (.laload, 1) := by decide +kernel
theorem dL_law_1228 : decode cL_law 1228 = .ok (.iload 7, 2) := by decide +kernel
theorem dL_law_1230 : decode cL_law 1230 = .ok (.i2l, 1) := by decide +kernel
theorem dL_law_1231 : decode cL_law 1231 = .ok (.lcmp, 1) := by decide +kernel
theorem dL_law_1232 : decode cL_law 1232 = .ok (.ifCond .eq 5, 3) := by decide +kernel
theorem dL_law_1235 : decode cL_law 1235 = .ok (.iconst 0, 1) := by decide +kernel
theorem dL_law_1236 : decode cL_law 1236 = .ok (.ireturn, 1) := by decide +kernel
theorem dL_law_1237 : decode cL_law 1237 = .ok (.goto 413, 3) := by decide +kernel
theorem dL_law_1240 : decode cL_law 1240 = .ok (.aload_n 1, 1) := by decide +kernel
theorem dL_law_1241 : decode cL_law 1241 = .ok (.aload_n 0, 1) := by decide +kernel
theorem dL_law_1242 : decode cL_law 1242 = .ok (.iload 5, 2) := by decide +kernel
theorem dL_law_1244 : decode cL_law 1244 = .ok (.iconst 1, 1) := by decide +kernel
theorem dL_law_1245 : decode cL_law 1245 = .ok (.iadd, 1) := by decide +kernel
theorem dL_law_1246 : decode cL_law 1246 = .ok (.iaload, 1) := by decide +kernel
theorem dL_law_1247 : decode cL_law 1247 = .ok (.aload_n 0, 1) := by decide +kernel
theorem dL_law_1248 : decode cL_law 1248 = .ok (.iload 5, 2) := by decide +kernel
theorem dL_law_1250 : decode cL_law 1250 = .ok (.iconst 2, 1) := by decide +kernel
theorem dL_law_1251 : decode cL_law 1251 = .ok (.iadd, 1) := by decide +kernel
theorem dL_law_1252 : decode cL_law 1252 = .ok (.iaload, 1) := by decide +kernel
theorem dL_law_1253 : decode cL_law 1253 = .ok (.aload_n 3, 1) := by decide +kernel
theorem dL_law_1254 : decode cL_law 1254 = .ok (.invokestatic 149, 3) := by decide +kernel
theorem dL_law_1257 : decode cL_law 1257 = .ok (.istore 6, 2) := by decide +kernel
theorem dL_law_1259 : decode cL_law 1259 = .ok (.aload_n 2, 1) := by decide +kernel
theorem dL_law_1260 : decode cL_law 1260 = .ok (.aload_n 0, 1) := by decide +kernel
theorem dL_law_1261 : decode cL_law 1261 = .ok (.iload 5, 2) := by decide +kernel
theorem dL_law_1263 : decode cL_law 1263 = .ok (.iconst 1, 1) := by decide +kernel
theorem dL_law_1264 : decode cL_law 1264 = .ok (.iadd, 1) := by decide +kernel
theorem dL_law_1265 : decode cL_law 1265 = .ok (.iaload, 1) := by decide +kernel
theorem dL_law_1266 : decode cL_law 1266 = .ok (.aload_n 0, 1) := by decide +kernel
theorem dL_law_1267 : decode cL_law 1267 = .ok (.iload 5, 2) := by decide +kernel
theorem dL_law_1269 : decode cL_law 1269 = .ok (.iconst 2, 1) := by decide +kernel
theorem dL_law_1270 : decode cL_law 1270 = .ok (.iadd, 1) := by decide +kernel
theorem dL_law_1271 : decode cL_law 1271 = .ok (.iaload, 1) := by decide +kernel
theorem dL_law_1272 : decode cL_law 1272 = .ok (.invokevirtual 151, 3) := by decide +kernel
theorem dL_law_1275 : decode cL_law 1275 = .ok (.istore 7, 2) := by decide +kernel
theorem dL_law_1277 : decode cL_law 1277 = .ok (.aload_n 2, 1) := by decide +kernel
theorem dL_law_1278 : decode cL_law 1278 = .ok (.invokevirtual 97, 3) := by decide +kernel
theorem dL_law_1281 : decode cL_law 1281 = .ok (.iload 6, 2) := by decide +kernel
theorem dL_law_1283 : decode cL_law 1283 = .ok (.if_icmp .eq 5, 3) := by decide +kernel
theorem dL_law_1286 : decode cL_law 1286 = .ok (.iconst 0, 1) := by decide +kernel
theorem dL_law_1287 : decode cL_law 1287 = .ok (.ireturn, 1) := by decide +kernel
theorem dL_law_1288 : decode cL_law 1288 = .ok (.iload 6, 2) := by decide +kernel
theorem dL_law_1290 : decode cL_law 1290 = .ok (.ifCond .ne 15, 3) := by decide +kernel
theorem dL_law_1293 : decode cL_law 1293 = .ok (.aload_n 3, 1) := by decide +kernel
theorem dL_law_1294 : decode cL_law 1294 = .ok (.iconst 0, 1) := by decide +kernel
theorem dL_law_1295 : decode cL_law 1295 = .ok (.laload, 1) := by decide +kernel
theorem dL_law_1296 : decode cL_law 1296 = .ok (.iload 7, 2) := by decide +kernel
theorem dL_law_1298 : decode cL_law 1298 = .ok (.i2l, 1) := by decide +kernel
theorem dL_law_1299 : decode cL_law 1299 = .ok (.lcmp, 1) := by decide +kernel
theorem dL_law_1300 : decode cL_law 1300 = .ok (.ifCond .eq 5, 3) := by decide +kernel
theorem dL_law_1303 : decode cL_law 1303 = .ok (.iconst 0, 1) := by decide +kernel
theorem dL_law_1304 : decode cL_law 1304 = .ok (.ireturn, 1) := by decide +kernel
theorem dL_law_1305 : decode cL_law 1305 = .ok (.goto 345, 3) := by decide +kernel
theorem dL_law_1308 : decode cL_law 1308 = .ok (.aload_n 1, 1) := by decide +kernel
theorem dL_law_1309 : decode cL_law 1309 = .ok (.aload_n 0, 1) := by decide +kernel
theorem dL_law_1310 : decode cL_law 1310 = .ok (.iload 5, 2) := by decide +kernel
theorem dL_law_1312 : decode cL_law 1312 = .ok (.iconst 1, 1) := by decide +kernel
theorem dL_law_1313 : decode cL_law 1313 = .ok (.iadd, 1) := by decide +kernel
theorem dL_law_1314 : decode cL_law 1314 = .ok (.iaload, 1) := by decide +kernel
theorem dL_law_1315 : decode cL_law 1315 = .ok (.aload_n 3, 1) := by decide +kernel
theorem dL_law_1316 : decode cL_law 1316 = .ok (.invokestatic 152, 3) := by decide +kernel
theorem dL_law_1319 : decode cL_law 1319 = .ok (.istore 6, 2) := by decide +kernel
theorem dL_law_1321 : decode cL_law 1321 = .ok (.aload_n 2, 1) := by decide +kernel
theorem dL_law_1322 : decode cL_law 1322 = .ok (.aload_n 0, 1) := by decide +kernel
theorem dL_law_1323 : decode cL_law 1323 = .ok (.iload 5, 2) := by decide +kernel
theorem dL_law_1325 : decode cL_law 1325 = .ok (.iconst 1, 1) := by decide +kernel
theorem dL_law_1326 : decode cL_law 1326 = .ok (.iadd, 1) := by decide +kernel
theorem dL_law_1327 : decode cL_law 1327 = .ok (.iaload, 1) := by decide +kernel
theorem dL_law_1328 : decode cL_law 1328 = .ok (.invokevirtual 154, 3) := by decide +kernel
theorem dL_law_1331 : decode cL_law 1331 = .ok (.istore 7, 2) := by decide +kernel
theorem dL_law_1333 : decode cL_law 1333 = .ok (.aload_n 2, 1) := by decide +kernel
theorem dL_law_1334 : decode cL_law 1334 = .ok (.invokevirtual 97, 3) := by decide +kernel
theorem dL_law_1337 : decode cL_law 1337 = .ok (.iload 6, 2) := by decide +kernel
theorem dL_law_1339 : decode cL_law 1339 = .ok (.if_icmp .eq 5, 3) := by decide +kernel
theorem dL_law_1342 : decode cL_law 1342 = .ok (.iconst 0, 1) := by decide +kernel
theorem dL_law_1343 : decode cL_law 1343 = .ok (.ireturn, 1) := by decide +kernel
theorem dL_law_1344 : decode cL_law 1344 = .ok (.iload 6, 2) := by decide +kernel
theorem dL_law_1346 : decode cL_law 1346 = .ok (.ifCond .ne 15, 3) := by decide +kernel
theorem dL_law_1349 : decode cL_law 1349 = .ok (.aload_n 3, 1) := by decide +kernel
theorem dL_law_1350 : decode cL_law 1350 = .ok (.iconst 0, 1) := by decide +kernel
theorem dL_law_1351 : decode cL_law 1351 = .ok (.laload, 1) := by decide +kernel
theorem dL_law_1352 : decode cL_law 1352 = .ok (.iload 7, 2) := by decide +kernel
theorem dL_law_1354 : decode cL_law 1354 = .ok (.i2l, 1) := by decide +kernel
theorem dL_law_1355 : decode cL_law 1355 = .ok (.lcmp, 1) := by decide +kernel
theorem dL_law_1356 : decode cL_law 1356 = .ok (.ifCond .eq 5, 3) := by decide +kernel
theorem dL_law_1359 : decode cL_law 1359 = .ok (.iconst 0, 1) := by decide +kernel
theorem dL_law_1360 : decode cL_law 1360 = .ok (.ireturn, 1) := by decide +kernel
theorem dL_law_1361 : decode cL_law 1361 = .ok (.goto 289, 3) := by decide +kernel
theorem dL_law_1364 : decode cL_law 1364 = .ok (.aload_n 1, 1) := by decide +kernel
theorem dL_law_1365 : decode cL_law 1365 = .ok (.aload_n 0, 1) := by decide +kernel
theorem dL_law_1366 : decode cL_law 1366 = .ok (.iload 5, 2) := by decide +kernel
theorem dL_law_1368 : decode cL_law 1368 = .ok (.iconst 1, 1) := by decide +kernel
theorem dL_law_1369 : decode cL_law 1369 = .ok (.iadd, 1) := by decide +kernel
theorem dL_law_1370 : decode cL_law 1370 = .ok (.iaload, 1) := by decide +kernel
theorem dL_law_1371 : decode cL_law 1371 = .ok (.aload_n 0, 1) := by decide +kernel
theorem dL_law_1372 : decode cL_law 1372 = .ok (.iload 5, 2) := by decide +kernel
theorem dL_law_1374 : decode cL_law 1374 = .ok (.iconst 2, 1) := by decide +kernel
theorem dL_law_1375 : decode cL_law 1375 = .ok (.iadd, 1) := by decide +kernel
theorem dL_law_1376 : decode cL_law 1376 = .ok (.iaload, 1) := by decide +kernel
theorem dL_law_1377 : decode cL_law 1377 = .ok (.aload_n 3, 1) := by decide +kernel
theorem dL_law_1378 : decode cL_law 1378 = .ok (.invokestatic 155, 3) := by decide +kernel
theorem dL_law_1381 : decode cL_law 1381 = .ok (.istore 6, 2) := by decide +kernel
theorem dL_law_1383 : decode cL_law 1383 = .ok (.aload_n 2, 1) := by decide +kernel
theorem dL_law_1384 : decode cL_law 1384 = .ok (.aload_n 0, 1) := by decide +kernel
theorem dL_law_1385 : decode cL_law 1385 = .ok (.iload 5, 2) := by decide +kernel
theorem dL_law_1387 : decode cL_law 1387 = .ok (.iconst 1, 1) := by decide +kernel
theorem dL_law_1388 : decode cL_law 1388 = .ok (.iadd, 1) := by decide +kernel
theorem dL_law_1389 : decode cL_law 1389 = .ok (.iaload, 1) := by decide +kernel
theorem dL_law_1390 : decode cL_law 1390 = .ok (.aload_n 0, 1) := by decide +kernel
theorem dL_law_1391 : decode cL_law 1391 = .ok (.iload 5, 2) := by decide +kernel
theorem dL_law_1393 : decode cL_law 1393 = .ok (.iconst 2, 1) := by decide +kernel
theorem dL_law_1394 : decode cL_law 1394 = .ok (.iadd, 1) := by decide +kernel
theorem dL_law_1395 : decode cL_law 1395 = .ok (.iaload, 1) := by decide +kernel
theorem dL_law_1396 : decode cL_law 1396 = .ok (.invokevirtual 157, 3) := by decide +kernel
theorem dL_law_1399 : decode cL_law 1399 = .ok (.istore 7, 2) := by decide +kernel
theorem dL_law_1401 : decode cL_law 1401 = .ok (.aload_n 2, 1) := by decide +kernel
theorem dL_law_1402 : decode cL_law 1402 = .ok (.invokevirtual 97, 3) := by decide +kernel
theorem dL_law_1405 : decode cL_law 1405 = .ok (.iload 6, 2) := by decide +kernel
theorem dL_law_1407 : decode cL_law 1407 = .ok (.if_icmp .eq 5, 3) := by decide +kernel
theorem dL_law_1410 : decode cL_law 1410 = .ok (.iconst 0, 1) := by decide +kernel
theorem dL_law_1411 : decode cL_law 1411 = .ok (.ireturn, 1) := by decide +kernel
theorem dL_law_1412 : decode cL_law 1412 = .ok (.iload 6, 2) := by decide +kernel
theorem dL_law_1414 : decode cL_law 1414 = .ok (.ifCond .ne 15, 3) := by decide +kernel
theorem dL_law_1417 : decode cL_law 1417 = .ok (.aload_n 3, 1) := by decide +kernel
theorem dL_law_1418 : decode cL_law 1418 = .ok (.iconst 0, 1) := by decide +kernel
theorem dL_law_1419 : decode cL_law 1419 = .ok (.laload, 1) := by decide +kernel
theorem dL_law_1420 : decode cL_law 1420 = .ok (.iload 7, 2) := by decide +kernel
theorem dL_law_1422 : decode cL_law 1422 = .ok (.i2l, 1) := by decide +kernel
theorem dL_law_1423 : decode cL_law 1423 = .ok (.lcmp, 1) := by decide +kernel
theorem dL_law_1424 : decode cL_law 1424 = .ok (.ifCond .eq 5, 3) := by decide +kernel
theorem dL_law_1427 : decode cL_law 1427 = .ok (.iconst 0, 1) := by decide +kernel
theorem dL_law_1428 : decode cL_law 1428 = .ok (.ireturn, 1) := by decide +kernel
theorem dL_law_1429 : decode cL_law 1429 = .ok (.goto 221, 3) := by decide +kernel
theorem dL_law_1432 : decode cL_law 1432 = .ok (.aload_n 1, 1) := by decide +kernel
theorem dL_law_1433 : decode cL_law 1433 = .ok (.aload_n 0, 1) := by decide +kernel
theorem dL_law_1434 : decode cL_law 1434 = .ok (.iload 5, 2) := by decide +kernel
theorem dL_law_1436 : decode cL_law 1436 = .ok (.iconst 1, 1) := by decide +kernel
theorem dL_law_1437 : decode cL_law 1437 = .ok (.iadd, 1) := by decide +kernel
theorem dL_law_1438 : decode cL_law 1438 = .ok (.iaload, 1) := by decide +kernel
theorem dL_law_1439 : decode cL_law 1439 = .ok (.aload_n 0, 1) := by decide +kernel
theorem dL_law_1440 : decode cL_law 1440 = .ok (.iload 5, 2) := by decide +kernel
theorem dL_law_1442 : decode cL_law 1442 = .ok (.iconst 2, 1) := by decide +kernel
theorem dL_law_1443 : decode cL_law 1443 = .ok (.iadd, 1) := by decide +kernel
theorem dL_law_1444 : decode cL_law 1444 = .ok (.iaload, 1) := by decide +kernel
theorem dL_law_1445 : decode cL_law 1445 = .ok (.aload_n 0, 1) := by decide +kernel
theorem dL_law_1446 : decode cL_law 1446 = .ok (.iload 5, 2) := by decide +kernel
theorem dL_law_1448 : decode cL_law 1448 = .ok (.iconst 3, 1) := by decide +kernel
theorem dL_law_1449 : decode cL_law 1449 = .ok (.iadd, 1) := by decide +kernel
theorem dL_law_1450 : decode cL_law 1450 = .ok (.iaload, 1) := by decide +kernel
theorem dL_law_1451 : decode cL_law 1451 = .ok (.aload_n 0, 1) := by decide +kernel
theorem dL_law_1452 : decode cL_law 1452 = .ok (.iload 5, 2) := by decide +kernel
theorem dL_law_1454 : decode cL_law 1454 = .ok (.iconst 4, 1) := by decide +kernel
theorem dL_law_1455 : decode cL_law 1455 = .ok (.iadd, 1) := by decide +kernel
theorem dL_law_1456 : decode cL_law 1456 = .ok (.iaload, 1) := by decide +kernel
theorem dL_law_1457 : decode cL_law 1457 = .ok (.aload_n 3, 1) := by decide +kernel
theorem dL_law_1458 : decode cL_law 1458 = .ok (.invokestatic 158, 3) := by decide +kernel
theorem dL_law_1461 : decode cL_law 1461 = .ok (.istore 6, 2) := by decide +kernel
theorem dL_law_1463 : decode cL_law 1463 = .ok (.aload_n 2, 1) := by decide +kernel
theorem dL_law_1464 : decode cL_law 1464 = .ok (.aload_n 0, 1) := by decide +kernel
theorem dL_law_1465 : decode cL_law 1465 = .ok (.iload 5, 2) := by decide +kernel
theorem dL_law_1467 : decode cL_law 1467 = .ok (.iconst 1, 1) := by decide +kernel
theorem dL_law_1468 : decode cL_law 1468 = .ok (.iadd, 1) := by decide +kernel
theorem dL_law_1469 : decode cL_law 1469 = .ok (.iaload, 1) := by decide +kernel
theorem dL_law_1470 : decode cL_law 1470 = .ok (.aload_n 0, 1) := by decide +kernel
theorem dL_law_1471 : decode cL_law 1471 = .ok (.iload 5, 2) := by decide +kernel
theorem dL_law_1473 : decode cL_law 1473 = .ok (.iconst 2, 1) := by decide +kernel
theorem dL_law_1474 : decode cL_law 1474 = .ok (.iadd, 1) := by decide +kernel
theorem dL_law_1475 : decode cL_law 1475 = .ok (.iaload, 1) := by decide +kernel
theorem dL_law_1476 : decode cL_law 1476 = .ok (.aload_n 0, 1) := by decide +kernel
theorem dL_law_1477 : decode cL_law 1477 = .ok (.iload 5, 2) := by decide +kernel
theorem dL_law_1479 : decode cL_law 1479 = .ok (.iconst 3, 1) := by decide +kernel
theorem dL_law_1480 : decode cL_law 1480 = .ok (.iadd, 1) := by decide +kernel
theorem dL_law_1481 : decode cL_law 1481 = .ok (.iaload, 1) := by decide +kernel
theorem dL_law_1482 : decode cL_law 1482 = .ok (.aload_n 0, 1) := by decide +kernel
theorem dL_law_1483 : decode cL_law 1483 = .ok (.iload 5, 2) := by decide +kernel
theorem dL_law_1485 : decode cL_law 1485 = .ok (.iconst 4, 1) := by decide +kernel
theorem dL_law_1486 : decode cL_law 1486 = .ok (.iadd, 1) := by decide +kernel
theorem dL_law_1487 : decode cL_law 1487 = .ok (.iaload, 1) := by decide +kernel
theorem dL_law_1488 : decode cL_law 1488 = .ok (.invokevirtual 160, 3) := by decide +kernel
theorem dL_law_1491 : decode cL_law 1491 = .ok (.istore 7, 2) := by decide +kernel
theorem dL_law_1493 : decode cL_law 1493 = .ok (.aload_n 2, 1) := by decide +kernel
theorem dL_law_1494 : decode cL_law 1494 = .ok (.invokevirtual 97, 3) := by decide +kernel
theorem dL_law_1497 : decode cL_law 1497 = .ok (.iload 6, 2) := by decide +kernel
theorem dL_law_1499 : decode cL_law 1499 = .ok (.if_icmp .eq 5, 3) := by decide +kernel
theorem dL_law_1502 : decode cL_law 1502 = .ok (.iconst 0, 1) := by decide +kernel
theorem dL_law_1503 : decode cL_law 1503 = .ok (.ireturn, 1) := by decide +kernel
theorem dL_law_1504 : decode cL_law 1504 = .ok (.iload 6, 2) := by decide +kernel
theorem dL_law_1506 : decode cL_law 1506 = .ok (.ifCond .ne 15, 3) := by decide +kernel
theorem dL_law_1509 : decode cL_law 1509 = .ok (.aload_n 3, 1) := by decide +kernel
theorem dL_law_1510 : decode cL_law 1510 = .ok (.iconst 0, 1) := by decide +kernel
theorem dL_law_1511 : decode cL_law 1511 = .ok (.laload, 1) := by decide +kernel
theorem dL_law_1512 : decode cL_law 1512 = .ok (.iload 7, 2) := by decide +kernel
theorem dL_law_1514 : decode cL_law 1514 = .ok (.i2l, 1) := by decide +kernel
theorem dL_law_1515 : decode cL_law 1515 = .ok (.lcmp, 1) := by decide +kernel
theorem dL_law_1516 : decode cL_law 1516 = .ok (.ifCond .eq 5, 3) := by decide +kernel
theorem dL_law_1519 : decode cL_law 1519 = .ok (.iconst 0, 1) := by decide +kernel
theorem dL_law_1520 : decode cL_law 1520 = .ok (.ireturn, 1) := by decide +kernel
theorem dL_law_1521 : decode cL_law 1521 = .ok (.goto 129, 3) := by decide +kernel
theorem dL_law_1524 : decode cL_law 1524 = .ok (.aload_n 1, 1) := by decide +kernel
theorem dL_law_1525 : decode cL_law 1525 = .ok (.aload_n 0, 1) := by decide +kernel
theorem dL_law_1526 : decode cL_law 1526 = .ok (.iload 5, 2) := by decide +kernel
theorem dL_law_1528 : decode cL_law 1528 = .ok (.iconst 1, 1) := by decide +kernel
theorem dL_law_1529 : decode cL_law 1529 = .ok (.iadd, 1) := by decide +kernel
theorem dL_law_1530 : decode cL_law 1530 = .ok (.iaload, 1) := by decide +kernel
theorem dL_law_1531 : decode cL_law 1531 = .ok (.aload_n 3, 1) := by decide +kernel
theorem dL_law_1532 : decode cL_law 1532 = .ok (.invokestatic 161, 3) := by decide +kernel
theorem dL_law_1535 : decode cL_law 1535 = .ok (.istore 6, 2) := by decide +kernel
theorem dL_law_1537 : decode cL_law 1537 = .ok (.aload_n 2, 1) := by decide +kernel
theorem dL_law_1538 : decode cL_law 1538 = .ok (.aload_n 0, 1) := by decide +kernel
theorem dL_law_1539 : decode cL_law 1539 = .ok (.iload 5, 2) := by decide +kernel
theorem dL_law_1541 : decode cL_law 1541 = .ok (.iconst 1, 1) := by decide +kernel
theorem dL_law_1542 : decode cL_law 1542 = .ok (.iadd, 1) := by decide +kernel
theorem dL_law_1543 : decode cL_law 1543 = .ok (.iaload, 1) := by decide +kernel
theorem dL_law_1544 : decode cL_law 1544 = .ok (.invokevirtual 163, 3) := by decide +kernel
theorem dL_law_1547 : decode cL_law 1547 = .ok (.istore 7, 2) := by decide +kernel
theorem dL_law_1549 : decode cL_law 1549 = .ok (.aload_n 2, 1) := by decide +kernel
theorem dL_law_1550 : decode cL_law 1550 = .ok (.invokevirtual 97, 3) := by decide +kernel
theorem dL_law_1553 : decode cL_law 1553 = .ok (.iload 6, 2) := by decide +kernel
theorem dL_law_1555 : decode cL_law 1555 = .ok (.if_icmp .eq 5, 3) := by decide +kernel
theorem dL_law_1558 : decode cL_law 1558 = .ok (.iconst 0, 1) := by decide +kernel
theorem dL_law_1559 : decode cL_law 1559 = .ok (.ireturn, 1) := by decide +kernel
theorem dL_law_1560 : decode cL_law 1560 = .ok (.iload 6, 2) := by decide +kernel
theorem dL_law_1562 : decode cL_law 1562 = .ok (.ifCond .ne 15, 3) := by decide +kernel
theorem dL_law_1565 : decode cL_law 1565 = .ok (.aload_n 3, 1) := by decide +kernel
theorem dL_law_1566 : decode cL_law 1566 = .ok (.iconst 0, 1) := by decide +kernel
theorem dL_law_1567 : decode cL_law 1567 = .ok (.laload, 1) := by decide +kernel
theorem dL_law_1568 : decode cL_law 1568 = .ok (.iload 7, 2) := by decide +kernel
theorem dL_law_1570 : decode cL_law 1570 = .ok (.i2l, 1) := by decide +kernel
theorem dL_law_1571 : decode cL_law 1571 = .ok (.lcmp, 1) := by decide +kernel
theorem dL_law_1572 : decode cL_law 1572 = .ok (.ifCond .eq 5, 3) := by decide +kernel
theorem dL_law_1575 : decode cL_law 1575 = .ok (.iconst 0, 1) := by decide +kernel
theorem dL_law_1576 : decode cL_law 1576 = .ok (.ireturn, 1) := by decide +kernel
theorem dL_law_1577 : decode cL_law 1577 = .ok (.goto 73, 3) := by decide +kernel
theorem dL_law_1580 : decode cL_law 1580 = .ok (.aload_n 1, 1) := by decide +kernel
theorem dL_law_1581 : decode cL_law 1581 = .ok (.aload_n 0, 1) := by decide +kernel
theorem dL_law_1582 : decode cL_law 1582 = .ok (.iload 5, 2) := by decide +kernel
theorem dL_law_1584 : decode cL_law 1584 = .ok (.iconst 1, 1) := by decide +kernel
theorem dL_law_1585 : decode cL_law 1585 = .ok (.iadd, 1) := by decide +kernel
theorem dL_law_1586 : decode cL_law 1586 = .ok (.iaload, 1) := by decide +kernel
theorem dL_law_1587 : decode cL_law 1587 = .ok (.aload_n 3, 1) := by decide +kernel
theorem dL_law_1588 : decode cL_law 1588 = .ok (.invokestatic 164, 3) := by decide +kernel
theorem dL_law_1591 : decode cL_law 1591 = .ok (.istore 6, 2) := by decide +kernel
theorem dL_law_1593 : decode cL_law 1593 = .ok (.aload_n 2, 1) := by decide +kernel
theorem dL_law_1594 : decode cL_law 1594 = .ok (.aload_n 0, 1) := by decide +kernel
theorem dL_law_1595 : decode cL_law 1595 = .ok (.iload 5, 2) := by decide +kernel
theorem dL_law_1597 : decode cL_law 1597 = .ok (.iconst 1, 1) := by decide +kernel
theorem dL_law_1598 : decode cL_law 1598 = .ok (.iadd, 1) := by decide +kernel
theorem dL_law_1599 : decode cL_law 1599 = .ok (.iaload, 1) := by decide +kernel
theorem dL_law_1600 : decode cL_law 1600 = .ok (.invokevirtual 166, 3) := by decide +kernel
theorem dL_law_1603 : decode cL_law 1603 = .ok (.istore 7, 2) := by decide +kernel
theorem dL_law_1605 : decode cL_law 1605 = .ok (.aload_n 2, 1) := by decide +kernel
theorem dL_law_1606 : decode cL_law 1606 = .ok (.invokevirtual 97, 3) := by decide +kernel
theorem dL_law_1609 : decode cL_law 1609 = .ok (.iload 6, 2) := by decide +kernel
theorem dL_law_1611 : decode cL_law 1611 = .ok (.if_icmp .eq 5, 3) := by decide +kernel
theorem dL_law_1614 : decode cL_law 1614 = .ok (.iconst 0, 1) := by decide +kernel
theorem dL_law_1615 : decode cL_law 1615 = .ok (.ireturn, 1) := by decide +kernel
theorem dL_law_1616 : decode cL_law 1616 = .ok (.iload 6, 2) := by decide +kernel
theorem dL_law_1618 : decode cL_law 1618 = .ok (.ifCond .ne 15, 3) := by decide +kernel
theorem dL_law_1621 : decode cL_law 1621 = .ok (.aload_n 3, 1) := by decide +kernel
theorem dL_law_1622 : decode cL_law 1622 = .ok (.iconst 0, 1) := by decide +kernel
theorem dL_law_1623 : decode cL_law 1623 = .ok (.laload, 1) := by decide +kernel
theorem dL_law_1624 : decode cL_law 1624 = .ok (.iload 7, 2) := by decide +kernel
theorem dL_law_1626 : decode cL_law 1626 = .ok (.i2l, 1) := by decide +kernel
theorem dL_law_1627 : decode cL_law 1627 = .ok (.lcmp, 1) := by decide +kernel
theorem dL_law_1628 : decode cL_law 1628 = .ok (.ifCond .eq 5, 3) := by decide +kernel
theorem dL_law_1631 : decode cL_law 1631 = .ok (.iconst 0, 1) := by decide +kernel
theorem dL_law_1632 : decode cL_law 1632 = .ok (.ireturn, 1) := by decide +kernel
theorem dL_law_1633 : decode cL_law 1633 = .ok (.goto 17, 3) := by decide +kernel
theorem dL_law_1636 : decode cL_law 1636 = .ok (.aload_n 1, 1) := by decide +kernel
theorem dL_law_1637 : decode cL_law 1637 = .ok (.invokevirtual 167, 3) := by decide +kernel
theorem dL_law_1640 : decode cL_law 1640 = .ok (.aload_n 2, 1) := by decide +kernel
theorem dL_law_1641 : decode cL_law 1641 = .ok (.invokevirtual 171, 3) := by decide +kernel
theorem dL_law_1644 : decode cL_law 1644 = .ok (.lcmp, 1) := by decide +kernel
theorem dL_law_1645 : decode cL_law 1645 = .ok (.ifCond .eq 5, 3) := by decide +kernel
theorem dL_law_1648 : decode cL_law 1648 = .ok (.iconst 0, 1) := by decide +kernel
theorem dL_law_1649 : decode cL_law 1649 = .ok (.ireturn, 1) := by decide +kernel
theorem dL_law_1650 : decode cL_law 1650 = .ok (.iinc 5 5, 3) := by decide +kernel
theorem dL_law_1653 : decode cL_law 1653 = .ok (.goto (-1625), 3) := by decide +kernel
theorem dL_law_1656 : decode cL_law 1656 = .ok (.iconst 1, 1) := by decide +kernel
theorem dL_law_1657 : decode cL_law 1657 = .ok (.ireturn, 1) := by decide +kernel
