theorem dc_L_law_378 : decode bc_L_law 378 = .ok (.iaload, 1) := by decide +kernel
theorem dc_L_law_379 : decode bc_L_law 379 = .ok (.aload_n 3, 1) := by decide +kernel
theorem dc_L_law_380 : decode bc_L_law 380 = .ok (.invokestatic 98, 3) := by decide +kernel
theorem dc_L_law_383 : decode bc_L_law 383 = .ok (.istore 5, 2) := by decide +kernel
theorem dc_L_law_385 : decode bc_L_law 385 = .ok (.aload_n 2, 1) := by decide +kernel
theorem dc_L_law_386 : decode bc_L_law 386 = .ok (.aload_n 0, 1) := by decide +kernel
theorem dc_L_law_387 : decode bc_L_law 387 = .ok (.iload 4, 2) := by decide +kernel
theorem dc_L_law_389 : decode bc_L_law 389 = .ok (.iconst 1, 1) := by decide +kernel
theorem dc_L_law_390 : decode bc_L_law 390 = .ok (.iadd, 1) := by decide +kernel
theorem dc_L_law_391 : decode bc_L_law 391 = .ok (.iaload, 1) := by decide +kernel
theorem dc_L_law_392 : decode bc_L_law 392 = .ok (.invokevirtual 100, 3) := by decide +kernel
theorem dc_L_law_395 : decode bc_L_law 395 = .ok (.istore 6, 2) := by decide +kernel
theorem dc_L_law_397 : decode bc_L_law 397 = .ok (.aload_n 2, 1) := by decide +kernel
theorem dc_L_law_398 : decode bc_L_law 398 = .ok (.invokevirtual 83, 3) := by decide +kernel
theorem dc_L_law_401 : decode bc_L_law 401 = .ok (.iload 5, 2) := by decide +kernel
theorem dc_L_law_403 : decode bc_L_law 403 = .ok (.if_icmp .eq 5, 3) := by decide +kernel
theorem dc_L_law_406 : decode bc_L_law 406 = .ok (.iconst 0, 1) := by decide +kernel
theorem dc_L_law_407 : decode bc_L_law 407 = .ok (.ireturn, 1) := by decide +kernel
theorem dc_L_law_408 : decode bc_L_law 408 = .ok (.iload 5, 2) := by decide +kernel
theorem dc_L_law_410 : decode bc_L_law 410 = .ok (.ifCond .ne 15, 3) := by decide +kernel
theorem dc_L_law_413 : decode bc_L_law 413 = .ok (.aload_n 3, 1) := by decide +kernel
theorem dc_L_law_414 : decode bc_L_law 414 = .ok (.iconst 0, 1) := by decide +kernel
theorem dc_L_law_415 : decode bc_L_law 415 = .ok (.laload, 1) := by decide +kernel
theorem dc_L_law_416 : decode bc_L_law 416 = .ok (.iload 6, 2) := by decide +kernel
theorem dc_L_law_418 : decode bc_L_law 418 = .ok (.i2l, 1) := by decide +kernel
theorem dc_L_law_419 : decode bc_L_law 419 = .ok (.lcmp, 1) := by decide +kernel
theorem dc_L_law_420 : decode bc_L_law 420 = .ok (.ifCond .eq 5, 3) := by decide +kernel
theorem dc_L_law_423 : decode bc_L_law 423 = .ok (.iconst 0, 1) := by decide +kernel
theorem dc_L_law_424 : decode bc_L_law 424 = .ok (.ireturn, 1) := by decide +kernel
theorem dc_L_law_425 : decode bc_L_law 425 = .ok (.goto 824, 3) := by decide +kernel
theorem dc_L_law_428 : decode bc_L_law 428 = .ok (.aload_n 1, 1) := by decide +kernel
theorem dc_L_law_429 : decode bc_L_law 429 = .ok (.aload_n 0, 1) := by decide +kernel
theorem dc_L_law_430 : decode bc_L_law 430 = .ok (.iload 4, 2) := by decide +kernel
theorem dc_L_law_432 : decode bc_L_law 432 = .ok (.iconst 1, 1) := by decide +kernel
theorem dc_L_law_433 : decode bc_L_law 433 = .ok (.iadd, 1) := by decide +kernel
theorem dc_L_law_434 : decode bc_L_law 434 = .ok (.iaload, 1) := by decide +kernel
theorem dc_L_law_435 : decode bc_L_law 435 = .ok (.aload_n 3, 1) := by decide +kernel
theorem dc_L_law_436 : decode bc_L_law 436 = .ok (.invokestatic 101, 3) := by decide +kernel
theorem dc_L_law_439 : decode bc_L_law 439 = .ok (.istore 5, 2) := by decide +kernel
theorem dc_L_law_441 : decode bc_L_law 441 = .ok (.aload_n 2, 1) := by decide +kernel
theorem dc_L_law_442 : decode bc_L_law 442 = .ok (.aload_n 0, 1) := by decide +kernel
theorem dc_L_law_443 : decode bc_L_law 443 = .ok (.iload 4, 2) := by decide +kernel
theorem dc_L_law_445 : decode bc_L_law 445 = .ok (.iconst 1, 1) := by decide +kernel
theorem dc_L_law_446 : decode bc_L_law 446 = .ok (.iadd, 1) := by decide +kernel
theorem dc_L_law_447 : decode bc_L_law 447 = .ok (.iaload, 1) := by decide +kernel
theorem dc_L_law_448 : decode bc_L_law 448 = .ok (.invokevirtual 103, 3) := by decide +kernel
theorem dc_L_law_451 : decode bc_L_law 451 = .ok (.istore 6, 2) := by decide +kernel
theorem dc_L_law_453 : decode bc_L_law 453 = .ok (.aload_n 2, 1) := by decide +kernel
theorem dc_L_law_454 : decode bc_L_law 454 = .ok (.invokevirtual 83, 3) := by decide +kernel
theorem dc_L_law_457 : decode bc_L_law 457 = .ok (.iload 5, 2) := by decide +kernel
theorem dc_L_law_459 : decode bc_L_law 459 = .ok (.if_icmp .eq 5, 3) := by decide +kernel
theorem dc_L_law_462 : decode bc_L_law 462 = .ok (.iconst 0, 1) := by decide +kernel
theorem dc_L_law_463 : decode bc_L_law 463 = .ok (.ireturn, 1) := by decide +kernel
theorem dc_L_law_464 : decode bc_L_law 464 = .ok (.iload 5, 2) := by decide +kernel
theorem dc_L_law_466 : decode bc_L_law 466 = .ok (.ifCond .ne 15, 3) := by decide +kernel
theorem dc_L_law_469 : decode bc_L_law 469 = .ok (.aload_n 3, 1) := by decide +kernel
theorem dc_L_law_470 : decode bc_L_law 470 = .ok (.iconst 0, 1) := by decide +kernel
theorem dc_L_law_471 : decode bc_L_law 471 = .ok (.laload, 1) := by decide +kernel
theorem dc_L_law_472 : decode bc_L_law 472 = .ok (.iload 6, 2) := by decide +kernel
theorem dc_L_law_474 : decode bc_L_law 474 = .ok (.i2l, 1) := by decide +kernel
theorem dc_L_law_475 : decode bc_L_law 475 = .ok (.lcmp, 1) := by decide +kernel
theorem dc_L_law_476 : decode bc_L_law 476 = .ok (.ifCond .eq 5, 3) := by decide +kernel
theorem dc_L_law_479 : decode bc_L_law 479 = .ok (.iconst 0, 1) := by decide +kernel
theorem dc_L_law_480 : decode bc_L_law 480 = .ok (.ireturn, 1) := by decide +kernel
theorem dc_L_law_481 : decode bc_L_law 481 = .ok (.goto 768, 3) := by decide +kernel
theorem dc_L_law_484 : decode bc_L_law 484 = .ok (.aload_n 1, 1) := by decide +kernel
theorem dc_L_law_485 : decode bc_L_law 485 = .ok (.aload_n 0, 1) := by decide +kernel
theorem dc_L_law_486 : decode bc_L_law 486 = .ok (.iload 4, 2) := by decide +kernel
theorem dc_L_law_488 : decode bc_L_law 488 = .ok (.iconst 1, 1) := by decide +kernel
theorem dc_L_law_489 : decode bc_L_law 489 = .ok (.iadd, 1) := by decide +kernel
theorem dc_L_law_490 : decode bc_L_law 490 = .ok (.iaload, 1) := by decide +kernel
theorem dc_L_law_491 : decode bc_L_law 491 = .ok (.aload_n 3, 1) := by decide +kernel
theorem dc_L_law_492 : decode bc_L_law 492 = .ok (.invokestatic 104, 3) := by decide +kernel
theorem dc_L_law_495 : decode bc_L_law 495 = .ok (.istore 5, 2) := by decide +kernel
theorem dc_L_law_497 : decode bc_L_law 497 = .ok (.aload_n 2, 1) := by decide +kernel
theorem dc_L_law_498 : decode bc_L_law 498 = .ok (.aload_n 0, 1) := by decide +kernel
theorem dc_L_law_499 : decode bc_L_law 499 = .ok (.iload 4, 2) := by decide +kernel
theorem dc_L_law_501 : decode bc_L_law 501 = .ok (.iconst 1, 1) := by decide +kernel
theorem dc_L_law_502 : decode bc_L_law 502 = .ok (.iadd, 1) := by decide +kernel
theorem dc_L_law_503 : decode bc_L_law 503 = .ok (.iaload, 1) := by decide +kernel
theorem dc_L_law_504 : decode bc_L_law 504 = .ok (.invokevirtual 106, 3) := by decide +kernel
theorem dc_L_law_507 : decode bc_L_law 507 = .ok (.istore 6, 2) := by decide +kernel
theorem dc_L_law_509 : decode bc_L_law 509 = .ok (.aload_n 2, 1) := by decide +kernel
theorem dc_L_law_510 : decode bc_L_law 510 = .ok (.invokevirtual 83, 3) := by decide +kernel
theorem dc_L_law_513 : decode bc_L_law 513 = .ok (.iload 5, 2) := by decide +kernel
theorem dc_L_law_515 : decode bc_L_law 515 = .ok (.if_icmp .eq 5, 3) := by decide +kernel
theorem dc_L_law_518 : decode bc_L_law 518 = .ok (.iconst 0, 1) := by decide +kernel
theorem dc_L_law_519 : decode bc_L_law 519 = .ok (.ireturn, 1) := by decide +kernel
theorem dc_L_law_520 : decode bc_L_law 520 = .ok (.iload 5, 2) := by decide +kernel
theorem dc_L_law_522 : decode bc_L_law 522 = .ok (.ifCond .ne 15, 3) := by decide +kernel
theorem dc_L_law_525 : decode bc_L_law 525 = .ok (.aload_n 3, 1) := by decide +kernel
theorem dc_L_law_526 : decode bc_L_law 526 = .ok (.iconst 0, 1) := by decide +kernel
theorem dc_L_law_527 : decode bc_L_law 527 = .ok (.laload, 1) := by decide +kernel
theorem dc_L_law_528 : decode bc_L_law 528 = .ok (.iload 6, 2) := by decide +kernel
theorem dc_L_law_530 : decode bc_L_law 530 = .ok (.i2l, 1) := by decide +kernel
