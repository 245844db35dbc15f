theorem dL_runs_391 : decode cL_runs 391 = .ok (.aload 10, 2) := by decide +kernel
theorem dL_runs_393 : decode cL_runs 393 = .ok (.iconst 1, 1) := by decide +kernel
theorem dL_runs_394 : decode cL_runs 394 = .ok (.iaload, 1) := by decide +kernel
theorem dL_runs_395 : decode cL_runs 395 = .ok (.invokestatic 83, 3) := by decide +kernel
theorem dL_runs_398 : decode cL_runs 398 = .ok (.istore 18, 2) := by decide +kernel
theorem dL_runs_400 : decode cL_runs 400 = .ok (.aload 4, 2) := by decide +kernel
theorem dL_runs_402 : decode cL_runs 402 = .ok (.iload 18, 2) := by decide +kernel
theorem dL_runs_404 : decode cL_runs 404 = .ok (.iconst 3, 1) := by decide +kernel
theorem dL_runs_405 : decode cL_runs 405 = .ok (.iconst 3, 1) := by decide +kernel
theorem dL_runs_406 : decode cL_runs 406 = .ok (.invokestatic 59, 3) := by decide +kernel
theorem dL_runs_409 : decode cL_runs 409 = .ok (.iconst 2, 1) := by decide +kernel
theorem dL_runs_410 : decode cL_runs 410 = .ok (.if_icmp .gt 11, 3) := by decide +kernel
theorem dL_runs_413 : decode cL_runs 413 = .ok (.aload 6, 2) := by decide +kernel
theorem dL_runs_415 : decode cL_runs 415 = .ok (.iload 18, 2) := by decide +kernel
theorem dL_runs_417 : decode cL_runs 417 = .ok (.iaload, 1) := by decide +kernel
theorem dL_runs_418 : decode cL_runs 418 = .ok (.ifCond .lt 24, 3) := by decide +kernel
theorem dL_runs_421 : decode cL_runs 421 = .ok (.aload_n 0, 1) := by decide +kernel
theorem dL_runs_422 : decode cL_runs 422 = .ok (.iload 18, 2) := by decide +kernel
theorem dL_runs_424 : decode cL_runs 424 = .ok (.invokestatic 132, 3) := by decide +kernel
theorem dL_runs_427 : decode cL_runs 427 = .ok (.bipush (-73), 2) := by decide +kernel
theorem dL_runs_429 : decode cL_runs 429 = .ok (.if_icmp .ne 7, 3) := by decide +kernel
theorem dL_runs_432 : decode cL_runs 432 = .ok (.iconst 1, 1) := by decide +kernel
theorem dL_runs_433 : decode cL_runs 433 = .ok (.goto 4, 3) := by decide +kernel
theorem dL_runs_436 : decode cL_runs 436 = .ok (.iconst 0, 1) := by decide +kernel
theorem dL_runs_437 : decode cL_runs 437 = .ok (.istore 17, 2) := by decide +kernel
theorem dL_runs_439 : decode cL_runs 439 = .ok (.goto 52, 3) := by decide +kernel
theorem dL_runs_442 : decode cL_runs 442 = .ok (.iconst 1, 1) := by decide +kernel
theorem dL_runs_443 : decode cL_runs 443 = .ok (.aload 4, 2) := by decide +kernel
theorem dL_runs_445 : decode cL_runs 445 = .ok (.aload 6, 2) := by decide +kernel
theorem dL_runs_447 : decode cL_runs 447 = .ok (.aload 10, 2) := by decide +kernel
theorem dL_runs_449 : decode cL_runs 449 = .ok (.iload 18, 2) := by decide +kernel
theorem dL_runs_451 : decode cL_runs 451 = .ok (.invokestatic 112, 3) := by decide +kernel
theorem dL_runs_454 : decode cL_runs 454 = .ok (.iadd, 1) := by decide +kernel
theorem dL_runs_455 : decode cL_runs 455 = .ok (.istore 19, 2) := by decide +kernel
theorem dL_runs_457 : decode cL_runs 457 = .ok (.iload 18, 2) := by decide +kernel
theorem dL_runs_459 : decode cL_runs 459 = .ok (.bipush 7, 2) := by decide +kernel
theorem dL_runs_461 : decode cL_runs 461 = .ok (.aload_n 3, 1) := by decide +kernel
theorem dL_runs_462 : decode cL_runs 462 = .ok (.aload 4, 2) := by decide +kernel
theorem dL_runs_464 : decode cL_runs 464 = .ok (.aload 6, 2) := by decide +kernel
theorem dL_runs_466 : decode cL_runs 466 = .ok (.aload 8, 2) := by decide +kernel
theorem dL_runs_468 : decode cL_runs 468 = .ok (.aload 10, 2) := by decide +kernel
theorem dL_runs_470 : decode cL_runs 470 = .ok (.invokestatic 67, 3) := by decide +kernel
theorem dL_runs_473 : decode cL_runs 473 = .ok (.aload_n 0, 1) := by decide +kernel
theorem dL_runs_474 : decode cL_runs 474 = .ok (.iload 18, 2) := by decide +kernel
theorem dL_runs_476 : decode cL_runs 476 = .ok (.invokestatic 132, 3) := by decide +kernel
theorem dL_runs_479 : decode cL_runs 479 = .ok (.iload 19, 2) := by decide +kernel
theorem dL_runs_481 : decode cL_runs 481 = .ok (.if_icmp .ne 7, 3) := by decide +kernel
theorem dL_runs_484 : decode cL_runs 484 = .ok (.iconst 1, 1) := by decide +kernel
theorem dL_runs_485 : decode cL_runs 485 = .ok (.goto 4, 3) := by decide +kernel
theorem dL_runs_488 : decode cL_runs 488 = .ok (.iconst 0, 1) := by decide +kernel
theorem dL_runs_489 : decode cL_runs 489 = .ok (.istore 17, 2) := by decide +kernel
theorem dL_runs_491 : decode cL_runs 491 = .ok (.goto 56, 3) := by decide +kernel
theorem dL_runs_494 : decode cL_runs 494 = .ok (.iload 15, 2) := by decide +kernel
theorem dL_runs_496 : decode cL_runs 496 = .ok (.bipush 14, 2) := by decide +kernel
theorem dL_runs_498 : decode cL_runs 498 = .ok (.if_icmp .le 49, 3) := by decide +kernel
theorem dL_runs_501 : decode cL_runs 501 = .ok (.aload 10, 2) := by decide +kernel
theorem dL_runs_503 : decode cL_runs 503 = .ok (.iconst 2, 1) := by decide +kernel
theorem dL_runs_504 : decode cL_runs 504 = .ok (.iaload, 1) := by decide +kernel
theorem dL_runs_505 : decode cL_runs 505 = .ok (.istore 18, 2) := by decide +kernel
theorem dL_runs_507 : decode cL_runs 507 = .ok (.aload_n 3, 1) := by decide +kernel
theorem dL_runs_508 : decode cL_runs 508 = .ok (.aload 4, 2) := by decide +kernel
theorem dL_runs_510 : decode cL_runs 510 = .ok (.aload 5, 2) := by decide +kernel
theorem dL_runs_512 : decode cL_runs 512 = .ok (.aload 6, 2) := by decide +kernel
theorem dL_runs_514 : decode cL_runs 514 = .ok (.aload 7, 2) := by decide +kernel
theorem dL_runs_516 : decode cL_runs 516 = .ok (.aload 8, 2) := by decide +kernel
theorem dL_runs_518 : decode cL_runs 518 = .ok (.aload 9, 2) := by decide +kernel
theorem dL_runs_520 : decode cL_runs 520 = .ok (.aload 10, 2) := by decide +kernel
theorem dL_runs_522 : decode cL_runs 522 = .ok (.invokestatic 150, 3) := by decide +kernel
theorem dL_runs_525 : decode cL_runs 525 = .ok (.aload_n 0, 1) := by decide +kernel
theorem dL_runs_526 : decode cL_runs 526 = .ok (.iconst 1, 1) := by decide +kernel
theorem dL_runs_527 : decode cL_runs 527 = .ok (.invokestatic 134, 3) := by decide +kernel
theorem dL_runs_530 : decode cL_runs 530 = .ok (.aload 10, 2) := by decide +kernel
theorem dL_runs_532 : decode cL_runs 532 = .ok (.iconst 2, 1) := by decide +kernel
theorem dL_runs_533 : decode cL_runs 533 = .ok (.iaload, 1) := by decide +kernel
theorem dL_runs_534 : decode cL_runs 534 = .ok (.iload 18, 2) := by decide +kernel
theorem dL_runs_536 : decode cL_runs 536 = .ok (.isub, 1) := by decide +kernel
theorem dL_runs_537 : decode cL_runs 537 = .ok (.if_icmp .ne 7, 3) := by decide +kernel
theorem dL_runs_540 : decode cL_runs 540 = .ok (.iconst 1, 1) := by decide +kernel
theorem dL_runs_541 : decode cL_runs 541 = .ok (.goto 4, 3) := by decide +kernel
theorem dL_runs_544 : decode cL_runs 544 = .ok (.iconst 0, 1) := by decide +kernel
theorem dL_runs_545 : decode cL_runs 545 = .ok (.istore 17, 2) := by decide +kernel
theorem dL_runs_547 : decode cL_runs 547 = .ok (.iload 17, 2) := by decide +kernel
theorem dL_runs_549 : decode cL_runs 549 = .ok (.ifCond .eq 28, 3) := by decide +kernel
theorem dL_runs_552 : decode cL_runs 552 = .ok (.aload_n 0, 1) := by decide +kernel
theorem dL_runs_553 : decode cL_runs 553 = .ok (.iload 12, 2) := by decide +kernel
theorem dL_runs_555 : decode cL_runs 555 = .ok (.iconst 5, 1) := by decide +kernel
theorem dL_runs_556 : decode cL_runs 556 = .ok (.ishr, 1) := by decide +kernel
theorem dL_runs_557 : decode cL_runs 557 = .ok (.iload 13, 2) := by decide +kernel
theorem dL_runs_559 : decode cL_runs 559 = .ok (.ixor, 1) := by decide +kernel
theorem dL_runs_560 : decode cL_runs 560 = .ok (.aload_n 3, 1) := by decide +kernel
theorem dL_runs_561 : decode cL_runs 561 = .ok (.aload 4, 2) := by decide +kernel
theorem dL_runs_563 : decode cL_runs 563 = .ok (.aload 5, 2) := by decide +kernel
theorem dL_runs_565 : decode cL_runs 565 = .ok (.aload 6, 2) := by decide +kernel
theorem dL_runs_567 : decode cL_runs 567 = .ok (.aload 8, 2) := by decide +kernel
theorem dL_runs_569 : decode cL_runs 569 = .ok (.aload 10, 2) := by decide +kernel
theorem dL_runs_571 : decode cL_runs 571 = .ok (.invokestatic 138, 3) := by decide +kernel
theorem dL_runs_574 : decode cL_runs 574 = .ok (.ifCond .ne 5, 3) := by decide +kernel
theorem dL_runs_577 : decode cL_runs 577 = .ok (.iconst 0, 1) := by decide +kernel
theorem dL_runs_578 : decode cL_runs 578 = .ok (.ireturn, 1) := by decide +kernel
theorem dL_runs_579 : decode cL_runs 579 = .ok (.iinc 11 1, 3) := by decide +kernel
theorem dL_runs_582 : decode cL_runs 582 = .ok (.goto (-476), 3) := by decide +kernel
theorem dL_runs_585 : decode cL_runs 585 = .ok (.iconst 1, 1) := by decide +kernel
theorem dL_runs_586 : decode cL_runs 586 = .ok (.ireturn, 1) := by decide +kernel
theorem dL_law_0 : decode cL_law 0 = .ok (.bipush 60, 2) := by decide +kernel
theorem dL_law_2 : decode cL_law 2 = .ok (.newarray .int, 2) := by decide +kernel
theorem dL_law_4 : decode cL_law 4 = .ok (.astore_n 1, 1) := by decide +kernel
theorem dL_law_5 : decode cL_law 5 = .ok (.bipush 60, 2) := by decide +kernel
theorem dL_law_7 : decode cL_law 7 = .ok (.newarray .int, 2) := by decide +kernel
theorem dL_law_9 : decode cL_law 9 = .ok (.astore_n 2, 1) := by decide +kernel
theorem dL_law_10 : decode cL_law 10 = .ok (.bipush 60, 2) := by decide +kernel
theorem dL_law_12 : decode cL_law 12 = .ok (.newarray .int, 2) := by decide +kernel
theorem dL_law_14 : decode cL_law 14 = .ok (.astore_n 3, 1) := by decide +kernel
theorem dL_law_15 : decode cL_law 15 = .ok (.bipush 60, 2) := by decide +kernel
theorem dL_law_17 : decode cL_law 17 = .ok (.newarray .int, 2) := by decide +kernel
theorem dL_law_19 : decode cL_law 19 = .ok (.astore 4, 2) := by decide +kernel
theorem dL_law_21 : decode cL_law 21 = .ok (.bipush 60, 2) := by decide +kernel
theorem dL_law_23 : decode cL_law 23 = .ok (.newarray .int, 2) := by decide +kernel
theorem dL_law_25 : decode cL_law 25 = .ok (.astore 5, 2) := by decide +kernel
theorem dL_law_27 : decode cL_law 27 = .ok (.bipush 60, 2) := by decide +kernel
theorem dL_law_29 : decode cL_law 29 = .ok (.newarray .int, 2) := by decide +kernel
theorem dL_law_31 : decode cL_law 31 = .ok (.astore 6, 2) := by decide +kernel
theorem dL_law_33 : decode cL_law 33 = .ok (.bipush 60, 2) := by decide +kernel
theorem dL_law_35 : decode cL_law 35 = .ok (.newarray .int, 2) := by decide +kernel
theorem dL_law_37 : decode cL_law 37 = .ok (.astore 7, 2) := by decide +kernel
theorem dL_law_39 : decode cL_law 39 = .ok (.iconst 0, 1) := by decide +kernel
theorem dL_law_40 : decode cL_law 40 = .ok (.istore 8, 2) := by decide +kernel
theorem dL_law_42 : decode cL_law 42 = .ok (.iload 8, 2) := by decide +kernel
theorem dL_law_44 : decode cL_law 44 = .ok (.iconst 3, 1) := by decide +kernel
theorem dL_law_45 : decode cL_law 45 = .ok (.if_icmp .ge 41, 3) := by decide +kernel
theorem dL_law_48 : decode cL_law 48 = .ok (.new 9, 3) := by decide +kernel
theorem dL_law_51 : decode cL_law 51 = .ok (.dup, 1) := by decide +kernel
theorem dL_law_52 : decode cL_law 52 = .ok (.invokespecial 154, 3) := by decide +kernel
theorem dL_law_55 : decode cL_law 55 = .ok (.aload_n 0, 1) := by decide +kernel
theorem dL_law_56 : decode cL_law 56 = .ok (.bipush 50, 2) := by decide +kernel
theorem dL_law_58 : decode cL_law 58 = .ok (.iload 8, 2) := by decide +kernel
theorem dL_law_60 : decode cL_law 60 = .ok (.imul, 1) := by decide +kernel
theorem dL_law_61 : decode cL_law 61 = .ok (.aload_n 1, 1) := by decide +kernel
theorem dL_law_62 : decode cL_law 62 = .ok (.aload_n 2, 1) := by decide +kernel
theorem dL_law_63 : decode cL_law 63 = .ok (.aload_n 3, 1) := by decide +kernel
theorem dL_law_64 : decode cL_law 64 = .ok (.aload 4, 2) := by decide +kernel
theorem dL_law_66 : decode cL_law 66 = .ok (.aload 5, 2) := by decide +kernel
theorem dL_law_68 : decode cL_law 68 = .ok (.aload 6, 2) := by decide +kernel
theorem dL_law_70 : decode cL_law 70 = .ok (.aload 7, 2) := by decide +kernel
theorem dL_law_72 : decode cL_law 72 = .ok (.invokestatic 155, 3) := by decide +kernel
theorem dL_law_75 : decode cL_law 75 = .ok (.ifCond .ne 5, 3) := by decide +kernel
theorem dL_law_78 : decode cL_law 78 = .ok (.iconst 0, 1) := by decide +kernel
theorem dL_law_79 : decode cL_law 79 = .ok (.ireturn, 1) := by decide +kernel
theorem dL_law_80 : decode cL_law 80 = .ok (.iinc 8 1, 3) := by decide +kernel
theorem dL_law_83 : decode cL_law 83 = .ok (.goto (-41), 3) := by decide +kernel
theorem dL_law_86 : decode cL_law 86 = .ok (.iconst 1, 1) := by decide +kernel
theorem dL_law_87 : decode cL_law 87 = .ok (.ireturn, 1) := by decide +kernel
