theorem d_Law_law_455 : decode b_Law_law 455 = .ok (.aload_n 0, 1) := by decide +kernel
theorem d_Law_law_456 : decode b_Law_law 456 = .ok (.iload 4, 2) := by decide +kernel
theorem d_Law_law_458 : decode b_Law_law 458 = .ok (.iconst 3, 1) := by decide +kernel
theorem d_Law_law_459 : decode b_Law_law 459 = .ok (.iadd, 1) := by decide +kernel
theorem d_Law_law_460 : decode b_Law_law 460 = .ok (.iaload, 1) := by decide +kernel
theorem d_Law_law_461 : decode b_Law_law 461 = .ok (.invokevirtual 89, 3) := by decide +kernel
theorem d_Law_law_464 : decode b_Law_law 464 = .ok (.istore 6, 2) := by decide +kernel
theorem d_Law_law_466 : decode b_Law_law 466 = .ok (.aload_n 2, 1) := by decide +kernel
theorem d_Law_law_467 : decode b_Law_law 467 = .ok (.invokevirtual 67, 3) := by decide +kernel
theorem d_Law_law_470 : decode b_Law_law 470 = .ok (.iload 5, 2) := by decide +kernel
theorem d_Law_law_472 : decode b_Law_law 472 = .ok (.if_icmp .eq 5, 3) := by decide +kernel
theorem d_Law_law_475 : decode b_Law_law 475 = .ok (.iconst 0, 1) := by decide +kernel
theorem d_Law_law_476 : decode b_Law_law 476 = .ok (.ireturn, 1) := by decide +kernel
theorem d_Law_law_477 : decode b_Law_law 477 = .ok (.iload 5, 2) := by decide +kernel
theorem d_Law_law_479 : decode b_Law_law 479 = .ok (.ifCond .ne 15, 3) := by decide +kernel
theorem d_Law_law_482 : decode b_Law_law 482 = .ok (.aload_n 3, 1) := by decide +kernel
theorem d_Law_law_483 : decode b_Law_law 483 = .ok (.iconst 0, 1) := by decide +kernel
theorem d_Law_law_484 : decode b_Law_law 484 = .ok (.laload, 1) := by decide +kernel
theorem d_Law_law_485 : decode b_Law_law 485 = .ok (.iload 6, 2) := by decide +kernel
theorem d_Law_law_487 : decode b_Law_law 487 = .ok (.i2l, 1) := by decide +kernel
theorem d_Law_law_488 : decode b_Law_law 488 = .ok (.lcmp, 1) := by decide +kernel
theorem d_Law_law_489 : decode b_Law_law 489 = .ok (.ifCond .eq 5, 3) := by decide +kernel
theorem d_Law_law_492 : decode b_Law_law 492 = .ok (.iconst 0, 1) := by decide +kernel
theorem d_Law_law_493 : decode b_Law_law 493 = .ok (.ireturn, 1) := by decide +kernel
theorem d_Law_law_494 : decode b_Law_law 494 = .ok (.goto 650, 3) := by decide +kernel
theorem d_Law_law_497 : decode b_Law_law 497 = .ok (.aload_n 1, 1) := by decide +kernel
theorem d_Law_law_498 : decode b_Law_law 498 = .ok (.aload_n 0, 1) := by decide +kernel
theorem d_Law_law_499 : decode b_Law_law 499 = .ok (.iload 4, 2) := by decide +kernel
theorem d_Law_law_501 : decode b_Law_law 501 = .ok (.iconst 1, 1) := by decide +kernel
theorem d_Law_law_502 : decode b_Law_law 502 = .ok (.iadd, 1) := by decide +kernel
theorem d_Law_law_503 : decode b_Law_law 503 = .ok (.iaload, 1) := by decide +kernel
theorem d_Law_law_504 : decode b_Law_law 504 = .ok (.aload_n 0, 1) := by decide +kernel
theorem d_Law_law_505 : decode b_Law_law 505 = .ok (.iload 4, 2) := by decide +kernel
theorem d_Law_law_507 : decode b_Law_law 507 = .ok (.iconst 2, 1) := by decide +kernel
theorem d_Law_law_508 : decode b_Law_law 508 = .ok (.iadd, 1) := by decide +kernel
theorem d_Law_law_509 : decode b_Law_law 509 = .ok (.iaload, 1) := by decide +kernel
theorem d_Law_law_510 : decode b_Law_law 510 = .ok (.i2l, 1) := by decide +kernel
theorem d_Law_law_511 : decode b_Law_law 511 = .ok (.bipush 32, 2) := by decide +kernel
theorem d_Law_law_513 : decode b_Law_law 513 = .ok (.lshl, 1) := by decide +kernel
theorem d_Law_law_514 : decode b_Law_law 514 = .ok (.aload_n 0, 1) := by decide +kernel
theorem d_Law_law_515 : decode b_Law_law 515 = .ok (.iload 4, 2) := by decide +kernel
theorem d_Law_law_517 : decode b_Law_law 517 = .ok (.iconst 3, 1) := by decide +kernel
theorem d_Law_law_518 : decode b_Law_law 518 = .ok (.iadd, 1) := by decide +kernel
theorem d_Law_law_519 : decode b_Law_law 519 = .ok (.iaload, 1) := by decide +kernel
theorem d_Law_law_520 : decode b_Law_law 520 = .ok (.i2l, 1) := by decide +kernel
theorem d_Law_law_521 : decode b_Law_law 521 = .ok (.ldc2_w 90, 3) := by decide +kernel
theorem d_Law_law_524 : decode b_Law_law 524 = .ok (.land, 1) := by decide +kernel
theorem d_Law_law_525 : decode b_Law_law 525 = .ok (.lor, 1) := by decide +kernel
theorem d_Law_law_526 : decode b_Law_law 526 = .ok (.invokevirtual 92, 3) := by decide +kernel
theorem d_Law_law_529 : decode b_Law_law 529 = .ok (.aload_n 2, 1) := by decide +kernel
theorem d_Law_law_530 : decode b_Law_law 530 = .ok (.aload_n 0, 1) := by decide +kernel
theorem d_Law_law_531 : decode b_Law_law 531 = .ok (.iload 4, 2) := by decide +kernel
theorem d_Law_law_533 : decode b_Law_law 533 = .ok (.iconst 1, 1) := by decide +kernel
theorem d_Law_law_534 : decode b_Law_law 534 = .ok (.iadd, 1) := by decide +kernel
theorem d_Law_law_535 : decode b_Law_law 535 = .ok (.iaload, 1) := by decide +kernel
theorem d_Law_law_536 : decode b_Law_law 536 = .ok (.aload_n 0, 1) := by decide +kernel
theorem d_Law_law_537 : decode b_Law_law 537 = .ok (.iload 4, 2) := by decide +kernel
theorem d_Law_law_539 : decode b_Law_law 539 = .ok (.iconst 2, 1) := by decide +kernel
theorem d_Law_law_540 : decode b_Law_law 540 = .ok (.iadd, 1) := by decide +kernel
theorem d_Law_law_541 : decode b_Law_law 541 = .ok (.iaload, 1) := by decide +kernel
