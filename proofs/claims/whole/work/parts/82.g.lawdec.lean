theorem d_Law_law_542 : decode b_Law_law 542 = .ok (.i2l, 1) := by decide +kernel
theorem d_Law_law_543 : decode b_Law_law 543 = .ok (.bipush 32, 2) := by decide +kernel
theorem d_Law_law_545 : decode b_Law_law 545 = .ok (.lshl, 1) := by decide +kernel
theorem d_Law_law_546 : decode b_Law_law 546 = .ok (.aload_n 0, 1) := by decide +kernel
theorem d_Law_law_547 : decode b_Law_law 547 = .ok (.iload 4, 2) := by decide +kernel
theorem d_Law_law_549 : decode b_Law_law 549 = .ok (.iconst 3, 1) := by decide +kernel
theorem d_Law_law_550 : decode b_Law_law 550 = .ok (.iadd, 1) := by decide +kernel
theorem d_Law_law_551 : decode b_Law_law 551 = .ok (.iaload, 1) := by decide +kernel
theorem d_Law_law_552 : decode b_Law_law 552 = .ok (.i2l, 1) := by decide +kernel
theorem d_Law_law_553 : decode b_Law_law 553 = .ok (.ldc2_w 90, 3) := by decide +kernel
theorem d_Law_law_556 : decode b_Law_law 556 = .ok (.land, 1) := by decide +kernel
theorem d_Law_law_557 : decode b_Law_law 557 = .ok (.lor, 1) := by decide +kernel
theorem d_Law_law_558 : decode b_Law_law 558 = .ok (.invokevirtual 96, 3) := by decide +kernel
theorem d_Law_law_561 : decode b_Law_law 561 = .ok (.if_icmp .eq 583, 3) := by decide +kernel
theorem d_Law_law_564 : decode b_Law_law 564 = .ok (.iconst 0, 1) := by decide +kernel
theorem d_Law_law_565 : decode b_Law_law 565 = .ok (.ireturn, 1) := by decide +kernel
theorem d_Law_law_566 : decode b_Law_law 566 = .ok (.aload_n 1, 1) := by decide +kernel
theorem d_Law_law_567 : decode b_Law_law 567 = .ok (.aload_n 0, 1) := by decide +kernel
theorem d_Law_law_568 : decode b_Law_law 568 = .ok (.iload 4, 2) := by decide +kernel
theorem d_Law_law_570 : decode b_Law_law 570 = .ok (.iconst 1, 1) := by decide +kernel
theorem d_Law_law_571 : decode b_Law_law 571 = .ok (.iadd, 1) := by decide +kernel
theorem d_Law_law_572 : decode b_Law_law 572 = .ok (.iaload, 1) := by decide +kernel
theorem d_Law_law_573 : decode b_Law_law 573 = .ok (.aload_n 0, 1) := by decide +kernel
theorem d_Law_law_574 : decode b_Law_law 574 = .ok (.iload 4, 2) := by decide +kernel
theorem d_Law_law_576 : decode b_Law_law 576 = .ok (.iconst 2, 1) := by decide +kernel
theorem d_Law_law_577 : decode b_Law_law 577 = .ok (.iadd, 1) := by decide +kernel
theorem d_Law_law_578 : decode b_Law_law 578 = .ok (.iaload, 1) := by decide +kernel
theorem d_Law_law_579 : decode b_Law_law 579 = .ok (.aload_n 0, 1) := by decide +kernel
theorem d_Law_law_580 : decode b_Law_law 580 = .ok (.iload 4, 2) := by decide +kernel
theorem d_Law_law_582 : decode b_Law_law 582 = .ok (.iconst 3, 1) := by decide +kernel
theorem d_Law_law_583 : decode b_Law_law 583 = .ok (.iadd, 1) := by decide +kernel
theorem d_Law_law_584 : decode b_Law_law 584 = .ok (.iaload, 1) := by decide +kernel
theorem d_Law_law_585 : decode b_Law_law 585 = .ok (.aload_n 3, 1) := by decide +kernel
theorem d_Law_law_586 : decode b_Law_law 586 = .ok (.invokestatic 97, 3) := by decide +kernel
theorem d_Law_law_589 : decode b_Law_law 589 = .ok (.istore 5, 2) := by decide +kernel
theorem d_Law_law_591 : decode b_Law_law 591 = .ok (.aload_n 2, 1) := by decide +kernel
theorem d_Law_law_592 : decode b_Law_law 592 = .ok (.aload_n 0, 1) := by decide +kernel
theorem d_Law_law_593 : decode b_Law_law 593 = .ok (.iload 4, 2) := by decide +kernel
theorem d_Law_law_595 : decode b_Law_law 595 = .ok (.iconst 1, 1) := by decide +kernel
theorem d_Law_law_596 : decode b_Law_law 596 = .ok (.iadd, 1) := by decide +kernel
theorem d_Law_law_597 : decode b_Law_law 597 = .ok (.iaload, 1) := by decide +kernel
theorem d_Law_law_598 : decode b_Law_law 598 = .ok (.aload_n 0, 1) := by decide +kernel
theorem d_Law_law_599 : decode b_Law_law 599 = .ok (.iload 4, 2) := by decide +kernel
theorem d_Law_law_601 : decode b_Law_law 601 = .ok (.iconst 2, 1) := by decide +kernel
theorem d_Law_law_602 : decode b_Law_law 602 = .ok (.iadd, 1) := by decide +kernel
theorem d_Law_law_603 : decode b_Law_law 603 = .ok (.iaload, 1) := by decide +kernel
theorem d_Law_law_604 : decode b_Law_law 604 = .ok (.aload_n 0, 1) := by decide +kernel
theorem d_Law_law_605 : decode b_Law_law 605 = .ok (.iload 4, 2) := by decide +kernel
theorem d_Law_law_607 : decode b_Law_law 607 = .ok (.iconst 3, 1) := by decide +kernel
theorem d_Law_law_608 : decode b_Law_law 608 = .ok (.iadd, 1) := by decide +kernel
theorem d_Law_law_609 : decode b_Law_law 609 = .ok (.iaload, 1) := by decide +kernel
theorem d_Law_law_610 : decode b_Law_law 610 = .ok (.invokevirtual 99, 3) := by decide +kernel
theorem d_Law_law_613 : decode b_Law_law 613 = .ok (.istore 6, 2) := by decide +kernel
theorem d_Law_law_615 : decode b_Law_law 615 = .ok (.aload_n 2, 1) := by decide +kernel
theorem d_Law_law_616 : decode b_Law_law 616 = .ok (.invokevirtual 67, 3) := by decide +kernel
theorem d_Law_law_619 : decode b_Law_law 619 = .ok (.iload 5, 2) := by decide +kernel
theorem d_Law_law_621 : decode b_Law_law 621 = .ok (.if_icmp .eq 5, 3) := by decide +kernel
theorem d_Law_law_624 : decode b_Law_law 624 = .ok (.iconst 0, 1) := by decide +kernel
theorem d_Law_law_625 : decode b_Law_law 625 = .ok (.ireturn, 1) := by decide +kernel
theorem d_Law_law_626 : decode b_Law_law 626 = .ok (.iload 5, 2) := by decide +kernel
