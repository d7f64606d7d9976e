theorem d_La_law_513 : decode b_La_law 513 = .ok (.aload_n 1, 1) := by decide +kernel
theorem d_La_law_514 : decode b_La_law 514 = .ok (.aload_n 0, 1) := by decide +kernel
theorem d_La_law_515 : decode b_La_law 515 = .ok (.iload 4, 2) := by decide +kernel
theorem d_La_law_517 : decode b_La_law 517 = .ok (.iconst 1, 1) := by decide +kernel
theorem d_La_law_518 : decode b_La_law 518 = .ok (.iadd, 1) := by decide +kernel
theorem d_La_law_519 : decode b_La_law 519 = .ok (.iaload, 1) := by decide +kernel
theorem d_La_law_520 : decode b_La_law 520 = .ok (.aload_n 3, 1) := by decide +kernel
theorem d_La_law_521 : decode b_La_law 521 = .ok (.invokestatic 72, 3) := by decide +kernel
theorem d_La_law_524 : decode b_La_law 524 = .ok (.istore 5, 2) := by decide +kernel
theorem d_La_law_526 : decode b_La_law 526 = .ok (.aload_n 2, 1) := by decide +kernel
theorem d_La_law_527 : decode b_La_law 527 = .ok (.aload_n 0, 1) := by decide +kernel
theorem d_La_law_528 : decode b_La_law 528 = .ok (.iload 4, 2) := by decide +kernel
theorem d_La_law_530 : decode b_La_law 530 = .ok (.iconst 1, 1) := by decide +kernel
theorem d_La_law_531 : decode b_La_law 531 = .ok (.iadd, 1) := by decide +kernel
theorem d_La_law_532 : decode b_La_law 532 = .ok (.iaload, 1) := by decide +kernel
theorem d_La_law_533 : decode b_La_law 533 = .ok (.invokevirtual 74, 3) := by decide +kernel
theorem d_La_law_536 : decode b_La_law 536 = .ok (.istore 6, 2) := by decide +kernel
theorem d_La_law_538 : decode b_La_law 538 = .ok (.aload_n 2, 1) := by decide +kernel
theorem d_La_law_539 : decode b_La_law 539 = .ok (.invokevirtual 57, 3) := by decide +kernel
theorem d_La_law_542 : decode b_La_law 542 = .ok (.iload 5, 2) := by decide +kernel
theorem d_La_law_544 : decode b_La_law 544 = .ok (.if_icmp .eq 5, 3) := by decide +kernel
theorem d_La_law_547 : decode b_La_law 547 = .ok (.iconst 0, 1) := by decide +kernel
theorem d_La_law_548 : decode b_La_law 548 = .ok (.ireturn, 1) := by decide +kernel
theorem d_La_law_549 : decode b_La_law 549 = .ok (.iload 5, 2) := by decide +kernel
theorem d_La_law_551 : decode b_La_law 551 = .ok (.ifCond .ne 15, 3) := by decide +kernel
theorem d_La_law_554 : decode b_La_law 554 = .ok (.aload_n 3, 1) := by decide +kernel
theorem d_La_law_555 : decode b_La_law 555 = .ok (.iconst 0, 1) := by decide +kernel
theorem d_La_law_556 : decode b_La_law 556 = .ok (.laload, 1) := by decide +kernel
theorem d_La_law_557 : decode b_La_law 557 = .ok (.iload 6, 2) := by decide +kernel
theorem d_La_law_559 : decode b_La_law 559 = .ok (.i2l, 1) := by decide +kernel
theorem d_La_law_560 : decode b_La_law 560 = .ok (.lcmp, 1) := by decide +kernel
theorem d_La_law_561 : decode b_La_law 561 = .ok (.ifCond .eq 5, 3) := by decide +kernel
theorem d_La_law_564 : decode b_La_law 564 = .ok (.iconst 0, 1) := by decide +kernel
theorem d_La_law_565 : decode b_La_law 565 = .ok (.ireturn, 1) := by decide +kernel
theorem d_La_law_566 : decode b_La_law 566 = .ok (.goto 252, 3) := by decide +kernel
theorem d_La_law_569 : decode b_La_law 569 = .ok (.aload_n 1, 1) := by decide +kernel
theorem d_La_law_570 : decode b_La_law 570 = .ok (.aload_n 0, 1) := by decide +kernel
theorem d_La_law_571 : decode b_La_law 571 = .ok (.iload 4, 2) := by decide +kernel
theorem d_La_law_573 : decode b_La_law 573 = .ok (.iconst 1, 1) := by decide +kernel
theorem d_La_law_574 : decode b_La_law 574 = .ok (.iadd, 1) := by decide +kernel
theorem d_La_law_575 : decode b_La_law 575 = .ok (.iaload, 1) := by decide +kernel
theorem d_La_law_576 : decode b_La_law 576 = .ok (.aload_n 3, 1) := by decide +kernel
theorem d_La_law_577 : decode b_La_law 577 = .ok (.invokestatic 75, 3) := by decide +kernel
theorem d_La_law_580 : decode b_La_law 580 = .ok (.istore 5, 2) := by decide +kernel
theorem d_La_law_582 : decode b_La_law 582 = .ok (.aload_n 2, 1) := by decide +kernel
theorem d_La_law_583 : decode b_La_law 583 = .ok (.aload_n 0, 1) := by decide +kernel
theorem d_La_law_584 : decode b_La_law 584 = .ok (.iload 4, 2) := by decide +kernel
theorem d_La_law_586 : decode b_La_law 586 = .ok (.iconst 1, 1) := by decide +kernel
theorem d_La_law_587 : decode b_La_law 587 = .ok (.iadd, 1) := by decide +kernel
theorem d_La_law_588 : decode b_La_law 588 = .ok (.iaload, 1) := by decide +kernel
theorem d_La_law_589 : decode b_La_law 589 = .ok (.invokevirtual 77, 3) := by decide +kernel
theorem d_La_law_592 : decode b_La_law 592 = .ok (.istore 6, 2) := by decide +kernel
theorem d_La_law_594 : decode b_La_law 594 = .ok (.aload_n 2, 1) := by decide +kernel
theorem d_La_law_595 : decode b_La_law 595 = .ok (.invokevirtual 57, 3) := by decide +kernel
theorem d_La_law_598 : decode b_La_law 598 = .ok (.iload 5, 2) := by decide +kernel
theorem d_La_law_600 : decode b_La_law 600 = .ok (.if_icmp .eq 5, 3) := by decide +kernel
theorem d_La_law_603 : decode b_La_law 603 = .ok (.iconst 0, 1) := by decide +kernel
theorem d_La_law_604 : decode b_La_law 604 = .ok (.ireturn, 1) := by decide +kernel
theorem d_La_law_605 : decode b_La_law 605 = .ok (.iload 5, 2) := by decide +kernel
theorem d_La_law_607 : decode b_La_law 607 = .ok (.ifCond .ne 15, 3) := by decide +kernel
