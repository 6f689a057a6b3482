theorem d_law_512 : decode code 512 = .ok (.iconst 1, 1) := by decide +kernel
theorem d_law_513 : decode code 513 = .ok (.iadd, 1) := by decide +kernel
theorem d_law_514 : decode code 514 = .ok (.iaload, 1) := by decide +kernel
theorem d_law_515 : decode code 515 = .ok (.aload_n 0, 1) := by decide +kernel
theorem d_law_516 : decode code 516 = .ok (.iload_n 3, 1) := by decide +kernel
theorem d_law_517 : decode code 517 = .ok (.iconst 2, 1) := by decide +kernel
theorem d_law_518 : decode code 518 = .ok (.iadd, 1) := by decide +kernel
theorem d_law_519 : decode code 519 = .ok (.iaload, 1) := by decide +kernel
theorem d_law_520 : decode code 520 = .ok (.invokevirtual 62, 3) := by decide +kernel
theorem d_law_523 : decode code 523 = .ok (.aload_n 2, 1) := by decide +kernel
theorem d_law_524 : decode code 524 = .ok (.aload_n 0, 1) := by decide +kernel
theorem d_law_525 : decode code 525 = .ok (.iload_n 3, 1) := by decide +kernel
theorem d_law_526 : decode code 526 = .ok (.iconst 1, 1) := by decide +kernel
theorem d_law_527 : decode code 527 = .ok (.iadd, 1) := by decide +kernel
theorem d_law_528 : decode code 528 = .ok (.iaload, 1) := by decide +kernel
theorem d_law_529 : decode code 529 = .ok (.aload_n 0, 1) := by decide +kernel
theorem d_law_530 : decode code 530 = .ok (.iload_n 3, 1) := by decide +kernel
theorem d_law_531 : decode code 531 = .ok (.iconst 2, 1) := by decide +kernel
theorem d_law_532 : decode code 532 = .ok (.iadd, 1) := by decide +kernel
theorem d_law_533 : decode code 533 = .ok (.iaload, 1) := by decide +kernel
theorem d_law_534 : decode code 534 = .ok (.invokevirtual 66, 3) := by decide +kernel
theorem d_law_537 : decode code 537 = .ok (.if_icmp .eq 28, 3) := by decide +kernel
theorem d_law_540 : decode code 540 = .ok (.iconst 0, 1) := by decide +kernel
theorem d_law_541 : decode code 541 = .ok (.ireturn, 1) := by decide +kernel
theorem d_law_542 : decode code 542 = .ok (.aload_n 1, 1) := by decide +kernel
theorem d_law_543 : decode code 543 = .ok (.aload_n 0, 1) := by decide +kernel
theorem d_law_544 : decode code 544 = .ok (.iload_n 3, 1) := by decide +kernel
theorem d_law_545 : decode code 545 = .ok (.iconst 1, 1) := by decide +kernel
theorem d_law_546 : decode code 546 = .ok (.iadd, 1) := by decide +kernel
theorem d_law_547 : decode code 547 = .ok (.iaload, 1) := by decide +kernel
theorem d_law_548 : decode code 548 = .ok (.invokevirtual 67, 3) := by decide +kernel
theorem d_law_551 : decode code 551 = .ok (.aload_n 2, 1) := by decide +kernel
theorem d_law_552 : decode code 552 = .ok (.aload_n 0, 1) := by decide +kernel
theorem d_law_553 : decode code 553 = .ok (.iload_n 3, 1) := by decide +kernel
theorem d_law_554 : decode code 554 = .ok (.iconst 1, 1) := by decide +kernel
theorem d_law_555 : decode code 555 = .ok (.iadd, 1) := by decide +kernel
theorem d_law_556 : decode code 556 = .ok (.iaload, 1) := by decide +kernel
theorem d_law_557 : decode code 557 = .ok (.invokevirtual 70, 3) := by decide +kernel
theorem d_law_560 : decode code 560 = .ok (.if_icmp .eq 5, 3) := by decide +kernel
theorem d_law_563 : decode code 563 = .ok (.iconst 0, 1) := by decide +kernel
theorem d_law_564 : decode code 564 = .ok (.ireturn, 1) := by decide +kernel
theorem d_law_565 : decode code 565 = .ok (.iinc 3 5, 3) := by decide +kernel
theorem d_law_568 : decode code 568 = .ok (.goto (-550), 3) := by decide +kernel
theorem d_law_571 : decode code 571 = .ok (.iconst 1, 1) := by decide +kernel
theorem d_law_572 : decode code 572 = .ok (.ireturn, 1) := by decide +kernel
