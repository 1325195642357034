theorem dl_514 : decode code 514 = .ok (.iaload, 1) := by decide +kernel
theorem dl_515 : decode code 515 = .ok (.invokevirtual 71, 3) := by decide +kernel
theorem dl_518 : decode code 518 = .ok (.pop, 1) := by decide +kernel
theorem dl_519 : decode code 519 = .ok (.aload_n 2, 1) := by decide +kernel
theorem dl_520 : decode code 520 = .ok (.aload_n 0, 1) := by decide +kernel
theorem dl_521 : decode code 521 = .ok (.iload_n 3, 1) := by decide +kernel
theorem dl_522 : decode code 522 = .ok (.iconst 1, 1) := by decide +kernel
theorem dl_523 : decode code 523 = .ok (.iadd, 1) := by decide +kernel
theorem dl_524 : decode code 524 = .ok (.iaload, 1) := by decide +kernel
theorem dl_525 : decode code 525 = .ok (.invokevirtual 74, 3) := by decide +kernel
theorem dl_528 : decode code 528 = .ok (.pop, 1) := by decide +kernel
theorem dl_529 : decode code 529 = .ok (.goto 190, 3) := by decide +kernel
theorem dl_532 : decode code 532 = .ok (.aload_n 1, 1) := by decide +kernel
theorem dl_533 : decode code 533 = .ok (.invokevirtual 75, 3) := by decide +kernel
theorem dl_536 : decode code 536 = .ok (.pop, 1) := by decide +kernel
theorem dl_537 : decode code 537 = .ok (.aload_n 2, 1) := by decide +kernel
theorem dl_538 : decode code 538 = .ok (.invokevirtual 78, 3) := by decide +kernel
theorem dl_541 : decode code 541 = .ok (.pop, 1) := by decide +kernel
theorem dl_542 : decode code 542 = .ok (.goto 177, 3) := by decide +kernel
theorem dl_545 : decode code 545 = .ok (.aload_n 1, 1) := by decide +kernel
theorem dl_546 : decode code 546 = .ok (.aload_n 0, 1) := by decide +kernel
theorem dl_547 : decode code 547 = .ok (.iload_n 3, 1) := by decide +kernel
theorem dl_548 : decode code 548 = .ok (.iconst 1, 1) := by decide +kernel
theorem dl_549 : decode code 549 = .ok (.iadd, 1) := by decide +kernel
theorem dl_550 : decode code 550 = .ok (.iaload, 1) := by decide +kernel
theorem dl_551 : decode code 551 = .ok (.invokevirtual 79, 3) := by decide +kernel
theorem dl_554 : decode code 554 = .ok (.pop, 1) := by decide +kernel
theorem dl_555 : decode code 555 = .ok (.aload_n 2, 1) := by decide +kernel
theorem dl_556 : decode code 556 = .ok (.aload_n 0, 1) := by decide +kernel
theorem dl_557 : decode code 557 = .ok (.iload_n 3, 1) := by decide +kernel
theorem dl_558 : decode code 558 = .ok (.iconst 1, 1) := by decide +kernel
theorem dl_559 : decode code 559 = .ok (.iadd, 1) := by decide +kernel
theorem dl_560 : decode code 560 = .ok (.iaload, 1) := by decide +kernel
theorem dl_561 : decode code 561 = .ok (.invokevirtual 82, 3) := by decide +kernel
theorem dl_564 : decode code 564 = .ok (.pop, 1) := by decide +kernel
theorem dl_565 : decode code 565 = .ok (.goto 154, 3) := by decide +kernel
theorem dl_568 : decode code 568 = .ok (.aload_n 1, 1) := by decide +kernel
theorem dl_569 : decode code 569 = .ok (.aload_n 0, 1) := by decide +kernel
theorem dl_570 : decode code 570 = .ok (.iload_n 3, 1) := by decide +kernel
theorem dl_571 : decode code 571 = .ok (.iconst 1, 1) := by decide +kernel
theorem dl_572 : decode code 572 = .ok (.iadd, 1) := by decide +kernel
theorem dl_573 : decode code 573 = .ok (.iaload, 1) := by decide +kernel
theorem dl_574 : decode code 574 = .ok (.invokevirtual 83, 3) := by decide +kernel
theorem dl_577 : decode code 577 = .ok (.pop, 1) := by decide +kernel
theorem dl_578 : decode code 578 = .ok (.aload_n 2, 1) := by decide +kernel
theorem dl_579 : decode code 579 = .ok (.aload_n 0, 1) := by decide +kernel
theorem dl_580 : decode code 580 = .ok (.iload_n 3, 1) := by decide +kernel
theorem dl_581 : decode code 581 = .ok (.iconst 1, 1) := by decide +kernel
theorem dl_582 : decode code 582 = .ok (.iadd, 1) := by decide +kernel
theorem dl_583 : decode code 583 = .ok (.iaload, 1) := by decide +kernel
theorem dl_584 : decode code 584 = .ok (.invokevirtual 86, 3) := by decide +kernel
theorem dl_587 : decode code 587 = .ok (.pop, 1) := by decide +kernel
