theorem dl_588 : decode code 588 = .ok (.goto 131, 3) := by decide +kernel
theorem dl_591 : decode code 591 = .ok (.aload_n 1, 1) := by decide +kernel
theorem dl_592 : decode code 592 = .ok (.aload_n 0, 1) := by decide +kernel
theorem dl_593 : decode code 593 = .ok (.iload_n 3, 1) := by decide +kernel
theorem dl_594 : decode code 594 = .ok (.iconst 1, 1) := by decide +kernel
theorem dl_595 : decode code 595 = .ok (.iadd, 1) := by decide +kernel
theorem dl_596 : decode code 596 = .ok (.iaload, 1) := by decide +kernel
theorem dl_597 : decode code 597 = .ok (.invokevirtual 87, 3) := by decide +kernel
theorem dl_600 : decode code 600 = .ok (.pop, 1) := by decide +kernel
theorem dl_601 : decode code 601 = .ok (.aload_n 2, 1) := by decide +kernel
theorem dl_602 : decode code 602 = .ok (.aload_n 0, 1) := by decide +kernel
theorem dl_603 : decode code 603 = .ok (.iload_n 3, 1) := by decide +kernel
theorem dl_604 : decode code 604 = .ok (.iconst 1, 1) := by decide +kernel
theorem dl_605 : decode code 605 = .ok (.iadd, 1) := by decide +kernel
theorem dl_606 : decode code 606 = .ok (.iaload, 1) := by decide +kernel
theorem dl_607 : decode code 607 = .ok (.invokevirtual 90, 3) := by decide +kernel
theorem dl_610 : decode code 610 = .ok (.pop, 1) := by decide +kernel
theorem dl_611 : decode code 611 = .ok (.goto 108, 3) := by decide +kernel
theorem dl_614 : decode code 614 = .ok (.aload_n 1, 1) := by decide +kernel
theorem dl_615 : decode code 615 = .ok (.invokevirtual 91, 3) := by decide +kernel
theorem dl_618 : decode code 618 = .ok (.pop, 1) := by decide +kernel
theorem dl_619 : decode code 619 = .ok (.aload_n 2, 1) := by decide +kernel
theorem dl_620 : decode code 620 = .ok (.invokevirtual 94, 3) := by decide +kernel
theorem dl_623 : decode code 623 = .ok (.pop, 1) := by decide +kernel
theorem dl_624 : decode code 624 = .ok (.goto 95, 3) := by decide +kernel
theorem dl_627 : decode code 627 = .ok (.aload_n 1, 1) := by decide +kernel
theorem dl_628 : decode code 628 = .ok (.aload_n 0, 1) := by decide +kernel
theorem dl_629 : decode code 629 = .ok (.iload_n 3, 1) := by decide +kernel
theorem dl_630 : decode code 630 = .ok (.iconst 1, 1) := by decide +kernel
theorem dl_631 : decode code 631 = .ok (.iadd, 1) := by decide +kernel
theorem dl_632 : decode code 632 = .ok (.iaload, 1) := by decide +kernel
theorem dl_633 : decode code 633 = .ok (.invokevirtual 95, 3) := by decide +kernel
theorem dl_636 : decode code 636 = .ok (.pop, 1) := by decide +kernel
theorem dl_637 : decode code 637 = .ok (.aload_n 2, 1) := by decide +kernel
theorem dl_638 : decode code 638 = .ok (.aload_n 0, 1) := by decide +kernel
theorem dl_639 : decode code 639 = .ok (.iload_n 3, 1) := by decide +kernel
theorem dl_640 : decode code 640 = .ok (.iconst 1, 1) := by decide +kernel
theorem dl_641 : decode code 641 = .ok (.iadd, 1) := by decide +kernel
theorem dl_642 : decode code 642 = .ok (.iaload, 1) := by decide +kernel
theorem dl_643 : decode code 643 = .ok (.invokevirtual 98, 3) := by decide +kernel
theorem dl_646 : decode code 646 = .ok (.pop, 1) := by decide +kernel
theorem dl_647 : decode code 647 = .ok (.goto 72, 3) := by decide +kernel
theorem dl_650 : decode code 650 = .ok (.aload_n 1, 1) := by decide +kernel
theorem dl_651 : decode code 651 = .ok (.aload_n 0, 1) := by decide +kernel
theorem dl_652 : decode code 652 = .ok (.iload_n 3, 1) := by decide +kernel
theorem dl_653 : decode code 653 = .ok (.iconst 1, 1) := by decide +kernel
theorem dl_654 : decode code 654 = .ok (.iadd, 1) := by decide +kernel
theorem dl_655 : decode code 655 = .ok (.iaload, 1) := by decide +kernel
theorem dl_656 : decode code 656 = .ok (.aload_n 0, 1) := by decide +kernel
theorem dl_657 : decode code 657 = .ok (.iload_n 3, 1) := by decide +kernel
theorem dl_658 : decode code 658 = .ok (.iconst 2, 1) := by decide +kernel
theorem dl_659 : decode code 659 = .ok (.iadd, 1) := by decide +kernel
