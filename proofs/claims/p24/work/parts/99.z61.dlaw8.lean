theorem dl_660 : decode code 660 = .ok (.iaload, 1) := by decide +kernel
theorem dl_661 : decode code 661 = .ok (.invokevirtual 99, 3) := by decide +kernel
theorem dl_664 : decode code 664 = .ok (.pop, 1) := by decide +kernel
theorem dl_665 : decode code 665 = .ok (.aload_n 2, 1) := by decide +kernel
theorem dl_666 : decode code 666 = .ok (.aload_n 0, 1) := by decide +kernel
theorem dl_667 : decode code 667 = .ok (.iload_n 3, 1) := by decide +kernel
theorem dl_668 : decode code 668 = .ok (.iconst 1, 1) := by decide +kernel
theorem dl_669 : decode code 669 = .ok (.iadd, 1) := by decide +kernel
theorem dl_670 : decode code 670 = .ok (.iaload, 1) := by decide +kernel
theorem dl_671 : decode code 671 = .ok (.aload_n 0, 1) := by decide +kernel
theorem dl_672 : decode code 672 = .ok (.iload_n 3, 1) := by decide +kernel
theorem dl_673 : decode code 673 = .ok (.iconst 2, 1) := by decide +kernel
theorem dl_674 : decode code 674 = .ok (.iadd, 1) := by decide +kernel
theorem dl_675 : decode code 675 = .ok (.iaload, 1) := by decide +kernel
theorem dl_676 : decode code 676 = .ok (.invokevirtual 102, 3) := by decide +kernel
theorem dl_679 : decode code 679 = .ok (.pop, 1) := by decide +kernel
theorem dl_680 : decode code 680 = .ok (.goto 39, 3) := by decide +kernel
theorem dl_683 : decode code 683 = .ok (.aload_n 1, 1) := by decide +kernel
theorem dl_684 : decode code 684 = .ok (.aload_n 0, 1) := by decide +kernel
theorem dl_685 : decode code 685 = .ok (.iload_n 3, 1) := by decide +kernel
theorem dl_686 : decode code 686 = .ok (.iconst 1, 1) := by decide +kernel
theorem dl_687 : decode code 687 = .ok (.iadd, 1) := by decide +kernel
theorem dl_688 : decode code 688 = .ok (.iaload, 1) := by decide +kernel
theorem dl_689 : decode code 689 = .ok (.invokevirtual 103, 3) := by decide +kernel
theorem dl_692 : decode code 692 = .ok (.pop, 1) := by decide +kernel
theorem dl_693 : decode code 693 = .ok (.aload_n 2, 1) := by decide +kernel
theorem dl_694 : decode code 694 = .ok (.aload_n 0, 1) := by decide +kernel
theorem dl_695 : decode code 695 = .ok (.iload_n 3, 1) := by decide +kernel
theorem dl_696 : decode code 696 = .ok (.iconst 1, 1) := by decide +kernel
theorem dl_697 : decode code 697 = .ok (.iadd, 1) := by decide +kernel
theorem dl_698 : decode code 698 = .ok (.iaload, 1) := by decide +kernel
theorem dl_699 : decode code 699 = .ok (.invokevirtual 106, 3) := by decide +kernel
theorem dl_702 : decode code 702 = .ok (.pop, 1) := by decide +kernel
theorem dl_703 : decode code 703 = .ok (.goto 16, 3) := by decide +kernel
theorem dl_706 : decode code 706 = .ok (.aload_n 1, 1) := by decide +kernel
theorem dl_707 : decode code 707 = .ok (.invokevirtual 107, 3) := by decide +kernel
theorem dl_710 : decode code 710 = .ok (.aload_n 2, 1) := by decide +kernel
theorem dl_711 : decode code 711 = .ok (.invokevirtual 110, 3) := by decide +kernel
theorem dl_714 : decode code 714 = .ok (.if_icmp .eq 5, 3) := by decide +kernel
theorem dl_717 : decode code 717 = .ok (.iconst 0, 1) := by decide +kernel
theorem dl_718 : decode code 718 = .ok (.ireturn, 1) := by decide +kernel
theorem dl_719 : decode code 719 = .ok (.iinc 3 4, 3) := by decide +kernel
theorem dl_722 : decode code 722 = .ok (.goto (-704), 3) := by decide +kernel
theorem dl_725 : decode code 725 = .ok (.iconst 1, 1) := by decide +kernel
theorem dl_726 : decode code 726 = .ok (.ireturn, 1) := by decide +kernel
