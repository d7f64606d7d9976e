theorem d_La_law_610 : decode b_La_law 610 = .ok (.aload_n 3, 1) := by decide +kernel
theorem d_La_law_611 : decode b_La_law 611 = .ok (.iconst 0, 1) := by decide +kernel
theorem d_La_law_612 : decode b_La_law 612 = .ok (.laload, 1) := by decide +kernel
theorem d_La_law_613 : decode b_La_law 613 = .ok (.iload 6, 2) := by decide +kernel
theorem d_La_law_615 : decode b_La_law 615 = .ok (.i2l, 1) := by decide +kernel
theorem d_La_law_616 : decode b_La_law 616 = .ok (.lcmp, 1) := by decide +kernel
theorem d_La_law_617 : decode b_La_law 617 = .ok (.ifCond .eq 5, 3) := by decide +kernel
theorem d_La_law_620 : decode b_La_law 620 = .ok (.iconst 0, 1) := by decide +kernel
theorem d_La_law_621 : decode b_La_law 621 = .ok (.ireturn, 1) := by decide +kernel
theorem d_La_law_622 : decode b_La_law 622 = .ok (.goto 196, 3) := by decide +kernel
theorem d_La_law_625 : decode b_La_law 625 = .ok (.aload_n 1, 1) := by decide +kernel
theorem d_La_law_626 : decode b_La_law 626 = .ok (.aload_n 0, 1) := by decide +kernel
theorem d_La_law_627 : decode b_La_law 627 = .ok (.iload 4, 2) := by decide +kernel
theorem d_La_law_629 : decode b_La_law 629 = .ok (.iconst 1, 1) := by decide +kernel
theorem d_La_law_630 : decode b_La_law 630 = .ok (.iadd, 1) := by decide +kernel
theorem d_La_law_631 : decode b_La_law 631 = .ok (.iaload, 1) := by decide +kernel
theorem d_La_law_632 : decode b_La_law 632 = .ok (.aload_n 3, 1) := by decide +kernel
theorem d_La_law_633 : decode b_La_law 633 = .ok (.invokestatic 78, 3) := by decide +kernel
theorem d_La_law_636 : decode b_La_law 636 = .ok (.istore 5, 2) := by decide +kernel
theorem d_La_law_638 : decode b_La_law 638 = .ok (.aload_n 2, 1) := by decide +kernel
theorem d_La_law_639 : decode b_La_law 639 = .ok (.aload_n 0, 1) := by decide +kernel
theorem d_La_law_640 : decode b_La_law 640 = .ok (.iload 4, 2) := by decide +kernel
theorem d_La_law_642 : decode b_La_law 642 = .ok (.iconst 1, 1) := by decide +kernel
theorem d_La_law_643 : decode b_La_law 643 = .ok (.iadd, 1) := by decide +kernel
theorem d_La_law_644 : decode b_La_law 644 = .ok (.iaload, 1) := by decide +kernel
theorem d_La_law_645 : decode b_La_law 645 = .ok (.invokevirtual 80, 3) := by decide +kernel
theorem d_La_law_648 : decode b_La_law 648 = .ok (.istore 6, 2) := by decide +kernel
theorem d_La_law_650 : decode b_La_law 650 = .ok (.aload_n 2, 1) := by decide +kernel
theorem d_La_law_651 : decode b_La_law 651 = .ok (.invokevirtual 57, 3) := by decide +kernel
theorem d_La_law_654 : decode b_La_law 654 = .ok (.iload 5, 2) := by decide +kernel
theorem d_La_law_656 : decode b_La_law 656 = .ok (.if_icmp .eq 5, 3) := by decide +kernel
theorem d_La_law_659 : decode b_La_law 659 = .ok (.iconst 0, 1) := by decide +kernel
theorem d_La_law_660 : decode b_La_law 660 = .ok (.ireturn, 1) := by decide +kernel
theorem d_La_law_661 : decode b_La_law 661 = .ok (.iload 5, 2) := by decide +kernel
theorem d_La_law_663 : decode b_La_law 663 = .ok (.ifCond .ne 15, 3) := by decide +kernel
theorem d_La_law_666 : decode b_La_law 666 = .ok (.aload_n 3, 1) := by decide +kernel
theorem d_La_law_667 : decode b_La_law 667 = .ok (.iconst 0, 1) := by decide +kernel
theorem d_La_law_668 : decode b_La_law 668 = .ok (.laload, 1) := by decide +kernel
theorem d_La_law_669 : decode b_La_law 669 = .ok (.iload 6, 2) := by decide +kernel
theorem d_La_law_671 : decode b_La_law 671 = .ok (.i2l, 1) := by decide +kernel
theorem d_La_law_672 : decode b_La_law 672 = .ok (.lcmp, 1) := by decide +kernel
theorem d_La_law_673 : decode b_La_law 673 = .ok (.ifCond .eq 5, 3) := by decide +kernel
theorem d_La_law_676 : decode b_La_law 676 = .ok (.iconst 0, 1) := by decide +kernel
theorem d_La_law_677 : decode b_La_law 677 = .ok (.ireturn, 1) := by decide +kernel
theorem d_La_law_678 : decode b_La_law 678 = .ok (.goto 140, 3) := by decide +kernel
theorem d_La_law_681 : decode b_La_law 681 = .ok (.aload_n 1, 1) := by decide +kernel
theorem d_La_law_682 : decode b_La_law 682 = .ok (.aload_n 0, 1) := by decide +kernel
theorem d_La_law_683 : decode b_La_law 683 = .ok (.iload 4, 2) := by decide +kernel
theorem d_La_law_685 : decode b_La_law 685 = .ok (.iconst 1, 1) := by decide +kernel
theorem d_La_law_686 : decode b_La_law 686 = .ok (.iadd, 1) := by decide +kernel
theorem d_La_law_687 : decode b_La_law 687 = .ok (.iaload, 1) := by decide +kernel
theorem d_La_law_688 : decode b_La_law 688 = .ok (.invokevirtual 81, 3) := by decide +kernel
theorem d_La_law_691 : decode b_La_law 691 = .ok (.aload_n 2, 1) := by decide +kernel
theorem d_La_law_692 : decode b_La_law 692 = .ok (.aload_n 0, 1) := by decide +kernel
theorem d_La_law_693 : decode b_La_law 693 = .ok (.iload 4, 2) := by decide +kernel
theorem d_La_law_695 : decode b_La_law 695 = .ok (.iconst 1, 1) := by decide +kernel
theorem d_La_law_696 : decode b_La_law 696 = .ok (.iadd, 1) := by decide +kernel
theorem d_La_law_697 : decode b_La_law 697 = .ok (.iaload, 1) := by decide +kernel
theorem d_La_law_698 : decode b_La_law 698 = .ok (.invokevirtual 84, 3) := by decide +kernel
theorem d_La_law_701 : decode b_La_law 701 = .ok (.if_icmp .eq 117, 3) := by decide +kernel
