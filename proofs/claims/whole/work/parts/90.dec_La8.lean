theorem d_La_law_704 : decode b_La_law 704 = .ok (.iconst 0, 1) := by decide +kernel
theorem d_La_law_705 : decode b_La_law 705 = .ok (.ireturn, 1) := by decide +kernel
theorem d_La_law_706 : decode b_La_law 706 = .ok (.aload_n 1, 1) := by decide +kernel
theorem d_La_law_707 : decode b_La_law 707 = .ok (.aload_n 0, 1) := by decide +kernel
theorem d_La_law_708 : decode b_La_law 708 = .ok (.iload 4, 2) := by decide +kernel
theorem d_La_law_710 : decode b_La_law 710 = .ok (.iconst 1, 1) := by decide +kernel
theorem d_La_law_711 : decode b_La_law 711 = .ok (.iadd, 1) := by decide +kernel
theorem d_La_law_712 : decode b_La_law 712 = .ok (.iaload, 1) := by decide +kernel
theorem d_La_law_713 : decode b_La_law 713 = .ok (.aload_n 3, 1) := by decide +kernel
theorem d_La_law_714 : decode b_La_law 714 = .ok (.invokestatic 85, 3) := by decide +kernel
theorem d_La_law_717 : decode b_La_law 717 = .ok (.istore 5, 2) := by decide +kernel
theorem d_La_law_719 : decode b_La_law 719 = .ok (.aload_n 2, 1) := by decide +kernel
theorem d_La_law_720 : decode b_La_law 720 = .ok (.aload_n 0, 1) := by decide +kernel
theorem d_La_law_721 : decode b_La_law 721 = .ok (.iload 4, 2) := by decide +kernel
theorem d_La_law_723 : decode b_La_law 723 = .ok (.iconst 1, 1) := by decide +kernel
theorem d_La_law_724 : decode b_La_law 724 = .ok (.iadd, 1) := by decide +kernel
theorem d_La_law_725 : decode b_La_law 725 = .ok (.iaload, 1) := by decide +kernel
theorem d_La_law_726 : decode b_La_law 726 = .ok (.invokevirtual 87, 3) := by decide +kernel
theorem d_La_law_729 : decode b_La_law 729 = .ok (.istore 6, 2) := by decide +kernel
theorem d_La_law_731 : decode b_La_law 731 = .ok (.aload_n 2, 1) := by decide +kernel
theorem d_La_law_732 : decode b_La_law 732 = .ok (.invokevirtual 57, 3) := by decide +kernel
theorem d_La_law_735 : decode b_La_law 735 = .ok (.iload 5, 2) := by decide +kernel
theorem d_La_law_737 : decode b_La_law 737 = .ok (.if_icmp .eq 5, 3) := by decide +kernel
theorem d_La_law_740 : decode b_La_law 740 = .ok (.iconst 0, 1) := by decide +kernel
theorem d_La_law_741 : decode b_La_law 741 = .ok (.ireturn, 1) := by decide +kernel
theorem d_La_law_742 : decode b_La_law 742 = .ok (.iload 5, 2) := by decide +kernel
theorem d_La_law_744 : decode b_La_law 744 = .ok (.ifCond .ne 15, 3) := by decide +kernel
theorem d_La_law_747 : decode b_La_law 747 = .ok (.aload_n 3, 1) := by decide +kernel
theorem d_La_law_748 : decode b_La_law 748 = .ok (.iconst 0, 1) := by decide +kernel
theorem d_La_law_749 : decode b_La_law 749 = .ok (.laload, 1) := by decide +kernel
theorem d_La_law_750 : decode b_La_law 750 = .ok (.iload 6, 2) := by decide +kernel
theorem d_La_law_752 : decode b_La_law 752 = .ok (.i2l, 1) := by decide +kernel
theorem d_La_law_753 : decode b_La_law 753 = .ok (.lcmp, 1) := by decide +kernel
theorem d_La_law_754 : decode b_La_law 754 = .ok (.ifCond .eq 5, 3) := by decide +kernel
theorem d_La_law_757 : decode b_La_law 757 = .ok (.iconst 0, 1) := by decide +kernel
theorem d_La_law_758 : decode b_La_law 758 = .ok (.ireturn, 1) := by decide +kernel
theorem d_La_law_759 : decode b_La_law 759 = .ok (.goto 59, 3) := by decide +kernel
theorem d_La_law_762 : decode b_La_law 762 = .ok (.aload_n 1, 1) := by decide +kernel
theorem d_La_law_763 : decode b_La_law 763 = .ok (.aload_n 0, 1) := by decide +kernel
theorem d_La_law_764 : decode b_La_law 764 = .ok (.iload 4, 2) := by decide +kernel
theorem d_La_law_766 : decode b_La_law 766 = .ok (.iconst 1, 1) := by decide +kernel
theorem d_La_law_767 : decode b_La_law 767 = .ok (.iadd, 1) := by decide +kernel
theorem d_La_law_768 : decode b_La_law 768 = .ok (.iaload, 1) := by decide +kernel
theorem d_La_law_769 : decode b_La_law 769 = .ok (.ifCond .eq 7, 3) := by decide +kernel
theorem d_La_law_772 : decode b_La_law 772 = .ok (.iconst 1, 1) := by decide +kernel
theorem d_La_law_773 : decode b_La_law 773 = .ok (.goto 4, 3) := by decide +kernel
theorem d_La_law_776 : decode b_La_law 776 = .ok (.iconst 0, 1) := by decide +kernel
theorem d_La_law_777 : decode b_La_law 777 = .ok (.invokevirtual 88, 3) := by decide +kernel
theorem d_La_law_780 : decode b_La_law 780 = .ok (.aload_n 2, 1) := by decide +kernel
theorem d_La_law_781 : decode b_La_law 781 = .ok (.aload_n 0, 1) := by decide +kernel
theorem d_La_law_782 : decode b_La_law 782 = .ok (.iload 4, 2) := by decide +kernel
theorem d_La_law_784 : decode b_La_law 784 = .ok (.iconst 1, 1) := by decide +kernel
theorem d_La_law_785 : decode b_La_law 785 = .ok (.iadd, 1) := by decide +kernel
theorem d_La_law_786 : decode b_La_law 786 = .ok (.iaload, 1) := by decide +kernel
theorem d_La_law_787 : decode b_La_law 787 = .ok (.ifCond .eq 7, 3) := by decide +kernel
theorem d_La_law_790 : decode b_La_law 790 = .ok (.iconst 1, 1) := by decide +kernel
theorem d_La_law_791 : decode b_La_law 791 = .ok (.goto 4, 3) := by decide +kernel
theorem d_La_law_794 : decode b_La_law 794 = .ok (.iconst 0, 1) := by decide +kernel
theorem d_La_law_795 : decode b_La_law 795 = .ok (.invokevirtual 92, 3) := by decide +kernel
theorem d_La_law_798 : decode b_La_law 798 = .ok (.lcmp, 1) := by decide +kernel
