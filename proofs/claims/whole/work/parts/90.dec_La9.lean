theorem d_La_law_799 : decode b_La_law 799 = .ok (.ifCond .eq 19, 3) := by decide +kernel
theorem d_La_law_802 : decode b_La_law 802 = .ok (.iconst 0, 1) := by decide +kernel
theorem d_La_law_803 : decode b_La_law 803 = .ok (.ireturn, 1) := by decide +kernel
theorem d_La_law_804 : decode b_La_law 804 = .ok (.aload_n 1, 1) := by decide +kernel
theorem d_La_law_805 : decode b_La_law 805 = .ok (.invokevirtual 93, 3) := by decide +kernel
theorem d_La_law_808 : decode b_La_law 808 = .ok (.aload_n 2, 1) := by decide +kernel
theorem d_La_law_809 : decode b_La_law 809 = .ok (.invokevirtual 97, 3) := by decide +kernel
theorem d_La_law_812 : decode b_La_law 812 = .ok (.lcmp, 1) := by decide +kernel
theorem d_La_law_813 : decode b_La_law 813 = .ok (.ifCond .eq 5, 3) := by decide +kernel
theorem d_La_law_816 : decode b_La_law 816 = .ok (.iconst 0, 1) := by decide +kernel
theorem d_La_law_817 : decode b_La_law 817 = .ok (.ireturn, 1) := by decide +kernel
theorem d_La_law_818 : decode b_La_law 818 = .ok (.iinc 4 4, 3) := by decide +kernel
theorem d_La_law_821 : decode b_La_law 821 = .ok (.goto (-798), 3) := by decide +kernel
theorem d_La_law_824 : decode b_La_law 824 = .ok (.iconst 1, 1) := by decide +kernel
theorem d_La_law_825 : decode b_La_law 825 = .ok (.ireturn, 1) := by decide +kernel
