theorem d_La_law_0 : decode b_La_law 0 = .ok (.new 8, 3) := by decide +kernel
theorem d_La_law_3 : decode b_La_law 3 = .ok (.dup, 1) := by decide +kernel
theorem d_La_law_4 : decode b_La_law 4 = .ok (.invokespecial 40, 3) := by decide +kernel
theorem d_La_law_7 : decode b_La_law 7 = .ok (.astore_n 1, 1) := by decide +kernel
theorem d_La_law_8 : decode b_La_law 8 = .ok (.new 41, 3) := by decide +kernel
theorem d_La_law_11 : decode b_La_law 11 = .ok (.dup, 1) := by decide +kernel
theorem d_La_law_12 : decode b_La_law 12 = .ok (.invokespecial 43, 3) := by decide +kernel
theorem d_La_law_15 : decode b_La_law 15 = .ok (.astore_n 2, 1) := by decide +kernel
theorem d_La_law_16 : decode b_La_law 16 = .ok (.iconst 1, 1) := by decide +kernel
theorem d_La_law_17 : decode b_La_law 17 = .ok (.newarray .long, 2) := by decide +kernel
theorem d_La_law_19 : decode b_La_law 19 = .ok (.astore_n 3, 1) := by decide +kernel
theorem d_La_law_20 : decode b_La_law 20 = .ok (.iconst 0, 1) := by decide +kernel
theorem d_La_law_21 : decode b_La_law 21 = .ok (.istore 4, 2) := by decide +kernel
theorem d_La_law_23 : decode b_La_law 23 = .ok (.iload 4, 2) := by decide +kernel
theorem d_La_law_25 : decode b_La_law 25 = .ok (.aload_n 0, 1) := by decide +kernel
theorem d_La_law_26 : decode b_La_law 26 = .ok (.arraylength, 1) := by decide +kernel
theorem d_La_law_27 : decode b_La_law 27 = .ok (.iconst 4, 1) := by decide +kernel
theorem d_La_law_28 : decode b_La_law 28 = .ok (.isub, 1) := by decide +kernel
theorem d_La_law_29 : decode b_La_law 29 = .ok (.if_icmp .gt 795, 3) := by decide +kernel
theorem d_La_law_32 : decode b_La_law 32 = .ok (.aload_n 0, 1) := by decide +kernel
theorem d_La_law_33 : decode b_La_law 33 = .ok (.iload 4, 2) := by decide +kernel
theorem d_La_law_35 : decode b_La_law 35 = .ok (.iaload, 1) := by decide +kernel
theorem d_La_law_36 : decode b_La_law 36 = .ok (.bipush 15, 2) := by decide +kernel
theorem d_La_law_38 : decode b_La_law 38 = .ok (.iand, 1) := by decide +kernel
theorem d_La_law_39 : decode b_La_law 39 = .ok (.tableswitch 779 0 11 #[61, 118, 234, 350, 418, 474, 530, 586, 642, 667, 723, 765], 61) := by decide +kernel
theorem d_La_law_100 : decode b_La_law 100 = .ok (.aload_n 1, 1) := by decide +kernel
theorem d_La_law_101 : decode b_La_law 101 = .ok (.aload_n 0, 1) := by decide +kernel
theorem d_La_law_102 : decode b_La_law 102 = .ok (.iload 4, 2) := by decide +kernel
theorem d_La_law_104 : decode b_La_law 104 = .ok (.iconst 1, 1) := by decide +kernel
theorem d_La_law_105 : decode b_La_law 105 = .ok (.iadd, 1) := by decide +kernel
theorem d_La_law_106 : decode b_La_law 106 = .ok (.iaload, 1) := by decide +kernel
theorem d_La_law_107 : decode b_La_law 107 = .ok (.i2l, 1) := by decide +kernel
theorem d_La_law_108 : decode b_La_law 108 = .ok (.bipush 32, 2) := by decide +kernel
theorem d_La_law_110 : decode b_La_law 110 = .ok (.lshl, 1) := by decide +kernel
theorem d_La_law_111 : decode b_La_law 111 = .ok (.aload_n 0, 1) := by decide +kernel
theorem d_La_law_112 : decode b_La_law 112 = .ok (.iload 4, 2) := by decide +kernel
theorem d_La_law_114 : decode b_La_law 114 = .ok (.iconst 2, 1) := by decide +kernel
theorem d_La_law_115 : decode b_La_law 115 = .ok (.iadd, 1) := by decide +kernel
theorem d_La_law_116 : decode b_La_law 116 = .ok (.iaload, 1) := by decide +kernel
theorem d_La_law_117 : decode b_La_law 117 = .ok (.i2l, 1) := by decide +kernel
theorem d_La_law_118 : decode b_La_law 118 = .ok (.ldc2_w 44, 3) := by decide +kernel
theorem d_La_law_121 : decode b_La_law 121 = .ok (.land, 1) := by decide +kernel
theorem d_La_law_122 : decode b_La_law 122 = .ok (.lor, 1) := by decide +kernel
theorem d_La_law_123 : decode b_La_law 123 = .ok (.invokevirtual 46, 3) := by decide +kernel
theorem d_La_law_126 : decode b_La_law 126 = .ok (.aload_n 2, 1) := by decide +kernel
theorem d_La_law_127 : decode b_La_law 127 = .ok (.aload_n 0, 1) := by decide +kernel
theorem d_La_law_128 : decode b_La_law 128 = .ok (.iload 4, 2) := by decide +kernel
theorem d_La_law_130 : decode b_La_law 130 = .ok (.iconst 1, 1) := by decide +kernel
theorem d_La_law_131 : decode b_La_law 131 = .ok (.iadd, 1) := by decide +kernel
theorem d_La_law_132 : decode b_La_law 132 = .ok (.iaload, 1) := by decide +kernel
theorem d_La_law_133 : decode b_La_law 133 = .ok (.i2l, 1) := by decide +kernel
theorem d_La_law_134 : decode b_La_law 134 = .ok (.bipush 32, 2) := by decide +kernel
theorem d_La_law_136 : decode b_La_law 136 = .ok (.lshl, 1) := by decide +kernel
theorem d_La_law_137 : decode b_La_law 137 = .ok (.aload_n 0, 1) := by decide +kernel
theorem d_La_law_138 : decode b_La_law 138 = .ok (.iload 4, 2) := by decide +kernel
theorem d_La_law_140 : decode b_La_law 140 = .ok (.iconst 2, 1) := by decide +kernel
theorem d_La_law_141 : decode b_La_law 141 = .ok (.iadd, 1) := by decide +kernel
theorem d_La_law_142 : decode b_La_law 142 = .ok (.iaload, 1) := by decide +kernel
theorem d_La_law_143 : decode b_La_law 143 = .ok (.i2l, 1) := by decide +kernel
theorem d_La_law_144 : decode b_La_law 144 = .ok (.ldc2_w 44, 3) := by decide +kernel
