theorem d_De_init_0 : decode b_De_init 0 = .ok (.aload_n 0, 1) := by decide +kernel
theorem d_De_init_1 : decode b_De_init 1 = .ok (.invokespecial 3, 3) := by decide +kernel
theorem d_De_init_4 : decode b_De_init 4 = .ok (.aload_n 0, 1) := by decide +kernel
theorem d_De_init_5 : decode b_De_init 5 = .ok (.sipush 465, 3) := by decide +kernel
theorem d_De_init_8 : decode b_De_init 8 = .ok (.newarray .int, 2) := by decide +kernel
theorem d_De_init_10 : decode b_De_init 10 = .ok (.putfield 9, 3) := by decide +kernel
theorem d_De_init_13 : decode b_De_init 13 = .ok (.aload_n 0, 1) := by decide +kernel
theorem d_De_init_14 : decode b_De_init 14 = .ok (.bipush 45, 2) := by decide +kernel
theorem d_De_init_16 : decode b_De_init 16 = .ok (.putfield 15, 3) := by decide +kernel
theorem d_De_init_19 : decode b_De_init 19 = .ok (.aload_n 0, 1) := by decide +kernel
theorem d_De_init_20 : decode b_De_init 20 = .ok (.bipush 45, 2) := by decide +kernel
theorem d_De_init_22 : decode b_De_init 22 = .ok (.putfield 19, 3) := by decide +kernel
theorem d_De_init_25 : decode b_De_init 25 = .ok (.return_, 1) := by decide +kernel
theorem d_De_clear_0 : decode b_De_clear 0 = .ok (.aload_n 0, 1) := by decide +kernel
theorem d_De_clear_1 : decode b_De_clear 1 = .ok (.getfield 15, 3) := by decide +kernel
theorem d_De_clear_4 : decode b_De_clear 4 = .ok (.istore_n 1, 1) := by decide +kernel
theorem d_De_clear_5 : decode b_De_clear 5 = .ok (.iload_n 1, 1) := by decide +kernel
theorem d_De_clear_6 : decode b_De_clear 6 = .ok (.aload_n 0, 1) := by decide +kernel
theorem d_De_clear_7 : decode b_De_clear 7 = .ok (.getfield 19, 3) := by decide +kernel
theorem d_De_clear_10 : decode b_De_clear 10 = .ok (.if_icmp .ge 16, 3) := by decide +kernel
theorem d_De_clear_13 : decode b_De_clear 13 = .ok (.aload_n 0, 1) := by decide +kernel
theorem d_De_clear_14 : decode b_De_clear 14 = .ok (.getfield 9, 3) := by decide +kernel
theorem d_De_clear_17 : decode b_De_clear 17 = .ok (.iload_n 1, 1) := by decide +kernel
theorem d_De_clear_18 : decode b_De_clear 18 = .ok (.iconst 0, 1) := by decide +kernel
theorem d_De_clear_19 : decode b_De_clear 19 = .ok (.iastore, 1) := by decide +kernel
theorem d_De_clear_20 : decode b_De_clear 20 = .ok (.iinc 1 1, 3) := by decide +kernel
theorem d_De_clear_23 : decode b_De_clear 23 = .ok (.goto (-18), 3) := by decide +kernel
theorem d_De_clear_26 : decode b_De_clear 26 = .ok (.aload_n 0, 1) := by decide +kernel
theorem d_De_clear_27 : decode b_De_clear 27 = .ok (.bipush 45, 2) := by decide +kernel
theorem d_De_clear_29 : decode b_De_clear 29 = .ok (.putfield 15, 3) := by decide +kernel
theorem d_De_clear_32 : decode b_De_clear 32 = .ok (.aload_n 0, 1) := by decide +kernel
theorem d_De_clear_33 : decode b_De_clear 33 = .ok (.bipush 45, 2) := by decide +kernel
theorem d_De_clear_35 : decode b_De_clear 35 = .ok (.putfield 19, 3) := by decide +kernel
theorem d_De_clear_38 : decode b_De_clear 38 = .ok (.return_, 1) := by decide +kernel
theorem d_De_add_0 : decode b_De_add 0 = .ok (.iload_n 2, 1) := by decide +kernel
theorem d_De_add_1 : decode b_De_add 1 = .ok (.ifCond .lt 13, 3) := by decide +kernel
theorem d_De_add_4 : decode b_De_add 4 = .ok (.bipush 44, 2) := by decide +kernel
theorem d_De_add_6 : decode b_De_add 6 = .ok (.iload_n 2, 1) := by decide +kernel
theorem d_De_add_7 : decode b_De_add 7 = .ok (.bipush 9, 2) := by decide +kernel
theorem d_De_add_9 : decode b_De_add 9 = .ok (.idiv, 1) := by decide +kernel
theorem d_De_add_10 : decode b_De_add 10 = .ok (.isub, 1) := by decide +kernel
theorem d_De_add_11 : decode b_De_add 11 = .ok (.goto 13, 3) := by decide +kernel
theorem d_De_add_14 : decode b_De_add 14 = .ok (.bipush 45, 2) := by decide +kernel
theorem d_De_add_16 : decode b_De_add 16 = .ok (.iload_n 2, 1) := by decide +kernel
theorem d_De_add_17 : decode b_De_add 17 = .ok (.ineg, 1) := by decide +kernel
theorem d_De_add_18 : decode b_De_add 18 = .ok (.iconst 1, 1) := by decide +kernel
theorem d_De_add_19 : decode b_De_add 19 = .ok (.isub, 1) := by decide +kernel
theorem d_De_add_20 : decode b_De_add 20 = .ok (.bipush 9, 2) := by decide +kernel
theorem d_De_add_22 : decode b_De_add 22 = .ok (.idiv, 1) := by decide +kernel
theorem d_De_add_23 : decode b_De_add 23 = .ok (.iadd, 1) := by decide +kernel
theorem d_De_add_24 : decode b_De_add 24 = .ok (.istore_n 3, 1) := by decide +kernel
theorem d_De_add_25 : decode b_De_add 25 = .ok (.iload_n 2, 1) := by decide +kernel
theorem d_De_add_26 : decode b_De_add 26 = .ok (.ifCond .lt 10, 3) := by decide +kernel
theorem d_De_add_29 : decode b_De_add 29 = .ok (.iload_n 2, 1) := by decide +kernel
theorem d_De_add_30 : decode b_De_add 30 = .ok (.bipush 9, 2) := by decide +kernel
theorem d_De_add_32 : decode b_De_add 32 = .ok (.irem, 1) := by decide +kernel
theorem d_De_add_33 : decode b_De_add 33 = .ok (.goto 13, 3) := by decide +kernel
theorem d_De_add_36 : decode b_De_add 36 = .ok (.bipush 8, 2) := by decide +kernel
theorem d_De_add_38 : decode b_De_add 38 = .ok (.iload_n 2, 1) := by decide +kernel
theorem d_De_add_39 : decode b_De_add 39 = .ok (.ineg, 1) := by decide +kernel
theorem d_De_add_40 : decode b_De_add 40 = .ok (.iconst 1, 1) := by decide +kernel
theorem d_De_add_41 : decode b_De_add 41 = .ok (.isub, 1) := by decide +kernel
theorem d_De_add_42 : decode b_De_add 42 = .ok (.bipush 9, 2) := by decide +kernel
theorem d_De_add_44 : decode b_De_add 44 = .ok (.irem, 1) := by decide +kernel
theorem d_De_add_45 : decode b_De_add 45 = .ok (.isub, 1) := by decide +kernel
theorem d_De_add_46 : decode b_De_add 46 = .ok (.istore 4, 2) := by decide +kernel
theorem d_De_add_48 : decode b_De_add 48 = .ok (.iload_n 1, 1) := by decide +kernel
theorem d_De_add_49 : decode b_De_add 49 = .ok (.istore 5, 2) := by decide +kernel
theorem d_De_add_51 : decode b_De_add 51 = .ok (.iconst 0, 1) := by decide +kernel
theorem d_De_add_52 : decode b_De_add 52 = .ok (.istore 6, 2) := by decide +kernel
theorem d_De_add_54 : decode b_De_add 54 = .ok (.iload 6, 2) := by decide +kernel
theorem d_De_add_56 : decode b_De_add 56 = .ok (.iload 4, 2) := by decide +kernel
theorem d_De_add_58 : decode b_De_add 58 = .ok (.if_icmp .ge 16, 3) := by decide +kernel
theorem d_De_add_61 : decode b_De_add 61 = .ok (.iload 5, 2) := by decide +kernel
theorem d_De_add_63 : decode b_De_add 63 = .ok (.bipush 10, 2) := by decide +kernel
theorem d_De_add_65 : decode b_De_add 65 = .ok (.imul, 1) := by decide +kernel
theorem d_De_add_66 : decode b_De_add 66 = .ok (.istore 5, 2) := by decide +kernel
theorem d_De_add_68 : decode b_De_add 68 = .ok (.iinc 6 1, 3) := by decide +kernel
theorem d_De_add_71 : decode b_De_add 71 = .ok (.goto (-17), 3) := by decide +kernel
theorem d_De_add_74 : decode b_De_add 74 = .ok (.aload_n 0, 1) := by decide +kernel
theorem d_De_add_75 : decode b_De_add 75 = .ok (.getfield 9, 3) := by decide +kernel
theorem d_De_add_78 : decode b_De_add 78 = .ok (.iload_n 3, 1) := by decide +kernel
theorem d_De_add_79 : decode b_De_add 79 = .ok (.dup2, 1) := by decide +kernel
theorem d_De_add_80 : decode b_De_add 80 = .ok (.iaload, 1) := by decide +kernel
theorem d_De_add_81 : decode b_De_add 81 = .ok (.iload 5, 2) := by decide +kernel
theorem d_De_add_83 : decode b_De_add 83 = .ok (.iadd, 1) := by decide +kernel
theorem d_De_add_84 : decode b_De_add 84 = .ok (.iastore, 1) := by decide +kernel
theorem d_De_add_85 : decode b_De_add 85 = .ok (.aload_n 0, 1) := by decide +kernel
theorem d_De_add_86 : decode b_De_add 86 = .ok (.getfield 15, 3) := by decide +kernel
theorem d_De_add_89 : decode b_De_add 89 = .ok (.aload_n 0, 1) := by decide +kernel
theorem d_De_add_90 : decode b_De_add 90 = .ok (.getfield 19, 3) := by decide +kernel
theorem d_De_add_93 : decode b_De_add 93 = .ok (.if_icmp .ne 15, 3) := by decide +kernel
theorem d_De_add_96 : decode b_De_add 96 = .ok (.aload_n 0, 1) := by decide +kernel
theorem d_De_add_97 : decode b_De_add 97 = .ok (.iload_n 3, 1) := by decide +kernel
theorem d_De_add_98 : decode b_De_add 98 = .ok (.putfield 15, 3) := by decide +kernel
theorem d_De_add_101 : decode b_De_add 101 = .ok (.aload_n 0, 1) := by decide +kernel
theorem d_De_add_102 : decode b_De_add 102 = .ok (.iload_n 3, 1) := by decide +kernel
theorem d_De_add_103 : decode b_De_add 103 = .ok (.iconst 1, 1) := by decide +kernel
theorem d_De_add_104 : decode b_De_add 104 = .ok (.iadd, 1) := by decide +kernel
theorem d_De_add_105 : decode b_De_add 105 = .ok (.putfield 19, 3) := by decide +kernel
theorem d_De_add_108 : decode b_De_add 108 = .ok (.aload_n 0, 1) := by decide +kernel
theorem d_De_add_109 : decode b_De_add 109 = .ok (.aload_n 0, 1) := by decide +kernel
theorem d_De_add_110 : decode b_De_add 110 = .ok (.getfield 15, 3) := by decide +kernel
theorem d_De_add_113 : decode b_De_add 113 = .ok (.iload_n 3, 1) := by decide +kernel
theorem d_De_add_114 : decode b_De_add 114 = .ok (.invokestatic 55, 3) := by decide +kernel
theorem d_De_add_117 : decode b_De_add 117 = .ok (.putfield 15, 3) := by decide +kernel
theorem d_De_add_120 : decode b_De_add 120 = .ok (.aload_n 0, 1) := by decide +kernel
theorem d_De_add_121 : decode b_De_add 121 = .ok (.aload_n 0, 1) := by decide +kernel
theorem d_De_add_122 : decode b_De_add 122 = .ok (.getfield 19, 3) := by decide +kernel
theorem d_De_add_125 : decode b_De_add 125 = .ok (.iload_n 3, 1) := by decide +kernel
theorem d_De_add_126 : decode b_De_add 126 = .ok (.iconst 1, 1) := by decide +kernel
theorem d_De_add_127 : decode b_De_add 127 = .ok (.iadd, 1) := by decide +kernel
theorem d_De_add_128 : decode b_De_add 128 = .ok (.invokestatic 45, 3) := by decide +kernel
theorem d_De_add_131 : decode b_De_add 131 = .ok (.putfield 19, 3) := by decide +kernel
theorem d_De_add_134 : decode b_De_add 134 = .ok (.return_, 1) := by decide +kernel
theorem d_De_half_0 : decode b_De_half 0 = .ok (.iconst 0, 1) := by decide +kernel
theorem d_De_half_1 : decode b_De_half 1 = .ok (.istore_n 1, 1) := by decide +kernel
theorem d_De_half_2 : decode b_De_half 2 = .ok (.aload_n 0, 1) := by decide +kernel
theorem d_De_half_3 : decode b_De_half 3 = .ok (.getfield 15, 3) := by decide +kernel
theorem d_De_half_6 : decode b_De_half 6 = .ok (.istore_n 2, 1) := by decide +kernel
theorem d_De_half_7 : decode b_De_half 7 = .ok (.iload_n 2, 1) := by decide +kernel
theorem d_De_half_8 : decode b_De_half 8 = .ok (.aload_n 0, 1) := by decide +kernel
theorem d_De_half_9 : decode b_De_half 9 = .ok (.getfield 19, 3) := by decide +kernel
theorem d_De_half_12 : decode b_De_half 12 = .ok (.if_icmp .ge 45, 3) := by decide +kernel
theorem d_De_half_15 : decode b_De_half 15 = .ok (.aload_n 0, 1) := by decide +kernel
theorem d_De_half_16 : decode b_De_half 16 = .ok (.getfield 9, 3) := by decide +kernel
theorem d_De_half_19 : decode b_De_half 19 = .ok (.iload_n 2, 1) := by decide +kernel
theorem d_De_half_20 : decode b_De_half 20 = .ok (.iaload, 1) := by decide +kernel
theorem d_De_half_21 : decode b_De_half 21 = .ok (.i2l, 1) := by decide +kernel
theorem d_De_half_22 : decode b_De_half 22 = .ok (.iload_n 1, 1) := by decide +kernel
theorem d_De_half_23 : decode b_De_half 23 = .ok (.i2l, 1) := by decide +kernel
theorem d_De_half_24 : decode b_De_half 24 = .ok (.ldc2_w 25, 3) := by decide +kernel
theorem d_De_half_27 : decode b_De_half 27 = .ok (.lmul, 1) := by decide +kernel
theorem d_De_half_28 : decode b_De_half 28 = .ok (.ladd, 1) := by decide +kernel
theorem d_De_half_29 : decode b_De_half 29 = .ok (.ldc2_w 28, 3) := by decide +kernel
theorem d_De_half_32 : decode b_De_half 32 = .ok (.ldiv, 1) := by decide +kernel
theorem d_De_half_33 : decode b_De_half 33 = .ok (.l2i, 1) := by decide +kernel
theorem d_De_half_34 : decode b_De_half 34 = .ok (.istore_n 3, 1) := by decide +kernel
theorem d_De_half_35 : decode b_De_half 35 = .ok (.aload_n 0, 1) := by decide +kernel
theorem d_De_half_36 : decode b_De_half 36 = .ok (.getfield 9, 3) := by decide +kernel
theorem d_De_half_39 : decode b_De_half 39 = .ok (.iload_n 2, 1) := by decide +kernel
theorem d_De_half_40 : decode b_De_half 40 = .ok (.iaload, 1) := by decide +kernel
theorem d_De_half_41 : decode b_De_half 41 = .ok (.iconst 1, 1) := by decide +kernel
theorem d_De_half_42 : decode b_De_half 42 = .ok (.iand, 1) := by decide +kernel
theorem d_De_half_43 : decode b_De_half 43 = .ok (.istore_n 1, 1) := by decide +kernel
theorem d_De_half_44 : decode b_De_half 44 = .ok (.aload_n 0, 1) := by decide +kernel
theorem d_De_half_45 : decode b_De_half 45 = .ok (.getfield 9, 3) := by decide +kernel
theorem d_De_half_48 : decode b_De_half 48 = .ok (.iload_n 2, 1) := by decide +kernel
theorem d_De_half_49 : decode b_De_half 49 = .ok (.iload_n 3, 1) := by decide +kernel
theorem d_De_half_50 : decode b_De_half 50 = .ok (.iastore, 1) := by decide +kernel
theorem d_De_half_51 : decode b_De_half 51 = .ok (.iinc 2 1, 3) := by decide +kernel
theorem d_De_half_54 : decode b_De_half 54 = .ok (.goto (-47), 3) := by decide +kernel
theorem d_De_half_57 : decode b_De_half 57 = .ok (.iload_n 1, 1) := by decide +kernel
theorem d_De_half_58 : decode b_De_half 58 = .ok (.ifCond .le 24, 3) := by decide +kernel
theorem d_De_half_61 : decode b_De_half 61 = .ok (.aload_n 0, 1) := by decide +kernel
theorem d_De_half_62 : decode b_De_half 62 = .ok (.getfield 9, 3) := by decide +kernel
theorem d_De_half_65 : decode b_De_half 65 = .ok (.aload_n 0, 1) := by decide +kernel
theorem d_De_half_66 : decode b_De_half 66 = .ok (.getfield 19, 3) := by decide +kernel
theorem d_De_half_69 : decode b_De_half 69 = .ok (.ldc 30, 2) := by decide +kernel
theorem d_De_half_71 : decode b_De_half 71 = .ok (.iastore, 1) := by decide +kernel
theorem d_De_half_72 : decode b_De_half 72 = .ok (.aload_n 0, 1) := by decide +kernel
theorem d_De_half_73 : decode b_De_half 73 = .ok (.dup, 1) := by decide +kernel
theorem d_De_half_74 : decode b_De_half 74 = .ok (.getfield 19, 3) := by decide +kernel
theorem d_De_half_77 : decode b_De_half 77 = .ok (.iconst 1, 1) := by decide +kernel
theorem d_De_half_78 : decode b_De_half 78 = .ok (.iadd, 1) := by decide +kernel
theorem d_De_half_79 : decode b_De_half 79 = .ok (.putfield 19, 3) := by decide +kernel
theorem d_De_half_82 : decode b_De_half 82 = .ok (.aload_n 0, 1) := by decide +kernel
theorem d_De_half_83 : decode b_De_half 83 = .ok (.getfield 15, 3) := by decide +kernel
theorem d_De_half_86 : decode b_De_half 86 = .ok (.aload_n 0, 1) := by decide +kernel
theorem d_De_half_87 : decode b_De_half 87 = .ok (.getfield 19, 3) := by decide +kernel
theorem d_De_half_90 : decode b_De_half 90 = .ok (.if_icmp .ge 28, 3) := by decide +kernel
theorem d_De_half_93 : decode b_De_half 93 = .ok (.aload_n 0, 1) := by decide +kernel
theorem d_De_half_94 : decode b_De_half 94 = .ok (.getfield 9, 3) := by decide +kernel
theorem d_De_half_97 : decode b_De_half 97 = .ok (.aload_n 0, 1) := by decide +kernel
theorem d_De_half_98 : decode b_De_half 98 = .ok (.getfield 15, 3) := by decide +kernel
theorem d_De_half_101 : decode b_De_half 101 = .ok (.iaload, 1) := by decide +kernel
theorem d_De_half_102 : decode b_De_half 102 = .ok (.ifCond .ne 16, 3) := by decide +kernel
theorem d_De_half_105 : decode b_De_half 105 = .ok (.aload_n 0, 1) := by decide +kernel
theorem d_De_half_106 : decode b_De_half 106 = .ok (.dup, 1) := by decide +kernel
theorem d_De_half_107 : decode b_De_half 107 = .ok (.getfield 15, 3) := by decide +kernel
theorem d_De_half_110 : decode b_De_half 110 = .ok (.iconst 1, 1) := by decide +kernel
theorem d_De_half_111 : decode b_De_half 111 = .ok (.iadd, 1) := by decide +kernel
theorem d_De_half_112 : decode b_De_half 112 = .ok (.putfield 15, 3) := by decide +kernel
theorem d_De_half_115 : decode b_De_half 115 = .ok (.goto (-33), 3) := by decide +kernel
theorem d_De_half_118 : decode b_De_half 118 = .ok (.return_, 1) := by decide +kernel
theorem d_De_twice_0 : decode b_De_twice 0 = .ok (.iconst 0, 1) := by decide +kernel
theorem d_De_twice_1 : decode b_De_twice 1 = .ok (.istore_n 1, 1) := by decide +kernel
theorem d_De_twice_2 : decode b_De_twice 2 = .ok (.aload_n 0, 1) := by decide +kernel
theorem d_De_twice_3 : decode b_De_twice 3 = .ok (.getfield 19, 3) := by decide +kernel
theorem d_De_twice_6 : decode b_De_twice 6 = .ok (.iconst 1, 1) := by decide +kernel
theorem d_De_twice_7 : decode b_De_twice 7 = .ok (.isub, 1) := by decide +kernel
theorem d_De_twice_8 : decode b_De_twice 8 = .ok (.istore_n 2, 1) := by decide +kernel
theorem d_De_twice_9 : decode b_De_twice 9 = .ok (.iload_n 2, 1) := by decide +kernel
theorem d_De_twice_10 : decode b_De_twice 10 = .ok (.aload_n 0, 1) := by decide +kernel
theorem d_De_twice_11 : decode b_De_twice 11 = .ok (.getfield 15, 3) := by decide +kernel
theorem d_De_twice_14 : decode b_De_twice 14 = .ok (.if_icmp .lt 44, 3) := by decide +kernel
theorem d_De_twice_17 : decode b_De_twice 17 = .ok (.iconst 2, 1) := by decide +kernel
theorem d_De_twice_18 : decode b_De_twice 18 = .ok (.aload_n 0, 1) := by decide +kernel
theorem d_De_twice_19 : decode b_De_twice 19 = .ok (.getfield 9, 3) := by decide +kernel
theorem d_De_twice_22 : decode b_De_twice 22 = .ok (.iload_n 2, 1) := by decide +kernel
theorem d_De_twice_23 : decode b_De_twice 23 = .ok (.iaload, 1) := by decide +kernel
theorem d_De_twice_24 : decode b_De_twice 24 = .ok (.imul, 1) := by decide +kernel
theorem d_De_twice_25 : decode b_De_twice 25 = .ok (.iload_n 1, 1) := by decide +kernel
theorem d_De_twice_26 : decode b_De_twice 26 = .ok (.iadd, 1) := by decide +kernel
theorem d_De_twice_27 : decode b_De_twice 27 = .ok (.istore_n 3, 1) := by decide +kernel
theorem d_De_twice_28 : decode b_De_twice 28 = .ok (.iload_n 3, 1) := by decide +kernel
theorem d_De_twice_29 : decode b_De_twice 29 = .ok (.ldc 27, 2) := by decide +kernel
theorem d_De_twice_31 : decode b_De_twice 31 = .ok (.if_icmp .lt 7, 3) := by decide +kernel
theorem d_De_twice_34 : decode b_De_twice 34 = .ok (.iconst 1, 1) := by decide +kernel
theorem d_De_twice_35 : decode b_De_twice 35 = .ok (.goto 4, 3) := by decide +kernel
theorem d_De_twice_38 : decode b_De_twice 38 = .ok (.iconst 0, 1) := by decide +kernel
theorem d_De_twice_39 : decode b_De_twice 39 = .ok (.istore_n 1, 1) := by decide +kernel
theorem d_De_twice_40 : decode b_De_twice 40 = .ok (.aload_n 0, 1) := by decide +kernel
theorem d_De_twice_41 : decode b_De_twice 41 = .ok (.getfield 9, 3) := by decide +kernel
theorem d_De_twice_44 : decode b_De_twice 44 = .ok (.iload_n 2, 1) := by decide +kernel
theorem d_De_twice_45 : decode b_De_twice 45 = .ok (.iload_n 3, 1) := by decide +kernel
theorem d_De_twice_46 : decode b_De_twice 46 = .ok (.iload_n 1, 1) := by decide +kernel
theorem d_De_twice_47 : decode b_De_twice 47 = .ok (.ldc 27, 2) := by decide +kernel
theorem d_De_twice_49 : decode b_De_twice 49 = .ok (.imul, 1) := by decide +kernel
theorem d_De_twice_50 : decode b_De_twice 50 = .ok (.isub, 1) := by decide +kernel
theorem d_De_twice_51 : decode b_De_twice 51 = .ok (.iastore, 1) := by decide +kernel
theorem d_De_twice_52 : decode b_De_twice 52 = .ok (.iinc 2 (-1), 3) := by decide +kernel
theorem d_De_twice_55 : decode b_De_twice 55 = .ok (.goto (-46), 3) := by decide +kernel
theorem d_De_twice_58 : decode b_De_twice 58 = .ok (.iload_n 1, 1) := by decide +kernel
theorem d_De_twice_59 : decode b_De_twice 59 = .ok (.ifCond .le 23, 3) := by decide +kernel
theorem d_De_twice_62 : decode b_De_twice 62 = .ok (.aload_n 0, 1) := by decide +kernel
theorem d_De_twice_63 : decode b_De_twice 63 = .ok (.dup, 1) := by decide +kernel
theorem d_De_twice_64 : decode b_De_twice 64 = .ok (.getfield 15, 3) := by decide +kernel
theorem d_De_twice_67 : decode b_De_twice 67 = .ok (.iconst 1, 1) := by decide +kernel
theorem d_De_twice_68 : decode b_De_twice 68 = .ok (.isub, 1) := by decide +kernel
theorem d_De_twice_69 : decode b_De_twice 69 = .ok (.putfield 15, 3) := by decide +kernel
theorem d_De_twice_72 : decode b_De_twice 72 = .ok (.aload_n 0, 1) := by decide +kernel
theorem d_De_twice_73 : decode b_De_twice 73 = .ok (.getfield 9, 3) := by decide +kernel
theorem d_De_twice_76 : decode b_De_twice 76 = .ok (.aload_n 0, 1) := by decide +kernel
theorem d_De_twice_77 : decode b_De_twice 77 = .ok (.getfield 15, 3) := by decide +kernel
theorem d_De_twice_80 : decode b_De_twice 80 = .ok (.iconst 1, 1) := by decide +kernel
theorem d_De_twice_81 : decode b_De_twice 81 = .ok (.iastore, 1) := by decide +kernel
theorem d_De_twice_82 : decode b_De_twice 82 = .ok (.aload_n 0, 1) := by decide +kernel
theorem d_De_twice_83 : decode b_De_twice 83 = .ok (.getfield 19, 3) := by decide +kernel
theorem d_De_twice_86 : decode b_De_twice 86 = .ok (.aload_n 0, 1) := by decide +kernel
theorem d_De_twice_87 : decode b_De_twice 87 = .ok (.getfield 15, 3) := by decide +kernel
theorem d_De_twice_90 : decode b_De_twice 90 = .ok (.if_icmp .le 30, 3) := by decide +kernel
theorem d_De_twice_93 : decode b_De_twice 93 = .ok (.aload_n 0, 1) := by decide +kernel
theorem d_De_twice_94 : decode b_De_twice 94 = .ok (.getfield 9, 3) := by decide +kernel
theorem d_De_twice_97 : decode b_De_twice 97 = .ok (.aload_n 0, 1) := by decide +kernel
theorem d_De_twice_98 : decode b_De_twice 98 = .ok (.getfield 19, 3) := by decide +kernel
theorem d_De_twice_101 : decode b_De_twice 101 = .ok (.iconst 1, 1) := by decide +kernel
theorem d_De_twice_102 : decode b_De_twice 102 = .ok (.isub, 1) := by decide +kernel
theorem d_De_twice_103 : decode b_De_twice 103 = .ok (.iaload, 1) := by decide +kernel
theorem d_De_twice_104 : decode b_De_twice 104 = .ok (.ifCond .ne 16, 3) := by decide +kernel
theorem d_De_twice_107 : decode b_De_twice 107 = .ok (.aload_n 0, 1) := by decide +kernel
theorem d_De_twice_108 : decode b_De_twice 108 = .ok (.dup, 1) := by decide +kernel
theorem d_De_twice_109 : decode b_De_twice 109 = .ok (.getfield 19, 3) := by decide +kernel
theorem d_De_twice_112 : decode b_De_twice 112 = .ok (.iconst 1, 1) := by decide +kernel
theorem d_De_twice_113 : decode b_De_twice 113 = .ok (.isub, 1) := by decide +kernel
theorem d_De_twice_114 : decode b_De_twice 114 = .ok (.putfield 19, 3) := by decide +kernel
theorem d_De_twice_117 : decode b_De_twice 117 = .ok (.goto (-35), 3) := by decide +kernel
theorem d_De_twice_120 : decode b_De_twice 120 = .ok (.return_, 1) := by decide +kernel
theorem d_De_digit_0 : decode b_De_digit 0 = .ok (.iload_n 1, 1) := by decide +kernel
theorem d_De_digit_1 : decode b_De_digit 1 = .ok (.ifCond .lt 13, 3) := by decide +kernel
theorem d_De_digit_4 : decode b_De_digit 4 = .ok (.bipush 44, 2) := by decide +kernel
theorem d_De_digit_6 : decode b_De_digit 6 = .ok (.iload_n 1, 1) := by decide +kernel
theorem d_De_digit_7 : decode b_De_digit 7 = .ok (.bipush 9, 2) := by decide +kernel
theorem d_De_digit_9 : decode b_De_digit 9 = .ok (.idiv, 1) := by decide +kernel
theorem d_De_digit_10 : decode b_De_digit 10 = .ok (.isub, 1) := by decide +kernel
theorem d_De_digit_11 : decode b_De_digit 11 = .ok (.goto 13, 3) := by decide +kernel
theorem d_De_digit_14 : decode b_De_digit 14 = .ok (.bipush 45, 2) := by decide +kernel
theorem d_De_digit_16 : decode b_De_digit 16 = .ok (.iload_n 1, 1) := by decide +kernel
theorem d_De_digit_17 : decode b_De_digit 17 = .ok (.ineg, 1) := by decide +kernel
theorem d_De_digit_18 : decode b_De_digit 18 = .ok (.iconst 1, 1) := by decide +kernel
theorem d_De_digit_19 : decode b_De_digit 19 = .ok (.isub, 1) := by decide +kernel
theorem d_De_digit_20 : decode b_De_digit 20 = .ok (.bipush 9, 2) := by decide +kernel
theorem d_De_digit_22 : decode b_De_digit 22 = .ok (.idiv, 1) := by decide +kernel
theorem d_De_digit_23 : decode b_De_digit 23 = .ok (.iadd, 1) := by decide +kernel
theorem d_De_digit_24 : decode b_De_digit 24 = .ok (.istore_n 2, 1) := by decide +kernel
theorem d_De_digit_25 : decode b_De_digit 25 = .ok (.iload_n 1, 1) := by decide +kernel
theorem d_De_digit_26 : decode b_De_digit 26 = .ok (.ifCond .lt 10, 3) := by decide +kernel
theorem d_De_digit_29 : decode b_De_digit 29 = .ok (.iload_n 1, 1) := by decide +kernel
theorem d_De_digit_30 : decode b_De_digit 30 = .ok (.bipush 9, 2) := by decide +kernel
theorem d_De_digit_32 : decode b_De_digit 32 = .ok (.irem, 1) := by decide +kernel
theorem d_De_digit_33 : decode b_De_digit 33 = .ok (.goto 13, 3) := by decide +kernel
theorem d_De_digit_36 : decode b_De_digit 36 = .ok (.bipush 8, 2) := by decide +kernel
theorem d_De_digit_38 : decode b_De_digit 38 = .ok (.iload_n 1, 1) := by decide +kernel
theorem d_De_digit_39 : decode b_De_digit 39 = .ok (.ineg, 1) := by decide +kernel
theorem d_De_digit_40 : decode b_De_digit 40 = .ok (.iconst 1, 1) := by decide +kernel
theorem d_De_digit_41 : decode b_De_digit 41 = .ok (.isub, 1) := by decide +kernel
theorem d_De_digit_42 : decode b_De_digit 42 = .ok (.bipush 9, 2) := by decide +kernel
theorem d_De_digit_44 : decode b_De_digit 44 = .ok (.irem, 1) := by decide +kernel
theorem d_De_digit_45 : decode b_De_digit 45 = .ok (.isub, 1) := by decide +kernel
theorem d_De_digit_46 : decode b_De_digit 46 = .ok (.istore_n 3, 1) := by decide +kernel
theorem d_De_digit_47 : decode b_De_digit 47 = .ok (.iload_n 2, 1) := by decide +kernel
theorem d_De_digit_48 : decode b_De_digit 48 = .ok (.aload_n 0, 1) := by decide +kernel
theorem d_De_digit_49 : decode b_De_digit 49 = .ok (.getfield 15, 3) := by decide +kernel
theorem d_De_digit_52 : decode b_De_digit 52 = .ok (.if_icmp .lt 11, 3) := by decide +kernel
theorem d_De_digit_55 : decode b_De_digit 55 = .ok (.iload_n 2, 1) := by decide +kernel
theorem d_De_digit_56 : decode b_De_digit 56 = .ok (.aload_n 0, 1) := by decide +kernel
theorem d_De_digit_57 : decode b_De_digit 57 = .ok (.getfield 19, 3) := by decide +kernel
theorem d_De_digit_60 : decode b_De_digit 60 = .ok (.if_icmp .lt 5, 3) := by decide +kernel
theorem d_De_digit_63 : decode b_De_digit 63 = .ok (.iconst 0, 1) := by decide +kernel
theorem d_De_digit_64 : decode b_De_digit 64 = .ok (.ireturn, 1) := by decide +kernel
theorem d_De_digit_65 : decode b_De_digit 65 = .ok (.aload_n 0, 1) := by decide +kernel
theorem d_De_digit_66 : decode b_De_digit 66 = .ok (.getfield 9, 3) := by decide +kernel
theorem d_De_digit_69 : decode b_De_digit 69 = .ok (.iload_n 2, 1) := by decide +kernel
theorem d_De_digit_70 : decode b_De_digit 70 = .ok (.iaload, 1) := by decide +kernel
theorem d_De_digit_71 : decode b_De_digit 71 = .ok (.istore 4, 2) := by decide +kernel
theorem d_De_digit_73 : decode b_De_digit 73 = .ok (.iconst 0, 1) := by decide +kernel
theorem d_De_digit_74 : decode b_De_digit 74 = .ok (.istore 5, 2) := by decide +kernel
theorem d_De_digit_76 : decode b_De_digit 76 = .ok (.iload 5, 2) := by decide +kernel
theorem d_De_digit_78 : decode b_De_digit 78 = .ok (.iload_n 3, 1) := by decide +kernel
theorem d_De_digit_79 : decode b_De_digit 79 = .ok (.if_icmp .ge 16, 3) := by decide +kernel
theorem d_De_digit_82 : decode b_De_digit 82 = .ok (.iload 4, 2) := by decide +kernel
theorem d_De_digit_84 : decode b_De_digit 84 = .ok (.bipush 10, 2) := by decide +kernel
theorem d_De_digit_86 : decode b_De_digit 86 = .ok (.idiv, 1) := by decide +kernel
theorem d_De_digit_87 : decode b_De_digit 87 = .ok (.istore 4, 2) := by decide +kernel
theorem d_De_digit_89 : decode b_De_digit 89 = .ok (.iinc 5 1, 3) := by decide +kernel
theorem d_De_digit_92 : decode b_De_digit 92 = .ok (.goto (-16), 3) := by decide +kernel
theorem d_De_digit_95 : decode b_De_digit 95 = .ok (.iload 4, 2) := by decide +kernel
theorem d_De_digit_97 : decode b_De_digit 97 = .ok (.bipush 10, 2) := by decide +kernel
theorem d_De_digit_99 : decode b_De_digit 99 = .ok (.irem, 1) := by decide +kernel
theorem d_De_digit_100 : decode b_De_digit 100 = .ok (.ireturn, 1) := by decide +kernel
theorem d_De_isBelow_0 : decode b_De_isBelow 0 = .ok (.iload_n 1, 1) := by decide +kernel
theorem d_De_isBelow_1 : decode b_De_isBelow 1 = .ok (.iconst 1, 1) := by decide +kernel
theorem d_De_isBelow_2 : decode b_De_isBelow 2 = .ok (.isub, 1) := by decide +kernel
theorem d_De_isBelow_3 : decode b_De_isBelow 3 = .ok (.istore_n 2, 1) := by decide +kernel
theorem d_De_isBelow_4 : decode b_De_isBelow 4 = .ok (.iload_n 2, 1) := by decide +kernel
theorem d_De_isBelow_5 : decode b_De_isBelow 5 = .ok (.aload_n 0, 1) := by decide +kernel
theorem d_De_isBelow_6 : decode b_De_isBelow 6 = .ok (.invokevirtual 51, 3) := by decide +kernel
theorem d_De_isBelow_9 : decode b_De_isBelow 9 = .ok (.if_icmp .lt 19, 3) := by decide +kernel
theorem d_De_isBelow_12 : decode b_De_isBelow 12 = .ok (.aload_n 0, 1) := by decide +kernel
theorem d_De_isBelow_13 : decode b_De_isBelow 13 = .ok (.iload_n 2, 1) := by decide +kernel
theorem d_De_isBelow_14 : decode b_De_isBelow 14 = .ok (.invokevirtual 41, 3) := by decide +kernel
theorem d_De_isBelow_17 : decode b_De_isBelow 17 = .ok (.ifCond .eq 5, 3) := by decide +kernel
theorem d_De_isBelow_20 : decode b_De_isBelow 20 = .ok (.iconst 1, 1) := by decide +kernel
theorem d_De_isBelow_21 : decode b_De_isBelow 21 = .ok (.ireturn, 1) := by decide +kernel
theorem d_De_isBelow_22 : decode b_De_isBelow 22 = .ok (.iinc 2 (-1), 3) := by decide +kernel
theorem d_De_isBelow_25 : decode b_De_isBelow 25 = .ok (.goto (-21), 3) := by decide +kernel
theorem d_De_isBelow_28 : decode b_De_isBelow 28 = .ok (.iconst 0, 1) := by decide +kernel
theorem d_De_isBelow_29 : decode b_De_isBelow 29 = .ok (.ireturn, 1) := by decide +kernel
theorem d_De_low_0 : decode b_De_low 0 = .ok (.bipush 9, 2) := by decide +kernel
theorem d_De_low_2 : decode b_De_low 2 = .ok (.bipush 45, 2) := by decide +kernel
theorem d_De_low_4 : decode b_De_low 4 = .ok (.aload_n 0, 1) := by decide +kernel
theorem d_De_low_5 : decode b_De_low 5 = .ok (.getfield 19, 3) := by decide +kernel
theorem d_De_low_8 : decode b_De_low 8 = .ok (.bipush 45, 2) := by decide +kernel
theorem d_De_low_10 : decode b_De_low 10 = .ok (.invokestatic 45, 3) := by decide +kernel
theorem d_De_low_13 : decode b_De_low 13 = .ok (.isub, 1) := by decide +kernel
theorem d_De_low_14 : decode b_De_low 14 = .ok (.imul, 1) := by decide +kernel
theorem d_De_low_15 : decode b_De_low 15 = .ok (.ireturn, 1) := by decide +kernel
