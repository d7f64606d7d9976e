theorem d_Fo_nearestTo_0 : decode b_Fo_nearestTo 0 = .ok (.lload_n 1, 1) := by decide +kernel
theorem d_Fo_nearestTo_1 : decode b_Fo_nearestTo 1 = .ok (.invokestatic 49, 3) := by decide +kernel
theorem d_Fo_nearestTo_4 : decode b_Fo_nearestTo 4 = .ok (.iconst 1, 1) := by decide +kernel
theorem d_Fo_nearestTo_5 : decode b_Fo_nearestTo 5 = .ok (.isub, 1) := by decide +kernel
theorem d_Fo_nearestTo_6 : decode b_Fo_nearestTo 6 = .ok (.aload_n 0, 1) := by decide +kernel
theorem d_Fo_nearestTo_7 : decode b_Fo_nearestTo 7 = .ok (.getfield 29, 3) := by decide +kernel
theorem d_Fo_nearestTo_10 : decode b_Fo_nearestTo 10 = .ok (.isub, 1) := by decide +kernel
theorem d_Fo_nearestTo_11 : decode b_Fo_nearestTo 11 = .ok (.istore 5, 2) := by decide +kernel
theorem d_Fo_nearestTo_13 : decode b_Fo_nearestTo 13 = .ok (.iload 5, 2) := by decide +kernel
theorem d_Fo_nearestTo_15 : decode b_Fo_nearestTo 15 = .ok (.aload_n 0, 1) := by decide +kernel
theorem d_Fo_nearestTo_16 : decode b_Fo_nearestTo 16 = .ok (.getfield 33, 3) := by decide +kernel
theorem d_Fo_nearestTo_19 : decode b_Fo_nearestTo 19 = .ok (.iload 4, 2) := by decide +kernel
theorem d_Fo_nearestTo_21 : decode b_Fo_nearestTo 21 = .ok (.isub, 1) := by decide +kernel
theorem d_Fo_nearestTo_22 : decode b_Fo_nearestTo 22 = .ok (.invokestatic 43, 3) := by decide +kernel
theorem d_Fo_nearestTo_25 : decode b_Fo_nearestTo 25 = .ok (.istore 6, 2) := by decide +kernel
theorem d_Fo_nearestTo_27 : decode b_Fo_nearestTo 27 = .ok (.iload 4, 2) := by decide +kernel
theorem d_Fo_nearestTo_29 : decode b_Fo_nearestTo 29 = .ok (.iload 6, 2) := by decide +kernel
theorem d_Fo_nearestTo_31 : decode b_Fo_nearestTo 31 = .ok (.iadd, 1) := by decide +kernel
theorem d_Fo_nearestTo_32 : decode b_Fo_nearestTo 32 = .ok (.aload_n 0, 1) := by decide +kernel
theorem d_Fo_nearestTo_33 : decode b_Fo_nearestTo 33 = .ok (.getfield 33, 3) := by decide +kernel
theorem d_Fo_nearestTo_36 : decode b_Fo_nearestTo 36 = .ok (.isub, 1) := by decide +kernel
theorem d_Fo_nearestTo_37 : decode b_Fo_nearestTo 37 = .ok (.istore 7, 2) := by decide +kernel
theorem d_Fo_nearestTo_39 : decode b_Fo_nearestTo 39 = .ok (.iload 6, 2) := by decide +kernel
theorem d_Fo_nearestTo_41 : decode b_Fo_nearestTo 41 = .ok (.bipush 63, 2) := by decide +kernel
theorem d_Fo_nearestTo_43 : decode b_Fo_nearestTo 43 = .ok (.if_icmp .le 5, 3) := by decide +kernel
theorem d_Fo_nearestTo_46 : decode b_Fo_nearestTo 46 = .ok (.lconst 0, 1) := by decide +kernel
theorem d_Fo_nearestTo_47 : decode b_Fo_nearestTo 47 = .ok (.lreturn, 1) := by decide +kernel
theorem d_Fo_nearestTo_48 : decode b_Fo_nearestTo 48 = .ok (.iload 7, 2) := by decide +kernel
theorem d_Fo_nearestTo_50 : decode b_Fo_nearestTo 50 = .ok (.i2l, 1) := by decide +kernel
theorem d_Fo_nearestTo_51 : decode b_Fo_nearestTo 51 = .ok (.aload_n 0, 1) := by decide +kernel
theorem d_Fo_nearestTo_52 : decode b_Fo_nearestTo 52 = .ok (.getfield 40, 3) := by decide +kernel
theorem d_Fo_nearestTo_55 : decode b_Fo_nearestTo 55 = .ok (.aload_n 0, 1) := by decide +kernel
theorem d_Fo_nearestTo_56 : decode b_Fo_nearestTo 56 = .ok (.getfield 29, 3) := by decide +kernel
theorem d_Fo_nearestTo_59 : decode b_Fo_nearestTo 59 = .ok (.lushr, 1) := by decide +kernel
theorem d_Fo_nearestTo_60 : decode b_Fo_nearestTo 60 = .ok (.ldc2_w 53, 3) := by decide +kernel
theorem d_Fo_nearestTo_63 : decode b_Fo_nearestTo 63 = .ok (.lsub, 1) := by decide +kernel
theorem d_Fo_nearestTo_64 : decode b_Fo_nearestTo 64 = .ok (.lcmp, 1) := by decide +kernel
theorem d_Fo_nearestTo_65 : decode b_Fo_nearestTo 65 = .ok (.ifCond .le 8, 3) := by decide +kernel
theorem d_Fo_nearestTo_68 : decode b_Fo_nearestTo 68 = .ok (.aload_n 0, 1) := by decide +kernel
theorem d_Fo_nearestTo_69 : decode b_Fo_nearestTo 69 = .ok (.getfield 40, 3) := by decide +kernel
theorem d_Fo_nearestTo_72 : decode b_Fo_nearestTo 72 = .ok (.lreturn, 1) := by decide +kernel
theorem d_Fo_nearestTo_73 : decode b_Fo_nearestTo 73 = .ok (.lload_n 1, 1) := by decide +kernel
theorem d_Fo_nearestTo_74 : decode b_Fo_nearestTo 74 = .ok (.iload 6, 2) := by decide +kernel
theorem d_Fo_nearestTo_76 : decode b_Fo_nearestTo 76 = .ok (.lushr, 1) := by decide +kernel
theorem d_Fo_nearestTo_77 : decode b_Fo_nearestTo 77 = .ok (.lstore 8, 2) := by decide +kernel
theorem d_Fo_nearestTo_79 : decode b_Fo_nearestTo 79 = .ok (.lload_n 1, 1) := by decide +kernel
theorem d_Fo_nearestTo_80 : decode b_Fo_nearestTo 80 = .ok (.lload 8, 2) := by decide +kernel
theorem d_Fo_nearestTo_82 : decode b_Fo_nearestTo 82 = .ok (.iload 6, 2) := by decide +kernel
theorem d_Fo_nearestTo_84 : decode b_Fo_nearestTo 84 = .ok (.lshl, 1) := by decide +kernel
theorem d_Fo_nearestTo_85 : decode b_Fo_nearestTo 85 = .ok (.lsub, 1) := by decide +kernel
theorem d_Fo_nearestTo_86 : decode b_Fo_nearestTo 86 = .ok (.lstore 10, 2) := by decide +kernel
theorem d_Fo_nearestTo_88 : decode b_Fo_nearestTo 88 = .ok (.lconst 1, 1) := by decide +kernel
theorem d_Fo_nearestTo_89 : decode b_Fo_nearestTo 89 = .ok (.iload 6, 2) := by decide +kernel
theorem d_Fo_nearestTo_91 : decode b_Fo_nearestTo 91 = .ok (.iconst 1, 1) := by decide +kernel
theorem d_Fo_nearestTo_92 : decode b_Fo_nearestTo 92 = .ok (.isub, 1) := by decide +kernel
theorem d_Fo_nearestTo_93 : decode b_Fo_nearestTo 93 = .ok (.lshl, 1) := by decide +kernel
theorem d_Fo_nearestTo_94 : decode b_Fo_nearestTo 94 = .ok (.lstore 12, 2) := by decide +kernel
theorem d_Fo_nearestTo_96 : decode b_Fo_nearestTo 96 = .ok (.lload 10, 2) := by decide +kernel
theorem d_Fo_nearestTo_98 : decode b_Fo_nearestTo 98 = .ok (.lload 12, 2) := by decide +kernel
theorem d_Fo_nearestTo_100 : decode b_Fo_nearestTo 100 = .ok (.lcmp, 1) := by decide +kernel
theorem d_Fo_nearestTo_101 : decode b_Fo_nearestTo 101 = .ok (.ifCond .gt 24, 3) := by decide +kernel
theorem d_Fo_nearestTo_104 : decode b_Fo_nearestTo 104 = .ok (.lload 10, 2) := by decide +kernel
theorem d_Fo_nearestTo_106 : decode b_Fo_nearestTo 106 = .ok (.lload 12, 2) := by decide +kernel
theorem d_Fo_nearestTo_108 : decode b_Fo_nearestTo 108 = .ok (.lcmp, 1) := by decide +kernel
theorem d_Fo_nearestTo_109 : decode b_Fo_nearestTo 109 = .ok (.ifCond .ne 20, 3) := by decide +kernel
theorem d_Fo_nearestTo_112 : decode b_Fo_nearestTo 112 = .ok (.iload_n 3, 1) := by decide +kernel
theorem d_Fo_nearestTo_113 : decode b_Fo_nearestTo 113 = .ok (.ifCond .ne 12, 3) := by decide +kernel
theorem d_Fo_nearestTo_116 : decode b_Fo_nearestTo 116 = .ok (.lload 8, 2) := by decide +kernel
theorem d_Fo_nearestTo_118 : decode b_Fo_nearestTo 118 = .ok (.lconst 1, 1) := by decide +kernel
theorem d_Fo_nearestTo_119 : decode b_Fo_nearestTo 119 = .ok (.land, 1) := by decide +kernel
theorem d_Fo_nearestTo_120 : decode b_Fo_nearestTo 120 = .ok (.lconst 0, 1) := by decide +kernel
theorem d_Fo_nearestTo_121 : decode b_Fo_nearestTo 121 = .ok (.lcmp, 1) := by decide +kernel
theorem d_Fo_nearestTo_122 : decode b_Fo_nearestTo 122 = .ok (.ifCond .eq 7, 3) := by decide +kernel
theorem d_Fo_nearestTo_125 : decode b_Fo_nearestTo 125 = .ok (.iconst 1, 1) := by decide +kernel
theorem d_Fo_nearestTo_126 : decode b_Fo_nearestTo 126 = .ok (.goto 4, 3) := by decide +kernel
theorem d_Fo_nearestTo_129 : decode b_Fo_nearestTo 129 = .ok (.iconst 0, 1) := by decide +kernel
theorem d_Fo_nearestTo_130 : decode b_Fo_nearestTo 130 = .ok (.istore 14, 2) := by decide +kernel
theorem d_Fo_nearestTo_132 : decode b_Fo_nearestTo 132 = .ok (.iload 7, 2) := by decide +kernel
theorem d_Fo_nearestTo_134 : decode b_Fo_nearestTo 134 = .ok (.i2l, 1) := by decide +kernel
theorem d_Fo_nearestTo_135 : decode b_Fo_nearestTo 135 = .ok (.aload_n 0, 1) := by decide +kernel
theorem d_Fo_nearestTo_136 : decode b_Fo_nearestTo 136 = .ok (.getfield 29, 3) := by decide +kernel
theorem d_Fo_nearestTo_139 : decode b_Fo_nearestTo 139 = .ok (.lshl, 1) := by decide +kernel
theorem d_Fo_nearestTo_140 : decode b_Fo_nearestTo 140 = .ok (.lload 8, 2) := by decide +kernel
theorem d_Fo_nearestTo_142 : decode b_Fo_nearestTo 142 = .ok (.ladd, 1) := by decide +kernel
theorem d_Fo_nearestTo_143 : decode b_Fo_nearestTo 143 = .ok (.iload 14, 2) := by decide +kernel
theorem d_Fo_nearestTo_145 : decode b_Fo_nearestTo 145 = .ok (.ifCond .eq 7, 3) := by decide +kernel
theorem d_Fo_nearestTo_148 : decode b_Fo_nearestTo 148 = .ok (.iconst 1, 1) := by decide +kernel
theorem d_Fo_nearestTo_149 : decode b_Fo_nearestTo 149 = .ok (.goto 4, 3) := by decide +kernel
theorem d_Fo_nearestTo_152 : decode b_Fo_nearestTo 152 = .ok (.iconst 0, 1) := by decide +kernel
theorem d_Fo_nearestTo_153 : decode b_Fo_nearestTo 153 = .ok (.i2l, 1) := by decide +kernel
theorem d_Fo_nearestTo_154 : decode b_Fo_nearestTo 154 = .ok (.ladd, 1) := by decide +kernel
theorem d_Fo_nearestTo_155 : decode b_Fo_nearestTo 155 = .ok (.lreturn, 1) := by decide +kernel
theorem d_Fo_bitsOf_0 : decode b_Fo_bitsOf 0 = .ok (.iconst 0, 1) := by decide +kernel
theorem d_Fo_bitsOf_1 : decode b_Fo_bitsOf 1 = .ok (.istore_n 2, 1) := by decide +kernel
theorem d_Fo_bitsOf_2 : decode b_Fo_bitsOf 2 = .ok (.iload_n 2, 1) := by decide +kernel
theorem d_Fo_bitsOf_3 : decode b_Fo_bitsOf 3 = .ok (.bipush 64, 2) := by decide +kernel
theorem d_Fo_bitsOf_5 : decode b_Fo_bitsOf 5 = .ok (.if_icmp .ge 17, 3) := by decide +kernel
theorem d_Fo_bitsOf_8 : decode b_Fo_bitsOf 8 = .ok (.lload_n 0, 1) := by decide +kernel
theorem d_Fo_bitsOf_9 : decode b_Fo_bitsOf 9 = .ok (.iload_n 2, 1) := by decide +kernel
theorem d_Fo_bitsOf_10 : decode b_Fo_bitsOf 10 = .ok (.lushr, 1) := by decide +kernel
theorem d_Fo_bitsOf_11 : decode b_Fo_bitsOf 11 = .ok (.lconst 0, 1) := by decide +kernel
theorem d_Fo_bitsOf_12 : decode b_Fo_bitsOf 12 = .ok (.lcmp, 1) := by decide +kernel
theorem d_Fo_bitsOf_13 : decode b_Fo_bitsOf 13 = .ok (.ifCond .eq 9, 3) := by decide +kernel
theorem d_Fo_bitsOf_16 : decode b_Fo_bitsOf 16 = .ok (.iinc 2 1, 3) := by decide +kernel
theorem d_Fo_bitsOf_19 : decode b_Fo_bitsOf 19 = .ok (.goto (-17), 3) := by decide +kernel
theorem d_Fo_bitsOf_22 : decode b_Fo_bitsOf 22 = .ok (.iload_n 2, 1) := by decide +kernel
theorem d_Fo_bitsOf_23 : decode b_Fo_bitsOf 23 = .ok (.ireturn, 1) := by decide +kernel
theorem d_Fo_withoutSign_0 : decode b_Fo_withoutSign 0 = .ok (.lload_n 1, 1) := by decide +kernel
theorem d_Fo_withoutSign_1 : decode b_Fo_withoutSign 1 = .ok (.aload_n 0, 1) := by decide +kernel
theorem d_Fo_withoutSign_2 : decode b_Fo_withoutSign 2 = .ok (.getfield 36, 3) := by decide +kernel
theorem d_Fo_withoutSign_5 : decode b_Fo_withoutSign 5 = .ok (.land, 1) := by decide +kernel
theorem d_Fo_withoutSign_6 : decode b_Fo_withoutSign 6 = .ok (.lreturn, 1) := by decide +kernel
theorem d_Fo_significand_0 : decode b_Fo_significand 0 = .ok (.lconst 1, 1) := by decide +kernel
theorem d_Fo_significand_1 : decode b_Fo_significand 1 = .ok (.aload_n 0, 1) := by decide +kernel
theorem d_Fo_significand_2 : decode b_Fo_significand 2 = .ok (.getfield 29, 3) := by decide +kernel
theorem d_Fo_significand_5 : decode b_Fo_significand 5 = .ok (.lshl, 1) := by decide +kernel
theorem d_Fo_significand_6 : decode b_Fo_significand 6 = .ok (.lstore_n 3, 1) := by decide +kernel
theorem d_Fo_significand_7 : decode b_Fo_significand 7 = .ok (.lload_n 1, 1) := by decide +kernel
theorem d_Fo_significand_8 : decode b_Fo_significand 8 = .ok (.lload_n 3, 1) := by decide +kernel
theorem d_Fo_significand_9 : decode b_Fo_significand 9 = .ok (.lconst 1, 1) := by decide +kernel
theorem d_Fo_significand_10 : decode b_Fo_significand 10 = .ok (.lsub, 1) := by decide +kernel
theorem d_Fo_significand_11 : decode b_Fo_significand 11 = .ok (.land, 1) := by decide +kernel
theorem d_Fo_significand_12 : decode b_Fo_significand 12 = .ok (.lstore 5, 2) := by decide +kernel
theorem d_Fo_significand_14 : decode b_Fo_significand 14 = .ok (.lload_n 1, 1) := by decide +kernel
theorem d_Fo_significand_15 : decode b_Fo_significand 15 = .ok (.lload_n 3, 1) := by decide +kernel
theorem d_Fo_significand_16 : decode b_Fo_significand 16 = .ok (.lcmp, 1) := by decide +kernel
theorem d_Fo_significand_17 : decode b_Fo_significand 17 = .ok (.ifCond .ge 8, 3) := by decide +kernel
theorem d_Fo_significand_20 : decode b_Fo_significand 20 = .ok (.lload 5, 2) := by decide +kernel
theorem d_Fo_significand_22 : decode b_Fo_significand 22 = .ok (.goto 7, 3) := by decide +kernel
theorem d_Fo_significand_25 : decode b_Fo_significand 25 = .ok (.lload 5, 2) := by decide +kernel
theorem d_Fo_significand_27 : decode b_Fo_significand 27 = .ok (.lload_n 3, 1) := by decide +kernel
theorem d_Fo_significand_28 : decode b_Fo_significand 28 = .ok (.lor, 1) := by decide +kernel
theorem d_Fo_significand_29 : decode b_Fo_significand 29 = .ok (.lreturn, 1) := by decide +kernel
theorem d_Fo_exponent_0 : decode b_Fo_exponent 0 = .ok (.lload_n 1, 1) := by decide +kernel
theorem d_Fo_exponent_1 : decode b_Fo_exponent 1 = .ok (.aload_n 0, 1) := by decide +kernel
theorem d_Fo_exponent_2 : decode b_Fo_exponent 2 = .ok (.getfield 29, 3) := by decide +kernel
theorem d_Fo_exponent_5 : decode b_Fo_exponent 5 = .ok (.lushr, 1) := by decide +kernel
theorem d_Fo_exponent_6 : decode b_Fo_exponent 6 = .ok (.l2i, 1) := by decide +kernel
theorem d_Fo_exponent_7 : decode b_Fo_exponent 7 = .ok (.istore_n 3, 1) := by decide +kernel
theorem d_Fo_exponent_8 : decode b_Fo_exponent 8 = .ok (.aload_n 0, 1) := by decide +kernel
theorem d_Fo_exponent_9 : decode b_Fo_exponent 9 = .ok (.getfield 33, 3) := by decide +kernel
theorem d_Fo_exponent_12 : decode b_Fo_exponent 12 = .ok (.iload_n 3, 1) := by decide +kernel
theorem d_Fo_exponent_13 : decode b_Fo_exponent 13 = .ok (.iconst 1, 1) := by decide +kernel
theorem d_Fo_exponent_14 : decode b_Fo_exponent 14 = .ok (.isub, 1) := by decide +kernel
theorem d_Fo_exponent_15 : decode b_Fo_exponent 15 = .ok (.iconst 0, 1) := by decide +kernel
theorem d_Fo_exponent_16 : decode b_Fo_exponent 16 = .ok (.invokestatic 43, 3) := by decide +kernel
theorem d_Fo_exponent_19 : decode b_Fo_exponent 19 = .ok (.iadd, 1) := by decide +kernel
theorem d_Fo_exponent_20 : decode b_Fo_exponent 20 = .ok (.ireturn, 1) := by decide +kernel
