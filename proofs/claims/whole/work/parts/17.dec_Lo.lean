theorem d_Lo_divideUnsigned_0 : decode b_Lo_divideUnsigned 0 = .ok (.lload_n 2, 1) := by decide +kernel
theorem d_Lo_divideUnsigned_1 : decode b_Lo_divideUnsigned 1 = .ok (.lconst 0, 1) := by decide +kernel
theorem d_Lo_divideUnsigned_2 : decode b_Lo_divideUnsigned 2 = .ok (.lcmp, 1) := by decide +kernel
theorem d_Lo_divideUnsigned_3 : decode b_Lo_divideUnsigned 3 = .ok (.ifCond .lt 38, 3) := by decide +kernel
theorem d_Lo_divideUnsigned_6 : decode b_Lo_divideUnsigned 6 = .ok (.lload_n 0, 1) := by decide +kernel
theorem d_Lo_divideUnsigned_7 : decode b_Lo_divideUnsigned 7 = .ok (.iconst 1, 1) := by decide +kernel
theorem d_Lo_divideUnsigned_8 : decode b_Lo_divideUnsigned 8 = .ok (.lushr, 1) := by decide +kernel
theorem d_Lo_divideUnsigned_9 : decode b_Lo_divideUnsigned 9 = .ok (.lload_n 2, 1) := by decide +kernel
theorem d_Lo_divideUnsigned_10 : decode b_Lo_divideUnsigned 10 = .ok (.ldiv, 1) := by decide +kernel
theorem d_Lo_divideUnsigned_11 : decode b_Lo_divideUnsigned 11 = .ok (.iconst 1, 1) := by decide +kernel
theorem d_Lo_divideUnsigned_12 : decode b_Lo_divideUnsigned 12 = .ok (.lshl, 1) := by decide +kernel
theorem d_Lo_divideUnsigned_13 : decode b_Lo_divideUnsigned 13 = .ok (.lstore 4, 2) := by decide +kernel
theorem d_Lo_divideUnsigned_15 : decode b_Lo_divideUnsigned 15 = .ok (.lload_n 0, 1) := by decide +kernel
theorem d_Lo_divideUnsigned_16 : decode b_Lo_divideUnsigned 16 = .ok (.lload 4, 2) := by decide +kernel
theorem d_Lo_divideUnsigned_18 : decode b_Lo_divideUnsigned 18 = .ok (.lload_n 2, 1) := by decide +kernel
theorem d_Lo_divideUnsigned_19 : decode b_Lo_divideUnsigned 19 = .ok (.lmul, 1) := by decide +kernel
theorem d_Lo_divideUnsigned_20 : decode b_Lo_divideUnsigned 20 = .ok (.lsub, 1) := by decide +kernel
theorem d_Lo_divideUnsigned_21 : decode b_Lo_divideUnsigned 21 = .ok (.lstore 6, 2) := by decide +kernel
theorem d_Lo_divideUnsigned_23 : decode b_Lo_divideUnsigned 23 = .ok (.lload 4, 2) := by decide +kernel
theorem d_Lo_divideUnsigned_25 : decode b_Lo_divideUnsigned 25 = .ok (.lload 6, 2) := by decide +kernel
theorem d_Lo_divideUnsigned_27 : decode b_Lo_divideUnsigned 27 = .ok (.lload 6, 2) := by decide +kernel
theorem d_Lo_divideUnsigned_29 : decode b_Lo_divideUnsigned 29 = .ok (.lload_n 2, 1) := by decide +kernel
theorem d_Lo_divideUnsigned_30 : decode b_Lo_divideUnsigned 30 = .ok (.lsub, 1) := by decide +kernel
theorem d_Lo_divideUnsigned_31 : decode b_Lo_divideUnsigned 31 = .ok (.ldc2_w 306, 3) := by decide +kernel
theorem d_Lo_divideUnsigned_34 : decode b_Lo_divideUnsigned 34 = .ok (.lxor, 1) := by decide +kernel
theorem d_Lo_divideUnsigned_35 : decode b_Lo_divideUnsigned 35 = .ok (.lor, 1) := by decide +kernel
theorem d_Lo_divideUnsigned_36 : decode b_Lo_divideUnsigned 36 = .ok (.bipush 63, 2) := by decide +kernel
theorem d_Lo_divideUnsigned_38 : decode b_Lo_divideUnsigned 38 = .ok (.lushr, 1) := by decide +kernel
theorem d_Lo_divideUnsigned_39 : decode b_Lo_divideUnsigned 39 = .ok (.ladd, 1) := by decide +kernel
theorem d_Lo_divideUnsigned_40 : decode b_Lo_divideUnsigned 40 = .ok (.lreturn, 1) := by decide +kernel
theorem d_Lo_divideUnsigned_41 : decode b_Lo_divideUnsigned 41 = .ok (.lload_n 0, 1) := by decide +kernel
theorem d_Lo_divideUnsigned_42 : decode b_Lo_divideUnsigned 42 = .ok (.lload_n 0, 1) := by decide +kernel
theorem d_Lo_divideUnsigned_43 : decode b_Lo_divideUnsigned 43 = .ok (.lload_n 2, 1) := by decide +kernel
theorem d_Lo_divideUnsigned_44 : decode b_Lo_divideUnsigned 44 = .ok (.lsub, 1) := by decide +kernel
theorem d_Lo_divideUnsigned_45 : decode b_Lo_divideUnsigned 45 = .ok (.ldc2_w 306, 3) := by decide +kernel
theorem d_Lo_divideUnsigned_48 : decode b_Lo_divideUnsigned 48 = .ok (.lxor, 1) := by decide +kernel
theorem d_Lo_divideUnsigned_49 : decode b_Lo_divideUnsigned 49 = .ok (.land, 1) := by decide +kernel
theorem d_Lo_divideUnsigned_50 : decode b_Lo_divideUnsigned 50 = .ok (.bipush 63, 2) := by decide +kernel
theorem d_Lo_divideUnsigned_52 : decode b_Lo_divideUnsigned 52 = .ok (.lushr, 1) := by decide +kernel
theorem d_Lo_divideUnsigned_53 : decode b_Lo_divideUnsigned 53 = .ok (.lreturn, 1) := by decide +kernel
theorem d_Lo_numberOfLeadingZeros_0 : decode b_Lo_numberOfLeadingZeros 0 = .ok (.lload_n 0, 1) := by decide +kernel
theorem d_Lo_numberOfLeadingZeros_1 : decode b_Lo_numberOfLeadingZeros 1 = .ok (.bipush 32, 2) := by decide +kernel
theorem d_Lo_numberOfLeadingZeros_3 : decode b_Lo_numberOfLeadingZeros 3 = .ok (.lushr, 1) := by decide +kernel
theorem d_Lo_numberOfLeadingZeros_4 : decode b_Lo_numberOfLeadingZeros 4 = .ok (.l2i, 1) := by decide +kernel
theorem d_Lo_numberOfLeadingZeros_5 : decode b_Lo_numberOfLeadingZeros 5 = .ok (.istore_n 2, 1) := by decide +kernel
theorem d_Lo_numberOfLeadingZeros_6 : decode b_Lo_numberOfLeadingZeros 6 = .ok (.iload_n 2, 1) := by decide +kernel
theorem d_Lo_numberOfLeadingZeros_7 : decode b_Lo_numberOfLeadingZeros 7 = .ok (.ifCond .ne 14, 3) := by decide +kernel
theorem d_Lo_numberOfLeadingZeros_10 : decode b_Lo_numberOfLeadingZeros 10 = .ok (.bipush 32, 2) := by decide +kernel
theorem d_Lo_numberOfLeadingZeros_12 : decode b_Lo_numberOfLeadingZeros 12 = .ok (.lload_n 0, 1) := by decide +kernel
theorem d_Lo_numberOfLeadingZeros_13 : decode b_Lo_numberOfLeadingZeros 13 = .ok (.l2i, 1) := by decide +kernel
theorem d_Lo_numberOfLeadingZeros_14 : decode b_Lo_numberOfLeadingZeros 14 = .ok (.invokestatic 308, 3) := by decide +kernel
theorem d_Lo_numberOfLeadingZeros_17 : decode b_Lo_numberOfLeadingZeros 17 = .ok (.iadd, 1) := by decide +kernel
theorem d_Lo_numberOfLeadingZeros_18 : decode b_Lo_numberOfLeadingZeros 18 = .ok (.goto 7, 3) := by decide +kernel
theorem d_Lo_numberOfLeadingZeros_21 : decode b_Lo_numberOfLeadingZeros 21 = .ok (.iload_n 2, 1) := by decide +kernel
theorem d_Lo_numberOfLeadingZeros_22 : decode b_Lo_numberOfLeadingZeros 22 = .ok (.invokestatic 308, 3) := by decide +kernel
theorem d_Lo_numberOfLeadingZeros_25 : decode b_Lo_numberOfLeadingZeros 25 = .ok (.ireturn, 1) := by decide +kernel
