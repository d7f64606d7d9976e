theorem d_In_numberOfLeadingZeros_0 : decode b_In_numberOfLeadingZeros 0 = .ok (.iload_n 0, 1) := by decide +kernel
theorem d_In_numberOfLeadingZeros_1 : decode b_In_numberOfLeadingZeros 1 = .ok (.ifCond .gt 14, 3) := by decide +kernel
theorem d_In_numberOfLeadingZeros_4 : decode b_In_numberOfLeadingZeros 4 = .ok (.iload_n 0, 1) := by decide +kernel
theorem d_In_numberOfLeadingZeros_5 : decode b_In_numberOfLeadingZeros 5 = .ok (.ifCond .ne 8, 3) := by decide +kernel
theorem d_In_numberOfLeadingZeros_8 : decode b_In_numberOfLeadingZeros 8 = .ok (.bipush 32, 2) := by decide +kernel
theorem d_In_numberOfLeadingZeros_10 : decode b_In_numberOfLeadingZeros 10 = .ok (.goto 4, 3) := by decide +kernel
theorem d_In_numberOfLeadingZeros_13 : decode b_In_numberOfLeadingZeros 13 = .ok (.iconst 0, 1) := by decide +kernel
theorem d_In_numberOfLeadingZeros_14 : decode b_In_numberOfLeadingZeros 14 = .ok (.ireturn, 1) := by decide +kernel
theorem d_In_numberOfLeadingZeros_15 : decode b_In_numberOfLeadingZeros 15 = .ok (.bipush 31, 2) := by decide +kernel
theorem d_In_numberOfLeadingZeros_17 : decode b_In_numberOfLeadingZeros 17 = .ok (.istore_n 1, 1) := by decide +kernel
theorem d_In_numberOfLeadingZeros_18 : decode b_In_numberOfLeadingZeros 18 = .ok (.iload_n 0, 1) := by decide +kernel
theorem d_In_numberOfLeadingZeros_19 : decode b_In_numberOfLeadingZeros 19 = .ok (.ldc_w 264, 3) := by decide +kernel
theorem d_In_numberOfLeadingZeros_22 : decode b_In_numberOfLeadingZeros 22 = .ok (.if_icmp .lt 11, 3) := by decide +kernel
theorem d_In_numberOfLeadingZeros_25 : decode b_In_numberOfLeadingZeros 25 = .ok (.iinc 1 (-16), 3) := by decide +kernel
theorem d_In_numberOfLeadingZeros_28 : decode b_In_numberOfLeadingZeros 28 = .ok (.iload_n 0, 1) := by decide +kernel
theorem d_In_numberOfLeadingZeros_29 : decode b_In_numberOfLeadingZeros 29 = .ok (.bipush 16, 2) := by decide +kernel
theorem d_In_numberOfLeadingZeros_31 : decode b_In_numberOfLeadingZeros 31 = .ok (.iushr, 1) := by decide +kernel
theorem d_In_numberOfLeadingZeros_32 : decode b_In_numberOfLeadingZeros 32 = .ok (.istore_n 0, 1) := by decide +kernel
theorem d_In_numberOfLeadingZeros_33 : decode b_In_numberOfLeadingZeros 33 = .ok (.iload_n 0, 1) := by decide +kernel
theorem d_In_numberOfLeadingZeros_34 : decode b_In_numberOfLeadingZeros 34 = .ok (.sipush 256, 3) := by decide +kernel
theorem d_In_numberOfLeadingZeros_37 : decode b_In_numberOfLeadingZeros 37 = .ok (.if_icmp .lt 11, 3) := by decide +kernel
theorem d_In_numberOfLeadingZeros_40 : decode b_In_numberOfLeadingZeros 40 = .ok (.iinc 1 (-8), 3) := by decide +kernel
theorem d_In_numberOfLeadingZeros_43 : decode b_In_numberOfLeadingZeros 43 = .ok (.iload_n 0, 1) := by decide +kernel
theorem d_In_numberOfLeadingZeros_44 : decode b_In_numberOfLeadingZeros 44 = .ok (.bipush 8, 2) := by decide +kernel
theorem d_In_numberOfLeadingZeros_46 : decode b_In_numberOfLeadingZeros 46 = .ok (.iushr, 1) := by decide +kernel
theorem d_In_numberOfLeadingZeros_47 : decode b_In_numberOfLeadingZeros 47 = .ok (.istore_n 0, 1) := by decide +kernel
theorem d_In_numberOfLeadingZeros_48 : decode b_In_numberOfLeadingZeros 48 = .ok (.iload_n 0, 1) := by decide +kernel
theorem d_In_numberOfLeadingZeros_49 : decode b_In_numberOfLeadingZeros 49 = .ok (.bipush 16, 2) := by decide +kernel
theorem d_In_numberOfLeadingZeros_51 : decode b_In_numberOfLeadingZeros 51 = .ok (.if_icmp .lt 10, 3) := by decide +kernel
theorem d_In_numberOfLeadingZeros_54 : decode b_In_numberOfLeadingZeros 54 = .ok (.iinc 1 (-4), 3) := by decide +kernel
theorem d_In_numberOfLeadingZeros_57 : decode b_In_numberOfLeadingZeros 57 = .ok (.iload_n 0, 1) := by decide +kernel
theorem d_In_numberOfLeadingZeros_58 : decode b_In_numberOfLeadingZeros 58 = .ok (.iconst 4, 1) := by decide +kernel
theorem d_In_numberOfLeadingZeros_59 : decode b_In_numberOfLeadingZeros 59 = .ok (.iushr, 1) := by decide +kernel
theorem d_In_numberOfLeadingZeros_60 : decode b_In_numberOfLeadingZeros 60 = .ok (.istore_n 0, 1) := by decide +kernel
theorem d_In_numberOfLeadingZeros_61 : decode b_In_numberOfLeadingZeros 61 = .ok (.iload_n 0, 1) := by decide +kernel
theorem d_In_numberOfLeadingZeros_62 : decode b_In_numberOfLeadingZeros 62 = .ok (.iconst 4, 1) := by decide +kernel
theorem d_In_numberOfLeadingZeros_63 : decode b_In_numberOfLeadingZeros 63 = .ok (.if_icmp .lt 10, 3) := by decide +kernel
theorem d_In_numberOfLeadingZeros_66 : decode b_In_numberOfLeadingZeros 66 = .ok (.iinc 1 (-2), 3) := by decide +kernel
theorem d_In_numberOfLeadingZeros_69 : decode b_In_numberOfLeadingZeros 69 = .ok (.iload_n 0, 1) := by decide +kernel
theorem d_In_numberOfLeadingZeros_70 : decode b_In_numberOfLeadingZeros 70 = .ok (.iconst 2, 1) := by decide +kernel
theorem d_In_numberOfLeadingZeros_71 : decode b_In_numberOfLeadingZeros 71 = .ok (.iushr, 1) := by decide +kernel
theorem d_In_numberOfLeadingZeros_72 : decode b_In_numberOfLeadingZeros 72 = .ok (.istore_n 0, 1) := by decide +kernel
theorem d_In_numberOfLeadingZeros_73 : decode b_In_numberOfLeadingZeros 73 = .ok (.iload_n 1, 1) := by decide +kernel
theorem d_In_numberOfLeadingZeros_74 : decode b_In_numberOfLeadingZeros 74 = .ok (.iload_n 0, 1) := by decide +kernel
theorem d_In_numberOfLeadingZeros_75 : decode b_In_numberOfLeadingZeros 75 = .ok (.iconst 1, 1) := by decide +kernel
theorem d_In_numberOfLeadingZeros_76 : decode b_In_numberOfLeadingZeros 76 = .ok (.iushr, 1) := by decide +kernel
theorem d_In_numberOfLeadingZeros_77 : decode b_In_numberOfLeadingZeros 77 = .ok (.isub, 1) := by decide +kernel
theorem d_In_numberOfLeadingZeros_78 : decode b_In_numberOfLeadingZeros 78 = .ok (.ireturn, 1) := by decide +kernel
