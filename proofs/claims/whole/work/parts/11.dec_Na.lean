theorem d_Na_init_0 : decode b_Na_init 0 = .ok (.aload_n 0, 1) := by decide +kernel
theorem d_Na_init_1 : decode b_Na_init 1 = .ok (.invokespecial 1, 3) := by decide +kernel
theorem d_Na_init_4 : decode b_Na_init 4 = .ok (.aload_n 0, 1) := by decide +kernel
theorem d_Na_init_5 : decode b_Na_init 5 = .ok (.sipush 306, 3) := by decide +kernel
theorem d_Na_init_8 : decode b_Na_init 8 = .ok (.newarray .int, 2) := by decide +kernel
theorem d_Na_init_10 : decode b_Na_init 10 = .ok (.putfield 9, 3) := by decide +kernel
theorem d_Na_init_13 : decode b_Na_init 13 = .ok (.aload_n 0, 1) := by decide +kernel
theorem d_Na_init_14 : decode b_Na_init 14 = .ok (.iconst 0, 1) := by decide +kernel
theorem d_Na_init_15 : decode b_Na_init 15 = .ok (.putfield 13, 3) := by decide +kernel
theorem d_Na_init_18 : decode b_Na_init 18 = .ok (.return_, 1) := by decide +kernel
theorem d_Na_setUnsigned_0 : decode b_Na_setUnsigned 0 = .ok (.lload_n 1, 1) := by decide +kernel
theorem d_Na_setUnsigned_1 : decode b_Na_setUnsigned 1 = .ok (.lstore_n 3, 1) := by decide +kernel
theorem d_Na_setUnsigned_2 : decode b_Na_setUnsigned 2 = .ok (.aload_n 0, 1) := by decide +kernel
theorem d_Na_setUnsigned_3 : decode b_Na_setUnsigned 3 = .ok (.iconst 0, 1) := by decide +kernel
theorem d_Na_setUnsigned_4 : decode b_Na_setUnsigned 4 = .ok (.putfield 13, 3) := by decide +kernel
theorem d_Na_setUnsigned_7 : decode b_Na_setUnsigned 7 = .ok (.lload_n 3, 1) := by decide +kernel
theorem d_Na_setUnsigned_8 : decode b_Na_setUnsigned 8 = .ok (.lconst 0, 1) := by decide +kernel
theorem d_Na_setUnsigned_9 : decode b_Na_setUnsigned 9 = .ok (.lcmp, 1) := by decide +kernel
theorem d_Na_setUnsigned_10 : decode b_Na_setUnsigned 10 = .ok (.ifCond .eq 58, 3) := by decide +kernel
theorem d_Na_setUnsigned_13 : decode b_Na_setUnsigned 13 = .ok (.aload_n 0, 1) := by decide +kernel
theorem d_Na_setUnsigned_14 : decode b_Na_setUnsigned 14 = .ok (.getfield 13, 3) := by decide +kernel
theorem d_Na_setUnsigned_17 : decode b_Na_setUnsigned 17 = .ok (.aload_n 0, 1) := by decide +kernel
theorem d_Na_setUnsigned_18 : decode b_Na_setUnsigned 18 = .ok (.getfield 9, 3) := by decide +kernel
theorem d_Na_setUnsigned_21 : decode b_Na_setUnsigned 21 = .ok (.arraylength, 1) := by decide +kernel
theorem d_Na_setUnsigned_22 : decode b_Na_setUnsigned 22 = .ok (.if_icmp .ge 46, 3) := by decide +kernel
theorem d_Na_setUnsigned_25 : decode b_Na_setUnsigned 25 = .ok (.lload_n 3, 1) := by decide +kernel
theorem d_Na_setUnsigned_26 : decode b_Na_setUnsigned 26 = .ok (.iconst 1, 1) := by decide +kernel
theorem d_Na_setUnsigned_27 : decode b_Na_setUnsigned 27 = .ok (.lushr, 1) := by decide +kernel
theorem d_Na_setUnsigned_28 : decode b_Na_setUnsigned 28 = .ok (.ldc2_w 17, 3) := by decide +kernel
theorem d_Na_setUnsigned_31 : decode b_Na_setUnsigned 31 = .ok (.ldiv, 1) := by decide +kernel
theorem d_Na_setUnsigned_32 : decode b_Na_setUnsigned 32 = .ok (.lstore 5, 2) := by decide +kernel
theorem d_Na_setUnsigned_34 : decode b_Na_setUnsigned 34 = .ok (.aload_n 0, 1) := by decide +kernel
theorem d_Na_setUnsigned_35 : decode b_Na_setUnsigned 35 = .ok (.getfield 9, 3) := by decide +kernel
theorem d_Na_setUnsigned_38 : decode b_Na_setUnsigned 38 = .ok (.aload_n 0, 1) := by decide +kernel
theorem d_Na_setUnsigned_39 : decode b_Na_setUnsigned 39 = .ok (.getfield 13, 3) := by decide +kernel
theorem d_Na_setUnsigned_42 : decode b_Na_setUnsigned 42 = .ok (.lload_n 3, 1) := by decide +kernel
theorem d_Na_setUnsigned_43 : decode b_Na_setUnsigned 43 = .ok (.lload 5, 2) := by decide +kernel
theorem d_Na_setUnsigned_45 : decode b_Na_setUnsigned 45 = .ok (.ldc2_w 19, 3) := by decide +kernel
theorem d_Na_setUnsigned_48 : decode b_Na_setUnsigned 48 = .ok (.lmul, 1) := by decide +kernel
theorem d_Na_setUnsigned_49 : decode b_Na_setUnsigned 49 = .ok (.lsub, 1) := by decide +kernel
theorem d_Na_setUnsigned_50 : decode b_Na_setUnsigned 50 = .ok (.l2i, 1) := by decide +kernel
theorem d_Na_setUnsigned_51 : decode b_Na_setUnsigned 51 = .ok (.iastore, 1) := by decide +kernel
theorem d_Na_setUnsigned_52 : decode b_Na_setUnsigned 52 = .ok (.lload 5, 2) := by decide +kernel
theorem d_Na_setUnsigned_54 : decode b_Na_setUnsigned 54 = .ok (.lstore_n 3, 1) := by decide +kernel
theorem d_Na_setUnsigned_55 : decode b_Na_setUnsigned 55 = .ok (.aload_n 0, 1) := by decide +kernel
theorem d_Na_setUnsigned_56 : decode b_Na_setUnsigned 56 = .ok (.dup, 1) := by decide +kernel
theorem d_Na_setUnsigned_57 : decode b_Na_setUnsigned 57 = .ok (.getfield 13, 3) := by decide +kernel
theorem d_Na_setUnsigned_60 : decode b_Na_setUnsigned 60 = .ok (.iconst 1, 1) := by decide +kernel
theorem d_Na_setUnsigned_61 : decode b_Na_setUnsigned 61 = .ok (.iadd, 1) := by decide +kernel
theorem d_Na_setUnsigned_62 : decode b_Na_setUnsigned 62 = .ok (.putfield 13, 3) := by decide +kernel
theorem d_Na_setUnsigned_65 : decode b_Na_setUnsigned 65 = .ok (.goto (-58), 3) := by decide +kernel
theorem d_Na_setUnsigned_68 : decode b_Na_setUnsigned 68 = .ok (.return_, 1) := by decide +kernel
theorem d_Na_length_0 : decode b_Na_length 0 = .ok (.aload_n 0, 1) := by decide +kernel
theorem d_Na_length_1 : decode b_Na_length 1 = .ok (.getfield 13, 3) := by decide +kernel
theorem d_Na_length_4 : decode b_Na_length 4 = .ok (.ifCond .ne 5, 3) := by decide +kernel
theorem d_Na_length_7 : decode b_Na_length 7 = .ok (.iconst 0, 1) := by decide +kernel
theorem d_Na_length_8 : decode b_Na_length 8 = .ok (.ireturn, 1) := by decide +kernel
theorem d_Na_length_9 : decode b_Na_length 9 = .ok (.aload_n 0, 1) := by decide +kernel
theorem d_Na_length_10 : decode b_Na_length 10 = .ok (.getfield 13, 3) := by decide +kernel
theorem d_Na_length_13 : decode b_Na_length 13 = .ok (.iconst 1, 1) := by decide +kernel
theorem d_Na_length_14 : decode b_Na_length 14 = .ok (.isub, 1) := by decide +kernel
theorem d_Na_length_15 : decode b_Na_length 15 = .ok (.bipush 9, 2) := by decide +kernel
theorem d_Na_length_17 : decode b_Na_length 17 = .ok (.imul, 1) := by decide +kernel
theorem d_Na_length_18 : decode b_Na_length 18 = .ok (.istore_n 1, 1) := by decide +kernel
theorem d_Na_length_19 : decode b_Na_length 19 = .ok (.aload_n 0, 1) := by decide +kernel
theorem d_Na_length_20 : decode b_Na_length 20 = .ok (.getfield 9, 3) := by decide +kernel
theorem d_Na_length_23 : decode b_Na_length 23 = .ok (.aload_n 0, 1) := by decide +kernel
theorem d_Na_length_24 : decode b_Na_length 24 = .ok (.getfield 13, 3) := by decide +kernel
theorem d_Na_length_27 : decode b_Na_length 27 = .ok (.iconst 1, 1) := by decide +kernel
theorem d_Na_length_28 : decode b_Na_length 28 = .ok (.isub, 1) := by decide +kernel
theorem d_Na_length_29 : decode b_Na_length 29 = .ok (.iaload, 1) := by decide +kernel
theorem d_Na_length_30 : decode b_Na_length 30 = .ok (.istore_n 2, 1) := by decide +kernel
theorem d_Na_length_31 : decode b_Na_length 31 = .ok (.iload_n 2, 1) := by decide +kernel
theorem d_Na_length_32 : decode b_Na_length 32 = .ok (.ifCond .le 14, 3) := by decide +kernel
theorem d_Na_length_35 : decode b_Na_length 35 = .ok (.iinc 1 1, 3) := by decide +kernel
theorem d_Na_length_38 : decode b_Na_length 38 = .ok (.iload_n 2, 1) := by decide +kernel
theorem d_Na_length_39 : decode b_Na_length 39 = .ok (.bipush 10, 2) := by decide +kernel
theorem d_Na_length_41 : decode b_Na_length 41 = .ok (.idiv, 1) := by decide +kernel
theorem d_Na_length_42 : decode b_Na_length 42 = .ok (.istore_n 2, 1) := by decide +kernel
theorem d_Na_length_43 : decode b_Na_length 43 = .ok (.goto (-12), 3) := by decide +kernel
theorem d_Na_length_46 : decode b_Na_length 46 = .ok (.iload_n 1, 1) := by decide +kernel
theorem d_Na_length_47 : decode b_Na_length 47 = .ok (.ireturn, 1) := by decide +kernel
theorem d_Na_copyDigits_0 : decode b_Na_copyDigits 0 = .ok (.aload_n 0, 1) := by decide +kernel
theorem d_Na_copyDigits_1 : decode b_Na_copyDigits 1 = .ok (.invokevirtual 34, 3) := by decide +kernel
theorem d_Na_copyDigits_4 : decode b_Na_copyDigits 4 = .ok (.istore_n 2, 1) := by decide +kernel
theorem d_Na_copyDigits_5 : decode b_Na_copyDigits 5 = .ok (.iconst 0, 1) := by decide +kernel
theorem d_Na_copyDigits_6 : decode b_Na_copyDigits 6 = .ok (.istore_n 3, 1) := by decide +kernel
theorem d_Na_copyDigits_7 : decode b_Na_copyDigits 7 = .ok (.iconst 0, 1) := by decide +kernel
theorem d_Na_copyDigits_8 : decode b_Na_copyDigits 8 = .ok (.istore 4, 2) := by decide +kernel
theorem d_Na_copyDigits_10 : decode b_Na_copyDigits 10 = .ok (.iload 4, 2) := by decide +kernel
theorem d_Na_copyDigits_12 : decode b_Na_copyDigits 12 = .ok (.iload_n 2, 1) := by decide +kernel
theorem d_Na_copyDigits_13 : decode b_Na_copyDigits 13 = .ok (.if_icmp .ge 59, 3) := by decide +kernel
theorem d_Na_copyDigits_16 : decode b_Na_copyDigits 16 = .ok (.iload 4, 2) := by decide +kernel
theorem d_Na_copyDigits_18 : decode b_Na_copyDigits 18 = .ok (.bipush 9, 2) := by decide +kernel
theorem d_Na_copyDigits_20 : decode b_Na_copyDigits 20 = .ok (.irem, 1) := by decide +kernel
theorem d_Na_copyDigits_21 : decode b_Na_copyDigits 21 = .ok (.ifCond .ne 16, 3) := by decide +kernel
theorem d_Na_copyDigits_24 : decode b_Na_copyDigits 24 = .ok (.aload_n 0, 1) := by decide +kernel
theorem d_Na_copyDigits_25 : decode b_Na_copyDigits 25 = .ok (.getfield 9, 3) := by decide +kernel
theorem d_Na_copyDigits_28 : decode b_Na_copyDigits 28 = .ok (.iload 4, 2) := by decide +kernel
theorem d_Na_copyDigits_30 : decode b_Na_copyDigits 30 = .ok (.bipush 9, 2) := by decide +kernel
theorem d_Na_copyDigits_32 : decode b_Na_copyDigits 32 = .ok (.idiv, 1) := by decide +kernel
theorem d_Na_copyDigits_33 : decode b_Na_copyDigits 33 = .ok (.iaload, 1) := by decide +kernel
theorem d_Na_copyDigits_34 : decode b_Na_copyDigits 34 = .ok (.goto 7, 3) := by decide +kernel
theorem d_Na_copyDigits_37 : decode b_Na_copyDigits 37 = .ok (.iload_n 3, 1) := by decide +kernel
theorem d_Na_copyDigits_38 : decode b_Na_copyDigits 38 = .ok (.bipush 10, 2) := by decide +kernel
theorem d_Na_copyDigits_40 : decode b_Na_copyDigits 40 = .ok (.idiv, 1) := by decide +kernel
theorem d_Na_copyDigits_41 : decode b_Na_copyDigits 41 = .ok (.istore_n 3, 1) := by decide +kernel
theorem d_Na_copyDigits_42 : decode b_Na_copyDigits 42 = .ok (.iload_n 2, 1) := by decide +kernel
theorem d_Na_copyDigits_43 : decode b_Na_copyDigits 43 = .ok (.iconst 1, 1) := by decide +kernel
theorem d_Na_copyDigits_44 : decode b_Na_copyDigits 44 = .ok (.isub, 1) := by decide +kernel
theorem d_Na_copyDigits_45 : decode b_Na_copyDigits 45 = .ok (.iload 4, 2) := by decide +kernel
theorem d_Na_copyDigits_47 : decode b_Na_copyDigits 47 = .ok (.isub, 1) := by decide +kernel
theorem d_Na_copyDigits_48 : decode b_Na_copyDigits 48 = .ok (.istore 5, 2) := by decide +kernel
theorem d_Na_copyDigits_50 : decode b_Na_copyDigits 50 = .ok (.iload 5, 2) := by decide +kernel
theorem d_Na_copyDigits_52 : decode b_Na_copyDigits 52 = .ok (.aload_n 1, 1) := by decide +kernel
theorem d_Na_copyDigits_53 : decode b_Na_copyDigits 53 = .ok (.arraylength, 1) := by decide +kernel
theorem d_Na_copyDigits_54 : decode b_Na_copyDigits 54 = .ok (.if_icmp .ge 12, 3) := by decide +kernel
theorem d_Na_copyDigits_57 : decode b_Na_copyDigits 57 = .ok (.aload_n 1, 1) := by decide +kernel
theorem d_Na_copyDigits_58 : decode b_Na_copyDigits 58 = .ok (.iload 5, 2) := by decide +kernel
theorem d_Na_copyDigits_60 : decode b_Na_copyDigits 60 = .ok (.iload_n 3, 1) := by decide +kernel
theorem d_Na_copyDigits_61 : decode b_Na_copyDigits 61 = .ok (.bipush 10, 2) := by decide +kernel
theorem d_Na_copyDigits_63 : decode b_Na_copyDigits 63 = .ok (.irem, 1) := by decide +kernel
theorem d_Na_copyDigits_64 : decode b_Na_copyDigits 64 = .ok (.i2b, 1) := by decide +kernel
theorem d_Na_copyDigits_65 : decode b_Na_copyDigits 65 = .ok (.bastore, 1) := by decide +kernel
theorem d_Na_copyDigits_66 : decode b_Na_copyDigits 66 = .ok (.iinc 4 1, 3) := by decide +kernel
theorem d_Na_copyDigits_69 : decode b_Na_copyDigits 69 = .ok (.goto (-59), 3) := by decide +kernel
theorem d_Na_copyDigits_72 : decode b_Na_copyDigits 72 = .ok (.aload_n 0, 1) := by decide +kernel
theorem d_Na_copyDigits_73 : decode b_Na_copyDigits 73 = .ok (.iload_n 2, 1) := by decide +kernel
theorem d_Na_copyDigits_74 : decode b_Na_copyDigits 74 = .ok (.aload_n 1, 1) := by decide +kernel
theorem d_Na_copyDigits_75 : decode b_Na_copyDigits 75 = .ok (.arraylength, 1) := by decide +kernel
theorem d_Na_copyDigits_76 : decode b_Na_copyDigits 76 = .ok (.isub, 1) := by decide +kernel
theorem d_Na_copyDigits_77 : decode b_Na_copyDigits 77 = .ok (.invokevirtual 38, 3) := by decide +kernel
theorem d_Na_copyDigits_80 : decode b_Na_copyDigits 80 = .ok (.ireturn, 1) := by decide +kernel
theorem d_Na_hasDigitBelow_0 : decode b_Na_hasDigitBelow 0 = .ok (.iload_n 1, 1) := by decide +kernel
theorem d_Na_hasDigitBelow_1 : decode b_Na_hasDigitBelow 1 = .ok (.aload_n 0, 1) := by decide +kernel
theorem d_Na_hasDigitBelow_2 : decode b_Na_hasDigitBelow 2 = .ok (.invokevirtual 34, 3) := by decide +kernel
theorem d_Na_hasDigitBelow_5 : decode b_Na_hasDigitBelow 5 = .ok (.invokestatic 21, 3) := by decide +kernel
theorem d_Na_hasDigitBelow_8 : decode b_Na_hasDigitBelow 8 = .ok (.istore_n 2, 1) := by decide +kernel
theorem d_Na_hasDigitBelow_9 : decode b_Na_hasDigitBelow 9 = .ok (.iconst 0, 1) := by decide +kernel
theorem d_Na_hasDigitBelow_10 : decode b_Na_hasDigitBelow 10 = .ok (.istore_n 3, 1) := by decide +kernel
theorem d_Na_hasDigitBelow_11 : decode b_Na_hasDigitBelow 11 = .ok (.iconst 0, 1) := by decide +kernel
theorem d_Na_hasDigitBelow_12 : decode b_Na_hasDigitBelow 12 = .ok (.istore 4, 2) := by decide +kernel
theorem d_Na_hasDigitBelow_14 : decode b_Na_hasDigitBelow 14 = .ok (.iload 4, 2) := by decide +kernel
theorem d_Na_hasDigitBelow_16 : decode b_Na_hasDigitBelow 16 = .ok (.iload_n 2, 1) := by decide +kernel
theorem d_Na_hasDigitBelow_17 : decode b_Na_hasDigitBelow 17 = .ok (.if_icmp .ge 44, 3) := by decide +kernel
theorem d_Na_hasDigitBelow_20 : decode b_Na_hasDigitBelow 20 = .ok (.iload 4, 2) := by decide +kernel
theorem d_Na_hasDigitBelow_22 : decode b_Na_hasDigitBelow 22 = .ok (.bipush 9, 2) := by decide +kernel
theorem d_Na_hasDigitBelow_24 : decode b_Na_hasDigitBelow 24 = .ok (.irem, 1) := by decide +kernel
theorem d_Na_hasDigitBelow_25 : decode b_Na_hasDigitBelow 25 = .ok (.ifCond .ne 16, 3) := by decide +kernel
theorem d_Na_hasDigitBelow_28 : decode b_Na_hasDigitBelow 28 = .ok (.aload_n 0, 1) := by decide +kernel
theorem d_Na_hasDigitBelow_29 : decode b_Na_hasDigitBelow 29 = .ok (.getfield 9, 3) := by decide +kernel
theorem d_Na_hasDigitBelow_32 : decode b_Na_hasDigitBelow 32 = .ok (.iload 4, 2) := by decide +kernel
theorem d_Na_hasDigitBelow_34 : decode b_Na_hasDigitBelow 34 = .ok (.bipush 9, 2) := by decide +kernel
theorem d_Na_hasDigitBelow_36 : decode b_Na_hasDigitBelow 36 = .ok (.idiv, 1) := by decide +kernel
theorem d_Na_hasDigitBelow_37 : decode b_Na_hasDigitBelow 37 = .ok (.iaload, 1) := by decide +kernel
theorem d_Na_hasDigitBelow_38 : decode b_Na_hasDigitBelow 38 = .ok (.goto 7, 3) := by decide +kernel
theorem d_Na_hasDigitBelow_41 : decode b_Na_hasDigitBelow 41 = .ok (.iload_n 3, 1) := by decide +kernel
theorem d_Na_hasDigitBelow_42 : decode b_Na_hasDigitBelow 42 = .ok (.bipush 10, 2) := by decide +kernel
theorem d_Na_hasDigitBelow_44 : decode b_Na_hasDigitBelow 44 = .ok (.idiv, 1) := by decide +kernel
theorem d_Na_hasDigitBelow_45 : decode b_Na_hasDigitBelow 45 = .ok (.istore_n 3, 1) := by decide +kernel
theorem d_Na_hasDigitBelow_46 : decode b_Na_hasDigitBelow 46 = .ok (.iload_n 3, 1) := by decide +kernel
theorem d_Na_hasDigitBelow_47 : decode b_Na_hasDigitBelow 47 = .ok (.bipush 10, 2) := by decide +kernel
theorem d_Na_hasDigitBelow_49 : decode b_Na_hasDigitBelow 49 = .ok (.irem, 1) := by decide +kernel
theorem d_Na_hasDigitBelow_50 : decode b_Na_hasDigitBelow 50 = .ok (.ifCond .eq 5, 3) := by decide +kernel
theorem d_Na_hasDigitBelow_53 : decode b_Na_hasDigitBelow 53 = .ok (.iconst 1, 1) := by decide +kernel
theorem d_Na_hasDigitBelow_54 : decode b_Na_hasDigitBelow 54 = .ok (.ireturn, 1) := by decide +kernel
theorem d_Na_hasDigitBelow_55 : decode b_Na_hasDigitBelow 55 = .ok (.iinc 4 1, 3) := by decide +kernel
theorem d_Na_hasDigitBelow_58 : decode b_Na_hasDigitBelow 58 = .ok (.goto (-44), 3) := by decide +kernel
theorem d_Na_hasDigitBelow_61 : decode b_Na_hasDigitBelow 61 = .ok (.iconst 0, 1) := by decide +kernel
theorem d_Na_hasDigitBelow_62 : decode b_Na_hasDigitBelow 62 = .ok (.ireturn, 1) := by decide +kernel
theorem d_Na_setDigits_0 : decode b_Na_setDigits 0 = .ok (.iconst 0, 1) := by decide +kernel
theorem d_Na_setDigits_1 : decode b_Na_setDigits 1 = .ok (.istore_n 3, 1) := by decide +kernel
theorem d_Na_setDigits_2 : decode b_Na_setDigits 2 = .ok (.aload_n 0, 1) := by decide +kernel
theorem d_Na_setDigits_3 : decode b_Na_setDigits 3 = .ok (.iload_n 2, 1) := by decide +kernel
theorem d_Na_setDigits_4 : decode b_Na_setDigits 4 = .ok (.bipush 9, 2) := by decide +kernel
theorem d_Na_setDigits_6 : decode b_Na_setDigits 6 = .ok (.iadd, 1) := by decide +kernel
theorem d_Na_setDigits_7 : decode b_Na_setDigits 7 = .ok (.iconst 1, 1) := by decide +kernel
theorem d_Na_setDigits_8 : decode b_Na_setDigits 8 = .ok (.isub, 1) := by decide +kernel
theorem d_Na_setDigits_9 : decode b_Na_setDigits 9 = .ok (.bipush 9, 2) := by decide +kernel
theorem d_Na_setDigits_11 : decode b_Na_setDigits 11 = .ok (.idiv, 1) := by decide +kernel
theorem d_Na_setDigits_12 : decode b_Na_setDigits 12 = .ok (.putfield 13, 3) := by decide +kernel
theorem d_Na_setDigits_15 : decode b_Na_setDigits 15 = .ok (.iconst 0, 1) := by decide +kernel
theorem d_Na_setDigits_16 : decode b_Na_setDigits 16 = .ok (.istore 4, 2) := by decide +kernel
theorem d_Na_setDigits_18 : decode b_Na_setDigits 18 = .ok (.iload 4, 2) := by decide +kernel
theorem d_Na_setDigits_20 : decode b_Na_setDigits 20 = .ok (.iload_n 2, 1) := by decide +kernel
theorem d_Na_setDigits_21 : decode b_Na_setDigits 21 = .ok (.if_icmp .ge 48, 3) := by decide +kernel
theorem d_Na_setDigits_24 : decode b_Na_setDigits 24 = .ok (.iload_n 2, 1) := by decide +kernel
theorem d_Na_setDigits_25 : decode b_Na_setDigits 25 = .ok (.iconst 1, 1) := by decide +kernel
theorem d_Na_setDigits_26 : decode b_Na_setDigits 26 = .ok (.isub, 1) := by decide +kernel
theorem d_Na_setDigits_27 : decode b_Na_setDigits 27 = .ok (.iload 4, 2) := by decide +kernel
theorem d_Na_setDigits_29 : decode b_Na_setDigits 29 = .ok (.isub, 1) := by decide +kernel
theorem d_Na_setDigits_30 : decode b_Na_setDigits 30 = .ok (.istore 5, 2) := by decide +kernel
theorem d_Na_setDigits_32 : decode b_Na_setDigits 32 = .ok (.iload_n 3, 1) := by decide +kernel
theorem d_Na_setDigits_33 : decode b_Na_setDigits 33 = .ok (.bipush 10, 2) := by decide +kernel
theorem d_Na_setDigits_35 : decode b_Na_setDigits 35 = .ok (.imul, 1) := by decide +kernel
theorem d_Na_setDigits_36 : decode b_Na_setDigits 36 = .ok (.aload_n 1, 1) := by decide +kernel
theorem d_Na_setDigits_37 : decode b_Na_setDigits 37 = .ok (.iload 4, 2) := by decide +kernel
theorem d_Na_setDigits_39 : decode b_Na_setDigits 39 = .ok (.baload, 1) := by decide +kernel
theorem d_Na_setDigits_40 : decode b_Na_setDigits 40 = .ok (.iadd, 1) := by decide +kernel
theorem d_Na_setDigits_41 : decode b_Na_setDigits 41 = .ok (.istore_n 3, 1) := by decide +kernel
theorem d_Na_setDigits_42 : decode b_Na_setDigits 42 = .ok (.iload 5, 2) := by decide +kernel
theorem d_Na_setDigits_44 : decode b_Na_setDigits 44 = .ok (.bipush 9, 2) := by decide +kernel
theorem d_Na_setDigits_46 : decode b_Na_setDigits 46 = .ok (.irem, 1) := by decide +kernel
theorem d_Na_setDigits_47 : decode b_Na_setDigits 47 = .ok (.ifCond .ne 16, 3) := by decide +kernel
theorem d_Na_setDigits_50 : decode b_Na_setDigits 50 = .ok (.aload_n 0, 1) := by decide +kernel
theorem d_Na_setDigits_51 : decode b_Na_setDigits 51 = .ok (.getfield 9, 3) := by decide +kernel
theorem d_Na_setDigits_54 : decode b_Na_setDigits 54 = .ok (.iload 5, 2) := by decide +kernel
theorem d_Na_setDigits_56 : decode b_Na_setDigits 56 = .ok (.bipush 9, 2) := by decide +kernel
theorem d_Na_setDigits_58 : decode b_Na_setDigits 58 = .ok (.idiv, 1) := by decide +kernel
theorem d_Na_setDigits_59 : decode b_Na_setDigits 59 = .ok (.iload_n 3, 1) := by decide +kernel
theorem d_Na_setDigits_60 : decode b_Na_setDigits 60 = .ok (.iastore, 1) := by decide +kernel
theorem d_Na_setDigits_61 : decode b_Na_setDigits 61 = .ok (.iconst 0, 1) := by decide +kernel
theorem d_Na_setDigits_62 : decode b_Na_setDigits 62 = .ok (.istore_n 3, 1) := by decide +kernel
theorem d_Na_setDigits_63 : decode b_Na_setDigits 63 = .ok (.iinc 4 1, 3) := by decide +kernel
theorem d_Na_setDigits_66 : decode b_Na_setDigits 66 = .ok (.goto (-48), 3) := by decide +kernel
theorem d_Na_setDigits_69 : decode b_Na_setDigits 69 = .ok (.return_, 1) := by decide +kernel
theorem d_Na_timesTwoTo_0 : decode b_Na_timesTwoTo 0 = .ok (.iload_n 1, 1) := by decide +kernel
theorem d_Na_timesTwoTo_1 : decode b_Na_timesTwoTo 1 = .ok (.istore_n 2, 1) := by decide +kernel
theorem d_Na_timesTwoTo_2 : decode b_Na_timesTwoTo 2 = .ok (.iload_n 2, 1) := by decide +kernel
theorem d_Na_timesTwoTo_3 : decode b_Na_timesTwoTo 3 = .ok (.ifCond .le 21, 3) := by decide +kernel
theorem d_Na_timesTwoTo_6 : decode b_Na_timesTwoTo 6 = .ok (.aload_n 0, 1) := by decide +kernel
theorem d_Na_timesTwoTo_7 : decode b_Na_timesTwoTo 7 = .ok (.iconst 1, 1) := by decide +kernel
theorem d_Na_timesTwoTo_8 : decode b_Na_timesTwoTo 8 = .ok (.iload_n 2, 1) := by decide +kernel
theorem d_Na_timesTwoTo_9 : decode b_Na_timesTwoTo 9 = .ok (.bipush 29, 2) := by decide +kernel
theorem d_Na_timesTwoTo_11 : decode b_Na_timesTwoTo 11 = .ok (.invokestatic 21, 3) := by decide +kernel
theorem d_Na_timesTwoTo_14 : decode b_Na_timesTwoTo 14 = .ok (.ishl, 1) := by decide +kernel
theorem d_Na_timesTwoTo_15 : decode b_Na_timesTwoTo 15 = .ok (.invokevirtual 27, 3) := by decide +kernel
theorem d_Na_timesTwoTo_18 : decode b_Na_timesTwoTo 18 = .ok (.iinc 2 (-29), 3) := by decide +kernel
theorem d_Na_timesTwoTo_21 : decode b_Na_timesTwoTo 21 = .ok (.goto (-19), 3) := by decide +kernel
theorem d_Na_timesTwoTo_24 : decode b_Na_timesTwoTo 24 = .ok (.iload_n 1, 1) := by decide +kernel
theorem d_Na_timesTwoTo_25 : decode b_Na_timesTwoTo 25 = .ok (.ineg, 1) := by decide +kernel
theorem d_Na_timesTwoTo_26 : decode b_Na_timesTwoTo 26 = .ok (.istore_n 2, 1) := by decide +kernel
theorem d_Na_timesTwoTo_27 : decode b_Na_timesTwoTo 27 = .ok (.iload_n 2, 1) := by decide +kernel
theorem d_Na_timesTwoTo_28 : decode b_Na_timesTwoTo 28 = .ok (.ifCond .le 23, 3) := by decide +kernel
theorem d_Na_timesTwoTo_31 : decode b_Na_timesTwoTo 31 = .ok (.aload_n 0, 1) := by decide +kernel
theorem d_Na_timesTwoTo_32 : decode b_Na_timesTwoTo 32 = .ok (.getstatic 31, 3) := by decide +kernel
theorem d_Na_timesTwoTo_35 : decode b_Na_timesTwoTo 35 = .ok (.iload_n 2, 1) := by decide +kernel
theorem d_Na_timesTwoTo_36 : decode b_Na_timesTwoTo 36 = .ok (.bipush 12, 2) := by decide +kernel
theorem d_Na_timesTwoTo_38 : decode b_Na_timesTwoTo 38 = .ok (.invokestatic 21, 3) := by decide +kernel
theorem d_Na_timesTwoTo_41 : decode b_Na_timesTwoTo 41 = .ok (.iaload, 1) := by decide +kernel
theorem d_Na_timesTwoTo_42 : decode b_Na_timesTwoTo 42 = .ok (.invokevirtual 27, 3) := by decide +kernel
theorem d_Na_timesTwoTo_45 : decode b_Na_timesTwoTo 45 = .ok (.iinc 2 (-12), 3) := by decide +kernel
theorem d_Na_timesTwoTo_48 : decode b_Na_timesTwoTo 48 = .ok (.goto (-21), 3) := by decide +kernel
theorem d_Na_timesTwoTo_51 : decode b_Na_timesTwoTo 51 = .ok (.iload_n 1, 1) := by decide +kernel
theorem d_Na_timesTwoTo_52 : decode b_Na_timesTwoTo 52 = .ok (.iconst 0, 1) := by decide +kernel
theorem d_Na_timesTwoTo_53 : decode b_Na_timesTwoTo 53 = .ok (.invokestatic 21, 3) := by decide +kernel
theorem d_Na_timesTwoTo_56 : decode b_Na_timesTwoTo 56 = .ok (.ireturn, 1) := by decide +kernel
theorem d_Na_times_0 : decode b_Na_times 0 = .ok (.lconst 0, 1) := by decide +kernel
theorem d_Na_times_1 : decode b_Na_times 1 = .ok (.lstore_n 2, 1) := by decide +kernel
theorem d_Na_times_2 : decode b_Na_times 2 = .ok (.iconst 0, 1) := by decide +kernel
theorem d_Na_times_3 : decode b_Na_times 3 = .ok (.istore 4, 2) := by decide +kernel
theorem d_Na_times_5 : decode b_Na_times 5 = .ok (.iload 4, 2) := by decide +kernel
theorem d_Na_times_7 : decode b_Na_times 7 = .ok (.aload_n 0, 1) := by decide +kernel
theorem d_Na_times_8 : decode b_Na_times 8 = .ok (.getfield 13, 3) := by decide +kernel
theorem d_Na_times_11 : decode b_Na_times 11 = .ok (.if_icmp .ge 47, 3) := by decide +kernel
theorem d_Na_times_14 : decode b_Na_times 14 = .ok (.aload_n 0, 1) := by decide +kernel
theorem d_Na_times_15 : decode b_Na_times 15 = .ok (.getfield 9, 3) := by decide +kernel
theorem d_Na_times_18 : decode b_Na_times 18 = .ok (.iload 4, 2) := by decide +kernel
theorem d_Na_times_20 : decode b_Na_times 20 = .ok (.iaload, 1) := by decide +kernel
theorem d_Na_times_21 : decode b_Na_times 21 = .ok (.i2l, 1) := by decide +kernel
theorem d_Na_times_22 : decode b_Na_times 22 = .ok (.iload_n 1, 1) := by decide +kernel
theorem d_Na_times_23 : decode b_Na_times 23 = .ok (.i2l, 1) := by decide +kernel
theorem d_Na_times_24 : decode b_Na_times 24 = .ok (.lmul, 1) := by decide +kernel
theorem d_Na_times_25 : decode b_Na_times 25 = .ok (.lload_n 2, 1) := by decide +kernel
theorem d_Na_times_26 : decode b_Na_times 26 = .ok (.ladd, 1) := by decide +kernel
theorem d_Na_times_27 : decode b_Na_times 27 = .ok (.lstore 5, 2) := by decide +kernel
theorem d_Na_times_29 : decode b_Na_times 29 = .ok (.lload 5, 2) := by decide +kernel
theorem d_Na_times_31 : decode b_Na_times 31 = .ok (.ldc2_w 19, 3) := by decide +kernel
theorem d_Na_times_34 : decode b_Na_times 34 = .ok (.ldiv, 1) := by decide +kernel
theorem d_Na_times_35 : decode b_Na_times 35 = .ok (.lstore_n 2, 1) := by decide +kernel
theorem d_Na_times_36 : decode b_Na_times 36 = .ok (.aload_n 0, 1) := by decide +kernel
theorem d_Na_times_37 : decode b_Na_times 37 = .ok (.getfield 9, 3) := by decide +kernel
theorem d_Na_times_40 : decode b_Na_times 40 = .ok (.iload 4, 2) := by decide +kernel
theorem d_Na_times_42 : decode b_Na_times 42 = .ok (.lload 5, 2) := by decide +kernel
theorem d_Na_times_44 : decode b_Na_times 44 = .ok (.lload_n 2, 1) := by decide +kernel
theorem d_Na_times_45 : decode b_Na_times 45 = .ok (.ldc2_w 19, 3) := by decide +kernel
theorem d_Na_times_48 : decode b_Na_times 48 = .ok (.lmul, 1) := by decide +kernel
theorem d_Na_times_49 : decode b_Na_times 49 = .ok (.lsub, 1) := by decide +kernel
theorem d_Na_times_50 : decode b_Na_times 50 = .ok (.l2i, 1) := by decide +kernel
theorem d_Na_times_51 : decode b_Na_times 51 = .ok (.iastore, 1) := by decide +kernel
theorem d_Na_times_52 : decode b_Na_times 52 = .ok (.iinc 4 1, 3) := by decide +kernel
theorem d_Na_times_55 : decode b_Na_times 55 = .ok (.goto (-50), 3) := by decide +kernel
theorem d_Na_times_58 : decode b_Na_times 58 = .ok (.lload_n 2, 1) := by decide +kernel
theorem d_Na_times_59 : decode b_Na_times 59 = .ok (.lconst 0, 1) := by decide +kernel
theorem d_Na_times_60 : decode b_Na_times 60 = .ok (.lcmp, 1) := by decide +kernel
theorem d_Na_times_61 : decode b_Na_times 61 = .ok (.ifCond .eq 36, 3) := by decide +kernel
theorem d_Na_times_64 : decode b_Na_times 64 = .ok (.aload_n 0, 1) := by decide +kernel
theorem d_Na_times_65 : decode b_Na_times 65 = .ok (.getfield 13, 3) := by decide +kernel
theorem d_Na_times_68 : decode b_Na_times 68 = .ok (.aload_n 0, 1) := by decide +kernel
theorem d_Na_times_69 : decode b_Na_times 69 = .ok (.getfield 9, 3) := by decide +kernel
theorem d_Na_times_72 : decode b_Na_times 72 = .ok (.arraylength, 1) := by decide +kernel
theorem d_Na_times_73 : decode b_Na_times 73 = .ok (.if_icmp .ge 24, 3) := by decide +kernel
theorem d_Na_times_76 : decode b_Na_times 76 = .ok (.aload_n 0, 1) := by decide +kernel
theorem d_Na_times_77 : decode b_Na_times 77 = .ok (.getfield 9, 3) := by decide +kernel
theorem d_Na_times_80 : decode b_Na_times 80 = .ok (.aload_n 0, 1) := by decide +kernel
theorem d_Na_times_81 : decode b_Na_times 81 = .ok (.getfield 13, 3) := by decide +kernel
theorem d_Na_times_84 : decode b_Na_times 84 = .ok (.lload_n 2, 1) := by decide +kernel
theorem d_Na_times_85 : decode b_Na_times 85 = .ok (.l2i, 1) := by decide +kernel
theorem d_Na_times_86 : decode b_Na_times 86 = .ok (.iastore, 1) := by decide +kernel
theorem d_Na_times_87 : decode b_Na_times 87 = .ok (.aload_n 0, 1) := by decide +kernel
theorem d_Na_times_88 : decode b_Na_times 88 = .ok (.dup, 1) := by decide +kernel
theorem d_Na_times_89 : decode b_Na_times 89 = .ok (.getfield 13, 3) := by decide +kernel
theorem d_Na_times_92 : decode b_Na_times 92 = .ok (.iconst 1, 1) := by decide +kernel
theorem d_Na_times_93 : decode b_Na_times 93 = .ok (.iadd, 1) := by decide +kernel
theorem d_Na_times_94 : decode b_Na_times 94 = .ok (.putfield 13, 3) := by decide +kernel
theorem d_Na_times_97 : decode b_Na_times 97 = .ok (.return_, 1) := by decide +kernel
theorem d_Na_firstDigits_0 : decode b_Na_firstDigits 0 = .ok (.aload_n 0, 1) := by decide +kernel
theorem d_Na_firstDigits_1 : decode b_Na_firstDigits 1 = .ok (.invokevirtual 34, 3) := by decide +kernel
theorem d_Na_firstDigits_4 : decode b_Na_firstDigits 4 = .ok (.istore_n 2, 1) := by decide +kernel
theorem d_Na_firstDigits_5 : decode b_Na_firstDigits 5 = .ok (.lconst 0, 1) := by decide +kernel
theorem d_Na_firstDigits_6 : decode b_Na_firstDigits 6 = .ok (.lstore_n 3, 1) := by decide +kernel
theorem d_Na_firstDigits_7 : decode b_Na_firstDigits 7 = .ok (.iconst 0, 1) := by decide +kernel
theorem d_Na_firstDigits_8 : decode b_Na_firstDigits 8 = .ok (.istore 5, 2) := by decide +kernel
theorem d_Na_firstDigits_10 : decode b_Na_firstDigits 10 = .ok (.iload 5, 2) := by decide +kernel
theorem d_Na_firstDigits_12 : decode b_Na_firstDigits 12 = .ok (.iload_n 1, 1) := by decide +kernel
theorem d_Na_firstDigits_13 : decode b_Na_firstDigits 13 = .ok (.if_icmp .ge 37, 3) := by decide +kernel
theorem d_Na_firstDigits_16 : decode b_Na_firstDigits 16 = .ok (.lload_n 3, 1) := by decide +kernel
theorem d_Na_firstDigits_17 : decode b_Na_firstDigits 17 = .ok (.ldc2_w 42, 3) := by decide +kernel
theorem d_Na_firstDigits_20 : decode b_Na_firstDigits 20 = .ok (.lmul, 1) := by decide +kernel
theorem d_Na_firstDigits_21 : decode b_Na_firstDigits 21 = .ok (.iload 5, 2) := by decide +kernel
theorem d_Na_firstDigits_23 : decode b_Na_firstDigits 23 = .ok (.iload_n 2, 1) := by decide +kernel
theorem d_Na_firstDigits_24 : decode b_Na_firstDigits 24 = .ok (.if_icmp .ge 16, 3) := by decide +kernel
theorem d_Na_firstDigits_27 : decode b_Na_firstDigits 27 = .ok (.aload_n 0, 1) := by decide +kernel
theorem d_Na_firstDigits_28 : decode b_Na_firstDigits 28 = .ok (.iload_n 2, 1) := by decide +kernel
theorem d_Na_firstDigits_29 : decode b_Na_firstDigits 29 = .ok (.iconst 1, 1) := by decide +kernel
theorem d_Na_firstDigits_30 : decode b_Na_firstDigits 30 = .ok (.isub, 1) := by decide +kernel
theorem d_Na_firstDigits_31 : decode b_Na_firstDigits 31 = .ok (.iload 5, 2) := by decide +kernel
theorem d_Na_firstDigits_33 : decode b_Na_firstDigits 33 = .ok (.isub, 1) := by decide +kernel
theorem d_Na_firstDigits_34 : decode b_Na_firstDigits 34 = .ok (.invokevirtual 44, 3) := by decide +kernel
theorem d_Na_firstDigits_37 : decode b_Na_firstDigits 37 = .ok (.goto 4, 3) := by decide +kernel
theorem d_Na_firstDigits_40 : decode b_Na_firstDigits 40 = .ok (.iconst 0, 1) := by decide +kernel
theorem d_Na_firstDigits_41 : decode b_Na_firstDigits 41 = .ok (.i2l, 1) := by decide +kernel
theorem d_Na_firstDigits_42 : decode b_Na_firstDigits 42 = .ok (.ladd, 1) := by decide +kernel
theorem d_Na_firstDigits_43 : decode b_Na_firstDigits 43 = .ok (.lstore_n 3, 1) := by decide +kernel
theorem d_Na_firstDigits_44 : decode b_Na_firstDigits 44 = .ok (.iinc 5 1, 3) := by decide +kernel
theorem d_Na_firstDigits_47 : decode b_Na_firstDigits 47 = .ok (.goto (-37), 3) := by decide +kernel
theorem d_Na_firstDigits_50 : decode b_Na_firstDigits 50 = .ok (.lload_n 3, 1) := by decide +kernel
theorem d_Na_firstDigits_51 : decode b_Na_firstDigits 51 = .ok (.lreturn, 1) := by decide +kernel
theorem d_Na_digitAt_0 : decode b_Na_digitAt 0 = .ok (.aload_n 0, 1) := by decide +kernel
theorem d_Na_digitAt_1 : decode b_Na_digitAt 1 = .ok (.getfield 9, 3) := by decide +kernel
theorem d_Na_digitAt_4 : decode b_Na_digitAt 4 = .ok (.iload_n 1, 1) := by decide +kernel
theorem d_Na_digitAt_5 : decode b_Na_digitAt 5 = .ok (.bipush 9, 2) := by decide +kernel
theorem d_Na_digitAt_7 : decode b_Na_digitAt 7 = .ok (.idiv, 1) := by decide +kernel
theorem d_Na_digitAt_8 : decode b_Na_digitAt 8 = .ok (.iaload, 1) := by decide +kernel
theorem d_Na_digitAt_9 : decode b_Na_digitAt 9 = .ok (.istore_n 2, 1) := by decide +kernel
theorem d_Na_digitAt_10 : decode b_Na_digitAt 10 = .ok (.iload_n 1, 1) := by decide +kernel
theorem d_Na_digitAt_11 : decode b_Na_digitAt 11 = .ok (.bipush 9, 2) := by decide +kernel
theorem d_Na_digitAt_13 : decode b_Na_digitAt 13 = .ok (.irem, 1) := by decide +kernel
theorem d_Na_digitAt_14 : decode b_Na_digitAt 14 = .ok (.istore_n 3, 1) := by decide +kernel
theorem d_Na_digitAt_15 : decode b_Na_digitAt 15 = .ok (.iload_n 3, 1) := by decide +kernel
theorem d_Na_digitAt_16 : decode b_Na_digitAt 16 = .ok (.ifCond .le 14, 3) := by decide +kernel
theorem d_Na_digitAt_19 : decode b_Na_digitAt 19 = .ok (.iload_n 2, 1) := by decide +kernel
theorem d_Na_digitAt_20 : decode b_Na_digitAt 20 = .ok (.bipush 10, 2) := by decide +kernel
theorem d_Na_digitAt_22 : decode b_Na_digitAt 22 = .ok (.idiv, 1) := by decide +kernel
theorem d_Na_digitAt_23 : decode b_Na_digitAt 23 = .ok (.istore_n 2, 1) := by decide +kernel
theorem d_Na_digitAt_24 : decode b_Na_digitAt 24 = .ok (.iinc 3 (-1), 3) := by decide +kernel
theorem d_Na_digitAt_27 : decode b_Na_digitAt 27 = .ok (.goto (-12), 3) := by decide +kernel
theorem d_Na_digitAt_30 : decode b_Na_digitAt 30 = .ok (.iload_n 2, 1) := by decide +kernel
theorem d_Na_digitAt_31 : decode b_Na_digitAt 31 = .ok (.bipush 10, 2) := by decide +kernel
theorem d_Na_digitAt_33 : decode b_Na_digitAt 33 = .ok (.irem, 1) := by decide +kernel
theorem d_Na_digitAt_34 : decode b_Na_digitAt 34 = .ok (.ireturn, 1) := by decide +kernel
