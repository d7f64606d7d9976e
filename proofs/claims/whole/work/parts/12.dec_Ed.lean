theorem d_Ed_init_0 : decode b_Ed_init 0 = .ok (.aload_n 0, 1) := by decide +kernel
theorem d_Ed_init_1 : decode b_Ed_init 1 = .ok (.invokespecial 1, 3) := by decide +kernel
theorem d_Ed_init_4 : decode b_Ed_init 4 = .ok (.aload_n 0, 1) := by decide +kernel
theorem d_Ed_init_5 : decode b_Ed_init 5 = .ok (.sipush 1200, 3) := by decide +kernel
theorem d_Ed_init_8 : decode b_Ed_init 8 = .ok (.newarray .byte, 2) := by decide +kernel
theorem d_Ed_init_10 : decode b_Ed_init 10 = .ok (.putfield 9, 3) := by decide +kernel
theorem d_Ed_init_13 : decode b_Ed_init 13 = .ok (.aload_n 0, 1) := by decide +kernel
theorem d_Ed_init_14 : decode b_Ed_init 14 = .ok (.new 13, 3) := by decide +kernel
theorem d_Ed_init_17 : decode b_Ed_init 17 = .ok (.dup, 1) := by decide +kernel
theorem d_Ed_init_18 : decode b_Ed_init 18 = .ok (.invokespecial 15, 3) := by decide +kernel
theorem d_Ed_init_21 : decode b_Ed_init 21 = .ok (.putfield 16, 3) := by decide +kernel
theorem d_Ed_init_24 : decode b_Ed_init 24 = .ok (.aload_n 0, 1) := by decide +kernel
theorem d_Ed_init_25 : decode b_Ed_init 25 = .ok (.iconst 0, 1) := by decide +kernel
theorem d_Ed_init_26 : decode b_Ed_init 26 = .ok (.putfield 20, 3) := by decide +kernel
theorem d_Ed_init_29 : decode b_Ed_init 29 = .ok (.aload_n 0, 1) := by decide +kernel
theorem d_Ed_init_30 : decode b_Ed_init 30 = .ok (.iconst 0, 1) := by decide +kernel
theorem d_Ed_init_31 : decode b_Ed_init 31 = .ok (.putfield 24, 3) := by decide +kernel
theorem d_Ed_init_34 : decode b_Ed_init 34 = .ok (.aload_n 0, 1) := by decide +kernel
theorem d_Ed_init_35 : decode b_Ed_init 35 = .ok (.iconst 0, 1) := by decide +kernel
theorem d_Ed_init_36 : decode b_Ed_init 36 = .ok (.putfield 27, 3) := by decide +kernel
theorem d_Ed_init_39 : decode b_Ed_init 39 = .ok (.return_, 1) := by decide +kernel
theorem d_Ed_whole_0 : decode b_Ed_whole 0 = .ok (.aload_n 0, 1) := by decide +kernel
theorem d_Ed_whole_1 : decode b_Ed_whole 1 = .ok (.getfield 16, 3) := by decide +kernel
theorem d_Ed_whole_4 : decode b_Ed_whole 4 = .ok (.lload_n 1, 1) := by decide +kernel
theorem d_Ed_whole_5 : decode b_Ed_whole 5 = .ok (.invokevirtual 31, 3) := by decide +kernel
theorem d_Ed_whole_8 : decode b_Ed_whole 8 = .ok (.aload_n 0, 1) := by decide +kernel
theorem d_Ed_whole_9 : decode b_Ed_whole 9 = .ok (.iconst 0, 1) := by decide +kernel
theorem d_Ed_whole_10 : decode b_Ed_whole 10 = .ok (.invokevirtual 35, 3) := by decide +kernel
theorem d_Ed_whole_13 : decode b_Ed_whole 13 = .ok (.aload_n 0, 1) := by decide +kernel
theorem d_Ed_whole_14 : decode b_Ed_whole 14 = .ok (.getfield 20, 3) := by decide +kernel
theorem d_Ed_whole_17 : decode b_Ed_whole 17 = .ok (.ireturn, 1) := by decide +kernel
theorem d_Ed_giveScratch_0 : decode b_Ed_giveScratch 0 = .ok (.aload_n 0, 1) := by decide +kernel
theorem d_Ed_giveScratch_1 : decode b_Ed_giveScratch 1 = .ok (.getfield 16, 3) := by decide +kernel
theorem d_Ed_giveScratch_4 : decode b_Ed_giveScratch 4 = .ok (.invokevirtual 107, 3) := by decide +kernel
theorem d_Ed_giveScratch_7 : decode b_Ed_giveScratch 7 = .ok (.istore_n 2, 1) := by decide +kernel
theorem d_Ed_giveScratch_8 : decode b_Ed_giveScratch 8 = .ok (.aload_n 0, 1) := by decide +kernel
theorem d_Ed_giveScratch_9 : decode b_Ed_giveScratch 9 = .ok (.aload_n 0, 1) := by decide +kernel
theorem d_Ed_giveScratch_10 : decode b_Ed_giveScratch 10 = .ok (.getfield 16, 3) := by decide +kernel
theorem d_Ed_giveScratch_13 : decode b_Ed_giveScratch 13 = .ok (.aload_n 0, 1) := by decide +kernel
theorem d_Ed_giveScratch_14 : decode b_Ed_giveScratch 14 = .ok (.getfield 9, 3) := by decide +kernel
theorem d_Ed_giveScratch_17 : decode b_Ed_giveScratch 17 = .ok (.invokevirtual 111, 3) := by decide +kernel
theorem d_Ed_giveScratch_20 : decode b_Ed_giveScratch 20 = .ok (.putfield 27, 3) := by decide +kernel
theorem d_Ed_giveScratch_23 : decode b_Ed_giveScratch 23 = .ok (.aload_n 0, 1) := by decide +kernel
theorem d_Ed_giveScratch_24 : decode b_Ed_giveScratch 24 = .ok (.iload_n 2, 1) := by decide +kernel
theorem d_Ed_giveScratch_25 : decode b_Ed_giveScratch 25 = .ok (.sipush 1200, 3) := by decide +kernel
theorem d_Ed_giveScratch_28 : decode b_Ed_giveScratch 28 = .ok (.invokestatic 115, 3) := by decide +kernel
theorem d_Ed_giveScratch_31 : decode b_Ed_giveScratch 31 = .ok (.putfield 20, 3) := by decide +kernel
theorem d_Ed_giveScratch_34 : decode b_Ed_giveScratch 34 = .ok (.aload_n 0, 1) := by decide +kernel
theorem d_Ed_giveScratch_35 : decode b_Ed_giveScratch 35 = .ok (.iload_n 2, 1) := by decide +kernel
theorem d_Ed_giveScratch_36 : decode b_Ed_giveScratch 36 = .ok (.iload_n 1, 1) := by decide +kernel
theorem d_Ed_giveScratch_37 : decode b_Ed_giveScratch 37 = .ok (.iadd, 1) := by decide +kernel
theorem d_Ed_giveScratch_38 : decode b_Ed_giveScratch 38 = .ok (.putfield 24, 3) := by decide +kernel
theorem d_Ed_giveScratch_41 : decode b_Ed_giveScratch 41 = .ok (.aload_n 0, 1) := by decide +kernel
theorem d_Ed_giveScratch_42 : decode b_Ed_giveScratch 42 = .ok (.invokevirtual 121, 3) := by decide +kernel
theorem d_Ed_giveScratch_45 : decode b_Ed_giveScratch 45 = .ok (.return_, 1) := by decide +kernel
theorem d_Ed_dropZerosBehind_0 : decode b_Ed_dropZerosBehind 0 = .ok (.aload_n 0, 1) := by decide +kernel
theorem d_Ed_dropZerosBehind_1 : decode b_Ed_dropZerosBehind 1 = .ok (.getfield 20, 3) := by decide +kernel
theorem d_Ed_dropZerosBehind_4 : decode b_Ed_dropZerosBehind 4 = .ok (.ifCond .le 30, 3) := by decide +kernel
theorem d_Ed_dropZerosBehind_7 : decode b_Ed_dropZerosBehind 7 = .ok (.aload_n 0, 1) := by decide +kernel
theorem d_Ed_dropZerosBehind_8 : decode b_Ed_dropZerosBehind 8 = .ok (.getfield 9, 3) := by decide +kernel
theorem d_Ed_dropZerosBehind_11 : decode b_Ed_dropZerosBehind 11 = .ok (.aload_n 0, 1) := by decide +kernel
theorem d_Ed_dropZerosBehind_12 : decode b_Ed_dropZerosBehind 12 = .ok (.getfield 20, 3) := by decide +kernel
theorem d_Ed_dropZerosBehind_15 : decode b_Ed_dropZerosBehind 15 = .ok (.iconst 1, 1) := by decide +kernel
theorem d_Ed_dropZerosBehind_16 : decode b_Ed_dropZerosBehind 16 = .ok (.isub, 1) := by decide +kernel
theorem d_Ed_dropZerosBehind_17 : decode b_Ed_dropZerosBehind 17 = .ok (.baload, 1) := by decide +kernel
theorem d_Ed_dropZerosBehind_18 : decode b_Ed_dropZerosBehind 18 = .ok (.ifCond .ne 16, 3) := by decide +kernel
theorem d_Ed_dropZerosBehind_21 : decode b_Ed_dropZerosBehind 21 = .ok (.aload_n 0, 1) := by decide +kernel
theorem d_Ed_dropZerosBehind_22 : decode b_Ed_dropZerosBehind 22 = .ok (.dup, 1) := by decide +kernel
theorem d_Ed_dropZerosBehind_23 : decode b_Ed_dropZerosBehind 23 = .ok (.getfield 20, 3) := by decide +kernel
theorem d_Ed_dropZerosBehind_26 : decode b_Ed_dropZerosBehind 26 = .ok (.iconst 1, 1) := by decide +kernel
theorem d_Ed_dropZerosBehind_27 : decode b_Ed_dropZerosBehind 27 = .ok (.isub, 1) := by decide +kernel
theorem d_Ed_dropZerosBehind_28 : decode b_Ed_dropZerosBehind 28 = .ok (.putfield 20, 3) := by decide +kernel
theorem d_Ed_dropZerosBehind_31 : decode b_Ed_dropZerosBehind 31 = .ok (.goto (-31), 3) := by decide +kernel
theorem d_Ed_dropZerosBehind_34 : decode b_Ed_dropZerosBehind 34 = .ok (.aload_n 0, 1) := by decide +kernel
theorem d_Ed_dropZerosBehind_35 : decode b_Ed_dropZerosBehind 35 = .ok (.getfield 20, 3) := by decide +kernel
theorem d_Ed_dropZerosBehind_38 : decode b_Ed_dropZerosBehind 38 = .ok (.ifCond .ne 8, 3) := by decide +kernel
theorem d_Ed_dropZerosBehind_41 : decode b_Ed_dropZerosBehind 41 = .ok (.aload_n 0, 1) := by decide +kernel
theorem d_Ed_dropZerosBehind_42 : decode b_Ed_dropZerosBehind 42 = .ok (.iconst 0, 1) := by decide +kernel
theorem d_Ed_dropZerosBehind_43 : decode b_Ed_dropZerosBehind 43 = .ok (.putfield 24, 3) := by decide +kernel
theorem d_Ed_dropZerosBehind_46 : decode b_Ed_dropZerosBehind 46 = .ok (.return_, 1) := by decide +kernel
theorem d_Ed_digit_0 : decode b_Ed_digit 0 = .ok (.aload_n 0, 1) := by decide +kernel
theorem d_Ed_digit_1 : decode b_Ed_digit 1 = .ok (.getfield 24, 3) := by decide +kernel
theorem d_Ed_digit_4 : decode b_Ed_digit 4 = .ok (.i2l, 1) := by decide +kernel
theorem d_Ed_digit_5 : decode b_Ed_digit 5 = .ok (.iload_n 1, 1) := by decide +kernel
theorem d_Ed_digit_6 : decode b_Ed_digit 6 = .ok (.i2l, 1) := by decide +kernel
theorem d_Ed_digit_7 : decode b_Ed_digit 7 = .ok (.ladd, 1) := by decide +kernel
theorem d_Ed_digit_8 : decode b_Ed_digit 8 = .ok (.lstore_n 2, 1) := by decide +kernel
theorem d_Ed_digit_9 : decode b_Ed_digit 9 = .ok (.lload_n 2, 1) := by decide +kernel
theorem d_Ed_digit_10 : decode b_Ed_digit 10 = .ok (.lconst 0, 1) := by decide +kernel
theorem d_Ed_digit_11 : decode b_Ed_digit 11 = .ok (.lcmp, 1) := by decide +kernel
theorem d_Ed_digit_12 : decode b_Ed_digit 12 = .ok (.ifCond .lt 23, 3) := by decide +kernel
theorem d_Ed_digit_15 : decode b_Ed_digit 15 = .ok (.lload_n 2, 1) := by decide +kernel
theorem d_Ed_digit_16 : decode b_Ed_digit 16 = .ok (.aload_n 0, 1) := by decide +kernel
theorem d_Ed_digit_17 : decode b_Ed_digit 17 = .ok (.getfield 20, 3) := by decide +kernel
theorem d_Ed_digit_20 : decode b_Ed_digit 20 = .ok (.i2l, 1) := by decide +kernel
theorem d_Ed_digit_21 : decode b_Ed_digit 21 = .ok (.lcmp, 1) := by decide +kernel
theorem d_Ed_digit_22 : decode b_Ed_digit 22 = .ok (.ifCond .ge 13, 3) := by decide +kernel
theorem d_Ed_digit_25 : decode b_Ed_digit 25 = .ok (.aload_n 0, 1) := by decide +kernel
theorem d_Ed_digit_26 : decode b_Ed_digit 26 = .ok (.getfield 9, 3) := by decide +kernel
theorem d_Ed_digit_29 : decode b_Ed_digit 29 = .ok (.lload_n 2, 1) := by decide +kernel
theorem d_Ed_digit_30 : decode b_Ed_digit 30 = .ok (.l2i, 1) := by decide +kernel
theorem d_Ed_digit_31 : decode b_Ed_digit 31 = .ok (.baload, 1) := by decide +kernel
theorem d_Ed_digit_32 : decode b_Ed_digit 32 = .ok (.goto 4, 3) := by decide +kernel
theorem d_Ed_digit_35 : decode b_Ed_digit 35 = .ok (.iconst 0, 1) := by decide +kernel
theorem d_Ed_digit_36 : decode b_Ed_digit 36 = .ok (.ireturn, 1) := by decide +kernel
theorem d_Ed_nearest_0 : decode b_Ed_nearest 0 = .ok (.aload_n 0, 1) := by decide +kernel
theorem d_Ed_nearest_1 : decode b_Ed_nearest 1 = .ok (.getfield 16, 3) := by decide +kernel
theorem d_Ed_nearest_4 : decode b_Ed_nearest 4 = .ok (.aload_n 0, 1) := by decide +kernel
theorem d_Ed_nearest_5 : decode b_Ed_nearest 5 = .ok (.getfield 9, 3) := by decide +kernel
theorem d_Ed_nearest_8 : decode b_Ed_nearest 8 = .ok (.aload_n 0, 1) := by decide +kernel
theorem d_Ed_nearest_9 : decode b_Ed_nearest 9 = .ok (.getfield 20, 3) := by decide +kernel
theorem d_Ed_nearest_12 : decode b_Ed_nearest 12 = .ok (.invokevirtual 65, 3) := by decide +kernel
theorem d_Ed_nearest_15 : decode b_Ed_nearest 15 = .ok (.aload_n 0, 1) := by decide +kernel
theorem d_Ed_nearest_16 : decode b_Ed_nearest 16 = .ok (.aload_n 0, 1) := by decide +kernel
theorem d_Ed_nearest_17 : decode b_Ed_nearest 17 = .ok (.getfield 24, 3) := by decide +kernel
theorem d_Ed_nearest_20 : decode b_Ed_nearest 20 = .ok (.aload_n 0, 1) := by decide +kernel
theorem d_Ed_nearest_21 : decode b_Ed_nearest 21 = .ok (.getfield 20, 3) := by decide +kernel
theorem d_Ed_nearest_24 : decode b_Ed_nearest 24 = .ok (.isub, 1) := by decide +kernel
theorem d_Ed_nearest_25 : decode b_Ed_nearest 25 = .ok (.aload_n 0, 1) := by decide +kernel
theorem d_Ed_nearest_26 : decode b_Ed_nearest 26 = .ok (.getfield 27, 3) := by decide +kernel
theorem d_Ed_nearest_29 : decode b_Ed_nearest 29 = .ok (.iload_n 1, 1) := by decide +kernel
theorem d_Ed_nearest_30 : decode b_Ed_nearest 30 = .ok (.invokestatic 39, 3) := by decide +kernel
theorem d_Ed_nearest_33 : decode b_Ed_nearest 33 = .ok (.invokevirtual 79, 3) := by decide +kernel
theorem d_Ed_nearest_36 : decode b_Ed_nearest 36 = .ok (.lreturn, 1) := by decide +kernel
theorem d_Ed_formatOf_0 : decode b_Ed_formatOf 0 = .ok (.iload_n 0, 1) := by decide +kernel
theorem d_Ed_formatOf_1 : decode b_Ed_formatOf 1 = .ok (.ifCond .eq 9, 3) := by decide +kernel
theorem d_Ed_formatOf_4 : decode b_Ed_formatOf 4 = .ok (.getstatic 87, 3) := by decide +kernel
theorem d_Ed_formatOf_7 : decode b_Ed_formatOf 7 = .ok (.goto 6, 3) := by decide +kernel
theorem d_Ed_formatOf_10 : decode b_Ed_formatOf 10 = .ok (.getstatic 93, 3) := by decide +kernel
theorem d_Ed_formatOf_13 : decode b_Ed_formatOf 13 = .ok (.areturn, 1) := by decide +kernel
theorem d_Ed_nearestToScratch_0 : decode b_Ed_nearestToScratch 0 = .ok (.aload_n 0, 1) := by decide +kernel
theorem d_Ed_nearestToScratch_1 : decode b_Ed_nearestToScratch 1 = .ok (.getfield 16, 3) := by decide +kernel
theorem d_Ed_nearestToScratch_4 : decode b_Ed_nearestToScratch 4 = .ok (.invokevirtual 107, 3) := by decide +kernel
theorem d_Ed_nearestToScratch_7 : decode b_Ed_nearestToScratch 7 = .ok (.istore 4, 2) := by decide +kernel
theorem d_Ed_nearestToScratch_9 : decode b_Ed_nearestToScratch 9 = .ok (.iload 4, 2) := by decide +kernel
theorem d_Ed_nearestToScratch_11 : decode b_Ed_nearestToScratch 11 = .ok (.ifCond .eq 13, 3) := by decide +kernel
theorem d_Ed_nearestToScratch_14 : decode b_Ed_nearestToScratch 14 = .ok (.iload 4, 2) := by decide +kernel
theorem d_Ed_nearestToScratch_16 : decode b_Ed_nearestToScratch 16 = .ok (.iload_n 1, 1) := by decide +kernel
theorem d_Ed_nearestToScratch_17 : decode b_Ed_nearestToScratch 17 = .ok (.iadd, 1) := by decide +kernel
theorem d_Ed_nearestToScratch_18 : decode b_Ed_nearestToScratch 18 = .ok (.sipush (-330), 3) := by decide +kernel
theorem d_Ed_nearestToScratch_21 : decode b_Ed_nearestToScratch 21 = .ok (.if_icmp .ge 5, 3) := by decide +kernel
theorem d_Ed_nearestToScratch_24 : decode b_Ed_nearestToScratch 24 = .ok (.lconst 0, 1) := by decide +kernel
theorem d_Ed_nearestToScratch_25 : decode b_Ed_nearestToScratch 25 = .ok (.lreturn, 1) := by decide +kernel
theorem d_Ed_nearestToScratch_26 : decode b_Ed_nearestToScratch 26 = .ok (.iload 4, 2) := by decide +kernel
theorem d_Ed_nearestToScratch_28 : decode b_Ed_nearestToScratch 28 = .ok (.iload_n 1, 1) := by decide +kernel
theorem d_Ed_nearestToScratch_29 : decode b_Ed_nearestToScratch 29 = .ok (.iadd, 1) := by decide +kernel
theorem d_Ed_nearestToScratch_30 : decode b_Ed_nearestToScratch 30 = .ok (.sipush 310, 3) := by decide +kernel
theorem d_Ed_nearestToScratch_33 : decode b_Ed_nearestToScratch 33 = .ok (.if_icmp .le 8, 3) := by decide +kernel
theorem d_Ed_nearestToScratch_36 : decode b_Ed_nearestToScratch 36 = .ok (.aload_n 3, 1) := by decide +kernel
theorem d_Ed_nearestToScratch_37 : decode b_Ed_nearestToScratch 37 = .ok (.getfield 100, 3) := by decide +kernel
theorem d_Ed_nearestToScratch_40 : decode b_Ed_nearestToScratch 40 = .ok (.lreturn, 1) := by decide +kernel
theorem d_Ed_nearestToScratch_41 : decode b_Ed_nearestToScratch 41 = .ok (.bipush 60, 2) := by decide +kernel
theorem d_Ed_nearestToScratch_43 : decode b_Ed_nearestToScratch 43 = .ok (.iload 4, 2) := by decide +kernel
theorem d_Ed_nearestToScratch_45 : decode b_Ed_nearestToScratch 45 = .ok (.iload_n 1, 1) := by decide +kernel
theorem d_Ed_nearestToScratch_46 : decode b_Ed_nearestToScratch 46 = .ok (.iadd, 1) := by decide +kernel
theorem d_Ed_nearestToScratch_47 : decode b_Ed_nearestToScratch 47 = .ok (.invokestatic 154, 3) := by decide +kernel
theorem d_Ed_nearestToScratch_50 : decode b_Ed_nearestToScratch 50 = .ok (.isub, 1) := by decide +kernel
theorem d_Ed_nearestToScratch_51 : decode b_Ed_nearestToScratch 51 = .ok (.istore 5, 2) := by decide +kernel
theorem d_Ed_nearestToScratch_53 : decode b_Ed_nearestToScratch 53 = .ok (.iload_n 1, 1) := by decide +kernel
theorem d_Ed_nearestToScratch_54 : decode b_Ed_nearestToScratch 54 = .ok (.aload_n 0, 1) := by decide +kernel
theorem d_Ed_nearestToScratch_55 : decode b_Ed_nearestToScratch 55 = .ok (.getfield 16, 3) := by decide +kernel
theorem d_Ed_nearestToScratch_58 : decode b_Ed_nearestToScratch 58 = .ok (.iload 5, 2) := by decide +kernel
theorem d_Ed_nearestToScratch_60 : decode b_Ed_nearestToScratch 60 = .ok (.invokevirtual 69, 3) := by decide +kernel
theorem d_Ed_nearestToScratch_63 : decode b_Ed_nearestToScratch 63 = .ok (.iadd, 1) := by decide +kernel
theorem d_Ed_nearestToScratch_64 : decode b_Ed_nearestToScratch 64 = .ok (.istore 6, 2) := by decide +kernel
theorem d_Ed_nearestToScratch_66 : decode b_Ed_nearestToScratch 66 = .ok (.aload_n 0, 1) := by decide +kernel
theorem d_Ed_nearestToScratch_67 : decode b_Ed_nearestToScratch 67 = .ok (.getfield 16, 3) := by decide +kernel
theorem d_Ed_nearestToScratch_70 : decode b_Ed_nearestToScratch 70 = .ok (.aload_n 0, 1) := by decide +kernel
theorem d_Ed_nearestToScratch_71 : decode b_Ed_nearestToScratch 71 = .ok (.getfield 16, 3) := by decide +kernel
theorem d_Ed_nearestToScratch_74 : decode b_Ed_nearestToScratch 74 = .ok (.invokevirtual 107, 3) := by decide +kernel
theorem d_Ed_nearestToScratch_77 : decode b_Ed_nearestToScratch 77 = .ok (.iload 6, 2) := by decide +kernel
theorem d_Ed_nearestToScratch_79 : decode b_Ed_nearestToScratch 79 = .ok (.iadd, 1) := by decide +kernel
theorem d_Ed_nearestToScratch_80 : decode b_Ed_nearestToScratch 80 = .ok (.invokevirtual 157, 3) := by decide +kernel
theorem d_Ed_nearestToScratch_83 : decode b_Ed_nearestToScratch 83 = .ok (.lstore 7, 2) := by decide +kernel
theorem d_Ed_nearestToScratch_85 : decode b_Ed_nearestToScratch 85 = .ok (.aload_n 3, 1) := by decide +kernel
theorem d_Ed_nearestToScratch_86 : decode b_Ed_nearestToScratch 86 = .ok (.lload 7, 2) := by decide +kernel
theorem d_Ed_nearestToScratch_88 : decode b_Ed_nearestToScratch 88 = .ok (.iload_n 2, 1) := by decide +kernel
theorem d_Ed_nearestToScratch_89 : decode b_Ed_nearestToScratch 89 = .ok (.ifCond .ne 16, 3) := by decide +kernel
theorem d_Ed_nearestToScratch_92 : decode b_Ed_nearestToScratch 92 = .ok (.aload_n 0, 1) := by decide +kernel
theorem d_Ed_nearestToScratch_93 : decode b_Ed_nearestToScratch 93 = .ok (.getfield 16, 3) := by decide +kernel
theorem d_Ed_nearestToScratch_96 : decode b_Ed_nearestToScratch 96 = .ok (.iload 6, 2) := by decide +kernel
theorem d_Ed_nearestToScratch_98 : decode b_Ed_nearestToScratch 98 = .ok (.ineg, 1) := by decide +kernel
theorem d_Ed_nearestToScratch_99 : decode b_Ed_nearestToScratch 99 = .ok (.invokevirtual 158, 3) := by decide +kernel
theorem d_Ed_nearestToScratch_102 : decode b_Ed_nearestToScratch 102 = .ok (.ifCond .eq 7, 3) := by decide +kernel
theorem d_Ed_nearestToScratch_105 : decode b_Ed_nearestToScratch 105 = .ok (.iconst 1, 1) := by decide +kernel
theorem d_Ed_nearestToScratch_106 : decode b_Ed_nearestToScratch 106 = .ok (.goto 4, 3) := by decide +kernel
theorem d_Ed_nearestToScratch_109 : decode b_Ed_nearestToScratch 109 = .ok (.iconst 0, 1) := by decide +kernel
theorem d_Ed_nearestToScratch_110 : decode b_Ed_nearestToScratch 110 = .ok (.iload 5, 2) := by decide +kernel
theorem d_Ed_nearestToScratch_112 : decode b_Ed_nearestToScratch 112 = .ok (.ineg, 1) := by decide +kernel
theorem d_Ed_nearestToScratch_113 : decode b_Ed_nearestToScratch 113 = .ok (.invokevirtual 162, 3) := by decide +kernel
theorem d_Ed_nearestToScratch_116 : decode b_Ed_nearestToScratch 116 = .ok (.lreturn, 1) := by decide +kernel
theorem d_Ed_bitsOfTenTo_0 : decode b_Ed_bitsOfTenTo 0 = .ok (.iload_n 0, 1) := by decide +kernel
theorem d_Ed_bitsOfTenTo_1 : decode b_Ed_bitsOfTenTo 1 = .ok (.ldc 166, 2) := by decide +kernel
theorem d_Ed_bitsOfTenTo_3 : decode b_Ed_bitsOfTenTo 3 = .ok (.imul, 1) := by decide +kernel
theorem d_Ed_bitsOfTenTo_4 : decode b_Ed_bitsOfTenTo 4 = .ok (.bipush 16, 2) := by decide +kernel
theorem d_Ed_bitsOfTenTo_6 : decode b_Ed_bitsOfTenTo 6 = .ok (.ishr, 1) := by decide +kernel
theorem d_Ed_bitsOfTenTo_7 : decode b_Ed_bitsOfTenTo 7 = .ok (.ireturn, 1) := by decide +kernel
theorem d_Ed_digest_0 : decode b_Ed_digest 0 = .ok (.ldc2_w 83, 3) := by decide +kernel
theorem d_Ed_digest_3 : decode b_Ed_digest 3 = .ok (.lstore_n 1, 1) := by decide +kernel
theorem d_Ed_digest_4 : decode b_Ed_digest 4 = .ok (.iconst 0, 1) := by decide +kernel
theorem d_Ed_digest_5 : decode b_Ed_digest 5 = .ok (.istore_n 3, 1) := by decide +kernel
theorem d_Ed_digest_6 : decode b_Ed_digest 6 = .ok (.iload_n 3, 1) := by decide +kernel
theorem d_Ed_digest_7 : decode b_Ed_digest 7 = .ok (.aload_n 0, 1) := by decide +kernel
theorem d_Ed_digest_8 : decode b_Ed_digest 8 = .ok (.getfield 20, 3) := by decide +kernel
theorem d_Ed_digest_11 : decode b_Ed_digest 11 = .ok (.if_icmp .ge 23, 3) := by decide +kernel
theorem d_Ed_digest_14 : decode b_Ed_digest 14 = .ok (.lload_n 1, 1) := by decide +kernel
theorem d_Ed_digest_15 : decode b_Ed_digest 15 = .ok (.ldc2_w 85, 3) := by decide +kernel
theorem d_Ed_digest_18 : decode b_Ed_digest 18 = .ok (.lmul, 1) := by decide +kernel
theorem d_Ed_digest_19 : decode b_Ed_digest 19 = .ok (.aload_n 0, 1) := by decide +kernel
theorem d_Ed_digest_20 : decode b_Ed_digest 20 = .ok (.getfield 9, 3) := by decide +kernel
theorem d_Ed_digest_23 : decode b_Ed_digest 23 = .ok (.iload_n 3, 1) := by decide +kernel
theorem d_Ed_digest_24 : decode b_Ed_digest 24 = .ok (.baload, 1) := by decide +kernel
theorem d_Ed_digest_25 : decode b_Ed_digest 25 = .ok (.i2l, 1) := by decide +kernel
theorem d_Ed_digest_26 : decode b_Ed_digest 26 = .ok (.ladd, 1) := by decide +kernel
theorem d_Ed_digest_27 : decode b_Ed_digest 27 = .ok (.lstore_n 1, 1) := by decide +kernel
theorem d_Ed_digest_28 : decode b_Ed_digest 28 = .ok (.iinc 3 1, 3) := by decide +kernel
theorem d_Ed_digest_31 : decode b_Ed_digest 31 = .ok (.goto (-25), 3) := by decide +kernel
theorem d_Ed_digest_34 : decode b_Ed_digest 34 = .ok (.lload_n 1, 1) := by decide +kernel
theorem d_Ed_digest_35 : decode b_Ed_digest 35 = .ok (.ldc2_w 85, 3) := by decide +kernel
theorem d_Ed_digest_38 : decode b_Ed_digest 38 = .ok (.lmul, 1) := by decide +kernel
theorem d_Ed_digest_39 : decode b_Ed_digest 39 = .ok (.aload_n 0, 1) := by decide +kernel
theorem d_Ed_digest_40 : decode b_Ed_digest 40 = .ok (.getfield 24, 3) := by decide +kernel
theorem d_Ed_digest_43 : decode b_Ed_digest 43 = .ok (.i2l, 1) := by decide +kernel
theorem d_Ed_digest_44 : decode b_Ed_digest 44 = .ok (.ladd, 1) := by decide +kernel
theorem d_Ed_digest_45 : decode b_Ed_digest 45 = .ok (.lreturn, 1) := by decide +kernel
theorem d_Ed_real_0 : decode b_Ed_real 0 = .ok (.iload_n 3, 1) := by decide +kernel
theorem d_Ed_real_1 : decode b_Ed_real 1 = .ok (.invokestatic 39, 3) := by decide +kernel
theorem d_Ed_real_4 : decode b_Ed_real 4 = .ok (.astore 4, 2) := by decide +kernel
theorem d_Ed_real_6 : decode b_Ed_real 6 = .ok (.aload_n 0, 1) := by decide +kernel
theorem d_Ed_real_7 : decode b_Ed_real 7 = .ok (.lload_n 1, 1) := by decide +kernel
theorem d_Ed_real_8 : decode b_Ed_real 8 = .ok (.aload 4, 2) := by decide +kernel
theorem d_Ed_real_10 : decode b_Ed_real 10 = .ok (.invokestatic 43, 3) := by decide +kernel
theorem d_Ed_real_13 : decode b_Ed_real 13 = .ok (.aload 4, 2) := by decide +kernel
theorem d_Ed_real_15 : decode b_Ed_real 15 = .ok (.invokevirtual 47, 3) := by decide +kernel
theorem d_Ed_real_18 : decode b_Ed_real 18 = .ok (.aload_n 0, 1) := by decide +kernel
theorem d_Ed_real_19 : decode b_Ed_real 19 = .ok (.getfield 20, 3) := by decide +kernel
theorem d_Ed_real_22 : decode b_Ed_real 22 = .ok (.ireturn, 1) := by decide +kernel
theorem d_Ed_finiteSize_0 : decode b_Ed_finiteSize 0 = .ok (.aload_n 2, 1) := by decide +kernel
theorem d_Ed_finiteSize_1 : decode b_Ed_finiteSize 1 = .ok (.lload_n 0, 1) := by decide +kernel
theorem d_Ed_finiteSize_2 : decode b_Ed_finiteSize 2 = .ok (.invokevirtual 96, 3) := by decide +kernel
theorem d_Ed_finiteSize_5 : decode b_Ed_finiteSize 5 = .ok (.lstore_n 3, 1) := by decide +kernel
theorem d_Ed_finiteSize_6 : decode b_Ed_finiteSize 6 = .ok (.lload_n 3, 1) := by decide +kernel
theorem d_Ed_finiteSize_7 : decode b_Ed_finiteSize 7 = .ok (.aload_n 2, 1) := by decide +kernel
theorem d_Ed_finiteSize_8 : decode b_Ed_finiteSize 8 = .ok (.getfield 100, 3) := by decide +kernel
theorem d_Ed_finiteSize_11 : decode b_Ed_finiteSize 11 = .ok (.lcmp, 1) := by decide +kernel
theorem d_Ed_finiteSize_12 : decode b_Ed_finiteSize 12 = .ok (.ifCond .lt 11, 3) := by decide +kernel
theorem d_Ed_finiteSize_15 : decode b_Ed_finiteSize 15 = .ok (.new 104, 3) := by decide +kernel
theorem d_Ed_finiteSize_18 : decode b_Ed_finiteSize 18 = .ok (.dup, 1) := by decide +kernel
theorem d_Ed_finiteSize_19 : decode b_Ed_finiteSize 19 = .ok (.invokespecial 106, 3) := by decide +kernel
theorem d_Ed_finiteSize_22 : decode b_Ed_finiteSize 22 = .ok (.athrow, 1) := by decide +kernel
theorem d_Ed_finiteSize_23 : decode b_Ed_finiteSize 23 = .ok (.lload_n 3, 1) := by decide +kernel
theorem d_Ed_finiteSize_24 : decode b_Ed_finiteSize 24 = .ok (.lreturn, 1) := by decide +kernel
theorem d_Ed_giveExact_0 : decode b_Ed_giveExact 0 = .ok (.aload_n 0, 1) := by decide +kernel
theorem d_Ed_giveExact_1 : decode b_Ed_giveExact 1 = .ok (.getfield 16, 3) := by decide +kernel
theorem d_Ed_giveExact_4 : decode b_Ed_giveExact 4 = .ok (.aload_n 3, 1) := by decide +kernel
theorem d_Ed_giveExact_5 : decode b_Ed_giveExact 5 = .ok (.lload_n 1, 1) := by decide +kernel
theorem d_Ed_giveExact_6 : decode b_Ed_giveExact 6 = .ok (.invokevirtual 124, 3) := by decide +kernel
theorem d_Ed_giveExact_9 : decode b_Ed_giveExact 9 = .ok (.invokevirtual 31, 3) := by decide +kernel
theorem d_Ed_giveExact_12 : decode b_Ed_giveExact 12 = .ok (.aload_n 0, 1) := by decide +kernel
theorem d_Ed_giveExact_13 : decode b_Ed_giveExact 13 = .ok (.aload_n 0, 1) := by decide +kernel
theorem d_Ed_giveExact_14 : decode b_Ed_giveExact 14 = .ok (.getfield 16, 3) := by decide +kernel
theorem d_Ed_giveExact_17 : decode b_Ed_giveExact 17 = .ok (.aload_n 3, 1) := by decide +kernel
theorem d_Ed_giveExact_18 : decode b_Ed_giveExact 18 = .ok (.lload_n 1, 1) := by decide +kernel
theorem d_Ed_giveExact_19 : decode b_Ed_giveExact 19 = .ok (.invokevirtual 127, 3) := by decide +kernel
theorem d_Ed_giveExact_22 : decode b_Ed_giveExact 22 = .ok (.invokevirtual 69, 3) := by decide +kernel
theorem d_Ed_giveExact_25 : decode b_Ed_giveExact 25 = .ok (.invokevirtual 35, 3) := by decide +kernel
theorem d_Ed_giveExact_28 : decode b_Ed_giveExact 28 = .ok (.return_, 1) := by decide +kernel
theorem d_Ed_shortest_0 : decode b_Ed_shortest 0 = .ok (.iload_n 3, 1) := by decide +kernel
theorem d_Ed_shortest_1 : decode b_Ed_shortest 1 = .ok (.invokestatic 39, 3) := by decide +kernel
theorem d_Ed_shortest_4 : decode b_Ed_shortest 4 = .ok (.astore 4, 2) := by decide +kernel
theorem d_Ed_shortest_6 : decode b_Ed_shortest 6 = .ok (.lload_n 1, 1) := by decide +kernel
theorem d_Ed_shortest_7 : decode b_Ed_shortest 7 = .ok (.aload 4, 2) := by decide +kernel
theorem d_Ed_shortest_9 : decode b_Ed_shortest 9 = .ok (.invokestatic 43, 3) := by decide +kernel
theorem d_Ed_shortest_12 : decode b_Ed_shortest 12 = .ok (.lstore 5, 2) := by decide +kernel
theorem d_Ed_shortest_14 : decode b_Ed_shortest 14 = .ok (.aload_n 0, 1) := by decide +kernel
theorem d_Ed_shortest_15 : decode b_Ed_shortest 15 = .ok (.lload 5, 2) := by decide +kernel
theorem d_Ed_shortest_17 : decode b_Ed_shortest 17 = .ok (.aload 4, 2) := by decide +kernel
theorem d_Ed_shortest_19 : decode b_Ed_shortest 19 = .ok (.invokevirtual 47, 3) := by decide +kernel
theorem d_Ed_shortest_22 : decode b_Ed_shortest 22 = .ok (.aload_n 0, 1) := by decide +kernel
theorem d_Ed_shortest_23 : decode b_Ed_shortest 23 = .ok (.lload 5, 2) := by decide +kernel
theorem d_Ed_shortest_25 : decode b_Ed_shortest 25 = .ok (.aload 4, 2) := by decide +kernel
theorem d_Ed_shortest_27 : decode b_Ed_shortest 27 = .ok (.invokevirtual 51, 3) := by decide +kernel
theorem d_Ed_shortest_30 : decode b_Ed_shortest 30 = .ok (.aload_n 0, 1) := by decide +kernel
theorem d_Ed_shortest_31 : decode b_Ed_shortest 31 = .ok (.getfield 20, 3) := by decide +kernel
theorem d_Ed_shortest_34 : decode b_Ed_shortest 34 = .ok (.ireturn, 1) := by decide +kernel
theorem d_Ed_shorten_0 : decode b_Ed_shorten 0 = .ok (.iconst 2, 1) := by decide +kernel
theorem d_Ed_shorten_1 : decode b_Ed_shorten 1 = .ok (.istore 4, 2) := by decide +kernel
theorem d_Ed_shorten_3 : decode b_Ed_shorten 3 = .ok (.aload_n 0, 1) := by decide +kernel
theorem d_Ed_shorten_4 : decode b_Ed_shorten 4 = .ok (.getfield 20, 3) := by decide +kernel
theorem d_Ed_shorten_7 : decode b_Ed_shorten 7 = .ok (.bipush 17, 2) := by decide +kernel
theorem d_Ed_shorten_9 : decode b_Ed_shorten 9 = .ok (.invokestatic 115, 3) := by decide +kernel
theorem d_Ed_shorten_12 : decode b_Ed_shorten 12 = .ok (.istore 5, 2) := by decide +kernel
theorem d_Ed_shorten_14 : decode b_Ed_shorten 14 = .ok (.iload 4, 2) := by decide +kernel
theorem d_Ed_shorten_16 : decode b_Ed_shorten 16 = .ok (.iload 5, 2) := by decide +kernel
theorem d_Ed_shorten_18 : decode b_Ed_shorten 18 = .ok (.if_icmp .ge 43, 3) := by decide +kernel
theorem d_Ed_shorten_21 : decode b_Ed_shorten 21 = .ok (.iload 4, 2) := by decide +kernel
theorem d_Ed_shorten_23 : decode b_Ed_shorten 23 = .ok (.iload 5, 2) := by decide +kernel
theorem d_Ed_shorten_25 : decode b_Ed_shorten 25 = .ok (.iadd, 1) := by decide +kernel
theorem d_Ed_shorten_26 : decode b_Ed_shorten 26 = .ok (.iconst 2, 1) := by decide +kernel
theorem d_Ed_shorten_27 : decode b_Ed_shorten 27 = .ok (.idiv, 1) := by decide +kernel
theorem d_Ed_shorten_28 : decode b_Ed_shorten 28 = .ok (.istore 6, 2) := by decide +kernel
theorem d_Ed_shorten_30 : decode b_Ed_shorten 30 = .ok (.aload_n 0, 1) := by decide +kernel
theorem d_Ed_shorten_31 : decode b_Ed_shorten 31 = .ok (.iload 6, 2) := by decide +kernel
theorem d_Ed_shorten_33 : decode b_Ed_shorten 33 = .ok (.lload_n 1, 1) := by decide +kernel
theorem d_Ed_shorten_34 : decode b_Ed_shorten 34 = .ok (.aload_n 3, 1) := by decide +kernel
theorem d_Ed_shorten_35 : decode b_Ed_shorten 35 = .ok (.invokevirtual 134, 3) := by decide +kernel
theorem d_Ed_shorten_38 : decode b_Ed_shorten 38 = .ok (.ldc2_w 138, 3) := by decide +kernel
theorem d_Ed_shorten_41 : decode b_Ed_shorten 41 = .ok (.lcmp, 1) := by decide +kernel
theorem d_Ed_shorten_42 : decode b_Ed_shorten 42 = .ok (.ifCond .eq 10, 3) := by decide +kernel
theorem d_Ed_shorten_45 : decode b_Ed_shorten 45 = .ok (.iload 6, 2) := by decide +kernel
theorem d_Ed_shorten_47 : decode b_Ed_shorten 47 = .ok (.istore 5, 2) := by decide +kernel
theorem d_Ed_shorten_49 : decode b_Ed_shorten 49 = .ok (.goto 9, 3) := by decide +kernel
theorem d_Ed_shorten_52 : decode b_Ed_shorten 52 = .ok (.iload 6, 2) := by decide +kernel
theorem d_Ed_shorten_54 : decode b_Ed_shorten 54 = .ok (.iconst 1, 1) := by decide +kernel
theorem d_Ed_shorten_55 : decode b_Ed_shorten 55 = .ok (.iadd, 1) := by decide +kernel
theorem d_Ed_shorten_56 : decode b_Ed_shorten 56 = .ok (.istore 4, 2) := by decide +kernel
theorem d_Ed_shorten_58 : decode b_Ed_shorten 58 = .ok (.goto (-44), 3) := by decide +kernel
theorem d_Ed_shorten_61 : decode b_Ed_shorten 61 = .ok (.iload 5, 2) := by decide +kernel
theorem d_Ed_shorten_63 : decode b_Ed_shorten 63 = .ok (.aload_n 0, 1) := by decide +kernel
theorem d_Ed_shorten_64 : decode b_Ed_shorten 64 = .ok (.getfield 20, 3) := by decide +kernel
theorem d_Ed_shorten_67 : decode b_Ed_shorten 67 = .ok (.if_icmp .ge 14, 3) := by decide +kernel
theorem d_Ed_shorten_70 : decode b_Ed_shorten 70 = .ok (.aload_n 0, 1) := by decide +kernel
theorem d_Ed_shorten_71 : decode b_Ed_shorten 71 = .ok (.iload 5, 2) := by decide +kernel
theorem d_Ed_shorten_73 : decode b_Ed_shorten 73 = .ok (.lload_n 1, 1) := by decide +kernel
theorem d_Ed_shorten_74 : decode b_Ed_shorten 74 = .ok (.aload_n 3, 1) := by decide +kernel
theorem d_Ed_shorten_75 : decode b_Ed_shorten 75 = .ok (.invokevirtual 134, 3) := by decide +kernel
theorem d_Ed_shorten_78 : decode b_Ed_shorten 78 = .ok (.goto 6, 3) := by decide +kernel
theorem d_Ed_shorten_81 : decode b_Ed_shorten 81 = .ok (.ldc2_w 138, 3) := by decide +kernel
theorem d_Ed_shorten_84 : decode b_Ed_shorten 84 = .ok (.lstore 6, 2) := by decide +kernel
theorem d_Ed_shorten_86 : decode b_Ed_shorten 86 = .ok (.lload 6, 2) := by decide +kernel
theorem d_Ed_shorten_88 : decode b_Ed_shorten 88 = .ok (.ldc2_w 138, 3) := by decide +kernel
theorem d_Ed_shorten_91 : decode b_Ed_shorten 91 = .ok (.lcmp, 1) := by decide +kernel
theorem d_Ed_shorten_92 : decode b_Ed_shorten 92 = .ok (.ifCond .eq 23, 3) := by decide +kernel
theorem d_Ed_shorten_95 : decode b_Ed_shorten 95 = .ok (.aload_n 0, 1) := by decide +kernel
theorem d_Ed_shorten_96 : decode b_Ed_shorten 96 = .ok (.getfield 16, 3) := by decide +kernel
theorem d_Ed_shorten_99 : decode b_Ed_shorten 99 = .ok (.lload 6, 2) := by decide +kernel
theorem d_Ed_shorten_101 : decode b_Ed_shorten 101 = .ok (.invokevirtual 31, 3) := by decide +kernel
theorem d_Ed_shorten_104 : decode b_Ed_shorten 104 = .ok (.aload_n 0, 1) := by decide +kernel
theorem d_Ed_shorten_105 : decode b_Ed_shorten 105 = .ok (.aload_n 0, 1) := by decide +kernel
theorem d_Ed_shorten_106 : decode b_Ed_shorten 106 = .ok (.getfield 24, 3) := by decide +kernel
theorem d_Ed_shorten_109 : decode b_Ed_shorten 109 = .ok (.iload 5, 2) := by decide +kernel
theorem d_Ed_shorten_111 : decode b_Ed_shorten 111 = .ok (.isub, 1) := by decide +kernel
theorem d_Ed_shorten_112 : decode b_Ed_shorten 112 = .ok (.invokevirtual 35, 3) := by decide +kernel
theorem d_Ed_shorten_115 : decode b_Ed_shorten 115 = .ok (.return_, 1) := by decide +kernel
theorem d_Ed_neighbourReadBack_0 : decode b_Ed_neighbourReadBack 0 = .ok (.aload_n 0, 1) := by decide +kernel
theorem d_Ed_neighbourReadBack_1 : decode b_Ed_neighbourReadBack 1 = .ok (.iload_n 1, 1) := by decide +kernel
theorem d_Ed_neighbourReadBack_2 : decode b_Ed_neighbourReadBack 2 = .ok (.invokevirtual 140, 3) := by decide +kernel
theorem d_Ed_neighbourReadBack_5 : decode b_Ed_neighbourReadBack 5 = .ok (.lstore 5, 2) := by decide +kernel
theorem d_Ed_neighbourReadBack_7 : decode b_Ed_neighbourReadBack 7 = .ok (.aload_n 0, 1) := by decide +kernel
theorem d_Ed_neighbourReadBack_8 : decode b_Ed_neighbourReadBack 8 = .ok (.iload_n 1, 1) := by decide +kernel
theorem d_Ed_neighbourReadBack_9 : decode b_Ed_neighbourReadBack 9 = .ok (.lload 5, 2) := by decide +kernel
theorem d_Ed_neighbourReadBack_11 : decode b_Ed_neighbourReadBack 11 = .ok (.invokevirtual 144, 3) := by decide +kernel
theorem d_Ed_neighbourReadBack_14 : decode b_Ed_neighbourReadBack 14 = .ok (.ifCond .eq 10, 3) := by decide +kernel
theorem d_Ed_neighbourReadBack_17 : decode b_Ed_neighbourReadBack 17 = .ok (.lload 5, 2) := by decide +kernel
theorem d_Ed_neighbourReadBack_19 : decode b_Ed_neighbourReadBack 19 = .ok (.lconst 1, 1) := by decide +kernel
theorem d_Ed_neighbourReadBack_20 : decode b_Ed_neighbourReadBack 20 = .ok (.ladd, 1) := by decide +kernel
theorem d_Ed_neighbourReadBack_21 : decode b_Ed_neighbourReadBack 21 = .ok (.goto 5, 3) := by decide +kernel
theorem d_Ed_neighbourReadBack_24 : decode b_Ed_neighbourReadBack 24 = .ok (.lload 5, 2) := by decide +kernel
theorem d_Ed_neighbourReadBack_26 : decode b_Ed_neighbourReadBack 26 = .ok (.lstore 7, 2) := by decide +kernel
theorem d_Ed_neighbourReadBack_28 : decode b_Ed_neighbourReadBack 28 = .ok (.lload 7, 2) := by decide +kernel
theorem d_Ed_neighbourReadBack_30 : decode b_Ed_neighbourReadBack 30 = .ok (.lload 5, 2) := by decide +kernel
theorem d_Ed_neighbourReadBack_32 : decode b_Ed_neighbourReadBack 32 = .ok (.lcmp, 1) := by decide +kernel
theorem d_Ed_neighbourReadBack_33 : decode b_Ed_neighbourReadBack 33 = .ok (.ifCond .ne 10, 3) := by decide +kernel
theorem d_Ed_neighbourReadBack_36 : decode b_Ed_neighbourReadBack 36 = .ok (.lload 5, 2) := by decide +kernel
theorem d_Ed_neighbourReadBack_38 : decode b_Ed_neighbourReadBack 38 = .ok (.lconst 1, 1) := by decide +kernel
theorem d_Ed_neighbourReadBack_39 : decode b_Ed_neighbourReadBack 39 = .ok (.ladd, 1) := by decide +kernel
theorem d_Ed_neighbourReadBack_40 : decode b_Ed_neighbourReadBack 40 = .ok (.goto 5, 3) := by decide +kernel
theorem d_Ed_neighbourReadBack_43 : decode b_Ed_neighbourReadBack 43 = .ok (.lload 5, 2) := by decide +kernel
theorem d_Ed_neighbourReadBack_45 : decode b_Ed_neighbourReadBack 45 = .ok (.lstore 9, 2) := by decide +kernel
theorem d_Ed_neighbourReadBack_47 : decode b_Ed_neighbourReadBack 47 = .ok (.aload_n 0, 1) := by decide +kernel
theorem d_Ed_neighbourReadBack_48 : decode b_Ed_neighbourReadBack 48 = .ok (.lload 7, 2) := by decide +kernel
theorem d_Ed_neighbourReadBack_50 : decode b_Ed_neighbourReadBack 50 = .ok (.aload_n 0, 1) := by decide +kernel
theorem d_Ed_neighbourReadBack_51 : decode b_Ed_neighbourReadBack 51 = .ok (.getfield 24, 3) := by decide +kernel
theorem d_Ed_neighbourReadBack_54 : decode b_Ed_neighbourReadBack 54 = .ok (.iload_n 1, 1) := by decide +kernel
theorem d_Ed_neighbourReadBack_55 : decode b_Ed_neighbourReadBack 55 = .ok (.isub, 1) := by decide +kernel
theorem d_Ed_neighbourReadBack_56 : decode b_Ed_neighbourReadBack 56 = .ok (.lload_n 2, 1) := by decide +kernel
theorem d_Ed_neighbourReadBack_57 : decode b_Ed_neighbourReadBack 57 = .ok (.aload 4, 2) := by decide +kernel
theorem d_Ed_neighbourReadBack_59 : decode b_Ed_neighbourReadBack 59 = .ok (.invokevirtual 148, 3) := by decide +kernel
theorem d_Ed_neighbourReadBack_62 : decode b_Ed_neighbourReadBack 62 = .ok (.ifCond .eq 6, 3) := by decide +kernel
theorem d_Ed_neighbourReadBack_65 : decode b_Ed_neighbourReadBack 65 = .ok (.lload 7, 2) := by decide +kernel
theorem d_Ed_neighbourReadBack_67 : decode b_Ed_neighbourReadBack 67 = .ok (.lreturn, 1) := by decide +kernel
theorem d_Ed_neighbourReadBack_68 : decode b_Ed_neighbourReadBack 68 = .ok (.aload_n 0, 1) := by decide +kernel
theorem d_Ed_neighbourReadBack_69 : decode b_Ed_neighbourReadBack 69 = .ok (.lload 9, 2) := by decide +kernel
theorem d_Ed_neighbourReadBack_71 : decode b_Ed_neighbourReadBack 71 = .ok (.aload_n 0, 1) := by decide +kernel
theorem d_Ed_neighbourReadBack_72 : decode b_Ed_neighbourReadBack 72 = .ok (.getfield 24, 3) := by decide +kernel
theorem d_Ed_neighbourReadBack_75 : decode b_Ed_neighbourReadBack 75 = .ok (.iload_n 1, 1) := by decide +kernel
theorem d_Ed_neighbourReadBack_76 : decode b_Ed_neighbourReadBack 76 = .ok (.isub, 1) := by decide +kernel
theorem d_Ed_neighbourReadBack_77 : decode b_Ed_neighbourReadBack 77 = .ok (.lload_n 2, 1) := by decide +kernel
theorem d_Ed_neighbourReadBack_78 : decode b_Ed_neighbourReadBack 78 = .ok (.aload 4, 2) := by decide +kernel
theorem d_Ed_neighbourReadBack_80 : decode b_Ed_neighbourReadBack 80 = .ok (.invokevirtual 148, 3) := by decide +kernel
theorem d_Ed_neighbourReadBack_83 : decode b_Ed_neighbourReadBack 83 = .ok (.ifCond .eq 8, 3) := by decide +kernel
theorem d_Ed_neighbourReadBack_86 : decode b_Ed_neighbourReadBack 86 = .ok (.lload 9, 2) := by decide +kernel
theorem d_Ed_neighbourReadBack_88 : decode b_Ed_neighbourReadBack 88 = .ok (.goto 6, 3) := by decide +kernel
theorem d_Ed_neighbourReadBack_91 : decode b_Ed_neighbourReadBack 91 = .ok (.ldc2_w 138, 3) := by decide +kernel
theorem d_Ed_neighbourReadBack_94 : decode b_Ed_neighbourReadBack 94 = .ok (.lreturn, 1) := by decide +kernel
theorem d_Ed_firstDigits_0 : decode b_Ed_firstDigits 0 = .ok (.lconst 0, 1) := by decide +kernel
theorem d_Ed_firstDigits_1 : decode b_Ed_firstDigits 1 = .ok (.lstore_n 2, 1) := by decide +kernel
theorem d_Ed_firstDigits_2 : decode b_Ed_firstDigits 2 = .ok (.iconst 0, 1) := by decide +kernel
theorem d_Ed_firstDigits_3 : decode b_Ed_firstDigits 3 = .ok (.istore 4, 2) := by decide +kernel
theorem d_Ed_firstDigits_5 : decode b_Ed_firstDigits 5 = .ok (.iload 4, 2) := by decide +kernel
theorem d_Ed_firstDigits_7 : decode b_Ed_firstDigits 7 = .ok (.iload_n 1, 1) := by decide +kernel
theorem d_Ed_firstDigits_8 : decode b_Ed_firstDigits 8 = .ok (.if_icmp .ge 33, 3) := by decide +kernel
theorem d_Ed_firstDigits_11 : decode b_Ed_firstDigits 11 = .ok (.iload 4, 2) := by decide +kernel
theorem d_Ed_firstDigits_13 : decode b_Ed_firstDigits 13 = .ok (.aload_n 0, 1) := by decide +kernel
theorem d_Ed_firstDigits_14 : decode b_Ed_firstDigits 14 = .ok (.getfield 20, 3) := by decide +kernel
theorem d_Ed_firstDigits_17 : decode b_Ed_firstDigits 17 = .ok (.if_icmp .ge 24, 3) := by decide +kernel
theorem d_Ed_firstDigits_20 : decode b_Ed_firstDigits 20 = .ok (.lload_n 2, 1) := by decide +kernel
theorem d_Ed_firstDigits_21 : decode b_Ed_firstDigits 21 = .ok (.ldc2_w 152, 3) := by decide +kernel
theorem d_Ed_firstDigits_24 : decode b_Ed_firstDigits 24 = .ok (.lmul, 1) := by decide +kernel
theorem d_Ed_firstDigits_25 : decode b_Ed_firstDigits 25 = .ok (.aload_n 0, 1) := by decide +kernel
theorem d_Ed_firstDigits_26 : decode b_Ed_firstDigits 26 = .ok (.getfield 9, 3) := by decide +kernel
theorem d_Ed_firstDigits_29 : decode b_Ed_firstDigits 29 = .ok (.iload 4, 2) := by decide +kernel
theorem d_Ed_firstDigits_31 : decode b_Ed_firstDigits 31 = .ok (.baload, 1) := by decide +kernel
theorem d_Ed_firstDigits_32 : decode b_Ed_firstDigits 32 = .ok (.i2l, 1) := by decide +kernel
theorem d_Ed_firstDigits_33 : decode b_Ed_firstDigits 33 = .ok (.ladd, 1) := by decide +kernel
theorem d_Ed_firstDigits_34 : decode b_Ed_firstDigits 34 = .ok (.lstore_n 2, 1) := by decide +kernel
theorem d_Ed_firstDigits_35 : decode b_Ed_firstDigits 35 = .ok (.iinc 4 1, 3) := by decide +kernel
theorem d_Ed_firstDigits_38 : decode b_Ed_firstDigits 38 = .ok (.goto (-33), 3) := by decide +kernel
theorem d_Ed_firstDigits_41 : decode b_Ed_firstDigits 41 = .ok (.lload_n 2, 1) := by decide +kernel
theorem d_Ed_firstDigits_42 : decode b_Ed_firstDigits 42 = .ok (.lreturn, 1) := by decide +kernel
theorem d_Ed_isNearerAbove_0 : decode b_Ed_isNearerAbove 0 = .ok (.iload_n 1, 1) := by decide +kernel
theorem d_Ed_isNearerAbove_1 : decode b_Ed_isNearerAbove 1 = .ok (.aload_n 0, 1) := by decide +kernel
theorem d_Ed_isNearerAbove_2 : decode b_Ed_isNearerAbove 2 = .ok (.getfield 20, 3) := by decide +kernel
theorem d_Ed_isNearerAbove_5 : decode b_Ed_isNearerAbove 5 = .ok (.if_icmp .lt 5, 3) := by decide +kernel
theorem d_Ed_isNearerAbove_8 : decode b_Ed_isNearerAbove 8 = .ok (.iconst 0, 1) := by decide +kernel
theorem d_Ed_isNearerAbove_9 : decode b_Ed_isNearerAbove 9 = .ok (.ireturn, 1) := by decide +kernel
theorem d_Ed_isNearerAbove_10 : decode b_Ed_isNearerAbove 10 = .ok (.aload_n 0, 1) := by decide +kernel
theorem d_Ed_isNearerAbove_11 : decode b_Ed_isNearerAbove 11 = .ok (.getfield 9, 3) := by decide +kernel
theorem d_Ed_isNearerAbove_14 : decode b_Ed_isNearerAbove 14 = .ok (.iload_n 1, 1) := by decide +kernel
theorem d_Ed_isNearerAbove_15 : decode b_Ed_isNearerAbove 15 = .ok (.baload, 1) := by decide +kernel
theorem d_Ed_isNearerAbove_16 : decode b_Ed_isNearerAbove 16 = .ok (.iconst 5, 1) := by decide +kernel
theorem d_Ed_isNearerAbove_17 : decode b_Ed_isNearerAbove 17 = .ok (.if_icmp .eq 19, 3) := by decide +kernel
theorem d_Ed_isNearerAbove_20 : decode b_Ed_isNearerAbove 20 = .ok (.aload_n 0, 1) := by decide +kernel
theorem d_Ed_isNearerAbove_21 : decode b_Ed_isNearerAbove 21 = .ok (.getfield 9, 3) := by decide +kernel
theorem d_Ed_isNearerAbove_24 : decode b_Ed_isNearerAbove 24 = .ok (.iload_n 1, 1) := by decide +kernel
theorem d_Ed_isNearerAbove_25 : decode b_Ed_isNearerAbove 25 = .ok (.baload, 1) := by decide +kernel
theorem d_Ed_isNearerAbove_26 : decode b_Ed_isNearerAbove 26 = .ok (.iconst 5, 1) := by decide +kernel
theorem d_Ed_isNearerAbove_27 : decode b_Ed_isNearerAbove 27 = .ok (.if_icmp .le 7, 3) := by decide +kernel
theorem d_Ed_isNearerAbove_30 : decode b_Ed_isNearerAbove 30 = .ok (.iconst 1, 1) := by decide +kernel
theorem d_Ed_isNearerAbove_31 : decode b_Ed_isNearerAbove 31 = .ok (.goto 4, 3) := by decide +kernel
theorem d_Ed_isNearerAbove_34 : decode b_Ed_isNearerAbove 34 = .ok (.iconst 0, 1) := by decide +kernel
theorem d_Ed_isNearerAbove_35 : decode b_Ed_isNearerAbove 35 = .ok (.ireturn, 1) := by decide +kernel
theorem d_Ed_isNearerAbove_36 : decode b_Ed_isNearerAbove 36 = .ok (.aload_n 0, 1) := by decide +kernel
theorem d_Ed_isNearerAbove_37 : decode b_Ed_isNearerAbove 37 = .ok (.getfield 20, 3) := by decide +kernel
theorem d_Ed_isNearerAbove_40 : decode b_Ed_isNearerAbove 40 = .ok (.iload_n 1, 1) := by decide +kernel
theorem d_Ed_isNearerAbove_41 : decode b_Ed_isNearerAbove 41 = .ok (.iconst 1, 1) := by decide +kernel
theorem d_Ed_isNearerAbove_42 : decode b_Ed_isNearerAbove 42 = .ok (.iadd, 1) := by decide +kernel
theorem d_Ed_isNearerAbove_43 : decode b_Ed_isNearerAbove 43 = .ok (.if_icmp .gt 11, 3) := by decide +kernel
theorem d_Ed_isNearerAbove_46 : decode b_Ed_isNearerAbove 46 = .ok (.lload_n 2, 1) := by decide +kernel
theorem d_Ed_isNearerAbove_47 : decode b_Ed_isNearerAbove 47 = .ok (.lconst 1, 1) := by decide +kernel
theorem d_Ed_isNearerAbove_48 : decode b_Ed_isNearerAbove 48 = .ok (.land, 1) := by decide +kernel
theorem d_Ed_isNearerAbove_49 : decode b_Ed_isNearerAbove 49 = .ok (.lconst 0, 1) := by decide +kernel
theorem d_Ed_isNearerAbove_50 : decode b_Ed_isNearerAbove 50 = .ok (.lcmp, 1) := by decide +kernel
theorem d_Ed_isNearerAbove_51 : decode b_Ed_isNearerAbove 51 = .ok (.ifCond .eq 7, 3) := by decide +kernel
theorem d_Ed_isNearerAbove_54 : decode b_Ed_isNearerAbove 54 = .ok (.iconst 1, 1) := by decide +kernel
theorem d_Ed_isNearerAbove_55 : decode b_Ed_isNearerAbove 55 = .ok (.goto 4, 3) := by decide +kernel
theorem d_Ed_isNearerAbove_58 : decode b_Ed_isNearerAbove 58 = .ok (.iconst 0, 1) := by decide +kernel
theorem d_Ed_isNearerAbove_59 : decode b_Ed_isNearerAbove 59 = .ok (.ireturn, 1) := by decide +kernel
theorem d_Ed_readsBack_0 : decode b_Ed_readsBack 0 = .ok (.aload_n 0, 1) := by decide +kernel
theorem d_Ed_readsBack_1 : decode b_Ed_readsBack 1 = .ok (.getfield 16, 3) := by decide +kernel
theorem d_Ed_readsBack_4 : decode b_Ed_readsBack 4 = .ok (.lload_n 1, 1) := by decide +kernel
theorem d_Ed_readsBack_5 : decode b_Ed_readsBack 5 = .ok (.invokevirtual 31, 3) := by decide +kernel
theorem d_Ed_readsBack_8 : decode b_Ed_readsBack 8 = .ok (.aload_n 0, 1) := by decide +kernel
theorem d_Ed_readsBack_9 : decode b_Ed_readsBack 9 = .ok (.iload_n 3, 1) := by decide +kernel
theorem d_Ed_readsBack_10 : decode b_Ed_readsBack 10 = .ok (.iconst 0, 1) := by decide +kernel
theorem d_Ed_readsBack_11 : decode b_Ed_readsBack 11 = .ok (.aload 6, 2) := by decide +kernel
theorem d_Ed_readsBack_13 : decode b_Ed_readsBack 13 = .ok (.invokevirtual 79, 3) := by decide +kernel
theorem d_Ed_readsBack_16 : decode b_Ed_readsBack 16 = .ok (.lload 4, 2) := by decide +kernel
theorem d_Ed_readsBack_18 : decode b_Ed_readsBack 18 = .ok (.lcmp, 1) := by decide +kernel
theorem d_Ed_readsBack_19 : decode b_Ed_readsBack 19 = .ok (.ifCond .ne 7, 3) := by decide +kernel
theorem d_Ed_readsBack_22 : decode b_Ed_readsBack 22 = .ok (.iconst 1, 1) := by decide +kernel
theorem d_Ed_readsBack_23 : decode b_Ed_readsBack 23 = .ok (.goto 4, 3) := by decide +kernel
theorem d_Ed_readsBack_26 : decode b_Ed_readsBack 26 = .ok (.iconst 0, 1) := by decide +kernel
theorem d_Ed_readsBack_27 : decode b_Ed_readsBack 27 = .ok (.ireturn, 1) := by decide +kernel
theorem d_Ed_put_0 : decode b_Ed_put 0 = .ok (.iload_n 2, 1) := by decide +kernel
theorem d_Ed_put_1 : decode b_Ed_put 1 = .ok (.ifCond .lt 26, 3) := by decide +kernel
theorem d_Ed_put_4 : decode b_Ed_put 4 = .ok (.iload_n 2, 1) := by decide +kernel
theorem d_Ed_put_5 : decode b_Ed_put 5 = .ok (.bipush 9, 2) := by decide +kernel
theorem d_Ed_put_7 : decode b_Ed_put 7 = .ok (.if_icmp .gt 20, 3) := by decide +kernel
theorem d_Ed_put_10 : decode b_Ed_put 10 = .ok (.iload_n 1, 1) := by decide +kernel
theorem d_Ed_put_11 : decode b_Ed_put 11 = .ok (.sipush 400, 3) := by decide +kernel
theorem d_Ed_put_14 : decode b_Ed_put 14 = .ok (.invokestatic 54, 3) := by decide +kernel
theorem d_Ed_put_17 : decode b_Ed_put 17 = .ok (.ifCond .ne 10, 3) := by decide +kernel
theorem d_Ed_put_20 : decode b_Ed_put 20 = .ok (.aload_n 0, 1) := by decide +kernel
theorem d_Ed_put_21 : decode b_Ed_put 21 = .ok (.getfield 27, 3) := by decide +kernel
theorem d_Ed_put_24 : decode b_Ed_put 24 = .ok (.ifCond .eq 11, 3) := by decide +kernel
theorem d_Ed_put_27 : decode b_Ed_put 27 = .ok (.new 58, 3) := by decide +kernel
theorem d_Ed_put_30 : decode b_Ed_put 30 = .ok (.dup, 1) := by decide +kernel
theorem d_Ed_put_31 : decode b_Ed_put 31 = .ok (.invokespecial 60, 3) := by decide +kernel
theorem d_Ed_put_34 : decode b_Ed_put 34 = .ok (.athrow, 1) := by decide +kernel
theorem d_Ed_put_35 : decode b_Ed_put 35 = .ok (.aload_n 0, 1) := by decide +kernel
theorem d_Ed_put_36 : decode b_Ed_put 36 = .ok (.getfield 20, 3) := by decide +kernel
theorem d_Ed_put_39 : decode b_Ed_put 39 = .ok (.ifCond .ne 7, 3) := by decide +kernel
theorem d_Ed_put_42 : decode b_Ed_put 42 = .ok (.iconst 0, 1) := by decide +kernel
theorem d_Ed_put_43 : decode b_Ed_put 43 = .ok (.goto 9, 3) := by decide +kernel
theorem d_Ed_put_46 : decode b_Ed_put 46 = .ok (.aload_n 0, 1) := by decide +kernel
theorem d_Ed_put_47 : decode b_Ed_put 47 = .ok (.getfield 24, 3) := by decide +kernel
theorem d_Ed_put_50 : decode b_Ed_put 50 = .ok (.iload_n 1, 1) := by decide +kernel
theorem d_Ed_put_51 : decode b_Ed_put 51 = .ok (.iadd, 1) := by decide +kernel
theorem d_Ed_put_52 : decode b_Ed_put 52 = .ok (.istore_n 3, 1) := by decide +kernel
theorem d_Ed_put_53 : decode b_Ed_put 53 = .ok (.iload_n 3, 1) := by decide +kernel
theorem d_Ed_put_54 : decode b_Ed_put 54 = .ok (.aload_n 0, 1) := by decide +kernel
theorem d_Ed_put_55 : decode b_Ed_put 55 = .ok (.getfield 20, 3) := by decide +kernel
theorem d_Ed_put_58 : decode b_Ed_put 58 = .ok (.if_icmp .lt 10, 3) := by decide +kernel
theorem d_Ed_put_61 : decode b_Ed_put 61 = .ok (.iload_n 3, 1) := by decide +kernel
theorem d_Ed_put_62 : decode b_Ed_put 62 = .ok (.sipush 1200, 3) := by decide +kernel
theorem d_Ed_put_65 : decode b_Ed_put 65 = .ok (.if_icmp .lt 11, 3) := by decide +kernel
theorem d_Ed_put_68 : decode b_Ed_put 68 = .ok (.new 58, 3) := by decide +kernel
theorem d_Ed_put_71 : decode b_Ed_put 71 = .ok (.dup, 1) := by decide +kernel
theorem d_Ed_put_72 : decode b_Ed_put 72 = .ok (.invokespecial 60, 3) := by decide +kernel
theorem d_Ed_put_75 : decode b_Ed_put 75 = .ok (.athrow, 1) := by decide +kernel
theorem d_Ed_put_76 : decode b_Ed_put 76 = .ok (.iload_n 2, 1) := by decide +kernel
theorem d_Ed_put_77 : decode b_Ed_put 77 = .ok (.ifCond .eq 10, 3) := by decide +kernel
theorem d_Ed_put_80 : decode b_Ed_put 80 = .ok (.aload_n 0, 1) := by decide +kernel
theorem d_Ed_put_81 : decode b_Ed_put 81 = .ok (.iload_n 3, 1) := by decide +kernel
theorem d_Ed_put_82 : decode b_Ed_put 82 = .ok (.iload_n 1, 1) := by decide +kernel
theorem d_Ed_put_83 : decode b_Ed_put 83 = .ok (.iload_n 2, 1) := by decide +kernel
theorem d_Ed_put_84 : decode b_Ed_put 84 = .ok (.invokevirtual 61, 3) := by decide +kernel
theorem d_Ed_put_87 : decode b_Ed_put 87 = .ok (.aload_n 0, 1) := by decide +kernel
theorem d_Ed_put_88 : decode b_Ed_put 88 = .ok (.getfield 20, 3) := by decide +kernel
theorem d_Ed_put_91 : decode b_Ed_put 91 = .ok (.ireturn, 1) := by decide +kernel
theorem d_Ed_isBeyond_0 : decode b_Ed_isBeyond 0 = .ok (.iload_n 0, 1) := by decide +kernel
theorem d_Ed_isBeyond_1 : decode b_Ed_isBeyond 1 = .ok (.iload_n 1, 1) := by decide +kernel
theorem d_Ed_isBeyond_2 : decode b_Ed_isBeyond 2 = .ok (.ineg, 1) := by decide +kernel
theorem d_Ed_isBeyond_3 : decode b_Ed_isBeyond 3 = .ok (.if_icmp .lt 8, 3) := by decide +kernel
theorem d_Ed_isBeyond_6 : decode b_Ed_isBeyond 6 = .ok (.iload_n 0, 1) := by decide +kernel
theorem d_Ed_isBeyond_7 : decode b_Ed_isBeyond 7 = .ok (.iload_n 1, 1) := by decide +kernel
theorem d_Ed_isBeyond_8 : decode b_Ed_isBeyond 8 = .ok (.if_icmp .le 7, 3) := by decide +kernel
theorem d_Ed_isBeyond_11 : decode b_Ed_isBeyond 11 = .ok (.iconst 1, 1) := by decide +kernel
theorem d_Ed_isBeyond_12 : decode b_Ed_isBeyond 12 = .ok (.goto 4, 3) := by decide +kernel
theorem d_Ed_isBeyond_15 : decode b_Ed_isBeyond 15 = .ok (.iconst 0, 1) := by decide +kernel
theorem d_Ed_isBeyond_16 : decode b_Ed_isBeyond 16 = .ok (.ireturn, 1) := by decide +kernel
theorem d_Ed_append_0 : decode b_Ed_append 0 = .ok (.aload_n 0, 1) := by decide +kernel
theorem d_Ed_append_1 : decode b_Ed_append 1 = .ok (.getfield 20, 3) := by decide +kernel
theorem d_Ed_append_4 : decode b_Ed_append 4 = .ok (.ifCond .ne 9, 3) := by decide +kernel
theorem d_Ed_append_7 : decode b_Ed_append 7 = .ok (.aload_n 0, 1) := by decide +kernel
theorem d_Ed_append_8 : decode b_Ed_append 8 = .ok (.iload_n 2, 1) := by decide +kernel
theorem d_Ed_append_9 : decode b_Ed_append 9 = .ok (.ineg, 1) := by decide +kernel
theorem d_Ed_append_10 : decode b_Ed_append 10 = .ok (.putfield 24, 3) := by decide +kernel
theorem d_Ed_append_13 : decode b_Ed_append 13 = .ok (.aload_n 0, 1) := by decide +kernel
theorem d_Ed_append_14 : decode b_Ed_append 14 = .ok (.getfield 20, 3) := by decide +kernel
theorem d_Ed_append_17 : decode b_Ed_append 17 = .ok (.istore 4, 2) := by decide +kernel
theorem d_Ed_append_19 : decode b_Ed_append 19 = .ok (.iload 4, 2) := by decide +kernel
theorem d_Ed_append_21 : decode b_Ed_append 21 = .ok (.iload_n 1, 1) := by decide +kernel
theorem d_Ed_append_22 : decode b_Ed_append 22 = .ok (.if_icmp .ge 17, 3) := by decide +kernel
theorem d_Ed_append_25 : decode b_Ed_append 25 = .ok (.aload_n 0, 1) := by decide +kernel
theorem d_Ed_append_26 : decode b_Ed_append 26 = .ok (.getfield 9, 3) := by decide +kernel
theorem d_Ed_append_29 : decode b_Ed_append 29 = .ok (.iload 4, 2) := by decide +kernel
theorem d_Ed_append_31 : decode b_Ed_append 31 = .ok (.iconst 0, 1) := by decide +kernel
theorem d_Ed_append_32 : decode b_Ed_append 32 = .ok (.bastore, 1) := by decide +kernel
theorem d_Ed_append_33 : decode b_Ed_append 33 = .ok (.iinc 4 1, 3) := by decide +kernel
theorem d_Ed_append_36 : decode b_Ed_append 36 = .ok (.goto (-17), 3) := by decide +kernel
theorem d_Ed_append_39 : decode b_Ed_append 39 = .ok (.aload_n 0, 1) := by decide +kernel
theorem d_Ed_append_40 : decode b_Ed_append 40 = .ok (.getfield 9, 3) := by decide +kernel
theorem d_Ed_append_43 : decode b_Ed_append 43 = .ok (.iload_n 1, 1) := by decide +kernel
theorem d_Ed_append_44 : decode b_Ed_append 44 = .ok (.iload_n 3, 1) := by decide +kernel
theorem d_Ed_append_45 : decode b_Ed_append 45 = .ok (.i2b, 1) := by decide +kernel
theorem d_Ed_append_46 : decode b_Ed_append 46 = .ok (.bastore, 1) := by decide +kernel
theorem d_Ed_append_47 : decode b_Ed_append 47 = .ok (.aload_n 0, 1) := by decide +kernel
theorem d_Ed_append_48 : decode b_Ed_append 48 = .ok (.iload_n 1, 1) := by decide +kernel
theorem d_Ed_append_49 : decode b_Ed_append 49 = .ok (.iconst 1, 1) := by decide +kernel
theorem d_Ed_append_50 : decode b_Ed_append 50 = .ok (.iadd, 1) := by decide +kernel
theorem d_Ed_append_51 : decode b_Ed_append 51 = .ok (.putfield 20, 3) := by decide +kernel
theorem d_Ed_append_54 : decode b_Ed_append 54 = .ok (.return_, 1) := by decide +kernel
theorem d_Ed_shift_0 : decode b_Ed_shift 0 = .ok (.iload_n 1, 1) := by decide +kernel
theorem d_Ed_shift_1 : decode b_Ed_shift 1 = .ok (.sipush 2200, 3) := by decide +kernel
theorem d_Ed_shift_4 : decode b_Ed_shift 4 = .ok (.invokestatic 54, 3) := by decide +kernel
theorem d_Ed_shift_7 : decode b_Ed_shift 7 = .ok (.ifCond .eq 11, 3) := by decide +kernel
theorem d_Ed_shift_10 : decode b_Ed_shift 10 = .ok (.new 58, 3) := by decide +kernel
theorem d_Ed_shift_13 : decode b_Ed_shift 13 = .ok (.dup, 1) := by decide +kernel
theorem d_Ed_shift_14 : decode b_Ed_shift 14 = .ok (.invokespecial 60, 3) := by decide +kernel
theorem d_Ed_shift_17 : decode b_Ed_shift 17 = .ok (.athrow, 1) := by decide +kernel
theorem d_Ed_shift_18 : decode b_Ed_shift 18 = .ok (.aload_n 0, 1) := by decide +kernel
theorem d_Ed_shift_19 : decode b_Ed_shift 19 = .ok (.getfield 16, 3) := by decide +kernel
theorem d_Ed_shift_22 : decode b_Ed_shift 22 = .ok (.aload_n 0, 1) := by decide +kernel
theorem d_Ed_shift_23 : decode b_Ed_shift 23 = .ok (.getfield 9, 3) := by decide +kernel
theorem d_Ed_shift_26 : decode b_Ed_shift 26 = .ok (.aload_n 0, 1) := by decide +kernel
theorem d_Ed_shift_27 : decode b_Ed_shift 27 = .ok (.getfield 20, 3) := by decide +kernel
theorem d_Ed_shift_30 : decode b_Ed_shift 30 = .ok (.invokevirtual 65, 3) := by decide +kernel
theorem d_Ed_shift_33 : decode b_Ed_shift 33 = .ok (.aload_n 0, 1) := by decide +kernel
theorem d_Ed_shift_34 : decode b_Ed_shift 34 = .ok (.getfield 24, 3) := by decide +kernel
theorem d_Ed_shift_37 : decode b_Ed_shift 37 = .ok (.aload_n 0, 1) := by decide +kernel
theorem d_Ed_shift_38 : decode b_Ed_shift 38 = .ok (.getfield 20, 3) := by decide +kernel
theorem d_Ed_shift_41 : decode b_Ed_shift 41 = .ok (.isub, 1) := by decide +kernel
theorem d_Ed_shift_42 : decode b_Ed_shift 42 = .ok (.aload_n 0, 1) := by decide +kernel
theorem d_Ed_shift_43 : decode b_Ed_shift 43 = .ok (.getfield 16, 3) := by decide +kernel
theorem d_Ed_shift_46 : decode b_Ed_shift 46 = .ok (.iload_n 1, 1) := by decide +kernel
theorem d_Ed_shift_47 : decode b_Ed_shift 47 = .ok (.invokevirtual 69, 3) := by decide +kernel
theorem d_Ed_shift_50 : decode b_Ed_shift 50 = .ok (.iadd, 1) := by decide +kernel
theorem d_Ed_shift_51 : decode b_Ed_shift 51 = .ok (.istore_n 2, 1) := by decide +kernel
theorem d_Ed_shift_52 : decode b_Ed_shift 52 = .ok (.aload_n 0, 1) := by decide +kernel
theorem d_Ed_shift_53 : decode b_Ed_shift 53 = .ok (.getfield 27, 3) := by decide +kernel
theorem d_Ed_shift_56 : decode b_Ed_shift 56 = .ok (.istore_n 3, 1) := by decide +kernel
theorem d_Ed_shift_57 : decode b_Ed_shift 57 = .ok (.aload_n 0, 1) := by decide +kernel
theorem d_Ed_shift_58 : decode b_Ed_shift 58 = .ok (.iload_n 2, 1) := by decide +kernel
theorem d_Ed_shift_59 : decode b_Ed_shift 59 = .ok (.invokevirtual 35, 3) := by decide +kernel
theorem d_Ed_shift_62 : decode b_Ed_shift 62 = .ok (.aload_n 0, 1) := by decide +kernel
theorem d_Ed_shift_63 : decode b_Ed_shift 63 = .ok (.aload_n 0, 1) := by decide +kernel
theorem d_Ed_shift_64 : decode b_Ed_shift 64 = .ok (.getfield 27, 3) := by decide +kernel
theorem d_Ed_shift_67 : decode b_Ed_shift 67 = .ok (.ifCond .ne 7, 3) := by decide +kernel
theorem d_Ed_shift_70 : decode b_Ed_shift 70 = .ok (.iload_n 3, 1) := by decide +kernel
theorem d_Ed_shift_71 : decode b_Ed_shift 71 = .ok (.ifCond .eq 7, 3) := by decide +kernel
theorem d_Ed_shift_74 : decode b_Ed_shift 74 = .ok (.iconst 1, 1) := by decide +kernel
theorem d_Ed_shift_75 : decode b_Ed_shift 75 = .ok (.goto 4, 3) := by decide +kernel
theorem d_Ed_shift_78 : decode b_Ed_shift 78 = .ok (.iconst 0, 1) := by decide +kernel
theorem d_Ed_shift_79 : decode b_Ed_shift 79 = .ok (.putfield 27, 3) := by decide +kernel
theorem d_Ed_shift_82 : decode b_Ed_shift 82 = .ok (.aload_n 0, 1) := by decide +kernel
theorem d_Ed_shift_83 : decode b_Ed_shift 83 = .ok (.getfield 20, 3) := by decide +kernel
theorem d_Ed_shift_86 : decode b_Ed_shift 86 = .ok (.ireturn, 1) := by decide +kernel
theorem d_Ed_move_0 : decode b_Ed_move 0 = .ok (.iload_n 1, 1) := by decide +kernel
theorem d_Ed_move_1 : decode b_Ed_move 1 = .ok (.sipush 5000, 3) := by decide +kernel
theorem d_Ed_move_4 : decode b_Ed_move 4 = .ok (.invokestatic 54, 3) := by decide +kernel
theorem d_Ed_move_7 : decode b_Ed_move 7 = .ok (.ifCond .eq 11, 3) := by decide +kernel
theorem d_Ed_move_10 : decode b_Ed_move 10 = .ok (.new 58, 3) := by decide +kernel
theorem d_Ed_move_13 : decode b_Ed_move 13 = .ok (.dup, 1) := by decide +kernel
theorem d_Ed_move_14 : decode b_Ed_move 14 = .ok (.invokespecial 60, 3) := by decide +kernel
theorem d_Ed_move_17 : decode b_Ed_move 17 = .ok (.athrow, 1) := by decide +kernel
theorem d_Ed_move_18 : decode b_Ed_move 18 = .ok (.aload_n 0, 1) := by decide +kernel
theorem d_Ed_move_19 : decode b_Ed_move 19 = .ok (.getfield 20, 3) := by decide +kernel
theorem d_Ed_move_22 : decode b_Ed_move 22 = .ok (.ifCond .ne 5, 3) := by decide +kernel
theorem d_Ed_move_25 : decode b_Ed_move 25 = .ok (.iconst 0, 1) := by decide +kernel
theorem d_Ed_move_26 : decode b_Ed_move 26 = .ok (.ireturn, 1) := by decide +kernel
theorem d_Ed_move_27 : decode b_Ed_move 27 = .ok (.aload_n 0, 1) := by decide +kernel
theorem d_Ed_move_28 : decode b_Ed_move 28 = .ok (.getfield 24, 3) := by decide +kernel
theorem d_Ed_move_31 : decode b_Ed_move 31 = .ok (.iload_n 1, 1) := by decide +kernel
theorem d_Ed_move_32 : decode b_Ed_move 32 = .ok (.iadd, 1) := by decide +kernel
theorem d_Ed_move_33 : decode b_Ed_move 33 = .ok (.istore_n 2, 1) := by decide +kernel
theorem d_Ed_move_34 : decode b_Ed_move 34 = .ok (.iload_n 2, 1) := by decide +kernel
theorem d_Ed_move_35 : decode b_Ed_move 35 = .ok (.sipush 10000, 3) := by decide +kernel
theorem d_Ed_move_38 : decode b_Ed_move 38 = .ok (.invokestatic 54, 3) := by decide +kernel
theorem d_Ed_move_41 : decode b_Ed_move 41 = .ok (.ifCond .eq 11, 3) := by decide +kernel
theorem d_Ed_move_44 : decode b_Ed_move 44 = .ok (.new 58, 3) := by decide +kernel
theorem d_Ed_move_47 : decode b_Ed_move 47 = .ok (.dup, 1) := by decide +kernel
theorem d_Ed_move_48 : decode b_Ed_move 48 = .ok (.invokespecial 60, 3) := by decide +kernel
theorem d_Ed_move_51 : decode b_Ed_move 51 = .ok (.athrow, 1) := by decide +kernel
theorem d_Ed_move_52 : decode b_Ed_move 52 = .ok (.aload_n 0, 1) := by decide +kernel
theorem d_Ed_move_53 : decode b_Ed_move 53 = .ok (.iload_n 2, 1) := by decide +kernel
theorem d_Ed_move_54 : decode b_Ed_move 54 = .ok (.putfield 24, 3) := by decide +kernel
theorem d_Ed_move_57 : decode b_Ed_move 57 = .ok (.aload_n 0, 1) := by decide +kernel
theorem d_Ed_move_58 : decode b_Ed_move 58 = .ok (.getfield 24, 3) := by decide +kernel
theorem d_Ed_move_61 : decode b_Ed_move 61 = .ok (.ireturn, 1) := by decide +kernel
theorem d_Ed_round_0 : decode b_Ed_round 0 = .ok (.iload_n 1, 1) := by decide +kernel
theorem d_Ed_round_1 : decode b_Ed_round 1 = .ok (.sipush 2000, 3) := by decide +kernel
theorem d_Ed_round_4 : decode b_Ed_round 4 = .ok (.invokestatic 54, 3) := by decide +kernel
theorem d_Ed_round_7 : decode b_Ed_round 7 = .ok (.ifCond .eq 11, 3) := by decide +kernel
theorem d_Ed_round_10 : decode b_Ed_round 10 = .ok (.new 58, 3) := by decide +kernel
theorem d_Ed_round_13 : decode b_Ed_round 13 = .ok (.dup, 1) := by decide +kernel
theorem d_Ed_round_14 : decode b_Ed_round 14 = .ok (.invokespecial 60, 3) := by decide +kernel
theorem d_Ed_round_17 : decode b_Ed_round 17 = .ok (.athrow, 1) := by decide +kernel
theorem d_Ed_round_18 : decode b_Ed_round 18 = .ok (.aload_n 0, 1) := by decide +kernel
theorem d_Ed_round_19 : decode b_Ed_round 19 = .ok (.getfield 24, 3) := by decide +kernel
theorem d_Ed_round_22 : decode b_Ed_round 22 = .ok (.iload_n 1, 1) := by decide +kernel
theorem d_Ed_round_23 : decode b_Ed_round 23 = .ok (.iadd, 1) := by decide +kernel
theorem d_Ed_round_24 : decode b_Ed_round 24 = .ok (.istore_n 2, 1) := by decide +kernel
theorem d_Ed_round_25 : decode b_Ed_round 25 = .ok (.iload_n 2, 1) := by decide +kernel
theorem d_Ed_round_26 : decode b_Ed_round 26 = .ok (.ifCond .lt 29, 3) := by decide +kernel
theorem d_Ed_round_29 : decode b_Ed_round 29 = .ok (.iload_n 2, 1) := by decide +kernel
theorem d_Ed_round_30 : decode b_Ed_round 30 = .ok (.aload_n 0, 1) := by decide +kernel
theorem d_Ed_round_31 : decode b_Ed_round 31 = .ok (.getfield 20, 3) := by decide +kernel
theorem d_Ed_round_34 : decode b_Ed_round 34 = .ok (.if_icmp .ge 21, 3) := by decide +kernel
theorem d_Ed_round_37 : decode b_Ed_round 37 = .ok (.aload_n 0, 1) := by decide +kernel
theorem d_Ed_round_38 : decode b_Ed_round 38 = .ok (.getfield 9, 3) := by decide +kernel
theorem d_Ed_round_41 : decode b_Ed_round 41 = .ok (.iload_n 2, 1) := by decide +kernel
theorem d_Ed_round_42 : decode b_Ed_round 42 = .ok (.baload, 1) := by decide +kernel
theorem d_Ed_round_43 : decode b_Ed_round 43 = .ok (.iconst 5, 1) := by decide +kernel
theorem d_Ed_round_44 : decode b_Ed_round 44 = .ok (.if_icmp .lt 11, 3) := by decide +kernel
theorem d_Ed_round_47 : decode b_Ed_round 47 = .ok (.aload_n 0, 1) := by decide +kernel
theorem d_Ed_round_48 : decode b_Ed_round 48 = .ok (.iload_n 2, 1) := by decide +kernel
theorem d_Ed_round_49 : decode b_Ed_round 49 = .ok (.invokevirtual 73, 3) := by decide +kernel
theorem d_Ed_round_52 : decode b_Ed_round 52 = .ok (.goto 8, 3) := by decide +kernel
theorem d_Ed_round_55 : decode b_Ed_round 55 = .ok (.aload_n 0, 1) := by decide +kernel
theorem d_Ed_round_56 : decode b_Ed_round 56 = .ok (.iload_n 2, 1) := by decide +kernel
theorem d_Ed_round_57 : decode b_Ed_round 57 = .ok (.invokevirtual 76, 3) := by decide +kernel
theorem d_Ed_round_60 : decode b_Ed_round 60 = .ok (.aload_n 0, 1) := by decide +kernel
theorem d_Ed_round_61 : decode b_Ed_round 61 = .ok (.getfield 20, 3) := by decide +kernel
theorem d_Ed_round_64 : decode b_Ed_round 64 = .ok (.ireturn, 1) := by decide +kernel
theorem d_Ed_keepFirstAndOneMore_0 : decode b_Ed_keepFirstAndOneMore 0 = .ok (.iload_n 1, 1) := by decide +kernel
theorem d_Ed_keepFirstAndOneMore_1 : decode b_Ed_keepFirstAndOneMore 1 = .ok (.iconst 1, 1) := by decide +kernel
theorem d_Ed_keepFirstAndOneMore_2 : decode b_Ed_keepFirstAndOneMore 2 = .ok (.isub, 1) := by decide +kernel
theorem d_Ed_keepFirstAndOneMore_3 : decode b_Ed_keepFirstAndOneMore 3 = .ok (.istore_n 2, 1) := by decide +kernel
theorem d_Ed_keepFirstAndOneMore_4 : decode b_Ed_keepFirstAndOneMore 4 = .ok (.iload_n 2, 1) := by decide +kernel
theorem d_Ed_keepFirstAndOneMore_5 : decode b_Ed_keepFirstAndOneMore 5 = .ok (.ifCond .lt 20, 3) := by decide +kernel
theorem d_Ed_keepFirstAndOneMore_8 : decode b_Ed_keepFirstAndOneMore 8 = .ok (.aload_n 0, 1) := by decide +kernel
theorem d_Ed_keepFirstAndOneMore_9 : decode b_Ed_keepFirstAndOneMore 9 = .ok (.getfield 9, 3) := by decide +kernel
theorem d_Ed_keepFirstAndOneMore_12 : decode b_Ed_keepFirstAndOneMore 12 = .ok (.iload_n 2, 1) := by decide +kernel
theorem d_Ed_keepFirstAndOneMore_13 : decode b_Ed_keepFirstAndOneMore 13 = .ok (.baload, 1) := by decide +kernel
theorem d_Ed_keepFirstAndOneMore_14 : decode b_Ed_keepFirstAndOneMore 14 = .ok (.bipush 9, 2) := by decide +kernel
theorem d_Ed_keepFirstAndOneMore_16 : decode b_Ed_keepFirstAndOneMore 16 = .ok (.if_icmp .ne 9, 3) := by decide +kernel
theorem d_Ed_keepFirstAndOneMore_19 : decode b_Ed_keepFirstAndOneMore 19 = .ok (.iinc 2 (-1), 3) := by decide +kernel
theorem d_Ed_keepFirstAndOneMore_22 : decode b_Ed_keepFirstAndOneMore 22 = .ok (.goto (-18), 3) := by decide +kernel
theorem d_Ed_keepFirstAndOneMore_25 : decode b_Ed_keepFirstAndOneMore 25 = .ok (.iload_n 2, 1) := by decide +kernel
theorem d_Ed_keepFirstAndOneMore_26 : decode b_Ed_keepFirstAndOneMore 26 = .ok (.ifCond .ge 28, 3) := by decide +kernel
theorem d_Ed_keepFirstAndOneMore_29 : decode b_Ed_keepFirstAndOneMore 29 = .ok (.aload_n 0, 1) := by decide +kernel
theorem d_Ed_keepFirstAndOneMore_30 : decode b_Ed_keepFirstAndOneMore 30 = .ok (.getfield 9, 3) := by decide +kernel
theorem d_Ed_keepFirstAndOneMore_33 : decode b_Ed_keepFirstAndOneMore 33 = .ok (.iconst 0, 1) := by decide +kernel
theorem d_Ed_keepFirstAndOneMore_34 : decode b_Ed_keepFirstAndOneMore 34 = .ok (.iconst 1, 1) := by decide +kernel
theorem d_Ed_keepFirstAndOneMore_35 : decode b_Ed_keepFirstAndOneMore 35 = .ok (.bastore, 1) := by decide +kernel
theorem d_Ed_keepFirstAndOneMore_36 : decode b_Ed_keepFirstAndOneMore 36 = .ok (.aload_n 0, 1) := by decide +kernel
theorem d_Ed_keepFirstAndOneMore_37 : decode b_Ed_keepFirstAndOneMore 37 = .ok (.iconst 1, 1) := by decide +kernel
theorem d_Ed_keepFirstAndOneMore_38 : decode b_Ed_keepFirstAndOneMore 38 = .ok (.putfield 20, 3) := by decide +kernel
theorem d_Ed_keepFirstAndOneMore_41 : decode b_Ed_keepFirstAndOneMore 41 = .ok (.aload_n 0, 1) := by decide +kernel
theorem d_Ed_keepFirstAndOneMore_42 : decode b_Ed_keepFirstAndOneMore 42 = .ok (.dup, 1) := by decide +kernel
theorem d_Ed_keepFirstAndOneMore_43 : decode b_Ed_keepFirstAndOneMore 43 = .ok (.getfield 24, 3) := by decide +kernel
theorem d_Ed_keepFirstAndOneMore_46 : decode b_Ed_keepFirstAndOneMore 46 = .ok (.iconst 1, 1) := by decide +kernel
theorem d_Ed_keepFirstAndOneMore_47 : decode b_Ed_keepFirstAndOneMore 47 = .ok (.iadd, 1) := by decide +kernel
theorem d_Ed_keepFirstAndOneMore_48 : decode b_Ed_keepFirstAndOneMore 48 = .ok (.putfield 24, 3) := by decide +kernel
theorem d_Ed_keepFirstAndOneMore_51 : decode b_Ed_keepFirstAndOneMore 51 = .ok (.goto 21, 3) := by decide +kernel
theorem d_Ed_keepFirstAndOneMore_54 : decode b_Ed_keepFirstAndOneMore 54 = .ok (.aload_n 0, 1) := by decide +kernel
theorem d_Ed_keepFirstAndOneMore_55 : decode b_Ed_keepFirstAndOneMore 55 = .ok (.getfield 9, 3) := by decide +kernel
theorem d_Ed_keepFirstAndOneMore_58 : decode b_Ed_keepFirstAndOneMore 58 = .ok (.iload_n 2, 1) := by decide +kernel
theorem d_Ed_keepFirstAndOneMore_59 : decode b_Ed_keepFirstAndOneMore 59 = .ok (.dup2, 1) := by decide +kernel
theorem d_Ed_keepFirstAndOneMore_60 : decode b_Ed_keepFirstAndOneMore 60 = .ok (.baload, 1) := by decide +kernel
theorem d_Ed_keepFirstAndOneMore_61 : decode b_Ed_keepFirstAndOneMore 61 = .ok (.iconst 1, 1) := by decide +kernel
theorem d_Ed_keepFirstAndOneMore_62 : decode b_Ed_keepFirstAndOneMore 62 = .ok (.iadd, 1) := by decide +kernel
theorem d_Ed_keepFirstAndOneMore_63 : decode b_Ed_keepFirstAndOneMore 63 = .ok (.i2b, 1) := by decide +kernel
theorem d_Ed_keepFirstAndOneMore_64 : decode b_Ed_keepFirstAndOneMore 64 = .ok (.bastore, 1) := by decide +kernel
theorem d_Ed_keepFirstAndOneMore_65 : decode b_Ed_keepFirstAndOneMore 65 = .ok (.aload_n 0, 1) := by decide +kernel
theorem d_Ed_keepFirstAndOneMore_66 : decode b_Ed_keepFirstAndOneMore 66 = .ok (.iload_n 2, 1) := by decide +kernel
theorem d_Ed_keepFirstAndOneMore_67 : decode b_Ed_keepFirstAndOneMore 67 = .ok (.iconst 1, 1) := by decide +kernel
theorem d_Ed_keepFirstAndOneMore_68 : decode b_Ed_keepFirstAndOneMore 68 = .ok (.iadd, 1) := by decide +kernel
theorem d_Ed_keepFirstAndOneMore_69 : decode b_Ed_keepFirstAndOneMore 69 = .ok (.putfield 20, 3) := by decide +kernel
theorem d_Ed_keepFirstAndOneMore_72 : decode b_Ed_keepFirstAndOneMore 72 = .ok (.aload_n 0, 1) := by decide +kernel
theorem d_Ed_keepFirstAndOneMore_73 : decode b_Ed_keepFirstAndOneMore 73 = .ok (.iconst 0, 1) := by decide +kernel
theorem d_Ed_keepFirstAndOneMore_74 : decode b_Ed_keepFirstAndOneMore 74 = .ok (.putfield 27, 3) := by decide +kernel
theorem d_Ed_keepFirstAndOneMore_77 : decode b_Ed_keepFirstAndOneMore 77 = .ok (.return_, 1) := by decide +kernel
theorem d_Ed_keepFirst_0 : decode b_Ed_keepFirst 0 = .ok (.aload_n 0, 1) := by decide +kernel
theorem d_Ed_keepFirst_1 : decode b_Ed_keepFirst 1 = .ok (.aload_n 0, 1) := by decide +kernel
theorem d_Ed_keepFirst_2 : decode b_Ed_keepFirst 2 = .ok (.getfield 20, 3) := by decide +kernel
theorem d_Ed_keepFirst_5 : decode b_Ed_keepFirst 5 = .ok (.iload_n 1, 1) := by decide +kernel
theorem d_Ed_keepFirst_6 : decode b_Ed_keepFirst 6 = .ok (.iconst 0, 1) := by decide +kernel
theorem d_Ed_keepFirst_7 : decode b_Ed_keepFirst 7 = .ok (.invokestatic 131, 3) := by decide +kernel
theorem d_Ed_keepFirst_10 : decode b_Ed_keepFirst 10 = .ok (.invokestatic 115, 3) := by decide +kernel
theorem d_Ed_keepFirst_13 : decode b_Ed_keepFirst 13 = .ok (.putfield 20, 3) := by decide +kernel
theorem d_Ed_keepFirst_16 : decode b_Ed_keepFirst 16 = .ok (.aload_n 0, 1) := by decide +kernel
theorem d_Ed_keepFirst_17 : decode b_Ed_keepFirst 17 = .ok (.iconst 0, 1) := by decide +kernel
theorem d_Ed_keepFirst_18 : decode b_Ed_keepFirst 18 = .ok (.putfield 27, 3) := by decide +kernel
theorem d_Ed_keepFirst_21 : decode b_Ed_keepFirst 21 = .ok (.aload_n 0, 1) := by decide +kernel
theorem d_Ed_keepFirst_22 : decode b_Ed_keepFirst 22 = .ok (.invokevirtual 121, 3) := by decide +kernel
theorem d_Ed_keepFirst_25 : decode b_Ed_keepFirst 25 = .ok (.return_, 1) := by decide +kernel
theorem d_Ed_cut_0 : decode b_Ed_cut 0 = .ok (.iload_n 1, 1) := by decide +kernel
theorem d_Ed_cut_1 : decode b_Ed_cut 1 = .ok (.sipush 2000, 3) := by decide +kernel
theorem d_Ed_cut_4 : decode b_Ed_cut 4 = .ok (.invokestatic 54, 3) := by decide +kernel
theorem d_Ed_cut_7 : decode b_Ed_cut 7 = .ok (.ifCond .eq 11, 3) := by decide +kernel
theorem d_Ed_cut_10 : decode b_Ed_cut 10 = .ok (.new 58, 3) := by decide +kernel
theorem d_Ed_cut_13 : decode b_Ed_cut 13 = .ok (.dup, 1) := by decide +kernel
theorem d_Ed_cut_14 : decode b_Ed_cut 14 = .ok (.invokespecial 60, 3) := by decide +kernel
theorem d_Ed_cut_17 : decode b_Ed_cut 17 = .ok (.athrow, 1) := by decide +kernel
theorem d_Ed_cut_18 : decode b_Ed_cut 18 = .ok (.aload_n 0, 1) := by decide +kernel
theorem d_Ed_cut_19 : decode b_Ed_cut 19 = .ok (.aload_n 0, 1) := by decide +kernel
theorem d_Ed_cut_20 : decode b_Ed_cut 20 = .ok (.getfield 24, 3) := by decide +kernel
theorem d_Ed_cut_23 : decode b_Ed_cut 23 = .ok (.iload_n 1, 1) := by decide +kernel
theorem d_Ed_cut_24 : decode b_Ed_cut 24 = .ok (.iadd, 1) := by decide +kernel
theorem d_Ed_cut_25 : decode b_Ed_cut 25 = .ok (.invokevirtual 76, 3) := by decide +kernel
theorem d_Ed_cut_28 : decode b_Ed_cut 28 = .ok (.aload_n 0, 1) := by decide +kernel
theorem d_Ed_cut_29 : decode b_Ed_cut 29 = .ok (.getfield 20, 3) := by decide +kernel
theorem d_Ed_cut_32 : decode b_Ed_cut 32 = .ok (.ireturn, 1) := by decide +kernel
theorem d_Ed_told_0 : decode b_Ed_told 0 = .ok (.iload_n 1, 1) := by decide +kernel
theorem d_Ed_told_1 : decode b_Ed_told 1 = .ok (.tableswitch 50 0 2 #[27, 32, 37], 27) := by decide +kernel
theorem d_Ed_told_28 : decode b_Ed_told 28 = .ok (.aload_n 0, 1) := by decide +kernel
theorem d_Ed_told_29 : decode b_Ed_told 29 = .ok (.getfield 20, 3) := by decide +kernel
theorem d_Ed_told_32 : decode b_Ed_told 32 = .ok (.ireturn, 1) := by decide +kernel
theorem d_Ed_told_33 : decode b_Ed_told 33 = .ok (.aload_n 0, 1) := by decide +kernel
theorem d_Ed_told_34 : decode b_Ed_told 34 = .ok (.getfield 24, 3) := by decide +kernel
theorem d_Ed_told_37 : decode b_Ed_told 37 = .ok (.ireturn, 1) := by decide +kernel
theorem d_Ed_told_38 : decode b_Ed_told 38 = .ok (.aload_n 0, 1) := by decide +kernel
theorem d_Ed_told_39 : decode b_Ed_told 39 = .ok (.getfield 27, 3) := by decide +kernel
theorem d_Ed_told_42 : decode b_Ed_told 42 = .ok (.ifCond .eq 7, 3) := by decide +kernel
theorem d_Ed_told_45 : decode b_Ed_told 45 = .ok (.iconst 1, 1) := by decide +kernel
theorem d_Ed_told_46 : decode b_Ed_told 46 = .ok (.goto 4, 3) := by decide +kernel
theorem d_Ed_told_49 : decode b_Ed_told 49 = .ok (.iconst 0, 1) := by decide +kernel
theorem d_Ed_told_50 : decode b_Ed_told 50 = .ok (.ireturn, 1) := by decide +kernel
theorem d_Ed_told_51 : decode b_Ed_told 51 = .ok (.new 58, 3) := by decide +kernel
theorem d_Ed_told_54 : decode b_Ed_told 54 = .ok (.dup, 1) := by decide +kernel
theorem d_Ed_told_55 : decode b_Ed_told 55 = .ok (.invokespecial 60, 3) := by decide +kernel
theorem d_Ed_told_58 : decode b_Ed_told 58 = .ok (.athrow, 1) := by decide +kernel
