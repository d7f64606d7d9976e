theorem d_Ro_init_0 : decode b_Ro_init 0 = .ok (.aload_n 0, 1) := by decide +kernel
theorem d_Ro_init_1 : decode b_Ro_init 1 = .ok (.invokespecial 3, 3) := by decide +kernel
theorem d_Ro_init_4 : decode b_Ro_init 4 = .ok (.aload_n 0, 1) := by decide +kernel
theorem d_Ro_init_5 : decode b_Ro_init 5 = .ok (.sipush 4200, 3) := by decide +kernel
theorem d_Ro_init_8 : decode b_Ro_init 8 = .ok (.newarray .byte, 2) := by decide +kernel
theorem d_Ro_init_10 : decode b_Ro_init 10 = .ok (.putfield 9, 3) := by decide +kernel
theorem d_Ro_init_13 : decode b_Ro_init 13 = .ok (.return_, 1) := by decide +kernel
theorem d_Ro_set_0 : decode b_Ro_set 0 = .ok (.lload_n 1, 1) := by decide +kernel
theorem d_Ro_set_1 : decode b_Ro_set 1 = .ok (.lstore_n 3, 1) := by decide +kernel
theorem d_Ro_set_2 : decode b_Ro_set 2 = .ok (.aload_n 0, 1) := by decide +kernel
theorem d_Ro_set_3 : decode b_Ro_set 3 = .ok (.iconst 0, 1) := by decide +kernel
theorem d_Ro_set_4 : decode b_Ro_set 4 = .ok (.putfield 15, 3) := by decide +kernel
theorem d_Ro_set_7 : decode b_Ro_set 7 = .ok (.aload_n 0, 1) := by decide +kernel
theorem d_Ro_set_8 : decode b_Ro_set 8 = .ok (.iconst 0, 1) := by decide +kernel
theorem d_Ro_set_9 : decode b_Ro_set 9 = .ok (.putfield 19, 3) := by decide +kernel
theorem d_Ro_set_12 : decode b_Ro_set 12 = .ok (.lload_n 3, 1) := by decide +kernel
theorem d_Ro_set_13 : decode b_Ro_set 13 = .ok (.lconst 0, 1) := by decide +kernel
theorem d_Ro_set_14 : decode b_Ro_set 14 = .ok (.lcmp, 1) := by decide +kernel
theorem d_Ro_set_15 : decode b_Ro_set 15 = .ok (.ifCond .eq 71, 3) := by decide +kernel
theorem d_Ro_set_18 : decode b_Ro_set 18 = .ok (.lload_n 3, 1) := by decide +kernel
theorem d_Ro_set_19 : decode b_Ro_set 19 = .ok (.ldc2_w 22, 3) := by decide +kernel
theorem d_Ro_set_22 : decode b_Ro_set 22 = .ok (.invokestatic 24, 3) := by decide +kernel
theorem d_Ro_set_25 : decode b_Ro_set 25 = .ok (.lstore 5, 2) := by decide +kernel
theorem d_Ro_set_27 : decode b_Ro_set 27 = .ok (.aload_n 0, 1) := by decide +kernel
theorem d_Ro_set_28 : decode b_Ro_set 28 = .ok (.getfield 9, 3) := by decide +kernel
theorem d_Ro_set_31 : decode b_Ro_set 31 = .ok (.iconst 0, 1) := by decide +kernel
theorem d_Ro_set_32 : decode b_Ro_set 32 = .ok (.aload_n 0, 1) := by decide +kernel
theorem d_Ro_set_33 : decode b_Ro_set 33 = .ok (.getfield 9, 3) := by decide +kernel
theorem d_Ro_set_36 : decode b_Ro_set 36 = .ok (.iconst 1, 1) := by decide +kernel
theorem d_Ro_set_37 : decode b_Ro_set 37 = .ok (.aload_n 0, 1) := by decide +kernel
theorem d_Ro_set_38 : decode b_Ro_set 38 = .ok (.getfield 15, 3) := by decide +kernel
theorem d_Ro_set_41 : decode b_Ro_set 41 = .ok (.invokestatic 30, 3) := by decide +kernel
theorem d_Ro_set_44 : decode b_Ro_set 44 = .ok (.aload_n 0, 1) := by decide +kernel
theorem d_Ro_set_45 : decode b_Ro_set 45 = .ok (.getfield 9, 3) := by decide +kernel
theorem d_Ro_set_48 : decode b_Ro_set 48 = .ok (.iconst 0, 1) := by decide +kernel
theorem d_Ro_set_49 : decode b_Ro_set 49 = .ok (.lload_n 3, 1) := by decide +kernel
theorem d_Ro_set_50 : decode b_Ro_set 50 = .ok (.ldc2_w 22, 3) := by decide +kernel
theorem d_Ro_set_53 : decode b_Ro_set 53 = .ok (.lload 5, 2) := by decide +kernel
theorem d_Ro_set_55 : decode b_Ro_set 55 = .ok (.lmul, 1) := by decide +kernel
theorem d_Ro_set_56 : decode b_Ro_set 56 = .ok (.lsub, 1) := by decide +kernel
theorem d_Ro_set_57 : decode b_Ro_set 57 = .ok (.l2i, 1) := by decide +kernel
theorem d_Ro_set_58 : decode b_Ro_set 58 = .ok (.i2b, 1) := by decide +kernel
theorem d_Ro_set_59 : decode b_Ro_set 59 = .ok (.bastore, 1) := by decide +kernel
theorem d_Ro_set_60 : decode b_Ro_set 60 = .ok (.aload_n 0, 1) := by decide +kernel
theorem d_Ro_set_61 : decode b_Ro_set 61 = .ok (.dup, 1) := by decide +kernel
theorem d_Ro_set_62 : decode b_Ro_set 62 = .ok (.getfield 15, 3) := by decide +kernel
theorem d_Ro_set_65 : decode b_Ro_set 65 = .ok (.iconst 1, 1) := by decide +kernel
theorem d_Ro_set_66 : decode b_Ro_set 66 = .ok (.iadd, 1) := by decide +kernel
theorem d_Ro_set_67 : decode b_Ro_set 67 = .ok (.putfield 15, 3) := by decide +kernel
theorem d_Ro_set_70 : decode b_Ro_set 70 = .ok (.aload_n 0, 1) := by decide +kernel
theorem d_Ro_set_71 : decode b_Ro_set 71 = .ok (.dup, 1) := by decide +kernel
theorem d_Ro_set_72 : decode b_Ro_set 72 = .ok (.getfield 19, 3) := by decide +kernel
theorem d_Ro_set_75 : decode b_Ro_set 75 = .ok (.iconst 1, 1) := by decide +kernel
theorem d_Ro_set_76 : decode b_Ro_set 76 = .ok (.iadd, 1) := by decide +kernel
theorem d_Ro_set_77 : decode b_Ro_set 77 = .ok (.putfield 19, 3) := by decide +kernel
theorem d_Ro_set_80 : decode b_Ro_set 80 = .ok (.lload 5, 2) := by decide +kernel
theorem d_Ro_set_82 : decode b_Ro_set 82 = .ok (.lstore_n 3, 1) := by decide +kernel
theorem d_Ro_set_83 : decode b_Ro_set 83 = .ok (.goto (-71), 3) := by decide +kernel
theorem d_Ro_set_86 : decode b_Ro_set 86 = .ok (.aload_n 0, 1) := by decide +kernel
theorem d_Ro_set_87 : decode b_Ro_set 87 = .ok (.invokevirtual 36, 3) := by decide +kernel
theorem d_Ro_set_90 : decode b_Ro_set 90 = .ok (.return_, 1) := by decide +kernel
theorem d_Ro_trim_0 : decode b_Ro_trim 0 = .ok (.aload_n 0, 1) := by decide +kernel
theorem d_Ro_trim_1 : decode b_Ro_trim 1 = .ok (.getfield 15, 3) := by decide +kernel
theorem d_Ro_trim_4 : decode b_Ro_trim 4 = .ok (.ifCond .le 30, 3) := by decide +kernel
theorem d_Ro_trim_7 : decode b_Ro_trim 7 = .ok (.aload_n 0, 1) := by decide +kernel
theorem d_Ro_trim_8 : decode b_Ro_trim 8 = .ok (.getfield 9, 3) := by decide +kernel
theorem d_Ro_trim_11 : decode b_Ro_trim 11 = .ok (.aload_n 0, 1) := by decide +kernel
theorem d_Ro_trim_12 : decode b_Ro_trim 12 = .ok (.getfield 15, 3) := by decide +kernel
theorem d_Ro_trim_15 : decode b_Ro_trim 15 = .ok (.iconst 1, 1) := by decide +kernel
theorem d_Ro_trim_16 : decode b_Ro_trim 16 = .ok (.isub, 1) := by decide +kernel
theorem d_Ro_trim_17 : decode b_Ro_trim 17 = .ok (.baload, 1) := by decide +kernel
theorem d_Ro_trim_18 : decode b_Ro_trim 18 = .ok (.ifCond .ne 16, 3) := by decide +kernel
theorem d_Ro_trim_21 : decode b_Ro_trim 21 = .ok (.aload_n 0, 1) := by decide +kernel
theorem d_Ro_trim_22 : decode b_Ro_trim 22 = .ok (.dup, 1) := by decide +kernel
theorem d_Ro_trim_23 : decode b_Ro_trim 23 = .ok (.getfield 15, 3) := by decide +kernel
theorem d_Ro_trim_26 : decode b_Ro_trim 26 = .ok (.iconst 1, 1) := by decide +kernel
theorem d_Ro_trim_27 : decode b_Ro_trim 27 = .ok (.isub, 1) := by decide +kernel
theorem d_Ro_trim_28 : decode b_Ro_trim 28 = .ok (.putfield 15, 3) := by decide +kernel
theorem d_Ro_trim_31 : decode b_Ro_trim 31 = .ok (.goto (-31), 3) := by decide +kernel
theorem d_Ro_trim_34 : decode b_Ro_trim 34 = .ok (.iconst 0, 1) := by decide +kernel
theorem d_Ro_trim_35 : decode b_Ro_trim 35 = .ok (.istore_n 1, 1) := by decide +kernel
theorem d_Ro_trim_36 : decode b_Ro_trim 36 = .ok (.iload_n 1, 1) := by decide +kernel
theorem d_Ro_trim_37 : decode b_Ro_trim 37 = .ok (.aload_n 0, 1) := by decide +kernel
theorem d_Ro_trim_38 : decode b_Ro_trim 38 = .ok (.getfield 15, 3) := by decide +kernel
theorem d_Ro_trim_41 : decode b_Ro_trim 41 = .ok (.if_icmp .ge 18, 3) := by decide +kernel
theorem d_Ro_trim_44 : decode b_Ro_trim 44 = .ok (.aload_n 0, 1) := by decide +kernel
theorem d_Ro_trim_45 : decode b_Ro_trim 45 = .ok (.getfield 9, 3) := by decide +kernel
theorem d_Ro_trim_48 : decode b_Ro_trim 48 = .ok (.iload_n 1, 1) := by decide +kernel
theorem d_Ro_trim_49 : decode b_Ro_trim 49 = .ok (.baload, 1) := by decide +kernel
theorem d_Ro_trim_50 : decode b_Ro_trim 50 = .ok (.ifCond .ne 9, 3) := by decide +kernel
theorem d_Ro_trim_53 : decode b_Ro_trim 53 = .ok (.iinc 1 1, 3) := by decide +kernel
theorem d_Ro_trim_56 : decode b_Ro_trim 56 = .ok (.goto (-20), 3) := by decide +kernel
theorem d_Ro_trim_59 : decode b_Ro_trim 59 = .ok (.iload_n 1, 1) := by decide +kernel
theorem d_Ro_trim_60 : decode b_Ro_trim 60 = .ok (.ifCond .le 42, 3) := by decide +kernel
theorem d_Ro_trim_63 : decode b_Ro_trim 63 = .ok (.aload_n 0, 1) := by decide +kernel
theorem d_Ro_trim_64 : decode b_Ro_trim 64 = .ok (.getfield 9, 3) := by decide +kernel
theorem d_Ro_trim_67 : decode b_Ro_trim 67 = .ok (.iload_n 1, 1) := by decide +kernel
theorem d_Ro_trim_68 : decode b_Ro_trim 68 = .ok (.aload_n 0, 1) := by decide +kernel
theorem d_Ro_trim_69 : decode b_Ro_trim 69 = .ok (.getfield 9, 3) := by decide +kernel
theorem d_Ro_trim_72 : decode b_Ro_trim 72 = .ok (.iconst 0, 1) := by decide +kernel
theorem d_Ro_trim_73 : decode b_Ro_trim 73 = .ok (.aload_n 0, 1) := by decide +kernel
theorem d_Ro_trim_74 : decode b_Ro_trim 74 = .ok (.getfield 15, 3) := by decide +kernel
theorem d_Ro_trim_77 : decode b_Ro_trim 77 = .ok (.iload_n 1, 1) := by decide +kernel
theorem d_Ro_trim_78 : decode b_Ro_trim 78 = .ok (.isub, 1) := by decide +kernel
theorem d_Ro_trim_79 : decode b_Ro_trim 79 = .ok (.invokestatic 30, 3) := by decide +kernel
theorem d_Ro_trim_82 : decode b_Ro_trim 82 = .ok (.aload_n 0, 1) := by decide +kernel
theorem d_Ro_trim_83 : decode b_Ro_trim 83 = .ok (.dup, 1) := by decide +kernel
theorem d_Ro_trim_84 : decode b_Ro_trim 84 = .ok (.getfield 15, 3) := by decide +kernel
theorem d_Ro_trim_87 : decode b_Ro_trim 87 = .ok (.iload_n 1, 1) := by decide +kernel
theorem d_Ro_trim_88 : decode b_Ro_trim 88 = .ok (.isub, 1) := by decide +kernel
theorem d_Ro_trim_89 : decode b_Ro_trim 89 = .ok (.putfield 15, 3) := by decide +kernel
theorem d_Ro_trim_92 : decode b_Ro_trim 92 = .ok (.aload_n 0, 1) := by decide +kernel
theorem d_Ro_trim_93 : decode b_Ro_trim 93 = .ok (.dup, 1) := by decide +kernel
theorem d_Ro_trim_94 : decode b_Ro_trim 94 = .ok (.getfield 19, 3) := by decide +kernel
theorem d_Ro_trim_97 : decode b_Ro_trim 97 = .ok (.iload_n 1, 1) := by decide +kernel
theorem d_Ro_trim_98 : decode b_Ro_trim 98 = .ok (.isub, 1) := by decide +kernel
theorem d_Ro_trim_99 : decode b_Ro_trim 99 = .ok (.putfield 19, 3) := by decide +kernel
theorem d_Ro_trim_102 : decode b_Ro_trim 102 = .ok (.aload_n 0, 1) := by decide +kernel
theorem d_Ro_trim_103 : decode b_Ro_trim 103 = .ok (.getfield 15, 3) := by decide +kernel
theorem d_Ro_trim_106 : decode b_Ro_trim 106 = .ok (.ifCond .ne 8, 3) := by decide +kernel
theorem d_Ro_trim_109 : decode b_Ro_trim 109 = .ok (.aload_n 0, 1) := by decide +kernel
theorem d_Ro_trim_110 : decode b_Ro_trim 110 = .ok (.iconst 0, 1) := by decide +kernel
theorem d_Ro_trim_111 : decode b_Ro_trim 111 = .ok (.putfield 19, 3) := by decide +kernel
theorem d_Ro_trim_114 : decode b_Ro_trim 114 = .ok (.return_, 1) := by decide +kernel
theorem d_Ro_shift_0 : decode b_Ro_shift 0 = .ok (.aload_n 0, 1) := by decide +kernel
theorem d_Ro_shift_1 : decode b_Ro_shift 1 = .ok (.getfield 15, 3) := by decide +kernel
theorem d_Ro_shift_4 : decode b_Ro_shift 4 = .ok (.ifCond .ne 4, 3) := by decide +kernel
theorem d_Ro_shift_7 : decode b_Ro_shift 7 = .ok (.return_, 1) := by decide +kernel
theorem d_Ro_shift_8 : decode b_Ro_shift 8 = .ok (.iconst 0, 1) := by decide +kernel
theorem d_Ro_shift_9 : decode b_Ro_shift 9 = .ok (.istore_n 2, 1) := by decide +kernel
theorem d_Ro_shift_10 : decode b_Ro_shift 10 = .ok (.iload_n 2, 1) := by decide +kernel
theorem d_Ro_shift_11 : decode b_Ro_shift 11 = .ok (.iload_n 1, 1) := by decide +kernel
theorem d_Ro_shift_12 : decode b_Ro_shift 12 = .ok (.if_icmp .ge 14, 3) := by decide +kernel
theorem d_Ro_shift_15 : decode b_Ro_shift 15 = .ok (.aload_n 0, 1) := by decide +kernel
theorem d_Ro_shift_16 : decode b_Ro_shift 16 = .ok (.iconst 2, 1) := by decide +kernel
theorem d_Ro_shift_17 : decode b_Ro_shift 17 = .ok (.invokevirtual 39, 3) := by decide +kernel
theorem d_Ro_shift_20 : decode b_Ro_shift 20 = .ok (.iinc 2 1, 3) := by decide +kernel
theorem d_Ro_shift_23 : decode b_Ro_shift 23 = .ok (.goto (-13), 3) := by decide +kernel
theorem d_Ro_shift_26 : decode b_Ro_shift 26 = .ok (.iconst 0, 1) := by decide +kernel
theorem d_Ro_shift_27 : decode b_Ro_shift 27 = .ok (.istore_n 2, 1) := by decide +kernel
theorem d_Ro_shift_28 : decode b_Ro_shift 28 = .ok (.iload_n 2, 1) := by decide +kernel
theorem d_Ro_shift_29 : decode b_Ro_shift 29 = .ok (.iload_n 1, 1) := by decide +kernel
theorem d_Ro_shift_30 : decode b_Ro_shift 30 = .ok (.if_icmp .le 24, 3) := by decide +kernel
theorem d_Ro_shift_33 : decode b_Ro_shift 33 = .ok (.aload_n 0, 1) := by decide +kernel
theorem d_Ro_shift_34 : decode b_Ro_shift 34 = .ok (.iconst 5, 1) := by decide +kernel
theorem d_Ro_shift_35 : decode b_Ro_shift 35 = .ok (.invokevirtual 39, 3) := by decide +kernel
theorem d_Ro_shift_38 : decode b_Ro_shift 38 = .ok (.aload_n 0, 1) := by decide +kernel
theorem d_Ro_shift_39 : decode b_Ro_shift 39 = .ok (.dup, 1) := by decide +kernel
theorem d_Ro_shift_40 : decode b_Ro_shift 40 = .ok (.getfield 19, 3) := by decide +kernel
theorem d_Ro_shift_43 : decode b_Ro_shift 43 = .ok (.iconst 1, 1) := by decide +kernel
theorem d_Ro_shift_44 : decode b_Ro_shift 44 = .ok (.isub, 1) := by decide +kernel
theorem d_Ro_shift_45 : decode b_Ro_shift 45 = .ok (.putfield 19, 3) := by decide +kernel
theorem d_Ro_shift_48 : decode b_Ro_shift 48 = .ok (.iinc 2 (-1), 3) := by decide +kernel
theorem d_Ro_shift_51 : decode b_Ro_shift 51 = .ok (.goto (-23), 3) := by decide +kernel
theorem d_Ro_shift_54 : decode b_Ro_shift 54 = .ok (.return_, 1) := by decide +kernel
theorem d_Ro_times_0 : decode b_Ro_times 0 = .ok (.lconst 0, 1) := by decide +kernel
theorem d_Ro_times_1 : decode b_Ro_times 1 = .ok (.lstore_n 2, 1) := by decide +kernel
theorem d_Ro_times_2 : decode b_Ro_times 2 = .ok (.aload_n 0, 1) := by decide +kernel
theorem d_Ro_times_3 : decode b_Ro_times 3 = .ok (.getfield 15, 3) := by decide +kernel
theorem d_Ro_times_6 : decode b_Ro_times 6 = .ok (.iconst 1, 1) := by decide +kernel
theorem d_Ro_times_7 : decode b_Ro_times 7 = .ok (.isub, 1) := by decide +kernel
theorem d_Ro_times_8 : decode b_Ro_times 8 = .ok (.istore 4, 2) := by decide +kernel
theorem d_Ro_times_10 : decode b_Ro_times 10 = .ok (.iload 4, 2) := by decide +kernel
theorem d_Ro_times_12 : decode b_Ro_times 12 = .ok (.ifCond .lt 43, 3) := by decide +kernel
theorem d_Ro_times_15 : decode b_Ro_times 15 = .ok (.lload_n 2, 1) := by decide +kernel
theorem d_Ro_times_16 : decode b_Ro_times 16 = .ok (.iload_n 1, 1) := by decide +kernel
theorem d_Ro_times_17 : decode b_Ro_times 17 = .ok (.i2l, 1) := by decide +kernel
theorem d_Ro_times_18 : decode b_Ro_times 18 = .ok (.aload_n 0, 1) := by decide +kernel
theorem d_Ro_times_19 : decode b_Ro_times 19 = .ok (.getfield 9, 3) := by decide +kernel
theorem d_Ro_times_22 : decode b_Ro_times 22 = .ok (.iload 4, 2) := by decide +kernel
theorem d_Ro_times_24 : decode b_Ro_times 24 = .ok (.baload, 1) := by decide +kernel
theorem d_Ro_times_25 : decode b_Ro_times 25 = .ok (.i2l, 1) := by decide +kernel
theorem d_Ro_times_26 : decode b_Ro_times 26 = .ok (.lmul, 1) := by decide +kernel
theorem d_Ro_times_27 : decode b_Ro_times 27 = .ok (.ladd, 1) := by decide +kernel
theorem d_Ro_times_28 : decode b_Ro_times 28 = .ok (.lstore_n 2, 1) := by decide +kernel
theorem d_Ro_times_29 : decode b_Ro_times 29 = .ok (.aload_n 0, 1) := by decide +kernel
theorem d_Ro_times_30 : decode b_Ro_times 30 = .ok (.getfield 9, 3) := by decide +kernel
theorem d_Ro_times_33 : decode b_Ro_times 33 = .ok (.iload 4, 2) := by decide +kernel
theorem d_Ro_times_35 : decode b_Ro_times 35 = .ok (.lload_n 2, 1) := by decide +kernel
theorem d_Ro_times_36 : decode b_Ro_times 36 = .ok (.ldc2_w 22, 3) := by decide +kernel
theorem d_Ro_times_39 : decode b_Ro_times 39 = .ok (.lrem, 1) := by decide +kernel
theorem d_Ro_times_40 : decode b_Ro_times 40 = .ok (.l2i, 1) := by decide +kernel
theorem d_Ro_times_41 : decode b_Ro_times 41 = .ok (.i2b, 1) := by decide +kernel
theorem d_Ro_times_42 : decode b_Ro_times 42 = .ok (.bastore, 1) := by decide +kernel
theorem d_Ro_times_43 : decode b_Ro_times 43 = .ok (.lload_n 2, 1) := by decide +kernel
theorem d_Ro_times_44 : decode b_Ro_times 44 = .ok (.ldc2_w 22, 3) := by decide +kernel
theorem d_Ro_times_47 : decode b_Ro_times 47 = .ok (.ldiv, 1) := by decide +kernel
theorem d_Ro_times_48 : decode b_Ro_times 48 = .ok (.lstore_n 2, 1) := by decide +kernel
theorem d_Ro_times_49 : decode b_Ro_times 49 = .ok (.iinc 4 (-1), 3) := by decide +kernel
theorem d_Ro_times_52 : decode b_Ro_times 52 = .ok (.goto (-42), 3) := by decide +kernel
theorem d_Ro_times_55 : decode b_Ro_times 55 = .ok (.iconst 0, 1) := by decide +kernel
theorem d_Ro_times_56 : decode b_Ro_times 56 = .ok (.istore 4, 2) := by decide +kernel
theorem d_Ro_times_58 : decode b_Ro_times 58 = .ok (.lload_n 2, 1) := by decide +kernel
theorem d_Ro_times_59 : decode b_Ro_times 59 = .ok (.lstore 5, 2) := by decide +kernel
theorem d_Ro_times_61 : decode b_Ro_times 61 = .ok (.lload 5, 2) := by decide +kernel
theorem d_Ro_times_63 : decode b_Ro_times 63 = .ok (.lconst 0, 1) := by decide +kernel
theorem d_Ro_times_64 : decode b_Ro_times 64 = .ok (.lcmp, 1) := by decide +kernel
theorem d_Ro_times_65 : decode b_Ro_times 65 = .ok (.ifCond .le 17, 3) := by decide +kernel
theorem d_Ro_times_68 : decode b_Ro_times 68 = .ok (.iinc 4 1, 3) := by decide +kernel
theorem d_Ro_times_71 : decode b_Ro_times 71 = .ok (.lload 5, 2) := by decide +kernel
theorem d_Ro_times_73 : decode b_Ro_times 73 = .ok (.ldc2_w 22, 3) := by decide +kernel
theorem d_Ro_times_76 : decode b_Ro_times 76 = .ok (.ldiv, 1) := by decide +kernel
theorem d_Ro_times_77 : decode b_Ro_times 77 = .ok (.lstore 5, 2) := by decide +kernel
theorem d_Ro_times_79 : decode b_Ro_times 79 = .ok (.goto (-18), 3) := by decide +kernel
theorem d_Ro_times_82 : decode b_Ro_times 82 = .ok (.aload_n 0, 1) := by decide +kernel
theorem d_Ro_times_83 : decode b_Ro_times 83 = .ok (.getfield 9, 3) := by decide +kernel
theorem d_Ro_times_86 : decode b_Ro_times 86 = .ok (.iconst 0, 1) := by decide +kernel
theorem d_Ro_times_87 : decode b_Ro_times 87 = .ok (.aload_n 0, 1) := by decide +kernel
theorem d_Ro_times_88 : decode b_Ro_times 88 = .ok (.getfield 9, 3) := by decide +kernel
theorem d_Ro_times_91 : decode b_Ro_times 91 = .ok (.iload 4, 2) := by decide +kernel
theorem d_Ro_times_93 : decode b_Ro_times 93 = .ok (.aload_n 0, 1) := by decide +kernel
theorem d_Ro_times_94 : decode b_Ro_times 94 = .ok (.getfield 15, 3) := by decide +kernel
theorem d_Ro_times_97 : decode b_Ro_times 97 = .ok (.invokestatic 30, 3) := by decide +kernel
theorem d_Ro_times_100 : decode b_Ro_times 100 = .ok (.aload_n 0, 1) := by decide +kernel
theorem d_Ro_times_101 : decode b_Ro_times 101 = .ok (.dup, 1) := by decide +kernel
theorem d_Ro_times_102 : decode b_Ro_times 102 = .ok (.getfield 15, 3) := by decide +kernel
theorem d_Ro_times_105 : decode b_Ro_times 105 = .ok (.iload 4, 2) := by decide +kernel
theorem d_Ro_times_107 : decode b_Ro_times 107 = .ok (.iadd, 1) := by decide +kernel
theorem d_Ro_times_108 : decode b_Ro_times 108 = .ok (.putfield 15, 3) := by decide +kernel
theorem d_Ro_times_111 : decode b_Ro_times 111 = .ok (.aload_n 0, 1) := by decide +kernel
theorem d_Ro_times_112 : decode b_Ro_times 112 = .ok (.dup, 1) := by decide +kernel
theorem d_Ro_times_113 : decode b_Ro_times 113 = .ok (.getfield 19, 3) := by decide +kernel
theorem d_Ro_times_116 : decode b_Ro_times 116 = .ok (.iload 4, 2) := by decide +kernel
theorem d_Ro_times_118 : decode b_Ro_times 118 = .ok (.iadd, 1) := by decide +kernel
theorem d_Ro_times_119 : decode b_Ro_times 119 = .ok (.putfield 19, 3) := by decide +kernel
theorem d_Ro_times_122 : decode b_Ro_times 122 = .ok (.iload 4, 2) := by decide +kernel
theorem d_Ro_times_124 : decode b_Ro_times 124 = .ok (.iconst 1, 1) := by decide +kernel
theorem d_Ro_times_125 : decode b_Ro_times 125 = .ok (.isub, 1) := by decide +kernel
theorem d_Ro_times_126 : decode b_Ro_times 126 = .ok (.istore 5, 2) := by decide +kernel
theorem d_Ro_times_128 : decode b_Ro_times 128 = .ok (.iload 5, 2) := by decide +kernel
theorem d_Ro_times_130 : decode b_Ro_times 130 = .ok (.ifCond .lt 29, 3) := by decide +kernel
theorem d_Ro_times_133 : decode b_Ro_times 133 = .ok (.aload_n 0, 1) := by decide +kernel
theorem d_Ro_times_134 : decode b_Ro_times 134 = .ok (.getfield 9, 3) := by decide +kernel
theorem d_Ro_times_137 : decode b_Ro_times 137 = .ok (.iload 5, 2) := by decide +kernel
theorem d_Ro_times_139 : decode b_Ro_times 139 = .ok (.lload_n 2, 1) := by decide +kernel
theorem d_Ro_times_140 : decode b_Ro_times 140 = .ok (.ldc2_w 22, 3) := by decide +kernel
theorem d_Ro_times_143 : decode b_Ro_times 143 = .ok (.lrem, 1) := by decide +kernel
theorem d_Ro_times_144 : decode b_Ro_times 144 = .ok (.l2i, 1) := by decide +kernel
theorem d_Ro_times_145 : decode b_Ro_times 145 = .ok (.i2b, 1) := by decide +kernel
theorem d_Ro_times_146 : decode b_Ro_times 146 = .ok (.bastore, 1) := by decide +kernel
theorem d_Ro_times_147 : decode b_Ro_times 147 = .ok (.lload_n 2, 1) := by decide +kernel
theorem d_Ro_times_148 : decode b_Ro_times 148 = .ok (.ldc2_w 22, 3) := by decide +kernel
theorem d_Ro_times_151 : decode b_Ro_times 151 = .ok (.ldiv, 1) := by decide +kernel
theorem d_Ro_times_152 : decode b_Ro_times 152 = .ok (.lstore_n 2, 1) := by decide +kernel
theorem d_Ro_times_153 : decode b_Ro_times 153 = .ok (.iinc 5 (-1), 3) := by decide +kernel
theorem d_Ro_times_156 : decode b_Ro_times 156 = .ok (.goto (-28), 3) := by decide +kernel
theorem d_Ro_times_159 : decode b_Ro_times 159 = .ok (.aload_n 0, 1) := by decide +kernel
theorem d_Ro_times_160 : decode b_Ro_times 160 = .ok (.invokevirtual 36, 3) := by decide +kernel
theorem d_Ro_times_163 : decode b_Ro_times 163 = .ok (.return_, 1) := by decide +kernel
theorem d_Ro_copy_0 : decode b_Ro_copy 0 = .ok (.aload_n 1, 1) := by decide +kernel
theorem d_Ro_copy_1 : decode b_Ro_copy 1 = .ok (.getfield 9, 3) := by decide +kernel
theorem d_Ro_copy_4 : decode b_Ro_copy 4 = .ok (.iconst 0, 1) := by decide +kernel
theorem d_Ro_copy_5 : decode b_Ro_copy 5 = .ok (.aload_n 0, 1) := by decide +kernel
theorem d_Ro_copy_6 : decode b_Ro_copy 6 = .ok (.getfield 9, 3) := by decide +kernel
theorem d_Ro_copy_9 : decode b_Ro_copy 9 = .ok (.iconst 0, 1) := by decide +kernel
theorem d_Ro_copy_10 : decode b_Ro_copy 10 = .ok (.aload_n 1, 1) := by decide +kernel
theorem d_Ro_copy_11 : decode b_Ro_copy 11 = .ok (.getfield 15, 3) := by decide +kernel
theorem d_Ro_copy_14 : decode b_Ro_copy 14 = .ok (.invokestatic 30, 3) := by decide +kernel
theorem d_Ro_copy_17 : decode b_Ro_copy 17 = .ok (.aload_n 0, 1) := by decide +kernel
theorem d_Ro_copy_18 : decode b_Ro_copy 18 = .ok (.aload_n 1, 1) := by decide +kernel
theorem d_Ro_copy_19 : decode b_Ro_copy 19 = .ok (.getfield 15, 3) := by decide +kernel
theorem d_Ro_copy_22 : decode b_Ro_copy 22 = .ok (.putfield 15, 3) := by decide +kernel
theorem d_Ro_copy_25 : decode b_Ro_copy 25 = .ok (.aload_n 0, 1) := by decide +kernel
theorem d_Ro_copy_26 : decode b_Ro_copy 26 = .ok (.aload_n 1, 1) := by decide +kernel
theorem d_Ro_copy_27 : decode b_Ro_copy 27 = .ok (.getfield 19, 3) := by decide +kernel
theorem d_Ro_copy_30 : decode b_Ro_copy 30 = .ok (.putfield 19, 3) := by decide +kernel
theorem d_Ro_copy_33 : decode b_Ro_copy 33 = .ok (.return_, 1) := by decide +kernel
theorem d_Ro_raise_0 : decode b_Ro_raise 0 = .ok (.aload_n 0, 1) := by decide +kernel
theorem d_Ro_raise_1 : decode b_Ro_raise 1 = .ok (.getfield 15, 3) := by decide +kernel
theorem d_Ro_raise_4 : decode b_Ro_raise 4 = .ok (.iconst 1, 1) := by decide +kernel
theorem d_Ro_raise_5 : decode b_Ro_raise 5 = .ok (.isub, 1) := by decide +kernel
theorem d_Ro_raise_6 : decode b_Ro_raise 6 = .ok (.istore_n 1, 1) := by decide +kernel
theorem d_Ro_raise_7 : decode b_Ro_raise 7 = .ok (.iload_n 1, 1) := by decide +kernel
theorem d_Ro_raise_8 : decode b_Ro_raise 8 = .ok (.ifCond .lt 20, 3) := by decide +kernel
theorem d_Ro_raise_11 : decode b_Ro_raise 11 = .ok (.aload_n 0, 1) := by decide +kernel
theorem d_Ro_raise_12 : decode b_Ro_raise 12 = .ok (.getfield 9, 3) := by decide +kernel
theorem d_Ro_raise_15 : decode b_Ro_raise 15 = .ok (.iload_n 1, 1) := by decide +kernel
theorem d_Ro_raise_16 : decode b_Ro_raise 16 = .ok (.baload, 1) := by decide +kernel
theorem d_Ro_raise_17 : decode b_Ro_raise 17 = .ok (.bipush 9, 2) := by decide +kernel
theorem d_Ro_raise_19 : decode b_Ro_raise 19 = .ok (.if_icmp .ne 9, 3) := by decide +kernel
theorem d_Ro_raise_22 : decode b_Ro_raise 22 = .ok (.iinc 1 (-1), 3) := by decide +kernel
theorem d_Ro_raise_25 : decode b_Ro_raise 25 = .ok (.goto (-18), 3) := by decide +kernel
theorem d_Ro_raise_28 : decode b_Ro_raise 28 = .ok (.iload_n 1, 1) := by decide +kernel
theorem d_Ro_raise_29 : decode b_Ro_raise 29 = .ok (.ifCond .ge 26, 3) := by decide +kernel
theorem d_Ro_raise_32 : decode b_Ro_raise 32 = .ok (.aload_n 0, 1) := by decide +kernel
theorem d_Ro_raise_33 : decode b_Ro_raise 33 = .ok (.getfield 9, 3) := by decide +kernel
theorem d_Ro_raise_36 : decode b_Ro_raise 36 = .ok (.iconst 0, 1) := by decide +kernel
theorem d_Ro_raise_37 : decode b_Ro_raise 37 = .ok (.iconst 1, 1) := by decide +kernel
theorem d_Ro_raise_38 : decode b_Ro_raise 38 = .ok (.bastore, 1) := by decide +kernel
theorem d_Ro_raise_39 : decode b_Ro_raise 39 = .ok (.aload_n 0, 1) := by decide +kernel
theorem d_Ro_raise_40 : decode b_Ro_raise 40 = .ok (.iconst 1, 1) := by decide +kernel
theorem d_Ro_raise_41 : decode b_Ro_raise 41 = .ok (.putfield 15, 3) := by decide +kernel
theorem d_Ro_raise_44 : decode b_Ro_raise 44 = .ok (.aload_n 0, 1) := by decide +kernel
theorem d_Ro_raise_45 : decode b_Ro_raise 45 = .ok (.dup, 1) := by decide +kernel
theorem d_Ro_raise_46 : decode b_Ro_raise 46 = .ok (.getfield 19, 3) := by decide +kernel
theorem d_Ro_raise_49 : decode b_Ro_raise 49 = .ok (.iconst 1, 1) := by decide +kernel
theorem d_Ro_raise_50 : decode b_Ro_raise 50 = .ok (.iadd, 1) := by decide +kernel
theorem d_Ro_raise_51 : decode b_Ro_raise 51 = .ok (.putfield 19, 3) := by decide +kernel
theorem d_Ro_raise_54 : decode b_Ro_raise 54 = .ok (.return_, 1) := by decide +kernel
theorem d_Ro_raise_55 : decode b_Ro_raise 55 = .ok (.aload_n 0, 1) := by decide +kernel
theorem d_Ro_raise_56 : decode b_Ro_raise 56 = .ok (.getfield 9, 3) := by decide +kernel
theorem d_Ro_raise_59 : decode b_Ro_raise 59 = .ok (.iload_n 1, 1) := by decide +kernel
theorem d_Ro_raise_60 : decode b_Ro_raise 60 = .ok (.dup2, 1) := by decide +kernel
theorem d_Ro_raise_61 : decode b_Ro_raise 61 = .ok (.baload, 1) := by decide +kernel
theorem d_Ro_raise_62 : decode b_Ro_raise 62 = .ok (.iconst 1, 1) := by decide +kernel
theorem d_Ro_raise_63 : decode b_Ro_raise 63 = .ok (.iadd, 1) := by decide +kernel
theorem d_Ro_raise_64 : decode b_Ro_raise 64 = .ok (.i2b, 1) := by decide +kernel
theorem d_Ro_raise_65 : decode b_Ro_raise 65 = .ok (.bastore, 1) := by decide +kernel
theorem d_Ro_raise_66 : decode b_Ro_raise 66 = .ok (.aload_n 0, 1) := by decide +kernel
theorem d_Ro_raise_67 : decode b_Ro_raise 67 = .ok (.iload_n 1, 1) := by decide +kernel
theorem d_Ro_raise_68 : decode b_Ro_raise 68 = .ok (.iconst 1, 1) := by decide +kernel
theorem d_Ro_raise_69 : decode b_Ro_raise 69 = .ok (.iadd, 1) := by decide +kernel
theorem d_Ro_raise_70 : decode b_Ro_raise 70 = .ok (.putfield 15, 3) := by decide +kernel
theorem d_Ro_raise_73 : decode b_Ro_raise 73 = .ok (.return_, 1) := by decide +kernel
theorem d_Ro_compare_0 : decode b_Ro_compare 0 = .ok (.aload_n 0, 1) := by decide +kernel
theorem d_Ro_compare_1 : decode b_Ro_compare 1 = .ok (.getfield 19, 3) := by decide +kernel
theorem d_Ro_compare_4 : decode b_Ro_compare 4 = .ok (.aload_n 1, 1) := by decide +kernel
theorem d_Ro_compare_5 : decode b_Ro_compare 5 = .ok (.getfield 19, 3) := by decide +kernel
theorem d_Ro_compare_8 : decode b_Ro_compare 8 = .ok (.invokestatic 43, 3) := by decide +kernel
theorem d_Ro_compare_11 : decode b_Ro_compare 11 = .ok (.istore_n 2, 1) := by decide +kernel
theorem d_Ro_compare_12 : decode b_Ro_compare 12 = .ok (.aload_n 0, 1) := by decide +kernel
theorem d_Ro_compare_13 : decode b_Ro_compare 13 = .ok (.getfield 19, 3) := by decide +kernel
theorem d_Ro_compare_16 : decode b_Ro_compare 16 = .ok (.aload_n 0, 1) := by decide +kernel
theorem d_Ro_compare_17 : decode b_Ro_compare 17 = .ok (.getfield 15, 3) := by decide +kernel
theorem d_Ro_compare_20 : decode b_Ro_compare 20 = .ok (.isub, 1) := by decide +kernel
theorem d_Ro_compare_21 : decode b_Ro_compare 21 = .ok (.aload_n 1, 1) := by decide +kernel
theorem d_Ro_compare_22 : decode b_Ro_compare 22 = .ok (.getfield 19, 3) := by decide +kernel
theorem d_Ro_compare_25 : decode b_Ro_compare 25 = .ok (.aload_n 1, 1) := by decide +kernel
theorem d_Ro_compare_26 : decode b_Ro_compare 26 = .ok (.getfield 15, 3) := by decide +kernel
theorem d_Ro_compare_29 : decode b_Ro_compare 29 = .ok (.isub, 1) := by decide +kernel
theorem d_Ro_compare_30 : decode b_Ro_compare 30 = .ok (.invokestatic 49, 3) := by decide +kernel
theorem d_Ro_compare_33 : decode b_Ro_compare 33 = .ok (.istore_n 3, 1) := by decide +kernel
theorem d_Ro_compare_34 : decode b_Ro_compare 34 = .ok (.iload_n 2, 1) := by decide +kernel
theorem d_Ro_compare_35 : decode b_Ro_compare 35 = .ok (.iload_n 3, 1) := by decide +kernel
theorem d_Ro_compare_36 : decode b_Ro_compare 36 = .ok (.if_icmp .le 34, 3) := by decide +kernel
theorem d_Ro_compare_39 : decode b_Ro_compare 39 = .ok (.aload_n 0, 1) := by decide +kernel
theorem d_Ro_compare_40 : decode b_Ro_compare 40 = .ok (.iload_n 2, 1) := by decide +kernel
theorem d_Ro_compare_41 : decode b_Ro_compare 41 = .ok (.invokevirtual 52, 3) := by decide +kernel
theorem d_Ro_compare_44 : decode b_Ro_compare 44 = .ok (.aload_n 1, 1) := by decide +kernel
theorem d_Ro_compare_45 : decode b_Ro_compare 45 = .ok (.iload_n 2, 1) := by decide +kernel
theorem d_Ro_compare_46 : decode b_Ro_compare 46 = .ok (.invokevirtual 52, 3) := by decide +kernel
theorem d_Ro_compare_49 : decode b_Ro_compare 49 = .ok (.if_icmp .eq 15, 3) := by decide +kernel
theorem d_Ro_compare_52 : decode b_Ro_compare 52 = .ok (.aload_n 0, 1) := by decide +kernel
theorem d_Ro_compare_53 : decode b_Ro_compare 53 = .ok (.iload_n 2, 1) := by decide +kernel
theorem d_Ro_compare_54 : decode b_Ro_compare 54 = .ok (.invokevirtual 52, 3) := by decide +kernel
theorem d_Ro_compare_57 : decode b_Ro_compare 57 = .ok (.aload_n 1, 1) := by decide +kernel
theorem d_Ro_compare_58 : decode b_Ro_compare 58 = .ok (.iload_n 2, 1) := by decide +kernel
theorem d_Ro_compare_59 : decode b_Ro_compare 59 = .ok (.invokevirtual 52, 3) := by decide +kernel
theorem d_Ro_compare_62 : decode b_Ro_compare 62 = .ok (.isub, 1) := by decide +kernel
theorem d_Ro_compare_63 : decode b_Ro_compare 63 = .ok (.ireturn, 1) := by decide +kernel
theorem d_Ro_compare_64 : decode b_Ro_compare 64 = .ok (.iinc 2 (-1), 3) := by decide +kernel
theorem d_Ro_compare_67 : decode b_Ro_compare 67 = .ok (.goto (-33), 3) := by decide +kernel
theorem d_Ro_compare_70 : decode b_Ro_compare 70 = .ok (.iconst 0, 1) := by decide +kernel
theorem d_Ro_compare_71 : decode b_Ro_compare 71 = .ok (.ireturn, 1) := by decide +kernel
theorem d_Ro_at_0 : decode b_Ro_at 0 = .ok (.aload_n 0, 1) := by decide +kernel
theorem d_Ro_at_1 : decode b_Ro_at 1 = .ok (.getfield 19, 3) := by decide +kernel
theorem d_Ro_at_4 : decode b_Ro_at 4 = .ok (.iload_n 1, 1) := by decide +kernel
theorem d_Ro_at_5 : decode b_Ro_at 5 = .ok (.isub, 1) := by decide +kernel
theorem d_Ro_at_6 : decode b_Ro_at 6 = .ok (.istore_n 2, 1) := by decide +kernel
theorem d_Ro_at_7 : decode b_Ro_at 7 = .ok (.iload_n 2, 1) := by decide +kernel
theorem d_Ro_at_8 : decode b_Ro_at 8 = .ok (.ifCond .lt 11, 3) := by decide +kernel
theorem d_Ro_at_11 : decode b_Ro_at 11 = .ok (.iload_n 2, 1) := by decide +kernel
theorem d_Ro_at_12 : decode b_Ro_at 12 = .ok (.aload_n 0, 1) := by decide +kernel
theorem d_Ro_at_13 : decode b_Ro_at 13 = .ok (.getfield 15, 3) := by decide +kernel
theorem d_Ro_at_16 : decode b_Ro_at 16 = .ok (.if_icmp .lt 7, 3) := by decide +kernel
theorem d_Ro_at_19 : decode b_Ro_at 19 = .ok (.iconst 0, 1) := by decide +kernel
theorem d_Ro_at_20 : decode b_Ro_at 20 = .ok (.goto 9, 3) := by decide +kernel
theorem d_Ro_at_23 : decode b_Ro_at 23 = .ok (.aload_n 0, 1) := by decide +kernel
theorem d_Ro_at_24 : decode b_Ro_at 24 = .ok (.getfield 9, 3) := by decide +kernel
theorem d_Ro_at_27 : decode b_Ro_at 27 = .ok (.iload_n 2, 1) := by decide +kernel
theorem d_Ro_at_28 : decode b_Ro_at 28 = .ok (.baload, 1) := by decide +kernel
theorem d_Ro_at_29 : decode b_Ro_at 29 = .ok (.ireturn, 1) := by decide +kernel
