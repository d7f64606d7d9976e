theorem d_La_real_0 : decode b_La_real 0 = .ok (.aload 4, 2) := by decide +kernel
theorem d_La_real_2 : decode b_La_real 2 = .ok (.iconst 0, 1) := by decide +kernel
theorem d_La_real_3 : decode b_La_real 3 = .ok (.aload_n 0, 1) := by decide +kernel
theorem d_La_real_4 : decode b_La_real 4 = .ok (.lload_n 1, 1) := by decide +kernel
theorem d_La_real_5 : decode b_La_real 5 = .ok (.iload_n 3, 1) := by decide +kernel
theorem d_La_real_6 : decode b_La_real 6 = .ok (.invokevirtual 7, 3) := by decide +kernel
theorem d_La_real_9 : decode b_La_real 9 = .ok (.i2l, 1) := by decide +kernel
theorem d_La_real_10 : decode b_La_real 10 = .ok (.lastore, 1) := by decide +kernel
theorem d_La_real_11 : decode b_La_real 11 = .ok (.goto 7, 3) := by decide +kernel
theorem d_La_real_14 : decode b_La_real 14 = .ok (.astore 5, 2) := by decide +kernel
theorem d_La_real_16 : decode b_La_real 16 = .ok (.iconst 1, 1) := by decide +kernel
theorem d_La_real_17 : decode b_La_real 17 = .ok (.ireturn, 1) := by decide +kernel
theorem d_La_real_18 : decode b_La_real 18 = .ok (.iconst 0, 1) := by decide +kernel
theorem d_La_real_19 : decode b_La_real 19 = .ok (.ireturn, 1) := by decide +kernel
theorem d_La_shortest_0 : decode b_La_shortest 0 = .ok (.aload 4, 2) := by decide +kernel
theorem d_La_shortest_2 : decode b_La_shortest 2 = .ok (.iconst 0, 1) := by decide +kernel
theorem d_La_shortest_3 : decode b_La_shortest 3 = .ok (.aload_n 0, 1) := by decide +kernel
theorem d_La_shortest_4 : decode b_La_shortest 4 = .ok (.lload_n 1, 1) := by decide +kernel
theorem d_La_shortest_5 : decode b_La_shortest 5 = .ok (.iload_n 3, 1) := by decide +kernel
theorem d_La_shortest_6 : decode b_La_shortest 6 = .ok (.invokevirtual 15, 3) := by decide +kernel
theorem d_La_shortest_9 : decode b_La_shortest 9 = .ok (.i2l, 1) := by decide +kernel
theorem d_La_shortest_10 : decode b_La_shortest 10 = .ok (.lastore, 1) := by decide +kernel
theorem d_La_shortest_11 : decode b_La_shortest 11 = .ok (.goto 7, 3) := by decide +kernel
theorem d_La_shortest_14 : decode b_La_shortest 14 = .ok (.astore 5, 2) := by decide +kernel
theorem d_La_shortest_16 : decode b_La_shortest 16 = .ok (.iconst 1, 1) := by decide +kernel
theorem d_La_shortest_17 : decode b_La_shortest 17 = .ok (.ireturn, 1) := by decide +kernel
theorem d_La_shortest_18 : decode b_La_shortest 18 = .ok (.iconst 0, 1) := by decide +kernel
theorem d_La_shortest_19 : decode b_La_shortest 19 = .ok (.ireturn, 1) := by decide +kernel
theorem d_La_put_0 : decode b_La_put 0 = .ok (.aload_n 3, 1) := by decide +kernel
theorem d_La_put_1 : decode b_La_put 1 = .ok (.iconst 0, 1) := by decide +kernel
theorem d_La_put_2 : decode b_La_put 2 = .ok (.aload_n 0, 1) := by decide +kernel
theorem d_La_put_3 : decode b_La_put 3 = .ok (.iload_n 1, 1) := by decide +kernel
theorem d_La_put_4 : decode b_La_put 4 = .ok (.iload_n 2, 1) := by decide +kernel
theorem d_La_put_5 : decode b_La_put 5 = .ok (.invokevirtual 18, 3) := by decide +kernel
theorem d_La_put_8 : decode b_La_put 8 = .ok (.i2l, 1) := by decide +kernel
theorem d_La_put_9 : decode b_La_put 9 = .ok (.lastore, 1) := by decide +kernel
theorem d_La_put_10 : decode b_La_put 10 = .ok (.goto 7, 3) := by decide +kernel
theorem d_La_put_13 : decode b_La_put 13 = .ok (.astore 4, 2) := by decide +kernel
theorem d_La_put_15 : decode b_La_put 15 = .ok (.iconst 1, 1) := by decide +kernel
theorem d_La_put_16 : decode b_La_put 16 = .ok (.ireturn, 1) := by decide +kernel
theorem d_La_put_17 : decode b_La_put 17 = .ok (.iconst 0, 1) := by decide +kernel
theorem d_La_put_18 : decode b_La_put 18 = .ok (.ireturn, 1) := by decide +kernel
theorem d_La_shift_0 : decode b_La_shift 0 = .ok (.aload_n 2, 1) := by decide +kernel
theorem d_La_shift_1 : decode b_La_shift 1 = .ok (.iconst 0, 1) := by decide +kernel
theorem d_La_shift_2 : decode b_La_shift 2 = .ok (.aload_n 0, 1) := by decide +kernel
theorem d_La_shift_3 : decode b_La_shift 3 = .ok (.iload_n 1, 1) := by decide +kernel
theorem d_La_shift_4 : decode b_La_shift 4 = .ok (.invokevirtual 24, 3) := by decide +kernel
theorem d_La_shift_7 : decode b_La_shift 7 = .ok (.i2l, 1) := by decide +kernel
theorem d_La_shift_8 : decode b_La_shift 8 = .ok (.lastore, 1) := by decide +kernel
theorem d_La_shift_9 : decode b_La_shift 9 = .ok (.goto 6, 3) := by decide +kernel
theorem d_La_shift_12 : decode b_La_shift 12 = .ok (.astore_n 3, 1) := by decide +kernel
theorem d_La_shift_13 : decode b_La_shift 13 = .ok (.iconst 1, 1) := by decide +kernel
theorem d_La_shift_14 : decode b_La_shift 14 = .ok (.ireturn, 1) := by decide +kernel
theorem d_La_shift_15 : decode b_La_shift 15 = .ok (.iconst 0, 1) := by decide +kernel
theorem d_La_shift_16 : decode b_La_shift 16 = .ok (.ireturn, 1) := by decide +kernel
theorem d_La_move_0 : decode b_La_move 0 = .ok (.aload_n 2, 1) := by decide +kernel
theorem d_La_move_1 : decode b_La_move 1 = .ok (.iconst 0, 1) := by decide +kernel
theorem d_La_move_2 : decode b_La_move 2 = .ok (.aload_n 0, 1) := by decide +kernel
theorem d_La_move_3 : decode b_La_move 3 = .ok (.iload_n 1, 1) := by decide +kernel
theorem d_La_move_4 : decode b_La_move 4 = .ok (.invokevirtual 28, 3) := by decide +kernel
theorem d_La_move_7 : decode b_La_move 7 = .ok (.i2l, 1) := by decide +kernel
theorem d_La_move_8 : decode b_La_move 8 = .ok (.lastore, 1) := by decide +kernel
theorem d_La_move_9 : decode b_La_move 9 = .ok (.goto 6, 3) := by decide +kernel
theorem d_La_move_12 : decode b_La_move 12 = .ok (.astore_n 3, 1) := by decide +kernel
theorem d_La_move_13 : decode b_La_move 13 = .ok (.iconst 1, 1) := by decide +kernel
theorem d_La_move_14 : decode b_La_move 14 = .ok (.ireturn, 1) := by decide +kernel
theorem d_La_move_15 : decode b_La_move 15 = .ok (.iconst 0, 1) := by decide +kernel
theorem d_La_move_16 : decode b_La_move 16 = .ok (.ireturn, 1) := by decide +kernel
theorem d_La_round_0 : decode b_La_round 0 = .ok (.aload_n 2, 1) := by decide +kernel
theorem d_La_round_1 : decode b_La_round 1 = .ok (.iconst 0, 1) := by decide +kernel
theorem d_La_round_2 : decode b_La_round 2 = .ok (.aload_n 0, 1) := by decide +kernel
theorem d_La_round_3 : decode b_La_round 3 = .ok (.iload_n 1, 1) := by decide +kernel
theorem d_La_round_4 : decode b_La_round 4 = .ok (.invokevirtual 31, 3) := by decide +kernel
theorem d_La_round_7 : decode b_La_round 7 = .ok (.i2l, 1) := by decide +kernel
theorem d_La_round_8 : decode b_La_round 8 = .ok (.lastore, 1) := by decide +kernel
theorem d_La_round_9 : decode b_La_round 9 = .ok (.goto 6, 3) := by decide +kernel
theorem d_La_round_12 : decode b_La_round 12 = .ok (.astore_n 3, 1) := by decide +kernel
theorem d_La_round_13 : decode b_La_round 13 = .ok (.iconst 1, 1) := by decide +kernel
theorem d_La_round_14 : decode b_La_round 14 = .ok (.ireturn, 1) := by decide +kernel
theorem d_La_round_15 : decode b_La_round 15 = .ok (.iconst 0, 1) := by decide +kernel
theorem d_La_round_16 : decode b_La_round 16 = .ok (.ireturn, 1) := by decide +kernel
theorem d_La_cut_0 : decode b_La_cut 0 = .ok (.aload_n 2, 1) := by decide +kernel
theorem d_La_cut_1 : decode b_La_cut 1 = .ok (.iconst 0, 1) := by decide +kernel
theorem d_La_cut_2 : decode b_La_cut 2 = .ok (.aload_n 0, 1) := by decide +kernel
theorem d_La_cut_3 : decode b_La_cut 3 = .ok (.iload_n 1, 1) := by decide +kernel
theorem d_La_cut_4 : decode b_La_cut 4 = .ok (.invokevirtual 34, 3) := by decide +kernel
theorem d_La_cut_7 : decode b_La_cut 7 = .ok (.i2l, 1) := by decide +kernel
theorem d_La_cut_8 : decode b_La_cut 8 = .ok (.lastore, 1) := by decide +kernel
theorem d_La_cut_9 : decode b_La_cut 9 = .ok (.goto 6, 3) := by decide +kernel
theorem d_La_cut_12 : decode b_La_cut 12 = .ok (.astore_n 3, 1) := by decide +kernel
theorem d_La_cut_13 : decode b_La_cut 13 = .ok (.iconst 1, 1) := by decide +kernel
theorem d_La_cut_14 : decode b_La_cut 14 = .ok (.ireturn, 1) := by decide +kernel
theorem d_La_cut_15 : decode b_La_cut 15 = .ok (.iconst 0, 1) := by decide +kernel
theorem d_La_cut_16 : decode b_La_cut 16 = .ok (.ireturn, 1) := by decide +kernel
theorem d_La_told_0 : decode b_La_told 0 = .ok (.aload_n 2, 1) := by decide +kernel
theorem d_La_told_1 : decode b_La_told 1 = .ok (.iconst 0, 1) := by decide +kernel
theorem d_La_told_2 : decode b_La_told 2 = .ok (.aload_n 0, 1) := by decide +kernel
theorem d_La_told_3 : decode b_La_told 3 = .ok (.iload_n 1, 1) := by decide +kernel
theorem d_La_told_4 : decode b_La_told 4 = .ok (.invokevirtual 37, 3) := by decide +kernel
theorem d_La_told_7 : decode b_La_told 7 = .ok (.i2l, 1) := by decide +kernel
theorem d_La_told_8 : decode b_La_told 8 = .ok (.lastore, 1) := by decide +kernel
theorem d_La_told_9 : decode b_La_told 9 = .ok (.goto 6, 3) := by decide +kernel
theorem d_La_told_12 : decode b_La_told 12 = .ok (.astore_n 3, 1) := by decide +kernel
theorem d_La_told_13 : decode b_La_told 13 = .ok (.iconst 1, 1) := by decide +kernel
theorem d_La_told_14 : decode b_La_told 14 = .ok (.ireturn, 1) := by decide +kernel
theorem d_La_told_15 : decode b_La_told 15 = .ok (.iconst 0, 1) := by decide +kernel
theorem d_La_told_16 : decode b_La_told 16 = .ok (.ireturn, 1) := by decide +kernel
