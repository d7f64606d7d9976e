theorem d_Mo_init_0 : decode b_Mo_init 0 = .ok (.aload_n 0, 1) := by decide +kernel
theorem d_Mo_init_1 : decode b_Mo_init 1 = .ok (.invokespecial 1, 3) := by decide +kernel
theorem d_Mo_init_4 : decode b_Mo_init 4 = .ok (.aload_n 0, 1) := by decide +kernel
theorem d_Mo_init_5 : decode b_Mo_init 5 = .ok (.new 7, 3) := by decide +kernel
theorem d_Mo_init_8 : decode b_Mo_init 8 = .ok (.dup, 1) := by decide +kernel
theorem d_Mo_init_9 : decode b_Mo_init 9 = .ok (.invokespecial 9, 3) := by decide +kernel
theorem d_Mo_init_12 : decode b_Mo_init 12 = .ok (.putfield 10, 3) := by decide +kernel
theorem d_Mo_init_15 : decode b_Mo_init 15 = .ok (.aload_n 0, 1) := by decide +kernel
theorem d_Mo_init_16 : decode b_Mo_init 16 = .ok (.new 7, 3) := by decide +kernel
theorem d_Mo_init_19 : decode b_Mo_init 19 = .ok (.dup, 1) := by decide +kernel
theorem d_Mo_init_20 : decode b_Mo_init 20 = .ok (.invokespecial 9, 3) := by decide +kernel
theorem d_Mo_init_23 : decode b_Mo_init 23 = .ok (.putfield 16, 3) := by decide +kernel
theorem d_Mo_init_26 : decode b_Mo_init 26 = .ok (.aload_n 0, 1) := by decide +kernel
theorem d_Mo_init_27 : decode b_Mo_init 27 = .ok (.new 7, 3) := by decide +kernel
theorem d_Mo_init_30 : decode b_Mo_init 30 = .ok (.dup, 1) := by decide +kernel
theorem d_Mo_init_31 : decode b_Mo_init 31 = .ok (.invokespecial 9, 3) := by decide +kernel
theorem d_Mo_init_34 : decode b_Mo_init 34 = .ok (.putfield 19, 3) := by decide +kernel
theorem d_Mo_init_37 : decode b_Mo_init 37 = .ok (.aload_n 0, 1) := by decide +kernel
theorem d_Mo_init_38 : decode b_Mo_init 38 = .ok (.new 7, 3) := by decide +kernel
theorem d_Mo_init_41 : decode b_Mo_init 41 = .ok (.dup, 1) := by decide +kernel
theorem d_Mo_init_42 : decode b_Mo_init 42 = .ok (.invokespecial 9, 3) := by decide +kernel
theorem d_Mo_init_45 : decode b_Mo_init 45 = .ok (.putfield 22, 3) := by decide +kernel
theorem d_Mo_init_48 : decode b_Mo_init 48 = .ok (.aload_n 0, 1) := by decide +kernel
theorem d_Mo_init_49 : decode b_Mo_init 49 = .ok (.new 25, 3) := by decide +kernel
theorem d_Mo_init_52 : decode b_Mo_init 52 = .ok (.dup, 1) := by decide +kernel
theorem d_Mo_init_53 : decode b_Mo_init 53 = .ok (.invokespecial 27, 3) := by decide +kernel
theorem d_Mo_init_56 : decode b_Mo_init 56 = .ok (.putfield 28, 3) := by decide +kernel
theorem d_Mo_init_59 : decode b_Mo_init 59 = .ok (.return_, 1) := by decide +kernel
theorem d_Mo_thrown_0 : decode b_Mo_thrown 0 = .ok (.aload_n 0, 1) := by decide +kernel
theorem d_Mo_thrown_1 : decode b_Mo_thrown 1 = .ok (.getfield 32, 3) := by decide +kernel
theorem d_Mo_thrown_4 : decode b_Mo_thrown 4 = .ok (.ireturn, 1) := by decide +kernel
theorem d_Mo_whole_0 : decode b_Mo_whole 0 = .ok (.aload_n 0, 1) := by decide +kernel
theorem d_Mo_whole_1 : decode b_Mo_whole 1 = .ok (.iconst 0, 1) := by decide +kernel
theorem d_Mo_whole_2 : decode b_Mo_whole 2 = .ok (.putfield 32, 3) := by decide +kernel
theorem d_Mo_whole_5 : decode b_Mo_whole 5 = .ok (.aload_n 0, 1) := by decide +kernel
theorem d_Mo_whole_6 : decode b_Mo_whole 6 = .ok (.getfield 10, 3) := by decide +kernel
theorem d_Mo_whole_9 : decode b_Mo_whole 9 = .ok (.lload_n 1, 1) := by decide +kernel
theorem d_Mo_whole_10 : decode b_Mo_whole 10 = .ok (.invokevirtual 46, 3) := by decide +kernel
theorem d_Mo_whole_13 : decode b_Mo_whole 13 = .ok (.aload_n 0, 1) := by decide +kernel
theorem d_Mo_whole_14 : decode b_Mo_whole 14 = .ok (.iconst 0, 1) := by decide +kernel
theorem d_Mo_whole_15 : decode b_Mo_whole 15 = .ok (.putfield 39, 3) := by decide +kernel
theorem d_Mo_whole_18 : decode b_Mo_whole 18 = .ok (.aload_n 0, 1) := by decide +kernel
theorem d_Mo_whole_19 : decode b_Mo_whole 19 = .ok (.getfield 10, 3) := by decide +kernel
theorem d_Mo_whole_22 : decode b_Mo_whole 22 = .ok (.getfield 36, 3) := by decide +kernel
theorem d_Mo_whole_25 : decode b_Mo_whole 25 = .ok (.ireturn, 1) := by decide +kernel
theorem d_Mo_real_0 : decode b_Mo_real 0 = .ok (.aload_n 0, 1) := by decide +kernel
theorem d_Mo_real_1 : decode b_Mo_real 1 = .ok (.lload_n 1, 1) := by decide +kernel
theorem d_Mo_real_2 : decode b_Mo_real 2 = .ok (.iload_n 3, 1) := by decide +kernel
theorem d_Mo_real_3 : decode b_Mo_real 3 = .ok (.invokevirtual 66, 3) := by decide +kernel
theorem d_Mo_real_6 : decode b_Mo_real 6 = .ok (.ifCond .ne 5, 3) := by decide +kernel
theorem d_Mo_real_9 : decode b_Mo_real 9 = .ok (.iconst 0, 1) := by decide +kernel
theorem d_Mo_real_10 : decode b_Mo_real 10 = .ok (.ireturn, 1) := by decide +kernel
theorem d_Mo_real_11 : decode b_Mo_real 11 = .ok (.aload_n 0, 1) := by decide +kernel
theorem d_Mo_real_12 : decode b_Mo_real 12 = .ok (.getfield 10, 3) := by decide +kernel
theorem d_Mo_real_15 : decode b_Mo_real 15 = .ok (.aload_n 0, 1) := by decide +kernel
theorem d_Mo_real_16 : decode b_Mo_real 16 = .ok (.getfield 50, 3) := by decide +kernel
theorem d_Mo_real_19 : decode b_Mo_real 19 = .ok (.invokevirtual 46, 3) := by decide +kernel
theorem d_Mo_real_22 : decode b_Mo_real 22 = .ok (.aload_n 0, 1) := by decide +kernel
theorem d_Mo_real_23 : decode b_Mo_real 23 = .ok (.getfield 10, 3) := by decide +kernel
theorem d_Mo_real_26 : decode b_Mo_real 26 = .ok (.aload_n 0, 1) := by decide +kernel
theorem d_Mo_real_27 : decode b_Mo_real 27 = .ok (.getfield 60, 3) := by decide +kernel
theorem d_Mo_real_30 : decode b_Mo_real 30 = .ok (.invokevirtual 70, 3) := by decide +kernel
theorem d_Mo_real_33 : decode b_Mo_real 33 = .ok (.aload_n 0, 1) := by decide +kernel
theorem d_Mo_real_34 : decode b_Mo_real 34 = .ok (.getfield 10, 3) := by decide +kernel
theorem d_Mo_real_37 : decode b_Mo_real 37 = .ok (.getfield 36, 3) := by decide +kernel
theorem d_Mo_real_40 : decode b_Mo_real 40 = .ok (.ireturn, 1) := by decide +kernel
theorem d_Mo_isNumber_0 : decode b_Mo_isNumber 0 = .ok (.iload_n 3, 1) := by decide +kernel
theorem d_Mo_isNumber_1 : decode b_Mo_isNumber 1 = .ok (.ifCond .eq 8, 3) := by decide +kernel
theorem d_Mo_isNumber_4 : decode b_Mo_isNumber 4 = .ok (.bipush 23, 2) := by decide +kernel
theorem d_Mo_isNumber_6 : decode b_Mo_isNumber 6 = .ok (.goto 5, 3) := by decide +kernel
theorem d_Mo_isNumber_9 : decode b_Mo_isNumber 9 = .ok (.bipush 52, 2) := by decide +kernel
theorem d_Mo_isNumber_11 : decode b_Mo_isNumber 11 = .ok (.istore 4, 2) := by decide +kernel
theorem d_Mo_isNumber_13 : decode b_Mo_isNumber 13 = .ok (.lload_n 1, 1) := by decide +kernel
theorem d_Mo_isNumber_14 : decode b_Mo_isNumber 14 = .ok (.iload 4, 2) := by decide +kernel
theorem d_Mo_isNumber_16 : decode b_Mo_isNumber 16 = .ok (.lshr, 1) := by decide +kernel
theorem d_Mo_isNumber_17 : decode b_Mo_isNumber 17 = .ok (.l2i, 1) := by decide +kernel
theorem d_Mo_isNumber_18 : decode b_Mo_isNumber 18 = .ok (.iload_n 3, 1) := by decide +kernel
theorem d_Mo_isNumber_19 : decode b_Mo_isNumber 19 = .ok (.ifCond .eq 9, 3) := by decide +kernel
theorem d_Mo_isNumber_22 : decode b_Mo_isNumber 22 = .ok (.sipush 255, 3) := by decide +kernel
theorem d_Mo_isNumber_25 : decode b_Mo_isNumber 25 = .ok (.goto 6, 3) := by decide +kernel
theorem d_Mo_isNumber_28 : decode b_Mo_isNumber 28 = .ok (.sipush 2047, 3) := by decide +kernel
theorem d_Mo_isNumber_31 : decode b_Mo_isNumber 31 = .ok (.iand, 1) := by decide +kernel
theorem d_Mo_isNumber_32 : decode b_Mo_isNumber 32 = .ok (.istore 5, 2) := by decide +kernel
theorem d_Mo_isNumber_34 : decode b_Mo_isNumber 34 = .ok (.lload_n 1, 1) := by decide +kernel
theorem d_Mo_isNumber_35 : decode b_Mo_isNumber 35 = .ok (.lconst 1, 1) := by decide +kernel
theorem d_Mo_isNumber_36 : decode b_Mo_isNumber 36 = .ok (.iload 4, 2) := by decide +kernel
theorem d_Mo_isNumber_38 : decode b_Mo_isNumber 38 = .ok (.lshl, 1) := by decide +kernel
theorem d_Mo_isNumber_39 : decode b_Mo_isNumber 39 = .ok (.lconst 1, 1) := by decide +kernel
theorem d_Mo_isNumber_40 : decode b_Mo_isNumber 40 = .ok (.lsub, 1) := by decide +kernel
theorem d_Mo_isNumber_41 : decode b_Mo_isNumber 41 = .ok (.land, 1) := by decide +kernel
theorem d_Mo_isNumber_42 : decode b_Mo_isNumber 42 = .ok (.lstore 6, 2) := by decide +kernel
theorem d_Mo_isNumber_44 : decode b_Mo_isNumber 44 = .ok (.aload_n 0, 1) := by decide +kernel
theorem d_Mo_isNumber_45 : decode b_Mo_isNumber 45 = .ok (.iload 5, 2) := by decide +kernel
theorem d_Mo_isNumber_47 : decode b_Mo_isNumber 47 = .ok (.iload_n 3, 1) := by decide +kernel
theorem d_Mo_isNumber_48 : decode b_Mo_isNumber 48 = .ok (.ifCond .eq 9, 3) := by decide +kernel
theorem d_Mo_isNumber_51 : decode b_Mo_isNumber 51 = .ok (.sipush 255, 3) := by decide +kernel
theorem d_Mo_isNumber_54 : decode b_Mo_isNumber 54 = .ok (.goto 6, 3) := by decide +kernel
theorem d_Mo_isNumber_57 : decode b_Mo_isNumber 57 = .ok (.sipush 2047, 3) := by decide +kernel
theorem d_Mo_isNumber_60 : decode b_Mo_isNumber 60 = .ok (.if_icmp .ne 7, 3) := by decide +kernel
theorem d_Mo_isNumber_63 : decode b_Mo_isNumber 63 = .ok (.iconst 1, 1) := by decide +kernel
theorem d_Mo_isNumber_64 : decode b_Mo_isNumber 64 = .ok (.goto 4, 3) := by decide +kernel
theorem d_Mo_isNumber_67 : decode b_Mo_isNumber 67 = .ok (.iconst 0, 1) := by decide +kernel
theorem d_Mo_isNumber_68 : decode b_Mo_isNumber 68 = .ok (.putfield 32, 3) := by decide +kernel
theorem d_Mo_isNumber_71 : decode b_Mo_isNumber 71 = .ok (.aload_n 0, 1) := by decide +kernel
theorem d_Mo_isNumber_72 : decode b_Mo_isNumber 72 = .ok (.getfield 32, 3) := by decide +kernel
theorem d_Mo_isNumber_75 : decode b_Mo_isNumber 75 = .ok (.ifCond .le 5, 3) := by decide +kernel
theorem d_Mo_isNumber_78 : decode b_Mo_isNumber 78 = .ok (.iconst 0, 1) := by decide +kernel
theorem d_Mo_isNumber_79 : decode b_Mo_isNumber 79 = .ok (.ireturn, 1) := by decide +kernel
theorem d_Mo_isNumber_80 : decode b_Mo_isNumber 80 = .ok (.aload_n 0, 1) := by decide +kernel
theorem d_Mo_isNumber_81 : decode b_Mo_isNumber 81 = .ok (.iload 5, 2) := by decide +kernel
theorem d_Mo_isNumber_83 : decode b_Mo_isNumber 83 = .ok (.ifCond .ne 8, 3) := by decide +kernel
theorem d_Mo_isNumber_86 : decode b_Mo_isNumber 86 = .ok (.lload 6, 2) := by decide +kernel
theorem d_Mo_isNumber_88 : decode b_Mo_isNumber 88 = .ok (.goto 10, 3) := by decide +kernel
theorem d_Mo_isNumber_91 : decode b_Mo_isNumber 91 = .ok (.lload 6, 2) := by decide +kernel
theorem d_Mo_isNumber_93 : decode b_Mo_isNumber 93 = .ok (.lconst 1, 1) := by decide +kernel
theorem d_Mo_isNumber_94 : decode b_Mo_isNumber 94 = .ok (.iload 4, 2) := by decide +kernel
theorem d_Mo_isNumber_96 : decode b_Mo_isNumber 96 = .ok (.lshl, 1) := by decide +kernel
theorem d_Mo_isNumber_97 : decode b_Mo_isNumber 97 = .ok (.lor, 1) := by decide +kernel
theorem d_Mo_isNumber_98 : decode b_Mo_isNumber 98 = .ok (.putfield 50, 3) := by decide +kernel
theorem d_Mo_isNumber_101 : decode b_Mo_isNumber 101 = .ok (.aload_n 0, 1) := by decide +kernel
theorem d_Mo_isNumber_102 : decode b_Mo_isNumber 102 = .ok (.iload 5, 2) := by decide +kernel
theorem d_Mo_isNumber_104 : decode b_Mo_isNumber 104 = .ok (.iconst 1, 1) := by decide +kernel
theorem d_Mo_isNumber_105 : decode b_Mo_isNumber 105 = .ok (.invokestatic 54, 3) := by decide +kernel
theorem d_Mo_isNumber_108 : decode b_Mo_isNumber 108 = .ok (.iload_n 3, 1) := by decide +kernel
theorem d_Mo_isNumber_109 : decode b_Mo_isNumber 109 = .ok (.ifCond .eq 9, 3) := by decide +kernel
theorem d_Mo_isNumber_112 : decode b_Mo_isNumber 112 = .ok (.sipush 150, 3) := by decide +kernel
theorem d_Mo_isNumber_115 : decode b_Mo_isNumber 115 = .ok (.goto 6, 3) := by decide +kernel
theorem d_Mo_isNumber_118 : decode b_Mo_isNumber 118 = .ok (.sipush 1075, 3) := by decide +kernel
theorem d_Mo_isNumber_121 : decode b_Mo_isNumber 121 = .ok (.isub, 1) := by decide +kernel
theorem d_Mo_isNumber_122 : decode b_Mo_isNumber 122 = .ok (.putfield 60, 3) := by decide +kernel
theorem d_Mo_isNumber_125 : decode b_Mo_isNumber 125 = .ok (.aload_n 0, 1) := by decide +kernel
theorem d_Mo_isNumber_126 : decode b_Mo_isNumber 126 = .ok (.lload 6, 2) := by decide +kernel
theorem d_Mo_isNumber_128 : decode b_Mo_isNumber 128 = .ok (.lconst 0, 1) := by decide +kernel
theorem d_Mo_isNumber_129 : decode b_Mo_isNumber 129 = .ok (.lcmp, 1) := by decide +kernel
theorem d_Mo_isNumber_130 : decode b_Mo_isNumber 130 = .ok (.ifCond .ne 13, 3) := by decide +kernel
theorem d_Mo_isNumber_133 : decode b_Mo_isNumber 133 = .ok (.iload 5, 2) := by decide +kernel
theorem d_Mo_isNumber_135 : decode b_Mo_isNumber 135 = .ok (.iconst 1, 1) := by decide +kernel
theorem d_Mo_isNumber_136 : decode b_Mo_isNumber 136 = .ok (.if_icmp .le 7, 3) := by decide +kernel
theorem d_Mo_isNumber_139 : decode b_Mo_isNumber 139 = .ok (.iconst 1, 1) := by decide +kernel
theorem d_Mo_isNumber_140 : decode b_Mo_isNumber 140 = .ok (.goto 4, 3) := by decide +kernel
theorem d_Mo_isNumber_143 : decode b_Mo_isNumber 143 = .ok (.iconst 0, 1) := by decide +kernel
theorem d_Mo_isNumber_144 : decode b_Mo_isNumber 144 = .ok (.putfield 63, 3) := by decide +kernel
theorem d_Mo_isNumber_147 : decode b_Mo_isNumber 147 = .ok (.aload_n 0, 1) := by decide +kernel
theorem d_Mo_isNumber_148 : decode b_Mo_isNumber 148 = .ok (.iconst 0, 1) := by decide +kernel
theorem d_Mo_isNumber_149 : decode b_Mo_isNumber 149 = .ok (.putfield 39, 3) := by decide +kernel
theorem d_Mo_isNumber_152 : decode b_Mo_isNumber 152 = .ok (.iconst 1, 1) := by decide +kernel
theorem d_Mo_isNumber_153 : decode b_Mo_isNumber 153 = .ok (.ireturn, 1) := by decide +kernel
theorem d_Mo_shortest_0 : decode b_Mo_shortest 0 = .ok (.aload_n 0, 1) := by decide +kernel
theorem d_Mo_shortest_1 : decode b_Mo_shortest 1 = .ok (.lload_n 1, 1) := by decide +kernel
theorem d_Mo_shortest_2 : decode b_Mo_shortest 2 = .ok (.iload_n 3, 1) := by decide +kernel
theorem d_Mo_shortest_3 : decode b_Mo_shortest 3 = .ok (.invokevirtual 66, 3) := by decide +kernel
theorem d_Mo_shortest_6 : decode b_Mo_shortest 6 = .ok (.ifCond .ne 5, 3) := by decide +kernel
theorem d_Mo_shortest_9 : decode b_Mo_shortest 9 = .ok (.iconst 0, 1) := by decide +kernel
theorem d_Mo_shortest_10 : decode b_Mo_shortest 10 = .ok (.ireturn, 1) := by decide +kernel
theorem d_Mo_shortest_11 : decode b_Mo_shortest 11 = .ok (.aload_n 0, 1) := by decide +kernel
theorem d_Mo_shortest_12 : decode b_Mo_shortest 12 = .ok (.getfield 22, 3) := by decide +kernel
theorem d_Mo_shortest_15 : decode b_Mo_shortest 15 = .ok (.aload_n 0, 1) := by decide +kernel
theorem d_Mo_shortest_16 : decode b_Mo_shortest 16 = .ok (.getfield 50, 3) := by decide +kernel
theorem d_Mo_shortest_19 : decode b_Mo_shortest 19 = .ok (.invokevirtual 46, 3) := by decide +kernel
theorem d_Mo_shortest_22 : decode b_Mo_shortest 22 = .ok (.aload_n 0, 1) := by decide +kernel
theorem d_Mo_shortest_23 : decode b_Mo_shortest 23 = .ok (.getfield 22, 3) := by decide +kernel
theorem d_Mo_shortest_26 : decode b_Mo_shortest 26 = .ok (.aload_n 0, 1) := by decide +kernel
theorem d_Mo_shortest_27 : decode b_Mo_shortest 27 = .ok (.getfield 60, 3) := by decide +kernel
theorem d_Mo_shortest_30 : decode b_Mo_shortest 30 = .ok (.invokevirtual 70, 3) := by decide +kernel
theorem d_Mo_shortest_33 : decode b_Mo_shortest 33 = .ok (.aload_n 0, 1) := by decide +kernel
theorem d_Mo_shortest_34 : decode b_Mo_shortest 34 = .ok (.getfield 10, 3) := by decide +kernel
theorem d_Mo_shortest_37 : decode b_Mo_shortest 37 = .ok (.aload_n 0, 1) := by decide +kernel
theorem d_Mo_shortest_38 : decode b_Mo_shortest 38 = .ok (.getfield 22, 3) := by decide +kernel
theorem d_Mo_shortest_41 : decode b_Mo_shortest 41 = .ok (.invokevirtual 74, 3) := by decide +kernel
theorem d_Mo_shortest_44 : decode b_Mo_shortest 44 = .ok (.aload_n 0, 1) := by decide +kernel
theorem d_Mo_shortest_45 : decode b_Mo_shortest 45 = .ok (.getfield 50, 3) := by decide +kernel
theorem d_Mo_shortest_48 : decode b_Mo_shortest 48 = .ok (.lconst 0, 1) := by decide +kernel
theorem d_Mo_shortest_49 : decode b_Mo_shortest 49 = .ok (.lcmp, 1) := by decide +kernel
theorem d_Mo_shortest_50 : decode b_Mo_shortest 50 = .ok (.ifCond .ne 5, 3) := by decide +kernel
theorem d_Mo_shortest_53 : decode b_Mo_shortest 53 = .ok (.iconst 0, 1) := by decide +kernel
theorem d_Mo_shortest_54 : decode b_Mo_shortest 54 = .ok (.ireturn, 1) := by decide +kernel
theorem d_Mo_shortest_55 : decode b_Mo_shortest 55 = .ok (.aload_n 0, 1) := by decide +kernel
theorem d_Mo_shortest_56 : decode b_Mo_shortest 56 = .ok (.getfield 19, 3) := by decide +kernel
theorem d_Mo_shortest_59 : decode b_Mo_shortest 59 = .ok (.ldc2_w 78, 3) := by decide +kernel
theorem d_Mo_shortest_62 : decode b_Mo_shortest 62 = .ok (.aload_n 0, 1) := by decide +kernel
theorem d_Mo_shortest_63 : decode b_Mo_shortest 63 = .ok (.getfield 50, 3) := by decide +kernel
theorem d_Mo_shortest_66 : decode b_Mo_shortest 66 = .ok (.lmul, 1) := by decide +kernel
theorem d_Mo_shortest_67 : decode b_Mo_shortest 67 = .ok (.lconst 1, 1) := by decide +kernel
theorem d_Mo_shortest_68 : decode b_Mo_shortest 68 = .ok (.ladd, 1) := by decide +kernel
theorem d_Mo_shortest_69 : decode b_Mo_shortest 69 = .ok (.invokevirtual 46, 3) := by decide +kernel
theorem d_Mo_shortest_72 : decode b_Mo_shortest 72 = .ok (.aload_n 0, 1) := by decide +kernel
theorem d_Mo_shortest_73 : decode b_Mo_shortest 73 = .ok (.getfield 19, 3) := by decide +kernel
theorem d_Mo_shortest_76 : decode b_Mo_shortest 76 = .ok (.aload_n 0, 1) := by decide +kernel
theorem d_Mo_shortest_77 : decode b_Mo_shortest 77 = .ok (.getfield 60, 3) := by decide +kernel
theorem d_Mo_shortest_80 : decode b_Mo_shortest 80 = .ok (.iconst 1, 1) := by decide +kernel
theorem d_Mo_shortest_81 : decode b_Mo_shortest 81 = .ok (.isub, 1) := by decide +kernel
theorem d_Mo_shortest_82 : decode b_Mo_shortest 82 = .ok (.invokevirtual 70, 3) := by decide +kernel
theorem d_Mo_shortest_85 : decode b_Mo_shortest 85 = .ok (.aload_n 0, 1) := by decide +kernel
theorem d_Mo_shortest_86 : decode b_Mo_shortest 86 = .ok (.getfield 16, 3) := by decide +kernel
theorem d_Mo_shortest_89 : decode b_Mo_shortest 89 = .ok (.aload_n 0, 1) := by decide +kernel
theorem d_Mo_shortest_90 : decode b_Mo_shortest 90 = .ok (.getfield 63, 3) := by decide +kernel
theorem d_Mo_shortest_93 : decode b_Mo_shortest 93 = .ok (.ifCond .eq 16, 3) := by decide +kernel
theorem d_Mo_shortest_96 : decode b_Mo_shortest 96 = .ok (.ldc2_w 80, 3) := by decide +kernel
theorem d_Mo_shortest_99 : decode b_Mo_shortest 99 = .ok (.aload_n 0, 1) := by decide +kernel
theorem d_Mo_shortest_100 : decode b_Mo_shortest 100 = .ok (.getfield 50, 3) := by decide +kernel
theorem d_Mo_shortest_103 : decode b_Mo_shortest 103 = .ok (.lmul, 1) := by decide +kernel
theorem d_Mo_shortest_104 : decode b_Mo_shortest 104 = .ok (.lconst 1, 1) := by decide +kernel
theorem d_Mo_shortest_105 : decode b_Mo_shortest 105 = .ok (.lsub, 1) := by decide +kernel
theorem d_Mo_shortest_106 : decode b_Mo_shortest 106 = .ok (.goto 13, 3) := by decide +kernel
theorem d_Mo_shortest_109 : decode b_Mo_shortest 109 = .ok (.ldc2_w 78, 3) := by decide +kernel
theorem d_Mo_shortest_112 : decode b_Mo_shortest 112 = .ok (.aload_n 0, 1) := by decide +kernel
theorem d_Mo_shortest_113 : decode b_Mo_shortest 113 = .ok (.getfield 50, 3) := by decide +kernel
theorem d_Mo_shortest_116 : decode b_Mo_shortest 116 = .ok (.lmul, 1) := by decide +kernel
theorem d_Mo_shortest_117 : decode b_Mo_shortest 117 = .ok (.lconst 1, 1) := by decide +kernel
theorem d_Mo_shortest_118 : decode b_Mo_shortest 118 = .ok (.lsub, 1) := by decide +kernel
theorem d_Mo_shortest_119 : decode b_Mo_shortest 119 = .ok (.invokevirtual 46, 3) := by decide +kernel
theorem d_Mo_shortest_122 : decode b_Mo_shortest 122 = .ok (.aload_n 0, 1) := by decide +kernel
theorem d_Mo_shortest_123 : decode b_Mo_shortest 123 = .ok (.getfield 16, 3) := by decide +kernel
theorem d_Mo_shortest_126 : decode b_Mo_shortest 126 = .ok (.aload_n 0, 1) := by decide +kernel
theorem d_Mo_shortest_127 : decode b_Mo_shortest 127 = .ok (.getfield 63, 3) := by decide +kernel
theorem d_Mo_shortest_130 : decode b_Mo_shortest 130 = .ok (.ifCond .eq 12, 3) := by decide +kernel
theorem d_Mo_shortest_133 : decode b_Mo_shortest 133 = .ok (.aload_n 0, 1) := by decide +kernel
theorem d_Mo_shortest_134 : decode b_Mo_shortest 134 = .ok (.getfield 60, 3) := by decide +kernel
theorem d_Mo_shortest_137 : decode b_Mo_shortest 137 = .ok (.iconst 2, 1) := by decide +kernel
theorem d_Mo_shortest_138 : decode b_Mo_shortest 138 = .ok (.isub, 1) := by decide +kernel
theorem d_Mo_shortest_139 : decode b_Mo_shortest 139 = .ok (.goto 9, 3) := by decide +kernel
theorem d_Mo_shortest_142 : decode b_Mo_shortest 142 = .ok (.aload_n 0, 1) := by decide +kernel
theorem d_Mo_shortest_143 : decode b_Mo_shortest 143 = .ok (.getfield 60, 3) := by decide +kernel
theorem d_Mo_shortest_146 : decode b_Mo_shortest 146 = .ok (.iconst 1, 1) := by decide +kernel
theorem d_Mo_shortest_147 : decode b_Mo_shortest 147 = .ok (.isub, 1) := by decide +kernel
theorem d_Mo_shortest_148 : decode b_Mo_shortest 148 = .ok (.invokevirtual 70, 3) := by decide +kernel
theorem d_Mo_shortest_151 : decode b_Mo_shortest 151 = .ok (.aload_n 0, 1) := by decide +kernel
theorem d_Mo_shortest_152 : decode b_Mo_shortest 152 = .ok (.getfield 50, 3) := by decide +kernel
theorem d_Mo_shortest_155 : decode b_Mo_shortest 155 = .ok (.lconst 1, 1) := by decide +kernel
theorem d_Mo_shortest_156 : decode b_Mo_shortest 156 = .ok (.land, 1) := by decide +kernel
theorem d_Mo_shortest_157 : decode b_Mo_shortest 157 = .ok (.lconst 0, 1) := by decide +kernel
theorem d_Mo_shortest_158 : decode b_Mo_shortest 158 = .ok (.lcmp, 1) := by decide +kernel
theorem d_Mo_shortest_159 : decode b_Mo_shortest 159 = .ok (.ifCond .ne 7, 3) := by decide +kernel
theorem d_Mo_shortest_162 : decode b_Mo_shortest 162 = .ok (.iconst 1, 1) := by decide +kernel
theorem d_Mo_shortest_163 : decode b_Mo_shortest 163 = .ok (.goto 4, 3) := by decide +kernel
theorem d_Mo_shortest_166 : decode b_Mo_shortest 166 = .ok (.iconst 0, 1) := by decide +kernel
theorem d_Mo_shortest_167 : decode b_Mo_shortest 167 = .ok (.istore 4, 2) := by decide +kernel
theorem d_Mo_shortest_169 : decode b_Mo_shortest 169 = .ok (.iconst 2, 1) := by decide +kernel
theorem d_Mo_shortest_170 : decode b_Mo_shortest 170 = .ok (.istore 5, 2) := by decide +kernel
theorem d_Mo_shortest_172 : decode b_Mo_shortest 172 = .ok (.iload 5, 2) := by decide +kernel
theorem d_Mo_shortest_174 : decode b_Mo_shortest 174 = .ok (.aload_n 0, 1) := by decide +kernel
theorem d_Mo_shortest_175 : decode b_Mo_shortest 175 = .ok (.getfield 22, 3) := by decide +kernel
theorem d_Mo_shortest_178 : decode b_Mo_shortest 178 = .ok (.getfield 36, 3) := by decide +kernel
theorem d_Mo_shortest_181 : decode b_Mo_shortest 181 = .ok (.if_icmp .ge 156, 3) := by decide +kernel
theorem d_Mo_shortest_184 : decode b_Mo_shortest 184 = .ok (.aload_n 0, 1) := by decide +kernel
theorem d_Mo_shortest_185 : decode b_Mo_shortest 185 = .ok (.iload 5, 2) := by decide +kernel
theorem d_Mo_shortest_187 : decode b_Mo_shortest 187 = .ok (.iconst 0, 1) := by decide +kernel
theorem d_Mo_shortest_188 : decode b_Mo_shortest 188 = .ok (.invokevirtual 82, 3) := by decide +kernel
theorem d_Mo_shortest_191 : decode b_Mo_shortest 191 = .ok (.aload_n 0, 1) := by decide +kernel
theorem d_Mo_shortest_192 : decode b_Mo_shortest 192 = .ok (.iload 4, 2) := by decide +kernel
theorem d_Mo_shortest_194 : decode b_Mo_shortest 194 = .ok (.invokevirtual 86, 3) := by decide +kernel
theorem d_Mo_shortest_197 : decode b_Mo_shortest 197 = .ok (.istore 6, 2) := by decide +kernel
theorem d_Mo_shortest_199 : decode b_Mo_shortest 199 = .ok (.aload_n 0, 1) := by decide +kernel
theorem d_Mo_shortest_200 : decode b_Mo_shortest 200 = .ok (.iload 5, 2) := by decide +kernel
theorem d_Mo_shortest_202 : decode b_Mo_shortest 202 = .ok (.iconst 1, 1) := by decide +kernel
theorem d_Mo_shortest_203 : decode b_Mo_shortest 203 = .ok (.invokevirtual 82, 3) := by decide +kernel
theorem d_Mo_shortest_206 : decode b_Mo_shortest 206 = .ok (.aload_n 0, 1) := by decide +kernel
theorem d_Mo_shortest_207 : decode b_Mo_shortest 207 = .ok (.iload 4, 2) := by decide +kernel
theorem d_Mo_shortest_209 : decode b_Mo_shortest 209 = .ok (.invokevirtual 86, 3) := by decide +kernel
theorem d_Mo_shortest_212 : decode b_Mo_shortest 212 = .ok (.istore 7, 2) := by decide +kernel
theorem d_Mo_shortest_214 : decode b_Mo_shortest 214 = .ok (.iload 6, 2) := by decide +kernel
theorem d_Mo_shortest_216 : decode b_Mo_shortest 216 = .ok (.ifCond .ne 11, 3) := by decide +kernel
theorem d_Mo_shortest_219 : decode b_Mo_shortest 219 = .ok (.iload 7, 2) := by decide +kernel
theorem d_Mo_shortest_221 : decode b_Mo_shortest 221 = .ok (.ifCond .ne 6, 3) := by decide +kernel
theorem d_Mo_shortest_224 : decode b_Mo_shortest 224 = .ok (.goto 107, 3) := by decide +kernel
theorem d_Mo_shortest_227 : decode b_Mo_shortest 227 = .ok (.aload_n 0, 1) := by decide +kernel
theorem d_Mo_shortest_228 : decode b_Mo_shortest 228 = .ok (.getfield 22, 3) := by decide +kernel
theorem d_Mo_shortest_231 : decode b_Mo_shortest 231 = .ok (.getfield 90, 3) := by decide +kernel
theorem d_Mo_shortest_234 : decode b_Mo_shortest 234 = .ok (.iload 5, 2) := by decide +kernel
theorem d_Mo_shortest_236 : decode b_Mo_shortest 236 = .ok (.baload, 1) := by decide +kernel
theorem d_Mo_shortest_237 : decode b_Mo_shortest 237 = .ok (.istore 8, 2) := by decide +kernel
theorem d_Mo_shortest_239 : decode b_Mo_shortest 239 = .ok (.iload 8, 2) := by decide +kernel
theorem d_Mo_shortest_241 : decode b_Mo_shortest 241 = .ok (.iconst 5, 1) := by decide +kernel
theorem d_Mo_shortest_242 : decode b_Mo_shortest 242 = .ok (.if_icmp .ne 21, 3) := by decide +kernel
theorem d_Mo_shortest_245 : decode b_Mo_shortest 245 = .ok (.aload_n 0, 1) := by decide +kernel
theorem d_Mo_shortest_246 : decode b_Mo_shortest 246 = .ok (.getfield 22, 3) := by decide +kernel
theorem d_Mo_shortest_249 : decode b_Mo_shortest 249 = .ok (.getfield 36, 3) := by decide +kernel
theorem d_Mo_shortest_252 : decode b_Mo_shortest 252 = .ok (.iload 5, 2) := by decide +kernel
theorem d_Mo_shortest_254 : decode b_Mo_shortest 254 = .ok (.iconst 1, 1) := by decide +kernel
theorem d_Mo_shortest_255 : decode b_Mo_shortest 255 = .ok (.iadd, 1) := by decide +kernel
theorem d_Mo_shortest_256 : decode b_Mo_shortest 256 = .ok (.if_icmp .ne 7, 3) := by decide +kernel
theorem d_Mo_shortest_259 : decode b_Mo_shortest 259 = .ok (.iconst 1, 1) := by decide +kernel
theorem d_Mo_shortest_260 : decode b_Mo_shortest 260 = .ok (.goto 4, 3) := by decide +kernel
theorem d_Mo_shortest_263 : decode b_Mo_shortest 263 = .ok (.iconst 0, 1) := by decide +kernel
theorem d_Mo_shortest_264 : decode b_Mo_shortest 264 = .ok (.istore 9, 2) := by decide +kernel
theorem d_Mo_shortest_266 : decode b_Mo_shortest 266 = .ok (.iload 7, 2) := by decide +kernel
theorem d_Mo_shortest_268 : decode b_Mo_shortest 268 = .ok (.ifCond .eq 44, 3) := by decide +kernel
theorem d_Mo_shortest_271 : decode b_Mo_shortest 271 = .ok (.iload 6, 2) := by decide +kernel
theorem d_Mo_shortest_273 : decode b_Mo_shortest 273 = .ok (.ifCond .eq 35, 3) := by decide +kernel
theorem d_Mo_shortest_276 : decode b_Mo_shortest 276 = .ok (.iload 9, 2) := by decide +kernel
theorem d_Mo_shortest_278 : decode b_Mo_shortest 278 = .ok (.ifCond .eq 24, 3) := by decide +kernel
theorem d_Mo_shortest_281 : decode b_Mo_shortest 281 = .ok (.aload_n 0, 1) := by decide +kernel
theorem d_Mo_shortest_282 : decode b_Mo_shortest 282 = .ok (.getfield 22, 3) := by decide +kernel
theorem d_Mo_shortest_285 : decode b_Mo_shortest 285 = .ok (.getfield 90, 3) := by decide +kernel
theorem d_Mo_shortest_288 : decode b_Mo_shortest 288 = .ok (.iload 5, 2) := by decide +kernel
theorem d_Mo_shortest_290 : decode b_Mo_shortest 290 = .ok (.iconst 1, 1) := by decide +kernel
theorem d_Mo_shortest_291 : decode b_Mo_shortest 291 = .ok (.isub, 1) := by decide +kernel
theorem d_Mo_shortest_292 : decode b_Mo_shortest 292 = .ok (.baload, 1) := by decide +kernel
theorem d_Mo_shortest_293 : decode b_Mo_shortest 293 = .ok (.iconst 2, 1) := by decide +kernel
theorem d_Mo_shortest_294 : decode b_Mo_shortest 294 = .ok (.irem, 1) := by decide +kernel
theorem d_Mo_shortest_295 : decode b_Mo_shortest 295 = .ok (.iconst 1, 1) := by decide +kernel
theorem d_Mo_shortest_296 : decode b_Mo_shortest 296 = .ok (.if_icmp .ne 16, 3) := by decide +kernel
theorem d_Mo_shortest_299 : decode b_Mo_shortest 299 = .ok (.goto 9, 3) := by decide +kernel
theorem d_Mo_shortest_302 : decode b_Mo_shortest 302 = .ok (.iload 8, 2) := by decide +kernel
theorem d_Mo_shortest_304 : decode b_Mo_shortest 304 = .ok (.iconst 5, 1) := by decide +kernel
theorem d_Mo_shortest_305 : decode b_Mo_shortest 305 = .ok (.if_icmp .lt 7, 3) := by decide +kernel
theorem d_Mo_shortest_308 : decode b_Mo_shortest 308 = .ok (.iconst 1, 1) := by decide +kernel
theorem d_Mo_shortest_309 : decode b_Mo_shortest 309 = .ok (.goto 4, 3) := by decide +kernel
theorem d_Mo_shortest_312 : decode b_Mo_shortest 312 = .ok (.iconst 0, 1) := by decide +kernel
theorem d_Mo_shortest_313 : decode b_Mo_shortest 313 = .ok (.istore 10, 2) := by decide +kernel
theorem d_Mo_shortest_315 : decode b_Mo_shortest 315 = .ok (.aload_n 0, 1) := by decide +kernel
theorem d_Mo_shortest_316 : decode b_Mo_shortest 316 = .ok (.iload 5, 2) := by decide +kernel
theorem d_Mo_shortest_318 : decode b_Mo_shortest 318 = .ok (.iload 10, 2) := by decide +kernel
theorem d_Mo_shortest_320 : decode b_Mo_shortest 320 = .ok (.invokevirtual 82, 3) := by decide +kernel
theorem d_Mo_shortest_323 : decode b_Mo_shortest 323 = .ok (.aload_n 0, 1) := by decide +kernel
theorem d_Mo_shortest_324 : decode b_Mo_shortest 324 = .ok (.getfield 10, 3) := by decide +kernel
theorem d_Mo_shortest_327 : decode b_Mo_shortest 327 = .ok (.getfield 36, 3) := by decide +kernel
theorem d_Mo_shortest_330 : decode b_Mo_shortest 330 = .ok (.ireturn, 1) := by decide +kernel
theorem d_Mo_shortest_331 : decode b_Mo_shortest 331 = .ok (.iinc 5 1, 3) := by decide +kernel
theorem d_Mo_shortest_334 : decode b_Mo_shortest 334 = .ok (.goto (-162), 3) := by decide +kernel
theorem d_Mo_shortest_337 : decode b_Mo_shortest 337 = .ok (.aload_n 0, 1) := by decide +kernel
theorem d_Mo_shortest_338 : decode b_Mo_shortest 338 = .ok (.getfield 10, 3) := by decide +kernel
theorem d_Mo_shortest_341 : decode b_Mo_shortest 341 = .ok (.aload_n 0, 1) := by decide +kernel
theorem d_Mo_shortest_342 : decode b_Mo_shortest 342 = .ok (.getfield 22, 3) := by decide +kernel
theorem d_Mo_shortest_345 : decode b_Mo_shortest 345 = .ok (.invokevirtual 74, 3) := by decide +kernel
theorem d_Mo_shortest_348 : decode b_Mo_shortest 348 = .ok (.aload_n 0, 1) := by decide +kernel
theorem d_Mo_shortest_349 : decode b_Mo_shortest 349 = .ok (.getfield 10, 3) := by decide +kernel
theorem d_Mo_shortest_352 : decode b_Mo_shortest 352 = .ok (.getfield 36, 3) := by decide +kernel
theorem d_Mo_shortest_355 : decode b_Mo_shortest 355 = .ok (.ireturn, 1) := by decide +kernel
theorem d_Mo_first_0 : decode b_Mo_first 0 = .ok (.aload_n 0, 1) := by decide +kernel
theorem d_Mo_first_1 : decode b_Mo_first 1 = .ok (.getfield 10, 3) := by decide +kernel
theorem d_Mo_first_4 : decode b_Mo_first 4 = .ok (.aload_n 0, 1) := by decide +kernel
theorem d_Mo_first_5 : decode b_Mo_first 5 = .ok (.getfield 22, 3) := by decide +kernel
theorem d_Mo_first_8 : decode b_Mo_first 8 = .ok (.invokevirtual 74, 3) := by decide +kernel
theorem d_Mo_first_11 : decode b_Mo_first 11 = .ok (.aload_n 0, 1) := by decide +kernel
theorem d_Mo_first_12 : decode b_Mo_first 12 = .ok (.getfield 10, 3) := by decide +kernel
theorem d_Mo_first_15 : decode b_Mo_first 15 = .ok (.iload_n 1, 1) := by decide +kernel
theorem d_Mo_first_16 : decode b_Mo_first 16 = .ok (.putfield 36, 3) := by decide +kernel
theorem d_Mo_first_19 : decode b_Mo_first 19 = .ok (.iload_n 2, 1) := by decide +kernel
theorem d_Mo_first_20 : decode b_Mo_first 20 = .ok (.ifCond .eq 10, 3) := by decide +kernel
theorem d_Mo_first_23 : decode b_Mo_first 23 = .ok (.aload_n 0, 1) := by decide +kernel
theorem d_Mo_first_24 : decode b_Mo_first 24 = .ok (.getfield 10, 3) := by decide +kernel
theorem d_Mo_first_27 : decode b_Mo_first 27 = .ok (.invokevirtual 94, 3) := by decide +kernel
theorem d_Mo_first_30 : decode b_Mo_first 30 = .ok (.aload_n 0, 1) := by decide +kernel
theorem d_Mo_first_31 : decode b_Mo_first 31 = .ok (.getfield 10, 3) := by decide +kernel
theorem d_Mo_first_34 : decode b_Mo_first 34 = .ok (.invokevirtual 43, 3) := by decide +kernel
theorem d_Mo_first_37 : decode b_Mo_first 37 = .ok (.return_, 1) := by decide +kernel
theorem d_Mo_isIn_0 : decode b_Mo_isIn 0 = .ok (.aload_n 0, 1) := by decide +kernel
theorem d_Mo_isIn_1 : decode b_Mo_isIn 1 = .ok (.getfield 10, 3) := by decide +kernel
theorem d_Mo_isIn_4 : decode b_Mo_isIn 4 = .ok (.aload_n 0, 1) := by decide +kernel
theorem d_Mo_isIn_5 : decode b_Mo_isIn 5 = .ok (.getfield 16, 3) := by decide +kernel
theorem d_Mo_isIn_8 : decode b_Mo_isIn 8 = .ok (.invokevirtual 97, 3) := by decide +kernel
theorem d_Mo_isIn_11 : decode b_Mo_isIn 11 = .ok (.istore_n 2, 1) := by decide +kernel
theorem d_Mo_isIn_12 : decode b_Mo_isIn 12 = .ok (.aload_n 0, 1) := by decide +kernel
theorem d_Mo_isIn_13 : decode b_Mo_isIn 13 = .ok (.getfield 10, 3) := by decide +kernel
theorem d_Mo_isIn_16 : decode b_Mo_isIn 16 = .ok (.aload_n 0, 1) := by decide +kernel
theorem d_Mo_isIn_17 : decode b_Mo_isIn 17 = .ok (.getfield 19, 3) := by decide +kernel
theorem d_Mo_isIn_20 : decode b_Mo_isIn 20 = .ok (.invokevirtual 97, 3) := by decide +kernel
theorem d_Mo_isIn_23 : decode b_Mo_isIn 23 = .ok (.istore_n 3, 1) := by decide +kernel
theorem d_Mo_isIn_24 : decode b_Mo_isIn 24 = .ok (.iload_n 1, 1) := by decide +kernel
theorem d_Mo_isIn_25 : decode b_Mo_isIn 25 = .ok (.ifCond .eq 19, 3) := by decide +kernel
theorem d_Mo_isIn_28 : decode b_Mo_isIn 28 = .ok (.iload_n 2, 1) := by decide +kernel
theorem d_Mo_isIn_29 : decode b_Mo_isIn 29 = .ok (.ifCond .lt 11, 3) := by decide +kernel
theorem d_Mo_isIn_32 : decode b_Mo_isIn 32 = .ok (.iload_n 3, 1) := by decide +kernel
theorem d_Mo_isIn_33 : decode b_Mo_isIn 33 = .ok (.ifCond .gt 7, 3) := by decide +kernel
theorem d_Mo_isIn_36 : decode b_Mo_isIn 36 = .ok (.iconst 1, 1) := by decide +kernel
theorem d_Mo_isIn_37 : decode b_Mo_isIn 37 = .ok (.goto 20, 3) := by decide +kernel
theorem d_Mo_isIn_40 : decode b_Mo_isIn 40 = .ok (.iconst 0, 1) := by decide +kernel
theorem d_Mo_isIn_41 : decode b_Mo_isIn 41 = .ok (.goto 16, 3) := by decide +kernel
theorem d_Mo_isIn_44 : decode b_Mo_isIn 44 = .ok (.iload_n 2, 1) := by decide +kernel
theorem d_Mo_isIn_45 : decode b_Mo_isIn 45 = .ok (.ifCond .le 11, 3) := by decide +kernel
theorem d_Mo_isIn_48 : decode b_Mo_isIn 48 = .ok (.iload_n 3, 1) := by decide +kernel
theorem d_Mo_isIn_49 : decode b_Mo_isIn 49 = .ok (.ifCond .ge 7, 3) := by decide +kernel
theorem d_Mo_isIn_52 : decode b_Mo_isIn 52 = .ok (.iconst 1, 1) := by decide +kernel
theorem d_Mo_isIn_53 : decode b_Mo_isIn 53 = .ok (.goto 4, 3) := by decide +kernel
theorem d_Mo_isIn_56 : decode b_Mo_isIn 56 = .ok (.iconst 0, 1) := by decide +kernel
theorem d_Mo_isIn_57 : decode b_Mo_isIn 57 = .ok (.ireturn, 1) := by decide +kernel
theorem d_Mo_put_0 : decode b_Mo_put 0 = .ok (.iload_n 1, 1) := by decide +kernel
theorem d_Mo_put_1 : decode b_Mo_put 1 = .ok (.aload_n 0, 1) := by decide +kernel
theorem d_Mo_put_2 : decode b_Mo_put 2 = .ok (.getfield 10, 3) := by decide +kernel
theorem d_Mo_put_5 : decode b_Mo_put 5 = .ok (.getfield 101, 3) := by decide +kernel
theorem d_Mo_put_8 : decode b_Mo_put 8 = .ok (.iadd, 1) := by decide +kernel
theorem d_Mo_put_9 : decode b_Mo_put 9 = .ok (.istore_n 3, 1) := by decide +kernel
theorem d_Mo_put_10 : decode b_Mo_put 10 = .ok (.aload_n 0, 1) := by decide +kernel
theorem d_Mo_put_11 : decode b_Mo_put 11 = .ok (.getfield 10, 3) := by decide +kernel
theorem d_Mo_put_14 : decode b_Mo_put 14 = .ok (.getfield 36, 3) := by decide +kernel
theorem d_Mo_put_17 : decode b_Mo_put 17 = .ok (.ifCond .ne 7, 3) := by decide +kernel
theorem d_Mo_put_20 : decode b_Mo_put 20 = .ok (.iconst 1, 1) := by decide +kernel
theorem d_Mo_put_21 : decode b_Mo_put 21 = .ok (.goto 4, 3) := by decide +kernel
theorem d_Mo_put_24 : decode b_Mo_put 24 = .ok (.iconst 0, 1) := by decide +kernel
theorem d_Mo_put_25 : decode b_Mo_put 25 = .ok (.istore 4, 2) := by decide +kernel
theorem d_Mo_put_27 : decode b_Mo_put 27 = .ok (.aload_n 0, 1) := by decide +kernel
theorem d_Mo_put_28 : decode b_Mo_put 28 = .ok (.iload_n 2, 1) := by decide +kernel
theorem d_Mo_put_29 : decode b_Mo_put 29 = .ok (.ifCond .lt 53, 3) := by decide +kernel
theorem d_Mo_put_32 : decode b_Mo_put 32 = .ok (.iload_n 2, 1) := by decide +kernel
theorem d_Mo_put_33 : decode b_Mo_put 33 = .ok (.bipush 9, 2) := by decide +kernel
theorem d_Mo_put_35 : decode b_Mo_put 35 = .ok (.if_icmp .gt 47, 3) := by decide +kernel
theorem d_Mo_put_38 : decode b_Mo_put 38 = .ok (.iload_n 1, 1) := by decide +kernel
theorem d_Mo_put_39 : decode b_Mo_put 39 = .ok (.sipush (-400), 3) := by decide +kernel
theorem d_Mo_put_42 : decode b_Mo_put 42 = .ok (.if_icmp .lt 40, 3) := by decide +kernel
theorem d_Mo_put_45 : decode b_Mo_put 45 = .ok (.iload_n 1, 1) := by decide +kernel
theorem d_Mo_put_46 : decode b_Mo_put 46 = .ok (.sipush 400, 3) := by decide +kernel
theorem d_Mo_put_49 : decode b_Mo_put 49 = .ok (.if_icmp .gt 33, 3) := by decide +kernel
theorem d_Mo_put_52 : decode b_Mo_put 52 = .ok (.iload 4, 2) := by decide +kernel
theorem d_Mo_put_54 : decode b_Mo_put 54 = .ok (.ifCond .ne 21, 3) := by decide +kernel
theorem d_Mo_put_57 : decode b_Mo_put 57 = .ok (.iload_n 3, 1) := by decide +kernel
theorem d_Mo_put_58 : decode b_Mo_put 58 = .ok (.aload_n 0, 1) := by decide +kernel
theorem d_Mo_put_59 : decode b_Mo_put 59 = .ok (.getfield 10, 3) := by decide +kernel
theorem d_Mo_put_62 : decode b_Mo_put 62 = .ok (.getfield 36, 3) := by decide +kernel
theorem d_Mo_put_65 : decode b_Mo_put 65 = .ok (.if_icmp .lt 17, 3) := by decide +kernel
theorem d_Mo_put_68 : decode b_Mo_put 68 = .ok (.iload_n 3, 1) := by decide +kernel
theorem d_Mo_put_69 : decode b_Mo_put 69 = .ok (.sipush 1200, 3) := by decide +kernel
theorem d_Mo_put_72 : decode b_Mo_put 72 = .ok (.if_icmp .ge 10, 3) := by decide +kernel
theorem d_Mo_put_75 : decode b_Mo_put 75 = .ok (.aload_n 0, 1) := by decide +kernel
theorem d_Mo_put_76 : decode b_Mo_put 76 = .ok (.getfield 39, 3) := by decide +kernel
theorem d_Mo_put_79 : decode b_Mo_put 79 = .ok (.ifCond .eq 7, 3) := by decide +kernel
theorem d_Mo_put_82 : decode b_Mo_put 82 = .ok (.iconst 1, 1) := by decide +kernel
theorem d_Mo_put_83 : decode b_Mo_put 83 = .ok (.goto 4, 3) := by decide +kernel
theorem d_Mo_put_86 : decode b_Mo_put 86 = .ok (.iconst 0, 1) := by decide +kernel
theorem d_Mo_put_87 : decode b_Mo_put 87 = .ok (.putfield 32, 3) := by decide +kernel
theorem d_Mo_put_90 : decode b_Mo_put 90 = .ok (.aload_n 0, 1) := by decide +kernel
theorem d_Mo_put_91 : decode b_Mo_put 91 = .ok (.getfield 32, 3) := by decide +kernel
theorem d_Mo_put_94 : decode b_Mo_put 94 = .ok (.ifCond .le 5, 3) := by decide +kernel
theorem d_Mo_put_97 : decode b_Mo_put 97 = .ok (.iconst 0, 1) := by decide +kernel
theorem d_Mo_put_98 : decode b_Mo_put 98 = .ok (.ireturn, 1) := by decide +kernel
theorem d_Mo_put_99 : decode b_Mo_put 99 = .ok (.iload_n 2, 1) := by decide +kernel
theorem d_Mo_put_100 : decode b_Mo_put 100 = .ok (.ifCond .ne 11, 3) := by decide +kernel
theorem d_Mo_put_103 : decode b_Mo_put 103 = .ok (.aload_n 0, 1) := by decide +kernel
theorem d_Mo_put_104 : decode b_Mo_put 104 = .ok (.getfield 10, 3) := by decide +kernel
theorem d_Mo_put_107 : decode b_Mo_put 107 = .ok (.getfield 36, 3) := by decide +kernel
theorem d_Mo_put_110 : decode b_Mo_put 110 = .ok (.ireturn, 1) := by decide +kernel
theorem d_Mo_put_111 : decode b_Mo_put 111 = .ok (.iload 4, 2) := by decide +kernel
theorem d_Mo_put_113 : decode b_Mo_put 113 = .ok (.ifCond .eq 14, 3) := by decide +kernel
theorem d_Mo_put_116 : decode b_Mo_put 116 = .ok (.aload_n 0, 1) := by decide +kernel
theorem d_Mo_put_117 : decode b_Mo_put 117 = .ok (.getfield 10, 3) := by decide +kernel
theorem d_Mo_put_120 : decode b_Mo_put 120 = .ok (.iload_n 1, 1) := by decide +kernel
theorem d_Mo_put_121 : decode b_Mo_put 121 = .ok (.ineg, 1) := by decide +kernel
theorem d_Mo_put_122 : decode b_Mo_put 122 = .ok (.putfield 101, 3) := by decide +kernel
theorem d_Mo_put_125 : decode b_Mo_put 125 = .ok (.iconst 0, 1) := by decide +kernel
theorem d_Mo_put_126 : decode b_Mo_put 126 = .ok (.istore_n 3, 1) := by decide +kernel
theorem d_Mo_put_127 : decode b_Mo_put 127 = .ok (.aload_n 0, 1) := by decide +kernel
theorem d_Mo_put_128 : decode b_Mo_put 128 = .ok (.getfield 10, 3) := by decide +kernel
theorem d_Mo_put_131 : decode b_Mo_put 131 = .ok (.getfield 36, 3) := by decide +kernel
theorem d_Mo_put_134 : decode b_Mo_put 134 = .ok (.istore 5, 2) := by decide +kernel
theorem d_Mo_put_136 : decode b_Mo_put 136 = .ok (.iload 5, 2) := by decide +kernel
theorem d_Mo_put_138 : decode b_Mo_put 138 = .ok (.iload_n 3, 1) := by decide +kernel
theorem d_Mo_put_139 : decode b_Mo_put 139 = .ok (.if_icmp .ge 20, 3) := by decide +kernel
theorem d_Mo_put_142 : decode b_Mo_put 142 = .ok (.aload_n 0, 1) := by decide +kernel
theorem d_Mo_put_143 : decode b_Mo_put 143 = .ok (.getfield 10, 3) := by decide +kernel
theorem d_Mo_put_146 : decode b_Mo_put 146 = .ok (.getfield 90, 3) := by decide +kernel
theorem d_Mo_put_149 : decode b_Mo_put 149 = .ok (.iload 5, 2) := by decide +kernel
theorem d_Mo_put_151 : decode b_Mo_put 151 = .ok (.iconst 0, 1) := by decide +kernel
theorem d_Mo_put_152 : decode b_Mo_put 152 = .ok (.bastore, 1) := by decide +kernel
theorem d_Mo_put_153 : decode b_Mo_put 153 = .ok (.iinc 5 1, 3) := by decide +kernel
theorem d_Mo_put_156 : decode b_Mo_put 156 = .ok (.goto (-20), 3) := by decide +kernel
theorem d_Mo_put_159 : decode b_Mo_put 159 = .ok (.aload_n 0, 1) := by decide +kernel
theorem d_Mo_put_160 : decode b_Mo_put 160 = .ok (.getfield 10, 3) := by decide +kernel
theorem d_Mo_put_163 : decode b_Mo_put 163 = .ok (.getfield 90, 3) := by decide +kernel
theorem d_Mo_put_166 : decode b_Mo_put 166 = .ok (.iload_n 3, 1) := by decide +kernel
theorem d_Mo_put_167 : decode b_Mo_put 167 = .ok (.iload_n 2, 1) := by decide +kernel
theorem d_Mo_put_168 : decode b_Mo_put 168 = .ok (.i2b, 1) := by decide +kernel
theorem d_Mo_put_169 : decode b_Mo_put 169 = .ok (.bastore, 1) := by decide +kernel
theorem d_Mo_put_170 : decode b_Mo_put 170 = .ok (.aload_n 0, 1) := by decide +kernel
theorem d_Mo_put_171 : decode b_Mo_put 171 = .ok (.getfield 10, 3) := by decide +kernel
theorem d_Mo_put_174 : decode b_Mo_put 174 = .ok (.iload_n 3, 1) := by decide +kernel
theorem d_Mo_put_175 : decode b_Mo_put 175 = .ok (.iconst 1, 1) := by decide +kernel
theorem d_Mo_put_176 : decode b_Mo_put 176 = .ok (.iadd, 1) := by decide +kernel
theorem d_Mo_put_177 : decode b_Mo_put 177 = .ok (.putfield 36, 3) := by decide +kernel
theorem d_Mo_put_180 : decode b_Mo_put 180 = .ok (.aload_n 0, 1) := by decide +kernel
theorem d_Mo_put_181 : decode b_Mo_put 181 = .ok (.getfield 10, 3) := by decide +kernel
theorem d_Mo_put_184 : decode b_Mo_put 184 = .ok (.getfield 36, 3) := by decide +kernel
theorem d_Mo_put_187 : decode b_Mo_put 187 = .ok (.ireturn, 1) := by decide +kernel
theorem d_Mo_shift_0 : decode b_Mo_shift 0 = .ok (.aload_n 0, 1) := by decide +kernel
theorem d_Mo_shift_1 : decode b_Mo_shift 1 = .ok (.iload_n 1, 1) := by decide +kernel
theorem d_Mo_shift_2 : decode b_Mo_shift 2 = .ok (.sipush (-2200), 3) := by decide +kernel
theorem d_Mo_shift_5 : decode b_Mo_shift 5 = .ok (.if_icmp .lt 10, 3) := by decide +kernel
theorem d_Mo_shift_8 : decode b_Mo_shift 8 = .ok (.iload_n 1, 1) := by decide +kernel
theorem d_Mo_shift_9 : decode b_Mo_shift 9 = .ok (.sipush 2200, 3) := by decide +kernel
theorem d_Mo_shift_12 : decode b_Mo_shift 12 = .ok (.if_icmp .le 7, 3) := by decide +kernel
theorem d_Mo_shift_15 : decode b_Mo_shift 15 = .ok (.iconst 1, 1) := by decide +kernel
theorem d_Mo_shift_16 : decode b_Mo_shift 16 = .ok (.goto 4, 3) := by decide +kernel
theorem d_Mo_shift_19 : decode b_Mo_shift 19 = .ok (.iconst 0, 1) := by decide +kernel
theorem d_Mo_shift_20 : decode b_Mo_shift 20 = .ok (.putfield 32, 3) := by decide +kernel
theorem d_Mo_shift_23 : decode b_Mo_shift 23 = .ok (.aload_n 0, 1) := by decide +kernel
theorem d_Mo_shift_24 : decode b_Mo_shift 24 = .ok (.getfield 32, 3) := by decide +kernel
theorem d_Mo_shift_27 : decode b_Mo_shift 27 = .ok (.ifCond .le 5, 3) := by decide +kernel
theorem d_Mo_shift_30 : decode b_Mo_shift 30 = .ok (.iconst 0, 1) := by decide +kernel
theorem d_Mo_shift_31 : decode b_Mo_shift 31 = .ok (.ireturn, 1) := by decide +kernel
theorem d_Mo_shift_32 : decode b_Mo_shift 32 = .ok (.aload_n 0, 1) := by decide +kernel
theorem d_Mo_shift_33 : decode b_Mo_shift 33 = .ok (.getfield 10, 3) := by decide +kernel
theorem d_Mo_shift_36 : decode b_Mo_shift 36 = .ok (.iload_n 1, 1) := by decide +kernel
theorem d_Mo_shift_37 : decode b_Mo_shift 37 = .ok (.invokevirtual 70, 3) := by decide +kernel
theorem d_Mo_shift_40 : decode b_Mo_shift 40 = .ok (.aload_n 0, 1) := by decide +kernel
theorem d_Mo_shift_41 : decode b_Mo_shift 41 = .ok (.invokevirtual 104, 3) := by decide +kernel
theorem d_Mo_shift_44 : decode b_Mo_shift 44 = .ok (.ireturn, 1) := by decide +kernel
theorem d_Mo_kept_0 : decode b_Mo_kept 0 = .ok (.aload_n 0, 1) := by decide +kernel
theorem d_Mo_kept_1 : decode b_Mo_kept 1 = .ok (.getfield 10, 3) := by decide +kernel
theorem d_Mo_kept_4 : decode b_Mo_kept 4 = .ok (.getfield 36, 3) := by decide +kernel
theorem d_Mo_kept_7 : decode b_Mo_kept 7 = .ok (.sipush 1200, 3) := by decide +kernel
theorem d_Mo_kept_10 : decode b_Mo_kept 10 = .ok (.if_icmp .le 25, 3) := by decide +kernel
theorem d_Mo_kept_13 : decode b_Mo_kept 13 = .ok (.aload_n 0, 1) := by decide +kernel
theorem d_Mo_kept_14 : decode b_Mo_kept 14 = .ok (.getfield 10, 3) := by decide +kernel
theorem d_Mo_kept_17 : decode b_Mo_kept 17 = .ok (.sipush 1200, 3) := by decide +kernel
theorem d_Mo_kept_20 : decode b_Mo_kept 20 = .ok (.putfield 36, 3) := by decide +kernel
theorem d_Mo_kept_23 : decode b_Mo_kept 23 = .ok (.aload_n 0, 1) := by decide +kernel
theorem d_Mo_kept_24 : decode b_Mo_kept 24 = .ok (.iconst 1, 1) := by decide +kernel
theorem d_Mo_kept_25 : decode b_Mo_kept 25 = .ok (.putfield 39, 3) := by decide +kernel
theorem d_Mo_kept_28 : decode b_Mo_kept 28 = .ok (.aload_n 0, 1) := by decide +kernel
theorem d_Mo_kept_29 : decode b_Mo_kept 29 = .ok (.getfield 10, 3) := by decide +kernel
theorem d_Mo_kept_32 : decode b_Mo_kept 32 = .ok (.invokevirtual 43, 3) := by decide +kernel
theorem d_Mo_kept_35 : decode b_Mo_kept 35 = .ok (.aload_n 0, 1) := by decide +kernel
theorem d_Mo_kept_36 : decode b_Mo_kept 36 = .ok (.getfield 10, 3) := by decide +kernel
theorem d_Mo_kept_39 : decode b_Mo_kept 39 = .ok (.getfield 36, 3) := by decide +kernel
theorem d_Mo_kept_42 : decode b_Mo_kept 42 = .ok (.ireturn, 1) := by decide +kernel
theorem d_Mo_move_0 : decode b_Mo_move 0 = .ok (.aload_n 0, 1) := by decide +kernel
theorem d_Mo_move_1 : decode b_Mo_move 1 = .ok (.getfield 10, 3) := by decide +kernel
theorem d_Mo_move_4 : decode b_Mo_move 4 = .ok (.getfield 36, 3) := by decide +kernel
theorem d_Mo_move_7 : decode b_Mo_move 7 = .ok (.ifCond .ne 7, 3) := by decide +kernel
theorem d_Mo_move_10 : decode b_Mo_move 10 = .ok (.iconst 1, 1) := by decide +kernel
theorem d_Mo_move_11 : decode b_Mo_move 11 = .ok (.goto 4, 3) := by decide +kernel
theorem d_Mo_move_14 : decode b_Mo_move 14 = .ok (.iconst 0, 1) := by decide +kernel
theorem d_Mo_move_15 : decode b_Mo_move 15 = .ok (.istore_n 2, 1) := by decide +kernel
theorem d_Mo_move_16 : decode b_Mo_move 16 = .ok (.iload_n 2, 1) := by decide +kernel
theorem d_Mo_move_17 : decode b_Mo_move 17 = .ok (.ifCond .eq 7, 3) := by decide +kernel
theorem d_Mo_move_20 : decode b_Mo_move 20 = .ok (.iconst 0, 1) := by decide +kernel
theorem d_Mo_move_21 : decode b_Mo_move 21 = .ok (.goto 12, 3) := by decide +kernel
theorem d_Mo_move_24 : decode b_Mo_move 24 = .ok (.aload_n 0, 1) := by decide +kernel
theorem d_Mo_move_25 : decode b_Mo_move 25 = .ok (.getfield 10, 3) := by decide +kernel
theorem d_Mo_move_28 : decode b_Mo_move 28 = .ok (.getfield 101, 3) := by decide +kernel
theorem d_Mo_move_31 : decode b_Mo_move 31 = .ok (.iload_n 1, 1) := by decide +kernel
theorem d_Mo_move_32 : decode b_Mo_move 32 = .ok (.iadd, 1) := by decide +kernel
theorem d_Mo_move_33 : decode b_Mo_move 33 = .ok (.istore_n 3, 1) := by decide +kernel
theorem d_Mo_move_34 : decode b_Mo_move 34 = .ok (.aload_n 0, 1) := by decide +kernel
theorem d_Mo_move_35 : decode b_Mo_move 35 = .ok (.iload_n 1, 1) := by decide +kernel
theorem d_Mo_move_36 : decode b_Mo_move 36 = .ok (.sipush (-5000), 3) := by decide +kernel
theorem d_Mo_move_39 : decode b_Mo_move 39 = .ok (.if_icmp .lt 24, 3) := by decide +kernel
theorem d_Mo_move_42 : decode b_Mo_move 42 = .ok (.iload_n 1, 1) := by decide +kernel
theorem d_Mo_move_43 : decode b_Mo_move 43 = .ok (.sipush 5000, 3) := by decide +kernel
theorem d_Mo_move_46 : decode b_Mo_move 46 = .ok (.if_icmp .gt 17, 3) := by decide +kernel
theorem d_Mo_move_49 : decode b_Mo_move 49 = .ok (.iload_n 3, 1) := by decide +kernel
theorem d_Mo_move_50 : decode b_Mo_move 50 = .ok (.sipush (-10000), 3) := by decide +kernel
theorem d_Mo_move_53 : decode b_Mo_move 53 = .ok (.if_icmp .lt 10, 3) := by decide +kernel
theorem d_Mo_move_56 : decode b_Mo_move 56 = .ok (.iload_n 3, 1) := by decide +kernel
theorem d_Mo_move_57 : decode b_Mo_move 57 = .ok (.sipush 10000, 3) := by decide +kernel
theorem d_Mo_move_60 : decode b_Mo_move 60 = .ok (.if_icmp .le 7, 3) := by decide +kernel
theorem d_Mo_move_63 : decode b_Mo_move 63 = .ok (.iconst 1, 1) := by decide +kernel
theorem d_Mo_move_64 : decode b_Mo_move 64 = .ok (.goto 4, 3) := by decide +kernel
theorem d_Mo_move_67 : decode b_Mo_move 67 = .ok (.iconst 0, 1) := by decide +kernel
theorem d_Mo_move_68 : decode b_Mo_move 68 = .ok (.putfield 32, 3) := by decide +kernel
theorem d_Mo_move_71 : decode b_Mo_move 71 = .ok (.aload_n 0, 1) := by decide +kernel
theorem d_Mo_move_72 : decode b_Mo_move 72 = .ok (.getfield 32, 3) := by decide +kernel
theorem d_Mo_move_75 : decode b_Mo_move 75 = .ok (.ifCond .le 5, 3) := by decide +kernel
theorem d_Mo_move_78 : decode b_Mo_move 78 = .ok (.iconst 0, 1) := by decide +kernel
theorem d_Mo_move_79 : decode b_Mo_move 79 = .ok (.ireturn, 1) := by decide +kernel
theorem d_Mo_move_80 : decode b_Mo_move 80 = .ok (.aload_n 0, 1) := by decide +kernel
theorem d_Mo_move_81 : decode b_Mo_move 81 = .ok (.getfield 10, 3) := by decide +kernel
theorem d_Mo_move_84 : decode b_Mo_move 84 = .ok (.iload_n 3, 1) := by decide +kernel
theorem d_Mo_move_85 : decode b_Mo_move 85 = .ok (.putfield 101, 3) := by decide +kernel
theorem d_Mo_move_88 : decode b_Mo_move 88 = .ok (.iload_n 3, 1) := by decide +kernel
theorem d_Mo_move_89 : decode b_Mo_move 89 = .ok (.ireturn, 1) := by decide +kernel
theorem d_Mo_round_0 : decode b_Mo_round 0 = .ok (.aload_n 0, 1) := by decide +kernel
theorem d_Mo_round_1 : decode b_Mo_round 1 = .ok (.iload_n 1, 1) := by decide +kernel
theorem d_Mo_round_2 : decode b_Mo_round 2 = .ok (.iconst 1, 1) := by decide +kernel
theorem d_Mo_round_3 : decode b_Mo_round 3 = .ok (.invokevirtual 108, 3) := by decide +kernel
theorem d_Mo_round_6 : decode b_Mo_round 6 = .ok (.ireturn, 1) := by decide +kernel
theorem d_Mo_ended_0 : decode b_Mo_ended 0 = .ok (.aload_n 0, 1) := by decide +kernel
theorem d_Mo_ended_1 : decode b_Mo_ended 1 = .ok (.iload_n 1, 1) := by decide +kernel
theorem d_Mo_ended_2 : decode b_Mo_ended 2 = .ok (.sipush (-2000), 3) := by decide +kernel
theorem d_Mo_ended_5 : decode b_Mo_ended 5 = .ok (.if_icmp .lt 10, 3) := by decide +kernel
theorem d_Mo_ended_8 : decode b_Mo_ended 8 = .ok (.iload_n 1, 1) := by decide +kernel
theorem d_Mo_ended_9 : decode b_Mo_ended 9 = .ok (.sipush 2000, 3) := by decide +kernel
theorem d_Mo_ended_12 : decode b_Mo_ended 12 = .ok (.if_icmp .le 7, 3) := by decide +kernel
theorem d_Mo_ended_15 : decode b_Mo_ended 15 = .ok (.iconst 1, 1) := by decide +kernel
theorem d_Mo_ended_16 : decode b_Mo_ended 16 = .ok (.goto 4, 3) := by decide +kernel
theorem d_Mo_ended_19 : decode b_Mo_ended 19 = .ok (.iconst 0, 1) := by decide +kernel
theorem d_Mo_ended_20 : decode b_Mo_ended 20 = .ok (.putfield 32, 3) := by decide +kernel
theorem d_Mo_ended_23 : decode b_Mo_ended 23 = .ok (.aload_n 0, 1) := by decide +kernel
theorem d_Mo_ended_24 : decode b_Mo_ended 24 = .ok (.getfield 32, 3) := by decide +kernel
theorem d_Mo_ended_27 : decode b_Mo_ended 27 = .ok (.ifCond .le 5, 3) := by decide +kernel
theorem d_Mo_ended_30 : decode b_Mo_ended 30 = .ok (.iconst 0, 1) := by decide +kernel
theorem d_Mo_ended_31 : decode b_Mo_ended 31 = .ok (.ireturn, 1) := by decide +kernel
theorem d_Mo_ended_32 : decode b_Mo_ended 32 = .ok (.aload_n 0, 1) := by decide +kernel
theorem d_Mo_ended_33 : decode b_Mo_ended 33 = .ok (.getfield 10, 3) := by decide +kernel
theorem d_Mo_ended_36 : decode b_Mo_ended 36 = .ok (.getfield 101, 3) := by decide +kernel
theorem d_Mo_ended_39 : decode b_Mo_ended 39 = .ok (.iload_n 1, 1) := by decide +kernel
theorem d_Mo_ended_40 : decode b_Mo_ended 40 = .ok (.iadd, 1) := by decide +kernel
theorem d_Mo_ended_41 : decode b_Mo_ended 41 = .ok (.istore_n 3, 1) := by decide +kernel
theorem d_Mo_ended_42 : decode b_Mo_ended 42 = .ok (.aload_n 0, 1) := by decide +kernel
theorem d_Mo_ended_43 : decode b_Mo_ended 43 = .ok (.iconst 0, 1) := by decide +kernel
theorem d_Mo_ended_44 : decode b_Mo_ended 44 = .ok (.putfield 39, 3) := by decide +kernel
theorem d_Mo_ended_47 : decode b_Mo_ended 47 = .ok (.iload_n 3, 1) := by decide +kernel
theorem d_Mo_ended_48 : decode b_Mo_ended 48 = .ok (.aload_n 0, 1) := by decide +kernel
theorem d_Mo_ended_49 : decode b_Mo_ended 49 = .ok (.getfield 10, 3) := by decide +kernel
theorem d_Mo_ended_52 : decode b_Mo_ended 52 = .ok (.getfield 36, 3) := by decide +kernel
theorem d_Mo_ended_55 : decode b_Mo_ended 55 = .ok (.if_icmp .lt 11, 3) := by decide +kernel
theorem d_Mo_ended_58 : decode b_Mo_ended 58 = .ok (.aload_n 0, 1) := by decide +kernel
theorem d_Mo_ended_59 : decode b_Mo_ended 59 = .ok (.getfield 10, 3) := by decide +kernel
theorem d_Mo_ended_62 : decode b_Mo_ended 62 = .ok (.getfield 36, 3) := by decide +kernel
theorem d_Mo_ended_65 : decode b_Mo_ended 65 = .ok (.ireturn, 1) := by decide +kernel
theorem d_Mo_ended_66 : decode b_Mo_ended 66 = .ok (.iload_n 2, 1) := by decide +kernel
theorem d_Mo_ended_67 : decode b_Mo_ended 67 = .ok (.ifCond .eq 24, 3) := by decide +kernel
theorem d_Mo_ended_70 : decode b_Mo_ended 70 = .ok (.iload_n 3, 1) := by decide +kernel
theorem d_Mo_ended_71 : decode b_Mo_ended 71 = .ok (.ifCond .lt 20, 3) := by decide +kernel
theorem d_Mo_ended_74 : decode b_Mo_ended 74 = .ok (.aload_n 0, 1) := by decide +kernel
theorem d_Mo_ended_75 : decode b_Mo_ended 75 = .ok (.getfield 10, 3) := by decide +kernel
theorem d_Mo_ended_78 : decode b_Mo_ended 78 = .ok (.getfield 90, 3) := by decide +kernel
theorem d_Mo_ended_81 : decode b_Mo_ended 81 = .ok (.iload_n 3, 1) := by decide +kernel
theorem d_Mo_ended_82 : decode b_Mo_ended 82 = .ok (.baload, 1) := by decide +kernel
theorem d_Mo_ended_83 : decode b_Mo_ended 83 = .ok (.iconst 5, 1) := by decide +kernel
theorem d_Mo_ended_84 : decode b_Mo_ended 84 = .ok (.if_icmp .lt 7, 3) := by decide +kernel
theorem d_Mo_ended_87 : decode b_Mo_ended 87 = .ok (.iconst 1, 1) := by decide +kernel
theorem d_Mo_ended_88 : decode b_Mo_ended 88 = .ok (.goto 4, 3) := by decide +kernel
theorem d_Mo_ended_91 : decode b_Mo_ended 91 = .ok (.iconst 0, 1) := by decide +kernel
theorem d_Mo_ended_92 : decode b_Mo_ended 92 = .ok (.istore 4, 2) := by decide +kernel
theorem d_Mo_ended_94 : decode b_Mo_ended 94 = .ok (.aload_n 0, 1) := by decide +kernel
theorem d_Mo_ended_95 : decode b_Mo_ended 95 = .ok (.getfield 10, 3) := by decide +kernel
theorem d_Mo_ended_98 : decode b_Mo_ended 98 = .ok (.iload_n 3, 1) := by decide +kernel
theorem d_Mo_ended_99 : decode b_Mo_ended 99 = .ok (.iconst 0, 1) := by decide +kernel
theorem d_Mo_ended_100 : decode b_Mo_ended 100 = .ok (.invokestatic 54, 3) := by decide +kernel
theorem d_Mo_ended_103 : decode b_Mo_ended 103 = .ok (.putfield 36, 3) := by decide +kernel
theorem d_Mo_ended_106 : decode b_Mo_ended 106 = .ok (.iload 4, 2) := by decide +kernel
theorem d_Mo_ended_108 : decode b_Mo_ended 108 = .ok (.ifCond .eq 10, 3) := by decide +kernel
theorem d_Mo_ended_111 : decode b_Mo_ended 111 = .ok (.aload_n 0, 1) := by decide +kernel
theorem d_Mo_ended_112 : decode b_Mo_ended 112 = .ok (.getfield 10, 3) := by decide +kernel
theorem d_Mo_ended_115 : decode b_Mo_ended 115 = .ok (.invokevirtual 94, 3) := by decide +kernel
theorem d_Mo_ended_118 : decode b_Mo_ended 118 = .ok (.aload_n 0, 1) := by decide +kernel
theorem d_Mo_ended_119 : decode b_Mo_ended 119 = .ok (.getfield 10, 3) := by decide +kernel
theorem d_Mo_ended_122 : decode b_Mo_ended 122 = .ok (.invokevirtual 43, 3) := by decide +kernel
theorem d_Mo_ended_125 : decode b_Mo_ended 125 = .ok (.aload_n 0, 1) := by decide +kernel
theorem d_Mo_ended_126 : decode b_Mo_ended 126 = .ok (.getfield 10, 3) := by decide +kernel
theorem d_Mo_ended_129 : decode b_Mo_ended 129 = .ok (.getfield 36, 3) := by decide +kernel
theorem d_Mo_ended_132 : decode b_Mo_ended 132 = .ok (.ireturn, 1) := by decide +kernel
theorem d_Mo_cut_0 : decode b_Mo_cut 0 = .ok (.aload_n 0, 1) := by decide +kernel
theorem d_Mo_cut_1 : decode b_Mo_cut 1 = .ok (.iload_n 1, 1) := by decide +kernel
theorem d_Mo_cut_2 : decode b_Mo_cut 2 = .ok (.iconst 0, 1) := by decide +kernel
theorem d_Mo_cut_3 : decode b_Mo_cut 3 = .ok (.invokevirtual 108, 3) := by decide +kernel
theorem d_Mo_cut_6 : decode b_Mo_cut 6 = .ok (.ireturn, 1) := by decide +kernel
theorem d_Mo_digit_0 : decode b_Mo_digit 0 = .ok (.aload_n 0, 1) := by decide +kernel
theorem d_Mo_digit_1 : decode b_Mo_digit 1 = .ok (.iconst 0, 1) := by decide +kernel
theorem d_Mo_digit_2 : decode b_Mo_digit 2 = .ok (.putfield 32, 3) := by decide +kernel
theorem d_Mo_digit_5 : decode b_Mo_digit 5 = .ok (.iload_n 1, 1) := by decide +kernel
theorem d_Mo_digit_6 : decode b_Mo_digit 6 = .ok (.i2l, 1) := by decide +kernel
theorem d_Mo_digit_7 : decode b_Mo_digit 7 = .ok (.aload_n 0, 1) := by decide +kernel
theorem d_Mo_digit_8 : decode b_Mo_digit 8 = .ok (.getfield 10, 3) := by decide +kernel
theorem d_Mo_digit_11 : decode b_Mo_digit 11 = .ok (.getfield 101, 3) := by decide +kernel
theorem d_Mo_digit_14 : decode b_Mo_digit 14 = .ok (.i2l, 1) := by decide +kernel
theorem d_Mo_digit_15 : decode b_Mo_digit 15 = .ok (.ladd, 1) := by decide +kernel
theorem d_Mo_digit_16 : decode b_Mo_digit 16 = .ok (.lstore_n 2, 1) := by decide +kernel
theorem d_Mo_digit_17 : decode b_Mo_digit 17 = .ok (.lload_n 2, 1) := by decide +kernel
theorem d_Mo_digit_18 : decode b_Mo_digit 18 = .ok (.lconst 0, 1) := by decide +kernel
theorem d_Mo_digit_19 : decode b_Mo_digit 19 = .ok (.lcmp, 1) := by decide +kernel
theorem d_Mo_digit_20 : decode b_Mo_digit 20 = .ok (.ifCond .lt 16, 3) := by decide +kernel
theorem d_Mo_digit_23 : decode b_Mo_digit 23 = .ok (.lload_n 2, 1) := by decide +kernel
theorem d_Mo_digit_24 : decode b_Mo_digit 24 = .ok (.aload_n 0, 1) := by decide +kernel
theorem d_Mo_digit_25 : decode b_Mo_digit 25 = .ok (.getfield 10, 3) := by decide +kernel
theorem d_Mo_digit_28 : decode b_Mo_digit 28 = .ok (.getfield 36, 3) := by decide +kernel
theorem d_Mo_digit_31 : decode b_Mo_digit 31 = .ok (.i2l, 1) := by decide +kernel
theorem d_Mo_digit_32 : decode b_Mo_digit 32 = .ok (.lcmp, 1) := by decide +kernel
theorem d_Mo_digit_33 : decode b_Mo_digit 33 = .ok (.ifCond .lt 7, 3) := by decide +kernel
theorem d_Mo_digit_36 : decode b_Mo_digit 36 = .ok (.iconst 0, 1) := by decide +kernel
theorem d_Mo_digit_37 : decode b_Mo_digit 37 = .ok (.goto 13, 3) := by decide +kernel
theorem d_Mo_digit_40 : decode b_Mo_digit 40 = .ok (.aload_n 0, 1) := by decide +kernel
theorem d_Mo_digit_41 : decode b_Mo_digit 41 = .ok (.getfield 10, 3) := by decide +kernel
theorem d_Mo_digit_44 : decode b_Mo_digit 44 = .ok (.getfield 90, 3) := by decide +kernel
theorem d_Mo_digit_47 : decode b_Mo_digit 47 = .ok (.lload_n 2, 1) := by decide +kernel
theorem d_Mo_digit_48 : decode b_Mo_digit 48 = .ok (.l2i, 1) := by decide +kernel
theorem d_Mo_digit_49 : decode b_Mo_digit 49 = .ok (.baload, 1) := by decide +kernel
theorem d_Mo_digit_50 : decode b_Mo_digit 50 = .ok (.ireturn, 1) := by decide +kernel
theorem d_Mo_told_0 : decode b_Mo_told 0 = .ok (.aload_n 0, 1) := by decide +kernel
theorem d_Mo_told_1 : decode b_Mo_told 1 = .ok (.iload_n 1, 1) := by decide +kernel
theorem d_Mo_told_2 : decode b_Mo_told 2 = .ok (.ifCond .lt 8, 3) := by decide +kernel
theorem d_Mo_told_5 : decode b_Mo_told 5 = .ok (.iload_n 1, 1) := by decide +kernel
theorem d_Mo_told_6 : decode b_Mo_told 6 = .ok (.iconst 2, 1) := by decide +kernel
theorem d_Mo_told_7 : decode b_Mo_told 7 = .ok (.if_icmp .le 7, 3) := by decide +kernel
theorem d_Mo_told_10 : decode b_Mo_told 10 = .ok (.iconst 1, 1) := by decide +kernel
theorem d_Mo_told_11 : decode b_Mo_told 11 = .ok (.goto 4, 3) := by decide +kernel
theorem d_Mo_told_14 : decode b_Mo_told 14 = .ok (.iconst 0, 1) := by decide +kernel
theorem d_Mo_told_15 : decode b_Mo_told 15 = .ok (.putfield 32, 3) := by decide +kernel
theorem d_Mo_told_18 : decode b_Mo_told 18 = .ok (.aload_n 0, 1) := by decide +kernel
theorem d_Mo_told_19 : decode b_Mo_told 19 = .ok (.getfield 32, 3) := by decide +kernel
theorem d_Mo_told_22 : decode b_Mo_told 22 = .ok (.ifCond .le 5, 3) := by decide +kernel
theorem d_Mo_told_25 : decode b_Mo_told 25 = .ok (.iconst 0, 1) := by decide +kernel
theorem d_Mo_told_26 : decode b_Mo_told 26 = .ok (.ireturn, 1) := by decide +kernel
theorem d_Mo_told_27 : decode b_Mo_told 27 = .ok (.iload_n 1, 1) := by decide +kernel
theorem d_Mo_told_28 : decode b_Mo_told 28 = .ok (.ifCond .ne 13, 3) := by decide +kernel
theorem d_Mo_told_31 : decode b_Mo_told 31 = .ok (.aload_n 0, 1) := by decide +kernel
theorem d_Mo_told_32 : decode b_Mo_told 32 = .ok (.getfield 10, 3) := by decide +kernel
theorem d_Mo_told_35 : decode b_Mo_told 35 = .ok (.getfield 36, 3) := by decide +kernel
theorem d_Mo_told_38 : decode b_Mo_told 38 = .ok (.goto 30, 3) := by decide +kernel
theorem d_Mo_told_41 : decode b_Mo_told 41 = .ok (.iload_n 1, 1) := by decide +kernel
theorem d_Mo_told_42 : decode b_Mo_told 42 = .ok (.iconst 1, 1) := by decide +kernel
theorem d_Mo_told_43 : decode b_Mo_told 43 = .ok (.if_icmp .ne 13, 3) := by decide +kernel
theorem d_Mo_told_46 : decode b_Mo_told 46 = .ok (.aload_n 0, 1) := by decide +kernel
theorem d_Mo_told_47 : decode b_Mo_told 47 = .ok (.getfield 10, 3) := by decide +kernel
theorem d_Mo_told_50 : decode b_Mo_told 50 = .ok (.getfield 101, 3) := by decide +kernel
theorem d_Mo_told_53 : decode b_Mo_told 53 = .ok (.goto 15, 3) := by decide +kernel
theorem d_Mo_told_56 : decode b_Mo_told 56 = .ok (.aload_n 0, 1) := by decide +kernel
theorem d_Mo_told_57 : decode b_Mo_told 57 = .ok (.getfield 39, 3) := by decide +kernel
theorem d_Mo_told_60 : decode b_Mo_told 60 = .ok (.ifCond .eq 7, 3) := by decide +kernel
theorem d_Mo_told_63 : decode b_Mo_told 63 = .ok (.iconst 1, 1) := by decide +kernel
theorem d_Mo_told_64 : decode b_Mo_told 64 = .ok (.goto 4, 3) := by decide +kernel
theorem d_Mo_told_67 : decode b_Mo_told 67 = .ok (.iconst 0, 1) := by decide +kernel
theorem d_Mo_told_68 : decode b_Mo_told 68 = .ok (.ireturn, 1) := by decide +kernel
theorem d_Mo_nearest_0 : decode b_Mo_nearest 0 = .ok (.aload_n 0, 1) := by decide +kernel
theorem d_Mo_nearest_1 : decode b_Mo_nearest 1 = .ok (.iconst 0, 1) := by decide +kernel
theorem d_Mo_nearest_2 : decode b_Mo_nearest 2 = .ok (.putfield 32, 3) := by decide +kernel
theorem d_Mo_nearest_5 : decode b_Mo_nearest 5 = .ok (.iload_n 1, 1) := by decide +kernel
theorem d_Mo_nearest_6 : decode b_Mo_nearest 6 = .ok (.ifCond .eq 9, 3) := by decide +kernel
theorem d_Mo_nearest_9 : decode b_Mo_nearest 9 = .ok (.ldc2_w 112, 3) := by decide +kernel
theorem d_Mo_nearest_12 : decode b_Mo_nearest 12 = .ok (.goto 6, 3) := by decide +kernel
theorem d_Mo_nearest_15 : decode b_Mo_nearest 15 = .ok (.ldc2_w 114, 3) := by decide +kernel
theorem d_Mo_nearest_18 : decode b_Mo_nearest 18 = .ok (.lstore_n 2, 1) := by decide +kernel
theorem d_Mo_nearest_19 : decode b_Mo_nearest 19 = .ok (.aload_n 0, 1) := by decide +kernel
theorem d_Mo_nearest_20 : decode b_Mo_nearest 20 = .ok (.getfield 10, 3) := by decide +kernel
theorem d_Mo_nearest_23 : decode b_Mo_nearest 23 = .ok (.getfield 36, 3) := by decide +kernel
theorem d_Mo_nearest_26 : decode b_Mo_nearest 26 = .ok (.ifCond .eq 16, 3) := by decide +kernel
theorem d_Mo_nearest_29 : decode b_Mo_nearest 29 = .ok (.aload_n 0, 1) := by decide +kernel
theorem d_Mo_nearest_30 : decode b_Mo_nearest 30 = .ok (.getfield 10, 3) := by decide +kernel
theorem d_Mo_nearest_33 : decode b_Mo_nearest 33 = .ok (.getfield 101, 3) := by decide +kernel
theorem d_Mo_nearest_36 : decode b_Mo_nearest 36 = .ok (.sipush (-400), 3) := by decide +kernel
theorem d_Mo_nearest_39 : decode b_Mo_nearest 39 = .ok (.if_icmp .ge 5, 3) := by decide +kernel
theorem d_Mo_nearest_42 : decode b_Mo_nearest 42 = .ok (.lconst 0, 1) := by decide +kernel
theorem d_Mo_nearest_43 : decode b_Mo_nearest 43 = .ok (.lreturn, 1) := by decide +kernel
theorem d_Mo_nearest_44 : decode b_Mo_nearest 44 = .ok (.aload_n 0, 1) := by decide +kernel
theorem d_Mo_nearest_45 : decode b_Mo_nearest 45 = .ok (.getfield 10, 3) := by decide +kernel
theorem d_Mo_nearest_48 : decode b_Mo_nearest 48 = .ok (.getfield 101, 3) := by decide +kernel
theorem d_Mo_nearest_51 : decode b_Mo_nearest 51 = .ok (.sipush 400, 3) := by decide +kernel
theorem d_Mo_nearest_54 : decode b_Mo_nearest 54 = .ok (.if_icmp .le 5, 3) := by decide +kernel
theorem d_Mo_nearest_57 : decode b_Mo_nearest 57 = .ok (.lload_n 2, 1) := by decide +kernel
theorem d_Mo_nearest_58 : decode b_Mo_nearest 58 = .ok (.lreturn, 1) := by decide +kernel
theorem d_Mo_nearest_59 : decode b_Mo_nearest 59 = .ok (.aload_n 0, 1) := by decide +kernel
theorem d_Mo_nearest_60 : decode b_Mo_nearest 60 = .ok (.getfield 28, 3) := by decide +kernel
theorem d_Mo_nearest_63 : decode b_Mo_nearest 63 = .ok (.invokevirtual 116, 3) := by decide +kernel
theorem d_Mo_nearest_66 : decode b_Mo_nearest 66 = .ok (.iconst 0, 1) := by decide +kernel
theorem d_Mo_nearest_67 : decode b_Mo_nearest 67 = .ok (.istore 4, 2) := by decide +kernel
theorem d_Mo_nearest_69 : decode b_Mo_nearest 69 = .ok (.iload 4, 2) := by decide +kernel
theorem d_Mo_nearest_71 : decode b_Mo_nearest 71 = .ok (.aload_n 0, 1) := by decide +kernel
theorem d_Mo_nearest_72 : decode b_Mo_nearest 72 = .ok (.getfield 10, 3) := by decide +kernel
theorem d_Mo_nearest_75 : decode b_Mo_nearest 75 = .ok (.getfield 36, 3) := by decide +kernel
theorem d_Mo_nearest_78 : decode b_Mo_nearest 78 = .ok (.if_icmp .ge 51, 3) := by decide +kernel
theorem d_Mo_nearest_81 : decode b_Mo_nearest 81 = .ok (.aload_n 0, 1) := by decide +kernel
theorem d_Mo_nearest_82 : decode b_Mo_nearest 82 = .ok (.getfield 10, 3) := by decide +kernel
theorem d_Mo_nearest_85 : decode b_Mo_nearest 85 = .ok (.getfield 90, 3) := by decide +kernel
theorem d_Mo_nearest_88 : decode b_Mo_nearest 88 = .ok (.iload 4, 2) := by decide +kernel
theorem d_Mo_nearest_90 : decode b_Mo_nearest 90 = .ok (.baload, 1) := by decide +kernel
theorem d_Mo_nearest_91 : decode b_Mo_nearest 91 = .ok (.ifCond .le 32, 3) := by decide +kernel
theorem d_Mo_nearest_94 : decode b_Mo_nearest 94 = .ok (.aload_n 0, 1) := by decide +kernel
theorem d_Mo_nearest_95 : decode b_Mo_nearest 95 = .ok (.getfield 28, 3) := by decide +kernel
theorem d_Mo_nearest_98 : decode b_Mo_nearest 98 = .ok (.aload_n 0, 1) := by decide +kernel
theorem d_Mo_nearest_99 : decode b_Mo_nearest 99 = .ok (.getfield 10, 3) := by decide +kernel
theorem d_Mo_nearest_102 : decode b_Mo_nearest 102 = .ok (.getfield 90, 3) := by decide +kernel
theorem d_Mo_nearest_105 : decode b_Mo_nearest 105 = .ok (.iload 4, 2) := by decide +kernel
theorem d_Mo_nearest_107 : decode b_Mo_nearest 107 = .ok (.baload, 1) := by decide +kernel
theorem d_Mo_nearest_108 : decode b_Mo_nearest 108 = .ok (.aload_n 0, 1) := by decide +kernel
theorem d_Mo_nearest_109 : decode b_Mo_nearest 109 = .ok (.getfield 10, 3) := by decide +kernel
theorem d_Mo_nearest_112 : decode b_Mo_nearest 112 = .ok (.getfield 101, 3) := by decide +kernel
theorem d_Mo_nearest_115 : decode b_Mo_nearest 115 = .ok (.iconst 1, 1) := by decide +kernel
theorem d_Mo_nearest_116 : decode b_Mo_nearest 116 = .ok (.isub, 1) := by decide +kernel
theorem d_Mo_nearest_117 : decode b_Mo_nearest 117 = .ok (.iload 4, 2) := by decide +kernel
theorem d_Mo_nearest_119 : decode b_Mo_nearest 119 = .ok (.isub, 1) := by decide +kernel
theorem d_Mo_nearest_120 : decode b_Mo_nearest 120 = .ok (.invokevirtual 119, 3) := by decide +kernel
theorem d_Mo_nearest_123 : decode b_Mo_nearest 123 = .ok (.iinc 4 1, 3) := by decide +kernel
theorem d_Mo_nearest_126 : decode b_Mo_nearest 126 = .ok (.goto (-57), 3) := by decide +kernel
theorem d_Mo_nearest_129 : decode b_Mo_nearest 129 = .ok (.iload_n 1, 1) := by decide +kernel
theorem d_Mo_nearest_130 : decode b_Mo_nearest 130 = .ok (.ifCond .eq 8, 3) := by decide +kernel
theorem d_Mo_nearest_133 : decode b_Mo_nearest 133 = .ok (.bipush 24, 2) := by decide +kernel
theorem d_Mo_nearest_135 : decode b_Mo_nearest 135 = .ok (.goto 5, 3) := by decide +kernel
theorem d_Mo_nearest_138 : decode b_Mo_nearest 138 = .ok (.bipush 53, 2) := by decide +kernel
theorem d_Mo_nearest_140 : decode b_Mo_nearest 140 = .ok (.istore 4, 2) := by decide +kernel
theorem d_Mo_nearest_142 : decode b_Mo_nearest 142 = .ok (.iload_n 1, 1) := by decide +kernel
theorem d_Mo_nearest_143 : decode b_Mo_nearest 143 = .ok (.ifCond .eq 9, 3) := by decide +kernel
theorem d_Mo_nearest_146 : decode b_Mo_nearest 146 = .ok (.sipush (-149), 3) := by decide +kernel
theorem d_Mo_nearest_149 : decode b_Mo_nearest 149 = .ok (.goto 6, 3) := by decide +kernel
theorem d_Mo_nearest_152 : decode b_Mo_nearest 152 = .ok (.sipush (-1074), 3) := by decide +kernel
theorem d_Mo_nearest_155 : decode b_Mo_nearest 155 = .ok (.istore 5, 2) := by decide +kernel
theorem d_Mo_nearest_157 : decode b_Mo_nearest 157 = .ok (.iload_n 1, 1) := by decide +kernel
theorem d_Mo_nearest_158 : decode b_Mo_nearest 158 = .ok (.ifCond .eq 8, 3) := by decide +kernel
theorem d_Mo_nearest_161 : decode b_Mo_nearest 161 = .ok (.bipush 104, 2) := by decide +kernel
theorem d_Mo_nearest_163 : decode b_Mo_nearest 163 = .ok (.goto 6, 3) := by decide +kernel
theorem d_Mo_nearest_166 : decode b_Mo_nearest 166 = .ok (.sipush 971, 3) := by decide +kernel
theorem d_Mo_nearest_169 : decode b_Mo_nearest 169 = .ok (.istore 6, 2) := by decide +kernel
theorem d_Mo_nearest_171 : decode b_Mo_nearest 171 = .ok (.iconst 0, 1) := by decide +kernel
theorem d_Mo_nearest_172 : decode b_Mo_nearest 172 = .ok (.istore 7, 2) := by decide +kernel
theorem d_Mo_nearest_174 : decode b_Mo_nearest 174 = .ok (.aload_n 0, 1) := by decide +kernel
theorem d_Mo_nearest_175 : decode b_Mo_nearest 175 = .ok (.getfield 28, 3) := by decide +kernel
theorem d_Mo_nearest_178 : decode b_Mo_nearest 178 = .ok (.getfield 123, 3) := by decide +kernel
theorem d_Mo_nearest_181 : decode b_Mo_nearest 181 = .ok (.bipush 43, 2) := by decide +kernel
theorem d_Mo_nearest_183 : decode b_Mo_nearest 183 = .ok (.if_icmp .lt 12, 3) := by decide +kernel
theorem d_Mo_nearest_186 : decode b_Mo_nearest 186 = .ok (.aload_n 0, 1) := by decide +kernel
theorem d_Mo_nearest_187 : decode b_Mo_nearest 187 = .ok (.invokevirtual 126, 3) := by decide +kernel
theorem d_Mo_nearest_190 : decode b_Mo_nearest 190 = .ok (.iload 4, 2) := by decide +kernel
theorem d_Mo_nearest_192 : decode b_Mo_nearest 192 = .ok (.if_icmp .le 16, 3) := by decide +kernel
theorem d_Mo_nearest_195 : decode b_Mo_nearest 195 = .ok (.aload_n 0, 1) := by decide +kernel
theorem d_Mo_nearest_196 : decode b_Mo_nearest 196 = .ok (.getfield 28, 3) := by decide +kernel
theorem d_Mo_nearest_199 : decode b_Mo_nearest 199 = .ok (.invokevirtual 129, 3) := by decide +kernel
theorem d_Mo_nearest_202 : decode b_Mo_nearest 202 = .ok (.iinc 7 1, 3) := by decide +kernel
theorem d_Mo_nearest_205 : decode b_Mo_nearest 205 = .ok (.goto (-31), 3) := by decide +kernel
theorem d_Mo_nearest_208 : decode b_Mo_nearest 208 = .ok (.aload_n 0, 1) := by decide +kernel
theorem d_Mo_nearest_209 : decode b_Mo_nearest 209 = .ok (.invokevirtual 126, 3) := by decide +kernel
theorem d_Mo_nearest_212 : decode b_Mo_nearest 212 = .ok (.iload 4, 2) := by decide +kernel
theorem d_Mo_nearest_214 : decode b_Mo_nearest 214 = .ok (.if_icmp .ge 23, 3) := by decide +kernel
theorem d_Mo_nearest_217 : decode b_Mo_nearest 217 = .ok (.iload 7, 2) := by decide +kernel
theorem d_Mo_nearest_219 : decode b_Mo_nearest 219 = .ok (.iload 5, 2) := by decide +kernel
theorem d_Mo_nearest_221 : decode b_Mo_nearest 221 = .ok (.if_icmp .le 16, 3) := by decide +kernel
theorem d_Mo_nearest_224 : decode b_Mo_nearest 224 = .ok (.aload_n 0, 1) := by decide +kernel
theorem d_Mo_nearest_225 : decode b_Mo_nearest 225 = .ok (.getfield 28, 3) := by decide +kernel
theorem d_Mo_nearest_228 : decode b_Mo_nearest 228 = .ok (.invokevirtual 132, 3) := by decide +kernel
theorem d_Mo_nearest_231 : decode b_Mo_nearest 231 = .ok (.iinc 7 (-1), 3) := by decide +kernel
theorem d_Mo_nearest_234 : decode b_Mo_nearest 234 = .ok (.goto (-26), 3) := by decide +kernel
theorem d_Mo_nearest_237 : decode b_Mo_nearest 237 = .ok (.aload_n 0, 1) := by decide +kernel
theorem d_Mo_nearest_238 : decode b_Mo_nearest 238 = .ok (.invokevirtual 135, 3) := by decide +kernel
theorem d_Mo_nearest_241 : decode b_Mo_nearest 241 = .ok (.lstore 8, 2) := by decide +kernel
theorem d_Mo_nearest_243 : decode b_Mo_nearest 243 = .ok (.aload_n 0, 1) := by decide +kernel
theorem d_Mo_nearest_244 : decode b_Mo_nearest 244 = .ok (.getfield 28, 3) := by decide +kernel
theorem d_Mo_nearest_247 : decode b_Mo_nearest 247 = .ok (.iconst (-1), 1) := by decide +kernel
theorem d_Mo_nearest_248 : decode b_Mo_nearest 248 = .ok (.invokevirtual 139, 3) := by decide +kernel
theorem d_Mo_nearest_251 : decode b_Mo_nearest 251 = .ok (.iconst 5, 1) := by decide +kernel
theorem d_Mo_nearest_252 : decode b_Mo_nearest 252 = .ok (.if_icmp .lt 7, 3) := by decide +kernel
theorem d_Mo_nearest_255 : decode b_Mo_nearest 255 = .ok (.iconst 1, 1) := by decide +kernel
theorem d_Mo_nearest_256 : decode b_Mo_nearest 256 = .ok (.goto 4, 3) := by decide +kernel
theorem d_Mo_nearest_259 : decode b_Mo_nearest 259 = .ok (.iconst 0, 1) := by decide +kernel
theorem d_Mo_nearest_260 : decode b_Mo_nearest 260 = .ok (.istore 10, 2) := by decide +kernel
theorem d_Mo_nearest_262 : decode b_Mo_nearest 262 = .ok (.aload_n 0, 1) := by decide +kernel
theorem d_Mo_nearest_263 : decode b_Mo_nearest 263 = .ok (.getfield 28, 3) := by decide +kernel
theorem d_Mo_nearest_266 : decode b_Mo_nearest 266 = .ok (.iconst (-1), 1) := by decide +kernel
theorem d_Mo_nearest_267 : decode b_Mo_nearest 267 = .ok (.invokevirtual 139, 3) := by decide +kernel
theorem d_Mo_nearest_270 : decode b_Mo_nearest 270 = .ok (.iconst 5, 1) := by decide +kernel
theorem d_Mo_nearest_271 : decode b_Mo_nearest 271 = .ok (.if_icmp .ne 25, 3) := by decide +kernel
theorem d_Mo_nearest_274 : decode b_Mo_nearest 274 = .ok (.aload_n 0, 1) := by decide +kernel
theorem d_Mo_nearest_275 : decode b_Mo_nearest 275 = .ok (.getfield 28, 3) := by decide +kernel
theorem d_Mo_nearest_278 : decode b_Mo_nearest 278 = .ok (.iconst (-1), 1) := by decide +kernel
theorem d_Mo_nearest_279 : decode b_Mo_nearest 279 = .ok (.invokevirtual 143, 3) := by decide +kernel
theorem d_Mo_nearest_282 : decode b_Mo_nearest 282 = .ok (.ifCond .ne 14, 3) := by decide +kernel
theorem d_Mo_nearest_285 : decode b_Mo_nearest 285 = .ok (.aload_n 0, 1) := by decide +kernel
theorem d_Mo_nearest_286 : decode b_Mo_nearest 286 = .ok (.getfield 39, 3) := by decide +kernel
theorem d_Mo_nearest_289 : decode b_Mo_nearest 289 = .ok (.ifCond .ne 7, 3) := by decide +kernel
theorem d_Mo_nearest_292 : decode b_Mo_nearest 292 = .ok (.iconst 1, 1) := by decide +kernel
theorem d_Mo_nearest_293 : decode b_Mo_nearest 293 = .ok (.goto 4, 3) := by decide +kernel
theorem d_Mo_nearest_296 : decode b_Mo_nearest 296 = .ok (.iconst 0, 1) := by decide +kernel
theorem d_Mo_nearest_297 : decode b_Mo_nearest 297 = .ok (.istore 11, 2) := by decide +kernel
theorem d_Mo_nearest_299 : decode b_Mo_nearest 299 = .ok (.iload 10, 2) := by decide +kernel
theorem d_Mo_nearest_301 : decode b_Mo_nearest 301 = .ok (.ifCond .eq 23, 3) := by decide +kernel
theorem d_Mo_nearest_304 : decode b_Mo_nearest 304 = .ok (.iload 11, 2) := by decide +kernel
theorem d_Mo_nearest_306 : decode b_Mo_nearest 306 = .ok (.ifCond .eq 12, 3) := by decide +kernel
theorem d_Mo_nearest_309 : decode b_Mo_nearest 309 = .ok (.lload 8, 2) := by decide +kernel
theorem d_Mo_nearest_311 : decode b_Mo_nearest 311 = .ok (.lconst 1, 1) := by decide +kernel
theorem d_Mo_nearest_312 : decode b_Mo_nearest 312 = .ok (.land, 1) := by decide +kernel
theorem d_Mo_nearest_313 : decode b_Mo_nearest 313 = .ok (.lconst 1, 1) := by decide +kernel
theorem d_Mo_nearest_314 : decode b_Mo_nearest 314 = .ok (.lcmp, 1) := by decide +kernel
theorem d_Mo_nearest_315 : decode b_Mo_nearest 315 = .ok (.ifCond .ne 9, 3) := by decide +kernel
theorem d_Mo_nearest_318 : decode b_Mo_nearest 318 = .ok (.lload 8, 2) := by decide +kernel
theorem d_Mo_nearest_320 : decode b_Mo_nearest 320 = .ok (.lconst 1, 1) := by decide +kernel
theorem d_Mo_nearest_321 : decode b_Mo_nearest 321 = .ok (.ladd, 1) := by decide +kernel
theorem d_Mo_nearest_322 : decode b_Mo_nearest 322 = .ok (.lstore 8, 2) := by decide +kernel
theorem d_Mo_nearest_324 : decode b_Mo_nearest 324 = .ok (.lload 8, 2) := by decide +kernel
theorem d_Mo_nearest_326 : decode b_Mo_nearest 326 = .ok (.iload 4, 2) := by decide +kernel
theorem d_Mo_nearest_328 : decode b_Mo_nearest 328 = .ok (.lshr, 1) := by decide +kernel
theorem d_Mo_nearest_329 : decode b_Mo_nearest 329 = .ok (.lconst 0, 1) := by decide +kernel
theorem d_Mo_nearest_330 : decode b_Mo_nearest 330 = .ok (.lcmp, 1) := by decide +kernel
theorem d_Mo_nearest_331 : decode b_Mo_nearest 331 = .ok (.ifCond .le 12, 3) := by decide +kernel
theorem d_Mo_nearest_334 : decode b_Mo_nearest 334 = .ok (.lload 8, 2) := by decide +kernel
theorem d_Mo_nearest_336 : decode b_Mo_nearest 336 = .ok (.iconst 1, 1) := by decide +kernel
theorem d_Mo_nearest_337 : decode b_Mo_nearest 337 = .ok (.lshr, 1) := by decide +kernel
theorem d_Mo_nearest_338 : decode b_Mo_nearest 338 = .ok (.lstore 8, 2) := by decide +kernel
theorem d_Mo_nearest_340 : decode b_Mo_nearest 340 = .ok (.iinc 7 1, 3) := by decide +kernel
theorem d_Mo_nearest_343 : decode b_Mo_nearest 343 = .ok (.iload 7, 2) := by decide +kernel
theorem d_Mo_nearest_345 : decode b_Mo_nearest 345 = .ok (.iload 6, 2) := by decide +kernel
theorem d_Mo_nearest_347 : decode b_Mo_nearest 347 = .ok (.if_icmp .le 5, 3) := by decide +kernel
theorem d_Mo_nearest_350 : decode b_Mo_nearest 350 = .ok (.lload_n 2, 1) := by decide +kernel
theorem d_Mo_nearest_351 : decode b_Mo_nearest 351 = .ok (.lreturn, 1) := by decide +kernel
theorem d_Mo_nearest_352 : decode b_Mo_nearest 352 = .ok (.lload 8, 2) := by decide +kernel
theorem d_Mo_nearest_354 : decode b_Mo_nearest 354 = .ok (.iload 4, 2) := by decide +kernel
theorem d_Mo_nearest_356 : decode b_Mo_nearest 356 = .ok (.iconst 1, 1) := by decide +kernel
theorem d_Mo_nearest_357 : decode b_Mo_nearest 357 = .ok (.isub, 1) := by decide +kernel
theorem d_Mo_nearest_358 : decode b_Mo_nearest 358 = .ok (.lshr, 1) := by decide +kernel
theorem d_Mo_nearest_359 : decode b_Mo_nearest 359 = .ok (.lconst 0, 1) := by decide +kernel
theorem d_Mo_nearest_360 : decode b_Mo_nearest 360 = .ok (.lcmp, 1) := by decide +kernel
theorem d_Mo_nearest_361 : decode b_Mo_nearest 361 = .ok (.ifCond .ne 6, 3) := by decide +kernel
theorem d_Mo_nearest_364 : decode b_Mo_nearest 364 = .ok (.lload 8, 2) := by decide +kernel
theorem d_Mo_nearest_366 : decode b_Mo_nearest 366 = .ok (.lreturn, 1) := by decide +kernel
theorem d_Mo_nearest_367 : decode b_Mo_nearest 367 = .ok (.iload 7, 2) := by decide +kernel
theorem d_Mo_nearest_369 : decode b_Mo_nearest 369 = .ok (.iload 5, 2) := by decide +kernel
theorem d_Mo_nearest_371 : decode b_Mo_nearest 371 = .ok (.isub, 1) := by decide +kernel
theorem d_Mo_nearest_372 : decode b_Mo_nearest 372 = .ok (.iconst 1, 1) := by decide +kernel
theorem d_Mo_nearest_373 : decode b_Mo_nearest 373 = .ok (.iadd, 1) := by decide +kernel
theorem d_Mo_nearest_374 : decode b_Mo_nearest 374 = .ok (.i2l, 1) := by decide +kernel
theorem d_Mo_nearest_375 : decode b_Mo_nearest 375 = .ok (.iload 4, 2) := by decide +kernel
theorem d_Mo_nearest_377 : decode b_Mo_nearest 377 = .ok (.iconst 1, 1) := by decide +kernel
theorem d_Mo_nearest_378 : decode b_Mo_nearest 378 = .ok (.isub, 1) := by decide +kernel
theorem d_Mo_nearest_379 : decode b_Mo_nearest 379 = .ok (.lshl, 1) := by decide +kernel
theorem d_Mo_nearest_380 : decode b_Mo_nearest 380 = .ok (.lload 8, 2) := by decide +kernel
theorem d_Mo_nearest_382 : decode b_Mo_nearest 382 = .ok (.lconst 1, 1) := by decide +kernel
theorem d_Mo_nearest_383 : decode b_Mo_nearest 383 = .ok (.iload 4, 2) := by decide +kernel
theorem d_Mo_nearest_385 : decode b_Mo_nearest 385 = .ok (.iconst 1, 1) := by decide +kernel
theorem d_Mo_nearest_386 : decode b_Mo_nearest 386 = .ok (.isub, 1) := by decide +kernel
theorem d_Mo_nearest_387 : decode b_Mo_nearest 387 = .ok (.lshl, 1) := by decide +kernel
theorem d_Mo_nearest_388 : decode b_Mo_nearest 388 = .ok (.lconst 1, 1) := by decide +kernel
theorem d_Mo_nearest_389 : decode b_Mo_nearest 389 = .ok (.lsub, 1) := by decide +kernel
theorem d_Mo_nearest_390 : decode b_Mo_nearest 390 = .ok (.land, 1) := by decide +kernel
theorem d_Mo_nearest_391 : decode b_Mo_nearest 391 = .ok (.lor, 1) := by decide +kernel
theorem d_Mo_nearest_392 : decode b_Mo_nearest 392 = .ok (.lreturn, 1) := by decide +kernel
theorem d_Mo_bits_0 : decode b_Mo_bits 0 = .ok (.bipush 64, 2) := by decide +kernel
theorem d_Mo_bits_2 : decode b_Mo_bits 2 = .ok (.aload_n 0, 1) := by decide +kernel
theorem d_Mo_bits_3 : decode b_Mo_bits 3 = .ok (.invokevirtual 135, 3) := by decide +kernel
theorem d_Mo_bits_6 : decode b_Mo_bits 6 = .ok (.invokestatic 147, 3) := by decide +kernel
theorem d_Mo_bits_9 : decode b_Mo_bits 9 = .ok (.isub, 1) := by decide +kernel
theorem d_Mo_bits_10 : decode b_Mo_bits 10 = .ok (.ireturn, 1) := by decide +kernel
theorem d_Mo_ones_0 : decode b_Mo_ones 0 = .ok (.aload_n 0, 1) := by decide +kernel
theorem d_Mo_ones_1 : decode b_Mo_ones 1 = .ok (.getfield 28, 3) := by decide +kernel
theorem d_Mo_ones_4 : decode b_Mo_ones 4 = .ok (.getfield 153, 3) := by decide +kernel
theorem d_Mo_ones_7 : decode b_Mo_ones 7 = .ok (.bipush 43, 2) := by decide +kernel
theorem d_Mo_ones_9 : decode b_Mo_ones 9 = .ok (.iaload, 1) := by decide +kernel
theorem d_Mo_ones_10 : decode b_Mo_ones 10 = .ok (.i2l, 1) := by decide +kernel
theorem d_Mo_ones_11 : decode b_Mo_ones 11 = .ok (.ldc2_w 157, 3) := by decide +kernel
theorem d_Mo_ones_14 : decode b_Mo_ones 14 = .ok (.lmul, 1) := by decide +kernel
theorem d_Mo_ones_15 : decode b_Mo_ones 15 = .ok (.aload_n 0, 1) := by decide +kernel
theorem d_Mo_ones_16 : decode b_Mo_ones 16 = .ok (.getfield 28, 3) := by decide +kernel
theorem d_Mo_ones_19 : decode b_Mo_ones 19 = .ok (.getfield 153, 3) := by decide +kernel
theorem d_Mo_ones_22 : decode b_Mo_ones 22 = .ok (.bipush 44, 2) := by decide +kernel
theorem d_Mo_ones_24 : decode b_Mo_ones 24 = .ok (.iaload, 1) := by decide +kernel
theorem d_Mo_ones_25 : decode b_Mo_ones 25 = .ok (.i2l, 1) := by decide +kernel
theorem d_Mo_ones_26 : decode b_Mo_ones 26 = .ok (.ladd, 1) := by decide +kernel
theorem d_Mo_ones_27 : decode b_Mo_ones 27 = .ok (.lreturn, 1) := by decide +kernel
theorem d_Mo_digest_0 : decode b_Mo_digest 0 = .ok (.aload_n 0, 1) := by decide +kernel
theorem d_Mo_digest_1 : decode b_Mo_digest 1 = .ok (.iconst 0, 1) := by decide +kernel
theorem d_Mo_digest_2 : decode b_Mo_digest 2 = .ok (.putfield 32, 3) := by decide +kernel
theorem d_Mo_digest_5 : decode b_Mo_digest 5 = .ok (.ldc2_w 159, 3) := by decide +kernel
theorem d_Mo_digest_8 : decode b_Mo_digest 8 = .ok (.lstore_n 1, 1) := by decide +kernel
theorem d_Mo_digest_9 : decode b_Mo_digest 9 = .ok (.iconst 0, 1) := by decide +kernel
theorem d_Mo_digest_10 : decode b_Mo_digest 10 = .ok (.istore_n 3, 1) := by decide +kernel
theorem d_Mo_digest_11 : decode b_Mo_digest 11 = .ok (.iload_n 3, 1) := by decide +kernel
theorem d_Mo_digest_12 : decode b_Mo_digest 12 = .ok (.aload_n 0, 1) := by decide +kernel
theorem d_Mo_digest_13 : decode b_Mo_digest 13 = .ok (.getfield 10, 3) := by decide +kernel
theorem d_Mo_digest_16 : decode b_Mo_digest 16 = .ok (.getfield 36, 3) := by decide +kernel
theorem d_Mo_digest_19 : decode b_Mo_digest 19 = .ok (.if_icmp .ge 26, 3) := by decide +kernel
theorem d_Mo_digest_22 : decode b_Mo_digest 22 = .ok (.ldc2_w 161, 3) := by decide +kernel
theorem d_Mo_digest_25 : decode b_Mo_digest 25 = .ok (.lload_n 1, 1) := by decide +kernel
theorem d_Mo_digest_26 : decode b_Mo_digest 26 = .ok (.lmul, 1) := by decide +kernel
theorem d_Mo_digest_27 : decode b_Mo_digest 27 = .ok (.aload_n 0, 1) := by decide +kernel
theorem d_Mo_digest_28 : decode b_Mo_digest 28 = .ok (.getfield 10, 3) := by decide +kernel
theorem d_Mo_digest_31 : decode b_Mo_digest 31 = .ok (.getfield 90, 3) := by decide +kernel
theorem d_Mo_digest_34 : decode b_Mo_digest 34 = .ok (.iload_n 3, 1) := by decide +kernel
theorem d_Mo_digest_35 : decode b_Mo_digest 35 = .ok (.baload, 1) := by decide +kernel
theorem d_Mo_digest_36 : decode b_Mo_digest 36 = .ok (.i2l, 1) := by decide +kernel
theorem d_Mo_digest_37 : decode b_Mo_digest 37 = .ok (.ladd, 1) := by decide +kernel
theorem d_Mo_digest_38 : decode b_Mo_digest 38 = .ok (.lstore_n 1, 1) := by decide +kernel
theorem d_Mo_digest_39 : decode b_Mo_digest 39 = .ok (.iinc 3 1, 3) := by decide +kernel
theorem d_Mo_digest_42 : decode b_Mo_digest 42 = .ok (.goto (-31), 3) := by decide +kernel
theorem d_Mo_digest_45 : decode b_Mo_digest 45 = .ok (.ldc2_w 161, 3) := by decide +kernel
theorem d_Mo_digest_48 : decode b_Mo_digest 48 = .ok (.lload_n 1, 1) := by decide +kernel
theorem d_Mo_digest_49 : decode b_Mo_digest 49 = .ok (.lmul, 1) := by decide +kernel
theorem d_Mo_digest_50 : decode b_Mo_digest 50 = .ok (.aload_n 0, 1) := by decide +kernel
theorem d_Mo_digest_51 : decode b_Mo_digest 51 = .ok (.getfield 10, 3) := by decide +kernel
theorem d_Mo_digest_54 : decode b_Mo_digest 54 = .ok (.getfield 101, 3) := by decide +kernel
theorem d_Mo_digest_57 : decode b_Mo_digest 57 = .ok (.i2l, 1) := by decide +kernel
theorem d_Mo_digest_58 : decode b_Mo_digest 58 = .ok (.ladd, 1) := by decide +kernel
theorem d_Mo_digest_59 : decode b_Mo_digest 59 = .ok (.lreturn, 1) := by decide +kernel
