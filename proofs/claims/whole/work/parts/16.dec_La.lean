theorem d_La_real_0 : decode b_La_real 0 = .ok (.aload 4, 2) := by decide +kernel
theorem d_La_real_2 : decode b_La_real 2 = .ok (.iconst 0, 1) := by decide +kernel
theorem d_La_real_3 : decode b_La_real 3 = .ok (.aload_n 0, 1) := by decide +kernel
theorem d_La_real_4 : decode b_La_real 4 = .ok (.lload_n 1, 1) := by decide +kernel
theorem d_La_real_5 : decode b_La_real 5 = .ok (.iload_n 3, 1) := by decide +kernel
theorem d_La_real_6 : decode b_La_real 6 = .ok (.invokevirtual 7, 3) := by decide +kernel
theorem d_La_real_9 : decode b_La_real 9 = .ok (.i2l, 1) := by decide +kernel
theorem d_La_real_10 : decode b_La_real 10 = .ok (.lastore, 1) := by decide +kernel
theorem d_La_real_11 : decode b_La_real 11 = .ok (.goto 7, 3) := by decide +kernel
theorem d_La_real_14 : decode b_La_real 14 = .ok (.astore 5, 2) := by decide +kernel
theorem d_La_real_16 : decode b_La_real 16 = .ok (.iconst 1, 1) := by decide +kernel
theorem d_La_real_17 : decode b_La_real 17 = .ok (.ireturn, 1) := by decide +kernel
theorem d_La_real_18 : decode b_La_real 18 = .ok (.iconst 0, 1) := by decide +kernel
theorem d_La_real_19 : decode b_La_real 19 = .ok (.ireturn, 1) := by decide +kernel
theorem d_La_shortest_0 : decode b_La_shortest 0 = .ok (.aload 4, 2) := by decide +kernel
theorem d_La_shortest_2 : decode b_La_shortest 2 = .ok (.iconst 0, 1) := by decide +kernel
theorem d_La_shortest_3 : decode b_La_shortest 3 = .ok (.aload_n 0, 1) := by decide +kernel
theorem d_La_shortest_4 : decode b_La_shortest 4 = .ok (.lload_n 1, 1) := by decide +kernel
theorem d_La_shortest_5 : decode b_La_shortest 5 = .ok (.iload_n 3, 1) := by decide +kernel
theorem d_La_shortest_6 : decode b_La_shortest 6 = .ok (.invokevirtual 15, 3) := by decide +kernel
theorem d_La_shortest_9 : decode b_La_shortest 9 = .ok (.i2l, 1) := by decide +kernel
theorem d_La_shortest_10 : decode b_La_shortest 10 = .ok (.lastore, 1) := by decide +kernel
theorem d_La_shortest_11 : decode b_La_shortest 11 = .ok (.goto 7, 3) := by decide +kernel
theorem d_La_shortest_14 : decode b_La_shortest 14 = .ok (.astore 5, 2) := by decide +kernel
theorem d_La_shortest_16 : decode b_La_shortest 16 = .ok (.iconst 1, 1) := by decide +kernel
theorem d_La_shortest_17 : decode b_La_shortest 17 = .ok (.ireturn, 1) := by decide +kernel
theorem d_La_shortest_18 : decode b_La_shortest 18 = .ok (.iconst 0, 1) := by decide +kernel
theorem d_La_shortest_19 : decode b_La_shortest 19 = .ok (.ireturn, 1) := by decide +kernel
theorem d_La_put_0 : decode b_La_put 0 = .ok (.aload_n 3, 1) := by decide +kernel
theorem d_La_put_1 : decode b_La_put 1 = .ok (.iconst 0, 1) := by decide +kernel
theorem d_La_put_2 : decode b_La_put 2 = .ok (.aload_n 0, 1) := by decide +kernel
theorem d_La_put_3 : decode b_La_put 3 = .ok (.iload_n 1, 1) := by decide +kernel
theorem d_La_put_4 : decode b_La_put 4 = .ok (.iload_n 2, 1) := by decide +kernel
theorem d_La_put_5 : decode b_La_put 5 = .ok (.invokevirtual 18, 3) := by decide +kernel
theorem d_La_put_8 : decode b_La_put 8 = .ok (.i2l, 1) := by decide +kernel
theorem d_La_put_9 : decode b_La_put 9 = .ok (.lastore, 1) := by decide +kernel
theorem d_La_put_10 : decode b_La_put 10 = .ok (.goto 7, 3) := by decide +kernel
theorem d_La_put_13 : decode b_La_put 13 = .ok (.astore 4, 2) := by decide +kernel
theorem d_La_put_15 : decode b_La_put 15 = .ok (.iconst 1, 1) := by decide +kernel
theorem d_La_put_16 : decode b_La_put 16 = .ok (.ireturn, 1) := by decide +kernel
theorem d_La_put_17 : decode b_La_put 17 = .ok (.iconst 0, 1) := by decide +kernel
theorem d_La_put_18 : decode b_La_put 18 = .ok (.ireturn, 1) := by decide +kernel
theorem d_La_shift_0 : decode b_La_shift 0 = .ok (.aload_n 2, 1) := by decide +kernel
theorem d_La_shift_1 : decode b_La_shift 1 = .ok (.iconst 0, 1) := by decide +kernel
theorem d_La_shift_2 : decode b_La_shift 2 = .ok (.aload_n 0, 1) := by decide +kernel
theorem d_La_shift_3 : decode b_La_shift 3 = .ok (.iload_n 1, 1) := by decide +kernel
theorem d_La_shift_4 : decode b_La_shift 4 = .ok (.invokevirtual 24, 3) := by decide +kernel
theorem d_La_shift_7 : decode b_La_shift 7 = .ok (.i2l, 1) := by decide +kernel
theorem d_La_shift_8 : decode b_La_shift 8 = .ok (.lastore, 1) := by decide +kernel
theorem d_La_shift_9 : decode b_La_shift 9 = .ok (.goto 6, 3) := by decide +kernel
theorem d_La_shift_12 : decode b_La_shift 12 = .ok (.astore_n 3, 1) := by decide +kernel
theorem d_La_shift_13 : decode b_La_shift 13 = .ok (.iconst 1, 1) := by decide +kernel
theorem d_La_shift_14 : decode b_La_shift 14 = .ok (.ireturn, 1) := by decide +kernel
theorem d_La_shift_15 : decode b_La_shift 15 = .ok (.iconst 0, 1) := by decide +kernel
theorem d_La_shift_16 : decode b_La_shift 16 = .ok (.ireturn, 1) := by decide +kernel
theorem d_La_move_0 : decode b_La_move 0 = .ok (.aload_n 2, 1) := by decide +kernel
theorem d_La_move_1 : decode b_La_move 1 = .ok (.iconst 0, 1) := by decide +kernel
theorem d_La_move_2 : decode b_La_move 2 = .ok (.aload_n 0, 1) := by decide +kernel
theorem d_La_move_3 : decode b_La_move 3 = .ok (.iload_n 1, 1) := by decide +kernel
theorem d_La_move_4 : decode b_La_move 4 = .ok (.invokevirtual 28, 3) := by decide +kernel
theorem d_La_move_7 : decode b_La_move 7 = .ok (.i2l, 1) := by decide +kernel
theorem d_La_move_8 : decode b_La_move 8 = .ok (.lastore, 1) := by decide +kernel
theorem d_La_move_9 : decode b_La_move 9 = .ok (.goto 6, 3) := by decide +kernel
theorem d_La_move_12 : decode b_La_move 12 = .ok (.astore_n 3, 1) := by decide +kernel
theorem d_La_move_13 : decode b_La_move 13 = .ok (.iconst 1, 1) := by decide +kernel
theorem d_La_move_14 : decode b_La_move 14 = .ok (.ireturn, 1) := by decide +kernel
theorem d_La_move_15 : decode b_La_move 15 = .ok (.iconst 0, 1) := by decide +kernel
theorem d_La_move_16 : decode b_La_move 16 = .ok (.ireturn, 1) := by decide +kernel
theorem d_La_round_0 : decode b_La_round 0 = .ok (.aload_n 2, 1) := by decide +kernel
theorem d_La_round_1 : decode b_La_round 1 = .ok (.iconst 0, 1) := by decide +kernel
theorem d_La_round_2 : decode b_La_round 2 = .ok (.aload_n 0, 1) := by decide +kernel
theorem d_La_round_3 : decode b_La_round 3 = .ok (.iload_n 1, 1) := by decide +kernel
theorem d_La_round_4 : decode b_La_round 4 = .ok (.invokevirtual 31, 3) := by decide +kernel
theorem d_La_round_7 : decode b_La_round 7 = .ok (.i2l, 1) := by decide +kernel
theorem d_La_round_8 : decode b_La_round 8 = .ok (.lastore, 1) := by decide +kernel
theorem d_La_round_9 : decode b_La_round 9 = .ok (.goto 6, 3) := by decide +kernel
theorem d_La_round_12 : decode b_La_round 12 = .ok (.astore_n 3, 1) := by decide +kernel
theorem d_La_round_13 : decode b_La_round 13 = .ok (.iconst 1, 1) := by decide +kernel
theorem d_La_round_14 : decode b_La_round 14 = .ok (.ireturn, 1) := by decide +kernel
theorem d_La_round_15 : decode b_La_round 15 = .ok (.iconst 0, 1) := by decide +kernel
theorem d_La_round_16 : decode b_La_round 16 = .ok (.ireturn, 1) := by decide +kernel
theorem d_La_cut_0 : decode b_La_cut 0 = .ok (.aload_n 2, 1) := by decide +kernel
theorem d_La_cut_1 : decode b_La_cut 1 = .ok (.iconst 0, 1) := by decide +kernel
theorem d_La_cut_2 : decode b_La_cut 2 = .ok (.aload_n 0, 1) := by decide +kernel
theorem d_La_cut_3 : decode b_La_cut 3 = .ok (.iload_n 1, 1) := by decide +kernel
theorem d_La_cut_4 : decode b_La_cut 4 = .ok (.invokevirtual 34, 3) := by decide +kernel
theorem d_La_cut_7 : decode b_La_cut 7 = .ok (.i2l, 1) := by decide +kernel
theorem d_La_cut_8 : decode b_La_cut 8 = .ok (.lastore, 1) := by decide +kernel
theorem d_La_cut_9 : decode b_La_cut 9 = .ok (.goto 6, 3) := by decide +kernel
theorem d_La_cut_12 : decode b_La_cut 12 = .ok (.astore_n 3, 1) := by decide +kernel
theorem d_La_cut_13 : decode b_La_cut 13 = .ok (.iconst 1, 1) := by decide +kernel
theorem d_La_cut_14 : decode b_La_cut 14 = .ok (.ireturn, 1) := by decide +kernel
theorem d_La_cut_15 : decode b_La_cut 15 = .ok (.iconst 0, 1) := by decide +kernel
theorem d_La_cut_16 : decode b_La_cut 16 = .ok (.ireturn, 1) := by decide +kernel
theorem d_La_told_0 : decode b_La_told 0 = .ok (.aload_n 2, 1) := by decide +kernel
theorem d_La_told_1 : decode b_La_told 1 = .ok (.iconst 0, 1) := by decide +kernel
theorem d_La_told_2 : decode b_La_told 2 = .ok (.aload_n 0, 1) := by decide +kernel
theorem d_La_told_3 : decode b_La_told 3 = .ok (.iload_n 1, 1) := by decide +kernel
theorem d_La_told_4 : decode b_La_told 4 = .ok (.invokevirtual 37, 3) := by decide +kernel
theorem d_La_told_7 : decode b_La_told 7 = .ok (.i2l, 1) := by decide +kernel
theorem d_La_told_8 : decode b_La_told 8 = .ok (.lastore, 1) := by decide +kernel
theorem d_La_told_9 : decode b_La_told 9 = .ok (.goto 6, 3) := by decide +kernel
theorem d_La_told_12 : decode b_La_told 12 = .ok (.astore_n 3, 1) := by decide +kernel
theorem d_La_told_13 : decode b_La_told 13 = .ok (.iconst 1, 1) := by decide +kernel
theorem d_La_told_14 : decode b_La_told 14 = .ok (.ireturn, 1) := by decide +kernel
theorem d_La_told_15 : decode b_La_told 15 = .ok (.iconst 0, 1) := by decide +kernel
theorem d_La_told_16 : decode b_La_told 16 = .ok (.ireturn, 1) := by decide +kernel
theorem d_La_law_0 : decode b_La_law 0 = .ok (.new 8, 3) := by decide +kernel
theorem d_La_law_3 : decode b_La_law 3 = .ok (.dup, 1) := by decide +kernel
theorem d_La_law_4 : decode b_La_law 4 = .ok (.invokespecial 40, 3) := by decide +kernel
theorem d_La_law_7 : decode b_La_law 7 = .ok (.astore_n 1, 1) := by decide +kernel
theorem d_La_law_8 : decode b_La_law 8 = .ok (.new 41, 3) := by decide +kernel
theorem d_La_law_11 : decode b_La_law 11 = .ok (.dup, 1) := by decide +kernel
theorem d_La_law_12 : decode b_La_law 12 = .ok (.invokespecial 43, 3) := by decide +kernel
theorem d_La_law_15 : decode b_La_law 15 = .ok (.astore_n 2, 1) := by decide +kernel
theorem d_La_law_16 : decode b_La_law 16 = .ok (.iconst 1, 1) := by decide +kernel
theorem d_La_law_17 : decode b_La_law 17 = .ok (.newarray .long, 2) := by decide +kernel
theorem d_La_law_19 : decode b_La_law 19 = .ok (.astore_n 3, 1) := by decide +kernel
theorem d_La_law_20 : decode b_La_law 20 = .ok (.iconst 0, 1) := by decide +kernel
theorem d_La_law_21 : decode b_La_law 21 = .ok (.istore 4, 2) := by decide +kernel
theorem d_La_law_23 : decode b_La_law 23 = .ok (.iload 4, 2) := by decide +kernel
theorem d_La_law_25 : decode b_La_law 25 = .ok (.aload_n 0, 1) := by decide +kernel
theorem d_La_law_26 : decode b_La_law 26 = .ok (.arraylength, 1) := by decide +kernel
theorem d_La_law_27 : decode b_La_law 27 = .ok (.iconst 4, 1) := by decide +kernel
theorem d_La_law_28 : decode b_La_law 28 = .ok (.isub, 1) := by decide +kernel
theorem d_La_law_29 : decode b_La_law 29 = .ok (.if_icmp .gt 795, 3) := by decide +kernel
theorem d_La_law_32 : decode b_La_law 32 = .ok (.aload_n 0, 1) := by decide +kernel
theorem d_La_law_33 : decode b_La_law 33 = .ok (.iload 4, 2) := by decide +kernel
theorem d_La_law_35 : decode b_La_law 35 = .ok (.iaload, 1) := by decide +kernel
theorem d_La_law_36 : decode b_La_law 36 = .ok (.bipush 15, 2) := by decide +kernel
theorem d_La_law_38 : decode b_La_law 38 = .ok (.iand, 1) := by decide +kernel
theorem d_La_law_39 : decode b_La_law 39 = .ok (.tableswitch 779 0 11 #[61, 118, 234, 350, 418, 474, 530, 586, 642, 667, 723, 765], 61) := by decide +kernel
theorem d_La_law_100 : decode b_La_law 100 = .ok (.aload_n 1, 1) := by decide +kernel
theorem d_La_law_101 : decode b_La_law 101 = .ok (.aload_n 0, 1) := by decide +kernel
theorem d_La_law_102 : decode b_La_law 102 = .ok (.iload 4, 2) := by decide +kernel
theorem d_La_law_104 : decode b_La_law 104 = .ok (.iconst 1, 1) := by decide +kernel
theorem d_La_law_105 : decode b_La_law 105 = .ok (.iadd, 1) := by decide +kernel
theorem d_La_law_106 : decode b_La_law 106 = .ok (.iaload, 1) := by decide +kernel
theorem d_La_law_107 : decode b_La_law 107 = .ok (.i2l, 1) := by decide +kernel
theorem d_La_law_108 : decode b_La_law 108 = .ok (.bipush 32, 2) := by decide +kernel
theorem d_La_law_110 : decode b_La_law 110 = .ok (.lshl, 1) := by decide +kernel
theorem d_La_law_111 : decode b_La_law 111 = .ok (.aload_n 0, 1) := by decide +kernel
theorem d_La_law_112 : decode b_La_law 112 = .ok (.iload 4, 2) := by decide +kernel
theorem d_La_law_114 : decode b_La_law 114 = .ok (.iconst 2, 1) := by decide +kernel
theorem d_La_law_115 : decode b_La_law 115 = .ok (.iadd, 1) := by decide +kernel
theorem d_La_law_116 : decode b_La_law 116 = .ok (.iaload, 1) := by decide +kernel
theorem d_La_law_117 : decode b_La_law 117 = .ok (.i2l, 1) := by decide +kernel
theorem d_La_law_118 : decode b_La_law 118 = .ok (.ldc2_w 44, 3) := by decide +kernel
theorem d_La_law_121 : decode b_La_law 121 = .ok (.land, 1) := by decide +kernel
theorem d_La_law_122 : decode b_La_law 122 = .ok (.lor, 1) := by decide +kernel
theorem d_La_law_123 : decode b_La_law 123 = .ok (.invokevirtual 46, 3) := by decide +kernel
theorem d_La_law_126 : decode b_La_law 126 = .ok (.aload_n 2, 1) := by decide +kernel
theorem d_La_law_127 : decode b_La_law 127 = .ok (.aload_n 0, 1) := by decide +kernel
theorem d_La_law_128 : decode b_La_law 128 = .ok (.iload 4, 2) := by decide +kernel
theorem d_La_law_130 : decode b_La_law 130 = .ok (.iconst 1, 1) := by decide +kernel
theorem d_La_law_131 : decode b_La_law 131 = .ok (.iadd, 1) := by decide +kernel
theorem d_La_law_132 : decode b_La_law 132 = .ok (.iaload, 1) := by decide +kernel
theorem d_La_law_133 : decode b_La_law 133 = .ok (.i2l, 1) := by decide +kernel
theorem d_La_law_134 : decode b_La_law 134 = .ok (.bipush 32, 2) := by decide +kernel
theorem d_La_law_136 : decode b_La_law 136 = .ok (.lshl, 1) := by decide +kernel
theorem d_La_law_137 : decode b_La_law 137 = .ok (.aload_n 0, 1) := by decide +kernel
theorem d_La_law_138 : decode b_La_law 138 = .ok (.iload 4, 2) := by decide +kernel
theorem d_La_law_140 : decode b_La_law 140 = .ok (.iconst 2, 1) := by decide +kernel
theorem d_La_law_141 : decode b_La_law 141 = .ok (.iadd, 1) := by decide +kernel
theorem d_La_law_142 : decode b_La_law 142 = .ok (.iaload, 1) := by decide +kernel
theorem d_La_law_143 : decode b_La_law 143 = .ok (.i2l, 1) := by decide +kernel
theorem d_La_law_144 : decode b_La_law 144 = .ok (.ldc2_w 44, 3) := by decide +kernel
theorem d_La_law_147 : decode b_La_law 147 = .ok (.land, 1) := by decide +kernel
theorem d_La_law_148 : decode b_La_law 148 = .ok (.lor, 1) := by decide +kernel
theorem d_La_law_149 : decode b_La_law 149 = .ok (.invokevirtual 50, 3) := by decide +kernel
theorem d_La_law_152 : decode b_La_law 152 = .ok (.if_icmp .eq 666, 3) := by decide +kernel
theorem d_La_law_155 : decode b_La_law 155 = .ok (.iconst 0, 1) := by decide +kernel
theorem d_La_law_156 : decode b_La_law 156 = .ok (.ireturn, 1) := by decide +kernel
theorem d_La_law_157 : decode b_La_law 157 = .ok (.aload_n 1, 1) := by decide +kernel
theorem d_La_law_158 : decode b_La_law 158 = .ok (.aload_n 0, 1) := by decide +kernel
theorem d_La_law_159 : decode b_La_law 159 = .ok (.iload 4, 2) := by decide +kernel
theorem d_La_law_161 : decode b_La_law 161 = .ok (.iconst 1, 1) := by decide +kernel
theorem d_La_law_162 : decode b_La_law 162 = .ok (.iadd, 1) := by decide +kernel
theorem d_La_law_163 : decode b_La_law 163 = .ok (.iaload, 1) := by decide +kernel
theorem d_La_law_164 : decode b_La_law 164 = .ok (.i2l, 1) := by decide +kernel
theorem d_La_law_165 : decode b_La_law 165 = .ok (.bipush 32, 2) := by decide +kernel
theorem d_La_law_167 : decode b_La_law 167 = .ok (.lshl, 1) := by decide +kernel
theorem d_La_law_168 : decode b_La_law 168 = .ok (.aload_n 0, 1) := by decide +kernel
theorem d_La_law_169 : decode b_La_law 169 = .ok (.iload 4, 2) := by decide +kernel
theorem d_La_law_171 : decode b_La_law 171 = .ok (.iconst 2, 1) := by decide +kernel
theorem d_La_law_172 : decode b_La_law 172 = .ok (.iadd, 1) := by decide +kernel
theorem d_La_law_173 : decode b_La_law 173 = .ok (.iaload, 1) := by decide +kernel
theorem d_La_law_174 : decode b_La_law 174 = .ok (.i2l, 1) := by decide +kernel
theorem d_La_law_175 : decode b_La_law 175 = .ok (.ldc2_w 44, 3) := by decide +kernel
theorem d_La_law_178 : decode b_La_law 178 = .ok (.land, 1) := by decide +kernel
theorem d_La_law_179 : decode b_La_law 179 = .ok (.lor, 1) := by decide +kernel
theorem d_La_law_180 : decode b_La_law 180 = .ok (.aload_n 0, 1) := by decide +kernel
theorem d_La_law_181 : decode b_La_law 181 = .ok (.iload 4, 2) := by decide +kernel
theorem d_La_law_183 : decode b_La_law 183 = .ok (.iconst 3, 1) := by decide +kernel
theorem d_La_law_184 : decode b_La_law 184 = .ok (.iadd, 1) := by decide +kernel
theorem d_La_law_185 : decode b_La_law 185 = .ok (.iaload, 1) := by decide +kernel
theorem d_La_law_186 : decode b_La_law 186 = .ok (.ifCond .eq 7, 3) := by decide +kernel
theorem d_La_law_189 : decode b_La_law 189 = .ok (.iconst 1, 1) := by decide +kernel
theorem d_La_law_190 : decode b_La_law 190 = .ok (.goto 4, 3) := by decide +kernel
theorem d_La_law_193 : decode b_La_law 193 = .ok (.iconst 0, 1) := by decide +kernel
theorem d_La_law_194 : decode b_La_law 194 = .ok (.aload_n 3, 1) := by decide +kernel
theorem d_La_law_195 : decode b_La_law 195 = .ok (.invokestatic 51, 3) := by decide +kernel
theorem d_La_law_198 : decode b_La_law 198 = .ok (.istore 5, 2) := by decide +kernel
theorem d_La_law_200 : decode b_La_law 200 = .ok (.aload_n 2, 1) := by decide +kernel
theorem d_La_law_201 : decode b_La_law 201 = .ok (.aload_n 0, 1) := by decide +kernel
theorem d_La_law_202 : decode b_La_law 202 = .ok (.iload 4, 2) := by decide +kernel
theorem d_La_law_204 : decode b_La_law 204 = .ok (.iconst 1, 1) := by decide +kernel
theorem d_La_law_205 : decode b_La_law 205 = .ok (.iadd, 1) := by decide +kernel
theorem d_La_law_206 : decode b_La_law 206 = .ok (.iaload, 1) := by decide +kernel
theorem d_La_law_207 : decode b_La_law 207 = .ok (.i2l, 1) := by decide +kernel
theorem d_La_law_208 : decode b_La_law 208 = .ok (.bipush 32, 2) := by decide +kernel
theorem d_La_law_210 : decode b_La_law 210 = .ok (.lshl, 1) := by decide +kernel
theorem d_La_law_211 : decode b_La_law 211 = .ok (.aload_n 0, 1) := by decide +kernel
theorem d_La_law_212 : decode b_La_law 212 = .ok (.iload 4, 2) := by decide +kernel
theorem d_La_law_214 : decode b_La_law 214 = .ok (.iconst 2, 1) := by decide +kernel
theorem d_La_law_215 : decode b_La_law 215 = .ok (.iadd, 1) := by decide +kernel
theorem d_La_law_216 : decode b_La_law 216 = .ok (.iaload, 1) := by decide +kernel
theorem d_La_law_217 : decode b_La_law 217 = .ok (.i2l, 1) := by decide +kernel
theorem d_La_law_218 : decode b_La_law 218 = .ok (.ldc2_w 44, 3) := by decide +kernel
theorem d_La_law_221 : decode b_La_law 221 = .ok (.land, 1) := by decide +kernel
theorem d_La_law_222 : decode b_La_law 222 = .ok (.lor, 1) := by decide +kernel
theorem d_La_law_223 : decode b_La_law 223 = .ok (.aload_n 0, 1) := by decide +kernel
theorem d_La_law_224 : decode b_La_law 224 = .ok (.iload 4, 2) := by decide +kernel
theorem d_La_law_226 : decode b_La_law 226 = .ok (.iconst 3, 1) := by decide +kernel
theorem d_La_law_227 : decode b_La_law 227 = .ok (.iadd, 1) := by decide +kernel
theorem d_La_law_228 : decode b_La_law 228 = .ok (.iaload, 1) := by decide +kernel
theorem d_La_law_229 : decode b_La_law 229 = .ok (.ifCond .eq 7, 3) := by decide +kernel
theorem d_La_law_232 : decode b_La_law 232 = .ok (.iconst 1, 1) := by decide +kernel
theorem d_La_law_233 : decode b_La_law 233 = .ok (.goto 4, 3) := by decide +kernel
theorem d_La_law_236 : decode b_La_law 236 = .ok (.iconst 0, 1) := by decide +kernel
theorem d_La_law_237 : decode b_La_law 237 = .ok (.invokevirtual 56, 3) := by decide +kernel
theorem d_La_law_240 : decode b_La_law 240 = .ok (.istore 6, 2) := by decide +kernel
theorem d_La_law_242 : decode b_La_law 242 = .ok (.aload_n 2, 1) := by decide +kernel
theorem d_La_law_243 : decode b_La_law 243 = .ok (.invokevirtual 57, 3) := by decide +kernel
theorem d_La_law_246 : decode b_La_law 246 = .ok (.iload 5, 2) := by decide +kernel
theorem d_La_law_248 : decode b_La_law 248 = .ok (.if_icmp .eq 5, 3) := by decide +kernel
theorem d_La_law_251 : decode b_La_law 251 = .ok (.iconst 0, 1) := by decide +kernel
theorem d_La_law_252 : decode b_La_law 252 = .ok (.ireturn, 1) := by decide +kernel
theorem d_La_law_253 : decode b_La_law 253 = .ok (.iload 5, 2) := by decide +kernel
theorem d_La_law_255 : decode b_La_law 255 = .ok (.ifCond .ne 15, 3) := by decide +kernel
theorem d_La_law_258 : decode b_La_law 258 = .ok (.aload_n 3, 1) := by decide +kernel
theorem d_La_law_259 : decode b_La_law 259 = .ok (.iconst 0, 1) := by decide +kernel
theorem d_La_law_260 : decode b_La_law 260 = .ok (.laload, 1) := by decide +kernel
theorem d_La_law_261 : decode b_La_law 261 = .ok (.iload 6, 2) := by decide +kernel
theorem d_La_law_263 : decode b_La_law 263 = .ok (.i2l, 1) := by decide +kernel
theorem d_La_law_264 : decode b_La_law 264 = .ok (.lcmp, 1) := by decide +kernel
theorem d_La_law_265 : decode b_La_law 265 = .ok (.ifCond .eq 5, 3) := by decide +kernel
theorem d_La_law_268 : decode b_La_law 268 = .ok (.iconst 0, 1) := by decide +kernel
theorem d_La_law_269 : decode b_La_law 269 = .ok (.ireturn, 1) := by decide +kernel
theorem d_La_law_270 : decode b_La_law 270 = .ok (.goto 548, 3) := by decide +kernel
theorem d_La_law_273 : decode b_La_law 273 = .ok (.aload_n 1, 1) := by decide +kernel
theorem d_La_law_274 : decode b_La_law 274 = .ok (.aload_n 0, 1) := by decide +kernel
theorem d_La_law_275 : decode b_La_law 275 = .ok (.iload 4, 2) := by decide +kernel
theorem d_La_law_277 : decode b_La_law 277 = .ok (.iconst 1, 1) := by decide +kernel
theorem d_La_law_278 : decode b_La_law 278 = .ok (.iadd, 1) := by decide +kernel
theorem d_La_law_279 : decode b_La_law 279 = .ok (.iaload, 1) := by decide +kernel
theorem d_La_law_280 : decode b_La_law 280 = .ok (.i2l, 1) := by decide +kernel
theorem d_La_law_281 : decode b_La_law 281 = .ok (.bipush 32, 2) := by decide +kernel
theorem d_La_law_283 : decode b_La_law 283 = .ok (.lshl, 1) := by decide +kernel
theorem d_La_law_284 : decode b_La_law 284 = .ok (.aload_n 0, 1) := by decide +kernel
theorem d_La_law_285 : decode b_La_law 285 = .ok (.iload 4, 2) := by decide +kernel
theorem d_La_law_287 : decode b_La_law 287 = .ok (.iconst 2, 1) := by decide +kernel
theorem d_La_law_288 : decode b_La_law 288 = .ok (.iadd, 1) := by decide +kernel
theorem d_La_law_289 : decode b_La_law 289 = .ok (.iaload, 1) := by decide +kernel
theorem d_La_law_290 : decode b_La_law 290 = .ok (.i2l, 1) := by decide +kernel
theorem d_La_law_291 : decode b_La_law 291 = .ok (.ldc2_w 44, 3) := by decide +kernel
theorem d_La_law_294 : decode b_La_law 294 = .ok (.land, 1) := by decide +kernel
theorem d_La_law_295 : decode b_La_law 295 = .ok (.lor, 1) := by decide +kernel
theorem d_La_law_296 : decode b_La_law 296 = .ok (.aload_n 0, 1) := by decide +kernel
theorem d_La_law_297 : decode b_La_law 297 = .ok (.iload 4, 2) := by decide +kernel
theorem d_La_law_299 : decode b_La_law 299 = .ok (.iconst 3, 1) := by decide +kernel
theorem d_La_law_300 : decode b_La_law 300 = .ok (.iadd, 1) := by decide +kernel
theorem d_La_law_301 : decode b_La_law 301 = .ok (.iaload, 1) := by decide +kernel
theorem d_La_law_302 : decode b_La_law 302 = .ok (.ifCond .eq 7, 3) := by decide +kernel
theorem d_La_law_305 : decode b_La_law 305 = .ok (.iconst 1, 1) := by decide +kernel
theorem d_La_law_306 : decode b_La_law 306 = .ok (.goto 4, 3) := by decide +kernel
theorem d_La_law_309 : decode b_La_law 309 = .ok (.iconst 0, 1) := by decide +kernel
theorem d_La_law_310 : decode b_La_law 310 = .ok (.aload_n 3, 1) := by decide +kernel
theorem d_La_law_311 : decode b_La_law 311 = .ok (.invokestatic 61, 3) := by decide +kernel
theorem d_La_law_314 : decode b_La_law 314 = .ok (.istore 5, 2) := by decide +kernel
theorem d_La_law_316 : decode b_La_law 316 = .ok (.aload_n 2, 1) := by decide +kernel
theorem d_La_law_317 : decode b_La_law 317 = .ok (.aload_n 0, 1) := by decide +kernel
theorem d_La_law_318 : decode b_La_law 318 = .ok (.iload 4, 2) := by decide +kernel
theorem d_La_law_320 : decode b_La_law 320 = .ok (.iconst 1, 1) := by decide +kernel
theorem d_La_law_321 : decode b_La_law 321 = .ok (.iadd, 1) := by decide +kernel
theorem d_La_law_322 : decode b_La_law 322 = .ok (.iaload, 1) := by decide +kernel
theorem d_La_law_323 : decode b_La_law 323 = .ok (.i2l, 1) := by decide +kernel
theorem d_La_law_324 : decode b_La_law 324 = .ok (.bipush 32, 2) := by decide +kernel
theorem d_La_law_326 : decode b_La_law 326 = .ok (.lshl, 1) := by decide +kernel
theorem d_La_law_327 : decode b_La_law 327 = .ok (.aload_n 0, 1) := by decide +kernel
theorem d_La_law_328 : decode b_La_law 328 = .ok (.iload 4, 2) := by decide +kernel
theorem d_La_law_330 : decode b_La_law 330 = .ok (.iconst 2, 1) := by decide +kernel
theorem d_La_law_331 : decode b_La_law 331 = .ok (.iadd, 1) := by decide +kernel
theorem d_La_law_332 : decode b_La_law 332 = .ok (.iaload, 1) := by decide +kernel
theorem d_La_law_333 : decode b_La_law 333 = .ok (.i2l, 1) := by decide +kernel
theorem d_La_law_334 : decode b_La_law 334 = .ok (.ldc2_w 44, 3) := by decide +kernel
theorem d_La_law_337 : decode b_La_law 337 = .ok (.land, 1) := by decide +kernel
theorem d_La_law_338 : decode b_La_law 338 = .ok (.lor, 1) := by decide +kernel
theorem d_La_law_339 : decode b_La_law 339 = .ok (.aload_n 0, 1) := by decide +kernel
theorem d_La_law_340 : decode b_La_law 340 = .ok (.iload 4, 2) := by decide +kernel
theorem d_La_law_342 : decode b_La_law 342 = .ok (.iconst 3, 1) := by decide +kernel
theorem d_La_law_343 : decode b_La_law 343 = .ok (.iadd, 1) := by decide +kernel
theorem d_La_law_344 : decode b_La_law 344 = .ok (.iaload, 1) := by decide +kernel
theorem d_La_law_345 : decode b_La_law 345 = .ok (.ifCond .eq 7, 3) := by decide +kernel
theorem d_La_law_348 : decode b_La_law 348 = .ok (.iconst 1, 1) := by decide +kernel
theorem d_La_law_349 : decode b_La_law 349 = .ok (.goto 4, 3) := by decide +kernel
theorem d_La_law_352 : decode b_La_law 352 = .ok (.iconst 0, 1) := by decide +kernel
theorem d_La_law_353 : decode b_La_law 353 = .ok (.invokevirtual 63, 3) := by decide +kernel
theorem d_La_law_356 : decode b_La_law 356 = .ok (.istore 6, 2) := by decide +kernel
theorem d_La_law_358 : decode b_La_law 358 = .ok (.aload_n 2, 1) := by decide +kernel
theorem d_La_law_359 : decode b_La_law 359 = .ok (.invokevirtual 57, 3) := by decide +kernel
theorem d_La_law_362 : decode b_La_law 362 = .ok (.iload 5, 2) := by decide +kernel
theorem d_La_law_364 : decode b_La_law 364 = .ok (.if_icmp .eq 5, 3) := by decide +kernel
theorem d_La_law_367 : decode b_La_law 367 = .ok (.iconst 0, 1) := by decide +kernel
theorem d_La_law_368 : decode b_La_law 368 = .ok (.ireturn, 1) := by decide +kernel
theorem d_La_law_369 : decode b_La_law 369 = .ok (.iload 5, 2) := by decide +kernel
theorem d_La_law_371 : decode b_La_law 371 = .ok (.ifCond .ne 15, 3) := by decide +kernel
theorem d_La_law_374 : decode b_La_law 374 = .ok (.aload_n 3, 1) := by decide +kernel
theorem d_La_law_375 : decode b_La_law 375 = .ok (.iconst 0, 1) := by decide +kernel
theorem d_La_law_376 : decode b_La_law 376 = .ok (.laload, 1) := by decide +kernel
theorem d_La_law_377 : decode b_La_law 377 = .ok (.iload 6, 2) := by decide +kernel
theorem d_La_law_379 : decode b_La_law 379 = .ok (.i2l, 1) := by decide +kernel
theorem d_La_law_380 : decode b_La_law 380 = .ok (.lcmp, 1) := by decide +kernel
theorem d_La_law_381 : decode b_La_law 381 = .ok (.ifCond .eq 5, 3) := by decide +kernel
theorem d_La_law_384 : decode b_La_law 384 = .ok (.iconst 0, 1) := by decide +kernel
theorem d_La_law_385 : decode b_La_law 385 = .ok (.ireturn, 1) := by decide +kernel
theorem d_La_law_386 : decode b_La_law 386 = .ok (.goto 432, 3) := by decide +kernel
theorem d_La_law_389 : decode b_La_law 389 = .ok (.aload_n 1, 1) := by decide +kernel
theorem d_La_law_390 : decode b_La_law 390 = .ok (.aload_n 0, 1) := by decide +kernel
theorem d_La_law_391 : decode b_La_law 391 = .ok (.iload 4, 2) := by decide +kernel
theorem d_La_law_393 : decode b_La_law 393 = .ok (.iconst 1, 1) := by decide +kernel
theorem d_La_law_394 : decode b_La_law 394 = .ok (.iadd, 1) := by decide +kernel
theorem d_La_law_395 : decode b_La_law 395 = .ok (.iaload, 1) := by decide +kernel
theorem d_La_law_396 : decode b_La_law 396 = .ok (.aload_n 0, 1) := by decide +kernel
theorem d_La_law_397 : decode b_La_law 397 = .ok (.iload 4, 2) := by decide +kernel
theorem d_La_law_399 : decode b_La_law 399 = .ok (.iconst 2, 1) := by decide +kernel
theorem d_La_law_400 : decode b_La_law 400 = .ok (.iadd, 1) := by decide +kernel
theorem d_La_law_401 : decode b_La_law 401 = .ok (.iaload, 1) := by decide +kernel
theorem d_La_law_402 : decode b_La_law 402 = .ok (.aload_n 3, 1) := by decide +kernel
theorem d_La_law_403 : decode b_La_law 403 = .ok (.invokestatic 64, 3) := by decide +kernel
theorem d_La_law_406 : decode b_La_law 406 = .ok (.istore 5, 2) := by decide +kernel
theorem d_La_law_408 : decode b_La_law 408 = .ok (.aload_n 2, 1) := by decide +kernel
theorem d_La_law_409 : decode b_La_law 409 = .ok (.aload_n 0, 1) := by decide +kernel
theorem d_La_law_410 : decode b_La_law 410 = .ok (.iload 4, 2) := by decide +kernel
theorem d_La_law_412 : decode b_La_law 412 = .ok (.iconst 1, 1) := by decide +kernel
theorem d_La_law_413 : decode b_La_law 413 = .ok (.iadd, 1) := by decide +kernel
theorem d_La_law_414 : decode b_La_law 414 = .ok (.iaload, 1) := by decide +kernel
theorem d_La_law_415 : decode b_La_law 415 = .ok (.aload_n 0, 1) := by decide +kernel
theorem d_La_law_416 : decode b_La_law 416 = .ok (.iload 4, 2) := by decide +kernel
theorem d_La_law_418 : decode b_La_law 418 = .ok (.iconst 2, 1) := by decide +kernel
theorem d_La_law_419 : decode b_La_law 419 = .ok (.iadd, 1) := by decide +kernel
theorem d_La_law_420 : decode b_La_law 420 = .ok (.iaload, 1) := by decide +kernel
theorem d_La_law_421 : decode b_La_law 421 = .ok (.invokevirtual 67, 3) := by decide +kernel
theorem d_La_law_424 : decode b_La_law 424 = .ok (.istore 6, 2) := by decide +kernel
theorem d_La_law_426 : decode b_La_law 426 = .ok (.aload_n 2, 1) := by decide +kernel
theorem d_La_law_427 : decode b_La_law 427 = .ok (.invokevirtual 57, 3) := by decide +kernel
theorem d_La_law_430 : decode b_La_law 430 = .ok (.iload 5, 2) := by decide +kernel
theorem d_La_law_432 : decode b_La_law 432 = .ok (.if_icmp .eq 5, 3) := by decide +kernel
theorem d_La_law_435 : decode b_La_law 435 = .ok (.iconst 0, 1) := by decide +kernel
theorem d_La_law_436 : decode b_La_law 436 = .ok (.ireturn, 1) := by decide +kernel
theorem d_La_law_437 : decode b_La_law 437 = .ok (.iload 5, 2) := by decide +kernel
theorem d_La_law_439 : decode b_La_law 439 = .ok (.ifCond .ne 15, 3) := by decide +kernel
theorem d_La_law_442 : decode b_La_law 442 = .ok (.aload_n 3, 1) := by decide +kernel
theorem d_La_law_443 : decode b_La_law 443 = .ok (.iconst 0, 1) := by decide +kernel
theorem d_La_law_444 : decode b_La_law 444 = .ok (.laload, 1) := by decide +kernel
theorem d_La_law_445 : decode b_La_law 445 = .ok (.iload 6, 2) := by decide +kernel
theorem d_La_law_447 : decode b_La_law 447 = .ok (.i2l, 1) := by decide +kernel
theorem d_La_law_448 : decode b_La_law 448 = .ok (.lcmp, 1) := by decide +kernel
theorem d_La_law_449 : decode b_La_law 449 = .ok (.ifCond .eq 5, 3) := by decide +kernel
theorem d_La_law_452 : decode b_La_law 452 = .ok (.iconst 0, 1) := by decide +kernel
theorem d_La_law_453 : decode b_La_law 453 = .ok (.ireturn, 1) := by decide +kernel
theorem d_La_law_454 : decode b_La_law 454 = .ok (.goto 364, 3) := by decide +kernel
theorem d_La_law_457 : decode b_La_law 457 = .ok (.aload_n 1, 1) := by decide +kernel
theorem d_La_law_458 : decode b_La_law 458 = .ok (.aload_n 0, 1) := by decide +kernel
theorem d_La_law_459 : decode b_La_law 459 = .ok (.iload 4, 2) := by decide +kernel
theorem d_La_law_461 : decode b_La_law 461 = .ok (.iconst 1, 1) := by decide +kernel
theorem d_La_law_462 : decode b_La_law 462 = .ok (.iadd, 1) := by decide +kernel
theorem d_La_law_463 : decode b_La_law 463 = .ok (.iaload, 1) := by decide +kernel
theorem d_La_law_464 : decode b_La_law 464 = .ok (.aload_n 3, 1) := by decide +kernel
theorem d_La_law_465 : decode b_La_law 465 = .ok (.invokestatic 68, 3) := by decide +kernel
theorem d_La_law_468 : decode b_La_law 468 = .ok (.istore 5, 2) := by decide +kernel
theorem d_La_law_470 : decode b_La_law 470 = .ok (.aload_n 2, 1) := by decide +kernel
theorem d_La_law_471 : decode b_La_law 471 = .ok (.aload_n 0, 1) := by decide +kernel
theorem d_La_law_472 : decode b_La_law 472 = .ok (.iload 4, 2) := by decide +kernel
theorem d_La_law_474 : decode b_La_law 474 = .ok (.iconst 1, 1) := by decide +kernel
theorem d_La_law_475 : decode b_La_law 475 = .ok (.iadd, 1) := by decide +kernel
theorem d_La_law_476 : decode b_La_law 476 = .ok (.iaload, 1) := by decide +kernel
theorem d_La_law_477 : decode b_La_law 477 = .ok (.invokevirtual 71, 3) := by decide +kernel
theorem d_La_law_480 : decode b_La_law 480 = .ok (.istore 6, 2) := by decide +kernel
theorem d_La_law_482 : decode b_La_law 482 = .ok (.aload_n 2, 1) := by decide +kernel
theorem d_La_law_483 : decode b_La_law 483 = .ok (.invokevirtual 57, 3) := by decide +kernel
theorem d_La_law_486 : decode b_La_law 486 = .ok (.iload 5, 2) := by decide +kernel
theorem d_La_law_488 : decode b_La_law 488 = .ok (.if_icmp .eq 5, 3) := by decide +kernel
theorem d_La_law_491 : decode b_La_law 491 = .ok (.iconst 0, 1) := by decide +kernel
theorem d_La_law_492 : decode b_La_law 492 = .ok (.ireturn, 1) := by decide +kernel
theorem d_La_law_493 : decode b_La_law 493 = .ok (.iload 5, 2) := by decide +kernel
theorem d_La_law_495 : decode b_La_law 495 = .ok (.ifCond .ne 15, 3) := by decide +kernel
theorem d_La_law_498 : decode b_La_law 498 = .ok (.aload_n 3, 1) := by decide +kernel
theorem d_La_law_499 : decode b_La_law 499 = .ok (.iconst 0, 1) := by decide +kernel
theorem d_La_law_500 : decode b_La_law 500 = .ok (.laload, 1) := by decide +kernel
theorem d_La_law_501 : decode b_La_law 501 = .ok (.iload 6, 2) := by decide +kernel
theorem d_La_law_503 : decode b_La_law 503 = .ok (.i2l, 1) := by decide +kernel
theorem d_La_law_504 : decode b_La_law 504 = .ok (.lcmp, 1) := by decide +kernel
theorem d_La_law_505 : decode b_La_law 505 = .ok (.ifCond .eq 5, 3) := by decide +kernel
theorem d_La_law_508 : decode b_La_law 508 = .ok (.iconst 0, 1) := by decide +kernel
theorem d_La_law_509 : decode b_La_law 509 = .ok (.ireturn, 1) := by decide +kernel
theorem d_La_law_510 : decode b_La_law 510 = .ok (.goto 308, 3) := by decide +kernel
theorem d_La_law_513 : decode b_La_law 513 = .ok (.aload_n 1, 1) := by decide +kernel
theorem d_La_law_514 : decode b_La_law 514 = .ok (.aload_n 0, 1) := by decide +kernel
theorem d_La_law_515 : decode b_La_law 515 = .ok (.iload 4, 2) := by decide +kernel
theorem d_La_law_517 : decode b_La_law 517 = .ok (.iconst 1, 1) := by decide +kernel
theorem d_La_law_518 : decode b_La_law 518 = .ok (.iadd, 1) := by decide +kernel
theorem d_La_law_519 : decode b_La_law 519 = .ok (.iaload, 1) := by decide +kernel
theorem d_La_law_520 : decode b_La_law 520 = .ok (.aload_n 3, 1) := by decide +kernel
theorem d_La_law_521 : decode b_La_law 521 = .ok (.invokestatic 72, 3) := by decide +kernel
theorem d_La_law_524 : decode b_La_law 524 = .ok (.istore 5, 2) := by decide +kernel
theorem d_La_law_526 : decode b_La_law 526 = .ok (.aload_n 2, 1) := by decide +kernel
theorem d_La_law_527 : decode b_La_law 527 = .ok (.aload_n 0, 1) := by decide +kernel
theorem d_La_law_528 : decode b_La_law 528 = .ok (.iload 4, 2) := by decide +kernel
theorem d_La_law_530 : decode b_La_law 530 = .ok (.iconst 1, 1) := by decide +kernel
theorem d_La_law_531 : decode b_La_law 531 = .ok (.iadd, 1) := by decide +kernel
theorem d_La_law_532 : decode b_La_law 532 = .ok (.iaload, 1) := by decide +kernel
theorem d_La_law_533 : decode b_La_law 533 = .ok (.invokevirtual 74, 3) := by decide +kernel
theorem d_La_law_536 : decode b_La_law 536 = .ok (.istore 6, 2) := by decide +kernel
theorem d_La_law_538 : decode b_La_law 538 = .ok (.aload_n 2, 1) := by decide +kernel
theorem d_La_law_539 : decode b_La_law 539 = .ok (.invokevirtual 57, 3) := by decide +kernel
theorem d_La_law_542 : decode b_La_law 542 = .ok (.iload 5, 2) := by decide +kernel
theorem d_La_law_544 : decode b_La_law 544 = .ok (.if_icmp .eq 5, 3) := by decide +kernel
theorem d_La_law_547 : decode b_La_law 547 = .ok (.iconst 0, 1) := by decide +kernel
theorem d_La_law_548 : decode b_La_law 548 = .ok (.ireturn, 1) := by decide +kernel
theorem d_La_law_549 : decode b_La_law 549 = .ok (.iload 5, 2) := by decide +kernel
theorem d_La_law_551 : decode b_La_law 551 = .ok (.ifCond .ne 15, 3) := by decide +kernel
theorem d_La_law_554 : decode b_La_law 554 = .ok (.aload_n 3, 1) := by decide +kernel
theorem d_La_law_555 : decode b_La_law 555 = .ok (.iconst 0, 1) := by decide +kernel
theorem d_La_law_556 : decode b_La_law 556 = .ok (.laload, 1) := by decide +kernel
theorem d_La_law_557 : decode b_La_law 557 = .ok (.iload 6, 2) := by decide +kernel
theorem d_La_law_559 : decode b_La_law 559 = .ok (.i2l, 1) := by decide +kernel
theorem d_La_law_560 : decode b_La_law 560 = .ok (.lcmp, 1) := by decide +kernel
theorem d_La_law_561 : decode b_La_law 561 = .ok (.ifCond .eq 5, 3) := by decide +kernel
theorem d_La_law_564 : decode b_La_law 564 = .ok (.iconst 0, 1) := by decide +kernel
theorem d_La_law_565 : decode b_La_law 565 = .ok (.ireturn, 1) := by decide +kernel
theorem d_La_law_566 : decode b_La_law 566 = .ok (.goto 252, 3) := by decide +kernel
theorem d_La_law_569 : decode b_La_law 569 = .ok (.aload_n 1, 1) := by decide +kernel
theorem d_La_law_570 : decode b_La_law 570 = .ok (.aload_n 0, 1) := by decide +kernel
theorem d_La_law_571 : decode b_La_law 571 = .ok (.iload 4, 2) := by decide +kernel
theorem d_La_law_573 : decode b_La_law 573 = .ok (.iconst 1, 1) := by decide +kernel
theorem d_La_law_574 : decode b_La_law 574 = .ok (.iadd, 1) := by decide +kernel
theorem d_La_law_575 : decode b_La_law 575 = .ok (.iaload, 1) := by decide +kernel
theorem d_La_law_576 : decode b_La_law 576 = .ok (.aload_n 3, 1) := by decide +kernel
theorem d_La_law_577 : decode b_La_law 577 = .ok (.invokestatic 75, 3) := by decide +kernel
theorem d_La_law_580 : decode b_La_law 580 = .ok (.istore 5, 2) := by decide +kernel
theorem d_La_law_582 : decode b_La_law 582 = .ok (.aload_n 2, 1) := by decide +kernel
theorem d_La_law_583 : decode b_La_law 583 = .ok (.aload_n 0, 1) := by decide +kernel
theorem d_La_law_584 : decode b_La_law 584 = .ok (.iload 4, 2) := by decide +kernel
theorem d_La_law_586 : decode b_La_law 586 = .ok (.iconst 1, 1) := by decide +kernel
theorem d_La_law_587 : decode b_La_law 587 = .ok (.iadd, 1) := by decide +kernel
theorem d_La_law_588 : decode b_La_law 588 = .ok (.iaload, 1) := by decide +kernel
theorem d_La_law_589 : decode b_La_law 589 = .ok (.invokevirtual 77, 3) := by decide +kernel
theorem d_La_law_592 : decode b_La_law 592 = .ok (.istore 6, 2) := by decide +kernel
theorem d_La_law_594 : decode b_La_law 594 = .ok (.aload_n 2, 1) := by decide +kernel
theorem d_La_law_595 : decode b_La_law 595 = .ok (.invokevirtual 57, 3) := by decide +kernel
theorem d_La_law_598 : decode b_La_law 598 = .ok (.iload 5, 2) := by decide +kernel
theorem d_La_law_600 : decode b_La_law 600 = .ok (.if_icmp .eq 5, 3) := by decide +kernel
theorem d_La_law_603 : decode b_La_law 603 = .ok (.iconst 0, 1) := by decide +kernel
theorem d_La_law_604 : decode b_La_law 604 = .ok (.ireturn, 1) := by decide +kernel
theorem d_La_law_605 : decode b_La_law 605 = .ok (.iload 5, 2) := by decide +kernel
theorem d_La_law_607 : decode b_La_law 607 = .ok (.ifCond .ne 15, 3) := by decide +kernel
theorem d_La_law_610 : decode b_La_law 610 = .ok (.aload_n 3, 1) := by decide +kernel
theorem d_La_law_611 : decode b_La_law 611 = .ok (.iconst 0, 1) := by decide +kernel
theorem d_La_law_612 : decode b_La_law 612 = .ok (.laload, 1) := by decide +kernel
theorem d_La_law_613 : decode b_La_law 613 = .ok (.iload 6, 2) := by decide +kernel
theorem d_La_law_615 : decode b_La_law 615 = .ok (.i2l, 1) := by decide +kernel
theorem d_La_law_616 : decode b_La_law 616 = .ok (.lcmp, 1) := by decide +kernel
theorem d_La_law_617 : decode b_La_law 617 = .ok (.ifCond .eq 5, 3) := by decide +kernel
theorem d_La_law_620 : decode b_La_law 620 = .ok (.iconst 0, 1) := by decide +kernel
theorem d_La_law_621 : decode b_La_law 621 = .ok (.ireturn, 1) := by decide +kernel
theorem d_La_law_622 : decode b_La_law 622 = .ok (.goto 196, 3) := by decide +kernel
theorem d_La_law_625 : decode b_La_law 625 = .ok (.aload_n 1, 1) := by decide +kernel
theorem d_La_law_626 : decode b_La_law 626 = .ok (.aload_n 0, 1) := by decide +kernel
theorem d_La_law_627 : decode b_La_law 627 = .ok (.iload 4, 2) := by decide +kernel
theorem d_La_law_629 : decode b_La_law 629 = .ok (.iconst 1, 1) := by decide +kernel
theorem d_La_law_630 : decode b_La_law 630 = .ok (.iadd, 1) := by decide +kernel
theorem d_La_law_631 : decode b_La_law 631 = .ok (.iaload, 1) := by decide +kernel
theorem d_La_law_632 : decode b_La_law 632 = .ok (.aload_n 3, 1) := by decide +kernel
theorem d_La_law_633 : decode b_La_law 633 = .ok (.invokestatic 78, 3) := by decide +kernel
theorem d_La_law_636 : decode b_La_law 636 = .ok (.istore 5, 2) := by decide +kernel
theorem d_La_law_638 : decode b_La_law 638 = .ok (.aload_n 2, 1) := by decide +kernel
theorem d_La_law_639 : decode b_La_law 639 = .ok (.aload_n 0, 1) := by decide +kernel
theorem d_La_law_640 : decode b_La_law 640 = .ok (.iload 4, 2) := by decide +kernel
theorem d_La_law_642 : decode b_La_law 642 = .ok (.iconst 1, 1) := by decide +kernel
theorem d_La_law_643 : decode b_La_law 643 = .ok (.iadd, 1) := by decide +kernel
theorem d_La_law_644 : decode b_La_law 644 = .ok (.iaload, 1) := by decide +kernel
theorem d_La_law_645 : decode b_La_law 645 = .ok (.invokevirtual 80, 3) := by decide +kernel
theorem d_La_law_648 : decode b_La_law 648 = .ok (.istore 6, 2) := by decide +kernel
theorem d_La_law_650 : decode b_La_law 650 = .ok (.aload_n 2, 1) := by decide +kernel
theorem d_La_law_651 : decode b_La_law 651 = .ok (.invokevirtual 57, 3) := by decide +kernel
theorem d_La_law_654 : decode b_La_law 654 = .ok (.iload 5, 2) := by decide +kernel
theorem d_La_law_656 : decode b_La_law 656 = .ok (.if_icmp .eq 5, 3) := by decide +kernel
theorem d_La_law_659 : decode b_La_law 659 = .ok (.iconst 0, 1) := by decide +kernel
theorem d_La_law_660 : decode b_La_law 660 = .ok (.ireturn, 1) := by decide +kernel
theorem d_La_law_661 : decode b_La_law 661 = .ok (.iload 5, 2) := by decide +kernel
theorem d_La_law_663 : decode b_La_law 663 = .ok (.ifCond .ne 15, 3) := by decide +kernel
theorem d_La_law_666 : decode b_La_law 666 = .ok (.aload_n 3, 1) := by decide +kernel
theorem d_La_law_667 : decode b_La_law 667 = .ok (.iconst 0, 1) := by decide +kernel
theorem d_La_law_668 : decode b_La_law 668 = .ok (.laload, 1) := by decide +kernel
theorem d_La_law_669 : decode b_La_law 669 = .ok (.iload 6, 2) := by decide +kernel
theorem d_La_law_671 : decode b_La_law 671 = .ok (.i2l, 1) := by decide +kernel
theorem d_La_law_672 : decode b_La_law 672 = .ok (.lcmp, 1) := by decide +kernel
theorem d_La_law_673 : decode b_La_law 673 = .ok (.ifCond .eq 5, 3) := by decide +kernel
theorem d_La_law_676 : decode b_La_law 676 = .ok (.iconst 0, 1) := by decide +kernel
theorem d_La_law_677 : decode b_La_law 677 = .ok (.ireturn, 1) := by decide +kernel
theorem d_La_law_678 : decode b_La_law 678 = .ok (.goto 140, 3) := by decide +kernel
theorem d_La_law_681 : decode b_La_law 681 = .ok (.aload_n 1, 1) := by decide +kernel
theorem d_La_law_682 : decode b_La_law 682 = .ok (.aload_n 0, 1) := by decide +kernel
theorem d_La_law_683 : decode b_La_law 683 = .ok (.iload 4, 2) := by decide +kernel
theorem d_La_law_685 : decode b_La_law 685 = .ok (.iconst 1, 1) := by decide +kernel
theorem d_La_law_686 : decode b_La_law 686 = .ok (.iadd, 1) := by decide +kernel
theorem d_La_law_687 : decode b_La_law 687 = .ok (.iaload, 1) := by decide +kernel
theorem d_La_law_688 : decode b_La_law 688 = .ok (.invokevirtual 81, 3) := by decide +kernel
theorem d_La_law_691 : decode b_La_law 691 = .ok (.aload_n 2, 1) := by decide +kernel
theorem d_La_law_692 : decode b_La_law 692 = .ok (.aload_n 0, 1) := by decide +kernel
theorem d_La_law_693 : decode b_La_law 693 = .ok (.iload 4, 2) := by decide +kernel
theorem d_La_law_695 : decode b_La_law 695 = .ok (.iconst 1, 1) := by decide +kernel
theorem d_La_law_696 : decode b_La_law 696 = .ok (.iadd, 1) := by decide +kernel
theorem d_La_law_697 : decode b_La_law 697 = .ok (.iaload, 1) := by decide +kernel
theorem d_La_law_698 : decode b_La_law 698 = .ok (.invokevirtual 84, 3) := by decide +kernel
theorem d_La_law_701 : decode b_La_law 701 = .ok (.if_icmp .eq 117, 3) := by decide +kernel
theorem d_La_law_704 : decode b_La_law 704 = .ok (.iconst 0, 1) := by decide +kernel
theorem d_La_law_705 : decode b_La_law 705 = .ok (.ireturn, 1) := by decide +kernel
theorem d_La_law_706 : decode b_La_law 706 = .ok (.aload_n 1, 1) := by decide +kernel
theorem d_La_law_707 : decode b_La_law 707 = .ok (.aload_n 0, 1) := by decide +kernel
theorem d_La_law_708 : decode b_La_law 708 = .ok (.iload 4, 2) := by decide +kernel
theorem d_La_law_710 : decode b_La_law 710 = .ok (.iconst 1, 1) := by decide +kernel
theorem d_La_law_711 : decode b_La_law 711 = .ok (.iadd, 1) := by decide +kernel
theorem d_La_law_712 : decode b_La_law 712 = .ok (.iaload, 1) := by decide +kernel
theorem d_La_law_713 : decode b_La_law 713 = .ok (.aload_n 3, 1) := by decide +kernel
theorem d_La_law_714 : decode b_La_law 714 = .ok (.invokestatic 85, 3) := by decide +kernel
theorem d_La_law_717 : decode b_La_law 717 = .ok (.istore 5, 2) := by decide +kernel
theorem d_La_law_719 : decode b_La_law 719 = .ok (.aload_n 2, 1) := by decide +kernel
theorem d_La_law_720 : decode b_La_law 720 = .ok (.aload_n 0, 1) := by decide +kernel
theorem d_La_law_721 : decode b_La_law 721 = .ok (.iload 4, 2) := by decide +kernel
theorem d_La_law_723 : decode b_La_law 723 = .ok (.iconst 1, 1) := by decide +kernel
theorem d_La_law_724 : decode b_La_law 724 = .ok (.iadd, 1) := by decide +kernel
theorem d_La_law_725 : decode b_La_law 725 = .ok (.iaload, 1) := by decide +kernel
theorem d_La_law_726 : decode b_La_law 726 = .ok (.invokevirtual 87, 3) := by decide +kernel
theorem d_La_law_729 : decode b_La_law 729 = .ok (.istore 6, 2) := by decide +kernel
theorem d_La_law_731 : decode b_La_law 731 = .ok (.aload_n 2, 1) := by decide +kernel
theorem d_La_law_732 : decode b_La_law 732 = .ok (.invokevirtual 57, 3) := by decide +kernel
theorem d_La_law_735 : decode b_La_law 735 = .ok (.iload 5, 2) := by decide +kernel
theorem d_La_law_737 : decode b_La_law 737 = .ok (.if_icmp .eq 5, 3) := by decide +kernel
theorem d_La_law_740 : decode b_La_law 740 = .ok (.iconst 0, 1) := by decide +kernel
theorem d_La_law_741 : decode b_La_law 741 = .ok (.ireturn, 1) := by decide +kernel
theorem d_La_law_742 : decode b_La_law 742 = .ok (.iload 5, 2) := by decide +kernel
theorem d_La_law_744 : decode b_La_law 744 = .ok (.ifCond .ne 15, 3) := by decide +kernel
theorem d_La_law_747 : decode b_La_law 747 = .ok (.aload_n 3, 1) := by decide +kernel
theorem d_La_law_748 : decode b_La_law 748 = .ok (.iconst 0, 1) := by decide +kernel
theorem d_La_law_749 : decode b_La_law 749 = .ok (.laload, 1) := by decide +kernel
theorem d_La_law_750 : decode b_La_law 750 = .ok (.iload 6, 2) := by decide +kernel
theorem d_La_law_752 : decode b_La_law 752 = .ok (.i2l, 1) := by decide +kernel
theorem d_La_law_753 : decode b_La_law 753 = .ok (.lcmp, 1) := by decide +kernel
theorem d_La_law_754 : decode b_La_law 754 = .ok (.ifCond .eq 5, 3) := by decide +kernel
theorem d_La_law_757 : decode b_La_law 757 = .ok (.iconst 0, 1) := by decide +kernel
theorem d_La_law_758 : decode b_La_law 758 = .ok (.ireturn, 1) := by decide +kernel
theorem d_La_law_759 : decode b_La_law 759 = .ok (.goto 59, 3) := by decide +kernel
theorem d_La_law_762 : decode b_La_law 762 = .ok (.aload_n 1, 1) := by decide +kernel
theorem d_La_law_763 : decode b_La_law 763 = .ok (.aload_n 0, 1) := by decide +kernel
theorem d_La_law_764 : decode b_La_law 764 = .ok (.iload 4, 2) := by decide +kernel
theorem d_La_law_766 : decode b_La_law 766 = .ok (.iconst 1, 1) := by decide +kernel
theorem d_La_law_767 : decode b_La_law 767 = .ok (.iadd, 1) := by decide +kernel
theorem d_La_law_768 : decode b_La_law 768 = .ok (.iaload, 1) := by decide +kernel
theorem d_La_law_769 : decode b_La_law 769 = .ok (.ifCond .eq 7, 3) := by decide +kernel
theorem d_La_law_772 : decode b_La_law 772 = .ok (.iconst 1, 1) := by decide +kernel
theorem d_La_law_773 : decode b_La_law 773 = .ok (.goto 4, 3) := by decide +kernel
theorem d_La_law_776 : decode b_La_law 776 = .ok (.iconst 0, 1) := by decide +kernel
theorem d_La_law_777 : decode b_La_law 777 = .ok (.invokevirtual 88, 3) := by decide +kernel
theorem d_La_law_780 : decode b_La_law 780 = .ok (.aload_n 2, 1) := by decide +kernel
theorem d_La_law_781 : decode b_La_law 781 = .ok (.aload_n 0, 1) := by decide +kernel
theorem d_La_law_782 : decode b_La_law 782 = .ok (.iload 4, 2) := by decide +kernel
theorem d_La_law_784 : decode b_La_law 784 = .ok (.iconst 1, 1) := by decide +kernel
theorem d_La_law_785 : decode b_La_law 785 = .ok (.iadd, 1) := by decide +kernel
theorem d_La_law_786 : decode b_La_law 786 = .ok (.iaload, 1) := by decide +kernel
theorem d_La_law_787 : decode b_La_law 787 = .ok (.ifCond .eq 7, 3) := by decide +kernel
theorem d_La_law_790 : decode b_La_law 790 = .ok (.iconst 1, 1) := by decide +kernel
theorem d_La_law_791 : decode b_La_law 791 = .ok (.goto 4, 3) := by decide +kernel
theorem d_La_law_794 : decode b_La_law 794 = .ok (.iconst 0, 1) := by decide +kernel
theorem d_La_law_795 : decode b_La_law 795 = .ok (.invokevirtual 92, 3) := by decide +kernel
theorem d_La_law_798 : decode b_La_law 798 = .ok (.lcmp, 1) := by decide +kernel
theorem d_La_law_799 : decode b_La_law 799 = .ok (.ifCond .eq 19, 3) := by decide +kernel
theorem d_La_law_802 : decode b_La_law 802 = .ok (.iconst 0, 1) := by decide +kernel
theorem d_La_law_803 : decode b_La_law 803 = .ok (.ireturn, 1) := by decide +kernel
theorem d_La_law_804 : decode b_La_law 804 = .ok (.aload_n 1, 1) := by decide +kernel
theorem d_La_law_805 : decode b_La_law 805 = .ok (.invokevirtual 93, 3) := by decide +kernel
theorem d_La_law_808 : decode b_La_law 808 = .ok (.aload_n 2, 1) := by decide +kernel
theorem d_La_law_809 : decode b_La_law 809 = .ok (.invokevirtual 97, 3) := by decide +kernel
theorem d_La_law_812 : decode b_La_law 812 = .ok (.lcmp, 1) := by decide +kernel
theorem d_La_law_813 : decode b_La_law 813 = .ok (.ifCond .eq 5, 3) := by decide +kernel
theorem d_La_law_816 : decode b_La_law 816 = .ok (.iconst 0, 1) := by decide +kernel
theorem d_La_law_817 : decode b_La_law 817 = .ok (.ireturn, 1) := by decide +kernel
theorem d_La_law_818 : decode b_La_law 818 = .ok (.iinc 4 4, 3) := by decide +kernel
theorem d_La_law_821 : decode b_La_law 821 = .ok (.goto (-798), 3) := by decide +kernel
theorem d_La_law_824 : decode b_La_law 824 = .ok (.iconst 1, 1) := by decide +kernel
theorem d_La_law_825 : decode b_La_law 825 = .ok (.ireturn, 1) := by decide +kernel
