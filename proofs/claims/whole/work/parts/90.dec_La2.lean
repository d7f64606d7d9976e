theorem d_La_law_147 : decode b_La_law 147 = .ok (.land, 1) := by decide +kernel
theorem d_La_law_148 : decode b_La_law 148 = .ok (.lor, 1) := by decide +kernel
theorem d_La_law_149 : decode b_La_law 149 = .ok (.invokevirtual 50, 3) := by decide +kernel
theorem d_La_law_152 : decode b_La_law 152 = .ok (.if_icmp .eq 666, 3) := by decide +kernel
theorem d_La_law_155 : decode b_La_law 155 = .ok (.iconst 0, 1) := by decide +kernel
theorem d_La_law_156 : decode b_La_law 156 = .ok (.ireturn, 1) := by decide +kernel
theorem d_La_law_157 : decode b_La_law 157 = .ok (.aload_n 1, 1) := by decide +kernel
theorem d_La_law_158 : decode b_La_law 158 = .ok (.aload_n 0, 1) := by decide +kernel
theorem d_La_law_159 : decode b_La_law 159 = .ok (.iload 4, 2) := by decide +kernel
theorem d_La_law_161 : decode b_La_law 161 = .ok (.iconst 1, 1) := by decide +kernel
theorem d_La_law_162 : decode b_La_law 162 = .ok (.iadd, 1) := by decide +kernel
theorem d_La_law_163 : decode b_La_law 163 = .ok (.iaload, 1) := by decide +kernel
theorem d_La_law_164 : decode b_La_law 164 = .ok (.i2l, 1) := by decide +kernel
theorem d_La_law_165 : decode b_La_law 165 = .ok (.bipush 32, 2) := by decide +kernel
theorem d_La_law_167 : decode b_La_law 167 = .ok (.lshl, 1) := by decide +kernel
theorem d_La_law_168 : decode b_La_law 168 = .ok (.aload_n 0, 1) := by decide +kernel
theorem d_La_law_169 : decode b_La_law 169 = .ok (.iload 4, 2) := by decide +kernel
theorem d_La_law_171 : decode b_La_law 171 = .ok (.iconst 2, 1) := by decide +kernel
theorem d_La_law_172 : decode b_La_law 172 = .ok (.iadd, 1) := by decide +kernel
theorem d_La_law_173 : decode b_La_law 173 = .ok (.iaload, 1) := by decide +kernel
theorem d_La_law_174 : decode b_La_law 174 = .ok (.i2l, 1) := by decide +kernel
theorem d_La_law_175 : decode b_La_law 175 = .ok (.ldc2_w 44, 3) := by decide +kernel
theorem d_La_law_178 : decode b_La_law 178 = .ok (.land, 1) := by decide +kernel
theorem d_La_law_179 : decode b_La_law 179 = .ok (.lor, 1) := by decide +kernel
theorem d_La_law_180 : decode b_La_law 180 = .ok (.aload_n 0, 1) := by decide +kernel
theorem d_La_law_181 : decode b_La_law 181 = .ok (.iload 4, 2) := by decide +kernel
theorem d_La_law_183 : decode b_La_law 183 = .ok (.iconst 3, 1) := by decide +kernel
theorem d_La_law_184 : decode b_La_law 184 = .ok (.iadd, 1) := by decide +kernel
theorem d_La_law_185 : decode b_La_law 185 = .ok (.iaload, 1) := by decide +kernel
theorem d_La_law_186 : decode b_La_law 186 = .ok (.ifCond .eq 7, 3) := by decide +kernel
theorem d_La_law_189 : decode b_La_law 189 = .ok (.iconst 1, 1) := by decide +kernel
theorem d_La_law_190 : decode b_La_law 190 = .ok (.goto 4, 3) := by decide +kernel
theorem d_La_law_193 : decode b_La_law 193 = .ok (.iconst 0, 1) := by decide +kernel
theorem d_La_law_194 : decode b_La_law 194 = .ok (.aload_n 3, 1) := by decide +kernel
theorem d_La_law_195 : decode b_La_law 195 = .ok (.invokestatic 51, 3) := by decide +kernel
theorem d_La_law_198 : decode b_La_law 198 = .ok (.istore 5, 2) := by decide +kernel
theorem d_La_law_200 : decode b_La_law 200 = .ok (.aload_n 2, 1) := by decide +kernel
theorem d_La_law_201 : decode b_La_law 201 = .ok (.aload_n 0, 1) := by decide +kernel
theorem d_La_law_202 : decode b_La_law 202 = .ok (.iload 4, 2) := by decide +kernel
theorem d_La_law_204 : decode b_La_law 204 = .ok (.iconst 1, 1) := by decide +kernel
theorem d_La_law_205 : decode b_La_law 205 = .ok (.iadd, 1) := by decide +kernel
theorem d_La_law_206 : decode b_La_law 206 = .ok (.iaload, 1) := by decide +kernel
theorem d_La_law_207 : decode b_La_law 207 = .ok (.i2l, 1) := by decide +kernel
theorem d_La_law_208 : decode b_La_law 208 = .ok (.bipush 32, 2) := by decide +kernel
theorem d_La_law_210 : decode b_La_law 210 = .ok (.lshl, 1) := by decide +kernel
theorem d_La_law_211 : decode b_La_law 211 = .ok (.aload_n 0, 1) := by decide +kernel
theorem d_La_law_212 : decode b_La_law 212 = .ok (.iload 4, 2) := by decide +kernel
theorem d_La_law_214 : decode b_La_law 214 = .ok (.iconst 2, 1) := by decide +kernel
theorem d_La_law_215 : decode b_La_law 215 = .ok (.iadd, 1) := by decide +kernel
theorem d_La_law_216 : decode b_La_law 216 = .ok (.iaload, 1) := by decide +kernel
theorem d_La_law_217 : decode b_La_law 217 = .ok (.i2l, 1) := by decide +kernel
theorem d_La_law_218 : decode b_La_law 218 = .ok (.ldc2_w 44, 3) := by decide +kernel
theorem d_La_law_221 : decode b_La_law 221 = .ok (.land, 1) := by decide +kernel
theorem d_La_law_222 : decode b_La_law 222 = .ok (.lor, 1) := by decide +kernel
theorem d_La_law_223 : decode b_La_law 223 = .ok (.aload_n 0, 1) := by decide +kernel
theorem d_La_law_224 : decode b_La_law 224 = .ok (.iload 4, 2) := by decide +kernel
theorem d_La_law_226 : decode b_La_law 226 = .ok (.iconst 3, 1) := by decide +kernel
theorem d_La_law_227 : decode b_La_law 227 = .ok (.iadd, 1) := by decide +kernel
theorem d_La_law_228 : decode b_La_law 228 = .ok (.iaload, 1) := by decide +kernel
theorem d_La_law_229 : decode b_La_law 229 = .ok (.ifCond .eq 7, 3) := by decide +kernel
