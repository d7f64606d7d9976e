theorem d_La_law_232 : decode b_La_law 232 = .ok (.iconst 1, 1) := by decide +kernel
theorem d_La_law_233 : decode b_La_law 233 = .ok (.goto 4, 3) := by decide +kernel
theorem d_La_law_236 : decode b_La_law 236 = .ok (.iconst 0, 1) := by decide +kernel
theorem d_La_law_237 : decode b_La_law 237 = .ok (.invokevirtual 56, 3) := by decide +kernel
theorem d_La_law_240 : decode b_La_law 240 = .ok (.istore 6, 2) := by decide +kernel
theorem d_La_law_242 : decode b_La_law 242 = .ok (.aload_n 2, 1) := by decide +kernel
theorem d_La_law_243 : decode b_La_law 243 = .ok (.invokevirtual 57, 3) := by decide +kernel
theorem d_La_law_246 : decode b_La_law 246 = .ok (.iload 5, 2) := by decide +kernel
theorem d_La_law_248 : decode b_La_law 248 = .ok (.if_icmp .eq 5, 3) := by decide +kernel
theorem d_La_law_251 : decode b_La_law 251 = .ok (.iconst 0, 1) := by decide +kernel
theorem d_La_law_252 : decode b_La_law 252 = .ok (.ireturn, 1) := by decide +kernel
theorem d_La_law_253 : decode b_La_law 253 = .ok (.iload 5, 2) := by decide +kernel
theorem d_La_law_255 : decode b_La_law 255 = .ok (.ifCond .ne 15, 3) := by decide +kernel
theorem d_La_law_258 : decode b_La_law 258 = .ok (.aload_n 3, 1) := by decide +kernel
theorem d_La_law_259 : decode b_La_law 259 = .ok (.iconst 0, 1) := by decide +kernel
theorem d_La_law_260 : decode b_La_law 260 = .ok (.laload, 1) := by decide +kernel
theorem d_La_law_261 : decode b_La_law 261 = .ok (.iload 6, 2) := by decide +kernel
theorem d_La_law_263 : decode b_La_law 263 = .ok (.i2l, 1) := by decide +kernel
theorem d_La_law_264 : decode b_La_law 264 = .ok (.lcmp, 1) := by decide +kernel
theorem d_La_law_265 : decode b_La_law 265 = .ok (.ifCond .eq 5, 3) := by decide +kernel
theorem d_La_law_268 : decode b_La_law 268 = .ok (.iconst 0, 1) := by decide +kernel
theorem d_La_law_269 : decode b_La_law 269 = .ok (.ireturn, 1) := by decide +kernel
theorem d_La_law_270 : decode b_La_law 270 = .ok (.goto 548, 3) := by decide +kernel
theorem d_La_law_273 : decode b_La_law 273 = .ok (.aload_n 1, 1) := by decide +kernel
theorem d_La_law_274 : decode b_La_law 274 = .ok (.aload_n 0, 1) := by decide +kernel
theorem d_La_law_275 : decode b_La_law 275 = .ok (.iload 4, 2) := by decide +kernel
theorem d_La_law_277 : decode b_La_law 277 = .ok (.iconst 1, 1) := by decide +kernel
theorem d_La_law_278 : decode b_La_law 278 = .ok (.iadd, 1) := by decide +kernel
theorem d_La_law_279 : decode b_La_law 279 = .ok (.iaload, 1) := by decide +kernel
theorem d_La_law_280 : decode b_La_law 280 = .ok (.i2l, 1) := by decide +kernel
theorem d_La_law_281 : decode b_La_law 281 = .ok (.bipush 32, 2) := by decide +kernel
theorem d_La_law_283 : decode b_La_law 283 = .ok (.lshl, 1) := by decide +kernel
theorem d_La_law_284 : decode b_La_law 284 = .ok (.aload_n 0, 1) := by decide +kernel
theorem d_La_law_285 : decode b_La_law 285 = .ok (.iload 4, 2) := by decide +kernel
theorem d_La_law_287 : decode b_La_law 287 = .ok (.iconst 2, 1) := by decide +kernel
theorem d_La_law_288 : decode b_La_law 288 = .ok (.iadd, 1) := by decide +kernel
theorem d_La_law_289 : decode b_La_law 289 = .ok (.iaload, 1) := by decide +kernel
theorem d_La_law_290 : decode b_La_law 290 = .ok (.i2l, 1) := by decide +kernel
theorem d_La_law_291 : decode b_La_law 291 = .ok (.ldc2_w 44, 3) := by decide +kernel
theorem d_La_law_294 : decode b_La_law 294 = .ok (.land, 1) := by decide +kernel
theorem d_La_law_295 : decode b_La_law 295 = .ok (.lor, 1) := by decide +kernel
theorem d_La_law_296 : decode b_La_law 296 = .ok (.aload_n 0, 1) := by decide +kernel
theorem d_La_law_297 : decode b_La_law 297 = .ok (.iload 4, 2) := by decide +kernel
theorem d_La_law_299 : decode b_La_law 299 = .ok (.iconst 3, 1) := by decide +kernel
theorem d_La_law_300 : decode b_La_law 300 = .ok (.iadd, 1) := by decide +kernel
theorem d_La_law_301 : decode b_La_law 301 = .ok (.iaload, 1) := by decide +kernel
theorem d_La_law_302 : decode b_La_law 302 = .ok (.ifCond .eq 7, 3) := by decide +kernel
theorem d_La_law_305 : decode b_La_law 305 = .ok (.iconst 1, 1) := by decide +kernel
theorem d_La_law_306 : decode b_La_law 306 = .ok (.goto 4, 3) := by decide +kernel
theorem d_La_law_309 : decode b_La_law 309 = .ok (.iconst 0, 1) := by decide +kernel
theorem d_La_law_310 : decode b_La_law 310 = .ok (.aload_n 3, 1) := by decide +kernel
theorem d_La_law_311 : decode b_La_law 311 = .ok (.invokestatic 61, 3) := by decide +kernel
theorem d_La_law_314 : decode b_La_law 314 = .ok (.istore 5, 2) := by decide +kernel
theorem d_La_law_316 : decode b_La_law 316 = .ok (.aload_n 2, 1) := by decide +kernel
theorem d_La_law_317 : decode b_La_law 317 = .ok (.aload_n 0, 1) := by decide +kernel
theorem d_La_law_318 : decode b_La_law 318 = .ok (.iload 4, 2) := by decide +kernel
theorem d_La_law_320 : decode b_La_law 320 = .ok (.iconst 1, 1) := by decide +kernel
theorem d_La_law_321 : decode b_La_law 321 = .ok (.iadd, 1) := by decide +kernel
theorem d_La_law_322 : decode b_La_law 322 = .ok (.iaload, 1) := by decide +kernel
theorem d_La_law_323 : decode b_La_law 323 = .ok (.i2l, 1) := by decide +kernel
