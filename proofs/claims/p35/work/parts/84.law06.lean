theorem dL_areBudgets_150 : decode cL_areBudgets 150 = .ok (.bipush 100, 2) := by decide +kernel
theorem dL_areBudgets_152 : decode cL_areBudgets 152 = .ok (.if_icmp .ne 7, 3) := by decide +kernel
theorem dL_areBudgets_155 : decode cL_areBudgets 155 = .ok (.iconst 1, 1) := by decide +kernel
theorem dL_areBudgets_156 : decode cL_areBudgets 156 = .ok (.goto 4, 3) := by decide +kernel
theorem dL_areBudgets_159 : decode cL_areBudgets 159 = .ok (.iconst 0, 1) := by decide +kernel
theorem dL_areBudgets_160 : decode cL_areBudgets 160 = .ok (.iadd, 1) := by decide +kernel
theorem dL_areBudgets_161 : decode cL_areBudgets 161 = .ok (.iastore, 1) := by decide +kernel
theorem dL_areBudgets_162 : decode cL_areBudgets 162 = .ok (.iload 9, 2) := by decide +kernel
theorem dL_areBudgets_164 : decode cL_areBudgets 164 = .ok (.iload 12, 2) := by decide +kernel
theorem dL_areBudgets_166 : decode cL_areBudgets 166 = .ok (.bipush 100, 2) := by decide +kernel
theorem dL_areBudgets_168 : decode cL_areBudgets 168 = .ok (.if_icmp .ne 7, 3) := by decide +kernel
theorem dL_areBudgets_171 : decode cL_areBudgets 171 = .ok (.iconst 1, 1) := by decide +kernel
theorem dL_areBudgets_172 : decode cL_areBudgets 172 = .ok (.goto 4, 3) := by decide +kernel
theorem dL_areBudgets_175 : decode cL_areBudgets 175 = .ok (.iconst 0, 1) := by decide +kernel
theorem dL_areBudgets_176 : decode cL_areBudgets 176 = .ok (.iadd, 1) := by decide +kernel
theorem dL_areBudgets_177 : decode cL_areBudgets 177 = .ok (.istore 9, 2) := by decide +kernel
theorem dL_areBudgets_179 : decode cL_areBudgets 179 = .ok (.aload 6, 2) := by decide +kernel
theorem dL_areBudgets_181 : decode cL_areBudgets 181 = .ok (.iload 13, 2) := by decide +kernel
theorem dL_areBudgets_183 : decode cL_areBudgets 183 = .ok (.aload 6, 2) := by decide +kernel
theorem dL_areBudgets_185 : decode cL_areBudgets 185 = .ok (.iload 13, 2) := by decide +kernel
theorem dL_areBudgets_187 : decode cL_areBudgets 187 = .ok (.baload, 1) := by decide +kernel
theorem dL_areBudgets_188 : decode cL_areBudgets 188 = .ok (.ifCond .eq 27, 3) := by decide +kernel
theorem dL_areBudgets_191 : decode cL_areBudgets 191 = .ok (.iload 12, 2) := by decide +kernel
theorem dL_areBudgets_193 : decode cL_areBudgets 193 = .ok (.bipush 107, 2) := by decide +kernel
theorem dL_areBudgets_195 : decode cL_areBudgets 195 = .ok (.if_icmp .ne 16, 3) := by decide +kernel
theorem dL_areBudgets_198 : decode cL_areBudgets 198 = .ok (.aload_n 0, 1) := by decide +kernel
theorem dL_areBudgets_199 : decode cL_areBudgets 199 = .ok (.bipush 17, 2) := by decide +kernel
theorem dL_areBudgets_201 : decode cL_areBudgets 201 = .ok (.iload 11, 2) := by decide +kernel
theorem dL_areBudgets_203 : decode cL_areBudgets 203 = .ok (.iconst 0, 1) := by decide +kernel
theorem dL_areBudgets_204 : decode cL_areBudgets 204 = .ok (.invokestatic 120, 3) := by decide +kernel
theorem dL_areBudgets_207 : decode cL_areBudgets 207 = .ok (.iconst 1, 1) := by decide +kernel
theorem dL_areBudgets_208 : decode cL_areBudgets 208 = .ok (.if_icmp .ne 7, 3) := by decide +kernel
theorem dL_areBudgets_211 : decode cL_areBudgets 211 = .ok (.iconst 1, 1) := by decide +kernel
theorem dL_areBudgets_212 : decode cL_areBudgets 212 = .ok (.goto 4, 3) := by decide +kernel
theorem dL_areBudgets_215 : decode cL_areBudgets 215 = .ok (.iconst 0, 1) := by decide +kernel
theorem dL_areBudgets_216 : decode cL_areBudgets 216 = .ok (.bastore, 1) := by decide +kernel
theorem dL_areBudgets_217 : decode cL_areBudgets 217 = .ok (.iinc 11 1, 3) := by decide +kernel
theorem dL_areBudgets_220 : decode cL_areBudgets 220 = .ok (.goto (-146), 3) := by decide +kernel
theorem dL_areBudgets_223 : decode cL_areBudgets 223 = .ok (.iconst 0, 1) := by decide +kernel
theorem dL_areBudgets_224 : decode cL_areBudgets 224 = .ok (.istore 11, 2) := by decide +kernel
theorem dL_areBudgets_226 : decode cL_areBudgets 226 = .ok (.iload 11, 2) := by decide +kernel
theorem dL_areBudgets_228 : decode cL_areBudgets 228 = .ok (.iconst 4, 1) := by decide +kernel
theorem dL_areBudgets_229 : decode cL_areBudgets 229 = .ok (.if_icmp .ge 82, 3) := by decide +kernel
theorem dL_areBudgets_232 : decode cL_areBudgets 232 = .ok (.iload 10, 2) := by decide +kernel
theorem dL_areBudgets_234 : decode cL_areBudgets 234 = .ok (.ifCond .eq 68, 3) := by decide +kernel
theorem dL_areBudgets_237 : decode cL_areBudgets 237 = .ok (.aload_n 0, 1) := by decide +kernel
theorem dL_areBudgets_238 : decode cL_areBudgets 238 = .ok (.bipush 6, 2) := by decide +kernel
theorem dL_areBudgets_240 : decode cL_areBudgets 240 = .ok (.iload 11, 2) := by decide +kernel
theorem dL_areBudgets_242 : decode cL_areBudgets 242 = .ok (.iconst 0, 1) := by decide +kernel
theorem dL_areBudgets_243 : decode cL_areBudgets 243 = .ok (.invokestatic 120, 3) := by decide +kernel
theorem dL_areBudgets_246 : decode cL_areBudgets 246 = .ok (.aload 4, 2) := by decide +kernel
theorem dL_areBudgets_248 : decode cL_areBudgets 248 = .ok (.iload 11, 2) := by decide +kernel
theorem dL_areBudgets_250 : decode cL_areBudgets 250 = .ok (.iaload, 1) := by decide +kernel
theorem dL_areBudgets_251 : decode cL_areBudgets 251 = .ok (.if_icmp .ne 51, 3) := by decide +kernel
theorem dL_areBudgets_254 : decode cL_areBudgets 254 = .ok (.aload_n 0, 1) := by decide +kernel
theorem dL_areBudgets_255 : decode cL_areBudgets 255 = .ok (.bipush 7, 2) := by decide +kernel
theorem dL_areBudgets_257 : decode cL_areBudgets 257 = .ok (.iload 11, 2) := by decide +kernel
theorem dL_areBudgets_259 : decode cL_areBudgets 259 = .ok (.iconst 0, 1) := by decide +kernel
theorem dL_areBudgets_260 : decode cL_areBudgets 260 = .ok (.invokestatic 120, 3) := by decide +kernel
theorem dL_areBudgets_263 : decode cL_areBudgets 263 = .ok (.aload 5, 2) := by decide +kernel
theorem dL_areBudgets_265 : decode cL_areBudgets 265 = .ok (.iload 11, 2) := by decide +kernel
theorem dL_areBudgets_267 : decode cL_areBudgets 267 = .ok (.iaload, 1) := by decide +kernel
theorem dL_areBudgets_268 : decode cL_areBudgets 268 = .ok (.if_icmp .ne 34, 3) := by decide +kernel
theorem dL_areBudgets_271 : decode cL_areBudgets 271 = .ok (.aload_n 2, 1) := by decide +kernel
theorem dL_areBudgets_272 : decode cL_areBudgets 272 = .ok (.iload 11, 2) := by decide +kernel
theorem dL_areBudgets_274 : decode cL_areBudgets 274 = .ok (.iaload, 1) := by decide +kernel
theorem dL_areBudgets_275 : decode cL_areBudgets 275 = .ok (.ifCond .lt 23, 3) := by decide +kernel
theorem dL_areBudgets_278 : decode cL_areBudgets 278 = .ok (.aload 4, 2) := by decide +kernel
theorem dL_areBudgets_280 : decode cL_areBudgets 280 = .ok (.iload 11, 2) := by decide +kernel
theorem dL_areBudgets_282 : decode cL_areBudgets 282 = .ok (.iaload, 1) := by decide +kernel
theorem dL_areBudgets_283 : decode cL_areBudgets 283 = .ok (.aload_n 2, 1) := by decide +kernel
theorem dL_areBudgets_284 : decode cL_areBudgets 284 = .ok (.iload 11, 2) := by decide +kernel
theorem dL_areBudgets_286 : decode cL_areBudgets 286 = .ok (.iaload, 1) := by decide +kernel
theorem dL_areBudgets_287 : decode cL_areBudgets 287 = .ok (.if_icmp .le 11, 3) := by decide +kernel
theorem dL_areBudgets_290 : decode cL_areBudgets 290 = .ok (.aload 6, 2) := by decide +kernel
theorem dL_areBudgets_292 : decode cL_areBudgets 292 = .ok (.iload 11, 2) := by decide +kernel
theorem dL_areBudgets_294 : decode cL_areBudgets 294 = .ok (.baload, 1) := by decide +kernel
theorem dL_areBudgets_295 : decode cL_areBudgets 295 = .ok (.ifCond .eq 7, 3) := by decide +kernel
theorem dL_areBudgets_298 : decode cL_areBudgets 298 = .ok (.iconst 1, 1) := by decide +kernel
theorem dL_areBudgets_299 : decode cL_areBudgets 299 = .ok (.goto 4, 3) := by decide +kernel
theorem dL_areBudgets_302 : decode cL_areBudgets 302 = .ok (.iconst 0, 1) := by decide +kernel
theorem dL_areBudgets_303 : decode cL_areBudgets 303 = .ok (.istore 10, 2) := by decide +kernel
theorem dL_areBudgets_305 : decode cL_areBudgets 305 = .ok (.iinc 11 1, 3) := by decide +kernel
theorem dL_areBudgets_308 : decode cL_areBudgets 308 = .ok (.goto (-82), 3) := by decide +kernel
theorem dL_areBudgets_311 : decode cL_areBudgets 311 = .ok (.iload 10, 2) := by decide +kernel
theorem dL_areBudgets_313 : decode cL_areBudgets 313 = .ok (.ifCond .eq 50, 3) := by decide +kernel
theorem dL_areBudgets_316 : decode cL_areBudgets 316 = .ok (.aload_n 0, 1) := by decide +kernel
theorem dL_areBudgets_317 : decode cL_areBudgets 317 = .ok (.invokevirtual 135, 3) := by decide +kernel
theorem dL_areBudgets_320 : decode cL_areBudgets 320 = .ok (.lload 7, 2) := by decide +kernel
theorem dL_areBudgets_322 : decode cL_areBudgets 322 = .ok (.lcmp, 1) := by decide +kernel
theorem dL_areBudgets_323 : decode cL_areBudgets 323 = .ok (.ifCond .ne 40, 3) := by decide +kernel
theorem dL_areBudgets_326 : decode cL_areBudgets 326 = .ok (.aload_n 0, 1) := by decide +kernel
theorem dL_areBudgets_327 : decode cL_areBudgets 327 = .ok (.invokevirtual 139, 3) := by decide +kernel
theorem dL_areBudgets_330 : decode cL_areBudgets 330 = .ok (.iload_n 3, 1) := by decide +kernel
theorem dL_areBudgets_331 : decode cL_areBudgets 331 = .ok (.if_icmp .ne 32, 3) := by decide +kernel
theorem dL_areBudgets_334 : decode cL_areBudgets 334 = .ok (.iload_n 3, 1) := by decide +kernel
theorem dL_areBudgets_335 : decode cL_areBudgets 335 = .ok (.ifCond .eq 17, 3) := by decide +kernel
theorem dL_areBudgets_338 : decode cL_areBudgets 338 = .ok (.aload_n 0, 1) := by decide +kernel
theorem dL_areBudgets_339 : decode cL_areBudgets 339 = .ok (.invokevirtual 142, 3) := by decide +kernel
theorem dL_areBudgets_342 : decode cL_areBudgets 342 = .ok (.iload 9, 2) := by decide +kernel
theorem dL_areBudgets_344 : decode cL_areBudgets 344 = .ok (.i2f, 1) := by decide +kernel
theorem dL_areBudgets_345 : decode cL_areBudgets 345 = .ok (.iload_n 3, 1) := by decide +kernel
theorem dL_areBudgets_346 : decode cL_areBudgets 346 = .ok (.i2f, 1) := by decide +kernel
theorem dL_areBudgets_347 : decode cL_areBudgets 347 = .ok (.fdiv, 1) := by decide +kernel
theorem dL_areBudgets_348 : decode cL_areBudgets 348 = .ok (.fcmp .l, 1) := by decide +kernel
theorem dL_areBudgets_349 : decode cL_areBudgets 349 = .ok (.ifCond .ne 14, 3) := by decide +kernel
theorem dL_areBudgets_352 : decode cL_areBudgets 352 = .ok (.aload_n 0, 1) := by decide +kernel
theorem dL_areBudgets_353 : decode cL_areBudgets 353 = .ok (.invokevirtual 146, 3) := by decide +kernel
theorem dL_areBudgets_356 : decode cL_areBudgets 356 = .ok (.ifCond .eq 7, 3) := by decide +kernel
theorem dL_areBudgets_359 : decode cL_areBudgets 359 = .ok (.iconst 1, 1) := by decide +kernel
theorem dL_areBudgets_360 : decode cL_areBudgets 360 = .ok (.goto 4, 3) := by decide +kernel
theorem dL_areBudgets_363 : decode cL_areBudgets 363 = .ok (.iconst 0, 1) := by decide +kernel
theorem dL_areBudgets_364 : decode cL_areBudgets 364 = .ok (.ireturn, 1) := by decide +kernel
theorem dL_law_0 : decode cL_law 0 = .ok (.new 16, 3) := by decide +kernel
theorem dL_law_3 : decode cL_law 3 = .ok (.dup, 1) := by decide +kernel
theorem dL_law_4 : decode cL_law 4 = .ok (.invokespecial 150, 3) := by decide +kernel
theorem dL_law_7 : decode cL_law 7 = .ok (.astore_n 1, 1) := by decide +kernel
theorem dL_law_8 : decode cL_law 8 = .ok (.sipush 1400, 3) := by decide +kernel
theorem dL_law_11 : decode cL_law 11 = .ok (.newarray .int, 2) := by decide +kernel
theorem dL_law_13 : decode cL_law 13 = .ok (.astore_n 2, 1) := by decide +kernel
theorem dL_law_14 : decode cL_law 14 = .ok (.bipush 49, 2) := by decide +kernel
theorem dL_law_16 : decode cL_law 16 = .ok (.newarray .int, 2) := by decide +kernel
theorem dL_law_18 : decode cL_law 18 = .ok (.astore_n 3, 1) := by decide +kernel
theorem dL_law_19 : decode cL_law 19 = .ok (.iconst 4, 1) := by decide +kernel
theorem dL_law_20 : decode cL_law 20 = .ok (.newarray .int, 2) := by decide +kernel
theorem dL_law_22 : decode cL_law 22 = .ok (.dup, 1) := by decide +kernel
theorem dL_law_23 : decode cL_law 23 = .ok (.iconst 0, 1) := by decide +kernel
theorem dL_law_24 : decode cL_law 24 = .ok (.sipush 9999, 3) := by decide +kernel
theorem dL_law_27 : decode cL_law 27 = .ok (.iastore, 1) := by decide +kernel
theorem dL_law_28 : decode cL_law 28 = .ok (.dup, 1) := by decide +kernel
theorem dL_law_29 : decode cL_law 29 = .ok (.iconst 1, 1) := by decide +kernel
theorem dL_law_30 : decode cL_law 30 = .ok (.sipush 9999, 3) := by decide +kernel
theorem dL_law_33 : decode cL_law 33 = .ok (.iastore, 1) := by decide +kernel
theorem dL_law_34 : decode cL_law 34 = .ok (.dup, 1) := by decide +kernel
theorem dL_law_35 : decode cL_law 35 = .ok (.iconst 2, 1) := by decide +kernel
theorem dL_law_36 : decode cL_law 36 = .ok (.sipush 9999, 3) := by decide +kernel
theorem dL_law_39 : decode cL_law 39 = .ok (.iastore, 1) := by decide +kernel
theorem dL_law_40 : decode cL_law 40 = .ok (.dup, 1) := by decide +kernel
theorem dL_law_41 : decode cL_law 41 = .ok (.iconst 3, 1) := by decide +kernel
theorem dL_law_42 : decode cL_law 42 = .ok (.sipush 9999, 3) := by decide +kernel
theorem dL_law_45 : decode cL_law 45 = .ok (.iastore, 1) := by decide +kernel
theorem dL_law_46 : decode cL_law 46 = .ok (.astore 4, 2) := by decide +kernel
theorem dL_law_48 : decode cL_law 48 = .ok (.iconst 0, 1) := by decide +kernel
theorem dL_law_49 : decode cL_law 49 = .ok (.istore 5, 2) := by decide +kernel
theorem dL_law_51 : decode cL_law 51 = .ok (.iconst 0, 1) := by decide +kernel
theorem dL_law_52 : decode cL_law 52 = .ok (.istore 6, 2) := by decide +kernel
theorem dL_law_54 : decode cL_law 54 = .ok (.iconst 1, 1) := by decide +kernel
theorem dL_law_55 : decode cL_law 55 = .ok (.istore 7, 2) := by decide +kernel
theorem dL_law_57 : decode cL_law 57 = .ok (.iconst 0, 1) := by decide +kernel
theorem dL_law_58 : decode cL_law 58 = .ok (.istore 8, 2) := by decide +kernel
