theorem dX7_findLeast_98 : decode cX7_findLeast 98 = .ok (.invokestatic 143, 3) := by decide +kernel
theorem dX7_findLeast_101 : decode cX7_findLeast 101 = .ok (.invokestatic 143, 3) := by decide +kernel
theorem dX7_findLeast_104 : decode cX7_findLeast 104 = .ok (.istore 7, 2) := by decide +kernel
theorem dX7_findLeast_106 : decode cX7_findLeast 106 = .ok (.aload_n 0, 1) := by decide +kernel
theorem dX7_findLeast_107 : decode cX7_findLeast 107 = .ok (.getfield 37, 3) := by decide +kernel
theorem dX7_findLeast_110 : decode cX7_findLeast 110 = .ok (.iload 5, 2) := by decide +kernel
theorem dX7_findLeast_112 : decode cX7_findLeast 112 = .ok (.iload 6, 2) := by decide +kernel
theorem dX7_findLeast_114 : decode cX7_findLeast 114 = .ok (.iconst 0, 1) := by decide +kernel
theorem dX7_findLeast_115 : decode cX7_findLeast 115 = .ok (.invokestatic 131, 3) := by decide +kernel
theorem dX7_findLeast_118 : decode cX7_findLeast 118 = .ok (.iload 7, 2) := by decide +kernel
theorem dX7_findLeast_120 : decode cX7_findLeast 120 = .ok (.iastore, 1) := by decide +kernel
theorem dX7_findLeast_121 : decode cX7_findLeast 121 = .ok (.iinc 6 1, 3) := by decide +kernel
theorem dX7_findLeast_124 : decode cX7_findLeast 124 = .ok (.goto (-96), 3) := by decide +kernel
theorem dX7_findLeast_127 : decode cX7_findLeast 127 = .ok (.iconst 1, 1) := by decide +kernel
theorem dX7_findLeast_128 : decode cX7_findLeast 128 = .ok (.istore 6, 2) := by decide +kernel
theorem dX7_findLeast_130 : decode cX7_findLeast 130 = .ok (.iload 6, 2) := by decide +kernel
theorem dX7_findLeast_132 : decode cX7_findLeast 132 = .ok (.bipush 6, 2) := by decide +kernel
theorem dX7_findLeast_134 : decode cX7_findLeast 134 = .ok (.if_icmp .gt 56, 3) := by decide +kernel
theorem dX7_findLeast_137 : decode cX7_findLeast 137 = .ok (.aload_n 0, 1) := by decide +kernel
theorem dX7_findLeast_138 : decode cX7_findLeast 138 = .ok (.getfield 37, 3) := by decide +kernel
theorem dX7_findLeast_141 : decode cX7_findLeast 141 = .ok (.iload 5, 2) := by decide +kernel
theorem dX7_findLeast_143 : decode cX7_findLeast 143 = .ok (.iload 6, 2) := by decide +kernel
theorem dX7_findLeast_145 : decode cX7_findLeast 145 = .ok (.iconst 0, 1) := by decide +kernel
theorem dX7_findLeast_146 : decode cX7_findLeast 146 = .ok (.invokestatic 131, 3) := by decide +kernel
theorem dX7_findLeast_149 : decode cX7_findLeast 149 = .ok (.aload_n 0, 1) := by decide +kernel
theorem dX7_findLeast_150 : decode cX7_findLeast 150 = .ok (.getfield 37, 3) := by decide +kernel
theorem dX7_findLeast_153 : decode cX7_findLeast 153 = .ok (.iload 5, 2) := by decide +kernel
theorem dX7_findLeast_155 : decode cX7_findLeast 155 = .ok (.iload 6, 2) := by decide +kernel
theorem dX7_findLeast_157 : decode cX7_findLeast 157 = .ok (.iconst 0, 1) := by decide +kernel
theorem dX7_findLeast_158 : decode cX7_findLeast 158 = .ok (.invokestatic 131, 3) := by decide +kernel
theorem dX7_findLeast_161 : decode cX7_findLeast 161 = .ok (.iaload, 1) := by decide +kernel
theorem dX7_findLeast_162 : decode cX7_findLeast 162 = .ok (.iload 4, 2) := by decide +kernel
theorem dX7_findLeast_164 : decode cX7_findLeast 164 = .ok (.aload_n 0, 1) := by decide +kernel
theorem dX7_findLeast_165 : decode cX7_findLeast 165 = .ok (.getfield 37, 3) := by decide +kernel
theorem dX7_findLeast_168 : decode cX7_findLeast 168 = .ok (.iload 5, 2) := by decide +kernel
theorem dX7_findLeast_170 : decode cX7_findLeast 170 = .ok (.iload 6, 2) := by decide +kernel
theorem dX7_findLeast_172 : decode cX7_findLeast 172 = .ok (.iconst 1, 1) := by decide +kernel
theorem dX7_findLeast_173 : decode cX7_findLeast 173 = .ok (.isub, 1) := by decide +kernel
theorem dX7_findLeast_174 : decode cX7_findLeast 174 = .ok (.iconst 0, 1) := by decide +kernel
theorem dX7_findLeast_175 : decode cX7_findLeast 175 = .ok (.invokestatic 131, 3) := by decide +kernel
theorem dX7_findLeast_178 : decode cX7_findLeast 178 = .ok (.iaload, 1) := by decide +kernel
theorem dX7_findLeast_179 : decode cX7_findLeast 179 = .ok (.iadd, 1) := by decide +kernel
theorem dX7_findLeast_180 : decode cX7_findLeast 180 = .ok (.invokestatic 143, 3) := by decide +kernel
theorem dX7_findLeast_183 : decode cX7_findLeast 183 = .ok (.iastore, 1) := by decide +kernel
theorem dX7_findLeast_184 : decode cX7_findLeast 184 = .ok (.iinc 6 1, 3) := by decide +kernel
theorem dX7_findLeast_187 : decode cX7_findLeast 187 = .ok (.goto (-57), 3) := by decide +kernel
theorem dX7_findLeast_190 : decode cX7_findLeast 190 = .ok (.iconst 5, 1) := by decide +kernel
theorem dX7_findLeast_191 : decode cX7_findLeast 191 = .ok (.istore 6, 2) := by decide +kernel
theorem dX7_findLeast_193 : decode cX7_findLeast 193 = .ok (.iload 6, 2) := by decide +kernel
theorem dX7_findLeast_195 : decode cX7_findLeast 195 = .ok (.ifCond .lt 56, 3) := by decide +kernel
theorem dX7_findLeast_198 : decode cX7_findLeast 198 = .ok (.aload_n 0, 1) := by decide +kernel
theorem dX7_findLeast_199 : decode cX7_findLeast 199 = .ok (.getfield 37, 3) := by decide +kernel
theorem dX7_findLeast_202 : decode cX7_findLeast 202 = .ok (.iload 5, 2) := by decide +kernel
theorem dX7_findLeast_204 : decode cX7_findLeast 204 = .ok (.iload 6, 2) := by decide +kernel
theorem dX7_findLeast_206 : decode cX7_findLeast 206 = .ok (.iconst 0, 1) := by decide +kernel
theorem dX7_findLeast_207 : decode cX7_findLeast 207 = .ok (.invokestatic 131, 3) := by decide +kernel
theorem dX7_findLeast_210 : decode cX7_findLeast 210 = .ok (.aload_n 0, 1) := by decide +kernel
theorem dX7_findLeast_211 : decode cX7_findLeast 211 = .ok (.getfield 37, 3) := by decide +kernel
theorem dX7_findLeast_214 : decode cX7_findLeast 214 = .ok (.iload 5, 2) := by decide +kernel
theorem dX7_findLeast_216 : decode cX7_findLeast 216 = .ok (.iload 6, 2) := by decide +kernel
theorem dX7_findLeast_218 : decode cX7_findLeast 218 = .ok (.iconst 0, 1) := by decide +kernel
theorem dX7_findLeast_219 : decode cX7_findLeast 219 = .ok (.invokestatic 131, 3) := by decide +kernel
theorem dX7_findLeast_222 : decode cX7_findLeast 222 = .ok (.iaload, 1) := by decide +kernel
theorem dX7_findLeast_223 : decode cX7_findLeast 223 = .ok (.iload 4, 2) := by decide +kernel
theorem dX7_findLeast_225 : decode cX7_findLeast 225 = .ok (.aload_n 0, 1) := by decide +kernel
theorem dX7_findLeast_226 : decode cX7_findLeast 226 = .ok (.getfield 37, 3) := by decide +kernel
theorem dX7_findLeast_229 : decode cX7_findLeast 229 = .ok (.iload 5, 2) := by decide +kernel
theorem dX7_findLeast_231 : decode cX7_findLeast 231 = .ok (.iload 6, 2) := by decide +kernel
theorem dX7_findLeast_233 : decode cX7_findLeast 233 = .ok (.iconst 1, 1) := by decide +kernel
theorem dX7_findLeast_234 : decode cX7_findLeast 234 = .ok (.iadd, 1) := by decide +kernel
theorem dX7_findLeast_235 : decode cX7_findLeast 235 = .ok (.iconst 0, 1) := by decide +kernel
theorem dX7_findLeast_236 : decode cX7_findLeast 236 = .ok (.invokestatic 131, 3) := by decide +kernel
theorem dX7_findLeast_239 : decode cX7_findLeast 239 = .ok (.iaload, 1) := by decide +kernel
theorem dX7_findLeast_240 : decode cX7_findLeast 240 = .ok (.iadd, 1) := by decide +kernel
theorem dX7_findLeast_241 : decode cX7_findLeast 241 = .ok (.invokestatic 143, 3) := by decide +kernel
theorem dX7_findLeast_244 : decode cX7_findLeast 244 = .ok (.iastore, 1) := by decide +kernel
theorem dX7_findLeast_245 : decode cX7_findLeast 245 = .ok (.iinc 6 (-1), 3) := by decide +kernel
theorem dX7_findLeast_248 : decode cX7_findLeast 248 = .ok (.goto (-55), 3) := by decide +kernel
theorem dX7_findLeast_251 : decode cX7_findLeast 251 = .ok (.iconst 0, 1) := by decide +kernel
theorem dX7_findLeast_252 : decode cX7_findLeast 252 = .ok (.istore 6, 2) := by decide +kernel
theorem dX7_findLeast_254 : decode cX7_findLeast 254 = .ok (.iload 6, 2) := by decide +kernel
theorem dX7_findLeast_256 : decode cX7_findLeast 256 = .ok (.bipush 6, 2) := by decide +kernel
theorem dX7_findLeast_258 : decode cX7_findLeast 258 = .ok (.if_icmp .gt 119, 3) := by decide +kernel
theorem dX7_findLeast_261 : decode cX7_findLeast 261 = .ok (.iconst 1, 1) := by decide +kernel
theorem dX7_findLeast_262 : decode cX7_findLeast 262 = .ok (.istore 7, 2) := by decide +kernel
theorem dX7_findLeast_264 : decode cX7_findLeast 264 = .ok (.iload 7, 2) := by decide +kernel
theorem dX7_findLeast_266 : decode cX7_findLeast 266 = .ok (.iload_n 2, 1) := by decide +kernel
theorem dX7_findLeast_267 : decode cX7_findLeast 267 = .ok (.iload 6, 2) := by decide +kernel
theorem dX7_findLeast_269 : decode cX7_findLeast 269 = .ok (.invokestatic 116, 3) := by decide +kernel
theorem dX7_findLeast_272 : decode cX7_findLeast 272 = .ok (.if_icmp .gt 99, 3) := by decide +kernel
theorem dX7_findLeast_275 : decode cX7_findLeast 275 = .ok (.iload 5, 2) := by decide +kernel
theorem dX7_findLeast_277 : decode cX7_findLeast 277 = .ok (.iload_n 3, 1) := by decide +kernel
theorem dX7_findLeast_278 : decode cX7_findLeast 278 = .ok (.if_icmp .ne 8, 3) := by decide +kernel
theorem dX7_findLeast_281 : decode cX7_findLeast 281 = .ok (.ldc 135, 2) := by decide +kernel
theorem dX7_findLeast_283 : decode cX7_findLeast 283 = .ok (.goto 42, 3) := by decide +kernel
theorem dX7_findLeast_286 : decode cX7_findLeast 286 = .ok (.aload_n 0, 1) := by decide +kernel
theorem dX7_findLeast_287 : decode cX7_findLeast 287 = .ok (.iload 5, 2) := by decide +kernel
theorem dX7_findLeast_289 : decode cX7_findLeast 289 = .ok (.iload 6, 2) := by decide +kernel
theorem dX7_findLeast_291 : decode cX7_findLeast 291 = .ok (.iload 7, 2) := by decide +kernel
theorem dX7_findLeast_293 : decode cX7_findLeast 293 = .ok (.iload_n 1, 1) := by decide +kernel
theorem dX7_findLeast_294 : decode cX7_findLeast 294 = .ok (.iload_n 2, 1) := by decide +kernel
theorem dX7_findLeast_295 : decode cX7_findLeast 295 = .ok (.invokevirtual 136, 3) := by decide +kernel
theorem dX7_findLeast_298 : decode cX7_findLeast 298 = .ok (.aload_n 0, 1) := by decide +kernel
theorem dX7_findLeast_299 : decode cX7_findLeast 299 = .ok (.iload 5, 2) := by decide +kernel
theorem dX7_findLeast_301 : decode cX7_findLeast 301 = .ok (.iload 6, 2) := by decide +kernel
theorem dX7_findLeast_303 : decode cX7_findLeast 303 = .ok (.iload 7, 2) := by decide +kernel
theorem dX7_findLeast_305 : decode cX7_findLeast 305 = .ok (.invokevirtual 140, 3) := by decide +kernel
theorem dX7_findLeast_308 : decode cX7_findLeast 308 = .ok (.invokestatic 143, 3) := by decide +kernel
theorem dX7_findLeast_311 : decode cX7_findLeast 311 = .ok (.aload_n 0, 1) := by decide +kernel
theorem dX7_findLeast_312 : decode cX7_findLeast 312 = .ok (.iload 5, 2) := by decide +kernel
theorem dX7_findLeast_314 : decode cX7_findLeast 314 = .ok (.iload 6, 2) := by decide +kernel
theorem dX7_findLeast_316 : decode cX7_findLeast 316 = .ok (.iload 7, 2) := by decide +kernel
theorem dX7_findLeast_318 : decode cX7_findLeast 318 = .ok (.iconst 0, 1) := by decide +kernel
theorem dX7_findLeast_319 : decode cX7_findLeast 319 = .ok (.invokevirtual 146, 3) := by decide +kernel
theorem dX7_findLeast_322 : decode cX7_findLeast 322 = .ok (.invokestatic 143, 3) := by decide +kernel
theorem dX7_findLeast_325 : decode cX7_findLeast 325 = .ok (.istore 8, 2) := by decide +kernel
theorem dX7_findLeast_327 : decode cX7_findLeast 327 = .ok (.aload_n 0, 1) := by decide +kernel
theorem dX7_findLeast_328 : decode cX7_findLeast 328 = .ok (.getfield 37, 3) := by decide +kernel
theorem dX7_findLeast_331 : decode cX7_findLeast 331 = .ok (.iload 5, 2) := by decide +kernel
theorem dX7_findLeast_333 : decode cX7_findLeast 333 = .ok (.iload 6, 2) := by decide +kernel
theorem dX7_findLeast_335 : decode cX7_findLeast 335 = .ok (.iload 7, 2) := by decide +kernel
theorem dX7_findLeast_337 : decode cX7_findLeast 337 = .ok (.invokestatic 131, 3) := by decide +kernel
theorem dX7_findLeast_340 : decode cX7_findLeast 340 = .ok (.iload 8, 2) := by decide +kernel
theorem dX7_findLeast_342 : decode cX7_findLeast 342 = .ok (.iload 4, 2) := by decide +kernel
theorem dX7_findLeast_344 : decode cX7_findLeast 344 = .ok (.aload_n 0, 1) := by decide +kernel
theorem dX7_findLeast_345 : decode cX7_findLeast 345 = .ok (.getfield 37, 3) := by decide +kernel
theorem dX7_findLeast_348 : decode cX7_findLeast 348 = .ok (.iload 5, 2) := by decide +kernel
theorem dX7_findLeast_350 : decode cX7_findLeast 350 = .ok (.iload 6, 2) := by decide +kernel
theorem dX7_findLeast_352 : decode cX7_findLeast 352 = .ok (.iload 7, 2) := by decide +kernel
theorem dX7_findLeast_354 : decode cX7_findLeast 354 = .ok (.iconst 1, 1) := by decide +kernel
theorem dX7_findLeast_355 : decode cX7_findLeast 355 = .ok (.isub, 1) := by decide +kernel
theorem dX7_findLeast_356 : decode cX7_findLeast 356 = .ok (.invokestatic 131, 3) := by decide +kernel
theorem dX7_findLeast_359 : decode cX7_findLeast 359 = .ok (.iaload, 1) := by decide +kernel
theorem dX7_findLeast_360 : decode cX7_findLeast 360 = .ok (.iadd, 1) := by decide +kernel
theorem dX7_findLeast_361 : decode cX7_findLeast 361 = .ok (.invokestatic 143, 3) := by decide +kernel
theorem dX7_findLeast_364 : decode cX7_findLeast 364 = .ok (.iastore, 1) := by decide +kernel
theorem dX7_findLeast_365 : decode cX7_findLeast 365 = .ok (.iinc 7 1, 3) := by decide +kernel
theorem dX7_findLeast_368 : decode cX7_findLeast 368 = .ok (.goto (-104), 3) := by decide +kernel
theorem dX7_findLeast_371 : decode cX7_findLeast 371 = .ok (.iinc 6 1, 3) := by decide +kernel
theorem dX7_findLeast_374 : decode cX7_findLeast 374 = .ok (.goto (-120), 3) := by decide +kernel
theorem dX7_findLeast_377 : decode cX7_findLeast 377 = .ok (.iinc 5 (-1), 3) := by decide +kernel
theorem dX7_findLeast_380 : decode cX7_findLeast 380 = .ok (.goto (-360), 3) := by decide +kernel
theorem dX7_findLeast_383 : decode cX7_findLeast 383 = .ok (.aload_n 0, 1) := by decide +kernel
theorem dX7_findLeast_384 : decode cX7_findLeast 384 = .ok (.getfield 37, 3) := by decide +kernel
theorem dX7_findLeast_387 : decode cX7_findLeast 387 = .ok (.iconst 0, 1) := by decide +kernel
theorem dX7_findLeast_388 : decode cX7_findLeast 388 = .ok (.iaload, 1) := by decide +kernel
theorem dX7_findLeast_389 : decode cX7_findLeast 389 = .ok (.ireturn, 1) := by decide +kernel
theorem dX7_puts_0 : decode cX7_puts 0 = .ok (.aload_n 0, 1) := by decide +kernel
theorem dX7_puts_1 : decode cX7_puts 1 = .ok (.getfield 40, 3) := by decide +kernel
theorem dX7_puts_4 : decode cX7_puts 4 = .ok (.aload_n 0, 1) := by decide +kernel
theorem dX7_puts_5 : decode cX7_puts 5 = .ok (.getfield 149, 3) := by decide +kernel
theorem dX7_puts_8 : decode cX7_puts 8 = .ok (.iload_n 1, 1) := by decide +kernel
theorem dX7_puts_9 : decode cX7_puts 9 = .ok (.iastore, 1) := by decide +kernel
theorem dX7_puts_10 : decode cX7_puts 10 = .ok (.aload_n 0, 1) := by decide +kernel
theorem dX7_puts_11 : decode cX7_puts 11 = .ok (.dup, 1) := by decide +kernel
theorem dX7_puts_12 : decode cX7_puts 12 = .ok (.getfield 149, 3) := by decide +kernel
theorem dX7_puts_15 : decode cX7_puts 15 = .ok (.iconst 1, 1) := by decide +kernel
theorem dX7_puts_16 : decode cX7_puts 16 = .ok (.iadd, 1) := by decide +kernel
theorem dX7_puts_17 : decode cX7_puts 17 = .ok (.putfield 149, 3) := by decide +kernel
theorem dX7_puts_20 : decode cX7_puts 20 = .ok (.iload_n 2, 1) := by decide +kernel
theorem dX7_puts_21 : decode cX7_puts 21 = .ok (.iconst 3, 1) := by decide +kernel
theorem dX7_puts_22 : decode cX7_puts 22 = .ok (.if_icmp .ge 13, 3) := by decide +kernel
theorem dX7_puts_25 : decode cX7_puts 25 = .ok (.aload_n 0, 1) := by decide +kernel
theorem dX7_puts_26 : decode cX7_puts 26 = .ok (.getfield 43, 3) := by decide +kernel
theorem dX7_puts_29 : decode cX7_puts 29 = .ok (.iload_n 2, 1) := by decide +kernel
theorem dX7_puts_30 : decode cX7_puts 30 = .ok (.dup2, 1) := by decide +kernel
theorem dX7_puts_31 : decode cX7_puts 31 = .ok (.iaload, 1) := by decide +kernel
theorem dX7_puts_32 : decode cX7_puts 32 = .ok (.iconst 1, 1) := by decide +kernel
theorem dX7_puts_33 : decode cX7_puts 33 = .ok (.iadd, 1) := by decide +kernel
theorem dX7_puts_34 : decode cX7_puts 34 = .ok (.iastore, 1) := by decide +kernel
theorem dX7_puts_35 : decode cX7_puts 35 = .ok (.return_, 1) := by decide +kernel
theorem dX7_findMended_0 : decode cX7_findMended 0 = .ok (.aload_n 0, 1) := by decide +kernel
theorem dX7_findMended_1 : decode cX7_findMended 1 = .ok (.getfield 13, 3) := by decide +kernel
theorem dX7_findMended_4 : decode cX7_findMended 4 = .ok (.bipush 121, 2) := by decide +kernel
theorem dX7_findMended_6 : decode cX7_findMended 6 = .ok (.iaload, 1) := by decide +kernel
theorem dX7_findMended_7 : decode cX7_findMended 7 = .ok (.istore_n 1, 1) := by decide +kernel
theorem dX7_findMended_8 : decode cX7_findMended 8 = .ok (.aload_n 0, 1) := by decide +kernel
theorem dX7_findMended_9 : decode cX7_findMended 9 = .ok (.getfield 13, 3) := by decide +kernel
theorem dX7_findMended_12 : decode cX7_findMended 12 = .ok (.bipush 122, 2) := by decide +kernel
theorem dX7_findMended_14 : decode cX7_findMended 14 = .ok (.iaload, 1) := by decide +kernel
theorem dX7_findMended_15 : decode cX7_findMended 15 = .ok (.istore_n 2, 1) := by decide +kernel
theorem dX7_findMended_16 : decode cX7_findMended 16 = .ok (.aload_n 0, 1) := by decide +kernel
theorem dX7_findMended_17 : decode cX7_findMended 17 = .ok (.iload_n 1, 1) := by decide +kernel
theorem dX7_findMended_18 : decode cX7_findMended 18 = .ok (.iload_n 2, 1) := by decide +kernel
theorem dX7_findMended_19 : decode cX7_findMended 19 = .ok (.invokevirtual 152, 3) := by decide +kernel
theorem dX7_findMended_22 : decode cX7_findMended 22 = .ok (.pop, 1) := by decide +kernel
theorem dX7_findMended_23 : decode cX7_findMended 23 = .ok (.aload_n 0, 1) := by decide +kernel
theorem dX7_findMended_24 : decode cX7_findMended 24 = .ok (.iconst 0, 1) := by decide +kernel
theorem dX7_findMended_25 : decode cX7_findMended 25 = .ok (.putfield 149, 3) := by decide +kernel
theorem dX7_findMended_28 : decode cX7_findMended 28 = .ok (.aload_n 0, 1) := by decide +kernel
theorem dX7_findMended_29 : decode cX7_findMended 29 = .ok (.getfield 43, 3) := by decide +kernel
theorem dX7_findMended_32 : decode cX7_findMended 32 = .ok (.iconst 0, 1) := by decide +kernel
theorem dX7_findMended_33 : decode cX7_findMended 33 = .ok (.iconst 0, 1) := by decide +kernel
theorem dX7_findMended_34 : decode cX7_findMended 34 = .ok (.iastore, 1) := by decide +kernel
theorem dX7_findMended_35 : decode cX7_findMended 35 = .ok (.aload_n 0, 1) := by decide +kernel
theorem dX7_findMended_36 : decode cX7_findMended 36 = .ok (.getfield 43, 3) := by decide +kernel
theorem dX7_findMended_39 : decode cX7_findMended 39 = .ok (.iconst 1, 1) := by decide +kernel
theorem dX7_findMended_40 : decode cX7_findMended 40 = .ok (.iconst 0, 1) := by decide +kernel
theorem dX7_findMended_41 : decode cX7_findMended 41 = .ok (.iastore, 1) := by decide +kernel
theorem dX7_findMended_42 : decode cX7_findMended 42 = .ok (.aload_n 0, 1) := by decide +kernel
theorem dX7_findMended_43 : decode cX7_findMended 43 = .ok (.getfield 43, 3) := by decide +kernel
theorem dX7_findMended_46 : decode cX7_findMended 46 = .ok (.iconst 2, 1) := by decide +kernel
theorem dX7_findMended_47 : decode cX7_findMended 47 = .ok (.iconst 0, 1) := by decide +kernel
theorem dX7_findMended_48 : decode cX7_findMended 48 = .ok (.iastore, 1) := by decide +kernel
theorem dX7_findMended_49 : decode cX7_findMended 49 = .ok (.iconst 0, 1) := by decide +kernel
theorem dX7_findMended_50 : decode cX7_findMended 50 = .ok (.istore_n 3, 1) := by decide +kernel
theorem dX7_findMended_51 : decode cX7_findMended 51 = .ok (.iconst 0, 1) := by decide +kernel
theorem dX7_findMended_52 : decode cX7_findMended 52 = .ok (.istore 4, 2) := by decide +kernel
theorem dX7_findMended_54 : decode cX7_findMended 54 = .ok (.iconst 0, 1) := by decide +kernel
theorem dX7_findMended_55 : decode cX7_findMended 55 = .ok (.istore 5, 2) := by decide +kernel
theorem dX7_findMended_57 : decode cX7_findMended 57 = .ok (.iload_n 3, 1) := by decide +kernel
theorem dX7_findMended_58 : decode cX7_findMended 58 = .ok (.aload_n 0, 1) := by decide +kernel
theorem dX7_findMended_59 : decode cX7_findMended 59 = .ok (.getfield 13, 3) := by decide +kernel
theorem dX7_findMended_62 : decode cX7_findMended 62 = .ok (.bipush 120, 2) := by decide +kernel
theorem dX7_findMended_64 : decode cX7_findMended 64 = .ok (.iaload, 1) := by decide +kernel
theorem dX7_findMended_65 : decode cX7_findMended 65 = .ok (.if_icmp .lt 13, 3) := by decide +kernel
theorem dX7_findMended_68 : decode cX7_findMended 68 = .ok (.iload 4, 2) := by decide +kernel
theorem dX7_findMended_70 : decode cX7_findMended 70 = .ok (.ifCond .gt 8, 3) := by decide +kernel
theorem dX7_findMended_73 : decode cX7_findMended 73 = .ok (.iload 5, 2) := by decide +kernel
theorem dX7_findMended_75 : decode cX7_findMended 75 = .ok (.ifCond .le 413, 3) := by decide +kernel
theorem dX7_findMended_78 : decode cX7_findMended 78 = .ok (.aload_n 0, 1) := by decide +kernel
theorem dX7_findMended_79 : decode cX7_findMended 79 = .ok (.getfield 37, 3) := by decide +kernel
theorem dX7_findMended_82 : decode cX7_findMended 82 = .ok (.iload_n 3, 1) := by decide +kernel
theorem dX7_findMended_83 : decode cX7_findMended 83 = .ok (.iload 4, 2) := by decide +kernel
theorem dX7_findMended_85 : decode cX7_findMended 85 = .ok (.iload 5, 2) := by decide +kernel
theorem dX7_findMended_87 : decode cX7_findMended 87 = .ok (.invokestatic 131, 3) := by decide +kernel
theorem dX7_findMended_90 : decode cX7_findMended 90 = .ok (.iaload, 1) := by decide +kernel
theorem dX7_findMended_91 : decode cX7_findMended 91 = .ok (.istore 6, 2) := by decide +kernel
theorem dX7_findMended_93 : decode cX7_findMended 93 = .ok (.iload 5, 2) := by decide +kernel
theorem dX7_findMended_95 : decode cX7_findMended 95 = .ok (.ifCond .le 15, 3) := by decide +kernel
theorem dX7_findMended_98 : decode cX7_findMended 98 = .ok (.iload_n 1, 1) := by decide +kernel
theorem dX7_findMended_99 : decode cX7_findMended 99 = .ok (.iload_n 2, 1) := by decide +kernel
theorem dX7_findMended_100 : decode cX7_findMended 100 = .ok (.iload 4, 2) := by decide +kernel
theorem dX7_findMended_102 : decode cX7_findMended 102 = .ok (.iload 5, 2) := by decide +kernel
theorem dX7_findMended_104 : decode cX7_findMended 104 = .ok (.invokestatic 108, 3) := by decide +kernel
theorem dX7_findMended_107 : decode cX7_findMended 107 = .ok (.goto 4, 3) := by decide +kernel
theorem dX7_findMended_110 : decode cX7_findMended 110 = .ok (.iconst 0, 1) := by decide +kernel
theorem dX7_findMended_111 : decode cX7_findMended 111 = .ok (.istore 7, 2) := by decide +kernel
theorem dX7_findMended_113 : decode cX7_findMended 113 = .ok (.iload_n 3, 1) := by decide +kernel
theorem dX7_findMended_114 : decode cX7_findMended 114 = .ok (.aload_n 0, 1) := by decide +kernel
theorem dX7_findMended_115 : decode cX7_findMended 115 = .ok (.getfield 13, 3) := by decide +kernel
theorem dX7_findMended_118 : decode cX7_findMended 118 = .ok (.bipush 120, 2) := by decide +kernel
theorem dX7_findMended_120 : decode cX7_findMended 120 = .ok (.iaload, 1) := by decide +kernel
theorem dX7_findMended_121 : decode cX7_findMended 121 = .ok (.if_icmp .ne 7, 3) := by decide +kernel
theorem dX7_findMended_124 : decode cX7_findMended 124 = .ok (.iconst 1, 1) := by decide +kernel
theorem dX7_findMended_125 : decode cX7_findMended 125 = .ok (.goto 4, 3) := by decide +kernel
theorem dX7_findMended_128 : decode cX7_findMended 128 = .ok (.iconst 0, 1) := by decide +kernel
theorem dX7_findMended_129 : decode cX7_findMended 129 = .ok (.istore 8, 2) := by decide +kernel
theorem dX7_findMended_131 : decode cX7_findMended 131 = .ok (.iload 8, 2) := by decide +kernel
theorem dX7_findMended_133 : decode cX7_findMended 133 = .ok (.ifCond .ne 118, 3) := by decide +kernel
theorem dX7_findMended_136 : decode cX7_findMended 136 = .ok (.aload_n 0, 1) := by decide +kernel
theorem dX7_findMended_137 : decode cX7_findMended 137 = .ok (.iload_n 3, 1) := by decide +kernel
theorem dX7_findMended_138 : decode cX7_findMended 138 = .ok (.iload 4, 2) := by decide +kernel
theorem dX7_findMended_140 : decode cX7_findMended 140 = .ok (.iload 5, 2) := by decide +kernel
theorem dX7_findMended_142 : decode cX7_findMended 142 = .ok (.iload_n 1, 1) := by decide +kernel
theorem dX7_findMended_143 : decode cX7_findMended 143 = .ok (.iload_n 2, 1) := by decide +kernel
theorem dX7_findMended_144 : decode cX7_findMended 144 = .ok (.invokevirtual 136, 3) := by decide +kernel
theorem dX7_findMended_147 : decode cX7_findMended 147 = .ok (.iload 6, 2) := by decide +kernel
theorem dX7_findMended_149 : decode cX7_findMended 149 = .ok (.if_icmp .ne 102, 3) := by decide +kernel
theorem dX7_findMended_152 : decode cX7_findMended 152 = .ok (.aload_n 0, 1) := by decide +kernel
theorem dX7_findMended_153 : decode cX7_findMended 153 = .ok (.getfield 13, 3) := by decide +kernel
theorem dX7_findMended_156 : decode cX7_findMended 156 = .ok (.iload_n 3, 1) := by decide +kernel
theorem dX7_findMended_157 : decode cX7_findMended 157 = .ok (.iaload, 1) := by decide +kernel
theorem dX7_findMended_158 : decode cX7_findMended 158 = .ok (.istore 9, 2) := by decide +kernel
theorem dX7_findMended_160 : decode cX7_findMended 160 = .ok (.iload 4, 2) := by decide +kernel
theorem dX7_findMended_162 : decode cX7_findMended 162 = .ok (.istore 10, 2) := by decide +kernel
theorem dX7_findMended_164 : decode cX7_findMended 164 = .ok (.iload 4, 2) := by decide +kernel
theorem dX7_findMended_166 : decode cX7_findMended 166 = .ok (.iload 5, 2) := by decide +kernel
theorem dX7_findMended_168 : decode cX7_findMended 168 = .ok (.ifCond .gt 11, 3) := by decide +kernel
theorem dX7_findMended_171 : decode cX7_findMended 171 = .ok (.iload 9, 2) := by decide +kernel
theorem dX7_findMended_173 : decode cX7_findMended 173 = .ok (.invokestatic 54, 3) := by decide +kernel
theorem dX7_findMended_176 : decode cX7_findMended 176 = .ok (.ifCond .ne 7, 3) := by decide +kernel
theorem dX7_findMended_179 : decode cX7_findMended 179 = .ok (.iconst 0, 1) := by decide +kernel
theorem dX7_findMended_180 : decode cX7_findMended 180 = .ok (.goto 24, 3) := by decide +kernel
theorem dX7_findMended_183 : decode cX7_findMended 183 = .ok (.iload 4, 2) := by decide +kernel
theorem dX7_findMended_185 : decode cX7_findMended 185 = .ok (.ifCond .le 18, 3) := by decide +kernel
theorem dX7_findMended_188 : decode cX7_findMended 188 = .ok (.iload 9, 2) := by decide +kernel
theorem dX7_findMended_190 : decode cX7_findMended 190 = .ok (.iload_n 1, 1) := by decide +kernel
theorem dX7_findMended_191 : decode cX7_findMended 191 = .ok (.iload 4, 2) := by decide +kernel
theorem dX7_findMended_193 : decode cX7_findMended 193 = .ok (.invokestatic 119, 3) := by decide +kernel
theorem dX7_findMended_196 : decode cX7_findMended 196 = .ok (.if_icmp .ne 7, 3) := by decide +kernel
theorem dX7_findMended_199 : decode cX7_findMended 199 = .ok (.iconst (-1), 1) := by decide +kernel
theorem dX7_findMended_200 : decode cX7_findMended 200 = .ok (.goto 4, 3) := by decide +kernel
theorem dX7_findMended_203 : decode cX7_findMended 203 = .ok (.iconst 1, 1) := by decide +kernel
theorem dX7_findMended_204 : decode cX7_findMended 204 = .ok (.iadd, 1) := by decide +kernel
theorem dX7_findMended_205 : decode cX7_findMended 205 = .ok (.istore 4, 2) := by decide +kernel
theorem dX7_findMended_207 : decode cX7_findMended 207 = .ok (.iload 5, 2) := by decide +kernel
theorem dX7_findMended_209 : decode cX7_findMended 209 = .ok (.ifCond .le 10, 3) := by decide +kernel
theorem dX7_findMended_212 : decode cX7_findMended 212 = .ok (.iload 5, 2) := by decide +kernel
theorem dX7_findMended_214 : decode cX7_findMended 214 = .ok (.iconst 1, 1) := by decide +kernel
theorem dX7_findMended_215 : decode cX7_findMended 215 = .ok (.isub, 1) := by decide +kernel
theorem dX7_findMended_216 : decode cX7_findMended 216 = .ok (.goto 20, 3) := by decide +kernel
theorem dX7_findMended_219 : decode cX7_findMended 219 = .ok (.iload 9, 2) := by decide +kernel
theorem dX7_findMended_221 : decode cX7_findMended 221 = .ok (.bipush 124, 2) := by decide +kernel
theorem dX7_findMended_223 : decode cX7_findMended 223 = .ok (.if_icmp .ne 12, 3) := by decide +kernel
theorem dX7_findMended_226 : decode cX7_findMended 226 = .ok (.iload_n 2, 1) := by decide +kernel
theorem dX7_findMended_227 : decode cX7_findMended 227 = .ok (.iload 10, 2) := by decide +kernel
theorem dX7_findMended_229 : decode cX7_findMended 229 = .ok (.invokestatic 116, 3) := by decide +kernel
theorem dX7_findMended_232 : decode cX7_findMended 232 = .ok (.goto 4, 3) := by decide +kernel
theorem dX7_findMended_235 : decode cX7_findMended 235 = .ok (.iconst 0, 1) := by decide +kernel
theorem dX7_findMended_236 : decode cX7_findMended 236 = .ok (.istore 5, 2) := by decide +kernel
theorem dX7_findMended_238 : decode cX7_findMended 238 = .ok (.aload_n 0, 1) := by decide +kernel
theorem dX7_findMended_239 : decode cX7_findMended 239 = .ok (.iload 9, 2) := by decide +kernel
theorem dX7_findMended_241 : decode cX7_findMended 241 = .ok (.iconst 3, 1) := by decide +kernel
theorem dX7_findMended_242 : decode cX7_findMended 242 = .ok (.invokevirtual 155, 3) := by decide +kernel
theorem dX7_findMended_245 : decode cX7_findMended 245 = .ok (.iinc 3 1, 3) := by decide +kernel
theorem dX7_findMended_248 : decode cX7_findMended 248 = .ok (.goto 237, 3) := by decide +kernel
theorem dX7_findMended_251 : decode cX7_findMended 251 = .ok (.iload 8, 2) := by decide +kernel
theorem dX7_findMended_253 : decode cX7_findMended 253 = .ok (.ifCond .ne 34, 3) := by decide +kernel
theorem dX7_findMended_256 : decode cX7_findMended 256 = .ok (.aload_n 0, 1) := by decide +kernel
theorem dX7_findMended_257 : decode cX7_findMended 257 = .ok (.iload_n 3, 1) := by decide +kernel
theorem dX7_findMended_258 : decode cX7_findMended 258 = .ok (.iload 4, 2) := by decide +kernel
theorem dX7_findMended_260 : decode cX7_findMended 260 = .ok (.iload 5, 2) := by decide +kernel
theorem dX7_findMended_262 : decode cX7_findMended 262 = .ok (.iconst 0, 1) := by decide +kernel
theorem dX7_findMended_263 : decode cX7_findMended 263 = .ok (.invokevirtual 146, 3) := by decide +kernel
theorem dX7_findMended_266 : decode cX7_findMended 266 = .ok (.iload 6, 2) := by decide +kernel
theorem dX7_findMended_268 : decode cX7_findMended 268 = .ok (.if_icmp .ne 19, 3) := by decide +kernel
theorem dX7_findMended_271 : decode cX7_findMended 271 = .ok (.aload_n 0, 1) := by decide +kernel
theorem dX7_findMended_272 : decode cX7_findMended 272 = .ok (.iload 7, 2) := by decide +kernel
theorem dX7_findMended_274 : decode cX7_findMended 274 = .ok (.iconst 2, 1) := by decide +kernel
theorem dX7_findMended_275 : decode cX7_findMended 275 = .ok (.invokevirtual 155, 3) := by decide +kernel
theorem dX7_findMended_278 : decode cX7_findMended 278 = .ok (.iinc 5 (-1), 3) := by decide +kernel
theorem dX7_findMended_281 : decode cX7_findMended 281 = .ok (.iinc 3 1, 3) := by decide +kernel
theorem dX7_findMended_284 : decode cX7_findMended 284 = .ok (.goto 201, 3) := by decide +kernel
theorem dX7_findMended_287 : decode cX7_findMended 287 = .ok (.iload 8, 2) := by decide +kernel
theorem dX7_findMended_289 : decode cX7_findMended 289 = .ok (.ifCond .ne 38, 3) := by decide +kernel
theorem dX7_findMended_292 : decode cX7_findMended 292 = .ok (.aload_n 0, 1) := by decide +kernel
theorem dX7_findMended_293 : decode cX7_findMended 293 = .ok (.iload_n 3, 1) := by decide +kernel
theorem dX7_findMended_294 : decode cX7_findMended 294 = .ok (.iload 4, 2) := by decide +kernel
theorem dX7_findMended_296 : decode cX7_findMended 296 = .ok (.iload 5, 2) := by decide +kernel
theorem dX7_findMended_298 : decode cX7_findMended 298 = .ok (.iconst 1, 1) := by decide +kernel
theorem dX7_findMended_299 : decode cX7_findMended 299 = .ok (.invokevirtual 146, 3) := by decide +kernel
theorem dX7_findMended_302 : decode cX7_findMended 302 = .ok (.iload 6, 2) := by decide +kernel
theorem dX7_findMended_304 : decode cX7_findMended 304 = .ok (.if_icmp .ne 23, 3) := by decide +kernel
theorem dX7_findMended_307 : decode cX7_findMended 307 = .ok (.aload_n 0, 1) := by decide +kernel
theorem dX7_findMended_308 : decode cX7_findMended 308 = .ok (.iload_n 1, 1) := by decide +kernel
theorem dX7_findMended_309 : decode cX7_findMended 309 = .ok (.iload 4, 2) := by decide +kernel
theorem dX7_findMended_311 : decode cX7_findMended 311 = .ok (.invokestatic 62, 3) := by decide +kernel
theorem dX7_findMended_314 : decode cX7_findMended 314 = .ok (.iconst 2, 1) := by decide +kernel
theorem dX7_findMended_315 : decode cX7_findMended 315 = .ok (.invokevirtual 155, 3) := by decide +kernel
theorem dX7_findMended_318 : decode cX7_findMended 318 = .ok (.iinc 4 1, 3) := by decide +kernel
theorem dX7_findMended_321 : decode cX7_findMended 321 = .ok (.iinc 3 1, 3) := by decide +kernel
theorem dX7_findMended_324 : decode cX7_findMended 324 = .ok (.goto 161, 3) := by decide +kernel
theorem dX7_findMended_327 : decode cX7_findMended 327 = .ok (.iload 8, 2) := by decide +kernel
theorem dX7_findMended_329 : decode cX7_findMended 329 = .ok (.ifCond .ne 38, 3) := by decide +kernel
theorem dX7_findMended_332 : decode cX7_findMended 332 = .ok (.aload_n 0, 1) := by decide +kernel
theorem dX7_findMended_333 : decode cX7_findMended 333 = .ok (.iload_n 3, 1) := by decide +kernel
theorem dX7_findMended_334 : decode cX7_findMended 334 = .ok (.iload 4, 2) := by decide +kernel
theorem dX7_findMended_336 : decode cX7_findMended 336 = .ok (.iload 5, 2) := by decide +kernel
theorem dX7_findMended_338 : decode cX7_findMended 338 = .ok (.iconst (-1), 1) := by decide +kernel
theorem dX7_findMended_339 : decode cX7_findMended 339 = .ok (.invokevirtual 146, 3) := by decide +kernel
theorem dX7_findMended_342 : decode cX7_findMended 342 = .ok (.iload 6, 2) := by decide +kernel
theorem dX7_findMended_344 : decode cX7_findMended 344 = .ok (.if_icmp .ne 23, 3) := by decide +kernel
theorem dX7_findMended_347 : decode cX7_findMended 347 = .ok (.aload_n 0, 1) := by decide +kernel
theorem dX7_findMended_348 : decode cX7_findMended 348 = .ok (.iload_n 1, 1) := by decide +kernel
theorem dX7_findMended_349 : decode cX7_findMended 349 = .ok (.iload 4, 2) := by decide +kernel
theorem dX7_findMended_351 : decode cX7_findMended 351 = .ok (.invokestatic 119, 3) := by decide +kernel
theorem dX7_findMended_354 : decode cX7_findMended 354 = .ok (.iconst 2, 1) := by decide +kernel
theorem dX7_findMended_355 : decode cX7_findMended 355 = .ok (.invokevirtual 155, 3) := by decide +kernel
theorem dX7_findMended_358 : decode cX7_findMended 358 = .ok (.iinc 4 (-1), 3) := by decide +kernel
theorem dX7_findMended_361 : decode cX7_findMended 361 = .ok (.iinc 3 1, 3) := by decide +kernel
theorem dX7_findMended_364 : decode cX7_findMended 364 = .ok (.goto 121, 3) := by decide +kernel
theorem dX7_findMended_367 : decode cX7_findMended 367 = .ok (.iload 8, 2) := by decide +kernel
theorem dX7_findMended_369 : decode cX7_findMended 369 = .ok (.ifCond .ne 33, 3) := by decide +kernel
theorem dX7_findMended_372 : decode cX7_findMended 372 = .ok (.aload_n 0, 1) := by decide +kernel
theorem dX7_findMended_373 : decode cX7_findMended 373 = .ok (.iload_n 3, 1) := by decide +kernel
theorem dX7_findMended_374 : decode cX7_findMended 374 = .ok (.iload 4, 2) := by decide +kernel
theorem dX7_findMended_376 : decode cX7_findMended 376 = .ok (.iload 5, 2) := by decide +kernel
theorem dX7_findMended_378 : decode cX7_findMended 378 = .ok (.invokevirtual 140, 3) := by decide +kernel
theorem dX7_findMended_381 : decode cX7_findMended 381 = .ok (.iload 6, 2) := by decide +kernel
theorem dX7_findMended_383 : decode cX7_findMended 383 = .ok (.if_icmp .ne 19, 3) := by decide +kernel
theorem dX7_findMended_386 : decode cX7_findMended 386 = .ok (.aload_n 0, 1) := by decide +kernel
theorem dX7_findMended_387 : decode cX7_findMended 387 = .ok (.getfield 43, 3) := by decide +kernel
theorem dX7_findMended_390 : decode cX7_findMended 390 = .ok (.iconst 1, 1) := by decide +kernel
theorem dX7_findMended_391 : decode cX7_findMended 391 = .ok (.dup2, 1) := by decide +kernel
theorem dX7_findMended_392 : decode cX7_findMended 392 = .ok (.iaload, 1) := by decide +kernel
theorem dX7_findMended_393 : decode cX7_findMended 393 = .ok (.iconst 1, 1) := by decide +kernel
theorem dX7_findMended_394 : decode cX7_findMended 394 = .ok (.iadd, 1) := by decide +kernel
theorem dX7_findMended_395 : decode cX7_findMended 395 = .ok (.iastore, 1) := by decide +kernel
theorem dX7_findMended_396 : decode cX7_findMended 396 = .ok (.iinc 3 1, 3) := by decide +kernel
theorem dX7_findMended_399 : decode cX7_findMended 399 = .ok (.goto 86, 3) := by decide +kernel
theorem dX7_findMended_402 : decode cX7_findMended 402 = .ok (.iload 5, 2) := by decide +kernel
theorem dX7_findMended_404 : decode cX7_findMended 404 = .ok (.ifCond .le 16, 3) := by decide +kernel
theorem dX7_findMended_407 : decode cX7_findMended 407 = .ok (.aload_n 0, 1) := by decide +kernel
theorem dX7_findMended_408 : decode cX7_findMended 408 = .ok (.iload 7, 2) := by decide +kernel
theorem dX7_findMended_410 : decode cX7_findMended 410 = .ok (.iconst 0, 1) := by decide +kernel
theorem dX7_findMended_411 : decode cX7_findMended 411 = .ok (.invokevirtual 155, 3) := by decide +kernel
theorem dX7_findMended_414 : decode cX7_findMended 414 = .ok (.iinc 5 (-1), 3) := by decide +kernel
theorem dX7_findMended_417 : decode cX7_findMended 417 = .ok (.goto 68, 3) := by decide +kernel
theorem dX7_findMended_420 : decode cX7_findMended 420 = .ok (.iload 4, 2) := by decide +kernel
theorem dX7_findMended_422 : decode cX7_findMended 422 = .ok (.bipush 6, 2) := by decide +kernel
theorem dX7_findMended_424 : decode cX7_findMended 424 = .ok (.if_icmp .ge 47, 3) := by decide +kernel
theorem dX7_findMended_427 : decode cX7_findMended 427 = .ok (.aload_n 0, 1) := by decide +kernel
theorem dX7_findMended_428 : decode cX7_findMended 428 = .ok (.getfield 13, 3) := by decide +kernel
theorem dX7_findMended_431 : decode cX7_findMended 431 = .ok (.bipush 123, 2) := by decide +kernel
theorem dX7_findMended_433 : decode cX7_findMended 433 = .ok (.iaload, 1) := by decide +kernel
theorem dX7_findMended_434 : decode cX7_findMended 434 = .ok (.aload_n 0, 1) := by decide +kernel
theorem dX7_findMended_435 : decode cX7_findMended 435 = .ok (.getfield 37, 3) := by decide +kernel
theorem dX7_findMended_438 : decode cX7_findMended 438 = .ok (.iload_n 3, 1) := by decide +kernel
theorem dX7_findMended_439 : decode cX7_findMended 439 = .ok (.iload 4, 2) := by decide +kernel
theorem dX7_findMended_441 : decode cX7_findMended 441 = .ok (.iconst 1, 1) := by decide +kernel
theorem dX7_findMended_442 : decode cX7_findMended 442 = .ok (.iadd, 1) := by decide +kernel
theorem dX7_findMended_443 : decode cX7_findMended 443 = .ok (.iconst 0, 1) := by decide +kernel
theorem dX7_findMended_444 : decode cX7_findMended 444 = .ok (.invokestatic 131, 3) := by decide +kernel
theorem dX7_findMended_447 : decode cX7_findMended 447 = .ok (.iaload, 1) := by decide +kernel
theorem dX7_findMended_448 : decode cX7_findMended 448 = .ok (.iadd, 1) := by decide +kernel
theorem dX7_findMended_449 : decode cX7_findMended 449 = .ok (.iload 6, 2) := by decide +kernel
theorem dX7_findMended_451 : decode cX7_findMended 451 = .ok (.if_icmp .ne 20, 3) := by decide +kernel
theorem dX7_findMended_454 : decode cX7_findMended 454 = .ok (.aload_n 0, 1) := by decide +kernel
theorem dX7_findMended_455 : decode cX7_findMended 455 = .ok (.iload_n 1, 1) := by decide +kernel
theorem dX7_findMended_456 : decode cX7_findMended 456 = .ok (.iload 4, 2) := by decide +kernel
theorem dX7_findMended_458 : decode cX7_findMended 458 = .ok (.invokestatic 62, 3) := by decide +kernel
theorem dX7_findMended_461 : decode cX7_findMended 461 = .ok (.iconst 0, 1) := by decide +kernel
theorem dX7_findMended_462 : decode cX7_findMended 462 = .ok (.invokevirtual 155, 3) := by decide +kernel
theorem dX7_findMended_465 : decode cX7_findMended 465 = .ok (.iinc 4 1, 3) := by decide +kernel
theorem dX7_findMended_468 : decode cX7_findMended 468 = .ok (.goto 17, 3) := by decide +kernel
theorem dX7_findMended_471 : decode cX7_findMended 471 = .ok (.aload_n 0, 1) := by decide +kernel
theorem dX7_findMended_472 : decode cX7_findMended 472 = .ok (.iload_n 1, 1) := by decide +kernel
theorem dX7_findMended_473 : decode cX7_findMended 473 = .ok (.iload 4, 2) := by decide +kernel
theorem dX7_findMended_475 : decode cX7_findMended 475 = .ok (.invokestatic 119, 3) := by decide +kernel
theorem dX7_findMended_478 : decode cX7_findMended 478 = .ok (.iconst 0, 1) := by decide +kernel
theorem dX7_findMended_479 : decode cX7_findMended 479 = .ok (.invokevirtual 155, 3) := by decide +kernel
theorem dX7_findMended_482 : decode cX7_findMended 482 = .ok (.iinc 4 (-1), 3) := by decide +kernel
theorem dX7_findMended_485 : decode cX7_findMended 485 = .ok (.goto (-428), 3) := by decide +kernel
theorem dX7_findMended_488 : decode cX7_findMended 488 = .ok (.return_, 1) := by decide +kernel
theorem dX7_least_0 : decode cX7_least 0 = .ok (.aload_n 0, 1) := by decide +kernel
theorem dX7_least_1 : decode cX7_least 1 = .ok (.aload_n 0, 1) := by decide +kernel
theorem dX7_least_2 : decode cX7_least 2 = .ok (.getfield 13, 3) := by decide +kernel
theorem dX7_least_5 : decode cX7_least 5 = .ok (.bipush 121, 2) := by decide +kernel
theorem dX7_least_7 : decode cX7_least 7 = .ok (.iaload, 1) := by decide +kernel
theorem dX7_least_8 : decode cX7_least 8 = .ok (.aload_n 0, 1) := by decide +kernel
theorem dX7_least_9 : decode cX7_least 9 = .ok (.getfield 13, 3) := by decide +kernel
theorem dX7_least_12 : decode cX7_least 12 = .ok (.bipush 122, 2) := by decide +kernel
theorem dX7_least_14 : decode cX7_least 14 = .ok (.iaload, 1) := by decide +kernel
theorem dX7_least_15 : decode cX7_least 15 = .ok (.invokevirtual 152, 3) := by decide +kernel
theorem dX7_least_18 : decode cX7_least 18 = .ok (.ireturn, 1) := by decide +kernel
theorem dX7_changes_0 : decode cX7_changes 0 = .ok (.iload_n 1, 1) := by decide +kernel
theorem dX7_changes_1 : decode cX7_changes 1 = .ok (.i2l, 1) := by decide +kernel
theorem dX7_changes_2 : decode cX7_changes 2 = .ok (.lconst 0, 1) := by decide +kernel
theorem dX7_changes_3 : decode cX7_changes 3 = .ok (.ldc2_w 95, 3) := by decide +kernel
theorem dX7_changes_6 : decode cX7_changes 6 = .ok (.invokestatic 50, 3) := by decide +kernel
theorem dX7_changes_9 : decode cX7_changes 9 = .ok (.ifCond .ne 5, 3) := by decide +kernel
theorem dX7_changes_12 : decode cX7_changes 12 = .ok (.iconst (-1), 1) := by decide +kernel
theorem dX7_changes_13 : decode cX7_changes 13 = .ok (.ireturn, 1) := by decide +kernel
theorem dX7_changes_14 : decode cX7_changes 14 = .ok (.aload_n 0, 1) := by decide +kernel
theorem dX7_changes_15 : decode cX7_changes 15 = .ok (.invokevirtual 158, 3) := by decide +kernel
theorem dX7_changes_18 : decode cX7_changes 18 = .ok (.aload_n 0, 1) := by decide +kernel
theorem dX7_changes_19 : decode cX7_changes 19 = .ok (.getfield 43, 3) := by decide +kernel
theorem dX7_changes_22 : decode cX7_changes 22 = .ok (.iload_n 1, 1) := by decide +kernel
theorem dX7_changes_23 : decode cX7_changes 23 = .ok (.iaload, 1) := by decide +kernel
theorem dX7_changes_24 : decode cX7_changes 24 = .ok (.ireturn, 1) := by decide +kernel
theorem dX7_mended_0 : decode cX7_mended 0 = .ok (.iload_n 1, 1) := by decide +kernel
theorem dX7_mended_1 : decode cX7_mended 1 = .ok (.iconst (-1), 1) := by decide +kernel
theorem dX7_mended_2 : decode cX7_mended 2 = .ok (.if_icmp .ge 5, 3) := by decide +kernel
theorem dX7_mended_5 : decode cX7_mended 5 = .ok (.iconst (-1), 1) := by decide +kernel
theorem dX7_mended_6 : decode cX7_mended 6 = .ok (.ireturn, 1) := by decide +kernel
theorem dX7_mended_7 : decode cX7_mended 7 = .ok (.aload_n 0, 1) := by decide +kernel
theorem dX7_mended_8 : decode cX7_mended 8 = .ok (.invokevirtual 158, 3) := by decide +kernel
theorem dX7_mended_11 : decode cX7_mended 11 = .ok (.iload_n 1, 1) := by decide +kernel
theorem dX7_mended_12 : decode cX7_mended 12 = .ok (.ifCond .ge 10, 3) := by decide +kernel
theorem dX7_mended_15 : decode cX7_mended 15 = .ok (.aload_n 0, 1) := by decide +kernel
theorem dX7_mended_16 : decode cX7_mended 16 = .ok (.getfield 149, 3) := by decide +kernel
theorem dX7_mended_19 : decode cX7_mended 19 = .ok (.goto 22, 3) := by decide +kernel
theorem dX7_mended_22 : decode cX7_mended 22 = .ok (.iload_n 1, 1) := by decide +kernel
theorem dX7_mended_23 : decode cX7_mended 23 = .ok (.aload_n 0, 1) := by decide +kernel
theorem dX7_mended_24 : decode cX7_mended 24 = .ok (.getfield 149, 3) := by decide +kernel
theorem dX7_mended_27 : decode cX7_mended 27 = .ok (.if_icmp .ge 12, 3) := by decide +kernel
theorem dX7_mended_30 : decode cX7_mended 30 = .ok (.aload_n 0, 1) := by decide +kernel
theorem dX7_mended_31 : decode cX7_mended 31 = .ok (.getfield 40, 3) := by decide +kernel
theorem dX7_mended_34 : decode cX7_mended 34 = .ok (.iload_n 1, 1) := by decide +kernel
theorem dX7_mended_35 : decode cX7_mended 35 = .ok (.iaload, 1) := by decide +kernel
theorem dX7_mended_36 : decode cX7_mended 36 = .ok (.goto 5, 3) := by decide +kernel
theorem dX7_mended_39 : decode cX7_mended 39 = .ok (.bipush (-4), 2) := by decide +kernel
theorem dX7_mended_41 : decode cX7_mended 41 = .ok (.ireturn, 1) := by decide +kernel
theorem dX7_mend_0 : decode cX7_mend 0 = .ok (.aload_n 0, 1) := by decide +kernel
theorem dX7_mend_1 : decode cX7_mend 1 = .ok (.invokevirtual 126, 3) := by decide +kernel
theorem dX7_mend_4 : decode cX7_mend 4 = .ok (.aload_n 0, 1) := by decide +kernel
theorem dX7_mend_5 : decode cX7_mend 5 = .ok (.getfield 102, 3) := by decide +kernel
theorem dX7_mend_8 : decode cX7_mend 8 = .ok (.ifCond .ne 6, 3) := by decide +kernel
theorem dX7_mend_11 : decode cX7_mend 11 = .ok (.bipush (-2), 2) := by decide +kernel
theorem dX7_mend_13 : decode cX7_mend 13 = .ok (.ireturn, 1) := by decide +kernel
theorem dX7_mend_14 : decode cX7_mend 14 = .ok (.aload_n 0, 1) := by decide +kernel
theorem dX7_mend_15 : decode cX7_mend 15 = .ok (.invokevirtual 158, 3) := by decide +kernel
theorem dX7_mend_18 : decode cX7_mend 18 = .ok (.aload_n 0, 1) := by decide +kernel
theorem dX7_mend_19 : decode cX7_mend 19 = .ok (.getfield 149, 3) := by decide +kernel
theorem dX7_mend_22 : decode cX7_mend 22 = .ok (.bipush 120, 2) := by decide +kernel
theorem dX7_mend_24 : decode cX7_mend 24 = .ok (.if_icmp .le 6, 3) := by decide +kernel
theorem dX7_mend_27 : decode cX7_mend 27 = .ok (.bipush (-3), 2) := by decide +kernel
theorem dX7_mend_29 : decode cX7_mend 29 = .ok (.ireturn, 1) := by decide +kernel
theorem dX7_mend_30 : decode cX7_mend 30 = .ok (.aload_n 0, 1) := by decide +kernel
theorem dX7_mend_31 : decode cX7_mend 31 = .ok (.getfield 37, 3) := by decide +kernel
theorem dX7_mend_34 : decode cX7_mend 34 = .ok (.iconst 0, 1) := by decide +kernel
theorem dX7_mend_35 : decode cX7_mend 35 = .ok (.iaload, 1) := by decide +kernel
theorem dX7_mend_36 : decode cX7_mend 36 = .ok (.istore_n 1, 1) := by decide +kernel
theorem dX7_mend_37 : decode cX7_mend 37 = .ok (.aload_n 0, 1) := by decide +kernel
theorem dX7_mend_38 : decode cX7_mend 38 = .ok (.invokevirtual 86, 3) := by decide +kernel
theorem dX7_mend_41 : decode cX7_mend 41 = .ok (.iconst 0, 1) := by decide +kernel
theorem dX7_mend_42 : decode cX7_mend 42 = .ok (.istore_n 2, 1) := by decide +kernel
theorem dX7_mend_43 : decode cX7_mend 43 = .ok (.iload_n 2, 1) := by decide +kernel
theorem dX7_mend_44 : decode cX7_mend 44 = .ok (.aload_n 0, 1) := by decide +kernel
theorem dX7_mend_45 : decode cX7_mend 45 = .ok (.getfield 149, 3) := by decide +kernel
theorem dX7_mend_48 : decode cX7_mend 48 = .ok (.if_icmp .ge 21, 3) := by decide +kernel
theorem dX7_mend_51 : decode cX7_mend 51 = .ok (.aload_n 0, 1) := by decide +kernel
theorem dX7_mend_52 : decode cX7_mend 52 = .ok (.getfield 13, 3) := by decide +kernel
theorem dX7_mend_55 : decode cX7_mend 55 = .ok (.iload_n 2, 1) := by decide +kernel
theorem dX7_mend_56 : decode cX7_mend 56 = .ok (.aload_n 0, 1) := by decide +kernel
theorem dX7_mend_57 : decode cX7_mend 57 = .ok (.getfield 40, 3) := by decide +kernel
theorem dX7_mend_60 : decode cX7_mend 60 = .ok (.iload_n 2, 1) := by decide +kernel
theorem dX7_mend_61 : decode cX7_mend 61 = .ok (.iaload, 1) := by decide +kernel
theorem dX7_mend_62 : decode cX7_mend 62 = .ok (.iastore, 1) := by decide +kernel
theorem dX7_mend_63 : decode cX7_mend 63 = .ok (.iinc 2 1, 3) := by decide +kernel
theorem dX7_mend_66 : decode cX7_mend 66 = .ok (.goto (-23), 3) := by decide +kernel
theorem dX7_mend_69 : decode cX7_mend 69 = .ok (.aload_n 0, 1) := by decide +kernel
theorem dX7_mend_70 : decode cX7_mend 70 = .ok (.getfield 13, 3) := by decide +kernel
theorem dX7_mend_73 : decode cX7_mend 73 = .ok (.bipush 120, 2) := by decide +kernel
theorem dX7_mend_75 : decode cX7_mend 75 = .ok (.aload_n 0, 1) := by decide +kernel
theorem dX7_mend_76 : decode cX7_mend 76 = .ok (.getfield 149, 3) := by decide +kernel
theorem dX7_mend_79 : decode cX7_mend 79 = .ok (.iastore, 1) := by decide +kernel
theorem dX7_mend_80 : decode cX7_mend 80 = .ok (.iload_n 1, 1) := by decide +kernel
theorem dX7_mend_81 : decode cX7_mend 81 = .ok (.ireturn, 1) := by decide +kernel
theorem dX7_would_0 : decode cX7_would 0 = .ok (.iload_n 1, 1) := by decide +kernel
theorem dX7_would_1 : decode cX7_would 1 = .ok (.i2l, 1) := by decide +kernel
theorem dX7_would_2 : decode cX7_would 2 = .ok (.lconst 0, 1) := by decide +kernel
theorem dX7_would_3 : decode cX7_would 3 = .ok (.ldc2_w 161, 3) := by decide +kernel
theorem dX7_would_6 : decode cX7_would 6 = .ok (.invokestatic 50, 3) := by decide +kernel
theorem dX7_would_9 : decode cX7_would 9 = .ok (.ifCond .eq 24, 3) := by decide +kernel
theorem dX7_would_12 : decode cX7_would 12 = .ok (.iload_n 2, 1) := by decide +kernel
theorem dX7_would_13 : decode cX7_would 13 = .ok (.i2l, 1) := by decide +kernel
theorem dX7_would_14 : decode cX7_would 14 = .ok (.lconst 0, 1) := by decide +kernel
theorem dX7_would_15 : decode cX7_would 15 = .ok (.ldc2_w 95, 3) := by decide +kernel
theorem dX7_would_18 : decode cX7_would 18 = .ok (.invokestatic 50, 3) := by decide +kernel
theorem dX7_would_21 : decode cX7_would 21 = .ok (.ifCond .eq 12, 3) := by decide +kernel
theorem dX7_would_24 : decode cX7_would 24 = .ok (.aload_n 0, 1) := by decide +kernel
theorem dX7_would_25 : decode cX7_would 25 = .ok (.iload_n 1, 1) := by decide +kernel
theorem dX7_would_26 : decode cX7_would 26 = .ok (.iload_n 2, 1) := by decide +kernel
theorem dX7_would_27 : decode cX7_would 27 = .ok (.invokevirtual 152, 3) := by decide +kernel
theorem dX7_would_30 : decode cX7_would 30 = .ok (.goto 4, 3) := by decide +kernel
theorem dX7_would_33 : decode cX7_would 33 = .ok (.iconst (-1), 1) := by decide +kernel
theorem dX7_would_34 : decode cX7_would 34 = .ok (.ireturn, 1) := by decide +kernel
theorem dX7_retell_0 : decode cX7_retell 0 = .ok (.iload_n 1, 1) := by decide +kernel
theorem dX7_retell_1 : decode cX7_retell 1 = .ok (.i2l, 1) := by decide +kernel
theorem dX7_retell_2 : decode cX7_retell 2 = .ok (.lconst 0, 1) := by decide +kernel
theorem dX7_retell_3 : decode cX7_retell 3 = .ok (.ldc2_w 161, 3) := by decide +kernel
theorem dX7_retell_6 : decode cX7_retell 6 = .ok (.invokestatic 50, 3) := by decide +kernel
theorem dX7_retell_9 : decode cX7_retell 9 = .ok (.ifCond .ne 5, 3) := by decide +kernel
theorem dX7_retell_12 : decode cX7_retell 12 = .ok (.iconst (-1), 1) := by decide +kernel
theorem dX7_retell_13 : decode cX7_retell 13 = .ok (.ireturn, 1) := by decide +kernel
theorem dX7_retell_14 : decode cX7_retell 14 = .ok (.aload_n 0, 1) := by decide +kernel
theorem dX7_retell_15 : decode cX7_retell 15 = .ok (.getfield 13, 3) := by decide +kernel
theorem dX7_retell_18 : decode cX7_retell 18 = .ok (.bipush 121, 2) := by decide +kernel
theorem dX7_retell_20 : decode cX7_retell 20 = .ok (.iaload, 1) := by decide +kernel
theorem dX7_retell_21 : decode cX7_retell 21 = .ok (.istore_n 2, 1) := by decide +kernel
theorem dX7_retell_22 : decode cX7_retell 22 = .ok (.aload_n 0, 1) := by decide +kernel
theorem dX7_retell_23 : decode cX7_retell 23 = .ok (.invokevirtual 126, 3) := by decide +kernel
theorem dX7_retell_26 : decode cX7_retell 26 = .ok (.iload_n 2, 1) := by decide +kernel
theorem dX7_retell_27 : decode cX7_retell 27 = .ok (.iload_n 1, 1) := by decide +kernel
theorem dX7_retell_28 : decode cX7_retell 28 = .ok (.if_icmp .eq 10, 3) := by decide +kernel
theorem dX7_retell_31 : decode cX7_retell 31 = .ok (.aload_n 0, 1) := by decide +kernel
theorem dX7_retell_32 : decode cX7_retell 32 = .ok (.getfield 102, 3) := by decide +kernel
theorem dX7_retell_35 : decode cX7_retell 35 = .ok (.ifCond .le 6, 3) := by decide +kernel
theorem dX7_retell_38 : decode cX7_retell 38 = .ok (.bipush (-2), 2) := by decide +kernel
theorem dX7_retell_40 : decode cX7_retell 40 = .ok (.ireturn, 1) := by decide +kernel
theorem dX7_retell_41 : decode cX7_retell 41 = .ok (.aload_n 0, 1) := by decide +kernel
theorem dX7_retell_42 : decode cX7_retell 42 = .ok (.invokevirtual 86, 3) := by decide +kernel
theorem dX7_retell_45 : decode cX7_retell 45 = .ok (.iconst 0, 1) := by decide +kernel
theorem dX7_retell_46 : decode cX7_retell 46 = .ok (.istore_n 3, 1) := by decide +kernel
theorem dX7_retell_47 : decode cX7_retell 47 = .ok (.iload_n 3, 1) := by decide +kernel
theorem dX7_retell_48 : decode cX7_retell 48 = .ok (.aload_n 0, 1) := by decide +kernel
theorem dX7_retell_49 : decode cX7_retell 49 = .ok (.getfield 13, 3) := by decide +kernel
theorem dX7_retell_52 : decode cX7_retell 52 = .ok (.bipush 120, 2) := by decide +kernel
theorem dX7_retell_54 : decode cX7_retell 54 = .ok (.iaload, 1) := by decide +kernel
theorem dX7_retell_55 : decode cX7_retell 55 = .ok (.if_icmp .ge 172, 3) := by decide +kernel
theorem dX7_retell_58 : decode cX7_retell 58 = .ok (.aload_n 0, 1) := by decide +kernel
theorem dX7_retell_59 : decode cX7_retell 59 = .ok (.getfield 13, 3) := by decide +kernel
theorem dX7_retell_62 : decode cX7_retell 62 = .ok (.iload_n 3, 1) := by decide +kernel
theorem dX7_retell_63 : decode cX7_retell 63 = .ok (.iaload, 1) := by decide +kernel
theorem dX7_retell_64 : decode cX7_retell 64 = .ok (.invokestatic 54, 3) := by decide +kernel
theorem dX7_retell_67 : decode cX7_retell 67 = .ok (.ifCond .eq 142, 3) := by decide +kernel
theorem dX7_retell_70 : decode cX7_retell 70 = .ok (.iconst 3, 1) := by decide +kernel
theorem dX7_retell_71 : decode cX7_retell 71 = .ok (.istore 4, 2) := by decide +kernel
theorem dX7_retell_73 : decode cX7_retell 73 = .ok (.iload 4, 2) := by decide +kernel
theorem dX7_retell_75 : decode cX7_retell 75 = .ok (.ifCond .lt 131, 3) := by decide +kernel
theorem dX7_retell_78 : decode cX7_retell 78 = .ok (.aload_n 0, 1) := by decide +kernel
theorem dX7_retell_79 : decode cX7_retell 79 = .ok (.getfield 19, 3) := by decide +kernel
theorem dX7_retell_82 : decode cX7_retell 82 = .ok (.iload_n 3, 1) := by decide +kernel
theorem dX7_retell_83 : decode cX7_retell 83 = .ok (.iaload, 1) := by decide +kernel
theorem dX7_retell_84 : decode cX7_retell 84 = .ok (.iconst 4, 1) := by decide +kernel
theorem dX7_retell_85 : decode cX7_retell 85 = .ok (.if_icmp .ne 32, 3) := by decide +kernel
theorem dX7_retell_88 : decode cX7_retell 88 = .ok (.iload 4, 2) := by decide +kernel
theorem dX7_retell_90 : decode cX7_retell 90 = .ok (.aload_n 0, 1) := by decide +kernel
theorem dX7_retell_91 : decode cX7_retell 91 = .ok (.getfield 22, 3) := by decide +kernel
theorem dX7_retell_94 : decode cX7_retell 94 = .ok (.iload_n 3, 1) := by decide +kernel
theorem dX7_retell_95 : decode cX7_retell 95 = .ok (.iaload, 1) := by decide +kernel
theorem dX7_retell_96 : decode cX7_retell 96 = .ok (.iconst 2, 1) := by decide +kernel
theorem dX7_retell_97 : decode cX7_retell 97 = .ok (.irem, 1) := by decide +kernel
theorem dX7_retell_98 : decode cX7_retell 98 = .ok (.ifCond .ne 7, 3) := by decide +kernel
theorem dX7_retell_101 : decode cX7_retell 101 = .ok (.iconst 1, 1) := by decide +kernel
theorem dX7_retell_102 : decode cX7_retell 102 = .ok (.goto 4, 3) := by decide +kernel
theorem dX7_retell_105 : decode cX7_retell 105 = .ok (.iconst 3, 1) := by decide +kernel
theorem dX7_retell_106 : decode cX7_retell 106 = .ok (.if_icmp .ne 7, 3) := by decide +kernel
theorem dX7_retell_109 : decode cX7_retell 109 = .ok (.iconst 1, 1) := by decide +kernel
theorem dX7_retell_110 : decode cX7_retell 110 = .ok (.goto 62, 3) := by decide +kernel
theorem dX7_retell_113 : decode cX7_retell 113 = .ok (.iconst 0, 1) := by decide +kernel
theorem dX7_retell_114 : decode cX7_retell 114 = .ok (.goto 58, 3) := by decide +kernel
theorem dX7_retell_117 : decode cX7_retell 117 = .ok (.aload_n 0, 1) := by decide +kernel
theorem dX7_retell_118 : decode cX7_retell 118 = .ok (.getfield 19, 3) := by decide +kernel
theorem dX7_retell_121 : decode cX7_retell 121 = .ok (.iload_n 3, 1) := by decide +kernel
theorem dX7_retell_122 : decode cX7_retell 122 = .ok (.iaload, 1) := by decide +kernel
theorem dX7_retell_123 : decode cX7_retell 123 = .ok (.iconst 3, 1) := by decide +kernel
theorem dX7_retell_124 : decode cX7_retell 124 = .ok (.if_icmp .ne 33, 3) := by decide +kernel
theorem dX7_retell_127 : decode cX7_retell 127 = .ok (.iload 4, 2) := by decide +kernel
theorem dX7_retell_129 : decode cX7_retell 129 = .ok (.aload_n 0, 1) := by decide +kernel
theorem dX7_retell_130 : decode cX7_retell 130 = .ok (.getfield 22, 3) := by decide +kernel
theorem dX7_retell_133 : decode cX7_retell 133 = .ok (.iload_n 3, 1) := by decide +kernel
theorem dX7_retell_134 : decode cX7_retell 134 = .ok (.iaload, 1) := by decide +kernel
theorem dX7_retell_135 : decode cX7_retell 135 = .ok (.iconst 2, 1) := by decide +kernel
theorem dX7_retell_136 : decode cX7_retell 136 = .ok (.irem, 1) := by decide +kernel
theorem dX7_retell_137 : decode cX7_retell 137 = .ok (.iconst 1, 1) := by decide +kernel
theorem dX7_retell_138 : decode cX7_retell 138 = .ok (.if_icmp .ne 7, 3) := by decide +kernel
theorem dX7_retell_141 : decode cX7_retell 141 = .ok (.iconst 0, 1) := by decide +kernel
theorem dX7_retell_142 : decode cX7_retell 142 = .ok (.goto 4, 3) := by decide +kernel
theorem dX7_retell_145 : decode cX7_retell 145 = .ok (.iconst 2, 1) := by decide +kernel
theorem dX7_retell_146 : decode cX7_retell 146 = .ok (.if_icmp .ne 7, 3) := by decide +kernel
theorem dX7_retell_149 : decode cX7_retell 149 = .ok (.iconst 1, 1) := by decide +kernel
theorem dX7_retell_150 : decode cX7_retell 150 = .ok (.goto 22, 3) := by decide +kernel
theorem dX7_retell_153 : decode cX7_retell 153 = .ok (.iconst 0, 1) := by decide +kernel
theorem dX7_retell_154 : decode cX7_retell 154 = .ok (.goto 18, 3) := by decide +kernel
theorem dX7_retell_157 : decode cX7_retell 157 = .ok (.iload 4, 2) := by decide +kernel
theorem dX7_retell_159 : decode cX7_retell 159 = .ok (.aload_n 0, 1) := by decide +kernel
theorem dX7_retell_160 : decode cX7_retell 160 = .ok (.iload_n 3, 1) := by decide +kernel
theorem dX7_retell_161 : decode cX7_retell 161 = .ok (.invokevirtual 163, 3) := by decide +kernel
theorem dX7_retell_164 : decode cX7_retell 164 = .ok (.if_icmp .ne 7, 3) := by decide +kernel
theorem dX7_retell_167 : decode cX7_retell 167 = .ok (.iconst 1, 1) := by decide +kernel
theorem dX7_retell_168 : decode cX7_retell 168 = .ok (.goto 4, 3) := by decide +kernel
theorem dX7_retell_171 : decode cX7_retell 171 = .ok (.iconst 0, 1) := by decide +kernel
theorem dX7_retell_172 : decode cX7_retell 172 = .ok (.istore 5, 2) := by decide +kernel
theorem dX7_retell_174 : decode cX7_retell 174 = .ok (.aload_n 0, 1) := by decide +kernel
theorem dX7_retell_175 : decode cX7_retell 175 = .ok (.getfield 40, 3) := by decide +kernel
theorem dX7_retell_178 : decode cX7_retell 178 = .ok (.iload_n 3, 1) := by decide +kernel
theorem dX7_retell_179 : decode cX7_retell 179 = .ok (.iload 5, 2) := by decide +kernel
theorem dX7_retell_181 : decode cX7_retell 181 = .ok (.ifCond .eq 12, 3) := by decide +kernel
theorem dX7_retell_184 : decode cX7_retell 184 = .ok (.iload_n 1, 1) := by decide +kernel
theorem dX7_retell_185 : decode cX7_retell 185 = .ok (.iload 4, 2) := by decide +kernel
theorem dX7_retell_187 : decode cX7_retell 187 = .ok (.invokestatic 58, 3) := by decide +kernel
theorem dX7_retell_190 : decode cX7_retell 190 = .ok (.goto 9, 3) := by decide +kernel
theorem dX7_retell_193 : decode cX7_retell 193 = .ok (.aload_n 0, 1) := by decide +kernel
theorem dX7_retell_194 : decode cX7_retell 194 = .ok (.getfield 40, 3) := by decide +kernel
theorem dX7_retell_197 : decode cX7_retell 197 = .ok (.iload_n 3, 1) := by decide +kernel
theorem dX7_retell_198 : decode cX7_retell 198 = .ok (.iaload, 1) := by decide +kernel
theorem dX7_retell_199 : decode cX7_retell 199 = .ok (.iastore, 1) := by decide +kernel
theorem dX7_retell_200 : decode cX7_retell 200 = .ok (.iinc 4 (-1), 3) := by decide +kernel
theorem dX7_retell_203 : decode cX7_retell 203 = .ok (.goto (-130), 3) := by decide +kernel
theorem dX7_retell_206 : decode cX7_retell 206 = .ok (.goto 15, 3) := by decide +kernel
theorem dX7_retell_209 : decode cX7_retell 209 = .ok (.aload_n 0, 1) := by decide +kernel
theorem dX7_retell_210 : decode cX7_retell 210 = .ok (.getfield 40, 3) := by decide +kernel
theorem dX7_retell_213 : decode cX7_retell 213 = .ok (.iload_n 3, 1) := by decide +kernel
theorem dX7_retell_214 : decode cX7_retell 214 = .ok (.aload_n 0, 1) := by decide +kernel
theorem dX7_retell_215 : decode cX7_retell 215 = .ok (.getfield 13, 3) := by decide +kernel
theorem dX7_retell_218 : decode cX7_retell 218 = .ok (.iload_n 3, 1) := by decide +kernel
theorem dX7_retell_219 : decode cX7_retell 219 = .ok (.iaload, 1) := by decide +kernel
theorem dX7_retell_220 : decode cX7_retell 220 = .ok (.iastore, 1) := by decide +kernel
theorem dX7_retell_221 : decode cX7_retell 221 = .ok (.iinc 3 1, 3) := by decide +kernel
theorem dX7_retell_224 : decode cX7_retell 224 = .ok (.goto (-177), 3) := by decide +kernel
theorem dX7_retell_227 : decode cX7_retell 227 = .ok (.iconst 0, 1) := by decide +kernel
theorem dX7_retell_228 : decode cX7_retell 228 = .ok (.istore_n 3, 1) := by decide +kernel
theorem dX7_retell_229 : decode cX7_retell 229 = .ok (.iload_n 3, 1) := by decide +kernel
theorem dX7_retell_230 : decode cX7_retell 230 = .ok (.aload_n 0, 1) := by decide +kernel
theorem dX7_retell_231 : decode cX7_retell 231 = .ok (.getfield 13, 3) := by decide +kernel
theorem dX7_retell_234 : decode cX7_retell 234 = .ok (.bipush 120, 2) := by decide +kernel
theorem dX7_retell_236 : decode cX7_retell 236 = .ok (.iaload, 1) := by decide +kernel
theorem dX7_retell_237 : decode cX7_retell 237 = .ok (.if_icmp .ge 21, 3) := by decide +kernel
theorem dX7_retell_240 : decode cX7_retell 240 = .ok (.aload_n 0, 1) := by decide +kernel
theorem dX7_retell_241 : decode cX7_retell 241 = .ok (.getfield 13, 3) := by decide +kernel
theorem dX7_retell_244 : decode cX7_retell 244 = .ok (.iload_n 3, 1) := by decide +kernel
theorem dX7_retell_245 : decode cX7_retell 245 = .ok (.aload_n 0, 1) := by decide +kernel
theorem dX7_retell_246 : decode cX7_retell 246 = .ok (.getfield 40, 3) := by decide +kernel
theorem dX7_retell_249 : decode cX7_retell 249 = .ok (.iload_n 3, 1) := by decide +kernel
theorem dX7_retell_250 : decode cX7_retell 250 = .ok (.iaload, 1) := by decide +kernel
theorem dX7_retell_251 : decode cX7_retell 251 = .ok (.iastore, 1) := by decide +kernel
theorem dX7_retell_252 : decode cX7_retell 252 = .ok (.iinc 3 1, 3) := by decide +kernel
theorem dX7_retell_255 : decode cX7_retell 255 = .ok (.goto (-26), 3) := by decide +kernel
theorem dX7_retell_258 : decode cX7_retell 258 = .ok (.aload_n 0, 1) := by decide +kernel
theorem dX7_retell_259 : decode cX7_retell 259 = .ok (.getfield 13, 3) := by decide +kernel
theorem dX7_retell_262 : decode cX7_retell 262 = .ok (.bipush 121, 2) := by decide +kernel
theorem dX7_retell_264 : decode cX7_retell 264 = .ok (.iload_n 1, 1) := by decide +kernel
theorem dX7_retell_265 : decode cX7_retell 265 = .ok (.iastore, 1) := by decide +kernel
theorem dX7_retell_266 : decode cX7_retell 266 = .ok (.iload_n 2, 1) := by decide +kernel
theorem dX7_retell_267 : decode cX7_retell 267 = .ok (.ireturn, 1) := by decide +kernel
theorem dX7_renewer_0 : decode cX7_renewer 0 = .ok (.iload_n 1, 1) := by decide +kernel
theorem dX7_renewer_1 : decode cX7_renewer 1 = .ok (.istore_n 2, 1) := by decide +kernel
theorem dX7_renewer_2 : decode cX7_renewer 2 = .ok (.aload_n 0, 1) := by decide +kernel
theorem dX7_renewer_3 : decode cX7_renewer 3 = .ok (.getfield 19, 3) := by decide +kernel
theorem dX7_renewer_6 : decode cX7_renewer 6 = .ok (.iload_n 2, 1) := by decide +kernel
theorem dX7_renewer_7 : decode cX7_renewer 7 = .ok (.iaload, 1) := by decide +kernel
theorem dX7_renewer_8 : decode cX7_renewer 8 = .ok (.iconst 2, 1) := by decide +kernel
theorem dX7_renewer_9 : decode cX7_renewer 9 = .ok (.if_icmp .eq 9, 3) := by decide +kernel
theorem dX7_renewer_12 : decode cX7_renewer 12 = .ok (.iinc 2 (-1), 3) := by decide +kernel
theorem dX7_renewer_15 : decode cX7_renewer 15 = .ok (.goto (-13), 3) := by decide +kernel
theorem dX7_renewer_18 : decode cX7_renewer 18 = .ok (.aload_n 0, 1) := by decide +kernel
theorem dX7_renewer_19 : decode cX7_renewer 19 = .ok (.getfield 13, 3) := by decide +kernel
theorem dX7_renewer_22 : decode cX7_renewer 22 = .ok (.bipush 122, 2) := by decide +kernel
theorem dX7_renewer_24 : decode cX7_renewer 24 = .ok (.iaload, 1) := by decide +kernel
theorem dX7_renewer_25 : decode cX7_renewer 25 = .ok (.iconst 1, 1) := by decide +kernel
theorem dX7_renewer_26 : decode cX7_renewer 26 = .ok (.if_icmp .eq 13, 3) := by decide +kernel
theorem dX7_renewer_29 : decode cX7_renewer 29 = .ok (.iload_n 1, 1) := by decide +kernel
theorem dX7_renewer_30 : decode cX7_renewer 30 = .ok (.iload_n 2, 1) := by decide +kernel
theorem dX7_renewer_31 : decode cX7_renewer 31 = .ok (.isub, 1) := by decide +kernel
theorem dX7_renewer_32 : decode cX7_renewer 32 = .ok (.iconst 1, 1) := by decide +kernel
theorem dX7_renewer_33 : decode cX7_renewer 33 = .ok (.isub, 1) := by decide +kernel
theorem dX7_renewer_34 : decode cX7_renewer 34 = .ok (.iconst 2, 1) := by decide +kernel
theorem dX7_renewer_35 : decode cX7_renewer 35 = .ok (.irem, 1) := by decide +kernel
theorem dX7_renewer_36 : decode cX7_renewer 36 = .ok (.ifCond .ne 7, 3) := by decide +kernel
theorem dX7_renewer_39 : decode cX7_renewer 39 = .ok (.iconst 0, 1) := by decide +kernel
theorem dX7_renewer_40 : decode cX7_renewer 40 = .ok (.goto 4, 3) := by decide +kernel
theorem dX7_renewer_43 : decode cX7_renewer 43 = .ok (.iconst 2, 1) := by decide +kernel
theorem dX7_renewer_44 : decode cX7_renewer 44 = .ok (.ireturn, 1) := by decide +kernel
theorem dX7_count_0 : decode cX7_count 0 = .ok (.aload_n 0, 1) := by decide +kernel
theorem dX7_count_1 : decode cX7_count 1 = .ok (.invokevirtual 126, 3) := by decide +kernel
theorem dX7_count_4 : decode cX7_count 4 = .ok (.iconst 0, 1) := by decide +kernel
theorem dX7_count_5 : decode cX7_count 5 = .ok (.istore_n 2, 1) := by decide +kernel
theorem dX7_count_6 : decode cX7_count 6 = .ok (.iconst 0, 1) := by decide +kernel
theorem dX7_count_7 : decode cX7_count 7 = .ok (.istore_n 3, 1) := by decide +kernel
theorem dX7_count_8 : decode cX7_count 8 = .ok (.iconst 0, 1) := by decide +kernel
theorem dX7_count_9 : decode cX7_count 9 = .ok (.istore 4, 2) := by decide +kernel
theorem dX7_count_11 : decode cX7_count 11 = .ok (.iload 4, 2) := by decide +kernel
theorem dX7_count_13 : decode cX7_count 13 = .ok (.aload_n 0, 1) := by decide +kernel
theorem dX7_count_14 : decode cX7_count 14 = .ok (.getfield 13, 3) := by decide +kernel
theorem dX7_count_17 : decode cX7_count 17 = .ok (.bipush 120, 2) := by decide +kernel
theorem dX7_count_19 : decode cX7_count 19 = .ok (.iaload, 1) := by decide +kernel
theorem dX7_count_20 : decode cX7_count 20 = .ok (.if_icmp .ge 53, 3) := by decide +kernel
theorem dX7_count_23 : decode cX7_count 23 = .ok (.iload_n 2, 1) := by decide +kernel
theorem dX7_count_24 : decode cX7_count 24 = .ok (.aload_n 0, 1) := by decide +kernel
theorem dX7_count_25 : decode cX7_count 25 = .ok (.getfield 13, 3) := by decide +kernel
theorem dX7_count_28 : decode cX7_count 28 = .ok (.iload 4, 2) := by decide +kernel
theorem dX7_count_30 : decode cX7_count 30 = .ok (.iaload, 1) := by decide +kernel
theorem dX7_count_31 : decode cX7_count 31 = .ok (.invokestatic 54, 3) := by decide +kernel
theorem dX7_count_34 : decode cX7_count 34 = .ok (.ifCond .eq 7, 3) := by decide +kernel
theorem dX7_count_37 : decode cX7_count 37 = .ok (.iconst 1, 1) := by decide +kernel
theorem dX7_count_38 : decode cX7_count 38 = .ok (.goto 4, 3) := by decide +kernel
theorem dX7_count_41 : decode cX7_count 41 = .ok (.iconst 0, 1) := by decide +kernel
theorem dX7_count_42 : decode cX7_count 42 = .ok (.iadd, 1) := by decide +kernel
theorem dX7_count_43 : decode cX7_count 43 = .ok (.istore_n 2, 1) := by decide +kernel
theorem dX7_count_44 : decode cX7_count 44 = .ok (.aload_n 0, 1) := by decide +kernel
theorem dX7_count_45 : decode cX7_count 45 = .ok (.getfield 22, 3) := by decide +kernel
theorem dX7_count_48 : decode cX7_count 48 = .ok (.iload 4, 2) := by decide +kernel
theorem dX7_count_50 : decode cX7_count 50 = .ok (.iaload, 1) := by decide +kernel
theorem dX7_count_51 : decode cX7_count 51 = .ok (.iload_n 3, 1) := by decide +kernel
theorem dX7_count_52 : decode cX7_count 52 = .ok (.if_icmp .le 13, 3) := by decide +kernel
theorem dX7_count_55 : decode cX7_count 55 = .ok (.aload_n 0, 1) := by decide +kernel
theorem dX7_count_56 : decode cX7_count 56 = .ok (.getfield 22, 3) := by decide +kernel
theorem dX7_count_59 : decode cX7_count 59 = .ok (.iload 4, 2) := by decide +kernel
theorem dX7_count_61 : decode cX7_count 61 = .ok (.iaload, 1) := by decide +kernel
theorem dX7_count_62 : decode cX7_count 62 = .ok (.goto 4, 3) := by decide +kernel
theorem dX7_count_65 : decode cX7_count 65 = .ok (.iload_n 3, 1) := by decide +kernel
theorem dX7_count_66 : decode cX7_count 66 = .ok (.istore_n 3, 1) := by decide +kernel
theorem dX7_count_67 : decode cX7_count 67 = .ok (.iinc 4 1, 3) := by decide +kernel
theorem dX7_count_70 : decode cX7_count 70 = .ok (.goto (-59), 3) := by decide +kernel
theorem dX7_count_73 : decode cX7_count 73 = .ok (.iload_n 1, 1) := by decide +kernel
theorem dX7_count_74 : decode cX7_count 74 = .ok (.tableswitch 121 0 10 #[58, 66, 68, 68, 68, 68, 68, 80, 85, 90, 92], 58) := by decide +kernel
theorem dX7_count_132 : decode cX7_count 132 = .ok (.aload_n 0, 1) := by decide +kernel
theorem dX7_count_133 : decode cX7_count 133 = .ok (.getfield 13, 3) := by decide +kernel
theorem dX7_count_136 : decode cX7_count 136 = .ok (.bipush 120, 2) := by decide +kernel
theorem dX7_count_138 : decode cX7_count 138 = .ok (.iaload, 1) := by decide +kernel
theorem dX7_count_139 : decode cX7_count 139 = .ok (.ireturn, 1) := by decide +kernel
theorem dX7_count_140 : decode cX7_count 140 = .ok (.iload_n 2, 1) := by decide +kernel
theorem dX7_count_141 : decode cX7_count 141 = .ok (.ireturn, 1) := by decide +kernel
theorem dX7_count_142 : decode cX7_count 142 = .ok (.aload_n 0, 1) := by decide +kernel
theorem dX7_count_143 : decode cX7_count 143 = .ok (.getfield 13, 3) := by decide +kernel
theorem dX7_count_146 : decode cX7_count 146 = .ok (.bipush 121, 2) := by decide +kernel
theorem dX7_count_148 : decode cX7_count 148 = .ok (.iload_n 1, 1) := by decide +kernel
theorem dX7_count_149 : decode cX7_count 149 = .ok (.iadd, 1) := by decide +kernel
theorem dX7_count_150 : decode cX7_count 150 = .ok (.iconst 2, 1) := by decide +kernel
theorem dX7_count_151 : decode cX7_count 151 = .ok (.isub, 1) := by decide +kernel
theorem dX7_count_152 : decode cX7_count 152 = .ok (.iaload, 1) := by decide +kernel
theorem dX7_count_153 : decode cX7_count 153 = .ok (.ireturn, 1) := by decide +kernel
theorem dX7_count_154 : decode cX7_count 154 = .ok (.aload_n 0, 1) := by decide +kernel
theorem dX7_count_155 : decode cX7_count 155 = .ok (.getfield 69, 3) := by decide +kernel
theorem dX7_count_158 : decode cX7_count 158 = .ok (.ireturn, 1) := by decide +kernel
theorem dX7_count_159 : decode cX7_count 159 = .ok (.aload_n 0, 1) := by decide +kernel
theorem dX7_count_160 : decode cX7_count 160 = .ok (.getfield 80, 3) := by decide +kernel
theorem dX7_count_163 : decode cX7_count 163 = .ok (.ireturn, 1) := by decide +kernel
theorem dX7_count_164 : decode cX7_count 164 = .ok (.iload_n 3, 1) := by decide +kernel
theorem dX7_count_165 : decode cX7_count 165 = .ok (.ireturn, 1) := by decide +kernel
theorem dX7_count_166 : decode cX7_count 166 = .ok (.aload_n 0, 1) := by decide +kernel
theorem dX7_count_167 : decode cX7_count 167 = .ok (.getfield 13, 3) := by decide +kernel
theorem dX7_count_170 : decode cX7_count 170 = .ok (.bipush 120, 2) := by decide +kernel
theorem dX7_count_172 : decode cX7_count 172 = .ok (.iaload, 1) := by decide +kernel
theorem dX7_count_173 : decode cX7_count 173 = .ok (.ifCond .ne 7, 3) := by decide +kernel
theorem dX7_count_176 : decode cX7_count 176 = .ok (.iconst 0, 1) := by decide +kernel
theorem dX7_count_177 : decode cX7_count 177 = .ok (.goto 17, 3) := by decide +kernel
theorem dX7_count_180 : decode cX7_count 180 = .ok (.aload_n 0, 1) := by decide +kernel
theorem dX7_count_181 : decode cX7_count 181 = .ok (.getfield 22, 3) := by decide +kernel
theorem dX7_count_184 : decode cX7_count 184 = .ok (.aload_n 0, 1) := by decide +kernel
theorem dX7_count_185 : decode cX7_count 185 = .ok (.getfield 13, 3) := by decide +kernel
theorem dX7_count_188 : decode cX7_count 188 = .ok (.bipush 120, 2) := by decide +kernel
theorem dX7_count_190 : decode cX7_count 190 = .ok (.iaload, 1) := by decide +kernel
theorem dX7_count_191 : decode cX7_count 191 = .ok (.iconst 1, 1) := by decide +kernel
theorem dX7_count_192 : decode cX7_count 192 = .ok (.isub, 1) := by decide +kernel
theorem dX7_count_193 : decode cX7_count 193 = .ok (.iaload, 1) := by decide +kernel
theorem dX7_count_194 : decode cX7_count 194 = .ok (.ireturn, 1) := by decide +kernel
theorem dX7_count_195 : decode cX7_count 195 = .ok (.iconst (-1), 1) := by decide +kernel
theorem dX7_count_196 : decode cX7_count 196 = .ok (.ireturn, 1) := by decide +kernel
