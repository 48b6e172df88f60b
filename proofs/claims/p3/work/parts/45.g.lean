/-! 45.g.lean.txt -/
theorem dX12_goesOn_0 : decode cX12_goesOn 0 = .ok (.aload_n 0, 1) := by decide +kernel
theorem dX12_goesOn_1 : decode cX12_goesOn 1 = .ok (.invokevirtual 266, 3) := by decide +kernel
theorem dX12_goesOn_4 : decode cX12_goesOn 4 = .ok (.aload_n 0, 1) := by decide +kernel
theorem dX12_goesOn_5 : decode cX12_goesOn 5 = .ok (.getfield 36, 3) := by decide +kernel
theorem dX12_goesOn_8 : decode cX12_goesOn 8 = .ok (.ifCond .le 5, 3) := by decide +kernel
theorem dX12_goesOn_11 : decode cX12_goesOn 11 = .ok (.iconst 0, 1) := by decide +kernel
theorem dX12_goesOn_12 : decode cX12_goesOn 12 = .ok (.ireturn, 1) := by decide +kernel
theorem dX12_goesOn_13 : decode cX12_goesOn 13 = .ok (.aload_n 0, 1) := by decide +kernel
theorem dX12_goesOn_14 : decode cX12_goesOn 14 = .ok (.getfield 140, 3) := by decide +kernel
theorem dX12_goesOn_17 : decode cX12_goesOn 17 = .ok (.iconst 1, 1) := by decide +kernel
theorem dX12_goesOn_18 : decode cX12_goesOn 18 = .ok (.isub, 1) := by decide +kernel
theorem dX12_goesOn_19 : decode cX12_goesOn 19 = .ok (.istore_n 1, 1) := by decide +kernel
theorem dX12_goesOn_20 : decode cX12_goesOn 20 = .ok (.aload_n 0, 1) := by decide +kernel
theorem dX12_goesOn_21 : decode cX12_goesOn 21 = .ok (.getfield 124, 3) := by decide +kernel
theorem dX12_goesOn_24 : decode cX12_goesOn 24 = .ok (.iload_n 1, 1) := by decide +kernel
theorem dX12_goesOn_25 : decode cX12_goesOn 25 = .ok (.iaload, 1) := by decide +kernel
theorem dX12_goesOn_26 : decode cX12_goesOn 26 = .ok (.istore_n 2, 1) := by decide +kernel
theorem dX12_goesOn_27 : decode cX12_goesOn 27 = .ok (.iload_n 2, 1) := by decide +kernel
theorem dX12_goesOn_28 : decode cX12_goesOn 28 = .ok (.invokestatic 346, 3) := by decide +kernel
theorem dX12_goesOn_31 : decode cX12_goesOn 31 = .ok (.istore_n 3, 1) := by decide +kernel
theorem dX12_goesOn_32 : decode cX12_goesOn 32 = .ok (.aload_n 0, 1) := by decide +kernel
theorem dX12_goesOn_33 : decode cX12_goesOn 33 = .ok (.getfield 127, 3) := by decide +kernel
theorem dX12_goesOn_36 : decode cX12_goesOn 36 = .ok (.iload_n 1, 1) := by decide +kernel
theorem dX12_goesOn_37 : decode cX12_goesOn 37 = .ok (.iaload, 1) := by decide +kernel
theorem dX12_goesOn_38 : decode cX12_goesOn 38 = .ok (.iconst 2, 1) := by decide +kernel
theorem dX12_goesOn_39 : decode cX12_goesOn 39 = .ok (.if_icmp .ge 149, 3) := by decide +kernel
theorem dX12_goesOn_42 : decode cX12_goesOn 42 = .ok (.aload_n 0, 1) := by decide +kernel
theorem dX12_goesOn_43 : decode cX12_goesOn 43 = .ok (.bipush 43, 2) := by decide +kernel
theorem dX12_goesOn_45 : decode cX12_goesOn 45 = .ok (.invokevirtual 269, 3) := by decide +kernel
theorem dX12_goesOn_48 : decode cX12_goesOn 48 = .ok (.ifCond .ne 39, 3) := by decide +kernel
theorem dX12_goesOn_51 : decode cX12_goesOn 51 = .ok (.aload_n 0, 1) := by decide +kernel
theorem dX12_goesOn_52 : decode cX12_goesOn 52 = .ok (.bipush 45, 2) := by decide +kernel
theorem dX12_goesOn_54 : decode cX12_goesOn 54 = .ok (.invokevirtual 269, 3) := by decide +kernel
theorem dX12_goesOn_57 : decode cX12_goesOn 57 = .ok (.ifCond .ne 30, 3) := by decide +kernel
theorem dX12_goesOn_60 : decode cX12_goesOn 60 = .ok (.aload_n 0, 1) := by decide +kernel
theorem dX12_goesOn_61 : decode cX12_goesOn 61 = .ok (.bipush 42, 2) := by decide +kernel
theorem dX12_goesOn_63 : decode cX12_goesOn 63 = .ok (.invokevirtual 269, 3) := by decide +kernel
theorem dX12_goesOn_66 : decode cX12_goesOn 66 = .ok (.ifCond .ne 21, 3) := by decide +kernel
theorem dX12_goesOn_69 : decode cX12_goesOn 69 = .ok (.aload_n 0, 1) := by decide +kernel
theorem dX12_goesOn_70 : decode cX12_goesOn 70 = .ok (.bipush 47, 2) := by decide +kernel
theorem dX12_goesOn_72 : decode cX12_goesOn 72 = .ok (.invokevirtual 269, 3) := by decide +kernel
theorem dX12_goesOn_75 : decode cX12_goesOn 75 = .ok (.ifCond .ne 12, 3) := by decide +kernel
theorem dX12_goesOn_78 : decode cX12_goesOn 78 = .ok (.aload_n 0, 1) := by decide +kernel
theorem dX12_goesOn_79 : decode cX12_goesOn 79 = .ok (.bipush 37, 2) := by decide +kernel
theorem dX12_goesOn_81 : decode cX12_goesOn 81 = .ok (.invokevirtual 269, 3) := by decide +kernel
theorem dX12_goesOn_84 : decode cX12_goesOn 84 = .ok (.ifCond .eq 104, 3) := by decide +kernel
theorem dX12_goesOn_87 : decode cX12_goesOn 87 = .ok (.aload_n 0, 1) := by decide +kernel
theorem dX12_goesOn_88 : decode cX12_goesOn 88 = .ok (.aload_n 0, 1) := by decide +kernel
theorem dX12_goesOn_89 : decode cX12_goesOn 89 = .ok (.bipush 43, 2) := by decide +kernel
theorem dX12_goesOn_91 : decode cX12_goesOn 91 = .ok (.invokevirtual 269, 3) := by decide +kernel
theorem dX12_goesOn_94 : decode cX12_goesOn 94 = .ok (.ifCond .ne 12, 3) := by decide +kernel
theorem dX12_goesOn_97 : decode cX12_goesOn 97 = .ok (.aload_n 0, 1) := by decide +kernel
theorem dX12_goesOn_98 : decode cX12_goesOn 98 = .ok (.bipush 45, 2) := by decide +kernel
theorem dX12_goesOn_100 : decode cX12_goesOn 100 = .ok (.invokevirtual 269, 3) := by decide +kernel
theorem dX12_goesOn_103 : decode cX12_goesOn 103 = .ok (.ifCond .eq 7, 3) := by decide +kernel
theorem dX12_goesOn_106 : decode cX12_goesOn 106 = .ok (.iconst 5, 1) := by decide +kernel
theorem dX12_goesOn_107 : decode cX12_goesOn 107 = .ok (.goto 5, 3) := by decide +kernel
theorem dX12_goesOn_110 : decode cX12_goesOn 110 = .ok (.bipush 6, 2) := by decide +kernel
theorem dX12_goesOn_112 : decode cX12_goesOn 112 = .ok (.invokevirtual 359, 3) := by decide +kernel
theorem dX12_goesOn_115 : decode cX12_goesOn 115 = .ok (.aload_n 0, 1) := by decide +kernel
theorem dX12_goesOn_116 : decode cX12_goesOn 116 = .ok (.aload_n 0, 1) := by decide +kernel
theorem dX12_goesOn_117 : decode cX12_goesOn 117 = .ok (.bipush 43, 2) := by decide +kernel
theorem dX12_goesOn_119 : decode cX12_goesOn 119 = .ok (.invokevirtual 269, 3) := by decide +kernel
theorem dX12_goesOn_122 : decode cX12_goesOn 122 = .ok (.ifCond .eq 8, 3) := by decide +kernel
theorem dX12_goesOn_125 : decode cX12_goesOn 125 = .ok (.bipush 31, 2) := by decide +kernel
theorem dX12_goesOn_127 : decode cX12_goesOn 127 = .ok (.goto 47, 3) := by decide +kernel
theorem dX12_goesOn_130 : decode cX12_goesOn 130 = .ok (.aload_n 0, 1) := by decide +kernel
theorem dX12_goesOn_131 : decode cX12_goesOn 131 = .ok (.bipush 45, 2) := by decide +kernel
theorem dX12_goesOn_133 : decode cX12_goesOn 133 = .ok (.invokevirtual 269, 3) := by decide +kernel
theorem dX12_goesOn_136 : decode cX12_goesOn 136 = .ok (.ifCond .eq 8, 3) := by decide +kernel
theorem dX12_goesOn_139 : decode cX12_goesOn 139 = .ok (.bipush 32, 2) := by decide +kernel
theorem dX12_goesOn_141 : decode cX12_goesOn 141 = .ok (.goto 33, 3) := by decide +kernel
theorem dX12_goesOn_144 : decode cX12_goesOn 144 = .ok (.aload_n 0, 1) := by decide +kernel
theorem dX12_goesOn_145 : decode cX12_goesOn 145 = .ok (.bipush 42, 2) := by decide +kernel
theorem dX12_goesOn_147 : decode cX12_goesOn 147 = .ok (.invokevirtual 269, 3) := by decide +kernel
theorem dX12_goesOn_150 : decode cX12_goesOn 150 = .ok (.ifCond .eq 8, 3) := by decide +kernel
theorem dX12_goesOn_153 : decode cX12_goesOn 153 = .ok (.bipush 33, 2) := by decide +kernel
theorem dX12_goesOn_155 : decode cX12_goesOn 155 = .ok (.goto 19, 3) := by decide +kernel
theorem dX12_goesOn_158 : decode cX12_goesOn 158 = .ok (.aload_n 0, 1) := by decide +kernel
theorem dX12_goesOn_159 : decode cX12_goesOn 159 = .ok (.bipush 47, 2) := by decide +kernel
theorem dX12_goesOn_161 : decode cX12_goesOn 161 = .ok (.invokevirtual 269, 3) := by decide +kernel
theorem dX12_goesOn_164 : decode cX12_goesOn 164 = .ok (.ifCond .eq 8, 3) := by decide +kernel
theorem dX12_goesOn_167 : decode cX12_goesOn 167 = .ok (.bipush 34, 2) := by decide +kernel
theorem dX12_goesOn_169 : decode cX12_goesOn 169 = .ok (.goto 5, 3) := by decide +kernel
theorem dX12_goesOn_172 : decode cX12_goesOn 172 = .ok (.bipush 35, 2) := by decide +kernel
theorem dX12_goesOn_174 : decode cX12_goesOn 174 = .ok (.invokevirtual 353, 3) := by decide +kernel
theorem dX12_goesOn_177 : decode cX12_goesOn 177 = .ok (.aload_n 0, 1) := by decide +kernel
theorem dX12_goesOn_178 : decode cX12_goesOn 178 = .ok (.invokevirtual 272, 3) := by decide +kernel
theorem dX12_goesOn_181 : decode cX12_goesOn 181 = .ok (.aload_n 0, 1) := by decide +kernel
theorem dX12_goesOn_182 : decode cX12_goesOn 182 = .ok (.iconst 0, 1) := by decide +kernel
theorem dX12_goesOn_183 : decode cX12_goesOn 183 = .ok (.putfield 152, 3) := by decide +kernel
theorem dX12_goesOn_186 : decode cX12_goesOn 186 = .ok (.iconst 1, 1) := by decide +kernel
theorem dX12_goesOn_187 : decode cX12_goesOn 187 = .ok (.ireturn, 1) := by decide +kernel
theorem dX12_goesOn_188 : decode cX12_goesOn 188 = .ok (.iload_n 3, 1) := by decide +kernel
theorem dX12_goesOn_189 : decode cX12_goesOn 189 = .ok (.ifCond .eq 96, 3) := by decide +kernel
theorem dX12_goesOn_192 : decode cX12_goesOn 192 = .ok (.aload_n 0, 1) := by decide +kernel
theorem dX12_goesOn_193 : decode cX12_goesOn 193 = .ok (.getfield 127, 3) := by decide +kernel
theorem dX12_goesOn_196 : decode cX12_goesOn 196 = .ok (.iload_n 1, 1) := by decide +kernel
theorem dX12_goesOn_197 : decode cX12_goesOn 197 = .ok (.iaload, 1) := by decide +kernel
theorem dX12_goesOn_198 : decode cX12_goesOn 198 = .ok (.ifCond .ne 87, 3) := by decide +kernel
theorem dX12_goesOn_201 : decode cX12_goesOn 201 = .ok (.aload_n 0, 1) := by decide +kernel
theorem dX12_goesOn_202 : decode cX12_goesOn 202 = .ok (.bipush 60, 2) := by decide +kernel
theorem dX12_goesOn_204 : decode cX12_goesOn 204 = .ok (.invokevirtual 269, 3) := by decide +kernel
theorem dX12_goesOn_207 : decode cX12_goesOn 207 = .ok (.ifCond .ne 21, 3) := by decide +kernel
theorem dX12_goesOn_210 : decode cX12_goesOn 210 = .ok (.aload_n 0, 1) := by decide +kernel
theorem dX12_goesOn_211 : decode cX12_goesOn 211 = .ok (.bipush 62, 2) := by decide +kernel
theorem dX12_goesOn_213 : decode cX12_goesOn 213 = .ok (.invokevirtual 269, 3) := by decide +kernel
theorem dX12_goesOn_216 : decode cX12_goesOn 216 = .ok (.ifCond .ne 12, 3) := by decide +kernel
theorem dX12_goesOn_219 : decode cX12_goesOn 219 = .ok (.aload_n 0, 1) := by decide +kernel
theorem dX12_goesOn_220 : decode cX12_goesOn 220 = .ok (.bipush 61, 2) := by decide +kernel
theorem dX12_goesOn_222 : decode cX12_goesOn 222 = .ok (.invokevirtual 269, 3) := by decide +kernel
theorem dX12_goesOn_225 : decode cX12_goesOn 225 = .ok (.ifCond .eq 60, 3) := by decide +kernel
theorem dX12_goesOn_228 : decode cX12_goesOn 228 = .ok (.aload_n 0, 1) := by decide +kernel
theorem dX12_goesOn_229 : decode cX12_goesOn 229 = .ok (.iconst 5, 1) := by decide +kernel
theorem dX12_goesOn_230 : decode cX12_goesOn 230 = .ok (.invokevirtual 359, 3) := by decide +kernel
theorem dX12_goesOn_233 : decode cX12_goesOn 233 = .ok (.aload_n 0, 1) := by decide +kernel
theorem dX12_goesOn_234 : decode cX12_goesOn 234 = .ok (.aload_n 0, 1) := by decide +kernel
theorem dX12_goesOn_235 : decode cX12_goesOn 235 = .ok (.bipush 60, 2) := by decide +kernel
theorem dX12_goesOn_237 : decode cX12_goesOn 237 = .ok (.invokevirtual 269, 3) := by decide +kernel
theorem dX12_goesOn_240 : decode cX12_goesOn 240 = .ok (.ifCond .eq 8, 3) := by decide +kernel
theorem dX12_goesOn_243 : decode cX12_goesOn 243 = .ok (.bipush 38, 2) := by decide +kernel
theorem dX12_goesOn_245 : decode cX12_goesOn 245 = .ok (.goto 19, 3) := by decide +kernel
theorem dX12_goesOn_248 : decode cX12_goesOn 248 = .ok (.aload_n 0, 1) := by decide +kernel
theorem dX12_goesOn_249 : decode cX12_goesOn 249 = .ok (.bipush 62, 2) := by decide +kernel
theorem dX12_goesOn_251 : decode cX12_goesOn 251 = .ok (.invokevirtual 269, 3) := by decide +kernel
theorem dX12_goesOn_254 : decode cX12_goesOn 254 = .ok (.ifCond .eq 8, 3) := by decide +kernel
theorem dX12_goesOn_257 : decode cX12_goesOn 257 = .ok (.bipush 39, 2) := by decide +kernel
theorem dX12_goesOn_259 : decode cX12_goesOn 259 = .ok (.goto 5, 3) := by decide +kernel
theorem dX12_goesOn_262 : decode cX12_goesOn 262 = .ok (.bipush 40, 2) := by decide +kernel
theorem dX12_goesOn_264 : decode cX12_goesOn 264 = .ok (.invokevirtual 353, 3) := by decide +kernel
theorem dX12_goesOn_267 : decode cX12_goesOn 267 = .ok (.aload_n 0, 1) := by decide +kernel
theorem dX12_goesOn_268 : decode cX12_goesOn 268 = .ok (.getfield 127, 3) := by decide +kernel
theorem dX12_goesOn_271 : decode cX12_goesOn 271 = .ok (.iload_n 1, 1) := by decide +kernel
theorem dX12_goesOn_272 : decode cX12_goesOn 272 = .ok (.iconst 1, 1) := by decide +kernel
theorem dX12_goesOn_273 : decode cX12_goesOn 273 = .ok (.iastore, 1) := by decide +kernel
theorem dX12_goesOn_274 : decode cX12_goesOn 274 = .ok (.aload_n 0, 1) := by decide +kernel
theorem dX12_goesOn_275 : decode cX12_goesOn 275 = .ok (.invokevirtual 272, 3) := by decide +kernel
theorem dX12_goesOn_278 : decode cX12_goesOn 278 = .ok (.aload_n 0, 1) := by decide +kernel
theorem dX12_goesOn_279 : decode cX12_goesOn 279 = .ok (.iconst 0, 1) := by decide +kernel
theorem dX12_goesOn_280 : decode cX12_goesOn 280 = .ok (.putfield 152, 3) := by decide +kernel
theorem dX12_goesOn_283 : decode cX12_goesOn 283 = .ok (.iconst 1, 1) := by decide +kernel
theorem dX12_goesOn_284 : decode cX12_goesOn 284 = .ok (.ireturn, 1) := by decide +kernel
theorem dX12_goesOn_285 : decode cX12_goesOn 285 = .ok (.iload_n 3, 1) := by decide +kernel
theorem dX12_goesOn_286 : decode cX12_goesOn 286 = .ok (.ifCond .eq 114, 3) := by decide +kernel
theorem dX12_goesOn_289 : decode cX12_goesOn 289 = .ok (.aload_n 0, 1) := by decide +kernel
theorem dX12_goesOn_290 : decode cX12_goesOn 290 = .ok (.ldc2_w 319, 3) := by decide +kernel
theorem dX12_goesOn_293 : decode cX12_goesOn 293 = .ok (.invokevirtual 349, 3) := by decide +kernel
theorem dX12_goesOn_296 : decode cX12_goesOn 296 = .ok (.ifCond .ne 13, 3) := by decide +kernel
theorem dX12_goesOn_299 : decode cX12_goesOn 299 = .ok (.aload_n 0, 1) := by decide +kernel
theorem dX12_goesOn_300 : decode cX12_goesOn 300 = .ok (.ldc2_w 317, 3) := by decide +kernel
theorem dX12_goesOn_303 : decode cX12_goesOn 303 = .ok (.invokevirtual 349, 3) := by decide +kernel
theorem dX12_goesOn_306 : decode cX12_goesOn 306 = .ok (.ifCond .eq 94, 3) := by decide +kernel
theorem dX12_goesOn_309 : decode cX12_goesOn 309 = .ok (.aload_n 0, 1) := by decide +kernel
theorem dX12_goesOn_310 : decode cX12_goesOn 310 = .ok (.getfield 127, 3) := by decide +kernel
theorem dX12_goesOn_313 : decode cX12_goesOn 313 = .ok (.iload_n 1, 1) := by decide +kernel
theorem dX12_goesOn_314 : decode cX12_goesOn 314 = .ok (.iaload, 1) := by decide +kernel
theorem dX12_goesOn_315 : decode cX12_goesOn 315 = .ok (.ifCond .ne 12, 3) := by decide +kernel
theorem dX12_goesOn_318 : decode cX12_goesOn 318 = .ok (.aload_n 0, 1) := by decide +kernel
theorem dX12_goesOn_319 : decode cX12_goesOn 319 = .ok (.iconst 1, 1) := by decide +kernel
theorem dX12_goesOn_320 : decode cX12_goesOn 320 = .ok (.aload_n 0, 1) := by decide +kernel
theorem dX12_goesOn_321 : decode cX12_goesOn 321 = .ok (.getfield 23, 3) := by decide +kernel
theorem dX12_goesOn_324 : decode cX12_goesOn 324 = .ok (.invokevirtual 255, 3) := by decide +kernel
theorem dX12_goesOn_327 : decode cX12_goesOn 327 = .ok (.aload_n 0, 1) := by decide +kernel
theorem dX12_goesOn_328 : decode cX12_goesOn 328 = .ok (.getfield 36, 3) := by decide +kernel
theorem dX12_goesOn_331 : decode cX12_goesOn 331 = .ok (.ifCond .le 5, 3) := by decide +kernel
theorem dX12_goesOn_334 : decode cX12_goesOn 334 = .ok (.iconst 0, 1) := by decide +kernel
theorem dX12_goesOn_335 : decode cX12_goesOn 335 = .ok (.ireturn, 1) := by decide +kernel
theorem dX12_goesOn_336 : decode cX12_goesOn 336 = .ok (.aload_n 0, 1) := by decide +kernel
theorem dX12_goesOn_337 : decode cX12_goesOn 337 = .ok (.ldc2_w 319, 3) := by decide +kernel
theorem dX12_goesOn_340 : decode cX12_goesOn 340 = .ok (.invokevirtual 349, 3) := by decide +kernel
theorem dX12_goesOn_343 : decode cX12_goesOn 343 = .ok (.istore 4, 2) := by decide +kernel
theorem dX12_goesOn_345 : decode cX12_goesOn 345 = .ok (.aload_n 0, 1) := by decide +kernel
theorem dX12_goesOn_346 : decode cX12_goesOn 346 = .ok (.iload 4, 2) := by decide +kernel
theorem dX12_goesOn_348 : decode cX12_goesOn 348 = .ok (.ifCond .eq 7, 3) := by decide +kernel
theorem dX12_goesOn_351 : decode cX12_goesOn 351 = .ok (.iconst 2, 1) := by decide +kernel
theorem dX12_goesOn_352 : decode cX12_goesOn 352 = .ok (.goto 4, 3) := by decide +kernel
theorem dX12_goesOn_355 : decode cX12_goesOn 355 = .ok (.iconst 1, 1) := by decide +kernel
theorem dX12_goesOn_356 : decode cX12_goesOn 356 = .ok (.invokevirtual 359, 3) := by decide +kernel
theorem dX12_goesOn_359 : decode cX12_goesOn 359 = .ok (.aload_n 0, 1) := by decide +kernel
theorem dX12_goesOn_360 : decode cX12_goesOn 360 = .ok (.iload 4, 2) := by decide +kernel
theorem dX12_goesOn_362 : decode cX12_goesOn 362 = .ok (.ifCond .eq 8, 3) := by decide +kernel
theorem dX12_goesOn_365 : decode cX12_goesOn 365 = .ok (.bipush 41, 2) := by decide +kernel
theorem dX12_goesOn_367 : decode cX12_goesOn 367 = .ok (.goto 5, 3) := by decide +kernel
theorem dX12_goesOn_370 : decode cX12_goesOn 370 = .ok (.bipush 42, 2) := by decide +kernel
theorem dX12_goesOn_372 : decode cX12_goesOn 372 = .ok (.invokevirtual 353, 3) := by decide +kernel
theorem dX12_goesOn_375 : decode cX12_goesOn 375 = .ok (.aload_n 0, 1) := by decide +kernel
theorem dX12_goesOn_376 : decode cX12_goesOn 376 = .ok (.getfield 127, 3) := by decide +kernel
theorem dX12_goesOn_379 : decode cX12_goesOn 379 = .ok (.iload_n 1, 1) := by decide +kernel
theorem dX12_goesOn_380 : decode cX12_goesOn 380 = .ok (.iconst 0, 1) := by decide +kernel
theorem dX12_goesOn_381 : decode cX12_goesOn 381 = .ok (.iastore, 1) := by decide +kernel
theorem dX12_goesOn_382 : decode cX12_goesOn 382 = .ok (.aload_n 0, 1) := by decide +kernel
theorem dX12_goesOn_383 : decode cX12_goesOn 383 = .ok (.getfield 130, 3) := by decide +kernel
theorem dX12_goesOn_386 : decode cX12_goesOn 386 = .ok (.iload_n 1, 1) := by decide +kernel
theorem dX12_goesOn_387 : decode cX12_goesOn 387 = .ok (.iconst 1, 1) := by decide +kernel
theorem dX12_goesOn_388 : decode cX12_goesOn 388 = .ok (.bastore, 1) := by decide +kernel
theorem dX12_goesOn_389 : decode cX12_goesOn 389 = .ok (.aload_n 0, 1) := by decide +kernel
theorem dX12_goesOn_390 : decode cX12_goesOn 390 = .ok (.invokevirtual 272, 3) := by decide +kernel
theorem dX12_goesOn_393 : decode cX12_goesOn 393 = .ok (.aload_n 0, 1) := by decide +kernel
theorem dX12_goesOn_394 : decode cX12_goesOn 394 = .ok (.iconst 0, 1) := by decide +kernel
theorem dX12_goesOn_395 : decode cX12_goesOn 395 = .ok (.putfield 152, 3) := by decide +kernel
theorem dX12_goesOn_398 : decode cX12_goesOn 398 = .ok (.iconst 1, 1) := by decide +kernel
theorem dX12_goesOn_399 : decode cX12_goesOn 399 = .ok (.ireturn, 1) := by decide +kernel
theorem dX12_goesOn_400 : decode cX12_goesOn 400 = .ok (.iload_n 3, 1) := by decide +kernel
theorem dX12_goesOn_401 : decode cX12_goesOn 401 = .ok (.ifCond .eq 21, 3) := by decide +kernel
theorem dX12_goesOn_404 : decode cX12_goesOn 404 = .ok (.aload_n 0, 1) := by decide +kernel
theorem dX12_goesOn_405 : decode cX12_goesOn 405 = .ok (.getfield 127, 3) := by decide +kernel
theorem dX12_goesOn_408 : decode cX12_goesOn 408 = .ok (.iload_n 1, 1) := by decide +kernel
theorem dX12_goesOn_409 : decode cX12_goesOn 409 = .ok (.iaload, 1) := by decide +kernel
theorem dX12_goesOn_410 : decode cX12_goesOn 410 = .ok (.ifCond .ne 12, 3) := by decide +kernel
theorem dX12_goesOn_413 : decode cX12_goesOn 413 = .ok (.aload_n 0, 1) := by decide +kernel
theorem dX12_goesOn_414 : decode cX12_goesOn 414 = .ok (.iconst 1, 1) := by decide +kernel
theorem dX12_goesOn_415 : decode cX12_goesOn 415 = .ok (.aload_n 0, 1) := by decide +kernel
theorem dX12_goesOn_416 : decode cX12_goesOn 416 = .ok (.getfield 23, 3) := by decide +kernel
theorem dX12_goesOn_419 : decode cX12_goesOn 419 = .ok (.invokevirtual 255, 3) := by decide +kernel
theorem dX12_goesOn_422 : decode cX12_goesOn 422 = .ok (.iload_n 2, 1) := by decide +kernel
theorem dX12_goesOn_423 : decode cX12_goesOn 423 = .ok (.iconst 2, 1) := by decide +kernel
theorem dX12_goesOn_424 : decode cX12_goesOn 424 = .ok (.if_icmp .ge 17, 3) := by decide +kernel
theorem dX12_goesOn_427 : decode cX12_goesOn 427 = .ok (.aload_n 0, 1) := by decide +kernel
theorem dX12_goesOn_428 : decode cX12_goesOn 428 = .ok (.getfield 36, 3) := by decide +kernel
theorem dX12_goesOn_431 : decode cX12_goesOn 431 = .ok (.ifCond .ne 8, 3) := by decide +kernel
theorem dX12_goesOn_434 : decode cX12_goesOn 434 = .ok (.aload_n 0, 1) := by decide +kernel
theorem dX12_goesOn_435 : decode cX12_goesOn 435 = .ok (.iconst 1, 1) := by decide +kernel
theorem dX12_goesOn_436 : decode cX12_goesOn 436 = .ok (.invokevirtual 359, 3) := by decide +kernel
theorem dX12_goesOn_439 : decode cX12_goesOn 439 = .ok (.iconst 0, 1) := by decide +kernel
theorem dX12_goesOn_440 : decode cX12_goesOn 440 = .ok (.ireturn, 1) := by decide +kernel
theorem dX12_goesOn_441 : decode cX12_goesOn 441 = .ok (.iload_n 2, 1) := by decide +kernel
theorem dX12_goesOn_442 : decode cX12_goesOn 442 = .ok (.iconst 3, 1) := by decide +kernel
theorem dX12_goesOn_443 : decode cX12_goesOn 443 = .ok (.if_icmp .eq 9, 3) := by decide +kernel
theorem dX12_goesOn_446 : decode cX12_goesOn 446 = .ok (.iload_n 2, 1) := by decide +kernel
theorem dX12_goesOn_447 : decode cX12_goesOn 447 = .ok (.bipush 6, 2) := by decide +kernel
theorem dX12_goesOn_449 : decode cX12_goesOn 449 = .ok (.if_icmp .ne 69, 3) := by decide +kernel
theorem dX12_goesOn_452 : decode cX12_goesOn 452 = .ok (.aload_n 0, 1) := by decide +kernel
theorem dX12_goesOn_453 : decode cX12_goesOn 453 = .ok (.bipush 44, 2) := by decide +kernel
theorem dX12_goesOn_455 : decode cX12_goesOn 455 = .ok (.invokevirtual 269, 3) := by decide +kernel
theorem dX12_goesOn_458 : decode cX12_goesOn 458 = .ok (.ifCond .ne 12, 3) := by decide +kernel
theorem dX12_goesOn_461 : decode cX12_goesOn 461 = .ok (.aload_n 0, 1) := by decide +kernel
theorem dX12_goesOn_462 : decode cX12_goesOn 462 = .ok (.iconst 1, 1) := by decide +kernel
theorem dX12_goesOn_463 : decode cX12_goesOn 463 = .ok (.aload_n 0, 1) := by decide +kernel
theorem dX12_goesOn_464 : decode cX12_goesOn 464 = .ok (.getfield 23, 3) := by decide +kernel
theorem dX12_goesOn_467 : decode cX12_goesOn 467 = .ok (.invokevirtual 255, 3) := by decide +kernel
theorem dX12_goesOn_470 : decode cX12_goesOn 470 = .ok (.aload_n 0, 1) := by decide +kernel
theorem dX12_goesOn_471 : decode cX12_goesOn 471 = .ok (.getfield 36, 3) := by decide +kernel
theorem dX12_goesOn_474 : decode cX12_goesOn 474 = .ok (.ifCond .le 5, 3) := by decide +kernel
theorem dX12_goesOn_477 : decode cX12_goesOn 477 = .ok (.iconst 0, 1) := by decide +kernel
theorem dX12_goesOn_478 : decode cX12_goesOn 478 = .ok (.ireturn, 1) := by decide +kernel
theorem dX12_goesOn_479 : decode cX12_goesOn 479 = .ok (.aload_n 0, 1) := by decide +kernel
theorem dX12_goesOn_480 : decode cX12_goesOn 480 = .ok (.iconst 1, 1) := by decide +kernel
theorem dX12_goesOn_481 : decode cX12_goesOn 481 = .ok (.invokevirtual 359, 3) := by decide +kernel
theorem dX12_goesOn_484 : decode cX12_goesOn 484 = .ok (.aload_n 0, 1) := by decide +kernel
theorem dX12_goesOn_485 : decode cX12_goesOn 485 = .ok (.getfield 124, 3) := by decide +kernel
theorem dX12_goesOn_488 : decode cX12_goesOn 488 = .ok (.iload_n 1, 1) := by decide +kernel
theorem dX12_goesOn_489 : decode cX12_goesOn 489 = .ok (.iload_n 2, 1) := by decide +kernel
theorem dX12_goesOn_490 : decode cX12_goesOn 490 = .ok (.iconst 3, 1) := by decide +kernel
theorem dX12_goesOn_491 : decode cX12_goesOn 491 = .ok (.if_icmp .ne 7, 3) := by decide +kernel
theorem dX12_goesOn_494 : decode cX12_goesOn 494 = .ok (.iconst 4, 1) := by decide +kernel
theorem dX12_goesOn_495 : decode cX12_goesOn 495 = .ok (.goto 4, 3) := by decide +kernel
theorem dX12_goesOn_498 : decode cX12_goesOn 498 = .ok (.iconst 3, 1) := by decide +kernel
theorem dX12_goesOn_499 : decode cX12_goesOn 499 = .ok (.iastore, 1) := by decide +kernel
theorem dX12_goesOn_500 : decode cX12_goesOn 500 = .ok (.aload_n 0, 1) := by decide +kernel
theorem dX12_goesOn_501 : decode cX12_goesOn 501 = .ok (.getfield 127, 3) := by decide +kernel
theorem dX12_goesOn_504 : decode cX12_goesOn 504 = .ok (.iload_n 1, 1) := by decide +kernel
theorem dX12_goesOn_505 : decode cX12_goesOn 505 = .ok (.iconst 0, 1) := by decide +kernel
theorem dX12_goesOn_506 : decode cX12_goesOn 506 = .ok (.iastore, 1) := by decide +kernel
theorem dX12_goesOn_507 : decode cX12_goesOn 507 = .ok (.aload_n 0, 1) := by decide +kernel
theorem dX12_goesOn_508 : decode cX12_goesOn 508 = .ok (.invokevirtual 272, 3) := by decide +kernel
theorem dX12_goesOn_511 : decode cX12_goesOn 511 = .ok (.aload_n 0, 1) := by decide +kernel
theorem dX12_goesOn_512 : decode cX12_goesOn 512 = .ok (.iconst 0, 1) := by decide +kernel
theorem dX12_goesOn_513 : decode cX12_goesOn 513 = .ok (.putfield 152, 3) := by decide +kernel
theorem dX12_goesOn_516 : decode cX12_goesOn 516 = .ok (.iconst 1, 1) := by decide +kernel
theorem dX12_goesOn_517 : decode cX12_goesOn 517 = .ok (.ireturn, 1) := by decide +kernel
theorem dX12_goesOn_518 : decode cX12_goesOn 518 = .ok (.aload_n 0, 1) := by decide +kernel
theorem dX12_goesOn_519 : decode cX12_goesOn 519 = .ok (.iload_n 2, 1) := by decide +kernel
theorem dX12_goesOn_520 : decode cX12_goesOn 520 = .ok (.iconst 5, 1) := by decide +kernel
theorem dX12_goesOn_521 : decode cX12_goesOn 521 = .ok (.if_icmp .ne 8, 3) := by decide +kernel
theorem dX12_goesOn_524 : decode cX12_goesOn 524 = .ok (.bipush 93, 2) := by decide +kernel
theorem dX12_goesOn_526 : decode cX12_goesOn 526 = .ok (.goto 5, 3) := by decide +kernel
theorem dX12_goesOn_529 : decode cX12_goesOn 529 = .ok (.bipush 41, 2) := by decide +kernel
theorem dX12_goesOn_531 : decode cX12_goesOn 531 = .ok (.invokevirtual 269, 3) := by decide +kernel
theorem dX12_goesOn_534 : decode cX12_goesOn 534 = .ok (.ifCond .ne 12, 3) := by decide +kernel
theorem dX12_goesOn_537 : decode cX12_goesOn 537 = .ok (.aload_n 0, 1) := by decide +kernel
theorem dX12_goesOn_538 : decode cX12_goesOn 538 = .ok (.iconst 1, 1) := by decide +kernel
theorem dX12_goesOn_539 : decode cX12_goesOn 539 = .ok (.aload_n 0, 1) := by decide +kernel
theorem dX12_goesOn_540 : decode cX12_goesOn 540 = .ok (.getfield 23, 3) := by decide +kernel
theorem dX12_goesOn_543 : decode cX12_goesOn 543 = .ok (.invokevirtual 255, 3) := by decide +kernel
theorem dX12_goesOn_546 : decode cX12_goesOn 546 = .ok (.aload_n 0, 1) := by decide +kernel
theorem dX12_goesOn_547 : decode cX12_goesOn 547 = .ok (.getfield 36, 3) := by decide +kernel
theorem dX12_goesOn_550 : decode cX12_goesOn 550 = .ok (.ifCond .le 5, 3) := by decide +kernel
theorem dX12_goesOn_553 : decode cX12_goesOn 553 = .ok (.iconst 0, 1) := by decide +kernel
theorem dX12_goesOn_554 : decode cX12_goesOn 554 = .ok (.ireturn, 1) := by decide +kernel
theorem dX12_goesOn_555 : decode cX12_goesOn 555 = .ok (.aload_n 0, 1) := by decide +kernel
theorem dX12_goesOn_556 : decode cX12_goesOn 556 = .ok (.iconst 1, 1) := by decide +kernel
theorem dX12_goesOn_557 : decode cX12_goesOn 557 = .ok (.invokevirtual 359, 3) := by decide +kernel
theorem dX12_goesOn_560 : decode cX12_goesOn 560 = .ok (.aload_n 0, 1) := by decide +kernel
theorem dX12_goesOn_561 : decode cX12_goesOn 561 = .ok (.dup, 1) := by decide +kernel
theorem dX12_goesOn_562 : decode cX12_goesOn 562 = .ok (.getfield 140, 3) := by decide +kernel
theorem dX12_goesOn_565 : decode cX12_goesOn 565 = .ok (.iconst 1, 1) := by decide +kernel
theorem dX12_goesOn_566 : decode cX12_goesOn 566 = .ok (.isub, 1) := by decide +kernel
theorem dX12_goesOn_567 : decode cX12_goesOn 567 = .ok (.putfield 140, 3) := by decide +kernel
theorem dX12_goesOn_570 : decode cX12_goesOn 570 = .ok (.aload_n 0, 1) := by decide +kernel
theorem dX12_goesOn_571 : decode cX12_goesOn 571 = .ok (.dup, 1) := by decide +kernel
theorem dX12_goesOn_572 : decode cX12_goesOn 572 = .ok (.getfield 143, 3) := by decide +kernel
theorem dX12_goesOn_575 : decode cX12_goesOn 575 = .ok (.iconst 1, 1) := by decide +kernel
theorem dX12_goesOn_576 : decode cX12_goesOn 576 = .ok (.isub, 1) := by decide +kernel
theorem dX12_goesOn_577 : decode cX12_goesOn 577 = .ok (.putfield 143, 3) := by decide +kernel
theorem dX12_goesOn_580 : decode cX12_goesOn 580 = .ok (.iload_n 2, 1) := by decide +kernel
theorem dX12_goesOn_581 : decode cX12_goesOn 581 = .ok (.iconst 4, 1) := by decide +kernel
theorem dX12_goesOn_582 : decode cX12_goesOn 582 = .ok (.if_icmp .ne 14, 3) := by decide +kernel
theorem dX12_goesOn_585 : decode cX12_goesOn 585 = .ok (.aload_n 0, 1) := by decide +kernel
theorem dX12_goesOn_586 : decode cX12_goesOn 586 = .ok (.aload_n 0, 1) := by decide +kernel
theorem dX12_goesOn_587 : decode cX12_goesOn 587 = .ok (.getfield 134, 3) := by decide +kernel
theorem dX12_goesOn_590 : decode cX12_goesOn 590 = .ok (.iload_n 1, 1) := by decide +kernel
theorem dX12_goesOn_591 : decode cX12_goesOn 591 = .ok (.iaload, 1) := by decide +kernel
theorem dX12_goesOn_592 : decode cX12_goesOn 592 = .ok (.iconst 0, 1) := by decide +kernel
theorem dX12_goesOn_593 : decode cX12_goesOn 593 = .ok (.invokevirtual 340, 3) := by decide +kernel
theorem dX12_goesOn_596 : decode cX12_goesOn 596 = .ok (.iload_n 2, 1) := by decide +kernel
theorem dX12_goesOn_597 : decode cX12_goesOn 597 = .ok (.iconst 5, 1) := by decide +kernel
theorem dX12_goesOn_598 : decode cX12_goesOn 598 = .ok (.if_icmp .ne 15, 3) := by decide +kernel
theorem dX12_goesOn_601 : decode cX12_goesOn 601 = .ok (.aload_n 0, 1) := by decide +kernel
theorem dX12_goesOn_602 : decode cX12_goesOn 602 = .ok (.getfield 127, 3) := by decide +kernel
theorem dX12_goesOn_605 : decode cX12_goesOn 605 = .ok (.aload_n 0, 1) := by decide +kernel
theorem dX12_goesOn_606 : decode cX12_goesOn 606 = .ok (.getfield 140, 3) := by decide +kernel
theorem dX12_goesOn_609 : decode cX12_goesOn 609 = .ok (.iconst 1, 1) := by decide +kernel
theorem dX12_goesOn_610 : decode cX12_goesOn 610 = .ok (.isub, 1) := by decide +kernel
theorem dX12_goesOn_611 : decode cX12_goesOn 611 = .ok (.iconst 2, 1) := by decide +kernel
theorem dX12_goesOn_612 : decode cX12_goesOn 612 = .ok (.iastore, 1) := by decide +kernel
theorem dX12_goesOn_613 : decode cX12_goesOn 613 = .ok (.aload_n 0, 1) := by decide +kernel
theorem dX12_goesOn_614 : decode cX12_goesOn 614 = .ok (.invokevirtual 272, 3) := by decide +kernel
theorem dX12_goesOn_617 : decode cX12_goesOn 617 = .ok (.iconst 1, 1) := by decide +kernel
theorem dX12_goesOn_618 : decode cX12_goesOn 618 = .ok (.ireturn, 1) := by decide +kernel
theorem wB_1233 : Cond.code yX12_joins cX12_joins 2 none ∈ dgB := List.mem_filter.mpr ⟨tbl_8 _ (List.mem_of_getElem? (i := 99) rfl), rfl⟩
theorem wB_1234 : Cond.methodLink RX12 359 yX12_joins ∈ dgB := List.mem_filter.mpr ⟨tbl_8 _ (List.mem_of_getElem? (i := 96) (by decide +kernel)), by decide +kernel⟩
theorem wB_1235 : Cond.instanceMethod yX12_joins ∈ dgB := List.mem_filter.mpr ⟨tbl_8 _ (List.mem_of_getElem? (i := 98) (by decide +kernel)), by decide +kernel⟩
theorem wB_1236 : Cond.selects RX12 yX12_joins yX12_joins ∈ dgB := List.mem_filter.mpr ⟨List.mem_of_getElem? (i := 113) (by decide +kernel), by decide +kernel⟩
theorem wB_1237 : Cond.fieldLink RX12 152 "DarkMineModel" "operand" "Z" ∈ dgB := List.mem_filter.mpr ⟨tbl_6 _ (List.mem_of_getElem? (i := 209) (by decide +kernel)), by decide +kernel⟩
set_option maxHeartbeats 8000000 in
set_option maxRecDepth 100000 in
theorem c_m_goesOn (l : Launch) (g : Nat → ClassId) (D : va_G) (o : Nat) (S : dg_S) (sg : Int32) (f_sg : S.1 0 3 = .int sg) (b_sg : 0 ≤ (sg).toInt ∧ (sg).toInt ≤ 3) (sa : Int32) (f_sa : S.1 0 4 = .int sa) (b_sa : 0 ≤ (sa).toInt ∧ (sa).toInt ≤ 1600) (se : Int32) (f_se : S.1 0 5 = .int se) (b_se : 0 ≤ (se).toInt ∧ (se).toInt ≤ 1600) (sl : Int32) (f_sl : S.1 0 2 = .int sl) (b_sl : 0 ≤ (sl).toInt ∧ (sl).toInt ≤ 1600) (fk : Int32) (f_fk : S.1 0 8 = .int fk) (b_fk : 0 ≤ (fk).toInt ∧ (fk).toInt ≤ 6) (va : Int32) (f_va : S.1 0 6 = .int va) (b_va : 0 ≤ (va).toInt ∧ (va).toInt ≤ 9999) (cd : Int32) (f_cd : S.1 0 34 = .int cd) (b_cd : 0 ≤ (cd).toInt ∧ (cd).toInt ≤ 1600) (dp : Int32) (f_dp : S.1 0 42 = .int dp) (b_dp : 0 ≤ (dp).toInt ∧ (dp).toInt ≤ 20) (on : Int32) (f_on : S.1 0 43 = .int on) (om : Int32) (f_om : S.1 0 45 = .int om) (b_om : 0 ≤ (om).toInt ∧ (om).toInt ≤ 500) (oo : Int32) (f_oo : S.1 0 46 = .int oo) (b_oo : 1 ≤ (oo).toInt ∧ (oo).toInt ≤ 1) (hlx : (sa).toInt ≤ (se).toInt ∧ (se).toInt ≤ (sl).toInt ∧ ((sg).toInt ≠ 0 → (sa).toInt + 1 ≤ (se).toInt)) (hro : (cd).toInt + (om).toInt + (dp).toInt ≤ (sa).toInt) (ZW : ZWM S) (ZK : ZKM S) (P1 : P1M S) (I : CM o S) (sz : Nat) : Met l yX12_goesOn (bw yX12_goesOn cX12_goesOn 5 (some .boolean)) ({ frames := 3, cells := 0, slots := 0, locals := 77 } : Room) (dk_Pc g D (dg_w g shM o rfM S) sz [.ref (o + 0)]) (va_Qi (fun (r : Int32) S' => CM o S' ∧ dg_sm shM [(0, 3), (0, 4), (0, 5), (0, 6), (0, 7), (0, 8), (0, 9), (0, 12), (0, 34), (0, 42), (0, 43), (0, 45), (0, 46)] [18, 19, 22, 23, 24, 27] S S' ∧ (0 ≤ (r).toInt ∧ (r).toInt ≤ 1) ∧ (∃ y9_3 y9_4 y9_5 y9_8 y9_34 y9_42 y9_45 y9_46 : Int32, S'.1 0 3 = .int y9_3 ∧ S'.1 0 4 = .int y9_4 ∧ S'.1 0 5 = .int y9_5 ∧ S'.1 0 8 = .int y9_8 ∧ S'.1 0 34 = .int y9_34 ∧ S'.1 0 42 = .int y9_42 ∧ S'.1 0 45 = .int y9_45 ∧ S'.1 0 46 = .int y9_46 ∧ (((y9_4).toInt ≤ (y9_5).toInt ∧ (y9_5).toInt ≤ (sl).toInt ∧ ((y9_3).toInt ≠ 0 → (y9_4).toInt + 1 ≤ (y9_5).toInt)) ∧ (sa).toInt ≤ (y9_4).toInt ∧ ((fk).toInt ≠ 0 → (y9_8).toInt ≠ 0) ∧ (((y9_8).toInt = 0 → (r).toInt = 1 → (sa).toInt + 1 ≤ (y9_4).toInt) ∧ ((y9_8).toInt = 0 → (y9_34).toInt + (y9_45).toInt + (y9_42).toInt ≤ (y9_4).toInt)))) ∧ (∀ k9 : Int32, S'.1 0 8 = .int k9 → k9.toInt = 0 → POM S') ∧ ZWM S' ∧ True) (dg_B g D shM o rfM) (dg_A o shM.length sz)) 0 0 (dg_A o shM.length sz) := by
  refine dg_met (cc := cX12_goesOn) (maxL := 5) (ret := (some .boolean)) (by decide) rfl (Nat.le_of_ble_eq_true rfl) ?_
  intro p e s m args below meth c A hAe harg hx hb hr hml hts hown hlocks hin hP K hS hA1 hA ST hsz ls hl
  rw [← hAe]
  have F : CallFix p m c cX12_goesOn 5 s args (bw yX12_goesOn cX12_goesOn 5 (some .boolean)) RX12 := ⟨hx, hb, hml, hown, hts⟩
  have hl : lv_has ls 5 [(0, .ref (o + 0))] := hl
  have M_0 : dg_sm shM [(0, 3), (0, 4), (0, 5), (0, 6), (0, 7), (0, 8), (0, 9), (0, 12), (0, 34), (0, 42), (0, 43), (0, 45), (0, 46)] [18, 19, 22, 23, 24, 27] S S := dg_sm.rf
  obtain ⟨Q9, hQ9⟩ : ∃ Q : State → Prop, Q = MQ below (va_Qi (fun (r : Int32) S' => CM o S' ∧ dg_sm shM [(0, 3), (0, 4), (0, 5), (0, 6), (0, 7), (0, 8), (0, 9), (0, 12), (0, 34), (0, 42), (0, 43), (0, 45), (0, 46)] [18, 19, 22, 23, 24, 27] S S' ∧ (0 ≤ (r).toInt ∧ (r).toInt ≤ 1) ∧ (∃ y9_3 y9_4 y9_5 y9_8 y9_34 y9_42 y9_45 y9_46 : Int32, S'.1 0 3 = .int y9_3 ∧ S'.1 0 4 = .int y9_4 ∧ S'.1 0 5 = .int y9_5 ∧ S'.1 0 8 = .int y9_8 ∧ S'.1 0 34 = .int y9_34 ∧ S'.1 0 42 = .int y9_42 ∧ S'.1 0 45 = .int y9_45 ∧ S'.1 0 46 = .int y9_46 ∧ (((y9_4).toInt ≤ (y9_5).toInt ∧ (y9_5).toInt ≤ (sl).toInt ∧ ((y9_3).toInt ≠ 0 → (y9_4).toInt + 1 ≤ (y9_5).toInt)) ∧ (sa).toInt ≤ (y9_4).toInt ∧ ((fk).toInt ≠ 0 → (y9_8).toInt ≠ 0) ∧ (((y9_8).toInt = 0 → (r).toInt = 1 → (sa).toInt + 1 ≤ (y9_4).toInt) ∧ ((y9_8).toInt = 0 → (y9_34).toInt + (y9_45).toInt + (y9_42).toInt ≤ (y9_4).toInt)))) ∧ (∀ k9 : Int32, S'.1 0 8 = .int k9 → k9.toInt = 0 → POM S') ∧ ZWM S' ∧ True) (dg_B g D shM o rfM) A) args s 0 0 A := ⟨_, rfl⟩
  rw [← hQ9]
  obtain ⟨hlx_0, hlx_1, hlx_2⟩ := hlx
  have hdm_0 := PSM.dims P1 f_dp f_on f_om
  refine lv_aload_n hx hb dX12_goesOn_0 rfl (lv_at hl 0 rfl) ?_
  refine dg_callv hS hA1 hA (va_runV (As := []) (rest := []) F (c_m_lex l g D o S fk f_fk (by omega) I s.heap.size) (cwV 0 hts (bw_V wB_1153 wB_1154 wB_1155 wB_881 wB_1152) rfl rfl rfl (by decide +kernel) ⟨Nat.le_of_ble_eq_true rfl, Nat.le_of_ble_eq_true rfl⟩) (dg_preV sM_0 rfl K ST hP hS hA1 hA) rfl rfl hl.1 rfl (lv_room (Nat.le_of_ble_eq_true rfl)) dX12_goesOn_1 ⟨Nat.le_of_ble_eq_true rfl, Nat.le_of_ble_eq_true rfl⟩) (fun S_2 hw_2 H locs hP hS => ?_)
  obtain ⟨I_2, m_2, w_2_0, -⟩ := hw_2
  have M_2 := dg_sm.tr M_0 m_2 (by decide) (by decide)
  obtain ⟨y_3, f_y_3, w_2_0⟩ := w_2_0
  have w_2_0 : (fk).toInt ≠ 0 → (y_3).toInt = (fk).toInt := w_2_0
  have b_y_3 : 0 ≤ (y_3).toInt ∧ (y_3).toInt ≤ 6 := dg_I.intb (lo := 0) (hi := 6) I_2 sM_0 (by decide +kernel) f_y_3
  refine lv_aload_n hx hb dX12_goesOn_4 rfl (lv_at hl 0 rfl) ?_
  refine dg_get (C := RX12) (T := TX12) (N := 77) hx hb hts (fun w h => bw_mem (wU_X12 w h)) hown K hP sM_0 rfl 8 (by decide) (hts _ (bw_mem wB_1133)) (fun _ h9 => h9) (v := .int y_3) f_y_3 dX12_goesOn_5 ?_
  refine lv_if_le (tgt := 13) hx hb dX12_goesOn_8 (by decide) (fun c_4 => ?_) (fun c_4 => ?_)
  · have jc_4 := dk_lec (k := 0) (by decide +kernel) c_4
    have w_2_0c : (fk).toInt = 0 := by omega
    clear w_2_0
    refine lv_aload_n hx hb dX12_goesOn_13 rfl (lv_at hl 0 rfl) ?_
    refine dg_get (C := RX12) (T := TX12) (N := 77) hx hb hts (fun w h => bw_mem (wU_X12 w h)) hown K hP sM_0 rfl 42 (by decide) (hts _ (bw_mem wB_1203)) (fun _ h9 => h9) (v := .int dp) ((m_2.1 0 42 _ sM_0 (by decide)).trans f_dp) dX12_goesOn_14 ?_
    refine lv_iconst (v := 1) hx hb dX12_goesOn_17 (by decide +kernel) ?_
    refine lv_isub hx hb dX12_goesOn_18 ?_
    refine lv_topi (fun x_5 ex_5 => ?_)
    have jx_5 : (x_5).toInt = (dp).toInt - 1 := by rw [ex_5]; exact dk_subT rfl (by decide +kernel) (by omega) (by omega)
    refine lv_istore_n (lv' := [(1, .int x_5), (0, .ref (o + 0))]) hx hb dX12_goesOn_19 rfl hl (by decide) rfl (fun ls hl => ?_)
    refine lv_aload_n hx hb dX12_goesOn_20 rfl (lv_at hl 1 rfl) ?_
    refine dg_get (C := RX12) (T := TX12) (N := 77) hx hb hts (fun w h => bw_mem (wU_X12 w h)) hown K hP sM_0 rfl 37 (by decide) (hts _ (bw_mem wB_1213)) (fun _ h9 => h9) (v := .ref (o + 22)) (show S_2.1 0 37 = .ref (o + 22) from dg_I.rel (d := 22) I_2 sM_0 (by decide +kernel)) dX12_goesOn_21 ?_
    refine lv_iload_n hx hb dX12_goesOn_24 rfl (lv_at hl 0 rfl) ?_
    have hin_6 : vp_in x_5 20 := (dk_inv (by omega) (by omega))
    refine dg_iald hx hb K hP sM_22 hin_6 dX12_goesOn_25 (fun x_7 ex_7 => ?_)
    have b_x_7 := dk_all_at (dg_I.row (lo := 0) (hi := 6) I_2 sM_22 (by decide +kernel)) hin_6 ex_7
    refine lv_istore_n (lv' := [(2, .int x_7), (1, .int x_5), (0, .ref (o + 0))]) hx hb dX12_goesOn_26 rfl hl (by decide) rfl (fun ls hl => ?_)
    refine lv_iload_n hx hb dX12_goesOn_27 rfl (lv_at hl 0 rfl) ?_
    refine dg_calli hS hA1 hA (va_runS (As := [.int x_7]) (rest := []) F (c_m_isTest l g D o S_2 x_7 I_2 H.size) (va_cwS 1 hts (bw_S wB_1221 wB_1222 wB_881 wB_1220) rfl rfl rfl (by decide +kernel) ⟨Nat.le_of_ble_eq_true rfl, Nat.le_of_ble_eq_true rfl⟩) (dg_preS K ST hP hS hA1 hA) rfl rfl hl.1 rfl (lv_room (Nat.le_of_ble_eq_true rfl)) dX12_goesOn_28 ⟨Nat.le_of_ble_eq_true rfl, Nat.le_of_ble_eq_true rfl⟩) (fun x_8 S_9 hw_9 H locs hP hS => ?_)
    rw [hw_9.1] at hP
    obtain ⟨hq_9, w_9_0, w_9_1, -⟩ := hw_9
    have w_9_0 : 0 ≤ (x_8).toInt ∧ (x_8).toInt ≤ 1 := w_9_0
    have w_9_1 : (x_8).toInt = 1 ↔ ((x_7).toInt = 1 ∨ (x_7).toInt = 5 ∨ (x_7).toInt = 6) := w_9_1
    refine lv_istore_n (lv' := [(3, .int x_8), (2, .int x_7), (1, .int x_5), (0, .ref (o + 0))]) hx hb dX12_goesOn_31 rfl hl (by decide) rfl (fun ls hl => ?_)
    refine lv_aload_n hx hb dX12_goesOn_32 rfl (lv_at hl 3 rfl) ?_
    refine dg_get (C := RX12) (T := TX12) (N := 77) hx hb hts (fun w h => bw_mem (wU_X12 w h)) hown K hP sM_0 rfl 38 (by decide) (hts _ (bw_mem wB_1214)) (fun _ h9 => h9) (v := .ref (o + 23)) (show S_2.1 0 38 = .ref (o + 23) from dg_I.rel (d := 23) I_2 sM_0 (by decide +kernel)) dX12_goesOn_33 ?_
    refine lv_iload_n hx hb dX12_goesOn_36 rfl (lv_at hl 2 rfl) ?_
    have hin_10 : vp_in x_5 20 := (dk_inv (by omega) (by omega))
    refine dg_iald hx hb K hP sM_23 hin_10 dX12_goesOn_37 (fun x_11 ex_11 => ?_)
    have b_x_11 := dk_all_at (dg_I.row (lo := 0) (hi := 2) I_2 sM_23 (by decide +kernel)) hin_10 ex_11
    refine lv_iconst (v := 2) hx hb dX12_goesOn_38 (by decide +kernel) ?_
    have J_425 : ∀ (H : Heap) (locs : List Loc), va_P D vwCl (dg_w g shM o rfM S_2) H → va_S A s.heap H locs → ∀ ls : Array Slot, lv_has ls 5 [(3, .int x_8), (2, .int x_7), (1, .int x_5), (0, .ref (o + 0))] → W p l e ({ frames := 3, cells := 0, slots := 0, locals := 77 } : Room) s m args below meth c H locs 0 0 Q9 (F0 m 188 ls []) := by
      intro H locs hP hS ls hl
      refine lv_iload_n hx hb dX12_goesOn_188 rfl (lv_at hl 0 rfl) ?_
      have J_719 : ∀ (H : Heap) (locs : List Loc), va_P D vwCl (dg_w g shM o rfM S_2) H → va_S A s.heap H locs → ∀ ls : Array Slot, lv_has ls 5 [(3, .int x_8), (2, .int x_7), (1, .int x_5), (0, .ref (o + 0))] → W p l e ({ frames := 3, cells := 0, slots := 0, locals := 77 } : Room) s m args below meth c H locs 0 0 Q9 (F0 m 285 ls []) := by
        intro H locs hP hS ls hl
        refine lv_iload_n hx hb dX12_goesOn_285 rfl (lv_at hl 0 rfl) ?_
        have J_964 : ∀ (H : Heap) (locs : List Loc), va_P D vwCl (dg_w g shM o rfM S_2) H → va_S A s.heap H locs → ∀ ls : Array Slot, lv_has ls 5 [(3, .int x_8), (2, .int x_7), (1, .int x_5), (0, .ref (o + 0))] → W p l e ({ frames := 3, cells := 0, slots := 0, locals := 77 } : Room) s m args below meth c H locs 0 0 Q9 (F0 m 400 ls []) := by
          intro H locs hP hS ls hl
          refine lv_iload_n hx hb dX12_goesOn_400 rfl (lv_at hl 0 rfl) ?_
          have J_1133 : ∀ (H : Heap) (locs : List Loc), va_P D vwCl (dg_w g shM o rfM S_2) H → va_S A s.heap H locs → ∀ ls : Array Slot, lv_has ls 5 [(3, .int x_8), (2, .int x_7), (1, .int x_5), (0, .ref (o + 0))] → W p l e ({ frames := 3, cells := 0, slots := 0, locals := 77 } : Room) s m args below meth c H locs 0 0 Q9 (F0 m 422 ls []) := by
            intro H locs hP hS ls hl
            refine lv_iload_n hx hb dX12_goesOn_422 rfl (lv_at hl 1 rfl) ?_
            refine lv_iconst (v := 2) hx hb dX12_goesOn_423 (by decide +kernel) ?_
            refine lv_icmp_ge (tgt := 441) hx hb dX12_goesOn_424 (by decide) (fun c_1134 => ?_) (fun c_1134 => ?_)
            · have jc_1134 := dk_gec (k := 2) (by decide +kernel) c_1134
              refine lv_iload_n hx hb dX12_goesOn_441 rfl (lv_at hl 1 rfl) ?_
              refine lv_iconst (v := 3) hx hb dX12_goesOn_442 (by decide +kernel) ?_
              have J_1250 : ∀ (u9 : Unit), ((x_7 : Int32).toInt = 3 ∨ (x_7 : Int32).toInt = 6) → ∀ (H : Heap) (locs : List Loc), va_P D vwCl (dg_w g shM o rfM S_2) H → va_S A s.heap H locs → ∀ ls : Array Slot, lv_has ls 5 [(3, .int x_8), (2, .int x_7), (1, .int x_5), (0, .ref (o + 0))] → W p l e ({ frames := 3, cells := 0, slots := 0, locals := 77 } : Room) s m args below meth c H locs 0 0 Q9 (F0 m 452 ls []) := by
                intro u9 rel_0 H locs hP hS ls hl
                refine lv_aload_n hx hb dX12_goesOn_452 rfl (lv_at hl 3 rfl) ?_
                refine lv_bipush (v := 44) hx hb dX12_goesOn_453 (by decide +kernel) ?_
                refine dg_calli hS hA1 hA (va_runV (As := [.int 44]) (rest := []) F (c_m_isSign l g D o S_2 44 sg ((m_2.1 0 3 _ sM_0 (by decide)).trans f_sg) (by omega) va ((m_2.1 0 6 _ sM_0 (by decide)).trans f_va) (by omega) I_2 H.size) (cwV 1 hts (bw_V wB_1157 wB_1158 wB_1159 wB_881 wB_1156) rfl rfl rfl (by decide +kernel) ⟨Nat.le_of_ble_eq_true rfl, Nat.le_of_ble_eq_true rfl⟩) (dg_preV sM_0 rfl K ST hP hS hA1 hA) rfl rfl hl.1 rfl (lv_room (Nat.le_of_ble_eq_true rfl)) dX12_goesOn_455 ⟨Nat.le_of_ble_eq_true rfl, Nat.le_of_ble_eq_true rfl⟩) (fun x_1251 S_1252 hw_1252 H locs hP hS => ?_)
                rw [hw_1252.1] at hP
                obtain ⟨hq_1252, w_1252_0, w_1252_1, -⟩ := hw_1252
                have hz_1253 : (44 : Int32).toInt = 44 := by decide +kernel
                have w_1252_0 : 0 ≤ (x_1251).toInt ∧ (x_1251).toInt ≤ 1 := w_1252_0
                have w_1252_1 : (x_1251).toInt = 1 ↔ ((sg).toInt = 3 ∧ (va).toInt = ((44 : Int32)).toInt) := w_1252_1
                refine lv_if_ne (tgt := 470) hx hb dX12_goesOn_458 (by decide) (fun c_1254 => ?_) (fun c_1254 => ?_)
                · have jc_1254 := dk_neqc (k := 0) (by decide +kernel) c_1254
                  have jbc_1254 : 1 ≤ (x_1251).toInt := by omega
                  clear jc_1254
                  have w_1252_1_r := w_1252_1.mp (by omega)
                  obtain ⟨w_1252_1_r1, w_1252_1_r2⟩ := w_1252_1_r
                  clear w_1252_1
                  have hlx_2r := hlx_2 (by omega)
                  clear hlx_2
                  refine lv_aload_n hx hb dX12_goesOn_470 rfl (lv_at hl 3 rfl) ?_
                  refine dg_get (C := RX12) (T := TX12) (N := 77) hx hb hts (fun w h => bw_mem (wU_X12 w h)) hown K hP sM_0 rfl 8 (by decide) (hts _ (bw_mem wB_1133)) (fun _ h9 => h9) (v := .int y_3) f_y_3 dX12_goesOn_471 ?_
                  refine lv_if_le (tgt := 479) hx hb dX12_goesOn_474 (by decide) (fun _ => ?_) (fun c => absurd (dk_lep (k := 0) (by decide +kernel) (by omega)) c)
                  refine lv_aload_n hx hb dX12_goesOn_479 rfl (lv_at hl 3 rfl) ?_
                  refine lv_iconst (v := 1) hx hb dX12_goesOn_480 (by decide +kernel) ?_
                  have hz_1255 : (1 : Int32).toInt = 1 := by decide +kernel
                  refine dg_callv hS hA1 hA (va_runV (As := [.int 1]) (rest := []) F (c_m_joins l g D o S_2 1 (by decide +kernel) cd ((m_2.1 0 34 _ sM_0 (by decide)).trans f_cd) (by omega) om ((m_2.1 0 45 _ sM_0 (by decide)).trans f_om) (by omega) (by omega) (ZWM.keep ZW m_2 (by decide) (by decide) (by decide) (by decide)) (ZKM.keep ZK m_2 (by decide) (by decide)) (P1M.keep P1 m_2 (by decide) (by decide) (by decide) (by decide) (by decide) (by decide) (by decide) (by decide) (by decide) (by decide) (by decide) (by decide) (by decide) (by decide) (by decide)) I_2 H.size) (cwV 1 hts (bw_V wB_1234 wB_1235 wB_1236 wB_881 wB_1233) rfl rfl rfl (by decide +kernel) ⟨Nat.le_of_ble_eq_true rfl, Nat.le_of_ble_eq_true rfl⟩) (dg_preV sM_0 rfl K ST hP hS hA1 hA) rfl rfl hl.1 rfl (lv_room (Nat.le_of_ble_eq_true rfl)) dX12_goesOn_481 ⟨Nat.le_of_ble_eq_true rfl, Nat.le_of_ble_eq_true rfl⟩) (fun S_1256 hw_1256 H locs hP hS => ?_)
                  obtain ⟨I_1256, m_1256, w_1256_0, w_1256_1, w_1256_2, w_1256_3, -⟩ := hw_1256
                  have M_1256 := dg_sm.tr M_2 m_1256 (by decide) (by decide)
                  have hz_1257 : (1 : Int32).toInt = 1 := by decide +kernel
                  obtain ⟨y_1258, y_1259, f_y_1258, f_y_1259, w_1256_0⟩ := w_1256_0
                  have w_1256_0 : (y_1258).toInt + (y_1259).toInt = (cd).toInt + (om).toInt := w_1256_0
                  have b_y_1258 : 0 ≤ (y_1258).toInt ∧ (y_1258).toInt ≤ 1600 := dg_I.intb (lo := 0) (hi := 1600) I_1256 sM_0 (by decide +kernel) f_y_1258
                  have b_y_1259 : 0 ≤ (y_1259).toInt ∧ (y_1259).toInt ≤ 500 := dg_I.intb (lo := 0) (hi := 500) I_1256 sM_0 (by decide +kernel) f_y_1259
                  have w_1256_1 : TOPM S_1256 (1 : Int32) := w_1256_1
                  obtain ⟨x_1260, f_x_1260, b_x_1260⟩ := dg_I.int (i := 0) (k := 43) (lo := (-2147483648)) (hi := 2147483647) I_1256 sM_0 (by decide +kernel)
                  have hdm_1260 := PSM.dims w_1256_3 (((m_1256.1 0 42 _ sM_0 (by decide)).trans (m_2.1 0 42 _ sM_0 (by decide))).trans f_dp) f_x_1260 f_y_1259
                  refine lv_aload_n hx hb dX12_goesOn_484 rfl (lv_at hl 3 rfl) ?_
                  refine dg_get (C := RX12) (T := TX12) (N := 77) hx hb hts (fun w h => bw_mem (wU_X12 w h)) hown K hP sM_0 rfl 37 (by decide) (hts _ (bw_mem wB_1213)) (fun _ h9 => h9) (v := .ref (o + 22)) (show S_1256.1 0 37 = .ref (o + 22) from dg_I.rel (d := 22) I_1256 sM_0 (by decide +kernel)) dX12_goesOn_485 ?_
                  refine lv_iload_n hx hb dX12_goesOn_488 rfl (lv_at hl 2 rfl) ?_
                  refine lv_iload_n hx hb dX12_goesOn_489 rfl (lv_at hl 1 rfl) ?_
                  refine lv_iconst (v := 3) hx hb dX12_goesOn_490 (by decide +kernel) ?_
                  refine lv_icmp_ne (tgt := 498) hx hb dX12_goesOn_491 (by decide) (fun c_1262 => ?_) (fun c_1262 => ?_)
                  · have jc_1262 := dk_neqc (k := 3) (by decide +kernel) c_1262
                    have jbc_1262 : 6 ≤ (x_7).toInt := by omega
                    clear jc_1262
                    refine lv_iconst (v := 3) hx hb dX12_goesOn_498 (by decide +kernel) ?_
                    have hin_1263 : vp_in x_5 20 := (dk_inv (by omega) (by omega))
                    have hz_1265 : (3 : Int32).toInt = 3 := by decide +kernel
                    refine dg_iast hx hb K hP hS hA1 sM_22 hin_1263 dX12_goesOn_499 (fun S_1264 e_1264 H locs hP hS => ?_)
                    have I_1264 := dg_I.ufu (lo := 0) (hi := 6) I_1256 e_1264 sM_22 (by decide +kernel) (show 0 ≤ ((3 : Int32)).toInt ∧ ((3 : Int32)).toInt ≤ 6 from (by decide +kernel))
                    have M_1264 := dg_sm.uf M_1256 e_1264 sM_22 (by decide)
                    have hz_1266 : (3 : Int32).toInt = 3 := by decide +kernel
                    refine lv_aload_n hx hb dX12_goesOn_500 rfl (lv_at hl 3 rfl) ?_
                    refine dg_get (C := RX12) (T := TX12) (N := 77) hx hb hts (fun w h => bw_mem (wU_X12 w h)) hown K hP sM_0 rfl 38 (by decide) (hts _ (bw_mem wB_1214)) (fun _ h9 => h9) (v := .ref (o + 23)) (show S_1264.1 0 38 = .ref (o + 23) from dg_I.rel (d := 23) I_1264 sM_0 (by decide +kernel)) dX12_goesOn_501 ?_
                    refine lv_iload_n hx hb dX12_goesOn_504 rfl (lv_at hl 2 rfl) ?_
                    refine lv_iconst (v := 0) hx hb dX12_goesOn_505 (by decide +kernel) ?_
                    have hin_1267 : vp_in x_5 20 := (dk_inv (by omega) (by omega))
                    have hz_1269 : (0 : Int32).toInt = 0 := by decide +kernel
                    refine dg_iast hx hb K hP hS hA1 sM_23 hin_1267 dX12_goesOn_506 (fun S_1268 e_1268 H locs hP hS => ?_)
                    have I_1268 := dg_I.ufu (lo := 0) (hi := 2) I_1264 e_1268 sM_23 (by decide +kernel) (show 0 ≤ ((0 : Int32)).toInt ∧ ((0 : Int32)).toInt ≤ 2 from (by decide +kernel))
                    have M_1268 := dg_sm.uf M_1264 e_1268 sM_23 (by decide)
                    have hz_1270 : (0 : Int32).toInt = 0 := by decide +kernel
                    have P0_1268 : P0M S_1268 := P1M.comma w_1256_3 (((m_1256.1 0 42 _ sM_0 (by decide)).trans (m_2.1 0 42 _ sM_0 (by decide))).trans f_dp) f_x_1260 f_y_1259 w_1256_1 (by omega) (fx := x_5) (by omega) ((congrFun (m_1256.2 22 _ sM_22 (by decide)).1 _).trans ex_7.symm) (by omega) e_1264 e_1268
                    refine lv_aload_n hx hb dX12_goesOn_507 rfl (lv_at hl 3 rfl) ?_
                    refine dg_callv hS hA1 hA (va_runV (As := []) (rest := []) F (c_m_ahead l g D o S_1268 se (((dg_uf_F e_1268 0 5).trans ((dg_uf_F e_1264 0 5).trans ((m_1256.1 0 5 _ sM_0 (by decide)).trans (m_2.1 0 5 _ sM_0 (by decide))))).trans f_se) (by omega) sl (((dg_uf_F e_1268 0 2).trans ((dg_uf_F e_1264 0 2).trans ((m_1256.1 0 2 _ sM_0 (by decide)).trans (m_2.1 0 2 _ sM_0 (by decide))))).trans f_sl) (by omega) (by omega) I_1268 H.size) (cwV 0 hts (bw_V wB_1161 wB_1162 wB_1163 wB_881 wB_1160) rfl rfl rfl (by decide +kernel) ⟨Nat.le_of_ble_eq_true rfl, Nat.le_of_ble_eq_true rfl⟩) (dg_preV sM_0 rfl K ST hP hS hA1 hA) rfl rfl hl.1 rfl (lv_room (Nat.le_of_ble_eq_true rfl)) dX12_goesOn_508 ⟨Nat.le_of_ble_eq_true rfl, Nat.le_of_ble_eq_true rfl⟩) (fun S_1271 hw_1271 H locs hP hS => ?_)
                    obtain ⟨I_1271, m_1271, w_1271_0, -⟩ := hw_1271
                    have M_1271 := dg_sm.tr M_1268 m_1271 (by decide) (by decide)
                    obtain ⟨y_1272, y_1273, y_1274, f_y_1272, f_y_1273, f_y_1274, w_1271_0⟩ := w_1271_0
                    have w_1271_0 : (se).toInt ≤ (y_1273).toInt ∧ (y_1273).toInt ≤ (y_1274).toInt ∧ (y_1274).toInt ≤ (sl).toInt ∧ ((y_1272).toInt ≠ 0 → (y_1273).toInt + 1 ≤ (y_1274).toInt) := w_1271_0
                    obtain ⟨w_1271_0_0, w_1271_0_1, w_1271_0_2, w_1271_0_3⟩ := w_1271_0
                    have b_y_1272 : 0 ≤ (y_1272).toInt ∧ (y_1272).toInt ≤ 3 := dg_I.intb (lo := 0) (hi := 3) I_1271 sM_0 (by decide +kernel) f_y_1272
                    have b_y_1273 : 0 ≤ (y_1273).toInt ∧ (y_1273).toInt ≤ 1600 := dg_I.intb (lo := 0) (hi := 1600) I_1271 sM_0 (by decide +kernel) f_y_1273
                    have b_y_1274 : 0 ≤ (y_1274).toInt ∧ (y_1274).toInt ≤ 1600 := dg_I.intb (lo := 0) (hi := 1600) I_1271 sM_0 (by decide +kernel) f_y_1274
                    refine lv_aload_n hx hb dX12_goesOn_511 rfl (lv_at hl 3 rfl) ?_
                    refine lv_iconst (v := 0) hx hb dX12_goesOn_512 (by decide +kernel) ?_
                    have hz_1275 : (0 : Int32).toInt = 0 := by decide +kernel
                    refine dg_put (ci := 12) (v := .int 0) (ty := tyX12 46) (C := RX12) (T := TX12) (N := 77) hx hb hts (fun w h => bw_mem (wU_X12 w h)) tyX12 tyX12_ok nmX12 hown K hP hS hA1 sM_0 rfl 46 (by decide) (hts _ (bw_mem wB_1237)) (fun _ h9 => h9) rfl (by decide +kernel) (by decide +kernel) (by decide +kernel) dX12_goesOn_513 (fun S_1276 e_1276 H locs hP hS => ?_)
                    have I_1276 := dg_I.uFi (lo := 0) (hi := 1) I_1271 e_1276 sM_0 (by decide +kernel) (show 0 ≤ ((0 : Int32)).toInt ∧ ((0 : Int32)).toInt ≤ 1 from (by decide +kernel))
                    have M_1276 := dg_sm.uF M_1271 e_1276 sM_0 (by decide)
                    refine lv_iconst (v := 1) hx hb dX12_goesOn_516 (by decide +kernel) ?_
                    have hz_1277 : (1 : Int32).toInt = 1 := by decide +kernel
                    have hz_1278 : (1 : Int32).toInt = 1 := by decide +kernel
                    have hz_1279 : (0 : Int32).toInt = 0 := by decide +kernel
                    have hz_1280 : (1 : Int32).toInt = 1 := by decide +kernel
                    have hz_1281 : (0 : Int32).toInt = 0 := by decide +kernel
                    refine W.widen (k := 0) (n := 0) (Nat.le_of_ble_eq_true rfl) (Nat.le_of_ble_eq_true rfl) ?_
                    rw [hQ9]
                    exact dg_iret hx hb hr hlocks (by decide +kernel) hP hS ⟨I_1276, M_1276, (by decide +kernel), ⟨y_1272, y_1273, y_1274, y_3, y_1258, dp, y_1259, 0, ((dg_uF_ne e_1276 (fun z => absurd z.2 (by decide))).trans f_y_1272), ((dg_uF_ne e_1276 (fun z => absurd z.2 (by decide))).trans f_y_1273), ((dg_uF_ne e_1276 (fun z => absurd z.2 (by decide))).trans f_y_1274), (((dg_uF_ne e_1276 (fun z => absurd z.2 (by decide))).trans ((m_1271.1 0 8 _ sM_0 (by decide)).trans ((dg_uf_F e_1268 0 8).trans ((dg_uf_F e_1264 0 8).trans (m_1256.1 0 8 _ sM_0 (by decide)))))).trans f_y_3), (((dg_uF_ne e_1276 (fun z => absurd z.2 (by decide))).trans ((m_1271.1 0 34 _ sM_0 (by decide)).trans ((dg_uf_F e_1268 0 34).trans (dg_uf_F e_1264 0 34)))).trans f_y_1258), (((dg_uF_ne e_1276 (fun z => absurd z.2 (by decide))).trans ((m_1271.1 0 42 _ sM_0 (by decide)).trans ((dg_uf_F e_1268 0 42).trans ((dg_uf_F e_1264 0 42).trans ((m_1256.1 0 42 _ sM_0 (by decide)).trans (m_2.1 0 42 _ sM_0 (by decide))))))).trans f_dp), (((dg_uF_ne e_1276 (fun z => absurd z.2 (by decide))).trans ((m_1271.1 0 45 _ sM_0 (by decide)).trans ((dg_uf_F e_1268 0 45).trans (dg_uf_F e_1264 0 45)))).trans f_y_1259), (dg_uF_at e_1276), (by omega)⟩, (fun k9 hk9 hk0 => POM.mk0 (P0M.keep (P0M.keep P0_1268 m_1271 (by decide) (by decide) (by decide) (by decide) (by decide) (by decide) (by decide) (by decide) (by decide) (by decide) (by decide) (by decide) (by decide) (by decide) (by decide)) (dg_sm.uF (WF := [(0, 46)]) (WA := []) dg_sm.rf e_1276 sM_0 (by decide)) (by decide) (by decide) (by decide) (by decide) (by decide) (by decide) (by decide) (by decide) (by decide) (by decide) (by decide) (by decide) (by decide) (by decide) (by decide)) (dg_uF_at e_1276) (by omega)), (ZWM.keep (ZWM.keep (ZWM.keep (ZWM.keep w_1256_2 (dg_sm.uf (WF := []) (WA := [22]) dg_sm.rf e_1264 sM_22 (by decide)) (by decide) (by decide) (by decide) (by decide)) (dg_sm.uf (WF := []) (WA := [23]) dg_sm.rf e_1268 sM_23 (by decide)) (by decide) (by decide) (by decide) (by decide)) m_1271 (by decide) (by decide) (by decide) (by decide)) (dg_sm.uF (WF := [(0, 46)]) (WA := []) dg_sm.rf e_1276 sM_0 (by decide)) (by decide) (by decide) (by decide) (by decide)), trivial⟩ dX12_goesOn_517
                  · have jc_1262 := dk_eqc (k := 3) (by decide +kernel) c_1262
                    refine lv_iconst (v := 4) hx hb dX12_goesOn_494 (by decide +kernel) ?_
                    refine lv_goto (tgt := 499) hx hb dX12_goesOn_495 (by decide) ?_
                    have hin_1282 : vp_in x_5 20 := (dk_inv (by omega) (by omega))
                    have hz_1284 : (4 : Int32).toInt = 4 := by decide +kernel
                    refine dg_iast hx hb K hP hS hA1 sM_22 hin_1282 dX12_goesOn_499 (fun S_1283 e_1283 H locs hP hS => ?_)
                    have I_1283 := dg_I.ufu (lo := 0) (hi := 6) I_1256 e_1283 sM_22 (by decide +kernel) (show 0 ≤ ((4 : Int32)).toInt ∧ ((4 : Int32)).toInt ≤ 6 from (by decide +kernel))
                    have M_1283 := dg_sm.uf M_1256 e_1283 sM_22 (by decide)
                    have hz_1285 : (4 : Int32).toInt = 4 := by decide +kernel
                    refine lv_aload_n hx hb dX12_goesOn_500 rfl (lv_at hl 3 rfl) ?_
                    refine dg_get (C := RX12) (T := TX12) (N := 77) hx hb hts (fun w h => bw_mem (wU_X12 w h)) hown K hP sM_0 rfl 38 (by decide) (hts _ (bw_mem wB_1214)) (fun _ h9 => h9) (v := .ref (o + 23)) (show S_1283.1 0 38 = .ref (o + 23) from dg_I.rel (d := 23) I_1283 sM_0 (by decide +kernel)) dX12_goesOn_501 ?_
                    refine lv_iload_n hx hb dX12_goesOn_504 rfl (lv_at hl 2 rfl) ?_
                    refine lv_iconst (v := 0) hx hb dX12_goesOn_505 (by decide +kernel) ?_
                    have hin_1286 : vp_in x_5 20 := (dk_inv (by omega) (by omega))
                    have hz_1288 : (0 : Int32).toInt = 0 := by decide +kernel
                    refine dg_iast hx hb K hP hS hA1 sM_23 hin_1286 dX12_goesOn_506 (fun S_1287 e_1287 H locs hP hS => ?_)
                    have I_1287 := dg_I.ufu (lo := 0) (hi := 2) I_1283 e_1287 sM_23 (by decide +kernel) (show 0 ≤ ((0 : Int32)).toInt ∧ ((0 : Int32)).toInt ≤ 2 from (by decide +kernel))
                    have M_1287 := dg_sm.uf M_1283 e_1287 sM_23 (by decide)
                    have hz_1289 : (0 : Int32).toInt = 0 := by decide +kernel
                    have P0_1287 : P0M S_1287 := P1M.comma w_1256_3 (((m_1256.1 0 42 _ sM_0 (by decide)).trans (m_2.1 0 42 _ sM_0 (by decide))).trans f_dp) f_x_1260 f_y_1259 w_1256_1 (by omega) (fx := x_5) (by omega) ((congrFun (m_1256.2 22 _ sM_22 (by decide)).1 _).trans ex_7.symm) (by omega) e_1283 e_1287
                    refine lv_aload_n hx hb dX12_goesOn_507 rfl (lv_at hl 3 rfl) ?_
                    refine dg_callv hS hA1 hA (va_runV (As := []) (rest := []) F (c_m_ahead l g D o S_1287 se (((dg_uf_F e_1287 0 5).trans ((dg_uf_F e_1283 0 5).trans ((m_1256.1 0 5 _ sM_0 (by decide)).trans (m_2.1 0 5 _ sM_0 (by decide))))).trans f_se) (by omega) sl (((dg_uf_F e_1287 0 2).trans ((dg_uf_F e_1283 0 2).trans ((m_1256.1 0 2 _ sM_0 (by decide)).trans (m_2.1 0 2 _ sM_0 (by decide))))).trans f_sl) (by omega) (by omega) I_1287 H.size) (cwV 0 hts (bw_V wB_1161 wB_1162 wB_1163 wB_881 wB_1160) rfl rfl rfl (by decide +kernel) ⟨Nat.le_of_ble_eq_true rfl, Nat.le_of_ble_eq_true rfl⟩) (dg_preV sM_0 rfl K ST hP hS hA1 hA) rfl rfl hl.1 rfl (lv_room (Nat.le_of_ble_eq_true rfl)) dX12_goesOn_508 ⟨Nat.le_of_ble_eq_true rfl, Nat.le_of_ble_eq_true rfl⟩) (fun S_1290 hw_1290 H locs hP hS => ?_)
                    obtain ⟨I_1290, m_1290, w_1290_0, -⟩ := hw_1290
                    have M_1290 := dg_sm.tr M_1287 m_1290 (by decide) (by decide)
                    obtain ⟨y_1291, y_1292, y_1293, f_y_1291, f_y_1292, f_y_1293, w_1290_0⟩ := w_1290_0
                    have w_1290_0 : (se).toInt ≤ (y_1292).toInt ∧ (y_1292).toInt ≤ (y_1293).toInt ∧ (y_1293).toInt ≤ (sl).toInt ∧ ((y_1291).toInt ≠ 0 → (y_1292).toInt + 1 ≤ (y_1293).toInt) := w_1290_0
                    obtain ⟨w_1290_0_0, w_1290_0_1, w_1290_0_2, w_1290_0_3⟩ := w_1290_0
                    have b_y_1291 : 0 ≤ (y_1291).toInt ∧ (y_1291).toInt ≤ 3 := dg_I.intb (lo := 0) (hi := 3) I_1290 sM_0 (by decide +kernel) f_y_1291
                    have b_y_1292 : 0 ≤ (y_1292).toInt ∧ (y_1292).toInt ≤ 1600 := dg_I.intb (lo := 0) (hi := 1600) I_1290 sM_0 (by decide +kernel) f_y_1292
                    have b_y_1293 : 0 ≤ (y_1293).toInt ∧ (y_1293).toInt ≤ 1600 := dg_I.intb (lo := 0) (hi := 1600) I_1290 sM_0 (by decide +kernel) f_y_1293
                    refine lv_aload_n hx hb dX12_goesOn_511 rfl (lv_at hl 3 rfl) ?_
                    refine lv_iconst (v := 0) hx hb dX12_goesOn_512 (by decide +kernel) ?_
                    have hz_1294 : (0 : Int32).toInt = 0 := by decide +kernel
                    refine dg_put (ci := 12) (v := .int 0) (ty := tyX12 46) (C := RX12) (T := TX12) (N := 77) hx hb hts (fun w h => bw_mem (wU_X12 w h)) tyX12 tyX12_ok nmX12 hown K hP hS hA1 sM_0 rfl 46 (by decide) (hts _ (bw_mem wB_1237)) (fun _ h9 => h9) rfl (by decide +kernel) (by decide +kernel) (by decide +kernel) dX12_goesOn_513 (fun S_1295 e_1295 H locs hP hS => ?_)
                    have I_1295 := dg_I.uFi (lo := 0) (hi := 1) I_1290 e_1295 sM_0 (by decide +kernel) (show 0 ≤ ((0 : Int32)).toInt ∧ ((0 : Int32)).toInt ≤ 1 from (by decide +kernel))
                    have M_1295 := dg_sm.uF M_1290 e_1295 sM_0 (by decide)
                    refine lv_iconst (v := 1) hx hb dX12_goesOn_516 (by decide +kernel) ?_
                    have hz_1296 : (1 : Int32).toInt = 1 := by decide +kernel
                    have hz_1297 : (1 : Int32).toInt = 1 := by decide +kernel
                    have hz_1298 : (0 : Int32).toInt = 0 := by decide +kernel
                    have hz_1299 : (1 : Int32).toInt = 1 := by decide +kernel
                    have hz_1300 : (0 : Int32).toInt = 0 := by decide +kernel
                    refine W.widen (k := 0) (n := 0) (Nat.le_of_ble_eq_true rfl) (Nat.le_of_ble_eq_true rfl) ?_
                    rw [hQ9]
                    exact dg_iret hx hb hr hlocks (by decide +kernel) hP hS ⟨I_1295, M_1295, (by decide +kernel), ⟨y_1291, y_1292, y_1293, y_3, y_1258, dp, y_1259, 0, ((dg_uF_ne e_1295 (fun z => absurd z.2 (by decide))).trans f_y_1291), ((dg_uF_ne e_1295 (fun z => absurd z.2 (by decide))).trans f_y_1292), ((dg_uF_ne e_1295 (fun z => absurd z.2 (by decide))).trans f_y_1293), (((dg_uF_ne e_1295 (fun z => absurd z.2 (by decide))).trans ((m_1290.1 0 8 _ sM_0 (by decide)).trans ((dg_uf_F e_1287 0 8).trans ((dg_uf_F e_1283 0 8).trans (m_1256.1 0 8 _ sM_0 (by decide)))))).trans f_y_3), (((dg_uF_ne e_1295 (fun z => absurd z.2 (by decide))).trans ((m_1290.1 0 34 _ sM_0 (by decide)).trans ((dg_uf_F e_1287 0 34).trans (dg_uf_F e_1283 0 34)))).trans f_y_1258), (((dg_uF_ne e_1295 (fun z => absurd z.2 (by decide))).trans ((m_1290.1 0 42 _ sM_0 (by decide)).trans ((dg_uf_F e_1287 0 42).trans ((dg_uf_F e_1283 0 42).trans ((m_1256.1 0 42 _ sM_0 (by decide)).trans (m_2.1 0 42 _ sM_0 (by decide))))))).trans f_dp), (((dg_uF_ne e_1295 (fun z => absurd z.2 (by decide))).trans ((m_1290.1 0 45 _ sM_0 (by decide)).trans ((dg_uf_F e_1287 0 45).trans (dg_uf_F e_1283 0 45)))).trans f_y_1259), (dg_uF_at e_1295), (by omega)⟩, (fun k9 hk9 hk0 => POM.mk0 (P0M.keep (P0M.keep P0_1287 m_1290 (by decide) (by decide) (by decide) (by decide) (by decide) (by decide) (by decide) (by decide) (by decide) (by decide) (by decide) (by decide) (by decide) (by decide) (by decide)) (dg_sm.uF (WF := [(0, 46)]) (WA := []) dg_sm.rf e_1295 sM_0 (by decide)) (by decide) (by decide) (by decide) (by decide) (by decide) (by decide) (by decide) (by decide) (by decide) (by decide) (by decide) (by decide) (by decide) (by decide) (by decide)) (dg_uF_at e_1295) (by omega)), (ZWM.keep (ZWM.keep (ZWM.keep (ZWM.keep w_1256_2 (dg_sm.uf (WF := []) (WA := [22]) dg_sm.rf e_1283 sM_22 (by decide)) (by decide) (by decide) (by decide) (by decide)) (dg_sm.uf (WF := []) (WA := [23]) dg_sm.rf e_1287 sM_23 (by decide)) (by decide) (by decide) (by decide) (by decide)) m_1290 (by decide) (by decide) (by decide) (by decide)) (dg_sm.uF (WF := [(0, 46)]) (WA := []) dg_sm.rf e_1295 sM_0 (by decide)) (by decide) (by decide) (by decide) (by decide)), trivial⟩ dX12_goesOn_517
                · have jc_1254 := dk_eqc (k := 0) (by decide +kernel) c_1254
                  clear w_1252_1
                  refine lv_aload_n hx hb dX12_goesOn_461 rfl (lv_at hl 3 rfl) ?_
                  refine lv_iconst (v := 1) hx hb dX12_goesOn_462 (by decide +kernel) ?_
                  refine lv_aload_n hx hb dX12_goesOn_463 rfl (lv_at hl 3 rfl) ?_
                  refine dg_get (C := RX12) (T := TX12) (N := 77) hx hb hts (fun w h => bw_mem (wU_X12 w h)) hown K hP sM_0 rfl 4 (by decide) (hts _ (bw_mem wB_1145)) (fun _ h9 => h9) (v := .int sa) ((m_2.1 0 4 _ sM_0 (by decide)).trans f_sa) dX12_goesOn_464 ?_
                  have hz_1301 : (1 : Int32).toInt = 1 := by decide +kernel
                  refine dg_callv hS hA1 hA (va_runV (As := [.int 1, .int sa]) (rest := []) F (c_m_blame l g D o S_2 1 (by decide +kernel) sa y_3 f_y_3 (by omega) I_2 H.size) (cwV 2 hts (bw_V wB_1137 wB_1138 wB_1139 wB_881 wB_1136) rfl rfl rfl (by decide +kernel) ⟨Nat.le_of_ble_eq_true rfl, Nat.le_of_ble_eq_true rfl⟩) (dg_preV sM_0 rfl K ST hP hS hA1 hA) rfl rfl hl.1 rfl (lv_room (Nat.le_of_ble_eq_true rfl)) dX12_goesOn_467 ⟨Nat.le_of_ble_eq_true rfl, Nat.le_of_ble_eq_true rfl⟩) (fun S_1302 hw_1302 H locs hP hS => ?_)
                  obtain ⟨I_1302, m_1302, w_1302_0, -⟩ := hw_1302
                  have M_1302 := dg_sm.tr M_2 m_1302 (by decide) (by decide)
                  have hz_1303 : (1 : Int32).toInt = 1 := by decide +kernel
                  obtain ⟨y_1304, f_y_1304, w_1302_0⟩ := w_1302_0
                  have w_1302_0 : ((y_3).toInt ≠ 0 → (y_1304).toInt = (y_3).toInt) ∧ ((y_3).toInt = 0 → (y_1304).toInt = ((1 : Int32)).toInt) := w_1302_0
                  obtain ⟨w_1302_0_0, w_1302_0_1⟩ := w_1302_0
                  clear w_1302_0_0
                  have w_1302_0_1r := w_1302_0_1 (by omega)
                  clear w_1302_0_1
                  have b_y_1304 : 0 ≤ (y_1304).toInt ∧ (y_1304).toInt ≤ 6 := dg_I.intb (lo := 0) (hi := 6) I_1302 sM_0 (by decide +kernel) f_y_1304
                  have hbl_y_1304 : 1 ≤ (y_1304).toInt := by omega
                  refine lv_aload_n hx hb dX12_goesOn_470 rfl (lv_at hl 3 rfl) ?_
                  refine dg_get (C := RX12) (T := TX12) (N := 77) hx hb hts (fun w h => bw_mem (wU_X12 w h)) hown K hP sM_0 rfl 8 (by decide) (hts _ (bw_mem wB_1133)) (fun _ h9 => h9) (v := .int y_1304) f_y_1304 dX12_goesOn_471 ?_
                  refine lv_if_le (tgt := 479) hx hb dX12_goesOn_474 (by decide) (fun c => absurd c (fun z => absurd (dk_lec (k := 0) (by decide +kernel) z) (by omega))) (fun _ => ?_)
                  refine lv_iconst (v := 0) hx hb dX12_goesOn_477 (by decide +kernel) ?_
                  have hz_1305 : (0 : Int32).toInt = 0 := by decide +kernel
                  have hz_1306 : (0 : Int32).toInt = 0 := by decide +kernel
                  have hz_1307 : (0 : Int32).toInt = 0 := by decide +kernel
                  refine W.widen (k := 0) (n := 0) (Nat.le_of_ble_eq_true rfl) (Nat.le_of_ble_eq_true rfl) ?_
                  rw [hQ9]
                  exact dg_iret hx hb hr hlocks (by decide +kernel) hP hS ⟨I_1302, M_1302, (by decide +kernel), ⟨sg, sa, se, y_1304, cd, dp, om, oo, (((m_1302.1 0 3 _ sM_0 (by decide)).trans (m_2.1 0 3 _ sM_0 (by decide))).trans f_sg), (((m_1302.1 0 4 _ sM_0 (by decide)).trans (m_2.1 0 4 _ sM_0 (by decide))).trans f_sa), (((m_1302.1 0 5 _ sM_0 (by decide)).trans (m_2.1 0 5 _ sM_0 (by decide))).trans f_se), f_y_1304, (((m_1302.1 0 34 _ sM_0 (by decide)).trans (m_2.1 0 34 _ sM_0 (by decide))).trans f_cd), (((m_1302.1 0 42 _ sM_0 (by decide)).trans (m_2.1 0 42 _ sM_0 (by decide))).trans f_dp), (((m_1302.1 0 45 _ sM_0 (by decide)).trans (m_2.1 0 45 _ sM_0 (by decide))).trans f_om), (((m_1302.1 0 46 _ sM_0 (by decide)).trans (m_2.1 0 46 _ sM_0 (by decide))).trans f_oo), (by omega)⟩, (fun k9 hk9 hk0 => by have q9 := (f_y_1304).symm.trans hk9; cases q9; omega), (ZWM.keep (ZWM.keep ZW m_2 (by decide) (by decide) (by decide) (by decide)) m_1302 (by decide) (by decide) (by decide) (by decide)), trivial⟩ dX12_goesOn_478
              refine lv_icmp_eq (tgt := 452) hx hb dX12_goesOn_443 (by decide) (fun c_1308 => ?_) (fun c_1308 => ?_)
              · have jc_1308 := dk_eqc (k := 3) (by decide +kernel) c_1308
                exact J_1250 ()  (by omega) _ _ hP hS _ (lv_sub hl [0, 1, 2, 3] rfl)
              · have jc_1308 := dk_neqc (k := 3) (by decide +kernel) c_1308
                refine lv_iload_n hx hb dX12_goesOn_446 rfl (lv_at hl 1 rfl) ?_
                refine lv_bipush (v := 6) hx hb dX12_goesOn_447 (by decide +kernel) ?_
                refine lv_icmp_ne (tgt := 518) hx hb dX12_goesOn_449 (by decide) (fun c_1309 => ?_) (fun c_1309 => ?_)
                · have jc_1309 := dk_neqc (k := 6) (by decide +kernel) c_1309
                  have jtc_1309 : (x_7).toInt ≤ 5 := by omega
                  clear jc_1309
                  refine lv_aload_n hx hb dX12_goesOn_518 rfl (lv_at hl 3 rfl) ?_
                  refine lv_iload_n hx hb dX12_goesOn_519 rfl (lv_at hl 1 rfl) ?_
                  refine lv_iconst (v := 5) hx hb dX12_goesOn_520 (by decide +kernel) ?_
                  have J_1366 : ∀ (x_1311 : Int32), (41 ≤ (x_1311).toInt ∧ (x_1311).toInt ≤ 93) → ((x_7 : Int32).toInt = 2 ∨ (x_7 : Int32).toInt = 4 ∨ (x_7 : Int32).toInt = 5) → ∀ (H : Heap) (locs : List Loc), va_P D vwCl (dg_w g shM o rfM S_2) H → va_S A s.heap H locs → ∀ ls : Array Slot, lv_has ls 5 [(3, .int x_8), (2, .int x_7), (1, .int x_5), (0, .ref (o + 0))] → W p l e ({ frames := 3, cells := 0, slots := 0, locals := 77 } : Room) s m args below meth c H locs 0 0 Q9 (F0 m 531 ls [.int x_1311, .ref (o + 0)]) := by
                    intro x_1311 b_x_1311 rel_0 H locs hP hS ls hl
                    refine dg_calli hS hA1 hA (va_runV (As := [.int x_1311]) (rest := []) F (c_m_isSign l g D o S_2 x_1311 sg ((m_2.1 0 3 _ sM_0 (by decide)).trans f_sg) (by omega) va ((m_2.1 0 6 _ sM_0 (by decide)).trans f_va) (by omega) I_2 H.size) (cwV 1 hts (bw_V wB_1157 wB_1158 wB_1159 wB_881 wB_1156) rfl rfl rfl (by decide +kernel) ⟨Nat.le_of_ble_eq_true rfl, Nat.le_of_ble_eq_true rfl⟩) (dg_preV sM_0 rfl K ST hP hS hA1 hA) rfl rfl hl.1 rfl (lv_room (Nat.le_of_ble_eq_true rfl)) dX12_goesOn_531 ⟨Nat.le_of_ble_eq_true rfl, Nat.le_of_ble_eq_true rfl⟩) (fun x_1367 S_1368 hw_1368 H locs hP hS => ?_)
                    rw [hw_1368.1] at hP
                    obtain ⟨hq_1368, w_1368_0, w_1368_1, -⟩ := hw_1368
                    have w_1368_0 : 0 ≤ (x_1367).toInt ∧ (x_1367).toInt ≤ 1 := w_1368_0
                    have w_1368_1 : (x_1367).toInt = 1 ↔ ((sg).toInt = 3 ∧ (va).toInt = (x_1311).toInt) := w_1368_1
                    refine lv_if_ne (tgt := 546) hx hb dX12_goesOn_534 (by decide) (fun c_1369 => ?_) (fun c_1369 => ?_)
                    · have jc_1369 := dk_neqc (k := 0) (by decide +kernel) c_1369
                      have jbc_1369 : 1 ≤ (x_1367).toInt := by omega
                      clear jc_1369
                      have w_1368_1_r := w_1368_1.mp (by omega)
                      obtain ⟨w_1368_1_r1, w_1368_1_r2⟩ := w_1368_1_r
                      clear w_1368_1
                      have hlx_2r := hlx_2 (by omega)
                      clear hlx_2
                      refine lv_aload_n hx hb dX12_goesOn_546 rfl (lv_at hl 3 rfl) ?_
                      refine dg_get (C := RX12) (T := TX12) (N := 77) hx hb hts (fun w h => bw_mem (wU_X12 w h)) hown K hP sM_0 rfl 8 (by decide) (hts _ (bw_mem wB_1133)) (fun _ h9 => h9) (v := .int y_3) f_y_3 dX12_goesOn_547 ?_
                      refine lv_if_le (tgt := 555) hx hb dX12_goesOn_550 (by decide) (fun _ => ?_) (fun c => absurd (dk_lep (k := 0) (by decide +kernel) (by omega)) c)
                      refine lv_aload_n hx hb dX12_goesOn_555 rfl (lv_at hl 3 rfl) ?_
                      refine lv_iconst (v := 1) hx hb dX12_goesOn_556 (by decide +kernel) ?_
                      have hz_1370 : (1 : Int32).toInt = 1 := by decide +kernel
                      refine dg_callv hS hA1 hA (va_runV (As := [.int 1]) (rest := []) F (c_m_joins l g D o S_2 1 (by decide +kernel) cd ((m_2.1 0 34 _ sM_0 (by decide)).trans f_cd) (by omega) om ((m_2.1 0 45 _ sM_0 (by decide)).trans f_om) (by omega) (by omega) (ZWM.keep ZW m_2 (by decide) (by decide) (by decide) (by decide)) (ZKM.keep ZK m_2 (by decide) (by decide)) (P1M.keep P1 m_2 (by decide) (by decide) (by decide) (by decide) (by decide) (by decide) (by decide) (by decide) (by decide) (by decide) (by decide) (by decide) (by decide) (by decide) (by decide)) I_2 H.size) (cwV 1 hts (bw_V wB_1234 wB_1235 wB_1236 wB_881 wB_1233) rfl rfl rfl (by decide +kernel) ⟨Nat.le_of_ble_eq_true rfl, Nat.le_of_ble_eq_true rfl⟩) (dg_preV sM_0 rfl K ST hP hS hA1 hA) rfl rfl hl.1 rfl (lv_room (Nat.le_of_ble_eq_true rfl)) dX12_goesOn_557 ⟨Nat.le_of_ble_eq_true rfl, Nat.le_of_ble_eq_true rfl⟩) (fun S_1371 hw_1371 H locs hP hS => ?_)
                      obtain ⟨I_1371, m_1371, w_1371_0, w_1371_1, w_1371_2, w_1371_3, -⟩ := hw_1371
                      have M_1371 := dg_sm.tr M_2 m_1371 (by decide) (by decide)
                      have hz_1372 : (1 : Int32).toInt = 1 := by decide +kernel
                      obtain ⟨y_1373, y_1374, f_y_1373, f_y_1374, w_1371_0⟩ := w_1371_0
                      have w_1371_0 : (y_1373).toInt + (y_1374).toInt = (cd).toInt + (om).toInt := w_1371_0
                      have b_y_1373 : 0 ≤ (y_1373).toInt ∧ (y_1373).toInt ≤ 1600 := dg_I.intb (lo := 0) (hi := 1600) I_1371 sM_0 (by decide +kernel) f_y_1373
                      have b_y_1374 : 0 ≤ (y_1374).toInt ∧ (y_1374).toInt ≤ 500 := dg_I.intb (lo := 0) (hi := 500) I_1371 sM_0 (by decide +kernel) f_y_1374
                      have w_1371_1 : TOPM S_1371 (1 : Int32) := w_1371_1
                      obtain ⟨x_1375, f_x_1375, b_x_1375⟩ := dg_I.int (i := 0) (k := 43) (lo := (-2147483648)) (hi := 2147483647) I_1371 sM_0 (by decide +kernel)
                      have hdm_1375 := PSM.dims w_1371_3 (((m_1371.1 0 42 _ sM_0 (by decide)).trans (m_2.1 0 42 _ sM_0 (by decide))).trans f_dp) f_x_1375 f_y_1374
                      have hkd := PSM.kind w_1371_3 (((m_1371.1 0 42 _ sM_0 (by decide)).trans (m_2.1 0 42 _ sM_0 (by decide))).trans f_dp) f_x_1375 f_y_1374 (fx := x_5) (by omega) ((congrFun (m_1371.2 22 _ sM_22 (by decide)).1 _).trans ex_7.symm) (rfl : S_1371.2.1 25 (x_5 : Int32).toNatClampNeg = _)
                      unfold dk_fk at hkd
                      have hcl9 := dk_clN x_5
                      refine lv_aload_n hx hb dX12_goesOn_560 rfl (lv_at hl 3 rfl) ?_
                      refine lv_dup hx hb dX12_goesOn_561 rfl ?_
                      refine dg_get (C := RX12) (T := TX12) (N := 77) hx hb hts (fun w h => bw_mem (wU_X12 w h)) hown K hP sM_0 rfl 42 (by decide) (hts _ (bw_mem wB_1203)) (fun _ h9 => h9) (v := .int dp) (((m_1371.1 0 42 _ sM_0 (by decide)).trans (m_2.1 0 42 _ sM_0 (by decide))).trans f_dp) dX12_goesOn_562 ?_
                      refine lv_iconst (v := 1) hx hb dX12_goesOn_565 (by decide +kernel) ?_
                      refine lv_isub hx hb dX12_goesOn_566 ?_
                      refine lv_topi (fun x_1377 ex_1377 => ?_)
                      have jx_1377 : (x_1377).toInt = (dp).toInt - 1 := by rw [ex_1377]; exact dk_subT rfl (by decide +kernel) (by omega) (by omega)
                      refine dg_put (ci := 12) (v := .int x_1377) (ty := tyX12 42) (C := RX12) (T := TX12) (N := 77) hx hb hts (fun w h => bw_mem (wU_X12 w h)) tyX12 tyX12_ok nmX12 hown K hP hS hA1 sM_0 rfl 42 (by decide) (hts _ (bw_mem wB_1203)) (fun _ h9 => h9) rfl (by decide +kernel) rfl rfl dX12_goesOn_567 (fun S_1378 e_1378 H locs hP hS => ?_)
                      have I_1378 := dg_I.uFi (lo := 0) (hi := 20) I_1371 e_1378 sM_0 (by decide +kernel) (show 0 ≤ (x_1377).toInt ∧ (x_1377).toInt ≤ 20 from (by omega))
                      have M_1378 := dg_sm.uF M_1371 e_1378 sM_0 (by decide)
                      refine lv_aload_n hx hb dX12_goesOn_570 rfl (lv_at hl 3 rfl) ?_
                      refine lv_dup hx hb dX12_goesOn_571 rfl ?_
                      refine dg_get (C := RX12) (T := TX12) (N := 77) hx hb hts (fun w h => bw_mem (wU_X12 w h)) hown K hP sM_0 rfl 43 (by decide) (hts _ (bw_mem wB_1212)) (fun _ h9 => h9) (v := .int x_1375) ((dg_uF_ne e_1378 (fun z => absurd z.2 (by decide))).trans f_x_1375) dX12_goesOn_572 ?_
                      refine lv_iconst (v := 1) hx hb dX12_goesOn_575 (by decide +kernel) ?_
                      refine lv_isub hx hb dX12_goesOn_576 ?_
                      refine lv_topi (fun x_1379 ex_1379 => ?_)
                      have jx_1379 : (x_1379).toInt = (x_1375).toInt - 1 := by rw [ex_1379]; exact dk_subT rfl (by decide +kernel) (by omega) (by omega)
                      refine dg_put (ci := 12) (v := .int x_1379) (ty := tyX12 43) (C := RX12) (T := TX12) (N := 77) hx hb hts (fun w h => bw_mem (wU_X12 w h)) tyX12 tyX12_ok nmX12 hown K hP hS hA1 sM_0 rfl 43 (by decide) (hts _ (bw_mem wB_1212)) (fun _ h9 => h9) rfl (by decide +kernel) rfl rfl dX12_goesOn_577 (fun S_1380 e_1380 H locs hP hS => ?_)
                      have I_1380 := dg_I.uFi (lo := (-2147483648)) (hi := 2147483647) I_1378 e_1380 sM_0 (by decide +kernel) (show (-2147483648) ≤ (x_1379).toInt ∧ (x_1379).toInt ≤ 2147483647 from (dk_full _))
                      have M_1380 := dg_sm.uF M_1378 e_1380 sM_0 (by decide)
                      refine lv_iload_n hx hb dX12_goesOn_580 rfl (lv_at hl 1 rfl) ?_
                      refine lv_iconst (v := 4) hx hb dX12_goesOn_581 (by decide +kernel) ?_
                      refine lv_icmp_ne (tgt := 596) hx hb dX12_goesOn_582 (by decide) (fun c_1381 => ?_) (fun c_1381 => ?_)
                      · have jc_1381 := dk_neqc (k := 4) (by decide +kernel) c_1381
                        have P1_1380 : P1M S_1380 := P1M.close2 w_1371_3 (((m_1371.1 0 42 _ sM_0 (by decide)).trans (m_2.1 0 42 _ sM_0 (by decide))).trans f_dp) f_x_1375 f_y_1374 w_1371_1 (by omega) (fx := x_5) (by omega) ((congrFun (m_1371.2 22 _ sM_22 (by decide)).1 _).trans ex_7.symm) (by omega) e_1378 (by omega) e_1380 (by omega)
                        refine lv_iload_n hx hb dX12_goesOn_596 rfl (lv_at hl 1 rfl) ?_
                        refine lv_iconst (v := 5) hx hb dX12_goesOn_597 (by decide +kernel) ?_
                        refine lv_icmp_ne (tgt := 613) hx hb dX12_goesOn_598 (by decide) (fun c_1382 => ?_) (fun c_1382 => ?_)
                        · have jc_1382 := dk_neqc (k := 5) (by decide +kernel) c_1382
                          have jtc_1382 : (x_7).toInt ≤ 2 := by omega
                          clear jc_1382
                          refine lv_aload_n hx hb dX12_goesOn_613 rfl (lv_at hl 3 rfl) ?_
                          refine dg_callv hS hA1 hA (va_runV (As := []) (rest := []) F (c_m_ahead l g D o S_1380 se (((dg_uF_ne e_1380 (fun z => absurd z.2 (by decide))).trans ((dg_uF_ne e_1378 (fun z => absurd z.2 (by decide))).trans ((m_1371.1 0 5 _ sM_0 (by decide)).trans (m_2.1 0 5 _ sM_0 (by decide))))).trans f_se) (by omega) sl (((dg_uF_ne e_1380 (fun z => absurd z.2 (by decide))).trans ((dg_uF_ne e_1378 (fun z => absurd z.2 (by decide))).trans ((m_1371.1 0 2 _ sM_0 (by decide)).trans (m_2.1 0 2 _ sM_0 (by decide))))).trans f_sl) (by omega) (by omega) I_1380 H.size) (cwV 0 hts (bw_V wB_1161 wB_1162 wB_1163 wB_881 wB_1160) rfl rfl rfl (by decide +kernel) ⟨Nat.le_of_ble_eq_true rfl, Nat.le_of_ble_eq_true rfl⟩) (dg_preV sM_0 rfl K ST hP hS hA1 hA) rfl rfl hl.1 rfl (lv_room (Nat.le_of_ble_eq_true rfl)) dX12_goesOn_614 ⟨Nat.le_of_ble_eq_true rfl, Nat.le_of_ble_eq_true rfl⟩) (fun S_1383 hw_1383 H locs hP hS => ?_)
                          obtain ⟨I_1383, m_1383, w_1383_0, -⟩ := hw_1383
                          have M_1383 := dg_sm.tr M_1380 m_1383 (by decide) (by decide)
                          obtain ⟨y_1384, y_1385, y_1386, f_y_1384, f_y_1385, f_y_1386, w_1383_0⟩ := w_1383_0
                          have w_1383_0 : (se).toInt ≤ (y_1385).toInt ∧ (y_1385).toInt ≤ (y_1386).toInt ∧ (y_1386).toInt ≤ (sl).toInt ∧ ((y_1384).toInt ≠ 0 → (y_1385).toInt + 1 ≤ (y_1386).toInt) := w_1383_0
                          obtain ⟨w_1383_0_0, w_1383_0_1, w_1383_0_2, w_1383_0_3⟩ := w_1383_0
                          have b_y_1384 : 0 ≤ (y_1384).toInt ∧ (y_1384).toInt ≤ 3 := dg_I.intb (lo := 0) (hi := 3) I_1383 sM_0 (by decide +kernel) f_y_1384
                          have b_y_1385 : 0 ≤ (y_1385).toInt ∧ (y_1385).toInt ≤ 1600 := dg_I.intb (lo := 0) (hi := 1600) I_1383 sM_0 (by decide +kernel) f_y_1385
                          have b_y_1386 : 0 ≤ (y_1386).toInt ∧ (y_1386).toInt ≤ 1600 := dg_I.intb (lo := 0) (hi := 1600) I_1383 sM_0 (by decide +kernel) f_y_1386
                          refine lv_iconst (v := 1) hx hb dX12_goesOn_617 (by decide +kernel) ?_
                          have hz_1387 : (1 : Int32).toInt = 1 := by decide +kernel
                          have hz_1388 : (1 : Int32).toInt = 1 := by decide +kernel
                          have hz_1389 : (1 : Int32).toInt = 1 := by decide +kernel
                          refine W.widen (k := 0) (n := 0) (Nat.le_of_ble_eq_true rfl) (Nat.le_of_ble_eq_true rfl) ?_
                          rw [hQ9]
                          exact dg_iret hx hb hr hlocks (by decide +kernel) hP hS ⟨I_1383, M_1383, (by decide +kernel), ⟨y_1384, y_1385, y_1386, y_3, y_1373, x_1377, y_1374, oo, f_y_1384, f_y_1385, f_y_1386, (((m_1383.1 0 8 _ sM_0 (by decide)).trans ((dg_uF_ne e_1380 (fun z => absurd z.2 (by decide))).trans ((dg_uF_ne e_1378 (fun z => absurd z.2 (by decide))).trans (m_1371.1 0 8 _ sM_0 (by decide))))).trans f_y_3), (((m_1383.1 0 34 _ sM_0 (by decide)).trans ((dg_uF_ne e_1380 (fun z => absurd z.2 (by decide))).trans (dg_uF_ne e_1378 (fun z => absurd z.2 (by decide))))).trans f_y_1373), (((m_1383.1 0 42 _ sM_0 (by decide)).trans (dg_uF_ne e_1380 (fun z => absurd z.2 (by decide)))).trans (dg_uF_at e_1378)), (((m_1383.1 0 45 _ sM_0 (by decide)).trans ((dg_uF_ne e_1380 (fun z => absurd z.2 (by decide))).trans (dg_uF_ne e_1378 (fun z => absurd z.2 (by decide))))).trans f_y_1374), (((m_1383.1 0 46 _ sM_0 (by decide)).trans ((dg_uF_ne e_1380 (fun z => absurd z.2 (by decide))).trans ((dg_uF_ne e_1378 (fun z => absurd z.2 (by decide))).trans ((m_1371.1 0 46 _ sM_0 (by decide)).trans (m_2.1 0 46 _ sM_0 (by decide)))))).trans f_oo), (by omega)⟩, (fun k9 hk9 hk0 => POM.mk1 (P1M.keep P1_1380 m_1383 (by decide) (by decide) (by decide) (by decide) (by decide) (by decide) (by decide) (by decide) (by decide) (by decide) (by decide) (by decide) (by decide) (by decide) (by decide)) (((m_1383.1 0 46 _ sM_0 (by decide)).trans ((dg_uF_ne e_1380 (fun z => absurd z.2 (by decide))).trans ((dg_uF_ne e_1378 (fun z => absurd z.2 (by decide))).trans ((m_1371.1 0 46 _ sM_0 (by decide)).trans (m_2.1 0 46 _ sM_0 (by decide)))))).trans f_oo) (by omega)), (ZWM.keep (ZWM.keep (ZWM.keep w_1371_2 (dg_sm.uF (WF := [(0, 42)]) (WA := []) dg_sm.rf e_1378 sM_0 (by decide)) (by decide) (by decide) (by decide) (by decide)) (dg_sm.uF (WF := [(0, 43)]) (WA := []) dg_sm.rf e_1380 sM_0 (by decide)) (by decide) (by decide) (by decide) (by decide)) m_1383 (by decide) (by decide) (by decide) (by decide)), trivial⟩ dX12_goesOn_618
                        · have jc_1382 := dk_eqc (k := 5) (by decide +kernel) c_1382
                          refine lv_aload_n hx hb dX12_goesOn_601 rfl (lv_at hl 3 rfl) ?_
                          refine dg_get (C := RX12) (T := TX12) (N := 77) hx hb hts (fun w h => bw_mem (wU_X12 w h)) hown K hP sM_0 rfl 38 (by decide) (hts _ (bw_mem wB_1214)) (fun _ h9 => h9) (v := .ref (o + 23)) (show S_1380.1 0 38 = .ref (o + 23) from dg_I.rel (d := 23) I_1380 sM_0 (by decide +kernel)) dX12_goesOn_602 ?_
                          refine lv_aload_n hx hb dX12_goesOn_605 rfl (lv_at hl 3 rfl) ?_
                          refine dg_get (C := RX12) (T := TX12) (N := 77) hx hb hts (fun w h => bw_mem (wU_X12 w h)) hown K hP sM_0 rfl 42 (by decide) (hts _ (bw_mem wB_1203)) (fun _ h9 => h9) (v := .int x_1377) ((dg_uF_ne e_1380 (fun z => absurd z.2 (by decide))).trans (dg_uF_at e_1378)) dX12_goesOn_606 ?_
                          refine lv_iconst (v := 1) hx hb dX12_goesOn_609 (by decide +kernel) ?_
                          refine lv_isub hx hb dX12_goesOn_610 ?_
                          refine lv_topi (fun x_1390 ex_1390 => ?_)
                          have jx_1390 : (x_1390).toInt = (x_1377).toInt - 1 := by rw [ex_1390]; exact dk_subT rfl (by decide +kernel) (by omega) (by omega)
                          refine lv_iconst (v := 2) hx hb dX12_goesOn_611 (by decide +kernel) ?_
                          have hin_1391 : vp_in x_1390 20 := (dk_inv (by omega) (by omega))
                          have hz_1393 : (2 : Int32).toInt = 2 := by decide +kernel
                          refine dg_iast hx hb K hP hS hA1 sM_23 hin_1391 dX12_goesOn_612 (fun S_1392 e_1392 H locs hP hS => ?_)
                          have I_1392 := dg_I.ufu (lo := 0) (hi := 2) I_1380 e_1392 sM_23 (by decide +kernel) (show 0 ≤ ((2 : Int32)).toInt ∧ ((2 : Int32)).toInt ≤ 2 from (by decide +kernel))
                          have M_1392 := dg_sm.uf M_1380 e_1392 sM_23 (by decide)
                          have hz_1394 : (2 : Int32).toInt = 2 := by decide +kernel
                          have P1_1392 : P1M S_1392 := P1M.close5 P1_1380 ((dg_uF_ne e_1380 (fun z => absurd z.2 (by decide))).trans (dg_uF_at e_1378)) (by omega) (by omega) (by omega) e_1392
                          refine lv_aload_n hx hb dX12_goesOn_613 rfl (lv_at hl 3 rfl) ?_
                          refine dg_callv hS hA1 hA (va_runV (As := []) (rest := []) F (c_m_ahead l g D o S_1392 se (((dg_uf_F e_1392 0 5).trans ((dg_uF_ne e_1380 (fun z => absurd z.2 (by decide))).trans ((dg_uF_ne e_1378 (fun z => absurd z.2 (by decide))).trans ((m_1371.1 0 5 _ sM_0 (by decide)).trans (m_2.1 0 5 _ sM_0 (by decide)))))).trans f_se) (by omega) sl (((dg_uf_F e_1392 0 2).trans ((dg_uF_ne e_1380 (fun z => absurd z.2 (by decide))).trans ((dg_uF_ne e_1378 (fun z => absurd z.2 (by decide))).trans ((m_1371.1 0 2 _ sM_0 (by decide)).trans (m_2.1 0 2 _ sM_0 (by decide)))))).trans f_sl) (by omega) (by omega) I_1392 H.size) (cwV 0 hts (bw_V wB_1161 wB_1162 wB_1163 wB_881 wB_1160) rfl rfl rfl (by decide +kernel) ⟨Nat.le_of_ble_eq_true rfl, Nat.le_of_ble_eq_true rfl⟩) (dg_preV sM_0 rfl K ST hP hS hA1 hA) rfl rfl hl.1 rfl (lv_room (Nat.le_of_ble_eq_true rfl)) dX12_goesOn_614 ⟨Nat.le_of_ble_eq_true rfl, Nat.le_of_ble_eq_true rfl⟩) (fun S_1395 hw_1395 H locs hP hS => ?_)
                          obtain ⟨I_1395, m_1395, w_1395_0, -⟩ := hw_1395
                          have M_1395 := dg_sm.tr M_1392 m_1395 (by decide) (by decide)
                          obtain ⟨y_1396, y_1397, y_1398, f_y_1396, f_y_1397, f_y_1398, w_1395_0⟩ := w_1395_0
                          have w_1395_0 : (se).toInt ≤ (y_1397).toInt ∧ (y_1397).toInt ≤ (y_1398).toInt ∧ (y_1398).toInt ≤ (sl).toInt ∧ ((y_1396).toInt ≠ 0 → (y_1397).toInt + 1 ≤ (y_1398).toInt) := w_1395_0
                          obtain ⟨w_1395_0_0, w_1395_0_1, w_1395_0_2, w_1395_0_3⟩ := w_1395_0
                          have b_y_1396 : 0 ≤ (y_1396).toInt ∧ (y_1396).toInt ≤ 3 := dg_I.intb (lo := 0) (hi := 3) I_1395 sM_0 (by decide +kernel) f_y_1396
                          have b_y_1397 : 0 ≤ (y_1397).toInt ∧ (y_1397).toInt ≤ 1600 := dg_I.intb (lo := 0) (hi := 1600) I_1395 sM_0 (by decide +kernel) f_y_1397
                          have b_y_1398 : 0 ≤ (y_1398).toInt ∧ (y_1398).toInt ≤ 1600 := dg_I.intb (lo := 0) (hi := 1600) I_1395 sM_0 (by decide +kernel) f_y_1398
                          refine lv_iconst (v := 1) hx hb dX12_goesOn_617 (by decide +kernel) ?_
                          have hz_1399 : (1 : Int32).toInt = 1 := by decide +kernel
                          have hz_1400 : (1 : Int32).toInt = 1 := by decide +kernel
                          have hz_1401 : (1 : Int32).toInt = 1 := by decide +kernel
                          refine W.widen (k := 0) (n := 0) (Nat.le_of_ble_eq_true rfl) (Nat.le_of_ble_eq_true rfl) ?_
                          rw [hQ9]
                          exact dg_iret hx hb hr hlocks (by decide +kernel) hP hS ⟨I_1395, M_1395, (by decide +kernel), ⟨y_1396, y_1397, y_1398, y_3, y_1373, x_1377, y_1374, oo, f_y_1396, f_y_1397, f_y_1398, (((m_1395.1 0 8 _ sM_0 (by decide)).trans ((dg_uf_F e_1392 0 8).trans ((dg_uF_ne e_1380 (fun z => absurd z.2 (by decide))).trans ((dg_uF_ne e_1378 (fun z => absurd z.2 (by decide))).trans (m_1371.1 0 8 _ sM_0 (by decide)))))).trans f_y_3), (((m_1395.1 0 34 _ sM_0 (by decide)).trans ((dg_uf_F e_1392 0 34).trans ((dg_uF_ne e_1380 (fun z => absurd z.2 (by decide))).trans (dg_uF_ne e_1378 (fun z => absurd z.2 (by decide)))))).trans f_y_1373), (((m_1395.1 0 42 _ sM_0 (by decide)).trans ((dg_uf_F e_1392 0 42).trans (dg_uF_ne e_1380 (fun z => absurd z.2 (by decide))))).trans (dg_uF_at e_1378)), (((m_1395.1 0 45 _ sM_0 (by decide)).trans ((dg_uf_F e_1392 0 45).trans ((dg_uF_ne e_1380 (fun z => absurd z.2 (by decide))).trans (dg_uF_ne e_1378 (fun z => absurd z.2 (by decide)))))).trans f_y_1374), (((m_1395.1 0 46 _ sM_0 (by decide)).trans ((dg_uf_F e_1392 0 46).trans ((dg_uF_ne e_1380 (fun z => absurd z.2 (by decide))).trans ((dg_uF_ne e_1378 (fun z => absurd z.2 (by decide))).trans ((m_1371.1 0 46 _ sM_0 (by decide)).trans (m_2.1 0 46 _ sM_0 (by decide))))))).trans f_oo), (by omega)⟩, (fun k9 hk9 hk0 => POM.mk1 (P1M.keep P1_1392 m_1395 (by decide) (by decide) (by decide) (by decide) (by decide) (by decide) (by decide) (by decide) (by decide) (by decide) (by decide) (by decide) (by decide) (by decide) (by decide)) (((m_1395.1 0 46 _ sM_0 (by decide)).trans ((dg_uf_F e_1392 0 46).trans ((dg_uF_ne e_1380 (fun z => absurd z.2 (by decide))).trans ((dg_uF_ne e_1378 (fun z => absurd z.2 (by decide))).trans ((m_1371.1 0 46 _ sM_0 (by decide)).trans (m_2.1 0 46 _ sM_0 (by decide))))))).trans f_oo) (by omega)), (ZWM.keep (ZWM.keep (ZWM.keep (ZWM.keep w_1371_2 (dg_sm.uF (WF := [(0, 42)]) (WA := []) dg_sm.rf e_1378 sM_0 (by decide)) (by decide) (by decide) (by decide) (by decide)) (dg_sm.uF (WF := [(0, 43)]) (WA := []) dg_sm.rf e_1380 sM_0 (by decide)) (by decide) (by decide) (by decide) (by decide)) (dg_sm.uf (WF := []) (WA := [23]) dg_sm.rf e_1392 sM_23 (by decide)) (by decide) (by decide) (by decide) (by decide)) m_1395 (by decide) (by decide) (by decide) (by decide)), trivial⟩ dX12_goesOn_618
                      · have jc_1381 := dk_eqc (k := 4) (by decide +kernel) c_1381
                        refine lv_aload_n hx hb dX12_goesOn_585 rfl (lv_at hl 3 rfl) ?_
                        refine lv_aload_n hx hb dX12_goesOn_586 rfl (lv_at hl 3 rfl) ?_
                        refine dg_get (C := RX12) (T := TX12) (N := 77) hx hb hts (fun w h => bw_mem (wU_X12 w h)) hown K hP sM_0 rfl 40 (by decide) (hts _ (bw_mem wB_1232)) (fun _ h9 => h9) (v := .ref (o + 25)) (show S_1380.1 0 40 = .ref (o + 25) from dg_I.rel (d := 25) I_1380 sM_0 (by decide +kernel)) dX12_goesOn_587 ?_
                        refine lv_iload_n hx hb dX12_goesOn_590 rfl (lv_at hl 2 rfl) ?_
                        have hin_1402 : vp_in x_5 20 := (dk_inv (by omega) (by omega))
                        refine dg_iald hx hb K hP sM_25 hin_1402 dX12_goesOn_591 (fun x_1403 ex_1403 => ?_)
                        have hp25_x_1403 : S_1371.2.1 25 (x_5 : Int32).toNatClampNeg = x_1403 := by rw [ex_1403, (((dg_uF_f e_1380 25).trans (dg_uF_f e_1378 25)))]
                        rw [hp25_x_1403] at hkd
                        refine lv_iconst (v := 0) hx hb dX12_goesOn_592 (by decide +kernel) ?_
                        refine dg_callv hS hA1 hA (va_runV (As := [.int x_1403, .int 0]) (rest := []) F (c_m_add l g D o S_1380 x_1403 (by omega) 0 y_1373 (((dg_uF_ne e_1380 (fun z => absurd z.2 (by decide))).trans (dg_uF_ne e_1378 (fun z => absurd z.2 (by decide)))).trans f_y_1373) (by omega) (ZWM.keep (ZWM.keep w_1371_2 (dg_sm.uF (WF := [(0, 42)]) (WA := []) dg_sm.rf e_1378 sM_0 (by decide)) (by decide) (by decide) (by decide) (by decide)) (dg_sm.uF (WF := [(0, 43)]) (WA := []) dg_sm.rf e_1380 sM_0 (by decide)) (by decide) (by decide) (by decide) (by decide)) (ZKM.keep (ZKM.keep (ZKM.keep (ZKM.keep ZK m_2 (by decide) (by decide)) m_1371 (by decide) (by decide)) (dg_sm.uF (WF := [(0, 42)]) (WA := []) dg_sm.rf e_1378 sM_0 (by decide)) (by decide) (by decide)) (dg_sm.uF (WF := [(0, 43)]) (WA := []) dg_sm.rf e_1380 sM_0 (by decide)) (by decide) (by decide)) I_1380 H.size) (cwV 2 hts (bw_V wB_1209 wB_1210 wB_1211 wB_881 wB_1208) rfl rfl rfl (by decide +kernel) ⟨Nat.le_of_ble_eq_true rfl, Nat.le_of_ble_eq_true rfl⟩) (dg_preV sM_0 rfl K ST hP hS hA1 hA) rfl rfl hl.1 rfl (lv_room (Nat.le_of_ble_eq_true rfl)) dX12_goesOn_593 ⟨Nat.le_of_ble_eq_true rfl, Nat.le_of_ble_eq_true rfl⟩) (fun S_1404 hw_1404 H locs hP hS => ?_)
                        obtain ⟨I_1404, m_1404, w_1404_0, w_1404_1, w_1404_2, -⟩ := hw_1404
                        have M_1404 := dg_sm.tr M_1380 m_1404 (by decide) (by decide)
                        have hz_1405 : (0 : Int32).toInt = 0 := by decide +kernel
                        obtain ⟨y_1406, f_y_1406, w_1404_0⟩ := w_1404_0
                        have w_1404_0 : (y_1406).toInt = (y_1373).toInt + 1 := w_1404_0
                        have b_y_1406 : 0 ≤ (y_1406).toInt ∧ (y_1406).toInt ≤ 1600 := dg_I.intb (lo := 0) (hi := 1600) I_1404 sM_0 (by decide +kernel) f_y_1406
                        have w_1404_1 : ADM S_1380 S_1404 x_1403 := w_1404_1
                        have P1_1404 : P1M S_1404 := P1M.close4 w_1371_3 (((m_1371.1 0 42 _ sM_0 (by decide)).trans (m_2.1 0 42 _ sM_0 (by decide))).trans f_dp) f_x_1375 f_y_1374 w_1371_1 (by omega) (fx := x_5) (by omega) ((congrFun (m_1371.2 22 _ sM_22 (by decide)).1 _).trans ex_7.symm) (by omega) e_1378 (by omega) e_1380 (by omega) hp25_x_1403 m_1404 w_1404_1
                        refine lv_iload_n hx hb dX12_goesOn_596 rfl (lv_at hl 1 rfl) ?_
                        refine lv_iconst (v := 5) hx hb dX12_goesOn_597 (by decide +kernel) ?_
                        refine lv_icmp_ne (tgt := 613) hx hb dX12_goesOn_598 (by decide) (fun _ => ?_) (fun c => absurd c (fun z => absurd (dk_eqc (k := 5) (by decide +kernel) z) (by omega)))
                        refine lv_aload_n hx hb dX12_goesOn_613 rfl (lv_at hl 3 rfl) ?_
                        refine dg_callv hS hA1 hA (va_runV (As := []) (rest := []) F (c_m_ahead l g D o S_1404 se (((m_1404.1 0 5 _ sM_0 (by decide)).trans ((dg_uF_ne e_1380 (fun z => absurd z.2 (by decide))).trans ((dg_uF_ne e_1378 (fun z => absurd z.2 (by decide))).trans ((m_1371.1 0 5 _ sM_0 (by decide)).trans (m_2.1 0 5 _ sM_0 (by decide)))))).trans f_se) (by omega) sl (((m_1404.1 0 2 _ sM_0 (by decide)).trans ((dg_uF_ne e_1380 (fun z => absurd z.2 (by decide))).trans ((dg_uF_ne e_1378 (fun z => absurd z.2 (by decide))).trans ((m_1371.1 0 2 _ sM_0 (by decide)).trans (m_2.1 0 2 _ sM_0 (by decide)))))).trans f_sl) (by omega) (by omega) I_1404 H.size) (cwV 0 hts (bw_V wB_1161 wB_1162 wB_1163 wB_881 wB_1160) rfl rfl rfl (by decide +kernel) ⟨Nat.le_of_ble_eq_true rfl, Nat.le_of_ble_eq_true rfl⟩) (dg_preV sM_0 rfl K ST hP hS hA1 hA) rfl rfl hl.1 rfl (lv_room (Nat.le_of_ble_eq_true rfl)) dX12_goesOn_614 ⟨Nat.le_of_ble_eq_true rfl, Nat.le_of_ble_eq_true rfl⟩) (fun S_1407 hw_1407 H locs hP hS => ?_)
                        obtain ⟨I_1407, m_1407, w_1407_0, -⟩ := hw_1407
                        have M_1407 := dg_sm.tr M_1404 m_1407 (by decide) (by decide)
                        obtain ⟨y_1408, y_1409, y_1410, f_y_1408, f_y_1409, f_y_1410, w_1407_0⟩ := w_1407_0
                        have w_1407_0 : (se).toInt ≤ (y_1409).toInt ∧ (y_1409).toInt ≤ (y_1410).toInt ∧ (y_1410).toInt ≤ (sl).toInt ∧ ((y_1408).toInt ≠ 0 → (y_1409).toInt + 1 ≤ (y_1410).toInt) := w_1407_0
                        obtain ⟨w_1407_0_0, w_1407_0_1, w_1407_0_2, w_1407_0_3⟩ := w_1407_0
                        have b_y_1408 : 0 ≤ (y_1408).toInt ∧ (y_1408).toInt ≤ 3 := dg_I.intb (lo := 0) (hi := 3) I_1407 sM_0 (by decide +kernel) f_y_1408
                        have b_y_1409 : 0 ≤ (y_1409).toInt ∧ (y_1409).toInt ≤ 1600 := dg_I.intb (lo := 0) (hi := 1600) I_1407 sM_0 (by decide +kernel) f_y_1409
                        have b_y_1410 : 0 ≤ (y_1410).toInt ∧ (y_1410).toInt ≤ 1600 := dg_I.intb (lo := 0) (hi := 1600) I_1407 sM_0 (by decide +kernel) f_y_1410
                        refine lv_iconst (v := 1) hx hb dX12_goesOn_617 (by decide +kernel) ?_
                        have hz_1411 : (1 : Int32).toInt = 1 := by decide +kernel
                        have hz_1412 : (1 : Int32).toInt = 1 := by decide +kernel
                        have hz_1413 : (1 : Int32).toInt = 1 := by decide +kernel
                        refine W.widen (k := 0) (n := 0) (Nat.le_of_ble_eq_true rfl) (Nat.le_of_ble_eq_true rfl) ?_
                        rw [hQ9]
                        exact dg_iret hx hb hr hlocks (by decide +kernel) hP hS ⟨I_1407, M_1407, (by decide +kernel), ⟨y_1408, y_1409, y_1410, y_3, y_1406, x_1377, y_1374, oo, f_y_1408, f_y_1409, f_y_1410, (((m_1407.1 0 8 _ sM_0 (by decide)).trans ((m_1404.1 0 8 _ sM_0 (by decide)).trans ((dg_uF_ne e_1380 (fun z => absurd z.2 (by decide))).trans ((dg_uF_ne e_1378 (fun z => absurd z.2 (by decide))).trans (m_1371.1 0 8 _ sM_0 (by decide)))))).trans f_y_3), ((m_1407.1 0 34 _ sM_0 (by decide)).trans f_y_1406), (((m_1407.1 0 42 _ sM_0 (by decide)).trans ((m_1404.1 0 42 _ sM_0 (by decide)).trans (dg_uF_ne e_1380 (fun z => absurd z.2 (by decide))))).trans (dg_uF_at e_1378)), (((m_1407.1 0 45 _ sM_0 (by decide)).trans ((m_1404.1 0 45 _ sM_0 (by decide)).trans ((dg_uF_ne e_1380 (fun z => absurd z.2 (by decide))).trans (dg_uF_ne e_1378 (fun z => absurd z.2 (by decide)))))).trans f_y_1374), (((m_1407.1 0 46 _ sM_0 (by decide)).trans ((m_1404.1 0 46 _ sM_0 (by decide)).trans ((dg_uF_ne e_1380 (fun z => absurd z.2 (by decide))).trans ((dg_uF_ne e_1378 (fun z => absurd z.2 (by decide))).trans ((m_1371.1 0 46 _ sM_0 (by decide)).trans (m_2.1 0 46 _ sM_0 (by decide))))))).trans f_oo), (by omega)⟩, (fun k9 hk9 hk0 => POM.mk1 (P1M.keep P1_1404 m_1407 (by decide) (by decide) (by decide) (by decide) (by decide) (by decide) (by decide) (by decide) (by decide) (by decide) (by decide) (by decide) (by decide) (by decide) (by decide)) (((m_1407.1 0 46 _ sM_0 (by decide)).trans ((m_1404.1 0 46 _ sM_0 (by decide)).trans ((dg_uF_ne e_1380 (fun z => absurd z.2 (by decide))).trans ((dg_uF_ne e_1378 (fun z => absurd z.2 (by decide))).trans ((m_1371.1 0 46 _ sM_0 (by decide)).trans (m_2.1 0 46 _ sM_0 (by decide))))))).trans f_oo) (by omega)), (ZWM.keep w_1404_2 m_1407 (by decide) (by decide) (by decide) (by decide)), trivial⟩ dX12_goesOn_618
                    · have jc_1369 := dk_eqc (k := 0) (by decide +kernel) c_1369
                      clear w_1368_1
                      refine lv_aload_n hx hb dX12_goesOn_537 rfl (lv_at hl 3 rfl) ?_
                      refine lv_iconst (v := 1) hx hb dX12_goesOn_538 (by decide +kernel) ?_
                      refine lv_aload_n hx hb dX12_goesOn_539 rfl (lv_at hl 3 rfl) ?_
                      refine dg_get (C := RX12) (T := TX12) (N := 77) hx hb hts (fun w h => bw_mem (wU_X12 w h)) hown K hP sM_0 rfl 4 (by decide) (hts _ (bw_mem wB_1145)) (fun _ h9 => h9) (v := .int sa) ((m_2.1 0 4 _ sM_0 (by decide)).trans f_sa) dX12_goesOn_540 ?_
                      have hz_1414 : (1 : Int32).toInt = 1 := by decide +kernel
                      refine dg_callv hS hA1 hA (va_runV (As := [.int 1, .int sa]) (rest := []) F (c_m_blame l g D o S_2 1 (by decide +kernel) sa y_3 f_y_3 (by omega) I_2 H.size) (cwV 2 hts (bw_V wB_1137 wB_1138 wB_1139 wB_881 wB_1136) rfl rfl rfl (by decide +kernel) ⟨Nat.le_of_ble_eq_true rfl, Nat.le_of_ble_eq_true rfl⟩) (dg_preV sM_0 rfl K ST hP hS hA1 hA) rfl rfl hl.1 rfl (lv_room (Nat.le_of_ble_eq_true rfl)) dX12_goesOn_543 ⟨Nat.le_of_ble_eq_true rfl, Nat.le_of_ble_eq_true rfl⟩) (fun S_1415 hw_1415 H locs hP hS => ?_)
                      obtain ⟨I_1415, m_1415, w_1415_0, -⟩ := hw_1415
                      have M_1415 := dg_sm.tr M_2 m_1415 (by decide) (by decide)
                      have hz_1416 : (1 : Int32).toInt = 1 := by decide +kernel
                      obtain ⟨y_1417, f_y_1417, w_1415_0⟩ := w_1415_0
                      have w_1415_0 : ((y_3).toInt ≠ 0 → (y_1417).toInt = (y_3).toInt) ∧ ((y_3).toInt = 0 → (y_1417).toInt = ((1 : Int32)).toInt) := w_1415_0
                      obtain ⟨w_1415_0_0, w_1415_0_1⟩ := w_1415_0
                      clear w_1415_0_0
                      have w_1415_0_1r := w_1415_0_1 (by omega)
                      clear w_1415_0_1
                      have b_y_1417 : 0 ≤ (y_1417).toInt ∧ (y_1417).toInt ≤ 6 := dg_I.intb (lo := 0) (hi := 6) I_1415 sM_0 (by decide +kernel) f_y_1417
                      have hbl_y_1417 : 1 ≤ (y_1417).toInt := by omega
                      refine lv_aload_n hx hb dX12_goesOn_546 rfl (lv_at hl 3 rfl) ?_
                      refine dg_get (C := RX12) (T := TX12) (N := 77) hx hb hts (fun w h => bw_mem (wU_X12 w h)) hown K hP sM_0 rfl 8 (by decide) (hts _ (bw_mem wB_1133)) (fun _ h9 => h9) (v := .int y_1417) f_y_1417 dX12_goesOn_547 ?_
                      refine lv_if_le (tgt := 555) hx hb dX12_goesOn_550 (by decide) (fun c => absurd c (fun z => absurd (dk_lec (k := 0) (by decide +kernel) z) (by omega))) (fun _ => ?_)
                      refine lv_iconst (v := 0) hx hb dX12_goesOn_553 (by decide +kernel) ?_
                      have hz_1418 : (0 : Int32).toInt = 0 := by decide +kernel
                      have hz_1419 : (0 : Int32).toInt = 0 := by decide +kernel
                      have hz_1420 : (0 : Int32).toInt = 0 := by decide +kernel
                      refine W.widen (k := 0) (n := 0) (Nat.le_of_ble_eq_true rfl) (Nat.le_of_ble_eq_true rfl) ?_
                      rw [hQ9]
                      exact dg_iret hx hb hr hlocks (by decide +kernel) hP hS ⟨I_1415, M_1415, (by decide +kernel), ⟨sg, sa, se, y_1417, cd, dp, om, oo, (((m_1415.1 0 3 _ sM_0 (by decide)).trans (m_2.1 0 3 _ sM_0 (by decide))).trans f_sg), (((m_1415.1 0 4 _ sM_0 (by decide)).trans (m_2.1 0 4 _ sM_0 (by decide))).trans f_sa), (((m_1415.1 0 5 _ sM_0 (by decide)).trans (m_2.1 0 5 _ sM_0 (by decide))).trans f_se), f_y_1417, (((m_1415.1 0 34 _ sM_0 (by decide)).trans (m_2.1 0 34 _ sM_0 (by decide))).trans f_cd), (((m_1415.1 0 42 _ sM_0 (by decide)).trans (m_2.1 0 42 _ sM_0 (by decide))).trans f_dp), (((m_1415.1 0 45 _ sM_0 (by decide)).trans (m_2.1 0 45 _ sM_0 (by decide))).trans f_om), (((m_1415.1 0 46 _ sM_0 (by decide)).trans (m_2.1 0 46 _ sM_0 (by decide))).trans f_oo), (by omega)⟩, (fun k9 hk9 hk0 => by have q9 := (f_y_1417).symm.trans hk9; cases q9; omega), (ZWM.keep (ZWM.keep ZW m_2 (by decide) (by decide) (by decide) (by decide)) m_1415 (by decide) (by decide) (by decide) (by decide)), trivial⟩ dX12_goesOn_554
                  refine lv_icmp_ne (tgt := 529) hx hb dX12_goesOn_521 (by decide) (fun c_1421 => ?_) (fun c_1421 => ?_)
                  · have jc_1421 := dk_neqc (k := 5) (by decide +kernel) c_1421
                    have jtc_1421 : (x_7).toInt ≤ 4 := by omega
                    clear jc_1421
                    refine lv_bipush (v := 41) hx hb dX12_goesOn_529 (by decide +kernel) ?_
                    have hz_1422 : (41 : Int32).toInt = 41 := by decide +kernel
                    have hz_1423 : (41 : Int32).toInt = 41 := by decide +kernel
                    exact J_1366 41 (by decide +kernel) (by omega) _ _ hP hS _ (lv_sub hl [0, 1, 2, 3] rfl)
                  · have jc_1421 := dk_eqc (k := 5) (by decide +kernel) c_1421
                    refine lv_bipush (v := 93) hx hb dX12_goesOn_524 (by decide +kernel) ?_
                    refine lv_goto (tgt := 531) hx hb dX12_goesOn_526 (by decide) ?_
                    have hz_1424 : (93 : Int32).toInt = 93 := by decide +kernel
                    have hz_1425 : (93 : Int32).toInt = 93 := by decide +kernel
                    exact J_1366 93 (by decide +kernel) (by omega) _ _ hP hS _ (lv_sub hl [0, 1, 2, 3] rfl)
                · have jc_1309 := dk_eqc (k := 6) (by decide +kernel) c_1309
                  exact J_1250 ()  (by omega) _ _ hP hS _ (lv_sub hl [0, 1, 2, 3] rfl)
            · have jc_1134 := dk_ngec (k := 2) (by decide +kernel) c_1134
              refine lv_aload_n hx hb dX12_goesOn_427 rfl (lv_at hl 3 rfl) ?_
              refine dg_get (C := RX12) (T := TX12) (N := 77) hx hb hts (fun w h => bw_mem (wU_X12 w h)) hown K hP sM_0 rfl 8 (by decide) (hts _ (bw_mem wB_1133)) (fun _ h9 => h9) (v := .int y_3) f_y_3 dX12_goesOn_428 ?_
              refine lv_if_ne (tgt := 439) hx hb dX12_goesOn_431 (by decide) (fun c => absurd (dk_eqp (k := 0) (by decide +kernel) (by omega)) c) (fun _ => ?_)
              refine lv_aload_n hx hb dX12_goesOn_434 rfl (lv_at hl 3 rfl) ?_
              refine lv_iconst (v := 1) hx hb dX12_goesOn_435 (by decide +kernel) ?_
              have hz_1426 : (1 : Int32).toInt = 1 := by decide +kernel
              refine dg_callv hS hA1 hA (va_runV (As := [.int 1]) (rest := []) F (c_m_joins l g D o S_2 1 (by decide +kernel) cd ((m_2.1 0 34 _ sM_0 (by decide)).trans f_cd) (by omega) om ((m_2.1 0 45 _ sM_0 (by decide)).trans f_om) (by omega) (by omega) (ZWM.keep ZW m_2 (by decide) (by decide) (by decide) (by decide)) (ZKM.keep ZK m_2 (by decide) (by decide)) (P1M.keep P1 m_2 (by decide) (by decide) (by decide) (by decide) (by decide) (by decide) (by decide) (by decide) (by decide) (by decide) (by decide) (by decide) (by decide) (by decide) (by decide)) I_2 H.size) (cwV 1 hts (bw_V wB_1234 wB_1235 wB_1236 wB_881 wB_1233) rfl rfl rfl (by decide +kernel) ⟨Nat.le_of_ble_eq_true rfl, Nat.le_of_ble_eq_true rfl⟩) (dg_preV sM_0 rfl K ST hP hS hA1 hA) rfl rfl hl.1 rfl (lv_room (Nat.le_of_ble_eq_true rfl)) dX12_goesOn_436 ⟨Nat.le_of_ble_eq_true rfl, Nat.le_of_ble_eq_true rfl⟩) (fun S_1427 hw_1427 H locs hP hS => ?_)
              obtain ⟨I_1427, m_1427, w_1427_0, w_1427_1, w_1427_2, w_1427_3, -⟩ := hw_1427
              have M_1427 := dg_sm.tr M_2 m_1427 (by decide) (by decide)
              have hz_1428 : (1 : Int32).toInt = 1 := by decide +kernel
              obtain ⟨y_1429, y_1430, f_y_1429, f_y_1430, w_1427_0⟩ := w_1427_0
              have w_1427_0 : (y_1429).toInt + (y_1430).toInt = (cd).toInt + (om).toInt := w_1427_0
              have b_y_1429 : 0 ≤ (y_1429).toInt ∧ (y_1429).toInt ≤ 1600 := dg_I.intb (lo := 0) (hi := 1600) I_1427 sM_0 (by decide +kernel) f_y_1429
              have b_y_1430 : 0 ≤ (y_1430).toInt ∧ (y_1430).toInt ≤ 500 := dg_I.intb (lo := 0) (hi := 500) I_1427 sM_0 (by decide +kernel) f_y_1430
              have w_1427_1 : TOPM S_1427 (1 : Int32) := w_1427_1
              obtain ⟨x_1431, f_x_1431, b_x_1431⟩ := dg_I.int (i := 0) (k := 43) (lo := (-2147483648)) (hi := 2147483647) I_1427 sM_0 (by decide +kernel)
              refine lv_iconst (v := 0) hx hb dX12_goesOn_439 (by decide +kernel) ?_
              have hz_1432 : (0 : Int32).toInt = 0 := by decide +kernel
              have hz_1433 : (0 : Int32).toInt = 0 := by decide +kernel
              have hz_1434 : (0 : Int32).toInt = 0 := by decide +kernel
              refine W.widen (k := 0) (n := 0) (Nat.le_of_ble_eq_true rfl) (Nat.le_of_ble_eq_true rfl) ?_
              rw [hQ9]
              exact dg_iret hx hb hr hlocks (by decide +kernel) hP hS ⟨I_1427, M_1427, (by decide +kernel), ⟨sg, sa, se, y_3, y_1429, dp, y_1430, oo, (((m_1427.1 0 3 _ sM_0 (by decide)).trans (m_2.1 0 3 _ sM_0 (by decide))).trans f_sg), (((m_1427.1 0 4 _ sM_0 (by decide)).trans (m_2.1 0 4 _ sM_0 (by decide))).trans f_sa), (((m_1427.1 0 5 _ sM_0 (by decide)).trans (m_2.1 0 5 _ sM_0 (by decide))).trans f_se), ((m_1427.1 0 8 _ sM_0 (by decide)).trans f_y_3), f_y_1429, (((m_1427.1 0 42 _ sM_0 (by decide)).trans (m_2.1 0 42 _ sM_0 (by decide))).trans f_dp), f_y_1430, (((m_1427.1 0 46 _ sM_0 (by decide)).trans (m_2.1 0 46 _ sM_0 (by decide))).trans f_oo), (by omega)⟩, (fun k9 hk9 hk0 => POM.mk1 w_1427_3 (((m_1427.1 0 46 _ sM_0 (by decide)).trans (m_2.1 0 46 _ sM_0 (by decide))).trans f_oo) (by omega)), w_1427_2, trivial⟩ dX12_goesOn_440
          refine lv_if_eq (tgt := 422) hx hb dX12_goesOn_401 (by decide) (fun c_1435 => ?_) (fun c_1435 => ?_)
          · have jc_1435 := dk_eqc (k := 0) (by decide +kernel) c_1435
            clear w_9_1
            exact J_1133   _ _ hP hS _ (lv_sub hl [0, 1, 2, 3] rfl)
          · have jc_1435 := dk_neqc (k := 0) (by decide +kernel) c_1435
            have jbc_1435 : 1 ≤ (x_8).toInt := by omega
            clear jc_1435
            have w_9_1_r := w_9_1.mp (by omega)
            clear w_9_1
            refine lv_aload_n hx hb dX12_goesOn_404 rfl (lv_at hl 3 rfl) ?_
            refine dg_get (C := RX12) (T := TX12) (N := 77) hx hb hts (fun w h => bw_mem (wU_X12 w h)) hown K hP sM_0 rfl 38 (by decide) (hts _ (bw_mem wB_1214)) (fun _ h9 => h9) (v := .ref (o + 23)) (show S_2.1 0 38 = .ref (o + 23) from dg_I.rel (d := 23) I_2 sM_0 (by decide +kernel)) dX12_goesOn_405 ?_
            refine lv_iload_n hx hb dX12_goesOn_408 rfl (lv_at hl 2 rfl) ?_
            have hin_1436 : vp_in x_5 20 := (dk_inv (by omega) (by omega))
            refine dg_iald hx hb K hP sM_23 hin_1436 dX12_goesOn_409 (fun y_1437 ey_1437 => ?_)
            obtain rfl : x_11 = y_1437 := (ey_1437.trans ex_11.symm).symm
            refine lv_if_ne (tgt := 422) hx hb dX12_goesOn_410 (by decide) (fun c_1438 => ?_) (fun c_1438 => ?_)
            · have jc_1438 := dk_neqc (k := 0) (by decide +kernel) c_1438
              have jbc_1438 : 1 ≤ (x_11).toInt := by omega
              clear jc_1438
              exact J_1133   _ _ hP hS _ (lv_sub hl [0, 1, 2, 3] rfl)
            · have jc_1438 := dk_eqc (k := 0) (by decide +kernel) c_1438
              refine lv_aload_n hx hb dX12_goesOn_413 rfl (lv_at hl 3 rfl) ?_
              refine lv_iconst (v := 1) hx hb dX12_goesOn_414 (by decide +kernel) ?_
              refine lv_aload_n hx hb dX12_goesOn_415 rfl (lv_at hl 3 rfl) ?_
              refine dg_get (C := RX12) (T := TX12) (N := 77) hx hb hts (fun w h => bw_mem (wU_X12 w h)) hown K hP sM_0 rfl 4 (by decide) (hts _ (bw_mem wB_1145)) (fun _ h9 => h9) (v := .int sa) ((m_2.1 0 4 _ sM_0 (by decide)).trans f_sa) dX12_goesOn_416 ?_
              have hz_1439 : (1 : Int32).toInt = 1 := by decide +kernel
              refine dg_callv hS hA1 hA (va_runV (As := [.int 1, .int sa]) (rest := []) F (c_m_blame l g D o S_2 1 (by decide +kernel) sa y_3 f_y_3 (by omega) I_2 H.size) (cwV 2 hts (bw_V wB_1137 wB_1138 wB_1139 wB_881 wB_1136) rfl rfl rfl (by decide +kernel) ⟨Nat.le_of_ble_eq_true rfl, Nat.le_of_ble_eq_true rfl⟩) (dg_preV sM_0 rfl K ST hP hS hA1 hA) rfl rfl hl.1 rfl (lv_room (Nat.le_of_ble_eq_true rfl)) dX12_goesOn_419 ⟨Nat.le_of_ble_eq_true rfl, Nat.le_of_ble_eq_true rfl⟩) (fun S_1440 hw_1440 H locs hP hS => ?_)
              obtain ⟨I_1440, m_1440, w_1440_0, -⟩ := hw_1440
              have M_1440 := dg_sm.tr M_2 m_1440 (by decide) (by decide)
              have hz_1441 : (1 : Int32).toInt = 1 := by decide +kernel
              obtain ⟨y_1442, f_y_1442, w_1440_0⟩ := w_1440_0
              have w_1440_0 : ((y_3).toInt ≠ 0 → (y_1442).toInt = (y_3).toInt) ∧ ((y_3).toInt = 0 → (y_1442).toInt = ((1 : Int32)).toInt) := w_1440_0
              obtain ⟨w_1440_0_0, w_1440_0_1⟩ := w_1440_0
              clear w_1440_0_0
              have w_1440_0_1r := w_1440_0_1 (by omega)
              clear w_1440_0_1
              have b_y_1442 : 0 ≤ (y_1442).toInt ∧ (y_1442).toInt ≤ 6 := dg_I.intb (lo := 0) (hi := 6) I_1440 sM_0 (by decide +kernel) f_y_1442
              have hbl_y_1442 : 1 ≤ (y_1442).toInt := by omega
              refine lv_iload_n hx hb dX12_goesOn_422 rfl (lv_at hl 1 rfl) ?_
              refine lv_iconst (v := 2) hx hb dX12_goesOn_423 (by decide +kernel) ?_
              refine lv_icmp_ge (tgt := 441) hx hb dX12_goesOn_424 (by decide) (fun c_1443 => ?_) (fun c_1443 => ?_)
              · have jc_1443 := dk_gec (k := 2) (by decide +kernel) c_1443
                refine lv_iload_n hx hb dX12_goesOn_441 rfl (lv_at hl 1 rfl) ?_
                refine lv_iconst (v := 3) hx hb dX12_goesOn_442 (by decide +kernel) ?_
                have J_1475 : ∀ (u9 : Unit), ((x_7 : Int32).toInt = 3 ∨ (x_7 : Int32).toInt = 6) → ∀ (H : Heap) (locs : List Loc), va_P D vwCl (dg_w g shM o rfM S_1440) H → va_S A s.heap H locs → ∀ ls : Array Slot, lv_has ls 5 [(3, .int x_8), (2, .int x_7), (1, .int x_5), (0, .ref (o + 0))] → W p l e ({ frames := 3, cells := 0, slots := 0, locals := 77 } : Room) s m args below meth c H locs 0 0 Q9 (F0 m 452 ls []) := by
                  intro u9 rel_0 H locs hP hS ls hl
                  refine lv_aload_n hx hb dX12_goesOn_452 rfl (lv_at hl 3 rfl) ?_
                  refine lv_bipush (v := 44) hx hb dX12_goesOn_453 (by decide +kernel) ?_
                  refine dg_calli hS hA1 hA (va_runV (As := [.int 44]) (rest := []) F (c_m_isSign l g D o S_1440 44 sg (((m_1440.1 0 3 _ sM_0 (by decide)).trans (m_2.1 0 3 _ sM_0 (by decide))).trans f_sg) (by omega) va (((m_1440.1 0 6 _ sM_0 (by decide)).trans (m_2.1 0 6 _ sM_0 (by decide))).trans f_va) (by omega) I_1440 H.size) (cwV 1 hts (bw_V wB_1157 wB_1158 wB_1159 wB_881 wB_1156) rfl rfl rfl (by decide +kernel) ⟨Nat.le_of_ble_eq_true rfl, Nat.le_of_ble_eq_true rfl⟩) (dg_preV sM_0 rfl K ST hP hS hA1 hA) rfl rfl hl.1 rfl (lv_room (Nat.le_of_ble_eq_true rfl)) dX12_goesOn_455 ⟨Nat.le_of_ble_eq_true rfl, Nat.le_of_ble_eq_true rfl⟩) (fun x_1476 S_1477 hw_1477 H locs hP hS => ?_)
                  rw [hw_1477.1] at hP
                  obtain ⟨hq_1477, w_1477_0, w_1477_1, -⟩ := hw_1477
                  have hz_1478 : (44 : Int32).toInt = 44 := by decide +kernel
                  have w_1477_0 : 0 ≤ (x_1476).toInt ∧ (x_1476).toInt ≤ 1 := w_1477_0
                  have w_1477_1 : (x_1476).toInt = 1 ↔ ((sg).toInt = 3 ∧ (va).toInt = ((44 : Int32)).toInt) := w_1477_1
                  refine lv_if_ne (tgt := 470) hx hb dX12_goesOn_458 (by decide) (fun c_1479 => ?_) (fun c_1479 => ?_)
                  · have jc_1479 := dk_neqc (k := 0) (by decide +kernel) c_1479
                    have jbc_1479 : 1 ≤ (x_1476).toInt := by omega
                    clear jc_1479
                    have w_1477_1_r := w_1477_1.mp (by omega)
                    obtain ⟨w_1477_1_r1, w_1477_1_r2⟩ := w_1477_1_r
                    clear w_1477_1
                    have hlx_2r := hlx_2 (by omega)
                    clear hlx_2
                    refine lv_aload_n hx hb dX12_goesOn_470 rfl (lv_at hl 3 rfl) ?_
                    refine dg_get (C := RX12) (T := TX12) (N := 77) hx hb hts (fun w h => bw_mem (wU_X12 w h)) hown K hP sM_0 rfl 8 (by decide) (hts _ (bw_mem wB_1133)) (fun _ h9 => h9) (v := .int y_1442) f_y_1442 dX12_goesOn_471 ?_
                    refine lv_if_le (tgt := 479) hx hb dX12_goesOn_474 (by decide) (fun c => absurd c (fun z => absurd (dk_lec (k := 0) (by decide +kernel) z) (by omega))) (fun _ => ?_)
                    refine lv_iconst (v := 0) hx hb dX12_goesOn_477 (by decide +kernel) ?_
                    have hz_1480 : (0 : Int32).toInt = 0 := by decide +kernel
                    have hz_1481 : (0 : Int32).toInt = 0 := by decide +kernel
                    have hz_1482 : (0 : Int32).toInt = 0 := by decide +kernel
                    refine W.widen (k := 0) (n := 0) (Nat.le_of_ble_eq_true rfl) (Nat.le_of_ble_eq_true rfl) ?_
                    rw [hQ9]
                    exact dg_iret hx hb hr hlocks (by decide +kernel) hP hS ⟨I_1440, M_1440, (by decide +kernel), ⟨sg, sa, se, y_1442, cd, dp, om, oo, (((m_1440.1 0 3 _ sM_0 (by decide)).trans (m_2.1 0 3 _ sM_0 (by decide))).trans f_sg), (((m_1440.1 0 4 _ sM_0 (by decide)).trans (m_2.1 0 4 _ sM_0 (by decide))).trans f_sa), (((m_1440.1 0 5 _ sM_0 (by decide)).trans (m_2.1 0 5 _ sM_0 (by decide))).trans f_se), f_y_1442, (((m_1440.1 0 34 _ sM_0 (by decide)).trans (m_2.1 0 34 _ sM_0 (by decide))).trans f_cd), (((m_1440.1 0 42 _ sM_0 (by decide)).trans (m_2.1 0 42 _ sM_0 (by decide))).trans f_dp), (((m_1440.1 0 45 _ sM_0 (by decide)).trans (m_2.1 0 45 _ sM_0 (by decide))).trans f_om), (((m_1440.1 0 46 _ sM_0 (by decide)).trans (m_2.1 0 46 _ sM_0 (by decide))).trans f_oo), (by omega)⟩, (fun k9 hk9 hk0 => by have q9 := (f_y_1442).symm.trans hk9; cases q9; omega), (ZWM.keep (ZWM.keep ZW m_2 (by decide) (by decide) (by decide) (by decide)) m_1440 (by decide) (by decide) (by decide) (by decide)), trivial⟩ dX12_goesOn_478
                  · have jc_1479 := dk_eqc (k := 0) (by decide +kernel) c_1479
                    clear w_1477_1
                    refine lv_aload_n hx hb dX12_goesOn_461 rfl (lv_at hl 3 rfl) ?_
                    refine lv_iconst (v := 1) hx hb dX12_goesOn_462 (by decide +kernel) ?_
                    refine lv_aload_n hx hb dX12_goesOn_463 rfl (lv_at hl 3 rfl) ?_
                    refine dg_get (C := RX12) (T := TX12) (N := 77) hx hb hts (fun w h => bw_mem (wU_X12 w h)) hown K hP sM_0 rfl 4 (by decide) (hts _ (bw_mem wB_1145)) (fun _ h9 => h9) (v := .int sa) (((m_1440.1 0 4 _ sM_0 (by decide)).trans (m_2.1 0 4 _ sM_0 (by decide))).trans f_sa) dX12_goesOn_464 ?_
                    have hz_1483 : (1 : Int32).toInt = 1 := by decide +kernel
                    refine dg_callv hS hA1 hA (va_runV (As := [.int 1, .int sa]) (rest := []) F (c_m_blame l g D o S_1440 1 (by decide +kernel) sa y_1442 f_y_1442 (by omega) I_1440 H.size) (cwV 2 hts (bw_V wB_1137 wB_1138 wB_1139 wB_881 wB_1136) rfl rfl rfl (by decide +kernel) ⟨Nat.le_of_ble_eq_true rfl, Nat.le_of_ble_eq_true rfl⟩) (dg_preV sM_0 rfl K ST hP hS hA1 hA) rfl rfl hl.1 rfl (lv_room (Nat.le_of_ble_eq_true rfl)) dX12_goesOn_467 ⟨Nat.le_of_ble_eq_true rfl, Nat.le_of_ble_eq_true rfl⟩) (fun S_1484 hw_1484 H locs hP hS => ?_)
                    obtain ⟨I_1484, m_1484, w_1484_0, -⟩ := hw_1484
                    have M_1484 := dg_sm.tr M_1440 m_1484 (by decide) (by decide)
                    have hz_1485 : (1 : Int32).toInt = 1 := by decide +kernel
                    obtain ⟨y_1486, f_y_1486, w_1484_0⟩ := w_1484_0
                    have w_1484_0 : ((y_1442).toInt ≠ 0 → (y_1486).toInt = (y_1442).toInt) ∧ ((y_1442).toInt = 0 → (y_1486).toInt = ((1 : Int32)).toInt) := w_1484_0
                    obtain ⟨w_1484_0_0, w_1484_0_1⟩ := w_1484_0
                    have w_1484_0_0r := w_1484_0_0 (by omega)
                    clear w_1484_0_0
                    clear w_1484_0_1
                    have b_y_1486 : 0 ≤ (y_1486).toInt ∧ (y_1486).toInt ≤ 6 := dg_I.intb (lo := 0) (hi := 6) I_1484 sM_0 (by decide +kernel) f_y_1486
                    have hbl_y_1486 : 1 ≤ (y_1486).toInt := by omega
                    refine lv_aload_n hx hb dX12_goesOn_470 rfl (lv_at hl 3 rfl) ?_
                    refine dg_get (C := RX12) (T := TX12) (N := 77) hx hb hts (fun w h => bw_mem (wU_X12 w h)) hown K hP sM_0 rfl 8 (by decide) (hts _ (bw_mem wB_1133)) (fun _ h9 => h9) (v := .int y_1486) f_y_1486 dX12_goesOn_471 ?_
                    refine lv_if_le (tgt := 479) hx hb dX12_goesOn_474 (by decide) (fun c => absurd c (fun z => absurd (dk_lec (k := 0) (by decide +kernel) z) (by omega))) (fun _ => ?_)
                    refine lv_iconst (v := 0) hx hb dX12_goesOn_477 (by decide +kernel) ?_
                    have hz_1487 : (0 : Int32).toInt = 0 := by decide +kernel
                    have hz_1488 : (0 : Int32).toInt = 0 := by decide +kernel
                    have hz_1489 : (0 : Int32).toInt = 0 := by decide +kernel
                    refine W.widen (k := 0) (n := 0) (Nat.le_of_ble_eq_true rfl) (Nat.le_of_ble_eq_true rfl) ?_
                    rw [hQ9]
                    exact dg_iret hx hb hr hlocks (by decide +kernel) hP hS ⟨I_1484, M_1484, (by decide +kernel), ⟨sg, sa, se, y_1486, cd, dp, om, oo, (((m_1484.1 0 3 _ sM_0 (by decide)).trans ((m_1440.1 0 3 _ sM_0 (by decide)).trans (m_2.1 0 3 _ sM_0 (by decide)))).trans f_sg), (((m_1484.1 0 4 _ sM_0 (by decide)).trans ((m_1440.1 0 4 _ sM_0 (by decide)).trans (m_2.1 0 4 _ sM_0 (by decide)))).trans f_sa), (((m_1484.1 0 5 _ sM_0 (by decide)).trans ((m_1440.1 0 5 _ sM_0 (by decide)).trans (m_2.1 0 5 _ sM_0 (by decide)))).trans f_se), f_y_1486, (((m_1484.1 0 34 _ sM_0 (by decide)).trans ((m_1440.1 0 34 _ sM_0 (by decide)).trans (m_2.1 0 34 _ sM_0 (by decide)))).trans f_cd), (((m_1484.1 0 42 _ sM_0 (by decide)).trans ((m_1440.1 0 42 _ sM_0 (by decide)).trans (m_2.1 0 42 _ sM_0 (by decide)))).trans f_dp), (((m_1484.1 0 45 _ sM_0 (by decide)).trans ((m_1440.1 0 45 _ sM_0 (by decide)).trans (m_2.1 0 45 _ sM_0 (by decide)))).trans f_om), (((m_1484.1 0 46 _ sM_0 (by decide)).trans ((m_1440.1 0 46 _ sM_0 (by decide)).trans (m_2.1 0 46 _ sM_0 (by decide)))).trans f_oo), (by omega)⟩, (fun k9 hk9 hk0 => by have q9 := (f_y_1486).symm.trans hk9; cases q9; omega), (ZWM.keep (ZWM.keep (ZWM.keep ZW m_2 (by decide) (by decide) (by decide) (by decide)) m_1440 (by decide) (by decide) (by decide) (by decide)) m_1484 (by decide) (by decide) (by decide) (by decide)), trivial⟩ dX12_goesOn_478
                refine lv_icmp_eq (tgt := 452) hx hb dX12_goesOn_443 (by decide) (fun c_1490 => ?_) (fun c_1490 => ?_)
                · have jc_1490 := dk_eqc (k := 3) (by decide +kernel) c_1490
                  exact J_1475 ()  (by omega) _ _ hP hS _ (lv_sub hl [0, 1, 2, 3] rfl)
                · have jc_1490 := dk_neqc (k := 3) (by decide +kernel) c_1490
                  refine lv_iload_n hx hb dX12_goesOn_446 rfl (lv_at hl 1 rfl) ?_
                  refine lv_bipush (v := 6) hx hb dX12_goesOn_447 (by decide +kernel) ?_
                  refine lv_icmp_ne (tgt := 518) hx hb dX12_goesOn_449 (by decide) (fun c_1491 => ?_) (fun c_1491 => ?_)
                  · have jc_1491 := dk_neqc (k := 6) (by decide +kernel) c_1491
                    have jtc_1491 : (x_7).toInt ≤ 5 := by omega
                    clear jc_1491
                    refine lv_aload_n hx hb dX12_goesOn_518 rfl (lv_at hl 3 rfl) ?_
                    refine lv_iload_n hx hb dX12_goesOn_519 rfl (lv_at hl 1 rfl) ?_
                    refine lv_iconst (v := 5) hx hb dX12_goesOn_520 (by decide +kernel) ?_
                    have J_1507 : ∀ (x_1493 : Int32), (41 ≤ (x_1493).toInt ∧ (x_1493).toInt ≤ 93) → ((x_7 : Int32).toInt = 2 ∨ (x_7 : Int32).toInt = 4 ∨ (x_7 : Int32).toInt = 5) → ∀ (H : Heap) (locs : List Loc), va_P D vwCl (dg_w g shM o rfM S_1440) H → va_S A s.heap H locs → ∀ ls : Array Slot, lv_has ls 5 [(3, .int x_8), (2, .int x_7), (1, .int x_5), (0, .ref (o + 0))] → W p l e ({ frames := 3, cells := 0, slots := 0, locals := 77 } : Room) s m args below meth c H locs 0 0 Q9 (F0 m 531 ls [.int x_1493, .ref (o + 0)]) := by
                      intro x_1493 b_x_1493 rel_0 H locs hP hS ls hl
                      refine dg_calli hS hA1 hA (va_runV (As := [.int x_1493]) (rest := []) F (c_m_isSign l g D o S_1440 x_1493 sg (((m_1440.1 0 3 _ sM_0 (by decide)).trans (m_2.1 0 3 _ sM_0 (by decide))).trans f_sg) (by omega) va (((m_1440.1 0 6 _ sM_0 (by decide)).trans (m_2.1 0 6 _ sM_0 (by decide))).trans f_va) (by omega) I_1440 H.size) (cwV 1 hts (bw_V wB_1157 wB_1158 wB_1159 wB_881 wB_1156) rfl rfl rfl (by decide +kernel) ⟨Nat.le_of_ble_eq_true rfl, Nat.le_of_ble_eq_true rfl⟩) (dg_preV sM_0 rfl K ST hP hS hA1 hA) rfl rfl hl.1 rfl (lv_room (Nat.le_of_ble_eq_true rfl)) dX12_goesOn_531 ⟨Nat.le_of_ble_eq_true rfl, Nat.le_of_ble_eq_true rfl⟩) (fun x_1508 S_1509 hw_1509 H locs hP hS => ?_)
                      rw [hw_1509.1] at hP
                      obtain ⟨hq_1509, w_1509_0, w_1509_1, -⟩ := hw_1509
                      have w_1509_0 : 0 ≤ (x_1508).toInt ∧ (x_1508).toInt ≤ 1 := w_1509_0
                      have w_1509_1 : (x_1508).toInt = 1 ↔ ((sg).toInt = 3 ∧ (va).toInt = (x_1493).toInt) := w_1509_1
                      refine lv_if_ne (tgt := 546) hx hb dX12_goesOn_534 (by decide) (fun c_1510 => ?_) (fun c_1510 => ?_)
                      · have jc_1510 := dk_neqc (k := 0) (by decide +kernel) c_1510
                        have jbc_1510 : 1 ≤ (x_1508).toInt := by omega
                        clear jc_1510
                        have w_1509_1_r := w_1509_1.mp (by omega)
                        obtain ⟨w_1509_1_r1, w_1509_1_r2⟩ := w_1509_1_r
                        clear w_1509_1
                        have hlx_2r := hlx_2 (by omega)
                        clear hlx_2
                        refine lv_aload_n hx hb dX12_goesOn_546 rfl (lv_at hl 3 rfl) ?_
                        refine dg_get (C := RX12) (T := TX12) (N := 77) hx hb hts (fun w h => bw_mem (wU_X12 w h)) hown K hP sM_0 rfl 8 (by decide) (hts _ (bw_mem wB_1133)) (fun _ h9 => h9) (v := .int y_1442) f_y_1442 dX12_goesOn_547 ?_
                        refine lv_if_le (tgt := 555) hx hb dX12_goesOn_550 (by decide) (fun c => absurd c (fun z => absurd (dk_lec (k := 0) (by decide +kernel) z) (by omega))) (fun _ => ?_)
                        refine lv_iconst (v := 0) hx hb dX12_goesOn_553 (by decide +kernel) ?_
                        have hz_1511 : (0 : Int32).toInt = 0 := by decide +kernel
                        have hz_1512 : (0 : Int32).toInt = 0 := by decide +kernel
                        have hz_1513 : (0 : Int32).toInt = 0 := by decide +kernel
                        refine W.widen (k := 0) (n := 0) (Nat.le_of_ble_eq_true rfl) (Nat.le_of_ble_eq_true rfl) ?_
                        rw [hQ9]
                        exact dg_iret hx hb hr hlocks (by decide +kernel) hP hS ⟨I_1440, M_1440, (by decide +kernel), ⟨sg, sa, se, y_1442, cd, dp, om, oo, (((m_1440.1 0 3 _ sM_0 (by decide)).trans (m_2.1 0 3 _ sM_0 (by decide))).trans f_sg), (((m_1440.1 0 4 _ sM_0 (by decide)).trans (m_2.1 0 4 _ sM_0 (by decide))).trans f_sa), (((m_1440.1 0 5 _ sM_0 (by decide)).trans (m_2.1 0 5 _ sM_0 (by decide))).trans f_se), f_y_1442, (((m_1440.1 0 34 _ sM_0 (by decide)).trans (m_2.1 0 34 _ sM_0 (by decide))).trans f_cd), (((m_1440.1 0 42 _ sM_0 (by decide)).trans (m_2.1 0 42 _ sM_0 (by decide))).trans f_dp), (((m_1440.1 0 45 _ sM_0 (by decide)).trans (m_2.1 0 45 _ sM_0 (by decide))).trans f_om), (((m_1440.1 0 46 _ sM_0 (by decide)).trans (m_2.1 0 46 _ sM_0 (by decide))).trans f_oo), (by omega)⟩, (fun k9 hk9 hk0 => by have q9 := (f_y_1442).symm.trans hk9; cases q9; omega), (ZWM.keep (ZWM.keep ZW m_2 (by decide) (by decide) (by decide) (by decide)) m_1440 (by decide) (by decide) (by decide) (by decide)), trivial⟩ dX12_goesOn_554
                      · have jc_1510 := dk_eqc (k := 0) (by decide +kernel) c_1510
                        clear w_1509_1
                        refine lv_aload_n hx hb dX12_goesOn_537 rfl (lv_at hl 3 rfl) ?_
                        refine lv_iconst (v := 1) hx hb dX12_goesOn_538 (by decide +kernel) ?_
                        refine lv_aload_n hx hb dX12_goesOn_539 rfl (lv_at hl 3 rfl) ?_
                        refine dg_get (C := RX12) (T := TX12) (N := 77) hx hb hts (fun w h => bw_mem (wU_X12 w h)) hown K hP sM_0 rfl 4 (by decide) (hts _ (bw_mem wB_1145)) (fun _ h9 => h9) (v := .int sa) (((m_1440.1 0 4 _ sM_0 (by decide)).trans (m_2.1 0 4 _ sM_0 (by decide))).trans f_sa) dX12_goesOn_540 ?_
                        have hz_1514 : (1 : Int32).toInt = 1 := by decide +kernel
                        refine dg_callv hS hA1 hA (va_runV (As := [.int 1, .int sa]) (rest := []) F (c_m_blame l g D o S_1440 1 (by decide +kernel) sa y_1442 f_y_1442 (by omega) I_1440 H.size) (cwV 2 hts (bw_V wB_1137 wB_1138 wB_1139 wB_881 wB_1136) rfl rfl rfl (by decide +kernel) ⟨Nat.le_of_ble_eq_true rfl, Nat.le_of_ble_eq_true rfl⟩) (dg_preV sM_0 rfl K ST hP hS hA1 hA) rfl rfl hl.1 rfl (lv_room (Nat.le_of_ble_eq_true rfl)) dX12_goesOn_543 ⟨Nat.le_of_ble_eq_true rfl, Nat.le_of_ble_eq_true rfl⟩) (fun S_1515 hw_1515 H locs hP hS => ?_)
                        obtain ⟨I_1515, m_1515, w_1515_0, -⟩ := hw_1515
                        have M_1515 := dg_sm.tr M_1440 m_1515 (by decide) (by decide)
                        have hz_1516 : (1 : Int32).toInt = 1 := by decide +kernel
                        obtain ⟨y_1517, f_y_1517, w_1515_0⟩ := w_1515_0
                        have w_1515_0 : ((y_1442).toInt ≠ 0 → (y_1517).toInt = (y_1442).toInt) ∧ ((y_1442).toInt = 0 → (y_1517).toInt = ((1 : Int32)).toInt) := w_1515_0
                        obtain ⟨w_1515_0_0, w_1515_0_1⟩ := w_1515_0
                        have w_1515_0_0r := w_1515_0_0 (by omega)
                        clear w_1515_0_0
                        clear w_1515_0_1
                        have b_y_1517 : 0 ≤ (y_1517).toInt ∧ (y_1517).toInt ≤ 6 := dg_I.intb (lo := 0) (hi := 6) I_1515 sM_0 (by decide +kernel) f_y_1517
                        have hbl_y_1517 : 1 ≤ (y_1517).toInt := by omega
                        refine lv_aload_n hx hb dX12_goesOn_546 rfl (lv_at hl 3 rfl) ?_
                        refine dg_get (C := RX12) (T := TX12) (N := 77) hx hb hts (fun w h => bw_mem (wU_X12 w h)) hown K hP sM_0 rfl 8 (by decide) (hts _ (bw_mem wB_1133)) (fun _ h9 => h9) (v := .int y_1517) f_y_1517 dX12_goesOn_547 ?_
                        refine lv_if_le (tgt := 555) hx hb dX12_goesOn_550 (by decide) (fun c => absurd c (fun z => absurd (dk_lec (k := 0) (by decide +kernel) z) (by omega))) (fun _ => ?_)
                        refine lv_iconst (v := 0) hx hb dX12_goesOn_553 (by decide +kernel) ?_
                        have hz_1518 : (0 : Int32).toInt = 0 := by decide +kernel
                        have hz_1519 : (0 : Int32).toInt = 0 := by decide +kernel
                        have hz_1520 : (0 : Int32).toInt = 0 := by decide +kernel
                        refine W.widen (k := 0) (n := 0) (Nat.le_of_ble_eq_true rfl) (Nat.le_of_ble_eq_true rfl) ?_
                        rw [hQ9]
                        exact dg_iret hx hb hr hlocks (by decide +kernel) hP hS ⟨I_1515, M_1515, (by decide +kernel), ⟨sg, sa, se, y_1517, cd, dp, om, oo, (((m_1515.1 0 3 _ sM_0 (by decide)).trans ((m_1440.1 0 3 _ sM_0 (by decide)).trans (m_2.1 0 3 _ sM_0 (by decide)))).trans f_sg), (((m_1515.1 0 4 _ sM_0 (by decide)).trans ((m_1440.1 0 4 _ sM_0 (by decide)).trans (m_2.1 0 4 _ sM_0 (by decide)))).trans f_sa), (((m_1515.1 0 5 _ sM_0 (by decide)).trans ((m_1440.1 0 5 _ sM_0 (by decide)).trans (m_2.1 0 5 _ sM_0 (by decide)))).trans f_se), f_y_1517, (((m_1515.1 0 34 _ sM_0 (by decide)).trans ((m_1440.1 0 34 _ sM_0 (by decide)).trans (m_2.1 0 34 _ sM_0 (by decide)))).trans f_cd), (((m_1515.1 0 42 _ sM_0 (by decide)).trans ((m_1440.1 0 42 _ sM_0 (by decide)).trans (m_2.1 0 42 _ sM_0 (by decide)))).trans f_dp), (((m_1515.1 0 45 _ sM_0 (by decide)).trans ((m_1440.1 0 45 _ sM_0 (by decide)).trans (m_2.1 0 45 _ sM_0 (by decide)))).trans f_om), (((m_1515.1 0 46 _ sM_0 (by decide)).trans ((m_1440.1 0 46 _ sM_0 (by decide)).trans (m_2.1 0 46 _ sM_0 (by decide)))).trans f_oo), (by omega)⟩, (fun k9 hk9 hk0 => by have q9 := (f_y_1517).symm.trans hk9; cases q9; omega), (ZWM.keep (ZWM.keep (ZWM.keep ZW m_2 (by decide) (by decide) (by decide) (by decide)) m_1440 (by decide) (by decide) (by decide) (by decide)) m_1515 (by decide) (by decide) (by decide) (by decide)), trivial⟩ dX12_goesOn_554
                    refine lv_icmp_ne (tgt := 529) hx hb dX12_goesOn_521 (by decide) (fun c_1521 => ?_) (fun c_1521 => ?_)
                    · have jc_1521 := dk_neqc (k := 5) (by decide +kernel) c_1521
                      have jtc_1521 : (x_7).toInt ≤ 4 := by omega
                      clear jc_1521
                      refine lv_bipush (v := 41) hx hb dX12_goesOn_529 (by decide +kernel) ?_
                      have hz_1522 : (41 : Int32).toInt = 41 := by decide +kernel
                      have hz_1523 : (41 : Int32).toInt = 41 := by decide +kernel
                      exact J_1507 41 (by decide +kernel) (by omega) _ _ hP hS _ (lv_sub hl [0, 1, 2, 3] rfl)
                    · have jc_1521 := dk_eqc (k := 5) (by decide +kernel) c_1521
                      refine lv_bipush (v := 93) hx hb dX12_goesOn_524 (by decide +kernel) ?_
                      refine lv_goto (tgt := 531) hx hb dX12_goesOn_526 (by decide) ?_
                      have hz_1524 : (93 : Int32).toInt = 93 := by decide +kernel
                      have hz_1525 : (93 : Int32).toInt = 93 := by decide +kernel
                      exact J_1507 93 (by decide +kernel) (by omega) _ _ hP hS _ (lv_sub hl [0, 1, 2, 3] rfl)
                  · have jc_1491 := dk_eqc (k := 6) (by decide +kernel) c_1491
                    exact J_1475 ()  (by omega) _ _ hP hS _ (lv_sub hl [0, 1, 2, 3] rfl)
              · have jc_1443 := dk_ngec (k := 2) (by decide +kernel) c_1443
                refine lv_aload_n hx hb dX12_goesOn_427 rfl (lv_at hl 3 rfl) ?_
                refine dg_get (C := RX12) (T := TX12) (N := 77) hx hb hts (fun w h => bw_mem (wU_X12 w h)) hown K hP sM_0 rfl 8 (by decide) (hts _ (bw_mem wB_1133)) (fun _ h9 => h9) (v := .int y_1442) f_y_1442 dX12_goesOn_428 ?_
                refine lv_if_ne (tgt := 439) hx hb dX12_goesOn_431 (by decide) (fun _ => ?_) (fun c => absurd c (fun z => absurd (dk_eqc (k := 0) (by decide +kernel) z) (by omega)))
                refine lv_iconst (v := 0) hx hb dX12_goesOn_439 (by decide +kernel) ?_
                have hz_1526 : (0 : Int32).toInt = 0 := by decide +kernel
                have hz_1527 : (0 : Int32).toInt = 0 := by decide +kernel
                have hz_1528 : (0 : Int32).toInt = 0 := by decide +kernel
                refine W.widen (k := 0) (n := 0) (Nat.le_of_ble_eq_true rfl) (Nat.le_of_ble_eq_true rfl) ?_
                rw [hQ9]
                exact dg_iret hx hb hr hlocks (by decide +kernel) hP hS ⟨I_1440, M_1440, (by decide +kernel), ⟨sg, sa, se, y_1442, cd, dp, om, oo, (((m_1440.1 0 3 _ sM_0 (by decide)).trans (m_2.1 0 3 _ sM_0 (by decide))).trans f_sg), (((m_1440.1 0 4 _ sM_0 (by decide)).trans (m_2.1 0 4 _ sM_0 (by decide))).trans f_sa), (((m_1440.1 0 5 _ sM_0 (by decide)).trans (m_2.1 0 5 _ sM_0 (by decide))).trans f_se), f_y_1442, (((m_1440.1 0 34 _ sM_0 (by decide)).trans (m_2.1 0 34 _ sM_0 (by decide))).trans f_cd), (((m_1440.1 0 42 _ sM_0 (by decide)).trans (m_2.1 0 42 _ sM_0 (by decide))).trans f_dp), (((m_1440.1 0 45 _ sM_0 (by decide)).trans (m_2.1 0 45 _ sM_0 (by decide))).trans f_om), (((m_1440.1 0 46 _ sM_0 (by decide)).trans (m_2.1 0 46 _ sM_0 (by decide))).trans f_oo), (by omega)⟩, (fun k9 hk9 hk0 => by have q9 := (f_y_1442).symm.trans hk9; cases q9; omega), (ZWM.keep (ZWM.keep ZW m_2 (by decide) (by decide) (by decide) (by decide)) m_1440 (by decide) (by decide) (by decide) (by decide)), trivial⟩ dX12_goesOn_440
        refine lv_if_eq (tgt := 400) hx hb dX12_goesOn_286 (by decide) (fun c_1529 => ?_) (fun c_1529 => ?_)
        · have jc_1529 := dk_eqc (k := 0) (by decide +kernel) c_1529
          clear w_9_1
          exact J_964   _ _ hP hS _ (lv_sub hl [0, 1, 2, 3] rfl)
        · have jc_1529 := dk_neqc (k := 0) (by decide +kernel) c_1529
          have jbc_1529 : 1 ≤ (x_8).toInt := by omega
          clear jc_1529
          have w_9_1_r := w_9_1.mp (by omega)
          clear w_9_1
          refine lv_aload_n hx hb dX12_goesOn_289 rfl (lv_at hl 3 rfl) ?_
          refine lv_ldc2 hx hb hown (hts _ (bw_mem wB_1190)) dX12_goesOn_290 ?_
          refine dg_calli hS hA1 hA (va_runV (As := [.long 6385252]) (rest := []) F (c_m_isWord l g D o S_2 6385252 sg ((m_2.1 0 3 _ sM_0 (by decide)).trans f_sg) (by omega) I_2 H.size) (cwV 1 hts (bw_V wB_1165 wB_1166 wB_1167 wB_881 wB_1164) rfl rfl rfl (by decide +kernel) ⟨Nat.le_of_ble_eq_true rfl, Nat.le_of_ble_eq_true rfl⟩) (dg_preV sM_0 rfl K ST hP hS hA1 hA) rfl rfl hl.1 rfl (lv_room (Nat.le_of_ble_eq_true rfl)) dX12_goesOn_293 ⟨Nat.le_of_ble_eq_true rfl, Nat.le_of_ble_eq_true rfl⟩) (fun x_1530 S_1531 hw_1531 H locs hP hS => ?_)
          rw [hw_1531.1] at hP
          obtain ⟨hq_1531, w_1531_0, w_1531_1, -⟩ := hw_1531
          have w_1531_0 : 0 ≤ (x_1530).toInt ∧ (x_1530).toInt ≤ 1 := w_1531_0
          have w_1531_1 : (x_1530).toInt = 1 → (sg).toInt = 1 := w_1531_1
          have J_1605 : ∀ (u9 : Unit), ((sg).toInt = 1) → ∀ (H : Heap) (locs : List Loc), va_P D vwCl (dg_w g shM o rfM S_2) H → va_S A s.heap H locs → ∀ ls : Array Slot, lv_has ls 5 [(3, .int x_8), (2, .int x_7), (1, .int x_5), (0, .ref (o + 0))] → W p l e ({ frames := 3, cells := 0, slots := 0, locals := 77 } : Room) s m args below meth c H locs 0 0 Q9 (F0 m 309 ls []) := by
            intro u9 rel_0 H locs hP hS ls hl
            clear w_1531_1
            refine lv_aload_n hx hb dX12_goesOn_309 rfl (lv_at hl 3 rfl) ?_
            refine dg_get (C := RX12) (T := TX12) (N := 77) hx hb hts (fun w h => bw_mem (wU_X12 w h)) hown K hP sM_0 rfl 38 (by decide) (hts _ (bw_mem wB_1214)) (fun _ h9 => h9) (v := .ref (o + 23)) (show S_2.1 0 38 = .ref (o + 23) from dg_I.rel (d := 23) I_2 sM_0 (by decide +kernel)) dX12_goesOn_310 ?_
            refine lv_iload_n hx hb dX12_goesOn_313 rfl (lv_at hl 2 rfl) ?_
            have hin_1606 : vp_in x_5 20 := (dk_inv (by omega) (by omega))
            refine dg_iald hx hb K hP sM_23 hin_1606 dX12_goesOn_314 (fun y_1607 ey_1607 => ?_)
            obtain rfl : x_11 = y_1607 := (ey_1607.trans ex_11.symm).symm
            refine lv_if_ne (tgt := 327) hx hb dX12_goesOn_315 (by decide) (fun c_1608 => ?_) (fun c_1608 => ?_)
            · have jc_1608 := dk_neqc (k := 0) (by decide +kernel) c_1608
              have jbc_1608 : 1 ≤ (x_11).toInt := by omega
              clear jc_1608
              refine lv_aload_n hx hb dX12_goesOn_327 rfl (lv_at hl 3 rfl) ?_
              refine dg_get (C := RX12) (T := TX12) (N := 77) hx hb hts (fun w h => bw_mem (wU_X12 w h)) hown K hP sM_0 rfl 8 (by decide) (hts _ (bw_mem wB_1133)) (fun _ h9 => h9) (v := .int y_3) f_y_3 dX12_goesOn_328 ?_
              refine lv_if_le (tgt := 336) hx hb dX12_goesOn_331 (by decide) (fun _ => ?_) (fun c => absurd (dk_lep (k := 0) (by decide +kernel) (by omega)) c)
              refine lv_aload_n hx hb dX12_goesOn_336 rfl (lv_at hl 3 rfl) ?_
              refine lv_ldc2 hx hb hown (hts _ (bw_mem wB_1190)) dX12_goesOn_337 ?_
              refine dg_calli hS hA1 hA (va_runV (As := [.long 6385252]) (rest := []) F (c_m_isWord l g D o S_2 6385252 sg ((m_2.1 0 3 _ sM_0 (by decide)).trans f_sg) (by omega) I_2 H.size) (cwV 1 hts (bw_V wB_1165 wB_1166 wB_1167 wB_881 wB_1164) rfl rfl rfl (by decide +kernel) ⟨Nat.le_of_ble_eq_true rfl, Nat.le_of_ble_eq_true rfl⟩) (dg_preV sM_0 rfl K ST hP hS hA1 hA) rfl rfl hl.1 rfl (lv_room (Nat.le_of_ble_eq_true rfl)) dX12_goesOn_340 ⟨Nat.le_of_ble_eq_true rfl, Nat.le_of_ble_eq_true rfl⟩) (fun x_1609 S_1610 hw_1610 H locs hP hS => ?_)
              rw [hw_1610.1] at hP
              obtain ⟨hq_1610, w_1610_0, w_1610_1, -⟩ := hw_1610
              have w_1610_0 : 0 ≤ (x_1609).toInt ∧ (x_1609).toInt ≤ 1 := w_1610_0
              have w_1610_1 : (x_1609).toInt = 1 → (sg).toInt = 1 := w_1610_1
              refine lv_istore (lv' := [(4, .int x_1609), (3, .int x_8), (2, .int x_7), (1, .int x_5), (0, .ref (o + 0))]) hx hb dX12_goesOn_343 hl (by decide) rfl (fun ls hl => ?_)
              refine lv_aload_n hx hb dX12_goesOn_345 rfl (lv_at hl 4 rfl) ?_
              refine lv_iload hx hb dX12_goesOn_346 (lv_at hl 0 rfl) ?_
              refine lv_if_eq (tgt := 355) hx hb dX12_goesOn_348 (by decide) (fun c_1611 => ?_) (fun c_1611 => ?_)
              · have jc_1611 := dk_eqc (k := 0) (by decide +kernel) c_1611
                clear w_1610_1
                refine lv_iconst (v := 1) hx hb dX12_goesOn_355 (by decide +kernel) ?_
                have hz_1612 : (1 : Int32).toInt = 1 := by decide +kernel
                refine dg_callv hS hA1 hA (va_runV (As := [.int 1]) (rest := []) F (c_m_joins l g D o S_2 1 (by decide +kernel) cd ((m_2.1 0 34 _ sM_0 (by decide)).trans f_cd) (by omega) om ((m_2.1 0 45 _ sM_0 (by decide)).trans f_om) (by omega) (by omega) (ZWM.keep ZW m_2 (by decide) (by decide) (by decide) (by decide)) (ZKM.keep ZK m_2 (by decide) (by decide)) (P1M.keep P1 m_2 (by decide) (by decide) (by decide) (by decide) (by decide) (by decide) (by decide) (by decide) (by decide) (by decide) (by decide) (by decide) (by decide) (by decide) (by decide)) I_2 H.size) (cwV 1 hts (bw_V wB_1234 wB_1235 wB_1236 wB_881 wB_1233) rfl rfl rfl (by decide +kernel) ⟨Nat.le_of_ble_eq_true rfl, Nat.le_of_ble_eq_true rfl⟩) (dg_preV sM_0 rfl K ST hP hS hA1 hA) rfl rfl hl.1 rfl (lv_room (Nat.le_of_ble_eq_true rfl)) dX12_goesOn_356 ⟨Nat.le_of_ble_eq_true rfl, Nat.le_of_ble_eq_true rfl⟩) (fun S_1613 hw_1613 H locs hP hS => ?_)
                obtain ⟨I_1613, m_1613, w_1613_0, w_1613_1, w_1613_2, w_1613_3, -⟩ := hw_1613
                have M_1613 := dg_sm.tr M_2 m_1613 (by decide) (by decide)
                have hz_1614 : (1 : Int32).toInt = 1 := by decide +kernel
                obtain ⟨y_1615, y_1616, f_y_1615, f_y_1616, w_1613_0⟩ := w_1613_0
                have w_1613_0 : (y_1615).toInt + (y_1616).toInt = (cd).toInt + (om).toInt := w_1613_0
                have b_y_1615 : 0 ≤ (y_1615).toInt ∧ (y_1615).toInt ≤ 1600 := dg_I.intb (lo := 0) (hi := 1600) I_1613 sM_0 (by decide +kernel) f_y_1615
                have b_y_1616 : 0 ≤ (y_1616).toInt ∧ (y_1616).toInt ≤ 500 := dg_I.intb (lo := 0) (hi := 500) I_1613 sM_0 (by decide +kernel) f_y_1616
                have w_1613_1 : TOPM S_1613 (1 : Int32) := w_1613_1
                obtain ⟨x_1617, f_x_1617, b_x_1617⟩ := dg_I.int (i := 0) (k := 43) (lo := (-2147483648)) (hi := 2147483647) I_1613 sM_0 (by decide +kernel)
                have hdm_1617 := PSM.dims w_1613_3 (((m_1613.1 0 42 _ sM_0 (by decide)).trans (m_2.1 0 42 _ sM_0 (by decide))).trans f_dp) f_x_1617 f_y_1616
                refine lv_aload_n hx hb dX12_goesOn_359 rfl (lv_at hl 4 rfl) ?_
                refine lv_iload hx hb dX12_goesOn_360 (lv_at hl 0 rfl) ?_
                refine lv_if_eq (tgt := 370) hx hb dX12_goesOn_362 (by decide) (fun _ => ?_) (fun c => absurd (dk_eqp (k := 0) (by decide +kernel) (by omega)) c)
                refine lv_bipush (v := 42) hx hb dX12_goesOn_370 (by decide +kernel) ?_
                refine dg_callv hS hA1 hA (va_runV (As := [.int 42]) (rest := []) F (c_m_holdsBack l g D o S_1613 42 y_1616 f_y_1616 (by omega) I_1613 H.size) (cwV 1 hts (bw_V wB_1224 wB_1225 wB_1226 wB_881 wB_1223) rfl rfl rfl (by decide +kernel) ⟨Nat.le_of_ble_eq_true rfl, Nat.le_of_ble_eq_true rfl⟩) (dg_preV sM_0 rfl K ST hP hS hA1 hA) rfl rfl hl.1 rfl (lv_room (Nat.le_of_ble_eq_true rfl)) dX12_goesOn_372 ⟨Nat.le_of_ble_eq_true rfl, Nat.le_of_ble_eq_true rfl⟩) (fun S_1619 hw_1619 H locs hP hS => ?_)
                obtain ⟨I_1619, m_1619, w_1619_0, w_1619_1, -⟩ := hw_1619
                have M_1619 := dg_sm.tr M_1613 m_1619 (by decide) (by decide)
                have hz_1620 : (42 : Int32).toInt = 42 := by decide +kernel
                obtain ⟨y_1621, f_y_1621, w_1619_0⟩ := w_1619_0
                have w_1619_0 : (y_1621).toInt = (y_1616).toInt + 1 := w_1619_0
                have b_y_1621 : 0 ≤ (y_1621).toInt ∧ (y_1621).toInt ≤ 500 := dg_I.intb (lo := 0) (hi := 500) I_1619 sM_0 (by decide +kernel) f_y_1621
                have w_1619_1 : HBM S_1613 S_1619 (42 : Int32) := w_1619_1
                refine lv_aload_n hx hb dX12_goesOn_375 rfl (lv_at hl 4 rfl) ?_
                refine dg_get (C := RX12) (T := TX12) (N := 77) hx hb hts (fun w h => bw_mem (wU_X12 w h)) hown K hP sM_0 rfl 38 (by decide) (hts _ (bw_mem wB_1214)) (fun _ h9 => h9) (v := .ref (o + 23)) (show S_1619.1 0 38 = .ref (o + 23) from dg_I.rel (d := 23) I_1619 sM_0 (by decide +kernel)) dX12_goesOn_376 ?_
                refine lv_iload_n hx hb dX12_goesOn_379 rfl (lv_at hl 3 rfl) ?_
                refine lv_iconst (v := 0) hx hb dX12_goesOn_380 (by decide +kernel) ?_
                have hin_1622 : vp_in x_5 20 := (dk_inv (by omega) (by omega))
                have hz_1624 : (0 : Int32).toInt = 0 := by decide +kernel
                refine dg_iast hx hb K hP hS hA1 sM_23 hin_1622 dX12_goesOn_381 (fun S_1623 e_1623 H locs hP hS => ?_)
                have I_1623 := dg_I.ufu (lo := 0) (hi := 2) I_1619 e_1623 sM_23 (by decide +kernel) (show 0 ≤ ((0 : Int32)).toInt ∧ ((0 : Int32)).toInt ≤ 2 from (by decide +kernel))
                have M_1623 := dg_sm.uf M_1619 e_1623 sM_23 (by decide)
                have hz_1625 : (0 : Int32).toInt = 0 := by decide +kernel
                refine lv_aload_n hx hb dX12_goesOn_382 rfl (lv_at hl 4 rfl) ?_
                refine dg_get (C := RX12) (T := TX12) (N := 77) hx hb hts (fun w h => bw_mem (wU_X12 w h)) hown K hP sM_0 rfl 39 (by decide) (hts _ (bw_mem wB_1215)) (fun _ h9 => h9) (v := .ref (o + 24)) (show S_1623.1 0 39 = .ref (o + 24) from dg_I.rel (d := 24) I_1623 sM_0 (by decide +kernel)) dX12_goesOn_383 ?_
                refine lv_iload_n hx hb dX12_goesOn_386 rfl (lv_at hl 3 rfl) ?_
                refine lv_iconst (v := 1) hx hb dX12_goesOn_387 (by decide +kernel) ?_
                have hin_1626 : vp_in x_5 20 := (dk_inv (by omega) (by omega))
                have hz_1628 : (1 : Int32).toInt = 1 := by decide +kernel
                refine dg_zast hx hb K hP hS hA1 sM_24 hin_1626 (by decide +kernel) dX12_goesOn_388 (fun S_1627 e_1627 H locs hP hS => ?_)
                have I_1627 := dg_I.ufu (lo := 0) (hi := 1) I_1623 e_1627 sM_24 (by decide +kernel) (show 0 ≤ ((1 : Int32)).toInt ∧ ((1 : Int32)).toInt ≤ 1 from (by decide +kernel))
                have M_1627 := dg_sm.uf M_1623 e_1627 sM_24 (by decide)
                have P0_1627 : P0M S_1627 := P1M.andor w_1613_3 (((m_1613.1 0 42 _ sM_0 (by decide)).trans (m_2.1 0 42 _ sM_0 (by decide))).trans f_dp) f_x_1617 f_y_1616 w_1613_1 m_1619 w_1619_1 (by omega) (fx := x_5) (by omega) e_1623 e_1627
                refine lv_aload_n hx hb dX12_goesOn_389 rfl (lv_at hl 4 rfl) ?_
                refine dg_callv hS hA1 hA (va_runV (As := []) (rest := []) F (c_m_ahead l g D o S_1627 se (((dg_uf_F e_1627 0 5).trans ((dg_uf_F e_1623 0 5).trans ((m_1619.1 0 5 _ sM_0 (by decide)).trans ((m_1613.1 0 5 _ sM_0 (by decide)).trans (m_2.1 0 5 _ sM_0 (by decide)))))).trans f_se) (by omega) sl (((dg_uf_F e_1627 0 2).trans ((dg_uf_F e_1623 0 2).trans ((m_1619.1 0 2 _ sM_0 (by decide)).trans ((m_1613.1 0 2 _ sM_0 (by decide)).trans (m_2.1 0 2 _ sM_0 (by decide)))))).trans f_sl) (by omega) (by omega) I_1627 H.size) (cwV 0 hts (bw_V wB_1161 wB_1162 wB_1163 wB_881 wB_1160) rfl rfl rfl (by decide +kernel) ⟨Nat.le_of_ble_eq_true rfl, Nat.le_of_ble_eq_true rfl⟩) (dg_preV sM_0 rfl K ST hP hS hA1 hA) rfl rfl hl.1 rfl (lv_room (Nat.le_of_ble_eq_true rfl)) dX12_goesOn_390 ⟨Nat.le_of_ble_eq_true rfl, Nat.le_of_ble_eq_true rfl⟩) (fun S_1629 hw_1629 H locs hP hS => ?_)
                obtain ⟨I_1629, m_1629, w_1629_0, -⟩ := hw_1629
                have M_1629 := dg_sm.tr M_1627 m_1629 (by decide) (by decide)
                obtain ⟨y_1630, y_1631, y_1632, f_y_1630, f_y_1631, f_y_1632, w_1629_0⟩ := w_1629_0
                have w_1629_0 : (se).toInt ≤ (y_1631).toInt ∧ (y_1631).toInt ≤ (y_1632).toInt ∧ (y_1632).toInt ≤ (sl).toInt ∧ ((y_1630).toInt ≠ 0 → (y_1631).toInt + 1 ≤ (y_1632).toInt) := w_1629_0
                obtain ⟨w_1629_0_0, w_1629_0_1, w_1629_0_2, w_1629_0_3⟩ := w_1629_0
                have b_y_1630 : 0 ≤ (y_1630).toInt ∧ (y_1630).toInt ≤ 3 := dg_I.intb (lo := 0) (hi := 3) I_1629 sM_0 (by decide +kernel) f_y_1630
                have b_y_1631 : 0 ≤ (y_1631).toInt ∧ (y_1631).toInt ≤ 1600 := dg_I.intb (lo := 0) (hi := 1600) I_1629 sM_0 (by decide +kernel) f_y_1631
                have b_y_1632 : 0 ≤ (y_1632).toInt ∧ (y_1632).toInt ≤ 1600 := dg_I.intb (lo := 0) (hi := 1600) I_1629 sM_0 (by decide +kernel) f_y_1632
                refine lv_aload_n hx hb dX12_goesOn_393 rfl (lv_at hl 4 rfl) ?_
                refine lv_iconst (v := 0) hx hb dX12_goesOn_394 (by decide +kernel) ?_
                have hz_1633 : (0 : Int32).toInt = 0 := by decide +kernel
                refine dg_put (ci := 12) (v := .int 0) (ty := tyX12 46) (C := RX12) (T := TX12) (N := 77) hx hb hts (fun w h => bw_mem (wU_X12 w h)) tyX12 tyX12_ok nmX12 hown K hP hS hA1 sM_0 rfl 46 (by decide) (hts _ (bw_mem wB_1237)) (fun _ h9 => h9) rfl (by decide +kernel) (by decide +kernel) (by decide +kernel) dX12_goesOn_395 (fun S_1634 e_1634 H locs hP hS => ?_)
                have I_1634 := dg_I.uFi (lo := 0) (hi := 1) I_1629 e_1634 sM_0 (by decide +kernel) (show 0 ≤ ((0 : Int32)).toInt ∧ ((0 : Int32)).toInt ≤ 1 from (by decide +kernel))
                have M_1634 := dg_sm.uF M_1629 e_1634 sM_0 (by decide)
                refine lv_iconst (v := 1) hx hb dX12_goesOn_398 (by decide +kernel) ?_
                have hz_1635 : (1 : Int32).toInt = 1 := by decide +kernel
                have hz_1636 : (1 : Int32).toInt = 1 := by decide +kernel
                have hz_1637 : (0 : Int32).toInt = 0 := by decide +kernel
                have hz_1638 : (1 : Int32).toInt = 1 := by decide +kernel
                have hz_1639 : (0 : Int32).toInt = 0 := by decide +kernel
                refine W.widen (k := 0) (n := 0) (Nat.le_of_ble_eq_true rfl) (Nat.le_of_ble_eq_true rfl) ?_
                rw [hQ9]
                exact dg_iret hx hb hr hlocks (by decide +kernel) hP hS ⟨I_1634, M_1634, (by decide +kernel), ⟨y_1630, y_1631, y_1632, y_3, y_1615, dp, y_1621, 0, ((dg_uF_ne e_1634 (fun z => absurd z.2 (by decide))).trans f_y_1630), ((dg_uF_ne e_1634 (fun z => absurd z.2 (by decide))).trans f_y_1631), ((dg_uF_ne e_1634 (fun z => absurd z.2 (by decide))).trans f_y_1632), (((dg_uF_ne e_1634 (fun z => absurd z.2 (by decide))).trans ((m_1629.1 0 8 _ sM_0 (by decide)).trans ((dg_uf_F e_1627 0 8).trans ((dg_uf_F e_1623 0 8).trans ((m_1619.1 0 8 _ sM_0 (by decide)).trans (m_1613.1 0 8 _ sM_0 (by decide))))))).trans f_y_3), (((dg_uF_ne e_1634 (fun z => absurd z.2 (by decide))).trans ((m_1629.1 0 34 _ sM_0 (by decide)).trans ((dg_uf_F e_1627 0 34).trans ((dg_uf_F e_1623 0 34).trans (m_1619.1 0 34 _ sM_0 (by decide)))))).trans f_y_1615), (((dg_uF_ne e_1634 (fun z => absurd z.2 (by decide))).trans ((m_1629.1 0 42 _ sM_0 (by decide)).trans ((dg_uf_F e_1627 0 42).trans ((dg_uf_F e_1623 0 42).trans ((m_1619.1 0 42 _ sM_0 (by decide)).trans ((m_1613.1 0 42 _ sM_0 (by decide)).trans (m_2.1 0 42 _ sM_0 (by decide)))))))).trans f_dp), (((dg_uF_ne e_1634 (fun z => absurd z.2 (by decide))).trans ((m_1629.1 0 45 _ sM_0 (by decide)).trans ((dg_uf_F e_1627 0 45).trans (dg_uf_F e_1623 0 45)))).trans f_y_1621), (dg_uF_at e_1634), (by omega)⟩, (fun k9 hk9 hk0 => POM.mk0 (P0M.keep (P0M.keep P0_1627 m_1629 (by decide) (by decide) (by decide) (by decide) (by decide) (by decide) (by decide) (by decide) (by decide) (by decide) (by decide) (by decide) (by decide) (by decide) (by decide)) (dg_sm.uF (WF := [(0, 46)]) (WA := []) dg_sm.rf e_1634 sM_0 (by decide)) (by decide) (by decide) (by decide) (by decide) (by decide) (by decide) (by decide) (by decide) (by decide) (by decide) (by decide) (by decide) (by decide) (by decide) (by decide)) (dg_uF_at e_1634) (by omega)), (ZWM.keep (ZWM.keep (ZWM.keep (ZWM.keep (ZWM.keep w_1613_2 m_1619 (by decide) (by decide) (by decide) (by decide)) (dg_sm.uf (WF := []) (WA := [23]) dg_sm.rf e_1623 sM_23 (by decide)) (by decide) (by decide) (by decide) (by decide)) (dg_sm.uf (WF := []) (WA := [24]) dg_sm.rf e_1627 sM_24 (by decide)) (by decide) (by decide) (by decide) (by decide)) m_1629 (by decide) (by decide) (by decide) (by decide)) (dg_sm.uF (WF := [(0, 46)]) (WA := []) dg_sm.rf e_1634 sM_0 (by decide)) (by decide) (by decide) (by decide) (by decide)), trivial⟩ dX12_goesOn_399
              · have jc_1611 := dk_neqc (k := 0) (by decide +kernel) c_1611
                have jbc_1611 : 1 ≤ (x_1609).toInt := by omega
                clear jc_1611
                have w_1610_1_r := w_1610_1 (by omega)
                clear w_1610_1
                have hlx_2r := hlx_2 (by omega)
                clear hlx_2
                refine lv_iconst (v := 2) hx hb dX12_goesOn_351 (by decide +kernel) ?_
                refine lv_goto (tgt := 356) hx hb dX12_goesOn_352 (by decide) ?_
                have hz_1640 : (2 : Int32).toInt = 2 := by decide +kernel
                refine dg_callv hS hA1 hA (va_runV (As := [.int 2]) (rest := []) F (c_m_joins l g D o S_2 2 (by decide +kernel) cd ((m_2.1 0 34 _ sM_0 (by decide)).trans f_cd) (by omega) om ((m_2.1 0 45 _ sM_0 (by decide)).trans f_om) (by omega) (by omega) (ZWM.keep ZW m_2 (by decide) (by decide) (by decide) (by decide)) (ZKM.keep ZK m_2 (by decide) (by decide)) (P1M.keep P1 m_2 (by decide) (by decide) (by decide) (by decide) (by decide) (by decide) (by decide) (by decide) (by decide) (by decide) (by decide) (by decide) (by decide) (by decide) (by decide)) I_2 H.size) (cwV 1 hts (bw_V wB_1234 wB_1235 wB_1236 wB_881 wB_1233) rfl rfl rfl (by decide +kernel) ⟨Nat.le_of_ble_eq_true rfl, Nat.le_of_ble_eq_true rfl⟩) (dg_preV sM_0 rfl K ST hP hS hA1 hA) rfl rfl hl.1 rfl (lv_room (Nat.le_of_ble_eq_true rfl)) dX12_goesOn_356 ⟨Nat.le_of_ble_eq_true rfl, Nat.le_of_ble_eq_true rfl⟩) (fun S_1641 hw_1641 H locs hP hS => ?_)
                obtain ⟨I_1641, m_1641, w_1641_0, w_1641_1, w_1641_2, w_1641_3, -⟩ := hw_1641
                have M_1641 := dg_sm.tr M_2 m_1641 (by decide) (by decide)
                have hz_1642 : (2 : Int32).toInt = 2 := by decide +kernel
                obtain ⟨y_1643, y_1644, f_y_1643, f_y_1644, w_1641_0⟩ := w_1641_0
                have w_1641_0 : (y_1643).toInt + (y_1644).toInt = (cd).toInt + (om).toInt := w_1641_0
                have b_y_1643 : 0 ≤ (y_1643).toInt ∧ (y_1643).toInt ≤ 1600 := dg_I.intb (lo := 0) (hi := 1600) I_1641 sM_0 (by decide +kernel) f_y_1643
                have b_y_1644 : 0 ≤ (y_1644).toInt ∧ (y_1644).toInt ≤ 500 := dg_I.intb (lo := 0) (hi := 500) I_1641 sM_0 (by decide +kernel) f_y_1644
                have w_1641_1 : TOPM S_1641 (2 : Int32) := w_1641_1
                obtain ⟨x_1645, f_x_1645, b_x_1645⟩ := dg_I.int (i := 0) (k := 43) (lo := (-2147483648)) (hi := 2147483647) I_1641 sM_0 (by decide +kernel)
                have hdm_1645 := PSM.dims w_1641_3 (((m_1641.1 0 42 _ sM_0 (by decide)).trans (m_2.1 0 42 _ sM_0 (by decide))).trans f_dp) f_x_1645 f_y_1644
                refine lv_aload_n hx hb dX12_goesOn_359 rfl (lv_at hl 4 rfl) ?_
                refine lv_iload hx hb dX12_goesOn_360 (lv_at hl 0 rfl) ?_
                refine lv_if_eq (tgt := 370) hx hb dX12_goesOn_362 (by decide) (fun c => absurd c (fun z => absurd (dk_eqc (k := 0) (by decide +kernel) z) (by omega))) (fun _ => ?_)
                refine lv_bipush (v := 41) hx hb dX12_goesOn_365 (by decide +kernel) ?_
                refine lv_goto (tgt := 372) hx hb dX12_goesOn_367 (by decide) ?_
                refine dg_callv hS hA1 hA (va_runV (As := [.int 41]) (rest := []) F (c_m_holdsBack l g D o S_1641 41 y_1644 f_y_1644 (by omega) I_1641 H.size) (cwV 1 hts (bw_V wB_1224 wB_1225 wB_1226 wB_881 wB_1223) rfl rfl rfl (by decide +kernel) ⟨Nat.le_of_ble_eq_true rfl, Nat.le_of_ble_eq_true rfl⟩) (dg_preV sM_0 rfl K ST hP hS hA1 hA) rfl rfl hl.1 rfl (lv_room (Nat.le_of_ble_eq_true rfl)) dX12_goesOn_372 ⟨Nat.le_of_ble_eq_true rfl, Nat.le_of_ble_eq_true rfl⟩) (fun S_1647 hw_1647 H locs hP hS => ?_)
                obtain ⟨I_1647, m_1647, w_1647_0, w_1647_1, -⟩ := hw_1647
                have M_1647 := dg_sm.tr M_1641 m_1647 (by decide) (by decide)
                have hz_1648 : (41 : Int32).toInt = 41 := by decide +kernel
                obtain ⟨y_1649, f_y_1649, w_1647_0⟩ := w_1647_0
                have w_1647_0 : (y_1649).toInt = (y_1644).toInt + 1 := w_1647_0
                have b_y_1649 : 0 ≤ (y_1649).toInt ∧ (y_1649).toInt ≤ 500 := dg_I.intb (lo := 0) (hi := 500) I_1647 sM_0 (by decide +kernel) f_y_1649
                have w_1647_1 : HBM S_1641 S_1647 (41 : Int32) := w_1647_1
                refine lv_aload_n hx hb dX12_goesOn_375 rfl (lv_at hl 4 rfl) ?_
                refine dg_get (C := RX12) (T := TX12) (N := 77) hx hb hts (fun w h => bw_mem (wU_X12 w h)) hown K hP sM_0 rfl 38 (by decide) (hts _ (bw_mem wB_1214)) (fun _ h9 => h9) (v := .ref (o + 23)) (show S_1647.1 0 38 = .ref (o + 23) from dg_I.rel (d := 23) I_1647 sM_0 (by decide +kernel)) dX12_goesOn_376 ?_
                refine lv_iload_n hx hb dX12_goesOn_379 rfl (lv_at hl 3 rfl) ?_
                refine lv_iconst (v := 0) hx hb dX12_goesOn_380 (by decide +kernel) ?_
                have hin_1650 : vp_in x_5 20 := (dk_inv (by omega) (by omega))
                have hz_1652 : (0 : Int32).toInt = 0 := by decide +kernel
                refine dg_iast hx hb K hP hS hA1 sM_23 hin_1650 dX12_goesOn_381 (fun S_1651 e_1651 H locs hP hS => ?_)
                have I_1651 := dg_I.ufu (lo := 0) (hi := 2) I_1647 e_1651 sM_23 (by decide +kernel) (show 0 ≤ ((0 : Int32)).toInt ∧ ((0 : Int32)).toInt ≤ 2 from (by decide +kernel))
                have M_1651 := dg_sm.uf M_1647 e_1651 sM_23 (by decide)
                have hz_1653 : (0 : Int32).toInt = 0 := by decide +kernel
                refine lv_aload_n hx hb dX12_goesOn_382 rfl (lv_at hl 4 rfl) ?_
                refine dg_get (C := RX12) (T := TX12) (N := 77) hx hb hts (fun w h => bw_mem (wU_X12 w h)) hown K hP sM_0 rfl 39 (by decide) (hts _ (bw_mem wB_1215)) (fun _ h9 => h9) (v := .ref (o + 24)) (show S_1651.1 0 39 = .ref (o + 24) from dg_I.rel (d := 24) I_1651 sM_0 (by decide +kernel)) dX12_goesOn_383 ?_
                refine lv_iload_n hx hb dX12_goesOn_386 rfl (lv_at hl 3 rfl) ?_
                refine lv_iconst (v := 1) hx hb dX12_goesOn_387 (by decide +kernel) ?_
                have hin_1654 : vp_in x_5 20 := (dk_inv (by omega) (by omega))
                have hz_1656 : (1 : Int32).toInt = 1 := by decide +kernel
                refine dg_zast hx hb K hP hS hA1 sM_24 hin_1654 (by decide +kernel) dX12_goesOn_388 (fun S_1655 e_1655 H locs hP hS => ?_)
                have I_1655 := dg_I.ufu (lo := 0) (hi := 1) I_1651 e_1655 sM_24 (by decide +kernel) (show 0 ≤ ((1 : Int32)).toInt ∧ ((1 : Int32)).toInt ≤ 1 from (by decide +kernel))
                have M_1655 := dg_sm.uf M_1651 e_1655 sM_24 (by decide)
                have P0_1655 : P0M S_1655 := P1M.andor w_1641_3 (((m_1641.1 0 42 _ sM_0 (by decide)).trans (m_2.1 0 42 _ sM_0 (by decide))).trans f_dp) f_x_1645 f_y_1644 w_1641_1 m_1647 w_1647_1 (by omega) (fx := x_5) (by omega) e_1651 e_1655
                refine lv_aload_n hx hb dX12_goesOn_389 rfl (lv_at hl 4 rfl) ?_
                refine dg_callv hS hA1 hA (va_runV (As := []) (rest := []) F (c_m_ahead l g D o S_1655 se (((dg_uf_F e_1655 0 5).trans ((dg_uf_F e_1651 0 5).trans ((m_1647.1 0 5 _ sM_0 (by decide)).trans ((m_1641.1 0 5 _ sM_0 (by decide)).trans (m_2.1 0 5 _ sM_0 (by decide)))))).trans f_se) (by omega) sl (((dg_uf_F e_1655 0 2).trans ((dg_uf_F e_1651 0 2).trans ((m_1647.1 0 2 _ sM_0 (by decide)).trans ((m_1641.1 0 2 _ sM_0 (by decide)).trans (m_2.1 0 2 _ sM_0 (by decide)))))).trans f_sl) (by omega) (by omega) I_1655 H.size) (cwV 0 hts (bw_V wB_1161 wB_1162 wB_1163 wB_881 wB_1160) rfl rfl rfl (by decide +kernel) ⟨Nat.le_of_ble_eq_true rfl, Nat.le_of_ble_eq_true rfl⟩) (dg_preV sM_0 rfl K ST hP hS hA1 hA) rfl rfl hl.1 rfl (lv_room (Nat.le_of_ble_eq_true rfl)) dX12_goesOn_390 ⟨Nat.le_of_ble_eq_true rfl, Nat.le_of_ble_eq_true rfl⟩) (fun S_1657 hw_1657 H locs hP hS => ?_)
                obtain ⟨I_1657, m_1657, w_1657_0, -⟩ := hw_1657
                have M_1657 := dg_sm.tr M_1655 m_1657 (by decide) (by decide)
                obtain ⟨y_1658, y_1659, y_1660, f_y_1658, f_y_1659, f_y_1660, w_1657_0⟩ := w_1657_0
                have w_1657_0 : (se).toInt ≤ (y_1659).toInt ∧ (y_1659).toInt ≤ (y_1660).toInt ∧ (y_1660).toInt ≤ (sl).toInt ∧ ((y_1658).toInt ≠ 0 → (y_1659).toInt + 1 ≤ (y_1660).toInt) := w_1657_0
                obtain ⟨w_1657_0_0, w_1657_0_1, w_1657_0_2, w_1657_0_3⟩ := w_1657_0
                have b_y_1658 : 0 ≤ (y_1658).toInt ∧ (y_1658).toInt ≤ 3 := dg_I.intb (lo := 0) (hi := 3) I_1657 sM_0 (by decide +kernel) f_y_1658
                have b_y_1659 : 0 ≤ (y_1659).toInt ∧ (y_1659).toInt ≤ 1600 := dg_I.intb (lo := 0) (hi := 1600) I_1657 sM_0 (by decide +kernel) f_y_1659
                have b_y_1660 : 0 ≤ (y_1660).toInt ∧ (y_1660).toInt ≤ 1600 := dg_I.intb (lo := 0) (hi := 1600) I_1657 sM_0 (by decide +kernel) f_y_1660
                refine lv_aload_n hx hb dX12_goesOn_393 rfl (lv_at hl 4 rfl) ?_
                refine lv_iconst (v := 0) hx hb dX12_goesOn_394 (by decide +kernel) ?_
                have hz_1661 : (0 : Int32).toInt = 0 := by decide +kernel
                refine dg_put (ci := 12) (v := .int 0) (ty := tyX12 46) (C := RX12) (T := TX12) (N := 77) hx hb hts (fun w h => bw_mem (wU_X12 w h)) tyX12 tyX12_ok nmX12 hown K hP hS hA1 sM_0 rfl 46 (by decide) (hts _ (bw_mem wB_1237)) (fun _ h9 => h9) rfl (by decide +kernel) (by decide +kernel) (by decide +kernel) dX12_goesOn_395 (fun S_1662 e_1662 H locs hP hS => ?_)
                have I_1662 := dg_I.uFi (lo := 0) (hi := 1) I_1657 e_1662 sM_0 (by decide +kernel) (show 0 ≤ ((0 : Int32)).toInt ∧ ((0 : Int32)).toInt ≤ 1 from (by decide +kernel))
                have M_1662 := dg_sm.uF M_1657 e_1662 sM_0 (by decide)
                refine lv_iconst (v := 1) hx hb dX12_goesOn_398 (by decide +kernel) ?_
                have hz_1663 : (1 : Int32).toInt = 1 := by decide +kernel
                have hz_1664 : (1 : Int32).toInt = 1 := by decide +kernel
                have hz_1665 : (0 : Int32).toInt = 0 := by decide +kernel
                have hz_1666 : (1 : Int32).toInt = 1 := by decide +kernel
                have hz_1667 : (0 : Int32).toInt = 0 := by decide +kernel
                refine W.widen (k := 0) (n := 0) (Nat.le_of_ble_eq_true rfl) (Nat.le_of_ble_eq_true rfl) ?_
                rw [hQ9]
                exact dg_iret hx hb hr hlocks (by decide +kernel) hP hS ⟨I_1662, M_1662, (by decide +kernel), ⟨y_1658, y_1659, y_1660, y_3, y_1643, dp, y_1649, 0, ((dg_uF_ne e_1662 (fun z => absurd z.2 (by decide))).trans f_y_1658), ((dg_uF_ne e_1662 (fun z => absurd z.2 (by decide))).trans f_y_1659), ((dg_uF_ne e_1662 (fun z => absurd z.2 (by decide))).trans f_y_1660), (((dg_uF_ne e_1662 (fun z => absurd z.2 (by decide))).trans ((m_1657.1 0 8 _ sM_0 (by decide)).trans ((dg_uf_F e_1655 0 8).trans ((dg_uf_F e_1651 0 8).trans ((m_1647.1 0 8 _ sM_0 (by decide)).trans (m_1641.1 0 8 _ sM_0 (by decide))))))).trans f_y_3), (((dg_uF_ne e_1662 (fun z => absurd z.2 (by decide))).trans ((m_1657.1 0 34 _ sM_0 (by decide)).trans ((dg_uf_F e_1655 0 34).trans ((dg_uf_F e_1651 0 34).trans (m_1647.1 0 34 _ sM_0 (by decide)))))).trans f_y_1643), (((dg_uF_ne e_1662 (fun z => absurd z.2 (by decide))).trans ((m_1657.1 0 42 _ sM_0 (by decide)).trans ((dg_uf_F e_1655 0 42).trans ((dg_uf_F e_1651 0 42).trans ((m_1647.1 0 42 _ sM_0 (by decide)).trans ((m_1641.1 0 42 _ sM_0 (by decide)).trans (m_2.1 0 42 _ sM_0 (by decide)))))))).trans f_dp), (((dg_uF_ne e_1662 (fun z => absurd z.2 (by decide))).trans ((m_1657.1 0 45 _ sM_0 (by decide)).trans ((dg_uf_F e_1655 0 45).trans (dg_uf_F e_1651 0 45)))).trans f_y_1649), (dg_uF_at e_1662), (by omega)⟩, (fun k9 hk9 hk0 => POM.mk0 (P0M.keep (P0M.keep P0_1655 m_1657 (by decide) (by decide) (by decide) (by decide) (by decide) (by decide) (by decide) (by decide) (by decide) (by decide) (by decide) (by decide) (by decide) (by decide) (by decide)) (dg_sm.uF (WF := [(0, 46)]) (WA := []) dg_sm.rf e_1662 sM_0 (by decide)) (by decide) (by decide) (by decide) (by decide) (by decide) (by decide) (by decide) (by decide) (by decide) (by decide) (by decide) (by decide) (by decide) (by decide) (by decide)) (dg_uF_at e_1662) (by omega)), (ZWM.keep (ZWM.keep (ZWM.keep (ZWM.keep (ZWM.keep w_1641_2 m_1647 (by decide) (by decide) (by decide) (by decide)) (dg_sm.uf (WF := []) (WA := [23]) dg_sm.rf e_1651 sM_23 (by decide)) (by decide) (by decide) (by decide) (by decide)) (dg_sm.uf (WF := []) (WA := [24]) dg_sm.rf e_1655 sM_24 (by decide)) (by decide) (by decide) (by decide) (by decide)) m_1657 (by decide) (by decide) (by decide) (by decide)) (dg_sm.uF (WF := [(0, 46)]) (WA := []) dg_sm.rf e_1662 sM_0 (by decide)) (by decide) (by decide) (by decide) (by decide)), trivial⟩ dX12_goesOn_399
            · have jc_1608 := dk_eqc (k := 0) (by decide +kernel) c_1608
              refine lv_aload_n hx hb dX12_goesOn_318 rfl (lv_at hl 3 rfl) ?_
              refine lv_iconst (v := 1) hx hb dX12_goesOn_319 (by decide +kernel) ?_
              refine lv_aload_n hx hb dX12_goesOn_320 rfl (lv_at hl 3 rfl) ?_
              refine dg_get (C := RX12) (T := TX12) (N := 77) hx hb hts (fun w h => bw_mem (wU_X12 w h)) hown K hP sM_0 rfl 4 (by decide) (hts _ (bw_mem wB_1145)) (fun _ h9 => h9) (v := .int sa) ((m_2.1 0 4 _ sM_0 (by decide)).trans f_sa) dX12_goesOn_321 ?_
              have hz_1668 : (1 : Int32).toInt = 1 := by decide +kernel
              refine dg_callv hS hA1 hA (va_runV (As := [.int 1, .int sa]) (rest := []) F (c_m_blame l g D o S_2 1 (by decide +kernel) sa y_3 f_y_3 (by omega) I_2 H.size) (cwV 2 hts (bw_V wB_1137 wB_1138 wB_1139 wB_881 wB_1136) rfl rfl rfl (by decide +kernel) ⟨Nat.le_of_ble_eq_true rfl, Nat.le_of_ble_eq_true rfl⟩) (dg_preV sM_0 rfl K ST hP hS hA1 hA) rfl rfl hl.1 rfl (lv_room (Nat.le_of_ble_eq_true rfl)) dX12_goesOn_324 ⟨Nat.le_of_ble_eq_true rfl, Nat.le_of_ble_eq_true rfl⟩) (fun S_1669 hw_1669 H locs hP hS => ?_)
              obtain ⟨I_1669, m_1669, w_1669_0, -⟩ := hw_1669
              have M_1669 := dg_sm.tr M_2 m_1669 (by decide) (by decide)
              have hz_1670 : (1 : Int32).toInt = 1 := by decide +kernel
              obtain ⟨y_1671, f_y_1671, w_1669_0⟩ := w_1669_0
              have w_1669_0 : ((y_3).toInt ≠ 0 → (y_1671).toInt = (y_3).toInt) ∧ ((y_3).toInt = 0 → (y_1671).toInt = ((1 : Int32)).toInt) := w_1669_0
              obtain ⟨w_1669_0_0, w_1669_0_1⟩ := w_1669_0
              clear w_1669_0_0
              have w_1669_0_1r := w_1669_0_1 (by omega)
              clear w_1669_0_1
              have b_y_1671 : 0 ≤ (y_1671).toInt ∧ (y_1671).toInt ≤ 6 := dg_I.intb (lo := 0) (hi := 6) I_1669 sM_0 (by decide +kernel) f_y_1671
              have hbl_y_1671 : 1 ≤ (y_1671).toInt := by omega
              refine lv_aload_n hx hb dX12_goesOn_327 rfl (lv_at hl 3 rfl) ?_
              refine dg_get (C := RX12) (T := TX12) (N := 77) hx hb hts (fun w h => bw_mem (wU_X12 w h)) hown K hP sM_0 rfl 8 (by decide) (hts _ (bw_mem wB_1133)) (fun _ h9 => h9) (v := .int y_1671) f_y_1671 dX12_goesOn_328 ?_
              refine lv_if_le (tgt := 336) hx hb dX12_goesOn_331 (by decide) (fun c => absurd c (fun z => absurd (dk_lec (k := 0) (by decide +kernel) z) (by omega))) (fun _ => ?_)
              refine lv_iconst (v := 0) hx hb dX12_goesOn_334 (by decide +kernel) ?_
              have hz_1672 : (0 : Int32).toInt = 0 := by decide +kernel
              have hz_1673 : (0 : Int32).toInt = 0 := by decide +kernel
              have hz_1674 : (0 : Int32).toInt = 0 := by decide +kernel
              refine W.widen (k := 0) (n := 0) (Nat.le_of_ble_eq_true rfl) (Nat.le_of_ble_eq_true rfl) ?_
              rw [hQ9]
              exact dg_iret hx hb hr hlocks (by decide +kernel) hP hS ⟨I_1669, M_1669, (by decide +kernel), ⟨sg, sa, se, y_1671, cd, dp, om, oo, (((m_1669.1 0 3 _ sM_0 (by decide)).trans (m_2.1 0 3 _ sM_0 (by decide))).trans f_sg), (((m_1669.1 0 4 _ sM_0 (by decide)).trans (m_2.1 0 4 _ sM_0 (by decide))).trans f_sa), (((m_1669.1 0 5 _ sM_0 (by decide)).trans (m_2.1 0 5 _ sM_0 (by decide))).trans f_se), f_y_1671, (((m_1669.1 0 34 _ sM_0 (by decide)).trans (m_2.1 0 34 _ sM_0 (by decide))).trans f_cd), (((m_1669.1 0 42 _ sM_0 (by decide)).trans (m_2.1 0 42 _ sM_0 (by decide))).trans f_dp), (((m_1669.1 0 45 _ sM_0 (by decide)).trans (m_2.1 0 45 _ sM_0 (by decide))).trans f_om), (((m_1669.1 0 46 _ sM_0 (by decide)).trans (m_2.1 0 46 _ sM_0 (by decide))).trans f_oo), (by omega)⟩, (fun k9 hk9 hk0 => by have q9 := (f_y_1671).symm.trans hk9; cases q9; omega), (ZWM.keep (ZWM.keep ZW m_2 (by decide) (by decide) (by decide) (by decide)) m_1669 (by decide) (by decide) (by decide) (by decide)), trivial⟩ dX12_goesOn_335
          refine lv_if_ne (tgt := 309) hx hb dX12_goesOn_296 (by decide) (fun c_1675 => ?_) (fun c_1675 => ?_)
          · have jc_1675 := dk_neqc (k := 0) (by decide +kernel) c_1675
            have jbc_1675 : 1 ≤ (x_1530).toInt := by omega
            clear jc_1675
            have w_1531_1_r := w_1531_1 (by omega)
            clear w_1531_1
            have hlx_2r := hlx_2 (by omega)
            clear hlx_2
            exact J_1605 ()  (by omega) _ _ hP hS _ (lv_sub hl [0, 1, 2, 3] rfl)
          · have jc_1675 := dk_eqc (k := 0) (by decide +kernel) c_1675
            clear w_1531_1
            refine lv_aload_n hx hb dX12_goesOn_299 rfl (lv_at hl 3 rfl) ?_
            refine lv_ldc2 hx hb hown (hts _ (bw_mem wB_1189)) dX12_goesOn_300 ?_
            refine dg_calli hS hA1 hA (va_runV (As := [.long 28530]) (rest := []) F (c_m_isWord l g D o S_2 28530 sg ((m_2.1 0 3 _ sM_0 (by decide)).trans f_sg) (by omega) I_2 H.size) (cwV 1 hts (bw_V wB_1165 wB_1166 wB_1167 wB_881 wB_1164) rfl rfl rfl (by decide +kernel) ⟨Nat.le_of_ble_eq_true rfl, Nat.le_of_ble_eq_true rfl⟩) (dg_preV sM_0 rfl K ST hP hS hA1 hA) rfl rfl hl.1 rfl (lv_room (Nat.le_of_ble_eq_true rfl)) dX12_goesOn_303 ⟨Nat.le_of_ble_eq_true rfl, Nat.le_of_ble_eq_true rfl⟩) (fun x_1676 S_1677 hw_1677 H locs hP hS => ?_)
            rw [hw_1677.1] at hP
            obtain ⟨hq_1677, w_1677_0, w_1677_1, -⟩ := hw_1677
            have w_1677_0 : 0 ≤ (x_1676).toInt ∧ (x_1676).toInt ≤ 1 := w_1677_0
            have w_1677_1 : (x_1676).toInt = 1 → (sg).toInt = 1 := w_1677_1
            refine lv_if_eq (tgt := 400) hx hb dX12_goesOn_306 (by decide) (fun c_1678 => ?_) (fun c_1678 => ?_)
            · have jc_1678 := dk_eqc (k := 0) (by decide +kernel) c_1678
              clear w_1677_1
              exact J_964   _ _ hP hS _ (lv_sub hl [0, 1, 2, 3] rfl)
            · have jc_1678 := dk_neqc (k := 0) (by decide +kernel) c_1678
              have jbc_1678 : 1 ≤ (x_1676).toInt := by omega
              clear jc_1678
              have w_1677_1_r := w_1677_1 (by omega)
              clear w_1677_1
              have hlx_2r := hlx_2 (by omega)
              clear hlx_2
              exact J_1605 ()  (by omega) _ _ hP hS _ (lv_sub hl [0, 1, 2, 3] rfl)
      refine lv_if_eq (tgt := 285) hx hb dX12_goesOn_189 (by decide) (fun c_1679 => ?_) (fun c_1679 => ?_)
      · have jc_1679 := dk_eqc (k := 0) (by decide +kernel) c_1679
        clear w_9_1
        exact J_719   _ _ hP hS _ (lv_sub hl [0, 1, 2, 3] rfl)
      · have jc_1679 := dk_neqc (k := 0) (by decide +kernel) c_1679
        have jbc_1679 : 1 ≤ (x_8).toInt := by omega
        clear jc_1679
        have w_9_1_r := w_9_1.mp (by omega)
        clear w_9_1
        refine lv_aload_n hx hb dX12_goesOn_192 rfl (lv_at hl 3 rfl) ?_
        refine dg_get (C := RX12) (T := TX12) (N := 77) hx hb hts (fun w h => bw_mem (wU_X12 w h)) hown K hP sM_0 rfl 38 (by decide) (hts _ (bw_mem wB_1214)) (fun _ h9 => h9) (v := .ref (o + 23)) (show S_2.1 0 38 = .ref (o + 23) from dg_I.rel (d := 23) I_2 sM_0 (by decide +kernel)) dX12_goesOn_193 ?_
        refine lv_iload_n hx hb dX12_goesOn_196 rfl (lv_at hl 2 rfl) ?_
        have hin_1680 : vp_in x_5 20 := (dk_inv (by omega) (by omega))
        refine dg_iald hx hb K hP sM_23 hin_1680 dX12_goesOn_197 (fun y_1681 ey_1681 => ?_)
        obtain rfl : x_11 = y_1681 := (ey_1681.trans ex_11.symm).symm
        refine lv_if_ne (tgt := 285) hx hb dX12_goesOn_198 (by decide) (fun c_1682 => ?_) (fun c_1682 => ?_)
        · have jc_1682 := dk_neqc (k := 0) (by decide +kernel) c_1682
          have jbc_1682 : 1 ≤ (x_11).toInt := by omega
          clear jc_1682
          exact J_719   _ _ hP hS _ (lv_sub hl [0, 1, 2, 3] rfl)
        · have jc_1682 := dk_eqc (k := 0) (by decide +kernel) c_1682
          refine lv_aload_n hx hb dX12_goesOn_201 rfl (lv_at hl 3 rfl) ?_
          refine lv_bipush (v := 60) hx hb dX12_goesOn_202 (by decide +kernel) ?_
          refine dg_calli hS hA1 hA (va_runV (As := [.int 60]) (rest := []) F (c_m_isSign l g D o S_2 60 sg ((m_2.1 0 3 _ sM_0 (by decide)).trans f_sg) (by omega) va ((m_2.1 0 6 _ sM_0 (by decide)).trans f_va) (by omega) I_2 H.size) (cwV 1 hts (bw_V wB_1157 wB_1158 wB_1159 wB_881 wB_1156) rfl rfl rfl (by decide +kernel) ⟨Nat.le_of_ble_eq_true rfl, Nat.le_of_ble_eq_true rfl⟩) (dg_preV sM_0 rfl K ST hP hS hA1 hA) rfl rfl hl.1 rfl (lv_room (Nat.le_of_ble_eq_true rfl)) dX12_goesOn_204 ⟨Nat.le_of_ble_eq_true rfl, Nat.le_of_ble_eq_true rfl⟩) (fun x_1683 S_1684 hw_1684 H locs hP hS => ?_)
          rw [hw_1684.1] at hP
          obtain ⟨hq_1684, w_1684_0, w_1684_1, -⟩ := hw_1684
          have hz_1685 : (60 : Int32).toInt = 60 := by decide +kernel
          have w_1684_0 : 0 ≤ (x_1683).toInt ∧ (x_1683).toInt ≤ 1 := w_1684_0
          have w_1684_1 : (x_1683).toInt = 1 ↔ ((sg).toInt = 3 ∧ (va).toInt = ((60 : Int32)).toInt) := w_1684_1
          have J_1728 : ∀ (u9 : Unit), ((sg).toInt = 3) → ∀ (H : Heap) (locs : List Loc), va_P D vwCl (dg_w g shM o rfM S_2) H → va_S A s.heap H locs → ∀ ls : Array Slot, lv_has ls 5 [(3, .int x_8), (2, .int x_7), (1, .int x_5), (0, .ref (o + 0))] → W p l e ({ frames := 3, cells := 0, slots := 0, locals := 77 } : Room) s m args below meth c H locs 0 0 Q9 (F0 m 228 ls []) := by
            intro u9 rel_0 H locs hP hS ls hl
            clear w_1684_1
            refine lv_aload_n hx hb dX12_goesOn_228 rfl (lv_at hl 3 rfl) ?_
            refine lv_iconst (v := 5) hx hb dX12_goesOn_229 (by decide +kernel) ?_
            have hz_1729 : (5 : Int32).toInt = 5 := by decide +kernel
            refine dg_callv hS hA1 hA (va_runV (As := [.int 5]) (rest := []) F (c_m_joins l g D o S_2 5 (by decide +kernel) cd ((m_2.1 0 34 _ sM_0 (by decide)).trans f_cd) (by omega) om ((m_2.1 0 45 _ sM_0 (by decide)).trans f_om) (by omega) (by omega) (ZWM.keep ZW m_2 (by decide) (by decide) (by decide) (by decide)) (ZKM.keep ZK m_2 (by decide) (by decide)) (P1M.keep P1 m_2 (by decide) (by decide) (by decide) (by decide) (by decide) (by decide) (by decide) (by decide) (by decide) (by decide) (by decide) (by decide) (by decide) (by decide) (by decide)) I_2 H.size) (cwV 1 hts (bw_V wB_1234 wB_1235 wB_1236 wB_881 wB_1233) rfl rfl rfl (by decide +kernel) ⟨Nat.le_of_ble_eq_true rfl, Nat.le_of_ble_eq_true rfl⟩) (dg_preV sM_0 rfl K ST hP hS hA1 hA) rfl rfl hl.1 rfl (lv_room (Nat.le_of_ble_eq_true rfl)) dX12_goesOn_230 ⟨Nat.le_of_ble_eq_true rfl, Nat.le_of_ble_eq_true rfl⟩) (fun S_1730 hw_1730 H locs hP hS => ?_)
            obtain ⟨I_1730, m_1730, w_1730_0, w_1730_1, w_1730_2, w_1730_3, -⟩ := hw_1730
            have M_1730 := dg_sm.tr M_2 m_1730 (by decide) (by decide)
            have hz_1731 : (5 : Int32).toInt = 5 := by decide +kernel
            obtain ⟨y_1732, y_1733, f_y_1732, f_y_1733, w_1730_0⟩ := w_1730_0
            have w_1730_0 : (y_1732).toInt + (y_1733).toInt = (cd).toInt + (om).toInt := w_1730_0
            have b_y_1732 : 0 ≤ (y_1732).toInt ∧ (y_1732).toInt ≤ 1600 := dg_I.intb (lo := 0) (hi := 1600) I_1730 sM_0 (by decide +kernel) f_y_1732
            have b_y_1733 : 0 ≤ (y_1733).toInt ∧ (y_1733).toInt ≤ 500 := dg_I.intb (lo := 0) (hi := 500) I_1730 sM_0 (by decide +kernel) f_y_1733
            have w_1730_1 : TOPM S_1730 (5 : Int32) := w_1730_1
            obtain ⟨x_1734, f_x_1734, b_x_1734⟩ := dg_I.int (i := 0) (k := 43) (lo := (-2147483648)) (hi := 2147483647) I_1730 sM_0 (by decide +kernel)
            have hdm_1734 := PSM.dims w_1730_3 (((m_1730.1 0 42 _ sM_0 (by decide)).trans (m_2.1 0 42 _ sM_0 (by decide))).trans f_dp) f_x_1734 f_y_1733
            refine lv_aload_n hx hb dX12_goesOn_233 rfl (lv_at hl 3 rfl) ?_
            refine lv_aload_n hx hb dX12_goesOn_234 rfl (lv_at hl 3 rfl) ?_
            refine lv_bipush (v := 60) hx hb dX12_goesOn_235 (by decide +kernel) ?_
            refine dg_calli hS hA1 hA (va_runV (As := [.int 60]) (rest := [.ref (o + 0)]) F (c_m_isSign l g D o S_1730 60 sg (((m_1730.1 0 3 _ sM_0 (by decide)).trans (m_2.1 0 3 _ sM_0 (by decide))).trans f_sg) (by omega) va (((m_1730.1 0 6 _ sM_0 (by decide)).trans (m_2.1 0 6 _ sM_0 (by decide))).trans f_va) (by omega) I_1730 H.size) (cwV 1 hts (bw_V wB_1157 wB_1158 wB_1159 wB_881 wB_1156) rfl rfl rfl (by decide +kernel) ⟨Nat.le_of_ble_eq_true rfl, Nat.le_of_ble_eq_true rfl⟩) (dg_preV sM_0 rfl K ST hP hS hA1 hA) rfl rfl hl.1 rfl (lv_room (Nat.le_of_ble_eq_true rfl)) dX12_goesOn_237 ⟨Nat.le_of_ble_eq_true rfl, Nat.le_of_ble_eq_true rfl⟩) (fun x_1736 S_1737 hw_1737 H locs hP hS => ?_)
            rw [hw_1737.1] at hP
            obtain ⟨hq_1737, w_1737_0, w_1737_1, -⟩ := hw_1737
            have hz_1738 : (60 : Int32).toInt = 60 := by decide +kernel
            have w_1737_0 : 0 ≤ (x_1736).toInt ∧ (x_1736).toInt ≤ 1 := w_1737_0
            have w_1737_1 : (x_1736).toInt = 1 ↔ ((sg).toInt = 3 ∧ (va).toInt = ((60 : Int32)).toInt) := w_1737_1
            have J_1762 : ∀ (x_1744 : Int32), (38 ≤ (x_1744).toInt ∧ (x_1744).toInt ≤ 40) → ∀ (H : Heap) (locs : List Loc), va_P D vwCl (dg_w g shM o rfM S_1730) H → va_S A s.heap H locs → ∀ ls : Array Slot, lv_has ls 5 [(3, .int x_8), (2, .int x_7), (1, .int x_5), (0, .ref (o + 0))] → W p l e ({ frames := 3, cells := 0, slots := 0, locals := 77 } : Room) s m args below meth c H locs 0 0 Q9 (F0 m 264 ls [.int x_1744, .ref (o + 0)]) := by
              intro x_1744 b_x_1744 H locs hP hS ls hl
              clear w_1737_1
              refine dg_callv hS hA1 hA (va_runV (As := [.int x_1744]) (rest := []) F (c_m_holdsBack l g D o S_1730 x_1744 y_1733 f_y_1733 (by omega) I_1730 H.size) (cwV 1 hts (bw_V wB_1224 wB_1225 wB_1226 wB_881 wB_1223) rfl rfl rfl (by decide +kernel) ⟨Nat.le_of_ble_eq_true rfl, Nat.le_of_ble_eq_true rfl⟩) (dg_preV sM_0 rfl K ST hP hS hA1 hA) rfl rfl hl.1 rfl (lv_room (Nat.le_of_ble_eq_true rfl)) dX12_goesOn_264 ⟨Nat.le_of_ble_eq_true rfl, Nat.le_of_ble_eq_true rfl⟩) (fun S_1763 hw_1763 H locs hP hS => ?_)
              obtain ⟨I_1763, m_1763, w_1763_0, w_1763_1, -⟩ := hw_1763
              have M_1763 := dg_sm.tr M_1730 m_1763 (by decide) (by decide)
              obtain ⟨y_1764, f_y_1764, w_1763_0⟩ := w_1763_0
              have w_1763_0 : (y_1764).toInt = (y_1733).toInt + 1 := w_1763_0
              have b_y_1764 : 0 ≤ (y_1764).toInt ∧ (y_1764).toInt ≤ 500 := dg_I.intb (lo := 0) (hi := 500) I_1763 sM_0 (by decide +kernel) f_y_1764
              have w_1763_1 : HBM S_1730 S_1763 x_1744 := w_1763_1
              refine lv_aload_n hx hb dX12_goesOn_267 rfl (lv_at hl 3 rfl) ?_
              refine dg_get (C := RX12) (T := TX12) (N := 77) hx hb hts (fun w h => bw_mem (wU_X12 w h)) hown K hP sM_0 rfl 38 (by decide) (hts _ (bw_mem wB_1214)) (fun _ h9 => h9) (v := .ref (o + 23)) (show S_1763.1 0 38 = .ref (o + 23) from dg_I.rel (d := 23) I_1763 sM_0 (by decide +kernel)) dX12_goesOn_268 ?_
              refine lv_iload_n hx hb dX12_goesOn_271 rfl (lv_at hl 2 rfl) ?_
              refine lv_iconst (v := 1) hx hb dX12_goesOn_272 (by decide +kernel) ?_
              have hin_1765 : vp_in x_5 20 := (dk_inv (by omega) (by omega))
              have hz_1767 : (1 : Int32).toInt = 1 := by decide +kernel
              refine dg_iast hx hb K hP hS hA1 sM_23 hin_1765 dX12_goesOn_273 (fun S_1766 e_1766 H locs hP hS => ?_)
              have I_1766 := dg_I.ufu (lo := 0) (hi := 2) I_1763 e_1766 sM_23 (by decide +kernel) (show 0 ≤ ((1 : Int32)).toInt ∧ ((1 : Int32)).toInt ≤ 2 from (by decide +kernel))
              have M_1766 := dg_sm.uf M_1763 e_1766 sM_23 (by decide)
              have hz_1768 : (1 : Int32).toInt = 1 := by decide +kernel
              have P0_1766 : P0M S_1766 := P1M.cmp w_1730_3 (((m_1730.1 0 42 _ sM_0 (by decide)).trans (m_2.1 0 42 _ sM_0 (by decide))).trans f_dp) f_x_1734 f_y_1733 w_1730_1 (by omega) m_1763 w_1763_1 (by omega) (fx := x_5) (by omega) ((congrFun (m_1730.2 22 _ sM_22 (by decide)).1 _).trans ex_7.symm) (by unfold dk_ts; omega) (by rw [((congrFun (m_1730.2 23 _ sM_23 (by decide)).1 _).trans ex_11.symm)]; omega) e_1766 (by omega)
              refine lv_aload_n hx hb dX12_goesOn_274 rfl (lv_at hl 3 rfl) ?_
              refine dg_callv hS hA1 hA (va_runV (As := []) (rest := []) F (c_m_ahead l g D o S_1766 se (((dg_uf_F e_1766 0 5).trans ((m_1763.1 0 5 _ sM_0 (by decide)).trans ((m_1730.1 0 5 _ sM_0 (by decide)).trans (m_2.1 0 5 _ sM_0 (by decide))))).trans f_se) (by omega) sl (((dg_uf_F e_1766 0 2).trans ((m_1763.1 0 2 _ sM_0 (by decide)).trans ((m_1730.1 0 2 _ sM_0 (by decide)).trans (m_2.1 0 2 _ sM_0 (by decide))))).trans f_sl) (by omega) (by omega) I_1766 H.size) (cwV 0 hts (bw_V wB_1161 wB_1162 wB_1163 wB_881 wB_1160) rfl rfl rfl (by decide +kernel) ⟨Nat.le_of_ble_eq_true rfl, Nat.le_of_ble_eq_true rfl⟩) (dg_preV sM_0 rfl K ST hP hS hA1 hA) rfl rfl hl.1 rfl (lv_room (Nat.le_of_ble_eq_true rfl)) dX12_goesOn_275 ⟨Nat.le_of_ble_eq_true rfl, Nat.le_of_ble_eq_true rfl⟩) (fun S_1769 hw_1769 H locs hP hS => ?_)
              obtain ⟨I_1769, m_1769, w_1769_0, -⟩ := hw_1769
              have M_1769 := dg_sm.tr M_1766 m_1769 (by decide) (by decide)
              obtain ⟨y_1770, y_1771, y_1772, f_y_1770, f_y_1771, f_y_1772, w_1769_0⟩ := w_1769_0
              have w_1769_0 : (se).toInt ≤ (y_1771).toInt ∧ (y_1771).toInt ≤ (y_1772).toInt ∧ (y_1772).toInt ≤ (sl).toInt ∧ ((y_1770).toInt ≠ 0 → (y_1771).toInt + 1 ≤ (y_1772).toInt) := w_1769_0
              obtain ⟨w_1769_0_0, w_1769_0_1, w_1769_0_2, w_1769_0_3⟩ := w_1769_0
              have b_y_1770 : 0 ≤ (y_1770).toInt ∧ (y_1770).toInt ≤ 3 := dg_I.intb (lo := 0) (hi := 3) I_1769 sM_0 (by decide +kernel) f_y_1770
              have b_y_1771 : 0 ≤ (y_1771).toInt ∧ (y_1771).toInt ≤ 1600 := dg_I.intb (lo := 0) (hi := 1600) I_1769 sM_0 (by decide +kernel) f_y_1771
              have b_y_1772 : 0 ≤ (y_1772).toInt ∧ (y_1772).toInt ≤ 1600 := dg_I.intb (lo := 0) (hi := 1600) I_1769 sM_0 (by decide +kernel) f_y_1772
              refine lv_aload_n hx hb dX12_goesOn_278 rfl (lv_at hl 3 rfl) ?_
              refine lv_iconst (v := 0) hx hb dX12_goesOn_279 (by decide +kernel) ?_
              have hz_1773 : (0 : Int32).toInt = 0 := by decide +kernel
              refine dg_put (ci := 12) (v := .int 0) (ty := tyX12 46) (C := RX12) (T := TX12) (N := 77) hx hb hts (fun w h => bw_mem (wU_X12 w h)) tyX12 tyX12_ok nmX12 hown K hP hS hA1 sM_0 rfl 46 (by decide) (hts _ (bw_mem wB_1237)) (fun _ h9 => h9) rfl (by decide +kernel) (by decide +kernel) (by decide +kernel) dX12_goesOn_280 (fun S_1774 e_1774 H locs hP hS => ?_)
              have I_1774 := dg_I.uFi (lo := 0) (hi := 1) I_1769 e_1774 sM_0 (by decide +kernel) (show 0 ≤ ((0 : Int32)).toInt ∧ ((0 : Int32)).toInt ≤ 1 from (by decide +kernel))
              have M_1774 := dg_sm.uF M_1769 e_1774 sM_0 (by decide)
              refine lv_iconst (v := 1) hx hb dX12_goesOn_283 (by decide +kernel) ?_
              have hz_1775 : (1 : Int32).toInt = 1 := by decide +kernel
              have hz_1776 : (1 : Int32).toInt = 1 := by decide +kernel
              have hz_1777 : (0 : Int32).toInt = 0 := by decide +kernel
              have hz_1778 : (1 : Int32).toInt = 1 := by decide +kernel
              have hz_1779 : (0 : Int32).toInt = 0 := by decide +kernel
              refine W.widen (k := 0) (n := 0) (Nat.le_of_ble_eq_true rfl) (Nat.le_of_ble_eq_true rfl) ?_
              rw [hQ9]
              exact dg_iret hx hb hr hlocks (by decide +kernel) hP hS ⟨I_1774, M_1774, (by decide +kernel), ⟨y_1770, y_1771, y_1772, y_3, y_1732, dp, y_1764, 0, ((dg_uF_ne e_1774 (fun z => absurd z.2 (by decide))).trans f_y_1770), ((dg_uF_ne e_1774 (fun z => absurd z.2 (by decide))).trans f_y_1771), ((dg_uF_ne e_1774 (fun z => absurd z.2 (by decide))).trans f_y_1772), (((dg_uF_ne e_1774 (fun z => absurd z.2 (by decide))).trans ((m_1769.1 0 8 _ sM_0 (by decide)).trans ((dg_uf_F e_1766 0 8).trans ((m_1763.1 0 8 _ sM_0 (by decide)).trans (m_1730.1 0 8 _ sM_0 (by decide)))))).trans f_y_3), (((dg_uF_ne e_1774 (fun z => absurd z.2 (by decide))).trans ((m_1769.1 0 34 _ sM_0 (by decide)).trans ((dg_uf_F e_1766 0 34).trans (m_1763.1 0 34 _ sM_0 (by decide))))).trans f_y_1732), (((dg_uF_ne e_1774 (fun z => absurd z.2 (by decide))).trans ((m_1769.1 0 42 _ sM_0 (by decide)).trans ((dg_uf_F e_1766 0 42).trans ((m_1763.1 0 42 _ sM_0 (by decide)).trans ((m_1730.1 0 42 _ sM_0 (by decide)).trans (m_2.1 0 42 _ sM_0 (by decide))))))).trans f_dp), (((dg_uF_ne e_1774 (fun z => absurd z.2 (by decide))).trans ((m_1769.1 0 45 _ sM_0 (by decide)).trans (dg_uf_F e_1766 0 45))).trans f_y_1764), (dg_uF_at e_1774), (by omega)⟩, (fun k9 hk9 hk0 => POM.mk0 (P0M.keep (P0M.keep P0_1766 m_1769 (by decide) (by decide) (by decide) (by decide) (by decide) (by decide) (by decide) (by decide) (by decide) (by decide) (by decide) (by decide) (by decide) (by decide) (by decide)) (dg_sm.uF (WF := [(0, 46)]) (WA := []) dg_sm.rf e_1774 sM_0 (by decide)) (by decide) (by decide) (by decide) (by decide) (by decide) (by decide) (by decide) (by decide) (by decide) (by decide) (by decide) (by decide) (by decide) (by decide) (by decide)) (dg_uF_at e_1774) (by omega)), (ZWM.keep (ZWM.keep (ZWM.keep (ZWM.keep w_1730_2 m_1763 (by decide) (by decide) (by decide) (by decide)) (dg_sm.uf (WF := []) (WA := [23]) dg_sm.rf e_1766 sM_23 (by decide)) (by decide) (by decide) (by decide) (by decide)) m_1769 (by decide) (by decide) (by decide) (by decide)) (dg_sm.uF (WF := [(0, 46)]) (WA := []) dg_sm.rf e_1774 sM_0 (by decide)) (by decide) (by decide) (by decide) (by decide)), trivial⟩ dX12_goesOn_284
            refine lv_if_eq (tgt := 248) hx hb dX12_goesOn_240 (by decide) (fun c_1780 => ?_) (fun c_1780 => ?_)
            · have jc_1780 := dk_eqc (k := 0) (by decide +kernel) c_1780
              clear w_1737_1
              refine lv_aload_n hx hb dX12_goesOn_248 rfl (lv_at hl 3 rfl) ?_
              refine lv_bipush (v := 62) hx hb dX12_goesOn_249 (by decide +kernel) ?_
              refine dg_calli hS hA1 hA (va_runV (As := [.int 62]) (rest := [.ref (o + 0)]) F (c_m_isSign l g D o S_1730 62 sg (((m_1730.1 0 3 _ sM_0 (by decide)).trans (m_2.1 0 3 _ sM_0 (by decide))).trans f_sg) (by omega) va (((m_1730.1 0 6 _ sM_0 (by decide)).trans (m_2.1 0 6 _ sM_0 (by decide))).trans f_va) (by omega) I_1730 H.size) (cwV 1 hts (bw_V wB_1157 wB_1158 wB_1159 wB_881 wB_1156) rfl rfl rfl (by decide +kernel) ⟨Nat.le_of_ble_eq_true rfl, Nat.le_of_ble_eq_true rfl⟩) (dg_preV sM_0 rfl K ST hP hS hA1 hA) rfl rfl hl.1 rfl (lv_room (Nat.le_of_ble_eq_true rfl)) dX12_goesOn_251 ⟨Nat.le_of_ble_eq_true rfl, Nat.le_of_ble_eq_true rfl⟩) (fun x_1781 S_1782 hw_1782 H locs hP hS => ?_)
              rw [hw_1782.1] at hP
              obtain ⟨hq_1782, w_1782_0, w_1782_1, -⟩ := hw_1782
              have hz_1783 : (62 : Int32).toInt = 62 := by decide +kernel
              have w_1782_0 : 0 ≤ (x_1781).toInt ∧ (x_1781).toInt ≤ 1 := w_1782_0
              have w_1782_1 : (x_1781).toInt = 1 ↔ ((sg).toInt = 3 ∧ (va).toInt = ((62 : Int32)).toInt) := w_1782_1
              refine lv_if_eq (tgt := 262) hx hb dX12_goesOn_254 (by decide) (fun c_1784 => ?_) (fun c_1784 => ?_)
              · have jc_1784 := dk_eqc (k := 0) (by decide +kernel) c_1784
                clear w_1782_1
                refine lv_bipush (v := 40) hx hb dX12_goesOn_262 (by decide +kernel) ?_
                have hz_1785 : (40 : Int32).toInt = 40 := by decide +kernel
                exact J_1762 40 (by decide +kernel) _ _ hP hS _ (lv_sub hl [0, 1, 2, 3] rfl)
              · have jc_1784 := dk_neqc (k := 0) (by decide +kernel) c_1784
                have jbc_1784 : 1 ≤ (x_1781).toInt := by omega
                clear jc_1784
                have w_1782_1_r := w_1782_1.mp (by omega)
                obtain ⟨w_1782_1_r1, w_1782_1_r2⟩ := w_1782_1_r
                clear w_1782_1
                have hlx_2r := hlx_2 (by omega)
                clear hlx_2
                refine lv_bipush (v := 39) hx hb dX12_goesOn_257 (by decide +kernel) ?_
                refine lv_goto (tgt := 264) hx hb dX12_goesOn_259 (by decide) ?_
                have hz_1786 : (39 : Int32).toInt = 39 := by decide +kernel
                exact J_1762 39 (by decide +kernel) _ _ hP hS _ (lv_sub hl [0, 1, 2, 3] rfl)
            · have jc_1780 := dk_neqc (k := 0) (by decide +kernel) c_1780
              have jbc_1780 : 1 ≤ (x_1736).toInt := by omega
              clear jc_1780
              have w_1737_1_r := w_1737_1.mp (by omega)
              obtain ⟨w_1737_1_r1, w_1737_1_r2⟩ := w_1737_1_r
              clear w_1737_1
              have hlx_2r := hlx_2 (by omega)
              clear hlx_2
              refine lv_bipush (v := 38) hx hb dX12_goesOn_243 (by decide +kernel) ?_
              refine lv_goto (tgt := 264) hx hb dX12_goesOn_245 (by decide) ?_
              have hz_1787 : (38 : Int32).toInt = 38 := by decide +kernel
              exact J_1762 38 (by decide +kernel) _ _ hP hS _ (lv_sub hl [0, 1, 2, 3] rfl)
          refine lv_if_ne (tgt := 228) hx hb dX12_goesOn_207 (by decide) (fun c_1788 => ?_) (fun c_1788 => ?_)
          · have jc_1788 := dk_neqc (k := 0) (by decide +kernel) c_1788
            have jbc_1788 : 1 ≤ (x_1683).toInt := by omega
            clear jc_1788
            have w_1684_1_r := w_1684_1.mp (by omega)
            obtain ⟨w_1684_1_r1, w_1684_1_r2⟩ := w_1684_1_r
            clear w_1684_1
            have hlx_2r := hlx_2 (by omega)
            clear hlx_2
            exact J_1728 ()  (by omega) _ _ hP hS _ (lv_sub hl [0, 1, 2, 3] rfl)
          · have jc_1788 := dk_eqc (k := 0) (by decide +kernel) c_1788
            clear w_1684_1
            refine lv_aload_n hx hb dX12_goesOn_210 rfl (lv_at hl 3 rfl) ?_
            refine lv_bipush (v := 62) hx hb dX12_goesOn_211 (by decide +kernel) ?_
            refine dg_calli hS hA1 hA (va_runV (As := [.int 62]) (rest := []) F (c_m_isSign l g D o S_2 62 sg ((m_2.1 0 3 _ sM_0 (by decide)).trans f_sg) (by omega) va ((m_2.1 0 6 _ sM_0 (by decide)).trans f_va) (by omega) I_2 H.size) (cwV 1 hts (bw_V wB_1157 wB_1158 wB_1159 wB_881 wB_1156) rfl rfl rfl (by decide +kernel) ⟨Nat.le_of_ble_eq_true rfl, Nat.le_of_ble_eq_true rfl⟩) (dg_preV sM_0 rfl K ST hP hS hA1 hA) rfl rfl hl.1 rfl (lv_room (Nat.le_of_ble_eq_true rfl)) dX12_goesOn_213 ⟨Nat.le_of_ble_eq_true rfl, Nat.le_of_ble_eq_true rfl⟩) (fun x_1789 S_1790 hw_1790 H locs hP hS => ?_)
            rw [hw_1790.1] at hP
            obtain ⟨hq_1790, w_1790_0, w_1790_1, -⟩ := hw_1790
            have hz_1791 : (62 : Int32).toInt = 62 := by decide +kernel
            have w_1790_0 : 0 ≤ (x_1789).toInt ∧ (x_1789).toInt ≤ 1 := w_1790_0
            have w_1790_1 : (x_1789).toInt = 1 ↔ ((sg).toInt = 3 ∧ (va).toInt = ((62 : Int32)).toInt) := w_1790_1
            refine lv_if_ne (tgt := 228) hx hb dX12_goesOn_216 (by decide) (fun c_1792 => ?_) (fun c_1792 => ?_)
            · have jc_1792 := dk_neqc (k := 0) (by decide +kernel) c_1792
              have jbc_1792 : 1 ≤ (x_1789).toInt := by omega
              clear jc_1792
              have w_1790_1_r := w_1790_1.mp (by omega)
              obtain ⟨w_1790_1_r1, w_1790_1_r2⟩ := w_1790_1_r
              clear w_1790_1
              have hlx_2r := hlx_2 (by omega)
              clear hlx_2
              exact J_1728 ()  (by omega) _ _ hP hS _ (lv_sub hl [0, 1, 2, 3] rfl)
            · have jc_1792 := dk_eqc (k := 0) (by decide +kernel) c_1792
              clear w_1790_1
              refine lv_aload_n hx hb dX12_goesOn_219 rfl (lv_at hl 3 rfl) ?_
              refine lv_bipush (v := 61) hx hb dX12_goesOn_220 (by decide +kernel) ?_
              refine dg_calli hS hA1 hA (va_runV (As := [.int 61]) (rest := []) F (c_m_isSign l g D o S_2 61 sg ((m_2.1 0 3 _ sM_0 (by decide)).trans f_sg) (by omega) va ((m_2.1 0 6 _ sM_0 (by decide)).trans f_va) (by omega) I_2 H.size) (cwV 1 hts (bw_V wB_1157 wB_1158 wB_1159 wB_881 wB_1156) rfl rfl rfl (by decide +kernel) ⟨Nat.le_of_ble_eq_true rfl, Nat.le_of_ble_eq_true rfl⟩) (dg_preV sM_0 rfl K ST hP hS hA1 hA) rfl rfl hl.1 rfl (lv_room (Nat.le_of_ble_eq_true rfl)) dX12_goesOn_222 ⟨Nat.le_of_ble_eq_true rfl, Nat.le_of_ble_eq_true rfl⟩) (fun x_1793 S_1794 hw_1794 H locs hP hS => ?_)
              rw [hw_1794.1] at hP
              obtain ⟨hq_1794, w_1794_0, w_1794_1, -⟩ := hw_1794
              have hz_1795 : (61 : Int32).toInt = 61 := by decide +kernel
              have w_1794_0 : 0 ≤ (x_1793).toInt ∧ (x_1793).toInt ≤ 1 := w_1794_0
              have w_1794_1 : (x_1793).toInt = 1 ↔ ((sg).toInt = 3 ∧ (va).toInt = ((61 : Int32)).toInt) := w_1794_1
              refine lv_if_eq (tgt := 285) hx hb dX12_goesOn_225 (by decide) (fun c_1796 => ?_) (fun c_1796 => ?_)
              · have jc_1796 := dk_eqc (k := 0) (by decide +kernel) c_1796
                clear w_1794_1
                exact J_719   _ _ hP hS _ (lv_sub hl [0, 1, 2, 3] rfl)
              · have jc_1796 := dk_neqc (k := 0) (by decide +kernel) c_1796
                have jbc_1796 : 1 ≤ (x_1793).toInt := by omega
                clear jc_1796
                have w_1794_1_r := w_1794_1.mp (by omega)
                obtain ⟨w_1794_1_r1, w_1794_1_r2⟩ := w_1794_1_r
                clear w_1794_1
                have hlx_2r := hlx_2 (by omega)
                clear hlx_2
                exact J_1728 ()  (by omega) _ _ hP hS _ (lv_sub hl [0, 1, 2, 3] rfl)
    refine lv_icmp_ge (tgt := 188) hx hb dX12_goesOn_39 (by decide) (fun c_1797 => ?_) (fun c_1797 => ?_)
    · have jc_1797 := dk_gec (k := 2) (by decide +kernel) c_1797
      exact J_425   _ _ hP hS _ (lv_sub hl [0, 1, 2, 3] rfl)
    · have jc_1797 := dk_ngec (k := 2) (by decide +kernel) c_1797
      refine lv_aload_n hx hb dX12_goesOn_42 rfl (lv_at hl 3 rfl) ?_
      refine lv_bipush (v := 43) hx hb dX12_goesOn_43 (by decide +kernel) ?_
      refine dg_calli hS hA1 hA (va_runV (As := [.int 43]) (rest := []) F (c_m_isSign l g D o S_2 43 sg ((m_2.1 0 3 _ sM_0 (by decide)).trans f_sg) (by omega) va ((m_2.1 0 6 _ sM_0 (by decide)).trans f_va) (by omega) I_2 H.size) (cwV 1 hts (bw_V wB_1157 wB_1158 wB_1159 wB_881 wB_1156) rfl rfl rfl (by decide +kernel) ⟨Nat.le_of_ble_eq_true rfl, Nat.le_of_ble_eq_true rfl⟩) (dg_preV sM_0 rfl K ST hP hS hA1 hA) rfl rfl hl.1 rfl (lv_room (Nat.le_of_ble_eq_true rfl)) dX12_goesOn_45 ⟨Nat.le_of_ble_eq_true rfl, Nat.le_of_ble_eq_true rfl⟩) (fun x_1798 S_1799 hw_1799 H locs hP hS => ?_)
      rw [hw_1799.1] at hP
      obtain ⟨hq_1799, w_1799_0, w_1799_1, -⟩ := hw_1799
      have hz_1800 : (43 : Int32).toInt = 43 := by decide +kernel
      have w_1799_0 : 0 ≤ (x_1798).toInt ∧ (x_1798).toInt ≤ 1 := w_1799_0
      have w_1799_1 : (x_1798).toInt = 1 ↔ ((sg).toInt = 3 ∧ (va).toInt = ((43 : Int32)).toInt) := w_1799_1
      have J_1917 : ∀ (u9 : Unit), ((sg).toInt = 3) → ((va).toInt = 43 ∨ (va).toInt = 45 ∨ (va).toInt = 42 ∨ (va).toInt = 47 ∨ (va).toInt = 37) → ∀ (H : Heap) (locs : List Loc), va_P D vwCl (dg_w g shM o rfM S_2) H → va_S A s.heap H locs → ∀ ls : Array Slot, lv_has ls 5 [(3, .int x_8), (2, .int x_7), (1, .int x_5), (0, .ref (o + 0))] → W p l e ({ frames := 3, cells := 0, slots := 0, locals := 77 } : Room) s m args below meth c H locs 0 0 Q9 (F0 m 87 ls []) := by
        intro u9 rel_0 rel_1 H locs hP hS ls hl
        clear w_1799_1
        have hlx_2r := hlx_2 (by omega)
        clear hlx_2
        refine lv_aload_n hx hb dX12_goesOn_87 rfl (lv_at hl 3 rfl) ?_
        refine lv_aload_n hx hb dX12_goesOn_88 rfl (lv_at hl 3 rfl) ?_
        refine lv_bipush (v := 43) hx hb dX12_goesOn_89 (by decide +kernel) ?_
        refine dg_calli hS hA1 hA (va_runV (As := [.int 43]) (rest := [.ref (o + 0)]) F (c_m_isSign l g D o S_2 43 sg ((m_2.1 0 3 _ sM_0 (by decide)).trans f_sg) (by omega) va ((m_2.1 0 6 _ sM_0 (by decide)).trans f_va) (by omega) I_2 H.size) (cwV 1 hts (bw_V wB_1157 wB_1158 wB_1159 wB_881 wB_1156) rfl rfl rfl (by decide +kernel) ⟨Nat.le_of_ble_eq_true rfl, Nat.le_of_ble_eq_true rfl⟩) (dg_preV sM_0 rfl K ST hP hS hA1 hA) rfl rfl hl.1 rfl (lv_room (Nat.le_of_ble_eq_true rfl)) dX12_goesOn_91 ⟨Nat.le_of_ble_eq_true rfl, Nat.le_of_ble_eq_true rfl⟩) (fun x_1918 S_1919 hw_1919 H locs hP hS => ?_)
        rw [hw_1919.1] at hP
        obtain ⟨hq_1919, w_1919_0, w_1919_1, -⟩ := hw_1919
        have hz_1920 : (43 : Int32).toInt = 43 := by decide +kernel
        have w_1919_0 : 0 ≤ (x_1918).toInt ∧ (x_1918).toInt ≤ 1 := w_1919_0
        have w_1919_1 : (x_1918).toInt = 1 ↔ ((sg).toInt = 3 ∧ (va).toInt = ((43 : Int32)).toInt) := w_1919_1
        refine lv_if_ne (tgt := 106) hx hb dX12_goesOn_94 (by decide) (fun c_1921 => ?_) (fun c_1921 => ?_)
        · have jc_1921 := dk_neqc (k := 0) (by decide +kernel) c_1921
          have jbc_1921 : 1 ≤ (x_1918).toInt := by omega
          clear jc_1921
          have w_1919_1_r := w_1919_1.mp (by omega)
          obtain ⟨w_1919_1_r1, w_1919_1_r2⟩ := w_1919_1_r
          clear rel_1
          clear w_1919_1
          refine lv_iconst (v := 5) hx hb dX12_goesOn_106 (by decide +kernel) ?_
          refine lv_goto (tgt := 112) hx hb dX12_goesOn_107 (by decide) ?_
          have hz_1922 : (5 : Int32).toInt = 5 := by decide +kernel
          refine dg_callv hS hA1 hA (va_runV (As := [.int 5]) (rest := []) F (c_m_joins l g D o S_2 5 (by decide +kernel) cd ((m_2.1 0 34 _ sM_0 (by decide)).trans f_cd) (by omega) om ((m_2.1 0 45 _ sM_0 (by decide)).trans f_om) (by omega) (by omega) (ZWM.keep ZW m_2 (by decide) (by decide) (by decide) (by decide)) (ZKM.keep ZK m_2 (by decide) (by decide)) (P1M.keep P1 m_2 (by decide) (by decide) (by decide) (by decide) (by decide) (by decide) (by decide) (by decide) (by decide) (by decide) (by decide) (by decide) (by decide) (by decide) (by decide)) I_2 H.size) (cwV 1 hts (bw_V wB_1234 wB_1235 wB_1236 wB_881 wB_1233) rfl rfl rfl (by decide +kernel) ⟨Nat.le_of_ble_eq_true rfl, Nat.le_of_ble_eq_true rfl⟩) (dg_preV sM_0 rfl K ST hP hS hA1 hA) rfl rfl hl.1 rfl (lv_room (Nat.le_of_ble_eq_true rfl)) dX12_goesOn_112 ⟨Nat.le_of_ble_eq_true rfl, Nat.le_of_ble_eq_true rfl⟩) (fun S_1923 hw_1923 H locs hP hS => ?_)
          obtain ⟨I_1923, m_1923, w_1923_0, w_1923_1, w_1923_2, w_1923_3, -⟩ := hw_1923
          have M_1923 := dg_sm.tr M_2 m_1923 (by decide) (by decide)
          have hz_1924 : (5 : Int32).toInt = 5 := by decide +kernel
          obtain ⟨y_1925, y_1926, f_y_1925, f_y_1926, w_1923_0⟩ := w_1923_0
          have w_1923_0 : (y_1925).toInt + (y_1926).toInt = (cd).toInt + (om).toInt := w_1923_0
          have b_y_1925 : 0 ≤ (y_1925).toInt ∧ (y_1925).toInt ≤ 1600 := dg_I.intb (lo := 0) (hi := 1600) I_1923 sM_0 (by decide +kernel) f_y_1925
          have b_y_1926 : 0 ≤ (y_1926).toInt ∧ (y_1926).toInt ≤ 500 := dg_I.intb (lo := 0) (hi := 500) I_1923 sM_0 (by decide +kernel) f_y_1926
          have w_1923_1 : TOPM S_1923 (5 : Int32) := w_1923_1
          obtain ⟨x_1927, f_x_1927, b_x_1927⟩ := dg_I.int (i := 0) (k := 43) (lo := (-2147483648)) (hi := 2147483647) I_1923 sM_0 (by decide +kernel)
          have hdm_1927 := PSM.dims w_1923_3 (((m_1923.1 0 42 _ sM_0 (by decide)).trans (m_2.1 0 42 _ sM_0 (by decide))).trans f_dp) f_x_1927 f_y_1926
          refine lv_aload_n hx hb dX12_goesOn_115 rfl (lv_at hl 3 rfl) ?_
          refine lv_aload_n hx hb dX12_goesOn_116 rfl (lv_at hl 3 rfl) ?_
          refine lv_bipush (v := 43) hx hb dX12_goesOn_117 (by decide +kernel) ?_
          refine dg_calli hS hA1 hA (va_runV (As := [.int 43]) (rest := [.ref (o + 0)]) F (c_m_isSign l g D o S_1923 43 sg (((m_1923.1 0 3 _ sM_0 (by decide)).trans (m_2.1 0 3 _ sM_0 (by decide))).trans f_sg) (by omega) va (((m_1923.1 0 6 _ sM_0 (by decide)).trans (m_2.1 0 6 _ sM_0 (by decide))).trans f_va) (by omega) I_1923 H.size) (cwV 1 hts (bw_V wB_1157 wB_1158 wB_1159 wB_881 wB_1156) rfl rfl rfl (by decide +kernel) ⟨Nat.le_of_ble_eq_true rfl, Nat.le_of_ble_eq_true rfl⟩) (dg_preV sM_0 rfl K ST hP hS hA1 hA) rfl rfl hl.1 rfl (lv_room (Nat.le_of_ble_eq_true rfl)) dX12_goesOn_119 ⟨Nat.le_of_ble_eq_true rfl, Nat.le_of_ble_eq_true rfl⟩) (fun x_1929 S_1930 hw_1930 H locs hP hS => ?_)
          rw [hw_1930.1] at hP
          obtain ⟨hq_1930, w_1930_0, w_1930_1, -⟩ := hw_1930
          have hz_1931 : (43 : Int32).toInt = 43 := by decide +kernel
          have w_1930_0 : 0 ≤ (x_1929).toInt ∧ (x_1929).toInt ≤ 1 := w_1930_0
          have w_1930_1 : (x_1929).toInt = 1 ↔ ((sg).toInt = 3 ∧ (va).toInt = ((43 : Int32)).toInt) := w_1930_1
          have J_1947 : ∀ (H : Heap) (locs : List Loc), va_P D vwCl (dg_w g shM o rfM S_1923) H → va_S A s.heap H locs → ∀ ls : Array Slot, lv_has ls 5 [(3, .int x_8), (2, .int x_7), (1, .int x_5), (0, .ref (o + 0))] → W p l e ({ frames := 3, cells := 0, slots := 0, locals := 77 } : Room) s m args below meth c H locs 0 0 Q9 (F0 m 174 ls [.int 31, .ref (o + 0)]) := by
            intro H locs hP hS ls hl
            clear w_1930_1
            refine dg_callv hS hA1 hA (va_runV (As := [.int 31]) (rest := []) F (c_m_holdsBack l g D o S_1923 31 y_1926 f_y_1926 (by omega) I_1923 H.size) (cwV 1 hts (bw_V wB_1224 wB_1225 wB_1226 wB_881 wB_1223) rfl rfl rfl (by decide +kernel) ⟨Nat.le_of_ble_eq_true rfl, Nat.le_of_ble_eq_true rfl⟩) (dg_preV sM_0 rfl K ST hP hS hA1 hA) rfl rfl hl.1 rfl (lv_room (Nat.le_of_ble_eq_true rfl)) dX12_goesOn_174 ⟨Nat.le_of_ble_eq_true rfl, Nat.le_of_ble_eq_true rfl⟩) (fun S_1948 hw_1948 H locs hP hS => ?_)
            obtain ⟨I_1948, m_1948, w_1948_0, w_1948_1, -⟩ := hw_1948
            have M_1948 := dg_sm.tr M_1923 m_1948 (by decide) (by decide)
            have hz_1949 : (31 : Int32).toInt = 31 := by decide +kernel
            obtain ⟨y_1950, f_y_1950, w_1948_0⟩ := w_1948_0
            have w_1948_0 : (y_1950).toInt = (y_1926).toInt + 1 := w_1948_0
            have b_y_1950 : 0 ≤ (y_1950).toInt ∧ (y_1950).toInt ≤ 500 := dg_I.intb (lo := 0) (hi := 500) I_1948 sM_0 (by decide +kernel) f_y_1950
            have w_1948_1 : HBM S_1923 S_1948 (31 : Int32) := w_1948_1
            have P0_1948 : P0M S_1948 := P1M.bin w_1923_3 (((m_1923.1 0 42 _ sM_0 (by decide)).trans (m_2.1 0 42 _ sM_0 (by decide))).trans f_dp) f_x_1927 f_y_1926 w_1923_1 m_1948 w_1948_1 (by omega)
            refine lv_aload_n hx hb dX12_goesOn_177 rfl (lv_at hl 3 rfl) ?_
            refine dg_callv hS hA1 hA (va_runV (As := []) (rest := []) F (c_m_ahead l g D o S_1948 se (((m_1948.1 0 5 _ sM_0 (by decide)).trans ((m_1923.1 0 5 _ sM_0 (by decide)).trans (m_2.1 0 5 _ sM_0 (by decide)))).trans f_se) (by omega) sl (((m_1948.1 0 2 _ sM_0 (by decide)).trans ((m_1923.1 0 2 _ sM_0 (by decide)).trans (m_2.1 0 2 _ sM_0 (by decide)))).trans f_sl) (by omega) (by omega) I_1948 H.size) (cwV 0 hts (bw_V wB_1161 wB_1162 wB_1163 wB_881 wB_1160) rfl rfl rfl (by decide +kernel) ⟨Nat.le_of_ble_eq_true rfl, Nat.le_of_ble_eq_true rfl⟩) (dg_preV sM_0 rfl K ST hP hS hA1 hA) rfl rfl hl.1 rfl (lv_room (Nat.le_of_ble_eq_true rfl)) dX12_goesOn_178 ⟨Nat.le_of_ble_eq_true rfl, Nat.le_of_ble_eq_true rfl⟩) (fun S_1951 hw_1951 H locs hP hS => ?_)
            obtain ⟨I_1951, m_1951, w_1951_0, -⟩ := hw_1951
            have M_1951 := dg_sm.tr M_1948 m_1951 (by decide) (by decide)
            obtain ⟨y_1952, y_1953, y_1954, f_y_1952, f_y_1953, f_y_1954, w_1951_0⟩ := w_1951_0
            have w_1951_0 : (se).toInt ≤ (y_1953).toInt ∧ (y_1953).toInt ≤ (y_1954).toInt ∧ (y_1954).toInt ≤ (sl).toInt ∧ ((y_1952).toInt ≠ 0 → (y_1953).toInt + 1 ≤ (y_1954).toInt) := w_1951_0
            obtain ⟨w_1951_0_0, w_1951_0_1, w_1951_0_2, w_1951_0_3⟩ := w_1951_0
            have b_y_1952 : 0 ≤ (y_1952).toInt ∧ (y_1952).toInt ≤ 3 := dg_I.intb (lo := 0) (hi := 3) I_1951 sM_0 (by decide +kernel) f_y_1952
            have b_y_1953 : 0 ≤ (y_1953).toInt ∧ (y_1953).toInt ≤ 1600 := dg_I.intb (lo := 0) (hi := 1600) I_1951 sM_0 (by decide +kernel) f_y_1953
            have b_y_1954 : 0 ≤ (y_1954).toInt ∧ (y_1954).toInt ≤ 1600 := dg_I.intb (lo := 0) (hi := 1600) I_1951 sM_0 (by decide +kernel) f_y_1954
            refine lv_aload_n hx hb dX12_goesOn_181 rfl (lv_at hl 3 rfl) ?_
            refine lv_iconst (v := 0) hx hb dX12_goesOn_182 (by decide +kernel) ?_
            have hz_1955 : (0 : Int32).toInt = 0 := by decide +kernel
            refine dg_put (ci := 12) (v := .int 0) (ty := tyX12 46) (C := RX12) (T := TX12) (N := 77) hx hb hts (fun w h => bw_mem (wU_X12 w h)) tyX12 tyX12_ok nmX12 hown K hP hS hA1 sM_0 rfl 46 (by decide) (hts _ (bw_mem wB_1237)) (fun _ h9 => h9) rfl (by decide +kernel) (by decide +kernel) (by decide +kernel) dX12_goesOn_183 (fun S_1956 e_1956 H locs hP hS => ?_)
            have I_1956 := dg_I.uFi (lo := 0) (hi := 1) I_1951 e_1956 sM_0 (by decide +kernel) (show 0 ≤ ((0 : Int32)).toInt ∧ ((0 : Int32)).toInt ≤ 1 from (by decide +kernel))
            have M_1956 := dg_sm.uF M_1951 e_1956 sM_0 (by decide)
            refine lv_iconst (v := 1) hx hb dX12_goesOn_186 (by decide +kernel) ?_
            have hz_1957 : (1 : Int32).toInt = 1 := by decide +kernel
            have hz_1958 : (1 : Int32).toInt = 1 := by decide +kernel
            have hz_1959 : (0 : Int32).toInt = 0 := by decide +kernel
            have hz_1960 : (1 : Int32).toInt = 1 := by decide +kernel
            have hz_1961 : (0 : Int32).toInt = 0 := by decide +kernel
            refine W.widen (k := 0) (n := 0) (Nat.le_of_ble_eq_true rfl) (Nat.le_of_ble_eq_true rfl) ?_
            rw [hQ9]
            exact dg_iret hx hb hr hlocks (by decide +kernel) hP hS ⟨I_1956, M_1956, (by decide +kernel), ⟨y_1952, y_1953, y_1954, y_3, y_1925, dp, y_1950, 0, ((dg_uF_ne e_1956 (fun z => absurd z.2 (by decide))).trans f_y_1952), ((dg_uF_ne e_1956 (fun z => absurd z.2 (by decide))).trans f_y_1953), ((dg_uF_ne e_1956 (fun z => absurd z.2 (by decide))).trans f_y_1954), (((dg_uF_ne e_1956 (fun z => absurd z.2 (by decide))).trans ((m_1951.1 0 8 _ sM_0 (by decide)).trans ((m_1948.1 0 8 _ sM_0 (by decide)).trans (m_1923.1 0 8 _ sM_0 (by decide))))).trans f_y_3), (((dg_uF_ne e_1956 (fun z => absurd z.2 (by decide))).trans ((m_1951.1 0 34 _ sM_0 (by decide)).trans (m_1948.1 0 34 _ sM_0 (by decide)))).trans f_y_1925), (((dg_uF_ne e_1956 (fun z => absurd z.2 (by decide))).trans ((m_1951.1 0 42 _ sM_0 (by decide)).trans ((m_1948.1 0 42 _ sM_0 (by decide)).trans ((m_1923.1 0 42 _ sM_0 (by decide)).trans (m_2.1 0 42 _ sM_0 (by decide)))))).trans f_dp), (((dg_uF_ne e_1956 (fun z => absurd z.2 (by decide))).trans (m_1951.1 0 45 _ sM_0 (by decide))).trans f_y_1950), (dg_uF_at e_1956), (by omega)⟩, (fun k9 hk9 hk0 => POM.mk0 (P0M.keep (P0M.keep P0_1948 m_1951 (by decide) (by decide) (by decide) (by decide) (by decide) (by decide) (by decide) (by decide) (by decide) (by decide) (by decide) (by decide) (by decide) (by decide) (by decide)) (dg_sm.uF (WF := [(0, 46)]) (WA := []) dg_sm.rf e_1956 sM_0 (by decide)) (by decide) (by decide) (by decide) (by decide) (by decide) (by decide) (by decide) (by decide) (by decide) (by decide) (by decide) (by decide) (by decide) (by decide) (by decide)) (dg_uF_at e_1956) (by omega)), (ZWM.keep (ZWM.keep (ZWM.keep w_1923_2 m_1948 (by decide) (by decide) (by decide) (by decide)) m_1951 (by decide) (by decide) (by decide) (by decide)) (dg_sm.uF (WF := [(0, 46)]) (WA := []) dg_sm.rf e_1956 sM_0 (by decide)) (by decide) (by decide) (by decide) (by decide)), trivial⟩ dX12_goesOn_187
          refine lv_if_eq (tgt := 130) hx hb dX12_goesOn_122 (by decide) (fun c_1962 => ?_) (fun c_1962 => ?_)
          · have jc_1962 := dk_eqc (k := 0) (by decide +kernel) c_1962
            have w_1930_1_r : (va).toInt ≠ 43 := fun q9 => absurd (w_1930_1.mpr ⟨by omega, by omega⟩) (by omega)
            clear w_1930_1
            omega
          · have jc_1962 := dk_neqc (k := 0) (by decide +kernel) c_1962
            have jbc_1962 : 1 ≤ (x_1929).toInt := by omega
            clear jc_1962
            have w_1930_1_r := w_1930_1.mp (by omega)
            obtain ⟨w_1930_1_r1, w_1930_1_r2⟩ := w_1930_1_r
            clear w_1930_1
            refine lv_bipush (v := 31) hx hb dX12_goesOn_125 (by decide +kernel) ?_
            refine lv_goto (tgt := 174) hx hb dX12_goesOn_127 (by decide) ?_
            exact J_1947   _ _ hP hS _ (lv_sub hl [0, 1, 2, 3] rfl)
        · have jc_1921 := dk_eqc (k := 0) (by decide +kernel) c_1921
          have w_1919_1_r : (va).toInt ≠ 43 := fun q9 => absurd (w_1919_1.mpr ⟨by omega, by omega⟩) (by omega)
          clear w_1919_1
          refine lv_aload_n hx hb dX12_goesOn_97 rfl (lv_at hl 3 rfl) ?_
          refine lv_bipush (v := 45) hx hb dX12_goesOn_98 (by decide +kernel) ?_
          refine dg_calli hS hA1 hA (va_runV (As := [.int 45]) (rest := [.ref (o + 0)]) F (c_m_isSign l g D o S_2 45 sg ((m_2.1 0 3 _ sM_0 (by decide)).trans f_sg) (by omega) va ((m_2.1 0 6 _ sM_0 (by decide)).trans f_va) (by omega) I_2 H.size) (cwV 1 hts (bw_V wB_1157 wB_1158 wB_1159 wB_881 wB_1156) rfl rfl rfl (by decide +kernel) ⟨Nat.le_of_ble_eq_true rfl, Nat.le_of_ble_eq_true rfl⟩) (dg_preV sM_0 rfl K ST hP hS hA1 hA) rfl rfl hl.1 rfl (lv_room (Nat.le_of_ble_eq_true rfl)) dX12_goesOn_100 ⟨Nat.le_of_ble_eq_true rfl, Nat.le_of_ble_eq_true rfl⟩) (fun x_1963 S_1964 hw_1964 H locs hP hS => ?_)
          rw [hw_1964.1] at hP
          obtain ⟨hq_1964, w_1964_0, w_1964_1, -⟩ := hw_1964
          have hz_1965 : (45 : Int32).toInt = 45 := by decide +kernel
          have w_1964_0 : 0 ≤ (x_1963).toInt ∧ (x_1963).toInt ≤ 1 := w_1964_0
          have w_1964_1 : (x_1963).toInt = 1 ↔ ((sg).toInt = 3 ∧ (va).toInt = ((45 : Int32)).toInt) := w_1964_1
          refine lv_if_eq (tgt := 110) hx hb dX12_goesOn_103 (by decide) (fun c_1966 => ?_) (fun c_1966 => ?_)
          · have jc_1966 := dk_eqc (k := 0) (by decide +kernel) c_1966
            have w_1964_1_r : (va).toInt ≠ 45 := fun q9 => absurd (w_1964_1.mpr ⟨by omega, by omega⟩) (by omega)
            clear w_1964_1
            refine lv_bipush (v := 6) hx hb dX12_goesOn_110 (by decide +kernel) ?_
            have hz_1967 : (6 : Int32).toInt = 6 := by decide +kernel
            refine dg_callv hS hA1 hA (va_runV (As := [.int 6]) (rest := []) F (c_m_joins l g D o S_2 6 (by decide +kernel) cd ((m_2.1 0 34 _ sM_0 (by decide)).trans f_cd) (by omega) om ((m_2.1 0 45 _ sM_0 (by decide)).trans f_om) (by omega) (by omega) (ZWM.keep ZW m_2 (by decide) (by decide) (by decide) (by decide)) (ZKM.keep ZK m_2 (by decide) (by decide)) (P1M.keep P1 m_2 (by decide) (by decide) (by decide) (by decide) (by decide) (by decide) (by decide) (by decide) (by decide) (by decide) (by decide) (by decide) (by decide) (by decide) (by decide)) I_2 H.size) (cwV 1 hts (bw_V wB_1234 wB_1235 wB_1236 wB_881 wB_1233) rfl rfl rfl (by decide +kernel) ⟨Nat.le_of_ble_eq_true rfl, Nat.le_of_ble_eq_true rfl⟩) (dg_preV sM_0 rfl K ST hP hS hA1 hA) rfl rfl hl.1 rfl (lv_room (Nat.le_of_ble_eq_true rfl)) dX12_goesOn_112 ⟨Nat.le_of_ble_eq_true rfl, Nat.le_of_ble_eq_true rfl⟩) (fun S_1968 hw_1968 H locs hP hS => ?_)
            obtain ⟨I_1968, m_1968, w_1968_0, w_1968_1, w_1968_2, w_1968_3, -⟩ := hw_1968
            have M_1968 := dg_sm.tr M_2 m_1968 (by decide) (by decide)
            have hz_1969 : (6 : Int32).toInt = 6 := by decide +kernel
            obtain ⟨y_1970, y_1971, f_y_1970, f_y_1971, w_1968_0⟩ := w_1968_0
            have w_1968_0 : (y_1970).toInt + (y_1971).toInt = (cd).toInt + (om).toInt := w_1968_0
            have b_y_1970 : 0 ≤ (y_1970).toInt ∧ (y_1970).toInt ≤ 1600 := dg_I.intb (lo := 0) (hi := 1600) I_1968 sM_0 (by decide +kernel) f_y_1970
            have b_y_1971 : 0 ≤ (y_1971).toInt ∧ (y_1971).toInt ≤ 500 := dg_I.intb (lo := 0) (hi := 500) I_1968 sM_0 (by decide +kernel) f_y_1971
            have w_1968_1 : TOPM S_1968 (6 : Int32) := w_1968_1
            obtain ⟨x_1972, f_x_1972, b_x_1972⟩ := dg_I.int (i := 0) (k := 43) (lo := (-2147483648)) (hi := 2147483647) I_1968 sM_0 (by decide +kernel)
            have hdm_1972 := PSM.dims w_1968_3 (((m_1968.1 0 42 _ sM_0 (by decide)).trans (m_2.1 0 42 _ sM_0 (by decide))).trans f_dp) f_x_1972 f_y_1971
            refine lv_aload_n hx hb dX12_goesOn_115 rfl (lv_at hl 3 rfl) ?_
            refine lv_aload_n hx hb dX12_goesOn_116 rfl (lv_at hl 3 rfl) ?_
            refine lv_bipush (v := 43) hx hb dX12_goesOn_117 (by decide +kernel) ?_
            refine dg_calli hS hA1 hA (va_runV (As := [.int 43]) (rest := [.ref (o + 0)]) F (c_m_isSign l g D o S_1968 43 sg (((m_1968.1 0 3 _ sM_0 (by decide)).trans (m_2.1 0 3 _ sM_0 (by decide))).trans f_sg) (by omega) va (((m_1968.1 0 6 _ sM_0 (by decide)).trans (m_2.1 0 6 _ sM_0 (by decide))).trans f_va) (by omega) I_1968 H.size) (cwV 1 hts (bw_V wB_1157 wB_1158 wB_1159 wB_881 wB_1156) rfl rfl rfl (by decide +kernel) ⟨Nat.le_of_ble_eq_true rfl, Nat.le_of_ble_eq_true rfl⟩) (dg_preV sM_0 rfl K ST hP hS hA1 hA) rfl rfl hl.1 rfl (lv_room (Nat.le_of_ble_eq_true rfl)) dX12_goesOn_119 ⟨Nat.le_of_ble_eq_true rfl, Nat.le_of_ble_eq_true rfl⟩) (fun x_1974 S_1975 hw_1975 H locs hP hS => ?_)
            rw [hw_1975.1] at hP
            obtain ⟨hq_1975, w_1975_0, w_1975_1, -⟩ := hw_1975
            have hz_1976 : (43 : Int32).toInt = 43 := by decide +kernel
            have w_1975_0 : 0 ≤ (x_1974).toInt ∧ (x_1974).toInt ≤ 1 := w_1975_0
            have w_1975_1 : (x_1974).toInt = 1 ↔ ((sg).toInt = 3 ∧ (va).toInt = ((43 : Int32)).toInt) := w_1975_1
            have J_2004 : ∀ (x_1990 : Int32), (33 ≤ (x_1990).toInt ∧ (x_1990).toInt ≤ 35) → (33 ≤ (x_1990 : Int32).toInt ∧ (x_1990 : Int32).toInt ≤ 35) → ∀ (H : Heap) (locs : List Loc), va_P D vwCl (dg_w g shM o rfM S_1968) H → va_S A s.heap H locs → ∀ ls : Array Slot, lv_has ls 5 [(3, .int x_8), (2, .int x_7), (1, .int x_5), (0, .ref (o + 0))] → W p l e ({ frames := 3, cells := 0, slots := 0, locals := 77 } : Room) s m args below meth c H locs 0 0 Q9 (F0 m 174 ls [.int x_1990, .ref (o + 0)]) := by
              clear rel_1 w_1919_1_r w_1964_1_r
              intro x_1990 b_x_1990 rel_0 H locs hP hS ls hl
              clear w_1975_1
              refine dg_callv hS hA1 hA (va_runV (As := [.int x_1990]) (rest := []) F (c_m_holdsBack l g D o S_1968 x_1990 y_1971 f_y_1971 (by omega) I_1968 H.size) (cwV 1 hts (bw_V wB_1224 wB_1225 wB_1226 wB_881 wB_1223) rfl rfl rfl (by decide +kernel) ⟨Nat.le_of_ble_eq_true rfl, Nat.le_of_ble_eq_true rfl⟩) (dg_preV sM_0 rfl K ST hP hS hA1 hA) rfl rfl hl.1 rfl (lv_room (Nat.le_of_ble_eq_true rfl)) dX12_goesOn_174 ⟨Nat.le_of_ble_eq_true rfl, Nat.le_of_ble_eq_true rfl⟩) (fun S_2005 hw_2005 H locs hP hS => ?_)
              obtain ⟨I_2005, m_2005, w_2005_0, w_2005_1, -⟩ := hw_2005
              have M_2005 := dg_sm.tr M_1968 m_2005 (by decide) (by decide)
              obtain ⟨y_2006, f_y_2006, w_2005_0⟩ := w_2005_0
              have w_2005_0 : (y_2006).toInt = (y_1971).toInt + 1 := w_2005_0
              have b_y_2006 : 0 ≤ (y_2006).toInt ∧ (y_2006).toInt ≤ 500 := dg_I.intb (lo := 0) (hi := 500) I_2005 sM_0 (by decide +kernel) f_y_2006
              have w_2005_1 : HBM S_1968 S_2005 x_1990 := w_2005_1
              have P0_2005 : P0M S_2005 := P1M.bin w_1968_3 (((m_1968.1 0 42 _ sM_0 (by decide)).trans (m_2.1 0 42 _ sM_0 (by decide))).trans f_dp) f_x_1972 f_y_1971 w_1968_1 m_2005 w_2005_1 (by omega)
              refine lv_aload_n hx hb dX12_goesOn_177 rfl (lv_at hl 3 rfl) ?_
              refine dg_callv hS hA1 hA (va_runV (As := []) (rest := []) F (c_m_ahead l g D o S_2005 se (((m_2005.1 0 5 _ sM_0 (by decide)).trans ((m_1968.1 0 5 _ sM_0 (by decide)).trans (m_2.1 0 5 _ sM_0 (by decide)))).trans f_se) (by omega) sl (((m_2005.1 0 2 _ sM_0 (by decide)).trans ((m_1968.1 0 2 _ sM_0 (by decide)).trans (m_2.1 0 2 _ sM_0 (by decide)))).trans f_sl) (by omega) (by omega) I_2005 H.size) (cwV 0 hts (bw_V wB_1161 wB_1162 wB_1163 wB_881 wB_1160) rfl rfl rfl (by decide +kernel) ⟨Nat.le_of_ble_eq_true rfl, Nat.le_of_ble_eq_true rfl⟩) (dg_preV sM_0 rfl K ST hP hS hA1 hA) rfl rfl hl.1 rfl (lv_room (Nat.le_of_ble_eq_true rfl)) dX12_goesOn_178 ⟨Nat.le_of_ble_eq_true rfl, Nat.le_of_ble_eq_true rfl⟩) (fun S_2007 hw_2007 H locs hP hS => ?_)
              obtain ⟨I_2007, m_2007, w_2007_0, -⟩ := hw_2007
              have M_2007 := dg_sm.tr M_2005 m_2007 (by decide) (by decide)
              obtain ⟨y_2008, y_2009, y_2010, f_y_2008, f_y_2009, f_y_2010, w_2007_0⟩ := w_2007_0
              have w_2007_0 : (se).toInt ≤ (y_2009).toInt ∧ (y_2009).toInt ≤ (y_2010).toInt ∧ (y_2010).toInt ≤ (sl).toInt ∧ ((y_2008).toInt ≠ 0 → (y_2009).toInt + 1 ≤ (y_2010).toInt) := w_2007_0
              obtain ⟨w_2007_0_0, w_2007_0_1, w_2007_0_2, w_2007_0_3⟩ := w_2007_0
              have b_y_2008 : 0 ≤ (y_2008).toInt ∧ (y_2008).toInt ≤ 3 := dg_I.intb (lo := 0) (hi := 3) I_2007 sM_0 (by decide +kernel) f_y_2008
              have b_y_2009 : 0 ≤ (y_2009).toInt ∧ (y_2009).toInt ≤ 1600 := dg_I.intb (lo := 0) (hi := 1600) I_2007 sM_0 (by decide +kernel) f_y_2009
              have b_y_2010 : 0 ≤ (y_2010).toInt ∧ (y_2010).toInt ≤ 1600 := dg_I.intb (lo := 0) (hi := 1600) I_2007 sM_0 (by decide +kernel) f_y_2010
              refine lv_aload_n hx hb dX12_goesOn_181 rfl (lv_at hl 3 rfl) ?_
              refine lv_iconst (v := 0) hx hb dX12_goesOn_182 (by decide +kernel) ?_
              have hz_2011 : (0 : Int32).toInt = 0 := by decide +kernel
              refine dg_put (ci := 12) (v := .int 0) (ty := tyX12 46) (C := RX12) (T := TX12) (N := 77) hx hb hts (fun w h => bw_mem (wU_X12 w h)) tyX12 tyX12_ok nmX12 hown K hP hS hA1 sM_0 rfl 46 (by decide) (hts _ (bw_mem wB_1237)) (fun _ h9 => h9) rfl (by decide +kernel) (by decide +kernel) (by decide +kernel) dX12_goesOn_183 (fun S_2012 e_2012 H locs hP hS => ?_)
              have I_2012 := dg_I.uFi (lo := 0) (hi := 1) I_2007 e_2012 sM_0 (by decide +kernel) (show 0 ≤ ((0 : Int32)).toInt ∧ ((0 : Int32)).toInt ≤ 1 from (by decide +kernel))
              have M_2012 := dg_sm.uF M_2007 e_2012 sM_0 (by decide)
              refine lv_iconst (v := 1) hx hb dX12_goesOn_186 (by decide +kernel) ?_
              have hz_2013 : (1 : Int32).toInt = 1 := by decide +kernel
              have hz_2014 : (1 : Int32).toInt = 1 := by decide +kernel
              have hz_2015 : (0 : Int32).toInt = 0 := by decide +kernel
              have hz_2016 : (1 : Int32).toInt = 1 := by decide +kernel
              have hz_2017 : (0 : Int32).toInt = 0 := by decide +kernel
              refine W.widen (k := 0) (n := 0) (Nat.le_of_ble_eq_true rfl) (Nat.le_of_ble_eq_true rfl) ?_
              rw [hQ9]
              exact dg_iret hx hb hr hlocks (by decide +kernel) hP hS ⟨I_2012, M_2012, (by decide +kernel), ⟨y_2008, y_2009, y_2010, y_3, y_1970, dp, y_2006, 0, ((dg_uF_ne e_2012 (fun z => absurd z.2 (by decide))).trans f_y_2008), ((dg_uF_ne e_2012 (fun z => absurd z.2 (by decide))).trans f_y_2009), ((dg_uF_ne e_2012 (fun z => absurd z.2 (by decide))).trans f_y_2010), (((dg_uF_ne e_2012 (fun z => absurd z.2 (by decide))).trans ((m_2007.1 0 8 _ sM_0 (by decide)).trans ((m_2005.1 0 8 _ sM_0 (by decide)).trans (m_1968.1 0 8 _ sM_0 (by decide))))).trans f_y_3), (((dg_uF_ne e_2012 (fun z => absurd z.2 (by decide))).trans ((m_2007.1 0 34 _ sM_0 (by decide)).trans (m_2005.1 0 34 _ sM_0 (by decide)))).trans f_y_1970), (((dg_uF_ne e_2012 (fun z => absurd z.2 (by decide))).trans ((m_2007.1 0 42 _ sM_0 (by decide)).trans ((m_2005.1 0 42 _ sM_0 (by decide)).trans ((m_1968.1 0 42 _ sM_0 (by decide)).trans (m_2.1 0 42 _ sM_0 (by decide)))))).trans f_dp), (((dg_uF_ne e_2012 (fun z => absurd z.2 (by decide))).trans (m_2007.1 0 45 _ sM_0 (by decide))).trans f_y_2006), (dg_uF_at e_2012), (by omega)⟩, (fun k9 hk9 hk0 => POM.mk0 (P0M.keep (P0M.keep P0_2005 m_2007 (by decide) (by decide) (by decide) (by decide) (by decide) (by decide) (by decide) (by decide) (by decide) (by decide) (by decide) (by decide) (by decide) (by decide) (by decide)) (dg_sm.uF (WF := [(0, 46)]) (WA := []) dg_sm.rf e_2012 sM_0 (by decide)) (by decide) (by decide) (by decide) (by decide) (by decide) (by decide) (by decide) (by decide) (by decide) (by decide) (by decide) (by decide) (by decide) (by decide) (by decide)) (dg_uF_at e_2012) (by omega)), (ZWM.keep (ZWM.keep (ZWM.keep w_1968_2 m_2005 (by decide) (by decide) (by decide) (by decide)) m_2007 (by decide) (by decide) (by decide) (by decide)) (dg_sm.uF (WF := [(0, 46)]) (WA := []) dg_sm.rf e_2012 sM_0 (by decide)) (by decide) (by decide) (by decide) (by decide)), trivial⟩ dX12_goesOn_187
            refine lv_if_eq (tgt := 130) hx hb dX12_goesOn_122 (by decide) (fun c_2018 => ?_) (fun c_2018 => ?_)
            · have jc_2018 := dk_eqc (k := 0) (by decide +kernel) c_2018
              have w_1975_1_r : (va).toInt ≠ 43 := fun q9 => absurd (w_1975_1.mpr ⟨by omega, by omega⟩) (by omega)
              clear w_1975_1
              refine lv_aload_n hx hb dX12_goesOn_130 rfl (lv_at hl 3 rfl) ?_
              refine lv_bipush (v := 45) hx hb dX12_goesOn_131 (by decide +kernel) ?_
              refine dg_calli hS hA1 hA (va_runV (As := [.int 45]) (rest := [.ref (o + 0)]) F (c_m_isSign l g D o S_1968 45 sg (((m_1968.1 0 3 _ sM_0 (by decide)).trans (m_2.1 0 3 _ sM_0 (by decide))).trans f_sg) (by omega) va (((m_1968.1 0 6 _ sM_0 (by decide)).trans (m_2.1 0 6 _ sM_0 (by decide))).trans f_va) (by omega) I_1968 H.size) (cwV 1 hts (bw_V wB_1157 wB_1158 wB_1159 wB_881 wB_1156) rfl rfl rfl (by decide +kernel) ⟨Nat.le_of_ble_eq_true rfl, Nat.le_of_ble_eq_true rfl⟩) (dg_preV sM_0 rfl K ST hP hS hA1 hA) rfl rfl hl.1 rfl (lv_room (Nat.le_of_ble_eq_true rfl)) dX12_goesOn_133 ⟨Nat.le_of_ble_eq_true rfl, Nat.le_of_ble_eq_true rfl⟩) (fun x_2019 S_2020 hw_2020 H locs hP hS => ?_)
              rw [hw_2020.1] at hP
              obtain ⟨hq_2020, w_2020_0, w_2020_1, -⟩ := hw_2020
              have hz_2021 : (45 : Int32).toInt = 45 := by decide +kernel
              have w_2020_0 : 0 ≤ (x_2019).toInt ∧ (x_2019).toInt ≤ 1 := w_2020_0
              have w_2020_1 : (x_2019).toInt = 1 ↔ ((sg).toInt = 3 ∧ (va).toInt = ((45 : Int32)).toInt) := w_2020_1
              refine lv_if_eq (tgt := 144) hx hb dX12_goesOn_136 (by decide) (fun c_2022 => ?_) (fun c_2022 => ?_)
              · have jc_2022 := dk_eqc (k := 0) (by decide +kernel) c_2022
                have w_2020_1_r : (va).toInt ≠ 45 := fun q9 => absurd (w_2020_1.mpr ⟨by omega, by omega⟩) (by omega)
                clear w_2020_1
                refine lv_aload_n hx hb dX12_goesOn_144 rfl (lv_at hl 3 rfl) ?_
                refine lv_bipush (v := 42) hx hb dX12_goesOn_145 (by decide +kernel) ?_
                refine dg_calli hS hA1 hA (va_runV (As := [.int 42]) (rest := [.ref (o + 0)]) F (c_m_isSign l g D o S_1968 42 sg (((m_1968.1 0 3 _ sM_0 (by decide)).trans (m_2.1 0 3 _ sM_0 (by decide))).trans f_sg) (by omega) va (((m_1968.1 0 6 _ sM_0 (by decide)).trans (m_2.1 0 6 _ sM_0 (by decide))).trans f_va) (by omega) I_1968 H.size) (cwV 1 hts (bw_V wB_1157 wB_1158 wB_1159 wB_881 wB_1156) rfl rfl rfl (by decide +kernel) ⟨Nat.le_of_ble_eq_true rfl, Nat.le_of_ble_eq_true rfl⟩) (dg_preV sM_0 rfl K ST hP hS hA1 hA) rfl rfl hl.1 rfl (lv_room (Nat.le_of_ble_eq_true rfl)) dX12_goesOn_147 ⟨Nat.le_of_ble_eq_true rfl, Nat.le_of_ble_eq_true rfl⟩) (fun x_2023 S_2024 hw_2024 H locs hP hS => ?_)
                rw [hw_2024.1] at hP
                obtain ⟨hq_2024, w_2024_0, w_2024_1, -⟩ := hw_2024
                have hz_2025 : (42 : Int32).toInt = 42 := by decide +kernel
                have w_2024_0 : 0 ≤ (x_2023).toInt ∧ (x_2023).toInt ≤ 1 := w_2024_0
                have w_2024_1 : (x_2023).toInt = 1 ↔ ((sg).toInt = 3 ∧ (va).toInt = ((42 : Int32)).toInt) := w_2024_1
                refine lv_if_eq (tgt := 158) hx hb dX12_goesOn_150 (by decide) (fun c_2026 => ?_) (fun c_2026 => ?_)
                · have jc_2026 := dk_eqc (k := 0) (by decide +kernel) c_2026
                  have w_2024_1_r : (va).toInt ≠ 42 := fun q9 => absurd (w_2024_1.mpr ⟨by omega, by omega⟩) (by omega)
                  clear w_2024_1
                  refine lv_aload_n hx hb dX12_goesOn_158 rfl (lv_at hl 3 rfl) ?_
                  refine lv_bipush (v := 47) hx hb dX12_goesOn_159 (by decide +kernel) ?_
                  refine dg_calli hS hA1 hA (va_runV (As := [.int 47]) (rest := [.ref (o + 0)]) F (c_m_isSign l g D o S_1968 47 sg (((m_1968.1 0 3 _ sM_0 (by decide)).trans (m_2.1 0 3 _ sM_0 (by decide))).trans f_sg) (by omega) va (((m_1968.1 0 6 _ sM_0 (by decide)).trans (m_2.1 0 6 _ sM_0 (by decide))).trans f_va) (by omega) I_1968 H.size) (cwV 1 hts (bw_V wB_1157 wB_1158 wB_1159 wB_881 wB_1156) rfl rfl rfl (by decide +kernel) ⟨Nat.le_of_ble_eq_true rfl, Nat.le_of_ble_eq_true rfl⟩) (dg_preV sM_0 rfl K ST hP hS hA1 hA) rfl rfl hl.1 rfl (lv_room (Nat.le_of_ble_eq_true rfl)) dX12_goesOn_161 ⟨Nat.le_of_ble_eq_true rfl, Nat.le_of_ble_eq_true rfl⟩) (fun x_2027 S_2028 hw_2028 H locs hP hS => ?_)
                  rw [hw_2028.1] at hP
                  obtain ⟨hq_2028, w_2028_0, w_2028_1, -⟩ := hw_2028
                  have hz_2029 : (47 : Int32).toInt = 47 := by decide +kernel
                  have w_2028_0 : 0 ≤ (x_2027).toInt ∧ (x_2027).toInt ≤ 1 := w_2028_0
                  have w_2028_1 : (x_2027).toInt = 1 ↔ ((sg).toInt = 3 ∧ (va).toInt = ((47 : Int32)).toInt) := w_2028_1
                  refine lv_if_eq (tgt := 172) hx hb dX12_goesOn_164 (by decide) (fun c_2030 => ?_) (fun c_2030 => ?_)
                  · have jc_2030 := dk_eqc (k := 0) (by decide +kernel) c_2030
                    have w_2028_1_r : (va).toInt ≠ 47 := fun q9 => absurd (w_2028_1.mpr ⟨by omega, by omega⟩) (by omega)
                    clear w_2028_1
                    refine lv_bipush (v := 35) hx hb dX12_goesOn_172 (by decide +kernel) ?_
                    have hz_2031 : (35 : Int32).toInt = 35 := by decide +kernel
                    have hz_2032 : (35 : Int32).toInt = 35 := by decide +kernel
                    exact J_2004 35 (by decide +kernel) (by omega) _ _ hP hS _ (lv_sub hl [0, 1, 2, 3] rfl)
                  · have jc_2030 := dk_neqc (k := 0) (by decide +kernel) c_2030
                    have jbc_2030 : 1 ≤ (x_2027).toInt := by omega
                    clear jc_2030
                    have w_2028_1_r := w_2028_1.mp (by omega)
                    obtain ⟨w_2028_1_r1, w_2028_1_r2⟩ := w_2028_1_r
                    clear rel_1 w_1919_1_r w_1964_1_r w_1975_1_r w_2020_1_r w_2024_1_r
                    clear w_2028_1
                    refine lv_bipush (v := 34) hx hb dX12_goesOn_167 (by decide +kernel) ?_
                    refine lv_goto (tgt := 174) hx hb dX12_goesOn_169 (by decide) ?_
                    have hz_2033 : (34 : Int32).toInt = 34 := by decide +kernel
                    have hz_2034 : (34 : Int32).toInt = 34 := by decide +kernel
                    exact J_2004 34 (by decide +kernel) (by omega) _ _ hP hS _ (lv_sub hl [0, 1, 2, 3] rfl)
                · have jc_2026 := dk_neqc (k := 0) (by decide +kernel) c_2026
                  have jbc_2026 : 1 ≤ (x_2023).toInt := by omega
                  clear jc_2026
                  have w_2024_1_r := w_2024_1.mp (by omega)
                  obtain ⟨w_2024_1_r1, w_2024_1_r2⟩ := w_2024_1_r
                  clear rel_1 w_1919_1_r w_1964_1_r w_1975_1_r w_2020_1_r
                  clear w_2024_1
                  refine lv_bipush (v := 33) hx hb dX12_goesOn_153 (by decide +kernel) ?_
                  refine lv_goto (tgt := 174) hx hb dX12_goesOn_155 (by decide) ?_
                  have hz_2035 : (33 : Int32).toInt = 33 := by decide +kernel
                  have hz_2036 : (33 : Int32).toInt = 33 := by decide +kernel
                  exact J_2004 33 (by decide +kernel) (by omega) _ _ hP hS _ (lv_sub hl [0, 1, 2, 3] rfl)
              · have jc_2022 := dk_neqc (k := 0) (by decide +kernel) c_2022
                have jbc_2022 : 1 ≤ (x_2019).toInt := by omega
                clear jc_2022
                have w_2020_1_r := w_2020_1.mp (by omega)
                obtain ⟨w_2020_1_r1, w_2020_1_r2⟩ := w_2020_1_r
                clear w_2020_1
                omega
            · have jc_2018 := dk_neqc (k := 0) (by decide +kernel) c_2018
              have jbc_2018 : 1 ≤ (x_1974).toInt := by omega
              clear jc_2018
              have w_1975_1_r := w_1975_1.mp (by omega)
              obtain ⟨w_1975_1_r1, w_1975_1_r2⟩ := w_1975_1_r
              clear w_1975_1
              omega
          · have jc_1966 := dk_neqc (k := 0) (by decide +kernel) c_1966
            have jbc_1966 : 1 ≤ (x_1963).toInt := by omega
            clear jc_1966
            have w_1964_1_r := w_1964_1.mp (by omega)
            obtain ⟨w_1964_1_r1, w_1964_1_r2⟩ := w_1964_1_r
            clear rel_1 w_1919_1_r
            clear w_1964_1
            refine lv_iconst (v := 5) hx hb dX12_goesOn_106 (by decide +kernel) ?_
            refine lv_goto (tgt := 112) hx hb dX12_goesOn_107 (by decide) ?_
            have hz_2037 : (5 : Int32).toInt = 5 := by decide +kernel
            refine dg_callv hS hA1 hA (va_runV (As := [.int 5]) (rest := []) F (c_m_joins l g D o S_2 5 (by decide +kernel) cd ((m_2.1 0 34 _ sM_0 (by decide)).trans f_cd) (by omega) om ((m_2.1 0 45 _ sM_0 (by decide)).trans f_om) (by omega) (by omega) (ZWM.keep ZW m_2 (by decide) (by decide) (by decide) (by decide)) (ZKM.keep ZK m_2 (by decide) (by decide)) (P1M.keep P1 m_2 (by decide) (by decide) (by decide) (by decide) (by decide) (by decide) (by decide) (by decide) (by decide) (by decide) (by decide) (by decide) (by decide) (by decide) (by decide)) I_2 H.size) (cwV 1 hts (bw_V wB_1234 wB_1235 wB_1236 wB_881 wB_1233) rfl rfl rfl (by decide +kernel) ⟨Nat.le_of_ble_eq_true rfl, Nat.le_of_ble_eq_true rfl⟩) (dg_preV sM_0 rfl K ST hP hS hA1 hA) rfl rfl hl.1 rfl (lv_room (Nat.le_of_ble_eq_true rfl)) dX12_goesOn_112 ⟨Nat.le_of_ble_eq_true rfl, Nat.le_of_ble_eq_true rfl⟩) (fun S_2038 hw_2038 H locs hP hS => ?_)
            obtain ⟨I_2038, m_2038, w_2038_0, w_2038_1, w_2038_2, w_2038_3, -⟩ := hw_2038
            have M_2038 := dg_sm.tr M_2 m_2038 (by decide) (by decide)
            have hz_2039 : (5 : Int32).toInt = 5 := by decide +kernel
            obtain ⟨y_2040, y_2041, f_y_2040, f_y_2041, w_2038_0⟩ := w_2038_0
            have w_2038_0 : (y_2040).toInt + (y_2041).toInt = (cd).toInt + (om).toInt := w_2038_0
            have b_y_2040 : 0 ≤ (y_2040).toInt ∧ (y_2040).toInt ≤ 1600 := dg_I.intb (lo := 0) (hi := 1600) I_2038 sM_0 (by decide +kernel) f_y_2040
            have b_y_2041 : 0 ≤ (y_2041).toInt ∧ (y_2041).toInt ≤ 500 := dg_I.intb (lo := 0) (hi := 500) I_2038 sM_0 (by decide +kernel) f_y_2041
            have w_2038_1 : TOPM S_2038 (5 : Int32) := w_2038_1
            obtain ⟨x_2042, f_x_2042, b_x_2042⟩ := dg_I.int (i := 0) (k := 43) (lo := (-2147483648)) (hi := 2147483647) I_2038 sM_0 (by decide +kernel)
            have hdm_2042 := PSM.dims w_2038_3 (((m_2038.1 0 42 _ sM_0 (by decide)).trans (m_2.1 0 42 _ sM_0 (by decide))).trans f_dp) f_x_2042 f_y_2041
            refine lv_aload_n hx hb dX12_goesOn_115 rfl (lv_at hl 3 rfl) ?_
            refine lv_aload_n hx hb dX12_goesOn_116 rfl (lv_at hl 3 rfl) ?_
            refine lv_bipush (v := 43) hx hb dX12_goesOn_117 (by decide +kernel) ?_
            refine dg_calli hS hA1 hA (va_runV (As := [.int 43]) (rest := [.ref (o + 0)]) F (c_m_isSign l g D o S_2038 43 sg (((m_2038.1 0 3 _ sM_0 (by decide)).trans (m_2.1 0 3 _ sM_0 (by decide))).trans f_sg) (by omega) va (((m_2038.1 0 6 _ sM_0 (by decide)).trans (m_2.1 0 6 _ sM_0 (by decide))).trans f_va) (by omega) I_2038 H.size) (cwV 1 hts (bw_V wB_1157 wB_1158 wB_1159 wB_881 wB_1156) rfl rfl rfl (by decide +kernel) ⟨Nat.le_of_ble_eq_true rfl, Nat.le_of_ble_eq_true rfl⟩) (dg_preV sM_0 rfl K ST hP hS hA1 hA) rfl rfl hl.1 rfl (lv_room (Nat.le_of_ble_eq_true rfl)) dX12_goesOn_119 ⟨Nat.le_of_ble_eq_true rfl, Nat.le_of_ble_eq_true rfl⟩) (fun x_2044 S_2045 hw_2045 H locs hP hS => ?_)
            rw [hw_2045.1] at hP
            obtain ⟨hq_2045, w_2045_0, w_2045_1, -⟩ := hw_2045
            have hz_2046 : (43 : Int32).toInt = 43 := by decide +kernel
            have w_2045_0 : 0 ≤ (x_2044).toInt ∧ (x_2044).toInt ≤ 1 := w_2045_0
            have w_2045_1 : (x_2044).toInt = 1 ↔ ((sg).toInt = 3 ∧ (va).toInt = ((43 : Int32)).toInt) := w_2045_1
            have J_2066 : ∀ (H : Heap) (locs : List Loc), va_P D vwCl (dg_w g shM o rfM S_2038) H → va_S A s.heap H locs → ∀ ls : Array Slot, lv_has ls 5 [(3, .int x_8), (2, .int x_7), (1, .int x_5), (0, .ref (o + 0))] → W p l e ({ frames := 3, cells := 0, slots := 0, locals := 77 } : Room) s m args below meth c H locs 0 0 Q9 (F0 m 174 ls [.int 32, .ref (o + 0)]) := by
              intro H locs hP hS ls hl
              clear w_2045_1
              refine dg_callv hS hA1 hA (va_runV (As := [.int 32]) (rest := []) F (c_m_holdsBack l g D o S_2038 32 y_2041 f_y_2041 (by omega) I_2038 H.size) (cwV 1 hts (bw_V wB_1224 wB_1225 wB_1226 wB_881 wB_1223) rfl rfl rfl (by decide +kernel) ⟨Nat.le_of_ble_eq_true rfl, Nat.le_of_ble_eq_true rfl⟩) (dg_preV sM_0 rfl K ST hP hS hA1 hA) rfl rfl hl.1 rfl (lv_room (Nat.le_of_ble_eq_true rfl)) dX12_goesOn_174 ⟨Nat.le_of_ble_eq_true rfl, Nat.le_of_ble_eq_true rfl⟩) (fun S_2067 hw_2067 H locs hP hS => ?_)
              obtain ⟨I_2067, m_2067, w_2067_0, w_2067_1, -⟩ := hw_2067
              have M_2067 := dg_sm.tr M_2038 m_2067 (by decide) (by decide)
              have hz_2068 : (32 : Int32).toInt = 32 := by decide +kernel
              obtain ⟨y_2069, f_y_2069, w_2067_0⟩ := w_2067_0
              have w_2067_0 : (y_2069).toInt = (y_2041).toInt + 1 := w_2067_0
              have b_y_2069 : 0 ≤ (y_2069).toInt ∧ (y_2069).toInt ≤ 500 := dg_I.intb (lo := 0) (hi := 500) I_2067 sM_0 (by decide +kernel) f_y_2069
              have w_2067_1 : HBM S_2038 S_2067 (32 : Int32) := w_2067_1
              have P0_2067 : P0M S_2067 := P1M.bin w_2038_3 (((m_2038.1 0 42 _ sM_0 (by decide)).trans (m_2.1 0 42 _ sM_0 (by decide))).trans f_dp) f_x_2042 f_y_2041 w_2038_1 m_2067 w_2067_1 (by omega)
              refine lv_aload_n hx hb dX12_goesOn_177 rfl (lv_at hl 3 rfl) ?_
              refine dg_callv hS hA1 hA (va_runV (As := []) (rest := []) F (c_m_ahead l g D o S_2067 se (((m_2067.1 0 5 _ sM_0 (by decide)).trans ((m_2038.1 0 5 _ sM_0 (by decide)).trans (m_2.1 0 5 _ sM_0 (by decide)))).trans f_se) (by omega) sl (((m_2067.1 0 2 _ sM_0 (by decide)).trans ((m_2038.1 0 2 _ sM_0 (by decide)).trans (m_2.1 0 2 _ sM_0 (by decide)))).trans f_sl) (by omega) (by omega) I_2067 H.size) (cwV 0 hts (bw_V wB_1161 wB_1162 wB_1163 wB_881 wB_1160) rfl rfl rfl (by decide +kernel) ⟨Nat.le_of_ble_eq_true rfl, Nat.le_of_ble_eq_true rfl⟩) (dg_preV sM_0 rfl K ST hP hS hA1 hA) rfl rfl hl.1 rfl (lv_room (Nat.le_of_ble_eq_true rfl)) dX12_goesOn_178 ⟨Nat.le_of_ble_eq_true rfl, Nat.le_of_ble_eq_true rfl⟩) (fun S_2070 hw_2070 H locs hP hS => ?_)
              obtain ⟨I_2070, m_2070, w_2070_0, -⟩ := hw_2070
              have M_2070 := dg_sm.tr M_2067 m_2070 (by decide) (by decide)
              obtain ⟨y_2071, y_2072, y_2073, f_y_2071, f_y_2072, f_y_2073, w_2070_0⟩ := w_2070_0
              have w_2070_0 : (se).toInt ≤ (y_2072).toInt ∧ (y_2072).toInt ≤ (y_2073).toInt ∧ (y_2073).toInt ≤ (sl).toInt ∧ ((y_2071).toInt ≠ 0 → (y_2072).toInt + 1 ≤ (y_2073).toInt) := w_2070_0
              obtain ⟨w_2070_0_0, w_2070_0_1, w_2070_0_2, w_2070_0_3⟩ := w_2070_0
              have b_y_2071 : 0 ≤ (y_2071).toInt ∧ (y_2071).toInt ≤ 3 := dg_I.intb (lo := 0) (hi := 3) I_2070 sM_0 (by decide +kernel) f_y_2071
              have b_y_2072 : 0 ≤ (y_2072).toInt ∧ (y_2072).toInt ≤ 1600 := dg_I.intb (lo := 0) (hi := 1600) I_2070 sM_0 (by decide +kernel) f_y_2072
              have b_y_2073 : 0 ≤ (y_2073).toInt ∧ (y_2073).toInt ≤ 1600 := dg_I.intb (lo := 0) (hi := 1600) I_2070 sM_0 (by decide +kernel) f_y_2073
              refine lv_aload_n hx hb dX12_goesOn_181 rfl (lv_at hl 3 rfl) ?_
              refine lv_iconst (v := 0) hx hb dX12_goesOn_182 (by decide +kernel) ?_
              have hz_2074 : (0 : Int32).toInt = 0 := by decide +kernel
              refine dg_put (ci := 12) (v := .int 0) (ty := tyX12 46) (C := RX12) (T := TX12) (N := 77) hx hb hts (fun w h => bw_mem (wU_X12 w h)) tyX12 tyX12_ok nmX12 hown K hP hS hA1 sM_0 rfl 46 (by decide) (hts _ (bw_mem wB_1237)) (fun _ h9 => h9) rfl (by decide +kernel) (by decide +kernel) (by decide +kernel) dX12_goesOn_183 (fun S_2075 e_2075 H locs hP hS => ?_)
              have I_2075 := dg_I.uFi (lo := 0) (hi := 1) I_2070 e_2075 sM_0 (by decide +kernel) (show 0 ≤ ((0 : Int32)).toInt ∧ ((0 : Int32)).toInt ≤ 1 from (by decide +kernel))
              have M_2075 := dg_sm.uF M_2070 e_2075 sM_0 (by decide)
              refine lv_iconst (v := 1) hx hb dX12_goesOn_186 (by decide +kernel) ?_
              have hz_2076 : (1 : Int32).toInt = 1 := by decide +kernel
              have hz_2077 : (1 : Int32).toInt = 1 := by decide +kernel
              have hz_2078 : (0 : Int32).toInt = 0 := by decide +kernel
              have hz_2079 : (1 : Int32).toInt = 1 := by decide +kernel
              have hz_2080 : (0 : Int32).toInt = 0 := by decide +kernel
              refine W.widen (k := 0) (n := 0) (Nat.le_of_ble_eq_true rfl) (Nat.le_of_ble_eq_true rfl) ?_
              rw [hQ9]
              exact dg_iret hx hb hr hlocks (by decide +kernel) hP hS ⟨I_2075, M_2075, (by decide +kernel), ⟨y_2071, y_2072, y_2073, y_3, y_2040, dp, y_2069, 0, ((dg_uF_ne e_2075 (fun z => absurd z.2 (by decide))).trans f_y_2071), ((dg_uF_ne e_2075 (fun z => absurd z.2 (by decide))).trans f_y_2072), ((dg_uF_ne e_2075 (fun z => absurd z.2 (by decide))).trans f_y_2073), (((dg_uF_ne e_2075 (fun z => absurd z.2 (by decide))).trans ((m_2070.1 0 8 _ sM_0 (by decide)).trans ((m_2067.1 0 8 _ sM_0 (by decide)).trans (m_2038.1 0 8 _ sM_0 (by decide))))).trans f_y_3), (((dg_uF_ne e_2075 (fun z => absurd z.2 (by decide))).trans ((m_2070.1 0 34 _ sM_0 (by decide)).trans (m_2067.1 0 34 _ sM_0 (by decide)))).trans f_y_2040), (((dg_uF_ne e_2075 (fun z => absurd z.2 (by decide))).trans ((m_2070.1 0 42 _ sM_0 (by decide)).trans ((m_2067.1 0 42 _ sM_0 (by decide)).trans ((m_2038.1 0 42 _ sM_0 (by decide)).trans (m_2.1 0 42 _ sM_0 (by decide)))))).trans f_dp), (((dg_uF_ne e_2075 (fun z => absurd z.2 (by decide))).trans (m_2070.1 0 45 _ sM_0 (by decide))).trans f_y_2069), (dg_uF_at e_2075), (by omega)⟩, (fun k9 hk9 hk0 => POM.mk0 (P0M.keep (P0M.keep P0_2067 m_2070 (by decide) (by decide) (by decide) (by decide) (by decide) (by decide) (by decide) (by decide) (by decide) (by decide) (by decide) (by decide) (by decide) (by decide) (by decide)) (dg_sm.uF (WF := [(0, 46)]) (WA := []) dg_sm.rf e_2075 sM_0 (by decide)) (by decide) (by decide) (by decide) (by decide) (by decide) (by decide) (by decide) (by decide) (by decide) (by decide) (by decide) (by decide) (by decide) (by decide) (by decide)) (dg_uF_at e_2075) (by omega)), (ZWM.keep (ZWM.keep (ZWM.keep w_2038_2 m_2067 (by decide) (by decide) (by decide) (by decide)) m_2070 (by decide) (by decide) (by decide) (by decide)) (dg_sm.uF (WF := [(0, 46)]) (WA := []) dg_sm.rf e_2075 sM_0 (by decide)) (by decide) (by decide) (by decide) (by decide)), trivial⟩ dX12_goesOn_187
            refine lv_if_eq (tgt := 130) hx hb dX12_goesOn_122 (by decide) (fun c_2081 => ?_) (fun c_2081 => ?_)
            · have jc_2081 := dk_eqc (k := 0) (by decide +kernel) c_2081
              have w_2045_1_r : (va).toInt ≠ 43 := fun q9 => absurd (w_2045_1.mpr ⟨by omega, by omega⟩) (by omega)
              clear w_2045_1
              refine lv_aload_n hx hb dX12_goesOn_130 rfl (lv_at hl 3 rfl) ?_
              refine lv_bipush (v := 45) hx hb dX12_goesOn_131 (by decide +kernel) ?_
              refine dg_calli hS hA1 hA (va_runV (As := [.int 45]) (rest := [.ref (o + 0)]) F (c_m_isSign l g D o S_2038 45 sg (((m_2038.1 0 3 _ sM_0 (by decide)).trans (m_2.1 0 3 _ sM_0 (by decide))).trans f_sg) (by omega) va (((m_2038.1 0 6 _ sM_0 (by decide)).trans (m_2.1 0 6 _ sM_0 (by decide))).trans f_va) (by omega) I_2038 H.size) (cwV 1 hts (bw_V wB_1157 wB_1158 wB_1159 wB_881 wB_1156) rfl rfl rfl (by decide +kernel) ⟨Nat.le_of_ble_eq_true rfl, Nat.le_of_ble_eq_true rfl⟩) (dg_preV sM_0 rfl K ST hP hS hA1 hA) rfl rfl hl.1 rfl (lv_room (Nat.le_of_ble_eq_true rfl)) dX12_goesOn_133 ⟨Nat.le_of_ble_eq_true rfl, Nat.le_of_ble_eq_true rfl⟩) (fun x_2082 S_2083 hw_2083 H locs hP hS => ?_)
              rw [hw_2083.1] at hP
              obtain ⟨hq_2083, w_2083_0, w_2083_1, -⟩ := hw_2083
              have hz_2084 : (45 : Int32).toInt = 45 := by decide +kernel
              have w_2083_0 : 0 ≤ (x_2082).toInt ∧ (x_2082).toInt ≤ 1 := w_2083_0
              have w_2083_1 : (x_2082).toInt = 1 ↔ ((sg).toInt = 3 ∧ (va).toInt = ((45 : Int32)).toInt) := w_2083_1
              refine lv_if_eq (tgt := 144) hx hb dX12_goesOn_136 (by decide) (fun c_2085 => ?_) (fun c_2085 => ?_)
              · have jc_2085 := dk_eqc (k := 0) (by decide +kernel) c_2085
                have w_2083_1_r : (va).toInt ≠ 45 := fun q9 => absurd (w_2083_1.mpr ⟨by omega, by omega⟩) (by omega)
                clear w_2083_1
                omega
              · have jc_2085 := dk_neqc (k := 0) (by decide +kernel) c_2085
                have jbc_2085 : 1 ≤ (x_2082).toInt := by omega
                clear jc_2085
                have w_2083_1_r := w_2083_1.mp (by omega)
                obtain ⟨w_2083_1_r1, w_2083_1_r2⟩ := w_2083_1_r
                clear w_2045_1_r
                clear w_2083_1
                refine lv_bipush (v := 32) hx hb dX12_goesOn_139 (by decide +kernel) ?_
                refine lv_goto (tgt := 174) hx hb dX12_goesOn_141 (by decide) ?_
                exact J_2066   _ _ hP hS _ (lv_sub hl [0, 1, 2, 3] rfl)
            · have jc_2081 := dk_neqc (k := 0) (by decide +kernel) c_2081
              have jbc_2081 : 1 ≤ (x_2044).toInt := by omega
              clear jc_2081
              have w_2045_1_r := w_2045_1.mp (by omega)
              obtain ⟨w_2045_1_r1, w_2045_1_r2⟩ := w_2045_1_r
              clear w_2045_1
              omega
      refine lv_if_ne (tgt := 87) hx hb dX12_goesOn_48 (by decide) (fun c_2086 => ?_) (fun c_2086 => ?_)
      · have jc_2086 := dk_neqc (k := 0) (by decide +kernel) c_2086
        have jbc_2086 : 1 ≤ (x_1798).toInt := by omega
        clear jc_2086
        have w_1799_1_r := w_1799_1.mp (by omega)
        obtain ⟨w_1799_1_r1, w_1799_1_r2⟩ := w_1799_1_r
        clear w_1799_1
        have hlx_2r := hlx_2 (by omega)
        clear hlx_2
        exact J_1917 ()  (by omega) (by omega) _ _ hP hS _ (lv_sub hl [0, 1, 2, 3] rfl)
      · have jc_2086 := dk_eqc (k := 0) (by decide +kernel) c_2086
        clear w_1799_1
        refine lv_aload_n hx hb dX12_goesOn_51 rfl (lv_at hl 3 rfl) ?_
        refine lv_bipush (v := 45) hx hb dX12_goesOn_52 (by decide +kernel) ?_
        refine dg_calli hS hA1 hA (va_runV (As := [.int 45]) (rest := []) F (c_m_isSign l g D o S_2 45 sg ((m_2.1 0 3 _ sM_0 (by decide)).trans f_sg) (by omega) va ((m_2.1 0 6 _ sM_0 (by decide)).trans f_va) (by omega) I_2 H.size) (cwV 1 hts (bw_V wB_1157 wB_1158 wB_1159 wB_881 wB_1156) rfl rfl rfl (by decide +kernel) ⟨Nat.le_of_ble_eq_true rfl, Nat.le_of_ble_eq_true rfl⟩) (dg_preV sM_0 rfl K ST hP hS hA1 hA) rfl rfl hl.1 rfl (lv_room (Nat.le_of_ble_eq_true rfl)) dX12_goesOn_54 ⟨Nat.le_of_ble_eq_true rfl, Nat.le_of_ble_eq_true rfl⟩) (fun x_2087 S_2088 hw_2088 H locs hP hS => ?_)
        rw [hw_2088.1] at hP
        obtain ⟨hq_2088, w_2088_0, w_2088_1, -⟩ := hw_2088
        have hz_2089 : (45 : Int32).toInt = 45 := by decide +kernel
        have w_2088_0 : 0 ≤ (x_2087).toInt ∧ (x_2087).toInt ≤ 1 := w_2088_0
        have w_2088_1 : (x_2087).toInt = 1 ↔ ((sg).toInt = 3 ∧ (va).toInt = ((45 : Int32)).toInt) := w_2088_1
        refine lv_if_ne (tgt := 87) hx hb dX12_goesOn_57 (by decide) (fun c_2090 => ?_) (fun c_2090 => ?_)
        · have jc_2090 := dk_neqc (k := 0) (by decide +kernel) c_2090
          have jbc_2090 : 1 ≤ (x_2087).toInt := by omega
          clear jc_2090
          have w_2088_1_r := w_2088_1.mp (by omega)
          obtain ⟨w_2088_1_r1, w_2088_1_r2⟩ := w_2088_1_r
          clear w_2088_1
          have hlx_2r := hlx_2 (by omega)
          clear hlx_2
          exact J_1917 ()  (by omega) (by omega) _ _ hP hS _ (lv_sub hl [0, 1, 2, 3] rfl)
        · have jc_2090 := dk_eqc (k := 0) (by decide +kernel) c_2090
          clear w_2088_1
          refine lv_aload_n hx hb dX12_goesOn_60 rfl (lv_at hl 3 rfl) ?_
          refine lv_bipush (v := 42) hx hb dX12_goesOn_61 (by decide +kernel) ?_
          refine dg_calli hS hA1 hA (va_runV (As := [.int 42]) (rest := []) F (c_m_isSign l g D o S_2 42 sg ((m_2.1 0 3 _ sM_0 (by decide)).trans f_sg) (by omega) va ((m_2.1 0 6 _ sM_0 (by decide)).trans f_va) (by omega) I_2 H.size) (cwV 1 hts (bw_V wB_1157 wB_1158 wB_1159 wB_881 wB_1156) rfl rfl rfl (by decide +kernel) ⟨Nat.le_of_ble_eq_true rfl, Nat.le_of_ble_eq_true rfl⟩) (dg_preV sM_0 rfl K ST hP hS hA1 hA) rfl rfl hl.1 rfl (lv_room (Nat.le_of_ble_eq_true rfl)) dX12_goesOn_63 ⟨Nat.le_of_ble_eq_true rfl, Nat.le_of_ble_eq_true rfl⟩) (fun x_2091 S_2092 hw_2092 H locs hP hS => ?_)
          rw [hw_2092.1] at hP
          obtain ⟨hq_2092, w_2092_0, w_2092_1, -⟩ := hw_2092
          have hz_2093 : (42 : Int32).toInt = 42 := by decide +kernel
          have w_2092_0 : 0 ≤ (x_2091).toInt ∧ (x_2091).toInt ≤ 1 := w_2092_0
          have w_2092_1 : (x_2091).toInt = 1 ↔ ((sg).toInt = 3 ∧ (va).toInt = ((42 : Int32)).toInt) := w_2092_1
          refine lv_if_ne (tgt := 87) hx hb dX12_goesOn_66 (by decide) (fun c_2094 => ?_) (fun c_2094 => ?_)
          · have jc_2094 := dk_neqc (k := 0) (by decide +kernel) c_2094
            have jbc_2094 : 1 ≤ (x_2091).toInt := by omega
            clear jc_2094
            have w_2092_1_r := w_2092_1.mp (by omega)
            obtain ⟨w_2092_1_r1, w_2092_1_r2⟩ := w_2092_1_r
            clear w_2092_1
            have hlx_2r := hlx_2 (by omega)
            clear hlx_2
            exact J_1917 ()  (by omega) (by omega) _ _ hP hS _ (lv_sub hl [0, 1, 2, 3] rfl)
          · have jc_2094 := dk_eqc (k := 0) (by decide +kernel) c_2094
            clear w_2092_1
            refine lv_aload_n hx hb dX12_goesOn_69 rfl (lv_at hl 3 rfl) ?_
            refine lv_bipush (v := 47) hx hb dX12_goesOn_70 (by decide +kernel) ?_
            refine dg_calli hS hA1 hA (va_runV (As := [.int 47]) (rest := []) F (c_m_isSign l g D o S_2 47 sg ((m_2.1 0 3 _ sM_0 (by decide)).trans f_sg) (by omega) va ((m_2.1 0 6 _ sM_0 (by decide)).trans f_va) (by omega) I_2 H.size) (cwV 1 hts (bw_V wB_1157 wB_1158 wB_1159 wB_881 wB_1156) rfl rfl rfl (by decide +kernel) ⟨Nat.le_of_ble_eq_true rfl, Nat.le_of_ble_eq_true rfl⟩) (dg_preV sM_0 rfl K ST hP hS hA1 hA) rfl rfl hl.1 rfl (lv_room (Nat.le_of_ble_eq_true rfl)) dX12_goesOn_72 ⟨Nat.le_of_ble_eq_true rfl, Nat.le_of_ble_eq_true rfl⟩) (fun x_2095 S_2096 hw_2096 H locs hP hS => ?_)
            rw [hw_2096.1] at hP
            obtain ⟨hq_2096, w_2096_0, w_2096_1, -⟩ := hw_2096
            have hz_2097 : (47 : Int32).toInt = 47 := by decide +kernel
            have w_2096_0 : 0 ≤ (x_2095).toInt ∧ (x_2095).toInt ≤ 1 := w_2096_0
            have w_2096_1 : (x_2095).toInt = 1 ↔ ((sg).toInt = 3 ∧ (va).toInt = ((47 : Int32)).toInt) := w_2096_1
            refine lv_if_ne (tgt := 87) hx hb dX12_goesOn_75 (by decide) (fun c_2098 => ?_) (fun c_2098 => ?_)
            · have jc_2098 := dk_neqc (k := 0) (by decide +kernel) c_2098
              have jbc_2098 : 1 ≤ (x_2095).toInt := by omega
              clear jc_2098
              have w_2096_1_r := w_2096_1.mp (by omega)
              obtain ⟨w_2096_1_r1, w_2096_1_r2⟩ := w_2096_1_r
              clear w_2096_1
              have hlx_2r := hlx_2 (by omega)
              clear hlx_2
              exact J_1917 ()  (by omega) (by omega) _ _ hP hS _ (lv_sub hl [0, 1, 2, 3] rfl)
            · have jc_2098 := dk_eqc (k := 0) (by decide +kernel) c_2098
              clear w_2096_1
              refine lv_aload_n hx hb dX12_goesOn_78 rfl (lv_at hl 3 rfl) ?_
              refine lv_bipush (v := 37) hx hb dX12_goesOn_79 (by decide +kernel) ?_
              refine dg_calli hS hA1 hA (va_runV (As := [.int 37]) (rest := []) F (c_m_isSign l g D o S_2 37 sg ((m_2.1 0 3 _ sM_0 (by decide)).trans f_sg) (by omega) va ((m_2.1 0 6 _ sM_0 (by decide)).trans f_va) (by omega) I_2 H.size) (cwV 1 hts (bw_V wB_1157 wB_1158 wB_1159 wB_881 wB_1156) rfl rfl rfl (by decide +kernel) ⟨Nat.le_of_ble_eq_true rfl, Nat.le_of_ble_eq_true rfl⟩) (dg_preV sM_0 rfl K ST hP hS hA1 hA) rfl rfl hl.1 rfl (lv_room (Nat.le_of_ble_eq_true rfl)) dX12_goesOn_81 ⟨Nat.le_of_ble_eq_true rfl, Nat.le_of_ble_eq_true rfl⟩) (fun x_2099 S_2100 hw_2100 H locs hP hS => ?_)
              rw [hw_2100.1] at hP
              obtain ⟨hq_2100, w_2100_0, w_2100_1, -⟩ := hw_2100
              have hz_2101 : (37 : Int32).toInt = 37 := by decide +kernel
              have w_2100_0 : 0 ≤ (x_2099).toInt ∧ (x_2099).toInt ≤ 1 := w_2100_0
              have w_2100_1 : (x_2099).toInt = 1 ↔ ((sg).toInt = 3 ∧ (va).toInt = ((37 : Int32)).toInt) := w_2100_1
              refine lv_if_eq (tgt := 188) hx hb dX12_goesOn_84 (by decide) (fun c_2102 => ?_) (fun c_2102 => ?_)
              · have jc_2102 := dk_eqc (k := 0) (by decide +kernel) c_2102
                clear w_2100_1
                exact J_425   _ _ hP hS _ (lv_sub hl [0, 1, 2, 3] rfl)
              · have jc_2102 := dk_neqc (k := 0) (by decide +kernel) c_2102
                have jbc_2102 : 1 ≤ (x_2099).toInt := by omega
                clear jc_2102
                have w_2100_1_r := w_2100_1.mp (by omega)
                obtain ⟨w_2100_1_r1, w_2100_1_r2⟩ := w_2100_1_r
                clear w_2100_1
                have hlx_2r := hlx_2 (by omega)
                clear hlx_2
                exact J_1917 ()  (by omega) (by omega) _ _ hP hS _ (lv_sub hl [0, 1, 2, 3] rfl)
  · have jc_4 := dk_nlec (k := 0) (by decide +kernel) c_4
    refine lv_iconst (v := 0) hx hb dX12_goesOn_11 (by decide +kernel) ?_
    have hz_2103 : (0 : Int32).toInt = 0 := by decide +kernel
    have hz_2104 : (0 : Int32).toInt = 0 := by decide +kernel
    have hz_2105 : (0 : Int32).toInt = 0 := by decide +kernel
    refine W.widen (k := 0) (n := 0) (Nat.le_of_ble_eq_true rfl) (Nat.le_of_ble_eq_true rfl) ?_
    rw [hQ9]
    exact dg_iret hx hb hr hlocks (by decide +kernel) hP hS ⟨I_2, M_2, (by decide +kernel), ⟨sg, sa, se, y_3, cd, dp, om, oo, ((m_2.1 0 3 _ sM_0 (by decide)).trans f_sg), ((m_2.1 0 4 _ sM_0 (by decide)).trans f_sa), ((m_2.1 0 5 _ sM_0 (by decide)).trans f_se), f_y_3, ((m_2.1 0 34 _ sM_0 (by decide)).trans f_cd), ((m_2.1 0 42 _ sM_0 (by decide)).trans f_dp), ((m_2.1 0 45 _ sM_0 (by decide)).trans f_om), ((m_2.1 0 46 _ sM_0 (by decide)).trans f_oo), (by omega)⟩, (fun k9 hk9 hk0 => by have q9 := (f_y_3).symm.trans hk9; cases q9; omega), (ZWM.keep ZW m_2 (by decide) (by decide) (by decide) (by decide)), trivial⟩ dX12_goesOn_12
