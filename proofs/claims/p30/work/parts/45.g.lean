/-! 45.g.lean.txt -/
theorem dX12_goesOn_0 : decode cX12_goesOn 0 = .ok (.aload_n 0, 1) := by decide +kernel
theorem dX12_goesOn_1 : decode cX12_goesOn 1 = .ok (.invokevirtual 266, 3) := by decide +kernel
theorem dX12_goesOn_4 : decode cX12_goesOn 4 = .ok (.aload_n 0, 1) := by decide +kernel
theorem dX12_goesOn_5 : decode cX12_goesOn 5 = .ok (.getfield 36, 3) := by decide +kernel
theorem dX12_goesOn_8 : decode cX12_goesOn 8 = .ok (.ifCond .le 5, 3) := by decide +kernel
theorem dX12_goesOn_11 : decode cX12_goesOn 11 = .ok (.iconst 0, 1) := by decide +kernel
theorem dX12_goesOn_12 : decode cX12_goesOn 12 = .ok (.ireturn, 1) := by decide +kernel
theorem dX12_goesOn_13 : decode cX12_goesOn 13 = .ok (.aload_n 0, 1) := by decide +kernel
theorem dX12_goesOn_14 : decode cX12_goesOn 14 = .ok (.getfield 140, 3) := by decide +kernel
theorem dX12_goesOn_17 : decode cX12_goesOn 17 = .ok (.iconst 1, 1) := by decide +kernel
theorem dX12_goesOn_18 : decode cX12_goesOn 18 = .ok (.isub, 1) := by decide +kernel
theorem dX12_goesOn_19 : decode cX12_goesOn 19 = .ok (.istore_n 1, 1) := by decide +kernel
theorem dX12_goesOn_20 : decode cX12_goesOn 20 = .ok (.aload_n 0, 1) := by decide +kernel
theorem dX12_goesOn_21 : decode cX12_goesOn 21 = .ok (.getfield 124, 3) := by decide +kernel
theorem dX12_goesOn_24 : decode cX12_goesOn 24 = .ok (.iload_n 1, 1) := by decide +kernel
theorem dX12_goesOn_25 : decode cX12_goesOn 25 = .ok (.iaload, 1) := by decide +kernel
theorem dX12_goesOn_26 : decode cX12_goesOn 26 = .ok (.istore_n 2, 1) := by decide +kernel
theorem dX12_goesOn_27 : decode cX12_goesOn 27 = .ok (.iload_n 2, 1) := by decide +kernel
theorem dX12_goesOn_28 : decode cX12_goesOn 28 = .ok (.invokestatic 346, 3) := by decide +kernel
theorem dX12_goesOn_31 : decode cX12_goesOn 31 = .ok (.istore_n 3, 1) := by decide +kernel
theorem dX12_goesOn_32 : decode cX12_goesOn 32 = .ok (.aload_n 0, 1) := by decide +kernel
theorem dX12_goesOn_33 : decode cX12_goesOn 33 = .ok (.getfield 127, 3) := by decide +kernel
theorem dX12_goesOn_36 : decode cX12_goesOn 36 = .ok (.iload_n 1, 1) := by decide +kernel
theorem dX12_goesOn_37 : decode cX12_goesOn 37 = .ok (.iaload, 1) := by decide +kernel
theorem dX12_goesOn_38 : decode cX12_goesOn 38 = .ok (.iconst 2, 1) := by decide +kernel
theorem dX12_goesOn_39 : decode cX12_goesOn 39 = .ok (.if_icmp .ge 149, 3) := by decide +kernel
theorem dX12_goesOn_42 : decode cX12_goesOn 42 = .ok (.aload_n 0, 1) := by decide +kernel
theorem dX12_goesOn_43 : decode cX12_goesOn 43 = .ok (.bipush 43, 2) := by decide +kernel
theorem dX12_goesOn_45 : decode cX12_goesOn 45 = .ok (.invokevirtual 269, 3) := by decide +kernel
theorem dX12_goesOn_48 : decode cX12_goesOn 48 = .ok (.ifCond .ne 39, 3) := by decide +kernel
theorem dX12_goesOn_51 : decode cX12_goesOn 51 = .ok (.aload_n 0, 1) := by decide +kernel
theorem dX12_goesOn_52 : decode cX12_goesOn 52 = .ok (.bipush 45, 2) := by decide +kernel
theorem dX12_goesOn_54 : decode cX12_goesOn 54 = .ok (.invokevirtual 269, 3) := by decide +kernel
theorem dX12_goesOn_57 : decode cX12_goesOn 57 = .ok (.ifCond .ne 30, 3) := by decide +kernel
theorem dX12_goesOn_60 : decode cX12_goesOn 60 = .ok (.aload_n 0, 1) := by decide +kernel
theorem dX12_goesOn_61 : decode cX12_goesOn 61 = .ok (.bipush 42, 2) := by decide +kernel
theorem dX12_goesOn_63 : decode cX12_goesOn 63 = .ok (.invokevirtual 269, 3) := by decide +kernel
theorem dX12_goesOn_66 : decode cX12_goesOn 66 = .ok (.ifCond .ne 21, 3) := by decide +kernel
theorem dX12_goesOn_69 : decode cX12_goesOn 69 = .ok (.aload_n 0, 1) := by decide +kernel
theorem dX12_goesOn_70 : decode cX12_goesOn 70 = .ok (.bipush 47, 2) := by decide +kernel
theorem dX12_goesOn_72 : decode cX12_goesOn 72 = .ok (.invokevirtual 269, 3) := by decide +kernel
theorem dX12_goesOn_75 : decode cX12_goesOn 75 = .ok (.ifCond .ne 12, 3) := by decide +kernel
theorem dX12_goesOn_78 : decode cX12_goesOn 78 = .ok (.aload_n 0, 1) := by decide +kernel
theorem dX12_goesOn_79 : decode cX12_goesOn 79 = .ok (.bipush 37, 2) := by decide +kernel
theorem dX12_goesOn_81 : decode cX12_goesOn 81 = .ok (.invokevirtual 269, 3) := by decide +kernel
theorem dX12_goesOn_84 : decode cX12_goesOn 84 = .ok (.ifCond .eq 104, 3) := by decide +kernel
theorem dX12_goesOn_87 : decode cX12_goesOn 87 = .ok (.aload_n 0, 1) := by decide +kernel
theorem dX12_goesOn_88 : decode cX12_goesOn 88 = .ok (.aload_n 0, 1) := by decide +kernel
theorem dX12_goesOn_89 : decode cX12_goesOn 89 = .ok (.bipush 43, 2) := by decide +kernel
theorem dX12_goesOn_91 : decode cX12_goesOn 91 = .ok (.invokevirtual 269, 3) := by decide +kernel
theorem dX12_goesOn_94 : decode cX12_goesOn 94 = .ok (.ifCond .ne 12, 3) := by decide +kernel
theorem dX12_goesOn_97 : decode cX12_goesOn 97 = .ok (.aload_n 0, 1) := by decide +kernel
theorem dX12_goesOn_98 : decode cX12_goesOn 98 = .ok (.bipush 45, 2) := by decide +kernel
theorem dX12_goesOn_100 : decode cX12_goesOn 100 = .ok (.invokevirtual 269, 3) := by decide +kernel
theorem dX12_goesOn_103 : decode cX12_goesOn 103 = .ok (.ifCond .eq 7, 3) := by decide +kernel
theorem dX12_goesOn_106 : decode cX12_goesOn 106 = .ok (.iconst 5, 1) := by decide +kernel
theorem dX12_goesOn_107 : decode cX12_goesOn 107 = .ok (.goto 5, 3) := by decide +kernel
theorem dX12_goesOn_110 : decode cX12_goesOn 110 = .ok (.bipush 6, 2) := by decide +kernel
theorem dX12_goesOn_112 : decode cX12_goesOn 112 = .ok (.invokevirtual 359, 3) := by decide +kernel
theorem dX12_goesOn_115 : decode cX12_goesOn 115 = .ok (.aload_n 0, 1) := by decide +kernel
theorem dX12_goesOn_116 : decode cX12_goesOn 116 = .ok (.aload_n 0, 1) := by decide +kernel
theorem dX12_goesOn_117 : decode cX12_goesOn 117 = .ok (.bipush 43, 2) := by decide +kernel
theorem dX12_goesOn_119 : decode cX12_goesOn 119 = .ok (.invokevirtual 269, 3) := by decide +kernel
theorem dX12_goesOn_122 : decode cX12_goesOn 122 = .ok (.ifCond .eq 8, 3) := by decide +kernel
theorem dX12_goesOn_125 : decode cX12_goesOn 125 = .ok (.bipush 31, 2) := by decide +kernel
theorem dX12_goesOn_127 : decode cX12_goesOn 127 = .ok (.goto 47, 3) := by decide +kernel
theorem dX12_goesOn_130 : decode cX12_goesOn 130 = .ok (.aload_n 0, 1) := by decide +kernel
theorem dX12_goesOn_131 : decode cX12_goesOn 131 = .ok (.bipush 45, 2) := by decide +kernel
theorem dX12_goesOn_133 : decode cX12_goesOn 133 = .ok (.invokevirtual 269, 3) := by decide +kernel
theorem dX12_goesOn_136 : decode cX12_goesOn 136 = .ok (.ifCond .eq 8, 3) := by decide +kernel
theorem dX12_goesOn_139 : decode cX12_goesOn 139 = .ok (.bipush 32, 2) := by decide +kernel
theorem dX12_goesOn_141 : decode cX12_goesOn 141 = .ok (.goto 33, 3) := by decide +kernel
theorem dX12_goesOn_144 : decode cX12_goesOn 144 = .ok (.aload_n 0, 1) := by decide +kernel
theorem dX12_goesOn_145 : decode cX12_goesOn 145 = .ok (.bipush 42, 2) := by decide +kernel
theorem dX12_goesOn_147 : decode cX12_goesOn 147 = .ok (.invokevirtual 269, 3) := by decide +kernel
theorem dX12_goesOn_150 : decode cX12_goesOn 150 = .ok (.ifCond .eq 8, 3) := by decide +kernel
theorem dX12_goesOn_153 : decode cX12_goesOn 153 = .ok (.bipush 33, 2) := by decide +kernel
theorem dX12_goesOn_155 : decode cX12_goesOn 155 = .ok (.goto 19, 3) := by decide +kernel
theorem dX12_goesOn_158 : decode cX12_goesOn 158 = .ok (.aload_n 0, 1) := by decide +kernel
theorem dX12_goesOn_159 : decode cX12_goesOn 159 = .ok (.bipush 47, 2) := by decide +kernel
theorem dX12_goesOn_161 : decode cX12_goesOn 161 = .ok (.invokevirtual 269, 3) := by decide +kernel
theorem dX12_goesOn_164 : decode cX12_goesOn 164 = .ok (.ifCond .eq 8, 3) := by decide +kernel
theorem dX12_goesOn_167 : decode cX12_goesOn 167 = .ok (.bipush 34, 2) := by decide +kernel
theorem dX12_goesOn_169 : decode cX12_goesOn 169 = .ok (.goto 5, 3) := by decide +kernel
theorem dX12_goesOn_172 : decode cX12_goesOn 172 = .ok (.bipush 35, 2) := by decide +kernel
theorem dX12_goesOn_174 : decode cX12_goesOn 174 = .ok (.invokevirtual 353, 3) := by decide +kernel
theorem dX12_goesOn_177 : decode cX12_goesOn 177 = .ok (.aload_n 0, 1) := by decide +kernel
theorem dX12_goesOn_178 : decode cX12_goesOn 178 = .ok (.invokevirtual 272, 3) := by decide +kernel
theorem dX12_goesOn_181 : decode cX12_goesOn 181 = .ok (.aload_n 0, 1) := by decide +kernel
theorem dX12_goesOn_182 : decode cX12_goesOn 182 = .ok (.iconst 0, 1) := by decide +kernel
theorem dX12_goesOn_183 : decode cX12_goesOn 183 = .ok (.putfield 152, 3) := by decide +kernel
theorem dX12_goesOn_186 : decode cX12_goesOn 186 = .ok (.iconst 1, 1) := by decide +kernel
theorem dX12_goesOn_187 : decode cX12_goesOn 187 = .ok (.ireturn, 1) := by decide +kernel
theorem dX12_goesOn_188 : decode cX12_goesOn 188 = .ok (.iload_n 3, 1) := by decide +kernel
theorem dX12_goesOn_189 : decode cX12_goesOn 189 = .ok (.ifCond .eq 96, 3) := by decide +kernel
theorem dX12_goesOn_192 : decode cX12_goesOn 192 = .ok (.aload_n 0, 1) := by decide +kernel
theorem dX12_goesOn_193 : decode cX12_goesOn 193 = .ok (.getfield 127, 3) := by decide +kernel
theorem dX12_goesOn_196 : decode cX12_goesOn 196 = .ok (.iload_n 1, 1) := by decide +kernel
theorem dX12_goesOn_197 : decode cX12_goesOn 197 = .ok (.iaload, 1) := by decide +kernel
theorem dX12_goesOn_198 : decode cX12_goesOn 198 = .ok (.ifCond .ne 87, 3) := by decide +kernel
theorem dX12_goesOn_201 : decode cX12_goesOn 201 = .ok (.aload_n 0, 1) := by decide +kernel
theorem dX12_goesOn_202 : decode cX12_goesOn 202 = .ok (.bipush 60, 2) := by decide +kernel
theorem dX12_goesOn_204 : decode cX12_goesOn 204 = .ok (.invokevirtual 269, 3) := by decide +kernel
theorem dX12_goesOn_207 : decode cX12_goesOn 207 = .ok (.ifCond .ne 21, 3) := by decide +kernel
theorem dX12_goesOn_210 : decode cX12_goesOn 210 = .ok (.aload_n 0, 1) := by decide +kernel
theorem dX12_goesOn_211 : decode cX12_goesOn 211 = .ok (.bipush 62, 2) := by decide +kernel
theorem dX12_goesOn_213 : decode cX12_goesOn 213 = .ok (.invokevirtual 269, 3) := by decide +kernel
theorem dX12_goesOn_216 : decode cX12_goesOn 216 = .ok (.ifCond .ne 12, 3) := by decide +kernel
theorem dX12_goesOn_219 : decode cX12_goesOn 219 = .ok (.aload_n 0, 1) := by decide +kernel
theorem dX12_goesOn_220 : decode cX12_goesOn 220 = .ok (.bipush 61, 2) := by decide +kernel
theorem dX12_goesOn_222 : decode cX12_goesOn 222 = .ok (.invokevirtual 269, 3) := by decide +kernel
theorem dX12_goesOn_225 : decode cX12_goesOn 225 = .ok (.ifCond .eq 60, 3) := by decide +kernel
theorem dX12_goesOn_228 : decode cX12_goesOn 228 = .ok (.aload_n 0, 1) := by decide +kernel
theorem dX12_goesOn_229 : decode cX12_goesOn 229 = .ok (.iconst 5, 1) := by decide +kernel
theorem dX12_goesOn_230 : decode cX12_goesOn 230 = .ok (.invokevirtual 359, 3) := by decide +kernel
theorem dX12_goesOn_233 : decode cX12_goesOn 233 = .ok (.aload_n 0, 1) := by decide +kernel
theorem dX12_goesOn_234 : decode cX12_goesOn 234 = .ok (.aload_n 0, 1) := by decide +kernel
theorem dX12_goesOn_235 : decode cX12_goesOn 235 = .ok (.bipush 60, 2) := by decide +kernel
theorem dX12_goesOn_237 : decode cX12_goesOn 237 = .ok (.invokevirtual 269, 3) := by decide +kernel
theorem dX12_goesOn_240 : decode cX12_goesOn 240 = .ok (.ifCond .eq 8, 3) := by decide +kernel
theorem dX12_goesOn_243 : decode cX12_goesOn 243 = .ok (.bipush 38, 2) := by decide +kernel
theorem dX12_goesOn_245 : decode cX12_goesOn 245 = .ok (.goto 19, 3) := by decide +kernel
theorem dX12_goesOn_248 : decode cX12_goesOn 248 = .ok (.aload_n 0, 1) := by decide +kernel
theorem dX12_goesOn_249 : decode cX12_goesOn 249 = .ok (.bipush 62, 2) := by decide +kernel
theorem dX12_goesOn_251 : decode cX12_goesOn 251 = .ok (.invokevirtual 269, 3) := by decide +kernel
theorem dX12_goesOn_254 : decode cX12_goesOn 254 = .ok (.ifCond .eq 8, 3) := by decide +kernel
theorem dX12_goesOn_257 : decode cX12_goesOn 257 = .ok (.bipush 39, 2) := by decide +kernel
theorem dX12_goesOn_259 : decode cX12_goesOn 259 = .ok (.goto 5, 3) := by decide +kernel
theorem dX12_goesOn_262 : decode cX12_goesOn 262 = .ok (.bipush 40, 2) := by decide +kernel
theorem dX12_goesOn_264 : decode cX12_goesOn 264 = .ok (.invokevirtual 353, 3) := by decide +kernel
theorem dX12_goesOn_267 : decode cX12_goesOn 267 = .ok (.aload_n 0, 1) := by decide +kernel
theorem dX12_goesOn_268 : decode cX12_goesOn 268 = .ok (.getfield 127, 3) := by decide +kernel
theorem dX12_goesOn_271 : decode cX12_goesOn 271 = .ok (.iload_n 1, 1) := by decide +kernel
theorem dX12_goesOn_272 : decode cX12_goesOn 272 = .ok (.iconst 1, 1) := by decide +kernel
theorem dX12_goesOn_273 : decode cX12_goesOn 273 = .ok (.iastore, 1) := by decide +kernel
theorem dX12_goesOn_274 : decode cX12_goesOn 274 = .ok (.aload_n 0, 1) := by decide +kernel
theorem dX12_goesOn_275 : decode cX12_goesOn 275 = .ok (.invokevirtual 272, 3) := by decide +kernel
theorem dX12_goesOn_278 : decode cX12_goesOn 278 = .ok (.aload_n 0, 1) := by decide +kernel
theorem dX12_goesOn_279 : decode cX12_goesOn 279 = .ok (.iconst 0, 1) := by decide +kernel
theorem dX12_goesOn_280 : decode cX12_goesOn 280 = .ok (.putfield 152, 3) := by decide +kernel
theorem dX12_goesOn_283 : decode cX12_goesOn 283 = .ok (.iconst 1, 1) := by decide +kernel
theorem dX12_goesOn_284 : decode cX12_goesOn 284 = .ok (.ireturn, 1) := by decide +kernel
theorem dX12_goesOn_285 : decode cX12_goesOn 285 = .ok (.iload_n 3, 1) := by decide +kernel
theorem dX12_goesOn_286 : decode cX12_goesOn 286 = .ok (.ifCond .eq 114, 3) := by decide +kernel
theorem dX12_goesOn_289 : decode cX12_goesOn 289 = .ok (.aload_n 0, 1) := by decide +kernel
theorem dX12_goesOn_290 : decode cX12_goesOn 290 = .ok (.ldc2_w 319, 3) := by decide +kernel
theorem dX12_goesOn_293 : decode cX12_goesOn 293 = .ok (.invokevirtual 349, 3) := by decide +kernel
theorem dX12_goesOn_296 : decode cX12_goesOn 296 = .ok (.ifCond .ne 13, 3) := by decide +kernel
theorem dX12_goesOn_299 : decode cX12_goesOn 299 = .ok (.aload_n 0, 1) := by decide +kernel
theorem dX12_goesOn_300 : decode cX12_goesOn 300 = .ok (.ldc2_w 317, 3) := by decide +kernel
theorem dX12_goesOn_303 : decode cX12_goesOn 303 = .ok (.invokevirtual 349, 3) := by decide +kernel
theorem dX12_goesOn_306 : decode cX12_goesOn 306 = .ok (.ifCond .eq 94, 3) := by decide +kernel
theorem dX12_goesOn_309 : decode cX12_goesOn 309 = .ok (.aload_n 0, 1) := by decide +kernel
theorem dX12_goesOn_310 : decode cX12_goesOn 310 = .ok (.getfield 127, 3) := by decide +kernel
theorem dX12_goesOn_313 : decode cX12_goesOn 313 = .ok (.iload_n 1, 1) := by decide +kernel
theorem dX12_goesOn_314 : decode cX12_goesOn 314 = .ok (.iaload, 1) := by decide +kernel
theorem dX12_goesOn_315 : decode cX12_goesOn 315 = .ok (.ifCond .ne 12, 3) := by decide +kernel
theorem dX12_goesOn_318 : decode cX12_goesOn 318 = .ok (.aload_n 0, 1) := by decide +kernel
theorem dX12_goesOn_319 : decode cX12_goesOn 319 = .ok (.iconst 1, 1) := by decide +kernel
theorem dX12_goesOn_320 : decode cX12_goesOn 320 = .ok (.aload_n 0, 1) := by decide +kernel
theorem dX12_goesOn_321 : decode cX12_goesOn 321 = .ok (.getfield 23, 3) := by decide +kernel
theorem dX12_goesOn_324 : decode cX12_goesOn 324 = .ok (.invokevirtual 255, 3) := by decide +kernel
theorem dX12_goesOn_327 : decode cX12_goesOn 327 = .ok (.aload_n 0, 1) := by decide +kernel
theorem dX12_goesOn_328 : decode cX12_goesOn 328 = .ok (.getfield 36, 3) := by decide +kernel
theorem dX12_goesOn_331 : decode cX12_goesOn 331 = .ok (.ifCond .le 5, 3) := by decide +kernel
theorem dX12_goesOn_334 : decode cX12_goesOn 334 = .ok (.iconst 0, 1) := by decide +kernel
theorem dX12_goesOn_335 : decode cX12_goesOn 335 = .ok (.ireturn, 1) := by decide +kernel
theorem dX12_goesOn_336 : decode cX12_goesOn 336 = .ok (.aload_n 0, 1) := by decide +kernel
theorem dX12_goesOn_337 : decode cX12_goesOn 337 = .ok (.ldc2_w 319, 3) := by decide +kernel
theorem dX12_goesOn_340 : decode cX12_goesOn 340 = .ok (.invokevirtual 349, 3) := by decide +kernel
theorem dX12_goesOn_343 : decode cX12_goesOn 343 = .ok (.istore 4, 2) := by decide +kernel
theorem dX12_goesOn_345 : decode cX12_goesOn 345 = .ok (.aload_n 0, 1) := by decide +kernel
theorem dX12_goesOn_346 : decode cX12_goesOn 346 = .ok (.iload 4, 2) := by decide +kernel
theorem dX12_goesOn_348 : decode cX12_goesOn 348 = .ok (.ifCond .eq 7, 3) := by decide +kernel
theorem dX12_goesOn_351 : decode cX12_goesOn 351 = .ok (.iconst 2, 1) := by decide +kernel
theorem dX12_goesOn_352 : decode cX12_goesOn 352 = .ok (.goto 4, 3) := by decide +kernel
theorem dX12_goesOn_355 : decode cX12_goesOn 355 = .ok (.iconst 1, 1) := by decide +kernel
theorem dX12_goesOn_356 : decode cX12_goesOn 356 = .ok (.invokevirtual 359, 3) := by decide +kernel
theorem dX12_goesOn_359 : decode cX12_goesOn 359 = .ok (.aload_n 0, 1) := by decide +kernel
theorem dX12_goesOn_360 : decode cX12_goesOn 360 = .ok (.iload 4, 2) := by decide +kernel
theorem dX12_goesOn_362 : decode cX12_goesOn 362 = .ok (.ifCond .eq 8, 3) := by decide +kernel
theorem dX12_goesOn_365 : decode cX12_goesOn 365 = .ok (.bipush 41, 2) := by decide +kernel
theorem dX12_goesOn_367 : decode cX12_goesOn 367 = .ok (.goto 5, 3) := by decide +kernel
theorem dX12_goesOn_370 : decode cX12_goesOn 370 = .ok (.bipush 42, 2) := by decide +kernel
theorem dX12_goesOn_372 : decode cX12_goesOn 372 = .ok (.invokevirtual 353, 3) := by decide +kernel
theorem dX12_goesOn_375 : decode cX12_goesOn 375 = .ok (.aload_n 0, 1) := by decide +kernel
theorem dX12_goesOn_376 : decode cX12_goesOn 376 = .ok (.getfield 127, 3) := by decide +kernel
theorem dX12_goesOn_379 : decode cX12_goesOn 379 = .ok (.iload_n 1, 1) := by decide +kernel
theorem dX12_goesOn_380 : decode cX12_goesOn 380 = .ok (.iconst 0, 1) := by decide +kernel
theorem dX12_goesOn_381 : decode cX12_goesOn 381 = .ok (.iastore, 1) := by decide +kernel
theorem dX12_goesOn_382 : decode cX12_goesOn 382 = .ok (.aload_n 0, 1) := by decide +kernel
theorem dX12_goesOn_383 : decode cX12_goesOn 383 = .ok (.getfield 130, 3) := by decide +kernel
theorem dX12_goesOn_386 : decode cX12_goesOn 386 = .ok (.iload_n 1, 1) := by decide +kernel
theorem dX12_goesOn_387 : decode cX12_goesOn 387 = .ok (.iconst 1, 1) := by decide +kernel
theorem dX12_goesOn_388 : decode cX12_goesOn 388 = .ok (.bastore, 1) := by decide +kernel
theorem dX12_goesOn_389 : decode cX12_goesOn 389 = .ok (.aload_n 0, 1) := by decide +kernel
theorem dX12_goesOn_390 : decode cX12_goesOn 390 = .ok (.invokevirtual 272, 3) := by decide +kernel
theorem dX12_goesOn_393 : decode cX12_goesOn 393 = .ok (.aload_n 0, 1) := by decide +kernel
theorem dX12_goesOn_394 : decode cX12_goesOn 394 = .ok (.iconst 0, 1) := by decide +kernel
theorem dX12_goesOn_395 : decode cX12_goesOn 395 = .ok (.putfield 152, 3) := by decide +kernel
theorem dX12_goesOn_398 : decode cX12_goesOn 398 = .ok (.iconst 1, 1) := by decide +kernel
theorem dX12_goesOn_399 : decode cX12_goesOn 399 = .ok (.ireturn, 1) := by decide +kernel
theorem dX12_goesOn_400 : decode cX12_goesOn 400 = .ok (.iload_n 3, 1) := by decide +kernel
theorem dX12_goesOn_401 : decode cX12_goesOn 401 = .ok (.ifCond .eq 21, 3) := by decide +kernel
theorem dX12_goesOn_404 : decode cX12_goesOn 404 = .ok (.aload_n 0, 1) := by decide +kernel
theorem dX12_goesOn_405 : decode cX12_goesOn 405 = .ok (.getfield 127, 3) := by decide +kernel
theorem dX12_goesOn_408 : decode cX12_goesOn 408 = .ok (.iload_n 1, 1) := by decide +kernel
theorem dX12_goesOn_409 : decode cX12_goesOn 409 = .ok (.iaload, 1) := by decide +kernel
theorem dX12_goesOn_410 : decode cX12_goesOn 410 = .ok (.ifCond .ne 12, 3) := by decide +kernel
theorem dX12_goesOn_413 : decode cX12_goesOn 413 = .ok (.aload_n 0, 1) := by decide +kernel
theorem dX12_goesOn_414 : decode cX12_goesOn 414 = .ok (.iconst 1, 1) := by decide +kernel
theorem dX12_goesOn_415 : decode cX12_goesOn 415 = .ok (.aload_n 0, 1) := by decide +kernel
theorem dX12_goesOn_416 : decode cX12_goesOn 416 = .ok (.getfield 23, 3) := by decide +kernel
theorem dX12_goesOn_419 : decode cX12_goesOn 419 = .ok (.invokevirtual 255, 3) := by decide +kernel
theorem dX12_goesOn_422 : decode cX12_goesOn 422 = .ok (.iload_n 2, 1) := by decide +kernel
theorem dX12_goesOn_423 : decode cX12_goesOn 423 = .ok (.iconst 2, 1) := by decide +kernel
theorem dX12_goesOn_424 : decode cX12_goesOn 424 = .ok (.if_icmp .ge 17, 3) := by decide +kernel
theorem dX12_goesOn_427 : decode cX12_goesOn 427 = .ok (.aload_n 0, 1) := by decide +kernel
theorem dX12_goesOn_428 : decode cX12_goesOn 428 = .ok (.getfield 36, 3) := by decide +kernel
theorem dX12_goesOn_431 : decode cX12_goesOn 431 = .ok (.ifCond .ne 8, 3) := by decide +kernel
theorem dX12_goesOn_434 : decode cX12_goesOn 434 = .ok (.aload_n 0, 1) := by decide +kernel
theorem dX12_goesOn_435 : decode cX12_goesOn 435 = .ok (.iconst 1, 1) := by decide +kernel
theorem dX12_goesOn_436 : decode cX12_goesOn 436 = .ok (.invokevirtual 359, 3) := by decide +kernel
theorem dX12_goesOn_439 : decode cX12_goesOn 439 = .ok (.iconst 0, 1) := by decide +kernel
theorem dX12_goesOn_440 : decode cX12_goesOn 440 = .ok (.ireturn, 1) := by decide +kernel
theorem dX12_goesOn_441 : decode cX12_goesOn 441 = .ok (.iload_n 2, 1) := by decide +kernel
theorem dX12_goesOn_442 : decode cX12_goesOn 442 = .ok (.iconst 3, 1) := by decide +kernel
theorem dX12_goesOn_443 : decode cX12_goesOn 443 = .ok (.if_icmp .eq 9, 3) := by decide +kernel
theorem dX12_goesOn_446 : decode cX12_goesOn 446 = .ok (.iload_n 2, 1) := by decide +kernel
theorem dX12_goesOn_447 : decode cX12_goesOn 447 = .ok (.bipush 6, 2) := by decide +kernel
theorem dX12_goesOn_449 : decode cX12_goesOn 449 = .ok (.if_icmp .ne 69, 3) := by decide +kernel
theorem dX12_goesOn_452 : decode cX12_goesOn 452 = .ok (.aload_n 0, 1) := by decide +kernel
theorem dX12_goesOn_453 : decode cX12_goesOn 453 = .ok (.bipush 44, 2) := by decide +kernel
theorem dX12_goesOn_455 : decode cX12_goesOn 455 = .ok (.invokevirtual 269, 3) := by decide +kernel
theorem dX12_goesOn_458 : decode cX12_goesOn 458 = .ok (.ifCond .ne 12, 3) := by decide +kernel
theorem dX12_goesOn_461 : decode cX12_goesOn 461 = .ok (.aload_n 0, 1) := by decide +kernel
theorem dX12_goesOn_462 : decode cX12_goesOn 462 = .ok (.iconst 1, 1) := by decide +kernel
theorem dX12_goesOn_463 : decode cX12_goesOn 463 = .ok (.aload_n 0, 1) := by decide +kernel
theorem dX12_goesOn_464 : decode cX12_goesOn 464 = .ok (.getfield 23, 3) := by decide +kernel
theorem dX12_goesOn_467 : decode cX12_goesOn 467 = .ok (.invokevirtual 255, 3) := by decide +kernel
theorem dX12_goesOn_470 : decode cX12_goesOn 470 = .ok (.aload_n 0, 1) := by decide +kernel
theorem dX12_goesOn_471 : decode cX12_goesOn 471 = .ok (.getfield 36, 3) := by decide +kernel
theorem dX12_goesOn_474 : decode cX12_goesOn 474 = .ok (.ifCond .le 5, 3) := by decide +kernel
theorem dX12_goesOn_477 : decode cX12_goesOn 477 = .ok (.iconst 0, 1) := by decide +kernel
theorem dX12_goesOn_478 : decode cX12_goesOn 478 = .ok (.ireturn, 1) := by decide +kernel
theorem dX12_goesOn_479 : decode cX12_goesOn 479 = .ok (.aload_n 0, 1) := by decide +kernel
theorem dX12_goesOn_480 : decode cX12_goesOn 480 = .ok (.iconst 1, 1) := by decide +kernel
theorem dX12_goesOn_481 : decode cX12_goesOn 481 = .ok (.invokevirtual 359, 3) := by decide +kernel
theorem dX12_goesOn_484 : decode cX12_goesOn 484 = .ok (.aload_n 0, 1) := by decide +kernel
theorem dX12_goesOn_485 : decode cX12_goesOn 485 = .ok (.getfield 124, 3) := by decide +kernel
theorem dX12_goesOn_488 : decode cX12_goesOn 488 = .ok (.iload_n 1, 1) := by decide +kernel
theorem dX12_goesOn_489 : decode cX12_goesOn 489 = .ok (.iload_n 2, 1) := by decide +kernel
theorem dX12_goesOn_490 : decode cX12_goesOn 490 = .ok (.iconst 3, 1) := by decide +kernel
theorem dX12_goesOn_491 : decode cX12_goesOn 491 = .ok (.if_icmp .ne 7, 3) := by decide +kernel
theorem dX12_goesOn_494 : decode cX12_goesOn 494 = .ok (.iconst 4, 1) := by decide +kernel
theorem dX12_goesOn_495 : decode cX12_goesOn 495 = .ok (.goto 4, 3) := by decide +kernel
theorem dX12_goesOn_498 : decode cX12_goesOn 498 = .ok (.iconst 3, 1) := by decide +kernel
theorem dX12_goesOn_499 : decode cX12_goesOn 499 = .ok (.iastore, 1) := by decide +kernel
theorem dX12_goesOn_500 : decode cX12_goesOn 500 = .ok (.aload_n 0, 1) := by decide +kernel
theorem dX12_goesOn_501 : decode cX12_goesOn 501 = .ok (.getfield 127, 3) := by decide +kernel
theorem dX12_goesOn_504 : decode cX12_goesOn 504 = .ok (.iload_n 1, 1) := by decide +kernel
theorem dX12_goesOn_505 : decode cX12_goesOn 505 = .ok (.iconst 0, 1) := by decide +kernel
theorem dX12_goesOn_506 : decode cX12_goesOn 506 = .ok (.iastore, 1) := by decide +kernel
theorem dX12_goesOn_507 : decode cX12_goesOn 507 = .ok (.aload_n 0, 1) := by decide +kernel
theorem dX12_goesOn_508 : decode cX12_goesOn 508 = .ok (.invokevirtual 272, 3) := by decide +kernel
theorem dX12_goesOn_511 : decode cX12_goesOn 511 = .ok (.aload_n 0, 1) := by decide +kernel
theorem dX12_goesOn_512 : decode cX12_goesOn 512 = .ok (.iconst 0, 1) := by decide +kernel
theorem dX12_goesOn_513 : decode cX12_goesOn 513 = .ok (.putfield 152, 3) := by decide +kernel
theorem dX12_goesOn_516 : decode cX12_goesOn 516 = .ok (.iconst 1, 1) := by decide +kernel
theorem dX12_goesOn_517 : decode cX12_goesOn 517 = .ok (.ireturn, 1) := by decide +kernel
theorem dX12_goesOn_518 : decode cX12_goesOn 518 = .ok (.aload_n 0, 1) := by decide +kernel
theorem dX12_goesOn_519 : decode cX12_goesOn 519 = .ok (.iload_n 2, 1) := by decide +kernel
theorem dX12_goesOn_520 : decode cX12_goesOn 520 = .ok (.iconst 5, 1) := by decide +kernel
theorem dX12_goesOn_521 : decode cX12_goesOn 521 = .ok (.if_icmp .ne 8, 3) := by decide +kernel
theorem dX12_goesOn_524 : decode cX12_goesOn 524 = .ok (.bipush 93, 2) := by decide +kernel
theorem dX12_goesOn_526 : decode cX12_goesOn 526 = .ok (.goto 5, 3) := by decide +kernel
theorem dX12_goesOn_529 : decode cX12_goesOn 529 = .ok (.bipush 41, 2) := by decide +kernel
theorem dX12_goesOn_531 : decode cX12_goesOn 531 = .ok (.invokevirtual 269, 3) := by decide +kernel
theorem dX12_goesOn_534 : decode cX12_goesOn 534 = .ok (.ifCond .ne 12, 3) := by decide +kernel
theorem dX12_goesOn_537 : decode cX12_goesOn 537 = .ok (.aload_n 0, 1) := by decide +kernel
theorem dX12_goesOn_538 : decode cX12_goesOn 538 = .ok (.iconst 1, 1) := by decide +kernel
theorem dX12_goesOn_539 : decode cX12_goesOn 539 = .ok (.aload_n 0, 1) := by decide +kernel
theorem dX12_goesOn_540 : decode cX12_goesOn 540 = .ok (.getfield 23, 3) := by decide +kernel
theorem dX12_goesOn_543 : decode cX12_goesOn 543 = .ok (.invokevirtual 255, 3) := by decide +kernel
theorem dX12_goesOn_546 : decode cX12_goesOn 546 = .ok (.aload_n 0, 1) := by decide +kernel
theorem dX12_goesOn_547 : decode cX12_goesOn 547 = .ok (.getfield 36, 3) := by decide +kernel
theorem dX12_goesOn_550 : decode cX12_goesOn 550 = .ok (.ifCond .le 5, 3) := by decide +kernel
theorem dX12_goesOn_553 : decode cX12_goesOn 553 = .ok (.iconst 0, 1) := by decide +kernel
theorem dX12_goesOn_554 : decode cX12_goesOn 554 = .ok (.ireturn, 1) := by decide +kernel
theorem dX12_goesOn_555 : decode cX12_goesOn 555 = .ok (.aload_n 0, 1) := by decide +kernel
theorem dX12_goesOn_556 : decode cX12_goesOn 556 = .ok (.iconst 1, 1) := by decide +kernel
theorem dX12_goesOn_557 : decode cX12_goesOn 557 = .ok (.invokevirtual 359, 3) := by decide +kernel
theorem dX12_goesOn_560 : decode cX12_goesOn 560 = .ok (.aload_n 0, 1) := by decide +kernel
theorem dX12_goesOn_561 : decode cX12_goesOn 561 = .ok (.dup, 1) := by decide +kernel
theorem dX12_goesOn_562 : decode cX12_goesOn 562 = .ok (.getfield 140, 3) := by decide +kernel
theorem dX12_goesOn_565 : decode cX12_goesOn 565 = .ok (.iconst 1, 1) := by decide +kernel
theorem dX12_goesOn_566 : decode cX12_goesOn 566 = .ok (.isub, 1) := by decide +kernel
theorem dX12_goesOn_567 : decode cX12_goesOn 567 = .ok (.putfield 140, 3) := by decide +kernel
theorem dX12_goesOn_570 : decode cX12_goesOn 570 = .ok (.aload_n 0, 1) := by decide +kernel
theorem dX12_goesOn_571 : decode cX12_goesOn 571 = .ok (.dup, 1) := by decide +kernel
theorem dX12_goesOn_572 : decode cX12_goesOn 572 = .ok (.getfield 143, 3) := by decide +kernel
theorem dX12_goesOn_575 : decode cX12_goesOn 575 = .ok (.iconst 1, 1) := by decide +kernel
theorem dX12_goesOn_576 : decode cX12_goesOn 576 = .ok (.isub, 1) := by decide +kernel
theorem dX12_goesOn_577 : decode cX12_goesOn 577 = .ok (.putfield 143, 3) := by decide +kernel
theorem dX12_goesOn_580 : decode cX12_goesOn 580 = .ok (.iload_n 2, 1) := by decide +kernel
theorem dX12_goesOn_581 : decode cX12_goesOn 581 = .ok (.iconst 4, 1) := by decide +kernel
theorem dX12_goesOn_582 : decode cX12_goesOn 582 = .ok (.if_icmp .ne 14, 3) := by decide +kernel
theorem dX12_goesOn_585 : decode cX12_goesOn 585 = .ok (.aload_n 0, 1) := by decide +kernel
theorem dX12_goesOn_586 : decode cX12_goesOn 586 = .ok (.aload_n 0, 1) := by decide +kernel
theorem dX12_goesOn_587 : decode cX12_goesOn 587 = .ok (.getfield 134, 3) := by decide +kernel
theorem dX12_goesOn_590 : decode cX12_goesOn 590 = .ok (.iload_n 1, 1) := by decide +kernel
theorem dX12_goesOn_591 : decode cX12_goesOn 591 = .ok (.iaload, 1) := by decide +kernel
theorem dX12_goesOn_592 : decode cX12_goesOn 592 = .ok (.iconst 0, 1) := by decide +kernel
theorem dX12_goesOn_593 : decode cX12_goesOn 593 = .ok (.invokevirtual 340, 3) := by decide +kernel
theorem dX12_goesOn_596 : decode cX12_goesOn 596 = .ok (.iload_n 2, 1) := by decide +kernel
theorem dX12_goesOn_597 : decode cX12_goesOn 597 = .ok (.iconst 5, 1) := by decide +kernel
theorem dX12_goesOn_598 : decode cX12_goesOn 598 = .ok (.if_icmp .ne 15, 3) := by decide +kernel
theorem dX12_goesOn_601 : decode cX12_goesOn 601 = .ok (.aload_n 0, 1) := by decide +kernel
theorem dX12_goesOn_602 : decode cX12_goesOn 602 = .ok (.getfield 127, 3) := by decide +kernel
theorem dX12_goesOn_605 : decode cX12_goesOn 605 = .ok (.aload_n 0, 1) := by decide +kernel
theorem dX12_goesOn_606 : decode cX12_goesOn 606 = .ok (.getfield 140, 3) := by decide +kernel
theorem dX12_goesOn_609 : decode cX12_goesOn 609 = .ok (.iconst 1, 1) := by decide +kernel
theorem dX12_goesOn_610 : decode cX12_goesOn 610 = .ok (.isub, 1) := by decide +kernel
theorem dX12_goesOn_611 : decode cX12_goesOn 611 = .ok (.iconst 2, 1) := by decide +kernel
theorem dX12_goesOn_612 : decode cX12_goesOn 612 = .ok (.iastore, 1) := by decide +kernel
theorem dX12_goesOn_613 : decode cX12_goesOn 613 = .ok (.aload_n 0, 1) := by decide +kernel
theorem dX12_goesOn_614 : decode cX12_goesOn 614 = .ok (.invokevirtual 272, 3) := by decide +kernel
theorem dX12_goesOn_617 : decode cX12_goesOn 617 = .ok (.iconst 1, 1) := by decide +kernel
theorem dX12_goesOn_618 : decode cX12_goesOn 618 = .ok (.ireturn, 1) := by decide +kernel
theorem wB_1233 : Cond.code yX12_joins cX12_joins 2 none ∈ dgB := List.mem_filter.mpr ⟨tbl_8 _ (List.mem_of_getElem? (i := 99) rfl), rfl⟩
theorem wB_1234 : Cond.methodLink RX12 359 yX12_joins ∈ dgB := List.mem_filter.mpr ⟨tbl_8 _ (List.mem_of_getElem? (i := 96) (by decide +kernel)), by decide +kernel⟩
theorem wB_1235 : Cond.instanceMethod yX12_joins ∈ dgB := List.mem_filter.mpr ⟨tbl_8 _ (List.mem_of_getElem? (i := 98) (by decide +kernel)), by decide +kernel⟩
theorem wB_1236 : Cond.selects RX12 yX12_joins yX12_joins ∈ dgB := List.mem_filter.mpr ⟨List.mem_of_getElem? (i := 113) (by decide +kernel), by decide +kernel⟩
theorem wB_1237 : Cond.fieldLink RX12 152 "DarkMineModel" "operand" "Z" ∈ dgB := List.mem_filter.mpr ⟨tbl_6 _ (List.mem_of_getElem? (i := 209) (by decide +kernel)), by decide +kernel⟩
set_option maxHeartbeats 8000000 in
set_option maxRecDepth 100000 in
theorem c_m_goesOn (l : Launch) (g : Nat → ClassId) (D : va_G) (o : Nat) (S : dg_S) (sg : Int32) (f_sg : S.1 0 3 = .int sg) (b_sg : 0 ≤ (sg).toInt ∧ (sg).toInt ≤ 3) (sa : Int32) (f_sa : S.1 0 4 = .int sa) (b_sa : 0 ≤ (sa).toInt ∧ (sa).toInt ≤ 1600) (se : Int32) (f_se : S.1 0 5 = .int se) (b_se : 0 ≤ (se).toInt ∧ (se).toInt ≤ 1600) (sl : Int32) (f_sl : S.1 0 2 = .int sl) (b_sl : 0 ≤ (sl).toInt ∧ (sl).toInt ≤ 1600) (fk : Int32) (f_fk : S.1 0 8 = .int fk) (b_fk : 0 ≤ (fk).toInt ∧ (fk).toInt ≤ 6) (va : Int32) (f_va : S.1 0 6 = .int va) (b_va : 0 ≤ (va).toInt ∧ (va).toInt ≤ 9999) (cd : Int32) (f_cd : S.1 0 34 = .int cd) (b_cd : 0 ≤ (cd).toInt ∧ (cd).toInt ≤ 1600) (dp : Int32) (f_dp : S.1 0 42 = .int dp) (b_dp : 0 ≤ (dp).toInt ∧ (dp).toInt ≤ 20) (on : Int32) (f_on : S.1 0 43 = .int on) (om : Int32) (f_om : S.1 0 45 = .int om) (b_om : 0 ≤ (om).toInt ∧ (om).toInt ≤ 500) (oo : Int32) (f_oo : S.1 0 46 = .int oo) (b_oo : 1 ≤ (oo).toInt ∧ (oo).toInt ≤ 1) (hlx : (sa).toInt ≤ (se).toInt ∧ (se).toInt ≤ (sl).toInt ∧ ((sg).toInt ≠ 0 → (sa).toInt + 1 ≤ (se).toInt)) (hro : (cd).toInt + (om).toInt + (dp).toInt ≤ (sa).toInt) (ZW : ZWM S) (ZK : ZKM S) (P1 : P1M S) (I : CM o S) (sz : Nat) : Met l yX12_goesOn (bw yX12_goesOn cX12_goesOn 5 (some .boolean)) ({ frames := 3, cells := 0, slots := 0, locals := 77 } : Room) (dk_Pc g D (dg_w g shM o rfM S) sz [.ref (o + 0)]) (va_Qi (fun (r : Int32) S' => CM o S' ∧ dg_sm shM [(0, 3), (0, 4), (0, 5), (0, 6), (0, 7), (0, 8), (0, 9), (0, 12), (0, 34), (0, 42), (0, 43), (0, 45), (0, 46)] [18, 19, 22, 23, 24, 27] S S' ∧ (0 ≤ (r).toInt ∧ (r).toInt ≤ 1) ∧ (∃ y9_3 y9_4 y9_5 y9_8 y9_34 y9_42 y9_45 y9_46 : Int32, S'.1 0 3 = .int y9_3 ∧ S'.1 0 4 = .int y9_4 ∧ S'.1 0 5 = .int y9_5 ∧ S'.1 0 8 = .int y9_8 ∧ S'.1 0 34 = .int y9_34 ∧ S'.1 0 42 = .int y9_42 ∧ S'.1 0 45 = .int y9_45 ∧ S'.1 0 46 = .int y9_46 ∧ (((y9_4).toInt ≤ (y9_5).toInt ∧ (y9_5).toInt ≤ (sl).toInt ∧ ((y9_3).toInt ≠ 0 → (y9_4).toInt + 1 ≤ (y9_5).toInt)) ∧ (sa).toInt ≤ (y9_4).toInt ∧ ((fk).toInt ≠ 0 → (y9_8).toInt ≠ 0) ∧ (((y9_8).toInt = 0 → (r).toInt = 1 → (sa).toInt + 1 ≤ (y9_4).toInt) ∧ ((y9_8).toInt = 0 → (y9_34).toInt + (y9_45).toInt + (y9_42).toInt ≤ (y9_4).toInt)))) ∧ (∀ k9 : Int32, S'.1 0 8 = .int k9 → k9.toInt = 0 → POM S') ∧ ZWM S' ∧ True) (dg_B g D shM o rfM) (dg_A o shM.length sz)) 0 0 (dg_A o shM.length sz) := by
  refine dg_met (cc := cX12_goesOn) (maxL := 5) (ret := (some .boolean)) (by decide) rfl (Nat.le_of_ble_eq_true rfl) ?_
  intro p e s m args below meth c A hAe harg hx hb hr hml hts hown hlocks hin hP K hS hA1 hA ST hsz ls hl
  rw [← hAe]
  have F : CallFix p m c cX12_goesOn 5 s args (bw yX12_goesOn cX12_goesOn 5 (some .boolean)) RX12 := ⟨hx, hb, hml, hown, hts⟩
  have hl : lv_has ls 5 [(0, .ref (o + 0))] := hl
  have M_0 : dg_sm shM [(0, 3), (0, 4), (0, 5), (0, 6), (0, 7), (0, 8), (0, 9), (0, 12), (0, 34), (0, 42), (0, 43), (0, 45), (0, 46)] [18, 19, 22, 23, 24, 27] S S := dg_sm.rf
  obtain ⟨hlx_0, hlx_1, hlx_2⟩ := hlx
  have hdm_0 := PSM.dims P1 f_dp f_on f_om
  refine lv_aload_n hx hb dX12_goesOn_0 rfl (lv_at hl 0 rfl) ?_
  refine dg_callv hS hA1 hA (va_runV (As := []) (rest := []) F (c_m_lex l g D o S fk f_fk (by omega) I s.heap.size) (cwV 0 hts (bw_V wB_1153 wB_1154 wB_1155 wB_881 wB_1152) rfl rfl rfl (by decide +kernel) ⟨Nat.le_of_ble_eq_true rfl, Nat.le_of_ble_eq_true rfl⟩) (dg_preV sM_0 rfl K ST hP hS hA1 hA) rfl rfl hl.1 rfl (lv_room (Nat.le_of_ble_eq_true rfl)) dX12_goesOn_1 ⟨Nat.le_of_ble_eq_true rfl, Nat.le_of_ble_eq_true rfl⟩) (fun S_2 hw_2 H locs hP hS => ?_)
  obtain ⟨I_2, m_2, w_2_0, -⟩ := hw_2
  have M_2 := dg_sm.tr M_0 m_2 (by decide) (by decide)
  obtain ⟨y_3, f_y_3, w_2_0⟩ := w_2_0
  have w_2_0 : (fk).toInt ≠ 0 → (y_3).toInt = (fk).toInt := w_2_0
  have b_y_3 : 0 ≤ (y_3).toInt ∧ (y_3).toInt ≤ 6 := dg_I.intb (lo := 0) (hi := 6) I_2 sM_0 (by decide +kernel) f_y_3
  refine lv_aload_n hx hb dX12_goesOn_4 rfl (lv_at hl 0 rfl) ?_
  refine dg_get (C := RX12) (T := TX12) (N := 77) hx hb hts (fun w h => bw_mem (wU_X12 w h)) hown K hP sM_0 rfl 8 (by decide) (hts _ (bw_mem wB_1133)) (fun _ h9 => h9) (v := .int y_3) f_y_3 dX12_goesOn_5 ?_
  refine lv_if_le (tgt := 13) hx hb dX12_goesOn_8 (by decide) (fun c_4 => ?_) (fun c_4 => ?_)
  · have jc_4 := dk_lec (k := 0) (by decide +kernel) c_4
    refine lv_aload_n hx hb dX12_goesOn_13 rfl (lv_at hl 0 rfl) ?_
    refine dg_get (C := RX12) (T := TX12) (N := 77) hx hb hts (fun w h => bw_mem (wU_X12 w h)) hown K hP sM_0 rfl 42 (by decide) (hts _ (bw_mem wB_1203)) (fun _ h9 => h9) (v := .int dp) ((m_2.1 0 42 _ sM_0 (by decide)).trans f_dp) dX12_goesOn_14 ?_
    refine lv_iconst (v := 1) hx hb dX12_goesOn_17 (by decide +kernel) ?_
    refine lv_isub hx hb dX12_goesOn_18 ?_
    refine lv_topi (fun x_5 ex_5 => ?_)
    have jx_5 : (x_5).toInt = (dp).toInt - 1 := by rw [ex_5]; exact dk_subT rfl (by decide +kernel) (by omega) (by omega)
    refine lv_istore_n (lv' := [(1, .int x_5), (0, .ref (o + 0))]) hx hb dX12_goesOn_19 rfl hl (by decide) rfl (fun ls hl => ?_)
    refine lv_aload_n hx hb dX12_goesOn_20 rfl (lv_at hl 1 rfl) ?_
    refine dg_get (C := RX12) (T := TX12) (N := 77) hx hb hts (fun w h => bw_mem (wU_X12 w h)) hown K hP sM_0 rfl 37 (by decide) (hts _ (bw_mem wB_1213)) (fun _ h9 => h9) (v := .ref (o + 22)) (show S_2.1 0 37 = .ref (o + 22) from dg_I.rel (d := 22) I_2 sM_0 (by decide +kernel)) dX12_goesOn_21 ?_
    refine lv_iload_n hx hb dX12_goesOn_24 rfl (lv_at hl 0 rfl) ?_
    have hin_6 : vp_in x_5 20 := (dk_inv (by omega) (by omega))
    refine dg_iald hx hb K hP sM_22 hin_6 dX12_goesOn_25 (fun x_7 ex_7 => ?_)
    have b_x_7 := dk_all_at (dg_I.row (lo := 0) (hi := 6) I_2 sM_22 (by decide +kernel)) hin_6 ex_7
    refine lv_istore_n (lv' := [(2, .int x_7), (1, .int x_5), (0, .ref (o + 0))]) hx hb dX12_goesOn_26 rfl hl (by decide) rfl (fun ls hl => ?_)
    refine lv_iload_n hx hb dX12_goesOn_27 rfl (lv_at hl 0 rfl) ?_
    refine dg_calli hS hA1 hA (va_runS (As := [.int x_7]) (rest := []) F (c_m_isTest l g D o S_2 x_7 I_2 H.size) (va_cwS 1 hts (bw_S wB_1221 wB_1222 wB_881 wB_1220) rfl rfl rfl (by decide +kernel) ⟨Nat.le_of_ble_eq_true rfl, Nat.le_of_ble_eq_true rfl⟩) (dg_preS K ST hP hS hA1 hA) rfl rfl hl.1 rfl (lv_room (Nat.le_of_ble_eq_true rfl)) dX12_goesOn_28 ⟨Nat.le_of_ble_eq_true rfl, Nat.le_of_ble_eq_true rfl⟩) (fun x_8 S_9 hw_9 H locs hP hS => ?_)
    rw [hw_9.1] at hP
    obtain ⟨hq_9, w_9_0, w_9_1, -⟩ := hw_9
    have w_9_0 : 0 ≤ (x_8).toInt ∧ (x_8).toInt ≤ 1 := w_9_0
    have w_9_1 : (x_8).toInt = 1 ↔ ((x_7).toInt = 1 ∨ (x_7).toInt = 5 ∨ (x_7).toInt = 6) := w_9_1
    refine lv_istore_n (lv' := [(3, .int x_8), (2, .int x_7), (1, .int x_5), (0, .ref (o + 0))]) hx hb dX12_goesOn_31 rfl hl (by decide) rfl (fun ls hl => ?_)
    refine lv_aload_n hx hb dX12_goesOn_32 rfl (lv_at hl 3 rfl) ?_
    refine dg_get (C := RX12) (T := TX12) (N := 77) hx hb hts (fun w h => bw_mem (wU_X12 w h)) hown K hP sM_0 rfl 38 (by decide) (hts _ (bw_mem wB_1214)) (fun _ h9 => h9) (v := .ref (o + 23)) (show S_2.1 0 38 = .ref (o + 23) from dg_I.rel (d := 23) I_2 sM_0 (by decide +kernel)) dX12_goesOn_33 ?_
    refine lv_iload_n hx hb dX12_goesOn_36 rfl (lv_at hl 2 rfl) ?_
    have hin_10 : vp_in x_5 20 := (dk_inv (by omega) (by omega))
    refine dg_iald hx hb K hP sM_23 hin_10 dX12_goesOn_37 (fun x_11 ex_11 => ?_)
    have b_x_11 := dk_all_at (dg_I.row (lo := 0) (hi := 2) I_2 sM_23 (by decide +kernel)) hin_10 ex_11
    refine lv_iconst (v := 2) hx hb dX12_goesOn_38 (by decide +kernel) ?_
    have J_800 : ∀ (H : Heap) (locs : List Loc), va_P D vwCl (dg_w g shM o rfM S_2) H → va_S A s.heap H locs → ∀ ls : Array Slot, lv_has ls 5 [(3, .int x_8), (2, .int x_7), (1, .int x_5), (0, .ref (o + 0))] → W p l e ({ frames := 3, cells := 0, slots := 0, locals := 77 } : Room) s m args below meth c H locs 0 0 (MQ below (va_Qi (fun (r : Int32) S' => CM o S' ∧ dg_sm shM [(0, 3), (0, 4), (0, 5), (0, 6), (0, 7), (0, 8), (0, 9), (0, 12), (0, 34), (0, 42), (0, 43), (0, 45), (0, 46)] [18, 19, 22, 23, 24, 27] S S' ∧ (0 ≤ (r).toInt ∧ (r).toInt ≤ 1) ∧ (∃ y9_3 y9_4 y9_5 y9_8 y9_34 y9_42 y9_45 y9_46 : Int32, S'.1 0 3 = .int y9_3 ∧ S'.1 0 4 = .int y9_4 ∧ S'.1 0 5 = .int y9_5 ∧ S'.1 0 8 = .int y9_8 ∧ S'.1 0 34 = .int y9_34 ∧ S'.1 0 42 = .int y9_42 ∧ S'.1 0 45 = .int y9_45 ∧ S'.1 0 46 = .int y9_46 ∧ (((y9_4).toInt ≤ (y9_5).toInt ∧ (y9_5).toInt ≤ (sl).toInt ∧ ((y9_3).toInt ≠ 0 → (y9_4).toInt + 1 ≤ (y9_5).toInt)) ∧ (sa).toInt ≤ (y9_4).toInt ∧ ((fk).toInt ≠ 0 → (y9_8).toInt ≠ 0) ∧ (((y9_8).toInt = 0 → (r).toInt = 1 → (sa).toInt + 1 ≤ (y9_4).toInt) ∧ ((y9_8).toInt = 0 → (y9_34).toInt + (y9_45).toInt + (y9_42).toInt ≤ (y9_4).toInt)))) ∧ (∀ k9 : Int32, S'.1 0 8 = .int k9 → k9.toInt = 0 → POM S') ∧ ZWM S' ∧ True) (dg_B g D shM o rfM) A) args s 0 0 A) (F0 m 188 ls []) := by
      intro H locs hP hS ls hl
      refine lv_iload_n hx hb dX12_goesOn_188 rfl (lv_at hl 0 rfl) ?_
      have J_1242 : ∀ (H : Heap) (locs : List Loc), va_P D vwCl (dg_w g shM o rfM S_2) H → va_S A s.heap H locs → ∀ ls : Array Slot, lv_has ls 5 [(3, .int x_8), (2, .int x_7), (1, .int x_5), (0, .ref (o + 0))] → W p l e ({ frames := 3, cells := 0, slots := 0, locals := 77 } : Room) s m args below meth c H locs 0 0 (MQ below (va_Qi (fun (r : Int32) S' => CM o S' ∧ dg_sm shM [(0, 3), (0, 4), (0, 5), (0, 6), (0, 7), (0, 8), (0, 9), (0, 12), (0, 34), (0, 42), (0, 43), (0, 45), (0, 46)] [18, 19, 22, 23, 24, 27] S S' ∧ (0 ≤ (r).toInt ∧ (r).toInt ≤ 1) ∧ (∃ y9_3 y9_4 y9_5 y9_8 y9_34 y9_42 y9_45 y9_46 : Int32, S'.1 0 3 = .int y9_3 ∧ S'.1 0 4 = .int y9_4 ∧ S'.1 0 5 = .int y9_5 ∧ S'.1 0 8 = .int y9_8 ∧ S'.1 0 34 = .int y9_34 ∧ S'.1 0 42 = .int y9_42 ∧ S'.1 0 45 = .int y9_45 ∧ S'.1 0 46 = .int y9_46 ∧ (((y9_4).toInt ≤ (y9_5).toInt ∧ (y9_5).toInt ≤ (sl).toInt ∧ ((y9_3).toInt ≠ 0 → (y9_4).toInt + 1 ≤ (y9_5).toInt)) ∧ (sa).toInt ≤ (y9_4).toInt ∧ ((fk).toInt ≠ 0 → (y9_8).toInt ≠ 0) ∧ (((y9_8).toInt = 0 → (r).toInt = 1 → (sa).toInt + 1 ≤ (y9_4).toInt) ∧ ((y9_8).toInt = 0 → (y9_34).toInt + (y9_45).toInt + (y9_42).toInt ≤ (y9_4).toInt)))) ∧ (∀ k9 : Int32, S'.1 0 8 = .int k9 → k9.toInt = 0 → POM S') ∧ ZWM S' ∧ True) (dg_B g D shM o rfM) A) args s 0 0 A) (F0 m 285 ls []) := by
        intro H locs hP hS ls hl
        refine lv_iload_n hx hb dX12_goesOn_285 rfl (lv_at hl 0 rfl) ?_
        have J_1632 : ∀ (H : Heap) (locs : List Loc), va_P D vwCl (dg_w g shM o rfM S_2) H → va_S A s.heap H locs → ∀ ls : Array Slot, lv_has ls 5 [(3, .int x_8), (2, .int x_7), (1, .int x_5), (0, .ref (o + 0))] → W p l e ({ frames := 3, cells := 0, slots := 0, locals := 77 } : Room) s m args below meth c H locs 0 0 (MQ below (va_Qi (fun (r : Int32) S' => CM o S' ∧ dg_sm shM [(0, 3), (0, 4), (0, 5), (0, 6), (0, 7), (0, 8), (0, 9), (0, 12), (0, 34), (0, 42), (0, 43), (0, 45), (0, 46)] [18, 19, 22, 23, 24, 27] S S' ∧ (0 ≤ (r).toInt ∧ (r).toInt ≤ 1) ∧ (∃ y9_3 y9_4 y9_5 y9_8 y9_34 y9_42 y9_45 y9_46 : Int32, S'.1 0 3 = .int y9_3 ∧ S'.1 0 4 = .int y9_4 ∧ S'.1 0 5 = .int y9_5 ∧ S'.1 0 8 = .int y9_8 ∧ S'.1 0 34 = .int y9_34 ∧ S'.1 0 42 = .int y9_42 ∧ S'.1 0 45 = .int y9_45 ∧ S'.1 0 46 = .int y9_46 ∧ (((y9_4).toInt ≤ (y9_5).toInt ∧ (y9_5).toInt ≤ (sl).toInt ∧ ((y9_3).toInt ≠ 0 → (y9_4).toInt + 1 ≤ (y9_5).toInt)) ∧ (sa).toInt ≤ (y9_4).toInt ∧ ((fk).toInt ≠ 0 → (y9_8).toInt ≠ 0) ∧ (((y9_8).toInt = 0 → (r).toInt = 1 → (sa).toInt + 1 ≤ (y9_4).toInt) ∧ ((y9_8).toInt = 0 → (y9_34).toInt + (y9_45).toInt + (y9_42).toInt ≤ (y9_4).toInt)))) ∧ (∀ k9 : Int32, S'.1 0 8 = .int k9 → k9.toInt = 0 → POM S') ∧ ZWM S' ∧ True) (dg_B g D shM o rfM) A) args s 0 0 A) (F0 m 400 ls []) := by
          intro H locs hP hS ls hl
          refine lv_iload_n hx hb dX12_goesOn_400 rfl (lv_at hl 0 rfl) ?_
          refine lv_if_eq (tgt := 422) hx hb dX12_goesOn_401 (by decide) (fun c_1633 => ?_) (fun c_1633 => ?_)
          · have jc_1633 := dk_eqc (k := 0) (by decide +kernel) c_1633
            clear w_9_1
            refine lv_iload_n hx hb dX12_goesOn_422 rfl (lv_at hl 1 rfl) ?_
            refine lv_iconst (v := 2) hx hb dX12_goesOn_423 (by decide +kernel) ?_
            refine lv_icmp_ge (tgt := 441) hx hb dX12_goesOn_424 (by decide) (fun c_1634 => ?_) (fun c_1634 => ?_)
            · have jc_1634 := dk_gec (k := 2) (by decide +kernel) c_1634
              refine lv_iload_n hx hb dX12_goesOn_441 rfl (lv_at hl 1 rfl) ?_
              refine lv_iconst (v := 3) hx hb dX12_goesOn_442 (by decide +kernel) ?_
              have J_1760 : ∀ (u9 : Unit), ((x_7 : Int32).toInt = 3 ∨ (x_7 : Int32).toInt = 6) → ∀ (H : Heap) (locs : List Loc), va_P D vwCl (dg_w g shM o rfM S_2) H → va_S A s.heap H locs → ∀ ls : Array Slot, lv_has ls 5 [(3, .int x_8), (2, .int x_7), (1, .int x_5), (0, .ref (o + 0))] → W p l e ({ frames := 3, cells := 0, slots := 0, locals := 77 } : Room) s m args below meth c H locs 0 0 (MQ below (va_Qi (fun (r : Int32) S' => CM o S' ∧ dg_sm shM [(0, 3), (0, 4), (0, 5), (0, 6), (0, 7), (0, 8), (0, 9), (0, 12), (0, 34), (0, 42), (0, 43), (0, 45), (0, 46)] [18, 19, 22, 23, 24, 27] S S' ∧ (0 ≤ (r).toInt ∧ (r).toInt ≤ 1) ∧ (∃ y9_3 y9_4 y9_5 y9_8 y9_34 y9_42 y9_45 y9_46 : Int32, S'.1 0 3 = .int y9_3 ∧ S'.1 0 4 = .int y9_4 ∧ S'.1 0 5 = .int y9_5 ∧ S'.1 0 8 = .int y9_8 ∧ S'.1 0 34 = .int y9_34 ∧ S'.1 0 42 = .int y9_42 ∧ S'.1 0 45 = .int y9_45 ∧ S'.1 0 46 = .int y9_46 ∧ (((y9_4).toInt ≤ (y9_5).toInt ∧ (y9_5).toInt ≤ (sl).toInt ∧ ((y9_3).toInt ≠ 0 → (y9_4).toInt + 1 ≤ (y9_5).toInt)) ∧ (sa).toInt ≤ (y9_4).toInt ∧ ((fk).toInt ≠ 0 → (y9_8).toInt ≠ 0) ∧ (((y9_8).toInt = 0 → (r).toInt = 1 → (sa).toInt + 1 ≤ (y9_4).toInt) ∧ ((y9_8).toInt = 0 → (y9_34).toInt + (y9_45).toInt + (y9_42).toInt ≤ (y9_4).toInt)))) ∧ (∀ k9 : Int32, S'.1 0 8 = .int k9 → k9.toInt = 0 → POM S') ∧ ZWM S' ∧ True) (dg_B g D shM o rfM) A) args s 0 0 A) (F0 m 452 ls []) := by
                intro u9 rel_0 H locs hP hS ls hl
                refine lv_aload_n hx hb dX12_goesOn_452 rfl (lv_at hl 3 rfl) ?_
                refine lv_bipush (v := 44) hx hb dX12_goesOn_453 (by decide +kernel) ?_
                refine dg_calli hS hA1 hA (va_runV (As := [.int 44]) (rest := []) F (c_m_isSign l g D o S_2 44 sg ((m_2.1 0 3 _ sM_0 (by decide)).trans f_sg) (by omega) va ((m_2.1 0 6 _ sM_0 (by decide)).trans f_va) (by omega) I_2 H.size) (cwV 1 hts (bw_V wB_1157 wB_1158 wB_1159 wB_881 wB_1156) rfl rfl rfl (by decide +kernel) ⟨Nat.le_of_ble_eq_true rfl, Nat.le_of_ble_eq_true rfl⟩) (dg_preV sM_0 rfl K ST hP hS hA1 hA) rfl rfl hl.1 rfl (lv_room (Nat.le_of_ble_eq_true rfl)) dX12_goesOn_455 ⟨Nat.le_of_ble_eq_true rfl, Nat.le_of_ble_eq_true rfl⟩) (fun x_1761 S_1762 hw_1762 H locs hP hS => ?_)
                rw [hw_1762.1] at hP
                obtain ⟨hq_1762, w_1762_0, w_1762_1, -⟩ := hw_1762
                have hz_1763 : (44 : Int32).toInt = 44 := by decide +kernel
                have w_1762_0 : 0 ≤ (x_1761).toInt ∧ (x_1761).toInt ≤ 1 := w_1762_0
                have w_1762_1 : (x_1761).toInt = 1 ↔ ((sg).toInt = 3 ∧ (va).toInt = ((44 : Int32)).toInt) := w_1762_1
                refine lv_if_ne (tgt := 470) hx hb dX12_goesOn_458 (by decide) (fun c_1764 => ?_) (fun c_1764 => ?_)
                · have jc_1764 := dk_neqc (k := 0) (by decide +kernel) c_1764
                  have w_1762_1_r := w_1762_1.mp (by omega)
                  clear w_1762_1
                  refine lv_aload_n hx hb dX12_goesOn_470 rfl (lv_at hl 3 rfl) ?_
                  refine dg_get (C := RX12) (T := TX12) (N := 77) hx hb hts (fun w h => bw_mem (wU_X12 w h)) hown K hP sM_0 rfl 8 (by decide) (hts _ (bw_mem wB_1133)) (fun _ h9 => h9) (v := .int y_3) f_y_3 dX12_goesOn_471 ?_
                  refine lv_if_le (tgt := 479) hx hb dX12_goesOn_474 (by decide) (fun _ => ?_) (fun c => absurd (dk_lep (k := 0) (by decide +kernel) (by omega)) c)
                  refine lv_aload_n hx hb dX12_goesOn_479 rfl (lv_at hl 3 rfl) ?_
                  refine lv_iconst (v := 1) hx hb dX12_goesOn_480 (by decide +kernel) ?_
                  have hz_1765 : (1 : Int32).toInt = 1 := by decide +kernel
                  refine dg_callv hS hA1 hA (va_runV (As := [.int 1]) (rest := []) F (c_m_joins l g D o S_2 1 (by decide +kernel) cd ((m_2.1 0 34 _ sM_0 (by decide)).trans f_cd) (by omega) om ((m_2.1 0 45 _ sM_0 (by decide)).trans f_om) (by omega) (by omega) (ZWM.keep ZW m_2 (by decide) (by decide) (by decide) (by decide)) (ZKM.keep ZK m_2 (by decide) (by decide)) (P1M.keep P1 m_2 (by decide) (by decide) (by decide) (by decide) (by decide) (by decide) (by decide) (by decide) (by decide) (by decide) (by decide) (by decide) (by decide) (by decide) (by decide)) I_2 H.size) (cwV 1 hts (bw_V wB_1234 wB_1235 wB_1236 wB_881 wB_1233) rfl rfl rfl (by decide +kernel) ⟨Nat.le_of_ble_eq_true rfl, Nat.le_of_ble_eq_true rfl⟩) (dg_preV sM_0 rfl K ST hP hS hA1 hA) rfl rfl hl.1 rfl (lv_room (Nat.le_of_ble_eq_true rfl)) dX12_goesOn_481 ⟨Nat.le_of_ble_eq_true rfl, Nat.le_of_ble_eq_true rfl⟩) (fun S_1766 hw_1766 H locs hP hS => ?_)
                  obtain ⟨I_1766, m_1766, w_1766_0, w_1766_1, w_1766_2, w_1766_3, -⟩ := hw_1766
                  have M_1766 := dg_sm.tr M_2 m_1766 (by decide) (by decide)
                  have hz_1767 : (1 : Int32).toInt = 1 := by decide +kernel
                  obtain ⟨y_1768, y_1769, f_y_1768, f_y_1769, w_1766_0⟩ := w_1766_0
                  have w_1766_0 : (y_1768).toInt + (y_1769).toInt = (cd).toInt + (om).toInt := w_1766_0
                  have b_y_1768 : 0 ≤ (y_1768).toInt ∧ (y_1768).toInt ≤ 1600 := dg_I.intb (lo := 0) (hi := 1600) I_1766 sM_0 (by decide +kernel) f_y_1768
                  have b_y_1769 : 0 ≤ (y_1769).toInt ∧ (y_1769).toInt ≤ 500 := dg_I.intb (lo := 0) (hi := 500) I_1766 sM_0 (by decide +kernel) f_y_1769
                  have w_1766_1 : TOPM S_1766 (1 : Int32) := w_1766_1
                  refine lv_aload_n hx hb dX12_goesOn_484 rfl (lv_at hl 3 rfl) ?_
                  refine dg_get (C := RX12) (T := TX12) (N := 77) hx hb hts (fun w h => bw_mem (wU_X12 w h)) hown K hP sM_0 rfl 37 (by decide) (hts _ (bw_mem wB_1213)) (fun _ h9 => h9) (v := .ref (o + 22)) (show S_1766.1 0 37 = .ref (o + 22) from dg_I.rel (d := 22) I_1766 sM_0 (by decide +kernel)) dX12_goesOn_485 ?_
                  refine lv_iload_n hx hb dX12_goesOn_488 rfl (lv_at hl 2 rfl) ?_
                  refine lv_iload_n hx hb dX12_goesOn_489 rfl (lv_at hl 1 rfl) ?_
                  refine lv_iconst (v := 3) hx hb dX12_goesOn_490 (by decide +kernel) ?_
                  refine lv_icmp_ne (tgt := 498) hx hb dX12_goesOn_491 (by decide) (fun c_1770 => ?_) (fun c_1770 => ?_)
                  · have jc_1770 := dk_neqc (k := 3) (by decide +kernel) c_1770
                    refine lv_iconst (v := 3) hx hb dX12_goesOn_498 (by decide +kernel) ?_
                    have hin_1771 : vp_in x_5 20 := (dk_inv (by omega) (by omega))
                    have hz_1773 : (3 : Int32).toInt = 3 := by decide +kernel
                    refine dg_iast hx hb K hP hS hA1 sM_22 hin_1771 dX12_goesOn_499 (fun S_1772 e_1772 H locs hP hS => ?_)
                    have I_1772 := dg_I.ufu (lo := 0) (hi := 6) I_1766 e_1772 sM_22 (by decide +kernel) (show 0 ≤ ((3 : Int32)).toInt ∧ ((3 : Int32)).toInt ≤ 6 from (by decide +kernel))
                    have M_1772 := dg_sm.uf M_1766 e_1772 sM_22 (by decide)
                    have hz_1774 : (3 : Int32).toInt = 3 := by decide +kernel
                    refine lv_aload_n hx hb dX12_goesOn_500 rfl (lv_at hl 3 rfl) ?_
                    refine dg_get (C := RX12) (T := TX12) (N := 77) hx hb hts (fun w h => bw_mem (wU_X12 w h)) hown K hP sM_0 rfl 38 (by decide) (hts _ (bw_mem wB_1214)) (fun _ h9 => h9) (v := .ref (o + 23)) (show S_1772.1 0 38 = .ref (o + 23) from dg_I.rel (d := 23) I_1772 sM_0 (by decide +kernel)) dX12_goesOn_501 ?_
                    refine lv_iload_n hx hb dX12_goesOn_504 rfl (lv_at hl 2 rfl) ?_
                    refine lv_iconst (v := 0) hx hb dX12_goesOn_505 (by decide +kernel) ?_
                    have hin_1775 : vp_in x_5 20 := (dk_inv (by omega) (by omega))
                    have hz_1777 : (0 : Int32).toInt = 0 := by decide +kernel
                    refine dg_iast hx hb K hP hS hA1 sM_23 hin_1775 dX12_goesOn_506 (fun S_1776 e_1776 H locs hP hS => ?_)
                    have I_1776 := dg_I.ufu (lo := 0) (hi := 2) I_1772 e_1776 sM_23 (by decide +kernel) (show 0 ≤ ((0 : Int32)).toInt ∧ ((0 : Int32)).toInt ≤ 2 from (by decide +kernel))
                    have M_1776 := dg_sm.uf M_1772 e_1776 sM_23 (by decide)
                    obtain ⟨x_1778, f_x_1778, b_x_1778⟩ := dg_I.int (i := 0) (k := 43) (lo := (-2147483648)) (hi := 2147483647) I_1766 sM_0 (by decide +kernel)
                    have hz_1779 : (0 : Int32).toInt = 0 := by decide +kernel
                    obtain ⟨x_1780, f_x_1780⟩ : ∃ x, S_1766.2.1 22 (x_5 : Int32).toNatClampNeg = x := ⟨_, rfl⟩
                    have hin_1781 : vp_in (x_5 : Int32) 20 := (dk_inv (by omega) (by omega))
                    have b_x_1780 := dk_all_at (dg_I.row (lo := 0) (hi := 6) I_1766 sM_22 (by decide +kernel)) hin_1781 f_x_1780.symm
                    have P0_1776 : P0M S_1776 := P1M.comma w_1766_3 (((m_1766.1 0 42 _ sM_0 (by decide)).trans (m_2.1 0 42 _ sM_0 (by decide))).trans f_dp) f_x_1778 f_y_1769 w_1766_1 (by omega) (fx := x_5) (by omega) f_x_1780 (by omega) e_1772 e_1776
                    refine lv_aload_n hx hb dX12_goesOn_507 rfl (lv_at hl 3 rfl) ?_
                    refine dg_callv hS hA1 hA (va_runV (As := []) (rest := []) F (c_m_ahead l g D o S_1776 se (((dg_uf_F e_1776 0 5).trans ((dg_uf_F e_1772 0 5).trans ((m_1766.1 0 5 _ sM_0 (by decide)).trans (m_2.1 0 5 _ sM_0 (by decide))))).trans f_se) (by omega) sl (((dg_uf_F e_1776 0 2).trans ((dg_uf_F e_1772 0 2).trans ((m_1766.1 0 2 _ sM_0 (by decide)).trans (m_2.1 0 2 _ sM_0 (by decide))))).trans f_sl) (by omega) (by omega) I_1776 H.size) (cwV 0 hts (bw_V wB_1161 wB_1162 wB_1163 wB_881 wB_1160) rfl rfl rfl (by decide +kernel) ⟨Nat.le_of_ble_eq_true rfl, Nat.le_of_ble_eq_true rfl⟩) (dg_preV sM_0 rfl K ST hP hS hA1 hA) rfl rfl hl.1 rfl (lv_room (Nat.le_of_ble_eq_true rfl)) dX12_goesOn_508 ⟨Nat.le_of_ble_eq_true rfl, Nat.le_of_ble_eq_true rfl⟩) (fun S_1782 hw_1782 H locs hP hS => ?_)
                    obtain ⟨I_1782, m_1782, w_1782_0, -⟩ := hw_1782
                    have M_1782 := dg_sm.tr M_1776 m_1782 (by decide) (by decide)
                    obtain ⟨y_1783, y_1784, y_1785, f_y_1783, f_y_1784, f_y_1785, w_1782_0⟩ := w_1782_0
                    have w_1782_0 : (se).toInt ≤ (y_1784).toInt ∧ (y_1784).toInt ≤ (y_1785).toInt ∧ (y_1785).toInt ≤ (sl).toInt ∧ ((y_1783).toInt ≠ 0 → (y_1784).toInt + 1 ≤ (y_1785).toInt) := w_1782_0
                    obtain ⟨w_1782_0_0, w_1782_0_1, w_1782_0_2, w_1782_0_3⟩ := w_1782_0
                    have b_y_1783 : 0 ≤ (y_1783).toInt ∧ (y_1783).toInt ≤ 3 := dg_I.intb (lo := 0) (hi := 3) I_1782 sM_0 (by decide +kernel) f_y_1783
                    have b_y_1784 : 0 ≤ (y_1784).toInt ∧ (y_1784).toInt ≤ 1600 := dg_I.intb (lo := 0) (hi := 1600) I_1782 sM_0 (by decide +kernel) f_y_1784
                    have b_y_1785 : 0 ≤ (y_1785).toInt ∧ (y_1785).toInt ≤ 1600 := dg_I.intb (lo := 0) (hi := 1600) I_1782 sM_0 (by decide +kernel) f_y_1785
                    refine lv_aload_n hx hb dX12_goesOn_511 rfl (lv_at hl 3 rfl) ?_
                    refine lv_iconst (v := 0) hx hb dX12_goesOn_512 (by decide +kernel) ?_
                    have hz_1786 : (0 : Int32).toInt = 0 := by decide +kernel
                    refine dg_put (ci := 12) (v := .int 0) (ty := tyX12 46) (C := RX12) (T := TX12) (N := 77) hx hb hts (fun w h => bw_mem (wU_X12 w h)) tyX12 tyX12_ok nmX12 hown K hP hS hA1 sM_0 rfl 46 (by decide) (hts _ (bw_mem wB_1237)) (fun _ h9 => h9) rfl (by decide +kernel) (by decide +kernel) (by decide +kernel) dX12_goesOn_513 (fun S_1787 e_1787 H locs hP hS => ?_)
                    have I_1787 := dg_I.uFi (lo := 0) (hi := 1) I_1782 e_1787 sM_0 (by decide +kernel) (show 0 ≤ ((0 : Int32)).toInt ∧ ((0 : Int32)).toInt ≤ 1 from (by decide +kernel))
                    have M_1787 := dg_sm.uF M_1782 e_1787 sM_0 (by decide)
                    refine lv_iconst (v := 1) hx hb dX12_goesOn_516 (by decide +kernel) ?_
                    have hz_1788 : (1 : Int32).toInt = 1 := by decide +kernel
                    have hz_1789 : (1 : Int32).toInt = 1 := by decide +kernel
                    have hz_1790 : (0 : Int32).toInt = 0 := by decide +kernel
                    have hz_1791 : (1 : Int32).toInt = 1 := by decide +kernel
                    have hz_1792 : (0 : Int32).toInt = 0 := by decide +kernel
                    refine W.widen (k := 0) (n := 0) (Nat.le_of_ble_eq_true rfl) (Nat.le_of_ble_eq_true rfl) ?_
                    exact dg_iret hx hb hr hlocks (by decide +kernel) hP hS ⟨I_1787, M_1787, (by decide +kernel), ⟨y_1783, y_1784, y_1785, y_3, y_1768, dp, y_1769, 0, ((dg_uF_ne e_1787 (fun z => absurd z.2 (by decide))).trans f_y_1783), ((dg_uF_ne e_1787 (fun z => absurd z.2 (by decide))).trans f_y_1784), ((dg_uF_ne e_1787 (fun z => absurd z.2 (by decide))).trans f_y_1785), (((dg_uF_ne e_1787 (fun z => absurd z.2 (by decide))).trans ((m_1782.1 0 8 _ sM_0 (by decide)).trans ((dg_uf_F e_1776 0 8).trans ((dg_uf_F e_1772 0 8).trans (m_1766.1 0 8 _ sM_0 (by decide)))))).trans f_y_3), (((dg_uF_ne e_1787 (fun z => absurd z.2 (by decide))).trans ((m_1782.1 0 34 _ sM_0 (by decide)).trans ((dg_uf_F e_1776 0 34).trans (dg_uf_F e_1772 0 34)))).trans f_y_1768), (((dg_uF_ne e_1787 (fun z => absurd z.2 (by decide))).trans ((m_1782.1 0 42 _ sM_0 (by decide)).trans ((dg_uf_F e_1776 0 42).trans ((dg_uf_F e_1772 0 42).trans ((m_1766.1 0 42 _ sM_0 (by decide)).trans (m_2.1 0 42 _ sM_0 (by decide))))))).trans f_dp), (((dg_uF_ne e_1787 (fun z => absurd z.2 (by decide))).trans ((m_1782.1 0 45 _ sM_0 (by decide)).trans ((dg_uf_F e_1776 0 45).trans (dg_uf_F e_1772 0 45)))).trans f_y_1769), (dg_uF_at e_1787), (by omega)⟩, (fun k9 hk9 hk0 => POM.mk0 (P0M.keep (P0M.keep P0_1776 m_1782 (by decide) (by decide) (by decide) (by decide) (by decide) (by decide) (by decide) (by decide) (by decide) (by decide) (by decide) (by decide) (by decide) (by decide) (by decide)) (dg_sm.uF (WF := [(0, 46)]) (WA := []) dg_sm.rf e_1787 sM_0 (by decide)) (by decide) (by decide) (by decide) (by decide) (by decide) (by decide) (by decide) (by decide) (by decide) (by decide) (by decide) (by decide) (by decide) (by decide) (by decide)) (dg_uF_at e_1787) (by omega)), (ZWM.keep (ZWM.keep (ZWM.keep (ZWM.keep w_1766_2 (dg_sm.uf (WF := []) (WA := [22]) dg_sm.rf e_1772 sM_22 (by decide)) (by decide) (by decide) (by decide) (by decide)) (dg_sm.uf (WF := []) (WA := [23]) dg_sm.rf e_1776 sM_23 (by decide)) (by decide) (by decide) (by decide) (by decide)) m_1782 (by decide) (by decide) (by decide) (by decide)) (dg_sm.uF (WF := [(0, 46)]) (WA := []) dg_sm.rf e_1787 sM_0 (by decide)) (by decide) (by decide) (by decide) (by decide)), trivial⟩ dX12_goesOn_517
                  · have jc_1770 := dk_eqc (k := 3) (by decide +kernel) c_1770
                    refine lv_iconst (v := 4) hx hb dX12_goesOn_494 (by decide +kernel) ?_
                    refine lv_goto (tgt := 499) hx hb dX12_goesOn_495 (by decide) ?_
                    have hin_1793 : vp_in x_5 20 := (dk_inv (by omega) (by omega))
                    have hz_1795 : (4 : Int32).toInt = 4 := by decide +kernel
                    refine dg_iast hx hb K hP hS hA1 sM_22 hin_1793 dX12_goesOn_499 (fun S_1794 e_1794 H locs hP hS => ?_)
                    have I_1794 := dg_I.ufu (lo := 0) (hi := 6) I_1766 e_1794 sM_22 (by decide +kernel) (show 0 ≤ ((4 : Int32)).toInt ∧ ((4 : Int32)).toInt ≤ 6 from (by decide +kernel))
                    have M_1794 := dg_sm.uf M_1766 e_1794 sM_22 (by decide)
                    have hz_1796 : (4 : Int32).toInt = 4 := by decide +kernel
                    refine lv_aload_n hx hb dX12_goesOn_500 rfl (lv_at hl 3 rfl) ?_
                    refine dg_get (C := RX12) (T := TX12) (N := 77) hx hb hts (fun w h => bw_mem (wU_X12 w h)) hown K hP sM_0 rfl 38 (by decide) (hts _ (bw_mem wB_1214)) (fun _ h9 => h9) (v := .ref (o + 23)) (show S_1794.1 0 38 = .ref (o + 23) from dg_I.rel (d := 23) I_1794 sM_0 (by decide +kernel)) dX12_goesOn_501 ?_
                    refine lv_iload_n hx hb dX12_goesOn_504 rfl (lv_at hl 2 rfl) ?_
                    refine lv_iconst (v := 0) hx hb dX12_goesOn_505 (by decide +kernel) ?_
                    have hin_1797 : vp_in x_5 20 := (dk_inv (by omega) (by omega))
                    have hz_1799 : (0 : Int32).toInt = 0 := by decide +kernel
                    refine dg_iast hx hb K hP hS hA1 sM_23 hin_1797 dX12_goesOn_506 (fun S_1798 e_1798 H locs hP hS => ?_)
                    have I_1798 := dg_I.ufu (lo := 0) (hi := 2) I_1794 e_1798 sM_23 (by decide +kernel) (show 0 ≤ ((0 : Int32)).toInt ∧ ((0 : Int32)).toInt ≤ 2 from (by decide +kernel))
                    have M_1798 := dg_sm.uf M_1794 e_1798 sM_23 (by decide)
                    obtain ⟨x_1800, f_x_1800, b_x_1800⟩ := dg_I.int (i := 0) (k := 43) (lo := (-2147483648)) (hi := 2147483647) I_1766 sM_0 (by decide +kernel)
                    have hz_1801 : (0 : Int32).toInt = 0 := by decide +kernel
                    obtain ⟨x_1802, f_x_1802⟩ : ∃ x, S_1766.2.1 22 (x_5 : Int32).toNatClampNeg = x := ⟨_, rfl⟩
                    have hin_1803 : vp_in (x_5 : Int32) 20 := (dk_inv (by omega) (by omega))
                    have b_x_1802 := dk_all_at (dg_I.row (lo := 0) (hi := 6) I_1766 sM_22 (by decide +kernel)) hin_1803 f_x_1802.symm
                    have P0_1798 : P0M S_1798 := P1M.comma w_1766_3 (((m_1766.1 0 42 _ sM_0 (by decide)).trans (m_2.1 0 42 _ sM_0 (by decide))).trans f_dp) f_x_1800 f_y_1769 w_1766_1 (by omega) (fx := x_5) (by omega) f_x_1802 (by omega) e_1794 e_1798
                    refine lv_aload_n hx hb dX12_goesOn_507 rfl (lv_at hl 3 rfl) ?_
                    refine dg_callv hS hA1 hA (va_runV (As := []) (rest := []) F (c_m_ahead l g D o S_1798 se (((dg_uf_F e_1798 0 5).trans ((dg_uf_F e_1794 0 5).trans ((m_1766.1 0 5 _ sM_0 (by decide)).trans (m_2.1 0 5 _ sM_0 (by decide))))).trans f_se) (by omega) sl (((dg_uf_F e_1798 0 2).trans ((dg_uf_F e_1794 0 2).trans ((m_1766.1 0 2 _ sM_0 (by decide)).trans (m_2.1 0 2 _ sM_0 (by decide))))).trans f_sl) (by omega) (by omega) I_1798 H.size) (cwV 0 hts (bw_V wB_1161 wB_1162 wB_1163 wB_881 wB_1160) rfl rfl rfl (by decide +kernel) ⟨Nat.le_of_ble_eq_true rfl, Nat.le_of_ble_eq_true rfl⟩) (dg_preV sM_0 rfl K ST hP hS hA1 hA) rfl rfl hl.1 rfl (lv_room (Nat.le_of_ble_eq_true rfl)) dX12_goesOn_508 ⟨Nat.le_of_ble_eq_true rfl, Nat.le_of_ble_eq_true rfl⟩) (fun S_1804 hw_1804 H locs hP hS => ?_)
                    obtain ⟨I_1804, m_1804, w_1804_0, -⟩ := hw_1804
                    have M_1804 := dg_sm.tr M_1798 m_1804 (by decide) (by decide)
                    obtain ⟨y_1805, y_1806, y_1807, f_y_1805, f_y_1806, f_y_1807, w_1804_0⟩ := w_1804_0
                    have w_1804_0 : (se).toInt ≤ (y_1806).toInt ∧ (y_1806).toInt ≤ (y_1807).toInt ∧ (y_1807).toInt ≤ (sl).toInt ∧ ((y_1805).toInt ≠ 0 → (y_1806).toInt + 1 ≤ (y_1807).toInt) := w_1804_0
                    obtain ⟨w_1804_0_0, w_1804_0_1, w_1804_0_2, w_1804_0_3⟩ := w_1804_0
                    have b_y_1805 : 0 ≤ (y_1805).toInt ∧ (y_1805).toInt ≤ 3 := dg_I.intb (lo := 0) (hi := 3) I_1804 sM_0 (by decide +kernel) f_y_1805
                    have b_y_1806 : 0 ≤ (y_1806).toInt ∧ (y_1806).toInt ≤ 1600 := dg_I.intb (lo := 0) (hi := 1600) I_1804 sM_0 (by decide +kernel) f_y_1806
                    have b_y_1807 : 0 ≤ (y_1807).toInt ∧ (y_1807).toInt ≤ 1600 := dg_I.intb (lo := 0) (hi := 1600) I_1804 sM_0 (by decide +kernel) f_y_1807
                    refine lv_aload_n hx hb dX12_goesOn_511 rfl (lv_at hl 3 rfl) ?_
                    refine lv_iconst (v := 0) hx hb dX12_goesOn_512 (by decide +kernel) ?_
                    have hz_1808 : (0 : Int32).toInt = 0 := by decide +kernel
                    refine dg_put (ci := 12) (v := .int 0) (ty := tyX12 46) (C := RX12) (T := TX12) (N := 77) hx hb hts (fun w h => bw_mem (wU_X12 w h)) tyX12 tyX12_ok nmX12 hown K hP hS hA1 sM_0 rfl 46 (by decide) (hts _ (bw_mem wB_1237)) (fun _ h9 => h9) rfl (by decide +kernel) (by decide +kernel) (by decide +kernel) dX12_goesOn_513 (fun S_1809 e_1809 H locs hP hS => ?_)
                    have I_1809 := dg_I.uFi (lo := 0) (hi := 1) I_1804 e_1809 sM_0 (by decide +kernel) (show 0 ≤ ((0 : Int32)).toInt ∧ ((0 : Int32)).toInt ≤ 1 from (by decide +kernel))
                    have M_1809 := dg_sm.uF M_1804 e_1809 sM_0 (by decide)
                    refine lv_iconst (v := 1) hx hb dX12_goesOn_516 (by decide +kernel) ?_
                    have hz_1810 : (1 : Int32).toInt = 1 := by decide +kernel
                    have hz_1811 : (1 : Int32).toInt = 1 := by decide +kernel
                    have hz_1812 : (0 : Int32).toInt = 0 := by decide +kernel
                    have hz_1813 : (1 : Int32).toInt = 1 := by decide +kernel
                    have hz_1814 : (0 : Int32).toInt = 0 := by decide +kernel
                    refine W.widen (k := 0) (n := 0) (Nat.le_of_ble_eq_true rfl) (Nat.le_of_ble_eq_true rfl) ?_
                    exact dg_iret hx hb hr hlocks (by decide +kernel) hP hS ⟨I_1809, M_1809, (by decide +kernel), ⟨y_1805, y_1806, y_1807, y_3, y_1768, dp, y_1769, 0, ((dg_uF_ne e_1809 (fun z => absurd z.2 (by decide))).trans f_y_1805), ((dg_uF_ne e_1809 (fun z => absurd z.2 (by decide))).trans f_y_1806), ((dg_uF_ne e_1809 (fun z => absurd z.2 (by decide))).trans f_y_1807), (((dg_uF_ne e_1809 (fun z => absurd z.2 (by decide))).trans ((m_1804.1 0 8 _ sM_0 (by decide)).trans ((dg_uf_F e_1798 0 8).trans ((dg_uf_F e_1794 0 8).trans (m_1766.1 0 8 _ sM_0 (by decide)))))).trans f_y_3), (((dg_uF_ne e_1809 (fun z => absurd z.2 (by decide))).trans ((m_1804.1 0 34 _ sM_0 (by decide)).trans ((dg_uf_F e_1798 0 34).trans (dg_uf_F e_1794 0 34)))).trans f_y_1768), (((dg_uF_ne e_1809 (fun z => absurd z.2 (by decide))).trans ((m_1804.1 0 42 _ sM_0 (by decide)).trans ((dg_uf_F e_1798 0 42).trans ((dg_uf_F e_1794 0 42).trans ((m_1766.1 0 42 _ sM_0 (by decide)).trans (m_2.1 0 42 _ sM_0 (by decide))))))).trans f_dp), (((dg_uF_ne e_1809 (fun z => absurd z.2 (by decide))).trans ((m_1804.1 0 45 _ sM_0 (by decide)).trans ((dg_uf_F e_1798 0 45).trans (dg_uf_F e_1794 0 45)))).trans f_y_1769), (dg_uF_at e_1809), (by omega)⟩, (fun k9 hk9 hk0 => POM.mk0 (P0M.keep (P0M.keep P0_1798 m_1804 (by decide) (by decide) (by decide) (by decide) (by decide) (by decide) (by decide) (by decide) (by decide) (by decide) (by decide) (by decide) (by decide) (by decide) (by decide)) (dg_sm.uF (WF := [(0, 46)]) (WA := []) dg_sm.rf e_1809 sM_0 (by decide)) (by decide) (by decide) (by decide) (by decide) (by decide) (by decide) (by decide) (by decide) (by decide) (by decide) (by decide) (by decide) (by decide) (by decide) (by decide)) (dg_uF_at e_1809) (by omega)), (ZWM.keep (ZWM.keep (ZWM.keep (ZWM.keep w_1766_2 (dg_sm.uf (WF := []) (WA := [22]) dg_sm.rf e_1794 sM_22 (by decide)) (by decide) (by decide) (by decide) (by decide)) (dg_sm.uf (WF := []) (WA := [23]) dg_sm.rf e_1798 sM_23 (by decide)) (by decide) (by decide) (by decide) (by decide)) m_1804 (by decide) (by decide) (by decide) (by decide)) (dg_sm.uF (WF := [(0, 46)]) (WA := []) dg_sm.rf e_1809 sM_0 (by decide)) (by decide) (by decide) (by decide) (by decide)), trivial⟩ dX12_goesOn_517
                · have jc_1764 := dk_eqc (k := 0) (by decide +kernel) c_1764
                  clear w_1762_1
                  refine lv_aload_n hx hb dX12_goesOn_461 rfl (lv_at hl 3 rfl) ?_
                  refine lv_iconst (v := 1) hx hb dX12_goesOn_462 (by decide +kernel) ?_
                  refine lv_aload_n hx hb dX12_goesOn_463 rfl (lv_at hl 3 rfl) ?_
                  refine dg_get (C := RX12) (T := TX12) (N := 77) hx hb hts (fun w h => bw_mem (wU_X12 w h)) hown K hP sM_0 rfl 4 (by decide) (hts _ (bw_mem wB_1145)) (fun _ h9 => h9) (v := .int sa) ((m_2.1 0 4 _ sM_0 (by decide)).trans f_sa) dX12_goesOn_464 ?_
                  have hz_1815 : (1 : Int32).toInt = 1 := by decide +kernel
                  refine dg_callv hS hA1 hA (va_runV (As := [.int 1, .int sa]) (rest := []) F (c_m_blame l g D o S_2 1 (by decide +kernel) sa y_3 f_y_3 (by omega) I_2 H.size) (cwV 2 hts (bw_V wB_1137 wB_1138 wB_1139 wB_881 wB_1136) rfl rfl rfl (by decide +kernel) ⟨Nat.le_of_ble_eq_true rfl, Nat.le_of_ble_eq_true rfl⟩) (dg_preV sM_0 rfl K ST hP hS hA1 hA) rfl rfl hl.1 rfl (lv_room (Nat.le_of_ble_eq_true rfl)) dX12_goesOn_467 ⟨Nat.le_of_ble_eq_true rfl, Nat.le_of_ble_eq_true rfl⟩) (fun S_1816 hw_1816 H locs hP hS => ?_)
                  obtain ⟨I_1816, m_1816, w_1816_0, -⟩ := hw_1816
                  have M_1816 := dg_sm.tr M_2 m_1816 (by decide) (by decide)
                  have hz_1817 : (1 : Int32).toInt = 1 := by decide +kernel
                  obtain ⟨y_1818, f_y_1818, w_1816_0⟩ := w_1816_0
                  have w_1816_0 : ((y_3).toInt ≠ 0 → (y_1818).toInt = (y_3).toInt) ∧ ((y_3).toInt = 0 → (y_1818).toInt = ((1 : Int32)).toInt) := w_1816_0
                  obtain ⟨w_1816_0_0, w_1816_0_1⟩ := w_1816_0
                  clear w_1816_0_0
                  have w_1816_0_1r := w_1816_0_1 (by omega)
                  clear w_1816_0_1
                  have b_y_1818 : 0 ≤ (y_1818).toInt ∧ (y_1818).toInt ≤ 6 := dg_I.intb (lo := 0) (hi := 6) I_1816 sM_0 (by decide +kernel) f_y_1818
                  have hbl_y_1818 : 1 ≤ (y_1818).toInt := by omega
                  refine lv_aload_n hx hb dX12_goesOn_470 rfl (lv_at hl 3 rfl) ?_
                  refine dg_get (C := RX12) (T := TX12) (N := 77) hx hb hts (fun w h => bw_mem (wU_X12 w h)) hown K hP sM_0 rfl 8 (by decide) (hts _ (bw_mem wB_1133)) (fun _ h9 => h9) (v := .int y_1818) f_y_1818 dX12_goesOn_471 ?_
                  refine lv_if_le (tgt := 479) hx hb dX12_goesOn_474 (by decide) (fun c => absurd c (fun z => absurd (dk_lec (k := 0) (by decide +kernel) z) (by omega))) (fun _ => ?_)
                  refine lv_iconst (v := 0) hx hb dX12_goesOn_477 (by decide +kernel) ?_
                  have hz_1819 : (0 : Int32).toInt = 0 := by decide +kernel
                  have hz_1820 : (0 : Int32).toInt = 0 := by decide +kernel
                  have hz_1821 : (0 : Int32).toInt = 0 := by decide +kernel
                  refine W.widen (k := 0) (n := 0) (Nat.le_of_ble_eq_true rfl) (Nat.le_of_ble_eq_true rfl) ?_
                  exact dg_iret hx hb hr hlocks (by decide +kernel) hP hS ⟨I_1816, M_1816, (by decide +kernel), ⟨sg, sa, se, y_1818, cd, dp, om, oo, (((m_1816.1 0 3 _ sM_0 (by decide)).trans (m_2.1 0 3 _ sM_0 (by decide))).trans f_sg), (((m_1816.1 0 4 _ sM_0 (by decide)).trans (m_2.1 0 4 _ sM_0 (by decide))).trans f_sa), (((m_1816.1 0 5 _ sM_0 (by decide)).trans (m_2.1 0 5 _ sM_0 (by decide))).trans f_se), f_y_1818, (((m_1816.1 0 34 _ sM_0 (by decide)).trans (m_2.1 0 34 _ sM_0 (by decide))).trans f_cd), (((m_1816.1 0 42 _ sM_0 (by decide)).trans (m_2.1 0 42 _ sM_0 (by decide))).trans f_dp), (((m_1816.1 0 45 _ sM_0 (by decide)).trans (m_2.1 0 45 _ sM_0 (by decide))).trans f_om), (((m_1816.1 0 46 _ sM_0 (by decide)).trans (m_2.1 0 46 _ sM_0 (by decide))).trans f_oo), (by omega)⟩, (fun k9 hk9 hk0 => by have q9 := (f_y_1818).symm.trans hk9; cases q9; omega), (ZWM.keep (ZWM.keep ZW m_2 (by decide) (by decide) (by decide) (by decide)) m_1816 (by decide) (by decide) (by decide) (by decide)), trivial⟩ dX12_goesOn_478
              refine lv_icmp_eq (tgt := 452) hx hb dX12_goesOn_443 (by decide) (fun c_1822 => ?_) (fun c_1822 => ?_)
              · have jc_1822 := dk_eqc (k := 3) (by decide +kernel) c_1822
                exact J_1760 ()  (by omega) _ _ hP hS _ (lv_sub hl [0, 1, 2, 3] rfl)
              · have jc_1822 := dk_neqc (k := 3) (by decide +kernel) c_1822
                refine lv_iload_n hx hb dX12_goesOn_446 rfl (lv_at hl 1 rfl) ?_
                refine lv_bipush (v := 6) hx hb dX12_goesOn_447 (by decide +kernel) ?_
                refine lv_icmp_ne (tgt := 518) hx hb dX12_goesOn_449 (by decide) (fun c_1823 => ?_) (fun c_1823 => ?_)
                · have jc_1823 := dk_neqc (k := 6) (by decide +kernel) c_1823
                  refine lv_aload_n hx hb dX12_goesOn_518 rfl (lv_at hl 3 rfl) ?_
                  refine lv_iload_n hx hb dX12_goesOn_519 rfl (lv_at hl 1 rfl) ?_
                  refine lv_iconst (v := 5) hx hb dX12_goesOn_520 (by decide +kernel) ?_
                  have J_1886 : ∀ (x_1825 : Int32), (41 ≤ (x_1825).toInt ∧ (x_1825).toInt ≤ 93) → ∀ (H : Heap) (locs : List Loc), va_P D vwCl (dg_w g shM o rfM S_2) H → va_S A s.heap H locs → ∀ ls : Array Slot, lv_has ls 5 [(3, .int x_8), (2, .int x_7), (1, .int x_5), (0, .ref (o + 0))] → W p l e ({ frames := 3, cells := 0, slots := 0, locals := 77 } : Room) s m args below meth c H locs 0 0 (MQ below (va_Qi (fun (r : Int32) S' => CM o S' ∧ dg_sm shM [(0, 3), (0, 4), (0, 5), (0, 6), (0, 7), (0, 8), (0, 9), (0, 12), (0, 34), (0, 42), (0, 43), (0, 45), (0, 46)] [18, 19, 22, 23, 24, 27] S S' ∧ (0 ≤ (r).toInt ∧ (r).toInt ≤ 1) ∧ (∃ y9_3 y9_4 y9_5 y9_8 y9_34 y9_42 y9_45 y9_46 : Int32, S'.1 0 3 = .int y9_3 ∧ S'.1 0 4 = .int y9_4 ∧ S'.1 0 5 = .int y9_5 ∧ S'.1 0 8 = .int y9_8 ∧ S'.1 0 34 = .int y9_34 ∧ S'.1 0 42 = .int y9_42 ∧ S'.1 0 45 = .int y9_45 ∧ S'.1 0 46 = .int y9_46 ∧ (((y9_4).toInt ≤ (y9_5).toInt ∧ (y9_5).toInt ≤ (sl).toInt ∧ ((y9_3).toInt ≠ 0 → (y9_4).toInt + 1 ≤ (y9_5).toInt)) ∧ (sa).toInt ≤ (y9_4).toInt ∧ ((fk).toInt ≠ 0 → (y9_8).toInt ≠ 0) ∧ (((y9_8).toInt = 0 → (r).toInt = 1 → (sa).toInt + 1 ≤ (y9_4).toInt) ∧ ((y9_8).toInt = 0 → (y9_34).toInt + (y9_45).toInt + (y9_42).toInt ≤ (y9_4).toInt)))) ∧ (∀ k9 : Int32, S'.1 0 8 = .int k9 → k9.toInt = 0 → POM S') ∧ ZWM S' ∧ True) (dg_B g D shM o rfM) A) args s 0 0 A) (F0 m 531 ls [.int x_1825, .ref (o + 0)]) := by
                    intro x_1825 b_x_1825 H locs hP hS ls hl
                    refine dg_calli hS hA1 hA (va_runV (As := [.int x_1825]) (rest := []) F (c_m_isSign l g D o S_2 x_1825 sg ((m_2.1 0 3 _ sM_0 (by decide)).trans f_sg) (by omega) va ((m_2.1 0 6 _ sM_0 (by decide)).trans f_va) (by omega) I_2 H.size) (cwV 1 hts (bw_V wB_1157 wB_1158 wB_1159 wB_881 wB_1156) rfl rfl rfl (by decide +kernel) ⟨Nat.le_of_ble_eq_true rfl, Nat.le_of_ble_eq_true rfl⟩) (dg_preV sM_0 rfl K ST hP hS hA1 hA) rfl rfl hl.1 rfl (lv_room (Nat.le_of_ble_eq_true rfl)) dX12_goesOn_531 ⟨Nat.le_of_ble_eq_true rfl, Nat.le_of_ble_eq_true rfl⟩) (fun x_1887 S_1888 hw_1888 H locs hP hS => ?_)
                    rw [hw_1888.1] at hP
                    obtain ⟨hq_1888, w_1888_0, w_1888_1, -⟩ := hw_1888
                    have w_1888_0 : 0 ≤ (x_1887).toInt ∧ (x_1887).toInt ≤ 1 := w_1888_0
                    have w_1888_1 : (x_1887).toInt = 1 ↔ ((sg).toInt = 3 ∧ (va).toInt = (x_1825).toInt) := w_1888_1
                    refine lv_if_ne (tgt := 546) hx hb dX12_goesOn_534 (by decide) (fun c_1889 => ?_) (fun c_1889 => ?_)
                    · have jc_1889 := dk_neqc (k := 0) (by decide +kernel) c_1889
                      have w_1888_1_r := w_1888_1.mp (by omega)
                      clear w_1888_1
                      refine lv_aload_n hx hb dX12_goesOn_546 rfl (lv_at hl 3 rfl) ?_
                      refine dg_get (C := RX12) (T := TX12) (N := 77) hx hb hts (fun w h => bw_mem (wU_X12 w h)) hown K hP sM_0 rfl 8 (by decide) (hts _ (bw_mem wB_1133)) (fun _ h9 => h9) (v := .int y_3) f_y_3 dX12_goesOn_547 ?_
                      refine lv_if_le (tgt := 555) hx hb dX12_goesOn_550 (by decide) (fun _ => ?_) (fun c => absurd (dk_lep (k := 0) (by decide +kernel) (by omega)) c)
                      refine lv_aload_n hx hb dX12_goesOn_555 rfl (lv_at hl 3 rfl) ?_
                      refine lv_iconst (v := 1) hx hb dX12_goesOn_556 (by decide +kernel) ?_
                      have hz_1890 : (1 : Int32).toInt = 1 := by decide +kernel
                      refine dg_callv hS hA1 hA (va_runV (As := [.int 1]) (rest := []) F (c_m_joins l g D o S_2 1 (by decide +kernel) cd ((m_2.1 0 34 _ sM_0 (by decide)).trans f_cd) (by omega) om ((m_2.1 0 45 _ sM_0 (by decide)).trans f_om) (by omega) (by omega) (ZWM.keep ZW m_2 (by decide) (by decide) (by decide) (by decide)) (ZKM.keep ZK m_2 (by decide) (by decide)) (P1M.keep P1 m_2 (by decide) (by decide) (by decide) (by decide) (by decide) (by decide) (by decide) (by decide) (by decide) (by decide) (by decide) (by decide) (by decide) (by decide) (by decide)) I_2 H.size) (cwV 1 hts (bw_V wB_1234 wB_1235 wB_1236 wB_881 wB_1233) rfl rfl rfl (by decide +kernel) ⟨Nat.le_of_ble_eq_true rfl, Nat.le_of_ble_eq_true rfl⟩) (dg_preV sM_0 rfl K ST hP hS hA1 hA) rfl rfl hl.1 rfl (lv_room (Nat.le_of_ble_eq_true rfl)) dX12_goesOn_557 ⟨Nat.le_of_ble_eq_true rfl, Nat.le_of_ble_eq_true rfl⟩) (fun S_1891 hw_1891 H locs hP hS => ?_)
                      obtain ⟨I_1891, m_1891, w_1891_0, w_1891_1, w_1891_2, w_1891_3, -⟩ := hw_1891
                      have M_1891 := dg_sm.tr M_2 m_1891 (by decide) (by decide)
                      have hz_1892 : (1 : Int32).toInt = 1 := by decide +kernel
                      obtain ⟨y_1893, y_1894, f_y_1893, f_y_1894, w_1891_0⟩ := w_1891_0
                      have w_1891_0 : (y_1893).toInt + (y_1894).toInt = (cd).toInt + (om).toInt := w_1891_0
                      have b_y_1893 : 0 ≤ (y_1893).toInt ∧ (y_1893).toInt ≤ 1600 := dg_I.intb (lo := 0) (hi := 1600) I_1891 sM_0 (by decide +kernel) f_y_1893
                      have b_y_1894 : 0 ≤ (y_1894).toInt ∧ (y_1894).toInt ≤ 500 := dg_I.intb (lo := 0) (hi := 500) I_1891 sM_0 (by decide +kernel) f_y_1894
                      have w_1891_1 : TOPM S_1891 (1 : Int32) := w_1891_1
                      obtain ⟨x_1895, f_x_1895, b_x_1895⟩ := dg_I.int (i := 0) (k := 43) (lo := (-2147483648)) (hi := 2147483647) I_1891 sM_0 (by decide +kernel)
                      have hkd := PSM.kind w_1891_3 (((m_1891.1 0 42 _ sM_0 (by decide)).trans (m_2.1 0 42 _ sM_0 (by decide))).trans f_dp) f_x_1895 f_y_1894 (fx := x_5) (by omega) ((congrFun (m_1891.2 22 _ sM_22 (by decide)).1 _).trans ex_7.symm) (rfl : S_1891.2.1 25 (x_5 : Int32).toNatClampNeg = _)
                      unfold dk_fk at hkd
                      have hcl9 := dk_clN x_5
                      refine lv_aload_n hx hb dX12_goesOn_560 rfl (lv_at hl 3 rfl) ?_
                      refine lv_dup hx hb dX12_goesOn_561 rfl ?_
                      refine dg_get (C := RX12) (T := TX12) (N := 77) hx hb hts (fun w h => bw_mem (wU_X12 w h)) hown K hP sM_0 rfl 42 (by decide) (hts _ (bw_mem wB_1203)) (fun _ h9 => h9) (v := .int dp) (((m_1891.1 0 42 _ sM_0 (by decide)).trans (m_2.1 0 42 _ sM_0 (by decide))).trans f_dp) dX12_goesOn_562 ?_
                      refine lv_iconst (v := 1) hx hb dX12_goesOn_565 (by decide +kernel) ?_
                      refine lv_isub hx hb dX12_goesOn_566 ?_
                      refine lv_topi (fun x_1896 ex_1896 => ?_)
                      have jx_1896 : (x_1896).toInt = (dp).toInt - 1 := by rw [ex_1896]; exact dk_subT rfl (by decide +kernel) (by omega) (by omega)
                      refine dg_put (ci := 12) (v := .int x_1896) (ty := tyX12 42) (C := RX12) (T := TX12) (N := 77) hx hb hts (fun w h => bw_mem (wU_X12 w h)) tyX12 tyX12_ok nmX12 hown K hP hS hA1 sM_0 rfl 42 (by decide) (hts _ (bw_mem wB_1203)) (fun _ h9 => h9) rfl (by decide +kernel) rfl rfl dX12_goesOn_567 (fun S_1897 e_1897 H locs hP hS => ?_)
                      have I_1897 := dg_I.uFi (lo := 0) (hi := 20) I_1891 e_1897 sM_0 (by decide +kernel) (show 0 ≤ (x_1896).toInt ∧ (x_1896).toInt ≤ 20 from (by omega))
                      have M_1897 := dg_sm.uF M_1891 e_1897 sM_0 (by decide)
                      refine lv_aload_n hx hb dX12_goesOn_570 rfl (lv_at hl 3 rfl) ?_
                      refine lv_dup hx hb dX12_goesOn_571 rfl ?_
                      refine dg_get (C := RX12) (T := TX12) (N := 77) hx hb hts (fun w h => bw_mem (wU_X12 w h)) hown K hP sM_0 rfl 43 (by decide) (hts _ (bw_mem wB_1212)) (fun _ h9 => h9) (v := .int x_1895) ((dg_uF_ne e_1897 (fun z => absurd z.2 (by decide))).trans f_x_1895) dX12_goesOn_572 ?_
                      refine lv_iconst (v := 1) hx hb dX12_goesOn_575 (by decide +kernel) ?_
                      refine lv_isub hx hb dX12_goesOn_576 ?_
                      refine lv_topi (fun x_1898 ex_1898 => ?_)
                      refine dg_put (ci := 12) (v := .int x_1898) (ty := tyX12 43) (C := RX12) (T := TX12) (N := 77) hx hb hts (fun w h => bw_mem (wU_X12 w h)) tyX12 tyX12_ok nmX12 hown K hP hS hA1 sM_0 rfl 43 (by decide) (hts _ (bw_mem wB_1212)) (fun _ h9 => h9) rfl (by decide +kernel) rfl rfl dX12_goesOn_577 (fun S_1899 e_1899 H locs hP hS => ?_)
                      have I_1899 := dg_I.uFi (lo := (-2147483648)) (hi := 2147483647) I_1897 e_1899 sM_0 (by decide +kernel) (show (-2147483648) ≤ (x_1898).toInt ∧ (x_1898).toInt ≤ 2147483647 from (dk_full _))
                      have M_1899 := dg_sm.uF M_1897 e_1899 sM_0 (by decide)
                      refine lv_iload_n hx hb dX12_goesOn_580 rfl (lv_at hl 1 rfl) ?_
                      refine lv_iconst (v := 4) hx hb dX12_goesOn_581 (by decide +kernel) ?_
                      refine lv_icmp_ne (tgt := 596) hx hb dX12_goesOn_582 (by decide) (fun c_1900 => ?_) (fun c_1900 => ?_)
                      · have jc_1900 := dk_neqc (k := 4) (by decide +kernel) c_1900
                        obtain ⟨x_1901, f_x_1901, b_x_1901⟩ := dg_I.int (i := 0) (k := 42) (lo := 0) (hi := 20) I_1891 sM_0 (by decide +kernel)
                        obtain ⟨x_1902, f_x_1902, b_x_1902⟩ := dg_I.int (i := 0) (k := 43) (lo := (-2147483648)) (hi := 2147483647) I_1891 sM_0 (by decide +kernel)
                        have P1_1899 : P1M S_1899 := P1M.close2 w_1891_3 f_x_1901 f_x_1902 f_y_1894 w_1891_1 (by omega) (fx := x_5) (by omega) ((congrFun (m_1891.2 22 _ sM_22 (by decide)).1 _).trans ex_7.symm) (by omega) e_1897 (by omega) e_1899 (by omega)
                        refine lv_iload_n hx hb dX12_goesOn_596 rfl (lv_at hl 1 rfl) ?_
                        refine lv_iconst (v := 5) hx hb dX12_goesOn_597 (by decide +kernel) ?_
                        refine lv_icmp_ne (tgt := 613) hx hb dX12_goesOn_598 (by decide) (fun c_1903 => ?_) (fun c_1903 => ?_)
                        · have jc_1903 := dk_neqc (k := 5) (by decide +kernel) c_1903
                          refine lv_aload_n hx hb dX12_goesOn_613 rfl (lv_at hl 3 rfl) ?_
                          refine dg_callv hS hA1 hA (va_runV (As := []) (rest := []) F (c_m_ahead l g D o S_1899 se (((dg_uF_ne e_1899 (fun z => absurd z.2 (by decide))).trans ((dg_uF_ne e_1897 (fun z => absurd z.2 (by decide))).trans ((m_1891.1 0 5 _ sM_0 (by decide)).trans (m_2.1 0 5 _ sM_0 (by decide))))).trans f_se) (by omega) sl (((dg_uF_ne e_1899 (fun z => absurd z.2 (by decide))).trans ((dg_uF_ne e_1897 (fun z => absurd z.2 (by decide))).trans ((m_1891.1 0 2 _ sM_0 (by decide)).trans (m_2.1 0 2 _ sM_0 (by decide))))).trans f_sl) (by omega) (by omega) I_1899 H.size) (cwV 0 hts (bw_V wB_1161 wB_1162 wB_1163 wB_881 wB_1160) rfl rfl rfl (by decide +kernel) ⟨Nat.le_of_ble_eq_true rfl, Nat.le_of_ble_eq_true rfl⟩) (dg_preV sM_0 rfl K ST hP hS hA1 hA) rfl rfl hl.1 rfl (lv_room (Nat.le_of_ble_eq_true rfl)) dX12_goesOn_614 ⟨Nat.le_of_ble_eq_true rfl, Nat.le_of_ble_eq_true rfl⟩) (fun S_1904 hw_1904 H locs hP hS => ?_)
                          obtain ⟨I_1904, m_1904, w_1904_0, -⟩ := hw_1904
                          have M_1904 := dg_sm.tr M_1899 m_1904 (by decide) (by decide)
                          obtain ⟨y_1905, y_1906, y_1907, f_y_1905, f_y_1906, f_y_1907, w_1904_0⟩ := w_1904_0
                          have w_1904_0 : (se).toInt ≤ (y_1906).toInt ∧ (y_1906).toInt ≤ (y_1907).toInt ∧ (y_1907).toInt ≤ (sl).toInt ∧ ((y_1905).toInt ≠ 0 → (y_1906).toInt + 1 ≤ (y_1907).toInt) := w_1904_0
                          obtain ⟨w_1904_0_0, w_1904_0_1, w_1904_0_2, w_1904_0_3⟩ := w_1904_0
                          have b_y_1905 : 0 ≤ (y_1905).toInt ∧ (y_1905).toInt ≤ 3 := dg_I.intb (lo := 0) (hi := 3) I_1904 sM_0 (by decide +kernel) f_y_1905
                          have b_y_1906 : 0 ≤ (y_1906).toInt ∧ (y_1906).toInt ≤ 1600 := dg_I.intb (lo := 0) (hi := 1600) I_1904 sM_0 (by decide +kernel) f_y_1906
                          have b_y_1907 : 0 ≤ (y_1907).toInt ∧ (y_1907).toInt ≤ 1600 := dg_I.intb (lo := 0) (hi := 1600) I_1904 sM_0 (by decide +kernel) f_y_1907
                          refine lv_iconst (v := 1) hx hb dX12_goesOn_617 (by decide +kernel) ?_
                          have hz_1908 : (1 : Int32).toInt = 1 := by decide +kernel
                          have hz_1909 : (1 : Int32).toInt = 1 := by decide +kernel
                          obtain ⟨x_1910, f_x_1910, b_x_1910⟩ := dg_I.int (i := 0) (k := 42) (lo := 0) (hi := 20) I_1904 sM_0 (by decide +kernel)
                          have hz_1911 : (1 : Int32).toInt = 1 := by decide +kernel
                          refine W.widen (k := 0) (n := 0) (Nat.le_of_ble_eq_true rfl) (Nat.le_of_ble_eq_true rfl) ?_
                          exact dg_iret hx hb hr hlocks (by decide +kernel) hP hS ⟨I_1904, M_1904, (by decide +kernel), ⟨y_1905, y_1906, y_1907, y_3, y_1893, x_1910, y_1894, oo, f_y_1905, f_y_1906, f_y_1907, (((m_1904.1 0 8 _ sM_0 (by decide)).trans ((dg_uF_ne e_1899 (fun z => absurd z.2 (by decide))).trans ((dg_uF_ne e_1897 (fun z => absurd z.2 (by decide))).trans (m_1891.1 0 8 _ sM_0 (by decide))))).trans f_y_3), (((m_1904.1 0 34 _ sM_0 (by decide)).trans ((dg_uF_ne e_1899 (fun z => absurd z.2 (by decide))).trans (dg_uF_ne e_1897 (fun z => absurd z.2 (by decide))))).trans f_y_1893), f_x_1910, (((m_1904.1 0 45 _ sM_0 (by decide)).trans ((dg_uF_ne e_1899 (fun z => absurd z.2 (by decide))).trans (dg_uF_ne e_1897 (fun z => absurd z.2 (by decide))))).trans f_y_1894), (((m_1904.1 0 46 _ sM_0 (by decide)).trans ((dg_uF_ne e_1899 (fun z => absurd z.2 (by decide))).trans ((dg_uF_ne e_1897 (fun z => absurd z.2 (by decide))).trans ((m_1891.1 0 46 _ sM_0 (by decide)).trans (m_2.1 0 46 _ sM_0 (by decide)))))).trans f_oo), (by omega)⟩, (fun k9 hk9 hk0 => POM.mk1 (P1M.keep P1_1899 m_1904 (by decide) (by decide) (by decide) (by decide) (by decide) (by decide) (by decide) (by decide) (by decide) (by decide) (by decide) (by decide) (by decide) (by decide) (by decide)) (((m_1904.1 0 46 _ sM_0 (by decide)).trans ((dg_uF_ne e_1899 (fun z => absurd z.2 (by decide))).trans ((dg_uF_ne e_1897 (fun z => absurd z.2 (by decide))).trans ((m_1891.1 0 46 _ sM_0 (by decide)).trans (m_2.1 0 46 _ sM_0 (by decide)))))).trans f_oo) (by omega)), (ZWM.keep (ZWM.keep (ZWM.keep w_1891_2 (dg_sm.uF (WF := [(0, 42)]) (WA := []) dg_sm.rf e_1897 sM_0 (by decide)) (by decide) (by decide) (by decide) (by decide)) (dg_sm.uF (WF := [(0, 43)]) (WA := []) dg_sm.rf e_1899 sM_0 (by decide)) (by decide) (by decide) (by decide) (by decide)) m_1904 (by decide) (by decide) (by decide) (by decide)), trivial⟩ dX12_goesOn_618
                        · have jc_1903 := dk_eqc (k := 5) (by decide +kernel) c_1903
                          refine lv_aload_n hx hb dX12_goesOn_601 rfl (lv_at hl 3 rfl) ?_
                          refine dg_get (C := RX12) (T := TX12) (N := 77) hx hb hts (fun w h => bw_mem (wU_X12 w h)) hown K hP sM_0 rfl 38 (by decide) (hts _ (bw_mem wB_1214)) (fun _ h9 => h9) (v := .ref (o + 23)) (show S_1899.1 0 38 = .ref (o + 23) from dg_I.rel (d := 23) I_1899 sM_0 (by decide +kernel)) dX12_goesOn_602 ?_
                          refine lv_aload_n hx hb dX12_goesOn_605 rfl (lv_at hl 3 rfl) ?_
                          obtain ⟨x_1912, f_x_1912, b_x_1912⟩ := dg_I.int (i := 0) (k := 42) (lo := 0) (hi := 20) I_1899 sM_0 (by decide +kernel)
                          refine dg_get (C := RX12) (T := TX12) (N := 77) hx hb hts (fun w h => bw_mem (wU_X12 w h)) hown K hP sM_0 rfl 42 (by decide) (hts _ (bw_mem wB_1203)) (fun _ h9 => h9) (v := .int x_1912) f_x_1912 dX12_goesOn_606 ?_
                          refine lv_iconst (v := 1) hx hb dX12_goesOn_609 (by decide +kernel) ?_
                          refine lv_isub hx hb dX12_goesOn_610 ?_
                          refine lv_topi (fun x_1913 ex_1913 => ?_)
                          have jx_1913 : (x_1913).toInt = (x_1912).toInt - 1 := by rw [ex_1913]; exact dk_subT rfl (by decide +kernel) (by omega) (by omega)
                          refine lv_iconst (v := 2) hx hb dX12_goesOn_611 (by decide +kernel) ?_
                          have hin_1914 : vp_in x_1913 20 := (dk_inv (by omega) (by omega))
                          have hz_1916 : (2 : Int32).toInt = 2 := by decide +kernel
                          refine dg_iast hx hb K hP hS hA1 sM_23 hin_1914 dX12_goesOn_612 (fun S_1915 e_1915 H locs hP hS => ?_)
                          have I_1915 := dg_I.ufu (lo := 0) (hi := 2) I_1899 e_1915 sM_23 (by decide +kernel) (show 0 ≤ ((2 : Int32)).toInt ∧ ((2 : Int32)).toInt ≤ 2 from (by decide +kernel))
                          have M_1915 := dg_sm.uf M_1899 e_1915 sM_23 (by decide)
                          have hz_1917 : (2 : Int32).toInt = 2 := by decide +kernel
                          have P1_1915 : P1M S_1915 := P1M.close5 P1_1899 f_x_1912 (by omega) (by omega) (by omega) e_1915
                          refine lv_aload_n hx hb dX12_goesOn_613 rfl (lv_at hl 3 rfl) ?_
                          refine dg_callv hS hA1 hA (va_runV (As := []) (rest := []) F (c_m_ahead l g D o S_1915 se (((dg_uf_F e_1915 0 5).trans ((dg_uF_ne e_1899 (fun z => absurd z.2 (by decide))).trans ((dg_uF_ne e_1897 (fun z => absurd z.2 (by decide))).trans ((m_1891.1 0 5 _ sM_0 (by decide)).trans (m_2.1 0 5 _ sM_0 (by decide)))))).trans f_se) (by omega) sl (((dg_uf_F e_1915 0 2).trans ((dg_uF_ne e_1899 (fun z => absurd z.2 (by decide))).trans ((dg_uF_ne e_1897 (fun z => absurd z.2 (by decide))).trans ((m_1891.1 0 2 _ sM_0 (by decide)).trans (m_2.1 0 2 _ sM_0 (by decide)))))).trans f_sl) (by omega) (by omega) I_1915 H.size) (cwV 0 hts (bw_V wB_1161 wB_1162 wB_1163 wB_881 wB_1160) rfl rfl rfl (by decide +kernel) ⟨Nat.le_of_ble_eq_true rfl, Nat.le_of_ble_eq_true rfl⟩) (dg_preV sM_0 rfl K ST hP hS hA1 hA) rfl rfl hl.1 rfl (lv_room (Nat.le_of_ble_eq_true rfl)) dX12_goesOn_614 ⟨Nat.le_of_ble_eq_true rfl, Nat.le_of_ble_eq_true rfl⟩) (fun S_1918 hw_1918 H locs hP hS => ?_)
                          obtain ⟨I_1918, m_1918, w_1918_0, -⟩ := hw_1918
                          have M_1918 := dg_sm.tr M_1915 m_1918 (by decide) (by decide)
                          obtain ⟨y_1919, y_1920, y_1921, f_y_1919, f_y_1920, f_y_1921, w_1918_0⟩ := w_1918_0
                          have w_1918_0 : (se).toInt ≤ (y_1920).toInt ∧ (y_1920).toInt ≤ (y_1921).toInt ∧ (y_1921).toInt ≤ (sl).toInt ∧ ((y_1919).toInt ≠ 0 → (y_1920).toInt + 1 ≤ (y_1921).toInt) := w_1918_0
                          obtain ⟨w_1918_0_0, w_1918_0_1, w_1918_0_2, w_1918_0_3⟩ := w_1918_0
                          have b_y_1919 : 0 ≤ (y_1919).toInt ∧ (y_1919).toInt ≤ 3 := dg_I.intb (lo := 0) (hi := 3) I_1918 sM_0 (by decide +kernel) f_y_1919
                          have b_y_1920 : 0 ≤ (y_1920).toInt ∧ (y_1920).toInt ≤ 1600 := dg_I.intb (lo := 0) (hi := 1600) I_1918 sM_0 (by decide +kernel) f_y_1920
                          have b_y_1921 : 0 ≤ (y_1921).toInt ∧ (y_1921).toInt ≤ 1600 := dg_I.intb (lo := 0) (hi := 1600) I_1918 sM_0 (by decide +kernel) f_y_1921
                          refine lv_iconst (v := 1) hx hb dX12_goesOn_617 (by decide +kernel) ?_
                          have hz_1922 : (1 : Int32).toInt = 1 := by decide +kernel
                          have hz_1923 : (1 : Int32).toInt = 1 := by decide +kernel
                          have hz_1924 : (1 : Int32).toInt = 1 := by decide +kernel
                          refine W.widen (k := 0) (n := 0) (Nat.le_of_ble_eq_true rfl) (Nat.le_of_ble_eq_true rfl) ?_
                          exact dg_iret hx hb hr hlocks (by decide +kernel) hP hS ⟨I_1918, M_1918, (by decide +kernel), ⟨y_1919, y_1920, y_1921, y_3, y_1893, x_1912, y_1894, oo, f_y_1919, f_y_1920, f_y_1921, (((m_1918.1 0 8 _ sM_0 (by decide)).trans ((dg_uf_F e_1915 0 8).trans ((dg_uF_ne e_1899 (fun z => absurd z.2 (by decide))).trans ((dg_uF_ne e_1897 (fun z => absurd z.2 (by decide))).trans (m_1891.1 0 8 _ sM_0 (by decide)))))).trans f_y_3), (((m_1918.1 0 34 _ sM_0 (by decide)).trans ((dg_uf_F e_1915 0 34).trans ((dg_uF_ne e_1899 (fun z => absurd z.2 (by decide))).trans (dg_uF_ne e_1897 (fun z => absurd z.2 (by decide)))))).trans f_y_1893), (((m_1918.1 0 42 _ sM_0 (by decide)).trans (dg_uf_F e_1915 0 42)).trans f_x_1912), (((m_1918.1 0 45 _ sM_0 (by decide)).trans ((dg_uf_F e_1915 0 45).trans ((dg_uF_ne e_1899 (fun z => absurd z.2 (by decide))).trans (dg_uF_ne e_1897 (fun z => absurd z.2 (by decide)))))).trans f_y_1894), (((m_1918.1 0 46 _ sM_0 (by decide)).trans ((dg_uf_F e_1915 0 46).trans ((dg_uF_ne e_1899 (fun z => absurd z.2 (by decide))).trans ((dg_uF_ne e_1897 (fun z => absurd z.2 (by decide))).trans ((m_1891.1 0 46 _ sM_0 (by decide)).trans (m_2.1 0 46 _ sM_0 (by decide))))))).trans f_oo), (by omega)⟩, (fun k9 hk9 hk0 => POM.mk1 (P1M.keep P1_1915 m_1918 (by decide) (by decide) (by decide) (by decide) (by decide) (by decide) (by decide) (by decide) (by decide) (by decide) (by decide) (by decide) (by decide) (by decide) (by decide)) (((m_1918.1 0 46 _ sM_0 (by decide)).trans ((dg_uf_F e_1915 0 46).trans ((dg_uF_ne e_1899 (fun z => absurd z.2 (by decide))).trans ((dg_uF_ne e_1897 (fun z => absurd z.2 (by decide))).trans ((m_1891.1 0 46 _ sM_0 (by decide)).trans (m_2.1 0 46 _ sM_0 (by decide))))))).trans f_oo) (by omega)), (ZWM.keep (ZWM.keep (ZWM.keep (ZWM.keep w_1891_2 (dg_sm.uF (WF := [(0, 42)]) (WA := []) dg_sm.rf e_1897 sM_0 (by decide)) (by decide) (by decide) (by decide) (by decide)) (dg_sm.uF (WF := [(0, 43)]) (WA := []) dg_sm.rf e_1899 sM_0 (by decide)) (by decide) (by decide) (by decide) (by decide)) (dg_sm.uf (WF := []) (WA := [23]) dg_sm.rf e_1915 sM_23 (by decide)) (by decide) (by decide) (by decide) (by decide)) m_1918 (by decide) (by decide) (by decide) (by decide)), trivial⟩ dX12_goesOn_618
                      · have jc_1900 := dk_eqc (k := 4) (by decide +kernel) c_1900
                        refine lv_aload_n hx hb dX12_goesOn_585 rfl (lv_at hl 3 rfl) ?_
                        refine lv_aload_n hx hb dX12_goesOn_586 rfl (lv_at hl 3 rfl) ?_
                        refine dg_get (C := RX12) (T := TX12) (N := 77) hx hb hts (fun w h => bw_mem (wU_X12 w h)) hown K hP sM_0 rfl 40 (by decide) (hts _ (bw_mem wB_1232)) (fun _ h9 => h9) (v := .ref (o + 25)) (show S_1899.1 0 40 = .ref (o + 25) from dg_I.rel (d := 25) I_1899 sM_0 (by decide +kernel)) dX12_goesOn_587 ?_
                        refine lv_iload_n hx hb dX12_goesOn_590 rfl (lv_at hl 2 rfl) ?_
                        have hin_1925 : vp_in x_5 20 := (dk_inv (by omega) (by omega))
                        refine dg_iald hx hb K hP sM_25 hin_1925 dX12_goesOn_591 (fun x_1926 ex_1926 => ?_)
                        have hp25_x_1926 : S_1891.2.1 25 (x_5 : Int32).toNatClampNeg = x_1926 := by rw [ex_1926, (((dg_uF_f e_1899 25).trans (dg_uF_f e_1897 25)))]
                        rw [hp25_x_1926] at hkd
                        refine lv_iconst (v := 0) hx hb dX12_goesOn_592 (by decide +kernel) ?_
                        refine dg_callv hS hA1 hA (va_runV (As := [.int x_1926, .int 0]) (rest := []) F (c_m_add l g D o S_1899 x_1926 (by omega) 0 y_1893 (((dg_uF_ne e_1899 (fun z => absurd z.2 (by decide))).trans (dg_uF_ne e_1897 (fun z => absurd z.2 (by decide)))).trans f_y_1893) (by omega) (ZWM.keep (ZWM.keep w_1891_2 (dg_sm.uF (WF := [(0, 42)]) (WA := []) dg_sm.rf e_1897 sM_0 (by decide)) (by decide) (by decide) (by decide) (by decide)) (dg_sm.uF (WF := [(0, 43)]) (WA := []) dg_sm.rf e_1899 sM_0 (by decide)) (by decide) (by decide) (by decide) (by decide)) (ZKM.keep (ZKM.keep (ZKM.keep (ZKM.keep ZK m_2 (by decide) (by decide)) m_1891 (by decide) (by decide)) (dg_sm.uF (WF := [(0, 42)]) (WA := []) dg_sm.rf e_1897 sM_0 (by decide)) (by decide) (by decide)) (dg_sm.uF (WF := [(0, 43)]) (WA := []) dg_sm.rf e_1899 sM_0 (by decide)) (by decide) (by decide)) I_1899 H.size) (cwV 2 hts (bw_V wB_1209 wB_1210 wB_1211 wB_881 wB_1208) rfl rfl rfl (by decide +kernel) ⟨Nat.le_of_ble_eq_true rfl, Nat.le_of_ble_eq_true rfl⟩) (dg_preV sM_0 rfl K ST hP hS hA1 hA) rfl rfl hl.1 rfl (lv_room (Nat.le_of_ble_eq_true rfl)) dX12_goesOn_593 ⟨Nat.le_of_ble_eq_true rfl, Nat.le_of_ble_eq_true rfl⟩) (fun S_1927 hw_1927 H locs hP hS => ?_)
                        obtain ⟨I_1927, m_1927, w_1927_0, w_1927_1, w_1927_2, -⟩ := hw_1927
                        have M_1927 := dg_sm.tr M_1899 m_1927 (by decide) (by decide)
                        have hz_1928 : (0 : Int32).toInt = 0 := by decide +kernel
                        obtain ⟨y_1929, f_y_1929, w_1927_0⟩ := w_1927_0
                        have w_1927_0 : (y_1929).toInt = (y_1893).toInt + 1 := w_1927_0
                        have b_y_1929 : 0 ≤ (y_1929).toInt ∧ (y_1929).toInt ≤ 1600 := dg_I.intb (lo := 0) (hi := 1600) I_1927 sM_0 (by decide +kernel) f_y_1929
                        have w_1927_1 : ADM S_1899 S_1927 x_1926 := w_1927_1
                        obtain ⟨x_1930, f_x_1930, b_x_1930⟩ := dg_I.int (i := 0) (k := 42) (lo := 0) (hi := 20) I_1891 sM_0 (by decide +kernel)
                        obtain ⟨x_1931, f_x_1931, b_x_1931⟩ := dg_I.int (i := 0) (k := 43) (lo := (-2147483648)) (hi := 2147483647) I_1891 sM_0 (by decide +kernel)
                        have P1_1927 : P1M S_1927 := P1M.close4 w_1891_3 f_x_1930 f_x_1931 f_y_1894 w_1891_1 (by omega) (fx := x_5) (by omega) ((congrFun (m_1891.2 22 _ sM_22 (by decide)).1 _).trans ex_7.symm) (by omega) e_1897 (by omega) e_1899 (by omega) hp25_x_1926 m_1927 w_1927_1
                        refine lv_iload_n hx hb dX12_goesOn_596 rfl (lv_at hl 1 rfl) ?_
                        refine lv_iconst (v := 5) hx hb dX12_goesOn_597 (by decide +kernel) ?_
                        refine lv_icmp_ne (tgt := 613) hx hb dX12_goesOn_598 (by decide) (fun _ => ?_) (fun c => absurd c (fun z => absurd (dk_eqc (k := 5) (by decide +kernel) z) (by omega)))
                        refine lv_aload_n hx hb dX12_goesOn_613 rfl (lv_at hl 3 rfl) ?_
                        refine dg_callv hS hA1 hA (va_runV (As := []) (rest := []) F (c_m_ahead l g D o S_1927 se (((m_1927.1 0 5 _ sM_0 (by decide)).trans ((dg_uF_ne e_1899 (fun z => absurd z.2 (by decide))).trans ((dg_uF_ne e_1897 (fun z => absurd z.2 (by decide))).trans ((m_1891.1 0 5 _ sM_0 (by decide)).trans (m_2.1 0 5 _ sM_0 (by decide)))))).trans f_se) (by omega) sl (((m_1927.1 0 2 _ sM_0 (by decide)).trans ((dg_uF_ne e_1899 (fun z => absurd z.2 (by decide))).trans ((dg_uF_ne e_1897 (fun z => absurd z.2 (by decide))).trans ((m_1891.1 0 2 _ sM_0 (by decide)).trans (m_2.1 0 2 _ sM_0 (by decide)))))).trans f_sl) (by omega) (by omega) I_1927 H.size) (cwV 0 hts (bw_V wB_1161 wB_1162 wB_1163 wB_881 wB_1160) rfl rfl rfl (by decide +kernel) ⟨Nat.le_of_ble_eq_true rfl, Nat.le_of_ble_eq_true rfl⟩) (dg_preV sM_0 rfl K ST hP hS hA1 hA) rfl rfl hl.1 rfl (lv_room (Nat.le_of_ble_eq_true rfl)) dX12_goesOn_614 ⟨Nat.le_of_ble_eq_true rfl, Nat.le_of_ble_eq_true rfl⟩) (fun S_1932 hw_1932 H locs hP hS => ?_)
                        obtain ⟨I_1932, m_1932, w_1932_0, -⟩ := hw_1932
                        have M_1932 := dg_sm.tr M_1927 m_1932 (by decide) (by decide)
                        obtain ⟨y_1933, y_1934, y_1935, f_y_1933, f_y_1934, f_y_1935, w_1932_0⟩ := w_1932_0
                        have w_1932_0 : (se).toInt ≤ (y_1934).toInt ∧ (y_1934).toInt ≤ (y_1935).toInt ∧ (y_1935).toInt ≤ (sl).toInt ∧ ((y_1933).toInt ≠ 0 → (y_1934).toInt + 1 ≤ (y_1935).toInt) := w_1932_0
                        obtain ⟨w_1932_0_0, w_1932_0_1, w_1932_0_2, w_1932_0_3⟩ := w_1932_0
                        have b_y_1933 : 0 ≤ (y_1933).toInt ∧ (y_1933).toInt ≤ 3 := dg_I.intb (lo := 0) (hi := 3) I_1932 sM_0 (by decide +kernel) f_y_1933
                        have b_y_1934 : 0 ≤ (y_1934).toInt ∧ (y_1934).toInt ≤ 1600 := dg_I.intb (lo := 0) (hi := 1600) I_1932 sM_0 (by decide +kernel) f_y_1934
                        have b_y_1935 : 0 ≤ (y_1935).toInt ∧ (y_1935).toInt ≤ 1600 := dg_I.intb (lo := 0) (hi := 1600) I_1932 sM_0 (by decide +kernel) f_y_1935
                        refine lv_iconst (v := 1) hx hb dX12_goesOn_617 (by decide +kernel) ?_
                        have hz_1936 : (1 : Int32).toInt = 1 := by decide +kernel
                        have hz_1937 : (1 : Int32).toInt = 1 := by decide +kernel
                        obtain ⟨x_1938, f_x_1938, b_x_1938⟩ := dg_I.int (i := 0) (k := 42) (lo := 0) (hi := 20) I_1932 sM_0 (by decide +kernel)
                        have hz_1939 : (1 : Int32).toInt = 1 := by decide +kernel
                        refine W.widen (k := 0) (n := 0) (Nat.le_of_ble_eq_true rfl) (Nat.le_of_ble_eq_true rfl) ?_
                        exact dg_iret hx hb hr hlocks (by decide +kernel) hP hS ⟨I_1932, M_1932, (by decide +kernel), ⟨y_1933, y_1934, y_1935, y_3, y_1929, x_1938, y_1894, oo, f_y_1933, f_y_1934, f_y_1935, (((m_1932.1 0 8 _ sM_0 (by decide)).trans ((m_1927.1 0 8 _ sM_0 (by decide)).trans ((dg_uF_ne e_1899 (fun z => absurd z.2 (by decide))).trans ((dg_uF_ne e_1897 (fun z => absurd z.2 (by decide))).trans (m_1891.1 0 8 _ sM_0 (by decide)))))).trans f_y_3), ((m_1932.1 0 34 _ sM_0 (by decide)).trans f_y_1929), f_x_1938, (((m_1932.1 0 45 _ sM_0 (by decide)).trans ((m_1927.1 0 45 _ sM_0 (by decide)).trans ((dg_uF_ne e_1899 (fun z => absurd z.2 (by decide))).trans (dg_uF_ne e_1897 (fun z => absurd z.2 (by decide)))))).trans f_y_1894), (((m_1932.1 0 46 _ sM_0 (by decide)).trans ((m_1927.1 0 46 _ sM_0 (by decide)).trans ((dg_uF_ne e_1899 (fun z => absurd z.2 (by decide))).trans ((dg_uF_ne e_1897 (fun z => absurd z.2 (by decide))).trans ((m_1891.1 0 46 _ sM_0 (by decide)).trans (m_2.1 0 46 _ sM_0 (by decide))))))).trans f_oo), (by omega)⟩, (fun k9 hk9 hk0 => POM.mk1 (P1M.keep P1_1927 m_1932 (by decide) (by decide) (by decide) (by decide) (by decide) (by decide) (by decide) (by decide) (by decide) (by decide) (by decide) (by decide) (by decide) (by decide) (by decide)) (((m_1932.1 0 46 _ sM_0 (by decide)).trans ((m_1927.1 0 46 _ sM_0 (by decide)).trans ((dg_uF_ne e_1899 (fun z => absurd z.2 (by decide))).trans ((dg_uF_ne e_1897 (fun z => absurd z.2 (by decide))).trans ((m_1891.1 0 46 _ sM_0 (by decide)).trans (m_2.1 0 46 _ sM_0 (by decide))))))).trans f_oo) (by omega)), (ZWM.keep w_1927_2 m_1932 (by decide) (by decide) (by decide) (by decide)), trivial⟩ dX12_goesOn_618
                    · have jc_1889 := dk_eqc (k := 0) (by decide +kernel) c_1889
                      clear w_1888_1
                      refine lv_aload_n hx hb dX12_goesOn_537 rfl (lv_at hl 3 rfl) ?_
                      refine lv_iconst (v := 1) hx hb dX12_goesOn_538 (by decide +kernel) ?_
                      refine lv_aload_n hx hb dX12_goesOn_539 rfl (lv_at hl 3 rfl) ?_
                      refine dg_get (C := RX12) (T := TX12) (N := 77) hx hb hts (fun w h => bw_mem (wU_X12 w h)) hown K hP sM_0 rfl 4 (by decide) (hts _ (bw_mem wB_1145)) (fun _ h9 => h9) (v := .int sa) ((m_2.1 0 4 _ sM_0 (by decide)).trans f_sa) dX12_goesOn_540 ?_
                      have hz_1940 : (1 : Int32).toInt = 1 := by decide +kernel
                      refine dg_callv hS hA1 hA (va_runV (As := [.int 1, .int sa]) (rest := []) F (c_m_blame l g D o S_2 1 (by decide +kernel) sa y_3 f_y_3 (by omega) I_2 H.size) (cwV 2 hts (bw_V wB_1137 wB_1138 wB_1139 wB_881 wB_1136) rfl rfl rfl (by decide +kernel) ⟨Nat.le_of_ble_eq_true rfl, Nat.le_of_ble_eq_true rfl⟩) (dg_preV sM_0 rfl K ST hP hS hA1 hA) rfl rfl hl.1 rfl (lv_room (Nat.le_of_ble_eq_true rfl)) dX12_goesOn_543 ⟨Nat.le_of_ble_eq_true rfl, Nat.le_of_ble_eq_true rfl⟩) (fun S_1941 hw_1941 H locs hP hS => ?_)
                      obtain ⟨I_1941, m_1941, w_1941_0, -⟩ := hw_1941
                      have M_1941 := dg_sm.tr M_2 m_1941 (by decide) (by decide)
                      have hz_1942 : (1 : Int32).toInt = 1 := by decide +kernel
                      obtain ⟨y_1943, f_y_1943, w_1941_0⟩ := w_1941_0
                      have w_1941_0 : ((y_3).toInt ≠ 0 → (y_1943).toInt = (y_3).toInt) ∧ ((y_3).toInt = 0 → (y_1943).toInt = ((1 : Int32)).toInt) := w_1941_0
                      obtain ⟨w_1941_0_0, w_1941_0_1⟩ := w_1941_0
                      clear w_1941_0_0
                      have w_1941_0_1r := w_1941_0_1 (by omega)
                      clear w_1941_0_1
                      have b_y_1943 : 0 ≤ (y_1943).toInt ∧ (y_1943).toInt ≤ 6 := dg_I.intb (lo := 0) (hi := 6) I_1941 sM_0 (by decide +kernel) f_y_1943
                      have hbl_y_1943 : 1 ≤ (y_1943).toInt := by omega
                      refine lv_aload_n hx hb dX12_goesOn_546 rfl (lv_at hl 3 rfl) ?_
                      refine dg_get (C := RX12) (T := TX12) (N := 77) hx hb hts (fun w h => bw_mem (wU_X12 w h)) hown K hP sM_0 rfl 8 (by decide) (hts _ (bw_mem wB_1133)) (fun _ h9 => h9) (v := .int y_1943) f_y_1943 dX12_goesOn_547 ?_
                      refine lv_if_le (tgt := 555) hx hb dX12_goesOn_550 (by decide) (fun c => absurd c (fun z => absurd (dk_lec (k := 0) (by decide +kernel) z) (by omega))) (fun _ => ?_)
                      refine lv_iconst (v := 0) hx hb dX12_goesOn_553 (by decide +kernel) ?_
                      have hz_1944 : (0 : Int32).toInt = 0 := by decide +kernel
                      have hz_1945 : (0 : Int32).toInt = 0 := by decide +kernel
                      have hz_1946 : (0 : Int32).toInt = 0 := by decide +kernel
                      refine W.widen (k := 0) (n := 0) (Nat.le_of_ble_eq_true rfl) (Nat.le_of_ble_eq_true rfl) ?_
                      exact dg_iret hx hb hr hlocks (by decide +kernel) hP hS ⟨I_1941, M_1941, (by decide +kernel), ⟨sg, sa, se, y_1943, cd, dp, om, oo, (((m_1941.1 0 3 _ sM_0 (by decide)).trans (m_2.1 0 3 _ sM_0 (by decide))).trans f_sg), (((m_1941.1 0 4 _ sM_0 (by decide)).trans (m_2.1 0 4 _ sM_0 (by decide))).trans f_sa), (((m_1941.1 0 5 _ sM_0 (by decide)).trans (m_2.1 0 5 _ sM_0 (by decide))).trans f_se), f_y_1943, (((m_1941.1 0 34 _ sM_0 (by decide)).trans (m_2.1 0 34 _ sM_0 (by decide))).trans f_cd), (((m_1941.1 0 42 _ sM_0 (by decide)).trans (m_2.1 0 42 _ sM_0 (by decide))).trans f_dp), (((m_1941.1 0 45 _ sM_0 (by decide)).trans (m_2.1 0 45 _ sM_0 (by decide))).trans f_om), (((m_1941.1 0 46 _ sM_0 (by decide)).trans (m_2.1 0 46 _ sM_0 (by decide))).trans f_oo), (by omega)⟩, (fun k9 hk9 hk0 => by have q9 := (f_y_1943).symm.trans hk9; cases q9; omega), (ZWM.keep (ZWM.keep ZW m_2 (by decide) (by decide) (by decide) (by decide)) m_1941 (by decide) (by decide) (by decide) (by decide)), trivial⟩ dX12_goesOn_554
                  refine lv_icmp_ne (tgt := 529) hx hb dX12_goesOn_521 (by decide) (fun c_1947 => ?_) (fun c_1947 => ?_)
                  · have jc_1947 := dk_neqc (k := 5) (by decide +kernel) c_1947
                    refine lv_bipush (v := 41) hx hb dX12_goesOn_529 (by decide +kernel) ?_
                    have hz_1948 : (41 : Int32).toInt = 41 := by decide +kernel
                    exact J_1886 41 (by decide +kernel) _ _ hP hS _ (lv_sub hl [0, 1, 2, 3] rfl)
                  · have jc_1947 := dk_eqc (k := 5) (by decide +kernel) c_1947
                    refine lv_bipush (v := 93) hx hb dX12_goesOn_524 (by decide +kernel) ?_
                    refine lv_goto (tgt := 531) hx hb dX12_goesOn_526 (by decide) ?_
                    have hz_1949 : (93 : Int32).toInt = 93 := by decide +kernel
                    exact J_1886 93 (by decide +kernel) _ _ hP hS _ (lv_sub hl [0, 1, 2, 3] rfl)
                · have jc_1823 := dk_eqc (k := 6) (by decide +kernel) c_1823
                  exact J_1760 ()  (by omega) _ _ hP hS _ (lv_sub hl [0, 1, 2, 3] rfl)
            · have jc_1634 := dk_ngec (k := 2) (by decide +kernel) c_1634
              refine lv_aload_n hx hb dX12_goesOn_427 rfl (lv_at hl 3 rfl) ?_
              refine dg_get (C := RX12) (T := TX12) (N := 77) hx hb hts (fun w h => bw_mem (wU_X12 w h)) hown K hP sM_0 rfl 8 (by decide) (hts _ (bw_mem wB_1133)) (fun _ h9 => h9) (v := .int y_3) f_y_3 dX12_goesOn_428 ?_
              refine lv_if_ne (tgt := 439) hx hb dX12_goesOn_431 (by decide) (fun c => absurd (dk_eqp (k := 0) (by decide +kernel) (by omega)) c) (fun _ => ?_)
              refine lv_aload_n hx hb dX12_goesOn_434 rfl (lv_at hl 3 rfl) ?_
              refine lv_iconst (v := 1) hx hb dX12_goesOn_435 (by decide +kernel) ?_
              have hz_1950 : (1 : Int32).toInt = 1 := by decide +kernel
              refine dg_callv hS hA1 hA (va_runV (As := [.int 1]) (rest := []) F (c_m_joins l g D o S_2 1 (by decide +kernel) cd ((m_2.1 0 34 _ sM_0 (by decide)).trans f_cd) (by omega) om ((m_2.1 0 45 _ sM_0 (by decide)).trans f_om) (by omega) (by omega) (ZWM.keep ZW m_2 (by decide) (by decide) (by decide) (by decide)) (ZKM.keep ZK m_2 (by decide) (by decide)) (P1M.keep P1 m_2 (by decide) (by decide) (by decide) (by decide) (by decide) (by decide) (by decide) (by decide) (by decide) (by decide) (by decide) (by decide) (by decide) (by decide) (by decide)) I_2 H.size) (cwV 1 hts (bw_V wB_1234 wB_1235 wB_1236 wB_881 wB_1233) rfl rfl rfl (by decide +kernel) ⟨Nat.le_of_ble_eq_true rfl, Nat.le_of_ble_eq_true rfl⟩) (dg_preV sM_0 rfl K ST hP hS hA1 hA) rfl rfl hl.1 rfl (lv_room (Nat.le_of_ble_eq_true rfl)) dX12_goesOn_436 ⟨Nat.le_of_ble_eq_true rfl, Nat.le_of_ble_eq_true rfl⟩) (fun S_1951 hw_1951 H locs hP hS => ?_)
              obtain ⟨I_1951, m_1951, w_1951_0, w_1951_1, w_1951_2, w_1951_3, -⟩ := hw_1951
              have M_1951 := dg_sm.tr M_2 m_1951 (by decide) (by decide)
              have hz_1952 : (1 : Int32).toInt = 1 := by decide +kernel
              obtain ⟨y_1953, y_1954, f_y_1953, f_y_1954, w_1951_0⟩ := w_1951_0
              have w_1951_0 : (y_1953).toInt + (y_1954).toInt = (cd).toInt + (om).toInt := w_1951_0
              have b_y_1953 : 0 ≤ (y_1953).toInt ∧ (y_1953).toInt ≤ 1600 := dg_I.intb (lo := 0) (hi := 1600) I_1951 sM_0 (by decide +kernel) f_y_1953
              have b_y_1954 : 0 ≤ (y_1954).toInt ∧ (y_1954).toInt ≤ 500 := dg_I.intb (lo := 0) (hi := 500) I_1951 sM_0 (by decide +kernel) f_y_1954
              have w_1951_1 : TOPM S_1951 (1 : Int32) := w_1951_1
              refine lv_iconst (v := 0) hx hb dX12_goesOn_439 (by decide +kernel) ?_
              have hz_1955 : (0 : Int32).toInt = 0 := by decide +kernel
              have hz_1956 : (0 : Int32).toInt = 0 := by decide +kernel
              have hz_1957 : (0 : Int32).toInt = 0 := by decide +kernel
              refine W.widen (k := 0) (n := 0) (Nat.le_of_ble_eq_true rfl) (Nat.le_of_ble_eq_true rfl) ?_
              exact dg_iret hx hb hr hlocks (by decide +kernel) hP hS ⟨I_1951, M_1951, (by decide +kernel), ⟨sg, sa, se, y_3, y_1953, dp, y_1954, oo, (((m_1951.1 0 3 _ sM_0 (by decide)).trans (m_2.1 0 3 _ sM_0 (by decide))).trans f_sg), (((m_1951.1 0 4 _ sM_0 (by decide)).trans (m_2.1 0 4 _ sM_0 (by decide))).trans f_sa), (((m_1951.1 0 5 _ sM_0 (by decide)).trans (m_2.1 0 5 _ sM_0 (by decide))).trans f_se), ((m_1951.1 0 8 _ sM_0 (by decide)).trans f_y_3), f_y_1953, (((m_1951.1 0 42 _ sM_0 (by decide)).trans (m_2.1 0 42 _ sM_0 (by decide))).trans f_dp), f_y_1954, (((m_1951.1 0 46 _ sM_0 (by decide)).trans (m_2.1 0 46 _ sM_0 (by decide))).trans f_oo), (by omega)⟩, (fun k9 hk9 hk0 => POM.mk1 w_1951_3 (((m_1951.1 0 46 _ sM_0 (by decide)).trans (m_2.1 0 46 _ sM_0 (by decide))).trans f_oo) (by omega)), w_1951_2, trivial⟩ dX12_goesOn_440
          · have jc_1633 := dk_neqc (k := 0) (by decide +kernel) c_1633
            have w_9_1_r := w_9_1.mp (by omega)
            clear w_9_1
            refine lv_aload_n hx hb dX12_goesOn_404 rfl (lv_at hl 3 rfl) ?_
            refine dg_get (C := RX12) (T := TX12) (N := 77) hx hb hts (fun w h => bw_mem (wU_X12 w h)) hown K hP sM_0 rfl 38 (by decide) (hts _ (bw_mem wB_1214)) (fun _ h9 => h9) (v := .ref (o + 23)) (show S_2.1 0 38 = .ref (o + 23) from dg_I.rel (d := 23) I_2 sM_0 (by decide +kernel)) dX12_goesOn_405 ?_
            refine lv_iload_n hx hb dX12_goesOn_408 rfl (lv_at hl 2 rfl) ?_
            have hin_1958 : vp_in x_5 20 := (dk_inv (by omega) (by omega))
            refine dg_iald hx hb K hP sM_23 hin_1958 dX12_goesOn_409 (fun y_1959 ey_1959 => ?_)
            obtain rfl : x_11 = y_1959 := (ey_1959.trans ex_11.symm).symm
            refine lv_if_ne (tgt := 422) hx hb dX12_goesOn_410 (by decide) (fun c_1960 => ?_) (fun c_1960 => ?_)
            · have jc_1960 := dk_neqc (k := 0) (by decide +kernel) c_1960
              refine lv_iload_n hx hb dX12_goesOn_422 rfl (lv_at hl 1 rfl) ?_
              refine lv_iconst (v := 2) hx hb dX12_goesOn_423 (by decide +kernel) ?_
              refine lv_icmp_ge (tgt := 441) hx hb dX12_goesOn_424 (by decide) (fun c_1961 => ?_) (fun c_1961 => ?_)
              · have jc_1961 := dk_gec (k := 2) (by decide +kernel) c_1961
                refine lv_iload_n hx hb dX12_goesOn_441 rfl (lv_at hl 1 rfl) ?_
                refine lv_iconst (v := 3) hx hb dX12_goesOn_442 (by decide +kernel) ?_
                have J_2087 : ∀ (u9 : Unit), ((x_7 : Int32).toInt = 3 ∨ (x_7 : Int32).toInt = 6) → ∀ (H : Heap) (locs : List Loc), va_P D vwCl (dg_w g shM o rfM S_2) H → va_S A s.heap H locs → ∀ ls : Array Slot, lv_has ls 5 [(3, .int x_8), (2, .int x_7), (1, .int x_5), (0, .ref (o + 0))] → W p l e ({ frames := 3, cells := 0, slots := 0, locals := 77 } : Room) s m args below meth c H locs 0 0 (MQ below (va_Qi (fun (r : Int32) S' => CM o S' ∧ dg_sm shM [(0, 3), (0, 4), (0, 5), (0, 6), (0, 7), (0, 8), (0, 9), (0, 12), (0, 34), (0, 42), (0, 43), (0, 45), (0, 46)] [18, 19, 22, 23, 24, 27] S S' ∧ (0 ≤ (r).toInt ∧ (r).toInt ≤ 1) ∧ (∃ y9_3 y9_4 y9_5 y9_8 y9_34 y9_42 y9_45 y9_46 : Int32, S'.1 0 3 = .int y9_3 ∧ S'.1 0 4 = .int y9_4 ∧ S'.1 0 5 = .int y9_5 ∧ S'.1 0 8 = .int y9_8 ∧ S'.1 0 34 = .int y9_34 ∧ S'.1 0 42 = .int y9_42 ∧ S'.1 0 45 = .int y9_45 ∧ S'.1 0 46 = .int y9_46 ∧ (((y9_4).toInt ≤ (y9_5).toInt ∧ (y9_5).toInt ≤ (sl).toInt ∧ ((y9_3).toInt ≠ 0 → (y9_4).toInt + 1 ≤ (y9_5).toInt)) ∧ (sa).toInt ≤ (y9_4).toInt ∧ ((fk).toInt ≠ 0 → (y9_8).toInt ≠ 0) ∧ (((y9_8).toInt = 0 → (r).toInt = 1 → (sa).toInt + 1 ≤ (y9_4).toInt) ∧ ((y9_8).toInt = 0 → (y9_34).toInt + (y9_45).toInt + (y9_42).toInt ≤ (y9_4).toInt)))) ∧ (∀ k9 : Int32, S'.1 0 8 = .int k9 → k9.toInt = 0 → POM S') ∧ ZWM S' ∧ True) (dg_B g D shM o rfM) A) args s 0 0 A) (F0 m 452 ls []) := by
                  intro u9 rel_0 H locs hP hS ls hl
                  refine lv_aload_n hx hb dX12_goesOn_452 rfl (lv_at hl 3 rfl) ?_
                  refine lv_bipush (v := 44) hx hb dX12_goesOn_453 (by decide +kernel) ?_
                  refine dg_calli hS hA1 hA (va_runV (As := [.int 44]) (rest := []) F (c_m_isSign l g D o S_2 44 sg ((m_2.1 0 3 _ sM_0 (by decide)).trans f_sg) (by omega) va ((m_2.1 0 6 _ sM_0 (by decide)).trans f_va) (by omega) I_2 H.size) (cwV 1 hts (bw_V wB_1157 wB_1158 wB_1159 wB_881 wB_1156) rfl rfl rfl (by decide +kernel) ⟨Nat.le_of_ble_eq_true rfl, Nat.le_of_ble_eq_true rfl⟩) (dg_preV sM_0 rfl K ST hP hS hA1 hA) rfl rfl hl.1 rfl (lv_room (Nat.le_of_ble_eq_true rfl)) dX12_goesOn_455 ⟨Nat.le_of_ble_eq_true rfl, Nat.le_of_ble_eq_true rfl⟩) (fun x_2088 S_2089 hw_2089 H locs hP hS => ?_)
                  rw [hw_2089.1] at hP
                  obtain ⟨hq_2089, w_2089_0, w_2089_1, -⟩ := hw_2089
                  have hz_2090 : (44 : Int32).toInt = 44 := by decide +kernel
                  have w_2089_0 : 0 ≤ (x_2088).toInt ∧ (x_2088).toInt ≤ 1 := w_2089_0
                  have w_2089_1 : (x_2088).toInt = 1 ↔ ((sg).toInt = 3 ∧ (va).toInt = ((44 : Int32)).toInt) := w_2089_1
                  refine lv_if_ne (tgt := 470) hx hb dX12_goesOn_458 (by decide) (fun c_2091 => ?_) (fun c_2091 => ?_)
                  · have jc_2091 := dk_neqc (k := 0) (by decide +kernel) c_2091
                    have w_2089_1_r := w_2089_1.mp (by omega)
                    clear w_2089_1
                    refine lv_aload_n hx hb dX12_goesOn_470 rfl (lv_at hl 3 rfl) ?_
                    refine dg_get (C := RX12) (T := TX12) (N := 77) hx hb hts (fun w h => bw_mem (wU_X12 w h)) hown K hP sM_0 rfl 8 (by decide) (hts _ (bw_mem wB_1133)) (fun _ h9 => h9) (v := .int y_3) f_y_3 dX12_goesOn_471 ?_
                    refine lv_if_le (tgt := 479) hx hb dX12_goesOn_474 (by decide) (fun _ => ?_) (fun c => absurd (dk_lep (k := 0) (by decide +kernel) (by omega)) c)
                    refine lv_aload_n hx hb dX12_goesOn_479 rfl (lv_at hl 3 rfl) ?_
                    refine lv_iconst (v := 1) hx hb dX12_goesOn_480 (by decide +kernel) ?_
                    have hz_2092 : (1 : Int32).toInt = 1 := by decide +kernel
                    refine dg_callv hS hA1 hA (va_runV (As := [.int 1]) (rest := []) F (c_m_joins l g D o S_2 1 (by decide +kernel) cd ((m_2.1 0 34 _ sM_0 (by decide)).trans f_cd) (by omega) om ((m_2.1 0 45 _ sM_0 (by decide)).trans f_om) (by omega) (by omega) (ZWM.keep ZW m_2 (by decide) (by decide) (by decide) (by decide)) (ZKM.keep ZK m_2 (by decide) (by decide)) (P1M.keep P1 m_2 (by decide) (by decide) (by decide) (by decide) (by decide) (by decide) (by decide) (by decide) (by decide) (by decide) (by decide) (by decide) (by decide) (by decide) (by decide)) I_2 H.size) (cwV 1 hts (bw_V wB_1234 wB_1235 wB_1236 wB_881 wB_1233) rfl rfl rfl (by decide +kernel) ⟨Nat.le_of_ble_eq_true rfl, Nat.le_of_ble_eq_true rfl⟩) (dg_preV sM_0 rfl K ST hP hS hA1 hA) rfl rfl hl.1 rfl (lv_room (Nat.le_of_ble_eq_true rfl)) dX12_goesOn_481 ⟨Nat.le_of_ble_eq_true rfl, Nat.le_of_ble_eq_true rfl⟩) (fun S_2093 hw_2093 H locs hP hS => ?_)
                    obtain ⟨I_2093, m_2093, w_2093_0, w_2093_1, w_2093_2, w_2093_3, -⟩ := hw_2093
                    have M_2093 := dg_sm.tr M_2 m_2093 (by decide) (by decide)
                    have hz_2094 : (1 : Int32).toInt = 1 := by decide +kernel
                    obtain ⟨y_2095, y_2096, f_y_2095, f_y_2096, w_2093_0⟩ := w_2093_0
                    have w_2093_0 : (y_2095).toInt + (y_2096).toInt = (cd).toInt + (om).toInt := w_2093_0
                    have b_y_2095 : 0 ≤ (y_2095).toInt ∧ (y_2095).toInt ≤ 1600 := dg_I.intb (lo := 0) (hi := 1600) I_2093 sM_0 (by decide +kernel) f_y_2095
                    have b_y_2096 : 0 ≤ (y_2096).toInt ∧ (y_2096).toInt ≤ 500 := dg_I.intb (lo := 0) (hi := 500) I_2093 sM_0 (by decide +kernel) f_y_2096
                    have w_2093_1 : TOPM S_2093 (1 : Int32) := w_2093_1
                    refine lv_aload_n hx hb dX12_goesOn_484 rfl (lv_at hl 3 rfl) ?_
                    refine dg_get (C := RX12) (T := TX12) (N := 77) hx hb hts (fun w h => bw_mem (wU_X12 w h)) hown K hP sM_0 rfl 37 (by decide) (hts _ (bw_mem wB_1213)) (fun _ h9 => h9) (v := .ref (o + 22)) (show S_2093.1 0 37 = .ref (o + 22) from dg_I.rel (d := 22) I_2093 sM_0 (by decide +kernel)) dX12_goesOn_485 ?_
                    refine lv_iload_n hx hb dX12_goesOn_488 rfl (lv_at hl 2 rfl) ?_
                    refine lv_iload_n hx hb dX12_goesOn_489 rfl (lv_at hl 1 rfl) ?_
                    refine lv_iconst (v := 3) hx hb dX12_goesOn_490 (by decide +kernel) ?_
                    refine lv_icmp_ne (tgt := 498) hx hb dX12_goesOn_491 (by decide) (fun c_2097 => ?_) (fun c_2097 => ?_)
                    · have jc_2097 := dk_neqc (k := 3) (by decide +kernel) c_2097
                      refine lv_iconst (v := 3) hx hb dX12_goesOn_498 (by decide +kernel) ?_
                      have hin_2098 : vp_in x_5 20 := (dk_inv (by omega) (by omega))
                      have hz_2100 : (3 : Int32).toInt = 3 := by decide +kernel
                      refine dg_iast hx hb K hP hS hA1 sM_22 hin_2098 dX12_goesOn_499 (fun S_2099 e_2099 H locs hP hS => ?_)
                      have I_2099 := dg_I.ufu (lo := 0) (hi := 6) I_2093 e_2099 sM_22 (by decide +kernel) (show 0 ≤ ((3 : Int32)).toInt ∧ ((3 : Int32)).toInt ≤ 6 from (by decide +kernel))
                      have M_2099 := dg_sm.uf M_2093 e_2099 sM_22 (by decide)
                      have hz_2101 : (3 : Int32).toInt = 3 := by decide +kernel
                      refine lv_aload_n hx hb dX12_goesOn_500 rfl (lv_at hl 3 rfl) ?_
                      refine dg_get (C := RX12) (T := TX12) (N := 77) hx hb hts (fun w h => bw_mem (wU_X12 w h)) hown K hP sM_0 rfl 38 (by decide) (hts _ (bw_mem wB_1214)) (fun _ h9 => h9) (v := .ref (o + 23)) (show S_2099.1 0 38 = .ref (o + 23) from dg_I.rel (d := 23) I_2099 sM_0 (by decide +kernel)) dX12_goesOn_501 ?_
                      refine lv_iload_n hx hb dX12_goesOn_504 rfl (lv_at hl 2 rfl) ?_
                      refine lv_iconst (v := 0) hx hb dX12_goesOn_505 (by decide +kernel) ?_
                      have hin_2102 : vp_in x_5 20 := (dk_inv (by omega) (by omega))
                      have hz_2104 : (0 : Int32).toInt = 0 := by decide +kernel
                      refine dg_iast hx hb K hP hS hA1 sM_23 hin_2102 dX12_goesOn_506 (fun S_2103 e_2103 H locs hP hS => ?_)
                      have I_2103 := dg_I.ufu (lo := 0) (hi := 2) I_2099 e_2103 sM_23 (by decide +kernel) (show 0 ≤ ((0 : Int32)).toInt ∧ ((0 : Int32)).toInt ≤ 2 from (by decide +kernel))
                      have M_2103 := dg_sm.uf M_2099 e_2103 sM_23 (by decide)
                      obtain ⟨x_2105, f_x_2105, b_x_2105⟩ := dg_I.int (i := 0) (k := 43) (lo := (-2147483648)) (hi := 2147483647) I_2093 sM_0 (by decide +kernel)
                      have hz_2106 : (0 : Int32).toInt = 0 := by decide +kernel
                      obtain ⟨x_2107, f_x_2107⟩ : ∃ x, S_2093.2.1 22 (x_5 : Int32).toNatClampNeg = x := ⟨_, rfl⟩
                      have hin_2108 : vp_in (x_5 : Int32) 20 := (dk_inv (by omega) (by omega))
                      have b_x_2107 := dk_all_at (dg_I.row (lo := 0) (hi := 6) I_2093 sM_22 (by decide +kernel)) hin_2108 f_x_2107.symm
                      have P0_2103 : P0M S_2103 := P1M.comma w_2093_3 (((m_2093.1 0 42 _ sM_0 (by decide)).trans (m_2.1 0 42 _ sM_0 (by decide))).trans f_dp) f_x_2105 f_y_2096 w_2093_1 (by omega) (fx := x_5) (by omega) f_x_2107 (by omega) e_2099 e_2103
                      refine lv_aload_n hx hb dX12_goesOn_507 rfl (lv_at hl 3 rfl) ?_
                      refine dg_callv hS hA1 hA (va_runV (As := []) (rest := []) F (c_m_ahead l g D o S_2103 se (((dg_uf_F e_2103 0 5).trans ((dg_uf_F e_2099 0 5).trans ((m_2093.1 0 5 _ sM_0 (by decide)).trans (m_2.1 0 5 _ sM_0 (by decide))))).trans f_se) (by omega) sl (((dg_uf_F e_2103 0 2).trans ((dg_uf_F e_2099 0 2).trans ((m_2093.1 0 2 _ sM_0 (by decide)).trans (m_2.1 0 2 _ sM_0 (by decide))))).trans f_sl) (by omega) (by omega) I_2103 H.size) (cwV 0 hts (bw_V wB_1161 wB_1162 wB_1163 wB_881 wB_1160) rfl rfl rfl (by decide +kernel) ⟨Nat.le_of_ble_eq_true rfl, Nat.le_of_ble_eq_true rfl⟩) (dg_preV sM_0 rfl K ST hP hS hA1 hA) rfl rfl hl.1 rfl (lv_room (Nat.le_of_ble_eq_true rfl)) dX12_goesOn_508 ⟨Nat.le_of_ble_eq_true rfl, Nat.le_of_ble_eq_true rfl⟩) (fun S_2109 hw_2109 H locs hP hS => ?_)
                      obtain ⟨I_2109, m_2109, w_2109_0, -⟩ := hw_2109
                      have M_2109 := dg_sm.tr M_2103 m_2109 (by decide) (by decide)
                      obtain ⟨y_2110, y_2111, y_2112, f_y_2110, f_y_2111, f_y_2112, w_2109_0⟩ := w_2109_0
                      have w_2109_0 : (se).toInt ≤ (y_2111).toInt ∧ (y_2111).toInt ≤ (y_2112).toInt ∧ (y_2112).toInt ≤ (sl).toInt ∧ ((y_2110).toInt ≠ 0 → (y_2111).toInt + 1 ≤ (y_2112).toInt) := w_2109_0
                      obtain ⟨w_2109_0_0, w_2109_0_1, w_2109_0_2, w_2109_0_3⟩ := w_2109_0
                      have b_y_2110 : 0 ≤ (y_2110).toInt ∧ (y_2110).toInt ≤ 3 := dg_I.intb (lo := 0) (hi := 3) I_2109 sM_0 (by decide +kernel) f_y_2110
                      have b_y_2111 : 0 ≤ (y_2111).toInt ∧ (y_2111).toInt ≤ 1600 := dg_I.intb (lo := 0) (hi := 1600) I_2109 sM_0 (by decide +kernel) f_y_2111
                      have b_y_2112 : 0 ≤ (y_2112).toInt ∧ (y_2112).toInt ≤ 1600 := dg_I.intb (lo := 0) (hi := 1600) I_2109 sM_0 (by decide +kernel) f_y_2112
                      refine lv_aload_n hx hb dX12_goesOn_511 rfl (lv_at hl 3 rfl) ?_
                      refine lv_iconst (v := 0) hx hb dX12_goesOn_512 (by decide +kernel) ?_
                      have hz_2113 : (0 : Int32).toInt = 0 := by decide +kernel
                      refine dg_put (ci := 12) (v := .int 0) (ty := tyX12 46) (C := RX12) (T := TX12) (N := 77) hx hb hts (fun w h => bw_mem (wU_X12 w h)) tyX12 tyX12_ok nmX12 hown K hP hS hA1 sM_0 rfl 46 (by decide) (hts _ (bw_mem wB_1237)) (fun _ h9 => h9) rfl (by decide +kernel) (by decide +kernel) (by decide +kernel) dX12_goesOn_513 (fun S_2114 e_2114 H locs hP hS => ?_)
                      have I_2114 := dg_I.uFi (lo := 0) (hi := 1) I_2109 e_2114 sM_0 (by decide +kernel) (show 0 ≤ ((0 : Int32)).toInt ∧ ((0 : Int32)).toInt ≤ 1 from (by decide +kernel))
                      have M_2114 := dg_sm.uF M_2109 e_2114 sM_0 (by decide)
                      refine lv_iconst (v := 1) hx hb dX12_goesOn_516 (by decide +kernel) ?_
                      have hz_2115 : (1 : Int32).toInt = 1 := by decide +kernel
                      have hz_2116 : (1 : Int32).toInt = 1 := by decide +kernel
                      have hz_2117 : (0 : Int32).toInt = 0 := by decide +kernel
                      have hz_2118 : (1 : Int32).toInt = 1 := by decide +kernel
                      have hz_2119 : (0 : Int32).toInt = 0 := by decide +kernel
                      refine W.widen (k := 0) (n := 0) (Nat.le_of_ble_eq_true rfl) (Nat.le_of_ble_eq_true rfl) ?_
                      exact dg_iret hx hb hr hlocks (by decide +kernel) hP hS ⟨I_2114, M_2114, (by decide +kernel), ⟨y_2110, y_2111, y_2112, y_3, y_2095, dp, y_2096, 0, ((dg_uF_ne e_2114 (fun z => absurd z.2 (by decide))).trans f_y_2110), ((dg_uF_ne e_2114 (fun z => absurd z.2 (by decide))).trans f_y_2111), ((dg_uF_ne e_2114 (fun z => absurd z.2 (by decide))).trans f_y_2112), (((dg_uF_ne e_2114 (fun z => absurd z.2 (by decide))).trans ((m_2109.1 0 8 _ sM_0 (by decide)).trans ((dg_uf_F e_2103 0 8).trans ((dg_uf_F e_2099 0 8).trans (m_2093.1 0 8 _ sM_0 (by decide)))))).trans f_y_3), (((dg_uF_ne e_2114 (fun z => absurd z.2 (by decide))).trans ((m_2109.1 0 34 _ sM_0 (by decide)).trans ((dg_uf_F e_2103 0 34).trans (dg_uf_F e_2099 0 34)))).trans f_y_2095), (((dg_uF_ne e_2114 (fun z => absurd z.2 (by decide))).trans ((m_2109.1 0 42 _ sM_0 (by decide)).trans ((dg_uf_F e_2103 0 42).trans ((dg_uf_F e_2099 0 42).trans ((m_2093.1 0 42 _ sM_0 (by decide)).trans (m_2.1 0 42 _ sM_0 (by decide))))))).trans f_dp), (((dg_uF_ne e_2114 (fun z => absurd z.2 (by decide))).trans ((m_2109.1 0 45 _ sM_0 (by decide)).trans ((dg_uf_F e_2103 0 45).trans (dg_uf_F e_2099 0 45)))).trans f_y_2096), (dg_uF_at e_2114), (by omega)⟩, (fun k9 hk9 hk0 => POM.mk0 (P0M.keep (P0M.keep P0_2103 m_2109 (by decide) (by decide) (by decide) (by decide) (by decide) (by decide) (by decide) (by decide) (by decide) (by decide) (by decide) (by decide) (by decide) (by decide) (by decide)) (dg_sm.uF (WF := [(0, 46)]) (WA := []) dg_sm.rf e_2114 sM_0 (by decide)) (by decide) (by decide) (by decide) (by decide) (by decide) (by decide) (by decide) (by decide) (by decide) (by decide) (by decide) (by decide) (by decide) (by decide) (by decide)) (dg_uF_at e_2114) (by omega)), (ZWM.keep (ZWM.keep (ZWM.keep (ZWM.keep w_2093_2 (dg_sm.uf (WF := []) (WA := [22]) dg_sm.rf e_2099 sM_22 (by decide)) (by decide) (by decide) (by decide) (by decide)) (dg_sm.uf (WF := []) (WA := [23]) dg_sm.rf e_2103 sM_23 (by decide)) (by decide) (by decide) (by decide) (by decide)) m_2109 (by decide) (by decide) (by decide) (by decide)) (dg_sm.uF (WF := [(0, 46)]) (WA := []) dg_sm.rf e_2114 sM_0 (by decide)) (by decide) (by decide) (by decide) (by decide)), trivial⟩ dX12_goesOn_517
                    · have jc_2097 := dk_eqc (k := 3) (by decide +kernel) c_2097
                      refine lv_iconst (v := 4) hx hb dX12_goesOn_494 (by decide +kernel) ?_
                      refine lv_goto (tgt := 499) hx hb dX12_goesOn_495 (by decide) ?_
                      have hin_2120 : vp_in x_5 20 := (dk_inv (by omega) (by omega))
                      have hz_2122 : (4 : Int32).toInt = 4 := by decide +kernel
                      refine dg_iast hx hb K hP hS hA1 sM_22 hin_2120 dX12_goesOn_499 (fun S_2121 e_2121 H locs hP hS => ?_)
                      have I_2121 := dg_I.ufu (lo := 0) (hi := 6) I_2093 e_2121 sM_22 (by decide +kernel) (show 0 ≤ ((4 : Int32)).toInt ∧ ((4 : Int32)).toInt ≤ 6 from (by decide +kernel))
                      have M_2121 := dg_sm.uf M_2093 e_2121 sM_22 (by decide)
                      have hz_2123 : (4 : Int32).toInt = 4 := by decide +kernel
                      refine lv_aload_n hx hb dX12_goesOn_500 rfl (lv_at hl 3 rfl) ?_
                      refine dg_get (C := RX12) (T := TX12) (N := 77) hx hb hts (fun w h => bw_mem (wU_X12 w h)) hown K hP sM_0 rfl 38 (by decide) (hts _ (bw_mem wB_1214)) (fun _ h9 => h9) (v := .ref (o + 23)) (show S_2121.1 0 38 = .ref (o + 23) from dg_I.rel (d := 23) I_2121 sM_0 (by decide +kernel)) dX12_goesOn_501 ?_
                      refine lv_iload_n hx hb dX12_goesOn_504 rfl (lv_at hl 2 rfl) ?_
                      refine lv_iconst (v := 0) hx hb dX12_goesOn_505 (by decide +kernel) ?_
                      have hin_2124 : vp_in x_5 20 := (dk_inv (by omega) (by omega))
                      have hz_2126 : (0 : Int32).toInt = 0 := by decide +kernel
                      refine dg_iast hx hb K hP hS hA1 sM_23 hin_2124 dX12_goesOn_506 (fun S_2125 e_2125 H locs hP hS => ?_)
                      have I_2125 := dg_I.ufu (lo := 0) (hi := 2) I_2121 e_2125 sM_23 (by decide +kernel) (show 0 ≤ ((0 : Int32)).toInt ∧ ((0 : Int32)).toInt ≤ 2 from (by decide +kernel))
                      have M_2125 := dg_sm.uf M_2121 e_2125 sM_23 (by decide)
                      obtain ⟨x_2127, f_x_2127, b_x_2127⟩ := dg_I.int (i := 0) (k := 43) (lo := (-2147483648)) (hi := 2147483647) I_2093 sM_0 (by decide +kernel)
                      have hz_2128 : (0 : Int32).toInt = 0 := by decide +kernel
                      obtain ⟨x_2129, f_x_2129⟩ : ∃ x, S_2093.2.1 22 (x_5 : Int32).toNatClampNeg = x := ⟨_, rfl⟩
                      have hin_2130 : vp_in (x_5 : Int32) 20 := (dk_inv (by omega) (by omega))
                      have b_x_2129 := dk_all_at (dg_I.row (lo := 0) (hi := 6) I_2093 sM_22 (by decide +kernel)) hin_2130 f_x_2129.symm
                      have P0_2125 : P0M S_2125 := P1M.comma w_2093_3 (((m_2093.1 0 42 _ sM_0 (by decide)).trans (m_2.1 0 42 _ sM_0 (by decide))).trans f_dp) f_x_2127 f_y_2096 w_2093_1 (by omega) (fx := x_5) (by omega) f_x_2129 (by omega) e_2121 e_2125
                      refine lv_aload_n hx hb dX12_goesOn_507 rfl (lv_at hl 3 rfl) ?_
                      refine dg_callv hS hA1 hA (va_runV (As := []) (rest := []) F (c_m_ahead l g D o S_2125 se (((dg_uf_F e_2125 0 5).trans ((dg_uf_F e_2121 0 5).trans ((m_2093.1 0 5 _ sM_0 (by decide)).trans (m_2.1 0 5 _ sM_0 (by decide))))).trans f_se) (by omega) sl (((dg_uf_F e_2125 0 2).trans ((dg_uf_F e_2121 0 2).trans ((m_2093.1 0 2 _ sM_0 (by decide)).trans (m_2.1 0 2 _ sM_0 (by decide))))).trans f_sl) (by omega) (by omega) I_2125 H.size) (cwV 0 hts (bw_V wB_1161 wB_1162 wB_1163 wB_881 wB_1160) rfl rfl rfl (by decide +kernel) ⟨Nat.le_of_ble_eq_true rfl, Nat.le_of_ble_eq_true rfl⟩) (dg_preV sM_0 rfl K ST hP hS hA1 hA) rfl rfl hl.1 rfl (lv_room (Nat.le_of_ble_eq_true rfl)) dX12_goesOn_508 ⟨Nat.le_of_ble_eq_true rfl, Nat.le_of_ble_eq_true rfl⟩) (fun S_2131 hw_2131 H locs hP hS => ?_)
                      obtain ⟨I_2131, m_2131, w_2131_0, -⟩ := hw_2131
                      have M_2131 := dg_sm.tr M_2125 m_2131 (by decide) (by decide)
                      obtain ⟨y_2132, y_2133, y_2134, f_y_2132, f_y_2133, f_y_2134, w_2131_0⟩ := w_2131_0
                      have w_2131_0 : (se).toInt ≤ (y_2133).toInt ∧ (y_2133).toInt ≤ (y_2134).toInt ∧ (y_2134).toInt ≤ (sl).toInt ∧ ((y_2132).toInt ≠ 0 → (y_2133).toInt + 1 ≤ (y_2134).toInt) := w_2131_0
                      obtain ⟨w_2131_0_0, w_2131_0_1, w_2131_0_2, w_2131_0_3⟩ := w_2131_0
                      have b_y_2132 : 0 ≤ (y_2132).toInt ∧ (y_2132).toInt ≤ 3 := dg_I.intb (lo := 0) (hi := 3) I_2131 sM_0 (by decide +kernel) f_y_2132
                      have b_y_2133 : 0 ≤ (y_2133).toInt ∧ (y_2133).toInt ≤ 1600 := dg_I.intb (lo := 0) (hi := 1600) I_2131 sM_0 (by decide +kernel) f_y_2133
                      have b_y_2134 : 0 ≤ (y_2134).toInt ∧ (y_2134).toInt ≤ 1600 := dg_I.intb (lo := 0) (hi := 1600) I_2131 sM_0 (by decide +kernel) f_y_2134
                      refine lv_aload_n hx hb dX12_goesOn_511 rfl (lv_at hl 3 rfl) ?_
                      refine lv_iconst (v := 0) hx hb dX12_goesOn_512 (by decide +kernel) ?_
                      have hz_2135 : (0 : Int32).toInt = 0 := by decide +kernel
                      refine dg_put (ci := 12) (v := .int 0) (ty := tyX12 46) (C := RX12) (T := TX12) (N := 77) hx hb hts (fun w h => bw_mem (wU_X12 w h)) tyX12 tyX12_ok nmX12 hown K hP hS hA1 sM_0 rfl 46 (by decide) (hts _ (bw_mem wB_1237)) (fun _ h9 => h9) rfl (by decide +kernel) (by decide +kernel) (by decide +kernel) dX12_goesOn_513 (fun S_2136 e_2136 H locs hP hS => ?_)
                      have I_2136 := dg_I.uFi (lo := 0) (hi := 1) I_2131 e_2136 sM_0 (by decide +kernel) (show 0 ≤ ((0 : Int32)).toInt ∧ ((0 : Int32)).toInt ≤ 1 from (by decide +kernel))
                      have M_2136 := dg_sm.uF M_2131 e_2136 sM_0 (by decide)
                      refine lv_iconst (v := 1) hx hb dX12_goesOn_516 (by decide +kernel) ?_
                      have hz_2137 : (1 : Int32).toInt = 1 := by decide +kernel
                      have hz_2138 : (1 : Int32).toInt = 1 := by decide +kernel
                      have hz_2139 : (0 : Int32).toInt = 0 := by decide +kernel
                      have hz_2140 : (1 : Int32).toInt = 1 := by decide +kernel
                      have hz_2141 : (0 : Int32).toInt = 0 := by decide +kernel
                      refine W.widen (k := 0) (n := 0) (Nat.le_of_ble_eq_true rfl) (Nat.le_of_ble_eq_true rfl) ?_
                      exact dg_iret hx hb hr hlocks (by decide +kernel) hP hS ⟨I_2136, M_2136, (by decide +kernel), ⟨y_2132, y_2133, y_2134, y_3, y_2095, dp, y_2096, 0, ((dg_uF_ne e_2136 (fun z => absurd z.2 (by decide))).trans f_y_2132), ((dg_uF_ne e_2136 (fun z => absurd z.2 (by decide))).trans f_y_2133), ((dg_uF_ne e_2136 (fun z => absurd z.2 (by decide))).trans f_y_2134), (((dg_uF_ne e_2136 (fun z => absurd z.2 (by decide))).trans ((m_2131.1 0 8 _ sM_0 (by decide)).trans ((dg_uf_F e_2125 0 8).trans ((dg_uf_F e_2121 0 8).trans (m_2093.1 0 8 _ sM_0 (by decide)))))).trans f_y_3), (((dg_uF_ne e_2136 (fun z => absurd z.2 (by decide))).trans ((m_2131.1 0 34 _ sM_0 (by decide)).trans ((dg_uf_F e_2125 0 34).trans (dg_uf_F e_2121 0 34)))).trans f_y_2095), (((dg_uF_ne e_2136 (fun z => absurd z.2 (by decide))).trans ((m_2131.1 0 42 _ sM_0 (by decide)).trans ((dg_uf_F e_2125 0 42).trans ((dg_uf_F e_2121 0 42).trans ((m_2093.1 0 42 _ sM_0 (by decide)).trans (m_2.1 0 42 _ sM_0 (by decide))))))).trans f_dp), (((dg_uF_ne e_2136 (fun z => absurd z.2 (by decide))).trans ((m_2131.1 0 45 _ sM_0 (by decide)).trans ((dg_uf_F e_2125 0 45).trans (dg_uf_F e_2121 0 45)))).trans f_y_2096), (dg_uF_at e_2136), (by omega)⟩, (fun k9 hk9 hk0 => POM.mk0 (P0M.keep (P0M.keep P0_2125 m_2131 (by decide) (by decide) (by decide) (by decide) (by decide) (by decide) (by decide) (by decide) (by decide) (by decide) (by decide) (by decide) (by decide) (by decide) (by decide)) (dg_sm.uF (WF := [(0, 46)]) (WA := []) dg_sm.rf e_2136 sM_0 (by decide)) (by decide) (by decide) (by decide) (by decide) (by decide) (by decide) (by decide) (by decide) (by decide) (by decide) (by decide) (by decide) (by decide) (by decide) (by decide)) (dg_uF_at e_2136) (by omega)), (ZWM.keep (ZWM.keep (ZWM.keep (ZWM.keep w_2093_2 (dg_sm.uf (WF := []) (WA := [22]) dg_sm.rf e_2121 sM_22 (by decide)) (by decide) (by decide) (by decide) (by decide)) (dg_sm.uf (WF := []) (WA := [23]) dg_sm.rf e_2125 sM_23 (by decide)) (by decide) (by decide) (by decide) (by decide)) m_2131 (by decide) (by decide) (by decide) (by decide)) (dg_sm.uF (WF := [(0, 46)]) (WA := []) dg_sm.rf e_2136 sM_0 (by decide)) (by decide) (by decide) (by decide) (by decide)), trivial⟩ dX12_goesOn_517
                  · have jc_2091 := dk_eqc (k := 0) (by decide +kernel) c_2091
                    clear w_2089_1
                    refine lv_aload_n hx hb dX12_goesOn_461 rfl (lv_at hl 3 rfl) ?_
                    refine lv_iconst (v := 1) hx hb dX12_goesOn_462 (by decide +kernel) ?_
                    refine lv_aload_n hx hb dX12_goesOn_463 rfl (lv_at hl 3 rfl) ?_
                    refine dg_get (C := RX12) (T := TX12) (N := 77) hx hb hts (fun w h => bw_mem (wU_X12 w h)) hown K hP sM_0 rfl 4 (by decide) (hts _ (bw_mem wB_1145)) (fun _ h9 => h9) (v := .int sa) ((m_2.1 0 4 _ sM_0 (by decide)).trans f_sa) dX12_goesOn_464 ?_
                    have hz_2142 : (1 : Int32).toInt = 1 := by decide +kernel
                    refine dg_callv hS hA1 hA (va_runV (As := [.int 1, .int sa]) (rest := []) F (c_m_blame l g D o S_2 1 (by decide +kernel) sa y_3 f_y_3 (by omega) I_2 H.size) (cwV 2 hts (bw_V wB_1137 wB_1138 wB_1139 wB_881 wB_1136) rfl rfl rfl (by decide +kernel) ⟨Nat.le_of_ble_eq_true rfl, Nat.le_of_ble_eq_true rfl⟩) (dg_preV sM_0 rfl K ST hP hS hA1 hA) rfl rfl hl.1 rfl (lv_room (Nat.le_of_ble_eq_true rfl)) dX12_goesOn_467 ⟨Nat.le_of_ble_eq_true rfl, Nat.le_of_ble_eq_true rfl⟩) (fun S_2143 hw_2143 H locs hP hS => ?_)
                    obtain ⟨I_2143, m_2143, w_2143_0, -⟩ := hw_2143
                    have M_2143 := dg_sm.tr M_2 m_2143 (by decide) (by decide)
                    have hz_2144 : (1 : Int32).toInt = 1 := by decide +kernel
                    obtain ⟨y_2145, f_y_2145, w_2143_0⟩ := w_2143_0
                    have w_2143_0 : ((y_3).toInt ≠ 0 → (y_2145).toInt = (y_3).toInt) ∧ ((y_3).toInt = 0 → (y_2145).toInt = ((1 : Int32)).toInt) := w_2143_0
                    obtain ⟨w_2143_0_0, w_2143_0_1⟩ := w_2143_0
                    clear w_2143_0_0
                    have w_2143_0_1r := w_2143_0_1 (by omega)
                    clear w_2143_0_1
                    have b_y_2145 : 0 ≤ (y_2145).toInt ∧ (y_2145).toInt ≤ 6 := dg_I.intb (lo := 0) (hi := 6) I_2143 sM_0 (by decide +kernel) f_y_2145
                    have hbl_y_2145 : 1 ≤ (y_2145).toInt := by omega
                    refine lv_aload_n hx hb dX12_goesOn_470 rfl (lv_at hl 3 rfl) ?_
                    refine dg_get (C := RX12) (T := TX12) (N := 77) hx hb hts (fun w h => bw_mem (wU_X12 w h)) hown K hP sM_0 rfl 8 (by decide) (hts _ (bw_mem wB_1133)) (fun _ h9 => h9) (v := .int y_2145) f_y_2145 dX12_goesOn_471 ?_
                    refine lv_if_le (tgt := 479) hx hb dX12_goesOn_474 (by decide) (fun c => absurd c (fun z => absurd (dk_lec (k := 0) (by decide +kernel) z) (by omega))) (fun _ => ?_)
                    refine lv_iconst (v := 0) hx hb dX12_goesOn_477 (by decide +kernel) ?_
                    have hz_2146 : (0 : Int32).toInt = 0 := by decide +kernel
                    have hz_2147 : (0 : Int32).toInt = 0 := by decide +kernel
                    have hz_2148 : (0 : Int32).toInt = 0 := by decide +kernel
                    refine W.widen (k := 0) (n := 0) (Nat.le_of_ble_eq_true rfl) (Nat.le_of_ble_eq_true rfl) ?_
                    exact dg_iret hx hb hr hlocks (by decide +kernel) hP hS ⟨I_2143, M_2143, (by decide +kernel), ⟨sg, sa, se, y_2145, cd, dp, om, oo, (((m_2143.1 0 3 _ sM_0 (by decide)).trans (m_2.1 0 3 _ sM_0 (by decide))).trans f_sg), (((m_2143.1 0 4 _ sM_0 (by decide)).trans (m_2.1 0 4 _ sM_0 (by decide))).trans f_sa), (((m_2143.1 0 5 _ sM_0 (by decide)).trans (m_2.1 0 5 _ sM_0 (by decide))).trans f_se), f_y_2145, (((m_2143.1 0 34 _ sM_0 (by decide)).trans (m_2.1 0 34 _ sM_0 (by decide))).trans f_cd), (((m_2143.1 0 42 _ sM_0 (by decide)).trans (m_2.1 0 42 _ sM_0 (by decide))).trans f_dp), (((m_2143.1 0 45 _ sM_0 (by decide)).trans (m_2.1 0 45 _ sM_0 (by decide))).trans f_om), (((m_2143.1 0 46 _ sM_0 (by decide)).trans (m_2.1 0 46 _ sM_0 (by decide))).trans f_oo), (by omega)⟩, (fun k9 hk9 hk0 => by have q9 := (f_y_2145).symm.trans hk9; cases q9; omega), (ZWM.keep (ZWM.keep ZW m_2 (by decide) (by decide) (by decide) (by decide)) m_2143 (by decide) (by decide) (by decide) (by decide)), trivial⟩ dX12_goesOn_478
                refine lv_icmp_eq (tgt := 452) hx hb dX12_goesOn_443 (by decide) (fun c_2149 => ?_) (fun c_2149 => ?_)
                · have jc_2149 := dk_eqc (k := 3) (by decide +kernel) c_2149
                  exact J_2087 ()  (by omega) _ _ hP hS _ (lv_sub hl [0, 1, 2, 3] rfl)
                · have jc_2149 := dk_neqc (k := 3) (by decide +kernel) c_2149
                  refine lv_iload_n hx hb dX12_goesOn_446 rfl (lv_at hl 1 rfl) ?_
                  refine lv_bipush (v := 6) hx hb dX12_goesOn_447 (by decide +kernel) ?_
                  refine lv_icmp_ne (tgt := 518) hx hb dX12_goesOn_449 (by decide) (fun c_2150 => ?_) (fun c_2150 => ?_)
                  · have jc_2150 := dk_neqc (k := 6) (by decide +kernel) c_2150
                    refine lv_aload_n hx hb dX12_goesOn_518 rfl (lv_at hl 3 rfl) ?_
                    refine lv_iload_n hx hb dX12_goesOn_519 rfl (lv_at hl 1 rfl) ?_
                    refine lv_iconst (v := 5) hx hb dX12_goesOn_520 (by decide +kernel) ?_
                    have J_2213 : ∀ (x_2152 : Int32), (41 ≤ (x_2152).toInt ∧ (x_2152).toInt ≤ 93) → ∀ (H : Heap) (locs : List Loc), va_P D vwCl (dg_w g shM o rfM S_2) H → va_S A s.heap H locs → ∀ ls : Array Slot, lv_has ls 5 [(3, .int x_8), (2, .int x_7), (1, .int x_5), (0, .ref (o + 0))] → W p l e ({ frames := 3, cells := 0, slots := 0, locals := 77 } : Room) s m args below meth c H locs 0 0 (MQ below (va_Qi (fun (r : Int32) S' => CM o S' ∧ dg_sm shM [(0, 3), (0, 4), (0, 5), (0, 6), (0, 7), (0, 8), (0, 9), (0, 12), (0, 34), (0, 42), (0, 43), (0, 45), (0, 46)] [18, 19, 22, 23, 24, 27] S S' ∧ (0 ≤ (r).toInt ∧ (r).toInt ≤ 1) ∧ (∃ y9_3 y9_4 y9_5 y9_8 y9_34 y9_42 y9_45 y9_46 : Int32, S'.1 0 3 = .int y9_3 ∧ S'.1 0 4 = .int y9_4 ∧ S'.1 0 5 = .int y9_5 ∧ S'.1 0 8 = .int y9_8 ∧ S'.1 0 34 = .int y9_34 ∧ S'.1 0 42 = .int y9_42 ∧ S'.1 0 45 = .int y9_45 ∧ S'.1 0 46 = .int y9_46 ∧ (((y9_4).toInt ≤ (y9_5).toInt ∧ (y9_5).toInt ≤ (sl).toInt ∧ ((y9_3).toInt ≠ 0 → (y9_4).toInt + 1 ≤ (y9_5).toInt)) ∧ (sa).toInt ≤ (y9_4).toInt ∧ ((fk).toInt ≠ 0 → (y9_8).toInt ≠ 0) ∧ (((y9_8).toInt = 0 → (r).toInt = 1 → (sa).toInt + 1 ≤ (y9_4).toInt) ∧ ((y9_8).toInt = 0 → (y9_34).toInt + (y9_45).toInt + (y9_42).toInt ≤ (y9_4).toInt)))) ∧ (∀ k9 : Int32, S'.1 0 8 = .int k9 → k9.toInt = 0 → POM S') ∧ ZWM S' ∧ True) (dg_B g D shM o rfM) A) args s 0 0 A) (F0 m 531 ls [.int x_2152, .ref (o + 0)]) := by
                      intro x_2152 b_x_2152 H locs hP hS ls hl
                      refine dg_calli hS hA1 hA (va_runV (As := [.int x_2152]) (rest := []) F (c_m_isSign l g D o S_2 x_2152 sg ((m_2.1 0 3 _ sM_0 (by decide)).trans f_sg) (by omega) va ((m_2.1 0 6 _ sM_0 (by decide)).trans f_va) (by omega) I_2 H.size) (cwV 1 hts (bw_V wB_1157 wB_1158 wB_1159 wB_881 wB_1156) rfl rfl rfl (by decide +kernel) ⟨Nat.le_of_ble_eq_true rfl, Nat.le_of_ble_eq_true rfl⟩) (dg_preV sM_0 rfl K ST hP hS hA1 hA) rfl rfl hl.1 rfl (lv_room (Nat.le_of_ble_eq_true rfl)) dX12_goesOn_531 ⟨Nat.le_of_ble_eq_true rfl, Nat.le_of_ble_eq_true rfl⟩) (fun x_2214 S_2215 hw_2215 H locs hP hS => ?_)
                      rw [hw_2215.1] at hP
                      obtain ⟨hq_2215, w_2215_0, w_2215_1, -⟩ := hw_2215
                      have w_2215_0 : 0 ≤ (x_2214).toInt ∧ (x_2214).toInt ≤ 1 := w_2215_0
                      have w_2215_1 : (x_2214).toInt = 1 ↔ ((sg).toInt = 3 ∧ (va).toInt = (x_2152).toInt) := w_2215_1
                      refine lv_if_ne (tgt := 546) hx hb dX12_goesOn_534 (by decide) (fun c_2216 => ?_) (fun c_2216 => ?_)
                      · have jc_2216 := dk_neqc (k := 0) (by decide +kernel) c_2216
                        have w_2215_1_r := w_2215_1.mp (by omega)
                        clear w_2215_1
                        refine lv_aload_n hx hb dX12_goesOn_546 rfl (lv_at hl 3 rfl) ?_
                        refine dg_get (C := RX12) (T := TX12) (N := 77) hx hb hts (fun w h => bw_mem (wU_X12 w h)) hown K hP sM_0 rfl 8 (by decide) (hts _ (bw_mem wB_1133)) (fun _ h9 => h9) (v := .int y_3) f_y_3 dX12_goesOn_547 ?_
                        refine lv_if_le (tgt := 555) hx hb dX12_goesOn_550 (by decide) (fun _ => ?_) (fun c => absurd (dk_lep (k := 0) (by decide +kernel) (by omega)) c)
                        refine lv_aload_n hx hb dX12_goesOn_555 rfl (lv_at hl 3 rfl) ?_
                        refine lv_iconst (v := 1) hx hb dX12_goesOn_556 (by decide +kernel) ?_
                        have hz_2217 : (1 : Int32).toInt = 1 := by decide +kernel
                        refine dg_callv hS hA1 hA (va_runV (As := [.int 1]) (rest := []) F (c_m_joins l g D o S_2 1 (by decide +kernel) cd ((m_2.1 0 34 _ sM_0 (by decide)).trans f_cd) (by omega) om ((m_2.1 0 45 _ sM_0 (by decide)).trans f_om) (by omega) (by omega) (ZWM.keep ZW m_2 (by decide) (by decide) (by decide) (by decide)) (ZKM.keep ZK m_2 (by decide) (by decide)) (P1M.keep P1 m_2 (by decide) (by decide) (by decide) (by decide) (by decide) (by decide) (by decide) (by decide) (by decide) (by decide) (by decide) (by decide) (by decide) (by decide) (by decide)) I_2 H.size) (cwV 1 hts (bw_V wB_1234 wB_1235 wB_1236 wB_881 wB_1233) rfl rfl rfl (by decide +kernel) ⟨Nat.le_of_ble_eq_true rfl, Nat.le_of_ble_eq_true rfl⟩) (dg_preV sM_0 rfl K ST hP hS hA1 hA) rfl rfl hl.1 rfl (lv_room (Nat.le_of_ble_eq_true rfl)) dX12_goesOn_557 ⟨Nat.le_of_ble_eq_true rfl, Nat.le_of_ble_eq_true rfl⟩) (fun S_2218 hw_2218 H locs hP hS => ?_)
                        obtain ⟨I_2218, m_2218, w_2218_0, w_2218_1, w_2218_2, w_2218_3, -⟩ := hw_2218
                        have M_2218 := dg_sm.tr M_2 m_2218 (by decide) (by decide)
                        have hz_2219 : (1 : Int32).toInt = 1 := by decide +kernel
                        obtain ⟨y_2220, y_2221, f_y_2220, f_y_2221, w_2218_0⟩ := w_2218_0
                        have w_2218_0 : (y_2220).toInt + (y_2221).toInt = (cd).toInt + (om).toInt := w_2218_0
                        have b_y_2220 : 0 ≤ (y_2220).toInt ∧ (y_2220).toInt ≤ 1600 := dg_I.intb (lo := 0) (hi := 1600) I_2218 sM_0 (by decide +kernel) f_y_2220
                        have b_y_2221 : 0 ≤ (y_2221).toInt ∧ (y_2221).toInt ≤ 500 := dg_I.intb (lo := 0) (hi := 500) I_2218 sM_0 (by decide +kernel) f_y_2221
                        have w_2218_1 : TOPM S_2218 (1 : Int32) := w_2218_1
                        obtain ⟨x_2222, f_x_2222, b_x_2222⟩ := dg_I.int (i := 0) (k := 43) (lo := (-2147483648)) (hi := 2147483647) I_2218 sM_0 (by decide +kernel)
                        have hkd := PSM.kind w_2218_3 (((m_2218.1 0 42 _ sM_0 (by decide)).trans (m_2.1 0 42 _ sM_0 (by decide))).trans f_dp) f_x_2222 f_y_2221 (fx := x_5) (by omega) ((congrFun (m_2218.2 22 _ sM_22 (by decide)).1 _).trans ex_7.symm) (rfl : S_2218.2.1 25 (x_5 : Int32).toNatClampNeg = _)
                        unfold dk_fk at hkd
                        have hcl9 := dk_clN x_5
                        refine lv_aload_n hx hb dX12_goesOn_560 rfl (lv_at hl 3 rfl) ?_
                        refine lv_dup hx hb dX12_goesOn_561 rfl ?_
                        refine dg_get (C := RX12) (T := TX12) (N := 77) hx hb hts (fun w h => bw_mem (wU_X12 w h)) hown K hP sM_0 rfl 42 (by decide) (hts _ (bw_mem wB_1203)) (fun _ h9 => h9) (v := .int dp) (((m_2218.1 0 42 _ sM_0 (by decide)).trans (m_2.1 0 42 _ sM_0 (by decide))).trans f_dp) dX12_goesOn_562 ?_
                        refine lv_iconst (v := 1) hx hb dX12_goesOn_565 (by decide +kernel) ?_
                        refine lv_isub hx hb dX12_goesOn_566 ?_
                        refine lv_topi (fun x_2223 ex_2223 => ?_)
                        have jx_2223 : (x_2223).toInt = (dp).toInt - 1 := by rw [ex_2223]; exact dk_subT rfl (by decide +kernel) (by omega) (by omega)
                        refine dg_put (ci := 12) (v := .int x_2223) (ty := tyX12 42) (C := RX12) (T := TX12) (N := 77) hx hb hts (fun w h => bw_mem (wU_X12 w h)) tyX12 tyX12_ok nmX12 hown K hP hS hA1 sM_0 rfl 42 (by decide) (hts _ (bw_mem wB_1203)) (fun _ h9 => h9) rfl (by decide +kernel) rfl rfl dX12_goesOn_567 (fun S_2224 e_2224 H locs hP hS => ?_)
                        have I_2224 := dg_I.uFi (lo := 0) (hi := 20) I_2218 e_2224 sM_0 (by decide +kernel) (show 0 ≤ (x_2223).toInt ∧ (x_2223).toInt ≤ 20 from (by omega))
                        have M_2224 := dg_sm.uF M_2218 e_2224 sM_0 (by decide)
                        refine lv_aload_n hx hb dX12_goesOn_570 rfl (lv_at hl 3 rfl) ?_
                        refine lv_dup hx hb dX12_goesOn_571 rfl ?_
                        refine dg_get (C := RX12) (T := TX12) (N := 77) hx hb hts (fun w h => bw_mem (wU_X12 w h)) hown K hP sM_0 rfl 43 (by decide) (hts _ (bw_mem wB_1212)) (fun _ h9 => h9) (v := .int x_2222) ((dg_uF_ne e_2224 (fun z => absurd z.2 (by decide))).trans f_x_2222) dX12_goesOn_572 ?_
                        refine lv_iconst (v := 1) hx hb dX12_goesOn_575 (by decide +kernel) ?_
                        refine lv_isub hx hb dX12_goesOn_576 ?_
                        refine lv_topi (fun x_2225 ex_2225 => ?_)
                        refine dg_put (ci := 12) (v := .int x_2225) (ty := tyX12 43) (C := RX12) (T := TX12) (N := 77) hx hb hts (fun w h => bw_mem (wU_X12 w h)) tyX12 tyX12_ok nmX12 hown K hP hS hA1 sM_0 rfl 43 (by decide) (hts _ (bw_mem wB_1212)) (fun _ h9 => h9) rfl (by decide +kernel) rfl rfl dX12_goesOn_577 (fun S_2226 e_2226 H locs hP hS => ?_)
                        have I_2226 := dg_I.uFi (lo := (-2147483648)) (hi := 2147483647) I_2224 e_2226 sM_0 (by decide +kernel) (show (-2147483648) ≤ (x_2225).toInt ∧ (x_2225).toInt ≤ 2147483647 from (dk_full _))
                        have M_2226 := dg_sm.uF M_2224 e_2226 sM_0 (by decide)
                        refine lv_iload_n hx hb dX12_goesOn_580 rfl (lv_at hl 1 rfl) ?_
                        refine lv_iconst (v := 4) hx hb dX12_goesOn_581 (by decide +kernel) ?_
                        refine lv_icmp_ne (tgt := 596) hx hb dX12_goesOn_582 (by decide) (fun c_2227 => ?_) (fun c_2227 => ?_)
                        · have jc_2227 := dk_neqc (k := 4) (by decide +kernel) c_2227
                          obtain ⟨x_2228, f_x_2228, b_x_2228⟩ := dg_I.int (i := 0) (k := 42) (lo := 0) (hi := 20) I_2218 sM_0 (by decide +kernel)
                          obtain ⟨x_2229, f_x_2229, b_x_2229⟩ := dg_I.int (i := 0) (k := 43) (lo := (-2147483648)) (hi := 2147483647) I_2218 sM_0 (by decide +kernel)
                          have P1_2226 : P1M S_2226 := P1M.close2 w_2218_3 f_x_2228 f_x_2229 f_y_2221 w_2218_1 (by omega) (fx := x_5) (by omega) ((congrFun (m_2218.2 22 _ sM_22 (by decide)).1 _).trans ex_7.symm) (by omega) e_2224 (by omega) e_2226 (by omega)
                          refine lv_iload_n hx hb dX12_goesOn_596 rfl (lv_at hl 1 rfl) ?_
                          refine lv_iconst (v := 5) hx hb dX12_goesOn_597 (by decide +kernel) ?_
                          refine lv_icmp_ne (tgt := 613) hx hb dX12_goesOn_598 (by decide) (fun c_2230 => ?_) (fun c_2230 => ?_)
                          · have jc_2230 := dk_neqc (k := 5) (by decide +kernel) c_2230
                            refine lv_aload_n hx hb dX12_goesOn_613 rfl (lv_at hl 3 rfl) ?_
                            refine dg_callv hS hA1 hA (va_runV (As := []) (rest := []) F (c_m_ahead l g D o S_2226 se (((dg_uF_ne e_2226 (fun z => absurd z.2 (by decide))).trans ((dg_uF_ne e_2224 (fun z => absurd z.2 (by decide))).trans ((m_2218.1 0 5 _ sM_0 (by decide)).trans (m_2.1 0 5 _ sM_0 (by decide))))).trans f_se) (by omega) sl (((dg_uF_ne e_2226 (fun z => absurd z.2 (by decide))).trans ((dg_uF_ne e_2224 (fun z => absurd z.2 (by decide))).trans ((m_2218.1 0 2 _ sM_0 (by decide)).trans (m_2.1 0 2 _ sM_0 (by decide))))).trans f_sl) (by omega) (by omega) I_2226 H.size) (cwV 0 hts (bw_V wB_1161 wB_1162 wB_1163 wB_881 wB_1160) rfl rfl rfl (by decide +kernel) ⟨Nat.le_of_ble_eq_true rfl, Nat.le_of_ble_eq_true rfl⟩) (dg_preV sM_0 rfl K ST hP hS hA1 hA) rfl rfl hl.1 rfl (lv_room (Nat.le_of_ble_eq_true rfl)) dX12_goesOn_614 ⟨Nat.le_of_ble_eq_true rfl, Nat.le_of_ble_eq_true rfl⟩) (fun S_2231 hw_2231 H locs hP hS => ?_)
                            obtain ⟨I_2231, m_2231, w_2231_0, -⟩ := hw_2231
                            have M_2231 := dg_sm.tr M_2226 m_2231 (by decide) (by decide)
                            obtain ⟨y_2232, y_2233, y_2234, f_y_2232, f_y_2233, f_y_2234, w_2231_0⟩ := w_2231_0
                            have w_2231_0 : (se).toInt ≤ (y_2233).toInt ∧ (y_2233).toInt ≤ (y_2234).toInt ∧ (y_2234).toInt ≤ (sl).toInt ∧ ((y_2232).toInt ≠ 0 → (y_2233).toInt + 1 ≤ (y_2234).toInt) := w_2231_0
                            obtain ⟨w_2231_0_0, w_2231_0_1, w_2231_0_2, w_2231_0_3⟩ := w_2231_0
                            have b_y_2232 : 0 ≤ (y_2232).toInt ∧ (y_2232).toInt ≤ 3 := dg_I.intb (lo := 0) (hi := 3) I_2231 sM_0 (by decide +kernel) f_y_2232
                            have b_y_2233 : 0 ≤ (y_2233).toInt ∧ (y_2233).toInt ≤ 1600 := dg_I.intb (lo := 0) (hi := 1600) I_2231 sM_0 (by decide +kernel) f_y_2233
                            have b_y_2234 : 0 ≤ (y_2234).toInt ∧ (y_2234).toInt ≤ 1600 := dg_I.intb (lo := 0) (hi := 1600) I_2231 sM_0 (by decide +kernel) f_y_2234
                            refine lv_iconst (v := 1) hx hb dX12_goesOn_617 (by decide +kernel) ?_
                            have hz_2235 : (1 : Int32).toInt = 1 := by decide +kernel
                            have hz_2236 : (1 : Int32).toInt = 1 := by decide +kernel
                            obtain ⟨x_2237, f_x_2237, b_x_2237⟩ := dg_I.int (i := 0) (k := 42) (lo := 0) (hi := 20) I_2231 sM_0 (by decide +kernel)
                            have hz_2238 : (1 : Int32).toInt = 1 := by decide +kernel
                            refine W.widen (k := 0) (n := 0) (Nat.le_of_ble_eq_true rfl) (Nat.le_of_ble_eq_true rfl) ?_
                            exact dg_iret hx hb hr hlocks (by decide +kernel) hP hS ⟨I_2231, M_2231, (by decide +kernel), ⟨y_2232, y_2233, y_2234, y_3, y_2220, x_2237, y_2221, oo, f_y_2232, f_y_2233, f_y_2234, (((m_2231.1 0 8 _ sM_0 (by decide)).trans ((dg_uF_ne e_2226 (fun z => absurd z.2 (by decide))).trans ((dg_uF_ne e_2224 (fun z => absurd z.2 (by decide))).trans (m_2218.1 0 8 _ sM_0 (by decide))))).trans f_y_3), (((m_2231.1 0 34 _ sM_0 (by decide)).trans ((dg_uF_ne e_2226 (fun z => absurd z.2 (by decide))).trans (dg_uF_ne e_2224 (fun z => absurd z.2 (by decide))))).trans f_y_2220), f_x_2237, (((m_2231.1 0 45 _ sM_0 (by decide)).trans ((dg_uF_ne e_2226 (fun z => absurd z.2 (by decide))).trans (dg_uF_ne e_2224 (fun z => absurd z.2 (by decide))))).trans f_y_2221), (((m_2231.1 0 46 _ sM_0 (by decide)).trans ((dg_uF_ne e_2226 (fun z => absurd z.2 (by decide))).trans ((dg_uF_ne e_2224 (fun z => absurd z.2 (by decide))).trans ((m_2218.1 0 46 _ sM_0 (by decide)).trans (m_2.1 0 46 _ sM_0 (by decide)))))).trans f_oo), (by omega)⟩, (fun k9 hk9 hk0 => POM.mk1 (P1M.keep P1_2226 m_2231 (by decide) (by decide) (by decide) (by decide) (by decide) (by decide) (by decide) (by decide) (by decide) (by decide) (by decide) (by decide) (by decide) (by decide) (by decide)) (((m_2231.1 0 46 _ sM_0 (by decide)).trans ((dg_uF_ne e_2226 (fun z => absurd z.2 (by decide))).trans ((dg_uF_ne e_2224 (fun z => absurd z.2 (by decide))).trans ((m_2218.1 0 46 _ sM_0 (by decide)).trans (m_2.1 0 46 _ sM_0 (by decide)))))).trans f_oo) (by omega)), (ZWM.keep (ZWM.keep (ZWM.keep w_2218_2 (dg_sm.uF (WF := [(0, 42)]) (WA := []) dg_sm.rf e_2224 sM_0 (by decide)) (by decide) (by decide) (by decide) (by decide)) (dg_sm.uF (WF := [(0, 43)]) (WA := []) dg_sm.rf e_2226 sM_0 (by decide)) (by decide) (by decide) (by decide) (by decide)) m_2231 (by decide) (by decide) (by decide) (by decide)), trivial⟩ dX12_goesOn_618
                          · have jc_2230 := dk_eqc (k := 5) (by decide +kernel) c_2230
                            refine lv_aload_n hx hb dX12_goesOn_601 rfl (lv_at hl 3 rfl) ?_
                            refine dg_get (C := RX12) (T := TX12) (N := 77) hx hb hts (fun w h => bw_mem (wU_X12 w h)) hown K hP sM_0 rfl 38 (by decide) (hts _ (bw_mem wB_1214)) (fun _ h9 => h9) (v := .ref (o + 23)) (show S_2226.1 0 38 = .ref (o + 23) from dg_I.rel (d := 23) I_2226 sM_0 (by decide +kernel)) dX12_goesOn_602 ?_
                            refine lv_aload_n hx hb dX12_goesOn_605 rfl (lv_at hl 3 rfl) ?_
                            obtain ⟨x_2239, f_x_2239, b_x_2239⟩ := dg_I.int (i := 0) (k := 42) (lo := 0) (hi := 20) I_2226 sM_0 (by decide +kernel)
                            refine dg_get (C := RX12) (T := TX12) (N := 77) hx hb hts (fun w h => bw_mem (wU_X12 w h)) hown K hP sM_0 rfl 42 (by decide) (hts _ (bw_mem wB_1203)) (fun _ h9 => h9) (v := .int x_2239) f_x_2239 dX12_goesOn_606 ?_
                            refine lv_iconst (v := 1) hx hb dX12_goesOn_609 (by decide +kernel) ?_
                            refine lv_isub hx hb dX12_goesOn_610 ?_
                            refine lv_topi (fun x_2240 ex_2240 => ?_)
                            have jx_2240 : (x_2240).toInt = (x_2239).toInt - 1 := by rw [ex_2240]; exact dk_subT rfl (by decide +kernel) (by omega) (by omega)
                            refine lv_iconst (v := 2) hx hb dX12_goesOn_611 (by decide +kernel) ?_
                            have hin_2241 : vp_in x_2240 20 := (dk_inv (by omega) (by omega))
                            have hz_2243 : (2 : Int32).toInt = 2 := by decide +kernel
                            refine dg_iast hx hb K hP hS hA1 sM_23 hin_2241 dX12_goesOn_612 (fun S_2242 e_2242 H locs hP hS => ?_)
                            have I_2242 := dg_I.ufu (lo := 0) (hi := 2) I_2226 e_2242 sM_23 (by decide +kernel) (show 0 ≤ ((2 : Int32)).toInt ∧ ((2 : Int32)).toInt ≤ 2 from (by decide +kernel))
                            have M_2242 := dg_sm.uf M_2226 e_2242 sM_23 (by decide)
                            have hz_2244 : (2 : Int32).toInt = 2 := by decide +kernel
                            have P1_2242 : P1M S_2242 := P1M.close5 P1_2226 f_x_2239 (by omega) (by omega) (by omega) e_2242
                            refine lv_aload_n hx hb dX12_goesOn_613 rfl (lv_at hl 3 rfl) ?_
                            refine dg_callv hS hA1 hA (va_runV (As := []) (rest := []) F (c_m_ahead l g D o S_2242 se (((dg_uf_F e_2242 0 5).trans ((dg_uF_ne e_2226 (fun z => absurd z.2 (by decide))).trans ((dg_uF_ne e_2224 (fun z => absurd z.2 (by decide))).trans ((m_2218.1 0 5 _ sM_0 (by decide)).trans (m_2.1 0 5 _ sM_0 (by decide)))))).trans f_se) (by omega) sl (((dg_uf_F e_2242 0 2).trans ((dg_uF_ne e_2226 (fun z => absurd z.2 (by decide))).trans ((dg_uF_ne e_2224 (fun z => absurd z.2 (by decide))).trans ((m_2218.1 0 2 _ sM_0 (by decide)).trans (m_2.1 0 2 _ sM_0 (by decide)))))).trans f_sl) (by omega) (by omega) I_2242 H.size) (cwV 0 hts (bw_V wB_1161 wB_1162 wB_1163 wB_881 wB_1160) rfl rfl rfl (by decide +kernel) ⟨Nat.le_of_ble_eq_true rfl, Nat.le_of_ble_eq_true rfl⟩) (dg_preV sM_0 rfl K ST hP hS hA1 hA) rfl rfl hl.1 rfl (lv_room (Nat.le_of_ble_eq_true rfl)) dX12_goesOn_614 ⟨Nat.le_of_ble_eq_true rfl, Nat.le_of_ble_eq_true rfl⟩) (fun S_2245 hw_2245 H locs hP hS => ?_)
                            obtain ⟨I_2245, m_2245, w_2245_0, -⟩ := hw_2245
                            have M_2245 := dg_sm.tr M_2242 m_2245 (by decide) (by decide)
                            obtain ⟨y_2246, y_2247, y_2248, f_y_2246, f_y_2247, f_y_2248, w_2245_0⟩ := w_2245_0
                            have w_2245_0 : (se).toInt ≤ (y_2247).toInt ∧ (y_2247).toInt ≤ (y_2248).toInt ∧ (y_2248).toInt ≤ (sl).toInt ∧ ((y_2246).toInt ≠ 0 → (y_2247).toInt + 1 ≤ (y_2248).toInt) := w_2245_0
                            obtain ⟨w_2245_0_0, w_2245_0_1, w_2245_0_2, w_2245_0_3⟩ := w_2245_0
                            have b_y_2246 : 0 ≤ (y_2246).toInt ∧ (y_2246).toInt ≤ 3 := dg_I.intb (lo := 0) (hi := 3) I_2245 sM_0 (by decide +kernel) f_y_2246
                            have b_y_2247 : 0 ≤ (y_2247).toInt ∧ (y_2247).toInt ≤ 1600 := dg_I.intb (lo := 0) (hi := 1600) I_2245 sM_0 (by decide +kernel) f_y_2247
                            have b_y_2248 : 0 ≤ (y_2248).toInt ∧ (y_2248).toInt ≤ 1600 := dg_I.intb (lo := 0) (hi := 1600) I_2245 sM_0 (by decide +kernel) f_y_2248
                            refine lv_iconst (v := 1) hx hb dX12_goesOn_617 (by decide +kernel) ?_
                            have hz_2249 : (1 : Int32).toInt = 1 := by decide +kernel
                            have hz_2250 : (1 : Int32).toInt = 1 := by decide +kernel
                            have hz_2251 : (1 : Int32).toInt = 1 := by decide +kernel
                            refine W.widen (k := 0) (n := 0) (Nat.le_of_ble_eq_true rfl) (Nat.le_of_ble_eq_true rfl) ?_
                            exact dg_iret hx hb hr hlocks (by decide +kernel) hP hS ⟨I_2245, M_2245, (by decide +kernel), ⟨y_2246, y_2247, y_2248, y_3, y_2220, x_2239, y_2221, oo, f_y_2246, f_y_2247, f_y_2248, (((m_2245.1 0 8 _ sM_0 (by decide)).trans ((dg_uf_F e_2242 0 8).trans ((dg_uF_ne e_2226 (fun z => absurd z.2 (by decide))).trans ((dg_uF_ne e_2224 (fun z => absurd z.2 (by decide))).trans (m_2218.1 0 8 _ sM_0 (by decide)))))).trans f_y_3), (((m_2245.1 0 34 _ sM_0 (by decide)).trans ((dg_uf_F e_2242 0 34).trans ((dg_uF_ne e_2226 (fun z => absurd z.2 (by decide))).trans (dg_uF_ne e_2224 (fun z => absurd z.2 (by decide)))))).trans f_y_2220), (((m_2245.1 0 42 _ sM_0 (by decide)).trans (dg_uf_F e_2242 0 42)).trans f_x_2239), (((m_2245.1 0 45 _ sM_0 (by decide)).trans ((dg_uf_F e_2242 0 45).trans ((dg_uF_ne e_2226 (fun z => absurd z.2 (by decide))).trans (dg_uF_ne e_2224 (fun z => absurd z.2 (by decide)))))).trans f_y_2221), (((m_2245.1 0 46 _ sM_0 (by decide)).trans ((dg_uf_F e_2242 0 46).trans ((dg_uF_ne e_2226 (fun z => absurd z.2 (by decide))).trans ((dg_uF_ne e_2224 (fun z => absurd z.2 (by decide))).trans ((m_2218.1 0 46 _ sM_0 (by decide)).trans (m_2.1 0 46 _ sM_0 (by decide))))))).trans f_oo), (by omega)⟩, (fun k9 hk9 hk0 => POM.mk1 (P1M.keep P1_2242 m_2245 (by decide) (by decide) (by decide) (by decide) (by decide) (by decide) (by decide) (by decide) (by decide) (by decide) (by decide) (by decide) (by decide) (by decide) (by decide)) (((m_2245.1 0 46 _ sM_0 (by decide)).trans ((dg_uf_F e_2242 0 46).trans ((dg_uF_ne e_2226 (fun z => absurd z.2 (by decide))).trans ((dg_uF_ne e_2224 (fun z => absurd z.2 (by decide))).trans ((m_2218.1 0 46 _ sM_0 (by decide)).trans (m_2.1 0 46 _ sM_0 (by decide))))))).trans f_oo) (by omega)), (ZWM.keep (ZWM.keep (ZWM.keep (ZWM.keep w_2218_2 (dg_sm.uF (WF := [(0, 42)]) (WA := []) dg_sm.rf e_2224 sM_0 (by decide)) (by decide) (by decide) (by decide) (by decide)) (dg_sm.uF (WF := [(0, 43)]) (WA := []) dg_sm.rf e_2226 sM_0 (by decide)) (by decide) (by decide) (by decide) (by decide)) (dg_sm.uf (WF := []) (WA := [23]) dg_sm.rf e_2242 sM_23 (by decide)) (by decide) (by decide) (by decide) (by decide)) m_2245 (by decide) (by decide) (by decide) (by decide)), trivial⟩ dX12_goesOn_618
                        · have jc_2227 := dk_eqc (k := 4) (by decide +kernel) c_2227
                          refine lv_aload_n hx hb dX12_goesOn_585 rfl (lv_at hl 3 rfl) ?_
                          refine lv_aload_n hx hb dX12_goesOn_586 rfl (lv_at hl 3 rfl) ?_
                          refine dg_get (C := RX12) (T := TX12) (N := 77) hx hb hts (fun w h => bw_mem (wU_X12 w h)) hown K hP sM_0 rfl 40 (by decide) (hts _ (bw_mem wB_1232)) (fun _ h9 => h9) (v := .ref (o + 25)) (show S_2226.1 0 40 = .ref (o + 25) from dg_I.rel (d := 25) I_2226 sM_0 (by decide +kernel)) dX12_goesOn_587 ?_
                          refine lv_iload_n hx hb dX12_goesOn_590 rfl (lv_at hl 2 rfl) ?_
                          have hin_2252 : vp_in x_5 20 := (dk_inv (by omega) (by omega))
                          refine dg_iald hx hb K hP sM_25 hin_2252 dX12_goesOn_591 (fun x_2253 ex_2253 => ?_)
                          have hp25_x_2253 : S_2218.2.1 25 (x_5 : Int32).toNatClampNeg = x_2253 := by rw [ex_2253, (((dg_uF_f e_2226 25).trans (dg_uF_f e_2224 25)))]
                          rw [hp25_x_2253] at hkd
                          refine lv_iconst (v := 0) hx hb dX12_goesOn_592 (by decide +kernel) ?_
                          refine dg_callv hS hA1 hA (va_runV (As := [.int x_2253, .int 0]) (rest := []) F (c_m_add l g D o S_2226 x_2253 (by omega) 0 y_2220 (((dg_uF_ne e_2226 (fun z => absurd z.2 (by decide))).trans (dg_uF_ne e_2224 (fun z => absurd z.2 (by decide)))).trans f_y_2220) (by omega) (ZWM.keep (ZWM.keep w_2218_2 (dg_sm.uF (WF := [(0, 42)]) (WA := []) dg_sm.rf e_2224 sM_0 (by decide)) (by decide) (by decide) (by decide) (by decide)) (dg_sm.uF (WF := [(0, 43)]) (WA := []) dg_sm.rf e_2226 sM_0 (by decide)) (by decide) (by decide) (by decide) (by decide)) (ZKM.keep (ZKM.keep (ZKM.keep (ZKM.keep ZK m_2 (by decide) (by decide)) m_2218 (by decide) (by decide)) (dg_sm.uF (WF := [(0, 42)]) (WA := []) dg_sm.rf e_2224 sM_0 (by decide)) (by decide) (by decide)) (dg_sm.uF (WF := [(0, 43)]) (WA := []) dg_sm.rf e_2226 sM_0 (by decide)) (by decide) (by decide)) I_2226 H.size) (cwV 2 hts (bw_V wB_1209 wB_1210 wB_1211 wB_881 wB_1208) rfl rfl rfl (by decide +kernel) ⟨Nat.le_of_ble_eq_true rfl, Nat.le_of_ble_eq_true rfl⟩) (dg_preV sM_0 rfl K ST hP hS hA1 hA) rfl rfl hl.1 rfl (lv_room (Nat.le_of_ble_eq_true rfl)) dX12_goesOn_593 ⟨Nat.le_of_ble_eq_true rfl, Nat.le_of_ble_eq_true rfl⟩) (fun S_2254 hw_2254 H locs hP hS => ?_)
                          obtain ⟨I_2254, m_2254, w_2254_0, w_2254_1, w_2254_2, -⟩ := hw_2254
                          have M_2254 := dg_sm.tr M_2226 m_2254 (by decide) (by decide)
                          have hz_2255 : (0 : Int32).toInt = 0 := by decide +kernel
                          obtain ⟨y_2256, f_y_2256, w_2254_0⟩ := w_2254_0
                          have w_2254_0 : (y_2256).toInt = (y_2220).toInt + 1 := w_2254_0
                          have b_y_2256 : 0 ≤ (y_2256).toInt ∧ (y_2256).toInt ≤ 1600 := dg_I.intb (lo := 0) (hi := 1600) I_2254 sM_0 (by decide +kernel) f_y_2256
                          have w_2254_1 : ADM S_2226 S_2254 x_2253 := w_2254_1
                          obtain ⟨x_2257, f_x_2257, b_x_2257⟩ := dg_I.int (i := 0) (k := 42) (lo := 0) (hi := 20) I_2218 sM_0 (by decide +kernel)
                          obtain ⟨x_2258, f_x_2258, b_x_2258⟩ := dg_I.int (i := 0) (k := 43) (lo := (-2147483648)) (hi := 2147483647) I_2218 sM_0 (by decide +kernel)
                          have P1_2254 : P1M S_2254 := P1M.close4 w_2218_3 f_x_2257 f_x_2258 f_y_2221 w_2218_1 (by omega) (fx := x_5) (by omega) ((congrFun (m_2218.2 22 _ sM_22 (by decide)).1 _).trans ex_7.symm) (by omega) e_2224 (by omega) e_2226 (by omega) hp25_x_2253 m_2254 w_2254_1
                          refine lv_iload_n hx hb dX12_goesOn_596 rfl (lv_at hl 1 rfl) ?_
                          refine lv_iconst (v := 5) hx hb dX12_goesOn_597 (by decide +kernel) ?_
                          refine lv_icmp_ne (tgt := 613) hx hb dX12_goesOn_598 (by decide) (fun _ => ?_) (fun c => absurd c (fun z => absurd (dk_eqc (k := 5) (by decide +kernel) z) (by omega)))
                          refine lv_aload_n hx hb dX12_goesOn_613 rfl (lv_at hl 3 rfl) ?_
                          refine dg_callv hS hA1 hA (va_runV (As := []) (rest := []) F (c_m_ahead l g D o S_2254 se (((m_2254.1 0 5 _ sM_0 (by decide)).trans ((dg_uF_ne e_2226 (fun z => absurd z.2 (by decide))).trans ((dg_uF_ne e_2224 (fun z => absurd z.2 (by decide))).trans ((m_2218.1 0 5 _ sM_0 (by decide)).trans (m_2.1 0 5 _ sM_0 (by decide)))))).trans f_se) (by omega) sl (((m_2254.1 0 2 _ sM_0 (by decide)).trans ((dg_uF_ne e_2226 (fun z => absurd z.2 (by decide))).trans ((dg_uF_ne e_2224 (fun z => absurd z.2 (by decide))).trans ((m_2218.1 0 2 _ sM_0 (by decide)).trans (m_2.1 0 2 _ sM_0 (by decide)))))).trans f_sl) (by omega) (by omega) I_2254 H.size) (cwV 0 hts (bw_V wB_1161 wB_1162 wB_1163 wB_881 wB_1160) rfl rfl rfl (by decide +kernel) ⟨Nat.le_of_ble_eq_true rfl, Nat.le_of_ble_eq_true rfl⟩) (dg_preV sM_0 rfl K ST hP hS hA1 hA) rfl rfl hl.1 rfl (lv_room (Nat.le_of_ble_eq_true rfl)) dX12_goesOn_614 ⟨Nat.le_of_ble_eq_true rfl, Nat.le_of_ble_eq_true rfl⟩) (fun S_2259 hw_2259 H locs hP hS => ?_)
                          obtain ⟨I_2259, m_2259, w_2259_0, -⟩ := hw_2259
                          have M_2259 := dg_sm.tr M_2254 m_2259 (by decide) (by decide)
                          obtain ⟨y_2260, y_2261, y_2262, f_y_2260, f_y_2261, f_y_2262, w_2259_0⟩ := w_2259_0
                          have w_2259_0 : (se).toInt ≤ (y_2261).toInt ∧ (y_2261).toInt ≤ (y_2262).toInt ∧ (y_2262).toInt ≤ (sl).toInt ∧ ((y_2260).toInt ≠ 0 → (y_2261).toInt + 1 ≤ (y_2262).toInt) := w_2259_0
                          obtain ⟨w_2259_0_0, w_2259_0_1, w_2259_0_2, w_2259_0_3⟩ := w_2259_0
                          have b_y_2260 : 0 ≤ (y_2260).toInt ∧ (y_2260).toInt ≤ 3 := dg_I.intb (lo := 0) (hi := 3) I_2259 sM_0 (by decide +kernel) f_y_2260
                          have b_y_2261 : 0 ≤ (y_2261).toInt ∧ (y_2261).toInt ≤ 1600 := dg_I.intb (lo := 0) (hi := 1600) I_2259 sM_0 (by decide +kernel) f_y_2261
                          have b_y_2262 : 0 ≤ (y_2262).toInt ∧ (y_2262).toInt ≤ 1600 := dg_I.intb (lo := 0) (hi := 1600) I_2259 sM_0 (by decide +kernel) f_y_2262
                          refine lv_iconst (v := 1) hx hb dX12_goesOn_617 (by decide +kernel) ?_
                          have hz_2263 : (1 : Int32).toInt = 1 := by decide +kernel
                          have hz_2264 : (1 : Int32).toInt = 1 := by decide +kernel
                          obtain ⟨x_2265, f_x_2265, b_x_2265⟩ := dg_I.int (i := 0) (k := 42) (lo := 0) (hi := 20) I_2259 sM_0 (by decide +kernel)
                          have hz_2266 : (1 : Int32).toInt = 1 := by decide +kernel
                          refine W.widen (k := 0) (n := 0) (Nat.le_of_ble_eq_true rfl) (Nat.le_of_ble_eq_true rfl) ?_
                          exact dg_iret hx hb hr hlocks (by decide +kernel) hP hS ⟨I_2259, M_2259, (by decide +kernel), ⟨y_2260, y_2261, y_2262, y_3, y_2256, x_2265, y_2221, oo, f_y_2260, f_y_2261, f_y_2262, (((m_2259.1 0 8 _ sM_0 (by decide)).trans ((m_2254.1 0 8 _ sM_0 (by decide)).trans ((dg_uF_ne e_2226 (fun z => absurd z.2 (by decide))).trans ((dg_uF_ne e_2224 (fun z => absurd z.2 (by decide))).trans (m_2218.1 0 8 _ sM_0 (by decide)))))).trans f_y_3), ((m_2259.1 0 34 _ sM_0 (by decide)).trans f_y_2256), f_x_2265, (((m_2259.1 0 45 _ sM_0 (by decide)).trans ((m_2254.1 0 45 _ sM_0 (by decide)).trans ((dg_uF_ne e_2226 (fun z => absurd z.2 (by decide))).trans (dg_uF_ne e_2224 (fun z => absurd z.2 (by decide)))))).trans f_y_2221), (((m_2259.1 0 46 _ sM_0 (by decide)).trans ((m_2254.1 0 46 _ sM_0 (by decide)).trans ((dg_uF_ne e_2226 (fun z => absurd z.2 (by decide))).trans ((dg_uF_ne e_2224 (fun z => absurd z.2 (by decide))).trans ((m_2218.1 0 46 _ sM_0 (by decide)).trans (m_2.1 0 46 _ sM_0 (by decide))))))).trans f_oo), (by omega)⟩, (fun k9 hk9 hk0 => POM.mk1 (P1M.keep P1_2254 m_2259 (by decide) (by decide) (by decide) (by decide) (by decide) (by decide) (by decide) (by decide) (by decide) (by decide) (by decide) (by decide) (by decide) (by decide) (by decide)) (((m_2259.1 0 46 _ sM_0 (by decide)).trans ((m_2254.1 0 46 _ sM_0 (by decide)).trans ((dg_uF_ne e_2226 (fun z => absurd z.2 (by decide))).trans ((dg_uF_ne e_2224 (fun z => absurd z.2 (by decide))).trans ((m_2218.1 0 46 _ sM_0 (by decide)).trans (m_2.1 0 46 _ sM_0 (by decide))))))).trans f_oo) (by omega)), (ZWM.keep w_2254_2 m_2259 (by decide) (by decide) (by decide) (by decide)), trivial⟩ dX12_goesOn_618
                      · have jc_2216 := dk_eqc (k := 0) (by decide +kernel) c_2216
                        clear w_2215_1
                        refine lv_aload_n hx hb dX12_goesOn_537 rfl (lv_at hl 3 rfl) ?_
                        refine lv_iconst (v := 1) hx hb dX12_goesOn_538 (by decide +kernel) ?_
                        refine lv_aload_n hx hb dX12_goesOn_539 rfl (lv_at hl 3 rfl) ?_
                        refine dg_get (C := RX12) (T := TX12) (N := 77) hx hb hts (fun w h => bw_mem (wU_X12 w h)) hown K hP sM_0 rfl 4 (by decide) (hts _ (bw_mem wB_1145)) (fun _ h9 => h9) (v := .int sa) ((m_2.1 0 4 _ sM_0 (by decide)).trans f_sa) dX12_goesOn_540 ?_
                        have hz_2267 : (1 : Int32).toInt = 1 := by decide +kernel
                        refine dg_callv hS hA1 hA (va_runV (As := [.int 1, .int sa]) (rest := []) F (c_m_blame l g D o S_2 1 (by decide +kernel) sa y_3 f_y_3 (by omega) I_2 H.size) (cwV 2 hts (bw_V wB_1137 wB_1138 wB_1139 wB_881 wB_1136) rfl rfl rfl (by decide +kernel) ⟨Nat.le_of_ble_eq_true rfl, Nat.le_of_ble_eq_true rfl⟩) (dg_preV sM_0 rfl K ST hP hS hA1 hA) rfl rfl hl.1 rfl (lv_room (Nat.le_of_ble_eq_true rfl)) dX12_goesOn_543 ⟨Nat.le_of_ble_eq_true rfl, Nat.le_of_ble_eq_true rfl⟩) (fun S_2268 hw_2268 H locs hP hS => ?_)
                        obtain ⟨I_2268, m_2268, w_2268_0, -⟩ := hw_2268
                        have M_2268 := dg_sm.tr M_2 m_2268 (by decide) (by decide)
                        have hz_2269 : (1 : Int32).toInt = 1 := by decide +kernel
                        obtain ⟨y_2270, f_y_2270, w_2268_0⟩ := w_2268_0
                        have w_2268_0 : ((y_3).toInt ≠ 0 → (y_2270).toInt = (y_3).toInt) ∧ ((y_3).toInt = 0 → (y_2270).toInt = ((1 : Int32)).toInt) := w_2268_0
                        obtain ⟨w_2268_0_0, w_2268_0_1⟩ := w_2268_0
                        clear w_2268_0_0
                        have w_2268_0_1r := w_2268_0_1 (by omega)
                        clear w_2268_0_1
                        have b_y_2270 : 0 ≤ (y_2270).toInt ∧ (y_2270).toInt ≤ 6 := dg_I.intb (lo := 0) (hi := 6) I_2268 sM_0 (by decide +kernel) f_y_2270
                        have hbl_y_2270 : 1 ≤ (y_2270).toInt := by omega
                        refine lv_aload_n hx hb dX12_goesOn_546 rfl (lv_at hl 3 rfl) ?_
                        refine dg_get (C := RX12) (T := TX12) (N := 77) hx hb hts (fun w h => bw_mem (wU_X12 w h)) hown K hP sM_0 rfl 8 (by decide) (hts _ (bw_mem wB_1133)) (fun _ h9 => h9) (v := .int y_2270) f_y_2270 dX12_goesOn_547 ?_
                        refine lv_if_le (tgt := 555) hx hb dX12_goesOn_550 (by decide) (fun c => absurd c (fun z => absurd (dk_lec (k := 0) (by decide +kernel) z) (by omega))) (fun _ => ?_)
                        refine lv_iconst (v := 0) hx hb dX12_goesOn_553 (by decide +kernel) ?_
                        have hz_2271 : (0 : Int32).toInt = 0 := by decide +kernel
                        have hz_2272 : (0 : Int32).toInt = 0 := by decide +kernel
                        have hz_2273 : (0 : Int32).toInt = 0 := by decide +kernel
                        refine W.widen (k := 0) (n := 0) (Nat.le_of_ble_eq_true rfl) (Nat.le_of_ble_eq_true rfl) ?_
                        exact dg_iret hx hb hr hlocks (by decide +kernel) hP hS ⟨I_2268, M_2268, (by decide +kernel), ⟨sg, sa, se, y_2270, cd, dp, om, oo, (((m_2268.1 0 3 _ sM_0 (by decide)).trans (m_2.1 0 3 _ sM_0 (by decide))).trans f_sg), (((m_2268.1 0 4 _ sM_0 (by decide)).trans (m_2.1 0 4 _ sM_0 (by decide))).trans f_sa), (((m_2268.1 0 5 _ sM_0 (by decide)).trans (m_2.1 0 5 _ sM_0 (by decide))).trans f_se), f_y_2270, (((m_2268.1 0 34 _ sM_0 (by decide)).trans (m_2.1 0 34 _ sM_0 (by decide))).trans f_cd), (((m_2268.1 0 42 _ sM_0 (by decide)).trans (m_2.1 0 42 _ sM_0 (by decide))).trans f_dp), (((m_2268.1 0 45 _ sM_0 (by decide)).trans (m_2.1 0 45 _ sM_0 (by decide))).trans f_om), (((m_2268.1 0 46 _ sM_0 (by decide)).trans (m_2.1 0 46 _ sM_0 (by decide))).trans f_oo), (by omega)⟩, (fun k9 hk9 hk0 => by have q9 := (f_y_2270).symm.trans hk9; cases q9; omega), (ZWM.keep (ZWM.keep ZW m_2 (by decide) (by decide) (by decide) (by decide)) m_2268 (by decide) (by decide) (by decide) (by decide)), trivial⟩ dX12_goesOn_554
                    refine lv_icmp_ne (tgt := 529) hx hb dX12_goesOn_521 (by decide) (fun c_2274 => ?_) (fun c_2274 => ?_)
                    · have jc_2274 := dk_neqc (k := 5) (by decide +kernel) c_2274
                      refine lv_bipush (v := 41) hx hb dX12_goesOn_529 (by decide +kernel) ?_
                      have hz_2275 : (41 : Int32).toInt = 41 := by decide +kernel
                      exact J_2213 41 (by decide +kernel) _ _ hP hS _ (lv_sub hl [0, 1, 2, 3] rfl)
                    · have jc_2274 := dk_eqc (k := 5) (by decide +kernel) c_2274
                      refine lv_bipush (v := 93) hx hb dX12_goesOn_524 (by decide +kernel) ?_
                      refine lv_goto (tgt := 531) hx hb dX12_goesOn_526 (by decide) ?_
                      have hz_2276 : (93 : Int32).toInt = 93 := by decide +kernel
                      exact J_2213 93 (by decide +kernel) _ _ hP hS _ (lv_sub hl [0, 1, 2, 3] rfl)
                  · have jc_2150 := dk_eqc (k := 6) (by decide +kernel) c_2150
                    exact J_2087 ()  (by omega) _ _ hP hS _ (lv_sub hl [0, 1, 2, 3] rfl)
              · have jc_1961 := dk_ngec (k := 2) (by decide +kernel) c_1961
                refine lv_aload_n hx hb dX12_goesOn_427 rfl (lv_at hl 3 rfl) ?_
                refine dg_get (C := RX12) (T := TX12) (N := 77) hx hb hts (fun w h => bw_mem (wU_X12 w h)) hown K hP sM_0 rfl 8 (by decide) (hts _ (bw_mem wB_1133)) (fun _ h9 => h9) (v := .int y_3) f_y_3 dX12_goesOn_428 ?_
                refine lv_if_ne (tgt := 439) hx hb dX12_goesOn_431 (by decide) (fun c => absurd (dk_eqp (k := 0) (by decide +kernel) (by omega)) c) (fun _ => ?_)
                refine lv_aload_n hx hb dX12_goesOn_434 rfl (lv_at hl 3 rfl) ?_
                refine lv_iconst (v := 1) hx hb dX12_goesOn_435 (by decide +kernel) ?_
                have hz_2277 : (1 : Int32).toInt = 1 := by decide +kernel
                refine dg_callv hS hA1 hA (va_runV (As := [.int 1]) (rest := []) F (c_m_joins l g D o S_2 1 (by decide +kernel) cd ((m_2.1 0 34 _ sM_0 (by decide)).trans f_cd) (by omega) om ((m_2.1 0 45 _ sM_0 (by decide)).trans f_om) (by omega) (by omega) (ZWM.keep ZW m_2 (by decide) (by decide) (by decide) (by decide)) (ZKM.keep ZK m_2 (by decide) (by decide)) (P1M.keep P1 m_2 (by decide) (by decide) (by decide) (by decide) (by decide) (by decide) (by decide) (by decide) (by decide) (by decide) (by decide) (by decide) (by decide) (by decide) (by decide)) I_2 H.size) (cwV 1 hts (bw_V wB_1234 wB_1235 wB_1236 wB_881 wB_1233) rfl rfl rfl (by decide +kernel) ⟨Nat.le_of_ble_eq_true rfl, Nat.le_of_ble_eq_true rfl⟩) (dg_preV sM_0 rfl K ST hP hS hA1 hA) rfl rfl hl.1 rfl (lv_room (Nat.le_of_ble_eq_true rfl)) dX12_goesOn_436 ⟨Nat.le_of_ble_eq_true rfl, Nat.le_of_ble_eq_true rfl⟩) (fun S_2278 hw_2278 H locs hP hS => ?_)
                obtain ⟨I_2278, m_2278, w_2278_0, w_2278_1, w_2278_2, w_2278_3, -⟩ := hw_2278
                have M_2278 := dg_sm.tr M_2 m_2278 (by decide) (by decide)
                have hz_2279 : (1 : Int32).toInt = 1 := by decide +kernel
                obtain ⟨y_2280, y_2281, f_y_2280, f_y_2281, w_2278_0⟩ := w_2278_0
                have w_2278_0 : (y_2280).toInt + (y_2281).toInt = (cd).toInt + (om).toInt := w_2278_0
                have b_y_2280 : 0 ≤ (y_2280).toInt ∧ (y_2280).toInt ≤ 1600 := dg_I.intb (lo := 0) (hi := 1600) I_2278 sM_0 (by decide +kernel) f_y_2280
                have b_y_2281 : 0 ≤ (y_2281).toInt ∧ (y_2281).toInt ≤ 500 := dg_I.intb (lo := 0) (hi := 500) I_2278 sM_0 (by decide +kernel) f_y_2281
                have w_2278_1 : TOPM S_2278 (1 : Int32) := w_2278_1
                refine lv_iconst (v := 0) hx hb dX12_goesOn_439 (by decide +kernel) ?_
                have hz_2282 : (0 : Int32).toInt = 0 := by decide +kernel
                have hz_2283 : (0 : Int32).toInt = 0 := by decide +kernel
                have hz_2284 : (0 : Int32).toInt = 0 := by decide +kernel
                refine W.widen (k := 0) (n := 0) (Nat.le_of_ble_eq_true rfl) (Nat.le_of_ble_eq_true rfl) ?_
                exact dg_iret hx hb hr hlocks (by decide +kernel) hP hS ⟨I_2278, M_2278, (by decide +kernel), ⟨sg, sa, se, y_3, y_2280, dp, y_2281, oo, (((m_2278.1 0 3 _ sM_0 (by decide)).trans (m_2.1 0 3 _ sM_0 (by decide))).trans f_sg), (((m_2278.1 0 4 _ sM_0 (by decide)).trans (m_2.1 0 4 _ sM_0 (by decide))).trans f_sa), (((m_2278.1 0 5 _ sM_0 (by decide)).trans (m_2.1 0 5 _ sM_0 (by decide))).trans f_se), ((m_2278.1 0 8 _ sM_0 (by decide)).trans f_y_3), f_y_2280, (((m_2278.1 0 42 _ sM_0 (by decide)).trans (m_2.1 0 42 _ sM_0 (by decide))).trans f_dp), f_y_2281, (((m_2278.1 0 46 _ sM_0 (by decide)).trans (m_2.1 0 46 _ sM_0 (by decide))).trans f_oo), (by omega)⟩, (fun k9 hk9 hk0 => POM.mk1 w_2278_3 (((m_2278.1 0 46 _ sM_0 (by decide)).trans (m_2.1 0 46 _ sM_0 (by decide))).trans f_oo) (by omega)), w_2278_2, trivial⟩ dX12_goesOn_440
            · have jc_1960 := dk_eqc (k := 0) (by decide +kernel) c_1960
              refine lv_aload_n hx hb dX12_goesOn_413 rfl (lv_at hl 3 rfl) ?_
              refine lv_iconst (v := 1) hx hb dX12_goesOn_414 (by decide +kernel) ?_
              refine lv_aload_n hx hb dX12_goesOn_415 rfl (lv_at hl 3 rfl) ?_
              refine dg_get (C := RX12) (T := TX12) (N := 77) hx hb hts (fun w h => bw_mem (wU_X12 w h)) hown K hP sM_0 rfl 4 (by decide) (hts _ (bw_mem wB_1145)) (fun _ h9 => h9) (v := .int sa) ((m_2.1 0 4 _ sM_0 (by decide)).trans f_sa) dX12_goesOn_416 ?_
              have hz_2285 : (1 : Int32).toInt = 1 := by decide +kernel
              refine dg_callv hS hA1 hA (va_runV (As := [.int 1, .int sa]) (rest := []) F (c_m_blame l g D o S_2 1 (by decide +kernel) sa y_3 f_y_3 (by omega) I_2 H.size) (cwV 2 hts (bw_V wB_1137 wB_1138 wB_1139 wB_881 wB_1136) rfl rfl rfl (by decide +kernel) ⟨Nat.le_of_ble_eq_true rfl, Nat.le_of_ble_eq_true rfl⟩) (dg_preV sM_0 rfl K ST hP hS hA1 hA) rfl rfl hl.1 rfl (lv_room (Nat.le_of_ble_eq_true rfl)) dX12_goesOn_419 ⟨Nat.le_of_ble_eq_true rfl, Nat.le_of_ble_eq_true rfl⟩) (fun S_2286 hw_2286 H locs hP hS => ?_)
              obtain ⟨I_2286, m_2286, w_2286_0, -⟩ := hw_2286
              have M_2286 := dg_sm.tr M_2 m_2286 (by decide) (by decide)
              have hz_2287 : (1 : Int32).toInt = 1 := by decide +kernel
              obtain ⟨y_2288, f_y_2288, w_2286_0⟩ := w_2286_0
              have w_2286_0 : ((y_3).toInt ≠ 0 → (y_2288).toInt = (y_3).toInt) ∧ ((y_3).toInt = 0 → (y_2288).toInt = ((1 : Int32)).toInt) := w_2286_0
              obtain ⟨w_2286_0_0, w_2286_0_1⟩ := w_2286_0
              clear w_2286_0_0
              have w_2286_0_1r := w_2286_0_1 (by omega)
              clear w_2286_0_1
              have b_y_2288 : 0 ≤ (y_2288).toInt ∧ (y_2288).toInt ≤ 6 := dg_I.intb (lo := 0) (hi := 6) I_2286 sM_0 (by decide +kernel) f_y_2288
              have hbl_y_2288 : 1 ≤ (y_2288).toInt := by omega
              refine lv_iload_n hx hb dX12_goesOn_422 rfl (lv_at hl 1 rfl) ?_
              refine lv_iconst (v := 2) hx hb dX12_goesOn_423 (by decide +kernel) ?_
              refine lv_icmp_ge (tgt := 441) hx hb dX12_goesOn_424 (by decide) (fun c_2289 => ?_) (fun c_2289 => ?_)
              · have jc_2289 := dk_gec (k := 2) (by decide +kernel) c_2289
                refine lv_iload_n hx hb dX12_goesOn_441 rfl (lv_at hl 1 rfl) ?_
                refine lv_iconst (v := 3) hx hb dX12_goesOn_442 (by decide +kernel) ?_
                have J_2321 : ∀ (u9 : Unit), ((x_7 : Int32).toInt = 3 ∨ (x_7 : Int32).toInt = 6) → ∀ (H : Heap) (locs : List Loc), va_P D vwCl (dg_w g shM o rfM S_2286) H → va_S A s.heap H locs → ∀ ls : Array Slot, lv_has ls 5 [(3, .int x_8), (2, .int x_7), (1, .int x_5), (0, .ref (o + 0))] → W p l e ({ frames := 3, cells := 0, slots := 0, locals := 77 } : Room) s m args below meth c H locs 0 0 (MQ below (va_Qi (fun (r : Int32) S' => CM o S' ∧ dg_sm shM [(0, 3), (0, 4), (0, 5), (0, 6), (0, 7), (0, 8), (0, 9), (0, 12), (0, 34), (0, 42), (0, 43), (0, 45), (0, 46)] [18, 19, 22, 23, 24, 27] S S' ∧ (0 ≤ (r).toInt ∧ (r).toInt ≤ 1) ∧ (∃ y9_3 y9_4 y9_5 y9_8 y9_34 y9_42 y9_45 y9_46 : Int32, S'.1 0 3 = .int y9_3 ∧ S'.1 0 4 = .int y9_4 ∧ S'.1 0 5 = .int y9_5 ∧ S'.1 0 8 = .int y9_8 ∧ S'.1 0 34 = .int y9_34 ∧ S'.1 0 42 = .int y9_42 ∧ S'.1 0 45 = .int y9_45 ∧ S'.1 0 46 = .int y9_46 ∧ (((y9_4).toInt ≤ (y9_5).toInt ∧ (y9_5).toInt ≤ (sl).toInt ∧ ((y9_3).toInt ≠ 0 → (y9_4).toInt + 1 ≤ (y9_5).toInt)) ∧ (sa).toInt ≤ (y9_4).toInt ∧ ((fk).toInt ≠ 0 → (y9_8).toInt ≠ 0) ∧ (((y9_8).toInt = 0 → (r).toInt = 1 → (sa).toInt + 1 ≤ (y9_4).toInt) ∧ ((y9_8).toInt = 0 → (y9_34).toInt + (y9_45).toInt + (y9_42).toInt ≤ (y9_4).toInt)))) ∧ (∀ k9 : Int32, S'.1 0 8 = .int k9 → k9.toInt = 0 → POM S') ∧ ZWM S' ∧ True) (dg_B g D shM o rfM) A) args s 0 0 A) (F0 m 452 ls []) := by
                  intro u9 rel_0 H locs hP hS ls hl
                  refine lv_aload_n hx hb dX12_goesOn_452 rfl (lv_at hl 3 rfl) ?_
                  refine lv_bipush (v := 44) hx hb dX12_goesOn_453 (by decide +kernel) ?_
                  refine dg_calli hS hA1 hA (va_runV (As := [.int 44]) (rest := []) F (c_m_isSign l g D o S_2286 44 sg (((m_2286.1 0 3 _ sM_0 (by decide)).trans (m_2.1 0 3 _ sM_0 (by decide))).trans f_sg) (by omega) va (((m_2286.1 0 6 _ sM_0 (by decide)).trans (m_2.1 0 6 _ sM_0 (by decide))).trans f_va) (by omega) I_2286 H.size) (cwV 1 hts (bw_V wB_1157 wB_1158 wB_1159 wB_881 wB_1156) rfl rfl rfl (by decide +kernel) ⟨Nat.le_of_ble_eq_true rfl, Nat.le_of_ble_eq_true rfl⟩) (dg_preV sM_0 rfl K ST hP hS hA1 hA) rfl rfl hl.1 rfl (lv_room (Nat.le_of_ble_eq_true rfl)) dX12_goesOn_455 ⟨Nat.le_of_ble_eq_true rfl, Nat.le_of_ble_eq_true rfl⟩) (fun x_2322 S_2323 hw_2323 H locs hP hS => ?_)
                  rw [hw_2323.1] at hP
                  obtain ⟨hq_2323, w_2323_0, w_2323_1, -⟩ := hw_2323
                  have hz_2324 : (44 : Int32).toInt = 44 := by decide +kernel
                  have w_2323_0 : 0 ≤ (x_2322).toInt ∧ (x_2322).toInt ≤ 1 := w_2323_0
                  have w_2323_1 : (x_2322).toInt = 1 ↔ ((sg).toInt = 3 ∧ (va).toInt = ((44 : Int32)).toInt) := w_2323_1
                  refine lv_if_ne (tgt := 470) hx hb dX12_goesOn_458 (by decide) (fun c_2325 => ?_) (fun c_2325 => ?_)
                  · have jc_2325 := dk_neqc (k := 0) (by decide +kernel) c_2325
                    have w_2323_1_r := w_2323_1.mp (by omega)
                    clear w_2323_1
                    refine lv_aload_n hx hb dX12_goesOn_470 rfl (lv_at hl 3 rfl) ?_
                    refine dg_get (C := RX12) (T := TX12) (N := 77) hx hb hts (fun w h => bw_mem (wU_X12 w h)) hown K hP sM_0 rfl 8 (by decide) (hts _ (bw_mem wB_1133)) (fun _ h9 => h9) (v := .int y_2288) f_y_2288 dX12_goesOn_471 ?_
                    refine lv_if_le (tgt := 479) hx hb dX12_goesOn_474 (by decide) (fun c => absurd c (fun z => absurd (dk_lec (k := 0) (by decide +kernel) z) (by omega))) (fun _ => ?_)
                    refine lv_iconst (v := 0) hx hb dX12_goesOn_477 (by decide +kernel) ?_
                    have hz_2326 : (0 : Int32).toInt = 0 := by decide +kernel
                    have hz_2327 : (0 : Int32).toInt = 0 := by decide +kernel
                    have hz_2328 : (0 : Int32).toInt = 0 := by decide +kernel
                    refine W.widen (k := 0) (n := 0) (Nat.le_of_ble_eq_true rfl) (Nat.le_of_ble_eq_true rfl) ?_
                    exact dg_iret hx hb hr hlocks (by decide +kernel) hP hS ⟨I_2286, M_2286, (by decide +kernel), ⟨sg, sa, se, y_2288, cd, dp, om, oo, (((m_2286.1 0 3 _ sM_0 (by decide)).trans (m_2.1 0 3 _ sM_0 (by decide))).trans f_sg), (((m_2286.1 0 4 _ sM_0 (by decide)).trans (m_2.1 0 4 _ sM_0 (by decide))).trans f_sa), (((m_2286.1 0 5 _ sM_0 (by decide)).trans (m_2.1 0 5 _ sM_0 (by decide))).trans f_se), f_y_2288, (((m_2286.1 0 34 _ sM_0 (by decide)).trans (m_2.1 0 34 _ sM_0 (by decide))).trans f_cd), (((m_2286.1 0 42 _ sM_0 (by decide)).trans (m_2.1 0 42 _ sM_0 (by decide))).trans f_dp), (((m_2286.1 0 45 _ sM_0 (by decide)).trans (m_2.1 0 45 _ sM_0 (by decide))).trans f_om), (((m_2286.1 0 46 _ sM_0 (by decide)).trans (m_2.1 0 46 _ sM_0 (by decide))).trans f_oo), (by omega)⟩, (fun k9 hk9 hk0 => by have q9 := (f_y_2288).symm.trans hk9; cases q9; omega), (ZWM.keep (ZWM.keep ZW m_2 (by decide) (by decide) (by decide) (by decide)) m_2286 (by decide) (by decide) (by decide) (by decide)), trivial⟩ dX12_goesOn_478
                  · have jc_2325 := dk_eqc (k := 0) (by decide +kernel) c_2325
                    clear w_2323_1
                    refine lv_aload_n hx hb dX12_goesOn_461 rfl (lv_at hl 3 rfl) ?_
                    refine lv_iconst (v := 1) hx hb dX12_goesOn_462 (by decide +kernel) ?_
                    refine lv_aload_n hx hb dX12_goesOn_463 rfl (lv_at hl 3 rfl) ?_
                    refine dg_get (C := RX12) (T := TX12) (N := 77) hx hb hts (fun w h => bw_mem (wU_X12 w h)) hown K hP sM_0 rfl 4 (by decide) (hts _ (bw_mem wB_1145)) (fun _ h9 => h9) (v := .int sa) (((m_2286.1 0 4 _ sM_0 (by decide)).trans (m_2.1 0 4 _ sM_0 (by decide))).trans f_sa) dX12_goesOn_464 ?_
                    have hz_2329 : (1 : Int32).toInt = 1 := by decide +kernel
                    refine dg_callv hS hA1 hA (va_runV (As := [.int 1, .int sa]) (rest := []) F (c_m_blame l g D o S_2286 1 (by decide +kernel) sa y_2288 f_y_2288 (by omega) I_2286 H.size) (cwV 2 hts (bw_V wB_1137 wB_1138 wB_1139 wB_881 wB_1136) rfl rfl rfl (by decide +kernel) ⟨Nat.le_of_ble_eq_true rfl, Nat.le_of_ble_eq_true rfl⟩) (dg_preV sM_0 rfl K ST hP hS hA1 hA) rfl rfl hl.1 rfl (lv_room (Nat.le_of_ble_eq_true rfl)) dX12_goesOn_467 ⟨Nat.le_of_ble_eq_true rfl, Nat.le_of_ble_eq_true rfl⟩) (fun S_2330 hw_2330 H locs hP hS => ?_)
                    obtain ⟨I_2330, m_2330, w_2330_0, -⟩ := hw_2330
                    have M_2330 := dg_sm.tr M_2286 m_2330 (by decide) (by decide)
                    have hz_2331 : (1 : Int32).toInt = 1 := by decide +kernel
                    obtain ⟨y_2332, f_y_2332, w_2330_0⟩ := w_2330_0
                    have w_2330_0 : ((y_2288).toInt ≠ 0 → (y_2332).toInt = (y_2288).toInt) ∧ ((y_2288).toInt = 0 → (y_2332).toInt = ((1 : Int32)).toInt) := w_2330_0
                    obtain ⟨w_2330_0_0, w_2330_0_1⟩ := w_2330_0
                    have w_2330_0_0r := w_2330_0_0 (by omega)
                    clear w_2330_0_0
                    clear w_2330_0_1
                    have b_y_2332 : 0 ≤ (y_2332).toInt ∧ (y_2332).toInt ≤ 6 := dg_I.intb (lo := 0) (hi := 6) I_2330 sM_0 (by decide +kernel) f_y_2332
                    have hbl_y_2332 : 1 ≤ (y_2332).toInt := by omega
                    refine lv_aload_n hx hb dX12_goesOn_470 rfl (lv_at hl 3 rfl) ?_
                    refine dg_get (C := RX12) (T := TX12) (N := 77) hx hb hts (fun w h => bw_mem (wU_X12 w h)) hown K hP sM_0 rfl 8 (by decide) (hts _ (bw_mem wB_1133)) (fun _ h9 => h9) (v := .int y_2332) f_y_2332 dX12_goesOn_471 ?_
                    refine lv_if_le (tgt := 479) hx hb dX12_goesOn_474 (by decide) (fun c => absurd c (fun z => absurd (dk_lec (k := 0) (by decide +kernel) z) (by omega))) (fun _ => ?_)
                    refine lv_iconst (v := 0) hx hb dX12_goesOn_477 (by decide +kernel) ?_
                    have hz_2333 : (0 : Int32).toInt = 0 := by decide +kernel
                    have hz_2334 : (0 : Int32).toInt = 0 := by decide +kernel
                    have hz_2335 : (0 : Int32).toInt = 0 := by decide +kernel
                    refine W.widen (k := 0) (n := 0) (Nat.le_of_ble_eq_true rfl) (Nat.le_of_ble_eq_true rfl) ?_
                    exact dg_iret hx hb hr hlocks (by decide +kernel) hP hS ⟨I_2330, M_2330, (by decide +kernel), ⟨sg, sa, se, y_2332, cd, dp, om, oo, (((m_2330.1 0 3 _ sM_0 (by decide)).trans ((m_2286.1 0 3 _ sM_0 (by decide)).trans (m_2.1 0 3 _ sM_0 (by decide)))).trans f_sg), (((m_2330.1 0 4 _ sM_0 (by decide)).trans ((m_2286.1 0 4 _ sM_0 (by decide)).trans (m_2.1 0 4 _ sM_0 (by decide)))).trans f_sa), (((m_2330.1 0 5 _ sM_0 (by decide)).trans ((m_2286.1 0 5 _ sM_0 (by decide)).trans (m_2.1 0 5 _ sM_0 (by decide)))).trans f_se), f_y_2332, (((m_2330.1 0 34 _ sM_0 (by decide)).trans ((m_2286.1 0 34 _ sM_0 (by decide)).trans (m_2.1 0 34 _ sM_0 (by decide)))).trans f_cd), (((m_2330.1 0 42 _ sM_0 (by decide)).trans ((m_2286.1 0 42 _ sM_0 (by decide)).trans (m_2.1 0 42 _ sM_0 (by decide)))).trans f_dp), (((m_2330.1 0 45 _ sM_0 (by decide)).trans ((m_2286.1 0 45 _ sM_0 (by decide)).trans (m_2.1 0 45 _ sM_0 (by decide)))).trans f_om), (((m_2330.1 0 46 _ sM_0 (by decide)).trans ((m_2286.1 0 46 _ sM_0 (by decide)).trans (m_2.1 0 46 _ sM_0 (by decide)))).trans f_oo), (by omega)⟩, (fun k9 hk9 hk0 => by have q9 := (f_y_2332).symm.trans hk9; cases q9; omega), (ZWM.keep (ZWM.keep (ZWM.keep ZW m_2 (by decide) (by decide) (by decide) (by decide)) m_2286 (by decide) (by decide) (by decide) (by decide)) m_2330 (by decide) (by decide) (by decide) (by decide)), trivial⟩ dX12_goesOn_478
                refine lv_icmp_eq (tgt := 452) hx hb dX12_goesOn_443 (by decide) (fun c_2336 => ?_) (fun c_2336 => ?_)
                · have jc_2336 := dk_eqc (k := 3) (by decide +kernel) c_2336
                  exact J_2321 ()  (by omega) _ _ hP hS _ (lv_sub hl [0, 1, 2, 3] rfl)
                · have jc_2336 := dk_neqc (k := 3) (by decide +kernel) c_2336
                  refine lv_iload_n hx hb dX12_goesOn_446 rfl (lv_at hl 1 rfl) ?_
                  refine lv_bipush (v := 6) hx hb dX12_goesOn_447 (by decide +kernel) ?_
                  refine lv_icmp_ne (tgt := 518) hx hb dX12_goesOn_449 (by decide) (fun c_2337 => ?_) (fun c_2337 => ?_)
                  · have jc_2337 := dk_neqc (k := 6) (by decide +kernel) c_2337
                    refine lv_aload_n hx hb dX12_goesOn_518 rfl (lv_at hl 3 rfl) ?_
                    refine lv_iload_n hx hb dX12_goesOn_519 rfl (lv_at hl 1 rfl) ?_
                    refine lv_iconst (v := 5) hx hb dX12_goesOn_520 (by decide +kernel) ?_
                    have J_2353 : ∀ (x_2339 : Int32), (41 ≤ (x_2339).toInt ∧ (x_2339).toInt ≤ 93) → ∀ (H : Heap) (locs : List Loc), va_P D vwCl (dg_w g shM o rfM S_2286) H → va_S A s.heap H locs → ∀ ls : Array Slot, lv_has ls 5 [(3, .int x_8), (2, .int x_7), (1, .int x_5), (0, .ref (o + 0))] → W p l e ({ frames := 3, cells := 0, slots := 0, locals := 77 } : Room) s m args below meth c H locs 0 0 (MQ below (va_Qi (fun (r : Int32) S' => CM o S' ∧ dg_sm shM [(0, 3), (0, 4), (0, 5), (0, 6), (0, 7), (0, 8), (0, 9), (0, 12), (0, 34), (0, 42), (0, 43), (0, 45), (0, 46)] [18, 19, 22, 23, 24, 27] S S' ∧ (0 ≤ (r).toInt ∧ (r).toInt ≤ 1) ∧ (∃ y9_3 y9_4 y9_5 y9_8 y9_34 y9_42 y9_45 y9_46 : Int32, S'.1 0 3 = .int y9_3 ∧ S'.1 0 4 = .int y9_4 ∧ S'.1 0 5 = .int y9_5 ∧ S'.1 0 8 = .int y9_8 ∧ S'.1 0 34 = .int y9_34 ∧ S'.1 0 42 = .int y9_42 ∧ S'.1 0 45 = .int y9_45 ∧ S'.1 0 46 = .int y9_46 ∧ (((y9_4).toInt ≤ (y9_5).toInt ∧ (y9_5).toInt ≤ (sl).toInt ∧ ((y9_3).toInt ≠ 0 → (y9_4).toInt + 1 ≤ (y9_5).toInt)) ∧ (sa).toInt ≤ (y9_4).toInt ∧ ((fk).toInt ≠ 0 → (y9_8).toInt ≠ 0) ∧ (((y9_8).toInt = 0 → (r).toInt = 1 → (sa).toInt + 1 ≤ (y9_4).toInt) ∧ ((y9_8).toInt = 0 → (y9_34).toInt + (y9_45).toInt + (y9_42).toInt ≤ (y9_4).toInt)))) ∧ (∀ k9 : Int32, S'.1 0 8 = .int k9 → k9.toInt = 0 → POM S') ∧ ZWM S' ∧ True) (dg_B g D shM o rfM) A) args s 0 0 A) (F0 m 531 ls [.int x_2339, .ref (o + 0)]) := by
                      intro x_2339 b_x_2339 H locs hP hS ls hl
                      refine dg_calli hS hA1 hA (va_runV (As := [.int x_2339]) (rest := []) F (c_m_isSign l g D o S_2286 x_2339 sg (((m_2286.1 0 3 _ sM_0 (by decide)).trans (m_2.1 0 3 _ sM_0 (by decide))).trans f_sg) (by omega) va (((m_2286.1 0 6 _ sM_0 (by decide)).trans (m_2.1 0 6 _ sM_0 (by decide))).trans f_va) (by omega) I_2286 H.size) (cwV 1 hts (bw_V wB_1157 wB_1158 wB_1159 wB_881 wB_1156) rfl rfl rfl (by decide +kernel) ⟨Nat.le_of_ble_eq_true rfl, Nat.le_of_ble_eq_true rfl⟩) (dg_preV sM_0 rfl K ST hP hS hA1 hA) rfl rfl hl.1 rfl (lv_room (Nat.le_of_ble_eq_true rfl)) dX12_goesOn_531 ⟨Nat.le_of_ble_eq_true rfl, Nat.le_of_ble_eq_true rfl⟩) (fun x_2354 S_2355 hw_2355 H locs hP hS => ?_)
                      rw [hw_2355.1] at hP
                      obtain ⟨hq_2355, w_2355_0, w_2355_1, -⟩ := hw_2355
                      have w_2355_0 : 0 ≤ (x_2354).toInt ∧ (x_2354).toInt ≤ 1 := w_2355_0
                      have w_2355_1 : (x_2354).toInt = 1 ↔ ((sg).toInt = 3 ∧ (va).toInt = (x_2339).toInt) := w_2355_1
                      refine lv_if_ne (tgt := 546) hx hb dX12_goesOn_534 (by decide) (fun c_2356 => ?_) (fun c_2356 => ?_)
                      · have jc_2356 := dk_neqc (k := 0) (by decide +kernel) c_2356
                        have w_2355_1_r := w_2355_1.mp (by omega)
                        clear w_2355_1
                        refine lv_aload_n hx hb dX12_goesOn_546 rfl (lv_at hl 3 rfl) ?_
                        refine dg_get (C := RX12) (T := TX12) (N := 77) hx hb hts (fun w h => bw_mem (wU_X12 w h)) hown K hP sM_0 rfl 8 (by decide) (hts _ (bw_mem wB_1133)) (fun _ h9 => h9) (v := .int y_2288) f_y_2288 dX12_goesOn_547 ?_
                        refine lv_if_le (tgt := 555) hx hb dX12_goesOn_550 (by decide) (fun c => absurd c (fun z => absurd (dk_lec (k := 0) (by decide +kernel) z) (by omega))) (fun _ => ?_)
                        refine lv_iconst (v := 0) hx hb dX12_goesOn_553 (by decide +kernel) ?_
                        have hz_2357 : (0 : Int32).toInt = 0 := by decide +kernel
                        have hz_2358 : (0 : Int32).toInt = 0 := by decide +kernel
                        have hz_2359 : (0 : Int32).toInt = 0 := by decide +kernel
                        refine W.widen (k := 0) (n := 0) (Nat.le_of_ble_eq_true rfl) (Nat.le_of_ble_eq_true rfl) ?_
                        exact dg_iret hx hb hr hlocks (by decide +kernel) hP hS ⟨I_2286, M_2286, (by decide +kernel), ⟨sg, sa, se, y_2288, cd, dp, om, oo, (((m_2286.1 0 3 _ sM_0 (by decide)).trans (m_2.1 0 3 _ sM_0 (by decide))).trans f_sg), (((m_2286.1 0 4 _ sM_0 (by decide)).trans (m_2.1 0 4 _ sM_0 (by decide))).trans f_sa), (((m_2286.1 0 5 _ sM_0 (by decide)).trans (m_2.1 0 5 _ sM_0 (by decide))).trans f_se), f_y_2288, (((m_2286.1 0 34 _ sM_0 (by decide)).trans (m_2.1 0 34 _ sM_0 (by decide))).trans f_cd), (((m_2286.1 0 42 _ sM_0 (by decide)).trans (m_2.1 0 42 _ sM_0 (by decide))).trans f_dp), (((m_2286.1 0 45 _ sM_0 (by decide)).trans (m_2.1 0 45 _ sM_0 (by decide))).trans f_om), (((m_2286.1 0 46 _ sM_0 (by decide)).trans (m_2.1 0 46 _ sM_0 (by decide))).trans f_oo), (by omega)⟩, (fun k9 hk9 hk0 => by have q9 := (f_y_2288).symm.trans hk9; cases q9; omega), (ZWM.keep (ZWM.keep ZW m_2 (by decide) (by decide) (by decide) (by decide)) m_2286 (by decide) (by decide) (by decide) (by decide)), trivial⟩ dX12_goesOn_554
                      · have jc_2356 := dk_eqc (k := 0) (by decide +kernel) c_2356
                        clear w_2355_1
                        refine lv_aload_n hx hb dX12_goesOn_537 rfl (lv_at hl 3 rfl) ?_
                        refine lv_iconst (v := 1) hx hb dX12_goesOn_538 (by decide +kernel) ?_
                        refine lv_aload_n hx hb dX12_goesOn_539 rfl (lv_at hl 3 rfl) ?_
                        refine dg_get (C := RX12) (T := TX12) (N := 77) hx hb hts (fun w h => bw_mem (wU_X12 w h)) hown K hP sM_0 rfl 4 (by decide) (hts _ (bw_mem wB_1145)) (fun _ h9 => h9) (v := .int sa) (((m_2286.1 0 4 _ sM_0 (by decide)).trans (m_2.1 0 4 _ sM_0 (by decide))).trans f_sa) dX12_goesOn_540 ?_
                        have hz_2360 : (1 : Int32).toInt = 1 := by decide +kernel
                        refine dg_callv hS hA1 hA (va_runV (As := [.int 1, .int sa]) (rest := []) F (c_m_blame l g D o S_2286 1 (by decide +kernel) sa y_2288 f_y_2288 (by omega) I_2286 H.size) (cwV 2 hts (bw_V wB_1137 wB_1138 wB_1139 wB_881 wB_1136) rfl rfl rfl (by decide +kernel) ⟨Nat.le_of_ble_eq_true rfl, Nat.le_of_ble_eq_true rfl⟩) (dg_preV sM_0 rfl K ST hP hS hA1 hA) rfl rfl hl.1 rfl (lv_room (Nat.le_of_ble_eq_true rfl)) dX12_goesOn_543 ⟨Nat.le_of_ble_eq_true rfl, Nat.le_of_ble_eq_true rfl⟩) (fun S_2361 hw_2361 H locs hP hS => ?_)
                        obtain ⟨I_2361, m_2361, w_2361_0, -⟩ := hw_2361
                        have M_2361 := dg_sm.tr M_2286 m_2361 (by decide) (by decide)
                        have hz_2362 : (1 : Int32).toInt = 1 := by decide +kernel
                        obtain ⟨y_2363, f_y_2363, w_2361_0⟩ := w_2361_0
                        have w_2361_0 : ((y_2288).toInt ≠ 0 → (y_2363).toInt = (y_2288).toInt) ∧ ((y_2288).toInt = 0 → (y_2363).toInt = ((1 : Int32)).toInt) := w_2361_0
                        obtain ⟨w_2361_0_0, w_2361_0_1⟩ := w_2361_0
                        have w_2361_0_0r := w_2361_0_0 (by omega)
                        clear w_2361_0_0
                        clear w_2361_0_1
                        have b_y_2363 : 0 ≤ (y_2363).toInt ∧ (y_2363).toInt ≤ 6 := dg_I.intb (lo := 0) (hi := 6) I_2361 sM_0 (by decide +kernel) f_y_2363
                        have hbl_y_2363 : 1 ≤ (y_2363).toInt := by omega
                        refine lv_aload_n hx hb dX12_goesOn_546 rfl (lv_at hl 3 rfl) ?_
                        refine dg_get (C := RX12) (T := TX12) (N := 77) hx hb hts (fun w h => bw_mem (wU_X12 w h)) hown K hP sM_0 rfl 8 (by decide) (hts _ (bw_mem wB_1133)) (fun _ h9 => h9) (v := .int y_2363) f_y_2363 dX12_goesOn_547 ?_
                        refine lv_if_le (tgt := 555) hx hb dX12_goesOn_550 (by decide) (fun c => absurd c (fun z => absurd (dk_lec (k := 0) (by decide +kernel) z) (by omega))) (fun _ => ?_)
                        refine lv_iconst (v := 0) hx hb dX12_goesOn_553 (by decide +kernel) ?_
                        have hz_2364 : (0 : Int32).toInt = 0 := by decide +kernel
                        have hz_2365 : (0 : Int32).toInt = 0 := by decide +kernel
                        have hz_2366 : (0 : Int32).toInt = 0 := by decide +kernel
                        refine W.widen (k := 0) (n := 0) (Nat.le_of_ble_eq_true rfl) (Nat.le_of_ble_eq_true rfl) ?_
                        exact dg_iret hx hb hr hlocks (by decide +kernel) hP hS ⟨I_2361, M_2361, (by decide +kernel), ⟨sg, sa, se, y_2363, cd, dp, om, oo, (((m_2361.1 0 3 _ sM_0 (by decide)).trans ((m_2286.1 0 3 _ sM_0 (by decide)).trans (m_2.1 0 3 _ sM_0 (by decide)))).trans f_sg), (((m_2361.1 0 4 _ sM_0 (by decide)).trans ((m_2286.1 0 4 _ sM_0 (by decide)).trans (m_2.1 0 4 _ sM_0 (by decide)))).trans f_sa), (((m_2361.1 0 5 _ sM_0 (by decide)).trans ((m_2286.1 0 5 _ sM_0 (by decide)).trans (m_2.1 0 5 _ sM_0 (by decide)))).trans f_se), f_y_2363, (((m_2361.1 0 34 _ sM_0 (by decide)).trans ((m_2286.1 0 34 _ sM_0 (by decide)).trans (m_2.1 0 34 _ sM_0 (by decide)))).trans f_cd), (((m_2361.1 0 42 _ sM_0 (by decide)).trans ((m_2286.1 0 42 _ sM_0 (by decide)).trans (m_2.1 0 42 _ sM_0 (by decide)))).trans f_dp), (((m_2361.1 0 45 _ sM_0 (by decide)).trans ((m_2286.1 0 45 _ sM_0 (by decide)).trans (m_2.1 0 45 _ sM_0 (by decide)))).trans f_om), (((m_2361.1 0 46 _ sM_0 (by decide)).trans ((m_2286.1 0 46 _ sM_0 (by decide)).trans (m_2.1 0 46 _ sM_0 (by decide)))).trans f_oo), (by omega)⟩, (fun k9 hk9 hk0 => by have q9 := (f_y_2363).symm.trans hk9; cases q9; omega), (ZWM.keep (ZWM.keep (ZWM.keep ZW m_2 (by decide) (by decide) (by decide) (by decide)) m_2286 (by decide) (by decide) (by decide) (by decide)) m_2361 (by decide) (by decide) (by decide) (by decide)), trivial⟩ dX12_goesOn_554
                    refine lv_icmp_ne (tgt := 529) hx hb dX12_goesOn_521 (by decide) (fun c_2367 => ?_) (fun c_2367 => ?_)
                    · have jc_2367 := dk_neqc (k := 5) (by decide +kernel) c_2367
                      refine lv_bipush (v := 41) hx hb dX12_goesOn_529 (by decide +kernel) ?_
                      have hz_2368 : (41 : Int32).toInt = 41 := by decide +kernel
                      exact J_2353 41 (by decide +kernel) _ _ hP hS _ (lv_sub hl [0, 1, 2, 3] rfl)
                    · have jc_2367 := dk_eqc (k := 5) (by decide +kernel) c_2367
                      refine lv_bipush (v := 93) hx hb dX12_goesOn_524 (by decide +kernel) ?_
                      refine lv_goto (tgt := 531) hx hb dX12_goesOn_526 (by decide) ?_
                      have hz_2369 : (93 : Int32).toInt = 93 := by decide +kernel
                      exact J_2353 93 (by decide +kernel) _ _ hP hS _ (lv_sub hl [0, 1, 2, 3] rfl)
                  · have jc_2337 := dk_eqc (k := 6) (by decide +kernel) c_2337
                    exact J_2321 ()  (by omega) _ _ hP hS _ (lv_sub hl [0, 1, 2, 3] rfl)
              · have jc_2289 := dk_ngec (k := 2) (by decide +kernel) c_2289
                refine lv_aload_n hx hb dX12_goesOn_427 rfl (lv_at hl 3 rfl) ?_
                refine dg_get (C := RX12) (T := TX12) (N := 77) hx hb hts (fun w h => bw_mem (wU_X12 w h)) hown K hP sM_0 rfl 8 (by decide) (hts _ (bw_mem wB_1133)) (fun _ h9 => h9) (v := .int y_2288) f_y_2288 dX12_goesOn_428 ?_
                refine lv_if_ne (tgt := 439) hx hb dX12_goesOn_431 (by decide) (fun _ => ?_) (fun c => absurd c (fun z => absurd (dk_eqc (k := 0) (by decide +kernel) z) (by omega)))
                refine lv_iconst (v := 0) hx hb dX12_goesOn_439 (by decide +kernel) ?_
                have hz_2370 : (0 : Int32).toInt = 0 := by decide +kernel
                have hz_2371 : (0 : Int32).toInt = 0 := by decide +kernel
                have hz_2372 : (0 : Int32).toInt = 0 := by decide +kernel
                refine W.widen (k := 0) (n := 0) (Nat.le_of_ble_eq_true rfl) (Nat.le_of_ble_eq_true rfl) ?_
                exact dg_iret hx hb hr hlocks (by decide +kernel) hP hS ⟨I_2286, M_2286, (by decide +kernel), ⟨sg, sa, se, y_2288, cd, dp, om, oo, (((m_2286.1 0 3 _ sM_0 (by decide)).trans (m_2.1 0 3 _ sM_0 (by decide))).trans f_sg), (((m_2286.1 0 4 _ sM_0 (by decide)).trans (m_2.1 0 4 _ sM_0 (by decide))).trans f_sa), (((m_2286.1 0 5 _ sM_0 (by decide)).trans (m_2.1 0 5 _ sM_0 (by decide))).trans f_se), f_y_2288, (((m_2286.1 0 34 _ sM_0 (by decide)).trans (m_2.1 0 34 _ sM_0 (by decide))).trans f_cd), (((m_2286.1 0 42 _ sM_0 (by decide)).trans (m_2.1 0 42 _ sM_0 (by decide))).trans f_dp), (((m_2286.1 0 45 _ sM_0 (by decide)).trans (m_2.1 0 45 _ sM_0 (by decide))).trans f_om), (((m_2286.1 0 46 _ sM_0 (by decide)).trans (m_2.1 0 46 _ sM_0 (by decide))).trans f_oo), (by omega)⟩, (fun k9 hk9 hk0 => by have q9 := (f_y_2288).symm.trans hk9; cases q9; omega), (ZWM.keep (ZWM.keep ZW m_2 (by decide) (by decide) (by decide) (by decide)) m_2286 (by decide) (by decide) (by decide) (by decide)), trivial⟩ dX12_goesOn_440
        refine lv_if_eq (tgt := 400) hx hb dX12_goesOn_286 (by decide) (fun c_2373 => ?_) (fun c_2373 => ?_)
        · have jc_2373 := dk_eqc (k := 0) (by decide +kernel) c_2373
          clear w_9_1
          exact J_1632   _ _ hP hS _ (lv_sub hl [0, 1, 2, 3] rfl)
        · have jc_2373 := dk_neqc (k := 0) (by decide +kernel) c_2373
          have w_9_1_r := w_9_1.mp (by omega)
          clear w_9_1
          refine lv_aload_n hx hb dX12_goesOn_289 rfl (lv_at hl 3 rfl) ?_
          refine lv_ldc2 hx hb hown (hts _ (bw_mem wB_1190)) dX12_goesOn_290 ?_
          refine dg_calli hS hA1 hA (va_runV (As := [.long 6385252]) (rest := []) F (c_m_isWord l g D o S_2 6385252 sg ((m_2.1 0 3 _ sM_0 (by decide)).trans f_sg) (by omega) I_2 H.size) (cwV 1 hts (bw_V wB_1165 wB_1166 wB_1167 wB_881 wB_1164) rfl rfl rfl (by decide +kernel) ⟨Nat.le_of_ble_eq_true rfl, Nat.le_of_ble_eq_true rfl⟩) (dg_preV sM_0 rfl K ST hP hS hA1 hA) rfl rfl hl.1 rfl (lv_room (Nat.le_of_ble_eq_true rfl)) dX12_goesOn_293 ⟨Nat.le_of_ble_eq_true rfl, Nat.le_of_ble_eq_true rfl⟩) (fun x_2374 S_2375 hw_2375 H locs hP hS => ?_)
          rw [hw_2375.1] at hP
          obtain ⟨hq_2375, w_2375_0, w_2375_1, -⟩ := hw_2375
          have w_2375_0 : 0 ≤ (x_2374).toInt ∧ (x_2374).toInt ≤ 1 := w_2375_0
          have w_2375_1 : (x_2374).toInt = 1 → (sg).toInt = 1 := w_2375_1
          have J_2451 : ∀ (u9 : Unit), ((sg).toInt = 1) → ∀ (H : Heap) (locs : List Loc), va_P D vwCl (dg_w g shM o rfM S_2) H → va_S A s.heap H locs → ∀ ls : Array Slot, lv_has ls 5 [(3, .int x_8), (2, .int x_7), (1, .int x_5), (0, .ref (o + 0))] → W p l e ({ frames := 3, cells := 0, slots := 0, locals := 77 } : Room) s m args below meth c H locs 0 0 (MQ below (va_Qi (fun (r : Int32) S' => CM o S' ∧ dg_sm shM [(0, 3), (0, 4), (0, 5), (0, 6), (0, 7), (0, 8), (0, 9), (0, 12), (0, 34), (0, 42), (0, 43), (0, 45), (0, 46)] [18, 19, 22, 23, 24, 27] S S' ∧ (0 ≤ (r).toInt ∧ (r).toInt ≤ 1) ∧ (∃ y9_3 y9_4 y9_5 y9_8 y9_34 y9_42 y9_45 y9_46 : Int32, S'.1 0 3 = .int y9_3 ∧ S'.1 0 4 = .int y9_4 ∧ S'.1 0 5 = .int y9_5 ∧ S'.1 0 8 = .int y9_8 ∧ S'.1 0 34 = .int y9_34 ∧ S'.1 0 42 = .int y9_42 ∧ S'.1 0 45 = .int y9_45 ∧ S'.1 0 46 = .int y9_46 ∧ (((y9_4).toInt ≤ (y9_5).toInt ∧ (y9_5).toInt ≤ (sl).toInt ∧ ((y9_3).toInt ≠ 0 → (y9_4).toInt + 1 ≤ (y9_5).toInt)) ∧ (sa).toInt ≤ (y9_4).toInt ∧ ((fk).toInt ≠ 0 → (y9_8).toInt ≠ 0) ∧ (((y9_8).toInt = 0 → (r).toInt = 1 → (sa).toInt + 1 ≤ (y9_4).toInt) ∧ ((y9_8).toInt = 0 → (y9_34).toInt + (y9_45).toInt + (y9_42).toInt ≤ (y9_4).toInt)))) ∧ (∀ k9 : Int32, S'.1 0 8 = .int k9 → k9.toInt = 0 → POM S') ∧ ZWM S' ∧ True) (dg_B g D shM o rfM) A) args s 0 0 A) (F0 m 309 ls []) := by
            intro u9 rel_0 H locs hP hS ls hl
            clear w_2375_1
            refine lv_aload_n hx hb dX12_goesOn_309 rfl (lv_at hl 3 rfl) ?_
            refine dg_get (C := RX12) (T := TX12) (N := 77) hx hb hts (fun w h => bw_mem (wU_X12 w h)) hown K hP sM_0 rfl 38 (by decide) (hts _ (bw_mem wB_1214)) (fun _ h9 => h9) (v := .ref (o + 23)) (show S_2.1 0 38 = .ref (o + 23) from dg_I.rel (d := 23) I_2 sM_0 (by decide +kernel)) dX12_goesOn_310 ?_
            refine lv_iload_n hx hb dX12_goesOn_313 rfl (lv_at hl 2 rfl) ?_
            have hin_2452 : vp_in x_5 20 := (dk_inv (by omega) (by omega))
            refine dg_iald hx hb K hP sM_23 hin_2452 dX12_goesOn_314 (fun y_2453 ey_2453 => ?_)
            obtain rfl : x_11 = y_2453 := (ey_2453.trans ex_11.symm).symm
            refine lv_if_ne (tgt := 327) hx hb dX12_goesOn_315 (by decide) (fun c_2454 => ?_) (fun c_2454 => ?_)
            · have jc_2454 := dk_neqc (k := 0) (by decide +kernel) c_2454
              refine lv_aload_n hx hb dX12_goesOn_327 rfl (lv_at hl 3 rfl) ?_
              refine dg_get (C := RX12) (T := TX12) (N := 77) hx hb hts (fun w h => bw_mem (wU_X12 w h)) hown K hP sM_0 rfl 8 (by decide) (hts _ (bw_mem wB_1133)) (fun _ h9 => h9) (v := .int y_3) f_y_3 dX12_goesOn_328 ?_
              refine lv_if_le (tgt := 336) hx hb dX12_goesOn_331 (by decide) (fun _ => ?_) (fun c => absurd (dk_lep (k := 0) (by decide +kernel) (by omega)) c)
              refine lv_aload_n hx hb dX12_goesOn_336 rfl (lv_at hl 3 rfl) ?_
              refine lv_ldc2 hx hb hown (hts _ (bw_mem wB_1190)) dX12_goesOn_337 ?_
              refine dg_calli hS hA1 hA (va_runV (As := [.long 6385252]) (rest := []) F (c_m_isWord l g D o S_2 6385252 sg ((m_2.1 0 3 _ sM_0 (by decide)).trans f_sg) (by omega) I_2 H.size) (cwV 1 hts (bw_V wB_1165 wB_1166 wB_1167 wB_881 wB_1164) rfl rfl rfl (by decide +kernel) ⟨Nat.le_of_ble_eq_true rfl, Nat.le_of_ble_eq_true rfl⟩) (dg_preV sM_0 rfl K ST hP hS hA1 hA) rfl rfl hl.1 rfl (lv_room (Nat.le_of_ble_eq_true rfl)) dX12_goesOn_340 ⟨Nat.le_of_ble_eq_true rfl, Nat.le_of_ble_eq_true rfl⟩) (fun x_2455 S_2456 hw_2456 H locs hP hS => ?_)
              rw [hw_2456.1] at hP
              obtain ⟨hq_2456, w_2456_0, w_2456_1, -⟩ := hw_2456
              have w_2456_0 : 0 ≤ (x_2455).toInt ∧ (x_2455).toInt ≤ 1 := w_2456_0
              have w_2456_1 : (x_2455).toInt = 1 → (sg).toInt = 1 := w_2456_1
              refine lv_istore (lv' := [(4, .int x_2455), (3, .int x_8), (2, .int x_7), (1, .int x_5), (0, .ref (o + 0))]) hx hb dX12_goesOn_343 hl (by decide) rfl (fun ls hl => ?_)
              refine lv_aload_n hx hb dX12_goesOn_345 rfl (lv_at hl 4 rfl) ?_
              refine lv_iload hx hb dX12_goesOn_346 (lv_at hl 0 rfl) ?_
              refine lv_if_eq (tgt := 355) hx hb dX12_goesOn_348 (by decide) (fun c_2457 => ?_) (fun c_2457 => ?_)
              · have jc_2457 := dk_eqc (k := 0) (by decide +kernel) c_2457
                clear w_2456_1
                refine lv_iconst (v := 1) hx hb dX12_goesOn_355 (by decide +kernel) ?_
                have hz_2458 : (1 : Int32).toInt = 1 := by decide +kernel
                refine dg_callv hS hA1 hA (va_runV (As := [.int 1]) (rest := []) F (c_m_joins l g D o S_2 1 (by decide +kernel) cd ((m_2.1 0 34 _ sM_0 (by decide)).trans f_cd) (by omega) om ((m_2.1 0 45 _ sM_0 (by decide)).trans f_om) (by omega) (by omega) (ZWM.keep ZW m_2 (by decide) (by decide) (by decide) (by decide)) (ZKM.keep ZK m_2 (by decide) (by decide)) (P1M.keep P1 m_2 (by decide) (by decide) (by decide) (by decide) (by decide) (by decide) (by decide) (by decide) (by decide) (by decide) (by decide) (by decide) (by decide) (by decide) (by decide)) I_2 H.size) (cwV 1 hts (bw_V wB_1234 wB_1235 wB_1236 wB_881 wB_1233) rfl rfl rfl (by decide +kernel) ⟨Nat.le_of_ble_eq_true rfl, Nat.le_of_ble_eq_true rfl⟩) (dg_preV sM_0 rfl K ST hP hS hA1 hA) rfl rfl hl.1 rfl (lv_room (Nat.le_of_ble_eq_true rfl)) dX12_goesOn_356 ⟨Nat.le_of_ble_eq_true rfl, Nat.le_of_ble_eq_true rfl⟩) (fun S_2459 hw_2459 H locs hP hS => ?_)
                obtain ⟨I_2459, m_2459, w_2459_0, w_2459_1, w_2459_2, w_2459_3, -⟩ := hw_2459
                have M_2459 := dg_sm.tr M_2 m_2459 (by decide) (by decide)
                have hz_2460 : (1 : Int32).toInt = 1 := by decide +kernel
                obtain ⟨y_2461, y_2462, f_y_2461, f_y_2462, w_2459_0⟩ := w_2459_0
                have w_2459_0 : (y_2461).toInt + (y_2462).toInt = (cd).toInt + (om).toInt := w_2459_0
                have b_y_2461 : 0 ≤ (y_2461).toInt ∧ (y_2461).toInt ≤ 1600 := dg_I.intb (lo := 0) (hi := 1600) I_2459 sM_0 (by decide +kernel) f_y_2461
                have b_y_2462 : 0 ≤ (y_2462).toInt ∧ (y_2462).toInt ≤ 500 := dg_I.intb (lo := 0) (hi := 500) I_2459 sM_0 (by decide +kernel) f_y_2462
                have w_2459_1 : TOPM S_2459 (1 : Int32) := w_2459_1
                refine lv_aload_n hx hb dX12_goesOn_359 rfl (lv_at hl 4 rfl) ?_
                refine lv_iload hx hb dX12_goesOn_360 (lv_at hl 0 rfl) ?_
                refine lv_if_eq (tgt := 370) hx hb dX12_goesOn_362 (by decide) (fun _ => ?_) (fun c => absurd (dk_eqp (k := 0) (by decide +kernel) (by omega)) c)
                refine lv_bipush (v := 42) hx hb dX12_goesOn_370 (by decide +kernel) ?_
                refine dg_callv hS hA1 hA (va_runV (As := [.int 42]) (rest := []) F (c_m_holdsBack l g D o S_2459 42 y_2462 f_y_2462 (by omega) I_2459 H.size) (cwV 1 hts (bw_V wB_1224 wB_1225 wB_1226 wB_881 wB_1223) rfl rfl rfl (by decide +kernel) ⟨Nat.le_of_ble_eq_true rfl, Nat.le_of_ble_eq_true rfl⟩) (dg_preV sM_0 rfl K ST hP hS hA1 hA) rfl rfl hl.1 rfl (lv_room (Nat.le_of_ble_eq_true rfl)) dX12_goesOn_372 ⟨Nat.le_of_ble_eq_true rfl, Nat.le_of_ble_eq_true rfl⟩) (fun S_2463 hw_2463 H locs hP hS => ?_)
                obtain ⟨I_2463, m_2463, w_2463_0, w_2463_1, -⟩ := hw_2463
                have M_2463 := dg_sm.tr M_2459 m_2463 (by decide) (by decide)
                have hz_2464 : (42 : Int32).toInt = 42 := by decide +kernel
                obtain ⟨y_2465, f_y_2465, w_2463_0⟩ := w_2463_0
                have w_2463_0 : (y_2465).toInt = (y_2462).toInt + 1 := w_2463_0
                have b_y_2465 : 0 ≤ (y_2465).toInt ∧ (y_2465).toInt ≤ 500 := dg_I.intb (lo := 0) (hi := 500) I_2463 sM_0 (by decide +kernel) f_y_2465
                have w_2463_1 : HBM S_2459 S_2463 (42 : Int32) := w_2463_1
                refine lv_aload_n hx hb dX12_goesOn_375 rfl (lv_at hl 4 rfl) ?_
                refine dg_get (C := RX12) (T := TX12) (N := 77) hx hb hts (fun w h => bw_mem (wU_X12 w h)) hown K hP sM_0 rfl 38 (by decide) (hts _ (bw_mem wB_1214)) (fun _ h9 => h9) (v := .ref (o + 23)) (show S_2463.1 0 38 = .ref (o + 23) from dg_I.rel (d := 23) I_2463 sM_0 (by decide +kernel)) dX12_goesOn_376 ?_
                refine lv_iload_n hx hb dX12_goesOn_379 rfl (lv_at hl 3 rfl) ?_
                refine lv_iconst (v := 0) hx hb dX12_goesOn_380 (by decide +kernel) ?_
                have hin_2466 : vp_in x_5 20 := (dk_inv (by omega) (by omega))
                have hz_2468 : (0 : Int32).toInt = 0 := by decide +kernel
                refine dg_iast hx hb K hP hS hA1 sM_23 hin_2466 dX12_goesOn_381 (fun S_2467 e_2467 H locs hP hS => ?_)
                have I_2467 := dg_I.ufu (lo := 0) (hi := 2) I_2463 e_2467 sM_23 (by decide +kernel) (show 0 ≤ ((0 : Int32)).toInt ∧ ((0 : Int32)).toInt ≤ 2 from (by decide +kernel))
                have M_2467 := dg_sm.uf M_2463 e_2467 sM_23 (by decide)
                obtain ⟨x_2469, f_x_2469, b_x_2469⟩ := dg_I.int (i := 0) (k := 43) (lo := (-2147483648)) (hi := 2147483647) I_2459 sM_0 (by decide +kernel)
                obtain ⟨x_2470, f_x_2470, b_x_2470⟩ := dg_I.int (i := 0) (k := 45) (lo := 0) (hi := 500) I_2459 sM_0 (by decide +kernel)
                have hz_2471 : (0 : Int32).toInt = 0 := by decide +kernel
                refine lv_aload_n hx hb dX12_goesOn_382 rfl (lv_at hl 4 rfl) ?_
                refine dg_get (C := RX12) (T := TX12) (N := 77) hx hb hts (fun w h => bw_mem (wU_X12 w h)) hown K hP sM_0 rfl 39 (by decide) (hts _ (bw_mem wB_1215)) (fun _ h9 => h9) (v := .ref (o + 24)) (show S_2467.1 0 39 = .ref (o + 24) from dg_I.rel (d := 24) I_2467 sM_0 (by decide +kernel)) dX12_goesOn_383 ?_
                refine lv_iload_n hx hb dX12_goesOn_386 rfl (lv_at hl 3 rfl) ?_
                refine lv_iconst (v := 1) hx hb dX12_goesOn_387 (by decide +kernel) ?_
                have hin_2472 : vp_in x_5 20 := (dk_inv (by omega) (by omega))
                have hz_2474 : (1 : Int32).toInt = 1 := by decide +kernel
                refine dg_zast hx hb K hP hS hA1 sM_24 hin_2472 (by decide +kernel) dX12_goesOn_388 (fun S_2473 e_2473 H locs hP hS => ?_)
                have I_2473 := dg_I.ufu (lo := 0) (hi := 1) I_2467 e_2473 sM_24 (by decide +kernel) (show 0 ≤ ((1 : Int32)).toInt ∧ ((1 : Int32)).toInt ≤ 1 from (by decide +kernel))
                have M_2473 := dg_sm.uf M_2467 e_2473 sM_24 (by decide)
                have P0_2473 : P0M S_2473 := P1M.andor w_2459_3 (((m_2459.1 0 42 _ sM_0 (by decide)).trans (m_2.1 0 42 _ sM_0 (by decide))).trans f_dp) f_x_2469 f_x_2470 w_2459_1 m_2463 w_2463_1 (by omega) (fx := x_5) (by omega) e_2467 e_2473
                refine lv_aload_n hx hb dX12_goesOn_389 rfl (lv_at hl 4 rfl) ?_
                refine dg_callv hS hA1 hA (va_runV (As := []) (rest := []) F (c_m_ahead l g D o S_2473 se (((dg_uf_F e_2473 0 5).trans ((dg_uf_F e_2467 0 5).trans ((m_2463.1 0 5 _ sM_0 (by decide)).trans ((m_2459.1 0 5 _ sM_0 (by decide)).trans (m_2.1 0 5 _ sM_0 (by decide)))))).trans f_se) (by omega) sl (((dg_uf_F e_2473 0 2).trans ((dg_uf_F e_2467 0 2).trans ((m_2463.1 0 2 _ sM_0 (by decide)).trans ((m_2459.1 0 2 _ sM_0 (by decide)).trans (m_2.1 0 2 _ sM_0 (by decide)))))).trans f_sl) (by omega) (by omega) I_2473 H.size) (cwV 0 hts (bw_V wB_1161 wB_1162 wB_1163 wB_881 wB_1160) rfl rfl rfl (by decide +kernel) ⟨Nat.le_of_ble_eq_true rfl, Nat.le_of_ble_eq_true rfl⟩) (dg_preV sM_0 rfl K ST hP hS hA1 hA) rfl rfl hl.1 rfl (lv_room (Nat.le_of_ble_eq_true rfl)) dX12_goesOn_390 ⟨Nat.le_of_ble_eq_true rfl, Nat.le_of_ble_eq_true rfl⟩) (fun S_2475 hw_2475 H locs hP hS => ?_)
                obtain ⟨I_2475, m_2475, w_2475_0, -⟩ := hw_2475
                have M_2475 := dg_sm.tr M_2473 m_2475 (by decide) (by decide)
                obtain ⟨y_2476, y_2477, y_2478, f_y_2476, f_y_2477, f_y_2478, w_2475_0⟩ := w_2475_0
                have w_2475_0 : (se).toInt ≤ (y_2477).toInt ∧ (y_2477).toInt ≤ (y_2478).toInt ∧ (y_2478).toInt ≤ (sl).toInt ∧ ((y_2476).toInt ≠ 0 → (y_2477).toInt + 1 ≤ (y_2478).toInt) := w_2475_0
                obtain ⟨w_2475_0_0, w_2475_0_1, w_2475_0_2, w_2475_0_3⟩ := w_2475_0
                have b_y_2476 : 0 ≤ (y_2476).toInt ∧ (y_2476).toInt ≤ 3 := dg_I.intb (lo := 0) (hi := 3) I_2475 sM_0 (by decide +kernel) f_y_2476
                have b_y_2477 : 0 ≤ (y_2477).toInt ∧ (y_2477).toInt ≤ 1600 := dg_I.intb (lo := 0) (hi := 1600) I_2475 sM_0 (by decide +kernel) f_y_2477
                have b_y_2478 : 0 ≤ (y_2478).toInt ∧ (y_2478).toInt ≤ 1600 := dg_I.intb (lo := 0) (hi := 1600) I_2475 sM_0 (by decide +kernel) f_y_2478
                refine lv_aload_n hx hb dX12_goesOn_393 rfl (lv_at hl 4 rfl) ?_
                refine lv_iconst (v := 0) hx hb dX12_goesOn_394 (by decide +kernel) ?_
                have hz_2479 : (0 : Int32).toInt = 0 := by decide +kernel
                refine dg_put (ci := 12) (v := .int 0) (ty := tyX12 46) (C := RX12) (T := TX12) (N := 77) hx hb hts (fun w h => bw_mem (wU_X12 w h)) tyX12 tyX12_ok nmX12 hown K hP hS hA1 sM_0 rfl 46 (by decide) (hts _ (bw_mem wB_1237)) (fun _ h9 => h9) rfl (by decide +kernel) (by decide +kernel) (by decide +kernel) dX12_goesOn_395 (fun S_2480 e_2480 H locs hP hS => ?_)
                have I_2480 := dg_I.uFi (lo := 0) (hi := 1) I_2475 e_2480 sM_0 (by decide +kernel) (show 0 ≤ ((0 : Int32)).toInt ∧ ((0 : Int32)).toInt ≤ 1 from (by decide +kernel))
                have M_2480 := dg_sm.uF M_2475 e_2480 sM_0 (by decide)
                refine lv_iconst (v := 1) hx hb dX12_goesOn_398 (by decide +kernel) ?_
                have hz_2481 : (1 : Int32).toInt = 1 := by decide +kernel
                have hz_2482 : (1 : Int32).toInt = 1 := by decide +kernel
                obtain ⟨x_2483, f_x_2483, b_x_2483⟩ := dg_I.int (i := 0) (k := 45) (lo := 0) (hi := 500) I_2480 sM_0 (by decide +kernel)
                have hz_2484 : (0 : Int32).toInt = 0 := by decide +kernel
                have hz_2485 : (1 : Int32).toInt = 1 := by decide +kernel
                have hz_2486 : (0 : Int32).toInt = 0 := by decide +kernel
                refine W.widen (k := 0) (n := 0) (Nat.le_of_ble_eq_true rfl) (Nat.le_of_ble_eq_true rfl) ?_
                exact dg_iret hx hb hr hlocks (by decide +kernel) hP hS ⟨I_2480, M_2480, (by decide +kernel), ⟨y_2476, y_2477, y_2478, y_3, y_2461, dp, x_2483, 0, ((dg_uF_ne e_2480 (fun z => absurd z.2 (by decide))).trans f_y_2476), ((dg_uF_ne e_2480 (fun z => absurd z.2 (by decide))).trans f_y_2477), ((dg_uF_ne e_2480 (fun z => absurd z.2 (by decide))).trans f_y_2478), (((dg_uF_ne e_2480 (fun z => absurd z.2 (by decide))).trans ((m_2475.1 0 8 _ sM_0 (by decide)).trans ((dg_uf_F e_2473 0 8).trans ((dg_uf_F e_2467 0 8).trans ((m_2463.1 0 8 _ sM_0 (by decide)).trans (m_2459.1 0 8 _ sM_0 (by decide))))))).trans f_y_3), (((dg_uF_ne e_2480 (fun z => absurd z.2 (by decide))).trans ((m_2475.1 0 34 _ sM_0 (by decide)).trans ((dg_uf_F e_2473 0 34).trans ((dg_uf_F e_2467 0 34).trans (m_2463.1 0 34 _ sM_0 (by decide)))))).trans f_y_2461), (((dg_uF_ne e_2480 (fun z => absurd z.2 (by decide))).trans ((m_2475.1 0 42 _ sM_0 (by decide)).trans ((dg_uf_F e_2473 0 42).trans ((dg_uf_F e_2467 0 42).trans ((m_2463.1 0 42 _ sM_0 (by decide)).trans ((m_2459.1 0 42 _ sM_0 (by decide)).trans (m_2.1 0 42 _ sM_0 (by decide)))))))).trans f_dp), f_x_2483, (dg_uF_at e_2480), (by omega)⟩, (fun k9 hk9 hk0 => POM.mk0 (P0M.keep (P0M.keep P0_2473 m_2475 (by decide) (by decide) (by decide) (by decide) (by decide) (by decide) (by decide) (by decide) (by decide) (by decide) (by decide) (by decide) (by decide) (by decide) (by decide)) (dg_sm.uF (WF := [(0, 46)]) (WA := []) dg_sm.rf e_2480 sM_0 (by decide)) (by decide) (by decide) (by decide) (by decide) (by decide) (by decide) (by decide) (by decide) (by decide) (by decide) (by decide) (by decide) (by decide) (by decide) (by decide)) (dg_uF_at e_2480) (by omega)), (ZWM.keep (ZWM.keep (ZWM.keep (ZWM.keep (ZWM.keep w_2459_2 m_2463 (by decide) (by decide) (by decide) (by decide)) (dg_sm.uf (WF := []) (WA := [23]) dg_sm.rf e_2467 sM_23 (by decide)) (by decide) (by decide) (by decide) (by decide)) (dg_sm.uf (WF := []) (WA := [24]) dg_sm.rf e_2473 sM_24 (by decide)) (by decide) (by decide) (by decide) (by decide)) m_2475 (by decide) (by decide) (by decide) (by decide)) (dg_sm.uF (WF := [(0, 46)]) (WA := []) dg_sm.rf e_2480 sM_0 (by decide)) (by decide) (by decide) (by decide) (by decide)), trivial⟩ dX12_goesOn_399
              · have jc_2457 := dk_neqc (k := 0) (by decide +kernel) c_2457
                have w_2456_1_r := w_2456_1 (by omega)
                clear w_2456_1
                refine lv_iconst (v := 2) hx hb dX12_goesOn_351 (by decide +kernel) ?_
                refine lv_goto (tgt := 356) hx hb dX12_goesOn_352 (by decide) ?_
                have hz_2487 : (2 : Int32).toInt = 2 := by decide +kernel
                refine dg_callv hS hA1 hA (va_runV (As := [.int 2]) (rest := []) F (c_m_joins l g D o S_2 2 (by decide +kernel) cd ((m_2.1 0 34 _ sM_0 (by decide)).trans f_cd) (by omega) om ((m_2.1 0 45 _ sM_0 (by decide)).trans f_om) (by omega) (by omega) (ZWM.keep ZW m_2 (by decide) (by decide) (by decide) (by decide)) (ZKM.keep ZK m_2 (by decide) (by decide)) (P1M.keep P1 m_2 (by decide) (by decide) (by decide) (by decide) (by decide) (by decide) (by decide) (by decide) (by decide) (by decide) (by decide) (by decide) (by decide) (by decide) (by decide)) I_2 H.size) (cwV 1 hts (bw_V wB_1234 wB_1235 wB_1236 wB_881 wB_1233) rfl rfl rfl (by decide +kernel) ⟨Nat.le_of_ble_eq_true rfl, Nat.le_of_ble_eq_true rfl⟩) (dg_preV sM_0 rfl K ST hP hS hA1 hA) rfl rfl hl.1 rfl (lv_room (Nat.le_of_ble_eq_true rfl)) dX12_goesOn_356 ⟨Nat.le_of_ble_eq_true rfl, Nat.le_of_ble_eq_true rfl⟩) (fun S_2488 hw_2488 H locs hP hS => ?_)
                obtain ⟨I_2488, m_2488, w_2488_0, w_2488_1, w_2488_2, w_2488_3, -⟩ := hw_2488
                have M_2488 := dg_sm.tr M_2 m_2488 (by decide) (by decide)
                have hz_2489 : (2 : Int32).toInt = 2 := by decide +kernel
                obtain ⟨y_2490, y_2491, f_y_2490, f_y_2491, w_2488_0⟩ := w_2488_0
                have w_2488_0 : (y_2490).toInt + (y_2491).toInt = (cd).toInt + (om).toInt := w_2488_0
                have b_y_2490 : 0 ≤ (y_2490).toInt ∧ (y_2490).toInt ≤ 1600 := dg_I.intb (lo := 0) (hi := 1600) I_2488 sM_0 (by decide +kernel) f_y_2490
                have b_y_2491 : 0 ≤ (y_2491).toInt ∧ (y_2491).toInt ≤ 500 := dg_I.intb (lo := 0) (hi := 500) I_2488 sM_0 (by decide +kernel) f_y_2491
                have w_2488_1 : TOPM S_2488 (2 : Int32) := w_2488_1
                refine lv_aload_n hx hb dX12_goesOn_359 rfl (lv_at hl 4 rfl) ?_
                refine lv_iload hx hb dX12_goesOn_360 (lv_at hl 0 rfl) ?_
                refine lv_if_eq (tgt := 370) hx hb dX12_goesOn_362 (by decide) (fun c => absurd c (fun z => absurd (dk_eqc (k := 0) (by decide +kernel) z) (by omega))) (fun _ => ?_)
                refine lv_bipush (v := 41) hx hb dX12_goesOn_365 (by decide +kernel) ?_
                refine lv_goto (tgt := 372) hx hb dX12_goesOn_367 (by decide) ?_
                refine dg_callv hS hA1 hA (va_runV (As := [.int 41]) (rest := []) F (c_m_holdsBack l g D o S_2488 41 y_2491 f_y_2491 (by omega) I_2488 H.size) (cwV 1 hts (bw_V wB_1224 wB_1225 wB_1226 wB_881 wB_1223) rfl rfl rfl (by decide +kernel) ⟨Nat.le_of_ble_eq_true rfl, Nat.le_of_ble_eq_true rfl⟩) (dg_preV sM_0 rfl K ST hP hS hA1 hA) rfl rfl hl.1 rfl (lv_room (Nat.le_of_ble_eq_true rfl)) dX12_goesOn_372 ⟨Nat.le_of_ble_eq_true rfl, Nat.le_of_ble_eq_true rfl⟩) (fun S_2492 hw_2492 H locs hP hS => ?_)
                obtain ⟨I_2492, m_2492, w_2492_0, w_2492_1, -⟩ := hw_2492
                have M_2492 := dg_sm.tr M_2488 m_2492 (by decide) (by decide)
                have hz_2493 : (41 : Int32).toInt = 41 := by decide +kernel
                obtain ⟨y_2494, f_y_2494, w_2492_0⟩ := w_2492_0
                have w_2492_0 : (y_2494).toInt = (y_2491).toInt + 1 := w_2492_0
                have b_y_2494 : 0 ≤ (y_2494).toInt ∧ (y_2494).toInt ≤ 500 := dg_I.intb (lo := 0) (hi := 500) I_2492 sM_0 (by decide +kernel) f_y_2494
                have w_2492_1 : HBM S_2488 S_2492 (41 : Int32) := w_2492_1
                refine lv_aload_n hx hb dX12_goesOn_375 rfl (lv_at hl 4 rfl) ?_
                refine dg_get (C := RX12) (T := TX12) (N := 77) hx hb hts (fun w h => bw_mem (wU_X12 w h)) hown K hP sM_0 rfl 38 (by decide) (hts _ (bw_mem wB_1214)) (fun _ h9 => h9) (v := .ref (o + 23)) (show S_2492.1 0 38 = .ref (o + 23) from dg_I.rel (d := 23) I_2492 sM_0 (by decide +kernel)) dX12_goesOn_376 ?_
                refine lv_iload_n hx hb dX12_goesOn_379 rfl (lv_at hl 3 rfl) ?_
                refine lv_iconst (v := 0) hx hb dX12_goesOn_380 (by decide +kernel) ?_
                have hin_2495 : vp_in x_5 20 := (dk_inv (by omega) (by omega))
                have hz_2497 : (0 : Int32).toInt = 0 := by decide +kernel
                refine dg_iast hx hb K hP hS hA1 sM_23 hin_2495 dX12_goesOn_381 (fun S_2496 e_2496 H locs hP hS => ?_)
                have I_2496 := dg_I.ufu (lo := 0) (hi := 2) I_2492 e_2496 sM_23 (by decide +kernel) (show 0 ≤ ((0 : Int32)).toInt ∧ ((0 : Int32)).toInt ≤ 2 from (by decide +kernel))
                have M_2496 := dg_sm.uf M_2492 e_2496 sM_23 (by decide)
                obtain ⟨x_2498, f_x_2498, b_x_2498⟩ := dg_I.int (i := 0) (k := 43) (lo := (-2147483648)) (hi := 2147483647) I_2488 sM_0 (by decide +kernel)
                obtain ⟨x_2499, f_x_2499, b_x_2499⟩ := dg_I.int (i := 0) (k := 45) (lo := 0) (hi := 500) I_2488 sM_0 (by decide +kernel)
                have hz_2500 : (0 : Int32).toInt = 0 := by decide +kernel
                refine lv_aload_n hx hb dX12_goesOn_382 rfl (lv_at hl 4 rfl) ?_
                refine dg_get (C := RX12) (T := TX12) (N := 77) hx hb hts (fun w h => bw_mem (wU_X12 w h)) hown K hP sM_0 rfl 39 (by decide) (hts _ (bw_mem wB_1215)) (fun _ h9 => h9) (v := .ref (o + 24)) (show S_2496.1 0 39 = .ref (o + 24) from dg_I.rel (d := 24) I_2496 sM_0 (by decide +kernel)) dX12_goesOn_383 ?_
                refine lv_iload_n hx hb dX12_goesOn_386 rfl (lv_at hl 3 rfl) ?_
                refine lv_iconst (v := 1) hx hb dX12_goesOn_387 (by decide +kernel) ?_
                have hin_2501 : vp_in x_5 20 := (dk_inv (by omega) (by omega))
                have hz_2503 : (1 : Int32).toInt = 1 := by decide +kernel
                refine dg_zast hx hb K hP hS hA1 sM_24 hin_2501 (by decide +kernel) dX12_goesOn_388 (fun S_2502 e_2502 H locs hP hS => ?_)
                have I_2502 := dg_I.ufu (lo := 0) (hi := 1) I_2496 e_2502 sM_24 (by decide +kernel) (show 0 ≤ ((1 : Int32)).toInt ∧ ((1 : Int32)).toInt ≤ 1 from (by decide +kernel))
                have M_2502 := dg_sm.uf M_2496 e_2502 sM_24 (by decide)
                have P0_2502 : P0M S_2502 := P1M.andor w_2488_3 (((m_2488.1 0 42 _ sM_0 (by decide)).trans (m_2.1 0 42 _ sM_0 (by decide))).trans f_dp) f_x_2498 f_x_2499 w_2488_1 m_2492 w_2492_1 (by omega) (fx := x_5) (by omega) e_2496 e_2502
                refine lv_aload_n hx hb dX12_goesOn_389 rfl (lv_at hl 4 rfl) ?_
                refine dg_callv hS hA1 hA (va_runV (As := []) (rest := []) F (c_m_ahead l g D o S_2502 se (((dg_uf_F e_2502 0 5).trans ((dg_uf_F e_2496 0 5).trans ((m_2492.1 0 5 _ sM_0 (by decide)).trans ((m_2488.1 0 5 _ sM_0 (by decide)).trans (m_2.1 0 5 _ sM_0 (by decide)))))).trans f_se) (by omega) sl (((dg_uf_F e_2502 0 2).trans ((dg_uf_F e_2496 0 2).trans ((m_2492.1 0 2 _ sM_0 (by decide)).trans ((m_2488.1 0 2 _ sM_0 (by decide)).trans (m_2.1 0 2 _ sM_0 (by decide)))))).trans f_sl) (by omega) (by omega) I_2502 H.size) (cwV 0 hts (bw_V wB_1161 wB_1162 wB_1163 wB_881 wB_1160) rfl rfl rfl (by decide +kernel) ⟨Nat.le_of_ble_eq_true rfl, Nat.le_of_ble_eq_true rfl⟩) (dg_preV sM_0 rfl K ST hP hS hA1 hA) rfl rfl hl.1 rfl (lv_room (Nat.le_of_ble_eq_true rfl)) dX12_goesOn_390 ⟨Nat.le_of_ble_eq_true rfl, Nat.le_of_ble_eq_true rfl⟩) (fun S_2504 hw_2504 H locs hP hS => ?_)
                obtain ⟨I_2504, m_2504, w_2504_0, -⟩ := hw_2504
                have M_2504 := dg_sm.tr M_2502 m_2504 (by decide) (by decide)
                obtain ⟨y_2505, y_2506, y_2507, f_y_2505, f_y_2506, f_y_2507, w_2504_0⟩ := w_2504_0
                have w_2504_0 : (se).toInt ≤ (y_2506).toInt ∧ (y_2506).toInt ≤ (y_2507).toInt ∧ (y_2507).toInt ≤ (sl).toInt ∧ ((y_2505).toInt ≠ 0 → (y_2506).toInt + 1 ≤ (y_2507).toInt) := w_2504_0
                obtain ⟨w_2504_0_0, w_2504_0_1, w_2504_0_2, w_2504_0_3⟩ := w_2504_0
                have b_y_2505 : 0 ≤ (y_2505).toInt ∧ (y_2505).toInt ≤ 3 := dg_I.intb (lo := 0) (hi := 3) I_2504 sM_0 (by decide +kernel) f_y_2505
                have b_y_2506 : 0 ≤ (y_2506).toInt ∧ (y_2506).toInt ≤ 1600 := dg_I.intb (lo := 0) (hi := 1600) I_2504 sM_0 (by decide +kernel) f_y_2506
                have b_y_2507 : 0 ≤ (y_2507).toInt ∧ (y_2507).toInt ≤ 1600 := dg_I.intb (lo := 0) (hi := 1600) I_2504 sM_0 (by decide +kernel) f_y_2507
                refine lv_aload_n hx hb dX12_goesOn_393 rfl (lv_at hl 4 rfl) ?_
                refine lv_iconst (v := 0) hx hb dX12_goesOn_394 (by decide +kernel) ?_
                have hz_2508 : (0 : Int32).toInt = 0 := by decide +kernel
                refine dg_put (ci := 12) (v := .int 0) (ty := tyX12 46) (C := RX12) (T := TX12) (N := 77) hx hb hts (fun w h => bw_mem (wU_X12 w h)) tyX12 tyX12_ok nmX12 hown K hP hS hA1 sM_0 rfl 46 (by decide) (hts _ (bw_mem wB_1237)) (fun _ h9 => h9) rfl (by decide +kernel) (by decide +kernel) (by decide +kernel) dX12_goesOn_395 (fun S_2509 e_2509 H locs hP hS => ?_)
                have I_2509 := dg_I.uFi (lo := 0) (hi := 1) I_2504 e_2509 sM_0 (by decide +kernel) (show 0 ≤ ((0 : Int32)).toInt ∧ ((0 : Int32)).toInt ≤ 1 from (by decide +kernel))
                have M_2509 := dg_sm.uF M_2504 e_2509 sM_0 (by decide)
                refine lv_iconst (v := 1) hx hb dX12_goesOn_398 (by decide +kernel) ?_
                have hz_2510 : (1 : Int32).toInt = 1 := by decide +kernel
                have hz_2511 : (1 : Int32).toInt = 1 := by decide +kernel
                obtain ⟨x_2512, f_x_2512, b_x_2512⟩ := dg_I.int (i := 0) (k := 45) (lo := 0) (hi := 500) I_2509 sM_0 (by decide +kernel)
                have hz_2513 : (0 : Int32).toInt = 0 := by decide +kernel
                have hz_2514 : (1 : Int32).toInt = 1 := by decide +kernel
                have hz_2515 : (0 : Int32).toInt = 0 := by decide +kernel
                refine W.widen (k := 0) (n := 0) (Nat.le_of_ble_eq_true rfl) (Nat.le_of_ble_eq_true rfl) ?_
                exact dg_iret hx hb hr hlocks (by decide +kernel) hP hS ⟨I_2509, M_2509, (by decide +kernel), ⟨y_2505, y_2506, y_2507, y_3, y_2490, dp, x_2512, 0, ((dg_uF_ne e_2509 (fun z => absurd z.2 (by decide))).trans f_y_2505), ((dg_uF_ne e_2509 (fun z => absurd z.2 (by decide))).trans f_y_2506), ((dg_uF_ne e_2509 (fun z => absurd z.2 (by decide))).trans f_y_2507), (((dg_uF_ne e_2509 (fun z => absurd z.2 (by decide))).trans ((m_2504.1 0 8 _ sM_0 (by decide)).trans ((dg_uf_F e_2502 0 8).trans ((dg_uf_F e_2496 0 8).trans ((m_2492.1 0 8 _ sM_0 (by decide)).trans (m_2488.1 0 8 _ sM_0 (by decide))))))).trans f_y_3), (((dg_uF_ne e_2509 (fun z => absurd z.2 (by decide))).trans ((m_2504.1 0 34 _ sM_0 (by decide)).trans ((dg_uf_F e_2502 0 34).trans ((dg_uf_F e_2496 0 34).trans (m_2492.1 0 34 _ sM_0 (by decide)))))).trans f_y_2490), (((dg_uF_ne e_2509 (fun z => absurd z.2 (by decide))).trans ((m_2504.1 0 42 _ sM_0 (by decide)).trans ((dg_uf_F e_2502 0 42).trans ((dg_uf_F e_2496 0 42).trans ((m_2492.1 0 42 _ sM_0 (by decide)).trans ((m_2488.1 0 42 _ sM_0 (by decide)).trans (m_2.1 0 42 _ sM_0 (by decide)))))))).trans f_dp), f_x_2512, (dg_uF_at e_2509), (by omega)⟩, (fun k9 hk9 hk0 => POM.mk0 (P0M.keep (P0M.keep P0_2502 m_2504 (by decide) (by decide) (by decide) (by decide) (by decide) (by decide) (by decide) (by decide) (by decide) (by decide) (by decide) (by decide) (by decide) (by decide) (by decide)) (dg_sm.uF (WF := [(0, 46)]) (WA := []) dg_sm.rf e_2509 sM_0 (by decide)) (by decide) (by decide) (by decide) (by decide) (by decide) (by decide) (by decide) (by decide) (by decide) (by decide) (by decide) (by decide) (by decide) (by decide) (by decide)) (dg_uF_at e_2509) (by omega)), (ZWM.keep (ZWM.keep (ZWM.keep (ZWM.keep (ZWM.keep w_2488_2 m_2492 (by decide) (by decide) (by decide) (by decide)) (dg_sm.uf (WF := []) (WA := [23]) dg_sm.rf e_2496 sM_23 (by decide)) (by decide) (by decide) (by decide) (by decide)) (dg_sm.uf (WF := []) (WA := [24]) dg_sm.rf e_2502 sM_24 (by decide)) (by decide) (by decide) (by decide) (by decide)) m_2504 (by decide) (by decide) (by decide) (by decide)) (dg_sm.uF (WF := [(0, 46)]) (WA := []) dg_sm.rf e_2509 sM_0 (by decide)) (by decide) (by decide) (by decide) (by decide)), trivial⟩ dX12_goesOn_399
            · have jc_2454 := dk_eqc (k := 0) (by decide +kernel) c_2454
              refine lv_aload_n hx hb dX12_goesOn_318 rfl (lv_at hl 3 rfl) ?_
              refine lv_iconst (v := 1) hx hb dX12_goesOn_319 (by decide +kernel) ?_
              refine lv_aload_n hx hb dX12_goesOn_320 rfl (lv_at hl 3 rfl) ?_
              refine dg_get (C := RX12) (T := TX12) (N := 77) hx hb hts (fun w h => bw_mem (wU_X12 w h)) hown K hP sM_0 rfl 4 (by decide) (hts _ (bw_mem wB_1145)) (fun _ h9 => h9) (v := .int sa) ((m_2.1 0 4 _ sM_0 (by decide)).trans f_sa) dX12_goesOn_321 ?_
              have hz_2516 : (1 : Int32).toInt = 1 := by decide +kernel
              refine dg_callv hS hA1 hA (va_runV (As := [.int 1, .int sa]) (rest := []) F (c_m_blame l g D o S_2 1 (by decide +kernel) sa y_3 f_y_3 (by omega) I_2 H.size) (cwV 2 hts (bw_V wB_1137 wB_1138 wB_1139 wB_881 wB_1136) rfl rfl rfl (by decide +kernel) ⟨Nat.le_of_ble_eq_true rfl, Nat.le_of_ble_eq_true rfl⟩) (dg_preV sM_0 rfl K ST hP hS hA1 hA) rfl rfl hl.1 rfl (lv_room (Nat.le_of_ble_eq_true rfl)) dX12_goesOn_324 ⟨Nat.le_of_ble_eq_true rfl, Nat.le_of_ble_eq_true rfl⟩) (fun S_2517 hw_2517 H locs hP hS => ?_)
              obtain ⟨I_2517, m_2517, w_2517_0, -⟩ := hw_2517
              have M_2517 := dg_sm.tr M_2 m_2517 (by decide) (by decide)
              have hz_2518 : (1 : Int32).toInt = 1 := by decide +kernel
              obtain ⟨y_2519, f_y_2519, w_2517_0⟩ := w_2517_0
              have w_2517_0 : ((y_3).toInt ≠ 0 → (y_2519).toInt = (y_3).toInt) ∧ ((y_3).toInt = 0 → (y_2519).toInt = ((1 : Int32)).toInt) := w_2517_0
              obtain ⟨w_2517_0_0, w_2517_0_1⟩ := w_2517_0
              clear w_2517_0_0
              have w_2517_0_1r := w_2517_0_1 (by omega)
              clear w_2517_0_1
              have b_y_2519 : 0 ≤ (y_2519).toInt ∧ (y_2519).toInt ≤ 6 := dg_I.intb (lo := 0) (hi := 6) I_2517 sM_0 (by decide +kernel) f_y_2519
              have hbl_y_2519 : 1 ≤ (y_2519).toInt := by omega
              refine lv_aload_n hx hb dX12_goesOn_327 rfl (lv_at hl 3 rfl) ?_
              refine dg_get (C := RX12) (T := TX12) (N := 77) hx hb hts (fun w h => bw_mem (wU_X12 w h)) hown K hP sM_0 rfl 8 (by decide) (hts _ (bw_mem wB_1133)) (fun _ h9 => h9) (v := .int y_2519) f_y_2519 dX12_goesOn_328 ?_
              refine lv_if_le (tgt := 336) hx hb dX12_goesOn_331 (by decide) (fun c => absurd c (fun z => absurd (dk_lec (k := 0) (by decide +kernel) z) (by omega))) (fun _ => ?_)
              refine lv_iconst (v := 0) hx hb dX12_goesOn_334 (by decide +kernel) ?_
              have hz_2520 : (0 : Int32).toInt = 0 := by decide +kernel
              have hz_2521 : (0 : Int32).toInt = 0 := by decide +kernel
              have hz_2522 : (0 : Int32).toInt = 0 := by decide +kernel
              refine W.widen (k := 0) (n := 0) (Nat.le_of_ble_eq_true rfl) (Nat.le_of_ble_eq_true rfl) ?_
              exact dg_iret hx hb hr hlocks (by decide +kernel) hP hS ⟨I_2517, M_2517, (by decide +kernel), ⟨sg, sa, se, y_2519, cd, dp, om, oo, (((m_2517.1 0 3 _ sM_0 (by decide)).trans (m_2.1 0 3 _ sM_0 (by decide))).trans f_sg), (((m_2517.1 0 4 _ sM_0 (by decide)).trans (m_2.1 0 4 _ sM_0 (by decide))).trans f_sa), (((m_2517.1 0 5 _ sM_0 (by decide)).trans (m_2.1 0 5 _ sM_0 (by decide))).trans f_se), f_y_2519, (((m_2517.1 0 34 _ sM_0 (by decide)).trans (m_2.1 0 34 _ sM_0 (by decide))).trans f_cd), (((m_2517.1 0 42 _ sM_0 (by decide)).trans (m_2.1 0 42 _ sM_0 (by decide))).trans f_dp), (((m_2517.1 0 45 _ sM_0 (by decide)).trans (m_2.1 0 45 _ sM_0 (by decide))).trans f_om), (((m_2517.1 0 46 _ sM_0 (by decide)).trans (m_2.1 0 46 _ sM_0 (by decide))).trans f_oo), (by omega)⟩, (fun k9 hk9 hk0 => by have q9 := (f_y_2519).symm.trans hk9; cases q9; omega), (ZWM.keep (ZWM.keep ZW m_2 (by decide) (by decide) (by decide) (by decide)) m_2517 (by decide) (by decide) (by decide) (by decide)), trivial⟩ dX12_goesOn_335
          refine lv_if_ne (tgt := 309) hx hb dX12_goesOn_296 (by decide) (fun c_2523 => ?_) (fun c_2523 => ?_)
          · have jc_2523 := dk_neqc (k := 0) (by decide +kernel) c_2523
            have w_2375_1_r := w_2375_1 (by omega)
            clear w_2375_1
            exact J_2451 ()  (by omega) _ _ hP hS _ (lv_sub hl [0, 1, 2, 3] rfl)
          · have jc_2523 := dk_eqc (k := 0) (by decide +kernel) c_2523
            clear w_2375_1
            refine lv_aload_n hx hb dX12_goesOn_299 rfl (lv_at hl 3 rfl) ?_
            refine lv_ldc2 hx hb hown (hts _ (bw_mem wB_1189)) dX12_goesOn_300 ?_
            refine dg_calli hS hA1 hA (va_runV (As := [.long 28530]) (rest := []) F (c_m_isWord l g D o S_2 28530 sg ((m_2.1 0 3 _ sM_0 (by decide)).trans f_sg) (by omega) I_2 H.size) (cwV 1 hts (bw_V wB_1165 wB_1166 wB_1167 wB_881 wB_1164) rfl rfl rfl (by decide +kernel) ⟨Nat.le_of_ble_eq_true rfl, Nat.le_of_ble_eq_true rfl⟩) (dg_preV sM_0 rfl K ST hP hS hA1 hA) rfl rfl hl.1 rfl (lv_room (Nat.le_of_ble_eq_true rfl)) dX12_goesOn_303 ⟨Nat.le_of_ble_eq_true rfl, Nat.le_of_ble_eq_true rfl⟩) (fun x_2524 S_2525 hw_2525 H locs hP hS => ?_)
            rw [hw_2525.1] at hP
            obtain ⟨hq_2525, w_2525_0, w_2525_1, -⟩ := hw_2525
            have w_2525_0 : 0 ≤ (x_2524).toInt ∧ (x_2524).toInt ≤ 1 := w_2525_0
            have w_2525_1 : (x_2524).toInt = 1 → (sg).toInt = 1 := w_2525_1
            refine lv_if_eq (tgt := 400) hx hb dX12_goesOn_306 (by decide) (fun c_2526 => ?_) (fun c_2526 => ?_)
            · have jc_2526 := dk_eqc (k := 0) (by decide +kernel) c_2526
              clear w_2525_1
              exact J_1632   _ _ hP hS _ (lv_sub hl [0, 1, 2, 3] rfl)
            · have jc_2526 := dk_neqc (k := 0) (by decide +kernel) c_2526
              have w_2525_1_r := w_2525_1 (by omega)
              clear w_2525_1
              exact J_2451 ()  (by omega) _ _ hP hS _ (lv_sub hl [0, 1, 2, 3] rfl)
      refine lv_if_eq (tgt := 285) hx hb dX12_goesOn_189 (by decide) (fun c_2527 => ?_) (fun c_2527 => ?_)
      · have jc_2527 := dk_eqc (k := 0) (by decide +kernel) c_2527
        clear w_9_1
        exact J_1242   _ _ hP hS _ (lv_sub hl [0, 1, 2, 3] rfl)
      · have jc_2527 := dk_neqc (k := 0) (by decide +kernel) c_2527
        have w_9_1_r := w_9_1.mp (by omega)
        clear w_9_1
        refine lv_aload_n hx hb dX12_goesOn_192 rfl (lv_at hl 3 rfl) ?_
        refine dg_get (C := RX12) (T := TX12) (N := 77) hx hb hts (fun w h => bw_mem (wU_X12 w h)) hown K hP sM_0 rfl 38 (by decide) (hts _ (bw_mem wB_1214)) (fun _ h9 => h9) (v := .ref (o + 23)) (show S_2.1 0 38 = .ref (o + 23) from dg_I.rel (d := 23) I_2 sM_0 (by decide +kernel)) dX12_goesOn_193 ?_
        refine lv_iload_n hx hb dX12_goesOn_196 rfl (lv_at hl 2 rfl) ?_
        have hin_2528 : vp_in x_5 20 := (dk_inv (by omega) (by omega))
        refine dg_iald hx hb K hP sM_23 hin_2528 dX12_goesOn_197 (fun y_2529 ey_2529 => ?_)
        obtain rfl : x_11 = y_2529 := (ey_2529.trans ex_11.symm).symm
        refine lv_if_ne (tgt := 285) hx hb dX12_goesOn_198 (by decide) (fun c_2530 => ?_) (fun c_2530 => ?_)
        · have jc_2530 := dk_neqc (k := 0) (by decide +kernel) c_2530
          exact J_1242   _ _ hP hS _ (lv_sub hl [0, 1, 2, 3] rfl)
        · have jc_2530 := dk_eqc (k := 0) (by decide +kernel) c_2530
          refine lv_aload_n hx hb dX12_goesOn_201 rfl (lv_at hl 3 rfl) ?_
          refine lv_bipush (v := 60) hx hb dX12_goesOn_202 (by decide +kernel) ?_
          refine dg_calli hS hA1 hA (va_runV (As := [.int 60]) (rest := []) F (c_m_isSign l g D o S_2 60 sg ((m_2.1 0 3 _ sM_0 (by decide)).trans f_sg) (by omega) va ((m_2.1 0 6 _ sM_0 (by decide)).trans f_va) (by omega) I_2 H.size) (cwV 1 hts (bw_V wB_1157 wB_1158 wB_1159 wB_881 wB_1156) rfl rfl rfl (by decide +kernel) ⟨Nat.le_of_ble_eq_true rfl, Nat.le_of_ble_eq_true rfl⟩) (dg_preV sM_0 rfl K ST hP hS hA1 hA) rfl rfl hl.1 rfl (lv_room (Nat.le_of_ble_eq_true rfl)) dX12_goesOn_204 ⟨Nat.le_of_ble_eq_true rfl, Nat.le_of_ble_eq_true rfl⟩) (fun x_2531 S_2532 hw_2532 H locs hP hS => ?_)
          rw [hw_2532.1] at hP
          obtain ⟨hq_2532, w_2532_0, w_2532_1, -⟩ := hw_2532
          have hz_2533 : (60 : Int32).toInt = 60 := by decide +kernel
          have w_2532_0 : 0 ≤ (x_2531).toInt ∧ (x_2531).toInt ≤ 1 := w_2532_0
          have w_2532_1 : (x_2531).toInt = 1 ↔ ((sg).toInt = 3 ∧ (va).toInt = ((60 : Int32)).toInt) := w_2532_1
          have J_2579 : ∀ (u9 : Unit), ((sg).toInt = 3) → ∀ (H : Heap) (locs : List Loc), va_P D vwCl (dg_w g shM o rfM S_2) H → va_S A s.heap H locs → ∀ ls : Array Slot, lv_has ls 5 [(3, .int x_8), (2, .int x_7), (1, .int x_5), (0, .ref (o + 0))] → W p l e ({ frames := 3, cells := 0, slots := 0, locals := 77 } : Room) s m args below meth c H locs 0 0 (MQ below (va_Qi (fun (r : Int32) S' => CM o S' ∧ dg_sm shM [(0, 3), (0, 4), (0, 5), (0, 6), (0, 7), (0, 8), (0, 9), (0, 12), (0, 34), (0, 42), (0, 43), (0, 45), (0, 46)] [18, 19, 22, 23, 24, 27] S S' ∧ (0 ≤ (r).toInt ∧ (r).toInt ≤ 1) ∧ (∃ y9_3 y9_4 y9_5 y9_8 y9_34 y9_42 y9_45 y9_46 : Int32, S'.1 0 3 = .int y9_3 ∧ S'.1 0 4 = .int y9_4 ∧ S'.1 0 5 = .int y9_5 ∧ S'.1 0 8 = .int y9_8 ∧ S'.1 0 34 = .int y9_34 ∧ S'.1 0 42 = .int y9_42 ∧ S'.1 0 45 = .int y9_45 ∧ S'.1 0 46 = .int y9_46 ∧ (((y9_4).toInt ≤ (y9_5).toInt ∧ (y9_5).toInt ≤ (sl).toInt ∧ ((y9_3).toInt ≠ 0 → (y9_4).toInt + 1 ≤ (y9_5).toInt)) ∧ (sa).toInt ≤ (y9_4).toInt ∧ ((fk).toInt ≠ 0 → (y9_8).toInt ≠ 0) ∧ (((y9_8).toInt = 0 → (r).toInt = 1 → (sa).toInt + 1 ≤ (y9_4).toInt) ∧ ((y9_8).toInt = 0 → (y9_34).toInt + (y9_45).toInt + (y9_42).toInt ≤ (y9_4).toInt)))) ∧ (∀ k9 : Int32, S'.1 0 8 = .int k9 → k9.toInt = 0 → POM S') ∧ ZWM S' ∧ True) (dg_B g D shM o rfM) A) args s 0 0 A) (F0 m 228 ls []) := by
            intro u9 rel_0 H locs hP hS ls hl
            clear w_2532_1
            refine lv_aload_n hx hb dX12_goesOn_228 rfl (lv_at hl 3 rfl) ?_
            refine lv_iconst (v := 5) hx hb dX12_goesOn_229 (by decide +kernel) ?_
            have hz_2580 : (5 : Int32).toInt = 5 := by decide +kernel
            refine dg_callv hS hA1 hA (va_runV (As := [.int 5]) (rest := []) F (c_m_joins l g D o S_2 5 (by decide +kernel) cd ((m_2.1 0 34 _ sM_0 (by decide)).trans f_cd) (by omega) om ((m_2.1 0 45 _ sM_0 (by decide)).trans f_om) (by omega) (by omega) (ZWM.keep ZW m_2 (by decide) (by decide) (by decide) (by decide)) (ZKM.keep ZK m_2 (by decide) (by decide)) (P1M.keep P1 m_2 (by decide) (by decide) (by decide) (by decide) (by decide) (by decide) (by decide) (by decide) (by decide) (by decide) (by decide) (by decide) (by decide) (by decide) (by decide)) I_2 H.size) (cwV 1 hts (bw_V wB_1234 wB_1235 wB_1236 wB_881 wB_1233) rfl rfl rfl (by decide +kernel) ⟨Nat.le_of_ble_eq_true rfl, Nat.le_of_ble_eq_true rfl⟩) (dg_preV sM_0 rfl K ST hP hS hA1 hA) rfl rfl hl.1 rfl (lv_room (Nat.le_of_ble_eq_true rfl)) dX12_goesOn_230 ⟨Nat.le_of_ble_eq_true rfl, Nat.le_of_ble_eq_true rfl⟩) (fun S_2581 hw_2581 H locs hP hS => ?_)
            obtain ⟨I_2581, m_2581, w_2581_0, w_2581_1, w_2581_2, w_2581_3, -⟩ := hw_2581
            have M_2581 := dg_sm.tr M_2 m_2581 (by decide) (by decide)
            have hz_2582 : (5 : Int32).toInt = 5 := by decide +kernel
            obtain ⟨y_2583, y_2584, f_y_2583, f_y_2584, w_2581_0⟩ := w_2581_0
            have w_2581_0 : (y_2583).toInt + (y_2584).toInt = (cd).toInt + (om).toInt := w_2581_0
            have b_y_2583 : 0 ≤ (y_2583).toInt ∧ (y_2583).toInt ≤ 1600 := dg_I.intb (lo := 0) (hi := 1600) I_2581 sM_0 (by decide +kernel) f_y_2583
            have b_y_2584 : 0 ≤ (y_2584).toInt ∧ (y_2584).toInt ≤ 500 := dg_I.intb (lo := 0) (hi := 500) I_2581 sM_0 (by decide +kernel) f_y_2584
            have w_2581_1 : TOPM S_2581 (5 : Int32) := w_2581_1
            refine lv_aload_n hx hb dX12_goesOn_233 rfl (lv_at hl 3 rfl) ?_
            refine lv_aload_n hx hb dX12_goesOn_234 rfl (lv_at hl 3 rfl) ?_
            refine lv_bipush (v := 60) hx hb dX12_goesOn_235 (by decide +kernel) ?_
            refine dg_calli hS hA1 hA (va_runV (As := [.int 60]) (rest := [.ref (o + 0)]) F (c_m_isSign l g D o S_2581 60 sg (((m_2581.1 0 3 _ sM_0 (by decide)).trans (m_2.1 0 3 _ sM_0 (by decide))).trans f_sg) (by omega) va (((m_2581.1 0 6 _ sM_0 (by decide)).trans (m_2.1 0 6 _ sM_0 (by decide))).trans f_va) (by omega) I_2581 H.size) (cwV 1 hts (bw_V wB_1157 wB_1158 wB_1159 wB_881 wB_1156) rfl rfl rfl (by decide +kernel) ⟨Nat.le_of_ble_eq_true rfl, Nat.le_of_ble_eq_true rfl⟩) (dg_preV sM_0 rfl K ST hP hS hA1 hA) rfl rfl hl.1 rfl (lv_room (Nat.le_of_ble_eq_true rfl)) dX12_goesOn_237 ⟨Nat.le_of_ble_eq_true rfl, Nat.le_of_ble_eq_true rfl⟩) (fun x_2585 S_2586 hw_2586 H locs hP hS => ?_)
            rw [hw_2586.1] at hP
            obtain ⟨hq_2586, w_2586_0, w_2586_1, -⟩ := hw_2586
            have hz_2587 : (60 : Int32).toInt = 60 := by decide +kernel
            have w_2586_0 : 0 ≤ (x_2585).toInt ∧ (x_2585).toInt ≤ 1 := w_2586_0
            have w_2586_1 : (x_2585).toInt = 1 ↔ ((sg).toInt = 3 ∧ (va).toInt = ((60 : Int32)).toInt) := w_2586_1
            have J_2616 : ∀ (x_2593 : Int32), (38 ≤ (x_2593).toInt ∧ (x_2593).toInt ≤ 40) → ∀ (H : Heap) (locs : List Loc), va_P D vwCl (dg_w g shM o rfM S_2581) H → va_S A s.heap H locs → ∀ ls : Array Slot, lv_has ls 5 [(3, .int x_8), (2, .int x_7), (1, .int x_5), (0, .ref (o + 0))] → W p l e ({ frames := 3, cells := 0, slots := 0, locals := 77 } : Room) s m args below meth c H locs 0 0 (MQ below (va_Qi (fun (r : Int32) S' => CM o S' ∧ dg_sm shM [(0, 3), (0, 4), (0, 5), (0, 6), (0, 7), (0, 8), (0, 9), (0, 12), (0, 34), (0, 42), (0, 43), (0, 45), (0, 46)] [18, 19, 22, 23, 24, 27] S S' ∧ (0 ≤ (r).toInt ∧ (r).toInt ≤ 1) ∧ (∃ y9_3 y9_4 y9_5 y9_8 y9_34 y9_42 y9_45 y9_46 : Int32, S'.1 0 3 = .int y9_3 ∧ S'.1 0 4 = .int y9_4 ∧ S'.1 0 5 = .int y9_5 ∧ S'.1 0 8 = .int y9_8 ∧ S'.1 0 34 = .int y9_34 ∧ S'.1 0 42 = .int y9_42 ∧ S'.1 0 45 = .int y9_45 ∧ S'.1 0 46 = .int y9_46 ∧ (((y9_4).toInt ≤ (y9_5).toInt ∧ (y9_5).toInt ≤ (sl).toInt ∧ ((y9_3).toInt ≠ 0 → (y9_4).toInt + 1 ≤ (y9_5).toInt)) ∧ (sa).toInt ≤ (y9_4).toInt ∧ ((fk).toInt ≠ 0 → (y9_8).toInt ≠ 0) ∧ (((y9_8).toInt = 0 → (r).toInt = 1 → (sa).toInt + 1 ≤ (y9_4).toInt) ∧ ((y9_8).toInt = 0 → (y9_34).toInt + (y9_45).toInt + (y9_42).toInt ≤ (y9_4).toInt)))) ∧ (∀ k9 : Int32, S'.1 0 8 = .int k9 → k9.toInt = 0 → POM S') ∧ ZWM S' ∧ True) (dg_B g D shM o rfM) A) args s 0 0 A) (F0 m 264 ls [.int x_2593, .ref (o + 0)]) := by
              intro x_2593 b_x_2593 H locs hP hS ls hl
              clear w_2586_1
              refine dg_callv hS hA1 hA (va_runV (As := [.int x_2593]) (rest := []) F (c_m_holdsBack l g D o S_2581 x_2593 y_2584 f_y_2584 (by omega) I_2581 H.size) (cwV 1 hts (bw_V wB_1224 wB_1225 wB_1226 wB_881 wB_1223) rfl rfl rfl (by decide +kernel) ⟨Nat.le_of_ble_eq_true rfl, Nat.le_of_ble_eq_true rfl⟩) (dg_preV sM_0 rfl K ST hP hS hA1 hA) rfl rfl hl.1 rfl (lv_room (Nat.le_of_ble_eq_true rfl)) dX12_goesOn_264 ⟨Nat.le_of_ble_eq_true rfl, Nat.le_of_ble_eq_true rfl⟩) (fun S_2617 hw_2617 H locs hP hS => ?_)
              obtain ⟨I_2617, m_2617, w_2617_0, w_2617_1, -⟩ := hw_2617
              have M_2617 := dg_sm.tr M_2581 m_2617 (by decide) (by decide)
              obtain ⟨y_2618, f_y_2618, w_2617_0⟩ := w_2617_0
              have w_2617_0 : (y_2618).toInt = (y_2584).toInt + 1 := w_2617_0
              have b_y_2618 : 0 ≤ (y_2618).toInt ∧ (y_2618).toInt ≤ 500 := dg_I.intb (lo := 0) (hi := 500) I_2617 sM_0 (by decide +kernel) f_y_2618
              have w_2617_1 : HBM S_2581 S_2617 x_2593 := w_2617_1
              refine lv_aload_n hx hb dX12_goesOn_267 rfl (lv_at hl 3 rfl) ?_
              refine dg_get (C := RX12) (T := TX12) (N := 77) hx hb hts (fun w h => bw_mem (wU_X12 w h)) hown K hP sM_0 rfl 38 (by decide) (hts _ (bw_mem wB_1214)) (fun _ h9 => h9) (v := .ref (o + 23)) (show S_2617.1 0 38 = .ref (o + 23) from dg_I.rel (d := 23) I_2617 sM_0 (by decide +kernel)) dX12_goesOn_268 ?_
              refine lv_iload_n hx hb dX12_goesOn_271 rfl (lv_at hl 2 rfl) ?_
              refine lv_iconst (v := 1) hx hb dX12_goesOn_272 (by decide +kernel) ?_
              have hin_2619 : vp_in x_5 20 := (dk_inv (by omega) (by omega))
              have hz_2621 : (1 : Int32).toInt = 1 := by decide +kernel
              refine dg_iast hx hb K hP hS hA1 sM_23 hin_2619 dX12_goesOn_273 (fun S_2620 e_2620 H locs hP hS => ?_)
              have I_2620 := dg_I.ufu (lo := 0) (hi := 2) I_2617 e_2620 sM_23 (by decide +kernel) (show 0 ≤ ((1 : Int32)).toInt ∧ ((1 : Int32)).toInt ≤ 2 from (by decide +kernel))
              have M_2620 := dg_sm.uf M_2617 e_2620 sM_23 (by decide)
              obtain ⟨x_2622, f_x_2622, b_x_2622⟩ := dg_I.int (i := 0) (k := 43) (lo := (-2147483648)) (hi := 2147483647) I_2581 sM_0 (by decide +kernel)
              obtain ⟨x_2623, f_x_2623, b_x_2623⟩ := dg_I.int (i := 0) (k := 45) (lo := 0) (hi := 500) I_2581 sM_0 (by decide +kernel)
              have hz_2624 : (1 : Int32).toInt = 1 := by decide +kernel
              obtain ⟨x_2625, f_x_2625⟩ : ∃ x, S_2581.2.1 23 (x_5 : Int32).toNatClampNeg = x := ⟨_, rfl⟩
              have hin_2626 : vp_in (x_5 : Int32) 20 := (dk_inv (by omega) (by omega))
              have b_x_2625 := dk_all_at (dg_I.row (lo := 0) (hi := 2) I_2581 sM_23 (by decide +kernel)) hin_2626 f_x_2625.symm
              have P0_2620 : P0M S_2620 := P1M.cmp w_2581_3 (((m_2581.1 0 42 _ sM_0 (by decide)).trans (m_2.1 0 42 _ sM_0 (by decide))).trans f_dp) f_x_2622 f_x_2623 w_2581_1 (by omega) m_2617 w_2617_1 (by omega) (fx := x_5) (by omega) ((congrFun (m_2581.2 22 _ sM_22 (by decide)).1 _).trans ex_7.symm) (by unfold dk_ts; omega) (by rw [f_x_2625]; omega) e_2620 (by omega)
              refine lv_aload_n hx hb dX12_goesOn_274 rfl (lv_at hl 3 rfl) ?_
              refine dg_callv hS hA1 hA (va_runV (As := []) (rest := []) F (c_m_ahead l g D o S_2620 se (((dg_uf_F e_2620 0 5).trans ((m_2617.1 0 5 _ sM_0 (by decide)).trans ((m_2581.1 0 5 _ sM_0 (by decide)).trans (m_2.1 0 5 _ sM_0 (by decide))))).trans f_se) (by omega) sl (((dg_uf_F e_2620 0 2).trans ((m_2617.1 0 2 _ sM_0 (by decide)).trans ((m_2581.1 0 2 _ sM_0 (by decide)).trans (m_2.1 0 2 _ sM_0 (by decide))))).trans f_sl) (by omega) (by omega) I_2620 H.size) (cwV 0 hts (bw_V wB_1161 wB_1162 wB_1163 wB_881 wB_1160) rfl rfl rfl (by decide +kernel) ⟨Nat.le_of_ble_eq_true rfl, Nat.le_of_ble_eq_true rfl⟩) (dg_preV sM_0 rfl K ST hP hS hA1 hA) rfl rfl hl.1 rfl (lv_room (Nat.le_of_ble_eq_true rfl)) dX12_goesOn_275 ⟨Nat.le_of_ble_eq_true rfl, Nat.le_of_ble_eq_true rfl⟩) (fun S_2627 hw_2627 H locs hP hS => ?_)
              obtain ⟨I_2627, m_2627, w_2627_0, -⟩ := hw_2627
              have M_2627 := dg_sm.tr M_2620 m_2627 (by decide) (by decide)
              obtain ⟨y_2628, y_2629, y_2630, f_y_2628, f_y_2629, f_y_2630, w_2627_0⟩ := w_2627_0
              have w_2627_0 : (se).toInt ≤ (y_2629).toInt ∧ (y_2629).toInt ≤ (y_2630).toInt ∧ (y_2630).toInt ≤ (sl).toInt ∧ ((y_2628).toInt ≠ 0 → (y_2629).toInt + 1 ≤ (y_2630).toInt) := w_2627_0
              obtain ⟨w_2627_0_0, w_2627_0_1, w_2627_0_2, w_2627_0_3⟩ := w_2627_0
              have b_y_2628 : 0 ≤ (y_2628).toInt ∧ (y_2628).toInt ≤ 3 := dg_I.intb (lo := 0) (hi := 3) I_2627 sM_0 (by decide +kernel) f_y_2628
              have b_y_2629 : 0 ≤ (y_2629).toInt ∧ (y_2629).toInt ≤ 1600 := dg_I.intb (lo := 0) (hi := 1600) I_2627 sM_0 (by decide +kernel) f_y_2629
              have b_y_2630 : 0 ≤ (y_2630).toInt ∧ (y_2630).toInt ≤ 1600 := dg_I.intb (lo := 0) (hi := 1600) I_2627 sM_0 (by decide +kernel) f_y_2630
              refine lv_aload_n hx hb dX12_goesOn_278 rfl (lv_at hl 3 rfl) ?_
              refine lv_iconst (v := 0) hx hb dX12_goesOn_279 (by decide +kernel) ?_
              have hz_2631 : (0 : Int32).toInt = 0 := by decide +kernel
              refine dg_put (ci := 12) (v := .int 0) (ty := tyX12 46) (C := RX12) (T := TX12) (N := 77) hx hb hts (fun w h => bw_mem (wU_X12 w h)) tyX12 tyX12_ok nmX12 hown K hP hS hA1 sM_0 rfl 46 (by decide) (hts _ (bw_mem wB_1237)) (fun _ h9 => h9) rfl (by decide +kernel) (by decide +kernel) (by decide +kernel) dX12_goesOn_280 (fun S_2632 e_2632 H locs hP hS => ?_)
              have I_2632 := dg_I.uFi (lo := 0) (hi := 1) I_2627 e_2632 sM_0 (by decide +kernel) (show 0 ≤ ((0 : Int32)).toInt ∧ ((0 : Int32)).toInt ≤ 1 from (by decide +kernel))
              have M_2632 := dg_sm.uF M_2627 e_2632 sM_0 (by decide)
              refine lv_iconst (v := 1) hx hb dX12_goesOn_283 (by decide +kernel) ?_
              have hz_2633 : (1 : Int32).toInt = 1 := by decide +kernel
              have hz_2634 : (1 : Int32).toInt = 1 := by decide +kernel
              obtain ⟨x_2635, f_x_2635, b_x_2635⟩ := dg_I.int (i := 0) (k := 45) (lo := 0) (hi := 500) I_2632 sM_0 (by decide +kernel)
              have hz_2636 : (0 : Int32).toInt = 0 := by decide +kernel
              have hz_2637 : (1 : Int32).toInt = 1 := by decide +kernel
              have hz_2638 : (0 : Int32).toInt = 0 := by decide +kernel
              refine W.widen (k := 0) (n := 0) (Nat.le_of_ble_eq_true rfl) (Nat.le_of_ble_eq_true rfl) ?_
              exact dg_iret hx hb hr hlocks (by decide +kernel) hP hS ⟨I_2632, M_2632, (by decide +kernel), ⟨y_2628, y_2629, y_2630, y_3, y_2583, dp, x_2635, 0, ((dg_uF_ne e_2632 (fun z => absurd z.2 (by decide))).trans f_y_2628), ((dg_uF_ne e_2632 (fun z => absurd z.2 (by decide))).trans f_y_2629), ((dg_uF_ne e_2632 (fun z => absurd z.2 (by decide))).trans f_y_2630), (((dg_uF_ne e_2632 (fun z => absurd z.2 (by decide))).trans ((m_2627.1 0 8 _ sM_0 (by decide)).trans ((dg_uf_F e_2620 0 8).trans ((m_2617.1 0 8 _ sM_0 (by decide)).trans (m_2581.1 0 8 _ sM_0 (by decide)))))).trans f_y_3), (((dg_uF_ne e_2632 (fun z => absurd z.2 (by decide))).trans ((m_2627.1 0 34 _ sM_0 (by decide)).trans ((dg_uf_F e_2620 0 34).trans (m_2617.1 0 34 _ sM_0 (by decide))))).trans f_y_2583), (((dg_uF_ne e_2632 (fun z => absurd z.2 (by decide))).trans ((m_2627.1 0 42 _ sM_0 (by decide)).trans ((dg_uf_F e_2620 0 42).trans ((m_2617.1 0 42 _ sM_0 (by decide)).trans ((m_2581.1 0 42 _ sM_0 (by decide)).trans (m_2.1 0 42 _ sM_0 (by decide))))))).trans f_dp), f_x_2635, (dg_uF_at e_2632), (by omega)⟩, (fun k9 hk9 hk0 => POM.mk0 (P0M.keep (P0M.keep P0_2620 m_2627 (by decide) (by decide) (by decide) (by decide) (by decide) (by decide) (by decide) (by decide) (by decide) (by decide) (by decide) (by decide) (by decide) (by decide) (by decide)) (dg_sm.uF (WF := [(0, 46)]) (WA := []) dg_sm.rf e_2632 sM_0 (by decide)) (by decide) (by decide) (by decide) (by decide) (by decide) (by decide) (by decide) (by decide) (by decide) (by decide) (by decide) (by decide) (by decide) (by decide) (by decide)) (dg_uF_at e_2632) (by omega)), (ZWM.keep (ZWM.keep (ZWM.keep (ZWM.keep w_2581_2 m_2617 (by decide) (by decide) (by decide) (by decide)) (dg_sm.uf (WF := []) (WA := [23]) dg_sm.rf e_2620 sM_23 (by decide)) (by decide) (by decide) (by decide) (by decide)) m_2627 (by decide) (by decide) (by decide) (by decide)) (dg_sm.uF (WF := [(0, 46)]) (WA := []) dg_sm.rf e_2632 sM_0 (by decide)) (by decide) (by decide) (by decide) (by decide)), trivial⟩ dX12_goesOn_284
            refine lv_if_eq (tgt := 248) hx hb dX12_goesOn_240 (by decide) (fun c_2639 => ?_) (fun c_2639 => ?_)
            · have jc_2639 := dk_eqc (k := 0) (by decide +kernel) c_2639
              clear w_2586_1
              refine lv_aload_n hx hb dX12_goesOn_248 rfl (lv_at hl 3 rfl) ?_
              refine lv_bipush (v := 62) hx hb dX12_goesOn_249 (by decide +kernel) ?_
              refine dg_calli hS hA1 hA (va_runV (As := [.int 62]) (rest := [.ref (o + 0)]) F (c_m_isSign l g D o S_2581 62 sg (((m_2581.1 0 3 _ sM_0 (by decide)).trans (m_2.1 0 3 _ sM_0 (by decide))).trans f_sg) (by omega) va (((m_2581.1 0 6 _ sM_0 (by decide)).trans (m_2.1 0 6 _ sM_0 (by decide))).trans f_va) (by omega) I_2581 H.size) (cwV 1 hts (bw_V wB_1157 wB_1158 wB_1159 wB_881 wB_1156) rfl rfl rfl (by decide +kernel) ⟨Nat.le_of_ble_eq_true rfl, Nat.le_of_ble_eq_true rfl⟩) (dg_preV sM_0 rfl K ST hP hS hA1 hA) rfl rfl hl.1 rfl (lv_room (Nat.le_of_ble_eq_true rfl)) dX12_goesOn_251 ⟨Nat.le_of_ble_eq_true rfl, Nat.le_of_ble_eq_true rfl⟩) (fun x_2640 S_2641 hw_2641 H locs hP hS => ?_)
              rw [hw_2641.1] at hP
              obtain ⟨hq_2641, w_2641_0, w_2641_1, -⟩ := hw_2641
              have hz_2642 : (62 : Int32).toInt = 62 := by decide +kernel
              have w_2641_0 : 0 ≤ (x_2640).toInt ∧ (x_2640).toInt ≤ 1 := w_2641_0
              have w_2641_1 : (x_2640).toInt = 1 ↔ ((sg).toInt = 3 ∧ (va).toInt = ((62 : Int32)).toInt) := w_2641_1
              refine lv_if_eq (tgt := 262) hx hb dX12_goesOn_254 (by decide) (fun c_2643 => ?_) (fun c_2643 => ?_)
              · have jc_2643 := dk_eqc (k := 0) (by decide +kernel) c_2643
                clear w_2641_1
                refine lv_bipush (v := 40) hx hb dX12_goesOn_262 (by decide +kernel) ?_
                have hz_2644 : (40 : Int32).toInt = 40 := by decide +kernel
                exact J_2616 40 (by decide +kernel) _ _ hP hS _ (lv_sub hl [0, 1, 2, 3] rfl)
              · have jc_2643 := dk_neqc (k := 0) (by decide +kernel) c_2643
                have w_2641_1_r := w_2641_1.mp (by omega)
                clear w_2641_1
                refine lv_bipush (v := 39) hx hb dX12_goesOn_257 (by decide +kernel) ?_
                refine lv_goto (tgt := 264) hx hb dX12_goesOn_259 (by decide) ?_
                have hz_2645 : (39 : Int32).toInt = 39 := by decide +kernel
                exact J_2616 39 (by decide +kernel) _ _ hP hS _ (lv_sub hl [0, 1, 2, 3] rfl)
            · have jc_2639 := dk_neqc (k := 0) (by decide +kernel) c_2639
              have w_2586_1_r := w_2586_1.mp (by omega)
              clear w_2586_1
              refine lv_bipush (v := 38) hx hb dX12_goesOn_243 (by decide +kernel) ?_
              refine lv_goto (tgt := 264) hx hb dX12_goesOn_245 (by decide) ?_
              have hz_2646 : (38 : Int32).toInt = 38 := by decide +kernel
              exact J_2616 38 (by decide +kernel) _ _ hP hS _ (lv_sub hl [0, 1, 2, 3] rfl)
          refine lv_if_ne (tgt := 228) hx hb dX12_goesOn_207 (by decide) (fun c_2647 => ?_) (fun c_2647 => ?_)
          · have jc_2647 := dk_neqc (k := 0) (by decide +kernel) c_2647
            have w_2532_1_r := w_2532_1.mp (by omega)
            clear w_2532_1
            exact J_2579 ()  (by omega) _ _ hP hS _ (lv_sub hl [0, 1, 2, 3] rfl)
          · have jc_2647 := dk_eqc (k := 0) (by decide +kernel) c_2647
            clear w_2532_1
            refine lv_aload_n hx hb dX12_goesOn_210 rfl (lv_at hl 3 rfl) ?_
            refine lv_bipush (v := 62) hx hb dX12_goesOn_211 (by decide +kernel) ?_
            refine dg_calli hS hA1 hA (va_runV (As := [.int 62]) (rest := []) F (c_m_isSign l g D o S_2 62 sg ((m_2.1 0 3 _ sM_0 (by decide)).trans f_sg) (by omega) va ((m_2.1 0 6 _ sM_0 (by decide)).trans f_va) (by omega) I_2 H.size) (cwV 1 hts (bw_V wB_1157 wB_1158 wB_1159 wB_881 wB_1156) rfl rfl rfl (by decide +kernel) ⟨Nat.le_of_ble_eq_true rfl, Nat.le_of_ble_eq_true rfl⟩) (dg_preV sM_0 rfl K ST hP hS hA1 hA) rfl rfl hl.1 rfl (lv_room (Nat.le_of_ble_eq_true rfl)) dX12_goesOn_213 ⟨Nat.le_of_ble_eq_true rfl, Nat.le_of_ble_eq_true rfl⟩) (fun x_2648 S_2649 hw_2649 H locs hP hS => ?_)
            rw [hw_2649.1] at hP
            obtain ⟨hq_2649, w_2649_0, w_2649_1, -⟩ := hw_2649
            have hz_2650 : (62 : Int32).toInt = 62 := by decide +kernel
            have w_2649_0 : 0 ≤ (x_2648).toInt ∧ (x_2648).toInt ≤ 1 := w_2649_0
            have w_2649_1 : (x_2648).toInt = 1 ↔ ((sg).toInt = 3 ∧ (va).toInt = ((62 : Int32)).toInt) := w_2649_1
            refine lv_if_ne (tgt := 228) hx hb dX12_goesOn_216 (by decide) (fun c_2651 => ?_) (fun c_2651 => ?_)
            · have jc_2651 := dk_neqc (k := 0) (by decide +kernel) c_2651
              have w_2649_1_r := w_2649_1.mp (by omega)
              clear w_2649_1
              exact J_2579 ()  (by omega) _ _ hP hS _ (lv_sub hl [0, 1, 2, 3] rfl)
            · have jc_2651 := dk_eqc (k := 0) (by decide +kernel) c_2651
              clear w_2649_1
              refine lv_aload_n hx hb dX12_goesOn_219 rfl (lv_at hl 3 rfl) ?_
              refine lv_bipush (v := 61) hx hb dX12_goesOn_220 (by decide +kernel) ?_
              refine dg_calli hS hA1 hA (va_runV (As := [.int 61]) (rest := []) F (c_m_isSign l g D o S_2 61 sg ((m_2.1 0 3 _ sM_0 (by decide)).trans f_sg) (by omega) va ((m_2.1 0 6 _ sM_0 (by decide)).trans f_va) (by omega) I_2 H.size) (cwV 1 hts (bw_V wB_1157 wB_1158 wB_1159 wB_881 wB_1156) rfl rfl rfl (by decide +kernel) ⟨Nat.le_of_ble_eq_true rfl, Nat.le_of_ble_eq_true rfl⟩) (dg_preV sM_0 rfl K ST hP hS hA1 hA) rfl rfl hl.1 rfl (lv_room (Nat.le_of_ble_eq_true rfl)) dX12_goesOn_222 ⟨Nat.le_of_ble_eq_true rfl, Nat.le_of_ble_eq_true rfl⟩) (fun x_2652 S_2653 hw_2653 H locs hP hS => ?_)
              rw [hw_2653.1] at hP
              obtain ⟨hq_2653, w_2653_0, w_2653_1, -⟩ := hw_2653
              have hz_2654 : (61 : Int32).toInt = 61 := by decide +kernel
              have w_2653_0 : 0 ≤ (x_2652).toInt ∧ (x_2652).toInt ≤ 1 := w_2653_0
              have w_2653_1 : (x_2652).toInt = 1 ↔ ((sg).toInt = 3 ∧ (va).toInt = ((61 : Int32)).toInt) := w_2653_1
              refine lv_if_eq (tgt := 285) hx hb dX12_goesOn_225 (by decide) (fun c_2655 => ?_) (fun c_2655 => ?_)
              · have jc_2655 := dk_eqc (k := 0) (by decide +kernel) c_2655
                clear w_2653_1
                exact J_1242   _ _ hP hS _ (lv_sub hl [0, 1, 2, 3] rfl)
              · have jc_2655 := dk_neqc (k := 0) (by decide +kernel) c_2655
                have w_2653_1_r := w_2653_1.mp (by omega)
                clear w_2653_1
                exact J_2579 ()  (by omega) _ _ hP hS _ (lv_sub hl [0, 1, 2, 3] rfl)
    refine lv_icmp_ge (tgt := 188) hx hb dX12_goesOn_39 (by decide) (fun c_2656 => ?_) (fun c_2656 => ?_)
    · have jc_2656 := dk_gec (k := 2) (by decide +kernel) c_2656
      exact J_800   _ _ hP hS _ (lv_sub hl [0, 1, 2, 3] rfl)
    · have jc_2656 := dk_ngec (k := 2) (by decide +kernel) c_2656
      refine lv_aload_n hx hb dX12_goesOn_42 rfl (lv_at hl 3 rfl) ?_
      refine lv_bipush (v := 43) hx hb dX12_goesOn_43 (by decide +kernel) ?_
      refine dg_calli hS hA1 hA (va_runV (As := [.int 43]) (rest := []) F (c_m_isSign l g D o S_2 43 sg ((m_2.1 0 3 _ sM_0 (by decide)).trans f_sg) (by omega) va ((m_2.1 0 6 _ sM_0 (by decide)).trans f_va) (by omega) I_2 H.size) (cwV 1 hts (bw_V wB_1157 wB_1158 wB_1159 wB_881 wB_1156) rfl rfl rfl (by decide +kernel) ⟨Nat.le_of_ble_eq_true rfl, Nat.le_of_ble_eq_true rfl⟩) (dg_preV sM_0 rfl K ST hP hS hA1 hA) rfl rfl hl.1 rfl (lv_room (Nat.le_of_ble_eq_true rfl)) dX12_goesOn_45 ⟨Nat.le_of_ble_eq_true rfl, Nat.le_of_ble_eq_true rfl⟩) (fun x_2657 S_2658 hw_2658 H locs hP hS => ?_)
      rw [hw_2658.1] at hP
      obtain ⟨hq_2658, w_2658_0, w_2658_1, -⟩ := hw_2658
      have hz_2659 : (43 : Int32).toInt = 43 := by decide +kernel
      have w_2658_0 : 0 ≤ (x_2657).toInt ∧ (x_2657).toInt ≤ 1 := w_2658_0
      have w_2658_1 : (x_2657).toInt = 1 ↔ ((sg).toInt = 3 ∧ (va).toInt = ((43 : Int32)).toInt) := w_2658_1
      have J_3003 : ∀ (u9 : Unit), ((sg).toInt = 3 ∧ ((va).toInt = 43 ∨ (va).toInt = 45 ∨ (va).toInt = 42 ∨ (va).toInt = 47 ∨ (va).toInt = 37)) → ∀ (H : Heap) (locs : List Loc), va_P D vwCl (dg_w g shM o rfM S_2) H → va_S A s.heap H locs → ∀ ls : Array Slot, lv_has ls 5 [(3, .int x_8), (2, .int x_7), (1, .int x_5), (0, .ref (o + 0))] → W p l e ({ frames := 3, cells := 0, slots := 0, locals := 77 } : Room) s m args below meth c H locs 0 0 (MQ below (va_Qi (fun (r : Int32) S' => CM o S' ∧ dg_sm shM [(0, 3), (0, 4), (0, 5), (0, 6), (0, 7), (0, 8), (0, 9), (0, 12), (0, 34), (0, 42), (0, 43), (0, 45), (0, 46)] [18, 19, 22, 23, 24, 27] S S' ∧ (0 ≤ (r).toInt ∧ (r).toInt ≤ 1) ∧ (∃ y9_3 y9_4 y9_5 y9_8 y9_34 y9_42 y9_45 y9_46 : Int32, S'.1 0 3 = .int y9_3 ∧ S'.1 0 4 = .int y9_4 ∧ S'.1 0 5 = .int y9_5 ∧ S'.1 0 8 = .int y9_8 ∧ S'.1 0 34 = .int y9_34 ∧ S'.1 0 42 = .int y9_42 ∧ S'.1 0 45 = .int y9_45 ∧ S'.1 0 46 = .int y9_46 ∧ (((y9_4).toInt ≤ (y9_5).toInt ∧ (y9_5).toInt ≤ (sl).toInt ∧ ((y9_3).toInt ≠ 0 → (y9_4).toInt + 1 ≤ (y9_5).toInt)) ∧ (sa).toInt ≤ (y9_4).toInt ∧ ((fk).toInt ≠ 0 → (y9_8).toInt ≠ 0) ∧ (((y9_8).toInt = 0 → (r).toInt = 1 → (sa).toInt + 1 ≤ (y9_4).toInt) ∧ ((y9_8).toInt = 0 → (y9_34).toInt + (y9_45).toInt + (y9_42).toInt ≤ (y9_4).toInt)))) ∧ (∀ k9 : Int32, S'.1 0 8 = .int k9 → k9.toInt = 0 → POM S') ∧ ZWM S' ∧ True) (dg_B g D shM o rfM) A) args s 0 0 A) (F0 m 87 ls []) := by
        intro u9 rel_0 H locs hP hS ls hl
        clear w_2658_1
        refine lv_aload_n hx hb dX12_goesOn_87 rfl (lv_at hl 3 rfl) ?_
        refine lv_aload_n hx hb dX12_goesOn_88 rfl (lv_at hl 3 rfl) ?_
        refine lv_bipush (v := 43) hx hb dX12_goesOn_89 (by decide +kernel) ?_
        refine dg_calli hS hA1 hA (va_runV (As := [.int 43]) (rest := [.ref (o + 0)]) F (c_m_isSign l g D o S_2 43 sg ((m_2.1 0 3 _ sM_0 (by decide)).trans f_sg) (by omega) va ((m_2.1 0 6 _ sM_0 (by decide)).trans f_va) (by omega) I_2 H.size) (cwV 1 hts (bw_V wB_1157 wB_1158 wB_1159 wB_881 wB_1156) rfl rfl rfl (by decide +kernel) ⟨Nat.le_of_ble_eq_true rfl, Nat.le_of_ble_eq_true rfl⟩) (dg_preV sM_0 rfl K ST hP hS hA1 hA) rfl rfl hl.1 rfl (lv_room (Nat.le_of_ble_eq_true rfl)) dX12_goesOn_91 ⟨Nat.le_of_ble_eq_true rfl, Nat.le_of_ble_eq_true rfl⟩) (fun x_3004 S_3005 hw_3005 H locs hP hS => ?_)
        rw [hw_3005.1] at hP
        obtain ⟨hq_3005, w_3005_0, w_3005_1, -⟩ := hw_3005
        have hz_3006 : (43 : Int32).toInt = 43 := by decide +kernel
        have w_3005_0 : 0 ≤ (x_3004).toInt ∧ (x_3004).toInt ≤ 1 := w_3005_0
        have w_3005_1 : (x_3004).toInt = 1 ↔ ((sg).toInt = 3 ∧ (va).toInt = ((43 : Int32)).toInt) := w_3005_1
        refine lv_if_ne (tgt := 106) hx hb dX12_goesOn_94 (by decide) (fun c_3007 => ?_) (fun c_3007 => ?_)
        · have jc_3007 := dk_neqc (k := 0) (by decide +kernel) c_3007
          have w_3005_1_r := w_3005_1.mp (by omega)
          clear w_3005_1
          refine lv_iconst (v := 5) hx hb dX12_goesOn_106 (by decide +kernel) ?_
          refine lv_goto (tgt := 112) hx hb dX12_goesOn_107 (by decide) ?_
          have hz_3008 : (5 : Int32).toInt = 5 := by decide +kernel
          refine dg_callv hS hA1 hA (va_runV (As := [.int 5]) (rest := []) F (c_m_joins l g D o S_2 5 (by decide +kernel) cd ((m_2.1 0 34 _ sM_0 (by decide)).trans f_cd) (by omega) om ((m_2.1 0 45 _ sM_0 (by decide)).trans f_om) (by omega) (by omega) (ZWM.keep ZW m_2 (by decide) (by decide) (by decide) (by decide)) (ZKM.keep ZK m_2 (by decide) (by decide)) (P1M.keep P1 m_2 (by decide) (by decide) (by decide) (by decide) (by decide) (by decide) (by decide) (by decide) (by decide) (by decide) (by decide) (by decide) (by decide) (by decide) (by decide)) I_2 H.size) (cwV 1 hts (bw_V wB_1234 wB_1235 wB_1236 wB_881 wB_1233) rfl rfl rfl (by decide +kernel) ⟨Nat.le_of_ble_eq_true rfl, Nat.le_of_ble_eq_true rfl⟩) (dg_preV sM_0 rfl K ST hP hS hA1 hA) rfl rfl hl.1 rfl (lv_room (Nat.le_of_ble_eq_true rfl)) dX12_goesOn_112 ⟨Nat.le_of_ble_eq_true rfl, Nat.le_of_ble_eq_true rfl⟩) (fun S_3009 hw_3009 H locs hP hS => ?_)
          obtain ⟨I_3009, m_3009, w_3009_0, w_3009_1, w_3009_2, w_3009_3, -⟩ := hw_3009
          have M_3009 := dg_sm.tr M_2 m_3009 (by decide) (by decide)
          have hz_3010 : (5 : Int32).toInt = 5 := by decide +kernel
          obtain ⟨y_3011, y_3012, f_y_3011, f_y_3012, w_3009_0⟩ := w_3009_0
          have w_3009_0 : (y_3011).toInt + (y_3012).toInt = (cd).toInt + (om).toInt := w_3009_0
          have b_y_3011 : 0 ≤ (y_3011).toInt ∧ (y_3011).toInt ≤ 1600 := dg_I.intb (lo := 0) (hi := 1600) I_3009 sM_0 (by decide +kernel) f_y_3011
          have b_y_3012 : 0 ≤ (y_3012).toInt ∧ (y_3012).toInt ≤ 500 := dg_I.intb (lo := 0) (hi := 500) I_3009 sM_0 (by decide +kernel) f_y_3012
          have w_3009_1 : TOPM S_3009 (5 : Int32) := w_3009_1
          refine lv_aload_n hx hb dX12_goesOn_115 rfl (lv_at hl 3 rfl) ?_
          refine lv_aload_n hx hb dX12_goesOn_116 rfl (lv_at hl 3 rfl) ?_
          refine lv_bipush (v := 43) hx hb dX12_goesOn_117 (by decide +kernel) ?_
          refine dg_calli hS hA1 hA (va_runV (As := [.int 43]) (rest := [.ref (o + 0)]) F (c_m_isSign l g D o S_3009 43 sg (((m_3009.1 0 3 _ sM_0 (by decide)).trans (m_2.1 0 3 _ sM_0 (by decide))).trans f_sg) (by omega) va (((m_3009.1 0 6 _ sM_0 (by decide)).trans (m_2.1 0 6 _ sM_0 (by decide))).trans f_va) (by omega) I_3009 H.size) (cwV 1 hts (bw_V wB_1157 wB_1158 wB_1159 wB_881 wB_1156) rfl rfl rfl (by decide +kernel) ⟨Nat.le_of_ble_eq_true rfl, Nat.le_of_ble_eq_true rfl⟩) (dg_preV sM_0 rfl K ST hP hS hA1 hA) rfl rfl hl.1 rfl (lv_room (Nat.le_of_ble_eq_true rfl)) dX12_goesOn_119 ⟨Nat.le_of_ble_eq_true rfl, Nat.le_of_ble_eq_true rfl⟩) (fun x_3013 S_3014 hw_3014 H locs hP hS => ?_)
          rw [hw_3014.1] at hP
          obtain ⟨hq_3014, w_3014_0, w_3014_1, -⟩ := hw_3014
          have hz_3015 : (43 : Int32).toInt = 43 := by decide +kernel
          have w_3014_0 : 0 ≤ (x_3013).toInt ∧ (x_3013).toInt ≤ 1 := w_3014_0
          have w_3014_1 : (x_3013).toInt = 1 ↔ ((sg).toInt = 3 ∧ (va).toInt = ((43 : Int32)).toInt) := w_3014_1
          refine lv_if_eq (tgt := 130) hx hb dX12_goesOn_122 (by decide) (fun c_3016 => ?_) (fun c_3016 => ?_)
          · have jc_3016 := dk_eqc (k := 0) (by decide +kernel) c_3016
            have w_3014_1_r : (va).toInt ≠ 43 := fun q9 => absurd (w_3014_1.mpr ⟨by omega, by omega⟩) (by omega)
            clear w_3014_1
            refine lv_aload_n hx hb dX12_goesOn_130 rfl (lv_at hl 3 rfl) ?_
            refine lv_bipush (v := 45) hx hb dX12_goesOn_131 (by decide +kernel) ?_
            refine dg_calli hS hA1 hA (va_runV (As := [.int 45]) (rest := [.ref (o + 0)]) F (c_m_isSign l g D o S_3009 45 sg (((m_3009.1 0 3 _ sM_0 (by decide)).trans (m_2.1 0 3 _ sM_0 (by decide))).trans f_sg) (by omega) va (((m_3009.1 0 6 _ sM_0 (by decide)).trans (m_2.1 0 6 _ sM_0 (by decide))).trans f_va) (by omega) I_3009 H.size) (cwV 1 hts (bw_V wB_1157 wB_1158 wB_1159 wB_881 wB_1156) rfl rfl rfl (by decide +kernel) ⟨Nat.le_of_ble_eq_true rfl, Nat.le_of_ble_eq_true rfl⟩) (dg_preV sM_0 rfl K ST hP hS hA1 hA) rfl rfl hl.1 rfl (lv_room (Nat.le_of_ble_eq_true rfl)) dX12_goesOn_133 ⟨Nat.le_of_ble_eq_true rfl, Nat.le_of_ble_eq_true rfl⟩) (fun x_3017 S_3018 hw_3018 H locs hP hS => ?_)
            rw [hw_3018.1] at hP
            obtain ⟨hq_3018, w_3018_0, w_3018_1, -⟩ := hw_3018
            have hz_3019 : (45 : Int32).toInt = 45 := by decide +kernel
            have w_3018_0 : 0 ≤ (x_3017).toInt ∧ (x_3017).toInt ≤ 1 := w_3018_0
            have w_3018_1 : (x_3017).toInt = 1 ↔ ((sg).toInt = 3 ∧ (va).toInt = ((45 : Int32)).toInt) := w_3018_1
            refine lv_if_eq (tgt := 144) hx hb dX12_goesOn_136 (by decide) (fun c_3020 => ?_) (fun c_3020 => ?_)
            · have jc_3020 := dk_eqc (k := 0) (by decide +kernel) c_3020
              have w_3018_1_r : (va).toInt ≠ 45 := fun q9 => absurd (w_3018_1.mpr ⟨by omega, by omega⟩) (by omega)
              clear w_3018_1
              refine lv_aload_n hx hb dX12_goesOn_144 rfl (lv_at hl 3 rfl) ?_
              refine lv_bipush (v := 42) hx hb dX12_goesOn_145 (by decide +kernel) ?_
              refine dg_calli hS hA1 hA (va_runV (As := [.int 42]) (rest := [.ref (o + 0)]) F (c_m_isSign l g D o S_3009 42 sg (((m_3009.1 0 3 _ sM_0 (by decide)).trans (m_2.1 0 3 _ sM_0 (by decide))).trans f_sg) (by omega) va (((m_3009.1 0 6 _ sM_0 (by decide)).trans (m_2.1 0 6 _ sM_0 (by decide))).trans f_va) (by omega) I_3009 H.size) (cwV 1 hts (bw_V wB_1157 wB_1158 wB_1159 wB_881 wB_1156) rfl rfl rfl (by decide +kernel) ⟨Nat.le_of_ble_eq_true rfl, Nat.le_of_ble_eq_true rfl⟩) (dg_preV sM_0 rfl K ST hP hS hA1 hA) rfl rfl hl.1 rfl (lv_room (Nat.le_of_ble_eq_true rfl)) dX12_goesOn_147 ⟨Nat.le_of_ble_eq_true rfl, Nat.le_of_ble_eq_true rfl⟩) (fun x_3021 S_3022 hw_3022 H locs hP hS => ?_)
              rw [hw_3022.1] at hP
              obtain ⟨hq_3022, w_3022_0, w_3022_1, -⟩ := hw_3022
              have hz_3023 : (42 : Int32).toInt = 42 := by decide +kernel
              have w_3022_0 : 0 ≤ (x_3021).toInt ∧ (x_3021).toInt ≤ 1 := w_3022_0
              have w_3022_1 : (x_3021).toInt = 1 ↔ ((sg).toInt = 3 ∧ (va).toInt = ((42 : Int32)).toInt) := w_3022_1
              refine lv_if_eq (tgt := 158) hx hb dX12_goesOn_150 (by decide) (fun c_3024 => ?_) (fun c_3024 => ?_)
              · have jc_3024 := dk_eqc (k := 0) (by decide +kernel) c_3024
                have w_3022_1_r : (va).toInt ≠ 42 := fun q9 => absurd (w_3022_1.mpr ⟨by omega, by omega⟩) (by omega)
                clear w_3022_1
                refine lv_aload_n hx hb dX12_goesOn_158 rfl (lv_at hl 3 rfl) ?_
                refine lv_bipush (v := 47) hx hb dX12_goesOn_159 (by decide +kernel) ?_
                refine dg_calli hS hA1 hA (va_runV (As := [.int 47]) (rest := [.ref (o + 0)]) F (c_m_isSign l g D o S_3009 47 sg (((m_3009.1 0 3 _ sM_0 (by decide)).trans (m_2.1 0 3 _ sM_0 (by decide))).trans f_sg) (by omega) va (((m_3009.1 0 6 _ sM_0 (by decide)).trans (m_2.1 0 6 _ sM_0 (by decide))).trans f_va) (by omega) I_3009 H.size) (cwV 1 hts (bw_V wB_1157 wB_1158 wB_1159 wB_881 wB_1156) rfl rfl rfl (by decide +kernel) ⟨Nat.le_of_ble_eq_true rfl, Nat.le_of_ble_eq_true rfl⟩) (dg_preV sM_0 rfl K ST hP hS hA1 hA) rfl rfl hl.1 rfl (lv_room (Nat.le_of_ble_eq_true rfl)) dX12_goesOn_161 ⟨Nat.le_of_ble_eq_true rfl, Nat.le_of_ble_eq_true rfl⟩) (fun x_3025 S_3026 hw_3026 H locs hP hS => ?_)
                rw [hw_3026.1] at hP
                obtain ⟨hq_3026, w_3026_0, w_3026_1, -⟩ := hw_3026
                have hz_3027 : (47 : Int32).toInt = 47 := by decide +kernel
                have w_3026_0 : 0 ≤ (x_3025).toInt ∧ (x_3025).toInt ≤ 1 := w_3026_0
                have w_3026_1 : (x_3025).toInt = 1 ↔ ((sg).toInt = 3 ∧ (va).toInt = ((47 : Int32)).toInt) := w_3026_1
                refine lv_if_eq (tgt := 172) hx hb dX12_goesOn_164 (by decide) (fun c_3028 => ?_) (fun c_3028 => ?_)
                · have jc_3028 := dk_eqc (k := 0) (by decide +kernel) c_3028
                  have w_3026_1_r : (va).toInt ≠ 47 := fun q9 => absurd (w_3026_1.mpr ⟨by omega, by omega⟩) (by omega)
                  clear w_3026_1
                  refine lv_bipush (v := 35) hx hb dX12_goesOn_172 (by decide +kernel) ?_
                  refine dg_callv hS hA1 hA (va_runV (As := [.int 35]) (rest := []) F (c_m_holdsBack l g D o S_3009 35 y_3012 f_y_3012 (by omega) I_3009 H.size) (cwV 1 hts (bw_V wB_1224 wB_1225 wB_1226 wB_881 wB_1223) rfl rfl rfl (by decide +kernel) ⟨Nat.le_of_ble_eq_true rfl, Nat.le_of_ble_eq_true rfl⟩) (dg_preV sM_0 rfl K ST hP hS hA1 hA) rfl rfl hl.1 rfl (lv_room (Nat.le_of_ble_eq_true rfl)) dX12_goesOn_174 ⟨Nat.le_of_ble_eq_true rfl, Nat.le_of_ble_eq_true rfl⟩) (fun S_3029 hw_3029 H locs hP hS => ?_)
                  obtain ⟨I_3029, m_3029, w_3029_0, w_3029_1, -⟩ := hw_3029
                  have M_3029 := dg_sm.tr M_3009 m_3029 (by decide) (by decide)
                  have hz_3030 : (35 : Int32).toInt = 35 := by decide +kernel
                  obtain ⟨y_3031, f_y_3031, w_3029_0⟩ := w_3029_0
                  have w_3029_0 : (y_3031).toInt = (y_3012).toInt + 1 := w_3029_0
                  have b_y_3031 : 0 ≤ (y_3031).toInt ∧ (y_3031).toInt ≤ 500 := dg_I.intb (lo := 0) (hi := 500) I_3029 sM_0 (by decide +kernel) f_y_3031
                  have w_3029_1 : HBM S_3009 S_3029 (35 : Int32) := w_3029_1
                  obtain ⟨x_3032, f_x_3032, b_x_3032⟩ := dg_I.int (i := 0) (k := 43) (lo := (-2147483648)) (hi := 2147483647) I_3009 sM_0 (by decide +kernel)
                  obtain ⟨x_3033, f_x_3033, b_x_3033⟩ := dg_I.int (i := 0) (k := 45) (lo := 0) (hi := 500) I_3009 sM_0 (by decide +kernel)
                  have P0_3029 : P0M S_3029 := P1M.bin w_3009_3 (((m_3009.1 0 42 _ sM_0 (by decide)).trans (m_2.1 0 42 _ sM_0 (by decide))).trans f_dp) f_x_3032 f_x_3033 w_3009_1 m_3029 w_3029_1 (by omega)
                  refine lv_aload_n hx hb dX12_goesOn_177 rfl (lv_at hl 3 rfl) ?_
                  refine dg_callv hS hA1 hA (va_runV (As := []) (rest := []) F (c_m_ahead l g D o S_3029 se (((m_3029.1 0 5 _ sM_0 (by decide)).trans ((m_3009.1 0 5 _ sM_0 (by decide)).trans (m_2.1 0 5 _ sM_0 (by decide)))).trans f_se) (by omega) sl (((m_3029.1 0 2 _ sM_0 (by decide)).trans ((m_3009.1 0 2 _ sM_0 (by decide)).trans (m_2.1 0 2 _ sM_0 (by decide)))).trans f_sl) (by omega) (by omega) I_3029 H.size) (cwV 0 hts (bw_V wB_1161 wB_1162 wB_1163 wB_881 wB_1160) rfl rfl rfl (by decide +kernel) ⟨Nat.le_of_ble_eq_true rfl, Nat.le_of_ble_eq_true rfl⟩) (dg_preV sM_0 rfl K ST hP hS hA1 hA) rfl rfl hl.1 rfl (lv_room (Nat.le_of_ble_eq_true rfl)) dX12_goesOn_178 ⟨Nat.le_of_ble_eq_true rfl, Nat.le_of_ble_eq_true rfl⟩) (fun S_3034 hw_3034 H locs hP hS => ?_)
                  obtain ⟨I_3034, m_3034, w_3034_0, -⟩ := hw_3034
                  have M_3034 := dg_sm.tr M_3029 m_3034 (by decide) (by decide)
                  obtain ⟨y_3035, y_3036, y_3037, f_y_3035, f_y_3036, f_y_3037, w_3034_0⟩ := w_3034_0
                  have w_3034_0 : (se).toInt ≤ (y_3036).toInt ∧ (y_3036).toInt ≤ (y_3037).toInt ∧ (y_3037).toInt ≤ (sl).toInt ∧ ((y_3035).toInt ≠ 0 → (y_3036).toInt + 1 ≤ (y_3037).toInt) := w_3034_0
                  obtain ⟨w_3034_0_0, w_3034_0_1, w_3034_0_2, w_3034_0_3⟩ := w_3034_0
                  have b_y_3035 : 0 ≤ (y_3035).toInt ∧ (y_3035).toInt ≤ 3 := dg_I.intb (lo := 0) (hi := 3) I_3034 sM_0 (by decide +kernel) f_y_3035
                  have b_y_3036 : 0 ≤ (y_3036).toInt ∧ (y_3036).toInt ≤ 1600 := dg_I.intb (lo := 0) (hi := 1600) I_3034 sM_0 (by decide +kernel) f_y_3036
                  have b_y_3037 : 0 ≤ (y_3037).toInt ∧ (y_3037).toInt ≤ 1600 := dg_I.intb (lo := 0) (hi := 1600) I_3034 sM_0 (by decide +kernel) f_y_3037
                  refine lv_aload_n hx hb dX12_goesOn_181 rfl (lv_at hl 3 rfl) ?_
                  refine lv_iconst (v := 0) hx hb dX12_goesOn_182 (by decide +kernel) ?_
                  have hz_3038 : (0 : Int32).toInt = 0 := by decide +kernel
                  refine dg_put (ci := 12) (v := .int 0) (ty := tyX12 46) (C := RX12) (T := TX12) (N := 77) hx hb hts (fun w h => bw_mem (wU_X12 w h)) tyX12 tyX12_ok nmX12 hown K hP hS hA1 sM_0 rfl 46 (by decide) (hts _ (bw_mem wB_1237)) (fun _ h9 => h9) rfl (by decide +kernel) (by decide +kernel) (by decide +kernel) dX12_goesOn_183 (fun S_3039 e_3039 H locs hP hS => ?_)
                  have I_3039 := dg_I.uFi (lo := 0) (hi := 1) I_3034 e_3039 sM_0 (by decide +kernel) (show 0 ≤ ((0 : Int32)).toInt ∧ ((0 : Int32)).toInt ≤ 1 from (by decide +kernel))
                  have M_3039 := dg_sm.uF M_3034 e_3039 sM_0 (by decide)
                  refine lv_iconst (v := 1) hx hb dX12_goesOn_186 (by decide +kernel) ?_
                  have hz_3040 : (1 : Int32).toInt = 1 := by decide +kernel
                  have hz_3041 : (1 : Int32).toInt = 1 := by decide +kernel
                  obtain ⟨x_3042, f_x_3042, b_x_3042⟩ := dg_I.int (i := 0) (k := 45) (lo := 0) (hi := 500) I_3039 sM_0 (by decide +kernel)
                  have hz_3043 : (0 : Int32).toInt = 0 := by decide +kernel
                  have hz_3044 : (1 : Int32).toInt = 1 := by decide +kernel
                  have hz_3045 : (0 : Int32).toInt = 0 := by decide +kernel
                  refine W.widen (k := 0) (n := 0) (Nat.le_of_ble_eq_true rfl) (Nat.le_of_ble_eq_true rfl) ?_
                  exact dg_iret hx hb hr hlocks (by decide +kernel) hP hS ⟨I_3039, M_3039, (by decide +kernel), ⟨y_3035, y_3036, y_3037, y_3, y_3011, dp, x_3042, 0, ((dg_uF_ne e_3039 (fun z => absurd z.2 (by decide))).trans f_y_3035), ((dg_uF_ne e_3039 (fun z => absurd z.2 (by decide))).trans f_y_3036), ((dg_uF_ne e_3039 (fun z => absurd z.2 (by decide))).trans f_y_3037), (((dg_uF_ne e_3039 (fun z => absurd z.2 (by decide))).trans ((m_3034.1 0 8 _ sM_0 (by decide)).trans ((m_3029.1 0 8 _ sM_0 (by decide)).trans (m_3009.1 0 8 _ sM_0 (by decide))))).trans f_y_3), (((dg_uF_ne e_3039 (fun z => absurd z.2 (by decide))).trans ((m_3034.1 0 34 _ sM_0 (by decide)).trans (m_3029.1 0 34 _ sM_0 (by decide)))).trans f_y_3011), (((dg_uF_ne e_3039 (fun z => absurd z.2 (by decide))).trans ((m_3034.1 0 42 _ sM_0 (by decide)).trans ((m_3029.1 0 42 _ sM_0 (by decide)).trans ((m_3009.1 0 42 _ sM_0 (by decide)).trans (m_2.1 0 42 _ sM_0 (by decide)))))).trans f_dp), f_x_3042, (dg_uF_at e_3039), (by omega)⟩, (fun k9 hk9 hk0 => POM.mk0 (P0M.keep (P0M.keep P0_3029 m_3034 (by decide) (by decide) (by decide) (by decide) (by decide) (by decide) (by decide) (by decide) (by decide) (by decide) (by decide) (by decide) (by decide) (by decide) (by decide)) (dg_sm.uF (WF := [(0, 46)]) (WA := []) dg_sm.rf e_3039 sM_0 (by decide)) (by decide) (by decide) (by decide) (by decide) (by decide) (by decide) (by decide) (by decide) (by decide) (by decide) (by decide) (by decide) (by decide) (by decide) (by decide)) (dg_uF_at e_3039) (by omega)), (ZWM.keep (ZWM.keep (ZWM.keep w_3009_2 m_3029 (by decide) (by decide) (by decide) (by decide)) m_3034 (by decide) (by decide) (by decide) (by decide)) (dg_sm.uF (WF := [(0, 46)]) (WA := []) dg_sm.rf e_3039 sM_0 (by decide)) (by decide) (by decide) (by decide) (by decide)), trivial⟩ dX12_goesOn_187
                · have jc_3028 := dk_neqc (k := 0) (by decide +kernel) c_3028
                  have w_3026_1_r := w_3026_1.mp (by omega)
                  clear w_3026_1
                  refine lv_bipush (v := 34) hx hb dX12_goesOn_167 (by decide +kernel) ?_
                  refine lv_goto (tgt := 174) hx hb dX12_goesOn_169 (by decide) ?_
                  refine dg_callv hS hA1 hA (va_runV (As := [.int 34]) (rest := []) F (c_m_holdsBack l g D o S_3009 34 y_3012 f_y_3012 (by omega) I_3009 H.size) (cwV 1 hts (bw_V wB_1224 wB_1225 wB_1226 wB_881 wB_1223) rfl rfl rfl (by decide +kernel) ⟨Nat.le_of_ble_eq_true rfl, Nat.le_of_ble_eq_true rfl⟩) (dg_preV sM_0 rfl K ST hP hS hA1 hA) rfl rfl hl.1 rfl (lv_room (Nat.le_of_ble_eq_true rfl)) dX12_goesOn_174 ⟨Nat.le_of_ble_eq_true rfl, Nat.le_of_ble_eq_true rfl⟩) (fun S_3046 hw_3046 H locs hP hS => ?_)
                  obtain ⟨I_3046, m_3046, w_3046_0, w_3046_1, -⟩ := hw_3046
                  have M_3046 := dg_sm.tr M_3009 m_3046 (by decide) (by decide)
                  have hz_3047 : (34 : Int32).toInt = 34 := by decide +kernel
                  obtain ⟨y_3048, f_y_3048, w_3046_0⟩ := w_3046_0
                  have w_3046_0 : (y_3048).toInt = (y_3012).toInt + 1 := w_3046_0
                  have b_y_3048 : 0 ≤ (y_3048).toInt ∧ (y_3048).toInt ≤ 500 := dg_I.intb (lo := 0) (hi := 500) I_3046 sM_0 (by decide +kernel) f_y_3048
                  have w_3046_1 : HBM S_3009 S_3046 (34 : Int32) := w_3046_1
                  obtain ⟨x_3049, f_x_3049, b_x_3049⟩ := dg_I.int (i := 0) (k := 43) (lo := (-2147483648)) (hi := 2147483647) I_3009 sM_0 (by decide +kernel)
                  obtain ⟨x_3050, f_x_3050, b_x_3050⟩ := dg_I.int (i := 0) (k := 45) (lo := 0) (hi := 500) I_3009 sM_0 (by decide +kernel)
                  have P0_3046 : P0M S_3046 := P1M.bin w_3009_3 (((m_3009.1 0 42 _ sM_0 (by decide)).trans (m_2.1 0 42 _ sM_0 (by decide))).trans f_dp) f_x_3049 f_x_3050 w_3009_1 m_3046 w_3046_1 (by omega)
                  refine lv_aload_n hx hb dX12_goesOn_177 rfl (lv_at hl 3 rfl) ?_
                  refine dg_callv hS hA1 hA (va_runV (As := []) (rest := []) F (c_m_ahead l g D o S_3046 se (((m_3046.1 0 5 _ sM_0 (by decide)).trans ((m_3009.1 0 5 _ sM_0 (by decide)).trans (m_2.1 0 5 _ sM_0 (by decide)))).trans f_se) (by omega) sl (((m_3046.1 0 2 _ sM_0 (by decide)).trans ((m_3009.1 0 2 _ sM_0 (by decide)).trans (m_2.1 0 2 _ sM_0 (by decide)))).trans f_sl) (by omega) (by omega) I_3046 H.size) (cwV 0 hts (bw_V wB_1161 wB_1162 wB_1163 wB_881 wB_1160) rfl rfl rfl (by decide +kernel) ⟨Nat.le_of_ble_eq_true rfl, Nat.le_of_ble_eq_true rfl⟩) (dg_preV sM_0 rfl K ST hP hS hA1 hA) rfl rfl hl.1 rfl (lv_room (Nat.le_of_ble_eq_true rfl)) dX12_goesOn_178 ⟨Nat.le_of_ble_eq_true rfl, Nat.le_of_ble_eq_true rfl⟩) (fun S_3051 hw_3051 H locs hP hS => ?_)
                  obtain ⟨I_3051, m_3051, w_3051_0, -⟩ := hw_3051
                  have M_3051 := dg_sm.tr M_3046 m_3051 (by decide) (by decide)
                  obtain ⟨y_3052, y_3053, y_3054, f_y_3052, f_y_3053, f_y_3054, w_3051_0⟩ := w_3051_0
                  have w_3051_0 : (se).toInt ≤ (y_3053).toInt ∧ (y_3053).toInt ≤ (y_3054).toInt ∧ (y_3054).toInt ≤ (sl).toInt ∧ ((y_3052).toInt ≠ 0 → (y_3053).toInt + 1 ≤ (y_3054).toInt) := w_3051_0
                  obtain ⟨w_3051_0_0, w_3051_0_1, w_3051_0_2, w_3051_0_3⟩ := w_3051_0
                  have b_y_3052 : 0 ≤ (y_3052).toInt ∧ (y_3052).toInt ≤ 3 := dg_I.intb (lo := 0) (hi := 3) I_3051 sM_0 (by decide +kernel) f_y_3052
                  have b_y_3053 : 0 ≤ (y_3053).toInt ∧ (y_3053).toInt ≤ 1600 := dg_I.intb (lo := 0) (hi := 1600) I_3051 sM_0 (by decide +kernel) f_y_3053
                  have b_y_3054 : 0 ≤ (y_3054).toInt ∧ (y_3054).toInt ≤ 1600 := dg_I.intb (lo := 0) (hi := 1600) I_3051 sM_0 (by decide +kernel) f_y_3054
                  refine lv_aload_n hx hb dX12_goesOn_181 rfl (lv_at hl 3 rfl) ?_
                  refine lv_iconst (v := 0) hx hb dX12_goesOn_182 (by decide +kernel) ?_
                  have hz_3055 : (0 : Int32).toInt = 0 := by decide +kernel
                  refine dg_put (ci := 12) (v := .int 0) (ty := tyX12 46) (C := RX12) (T := TX12) (N := 77) hx hb hts (fun w h => bw_mem (wU_X12 w h)) tyX12 tyX12_ok nmX12 hown K hP hS hA1 sM_0 rfl 46 (by decide) (hts _ (bw_mem wB_1237)) (fun _ h9 => h9) rfl (by decide +kernel) (by decide +kernel) (by decide +kernel) dX12_goesOn_183 (fun S_3056 e_3056 H locs hP hS => ?_)
                  have I_3056 := dg_I.uFi (lo := 0) (hi := 1) I_3051 e_3056 sM_0 (by decide +kernel) (show 0 ≤ ((0 : Int32)).toInt ∧ ((0 : Int32)).toInt ≤ 1 from (by decide +kernel))
                  have M_3056 := dg_sm.uF M_3051 e_3056 sM_0 (by decide)
                  refine lv_iconst (v := 1) hx hb dX12_goesOn_186 (by decide +kernel) ?_
                  have hz_3057 : (1 : Int32).toInt = 1 := by decide +kernel
                  have hz_3058 : (1 : Int32).toInt = 1 := by decide +kernel
                  obtain ⟨x_3059, f_x_3059, b_x_3059⟩ := dg_I.int (i := 0) (k := 45) (lo := 0) (hi := 500) I_3056 sM_0 (by decide +kernel)
                  have hz_3060 : (0 : Int32).toInt = 0 := by decide +kernel
                  have hz_3061 : (1 : Int32).toInt = 1 := by decide +kernel
                  have hz_3062 : (0 : Int32).toInt = 0 := by decide +kernel
                  refine W.widen (k := 0) (n := 0) (Nat.le_of_ble_eq_true rfl) (Nat.le_of_ble_eq_true rfl) ?_
                  exact dg_iret hx hb hr hlocks (by decide +kernel) hP hS ⟨I_3056, M_3056, (by decide +kernel), ⟨y_3052, y_3053, y_3054, y_3, y_3011, dp, x_3059, 0, ((dg_uF_ne e_3056 (fun z => absurd z.2 (by decide))).trans f_y_3052), ((dg_uF_ne e_3056 (fun z => absurd z.2 (by decide))).trans f_y_3053), ((dg_uF_ne e_3056 (fun z => absurd z.2 (by decide))).trans f_y_3054), (((dg_uF_ne e_3056 (fun z => absurd z.2 (by decide))).trans ((m_3051.1 0 8 _ sM_0 (by decide)).trans ((m_3046.1 0 8 _ sM_0 (by decide)).trans (m_3009.1 0 8 _ sM_0 (by decide))))).trans f_y_3), (((dg_uF_ne e_3056 (fun z => absurd z.2 (by decide))).trans ((m_3051.1 0 34 _ sM_0 (by decide)).trans (m_3046.1 0 34 _ sM_0 (by decide)))).trans f_y_3011), (((dg_uF_ne e_3056 (fun z => absurd z.2 (by decide))).trans ((m_3051.1 0 42 _ sM_0 (by decide)).trans ((m_3046.1 0 42 _ sM_0 (by decide)).trans ((m_3009.1 0 42 _ sM_0 (by decide)).trans (m_2.1 0 42 _ sM_0 (by decide)))))).trans f_dp), f_x_3059, (dg_uF_at e_3056), (by omega)⟩, (fun k9 hk9 hk0 => POM.mk0 (P0M.keep (P0M.keep P0_3046 m_3051 (by decide) (by decide) (by decide) (by decide) (by decide) (by decide) (by decide) (by decide) (by decide) (by decide) (by decide) (by decide) (by decide) (by decide) (by decide)) (dg_sm.uF (WF := [(0, 46)]) (WA := []) dg_sm.rf e_3056 sM_0 (by decide)) (by decide) (by decide) (by decide) (by decide) (by decide) (by decide) (by decide) (by decide) (by decide) (by decide) (by decide) (by decide) (by decide) (by decide) (by decide)) (dg_uF_at e_3056) (by omega)), (ZWM.keep (ZWM.keep (ZWM.keep w_3009_2 m_3046 (by decide) (by decide) (by decide) (by decide)) m_3051 (by decide) (by decide) (by decide) (by decide)) (dg_sm.uF (WF := [(0, 46)]) (WA := []) dg_sm.rf e_3056 sM_0 (by decide)) (by decide) (by decide) (by decide) (by decide)), trivial⟩ dX12_goesOn_187
              · have jc_3024 := dk_neqc (k := 0) (by decide +kernel) c_3024
                have w_3022_1_r := w_3022_1.mp (by omega)
                clear w_3022_1
                refine lv_bipush (v := 33) hx hb dX12_goesOn_153 (by decide +kernel) ?_
                refine lv_goto (tgt := 174) hx hb dX12_goesOn_155 (by decide) ?_
                refine dg_callv hS hA1 hA (va_runV (As := [.int 33]) (rest := []) F (c_m_holdsBack l g D o S_3009 33 y_3012 f_y_3012 (by omega) I_3009 H.size) (cwV 1 hts (bw_V wB_1224 wB_1225 wB_1226 wB_881 wB_1223) rfl rfl rfl (by decide +kernel) ⟨Nat.le_of_ble_eq_true rfl, Nat.le_of_ble_eq_true rfl⟩) (dg_preV sM_0 rfl K ST hP hS hA1 hA) rfl rfl hl.1 rfl (lv_room (Nat.le_of_ble_eq_true rfl)) dX12_goesOn_174 ⟨Nat.le_of_ble_eq_true rfl, Nat.le_of_ble_eq_true rfl⟩) (fun S_3063 hw_3063 H locs hP hS => ?_)
                obtain ⟨I_3063, m_3063, w_3063_0, w_3063_1, -⟩ := hw_3063
                have M_3063 := dg_sm.tr M_3009 m_3063 (by decide) (by decide)
                have hz_3064 : (33 : Int32).toInt = 33 := by decide +kernel
                obtain ⟨y_3065, f_y_3065, w_3063_0⟩ := w_3063_0
                have w_3063_0 : (y_3065).toInt = (y_3012).toInt + 1 := w_3063_0
                have b_y_3065 : 0 ≤ (y_3065).toInt ∧ (y_3065).toInt ≤ 500 := dg_I.intb (lo := 0) (hi := 500) I_3063 sM_0 (by decide +kernel) f_y_3065
                have w_3063_1 : HBM S_3009 S_3063 (33 : Int32) := w_3063_1
                obtain ⟨x_3066, f_x_3066, b_x_3066⟩ := dg_I.int (i := 0) (k := 43) (lo := (-2147483648)) (hi := 2147483647) I_3009 sM_0 (by decide +kernel)
                obtain ⟨x_3067, f_x_3067, b_x_3067⟩ := dg_I.int (i := 0) (k := 45) (lo := 0) (hi := 500) I_3009 sM_0 (by decide +kernel)
                have P0_3063 : P0M S_3063 := P1M.bin w_3009_3 (((m_3009.1 0 42 _ sM_0 (by decide)).trans (m_2.1 0 42 _ sM_0 (by decide))).trans f_dp) f_x_3066 f_x_3067 w_3009_1 m_3063 w_3063_1 (by omega)
                refine lv_aload_n hx hb dX12_goesOn_177 rfl (lv_at hl 3 rfl) ?_
                refine dg_callv hS hA1 hA (va_runV (As := []) (rest := []) F (c_m_ahead l g D o S_3063 se (((m_3063.1 0 5 _ sM_0 (by decide)).trans ((m_3009.1 0 5 _ sM_0 (by decide)).trans (m_2.1 0 5 _ sM_0 (by decide)))).trans f_se) (by omega) sl (((m_3063.1 0 2 _ sM_0 (by decide)).trans ((m_3009.1 0 2 _ sM_0 (by decide)).trans (m_2.1 0 2 _ sM_0 (by decide)))).trans f_sl) (by omega) (by omega) I_3063 H.size) (cwV 0 hts (bw_V wB_1161 wB_1162 wB_1163 wB_881 wB_1160) rfl rfl rfl (by decide +kernel) ⟨Nat.le_of_ble_eq_true rfl, Nat.le_of_ble_eq_true rfl⟩) (dg_preV sM_0 rfl K ST hP hS hA1 hA) rfl rfl hl.1 rfl (lv_room (Nat.le_of_ble_eq_true rfl)) dX12_goesOn_178 ⟨Nat.le_of_ble_eq_true rfl, Nat.le_of_ble_eq_true rfl⟩) (fun S_3068 hw_3068 H locs hP hS => ?_)
                obtain ⟨I_3068, m_3068, w_3068_0, -⟩ := hw_3068
                have M_3068 := dg_sm.tr M_3063 m_3068 (by decide) (by decide)
                obtain ⟨y_3069, y_3070, y_3071, f_y_3069, f_y_3070, f_y_3071, w_3068_0⟩ := w_3068_0
                have w_3068_0 : (se).toInt ≤ (y_3070).toInt ∧ (y_3070).toInt ≤ (y_3071).toInt ∧ (y_3071).toInt ≤ (sl).toInt ∧ ((y_3069).toInt ≠ 0 → (y_3070).toInt + 1 ≤ (y_3071).toInt) := w_3068_0
                obtain ⟨w_3068_0_0, w_3068_0_1, w_3068_0_2, w_3068_0_3⟩ := w_3068_0
                have b_y_3069 : 0 ≤ (y_3069).toInt ∧ (y_3069).toInt ≤ 3 := dg_I.intb (lo := 0) (hi := 3) I_3068 sM_0 (by decide +kernel) f_y_3069
                have b_y_3070 : 0 ≤ (y_3070).toInt ∧ (y_3070).toInt ≤ 1600 := dg_I.intb (lo := 0) (hi := 1600) I_3068 sM_0 (by decide +kernel) f_y_3070
                have b_y_3071 : 0 ≤ (y_3071).toInt ∧ (y_3071).toInt ≤ 1600 := dg_I.intb (lo := 0) (hi := 1600) I_3068 sM_0 (by decide +kernel) f_y_3071
                refine lv_aload_n hx hb dX12_goesOn_181 rfl (lv_at hl 3 rfl) ?_
                refine lv_iconst (v := 0) hx hb dX12_goesOn_182 (by decide +kernel) ?_
                have hz_3072 : (0 : Int32).toInt = 0 := by decide +kernel
                refine dg_put (ci := 12) (v := .int 0) (ty := tyX12 46) (C := RX12) (T := TX12) (N := 77) hx hb hts (fun w h => bw_mem (wU_X12 w h)) tyX12 tyX12_ok nmX12 hown K hP hS hA1 sM_0 rfl 46 (by decide) (hts _ (bw_mem wB_1237)) (fun _ h9 => h9) rfl (by decide +kernel) (by decide +kernel) (by decide +kernel) dX12_goesOn_183 (fun S_3073 e_3073 H locs hP hS => ?_)
                have I_3073 := dg_I.uFi (lo := 0) (hi := 1) I_3068 e_3073 sM_0 (by decide +kernel) (show 0 ≤ ((0 : Int32)).toInt ∧ ((0 : Int32)).toInt ≤ 1 from (by decide +kernel))
                have M_3073 := dg_sm.uF M_3068 e_3073 sM_0 (by decide)
                refine lv_iconst (v := 1) hx hb dX12_goesOn_186 (by decide +kernel) ?_
                have hz_3074 : (1 : Int32).toInt = 1 := by decide +kernel
                have hz_3075 : (1 : Int32).toInt = 1 := by decide +kernel
                obtain ⟨x_3076, f_x_3076, b_x_3076⟩ := dg_I.int (i := 0) (k := 45) (lo := 0) (hi := 500) I_3073 sM_0 (by decide +kernel)
                have hz_3077 : (0 : Int32).toInt = 0 := by decide +kernel
                have hz_3078 : (1 : Int32).toInt = 1 := by decide +kernel
                have hz_3079 : (0 : Int32).toInt = 0 := by decide +kernel
                refine W.widen (k := 0) (n := 0) (Nat.le_of_ble_eq_true rfl) (Nat.le_of_ble_eq_true rfl) ?_
                exact dg_iret hx hb hr hlocks (by decide +kernel) hP hS ⟨I_3073, M_3073, (by decide +kernel), ⟨y_3069, y_3070, y_3071, y_3, y_3011, dp, x_3076, 0, ((dg_uF_ne e_3073 (fun z => absurd z.2 (by decide))).trans f_y_3069), ((dg_uF_ne e_3073 (fun z => absurd z.2 (by decide))).trans f_y_3070), ((dg_uF_ne e_3073 (fun z => absurd z.2 (by decide))).trans f_y_3071), (((dg_uF_ne e_3073 (fun z => absurd z.2 (by decide))).trans ((m_3068.1 0 8 _ sM_0 (by decide)).trans ((m_3063.1 0 8 _ sM_0 (by decide)).trans (m_3009.1 0 8 _ sM_0 (by decide))))).trans f_y_3), (((dg_uF_ne e_3073 (fun z => absurd z.2 (by decide))).trans ((m_3068.1 0 34 _ sM_0 (by decide)).trans (m_3063.1 0 34 _ sM_0 (by decide)))).trans f_y_3011), (((dg_uF_ne e_3073 (fun z => absurd z.2 (by decide))).trans ((m_3068.1 0 42 _ sM_0 (by decide)).trans ((m_3063.1 0 42 _ sM_0 (by decide)).trans ((m_3009.1 0 42 _ sM_0 (by decide)).trans (m_2.1 0 42 _ sM_0 (by decide)))))).trans f_dp), f_x_3076, (dg_uF_at e_3073), (by omega)⟩, (fun k9 hk9 hk0 => POM.mk0 (P0M.keep (P0M.keep P0_3063 m_3068 (by decide) (by decide) (by decide) (by decide) (by decide) (by decide) (by decide) (by decide) (by decide) (by decide) (by decide) (by decide) (by decide) (by decide) (by decide)) (dg_sm.uF (WF := [(0, 46)]) (WA := []) dg_sm.rf e_3073 sM_0 (by decide)) (by decide) (by decide) (by decide) (by decide) (by decide) (by decide) (by decide) (by decide) (by decide) (by decide) (by decide) (by decide) (by decide) (by decide) (by decide)) (dg_uF_at e_3073) (by omega)), (ZWM.keep (ZWM.keep (ZWM.keep w_3009_2 m_3063 (by decide) (by decide) (by decide) (by decide)) m_3068 (by decide) (by decide) (by decide) (by decide)) (dg_sm.uF (WF := [(0, 46)]) (WA := []) dg_sm.rf e_3073 sM_0 (by decide)) (by decide) (by decide) (by decide) (by decide)), trivial⟩ dX12_goesOn_187
            · have jc_3020 := dk_neqc (k := 0) (by decide +kernel) c_3020
              have w_3018_1_r := w_3018_1.mp (by omega)
              clear w_3018_1
              refine lv_bipush (v := 32) hx hb dX12_goesOn_139 (by decide +kernel) ?_
              refine lv_goto (tgt := 174) hx hb dX12_goesOn_141 (by decide) ?_
              refine dg_callv hS hA1 hA (va_runV (As := [.int 32]) (rest := []) F (c_m_holdsBack l g D o S_3009 32 y_3012 f_y_3012 (by omega) I_3009 H.size) (cwV 1 hts (bw_V wB_1224 wB_1225 wB_1226 wB_881 wB_1223) rfl rfl rfl (by decide +kernel) ⟨Nat.le_of_ble_eq_true rfl, Nat.le_of_ble_eq_true rfl⟩) (dg_preV sM_0 rfl K ST hP hS hA1 hA) rfl rfl hl.1 rfl (lv_room (Nat.le_of_ble_eq_true rfl)) dX12_goesOn_174 ⟨Nat.le_of_ble_eq_true rfl, Nat.le_of_ble_eq_true rfl⟩) (fun S_3080 hw_3080 H locs hP hS => ?_)
              obtain ⟨I_3080, m_3080, w_3080_0, w_3080_1, -⟩ := hw_3080
              have M_3080 := dg_sm.tr M_3009 m_3080 (by decide) (by decide)
              have hz_3081 : (32 : Int32).toInt = 32 := by decide +kernel
              obtain ⟨y_3082, f_y_3082, w_3080_0⟩ := w_3080_0
              have w_3080_0 : (y_3082).toInt = (y_3012).toInt + 1 := w_3080_0
              have b_y_3082 : 0 ≤ (y_3082).toInt ∧ (y_3082).toInt ≤ 500 := dg_I.intb (lo := 0) (hi := 500) I_3080 sM_0 (by decide +kernel) f_y_3082
              have w_3080_1 : HBM S_3009 S_3080 (32 : Int32) := w_3080_1
              obtain ⟨x_3083, f_x_3083, b_x_3083⟩ := dg_I.int (i := 0) (k := 43) (lo := (-2147483648)) (hi := 2147483647) I_3009 sM_0 (by decide +kernel)
              obtain ⟨x_3084, f_x_3084, b_x_3084⟩ := dg_I.int (i := 0) (k := 45) (lo := 0) (hi := 500) I_3009 sM_0 (by decide +kernel)
              have P0_3080 : P0M S_3080 := P1M.bin w_3009_3 (((m_3009.1 0 42 _ sM_0 (by decide)).trans (m_2.1 0 42 _ sM_0 (by decide))).trans f_dp) f_x_3083 f_x_3084 w_3009_1 m_3080 w_3080_1 (by omega)
              refine lv_aload_n hx hb dX12_goesOn_177 rfl (lv_at hl 3 rfl) ?_
              refine dg_callv hS hA1 hA (va_runV (As := []) (rest := []) F (c_m_ahead l g D o S_3080 se (((m_3080.1 0 5 _ sM_0 (by decide)).trans ((m_3009.1 0 5 _ sM_0 (by decide)).trans (m_2.1 0 5 _ sM_0 (by decide)))).trans f_se) (by omega) sl (((m_3080.1 0 2 _ sM_0 (by decide)).trans ((m_3009.1 0 2 _ sM_0 (by decide)).trans (m_2.1 0 2 _ sM_0 (by decide)))).trans f_sl) (by omega) (by omega) I_3080 H.size) (cwV 0 hts (bw_V wB_1161 wB_1162 wB_1163 wB_881 wB_1160) rfl rfl rfl (by decide +kernel) ⟨Nat.le_of_ble_eq_true rfl, Nat.le_of_ble_eq_true rfl⟩) (dg_preV sM_0 rfl K ST hP hS hA1 hA) rfl rfl hl.1 rfl (lv_room (Nat.le_of_ble_eq_true rfl)) dX12_goesOn_178 ⟨Nat.le_of_ble_eq_true rfl, Nat.le_of_ble_eq_true rfl⟩) (fun S_3085 hw_3085 H locs hP hS => ?_)
              obtain ⟨I_3085, m_3085, w_3085_0, -⟩ := hw_3085
              have M_3085 := dg_sm.tr M_3080 m_3085 (by decide) (by decide)
              obtain ⟨y_3086, y_3087, y_3088, f_y_3086, f_y_3087, f_y_3088, w_3085_0⟩ := w_3085_0
              have w_3085_0 : (se).toInt ≤ (y_3087).toInt ∧ (y_3087).toInt ≤ (y_3088).toInt ∧ (y_3088).toInt ≤ (sl).toInt ∧ ((y_3086).toInt ≠ 0 → (y_3087).toInt + 1 ≤ (y_3088).toInt) := w_3085_0
              obtain ⟨w_3085_0_0, w_3085_0_1, w_3085_0_2, w_3085_0_3⟩ := w_3085_0
              have b_y_3086 : 0 ≤ (y_3086).toInt ∧ (y_3086).toInt ≤ 3 := dg_I.intb (lo := 0) (hi := 3) I_3085 sM_0 (by decide +kernel) f_y_3086
              have b_y_3087 : 0 ≤ (y_3087).toInt ∧ (y_3087).toInt ≤ 1600 := dg_I.intb (lo := 0) (hi := 1600) I_3085 sM_0 (by decide +kernel) f_y_3087
              have b_y_3088 : 0 ≤ (y_3088).toInt ∧ (y_3088).toInt ≤ 1600 := dg_I.intb (lo := 0) (hi := 1600) I_3085 sM_0 (by decide +kernel) f_y_3088
              refine lv_aload_n hx hb dX12_goesOn_181 rfl (lv_at hl 3 rfl) ?_
              refine lv_iconst (v := 0) hx hb dX12_goesOn_182 (by decide +kernel) ?_
              have hz_3089 : (0 : Int32).toInt = 0 := by decide +kernel
              refine dg_put (ci := 12) (v := .int 0) (ty := tyX12 46) (C := RX12) (T := TX12) (N := 77) hx hb hts (fun w h => bw_mem (wU_X12 w h)) tyX12 tyX12_ok nmX12 hown K hP hS hA1 sM_0 rfl 46 (by decide) (hts _ (bw_mem wB_1237)) (fun _ h9 => h9) rfl (by decide +kernel) (by decide +kernel) (by decide +kernel) dX12_goesOn_183 (fun S_3090 e_3090 H locs hP hS => ?_)
              have I_3090 := dg_I.uFi (lo := 0) (hi := 1) I_3085 e_3090 sM_0 (by decide +kernel) (show 0 ≤ ((0 : Int32)).toInt ∧ ((0 : Int32)).toInt ≤ 1 from (by decide +kernel))
              have M_3090 := dg_sm.uF M_3085 e_3090 sM_0 (by decide)
              refine lv_iconst (v := 1) hx hb dX12_goesOn_186 (by decide +kernel) ?_
              have hz_3091 : (1 : Int32).toInt = 1 := by decide +kernel
              have hz_3092 : (1 : Int32).toInt = 1 := by decide +kernel
              obtain ⟨x_3093, f_x_3093, b_x_3093⟩ := dg_I.int (i := 0) (k := 45) (lo := 0) (hi := 500) I_3090 sM_0 (by decide +kernel)
              have hz_3094 : (0 : Int32).toInt = 0 := by decide +kernel
              have hz_3095 : (1 : Int32).toInt = 1 := by decide +kernel
              have hz_3096 : (0 : Int32).toInt = 0 := by decide +kernel
              refine W.widen (k := 0) (n := 0) (Nat.le_of_ble_eq_true rfl) (Nat.le_of_ble_eq_true rfl) ?_
              exact dg_iret hx hb hr hlocks (by decide +kernel) hP hS ⟨I_3090, M_3090, (by decide +kernel), ⟨y_3086, y_3087, y_3088, y_3, y_3011, dp, x_3093, 0, ((dg_uF_ne e_3090 (fun z => absurd z.2 (by decide))).trans f_y_3086), ((dg_uF_ne e_3090 (fun z => absurd z.2 (by decide))).trans f_y_3087), ((dg_uF_ne e_3090 (fun z => absurd z.2 (by decide))).trans f_y_3088), (((dg_uF_ne e_3090 (fun z => absurd z.2 (by decide))).trans ((m_3085.1 0 8 _ sM_0 (by decide)).trans ((m_3080.1 0 8 _ sM_0 (by decide)).trans (m_3009.1 0 8 _ sM_0 (by decide))))).trans f_y_3), (((dg_uF_ne e_3090 (fun z => absurd z.2 (by decide))).trans ((m_3085.1 0 34 _ sM_0 (by decide)).trans (m_3080.1 0 34 _ sM_0 (by decide)))).trans f_y_3011), (((dg_uF_ne e_3090 (fun z => absurd z.2 (by decide))).trans ((m_3085.1 0 42 _ sM_0 (by decide)).trans ((m_3080.1 0 42 _ sM_0 (by decide)).trans ((m_3009.1 0 42 _ sM_0 (by decide)).trans (m_2.1 0 42 _ sM_0 (by decide)))))).trans f_dp), f_x_3093, (dg_uF_at e_3090), (by omega)⟩, (fun k9 hk9 hk0 => POM.mk0 (P0M.keep (P0M.keep P0_3080 m_3085 (by decide) (by decide) (by decide) (by decide) (by decide) (by decide) (by decide) (by decide) (by decide) (by decide) (by decide) (by decide) (by decide) (by decide) (by decide)) (dg_sm.uF (WF := [(0, 46)]) (WA := []) dg_sm.rf e_3090 sM_0 (by decide)) (by decide) (by decide) (by decide) (by decide) (by decide) (by decide) (by decide) (by decide) (by decide) (by decide) (by decide) (by decide) (by decide) (by decide) (by decide)) (dg_uF_at e_3090) (by omega)), (ZWM.keep (ZWM.keep (ZWM.keep w_3009_2 m_3080 (by decide) (by decide) (by decide) (by decide)) m_3085 (by decide) (by decide) (by decide) (by decide)) (dg_sm.uF (WF := [(0, 46)]) (WA := []) dg_sm.rf e_3090 sM_0 (by decide)) (by decide) (by decide) (by decide) (by decide)), trivial⟩ dX12_goesOn_187
          · have jc_3016 := dk_neqc (k := 0) (by decide +kernel) c_3016
            have w_3014_1_r := w_3014_1.mp (by omega)
            clear w_3014_1
            refine lv_bipush (v := 31) hx hb dX12_goesOn_125 (by decide +kernel) ?_
            refine lv_goto (tgt := 174) hx hb dX12_goesOn_127 (by decide) ?_
            refine dg_callv hS hA1 hA (va_runV (As := [.int 31]) (rest := []) F (c_m_holdsBack l g D o S_3009 31 y_3012 f_y_3012 (by omega) I_3009 H.size) (cwV 1 hts (bw_V wB_1224 wB_1225 wB_1226 wB_881 wB_1223) rfl rfl rfl (by decide +kernel) ⟨Nat.le_of_ble_eq_true rfl, Nat.le_of_ble_eq_true rfl⟩) (dg_preV sM_0 rfl K ST hP hS hA1 hA) rfl rfl hl.1 rfl (lv_room (Nat.le_of_ble_eq_true rfl)) dX12_goesOn_174 ⟨Nat.le_of_ble_eq_true rfl, Nat.le_of_ble_eq_true rfl⟩) (fun S_3097 hw_3097 H locs hP hS => ?_)
            obtain ⟨I_3097, m_3097, w_3097_0, w_3097_1, -⟩ := hw_3097
            have M_3097 := dg_sm.tr M_3009 m_3097 (by decide) (by decide)
            have hz_3098 : (31 : Int32).toInt = 31 := by decide +kernel
            obtain ⟨y_3099, f_y_3099, w_3097_0⟩ := w_3097_0
            have w_3097_0 : (y_3099).toInt = (y_3012).toInt + 1 := w_3097_0
            have b_y_3099 : 0 ≤ (y_3099).toInt ∧ (y_3099).toInt ≤ 500 := dg_I.intb (lo := 0) (hi := 500) I_3097 sM_0 (by decide +kernel) f_y_3099
            have w_3097_1 : HBM S_3009 S_3097 (31 : Int32) := w_3097_1
            obtain ⟨x_3100, f_x_3100, b_x_3100⟩ := dg_I.int (i := 0) (k := 43) (lo := (-2147483648)) (hi := 2147483647) I_3009 sM_0 (by decide +kernel)
            obtain ⟨x_3101, f_x_3101, b_x_3101⟩ := dg_I.int (i := 0) (k := 45) (lo := 0) (hi := 500) I_3009 sM_0 (by decide +kernel)
            have P0_3097 : P0M S_3097 := P1M.bin w_3009_3 (((m_3009.1 0 42 _ sM_0 (by decide)).trans (m_2.1 0 42 _ sM_0 (by decide))).trans f_dp) f_x_3100 f_x_3101 w_3009_1 m_3097 w_3097_1 (by omega)
            refine lv_aload_n hx hb dX12_goesOn_177 rfl (lv_at hl 3 rfl) ?_
            refine dg_callv hS hA1 hA (va_runV (As := []) (rest := []) F (c_m_ahead l g D o S_3097 se (((m_3097.1 0 5 _ sM_0 (by decide)).trans ((m_3009.1 0 5 _ sM_0 (by decide)).trans (m_2.1 0 5 _ sM_0 (by decide)))).trans f_se) (by omega) sl (((m_3097.1 0 2 _ sM_0 (by decide)).trans ((m_3009.1 0 2 _ sM_0 (by decide)).trans (m_2.1 0 2 _ sM_0 (by decide)))).trans f_sl) (by omega) (by omega) I_3097 H.size) (cwV 0 hts (bw_V wB_1161 wB_1162 wB_1163 wB_881 wB_1160) rfl rfl rfl (by decide +kernel) ⟨Nat.le_of_ble_eq_true rfl, Nat.le_of_ble_eq_true rfl⟩) (dg_preV sM_0 rfl K ST hP hS hA1 hA) rfl rfl hl.1 rfl (lv_room (Nat.le_of_ble_eq_true rfl)) dX12_goesOn_178 ⟨Nat.le_of_ble_eq_true rfl, Nat.le_of_ble_eq_true rfl⟩) (fun S_3102 hw_3102 H locs hP hS => ?_)
            obtain ⟨I_3102, m_3102, w_3102_0, -⟩ := hw_3102
            have M_3102 := dg_sm.tr M_3097 m_3102 (by decide) (by decide)
            obtain ⟨y_3103, y_3104, y_3105, f_y_3103, f_y_3104, f_y_3105, w_3102_0⟩ := w_3102_0
            have w_3102_0 : (se).toInt ≤ (y_3104).toInt ∧ (y_3104).toInt ≤ (y_3105).toInt ∧ (y_3105).toInt ≤ (sl).toInt ∧ ((y_3103).toInt ≠ 0 → (y_3104).toInt + 1 ≤ (y_3105).toInt) := w_3102_0
            obtain ⟨w_3102_0_0, w_3102_0_1, w_3102_0_2, w_3102_0_3⟩ := w_3102_0
            have b_y_3103 : 0 ≤ (y_3103).toInt ∧ (y_3103).toInt ≤ 3 := dg_I.intb (lo := 0) (hi := 3) I_3102 sM_0 (by decide +kernel) f_y_3103
            have b_y_3104 : 0 ≤ (y_3104).toInt ∧ (y_3104).toInt ≤ 1600 := dg_I.intb (lo := 0) (hi := 1600) I_3102 sM_0 (by decide +kernel) f_y_3104
            have b_y_3105 : 0 ≤ (y_3105).toInt ∧ (y_3105).toInt ≤ 1600 := dg_I.intb (lo := 0) (hi := 1600) I_3102 sM_0 (by decide +kernel) f_y_3105
            refine lv_aload_n hx hb dX12_goesOn_181 rfl (lv_at hl 3 rfl) ?_
            refine lv_iconst (v := 0) hx hb dX12_goesOn_182 (by decide +kernel) ?_
            have hz_3106 : (0 : Int32).toInt = 0 := by decide +kernel
            refine dg_put (ci := 12) (v := .int 0) (ty := tyX12 46) (C := RX12) (T := TX12) (N := 77) hx hb hts (fun w h => bw_mem (wU_X12 w h)) tyX12 tyX12_ok nmX12 hown K hP hS hA1 sM_0 rfl 46 (by decide) (hts _ (bw_mem wB_1237)) (fun _ h9 => h9) rfl (by decide +kernel) (by decide +kernel) (by decide +kernel) dX12_goesOn_183 (fun S_3107 e_3107 H locs hP hS => ?_)
            have I_3107 := dg_I.uFi (lo := 0) (hi := 1) I_3102 e_3107 sM_0 (by decide +kernel) (show 0 ≤ ((0 : Int32)).toInt ∧ ((0 : Int32)).toInt ≤ 1 from (by decide +kernel))
            have M_3107 := dg_sm.uF M_3102 e_3107 sM_0 (by decide)
            refine lv_iconst (v := 1) hx hb dX12_goesOn_186 (by decide +kernel) ?_
            have hz_3108 : (1 : Int32).toInt = 1 := by decide +kernel
            have hz_3109 : (1 : Int32).toInt = 1 := by decide +kernel
            obtain ⟨x_3110, f_x_3110, b_x_3110⟩ := dg_I.int (i := 0) (k := 45) (lo := 0) (hi := 500) I_3107 sM_0 (by decide +kernel)
            have hz_3111 : (0 : Int32).toInt = 0 := by decide +kernel
            have hz_3112 : (1 : Int32).toInt = 1 := by decide +kernel
            have hz_3113 : (0 : Int32).toInt = 0 := by decide +kernel
            refine W.widen (k := 0) (n := 0) (Nat.le_of_ble_eq_true rfl) (Nat.le_of_ble_eq_true rfl) ?_
            exact dg_iret hx hb hr hlocks (by decide +kernel) hP hS ⟨I_3107, M_3107, (by decide +kernel), ⟨y_3103, y_3104, y_3105, y_3, y_3011, dp, x_3110, 0, ((dg_uF_ne e_3107 (fun z => absurd z.2 (by decide))).trans f_y_3103), ((dg_uF_ne e_3107 (fun z => absurd z.2 (by decide))).trans f_y_3104), ((dg_uF_ne e_3107 (fun z => absurd z.2 (by decide))).trans f_y_3105), (((dg_uF_ne e_3107 (fun z => absurd z.2 (by decide))).trans ((m_3102.1 0 8 _ sM_0 (by decide)).trans ((m_3097.1 0 8 _ sM_0 (by decide)).trans (m_3009.1 0 8 _ sM_0 (by decide))))).trans f_y_3), (((dg_uF_ne e_3107 (fun z => absurd z.2 (by decide))).trans ((m_3102.1 0 34 _ sM_0 (by decide)).trans (m_3097.1 0 34 _ sM_0 (by decide)))).trans f_y_3011), (((dg_uF_ne e_3107 (fun z => absurd z.2 (by decide))).trans ((m_3102.1 0 42 _ sM_0 (by decide)).trans ((m_3097.1 0 42 _ sM_0 (by decide)).trans ((m_3009.1 0 42 _ sM_0 (by decide)).trans (m_2.1 0 42 _ sM_0 (by decide)))))).trans f_dp), f_x_3110, (dg_uF_at e_3107), (by omega)⟩, (fun k9 hk9 hk0 => POM.mk0 (P0M.keep (P0M.keep P0_3097 m_3102 (by decide) (by decide) (by decide) (by decide) (by decide) (by decide) (by decide) (by decide) (by decide) (by decide) (by decide) (by decide) (by decide) (by decide) (by decide)) (dg_sm.uF (WF := [(0, 46)]) (WA := []) dg_sm.rf e_3107 sM_0 (by decide)) (by decide) (by decide) (by decide) (by decide) (by decide) (by decide) (by decide) (by decide) (by decide) (by decide) (by decide) (by decide) (by decide) (by decide) (by decide)) (dg_uF_at e_3107) (by omega)), (ZWM.keep (ZWM.keep (ZWM.keep w_3009_2 m_3097 (by decide) (by decide) (by decide) (by decide)) m_3102 (by decide) (by decide) (by decide) (by decide)) (dg_sm.uF (WF := [(0, 46)]) (WA := []) dg_sm.rf e_3107 sM_0 (by decide)) (by decide) (by decide) (by decide) (by decide)), trivial⟩ dX12_goesOn_187
        · have jc_3007 := dk_eqc (k := 0) (by decide +kernel) c_3007
          have w_3005_1_r : (va).toInt ≠ 43 := fun q9 => absurd (w_3005_1.mpr ⟨by omega, by omega⟩) (by omega)
          clear w_3005_1
          refine lv_aload_n hx hb dX12_goesOn_97 rfl (lv_at hl 3 rfl) ?_
          refine lv_bipush (v := 45) hx hb dX12_goesOn_98 (by decide +kernel) ?_
          refine dg_calli hS hA1 hA (va_runV (As := [.int 45]) (rest := [.ref (o + 0)]) F (c_m_isSign l g D o S_2 45 sg ((m_2.1 0 3 _ sM_0 (by decide)).trans f_sg) (by omega) va ((m_2.1 0 6 _ sM_0 (by decide)).trans f_va) (by omega) I_2 H.size) (cwV 1 hts (bw_V wB_1157 wB_1158 wB_1159 wB_881 wB_1156) rfl rfl rfl (by decide +kernel) ⟨Nat.le_of_ble_eq_true rfl, Nat.le_of_ble_eq_true rfl⟩) (dg_preV sM_0 rfl K ST hP hS hA1 hA) rfl rfl hl.1 rfl (lv_room (Nat.le_of_ble_eq_true rfl)) dX12_goesOn_100 ⟨Nat.le_of_ble_eq_true rfl, Nat.le_of_ble_eq_true rfl⟩) (fun x_3114 S_3115 hw_3115 H locs hP hS => ?_)
          rw [hw_3115.1] at hP
          obtain ⟨hq_3115, w_3115_0, w_3115_1, -⟩ := hw_3115
          have hz_3116 : (45 : Int32).toInt = 45 := by decide +kernel
          have w_3115_0 : 0 ≤ (x_3114).toInt ∧ (x_3114).toInt ≤ 1 := w_3115_0
          have w_3115_1 : (x_3114).toInt = 1 ↔ ((sg).toInt = 3 ∧ (va).toInt = ((45 : Int32)).toInt) := w_3115_1
          refine lv_if_eq (tgt := 110) hx hb dX12_goesOn_103 (by decide) (fun c_3117 => ?_) (fun c_3117 => ?_)
          · have jc_3117 := dk_eqc (k := 0) (by decide +kernel) c_3117
            have w_3115_1_r : (va).toInt ≠ 45 := fun q9 => absurd (w_3115_1.mpr ⟨by omega, by omega⟩) (by omega)
            clear w_3115_1
            refine lv_bipush (v := 6) hx hb dX12_goesOn_110 (by decide +kernel) ?_
            have hz_3118 : (6 : Int32).toInt = 6 := by decide +kernel
            refine dg_callv hS hA1 hA (va_runV (As := [.int 6]) (rest := []) F (c_m_joins l g D o S_2 6 (by decide +kernel) cd ((m_2.1 0 34 _ sM_0 (by decide)).trans f_cd) (by omega) om ((m_2.1 0 45 _ sM_0 (by decide)).trans f_om) (by omega) (by omega) (ZWM.keep ZW m_2 (by decide) (by decide) (by decide) (by decide)) (ZKM.keep ZK m_2 (by decide) (by decide)) (P1M.keep P1 m_2 (by decide) (by decide) (by decide) (by decide) (by decide) (by decide) (by decide) (by decide) (by decide) (by decide) (by decide) (by decide) (by decide) (by decide) (by decide)) I_2 H.size) (cwV 1 hts (bw_V wB_1234 wB_1235 wB_1236 wB_881 wB_1233) rfl rfl rfl (by decide +kernel) ⟨Nat.le_of_ble_eq_true rfl, Nat.le_of_ble_eq_true rfl⟩) (dg_preV sM_0 rfl K ST hP hS hA1 hA) rfl rfl hl.1 rfl (lv_room (Nat.le_of_ble_eq_true rfl)) dX12_goesOn_112 ⟨Nat.le_of_ble_eq_true rfl, Nat.le_of_ble_eq_true rfl⟩) (fun S_3119 hw_3119 H locs hP hS => ?_)
            obtain ⟨I_3119, m_3119, w_3119_0, w_3119_1, w_3119_2, w_3119_3, -⟩ := hw_3119
            have M_3119 := dg_sm.tr M_2 m_3119 (by decide) (by decide)
            have hz_3120 : (6 : Int32).toInt = 6 := by decide +kernel
            obtain ⟨y_3121, y_3122, f_y_3121, f_y_3122, w_3119_0⟩ := w_3119_0
            have w_3119_0 : (y_3121).toInt + (y_3122).toInt = (cd).toInt + (om).toInt := w_3119_0
            have b_y_3121 : 0 ≤ (y_3121).toInt ∧ (y_3121).toInt ≤ 1600 := dg_I.intb (lo := 0) (hi := 1600) I_3119 sM_0 (by decide +kernel) f_y_3121
            have b_y_3122 : 0 ≤ (y_3122).toInt ∧ (y_3122).toInt ≤ 500 := dg_I.intb (lo := 0) (hi := 500) I_3119 sM_0 (by decide +kernel) f_y_3122
            have w_3119_1 : TOPM S_3119 (6 : Int32) := w_3119_1
            refine lv_aload_n hx hb dX12_goesOn_115 rfl (lv_at hl 3 rfl) ?_
            refine lv_aload_n hx hb dX12_goesOn_116 rfl (lv_at hl 3 rfl) ?_
            refine lv_bipush (v := 43) hx hb dX12_goesOn_117 (by decide +kernel) ?_
            refine dg_calli hS hA1 hA (va_runV (As := [.int 43]) (rest := [.ref (o + 0)]) F (c_m_isSign l g D o S_3119 43 sg (((m_3119.1 0 3 _ sM_0 (by decide)).trans (m_2.1 0 3 _ sM_0 (by decide))).trans f_sg) (by omega) va (((m_3119.1 0 6 _ sM_0 (by decide)).trans (m_2.1 0 6 _ sM_0 (by decide))).trans f_va) (by omega) I_3119 H.size) (cwV 1 hts (bw_V wB_1157 wB_1158 wB_1159 wB_881 wB_1156) rfl rfl rfl (by decide +kernel) ⟨Nat.le_of_ble_eq_true rfl, Nat.le_of_ble_eq_true rfl⟩) (dg_preV sM_0 rfl K ST hP hS hA1 hA) rfl rfl hl.1 rfl (lv_room (Nat.le_of_ble_eq_true rfl)) dX12_goesOn_119 ⟨Nat.le_of_ble_eq_true rfl, Nat.le_of_ble_eq_true rfl⟩) (fun x_3123 S_3124 hw_3124 H locs hP hS => ?_)
            rw [hw_3124.1] at hP
            obtain ⟨hq_3124, w_3124_0, w_3124_1, -⟩ := hw_3124
            have hz_3125 : (43 : Int32).toInt = 43 := by decide +kernel
            have w_3124_0 : 0 ≤ (x_3123).toInt ∧ (x_3123).toInt ≤ 1 := w_3124_0
            have w_3124_1 : (x_3123).toInt = 1 ↔ ((sg).toInt = 3 ∧ (va).toInt = ((43 : Int32)).toInt) := w_3124_1
            refine lv_if_eq (tgt := 130) hx hb dX12_goesOn_122 (by decide) (fun c_3126 => ?_) (fun c_3126 => ?_)
            · have jc_3126 := dk_eqc (k := 0) (by decide +kernel) c_3126
              have w_3124_1_r : (va).toInt ≠ 43 := fun q9 => absurd (w_3124_1.mpr ⟨by omega, by omega⟩) (by omega)
              clear w_3124_1
              refine lv_aload_n hx hb dX12_goesOn_130 rfl (lv_at hl 3 rfl) ?_
              refine lv_bipush (v := 45) hx hb dX12_goesOn_131 (by decide +kernel) ?_
              refine dg_calli hS hA1 hA (va_runV (As := [.int 45]) (rest := [.ref (o + 0)]) F (c_m_isSign l g D o S_3119 45 sg (((m_3119.1 0 3 _ sM_0 (by decide)).trans (m_2.1 0 3 _ sM_0 (by decide))).trans f_sg) (by omega) va (((m_3119.1 0 6 _ sM_0 (by decide)).trans (m_2.1 0 6 _ sM_0 (by decide))).trans f_va) (by omega) I_3119 H.size) (cwV 1 hts (bw_V wB_1157 wB_1158 wB_1159 wB_881 wB_1156) rfl rfl rfl (by decide +kernel) ⟨Nat.le_of_ble_eq_true rfl, Nat.le_of_ble_eq_true rfl⟩) (dg_preV sM_0 rfl K ST hP hS hA1 hA) rfl rfl hl.1 rfl (lv_room (Nat.le_of_ble_eq_true rfl)) dX12_goesOn_133 ⟨Nat.le_of_ble_eq_true rfl, Nat.le_of_ble_eq_true rfl⟩) (fun x_3127 S_3128 hw_3128 H locs hP hS => ?_)
              rw [hw_3128.1] at hP
              obtain ⟨hq_3128, w_3128_0, w_3128_1, -⟩ := hw_3128
              have hz_3129 : (45 : Int32).toInt = 45 := by decide +kernel
              have w_3128_0 : 0 ≤ (x_3127).toInt ∧ (x_3127).toInt ≤ 1 := w_3128_0
              have w_3128_1 : (x_3127).toInt = 1 ↔ ((sg).toInt = 3 ∧ (va).toInt = ((45 : Int32)).toInt) := w_3128_1
              refine lv_if_eq (tgt := 144) hx hb dX12_goesOn_136 (by decide) (fun c_3130 => ?_) (fun c_3130 => ?_)
              · have jc_3130 := dk_eqc (k := 0) (by decide +kernel) c_3130
                have w_3128_1_r : (va).toInt ≠ 45 := fun q9 => absurd (w_3128_1.mpr ⟨by omega, by omega⟩) (by omega)
                clear w_3128_1
                refine lv_aload_n hx hb dX12_goesOn_144 rfl (lv_at hl 3 rfl) ?_
                refine lv_bipush (v := 42) hx hb dX12_goesOn_145 (by decide +kernel) ?_
                refine dg_calli hS hA1 hA (va_runV (As := [.int 42]) (rest := [.ref (o + 0)]) F (c_m_isSign l g D o S_3119 42 sg (((m_3119.1 0 3 _ sM_0 (by decide)).trans (m_2.1 0 3 _ sM_0 (by decide))).trans f_sg) (by omega) va (((m_3119.1 0 6 _ sM_0 (by decide)).trans (m_2.1 0 6 _ sM_0 (by decide))).trans f_va) (by omega) I_3119 H.size) (cwV 1 hts (bw_V wB_1157 wB_1158 wB_1159 wB_881 wB_1156) rfl rfl rfl (by decide +kernel) ⟨Nat.le_of_ble_eq_true rfl, Nat.le_of_ble_eq_true rfl⟩) (dg_preV sM_0 rfl K ST hP hS hA1 hA) rfl rfl hl.1 rfl (lv_room (Nat.le_of_ble_eq_true rfl)) dX12_goesOn_147 ⟨Nat.le_of_ble_eq_true rfl, Nat.le_of_ble_eq_true rfl⟩) (fun x_3131 S_3132 hw_3132 H locs hP hS => ?_)
                rw [hw_3132.1] at hP
                obtain ⟨hq_3132, w_3132_0, w_3132_1, -⟩ := hw_3132
                have hz_3133 : (42 : Int32).toInt = 42 := by decide +kernel
                have w_3132_0 : 0 ≤ (x_3131).toInt ∧ (x_3131).toInt ≤ 1 := w_3132_0
                have w_3132_1 : (x_3131).toInt = 1 ↔ ((sg).toInt = 3 ∧ (va).toInt = ((42 : Int32)).toInt) := w_3132_1
                refine lv_if_eq (tgt := 158) hx hb dX12_goesOn_150 (by decide) (fun c_3134 => ?_) (fun c_3134 => ?_)
                · have jc_3134 := dk_eqc (k := 0) (by decide +kernel) c_3134
                  have w_3132_1_r : (va).toInt ≠ 42 := fun q9 => absurd (w_3132_1.mpr ⟨by omega, by omega⟩) (by omega)
                  clear w_3132_1
                  refine lv_aload_n hx hb dX12_goesOn_158 rfl (lv_at hl 3 rfl) ?_
                  refine lv_bipush (v := 47) hx hb dX12_goesOn_159 (by decide +kernel) ?_
                  refine dg_calli hS hA1 hA (va_runV (As := [.int 47]) (rest := [.ref (o + 0)]) F (c_m_isSign l g D o S_3119 47 sg (((m_3119.1 0 3 _ sM_0 (by decide)).trans (m_2.1 0 3 _ sM_0 (by decide))).trans f_sg) (by omega) va (((m_3119.1 0 6 _ sM_0 (by decide)).trans (m_2.1 0 6 _ sM_0 (by decide))).trans f_va) (by omega) I_3119 H.size) (cwV 1 hts (bw_V wB_1157 wB_1158 wB_1159 wB_881 wB_1156) rfl rfl rfl (by decide +kernel) ⟨Nat.le_of_ble_eq_true rfl, Nat.le_of_ble_eq_true rfl⟩) (dg_preV sM_0 rfl K ST hP hS hA1 hA) rfl rfl hl.1 rfl (lv_room (Nat.le_of_ble_eq_true rfl)) dX12_goesOn_161 ⟨Nat.le_of_ble_eq_true rfl, Nat.le_of_ble_eq_true rfl⟩) (fun x_3135 S_3136 hw_3136 H locs hP hS => ?_)
                  rw [hw_3136.1] at hP
                  obtain ⟨hq_3136, w_3136_0, w_3136_1, -⟩ := hw_3136
                  have hz_3137 : (47 : Int32).toInt = 47 := by decide +kernel
                  have w_3136_0 : 0 ≤ (x_3135).toInt ∧ (x_3135).toInt ≤ 1 := w_3136_0
                  have w_3136_1 : (x_3135).toInt = 1 ↔ ((sg).toInt = 3 ∧ (va).toInt = ((47 : Int32)).toInt) := w_3136_1
                  refine lv_if_eq (tgt := 172) hx hb dX12_goesOn_164 (by decide) (fun c_3138 => ?_) (fun c_3138 => ?_)
                  · have jc_3138 := dk_eqc (k := 0) (by decide +kernel) c_3138
                    have w_3136_1_r : (va).toInt ≠ 47 := fun q9 => absurd (w_3136_1.mpr ⟨by omega, by omega⟩) (by omega)
                    clear w_3136_1
                    refine lv_bipush (v := 35) hx hb dX12_goesOn_172 (by decide +kernel) ?_
                    refine dg_callv hS hA1 hA (va_runV (As := [.int 35]) (rest := []) F (c_m_holdsBack l g D o S_3119 35 y_3122 f_y_3122 (by omega) I_3119 H.size) (cwV 1 hts (bw_V wB_1224 wB_1225 wB_1226 wB_881 wB_1223) rfl rfl rfl (by decide +kernel) ⟨Nat.le_of_ble_eq_true rfl, Nat.le_of_ble_eq_true rfl⟩) (dg_preV sM_0 rfl K ST hP hS hA1 hA) rfl rfl hl.1 rfl (lv_room (Nat.le_of_ble_eq_true rfl)) dX12_goesOn_174 ⟨Nat.le_of_ble_eq_true rfl, Nat.le_of_ble_eq_true rfl⟩) (fun S_3139 hw_3139 H locs hP hS => ?_)
                    obtain ⟨I_3139, m_3139, w_3139_0, w_3139_1, -⟩ := hw_3139
                    have M_3139 := dg_sm.tr M_3119 m_3139 (by decide) (by decide)
                    have hz_3140 : (35 : Int32).toInt = 35 := by decide +kernel
                    obtain ⟨y_3141, f_y_3141, w_3139_0⟩ := w_3139_0
                    have w_3139_0 : (y_3141).toInt = (y_3122).toInt + 1 := w_3139_0
                    have b_y_3141 : 0 ≤ (y_3141).toInt ∧ (y_3141).toInt ≤ 500 := dg_I.intb (lo := 0) (hi := 500) I_3139 sM_0 (by decide +kernel) f_y_3141
                    have w_3139_1 : HBM S_3119 S_3139 (35 : Int32) := w_3139_1
                    obtain ⟨x_3142, f_x_3142, b_x_3142⟩ := dg_I.int (i := 0) (k := 43) (lo := (-2147483648)) (hi := 2147483647) I_3119 sM_0 (by decide +kernel)
                    obtain ⟨x_3143, f_x_3143, b_x_3143⟩ := dg_I.int (i := 0) (k := 45) (lo := 0) (hi := 500) I_3119 sM_0 (by decide +kernel)
                    have P0_3139 : P0M S_3139 := P1M.bin w_3119_3 (((m_3119.1 0 42 _ sM_0 (by decide)).trans (m_2.1 0 42 _ sM_0 (by decide))).trans f_dp) f_x_3142 f_x_3143 w_3119_1 m_3139 w_3139_1 (by omega)
                    refine lv_aload_n hx hb dX12_goesOn_177 rfl (lv_at hl 3 rfl) ?_
                    refine dg_callv hS hA1 hA (va_runV (As := []) (rest := []) F (c_m_ahead l g D o S_3139 se (((m_3139.1 0 5 _ sM_0 (by decide)).trans ((m_3119.1 0 5 _ sM_0 (by decide)).trans (m_2.1 0 5 _ sM_0 (by decide)))).trans f_se) (by omega) sl (((m_3139.1 0 2 _ sM_0 (by decide)).trans ((m_3119.1 0 2 _ sM_0 (by decide)).trans (m_2.1 0 2 _ sM_0 (by decide)))).trans f_sl) (by omega) (by omega) I_3139 H.size) (cwV 0 hts (bw_V wB_1161 wB_1162 wB_1163 wB_881 wB_1160) rfl rfl rfl (by decide +kernel) ⟨Nat.le_of_ble_eq_true rfl, Nat.le_of_ble_eq_true rfl⟩) (dg_preV sM_0 rfl K ST hP hS hA1 hA) rfl rfl hl.1 rfl (lv_room (Nat.le_of_ble_eq_true rfl)) dX12_goesOn_178 ⟨Nat.le_of_ble_eq_true rfl, Nat.le_of_ble_eq_true rfl⟩) (fun S_3144 hw_3144 H locs hP hS => ?_)
                    obtain ⟨I_3144, m_3144, w_3144_0, -⟩ := hw_3144
                    have M_3144 := dg_sm.tr M_3139 m_3144 (by decide) (by decide)
                    obtain ⟨y_3145, y_3146, y_3147, f_y_3145, f_y_3146, f_y_3147, w_3144_0⟩ := w_3144_0
                    have w_3144_0 : (se).toInt ≤ (y_3146).toInt ∧ (y_3146).toInt ≤ (y_3147).toInt ∧ (y_3147).toInt ≤ (sl).toInt ∧ ((y_3145).toInt ≠ 0 → (y_3146).toInt + 1 ≤ (y_3147).toInt) := w_3144_0
                    obtain ⟨w_3144_0_0, w_3144_0_1, w_3144_0_2, w_3144_0_3⟩ := w_3144_0
                    have b_y_3145 : 0 ≤ (y_3145).toInt ∧ (y_3145).toInt ≤ 3 := dg_I.intb (lo := 0) (hi := 3) I_3144 sM_0 (by decide +kernel) f_y_3145
                    have b_y_3146 : 0 ≤ (y_3146).toInt ∧ (y_3146).toInt ≤ 1600 := dg_I.intb (lo := 0) (hi := 1600) I_3144 sM_0 (by decide +kernel) f_y_3146
                    have b_y_3147 : 0 ≤ (y_3147).toInt ∧ (y_3147).toInt ≤ 1600 := dg_I.intb (lo := 0) (hi := 1600) I_3144 sM_0 (by decide +kernel) f_y_3147
                    refine lv_aload_n hx hb dX12_goesOn_181 rfl (lv_at hl 3 rfl) ?_
                    refine lv_iconst (v := 0) hx hb dX12_goesOn_182 (by decide +kernel) ?_
                    have hz_3148 : (0 : Int32).toInt = 0 := by decide +kernel
                    refine dg_put (ci := 12) (v := .int 0) (ty := tyX12 46) (C := RX12) (T := TX12) (N := 77) hx hb hts (fun w h => bw_mem (wU_X12 w h)) tyX12 tyX12_ok nmX12 hown K hP hS hA1 sM_0 rfl 46 (by decide) (hts _ (bw_mem wB_1237)) (fun _ h9 => h9) rfl (by decide +kernel) (by decide +kernel) (by decide +kernel) dX12_goesOn_183 (fun S_3149 e_3149 H locs hP hS => ?_)
                    have I_3149 := dg_I.uFi (lo := 0) (hi := 1) I_3144 e_3149 sM_0 (by decide +kernel) (show 0 ≤ ((0 : Int32)).toInt ∧ ((0 : Int32)).toInt ≤ 1 from (by decide +kernel))
                    have M_3149 := dg_sm.uF M_3144 e_3149 sM_0 (by decide)
                    refine lv_iconst (v := 1) hx hb dX12_goesOn_186 (by decide +kernel) ?_
                    have hz_3150 : (1 : Int32).toInt = 1 := by decide +kernel
                    have hz_3151 : (1 : Int32).toInt = 1 := by decide +kernel
                    obtain ⟨x_3152, f_x_3152, b_x_3152⟩ := dg_I.int (i := 0) (k := 45) (lo := 0) (hi := 500) I_3149 sM_0 (by decide +kernel)
                    have hz_3153 : (0 : Int32).toInt = 0 := by decide +kernel
                    have hz_3154 : (1 : Int32).toInt = 1 := by decide +kernel
                    have hz_3155 : (0 : Int32).toInt = 0 := by decide +kernel
                    refine W.widen (k := 0) (n := 0) (Nat.le_of_ble_eq_true rfl) (Nat.le_of_ble_eq_true rfl) ?_
                    exact dg_iret hx hb hr hlocks (by decide +kernel) hP hS ⟨I_3149, M_3149, (by decide +kernel), ⟨y_3145, y_3146, y_3147, y_3, y_3121, dp, x_3152, 0, ((dg_uF_ne e_3149 (fun z => absurd z.2 (by decide))).trans f_y_3145), ((dg_uF_ne e_3149 (fun z => absurd z.2 (by decide))).trans f_y_3146), ((dg_uF_ne e_3149 (fun z => absurd z.2 (by decide))).trans f_y_3147), (((dg_uF_ne e_3149 (fun z => absurd z.2 (by decide))).trans ((m_3144.1 0 8 _ sM_0 (by decide)).trans ((m_3139.1 0 8 _ sM_0 (by decide)).trans (m_3119.1 0 8 _ sM_0 (by decide))))).trans f_y_3), (((dg_uF_ne e_3149 (fun z => absurd z.2 (by decide))).trans ((m_3144.1 0 34 _ sM_0 (by decide)).trans (m_3139.1 0 34 _ sM_0 (by decide)))).trans f_y_3121), (((dg_uF_ne e_3149 (fun z => absurd z.2 (by decide))).trans ((m_3144.1 0 42 _ sM_0 (by decide)).trans ((m_3139.1 0 42 _ sM_0 (by decide)).trans ((m_3119.1 0 42 _ sM_0 (by decide)).trans (m_2.1 0 42 _ sM_0 (by decide)))))).trans f_dp), f_x_3152, (dg_uF_at e_3149), (by omega)⟩, (fun k9 hk9 hk0 => POM.mk0 (P0M.keep (P0M.keep P0_3139 m_3144 (by decide) (by decide) (by decide) (by decide) (by decide) (by decide) (by decide) (by decide) (by decide) (by decide) (by decide) (by decide) (by decide) (by decide) (by decide)) (dg_sm.uF (WF := [(0, 46)]) (WA := []) dg_sm.rf e_3149 sM_0 (by decide)) (by decide) (by decide) (by decide) (by decide) (by decide) (by decide) (by decide) (by decide) (by decide) (by decide) (by decide) (by decide) (by decide) (by decide) (by decide)) (dg_uF_at e_3149) (by omega)), (ZWM.keep (ZWM.keep (ZWM.keep w_3119_2 m_3139 (by decide) (by decide) (by decide) (by decide)) m_3144 (by decide) (by decide) (by decide) (by decide)) (dg_sm.uF (WF := [(0, 46)]) (WA := []) dg_sm.rf e_3149 sM_0 (by decide)) (by decide) (by decide) (by decide) (by decide)), trivial⟩ dX12_goesOn_187
                  · have jc_3138 := dk_neqc (k := 0) (by decide +kernel) c_3138
                    have w_3136_1_r := w_3136_1.mp (by omega)
                    clear w_3136_1
                    refine lv_bipush (v := 34) hx hb dX12_goesOn_167 (by decide +kernel) ?_
                    refine lv_goto (tgt := 174) hx hb dX12_goesOn_169 (by decide) ?_
                    refine dg_callv hS hA1 hA (va_runV (As := [.int 34]) (rest := []) F (c_m_holdsBack l g D o S_3119 34 y_3122 f_y_3122 (by omega) I_3119 H.size) (cwV 1 hts (bw_V wB_1224 wB_1225 wB_1226 wB_881 wB_1223) rfl rfl rfl (by decide +kernel) ⟨Nat.le_of_ble_eq_true rfl, Nat.le_of_ble_eq_true rfl⟩) (dg_preV sM_0 rfl K ST hP hS hA1 hA) rfl rfl hl.1 rfl (lv_room (Nat.le_of_ble_eq_true rfl)) dX12_goesOn_174 ⟨Nat.le_of_ble_eq_true rfl, Nat.le_of_ble_eq_true rfl⟩) (fun S_3156 hw_3156 H locs hP hS => ?_)
                    obtain ⟨I_3156, m_3156, w_3156_0, w_3156_1, -⟩ := hw_3156
                    have M_3156 := dg_sm.tr M_3119 m_3156 (by decide) (by decide)
                    have hz_3157 : (34 : Int32).toInt = 34 := by decide +kernel
                    obtain ⟨y_3158, f_y_3158, w_3156_0⟩ := w_3156_0
                    have w_3156_0 : (y_3158).toInt = (y_3122).toInt + 1 := w_3156_0
                    have b_y_3158 : 0 ≤ (y_3158).toInt ∧ (y_3158).toInt ≤ 500 := dg_I.intb (lo := 0) (hi := 500) I_3156 sM_0 (by decide +kernel) f_y_3158
                    have w_3156_1 : HBM S_3119 S_3156 (34 : Int32) := w_3156_1
                    obtain ⟨x_3159, f_x_3159, b_x_3159⟩ := dg_I.int (i := 0) (k := 43) (lo := (-2147483648)) (hi := 2147483647) I_3119 sM_0 (by decide +kernel)
                    obtain ⟨x_3160, f_x_3160, b_x_3160⟩ := dg_I.int (i := 0) (k := 45) (lo := 0) (hi := 500) I_3119 sM_0 (by decide +kernel)
                    have P0_3156 : P0M S_3156 := P1M.bin w_3119_3 (((m_3119.1 0 42 _ sM_0 (by decide)).trans (m_2.1 0 42 _ sM_0 (by decide))).trans f_dp) f_x_3159 f_x_3160 w_3119_1 m_3156 w_3156_1 (by omega)
                    refine lv_aload_n hx hb dX12_goesOn_177 rfl (lv_at hl 3 rfl) ?_
                    refine dg_callv hS hA1 hA (va_runV (As := []) (rest := []) F (c_m_ahead l g D o S_3156 se (((m_3156.1 0 5 _ sM_0 (by decide)).trans ((m_3119.1 0 5 _ sM_0 (by decide)).trans (m_2.1 0 5 _ sM_0 (by decide)))).trans f_se) (by omega) sl (((m_3156.1 0 2 _ sM_0 (by decide)).trans ((m_3119.1 0 2 _ sM_0 (by decide)).trans (m_2.1 0 2 _ sM_0 (by decide)))).trans f_sl) (by omega) (by omega) I_3156 H.size) (cwV 0 hts (bw_V wB_1161 wB_1162 wB_1163 wB_881 wB_1160) rfl rfl rfl (by decide +kernel) ⟨Nat.le_of_ble_eq_true rfl, Nat.le_of_ble_eq_true rfl⟩) (dg_preV sM_0 rfl K ST hP hS hA1 hA) rfl rfl hl.1 rfl (lv_room (Nat.le_of_ble_eq_true rfl)) dX12_goesOn_178 ⟨Nat.le_of_ble_eq_true rfl, Nat.le_of_ble_eq_true rfl⟩) (fun S_3161 hw_3161 H locs hP hS => ?_)
                    obtain ⟨I_3161, m_3161, w_3161_0, -⟩ := hw_3161
                    have M_3161 := dg_sm.tr M_3156 m_3161 (by decide) (by decide)
                    obtain ⟨y_3162, y_3163, y_3164, f_y_3162, f_y_3163, f_y_3164, w_3161_0⟩ := w_3161_0
                    have w_3161_0 : (se).toInt ≤ (y_3163).toInt ∧ (y_3163).toInt ≤ (y_3164).toInt ∧ (y_3164).toInt ≤ (sl).toInt ∧ ((y_3162).toInt ≠ 0 → (y_3163).toInt + 1 ≤ (y_3164).toInt) := w_3161_0
                    obtain ⟨w_3161_0_0, w_3161_0_1, w_3161_0_2, w_3161_0_3⟩ := w_3161_0
                    have b_y_3162 : 0 ≤ (y_3162).toInt ∧ (y_3162).toInt ≤ 3 := dg_I.intb (lo := 0) (hi := 3) I_3161 sM_0 (by decide +kernel) f_y_3162
                    have b_y_3163 : 0 ≤ (y_3163).toInt ∧ (y_3163).toInt ≤ 1600 := dg_I.intb (lo := 0) (hi := 1600) I_3161 sM_0 (by decide +kernel) f_y_3163
                    have b_y_3164 : 0 ≤ (y_3164).toInt ∧ (y_3164).toInt ≤ 1600 := dg_I.intb (lo := 0) (hi := 1600) I_3161 sM_0 (by decide +kernel) f_y_3164
                    refine lv_aload_n hx hb dX12_goesOn_181 rfl (lv_at hl 3 rfl) ?_
                    refine lv_iconst (v := 0) hx hb dX12_goesOn_182 (by decide +kernel) ?_
                    have hz_3165 : (0 : Int32).toInt = 0 := by decide +kernel
                    refine dg_put (ci := 12) (v := .int 0) (ty := tyX12 46) (C := RX12) (T := TX12) (N := 77) hx hb hts (fun w h => bw_mem (wU_X12 w h)) tyX12 tyX12_ok nmX12 hown K hP hS hA1 sM_0 rfl 46 (by decide) (hts _ (bw_mem wB_1237)) (fun _ h9 => h9) rfl (by decide +kernel) (by decide +kernel) (by decide +kernel) dX12_goesOn_183 (fun S_3166 e_3166 H locs hP hS => ?_)
                    have I_3166 := dg_I.uFi (lo := 0) (hi := 1) I_3161 e_3166 sM_0 (by decide +kernel) (show 0 ≤ ((0 : Int32)).toInt ∧ ((0 : Int32)).toInt ≤ 1 from (by decide +kernel))
                    have M_3166 := dg_sm.uF M_3161 e_3166 sM_0 (by decide)
                    refine lv_iconst (v := 1) hx hb dX12_goesOn_186 (by decide +kernel) ?_
                    have hz_3167 : (1 : Int32).toInt = 1 := by decide +kernel
                    have hz_3168 : (1 : Int32).toInt = 1 := by decide +kernel
                    obtain ⟨x_3169, f_x_3169, b_x_3169⟩ := dg_I.int (i := 0) (k := 45) (lo := 0) (hi := 500) I_3166 sM_0 (by decide +kernel)
                    have hz_3170 : (0 : Int32).toInt = 0 := by decide +kernel
                    have hz_3171 : (1 : Int32).toInt = 1 := by decide +kernel
                    have hz_3172 : (0 : Int32).toInt = 0 := by decide +kernel
                    refine W.widen (k := 0) (n := 0) (Nat.le_of_ble_eq_true rfl) (Nat.le_of_ble_eq_true rfl) ?_
                    exact dg_iret hx hb hr hlocks (by decide +kernel) hP hS ⟨I_3166, M_3166, (by decide +kernel), ⟨y_3162, y_3163, y_3164, y_3, y_3121, dp, x_3169, 0, ((dg_uF_ne e_3166 (fun z => absurd z.2 (by decide))).trans f_y_3162), ((dg_uF_ne e_3166 (fun z => absurd z.2 (by decide))).trans f_y_3163), ((dg_uF_ne e_3166 (fun z => absurd z.2 (by decide))).trans f_y_3164), (((dg_uF_ne e_3166 (fun z => absurd z.2 (by decide))).trans ((m_3161.1 0 8 _ sM_0 (by decide)).trans ((m_3156.1 0 8 _ sM_0 (by decide)).trans (m_3119.1 0 8 _ sM_0 (by decide))))).trans f_y_3), (((dg_uF_ne e_3166 (fun z => absurd z.2 (by decide))).trans ((m_3161.1 0 34 _ sM_0 (by decide)).trans (m_3156.1 0 34 _ sM_0 (by decide)))).trans f_y_3121), (((dg_uF_ne e_3166 (fun z => absurd z.2 (by decide))).trans ((m_3161.1 0 42 _ sM_0 (by decide)).trans ((m_3156.1 0 42 _ sM_0 (by decide)).trans ((m_3119.1 0 42 _ sM_0 (by decide)).trans (m_2.1 0 42 _ sM_0 (by decide)))))).trans f_dp), f_x_3169, (dg_uF_at e_3166), (by omega)⟩, (fun k9 hk9 hk0 => POM.mk0 (P0M.keep (P0M.keep P0_3156 m_3161 (by decide) (by decide) (by decide) (by decide) (by decide) (by decide) (by decide) (by decide) (by decide) (by decide) (by decide) (by decide) (by decide) (by decide) (by decide)) (dg_sm.uF (WF := [(0, 46)]) (WA := []) dg_sm.rf e_3166 sM_0 (by decide)) (by decide) (by decide) (by decide) (by decide) (by decide) (by decide) (by decide) (by decide) (by decide) (by decide) (by decide) (by decide) (by decide) (by decide) (by decide)) (dg_uF_at e_3166) (by omega)), (ZWM.keep (ZWM.keep (ZWM.keep w_3119_2 m_3156 (by decide) (by decide) (by decide) (by decide)) m_3161 (by decide) (by decide) (by decide) (by decide)) (dg_sm.uF (WF := [(0, 46)]) (WA := []) dg_sm.rf e_3166 sM_0 (by decide)) (by decide) (by decide) (by decide) (by decide)), trivial⟩ dX12_goesOn_187
                · have jc_3134 := dk_neqc (k := 0) (by decide +kernel) c_3134
                  have w_3132_1_r := w_3132_1.mp (by omega)
                  clear w_3132_1
                  refine lv_bipush (v := 33) hx hb dX12_goesOn_153 (by decide +kernel) ?_
                  refine lv_goto (tgt := 174) hx hb dX12_goesOn_155 (by decide) ?_
                  refine dg_callv hS hA1 hA (va_runV (As := [.int 33]) (rest := []) F (c_m_holdsBack l g D o S_3119 33 y_3122 f_y_3122 (by omega) I_3119 H.size) (cwV 1 hts (bw_V wB_1224 wB_1225 wB_1226 wB_881 wB_1223) rfl rfl rfl (by decide +kernel) ⟨Nat.le_of_ble_eq_true rfl, Nat.le_of_ble_eq_true rfl⟩) (dg_preV sM_0 rfl K ST hP hS hA1 hA) rfl rfl hl.1 rfl (lv_room (Nat.le_of_ble_eq_true rfl)) dX12_goesOn_174 ⟨Nat.le_of_ble_eq_true rfl, Nat.le_of_ble_eq_true rfl⟩) (fun S_3173 hw_3173 H locs hP hS => ?_)
                  obtain ⟨I_3173, m_3173, w_3173_0, w_3173_1, -⟩ := hw_3173
                  have M_3173 := dg_sm.tr M_3119 m_3173 (by decide) (by decide)
                  have hz_3174 : (33 : Int32).toInt = 33 := by decide +kernel
                  obtain ⟨y_3175, f_y_3175, w_3173_0⟩ := w_3173_0
                  have w_3173_0 : (y_3175).toInt = (y_3122).toInt + 1 := w_3173_0
                  have b_y_3175 : 0 ≤ (y_3175).toInt ∧ (y_3175).toInt ≤ 500 := dg_I.intb (lo := 0) (hi := 500) I_3173 sM_0 (by decide +kernel) f_y_3175
                  have w_3173_1 : HBM S_3119 S_3173 (33 : Int32) := w_3173_1
                  obtain ⟨x_3176, f_x_3176, b_x_3176⟩ := dg_I.int (i := 0) (k := 43) (lo := (-2147483648)) (hi := 2147483647) I_3119 sM_0 (by decide +kernel)
                  obtain ⟨x_3177, f_x_3177, b_x_3177⟩ := dg_I.int (i := 0) (k := 45) (lo := 0) (hi := 500) I_3119 sM_0 (by decide +kernel)
                  have P0_3173 : P0M S_3173 := P1M.bin w_3119_3 (((m_3119.1 0 42 _ sM_0 (by decide)).trans (m_2.1 0 42 _ sM_0 (by decide))).trans f_dp) f_x_3176 f_x_3177 w_3119_1 m_3173 w_3173_1 (by omega)
                  refine lv_aload_n hx hb dX12_goesOn_177 rfl (lv_at hl 3 rfl) ?_
                  refine dg_callv hS hA1 hA (va_runV (As := []) (rest := []) F (c_m_ahead l g D o S_3173 se (((m_3173.1 0 5 _ sM_0 (by decide)).trans ((m_3119.1 0 5 _ sM_0 (by decide)).trans (m_2.1 0 5 _ sM_0 (by decide)))).trans f_se) (by omega) sl (((m_3173.1 0 2 _ sM_0 (by decide)).trans ((m_3119.1 0 2 _ sM_0 (by decide)).trans (m_2.1 0 2 _ sM_0 (by decide)))).trans f_sl) (by omega) (by omega) I_3173 H.size) (cwV 0 hts (bw_V wB_1161 wB_1162 wB_1163 wB_881 wB_1160) rfl rfl rfl (by decide +kernel) ⟨Nat.le_of_ble_eq_true rfl, Nat.le_of_ble_eq_true rfl⟩) (dg_preV sM_0 rfl K ST hP hS hA1 hA) rfl rfl hl.1 rfl (lv_room (Nat.le_of_ble_eq_true rfl)) dX12_goesOn_178 ⟨Nat.le_of_ble_eq_true rfl, Nat.le_of_ble_eq_true rfl⟩) (fun S_3178 hw_3178 H locs hP hS => ?_)
                  obtain ⟨I_3178, m_3178, w_3178_0, -⟩ := hw_3178
                  have M_3178 := dg_sm.tr M_3173 m_3178 (by decide) (by decide)
                  obtain ⟨y_3179, y_3180, y_3181, f_y_3179, f_y_3180, f_y_3181, w_3178_0⟩ := w_3178_0
                  have w_3178_0 : (se).toInt ≤ (y_3180).toInt ∧ (y_3180).toInt ≤ (y_3181).toInt ∧ (y_3181).toInt ≤ (sl).toInt ∧ ((y_3179).toInt ≠ 0 → (y_3180).toInt + 1 ≤ (y_3181).toInt) := w_3178_0
                  obtain ⟨w_3178_0_0, w_3178_0_1, w_3178_0_2, w_3178_0_3⟩ := w_3178_0
                  have b_y_3179 : 0 ≤ (y_3179).toInt ∧ (y_3179).toInt ≤ 3 := dg_I.intb (lo := 0) (hi := 3) I_3178 sM_0 (by decide +kernel) f_y_3179
                  have b_y_3180 : 0 ≤ (y_3180).toInt ∧ (y_3180).toInt ≤ 1600 := dg_I.intb (lo := 0) (hi := 1600) I_3178 sM_0 (by decide +kernel) f_y_3180
                  have b_y_3181 : 0 ≤ (y_3181).toInt ∧ (y_3181).toInt ≤ 1600 := dg_I.intb (lo := 0) (hi := 1600) I_3178 sM_0 (by decide +kernel) f_y_3181
                  refine lv_aload_n hx hb dX12_goesOn_181 rfl (lv_at hl 3 rfl) ?_
                  refine lv_iconst (v := 0) hx hb dX12_goesOn_182 (by decide +kernel) ?_
                  have hz_3182 : (0 : Int32).toInt = 0 := by decide +kernel
                  refine dg_put (ci := 12) (v := .int 0) (ty := tyX12 46) (C := RX12) (T := TX12) (N := 77) hx hb hts (fun w h => bw_mem (wU_X12 w h)) tyX12 tyX12_ok nmX12 hown K hP hS hA1 sM_0 rfl 46 (by decide) (hts _ (bw_mem wB_1237)) (fun _ h9 => h9) rfl (by decide +kernel) (by decide +kernel) (by decide +kernel) dX12_goesOn_183 (fun S_3183 e_3183 H locs hP hS => ?_)
                  have I_3183 := dg_I.uFi (lo := 0) (hi := 1) I_3178 e_3183 sM_0 (by decide +kernel) (show 0 ≤ ((0 : Int32)).toInt ∧ ((0 : Int32)).toInt ≤ 1 from (by decide +kernel))
                  have M_3183 := dg_sm.uF M_3178 e_3183 sM_0 (by decide)
                  refine lv_iconst (v := 1) hx hb dX12_goesOn_186 (by decide +kernel) ?_
                  have hz_3184 : (1 : Int32).toInt = 1 := by decide +kernel
                  have hz_3185 : (1 : Int32).toInt = 1 := by decide +kernel
                  obtain ⟨x_3186, f_x_3186, b_x_3186⟩ := dg_I.int (i := 0) (k := 45) (lo := 0) (hi := 500) I_3183 sM_0 (by decide +kernel)
                  have hz_3187 : (0 : Int32).toInt = 0 := by decide +kernel
                  have hz_3188 : (1 : Int32).toInt = 1 := by decide +kernel
                  have hz_3189 : (0 : Int32).toInt = 0 := by decide +kernel
                  refine W.widen (k := 0) (n := 0) (Nat.le_of_ble_eq_true rfl) (Nat.le_of_ble_eq_true rfl) ?_
                  exact dg_iret hx hb hr hlocks (by decide +kernel) hP hS ⟨I_3183, M_3183, (by decide +kernel), ⟨y_3179, y_3180, y_3181, y_3, y_3121, dp, x_3186, 0, ((dg_uF_ne e_3183 (fun z => absurd z.2 (by decide))).trans f_y_3179), ((dg_uF_ne e_3183 (fun z => absurd z.2 (by decide))).trans f_y_3180), ((dg_uF_ne e_3183 (fun z => absurd z.2 (by decide))).trans f_y_3181), (((dg_uF_ne e_3183 (fun z => absurd z.2 (by decide))).trans ((m_3178.1 0 8 _ sM_0 (by decide)).trans ((m_3173.1 0 8 _ sM_0 (by decide)).trans (m_3119.1 0 8 _ sM_0 (by decide))))).trans f_y_3), (((dg_uF_ne e_3183 (fun z => absurd z.2 (by decide))).trans ((m_3178.1 0 34 _ sM_0 (by decide)).trans (m_3173.1 0 34 _ sM_0 (by decide)))).trans f_y_3121), (((dg_uF_ne e_3183 (fun z => absurd z.2 (by decide))).trans ((m_3178.1 0 42 _ sM_0 (by decide)).trans ((m_3173.1 0 42 _ sM_0 (by decide)).trans ((m_3119.1 0 42 _ sM_0 (by decide)).trans (m_2.1 0 42 _ sM_0 (by decide)))))).trans f_dp), f_x_3186, (dg_uF_at e_3183), (by omega)⟩, (fun k9 hk9 hk0 => POM.mk0 (P0M.keep (P0M.keep P0_3173 m_3178 (by decide) (by decide) (by decide) (by decide) (by decide) (by decide) (by decide) (by decide) (by decide) (by decide) (by decide) (by decide) (by decide) (by decide) (by decide)) (dg_sm.uF (WF := [(0, 46)]) (WA := []) dg_sm.rf e_3183 sM_0 (by decide)) (by decide) (by decide) (by decide) (by decide) (by decide) (by decide) (by decide) (by decide) (by decide) (by decide) (by decide) (by decide) (by decide) (by decide) (by decide)) (dg_uF_at e_3183) (by omega)), (ZWM.keep (ZWM.keep (ZWM.keep w_3119_2 m_3173 (by decide) (by decide) (by decide) (by decide)) m_3178 (by decide) (by decide) (by decide) (by decide)) (dg_sm.uF (WF := [(0, 46)]) (WA := []) dg_sm.rf e_3183 sM_0 (by decide)) (by decide) (by decide) (by decide) (by decide)), trivial⟩ dX12_goesOn_187
              · have jc_3130 := dk_neqc (k := 0) (by decide +kernel) c_3130
                have w_3128_1_r := w_3128_1.mp (by omega)
                clear w_3128_1
                refine lv_bipush (v := 32) hx hb dX12_goesOn_139 (by decide +kernel) ?_
                refine lv_goto (tgt := 174) hx hb dX12_goesOn_141 (by decide) ?_
                refine dg_callv hS hA1 hA (va_runV (As := [.int 32]) (rest := []) F (c_m_holdsBack l g D o S_3119 32 y_3122 f_y_3122 (by omega) I_3119 H.size) (cwV 1 hts (bw_V wB_1224 wB_1225 wB_1226 wB_881 wB_1223) rfl rfl rfl (by decide +kernel) ⟨Nat.le_of_ble_eq_true rfl, Nat.le_of_ble_eq_true rfl⟩) (dg_preV sM_0 rfl K ST hP hS hA1 hA) rfl rfl hl.1 rfl (lv_room (Nat.le_of_ble_eq_true rfl)) dX12_goesOn_174 ⟨Nat.le_of_ble_eq_true rfl, Nat.le_of_ble_eq_true rfl⟩) (fun S_3190 hw_3190 H locs hP hS => ?_)
                obtain ⟨I_3190, m_3190, w_3190_0, w_3190_1, -⟩ := hw_3190
                have M_3190 := dg_sm.tr M_3119 m_3190 (by decide) (by decide)
                have hz_3191 : (32 : Int32).toInt = 32 := by decide +kernel
                obtain ⟨y_3192, f_y_3192, w_3190_0⟩ := w_3190_0
                have w_3190_0 : (y_3192).toInt = (y_3122).toInt + 1 := w_3190_0
                have b_y_3192 : 0 ≤ (y_3192).toInt ∧ (y_3192).toInt ≤ 500 := dg_I.intb (lo := 0) (hi := 500) I_3190 sM_0 (by decide +kernel) f_y_3192
                have w_3190_1 : HBM S_3119 S_3190 (32 : Int32) := w_3190_1
                obtain ⟨x_3193, f_x_3193, b_x_3193⟩ := dg_I.int (i := 0) (k := 43) (lo := (-2147483648)) (hi := 2147483647) I_3119 sM_0 (by decide +kernel)
                obtain ⟨x_3194, f_x_3194, b_x_3194⟩ := dg_I.int (i := 0) (k := 45) (lo := 0) (hi := 500) I_3119 sM_0 (by decide +kernel)
                have P0_3190 : P0M S_3190 := P1M.bin w_3119_3 (((m_3119.1 0 42 _ sM_0 (by decide)).trans (m_2.1 0 42 _ sM_0 (by decide))).trans f_dp) f_x_3193 f_x_3194 w_3119_1 m_3190 w_3190_1 (by omega)
                refine lv_aload_n hx hb dX12_goesOn_177 rfl (lv_at hl 3 rfl) ?_
                refine dg_callv hS hA1 hA (va_runV (As := []) (rest := []) F (c_m_ahead l g D o S_3190 se (((m_3190.1 0 5 _ sM_0 (by decide)).trans ((m_3119.1 0 5 _ sM_0 (by decide)).trans (m_2.1 0 5 _ sM_0 (by decide)))).trans f_se) (by omega) sl (((m_3190.1 0 2 _ sM_0 (by decide)).trans ((m_3119.1 0 2 _ sM_0 (by decide)).trans (m_2.1 0 2 _ sM_0 (by decide)))).trans f_sl) (by omega) (by omega) I_3190 H.size) (cwV 0 hts (bw_V wB_1161 wB_1162 wB_1163 wB_881 wB_1160) rfl rfl rfl (by decide +kernel) ⟨Nat.le_of_ble_eq_true rfl, Nat.le_of_ble_eq_true rfl⟩) (dg_preV sM_0 rfl K ST hP hS hA1 hA) rfl rfl hl.1 rfl (lv_room (Nat.le_of_ble_eq_true rfl)) dX12_goesOn_178 ⟨Nat.le_of_ble_eq_true rfl, Nat.le_of_ble_eq_true rfl⟩) (fun S_3195 hw_3195 H locs hP hS => ?_)
                obtain ⟨I_3195, m_3195, w_3195_0, -⟩ := hw_3195
                have M_3195 := dg_sm.tr M_3190 m_3195 (by decide) (by decide)
                obtain ⟨y_3196, y_3197, y_3198, f_y_3196, f_y_3197, f_y_3198, w_3195_0⟩ := w_3195_0
                have w_3195_0 : (se).toInt ≤ (y_3197).toInt ∧ (y_3197).toInt ≤ (y_3198).toInt ∧ (y_3198).toInt ≤ (sl).toInt ∧ ((y_3196).toInt ≠ 0 → (y_3197).toInt + 1 ≤ (y_3198).toInt) := w_3195_0
                obtain ⟨w_3195_0_0, w_3195_0_1, w_3195_0_2, w_3195_0_3⟩ := w_3195_0
                have b_y_3196 : 0 ≤ (y_3196).toInt ∧ (y_3196).toInt ≤ 3 := dg_I.intb (lo := 0) (hi := 3) I_3195 sM_0 (by decide +kernel) f_y_3196
                have b_y_3197 : 0 ≤ (y_3197).toInt ∧ (y_3197).toInt ≤ 1600 := dg_I.intb (lo := 0) (hi := 1600) I_3195 sM_0 (by decide +kernel) f_y_3197
                have b_y_3198 : 0 ≤ (y_3198).toInt ∧ (y_3198).toInt ≤ 1600 := dg_I.intb (lo := 0) (hi := 1600) I_3195 sM_0 (by decide +kernel) f_y_3198
                refine lv_aload_n hx hb dX12_goesOn_181 rfl (lv_at hl 3 rfl) ?_
                refine lv_iconst (v := 0) hx hb dX12_goesOn_182 (by decide +kernel) ?_
                have hz_3199 : (0 : Int32).toInt = 0 := by decide +kernel
                refine dg_put (ci := 12) (v := .int 0) (ty := tyX12 46) (C := RX12) (T := TX12) (N := 77) hx hb hts (fun w h => bw_mem (wU_X12 w h)) tyX12 tyX12_ok nmX12 hown K hP hS hA1 sM_0 rfl 46 (by decide) (hts _ (bw_mem wB_1237)) (fun _ h9 => h9) rfl (by decide +kernel) (by decide +kernel) (by decide +kernel) dX12_goesOn_183 (fun S_3200 e_3200 H locs hP hS => ?_)
                have I_3200 := dg_I.uFi (lo := 0) (hi := 1) I_3195 e_3200 sM_0 (by decide +kernel) (show 0 ≤ ((0 : Int32)).toInt ∧ ((0 : Int32)).toInt ≤ 1 from (by decide +kernel))
                have M_3200 := dg_sm.uF M_3195 e_3200 sM_0 (by decide)
                refine lv_iconst (v := 1) hx hb dX12_goesOn_186 (by decide +kernel) ?_
                have hz_3201 : (1 : Int32).toInt = 1 := by decide +kernel
                have hz_3202 : (1 : Int32).toInt = 1 := by decide +kernel
                obtain ⟨x_3203, f_x_3203, b_x_3203⟩ := dg_I.int (i := 0) (k := 45) (lo := 0) (hi := 500) I_3200 sM_0 (by decide +kernel)
                have hz_3204 : (0 : Int32).toInt = 0 := by decide +kernel
                have hz_3205 : (1 : Int32).toInt = 1 := by decide +kernel
                have hz_3206 : (0 : Int32).toInt = 0 := by decide +kernel
                refine W.widen (k := 0) (n := 0) (Nat.le_of_ble_eq_true rfl) (Nat.le_of_ble_eq_true rfl) ?_
                exact dg_iret hx hb hr hlocks (by decide +kernel) hP hS ⟨I_3200, M_3200, (by decide +kernel), ⟨y_3196, y_3197, y_3198, y_3, y_3121, dp, x_3203, 0, ((dg_uF_ne e_3200 (fun z => absurd z.2 (by decide))).trans f_y_3196), ((dg_uF_ne e_3200 (fun z => absurd z.2 (by decide))).trans f_y_3197), ((dg_uF_ne e_3200 (fun z => absurd z.2 (by decide))).trans f_y_3198), (((dg_uF_ne e_3200 (fun z => absurd z.2 (by decide))).trans ((m_3195.1 0 8 _ sM_0 (by decide)).trans ((m_3190.1 0 8 _ sM_0 (by decide)).trans (m_3119.1 0 8 _ sM_0 (by decide))))).trans f_y_3), (((dg_uF_ne e_3200 (fun z => absurd z.2 (by decide))).trans ((m_3195.1 0 34 _ sM_0 (by decide)).trans (m_3190.1 0 34 _ sM_0 (by decide)))).trans f_y_3121), (((dg_uF_ne e_3200 (fun z => absurd z.2 (by decide))).trans ((m_3195.1 0 42 _ sM_0 (by decide)).trans ((m_3190.1 0 42 _ sM_0 (by decide)).trans ((m_3119.1 0 42 _ sM_0 (by decide)).trans (m_2.1 0 42 _ sM_0 (by decide)))))).trans f_dp), f_x_3203, (dg_uF_at e_3200), (by omega)⟩, (fun k9 hk9 hk0 => POM.mk0 (P0M.keep (P0M.keep P0_3190 m_3195 (by decide) (by decide) (by decide) (by decide) (by decide) (by decide) (by decide) (by decide) (by decide) (by decide) (by decide) (by decide) (by decide) (by decide) (by decide)) (dg_sm.uF (WF := [(0, 46)]) (WA := []) dg_sm.rf e_3200 sM_0 (by decide)) (by decide) (by decide) (by decide) (by decide) (by decide) (by decide) (by decide) (by decide) (by decide) (by decide) (by decide) (by decide) (by decide) (by decide) (by decide)) (dg_uF_at e_3200) (by omega)), (ZWM.keep (ZWM.keep (ZWM.keep w_3119_2 m_3190 (by decide) (by decide) (by decide) (by decide)) m_3195 (by decide) (by decide) (by decide) (by decide)) (dg_sm.uF (WF := [(0, 46)]) (WA := []) dg_sm.rf e_3200 sM_0 (by decide)) (by decide) (by decide) (by decide) (by decide)), trivial⟩ dX12_goesOn_187
            · have jc_3126 := dk_neqc (k := 0) (by decide +kernel) c_3126
              have w_3124_1_r := w_3124_1.mp (by omega)
              clear w_3124_1
              refine lv_bipush (v := 31) hx hb dX12_goesOn_125 (by decide +kernel) ?_
              refine lv_goto (tgt := 174) hx hb dX12_goesOn_127 (by decide) ?_
              refine dg_callv hS hA1 hA (va_runV (As := [.int 31]) (rest := []) F (c_m_holdsBack l g D o S_3119 31 y_3122 f_y_3122 (by omega) I_3119 H.size) (cwV 1 hts (bw_V wB_1224 wB_1225 wB_1226 wB_881 wB_1223) rfl rfl rfl (by decide +kernel) ⟨Nat.le_of_ble_eq_true rfl, Nat.le_of_ble_eq_true rfl⟩) (dg_preV sM_0 rfl K ST hP hS hA1 hA) rfl rfl hl.1 rfl (lv_room (Nat.le_of_ble_eq_true rfl)) dX12_goesOn_174 ⟨Nat.le_of_ble_eq_true rfl, Nat.le_of_ble_eq_true rfl⟩) (fun S_3207 hw_3207 H locs hP hS => ?_)
              obtain ⟨I_3207, m_3207, w_3207_0, w_3207_1, -⟩ := hw_3207
              have M_3207 := dg_sm.tr M_3119 m_3207 (by decide) (by decide)
              have hz_3208 : (31 : Int32).toInt = 31 := by decide +kernel
              obtain ⟨y_3209, f_y_3209, w_3207_0⟩ := w_3207_0
              have w_3207_0 : (y_3209).toInt = (y_3122).toInt + 1 := w_3207_0
              have b_y_3209 : 0 ≤ (y_3209).toInt ∧ (y_3209).toInt ≤ 500 := dg_I.intb (lo := 0) (hi := 500) I_3207 sM_0 (by decide +kernel) f_y_3209
              have w_3207_1 : HBM S_3119 S_3207 (31 : Int32) := w_3207_1
              obtain ⟨x_3210, f_x_3210, b_x_3210⟩ := dg_I.int (i := 0) (k := 43) (lo := (-2147483648)) (hi := 2147483647) I_3119 sM_0 (by decide +kernel)
              obtain ⟨x_3211, f_x_3211, b_x_3211⟩ := dg_I.int (i := 0) (k := 45) (lo := 0) (hi := 500) I_3119 sM_0 (by decide +kernel)
              have P0_3207 : P0M S_3207 := P1M.bin w_3119_3 (((m_3119.1 0 42 _ sM_0 (by decide)).trans (m_2.1 0 42 _ sM_0 (by decide))).trans f_dp) f_x_3210 f_x_3211 w_3119_1 m_3207 w_3207_1 (by omega)
              refine lv_aload_n hx hb dX12_goesOn_177 rfl (lv_at hl 3 rfl) ?_
              refine dg_callv hS hA1 hA (va_runV (As := []) (rest := []) F (c_m_ahead l g D o S_3207 se (((m_3207.1 0 5 _ sM_0 (by decide)).trans ((m_3119.1 0 5 _ sM_0 (by decide)).trans (m_2.1 0 5 _ sM_0 (by decide)))).trans f_se) (by omega) sl (((m_3207.1 0 2 _ sM_0 (by decide)).trans ((m_3119.1 0 2 _ sM_0 (by decide)).trans (m_2.1 0 2 _ sM_0 (by decide)))).trans f_sl) (by omega) (by omega) I_3207 H.size) (cwV 0 hts (bw_V wB_1161 wB_1162 wB_1163 wB_881 wB_1160) rfl rfl rfl (by decide +kernel) ⟨Nat.le_of_ble_eq_true rfl, Nat.le_of_ble_eq_true rfl⟩) (dg_preV sM_0 rfl K ST hP hS hA1 hA) rfl rfl hl.1 rfl (lv_room (Nat.le_of_ble_eq_true rfl)) dX12_goesOn_178 ⟨Nat.le_of_ble_eq_true rfl, Nat.le_of_ble_eq_true rfl⟩) (fun S_3212 hw_3212 H locs hP hS => ?_)
              obtain ⟨I_3212, m_3212, w_3212_0, -⟩ := hw_3212
              have M_3212 := dg_sm.tr M_3207 m_3212 (by decide) (by decide)
              obtain ⟨y_3213, y_3214, y_3215, f_y_3213, f_y_3214, f_y_3215, w_3212_0⟩ := w_3212_0
              have w_3212_0 : (se).toInt ≤ (y_3214).toInt ∧ (y_3214).toInt ≤ (y_3215).toInt ∧ (y_3215).toInt ≤ (sl).toInt ∧ ((y_3213).toInt ≠ 0 → (y_3214).toInt + 1 ≤ (y_3215).toInt) := w_3212_0
              obtain ⟨w_3212_0_0, w_3212_0_1, w_3212_0_2, w_3212_0_3⟩ := w_3212_0
              have b_y_3213 : 0 ≤ (y_3213).toInt ∧ (y_3213).toInt ≤ 3 := dg_I.intb (lo := 0) (hi := 3) I_3212 sM_0 (by decide +kernel) f_y_3213
              have b_y_3214 : 0 ≤ (y_3214).toInt ∧ (y_3214).toInt ≤ 1600 := dg_I.intb (lo := 0) (hi := 1600) I_3212 sM_0 (by decide +kernel) f_y_3214
              have b_y_3215 : 0 ≤ (y_3215).toInt ∧ (y_3215).toInt ≤ 1600 := dg_I.intb (lo := 0) (hi := 1600) I_3212 sM_0 (by decide +kernel) f_y_3215
              refine lv_aload_n hx hb dX12_goesOn_181 rfl (lv_at hl 3 rfl) ?_
              refine lv_iconst (v := 0) hx hb dX12_goesOn_182 (by decide +kernel) ?_
              have hz_3216 : (0 : Int32).toInt = 0 := by decide +kernel
              refine dg_put (ci := 12) (v := .int 0) (ty := tyX12 46) (C := RX12) (T := TX12) (N := 77) hx hb hts (fun w h => bw_mem (wU_X12 w h)) tyX12 tyX12_ok nmX12 hown K hP hS hA1 sM_0 rfl 46 (by decide) (hts _ (bw_mem wB_1237)) (fun _ h9 => h9) rfl (by decide +kernel) (by decide +kernel) (by decide +kernel) dX12_goesOn_183 (fun S_3217 e_3217 H locs hP hS => ?_)
              have I_3217 := dg_I.uFi (lo := 0) (hi := 1) I_3212 e_3217 sM_0 (by decide +kernel) (show 0 ≤ ((0 : Int32)).toInt ∧ ((0 : Int32)).toInt ≤ 1 from (by decide +kernel))
              have M_3217 := dg_sm.uF M_3212 e_3217 sM_0 (by decide)
              refine lv_iconst (v := 1) hx hb dX12_goesOn_186 (by decide +kernel) ?_
              have hz_3218 : (1 : Int32).toInt = 1 := by decide +kernel
              have hz_3219 : (1 : Int32).toInt = 1 := by decide +kernel
              obtain ⟨x_3220, f_x_3220, b_x_3220⟩ := dg_I.int (i := 0) (k := 45) (lo := 0) (hi := 500) I_3217 sM_0 (by decide +kernel)
              have hz_3221 : (0 : Int32).toInt = 0 := by decide +kernel
              have hz_3222 : (1 : Int32).toInt = 1 := by decide +kernel
              have hz_3223 : (0 : Int32).toInt = 0 := by decide +kernel
              refine W.widen (k := 0) (n := 0) (Nat.le_of_ble_eq_true rfl) (Nat.le_of_ble_eq_true rfl) ?_
              exact dg_iret hx hb hr hlocks (by decide +kernel) hP hS ⟨I_3217, M_3217, (by decide +kernel), ⟨y_3213, y_3214, y_3215, y_3, y_3121, dp, x_3220, 0, ((dg_uF_ne e_3217 (fun z => absurd z.2 (by decide))).trans f_y_3213), ((dg_uF_ne e_3217 (fun z => absurd z.2 (by decide))).trans f_y_3214), ((dg_uF_ne e_3217 (fun z => absurd z.2 (by decide))).trans f_y_3215), (((dg_uF_ne e_3217 (fun z => absurd z.2 (by decide))).trans ((m_3212.1 0 8 _ sM_0 (by decide)).trans ((m_3207.1 0 8 _ sM_0 (by decide)).trans (m_3119.1 0 8 _ sM_0 (by decide))))).trans f_y_3), (((dg_uF_ne e_3217 (fun z => absurd z.2 (by decide))).trans ((m_3212.1 0 34 _ sM_0 (by decide)).trans (m_3207.1 0 34 _ sM_0 (by decide)))).trans f_y_3121), (((dg_uF_ne e_3217 (fun z => absurd z.2 (by decide))).trans ((m_3212.1 0 42 _ sM_0 (by decide)).trans ((m_3207.1 0 42 _ sM_0 (by decide)).trans ((m_3119.1 0 42 _ sM_0 (by decide)).trans (m_2.1 0 42 _ sM_0 (by decide)))))).trans f_dp), f_x_3220, (dg_uF_at e_3217), (by omega)⟩, (fun k9 hk9 hk0 => POM.mk0 (P0M.keep (P0M.keep P0_3207 m_3212 (by decide) (by decide) (by decide) (by decide) (by decide) (by decide) (by decide) (by decide) (by decide) (by decide) (by decide) (by decide) (by decide) (by decide) (by decide)) (dg_sm.uF (WF := [(0, 46)]) (WA := []) dg_sm.rf e_3217 sM_0 (by decide)) (by decide) (by decide) (by decide) (by decide) (by decide) (by decide) (by decide) (by decide) (by decide) (by decide) (by decide) (by decide) (by decide) (by decide) (by decide)) (dg_uF_at e_3217) (by omega)), (ZWM.keep (ZWM.keep (ZWM.keep w_3119_2 m_3207 (by decide) (by decide) (by decide) (by decide)) m_3212 (by decide) (by decide) (by decide) (by decide)) (dg_sm.uF (WF := [(0, 46)]) (WA := []) dg_sm.rf e_3217 sM_0 (by decide)) (by decide) (by decide) (by decide) (by decide)), trivial⟩ dX12_goesOn_187
          · have jc_3117 := dk_neqc (k := 0) (by decide +kernel) c_3117
            have w_3115_1_r := w_3115_1.mp (by omega)
            clear w_3115_1
            refine lv_iconst (v := 5) hx hb dX12_goesOn_106 (by decide +kernel) ?_
            refine lv_goto (tgt := 112) hx hb dX12_goesOn_107 (by decide) ?_
            have hz_3224 : (5 : Int32).toInt = 5 := by decide +kernel
            refine dg_callv hS hA1 hA (va_runV (As := [.int 5]) (rest := []) F (c_m_joins l g D o S_2 5 (by decide +kernel) cd ((m_2.1 0 34 _ sM_0 (by decide)).trans f_cd) (by omega) om ((m_2.1 0 45 _ sM_0 (by decide)).trans f_om) (by omega) (by omega) (ZWM.keep ZW m_2 (by decide) (by decide) (by decide) (by decide)) (ZKM.keep ZK m_2 (by decide) (by decide)) (P1M.keep P1 m_2 (by decide) (by decide) (by decide) (by decide) (by decide) (by decide) (by decide) (by decide) (by decide) (by decide) (by decide) (by decide) (by decide) (by decide) (by decide)) I_2 H.size) (cwV 1 hts (bw_V wB_1234 wB_1235 wB_1236 wB_881 wB_1233) rfl rfl rfl (by decide +kernel) ⟨Nat.le_of_ble_eq_true rfl, Nat.le_of_ble_eq_true rfl⟩) (dg_preV sM_0 rfl K ST hP hS hA1 hA) rfl rfl hl.1 rfl (lv_room (Nat.le_of_ble_eq_true rfl)) dX12_goesOn_112 ⟨Nat.le_of_ble_eq_true rfl, Nat.le_of_ble_eq_true rfl⟩) (fun S_3225 hw_3225 H locs hP hS => ?_)
            obtain ⟨I_3225, m_3225, w_3225_0, w_3225_1, w_3225_2, w_3225_3, -⟩ := hw_3225
            have M_3225 := dg_sm.tr M_2 m_3225 (by decide) (by decide)
            have hz_3226 : (5 : Int32).toInt = 5 := by decide +kernel
            obtain ⟨y_3227, y_3228, f_y_3227, f_y_3228, w_3225_0⟩ := w_3225_0
            have w_3225_0 : (y_3227).toInt + (y_3228).toInt = (cd).toInt + (om).toInt := w_3225_0
            have b_y_3227 : 0 ≤ (y_3227).toInt ∧ (y_3227).toInt ≤ 1600 := dg_I.intb (lo := 0) (hi := 1600) I_3225 sM_0 (by decide +kernel) f_y_3227
            have b_y_3228 : 0 ≤ (y_3228).toInt ∧ (y_3228).toInt ≤ 500 := dg_I.intb (lo := 0) (hi := 500) I_3225 sM_0 (by decide +kernel) f_y_3228
            have w_3225_1 : TOPM S_3225 (5 : Int32) := w_3225_1
            refine lv_aload_n hx hb dX12_goesOn_115 rfl (lv_at hl 3 rfl) ?_
            refine lv_aload_n hx hb dX12_goesOn_116 rfl (lv_at hl 3 rfl) ?_
            refine lv_bipush (v := 43) hx hb dX12_goesOn_117 (by decide +kernel) ?_
            refine dg_calli hS hA1 hA (va_runV (As := [.int 43]) (rest := [.ref (o + 0)]) F (c_m_isSign l g D o S_3225 43 sg (((m_3225.1 0 3 _ sM_0 (by decide)).trans (m_2.1 0 3 _ sM_0 (by decide))).trans f_sg) (by omega) va (((m_3225.1 0 6 _ sM_0 (by decide)).trans (m_2.1 0 6 _ sM_0 (by decide))).trans f_va) (by omega) I_3225 H.size) (cwV 1 hts (bw_V wB_1157 wB_1158 wB_1159 wB_881 wB_1156) rfl rfl rfl (by decide +kernel) ⟨Nat.le_of_ble_eq_true rfl, Nat.le_of_ble_eq_true rfl⟩) (dg_preV sM_0 rfl K ST hP hS hA1 hA) rfl rfl hl.1 rfl (lv_room (Nat.le_of_ble_eq_true rfl)) dX12_goesOn_119 ⟨Nat.le_of_ble_eq_true rfl, Nat.le_of_ble_eq_true rfl⟩) (fun x_3229 S_3230 hw_3230 H locs hP hS => ?_)
            rw [hw_3230.1] at hP
            obtain ⟨hq_3230, w_3230_0, w_3230_1, -⟩ := hw_3230
            have hz_3231 : (43 : Int32).toInt = 43 := by decide +kernel
            have w_3230_0 : 0 ≤ (x_3229).toInt ∧ (x_3229).toInt ≤ 1 := w_3230_0
            have w_3230_1 : (x_3229).toInt = 1 ↔ ((sg).toInt = 3 ∧ (va).toInt = ((43 : Int32)).toInt) := w_3230_1
            refine lv_if_eq (tgt := 130) hx hb dX12_goesOn_122 (by decide) (fun c_3232 => ?_) (fun c_3232 => ?_)
            · have jc_3232 := dk_eqc (k := 0) (by decide +kernel) c_3232
              have w_3230_1_r : (va).toInt ≠ 43 := fun q9 => absurd (w_3230_1.mpr ⟨by omega, by omega⟩) (by omega)
              clear w_3230_1
              refine lv_aload_n hx hb dX12_goesOn_130 rfl (lv_at hl 3 rfl) ?_
              refine lv_bipush (v := 45) hx hb dX12_goesOn_131 (by decide +kernel) ?_
              refine dg_calli hS hA1 hA (va_runV (As := [.int 45]) (rest := [.ref (o + 0)]) F (c_m_isSign l g D o S_3225 45 sg (((m_3225.1 0 3 _ sM_0 (by decide)).trans (m_2.1 0 3 _ sM_0 (by decide))).trans f_sg) (by omega) va (((m_3225.1 0 6 _ sM_0 (by decide)).trans (m_2.1 0 6 _ sM_0 (by decide))).trans f_va) (by omega) I_3225 H.size) (cwV 1 hts (bw_V wB_1157 wB_1158 wB_1159 wB_881 wB_1156) rfl rfl rfl (by decide +kernel) ⟨Nat.le_of_ble_eq_true rfl, Nat.le_of_ble_eq_true rfl⟩) (dg_preV sM_0 rfl K ST hP hS hA1 hA) rfl rfl hl.1 rfl (lv_room (Nat.le_of_ble_eq_true rfl)) dX12_goesOn_133 ⟨Nat.le_of_ble_eq_true rfl, Nat.le_of_ble_eq_true rfl⟩) (fun x_3233 S_3234 hw_3234 H locs hP hS => ?_)
              rw [hw_3234.1] at hP
              obtain ⟨hq_3234, w_3234_0, w_3234_1, -⟩ := hw_3234
              have hz_3235 : (45 : Int32).toInt = 45 := by decide +kernel
              have w_3234_0 : 0 ≤ (x_3233).toInt ∧ (x_3233).toInt ≤ 1 := w_3234_0
              have w_3234_1 : (x_3233).toInt = 1 ↔ ((sg).toInt = 3 ∧ (va).toInt = ((45 : Int32)).toInt) := w_3234_1
              refine lv_if_eq (tgt := 144) hx hb dX12_goesOn_136 (by decide) (fun c_3236 => ?_) (fun c_3236 => ?_)
              · have jc_3236 := dk_eqc (k := 0) (by decide +kernel) c_3236
                have w_3234_1_r : (va).toInt ≠ 45 := fun q9 => absurd (w_3234_1.mpr ⟨by omega, by omega⟩) (by omega)
                clear w_3234_1
                refine lv_aload_n hx hb dX12_goesOn_144 rfl (lv_at hl 3 rfl) ?_
                refine lv_bipush (v := 42) hx hb dX12_goesOn_145 (by decide +kernel) ?_
                refine dg_calli hS hA1 hA (va_runV (As := [.int 42]) (rest := [.ref (o + 0)]) F (c_m_isSign l g D o S_3225 42 sg (((m_3225.1 0 3 _ sM_0 (by decide)).trans (m_2.1 0 3 _ sM_0 (by decide))).trans f_sg) (by omega) va (((m_3225.1 0 6 _ sM_0 (by decide)).trans (m_2.1 0 6 _ sM_0 (by decide))).trans f_va) (by omega) I_3225 H.size) (cwV 1 hts (bw_V wB_1157 wB_1158 wB_1159 wB_881 wB_1156) rfl rfl rfl (by decide +kernel) ⟨Nat.le_of_ble_eq_true rfl, Nat.le_of_ble_eq_true rfl⟩) (dg_preV sM_0 rfl K ST hP hS hA1 hA) rfl rfl hl.1 rfl (lv_room (Nat.le_of_ble_eq_true rfl)) dX12_goesOn_147 ⟨Nat.le_of_ble_eq_true rfl, Nat.le_of_ble_eq_true rfl⟩) (fun x_3237 S_3238 hw_3238 H locs hP hS => ?_)
                rw [hw_3238.1] at hP
                obtain ⟨hq_3238, w_3238_0, w_3238_1, -⟩ := hw_3238
                have hz_3239 : (42 : Int32).toInt = 42 := by decide +kernel
                have w_3238_0 : 0 ≤ (x_3237).toInt ∧ (x_3237).toInt ≤ 1 := w_3238_0
                have w_3238_1 : (x_3237).toInt = 1 ↔ ((sg).toInt = 3 ∧ (va).toInt = ((42 : Int32)).toInt) := w_3238_1
                refine lv_if_eq (tgt := 158) hx hb dX12_goesOn_150 (by decide) (fun c_3240 => ?_) (fun c_3240 => ?_)
                · have jc_3240 := dk_eqc (k := 0) (by decide +kernel) c_3240
                  have w_3238_1_r : (va).toInt ≠ 42 := fun q9 => absurd (w_3238_1.mpr ⟨by omega, by omega⟩) (by omega)
                  clear w_3238_1
                  refine lv_aload_n hx hb dX12_goesOn_158 rfl (lv_at hl 3 rfl) ?_
                  refine lv_bipush (v := 47) hx hb dX12_goesOn_159 (by decide +kernel) ?_
                  refine dg_calli hS hA1 hA (va_runV (As := [.int 47]) (rest := [.ref (o + 0)]) F (c_m_isSign l g D o S_3225 47 sg (((m_3225.1 0 3 _ sM_0 (by decide)).trans (m_2.1 0 3 _ sM_0 (by decide))).trans f_sg) (by omega) va (((m_3225.1 0 6 _ sM_0 (by decide)).trans (m_2.1 0 6 _ sM_0 (by decide))).trans f_va) (by omega) I_3225 H.size) (cwV 1 hts (bw_V wB_1157 wB_1158 wB_1159 wB_881 wB_1156) rfl rfl rfl (by decide +kernel) ⟨Nat.le_of_ble_eq_true rfl, Nat.le_of_ble_eq_true rfl⟩) (dg_preV sM_0 rfl K ST hP hS hA1 hA) rfl rfl hl.1 rfl (lv_room (Nat.le_of_ble_eq_true rfl)) dX12_goesOn_161 ⟨Nat.le_of_ble_eq_true rfl, Nat.le_of_ble_eq_true rfl⟩) (fun x_3241 S_3242 hw_3242 H locs hP hS => ?_)
                  rw [hw_3242.1] at hP
                  obtain ⟨hq_3242, w_3242_0, w_3242_1, -⟩ := hw_3242
                  have hz_3243 : (47 : Int32).toInt = 47 := by decide +kernel
                  have w_3242_0 : 0 ≤ (x_3241).toInt ∧ (x_3241).toInt ≤ 1 := w_3242_0
                  have w_3242_1 : (x_3241).toInt = 1 ↔ ((sg).toInt = 3 ∧ (va).toInt = ((47 : Int32)).toInt) := w_3242_1
                  refine lv_if_eq (tgt := 172) hx hb dX12_goesOn_164 (by decide) (fun c_3244 => ?_) (fun c_3244 => ?_)
                  · have jc_3244 := dk_eqc (k := 0) (by decide +kernel) c_3244
                    have w_3242_1_r : (va).toInt ≠ 47 := fun q9 => absurd (w_3242_1.mpr ⟨by omega, by omega⟩) (by omega)
                    clear w_3242_1
                    refine lv_bipush (v := 35) hx hb dX12_goesOn_172 (by decide +kernel) ?_
                    refine dg_callv hS hA1 hA (va_runV (As := [.int 35]) (rest := []) F (c_m_holdsBack l g D o S_3225 35 y_3228 f_y_3228 (by omega) I_3225 H.size) (cwV 1 hts (bw_V wB_1224 wB_1225 wB_1226 wB_881 wB_1223) rfl rfl rfl (by decide +kernel) ⟨Nat.le_of_ble_eq_true rfl, Nat.le_of_ble_eq_true rfl⟩) (dg_preV sM_0 rfl K ST hP hS hA1 hA) rfl rfl hl.1 rfl (lv_room (Nat.le_of_ble_eq_true rfl)) dX12_goesOn_174 ⟨Nat.le_of_ble_eq_true rfl, Nat.le_of_ble_eq_true rfl⟩) (fun S_3245 hw_3245 H locs hP hS => ?_)
                    obtain ⟨I_3245, m_3245, w_3245_0, w_3245_1, -⟩ := hw_3245
                    have M_3245 := dg_sm.tr M_3225 m_3245 (by decide) (by decide)
                    have hz_3246 : (35 : Int32).toInt = 35 := by decide +kernel
                    obtain ⟨y_3247, f_y_3247, w_3245_0⟩ := w_3245_0
                    have w_3245_0 : (y_3247).toInt = (y_3228).toInt + 1 := w_3245_0
                    have b_y_3247 : 0 ≤ (y_3247).toInt ∧ (y_3247).toInt ≤ 500 := dg_I.intb (lo := 0) (hi := 500) I_3245 sM_0 (by decide +kernel) f_y_3247
                    have w_3245_1 : HBM S_3225 S_3245 (35 : Int32) := w_3245_1
                    obtain ⟨x_3248, f_x_3248, b_x_3248⟩ := dg_I.int (i := 0) (k := 43) (lo := (-2147483648)) (hi := 2147483647) I_3225 sM_0 (by decide +kernel)
                    obtain ⟨x_3249, f_x_3249, b_x_3249⟩ := dg_I.int (i := 0) (k := 45) (lo := 0) (hi := 500) I_3225 sM_0 (by decide +kernel)
                    have P0_3245 : P0M S_3245 := P1M.bin w_3225_3 (((m_3225.1 0 42 _ sM_0 (by decide)).trans (m_2.1 0 42 _ sM_0 (by decide))).trans f_dp) f_x_3248 f_x_3249 w_3225_1 m_3245 w_3245_1 (by omega)
                    refine lv_aload_n hx hb dX12_goesOn_177 rfl (lv_at hl 3 rfl) ?_
                    refine dg_callv hS hA1 hA (va_runV (As := []) (rest := []) F (c_m_ahead l g D o S_3245 se (((m_3245.1 0 5 _ sM_0 (by decide)).trans ((m_3225.1 0 5 _ sM_0 (by decide)).trans (m_2.1 0 5 _ sM_0 (by decide)))).trans f_se) (by omega) sl (((m_3245.1 0 2 _ sM_0 (by decide)).trans ((m_3225.1 0 2 _ sM_0 (by decide)).trans (m_2.1 0 2 _ sM_0 (by decide)))).trans f_sl) (by omega) (by omega) I_3245 H.size) (cwV 0 hts (bw_V wB_1161 wB_1162 wB_1163 wB_881 wB_1160) rfl rfl rfl (by decide +kernel) ⟨Nat.le_of_ble_eq_true rfl, Nat.le_of_ble_eq_true rfl⟩) (dg_preV sM_0 rfl K ST hP hS hA1 hA) rfl rfl hl.1 rfl (lv_room (Nat.le_of_ble_eq_true rfl)) dX12_goesOn_178 ⟨Nat.le_of_ble_eq_true rfl, Nat.le_of_ble_eq_true rfl⟩) (fun S_3250 hw_3250 H locs hP hS => ?_)
                    obtain ⟨I_3250, m_3250, w_3250_0, -⟩ := hw_3250
                    have M_3250 := dg_sm.tr M_3245 m_3250 (by decide) (by decide)
                    obtain ⟨y_3251, y_3252, y_3253, f_y_3251, f_y_3252, f_y_3253, w_3250_0⟩ := w_3250_0
                    have w_3250_0 : (se).toInt ≤ (y_3252).toInt ∧ (y_3252).toInt ≤ (y_3253).toInt ∧ (y_3253).toInt ≤ (sl).toInt ∧ ((y_3251).toInt ≠ 0 → (y_3252).toInt + 1 ≤ (y_3253).toInt) := w_3250_0
                    obtain ⟨w_3250_0_0, w_3250_0_1, w_3250_0_2, w_3250_0_3⟩ := w_3250_0
                    have b_y_3251 : 0 ≤ (y_3251).toInt ∧ (y_3251).toInt ≤ 3 := dg_I.intb (lo := 0) (hi := 3) I_3250 sM_0 (by decide +kernel) f_y_3251
                    have b_y_3252 : 0 ≤ (y_3252).toInt ∧ (y_3252).toInt ≤ 1600 := dg_I.intb (lo := 0) (hi := 1600) I_3250 sM_0 (by decide +kernel) f_y_3252
                    have b_y_3253 : 0 ≤ (y_3253).toInt ∧ (y_3253).toInt ≤ 1600 := dg_I.intb (lo := 0) (hi := 1600) I_3250 sM_0 (by decide +kernel) f_y_3253
                    refine lv_aload_n hx hb dX12_goesOn_181 rfl (lv_at hl 3 rfl) ?_
                    refine lv_iconst (v := 0) hx hb dX12_goesOn_182 (by decide +kernel) ?_
                    have hz_3254 : (0 : Int32).toInt = 0 := by decide +kernel
                    refine dg_put (ci := 12) (v := .int 0) (ty := tyX12 46) (C := RX12) (T := TX12) (N := 77) hx hb hts (fun w h => bw_mem (wU_X12 w h)) tyX12 tyX12_ok nmX12 hown K hP hS hA1 sM_0 rfl 46 (by decide) (hts _ (bw_mem wB_1237)) (fun _ h9 => h9) rfl (by decide +kernel) (by decide +kernel) (by decide +kernel) dX12_goesOn_183 (fun S_3255 e_3255 H locs hP hS => ?_)
                    have I_3255 := dg_I.uFi (lo := 0) (hi := 1) I_3250 e_3255 sM_0 (by decide +kernel) (show 0 ≤ ((0 : Int32)).toInt ∧ ((0 : Int32)).toInt ≤ 1 from (by decide +kernel))
                    have M_3255 := dg_sm.uF M_3250 e_3255 sM_0 (by decide)
                    refine lv_iconst (v := 1) hx hb dX12_goesOn_186 (by decide +kernel) ?_
                    have hz_3256 : (1 : Int32).toInt = 1 := by decide +kernel
                    have hz_3257 : (1 : Int32).toInt = 1 := by decide +kernel
                    obtain ⟨x_3258, f_x_3258, b_x_3258⟩ := dg_I.int (i := 0) (k := 45) (lo := 0) (hi := 500) I_3255 sM_0 (by decide +kernel)
                    have hz_3259 : (0 : Int32).toInt = 0 := by decide +kernel
                    have hz_3260 : (1 : Int32).toInt = 1 := by decide +kernel
                    have hz_3261 : (0 : Int32).toInt = 0 := by decide +kernel
                    refine W.widen (k := 0) (n := 0) (Nat.le_of_ble_eq_true rfl) (Nat.le_of_ble_eq_true rfl) ?_
                    exact dg_iret hx hb hr hlocks (by decide +kernel) hP hS ⟨I_3255, M_3255, (by decide +kernel), ⟨y_3251, y_3252, y_3253, y_3, y_3227, dp, x_3258, 0, ((dg_uF_ne e_3255 (fun z => absurd z.2 (by decide))).trans f_y_3251), ((dg_uF_ne e_3255 (fun z => absurd z.2 (by decide))).trans f_y_3252), ((dg_uF_ne e_3255 (fun z => absurd z.2 (by decide))).trans f_y_3253), (((dg_uF_ne e_3255 (fun z => absurd z.2 (by decide))).trans ((m_3250.1 0 8 _ sM_0 (by decide)).trans ((m_3245.1 0 8 _ sM_0 (by decide)).trans (m_3225.1 0 8 _ sM_0 (by decide))))).trans f_y_3), (((dg_uF_ne e_3255 (fun z => absurd z.2 (by decide))).trans ((m_3250.1 0 34 _ sM_0 (by decide)).trans (m_3245.1 0 34 _ sM_0 (by decide)))).trans f_y_3227), (((dg_uF_ne e_3255 (fun z => absurd z.2 (by decide))).trans ((m_3250.1 0 42 _ sM_0 (by decide)).trans ((m_3245.1 0 42 _ sM_0 (by decide)).trans ((m_3225.1 0 42 _ sM_0 (by decide)).trans (m_2.1 0 42 _ sM_0 (by decide)))))).trans f_dp), f_x_3258, (dg_uF_at e_3255), (by omega)⟩, (fun k9 hk9 hk0 => POM.mk0 (P0M.keep (P0M.keep P0_3245 m_3250 (by decide) (by decide) (by decide) (by decide) (by decide) (by decide) (by decide) (by decide) (by decide) (by decide) (by decide) (by decide) (by decide) (by decide) (by decide)) (dg_sm.uF (WF := [(0, 46)]) (WA := []) dg_sm.rf e_3255 sM_0 (by decide)) (by decide) (by decide) (by decide) (by decide) (by decide) (by decide) (by decide) (by decide) (by decide) (by decide) (by decide) (by decide) (by decide) (by decide) (by decide)) (dg_uF_at e_3255) (by omega)), (ZWM.keep (ZWM.keep (ZWM.keep w_3225_2 m_3245 (by decide) (by decide) (by decide) (by decide)) m_3250 (by decide) (by decide) (by decide) (by decide)) (dg_sm.uF (WF := [(0, 46)]) (WA := []) dg_sm.rf e_3255 sM_0 (by decide)) (by decide) (by decide) (by decide) (by decide)), trivial⟩ dX12_goesOn_187
                  · have jc_3244 := dk_neqc (k := 0) (by decide +kernel) c_3244
                    have w_3242_1_r := w_3242_1.mp (by omega)
                    clear w_3242_1
                    refine lv_bipush (v := 34) hx hb dX12_goesOn_167 (by decide +kernel) ?_
                    refine lv_goto (tgt := 174) hx hb dX12_goesOn_169 (by decide) ?_
                    refine dg_callv hS hA1 hA (va_runV (As := [.int 34]) (rest := []) F (c_m_holdsBack l g D o S_3225 34 y_3228 f_y_3228 (by omega) I_3225 H.size) (cwV 1 hts (bw_V wB_1224 wB_1225 wB_1226 wB_881 wB_1223) rfl rfl rfl (by decide +kernel) ⟨Nat.le_of_ble_eq_true rfl, Nat.le_of_ble_eq_true rfl⟩) (dg_preV sM_0 rfl K ST hP hS hA1 hA) rfl rfl hl.1 rfl (lv_room (Nat.le_of_ble_eq_true rfl)) dX12_goesOn_174 ⟨Nat.le_of_ble_eq_true rfl, Nat.le_of_ble_eq_true rfl⟩) (fun S_3262 hw_3262 H locs hP hS => ?_)
                    obtain ⟨I_3262, m_3262, w_3262_0, w_3262_1, -⟩ := hw_3262
                    have M_3262 := dg_sm.tr M_3225 m_3262 (by decide) (by decide)
                    have hz_3263 : (34 : Int32).toInt = 34 := by decide +kernel
                    obtain ⟨y_3264, f_y_3264, w_3262_0⟩ := w_3262_0
                    have w_3262_0 : (y_3264).toInt = (y_3228).toInt + 1 := w_3262_0
                    have b_y_3264 : 0 ≤ (y_3264).toInt ∧ (y_3264).toInt ≤ 500 := dg_I.intb (lo := 0) (hi := 500) I_3262 sM_0 (by decide +kernel) f_y_3264
                    have w_3262_1 : HBM S_3225 S_3262 (34 : Int32) := w_3262_1
                    obtain ⟨x_3265, f_x_3265, b_x_3265⟩ := dg_I.int (i := 0) (k := 43) (lo := (-2147483648)) (hi := 2147483647) I_3225 sM_0 (by decide +kernel)
                    obtain ⟨x_3266, f_x_3266, b_x_3266⟩ := dg_I.int (i := 0) (k := 45) (lo := 0) (hi := 500) I_3225 sM_0 (by decide +kernel)
                    have P0_3262 : P0M S_3262 := P1M.bin w_3225_3 (((m_3225.1 0 42 _ sM_0 (by decide)).trans (m_2.1 0 42 _ sM_0 (by decide))).trans f_dp) f_x_3265 f_x_3266 w_3225_1 m_3262 w_3262_1 (by omega)
                    refine lv_aload_n hx hb dX12_goesOn_177 rfl (lv_at hl 3 rfl) ?_
                    refine dg_callv hS hA1 hA (va_runV (As := []) (rest := []) F (c_m_ahead l g D o S_3262 se (((m_3262.1 0 5 _ sM_0 (by decide)).trans ((m_3225.1 0 5 _ sM_0 (by decide)).trans (m_2.1 0 5 _ sM_0 (by decide)))).trans f_se) (by omega) sl (((m_3262.1 0 2 _ sM_0 (by decide)).trans ((m_3225.1 0 2 _ sM_0 (by decide)).trans (m_2.1 0 2 _ sM_0 (by decide)))).trans f_sl) (by omega) (by omega) I_3262 H.size) (cwV 0 hts (bw_V wB_1161 wB_1162 wB_1163 wB_881 wB_1160) rfl rfl rfl (by decide +kernel) ⟨Nat.le_of_ble_eq_true rfl, Nat.le_of_ble_eq_true rfl⟩) (dg_preV sM_0 rfl K ST hP hS hA1 hA) rfl rfl hl.1 rfl (lv_room (Nat.le_of_ble_eq_true rfl)) dX12_goesOn_178 ⟨Nat.le_of_ble_eq_true rfl, Nat.le_of_ble_eq_true rfl⟩) (fun S_3267 hw_3267 H locs hP hS => ?_)
                    obtain ⟨I_3267, m_3267, w_3267_0, -⟩ := hw_3267
                    have M_3267 := dg_sm.tr M_3262 m_3267 (by decide) (by decide)
                    obtain ⟨y_3268, y_3269, y_3270, f_y_3268, f_y_3269, f_y_3270, w_3267_0⟩ := w_3267_0
                    have w_3267_0 : (se).toInt ≤ (y_3269).toInt ∧ (y_3269).toInt ≤ (y_3270).toInt ∧ (y_3270).toInt ≤ (sl).toInt ∧ ((y_3268).toInt ≠ 0 → (y_3269).toInt + 1 ≤ (y_3270).toInt) := w_3267_0
                    obtain ⟨w_3267_0_0, w_3267_0_1, w_3267_0_2, w_3267_0_3⟩ := w_3267_0
                    have b_y_3268 : 0 ≤ (y_3268).toInt ∧ (y_3268).toInt ≤ 3 := dg_I.intb (lo := 0) (hi := 3) I_3267 sM_0 (by decide +kernel) f_y_3268
                    have b_y_3269 : 0 ≤ (y_3269).toInt ∧ (y_3269).toInt ≤ 1600 := dg_I.intb (lo := 0) (hi := 1600) I_3267 sM_0 (by decide +kernel) f_y_3269
                    have b_y_3270 : 0 ≤ (y_3270).toInt ∧ (y_3270).toInt ≤ 1600 := dg_I.intb (lo := 0) (hi := 1600) I_3267 sM_0 (by decide +kernel) f_y_3270
                    refine lv_aload_n hx hb dX12_goesOn_181 rfl (lv_at hl 3 rfl) ?_
                    refine lv_iconst (v := 0) hx hb dX12_goesOn_182 (by decide +kernel) ?_
                    have hz_3271 : (0 : Int32).toInt = 0 := by decide +kernel
                    refine dg_put (ci := 12) (v := .int 0) (ty := tyX12 46) (C := RX12) (T := TX12) (N := 77) hx hb hts (fun w h => bw_mem (wU_X12 w h)) tyX12 tyX12_ok nmX12 hown K hP hS hA1 sM_0 rfl 46 (by decide) (hts _ (bw_mem wB_1237)) (fun _ h9 => h9) rfl (by decide +kernel) (by decide +kernel) (by decide +kernel) dX12_goesOn_183 (fun S_3272 e_3272 H locs hP hS => ?_)
                    have I_3272 := dg_I.uFi (lo := 0) (hi := 1) I_3267 e_3272 sM_0 (by decide +kernel) (show 0 ≤ ((0 : Int32)).toInt ∧ ((0 : Int32)).toInt ≤ 1 from (by decide +kernel))
                    have M_3272 := dg_sm.uF M_3267 e_3272 sM_0 (by decide)
                    refine lv_iconst (v := 1) hx hb dX12_goesOn_186 (by decide +kernel) ?_
                    have hz_3273 : (1 : Int32).toInt = 1 := by decide +kernel
                    have hz_3274 : (1 : Int32).toInt = 1 := by decide +kernel
                    obtain ⟨x_3275, f_x_3275, b_x_3275⟩ := dg_I.int (i := 0) (k := 45) (lo := 0) (hi := 500) I_3272 sM_0 (by decide +kernel)
                    have hz_3276 : (0 : Int32).toInt = 0 := by decide +kernel
                    have hz_3277 : (1 : Int32).toInt = 1 := by decide +kernel
                    have hz_3278 : (0 : Int32).toInt = 0 := by decide +kernel
                    refine W.widen (k := 0) (n := 0) (Nat.le_of_ble_eq_true rfl) (Nat.le_of_ble_eq_true rfl) ?_
                    exact dg_iret hx hb hr hlocks (by decide +kernel) hP hS ⟨I_3272, M_3272, (by decide +kernel), ⟨y_3268, y_3269, y_3270, y_3, y_3227, dp, x_3275, 0, ((dg_uF_ne e_3272 (fun z => absurd z.2 (by decide))).trans f_y_3268), ((dg_uF_ne e_3272 (fun z => absurd z.2 (by decide))).trans f_y_3269), ((dg_uF_ne e_3272 (fun z => absurd z.2 (by decide))).trans f_y_3270), (((dg_uF_ne e_3272 (fun z => absurd z.2 (by decide))).trans ((m_3267.1 0 8 _ sM_0 (by decide)).trans ((m_3262.1 0 8 _ sM_0 (by decide)).trans (m_3225.1 0 8 _ sM_0 (by decide))))).trans f_y_3), (((dg_uF_ne e_3272 (fun z => absurd z.2 (by decide))).trans ((m_3267.1 0 34 _ sM_0 (by decide)).trans (m_3262.1 0 34 _ sM_0 (by decide)))).trans f_y_3227), (((dg_uF_ne e_3272 (fun z => absurd z.2 (by decide))).trans ((m_3267.1 0 42 _ sM_0 (by decide)).trans ((m_3262.1 0 42 _ sM_0 (by decide)).trans ((m_3225.1 0 42 _ sM_0 (by decide)).trans (m_2.1 0 42 _ sM_0 (by decide)))))).trans f_dp), f_x_3275, (dg_uF_at e_3272), (by omega)⟩, (fun k9 hk9 hk0 => POM.mk0 (P0M.keep (P0M.keep P0_3262 m_3267 (by decide) (by decide) (by decide) (by decide) (by decide) (by decide) (by decide) (by decide) (by decide) (by decide) (by decide) (by decide) (by decide) (by decide) (by decide)) (dg_sm.uF (WF := [(0, 46)]) (WA := []) dg_sm.rf e_3272 sM_0 (by decide)) (by decide) (by decide) (by decide) (by decide) (by decide) (by decide) (by decide) (by decide) (by decide) (by decide) (by decide) (by decide) (by decide) (by decide) (by decide)) (dg_uF_at e_3272) (by omega)), (ZWM.keep (ZWM.keep (ZWM.keep w_3225_2 m_3262 (by decide) (by decide) (by decide) (by decide)) m_3267 (by decide) (by decide) (by decide) (by decide)) (dg_sm.uF (WF := [(0, 46)]) (WA := []) dg_sm.rf e_3272 sM_0 (by decide)) (by decide) (by decide) (by decide) (by decide)), trivial⟩ dX12_goesOn_187
                · have jc_3240 := dk_neqc (k := 0) (by decide +kernel) c_3240
                  have w_3238_1_r := w_3238_1.mp (by omega)
                  clear w_3238_1
                  refine lv_bipush (v := 33) hx hb dX12_goesOn_153 (by decide +kernel) ?_
                  refine lv_goto (tgt := 174) hx hb dX12_goesOn_155 (by decide) ?_
                  refine dg_callv hS hA1 hA (va_runV (As := [.int 33]) (rest := []) F (c_m_holdsBack l g D o S_3225 33 y_3228 f_y_3228 (by omega) I_3225 H.size) (cwV 1 hts (bw_V wB_1224 wB_1225 wB_1226 wB_881 wB_1223) rfl rfl rfl (by decide +kernel) ⟨Nat.le_of_ble_eq_true rfl, Nat.le_of_ble_eq_true rfl⟩) (dg_preV sM_0 rfl K ST hP hS hA1 hA) rfl rfl hl.1 rfl (lv_room (Nat.le_of_ble_eq_true rfl)) dX12_goesOn_174 ⟨Nat.le_of_ble_eq_true rfl, Nat.le_of_ble_eq_true rfl⟩) (fun S_3279 hw_3279 H locs hP hS => ?_)
                  obtain ⟨I_3279, m_3279, w_3279_0, w_3279_1, -⟩ := hw_3279
                  have M_3279 := dg_sm.tr M_3225 m_3279 (by decide) (by decide)
                  have hz_3280 : (33 : Int32).toInt = 33 := by decide +kernel
                  obtain ⟨y_3281, f_y_3281, w_3279_0⟩ := w_3279_0
                  have w_3279_0 : (y_3281).toInt = (y_3228).toInt + 1 := w_3279_0
                  have b_y_3281 : 0 ≤ (y_3281).toInt ∧ (y_3281).toInt ≤ 500 := dg_I.intb (lo := 0) (hi := 500) I_3279 sM_0 (by decide +kernel) f_y_3281
                  have w_3279_1 : HBM S_3225 S_3279 (33 : Int32) := w_3279_1
                  obtain ⟨x_3282, f_x_3282, b_x_3282⟩ := dg_I.int (i := 0) (k := 43) (lo := (-2147483648)) (hi := 2147483647) I_3225 sM_0 (by decide +kernel)
                  obtain ⟨x_3283, f_x_3283, b_x_3283⟩ := dg_I.int (i := 0) (k := 45) (lo := 0) (hi := 500) I_3225 sM_0 (by decide +kernel)
                  have P0_3279 : P0M S_3279 := P1M.bin w_3225_3 (((m_3225.1 0 42 _ sM_0 (by decide)).trans (m_2.1 0 42 _ sM_0 (by decide))).trans f_dp) f_x_3282 f_x_3283 w_3225_1 m_3279 w_3279_1 (by omega)
                  refine lv_aload_n hx hb dX12_goesOn_177 rfl (lv_at hl 3 rfl) ?_
                  refine dg_callv hS hA1 hA (va_runV (As := []) (rest := []) F (c_m_ahead l g D o S_3279 se (((m_3279.1 0 5 _ sM_0 (by decide)).trans ((m_3225.1 0 5 _ sM_0 (by decide)).trans (m_2.1 0 5 _ sM_0 (by decide)))).trans f_se) (by omega) sl (((m_3279.1 0 2 _ sM_0 (by decide)).trans ((m_3225.1 0 2 _ sM_0 (by decide)).trans (m_2.1 0 2 _ sM_0 (by decide)))).trans f_sl) (by omega) (by omega) I_3279 H.size) (cwV 0 hts (bw_V wB_1161 wB_1162 wB_1163 wB_881 wB_1160) rfl rfl rfl (by decide +kernel) ⟨Nat.le_of_ble_eq_true rfl, Nat.le_of_ble_eq_true rfl⟩) (dg_preV sM_0 rfl K ST hP hS hA1 hA) rfl rfl hl.1 rfl (lv_room (Nat.le_of_ble_eq_true rfl)) dX12_goesOn_178 ⟨Nat.le_of_ble_eq_true rfl, Nat.le_of_ble_eq_true rfl⟩) (fun S_3284 hw_3284 H locs hP hS => ?_)
                  obtain ⟨I_3284, m_3284, w_3284_0, -⟩ := hw_3284
                  have M_3284 := dg_sm.tr M_3279 m_3284 (by decide) (by decide)
                  obtain ⟨y_3285, y_3286, y_3287, f_y_3285, f_y_3286, f_y_3287, w_3284_0⟩ := w_3284_0
                  have w_3284_0 : (se).toInt ≤ (y_3286).toInt ∧ (y_3286).toInt ≤ (y_3287).toInt ∧ (y_3287).toInt ≤ (sl).toInt ∧ ((y_3285).toInt ≠ 0 → (y_3286).toInt + 1 ≤ (y_3287).toInt) := w_3284_0
                  obtain ⟨w_3284_0_0, w_3284_0_1, w_3284_0_2, w_3284_0_3⟩ := w_3284_0
                  have b_y_3285 : 0 ≤ (y_3285).toInt ∧ (y_3285).toInt ≤ 3 := dg_I.intb (lo := 0) (hi := 3) I_3284 sM_0 (by decide +kernel) f_y_3285
                  have b_y_3286 : 0 ≤ (y_3286).toInt ∧ (y_3286).toInt ≤ 1600 := dg_I.intb (lo := 0) (hi := 1600) I_3284 sM_0 (by decide +kernel) f_y_3286
                  have b_y_3287 : 0 ≤ (y_3287).toInt ∧ (y_3287).toInt ≤ 1600 := dg_I.intb (lo := 0) (hi := 1600) I_3284 sM_0 (by decide +kernel) f_y_3287
                  refine lv_aload_n hx hb dX12_goesOn_181 rfl (lv_at hl 3 rfl) ?_
                  refine lv_iconst (v := 0) hx hb dX12_goesOn_182 (by decide +kernel) ?_
                  have hz_3288 : (0 : Int32).toInt = 0 := by decide +kernel
                  refine dg_put (ci := 12) (v := .int 0) (ty := tyX12 46) (C := RX12) (T := TX12) (N := 77) hx hb hts (fun w h => bw_mem (wU_X12 w h)) tyX12 tyX12_ok nmX12 hown K hP hS hA1 sM_0 rfl 46 (by decide) (hts _ (bw_mem wB_1237)) (fun _ h9 => h9) rfl (by decide +kernel) (by decide +kernel) (by decide +kernel) dX12_goesOn_183 (fun S_3289 e_3289 H locs hP hS => ?_)
                  have I_3289 := dg_I.uFi (lo := 0) (hi := 1) I_3284 e_3289 sM_0 (by decide +kernel) (show 0 ≤ ((0 : Int32)).toInt ∧ ((0 : Int32)).toInt ≤ 1 from (by decide +kernel))
                  have M_3289 := dg_sm.uF M_3284 e_3289 sM_0 (by decide)
                  refine lv_iconst (v := 1) hx hb dX12_goesOn_186 (by decide +kernel) ?_
                  have hz_3290 : (1 : Int32).toInt = 1 := by decide +kernel
                  have hz_3291 : (1 : Int32).toInt = 1 := by decide +kernel
                  obtain ⟨x_3292, f_x_3292, b_x_3292⟩ := dg_I.int (i := 0) (k := 45) (lo := 0) (hi := 500) I_3289 sM_0 (by decide +kernel)
                  have hz_3293 : (0 : Int32).toInt = 0 := by decide +kernel
                  have hz_3294 : (1 : Int32).toInt = 1 := by decide +kernel
                  have hz_3295 : (0 : Int32).toInt = 0 := by decide +kernel
                  refine W.widen (k := 0) (n := 0) (Nat.le_of_ble_eq_true rfl) (Nat.le_of_ble_eq_true rfl) ?_
                  exact dg_iret hx hb hr hlocks (by decide +kernel) hP hS ⟨I_3289, M_3289, (by decide +kernel), ⟨y_3285, y_3286, y_3287, y_3, y_3227, dp, x_3292, 0, ((dg_uF_ne e_3289 (fun z => absurd z.2 (by decide))).trans f_y_3285), ((dg_uF_ne e_3289 (fun z => absurd z.2 (by decide))).trans f_y_3286), ((dg_uF_ne e_3289 (fun z => absurd z.2 (by decide))).trans f_y_3287), (((dg_uF_ne e_3289 (fun z => absurd z.2 (by decide))).trans ((m_3284.1 0 8 _ sM_0 (by decide)).trans ((m_3279.1 0 8 _ sM_0 (by decide)).trans (m_3225.1 0 8 _ sM_0 (by decide))))).trans f_y_3), (((dg_uF_ne e_3289 (fun z => absurd z.2 (by decide))).trans ((m_3284.1 0 34 _ sM_0 (by decide)).trans (m_3279.1 0 34 _ sM_0 (by decide)))).trans f_y_3227), (((dg_uF_ne e_3289 (fun z => absurd z.2 (by decide))).trans ((m_3284.1 0 42 _ sM_0 (by decide)).trans ((m_3279.1 0 42 _ sM_0 (by decide)).trans ((m_3225.1 0 42 _ sM_0 (by decide)).trans (m_2.1 0 42 _ sM_0 (by decide)))))).trans f_dp), f_x_3292, (dg_uF_at e_3289), (by omega)⟩, (fun k9 hk9 hk0 => POM.mk0 (P0M.keep (P0M.keep P0_3279 m_3284 (by decide) (by decide) (by decide) (by decide) (by decide) (by decide) (by decide) (by decide) (by decide) (by decide) (by decide) (by decide) (by decide) (by decide) (by decide)) (dg_sm.uF (WF := [(0, 46)]) (WA := []) dg_sm.rf e_3289 sM_0 (by decide)) (by decide) (by decide) (by decide) (by decide) (by decide) (by decide) (by decide) (by decide) (by decide) (by decide) (by decide) (by decide) (by decide) (by decide) (by decide)) (dg_uF_at e_3289) (by omega)), (ZWM.keep (ZWM.keep (ZWM.keep w_3225_2 m_3279 (by decide) (by decide) (by decide) (by decide)) m_3284 (by decide) (by decide) (by decide) (by decide)) (dg_sm.uF (WF := [(0, 46)]) (WA := []) dg_sm.rf e_3289 sM_0 (by decide)) (by decide) (by decide) (by decide) (by decide)), trivial⟩ dX12_goesOn_187
              · have jc_3236 := dk_neqc (k := 0) (by decide +kernel) c_3236
                have w_3234_1_r := w_3234_1.mp (by omega)
                clear w_3234_1
                refine lv_bipush (v := 32) hx hb dX12_goesOn_139 (by decide +kernel) ?_
                refine lv_goto (tgt := 174) hx hb dX12_goesOn_141 (by decide) ?_
                refine dg_callv hS hA1 hA (va_runV (As := [.int 32]) (rest := []) F (c_m_holdsBack l g D o S_3225 32 y_3228 f_y_3228 (by omega) I_3225 H.size) (cwV 1 hts (bw_V wB_1224 wB_1225 wB_1226 wB_881 wB_1223) rfl rfl rfl (by decide +kernel) ⟨Nat.le_of_ble_eq_true rfl, Nat.le_of_ble_eq_true rfl⟩) (dg_preV sM_0 rfl K ST hP hS hA1 hA) rfl rfl hl.1 rfl (lv_room (Nat.le_of_ble_eq_true rfl)) dX12_goesOn_174 ⟨Nat.le_of_ble_eq_true rfl, Nat.le_of_ble_eq_true rfl⟩) (fun S_3296 hw_3296 H locs hP hS => ?_)
                obtain ⟨I_3296, m_3296, w_3296_0, w_3296_1, -⟩ := hw_3296
                have M_3296 := dg_sm.tr M_3225 m_3296 (by decide) (by decide)
                have hz_3297 : (32 : Int32).toInt = 32 := by decide +kernel
                obtain ⟨y_3298, f_y_3298, w_3296_0⟩ := w_3296_0
                have w_3296_0 : (y_3298).toInt = (y_3228).toInt + 1 := w_3296_0
                have b_y_3298 : 0 ≤ (y_3298).toInt ∧ (y_3298).toInt ≤ 500 := dg_I.intb (lo := 0) (hi := 500) I_3296 sM_0 (by decide +kernel) f_y_3298
                have w_3296_1 : HBM S_3225 S_3296 (32 : Int32) := w_3296_1
                obtain ⟨x_3299, f_x_3299, b_x_3299⟩ := dg_I.int (i := 0) (k := 43) (lo := (-2147483648)) (hi := 2147483647) I_3225 sM_0 (by decide +kernel)
                obtain ⟨x_3300, f_x_3300, b_x_3300⟩ := dg_I.int (i := 0) (k := 45) (lo := 0) (hi := 500) I_3225 sM_0 (by decide +kernel)
                have P0_3296 : P0M S_3296 := P1M.bin w_3225_3 (((m_3225.1 0 42 _ sM_0 (by decide)).trans (m_2.1 0 42 _ sM_0 (by decide))).trans f_dp) f_x_3299 f_x_3300 w_3225_1 m_3296 w_3296_1 (by omega)
                refine lv_aload_n hx hb dX12_goesOn_177 rfl (lv_at hl 3 rfl) ?_
                refine dg_callv hS hA1 hA (va_runV (As := []) (rest := []) F (c_m_ahead l g D o S_3296 se (((m_3296.1 0 5 _ sM_0 (by decide)).trans ((m_3225.1 0 5 _ sM_0 (by decide)).trans (m_2.1 0 5 _ sM_0 (by decide)))).trans f_se) (by omega) sl (((m_3296.1 0 2 _ sM_0 (by decide)).trans ((m_3225.1 0 2 _ sM_0 (by decide)).trans (m_2.1 0 2 _ sM_0 (by decide)))).trans f_sl) (by omega) (by omega) I_3296 H.size) (cwV 0 hts (bw_V wB_1161 wB_1162 wB_1163 wB_881 wB_1160) rfl rfl rfl (by decide +kernel) ⟨Nat.le_of_ble_eq_true rfl, Nat.le_of_ble_eq_true rfl⟩) (dg_preV sM_0 rfl K ST hP hS hA1 hA) rfl rfl hl.1 rfl (lv_room (Nat.le_of_ble_eq_true rfl)) dX12_goesOn_178 ⟨Nat.le_of_ble_eq_true rfl, Nat.le_of_ble_eq_true rfl⟩) (fun S_3301 hw_3301 H locs hP hS => ?_)
                obtain ⟨I_3301, m_3301, w_3301_0, -⟩ := hw_3301
                have M_3301 := dg_sm.tr M_3296 m_3301 (by decide) (by decide)
                obtain ⟨y_3302, y_3303, y_3304, f_y_3302, f_y_3303, f_y_3304, w_3301_0⟩ := w_3301_0
                have w_3301_0 : (se).toInt ≤ (y_3303).toInt ∧ (y_3303).toInt ≤ (y_3304).toInt ∧ (y_3304).toInt ≤ (sl).toInt ∧ ((y_3302).toInt ≠ 0 → (y_3303).toInt + 1 ≤ (y_3304).toInt) := w_3301_0
                obtain ⟨w_3301_0_0, w_3301_0_1, w_3301_0_2, w_3301_0_3⟩ := w_3301_0
                have b_y_3302 : 0 ≤ (y_3302).toInt ∧ (y_3302).toInt ≤ 3 := dg_I.intb (lo := 0) (hi := 3) I_3301 sM_0 (by decide +kernel) f_y_3302
                have b_y_3303 : 0 ≤ (y_3303).toInt ∧ (y_3303).toInt ≤ 1600 := dg_I.intb (lo := 0) (hi := 1600) I_3301 sM_0 (by decide +kernel) f_y_3303
                have b_y_3304 : 0 ≤ (y_3304).toInt ∧ (y_3304).toInt ≤ 1600 := dg_I.intb (lo := 0) (hi := 1600) I_3301 sM_0 (by decide +kernel) f_y_3304
                refine lv_aload_n hx hb dX12_goesOn_181 rfl (lv_at hl 3 rfl) ?_
                refine lv_iconst (v := 0) hx hb dX12_goesOn_182 (by decide +kernel) ?_
                have hz_3305 : (0 : Int32).toInt = 0 := by decide +kernel
                refine dg_put (ci := 12) (v := .int 0) (ty := tyX12 46) (C := RX12) (T := TX12) (N := 77) hx hb hts (fun w h => bw_mem (wU_X12 w h)) tyX12 tyX12_ok nmX12 hown K hP hS hA1 sM_0 rfl 46 (by decide) (hts _ (bw_mem wB_1237)) (fun _ h9 => h9) rfl (by decide +kernel) (by decide +kernel) (by decide +kernel) dX12_goesOn_183 (fun S_3306 e_3306 H locs hP hS => ?_)
                have I_3306 := dg_I.uFi (lo := 0) (hi := 1) I_3301 e_3306 sM_0 (by decide +kernel) (show 0 ≤ ((0 : Int32)).toInt ∧ ((0 : Int32)).toInt ≤ 1 from (by decide +kernel))
                have M_3306 := dg_sm.uF M_3301 e_3306 sM_0 (by decide)
                refine lv_iconst (v := 1) hx hb dX12_goesOn_186 (by decide +kernel) ?_
                have hz_3307 : (1 : Int32).toInt = 1 := by decide +kernel
                have hz_3308 : (1 : Int32).toInt = 1 := by decide +kernel
                obtain ⟨x_3309, f_x_3309, b_x_3309⟩ := dg_I.int (i := 0) (k := 45) (lo := 0) (hi := 500) I_3306 sM_0 (by decide +kernel)
                have hz_3310 : (0 : Int32).toInt = 0 := by decide +kernel
                have hz_3311 : (1 : Int32).toInt = 1 := by decide +kernel
                have hz_3312 : (0 : Int32).toInt = 0 := by decide +kernel
                refine W.widen (k := 0) (n := 0) (Nat.le_of_ble_eq_true rfl) (Nat.le_of_ble_eq_true rfl) ?_
                exact dg_iret hx hb hr hlocks (by decide +kernel) hP hS ⟨I_3306, M_3306, (by decide +kernel), ⟨y_3302, y_3303, y_3304, y_3, y_3227, dp, x_3309, 0, ((dg_uF_ne e_3306 (fun z => absurd z.2 (by decide))).trans f_y_3302), ((dg_uF_ne e_3306 (fun z => absurd z.2 (by decide))).trans f_y_3303), ((dg_uF_ne e_3306 (fun z => absurd z.2 (by decide))).trans f_y_3304), (((dg_uF_ne e_3306 (fun z => absurd z.2 (by decide))).trans ((m_3301.1 0 8 _ sM_0 (by decide)).trans ((m_3296.1 0 8 _ sM_0 (by decide)).trans (m_3225.1 0 8 _ sM_0 (by decide))))).trans f_y_3), (((dg_uF_ne e_3306 (fun z => absurd z.2 (by decide))).trans ((m_3301.1 0 34 _ sM_0 (by decide)).trans (m_3296.1 0 34 _ sM_0 (by decide)))).trans f_y_3227), (((dg_uF_ne e_3306 (fun z => absurd z.2 (by decide))).trans ((m_3301.1 0 42 _ sM_0 (by decide)).trans ((m_3296.1 0 42 _ sM_0 (by decide)).trans ((m_3225.1 0 42 _ sM_0 (by decide)).trans (m_2.1 0 42 _ sM_0 (by decide)))))).trans f_dp), f_x_3309, (dg_uF_at e_3306), (by omega)⟩, (fun k9 hk9 hk0 => POM.mk0 (P0M.keep (P0M.keep P0_3296 m_3301 (by decide) (by decide) (by decide) (by decide) (by decide) (by decide) (by decide) (by decide) (by decide) (by decide) (by decide) (by decide) (by decide) (by decide) (by decide)) (dg_sm.uF (WF := [(0, 46)]) (WA := []) dg_sm.rf e_3306 sM_0 (by decide)) (by decide) (by decide) (by decide) (by decide) (by decide) (by decide) (by decide) (by decide) (by decide) (by decide) (by decide) (by decide) (by decide) (by decide) (by decide)) (dg_uF_at e_3306) (by omega)), (ZWM.keep (ZWM.keep (ZWM.keep w_3225_2 m_3296 (by decide) (by decide) (by decide) (by decide)) m_3301 (by decide) (by decide) (by decide) (by decide)) (dg_sm.uF (WF := [(0, 46)]) (WA := []) dg_sm.rf e_3306 sM_0 (by decide)) (by decide) (by decide) (by decide) (by decide)), trivial⟩ dX12_goesOn_187
            · have jc_3232 := dk_neqc (k := 0) (by decide +kernel) c_3232
              have w_3230_1_r := w_3230_1.mp (by omega)
              clear w_3230_1
              refine lv_bipush (v := 31) hx hb dX12_goesOn_125 (by decide +kernel) ?_
              refine lv_goto (tgt := 174) hx hb dX12_goesOn_127 (by decide) ?_
              refine dg_callv hS hA1 hA (va_runV (As := [.int 31]) (rest := []) F (c_m_holdsBack l g D o S_3225 31 y_3228 f_y_3228 (by omega) I_3225 H.size) (cwV 1 hts (bw_V wB_1224 wB_1225 wB_1226 wB_881 wB_1223) rfl rfl rfl (by decide +kernel) ⟨Nat.le_of_ble_eq_true rfl, Nat.le_of_ble_eq_true rfl⟩) (dg_preV sM_0 rfl K ST hP hS hA1 hA) rfl rfl hl.1 rfl (lv_room (Nat.le_of_ble_eq_true rfl)) dX12_goesOn_174 ⟨Nat.le_of_ble_eq_true rfl, Nat.le_of_ble_eq_true rfl⟩) (fun S_3313 hw_3313 H locs hP hS => ?_)
              obtain ⟨I_3313, m_3313, w_3313_0, w_3313_1, -⟩ := hw_3313
              have M_3313 := dg_sm.tr M_3225 m_3313 (by decide) (by decide)
              have hz_3314 : (31 : Int32).toInt = 31 := by decide +kernel
              obtain ⟨y_3315, f_y_3315, w_3313_0⟩ := w_3313_0
              have w_3313_0 : (y_3315).toInt = (y_3228).toInt + 1 := w_3313_0
              have b_y_3315 : 0 ≤ (y_3315).toInt ∧ (y_3315).toInt ≤ 500 := dg_I.intb (lo := 0) (hi := 500) I_3313 sM_0 (by decide +kernel) f_y_3315
              have w_3313_1 : HBM S_3225 S_3313 (31 : Int32) := w_3313_1
              obtain ⟨x_3316, f_x_3316, b_x_3316⟩ := dg_I.int (i := 0) (k := 43) (lo := (-2147483648)) (hi := 2147483647) I_3225 sM_0 (by decide +kernel)
              obtain ⟨x_3317, f_x_3317, b_x_3317⟩ := dg_I.int (i := 0) (k := 45) (lo := 0) (hi := 500) I_3225 sM_0 (by decide +kernel)
              have P0_3313 : P0M S_3313 := P1M.bin w_3225_3 (((m_3225.1 0 42 _ sM_0 (by decide)).trans (m_2.1 0 42 _ sM_0 (by decide))).trans f_dp) f_x_3316 f_x_3317 w_3225_1 m_3313 w_3313_1 (by omega)
              refine lv_aload_n hx hb dX12_goesOn_177 rfl (lv_at hl 3 rfl) ?_
              refine dg_callv hS hA1 hA (va_runV (As := []) (rest := []) F (c_m_ahead l g D o S_3313 se (((m_3313.1 0 5 _ sM_0 (by decide)).trans ((m_3225.1 0 5 _ sM_0 (by decide)).trans (m_2.1 0 5 _ sM_0 (by decide)))).trans f_se) (by omega) sl (((m_3313.1 0 2 _ sM_0 (by decide)).trans ((m_3225.1 0 2 _ sM_0 (by decide)).trans (m_2.1 0 2 _ sM_0 (by decide)))).trans f_sl) (by omega) (by omega) I_3313 H.size) (cwV 0 hts (bw_V wB_1161 wB_1162 wB_1163 wB_881 wB_1160) rfl rfl rfl (by decide +kernel) ⟨Nat.le_of_ble_eq_true rfl, Nat.le_of_ble_eq_true rfl⟩) (dg_preV sM_0 rfl K ST hP hS hA1 hA) rfl rfl hl.1 rfl (lv_room (Nat.le_of_ble_eq_true rfl)) dX12_goesOn_178 ⟨Nat.le_of_ble_eq_true rfl, Nat.le_of_ble_eq_true rfl⟩) (fun S_3318 hw_3318 H locs hP hS => ?_)
              obtain ⟨I_3318, m_3318, w_3318_0, -⟩ := hw_3318
              have M_3318 := dg_sm.tr M_3313 m_3318 (by decide) (by decide)
              obtain ⟨y_3319, y_3320, y_3321, f_y_3319, f_y_3320, f_y_3321, w_3318_0⟩ := w_3318_0
              have w_3318_0 : (se).toInt ≤ (y_3320).toInt ∧ (y_3320).toInt ≤ (y_3321).toInt ∧ (y_3321).toInt ≤ (sl).toInt ∧ ((y_3319).toInt ≠ 0 → (y_3320).toInt + 1 ≤ (y_3321).toInt) := w_3318_0
              obtain ⟨w_3318_0_0, w_3318_0_1, w_3318_0_2, w_3318_0_3⟩ := w_3318_0
              have b_y_3319 : 0 ≤ (y_3319).toInt ∧ (y_3319).toInt ≤ 3 := dg_I.intb (lo := 0) (hi := 3) I_3318 sM_0 (by decide +kernel) f_y_3319
              have b_y_3320 : 0 ≤ (y_3320).toInt ∧ (y_3320).toInt ≤ 1600 := dg_I.intb (lo := 0) (hi := 1600) I_3318 sM_0 (by decide +kernel) f_y_3320
              have b_y_3321 : 0 ≤ (y_3321).toInt ∧ (y_3321).toInt ≤ 1600 := dg_I.intb (lo := 0) (hi := 1600) I_3318 sM_0 (by decide +kernel) f_y_3321
              refine lv_aload_n hx hb dX12_goesOn_181 rfl (lv_at hl 3 rfl) ?_
              refine lv_iconst (v := 0) hx hb dX12_goesOn_182 (by decide +kernel) ?_
              have hz_3322 : (0 : Int32).toInt = 0 := by decide +kernel
              refine dg_put (ci := 12) (v := .int 0) (ty := tyX12 46) (C := RX12) (T := TX12) (N := 77) hx hb hts (fun w h => bw_mem (wU_X12 w h)) tyX12 tyX12_ok nmX12 hown K hP hS hA1 sM_0 rfl 46 (by decide) (hts _ (bw_mem wB_1237)) (fun _ h9 => h9) rfl (by decide +kernel) (by decide +kernel) (by decide +kernel) dX12_goesOn_183 (fun S_3323 e_3323 H locs hP hS => ?_)
              have I_3323 := dg_I.uFi (lo := 0) (hi := 1) I_3318 e_3323 sM_0 (by decide +kernel) (show 0 ≤ ((0 : Int32)).toInt ∧ ((0 : Int32)).toInt ≤ 1 from (by decide +kernel))
              have M_3323 := dg_sm.uF M_3318 e_3323 sM_0 (by decide)
              refine lv_iconst (v := 1) hx hb dX12_goesOn_186 (by decide +kernel) ?_
              have hz_3324 : (1 : Int32).toInt = 1 := by decide +kernel
              have hz_3325 : (1 : Int32).toInt = 1 := by decide +kernel
              obtain ⟨x_3326, f_x_3326, b_x_3326⟩ := dg_I.int (i := 0) (k := 45) (lo := 0) (hi := 500) I_3323 sM_0 (by decide +kernel)
              have hz_3327 : (0 : Int32).toInt = 0 := by decide +kernel
              have hz_3328 : (1 : Int32).toInt = 1 := by decide +kernel
              have hz_3329 : (0 : Int32).toInt = 0 := by decide +kernel
              refine W.widen (k := 0) (n := 0) (Nat.le_of_ble_eq_true rfl) (Nat.le_of_ble_eq_true rfl) ?_
              exact dg_iret hx hb hr hlocks (by decide +kernel) hP hS ⟨I_3323, M_3323, (by decide +kernel), ⟨y_3319, y_3320, y_3321, y_3, y_3227, dp, x_3326, 0, ((dg_uF_ne e_3323 (fun z => absurd z.2 (by decide))).trans f_y_3319), ((dg_uF_ne e_3323 (fun z => absurd z.2 (by decide))).trans f_y_3320), ((dg_uF_ne e_3323 (fun z => absurd z.2 (by decide))).trans f_y_3321), (((dg_uF_ne e_3323 (fun z => absurd z.2 (by decide))).trans ((m_3318.1 0 8 _ sM_0 (by decide)).trans ((m_3313.1 0 8 _ sM_0 (by decide)).trans (m_3225.1 0 8 _ sM_0 (by decide))))).trans f_y_3), (((dg_uF_ne e_3323 (fun z => absurd z.2 (by decide))).trans ((m_3318.1 0 34 _ sM_0 (by decide)).trans (m_3313.1 0 34 _ sM_0 (by decide)))).trans f_y_3227), (((dg_uF_ne e_3323 (fun z => absurd z.2 (by decide))).trans ((m_3318.1 0 42 _ sM_0 (by decide)).trans ((m_3313.1 0 42 _ sM_0 (by decide)).trans ((m_3225.1 0 42 _ sM_0 (by decide)).trans (m_2.1 0 42 _ sM_0 (by decide)))))).trans f_dp), f_x_3326, (dg_uF_at e_3323), (by omega)⟩, (fun k9 hk9 hk0 => POM.mk0 (P0M.keep (P0M.keep P0_3313 m_3318 (by decide) (by decide) (by decide) (by decide) (by decide) (by decide) (by decide) (by decide) (by decide) (by decide) (by decide) (by decide) (by decide) (by decide) (by decide)) (dg_sm.uF (WF := [(0, 46)]) (WA := []) dg_sm.rf e_3323 sM_0 (by decide)) (by decide) (by decide) (by decide) (by decide) (by decide) (by decide) (by decide) (by decide) (by decide) (by decide) (by decide) (by decide) (by decide) (by decide) (by decide)) (dg_uF_at e_3323) (by omega)), (ZWM.keep (ZWM.keep (ZWM.keep w_3225_2 m_3313 (by decide) (by decide) (by decide) (by decide)) m_3318 (by decide) (by decide) (by decide) (by decide)) (dg_sm.uF (WF := [(0, 46)]) (WA := []) dg_sm.rf e_3323 sM_0 (by decide)) (by decide) (by decide) (by decide) (by decide)), trivial⟩ dX12_goesOn_187
      refine lv_if_ne (tgt := 87) hx hb dX12_goesOn_48 (by decide) (fun c_3330 => ?_) (fun c_3330 => ?_)
      · have jc_3330 := dk_neqc (k := 0) (by decide +kernel) c_3330
        have w_2658_1_r := w_2658_1.mp (by omega)
        clear w_2658_1
        exact J_3003 ()  (by omega) _ _ hP hS _ (lv_sub hl [0, 1, 2, 3] rfl)
      · have jc_3330 := dk_eqc (k := 0) (by decide +kernel) c_3330
        clear w_2658_1
        refine lv_aload_n hx hb dX12_goesOn_51 rfl (lv_at hl 3 rfl) ?_
        refine lv_bipush (v := 45) hx hb dX12_goesOn_52 (by decide +kernel) ?_
        refine dg_calli hS hA1 hA (va_runV (As := [.int 45]) (rest := []) F (c_m_isSign l g D o S_2 45 sg ((m_2.1 0 3 _ sM_0 (by decide)).trans f_sg) (by omega) va ((m_2.1 0 6 _ sM_0 (by decide)).trans f_va) (by omega) I_2 H.size) (cwV 1 hts (bw_V wB_1157 wB_1158 wB_1159 wB_881 wB_1156) rfl rfl rfl (by decide +kernel) ⟨Nat.le_of_ble_eq_true rfl, Nat.le_of_ble_eq_true rfl⟩) (dg_preV sM_0 rfl K ST hP hS hA1 hA) rfl rfl hl.1 rfl (lv_room (Nat.le_of_ble_eq_true rfl)) dX12_goesOn_54 ⟨Nat.le_of_ble_eq_true rfl, Nat.le_of_ble_eq_true rfl⟩) (fun x_3331 S_3332 hw_3332 H locs hP hS => ?_)
        rw [hw_3332.1] at hP
        obtain ⟨hq_3332, w_3332_0, w_3332_1, -⟩ := hw_3332
        have hz_3333 : (45 : Int32).toInt = 45 := by decide +kernel
        have w_3332_0 : 0 ≤ (x_3331).toInt ∧ (x_3331).toInt ≤ 1 := w_3332_0
        have w_3332_1 : (x_3331).toInt = 1 ↔ ((sg).toInt = 3 ∧ (va).toInt = ((45 : Int32)).toInt) := w_3332_1
        refine lv_if_ne (tgt := 87) hx hb dX12_goesOn_57 (by decide) (fun c_3334 => ?_) (fun c_3334 => ?_)
        · have jc_3334 := dk_neqc (k := 0) (by decide +kernel) c_3334
          have w_3332_1_r := w_3332_1.mp (by omega)
          clear w_3332_1
          exact J_3003 ()  (by omega) _ _ hP hS _ (lv_sub hl [0, 1, 2, 3] rfl)
        · have jc_3334 := dk_eqc (k := 0) (by decide +kernel) c_3334
          clear w_3332_1
          refine lv_aload_n hx hb dX12_goesOn_60 rfl (lv_at hl 3 rfl) ?_
          refine lv_bipush (v := 42) hx hb dX12_goesOn_61 (by decide +kernel) ?_
          refine dg_calli hS hA1 hA (va_runV (As := [.int 42]) (rest := []) F (c_m_isSign l g D o S_2 42 sg ((m_2.1 0 3 _ sM_0 (by decide)).trans f_sg) (by omega) va ((m_2.1 0 6 _ sM_0 (by decide)).trans f_va) (by omega) I_2 H.size) (cwV 1 hts (bw_V wB_1157 wB_1158 wB_1159 wB_881 wB_1156) rfl rfl rfl (by decide +kernel) ⟨Nat.le_of_ble_eq_true rfl, Nat.le_of_ble_eq_true rfl⟩) (dg_preV sM_0 rfl K ST hP hS hA1 hA) rfl rfl hl.1 rfl (lv_room (Nat.le_of_ble_eq_true rfl)) dX12_goesOn_63 ⟨Nat.le_of_ble_eq_true rfl, Nat.le_of_ble_eq_true rfl⟩) (fun x_3335 S_3336 hw_3336 H locs hP hS => ?_)
          rw [hw_3336.1] at hP
          obtain ⟨hq_3336, w_3336_0, w_3336_1, -⟩ := hw_3336
          have hz_3337 : (42 : Int32).toInt = 42 := by decide +kernel
          have w_3336_0 : 0 ≤ (x_3335).toInt ∧ (x_3335).toInt ≤ 1 := w_3336_0
          have w_3336_1 : (x_3335).toInt = 1 ↔ ((sg).toInt = 3 ∧ (va).toInt = ((42 : Int32)).toInt) := w_3336_1
          refine lv_if_ne (tgt := 87) hx hb dX12_goesOn_66 (by decide) (fun c_3338 => ?_) (fun c_3338 => ?_)
          · have jc_3338 := dk_neqc (k := 0) (by decide +kernel) c_3338
            have w_3336_1_r := w_3336_1.mp (by omega)
            clear w_3336_1
            exact J_3003 ()  (by omega) _ _ hP hS _ (lv_sub hl [0, 1, 2, 3] rfl)
          · have jc_3338 := dk_eqc (k := 0) (by decide +kernel) c_3338
            clear w_3336_1
            refine lv_aload_n hx hb dX12_goesOn_69 rfl (lv_at hl 3 rfl) ?_
            refine lv_bipush (v := 47) hx hb dX12_goesOn_70 (by decide +kernel) ?_
            refine dg_calli hS hA1 hA (va_runV (As := [.int 47]) (rest := []) F (c_m_isSign l g D o S_2 47 sg ((m_2.1 0 3 _ sM_0 (by decide)).trans f_sg) (by omega) va ((m_2.1 0 6 _ sM_0 (by decide)).trans f_va) (by omega) I_2 H.size) (cwV 1 hts (bw_V wB_1157 wB_1158 wB_1159 wB_881 wB_1156) rfl rfl rfl (by decide +kernel) ⟨Nat.le_of_ble_eq_true rfl, Nat.le_of_ble_eq_true rfl⟩) (dg_preV sM_0 rfl K ST hP hS hA1 hA) rfl rfl hl.1 rfl (lv_room (Nat.le_of_ble_eq_true rfl)) dX12_goesOn_72 ⟨Nat.le_of_ble_eq_true rfl, Nat.le_of_ble_eq_true rfl⟩) (fun x_3339 S_3340 hw_3340 H locs hP hS => ?_)
            rw [hw_3340.1] at hP
            obtain ⟨hq_3340, w_3340_0, w_3340_1, -⟩ := hw_3340
            have hz_3341 : (47 : Int32).toInt = 47 := by decide +kernel
            have w_3340_0 : 0 ≤ (x_3339).toInt ∧ (x_3339).toInt ≤ 1 := w_3340_0
            have w_3340_1 : (x_3339).toInt = 1 ↔ ((sg).toInt = 3 ∧ (va).toInt = ((47 : Int32)).toInt) := w_3340_1
            refine lv_if_ne (tgt := 87) hx hb dX12_goesOn_75 (by decide) (fun c_3342 => ?_) (fun c_3342 => ?_)
            · have jc_3342 := dk_neqc (k := 0) (by decide +kernel) c_3342
              have w_3340_1_r := w_3340_1.mp (by omega)
              clear w_3340_1
              exact J_3003 ()  (by omega) _ _ hP hS _ (lv_sub hl [0, 1, 2, 3] rfl)
            · have jc_3342 := dk_eqc (k := 0) (by decide +kernel) c_3342
              clear w_3340_1
              refine lv_aload_n hx hb dX12_goesOn_78 rfl (lv_at hl 3 rfl) ?_
              refine lv_bipush (v := 37) hx hb dX12_goesOn_79 (by decide +kernel) ?_
              refine dg_calli hS hA1 hA (va_runV (As := [.int 37]) (rest := []) F (c_m_isSign l g D o S_2 37 sg ((m_2.1 0 3 _ sM_0 (by decide)).trans f_sg) (by omega) va ((m_2.1 0 6 _ sM_0 (by decide)).trans f_va) (by omega) I_2 H.size) (cwV 1 hts (bw_V wB_1157 wB_1158 wB_1159 wB_881 wB_1156) rfl rfl rfl (by decide +kernel) ⟨Nat.le_of_ble_eq_true rfl, Nat.le_of_ble_eq_true rfl⟩) (dg_preV sM_0 rfl K ST hP hS hA1 hA) rfl rfl hl.1 rfl (lv_room (Nat.le_of_ble_eq_true rfl)) dX12_goesOn_81 ⟨Nat.le_of_ble_eq_true rfl, Nat.le_of_ble_eq_true rfl⟩) (fun x_3343 S_3344 hw_3344 H locs hP hS => ?_)
              rw [hw_3344.1] at hP
              obtain ⟨hq_3344, w_3344_0, w_3344_1, -⟩ := hw_3344
              have hz_3345 : (37 : Int32).toInt = 37 := by decide +kernel
              have w_3344_0 : 0 ≤ (x_3343).toInt ∧ (x_3343).toInt ≤ 1 := w_3344_0
              have w_3344_1 : (x_3343).toInt = 1 ↔ ((sg).toInt = 3 ∧ (va).toInt = ((37 : Int32)).toInt) := w_3344_1
              refine lv_if_eq (tgt := 188) hx hb dX12_goesOn_84 (by decide) (fun c_3346 => ?_) (fun c_3346 => ?_)
              · have jc_3346 := dk_eqc (k := 0) (by decide +kernel) c_3346
                clear w_3344_1
                exact J_800   _ _ hP hS _ (lv_sub hl [0, 1, 2, 3] rfl)
              · have jc_3346 := dk_neqc (k := 0) (by decide +kernel) c_3346
                have w_3344_1_r := w_3344_1.mp (by omega)
                clear w_3344_1
                exact J_3003 ()  (by omega) _ _ hP hS _ (lv_sub hl [0, 1, 2, 3] rfl)
  · have jc_4 := dk_nlec (k := 0) (by decide +kernel) c_4
    refine lv_iconst (v := 0) hx hb dX12_goesOn_11 (by decide +kernel) ?_
    have hz_3347 : (0 : Int32).toInt = 0 := by decide +kernel
    have hz_3348 : (0 : Int32).toInt = 0 := by decide +kernel
    have hz_3349 : (0 : Int32).toInt = 0 := by decide +kernel
    refine W.widen (k := 0) (n := 0) (Nat.le_of_ble_eq_true rfl) (Nat.le_of_ble_eq_true rfl) ?_
    exact dg_iret hx hb hr hlocks (by decide +kernel) hP hS ⟨I_2, M_2, (by decide +kernel), ⟨sg, sa, se, y_3, cd, dp, om, oo, ((m_2.1 0 3 _ sM_0 (by decide)).trans f_sg), ((m_2.1 0 4 _ sM_0 (by decide)).trans f_sa), ((m_2.1 0 5 _ sM_0 (by decide)).trans f_se), f_y_3, ((m_2.1 0 34 _ sM_0 (by decide)).trans f_cd), ((m_2.1 0 42 _ sM_0 (by decide)).trans f_dp), ((m_2.1 0 45 _ sM_0 (by decide)).trans f_om), ((m_2.1 0 46 _ sM_0 (by decide)).trans f_oo), (by omega)⟩, (fun k9 hk9 hk0 => by have q9 := (f_y_3).symm.trans hk9; cases q9; omega), (ZWM.keep ZW m_2 (by decide) (by decide) (by decide) (by decide)), trivial⟩ dX12_goesOn_12
