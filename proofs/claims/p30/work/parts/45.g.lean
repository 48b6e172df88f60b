/-! 45.g.lean.txt -/
theorem dX12_goesOn_0 : decode cX12_goesOn 0 = .ok (.aload_n 0, 1) := by decide +kernel
theorem dX12_goesOn_1 : decode cX12_goesOn 1 = .ok (.invokevirtual 266, 3) := by decide +kernel
theorem dX12_goesOn_4 : decode cX12_goesOn 4 = .ok (.aload_n 0, 1) := by decide +kernel
theorem dX12_goesOn_5 : decode cX12_goesOn 5 = .ok (.getfield 36, 3) := by decide +kernel
theorem dX12_goesOn_8 : decode cX12_goesOn 8 = .ok (.ifCond .le 5, 3) := by decide +kernel
theorem dX12_goesOn_11 : decode cX12_goesOn 11 = .ok (.iconst 0, 1) := by decide +kernel
theorem dX12_goesOn_12 : decode cX12_goesOn 12 = .ok (.ireturn, 1) := by decide +kernel
theorem dX12_goesOn_13 : decode cX12_goesOn 13 = .ok (.aload_n 0, 1) := by decide +kernel
theorem dX12_goesOn_14 : decode cX12_goesOn 14 = .ok (.getfield 140, 3) := by decide +kernel
theorem dX12_goesOn_17 : decode cX12_goesOn 17 = .ok (.iconst 1, 1) := by decide +kernel
theorem dX12_goesOn_18 : decode cX12_goesOn 18 = .ok (.isub, 1) := by decide +kernel
theorem dX12_goesOn_19 : decode cX12_goesOn 19 = .ok (.istore_n 1, 1) := by decide +kernel
theorem dX12_goesOn_20 : decode cX12_goesOn 20 = .ok (.aload_n 0, 1) := by decide +kernel
theorem dX12_goesOn_21 : decode cX12_goesOn 21 = .ok (.getfield 124, 3) := by decide +kernel
theorem dX12_goesOn_24 : decode cX12_goesOn 24 = .ok (.iload_n 1, 1) := by decide +kernel
theorem dX12_goesOn_25 : decode cX12_goesOn 25 = .ok (.iaload, 1) := by decide +kernel
theorem dX12_goesOn_26 : decode cX12_goesOn 26 = .ok (.istore_n 2, 1) := by decide +kernel
theorem dX12_goesOn_27 : decode cX12_goesOn 27 = .ok (.iload_n 2, 1) := by decide +kernel
theorem dX12_goesOn_28 : decode cX12_goesOn 28 = .ok (.invokestatic 346, 3) := by decide +kernel
theorem dX12_goesOn_31 : decode cX12_goesOn 31 = .ok (.istore_n 3, 1) := by decide +kernel
theorem dX12_goesOn_32 : decode cX12_goesOn 32 = .ok (.aload_n 0, 1) := by decide +kernel
theorem dX12_goesOn_33 : decode cX12_goesOn 33 = .ok (.getfield 127, 3) := by decide +kernel
theorem dX12_goesOn_36 : decode cX12_goesOn 36 = .ok (.iload_n 1, 1) := by decide +kernel
theorem dX12_goesOn_37 : decode cX12_goesOn 37 = .ok (.iaload, 1) := by decide +kernel
theorem dX12_goesOn_38 : decode cX12_goesOn 38 = .ok (.iconst 2, 1) := by decide +kernel
theorem dX12_goesOn_39 : decode cX12_goesOn 39 = .ok (.if_icmp .ge 149, 3) := by decide +kernel
theorem dX12_goesOn_42 : decode cX12_goesOn 42 = .ok (.aload_n 0, 1) := by decide +kernel
theorem dX12_goesOn_43 : decode cX12_goesOn 43 = .ok (.bipush 43, 2) := by decide +kernel
theorem dX12_goesOn_45 : decode cX12_goesOn 45 = .ok (.invokevirtual 269, 3) := by decide +kernel
theorem dX12_goesOn_48 : decode cX12_goesOn 48 = .ok (.ifCond .ne 39, 3) := by decide +kernel
theorem dX12_goesOn_51 : decode cX12_goesOn 51 = .ok (.aload_n 0, 1) := by decide +kernel
theorem dX12_goesOn_52 : decode cX12_goesOn 52 = .ok (.bipush 45, 2) := by decide +kernel
theorem dX12_goesOn_54 : decode cX12_goesOn 54 = .ok (.invokevirtual 269, 3) := by decide +kernel
theorem dX12_goesOn_57 : decode cX12_goesOn 57 = .ok (.ifCond .ne 30, 3) := by decide +kernel
theorem dX12_goesOn_60 : decode cX12_goesOn 60 = .ok (.aload_n 0, 1) := by decide +kernel
theorem dX12_goesOn_61 : decode cX12_goesOn 61 = .ok (.bipush 42, 2) := by decide +kernel
theorem dX12_goesOn_63 : decode cX12_goesOn 63 = .ok (.invokevirtual 269, 3) := by decide +kernel
theorem dX12_goesOn_66 : decode cX12_goesOn 66 = .ok (.ifCond .ne 21, 3) := by decide +kernel
theorem dX12_goesOn_69 : decode cX12_goesOn 69 = .ok (.aload_n 0, 1) := by decide +kernel
theorem dX12_goesOn_70 : decode cX12_goesOn 70 = .ok (.bipush 47, 2) := by decide +kernel
theorem dX12_goesOn_72 : decode cX12_goesOn 72 = .ok (.invokevirtual 269, 3) := by decide +kernel
theorem dX12_goesOn_75 : decode cX12_goesOn 75 = .ok (.ifCond .ne 12, 3) := by decide +kernel
theorem dX12_goesOn_78 : decode cX12_goesOn 78 = .ok (.aload_n 0, 1) := by decide +kernel
theorem dX12_goesOn_79 : decode cX12_goesOn 79 = .ok (.bipush 37, 2) := by decide +kernel
theorem dX12_goesOn_81 : decode cX12_goesOn 81 = .ok (.invokevirtual 269, 3) := by decide +kernel
theorem dX12_goesOn_84 : decode cX12_goesOn 84 = .ok (.ifCond .eq 104, 3) := by decide +kernel
theorem dX12_goesOn_87 : decode cX12_goesOn 87 = .ok (.aload_n 0, 1) := by decide +kernel
theorem dX12_goesOn_88 : decode cX12_goesOn 88 = .ok (.aload_n 0, 1) := by decide +kernel
theorem dX12_goesOn_89 : decode cX12_goesOn 89 = .ok (.bipush 43, 2) := by decide +kernel
theorem dX12_goesOn_91 : decode cX12_goesOn 91 = .ok (.invokevirtual 269, 3) := by decide +kernel
theorem dX12_goesOn_94 : decode cX12_goesOn 94 = .ok (.ifCond .ne 12, 3) := by decide +kernel
theorem dX12_goesOn_97 : decode cX12_goesOn 97 = .ok (.aload_n 0, 1) := by decide +kernel
theorem dX12_goesOn_98 : decode cX12_goesOn 98 = .ok (.bipush 45, 2) := by decide +kernel
theorem dX12_goesOn_100 : decode cX12_goesOn 100 = .ok (.invokevirtual 269, 3) := by decide +kernel
theorem dX12_goesOn_103 : decode cX12_goesOn 103 = .ok (.ifCond .eq 7, 3) := by decide +kernel
theorem dX12_goesOn_106 : decode cX12_goesOn 106 = .ok (.iconst 5, 1) := by decide +kernel
theorem dX12_goesOn_107 : decode cX12_goesOn 107 = .ok (.goto 5, 3) := by decide +kernel
theorem dX12_goesOn_110 : decode cX12_goesOn 110 = .ok (.bipush 6, 2) := by decide +kernel
theorem dX12_goesOn_112 : decode cX12_goesOn 112 = .ok (.invokevirtual 359, 3) := by decide +kernel
theorem dX12_goesOn_115 : decode cX12_goesOn 115 = .ok (.aload_n 0, 1) := by decide +kernel
theorem dX12_goesOn_116 : decode cX12_goesOn 116 = .ok (.aload_n 0, 1) := by decide +kernel
theorem dX12_goesOn_117 : decode cX12_goesOn 117 = .ok (.bipush 43, 2) := by decide +kernel
theorem dX12_goesOn_119 : decode cX12_goesOn 119 = .ok (.invokevirtual 269, 3) := by decide +kernel
theorem dX12_goesOn_122 : decode cX12_goesOn 122 = .ok (.ifCond .eq 8, 3) := by decide +kernel
theorem dX12_goesOn_125 : decode cX12_goesOn 125 = .ok (.bipush 31, 2) := by decide +kernel
theorem dX12_goesOn_127 : decode cX12_goesOn 127 = .ok (.goto 47, 3) := by decide +kernel
theorem dX12_goesOn_130 : decode cX12_goesOn 130 = .ok (.aload_n 0, 1) := by decide +kernel
theorem dX12_goesOn_131 : decode cX12_goesOn 131 = .ok (.bipush 45, 2) := by decide +kernel
theorem dX12_goesOn_133 : decode cX12_goesOn 133 = .ok (.invokevirtual 269, 3) := by decide +kernel
theorem dX12_goesOn_136 : decode cX12_goesOn 136 = .ok (.ifCond .eq 8, 3) := by decide +kernel
theorem dX12_goesOn_139 : decode cX12_goesOn 139 = .ok (.bipush 32, 2) := by decide +kernel
theorem dX12_goesOn_141 : decode cX12_goesOn 141 = .ok (.goto 33, 3) := by decide +kernel
theorem dX12_goesOn_144 : decode cX12_goesOn 144 = .ok (.aload_n 0, 1) := by decide +kernel
theorem dX12_goesOn_145 : decode cX12_goesOn 145 = .ok (.bipush 42, 2) := by decide +kernel
theorem dX12_goesOn_147 : decode cX12_goesOn 147 = .ok (.invokevirtual 269, 3) := by decide +kernel
theorem dX12_goesOn_150 : decode cX12_goesOn 150 = .ok (.ifCond .eq 8, 3) := by decide +kernel
theorem dX12_goesOn_153 : decode cX12_goesOn 153 = .ok (.bipush 33, 2) := by decide +kernel
theorem dX12_goesOn_155 : decode cX12_goesOn 155 = .ok (.goto 19, 3) := by decide +kernel
theorem dX12_goesOn_158 : decode cX12_goesOn 158 = .ok (.aload_n 0, 1) := by decide +kernel
theorem dX12_goesOn_159 : decode cX12_goesOn 159 = .ok (.bipush 47, 2) := by decide +kernel
theorem dX12_goesOn_161 : decode cX12_goesOn 161 = .ok (.invokevirtual 269, 3) := by decide +kernel
theorem dX12_goesOn_164 : decode cX12_goesOn 164 = .ok (.ifCond .eq 8, 3) := by decide +kernel
theorem dX12_goesOn_167 : decode cX12_goesOn 167 = .ok (.bipush 34, 2) := by decide +kernel
theorem dX12_goesOn_169 : decode cX12_goesOn 169 = .ok (.goto 5, 3) := by decide +kernel
theorem dX12_goesOn_172 : decode cX12_goesOn 172 = .ok (.bipush 35, 2) := by decide +kernel
theorem dX12_goesOn_174 : decode cX12_goesOn 174 = .ok (.invokevirtual 353, 3) := by decide +kernel
theorem dX12_goesOn_177 : decode cX12_goesOn 177 = .ok (.aload_n 0, 1) := by decide +kernel
theorem dX12_goesOn_178 : decode cX12_goesOn 178 = .ok (.invokevirtual 272, 3) := by decide +kernel
theorem dX12_goesOn_181 : decode cX12_goesOn 181 = .ok (.aload_n 0, 1) := by decide +kernel
theorem dX12_goesOn_182 : decode cX12_goesOn 182 = .ok (.iconst 0, 1) := by decide +kernel
theorem dX12_goesOn_183 : decode cX12_goesOn 183 = .ok (.putfield 152, 3) := by decide +kernel
theorem dX12_goesOn_186 : decode cX12_goesOn 186 = .ok (.iconst 1, 1) := by decide +kernel
theorem dX12_goesOn_187 : decode cX12_goesOn 187 = .ok (.ireturn, 1) := by decide +kernel
theorem dX12_goesOn_188 : decode cX12_goesOn 188 = .ok (.iload_n 3, 1) := by decide +kernel
theorem dX12_goesOn_189 : decode cX12_goesOn 189 = .ok (.ifCond .eq 96, 3) := by decide +kernel
theorem dX12_goesOn_192 : decode cX12_goesOn 192 = .ok (.aload_n 0, 1) := by decide +kernel
theorem dX12_goesOn_193 : decode cX12_goesOn 193 = .ok (.getfield 127, 3) := by decide +kernel
theorem dX12_goesOn_196 : decode cX12_goesOn 196 = .ok (.iload_n 1, 1) := by decide +kernel
theorem dX12_goesOn_197 : decode cX12_goesOn 197 = .ok (.iaload, 1) := by decide +kernel
theorem dX12_goesOn_198 : decode cX12_goesOn 198 = .ok (.ifCond .ne 87, 3) := by decide +kernel
theorem dX12_goesOn_201 : decode cX12_goesOn 201 = .ok (.aload_n 0, 1) := by decide +kernel
theorem dX12_goesOn_202 : decode cX12_goesOn 202 = .ok (.bipush 60, 2) := by decide +kernel
theorem dX12_goesOn_204 : decode cX12_goesOn 204 = .ok (.invokevirtual 269, 3) := by decide +kernel
theorem dX12_goesOn_207 : decode cX12_goesOn 207 = .ok (.ifCond .ne 21, 3) := by decide +kernel
theorem dX12_goesOn_210 : decode cX12_goesOn 210 = .ok (.aload_n 0, 1) := by decide +kernel
theorem dX12_goesOn_211 : decode cX12_goesOn 211 = .ok (.bipush 62, 2) := by decide +kernel
theorem dX12_goesOn_213 : decode cX12_goesOn 213 = .ok (.invokevirtual 269, 3) := by decide +kernel
theorem dX12_goesOn_216 : decode cX12_goesOn 216 = .ok (.ifCond .ne 12, 3) := by decide +kernel
theorem dX12_goesOn_219 : decode cX12_goesOn 219 = .ok (.aload_n 0, 1) := by decide +kernel
theorem dX12_goesOn_220 : decode cX12_goesOn 220 = .ok (.bipush 61, 2) := by decide +kernel
theorem dX12_goesOn_222 : decode cX12_goesOn 222 = .ok (.invokevirtual 269, 3) := by decide +kernel
theorem dX12_goesOn_225 : decode cX12_goesOn 225 = .ok (.ifCond .eq 60, 3) := by decide +kernel
theorem dX12_goesOn_228 : decode cX12_goesOn 228 = .ok (.aload_n 0, 1) := by decide +kernel
theorem dX12_goesOn_229 : decode cX12_goesOn 229 = .ok (.iconst 5, 1) := by decide +kernel
theorem dX12_goesOn_230 : decode cX12_goesOn 230 = .ok (.invokevirtual 359, 3) := by decide +kernel
theorem dX12_goesOn_233 : decode cX12_goesOn 233 = .ok (.aload_n 0, 1) := by decide +kernel
theorem dX12_goesOn_234 : decode cX12_goesOn 234 = .ok (.aload_n 0, 1) := by decide +kernel
theorem dX12_goesOn_235 : decode cX12_goesOn 235 = .ok (.bipush 60, 2) := by decide +kernel
theorem dX12_goesOn_237 : decode cX12_goesOn 237 = .ok (.invokevirtual 269, 3) := by decide +kernel
theorem dX12_goesOn_240 : decode cX12_goesOn 240 = .ok (.ifCond .eq 8, 3) := by decide +kernel
theorem dX12_goesOn_243 : decode cX12_goesOn 243 = .ok (.bipush 38, 2) := by decide +kernel
theorem dX12_goesOn_245 : decode cX12_goesOn 245 = .ok (.goto 19, 3) := by decide +kernel
theorem dX12_goesOn_248 : decode cX12_goesOn 248 = .ok (.aload_n 0, 1) := by decide +kernel
theorem dX12_goesOn_249 : decode cX12_goesOn 249 = .ok (.bipush 62, 2) := by decide +kernel
theorem dX12_goesOn_251 : decode cX12_goesOn 251 = .ok (.invokevirtual 269, 3) := by decide +kernel
theorem dX12_goesOn_254 : decode cX12_goesOn 254 = .ok (.ifCond .eq 8, 3) := by decide +kernel
theorem dX12_goesOn_257 : decode cX12_goesOn 257 = .ok (.bipush 39, 2) := by decide +kernel
theorem dX12_goesOn_259 : decode cX12_goesOn 259 = .ok (.goto 5, 3) := by decide +kernel
theorem dX12_goesOn_262 : decode cX12_goesOn 262 = .ok (.bipush 40, 2) := by decide +kernel
theorem dX12_goesOn_264 : decode cX12_goesOn 264 = .ok (.invokevirtual 353, 3) := by decide +kernel
theorem dX12_goesOn_267 : decode cX12_goesOn 267 = .ok (.aload_n 0, 1) := by decide +kernel
theorem dX12_goesOn_268 : decode cX12_goesOn 268 = .ok (.getfield 127, 3) := by decide +kernel
theorem dX12_goesOn_271 : decode cX12_goesOn 271 = .ok (.iload_n 1, 1) := by decide +kernel
theorem dX12_goesOn_272 : decode cX12_goesOn 272 = .ok (.iconst 1, 1) := by decide +kernel
theorem dX12_goesOn_273 : decode cX12_goesOn 273 = .ok (.iastore, 1) := by decide +kernel
theorem dX12_goesOn_274 : decode cX12_goesOn 274 = .ok (.aload_n 0, 1) := by decide +kernel
theorem dX12_goesOn_275 : decode cX12_goesOn 275 = .ok (.invokevirtual 272, 3) := by decide +kernel
theorem dX12_goesOn_278 : decode cX12_goesOn 278 = .ok (.aload_n 0, 1) := by decide +kernel
theorem dX12_goesOn_279 : decode cX12_goesOn 279 = .ok (.iconst 0, 1) := by decide +kernel
theorem dX12_goesOn_280 : decode cX12_goesOn 280 = .ok (.putfield 152, 3) := by decide +kernel
theorem dX12_goesOn_283 : decode cX12_goesOn 283 = .ok (.iconst 1, 1) := by decide +kernel
theorem dX12_goesOn_284 : decode cX12_goesOn 284 = .ok (.ireturn, 1) := by decide +kernel
theorem dX12_goesOn_285 : decode cX12_goesOn 285 = .ok (.iload_n 3, 1) := by decide +kernel
theorem dX12_goesOn_286 : decode cX12_goesOn 286 = .ok (.ifCond .eq 114, 3) := by decide +kernel
theorem dX12_goesOn_289 : decode cX12_goesOn 289 = .ok (.aload_n 0, 1) := by decide +kernel
theorem dX12_goesOn_290 : decode cX12_goesOn 290 = .ok (.ldc2_w 319, 3) := by decide +kernel
theorem dX12_goesOn_293 : decode cX12_goesOn 293 = .ok (.invokevirtual 349, 3) := by decide +kernel
theorem dX12_goesOn_296 : decode cX12_goesOn 296 = .ok (.ifCond .ne 13, 3) := by decide +kernel
theorem dX12_goesOn_299 : decode cX12_goesOn 299 = .ok (.aload_n 0, 1) := by decide +kernel
theorem dX12_goesOn_300 : decode cX12_goesOn 300 = .ok (.ldc2_w 317, 3) := by decide +kernel
theorem dX12_goesOn_303 : decode cX12_goesOn 303 = .ok (.invokevirtual 349, 3) := by decide +kernel
theorem dX12_goesOn_306 : decode cX12_goesOn 306 = .ok (.ifCond .eq 94, 3) := by decide +kernel
theorem dX12_goesOn_309 : decode cX12_goesOn 309 = .ok (.aload_n 0, 1) := by decide +kernel
theorem dX12_goesOn_310 : decode cX12_goesOn 310 = .ok (.getfield 127, 3) := by decide +kernel
theorem dX12_goesOn_313 : decode cX12_goesOn 313 = .ok (.iload_n 1, 1) := by decide +kernel
theorem dX12_goesOn_314 : decode cX12_goesOn 314 = .ok (.iaload, 1) := by decide +kernel
theorem dX12_goesOn_315 : decode cX12_goesOn 315 = .ok (.ifCond .ne 12, 3) := by decide +kernel
theorem dX12_goesOn_318 : decode cX12_goesOn 318 = .ok (.aload_n 0, 1) := by decide +kernel
theorem dX12_goesOn_319 : decode cX12_goesOn 319 = .ok (.iconst 1, 1) := by decide +kernel
theorem dX12_goesOn_320 : decode cX12_goesOn 320 = .ok (.aload_n 0, 1) := by decide +kernel
theorem dX12_goesOn_321 : decode cX12_goesOn 321 = .ok (.getfield 23, 3) := by decide +kernel
theorem dX12_goesOn_324 : decode cX12_goesOn 324 = .ok (.invokevirtual 255, 3) := by decide +kernel
theorem dX12_goesOn_327 : decode cX12_goesOn 327 = .ok (.aload_n 0, 1) := by decide +kernel
theorem dX12_goesOn_328 : decode cX12_goesOn 328 = .ok (.getfield 36, 3) := by decide +kernel
theorem dX12_goesOn_331 : decode cX12_goesOn 331 = .ok (.ifCond .le 5, 3) := by decide +kernel
theorem dX12_goesOn_334 : decode cX12_goesOn 334 = .ok (.iconst 0, 1) := by decide +kernel
theorem dX12_goesOn_335 : decode cX12_goesOn 335 = .ok (.ireturn, 1) := by decide +kernel
theorem dX12_goesOn_336 : decode cX12_goesOn 336 = .ok (.aload_n 0, 1) := by decide +kernel
theorem dX12_goesOn_337 : decode cX12_goesOn 337 = .ok (.ldc2_w 319, 3) := by decide +kernel
theorem dX12_goesOn_340 : decode cX12_goesOn 340 = .ok (.invokevirtual 349, 3) := by decide +kernel
theorem dX12_goesOn_343 : decode cX12_goesOn 343 = .ok (.istore 4, 2) := by decide +kernel
theorem dX12_goesOn_345 : decode cX12_goesOn 345 = .ok (.aload_n 0, 1) := by decide +kernel
theorem dX12_goesOn_346 : decode cX12_goesOn 346 = .ok (.iload 4, 2) := by decide +kernel
theorem dX12_goesOn_348 : decode cX12_goesOn 348 = .ok (.ifCond .eq 7, 3) := by decide +kernel
theorem dX12_goesOn_351 : decode cX12_goesOn 351 = .ok (.iconst 2, 1) := by decide +kernel
theorem dX12_goesOn_352 : decode cX12_goesOn 352 = .ok (.goto 4, 3) := by decide +kernel
theorem dX12_goesOn_355 : decode cX12_goesOn 355 = .ok (.iconst 1, 1) := by decide +kernel
theorem dX12_goesOn_356 : decode cX12_goesOn 356 = .ok (.invokevirtual 359, 3) := by decide +kernel
theorem dX12_goesOn_359 : decode cX12_goesOn 359 = .ok (.aload_n 0, 1) := by decide +kernel
theorem dX12_goesOn_360 : decode cX12_goesOn 360 = .ok (.iload 4, 2) := by decide +kernel
theorem dX12_goesOn_362 : decode cX12_goesOn 362 = .ok (.ifCond .eq 8, 3) := by decide +kernel
theorem dX12_goesOn_365 : decode cX12_goesOn 365 = .ok (.bipush 41, 2) := by decide +kernel
theorem dX12_goesOn_367 : decode cX12_goesOn 367 = .ok (.goto 5, 3) := by decide +kernel
theorem dX12_goesOn_370 : decode cX12_goesOn 370 = .ok (.bipush 42, 2) := by decide +kernel
theorem dX12_goesOn_372 : decode cX12_goesOn 372 = .ok (.invokevirtual 353, 3) := by decide +kernel
theorem dX12_goesOn_375 : decode cX12_goesOn 375 = .ok (.aload_n 0, 1) := by decide +kernel
theorem dX12_goesOn_376 : decode cX12_goesOn 376 = .ok (.getfield 127, 3) := by decide +kernel
theorem dX12_goesOn_379 : decode cX12_goesOn 379 = .ok (.iload_n 1, 1) := by decide +kernel
theorem dX12_goesOn_380 : decode cX12_goesOn 380 = .ok (.iconst 0, 1) := by decide +kernel
theorem dX12_goesOn_381 : decode cX12_goesOn 381 = .ok (.iastore, 1) := by decide +kernel
theorem dX12_goesOn_382 : decode cX12_goesOn 382 = .ok (.aload_n 0, 1) := by decide +kernel
theorem dX12_goesOn_383 : decode cX12_goesOn 383 = .ok (.getfield 130, 3) := by decide +kernel
theorem dX12_goesOn_386 : decode cX12_goesOn 386 = .ok (.iload_n 1, 1) := by decide +kernel
theorem dX12_goesOn_387 : decode cX12_goesOn 387 = .ok (.iconst 1, 1) := by decide +kernel
theorem dX12_goesOn_388 : decode cX12_goesOn 388 = .ok (.bastore, 1) := by decide +kernel
theorem dX12_goesOn_389 : decode cX12_goesOn 389 = .ok (.aload_n 0, 1) := by decide +kernel
theorem dX12_goesOn_390 : decode cX12_goesOn 390 = .ok (.invokevirtual 272, 3) := by decide +kernel
theorem dX12_goesOn_393 : decode cX12_goesOn 393 = .ok (.aload_n 0, 1) := by decide +kernel
theorem dX12_goesOn_394 : decode cX12_goesOn 394 = .ok (.iconst 0, 1) := by decide +kernel
theorem dX12_goesOn_395 : decode cX12_goesOn 395 = .ok (.putfield 152, 3) := by decide +kernel
theorem dX12_goesOn_398 : decode cX12_goesOn 398 = .ok (.iconst 1, 1) := by decide +kernel
theorem dX12_goesOn_399 : decode cX12_goesOn 399 = .ok (.ireturn, 1) := by decide +kernel
theorem dX12_goesOn_400 : decode cX12_goesOn 400 = .ok (.iload_n 3, 1) := by decide +kernel
theorem dX12_goesOn_401 : decode cX12_goesOn 401 = .ok (.ifCond .eq 21, 3) := by decide +kernel
theorem dX12_goesOn_404 : decode cX12_goesOn 404 = .ok (.aload_n 0, 1) := by decide +kernel
theorem dX12_goesOn_405 : decode cX12_goesOn 405 = .ok (.getfield 127, 3) := by decide +kernel
theorem dX12_goesOn_408 : decode cX12_goesOn 408 = .ok (.iload_n 1, 1) := by decide +kernel
theorem dX12_goesOn_409 : decode cX12_goesOn 409 = .ok (.iaload, 1) := by decide +kernel
theorem dX12_goesOn_410 : decode cX12_goesOn 410 = .ok (.ifCond .ne 12, 3) := by decide +kernel
theorem dX12_goesOn_413 : decode cX12_goesOn 413 = .ok (.aload_n 0, 1) := by decide +kernel
theorem dX12_goesOn_414 : decode cX12_goesOn 414 = .ok (.iconst 1, 1) := by decide +kernel
theorem dX12_goesOn_415 : decode cX12_goesOn 415 = .ok (.aload_n 0, 1) := by decide +kernel
theorem dX12_goesOn_416 : decode cX12_goesOn 416 = .ok (.getfield 23, 3) := by decide +kernel
theorem dX12_goesOn_419 : decode cX12_goesOn 419 = .ok (.invokevirtual 255, 3) := by decide +kernel
theorem dX12_goesOn_422 : decode cX12_goesOn 422 = .ok (.iload_n 2, 1) := by decide +kernel
theorem dX12_goesOn_423 : decode cX12_goesOn 423 = .ok (.iconst 2, 1) := by decide +kernel
theorem dX12_goesOn_424 : decode cX12_goesOn 424 = .ok (.if_icmp .ge 17, 3) := by decide +kernel
theorem dX12_goesOn_427 : decode cX12_goesOn 427 = .ok (.aload_n 0, 1) := by decide +kernel
theorem dX12_goesOn_428 : decode cX12_goesOn 428 = .ok (.getfield 36, 3) := by decide +kernel
theorem dX12_goesOn_431 : decode cX12_goesOn 431 = .ok (.ifCond .ne 8, 3) := by decide +kernel
theorem dX12_goesOn_434 : decode cX12_goesOn 434 = .ok (.aload_n 0, 1) := by decide +kernel
theorem dX12_goesOn_435 : decode cX12_goesOn 435 = .ok (.iconst 1, 1) := by decide +kernel
theorem dX12_goesOn_436 : decode cX12_goesOn 436 = .ok (.invokevirtual 359, 3) := by decide +kernel
theorem dX12_goesOn_439 : decode cX12_goesOn 439 = .ok (.iconst 0, 1) := by decide +kernel
theorem dX12_goesOn_440 : decode cX12_goesOn 440 = .ok (.ireturn, 1) := by decide +kernel
theorem dX12_goesOn_441 : decode cX12_goesOn 441 = .ok (.iload_n 2, 1) := by decide +kernel
theorem dX12_goesOn_442 : decode cX12_goesOn 442 = .ok (.iconst 3, 1) := by decide +kernel
theorem dX12_goesOn_443 : decode cX12_goesOn 443 = .ok (.if_icmp .eq 9, 3) := by decide +kernel
theorem dX12_goesOn_446 : decode cX12_goesOn 446 = .ok (.iload_n 2, 1) := by decide +kernel
theorem dX12_goesOn_447 : decode cX12_goesOn 447 = .ok (.bipush 6, 2) := by decide +kernel
theorem dX12_goesOn_449 : decode cX12_goesOn 449 = .ok (.if_icmp .ne 69, 3) := by decide +kernel
theorem dX12_goesOn_452 : decode cX12_goesOn 452 = .ok (.aload_n 0, 1) := by decide +kernel
theorem dX12_goesOn_453 : decode cX12_goesOn 453 = .ok (.bipush 44, 2) := by decide +kernel
theorem dX12_goesOn_455 : decode cX12_goesOn 455 = .ok (.invokevirtual 269, 3) := by decide +kernel
theorem dX12_goesOn_458 : decode cX12_goesOn 458 = .ok (.ifCond .ne 12, 3) := by decide +kernel
theorem dX12_goesOn_461 : decode cX12_goesOn 461 = .ok (.aload_n 0, 1) := by decide +kernel
theorem dX12_goesOn_462 : decode cX12_goesOn 462 = .ok (.iconst 1, 1) := by decide +kernel
theorem dX12_goesOn_463 : decode cX12_goesOn 463 = .ok (.aload_n 0, 1) := by decide +kernel
theorem dX12_goesOn_464 : decode cX12_goesOn 464 = .ok (.getfield 23, 3) := by decide +kernel
theorem dX12_goesOn_467 : decode cX12_goesOn 467 = .ok (.invokevirtual 255, 3) := by decide +kernel
theorem dX12_goesOn_470 : decode cX12_goesOn 470 = .ok (.aload_n 0, 1) := by decide +kernel
theorem dX12_goesOn_471 : decode cX12_goesOn 471 = .ok (.getfield 36, 3) := by decide +kernel
theorem dX12_goesOn_474 : decode cX12_goesOn 474 = .ok (.ifCond .le 5, 3) := by decide +kernel
theorem dX12_goesOn_477 : decode cX12_goesOn 477 = .ok (.iconst 0, 1) := by decide +kernel
theorem dX12_goesOn_478 : decode cX12_goesOn 478 = .ok (.ireturn, 1) := by decide +kernel
theorem dX12_goesOn_479 : decode cX12_goesOn 479 = .ok (.aload_n 0, 1) := by decide +kernel
theorem dX12_goesOn_480 : decode cX12_goesOn 480 = .ok (.iconst 1, 1) := by decide +kernel
theorem dX12_goesOn_481 : decode cX12_goesOn 481 = .ok (.invokevirtual 359, 3) := by decide +kernel
theorem dX12_goesOn_484 : decode cX12_goesOn 484 = .ok (.aload_n 0, 1) := by decide +kernel
theorem dX12_goesOn_485 : decode cX12_goesOn 485 = .ok (.getfield 124, 3) := by decide +kernel
theorem dX12_goesOn_488 : decode cX12_goesOn 488 = .ok (.iload_n 1, 1) := by decide +kernel
theorem dX12_goesOn_489 : decode cX12_goesOn 489 = .ok (.iload_n 2, 1) := by decide +kernel
theorem dX12_goesOn_490 : decode cX12_goesOn 490 = .ok (.iconst 3, 1) := by decide +kernel
theorem dX12_goesOn_491 : decode cX12_goesOn 491 = .ok (.if_icmp .ne 7, 3) := by decide +kernel
theorem dX12_goesOn_494 : decode cX12_goesOn 494 = .ok (.iconst 4, 1) := by decide +kernel
theorem dX12_goesOn_495 : decode cX12_goesOn 495 = .ok (.goto 4, 3) := by decide +kernel
theorem dX12_goesOn_498 : decode cX12_goesOn 498 = .ok (.iconst 3, 1) := by decide +kernel
theorem dX12_goesOn_499 : decode cX12_goesOn 499 = .ok (.iastore, 1) := by decide +kernel
theorem dX12_goesOn_500 : decode cX12_goesOn 500 = .ok (.aload_n 0, 1) := by decide +kernel
theorem dX12_goesOn_501 : decode cX12_goesOn 501 = .ok (.getfield 127, 3) := by decide +kernel
theorem dX12_goesOn_504 : decode cX12_goesOn 504 = .ok (.iload_n 1, 1) := by decide +kernel
theorem dX12_goesOn_505 : decode cX12_goesOn 505 = .ok (.iconst 0, 1) := by decide +kernel
theorem dX12_goesOn_506 : decode cX12_goesOn 506 = .ok (.iastore, 1) := by decide +kernel
theorem dX12_goesOn_507 : decode cX12_goesOn 507 = .ok (.aload_n 0, 1) := by decide +kernel
theorem dX12_goesOn_508 : decode cX12_goesOn 508 = .ok (.invokevirtual 272, 3) := by decide +kernel
theorem dX12_goesOn_511 : decode cX12_goesOn 511 = .ok (.aload_n 0, 1) := by decide +kernel
theorem dX12_goesOn_512 : decode cX12_goesOn 512 = .ok (.iconst 0, 1) := by decide +kernel
theorem dX12_goesOn_513 : decode cX12_goesOn 513 = .ok (.putfield 152, 3) := by decide +kernel
theorem dX12_goesOn_516 : decode cX12_goesOn 516 = .ok (.iconst 1, 1) := by decide +kernel
theorem dX12_goesOn_517 : decode cX12_goesOn 517 = .ok (.ireturn, 1) := by decide +kernel
theorem dX12_goesOn_518 : decode cX12_goesOn 518 = .ok (.aload_n 0, 1) := by decide +kernel
theorem dX12_goesOn_519 : decode cX12_goesOn 519 = .ok (.iload_n 2, 1) := by decide +kernel
theorem dX12_goesOn_520 : decode cX12_goesOn 520 = .ok (.iconst 5, 1) := by decide +kernel
theorem dX12_goesOn_521 : decode cX12_goesOn 521 = .ok (.if_icmp .ne 8, 3) := by decide +kernel
theorem dX12_goesOn_524 : decode cX12_goesOn 524 = .ok (.bipush 93, 2) := by decide +kernel
theorem dX12_goesOn_526 : decode cX12_goesOn 526 = .ok (.goto 5, 3) := by decide +kernel
theorem dX12_goesOn_529 : decode cX12_goesOn 529 = .ok (.bipush 41, 2) := by decide +kernel
theorem dX12_goesOn_531 : decode cX12_goesOn 531 = .ok (.invokevirtual 269, 3) := by decide +kernel
theorem dX12_goesOn_534 : decode cX12_goesOn 534 = .ok (.ifCond .ne 12, 3) := by decide +kernel
theorem dX12_goesOn_537 : decode cX12_goesOn 537 = .ok (.aload_n 0, 1) := by decide +kernel
theorem dX12_goesOn_538 : decode cX12_goesOn 538 = .ok (.iconst 1, 1) := by decide +kernel
theorem dX12_goesOn_539 : decode cX12_goesOn 539 = .ok (.aload_n 0, 1) := by decide +kernel
theorem dX12_goesOn_540 : decode cX12_goesOn 540 = .ok (.getfield 23, 3) := by decide +kernel
theorem dX12_goesOn_543 : decode cX12_goesOn 543 = .ok (.invokevirtual 255, 3) := by decide +kernel
theorem dX12_goesOn_546 : decode cX12_goesOn 546 = .ok (.aload_n 0, 1) := by decide +kernel
theorem dX12_goesOn_547 : decode cX12_goesOn 547 = .ok (.getfield 36, 3) := by decide +kernel
theorem dX12_goesOn_550 : decode cX12_goesOn 550 = .ok (.ifCond .le 5, 3) := by decide +kernel
theorem dX12_goesOn_553 : decode cX12_goesOn 553 = .ok (.iconst 0, 1) := by decide +kernel
theorem dX12_goesOn_554 : decode cX12_goesOn 554 = .ok (.ireturn, 1) := by decide +kernel
theorem dX12_goesOn_555 : decode cX12_goesOn 555 = .ok (.aload_n 0, 1) := by decide +kernel
theorem dX12_goesOn_556 : decode cX12_goesOn 556 = .ok (.iconst 1, 1) := by decide +kernel
theorem dX12_goesOn_557 : decode cX12_goesOn 557 = .ok (.invokevirtual 359, 3) := by decide +kernel
theorem dX12_goesOn_560 : decode cX12_goesOn 560 = .ok (.aload_n 0, 1) := by decide +kernel
theorem dX12_goesOn_561 : decode cX12_goesOn 561 = .ok (.dup, 1) := by decide +kernel
theorem dX12_goesOn_562 : decode cX12_goesOn 562 = .ok (.getfield 140, 3) := by decide +kernel
theorem dX12_goesOn_565 : decode cX12_goesOn 565 = .ok (.iconst 1, 1) := by decide +kernel
theorem dX12_goesOn_566 : decode cX12_goesOn 566 = .ok (.isub, 1) := by decide +kernel
theorem dX12_goesOn_567 : decode cX12_goesOn 567 = .ok (.putfield 140, 3) := by decide +kernel
theorem dX12_goesOn_570 : decode cX12_goesOn 570 = .ok (.aload_n 0, 1) := by decide +kernel
theorem dX12_goesOn_571 : decode cX12_goesOn 571 = .ok (.dup, 1) := by decide +kernel
theorem dX12_goesOn_572 : decode cX12_goesOn 572 = .ok (.getfield 143, 3) := by decide +kernel
theorem dX12_goesOn_575 : decode cX12_goesOn 575 = .ok (.iconst 1, 1) := by decide +kernel
theorem dX12_goesOn_576 : decode cX12_goesOn 576 = .ok (.isub, 1) := by decide +kernel
theorem dX12_goesOn_577 : decode cX12_goesOn 577 = .ok (.putfield 143, 3) := by decide +kernel
theorem dX12_goesOn_580 : decode cX12_goesOn 580 = .ok (.iload_n 2, 1) := by decide +kernel
theorem dX12_goesOn_581 : decode cX12_goesOn 581 = .ok (.iconst 4, 1) := by decide +kernel
theorem dX12_goesOn_582 : decode cX12_goesOn 582 = .ok (.if_icmp .ne 14, 3) := by decide +kernel
theorem dX12_goesOn_585 : decode cX12_goesOn 585 = .ok (.aload_n 0, 1) := by decide +kernel
theorem dX12_goesOn_586 : decode cX12_goesOn 586 = .ok (.aload_n 0, 1) := by decide +kernel
theorem dX12_goesOn_587 : decode cX12_goesOn 587 = .ok (.getfield 134, 3) := by decide +kernel
theorem dX12_goesOn_590 : decode cX12_goesOn 590 = .ok (.iload_n 1, 1) := by decide +kernel
theorem dX12_goesOn_591 : decode cX12_goesOn 591 = .ok (.iaload, 1) := by decide +kernel
theorem dX12_goesOn_592 : decode cX12_goesOn 592 = .ok (.iconst 0, 1) := by decide +kernel
theorem dX12_goesOn_593 : decode cX12_goesOn 593 = .ok (.invokevirtual 340, 3) := by decide +kernel
theorem dX12_goesOn_596 : decode cX12_goesOn 596 = .ok (.iload_n 2, 1) := by decide +kernel
theorem dX12_goesOn_597 : decode cX12_goesOn 597 = .ok (.iconst 5, 1) := by decide +kernel
theorem dX12_goesOn_598 : decode cX12_goesOn 598 = .ok (.if_icmp .ne 15, 3) := by decide +kernel
theorem dX12_goesOn_601 : decode cX12_goesOn 601 = .ok (.aload_n 0, 1) := by decide +kernel
theorem dX12_goesOn_602 : decode cX12_goesOn 602 = .ok (.getfield 127, 3) := by decide +kernel
theorem dX12_goesOn_605 : decode cX12_goesOn 605 = .ok (.aload_n 0, 1) := by decide +kernel
theorem dX12_goesOn_606 : decode cX12_goesOn 606 = .ok (.getfield 140, 3) := by decide +kernel
theorem dX12_goesOn_609 : decode cX12_goesOn 609 = .ok (.iconst 1, 1) := by decide +kernel
theorem dX12_goesOn_610 : decode cX12_goesOn 610 = .ok (.isub, 1) := by decide +kernel
theorem dX12_goesOn_611 : decode cX12_goesOn 611 = .ok (.iconst 2, 1) := by decide +kernel
theorem dX12_goesOn_612 : decode cX12_goesOn 612 = .ok (.iastore, 1) := by decide +kernel
theorem dX12_goesOn_613 : decode cX12_goesOn 613 = .ok (.aload_n 0, 1) := by decide +kernel
theorem dX12_goesOn_614 : decode cX12_goesOn 614 = .ok (.invokevirtual 272, 3) := by decide +kernel
theorem dX12_goesOn_617 : decode cX12_goesOn 617 = .ok (.iconst 1, 1) := by decide +kernel
theorem dX12_goesOn_618 : decode cX12_goesOn 618 = .ok (.ireturn, 1) := by decide +kernel
theorem wB_1233 : Cond.code yX12_joins cX12_joins 2 none ∈ dgB := List.mem_filter.mpr ⟨tbl_8 _ (List.mem_of_getElem? (i := 99) rfl), rfl⟩
theorem wB_1234 : Cond.methodLink RX12 359 yX12_joins ∈ dgB := List.mem_filter.mpr ⟨tbl_8 _ (List.mem_of_getElem? (i := 96) (by decide +kernel)), by decide +kernel⟩
theorem wB_1235 : Cond.instanceMethod yX12_joins ∈ dgB := List.mem_filter.mpr ⟨tbl_8 _ (List.mem_of_getElem? (i := 98) (by decide +kernel)), by decide +kernel⟩
theorem wB_1236 : Cond.selects RX12 yX12_joins yX12_joins ∈ dgB := List.mem_filter.mpr ⟨List.mem_of_getElem? (i := 113) (by decide +kernel), by decide +kernel⟩
theorem wB_1237 : Cond.fieldLink RX12 152 "DarkMineModel" "operand" "Z" ∈ dgB := List.mem_filter.mpr ⟨tbl_6 _ (List.mem_of_getElem? (i := 209) (by decide +kernel)), by decide +kernel⟩
set_option maxHeartbeats 8000000 in
set_option maxRecDepth 100000 in
theorem c_m_goesOn (l : Launch) (g : Nat → ClassId) (D : va_G) (o : Nat) (S : dg_S) (sg : Int32) (f_sg : S.1 0 3 = .int sg) (b_sg : 0 ≤ (sg).toInt ∧ (sg).toInt ≤ 3) (sa : Int32) (f_sa : S.1 0 4 = .int sa) (b_sa : 0 ≤ (sa).toInt ∧ (sa).toInt ≤ 1600) (se : Int32) (f_se : S.1 0 5 = .int se) (b_se : 0 ≤ (se).toInt ∧ (se).toInt ≤ 1600) (sl : Int32) (f_sl : S.1 0 2 = .int sl) (b_sl : 0 ≤ (sl).toInt ∧ (sl).toInt ≤ 1600) (fk : Int32) (f_fk : S.1 0 8 = .int fk) (b_fk : 0 ≤ (fk).toInt ∧ (fk).toInt ≤ 6) (va : Int32) (f_va : S.1 0 6 = .int va) (b_va : 0 ≤ (va).toInt ∧ (va).toInt ≤ 9999) (cd : Int32) (f_cd : S.1 0 34 = .int cd) (b_cd : 0 ≤ (cd).toInt ∧ (cd).toInt ≤ 1600) (dp : Int32) (f_dp : S.1 0 42 = .int dp) (b_dp : 0 ≤ (dp).toInt ∧ (dp).toInt ≤ 20) (on : Int32) (f_on : S.1 0 43 = .int on) (om : Int32) (f_om : S.1 0 45 = .int om) (b_om : 0 ≤ (om).toInt ∧ (om).toInt ≤ 500) (oo : Int32) (f_oo : S.1 0 46 = .int oo) (b_oo : 1 ≤ (oo).toInt ∧ (oo).toInt ≤ 1) (hlx : (sa).toInt ≤ (se).toInt ∧ (se).toInt ≤ (sl).toInt ∧ ((sg).toInt ≠ 0 → (sa).toInt + 1 ≤ (se).toInt)) (hro : (cd).toInt + (om).toInt + (dp).toInt ≤ (sa).toInt) (ZW : ZWM S) (ZK : ZKM S) (P1 : P1M S) (I : CM o S) (sz : Nat) : Met l yX12_goesOn (bw yX12_goesOn cX12_goesOn 5 (some .boolean)) ({ frames := 3, cells := 0, slots := 0, locals := 77 } : Room) (dk_Pc g D (dg_w g shM o rfM S) sz [.ref (o + 0)]) (va_Qi (fun (r : Int32) S' => CM o S' ∧ dg_sm shM [(0, 3), (0, 4), (0, 5), (0, 6), (0, 7), (0, 8), (0, 9), (0, 12), (0, 34), (0, 42), (0, 43), (0, 45), (0, 46)] [18, 19, 22, 23, 24, 27] S S' ∧ (0 ≤ (r).toInt ∧ (r).toInt ≤ 1) ∧ (∃ y9_3 y9_4 y9_5 y9_8 y9_34 y9_42 y9_45 y9_46 : Int32, S'.1 0 3 = .int y9_3 ∧ S'.1 0 4 = .int y9_4 ∧ S'.1 0 5 = .int y9_5 ∧ S'.1 0 8 = .int y9_8 ∧ S'.1 0 34 = .int y9_34 ∧ S'.1 0 42 = .int y9_42 ∧ S'.1 0 45 = .int y9_45 ∧ S'.1 0 46 = .int y9_46 ∧ (((y9_4).toInt ≤ (y9_5).toInt ∧ (y9_5).toInt ≤ (sl).toInt ∧ ((y9_3).toInt ≠ 0 → (y9_4).toInt + 1 ≤ (y9_5).toInt)) ∧ (sa).toInt ≤ (y9_4).toInt ∧ ((fk).toInt ≠ 0 → (y9_8).toInt ≠ 0) ∧ (((y9_8).toInt = 0 → (r).toInt = 1 → (sa).toInt + 1 ≤ (y9_4).toInt) ∧ ((y9_8).toInt = 0 → (y9_34).toInt + (y9_45).toInt + (y9_42).toInt ≤ (y9_4).toInt)))) ∧ (∀ k9 : Int32, S'.1 0 8 = .int k9 → k9.toInt = 0 → POM S') ∧ ZWM S' ∧ True) (dg_B g D shM o rfM) (dg_A o shM.length sz)) 0 0 (dg_A o shM.length sz) := by
  refine dg_met (cc := cX12_goesOn) (maxL := 5) (ret := (some .boolean)) (by decide) rfl (Nat.le_of_ble_eq_true rfl) ?_
  intro p e s m args below meth c A hAe harg hx hb hr hml hts hown hlocks hin hP K hS hA1 hA ST hsz ls hl
  rw [← hAe]
  have F : CallFix p m c cX12_goesOn 5 s args (bw yX12_goesOn cX12_goesOn 5 (some .boolean)) RX12 := ⟨hx, hb, hml, hown, hts⟩
  have hl : lv_has ls 5 [(0, .ref (o + 0))] := hl
  have M_0 : dg_sm shM [(0, 3), (0, 4), (0, 5), (0, 6), (0, 7), (0, 8), (0, 9), (0, 12), (0, 34), (0, 42), (0, 43), (0, 45), (0, 46)] [18, 19, 22, 23, 24, 27] S S := dg_sm.rf
  obtain ⟨Q9, hQ9⟩ : ∃ Q : State → Prop, Q = MQ below (va_Qi (fun (r : Int32) S' => CM o S' ∧ dg_sm shM [(0, 3), (0, 4), (0, 5), (0, 6), (0, 7), (0, 8), (0, 9), (0, 12), (0, 34), (0, 42), (0, 43), (0, 45), (0, 46)] [18, 19, 22, 23, 24, 27] S S' ∧ (0 ≤ (r).toInt ∧ (r).toInt ≤ 1) ∧ (∃ y9_3 y9_4 y9_5 y9_8 y9_34 y9_42 y9_45 y9_46 : Int32, S'.1 0 3 = .int y9_3 ∧ S'.1 0 4 = .int y9_4 ∧ S'.1 0 5 = .int y9_5 ∧ S'.1 0 8 = .int y9_8 ∧ S'.1 0 34 = .int y9_34 ∧ S'.1 0 42 = .int y9_42 ∧ S'.1 0 45 = .int y9_45 ∧ S'.1 0 46 = .int y9_46 ∧ (((y9_4).toInt ≤ (y9_5).toInt ∧ (y9_5).toInt ≤ (sl).toInt ∧ ((y9_3).toInt ≠ 0 → (y9_4).toInt + 1 ≤ (y9_5).toInt)) ∧ (sa).toInt ≤ (y9_4).toInt ∧ ((fk).toInt ≠ 0 → (y9_8).toInt ≠ 0) ∧ (((y9_8).toInt = 0 → (r).toInt = 1 → (sa).toInt + 1 ≤ (y9_4).toInt) ∧ ((y9_8).toInt = 0 → (y9_34).toInt + (y9_45).toInt + (y9_42).toInt ≤ (y9_4).toInt)))) ∧ (∀ k9 : Int32, S'.1 0 8 = .int k9 → k9.toInt = 0 → POM S') ∧ ZWM S' ∧ True) (dg_B g D shM o rfM) A) args s 0 0 A := ⟨_, rfl⟩
  rw [← hQ9]
  obtain ⟨hlx_0, hlx_1, hlx_2⟩ := hlx
  have hdm_0 := PSM.dims P1 f_dp f_on f_om
  refine lv_aload_n hx hb dX12_goesOn_0 rfl (lv_at hl 0 rfl) ?_
  refine dg_callv hS hA1 hA (va_runV (As := []) (rest := []) F (c_m_lex l g D o S fk f_fk (by omega) I s.heap.size) (cwV 0 hts (bw_V wB_1153 wB_1154 wB_1155 wB_881 wB_1152) rfl rfl rfl (by decide +kernel) ⟨Nat.le_of_ble_eq_true rfl, Nat.le_of_ble_eq_true rfl⟩) (dg_preV sM_0 rfl K ST hP hS hA1 hA) rfl rfl hl.1 rfl (lv_room (Nat.le_of_ble_eq_true rfl)) dX12_goesOn_1 ⟨Nat.le_of_ble_eq_true rfl, Nat.le_of_ble_eq_true rfl⟩) (fun S_2 hw_2 H locs hP hS => ?_)
  obtain ⟨I_2, m_2, w_2_0, -⟩ := hw_2
  have M_2 := dg_sm.tr M_0 m_2 (by decide) (by decide)
  obtain ⟨y_3, f_y_3, w_2_0⟩ := w_2_0
  have w_2_0 : (fk).toInt ≠ 0 → (y_3).toInt = (fk).toInt := w_2_0
  have b_y_3 : 0 ≤ (y_3).toInt ∧ (y_3).toInt ≤ 6 := dg_I.intb (lo := 0) (hi := 6) I_2 sM_0 (by decide +kernel) f_y_3
  refine lv_aload_n hx hb dX12_goesOn_4 rfl (lv_at hl 0 rfl) ?_
  refine dg_get (C := RX12) (T := TX12) (N := 77) hx hb hts (fun w h => bw_mem (wU_X12 w h)) hown K hP sM_0 rfl 8 (by decide) (hts _ (bw_mem wB_1133)) (fun _ h9 => h9) (v := .int y_3) f_y_3 dX12_goesOn_5 ?_
  refine lv_if_le (tgt := 13) hx hb dX12_goesOn_8 (by decide) (fun c_4 => ?_) (fun c_4 => ?_)
  · have jc_4 := dk_lec (k := 0) (by decide +kernel) c_4
    have w_2_0c : (fk).toInt = 0 := by omega
    clear w_2_0
    refine lv_aload_n hx hb dX12_goesOn_13 rfl (lv_at hl 0 rfl) ?_
    refine dg_get (C := RX12) (T := TX12) (N := 77) hx hb hts (fun w h => bw_mem (wU_X12 w h)) hown K hP sM_0 rfl 42 (by decide) (hts _ (bw_mem wB_1203)) (fun _ h9 => h9) (v := .int dp) ((m_2.1 0 42 _ sM_0 (by decide)).trans f_dp) dX12_goesOn_14 ?_
    refine lv_iconst (v := 1) hx hb dX12_goesOn_17 (by decide +kernel) ?_
    refine lv_isub hx hb dX12_goesOn_18 ?_
    refine lv_topi (fun x_5 ex_5 => ?_)
    have jx_5 : (x_5).toInt = (dp).toInt - 1 := by rw [ex_5]; exact dk_subT rfl (by decide +kernel) (by omega) (by omega)
    refine lv_istore_n (lv' := [(1, .int x_5), (0, .ref (o + 0))]) hx hb dX12_goesOn_19 rfl hl (by decide) rfl (fun ls hl => ?_)
    refine lv_aload_n hx hb dX12_goesOn_20 rfl (lv_at hl 1 rfl) ?_
    refine dg_get (C := RX12) (T := TX12) (N := 77) hx hb hts (fun w h => bw_mem (wU_X12 w h)) hown K hP sM_0 rfl 37 (by decide) (hts _ (bw_mem wB_1213)) (fun _ h9 => h9) (v := .ref (o + 22)) (show S_2.1 0 37 = .ref (o + 22) from dg_I.rel (d := 22) I_2 sM_0 (by decide +kernel)) dX12_goesOn_21 ?_
    refine lv_iload_n hx hb dX12_goesOn_24 rfl (lv_at hl 0 rfl) ?_
    have hin_6 : vp_in x_5 20 := (dk_inv (by omega) (by omega))
    refine dg_iald hx hb K hP sM_22 hin_6 dX12_goesOn_25 (fun x_7 ex_7 => ?_)
    have b_x_7 := dk_all_at (dg_I.row (lo := 0) (hi := 6) I_2 sM_22 (by decide +kernel)) hin_6 ex_7
    refine lv_istore_n (lv' := [(2, .int x_7), (1, .int x_5), (0, .ref (o + 0))]) hx hb dX12_goesOn_26 rfl hl (by decide) rfl (fun ls hl => ?_)
    refine lv_iload_n hx hb dX12_goesOn_27 rfl (lv_at hl 0 rfl) ?_
    refine dg_calli hS hA1 hA (va_runS (As := [.int x_7]) (rest := []) F (c_m_isTest l g D o S_2 x_7 I_2 H.size) (va_cwS 1 hts (bw_S wB_1221 wB_1222 wB_881 wB_1220) rfl rfl rfl (by decide +kernel) ⟨Nat.le_of_ble_eq_true rfl, Nat.le_of_ble_eq_true rfl⟩) (dg_preS K ST hP hS hA1 hA) rfl rfl hl.1 rfl (lv_room (Nat.le_of_ble_eq_true rfl)) dX12_goesOn_28 ⟨Nat.le_of_ble_eq_true rfl, Nat.le_of_ble_eq_true rfl⟩) (fun x_8 S_9 hw_9 H locs hP hS => ?_)
    rw [hw_9.1] at hP
    obtain ⟨hq_9, w_9_0, w_9_1, -⟩ := hw_9
    have w_9_0 : 0 ≤ (x_8).toInt ∧ (x_8).toInt ≤ 1 := w_9_0
    have w_9_1 : (x_8).toInt = 1 ↔ ((x_7).toInt = 1 ∨ (x_7).toInt = 5 ∨ (x_7).toInt = 6) := w_9_1
    refine lv_istore_n (lv' := [(3, .int x_8), (2, .int x_7), (1, .int x_5), (0, .ref (o + 0))]) hx hb dX12_goesOn_31 rfl hl (by decide) rfl (fun ls hl => ?_)
    refine lv_aload_n hx hb dX12_goesOn_32 rfl (lv_at hl 3 rfl) ?_
    refine dg_get (C := RX12) (T := TX12) (N := 77) hx hb hts (fun w h => bw_mem (wU_X12 w h)) hown K hP sM_0 rfl 38 (by decide) (hts _ (bw_mem wB_1214)) (fun _ h9 => h9) (v := .ref (o + 23)) (show S_2.1 0 38 = .ref (o + 23) from dg_I.rel (d := 23) I_2 sM_0 (by decide +kernel)) dX12_goesOn_33 ?_
    refine lv_iload_n hx hb dX12_goesOn_36 rfl (lv_at hl 2 rfl) ?_
    have hin_10 : vp_in x_5 20 := (dk_inv (by omega) (by omega))
    refine dg_iald hx hb K hP sM_23 hin_10 dX12_goesOn_37 (fun x_11 ex_11 => ?_)
    have b_x_11 := dk_all_at (dg_I.row (lo := 0) (hi := 2) I_2 sM_23 (by decide +kernel)) hin_10 ex_11
    refine lv_iconst (v := 2) hx hb dX12_goesOn_38 (by decide +kernel) ?_
    have J_728 : ∀ (H : Heap) (locs : List Loc), va_P D vwCl (dg_w g shM o rfM S_2) H → va_S A s.heap H locs → ∀ ls : Array Slot, lv_has ls 5 [(3, .int x_8), (2, .int x_7), (1, .int x_5), (0, .ref (o + 0))] → W p l e ({ frames := 3, cells := 0, slots := 0, locals := 77 } : Room) s m args below meth c H locs 0 0 Q9 (F0 m 188 ls []) := by
      intro H locs hP hS ls hl
      refine lv_iload_n hx hb dX12_goesOn_188 rfl (lv_at hl 0 rfl) ?_
      have J_1140 : ∀ (H : Heap) (locs : List Loc), va_P D vwCl (dg_w g shM o rfM S_2) H → va_S A s.heap H locs → ∀ ls : Array Slot, lv_has ls 5 [(3, .int x_8), (2, .int x_7), (1, .int x_5), (0, .ref (o + 0))] → W p l e ({ frames := 3, cells := 0, slots := 0, locals := 77 } : Room) s m args below meth c H locs 0 0 Q9 (F0 m 285 ls []) := by
        intro H locs hP hS ls hl
        refine lv_iload_n hx hb dX12_goesOn_285 rfl (lv_at hl 0 rfl) ?_
        have J_1504 : ∀ (H : Heap) (locs : List Loc), va_P D vwCl (dg_w g shM o rfM S_2) H → va_S A s.heap H locs → ∀ ls : Array Slot, lv_has ls 5 [(3, .int x_8), (2, .int x_7), (1, .int x_5), (0, .ref (o + 0))] → W p l e ({ frames := 3, cells := 0, slots := 0, locals := 77 } : Room) s m args below meth c H locs 0 0 Q9 (F0 m 400 ls []) := by
          intro H locs hP hS ls hl
          refine lv_iload_n hx hb dX12_goesOn_400 rfl (lv_at hl 0 rfl) ?_
          refine lv_if_eq (tgt := 422) hx hb dX12_goesOn_401 (by decide) (fun c_1505 => ?_) (fun c_1505 => ?_)
          · have jc_1505 := dk_eqc (k := 0) (by decide +kernel) c_1505
            clear w_9_1
            refine lv_iload_n hx hb dX12_goesOn_422 rfl (lv_at hl 1 rfl) ?_
            refine lv_iconst (v := 2) hx hb dX12_goesOn_423 (by decide +kernel) ?_
            refine lv_icmp_ge (tgt := 441) hx hb dX12_goesOn_424 (by decide) (fun c_1506 => ?_) (fun c_1506 => ?_)
            · have jc_1506 := dk_gec (k := 2) (by decide +kernel) c_1506
              refine lv_iload_n hx hb dX12_goesOn_441 rfl (lv_at hl 1 rfl) ?_
              refine lv_iconst (v := 3) hx hb dX12_goesOn_442 (by decide +kernel) ?_
              have J_1620 : ∀ (u9 : Unit), ((x_7 : Int32).toInt = 3 ∨ (x_7 : Int32).toInt = 6) → ∀ (H : Heap) (locs : List Loc), va_P D vwCl (dg_w g shM o rfM S_2) H → va_S A s.heap H locs → ∀ ls : Array Slot, lv_has ls 5 [(3, .int x_8), (2, .int x_7), (1, .int x_5), (0, .ref (o + 0))] → W p l e ({ frames := 3, cells := 0, slots := 0, locals := 77 } : Room) s m args below meth c H locs 0 0 Q9 (F0 m 452 ls []) := by
                intro u9 rel_0 H locs hP hS ls hl
                refine lv_aload_n hx hb dX12_goesOn_452 rfl (lv_at hl 3 rfl) ?_
                refine lv_bipush (v := 44) hx hb dX12_goesOn_453 (by decide +kernel) ?_
                refine dg_calli hS hA1 hA (va_runV (As := [.int 44]) (rest := []) F (c_m_isSign l g D o S_2 44 sg ((m_2.1 0 3 _ sM_0 (by decide)).trans f_sg) (by omega) va ((m_2.1 0 6 _ sM_0 (by decide)).trans f_va) (by omega) I_2 H.size) (cwV 1 hts (bw_V wB_1157 wB_1158 wB_1159 wB_881 wB_1156) rfl rfl rfl (by decide +kernel) ⟨Nat.le_of_ble_eq_true rfl, Nat.le_of_ble_eq_true rfl⟩) (dg_preV sM_0 rfl K ST hP hS hA1 hA) rfl rfl hl.1 rfl (lv_room (Nat.le_of_ble_eq_true rfl)) dX12_goesOn_455 ⟨Nat.le_of_ble_eq_true rfl, Nat.le_of_ble_eq_true rfl⟩) (fun x_1621 S_1622 hw_1622 H locs hP hS => ?_)
                rw [hw_1622.1] at hP
                obtain ⟨hq_1622, w_1622_0, w_1622_1, -⟩ := hw_1622
                have hz_1623 : (44 : Int32).toInt = 44 := by decide +kernel
                have w_1622_0 : 0 ≤ (x_1621).toInt ∧ (x_1621).toInt ≤ 1 := w_1622_0
                have w_1622_1 : (x_1621).toInt = 1 ↔ ((sg).toInt = 3 ∧ (va).toInt = ((44 : Int32)).toInt) := w_1622_1
                refine lv_if_ne (tgt := 470) hx hb dX12_goesOn_458 (by decide) (fun c_1624 => ?_) (fun c_1624 => ?_)
                · have jc_1624 := dk_neqc (k := 0) (by decide +kernel) c_1624
                  have jbc_1624 : 1 ≤ (x_1621).toInt := by omega
                  clear jc_1624
                  have w_1622_1_r := w_1622_1.mp (by omega)
                  obtain ⟨w_1622_1_r1, w_1622_1_r2⟩ := w_1622_1_r
                  clear w_1622_1
                  have hlx_2r := hlx_2 (by omega)
                  clear hlx_2
                  refine lv_aload_n hx hb dX12_goesOn_470 rfl (lv_at hl 3 rfl) ?_
                  refine dg_get (C := RX12) (T := TX12) (N := 77) hx hb hts (fun w h => bw_mem (wU_X12 w h)) hown K hP sM_0 rfl 8 (by decide) (hts _ (bw_mem wB_1133)) (fun _ h9 => h9) (v := .int y_3) f_y_3 dX12_goesOn_471 ?_
                  refine lv_if_le (tgt := 479) hx hb dX12_goesOn_474 (by decide) (fun _ => ?_) (fun c => absurd (dk_lep (k := 0) (by decide +kernel) (by omega)) c)
                  refine lv_aload_n hx hb dX12_goesOn_479 rfl (lv_at hl 3 rfl) ?_
                  refine lv_iconst (v := 1) hx hb dX12_goesOn_480 (by decide +kernel) ?_
                  have hz_1625 : (1 : Int32).toInt = 1 := by decide +kernel
                  refine dg_callv hS hA1 hA (va_runV (As := [.int 1]) (rest := []) F (c_m_joins l g D o S_2 1 (by decide +kernel) cd ((m_2.1 0 34 _ sM_0 (by decide)).trans f_cd) (by omega) om ((m_2.1 0 45 _ sM_0 (by decide)).trans f_om) (by omega) (by omega) (ZWM.keep ZW m_2 (by decide) (by decide) (by decide) (by decide)) (ZKM.keep ZK m_2 (by decide) (by decide)) (P1M.keep P1 m_2 (by decide) (by decide) (by decide) (by decide) (by decide) (by decide) (by decide) (by decide) (by decide) (by decide) (by decide) (by decide) (by decide) (by decide) (by decide)) I_2 H.size) (cwV 1 hts (bw_V wB_1234 wB_1235 wB_1236 wB_881 wB_1233) rfl rfl rfl (by decide +kernel) ⟨Nat.le_of_ble_eq_true rfl, Nat.le_of_ble_eq_true rfl⟩) (dg_preV sM_0 rfl K ST hP hS hA1 hA) rfl rfl hl.1 rfl (lv_room (Nat.le_of_ble_eq_true rfl)) dX12_goesOn_481 ⟨Nat.le_of_ble_eq_true rfl, Nat.le_of_ble_eq_true rfl⟩) (fun S_1626 hw_1626 H locs hP hS => ?_)
                  obtain ⟨I_1626, m_1626, w_1626_0, w_1626_1, w_1626_2, w_1626_3, -⟩ := hw_1626
                  have M_1626 := dg_sm.tr M_2 m_1626 (by decide) (by decide)
                  have hz_1627 : (1 : Int32).toInt = 1 := by decide +kernel
                  obtain ⟨y_1628, y_1629, f_y_1628, f_y_1629, w_1626_0⟩ := w_1626_0
                  have w_1626_0 : (y_1628).toInt + (y_1629).toInt = (cd).toInt + (om).toInt := w_1626_0
                  have b_y_1628 : 0 ≤ (y_1628).toInt ∧ (y_1628).toInt ≤ 1600 := dg_I.intb (lo := 0) (hi := 1600) I_1626 sM_0 (by decide +kernel) f_y_1628
                  have b_y_1629 : 0 ≤ (y_1629).toInt ∧ (y_1629).toInt ≤ 500 := dg_I.intb (lo := 0) (hi := 500) I_1626 sM_0 (by decide +kernel) f_y_1629
                  have w_1626_1 : TOPM S_1626 (1 : Int32) := w_1626_1
                  obtain ⟨x_1630, f_x_1630, b_x_1630⟩ := dg_I.int (i := 0) (k := 43) (lo := (-2147483648)) (hi := 2147483647) I_1626 sM_0 (by decide +kernel)
                  refine lv_aload_n hx hb dX12_goesOn_484 rfl (lv_at hl 3 rfl) ?_
                  refine dg_get (C := RX12) (T := TX12) (N := 77) hx hb hts (fun w h => bw_mem (wU_X12 w h)) hown K hP sM_0 rfl 37 (by decide) (hts _ (bw_mem wB_1213)) (fun _ h9 => h9) (v := .ref (o + 22)) (show S_1626.1 0 37 = .ref (o + 22) from dg_I.rel (d := 22) I_1626 sM_0 (by decide +kernel)) dX12_goesOn_485 ?_
                  refine lv_iload_n hx hb dX12_goesOn_488 rfl (lv_at hl 2 rfl) ?_
                  refine lv_iload_n hx hb dX12_goesOn_489 rfl (lv_at hl 1 rfl) ?_
                  refine lv_iconst (v := 3) hx hb dX12_goesOn_490 (by decide +kernel) ?_
                  refine lv_icmp_ne (tgt := 498) hx hb dX12_goesOn_491 (by decide) (fun c_1631 => ?_) (fun c_1631 => ?_)
                  · have jc_1631 := dk_neqc (k := 3) (by decide +kernel) c_1631
                    clear jc_1631
                    refine lv_iconst (v := 3) hx hb dX12_goesOn_498 (by decide +kernel) ?_
                    have hin_1632 : vp_in x_5 20 := (dk_inv (by omega) (by omega))
                    have hz_1634 : (3 : Int32).toInt = 3 := by decide +kernel
                    refine dg_iast hx hb K hP hS hA1 sM_22 hin_1632 dX12_goesOn_499 (fun S_1633 e_1633 H locs hP hS => ?_)
                    have I_1633 := dg_I.ufu (lo := 0) (hi := 6) I_1626 e_1633 sM_22 (by decide +kernel) (show 0 ≤ ((3 : Int32)).toInt ∧ ((3 : Int32)).toInt ≤ 6 from (by decide +kernel))
                    have M_1633 := dg_sm.uf M_1626 e_1633 sM_22 (by decide)
                    have hz_1635 : (3 : Int32).toInt = 3 := by decide +kernel
                    refine lv_aload_n hx hb dX12_goesOn_500 rfl (lv_at hl 3 rfl) ?_
                    refine dg_get (C := RX12) (T := TX12) (N := 77) hx hb hts (fun w h => bw_mem (wU_X12 w h)) hown K hP sM_0 rfl 38 (by decide) (hts _ (bw_mem wB_1214)) (fun _ h9 => h9) (v := .ref (o + 23)) (show S_1633.1 0 38 = .ref (o + 23) from dg_I.rel (d := 23) I_1633 sM_0 (by decide +kernel)) dX12_goesOn_501 ?_
                    refine lv_iload_n hx hb dX12_goesOn_504 rfl (lv_at hl 2 rfl) ?_
                    refine lv_iconst (v := 0) hx hb dX12_goesOn_505 (by decide +kernel) ?_
                    have hin_1636 : vp_in x_5 20 := (dk_inv (by omega) (by omega))
                    have hz_1638 : (0 : Int32).toInt = 0 := by decide +kernel
                    refine dg_iast hx hb K hP hS hA1 sM_23 hin_1636 dX12_goesOn_506 (fun S_1637 e_1637 H locs hP hS => ?_)
                    have I_1637 := dg_I.ufu (lo := 0) (hi := 2) I_1633 e_1637 sM_23 (by decide +kernel) (show 0 ≤ ((0 : Int32)).toInt ∧ ((0 : Int32)).toInt ≤ 2 from (by decide +kernel))
                    have M_1637 := dg_sm.uf M_1633 e_1637 sM_23 (by decide)
                    have hz_1639 : (0 : Int32).toInt = 0 := by decide +kernel
                    have P0_1637 : P0M S_1637 := P1M.comma w_1626_3 (((m_1626.1 0 42 _ sM_0 (by decide)).trans (m_2.1 0 42 _ sM_0 (by decide))).trans f_dp) f_x_1630 f_y_1629 w_1626_1 (by omega) (fx := x_5) (by omega) ((congrFun (m_1626.2 22 _ sM_22 (by decide)).1 _).trans ex_7.symm) (by omega) e_1633 e_1637
                    refine lv_aload_n hx hb dX12_goesOn_507 rfl (lv_at hl 3 rfl) ?_
                    refine dg_callv hS hA1 hA (va_runV (As := []) (rest := []) F (c_m_ahead l g D o S_1637 se (((dg_uf_F e_1637 0 5).trans ((dg_uf_F e_1633 0 5).trans ((m_1626.1 0 5 _ sM_0 (by decide)).trans (m_2.1 0 5 _ sM_0 (by decide))))).trans f_se) (by omega) sl (((dg_uf_F e_1637 0 2).trans ((dg_uf_F e_1633 0 2).trans ((m_1626.1 0 2 _ sM_0 (by decide)).trans (m_2.1 0 2 _ sM_0 (by decide))))).trans f_sl) (by omega) (by omega) I_1637 H.size) (cwV 0 hts (bw_V wB_1161 wB_1162 wB_1163 wB_881 wB_1160) rfl rfl rfl (by decide +kernel) ⟨Nat.le_of_ble_eq_true rfl, Nat.le_of_ble_eq_true rfl⟩) (dg_preV sM_0 rfl K ST hP hS hA1 hA) rfl rfl hl.1 rfl (lv_room (Nat.le_of_ble_eq_true rfl)) dX12_goesOn_508 ⟨Nat.le_of_ble_eq_true rfl, Nat.le_of_ble_eq_true rfl⟩) (fun S_1640 hw_1640 H locs hP hS => ?_)
                    obtain ⟨I_1640, m_1640, w_1640_0, -⟩ := hw_1640
                    have M_1640 := dg_sm.tr M_1637 m_1640 (by decide) (by decide)
                    obtain ⟨y_1641, y_1642, y_1643, f_y_1641, f_y_1642, f_y_1643, w_1640_0⟩ := w_1640_0
                    have w_1640_0 : (se).toInt ≤ (y_1642).toInt ∧ (y_1642).toInt ≤ (y_1643).toInt ∧ (y_1643).toInt ≤ (sl).toInt ∧ ((y_1641).toInt ≠ 0 → (y_1642).toInt + 1 ≤ (y_1643).toInt) := w_1640_0
                    obtain ⟨w_1640_0_0, w_1640_0_1, w_1640_0_2, w_1640_0_3⟩ := w_1640_0
                    have b_y_1641 : 0 ≤ (y_1641).toInt ∧ (y_1641).toInt ≤ 3 := dg_I.intb (lo := 0) (hi := 3) I_1640 sM_0 (by decide +kernel) f_y_1641
                    have b_y_1642 : 0 ≤ (y_1642).toInt ∧ (y_1642).toInt ≤ 1600 := dg_I.intb (lo := 0) (hi := 1600) I_1640 sM_0 (by decide +kernel) f_y_1642
                    have b_y_1643 : 0 ≤ (y_1643).toInt ∧ (y_1643).toInt ≤ 1600 := dg_I.intb (lo := 0) (hi := 1600) I_1640 sM_0 (by decide +kernel) f_y_1643
                    refine lv_aload_n hx hb dX12_goesOn_511 rfl (lv_at hl 3 rfl) ?_
                    refine lv_iconst (v := 0) hx hb dX12_goesOn_512 (by decide +kernel) ?_
                    have hz_1644 : (0 : Int32).toInt = 0 := by decide +kernel
                    refine dg_put (ci := 12) (v := .int 0) (ty := tyX12 46) (C := RX12) (T := TX12) (N := 77) hx hb hts (fun w h => bw_mem (wU_X12 w h)) tyX12 tyX12_ok nmX12 hown K hP hS hA1 sM_0 rfl 46 (by decide) (hts _ (bw_mem wB_1237)) (fun _ h9 => h9) rfl (by decide +kernel) (by decide +kernel) (by decide +kernel) dX12_goesOn_513 (fun S_1645 e_1645 H locs hP hS => ?_)
                    have I_1645 := dg_I.uFi (lo := 0) (hi := 1) I_1640 e_1645 sM_0 (by decide +kernel) (show 0 ≤ ((0 : Int32)).toInt ∧ ((0 : Int32)).toInt ≤ 1 from (by decide +kernel))
                    have M_1645 := dg_sm.uF M_1640 e_1645 sM_0 (by decide)
                    refine lv_iconst (v := 1) hx hb dX12_goesOn_516 (by decide +kernel) ?_
                    have hz_1646 : (1 : Int32).toInt = 1 := by decide +kernel
                    have hz_1647 : (1 : Int32).toInt = 1 := by decide +kernel
                    have hz_1648 : (0 : Int32).toInt = 0 := by decide +kernel
                    have hz_1649 : (1 : Int32).toInt = 1 := by decide +kernel
                    have hz_1650 : (0 : Int32).toInt = 0 := by decide +kernel
                    refine W.widen (k := 0) (n := 0) (Nat.le_of_ble_eq_true rfl) (Nat.le_of_ble_eq_true rfl) ?_
                    rw [hQ9]
                    exact dg_iret hx hb hr hlocks (by decide +kernel) hP hS ⟨I_1645, M_1645, (by decide +kernel), ⟨y_1641, y_1642, y_1643, y_3, y_1628, dp, y_1629, 0, ((dg_uF_ne e_1645 (fun z => absurd z.2 (by decide))).trans f_y_1641), ((dg_uF_ne e_1645 (fun z => absurd z.2 (by decide))).trans f_y_1642), ((dg_uF_ne e_1645 (fun z => absurd z.2 (by decide))).trans f_y_1643), (((dg_uF_ne e_1645 (fun z => absurd z.2 (by decide))).trans ((m_1640.1 0 8 _ sM_0 (by decide)).trans ((dg_uf_F e_1637 0 8).trans ((dg_uf_F e_1633 0 8).trans (m_1626.1 0 8 _ sM_0 (by decide)))))).trans f_y_3), (((dg_uF_ne e_1645 (fun z => absurd z.2 (by decide))).trans ((m_1640.1 0 34 _ sM_0 (by decide)).trans ((dg_uf_F e_1637 0 34).trans (dg_uf_F e_1633 0 34)))).trans f_y_1628), (((dg_uF_ne e_1645 (fun z => absurd z.2 (by decide))).trans ((m_1640.1 0 42 _ sM_0 (by decide)).trans ((dg_uf_F e_1637 0 42).trans ((dg_uf_F e_1633 0 42).trans ((m_1626.1 0 42 _ sM_0 (by decide)).trans (m_2.1 0 42 _ sM_0 (by decide))))))).trans f_dp), (((dg_uF_ne e_1645 (fun z => absurd z.2 (by decide))).trans ((m_1640.1 0 45 _ sM_0 (by decide)).trans ((dg_uf_F e_1637 0 45).trans (dg_uf_F e_1633 0 45)))).trans f_y_1629), (dg_uF_at e_1645), (by omega)⟩, (fun k9 hk9 hk0 => POM.mk0 (P0M.keep (P0M.keep P0_1637 m_1640 (by decide) (by decide) (by decide) (by decide) (by decide) (by decide) (by decide) (by decide) (by decide) (by decide) (by decide) (by decide) (by decide) (by decide) (by decide)) (dg_sm.uF (WF := [(0, 46)]) (WA := []) dg_sm.rf e_1645 sM_0 (by decide)) (by decide) (by decide) (by decide) (by decide) (by decide) (by decide) (by decide) (by decide) (by decide) (by decide) (by decide) (by decide) (by decide) (by decide) (by decide)) (dg_uF_at e_1645) (by omega)), (ZWM.keep (ZWM.keep (ZWM.keep (ZWM.keep w_1626_2 (dg_sm.uf (WF := []) (WA := [22]) dg_sm.rf e_1633 sM_22 (by decide)) (by decide) (by decide) (by decide) (by decide)) (dg_sm.uf (WF := []) (WA := [23]) dg_sm.rf e_1637 sM_23 (by decide)) (by decide) (by decide) (by decide) (by decide)) m_1640 (by decide) (by decide) (by decide) (by decide)) (dg_sm.uF (WF := [(0, 46)]) (WA := []) dg_sm.rf e_1645 sM_0 (by decide)) (by decide) (by decide) (by decide) (by decide)), trivial⟩ dX12_goesOn_517
                  · have jc_1631 := dk_eqc (k := 3) (by decide +kernel) c_1631
                    refine lv_iconst (v := 4) hx hb dX12_goesOn_494 (by decide +kernel) ?_
                    refine lv_goto (tgt := 499) hx hb dX12_goesOn_495 (by decide) ?_
                    have hin_1651 : vp_in x_5 20 := (dk_inv (by omega) (by omega))
                    have hz_1653 : (4 : Int32).toInt = 4 := by decide +kernel
                    refine dg_iast hx hb K hP hS hA1 sM_22 hin_1651 dX12_goesOn_499 (fun S_1652 e_1652 H locs hP hS => ?_)
                    have I_1652 := dg_I.ufu (lo := 0) (hi := 6) I_1626 e_1652 sM_22 (by decide +kernel) (show 0 ≤ ((4 : Int32)).toInt ∧ ((4 : Int32)).toInt ≤ 6 from (by decide +kernel))
                    have M_1652 := dg_sm.uf M_1626 e_1652 sM_22 (by decide)
                    have hz_1654 : (4 : Int32).toInt = 4 := by decide +kernel
                    refine lv_aload_n hx hb dX12_goesOn_500 rfl (lv_at hl 3 rfl) ?_
                    refine dg_get (C := RX12) (T := TX12) (N := 77) hx hb hts (fun w h => bw_mem (wU_X12 w h)) hown K hP sM_0 rfl 38 (by decide) (hts _ (bw_mem wB_1214)) (fun _ h9 => h9) (v := .ref (o + 23)) (show S_1652.1 0 38 = .ref (o + 23) from dg_I.rel (d := 23) I_1652 sM_0 (by decide +kernel)) dX12_goesOn_501 ?_
                    refine lv_iload_n hx hb dX12_goesOn_504 rfl (lv_at hl 2 rfl) ?_
                    refine lv_iconst (v := 0) hx hb dX12_goesOn_505 (by decide +kernel) ?_
                    have hin_1655 : vp_in x_5 20 := (dk_inv (by omega) (by omega))
                    have hz_1657 : (0 : Int32).toInt = 0 := by decide +kernel
                    refine dg_iast hx hb K hP hS hA1 sM_23 hin_1655 dX12_goesOn_506 (fun S_1656 e_1656 H locs hP hS => ?_)
                    have I_1656 := dg_I.ufu (lo := 0) (hi := 2) I_1652 e_1656 sM_23 (by decide +kernel) (show 0 ≤ ((0 : Int32)).toInt ∧ ((0 : Int32)).toInt ≤ 2 from (by decide +kernel))
                    have M_1656 := dg_sm.uf M_1652 e_1656 sM_23 (by decide)
                    have hz_1658 : (0 : Int32).toInt = 0 := by decide +kernel
                    have P0_1656 : P0M S_1656 := P1M.comma w_1626_3 (((m_1626.1 0 42 _ sM_0 (by decide)).trans (m_2.1 0 42 _ sM_0 (by decide))).trans f_dp) f_x_1630 f_y_1629 w_1626_1 (by omega) (fx := x_5) (by omega) ((congrFun (m_1626.2 22 _ sM_22 (by decide)).1 _).trans ex_7.symm) (by omega) e_1652 e_1656
                    refine lv_aload_n hx hb dX12_goesOn_507 rfl (lv_at hl 3 rfl) ?_
                    refine dg_callv hS hA1 hA (va_runV (As := []) (rest := []) F (c_m_ahead l g D o S_1656 se (((dg_uf_F e_1656 0 5).trans ((dg_uf_F e_1652 0 5).trans ((m_1626.1 0 5 _ sM_0 (by decide)).trans (m_2.1 0 5 _ sM_0 (by decide))))).trans f_se) (by omega) sl (((dg_uf_F e_1656 0 2).trans ((dg_uf_F e_1652 0 2).trans ((m_1626.1 0 2 _ sM_0 (by decide)).trans (m_2.1 0 2 _ sM_0 (by decide))))).trans f_sl) (by omega) (by omega) I_1656 H.size) (cwV 0 hts (bw_V wB_1161 wB_1162 wB_1163 wB_881 wB_1160) rfl rfl rfl (by decide +kernel) ⟨Nat.le_of_ble_eq_true rfl, Nat.le_of_ble_eq_true rfl⟩) (dg_preV sM_0 rfl K ST hP hS hA1 hA) rfl rfl hl.1 rfl (lv_room (Nat.le_of_ble_eq_true rfl)) dX12_goesOn_508 ⟨Nat.le_of_ble_eq_true rfl, Nat.le_of_ble_eq_true rfl⟩) (fun S_1659 hw_1659 H locs hP hS => ?_)
                    obtain ⟨I_1659, m_1659, w_1659_0, -⟩ := hw_1659
                    have M_1659 := dg_sm.tr M_1656 m_1659 (by decide) (by decide)
                    obtain ⟨y_1660, y_1661, y_1662, f_y_1660, f_y_1661, f_y_1662, w_1659_0⟩ := w_1659_0
                    have w_1659_0 : (se).toInt ≤ (y_1661).toInt ∧ (y_1661).toInt ≤ (y_1662).toInt ∧ (y_1662).toInt ≤ (sl).toInt ∧ ((y_1660).toInt ≠ 0 → (y_1661).toInt + 1 ≤ (y_1662).toInt) := w_1659_0
                    obtain ⟨w_1659_0_0, w_1659_0_1, w_1659_0_2, w_1659_0_3⟩ := w_1659_0
                    have b_y_1660 : 0 ≤ (y_1660).toInt ∧ (y_1660).toInt ≤ 3 := dg_I.intb (lo := 0) (hi := 3) I_1659 sM_0 (by decide +kernel) f_y_1660
                    have b_y_1661 : 0 ≤ (y_1661).toInt ∧ (y_1661).toInt ≤ 1600 := dg_I.intb (lo := 0) (hi := 1600) I_1659 sM_0 (by decide +kernel) f_y_1661
                    have b_y_1662 : 0 ≤ (y_1662).toInt ∧ (y_1662).toInt ≤ 1600 := dg_I.intb (lo := 0) (hi := 1600) I_1659 sM_0 (by decide +kernel) f_y_1662
                    refine lv_aload_n hx hb dX12_goesOn_511 rfl (lv_at hl 3 rfl) ?_
                    refine lv_iconst (v := 0) hx hb dX12_goesOn_512 (by decide +kernel) ?_
                    have hz_1663 : (0 : Int32).toInt = 0 := by decide +kernel
                    refine dg_put (ci := 12) (v := .int 0) (ty := tyX12 46) (C := RX12) (T := TX12) (N := 77) hx hb hts (fun w h => bw_mem (wU_X12 w h)) tyX12 tyX12_ok nmX12 hown K hP hS hA1 sM_0 rfl 46 (by decide) (hts _ (bw_mem wB_1237)) (fun _ h9 => h9) rfl (by decide +kernel) (by decide +kernel) (by decide +kernel) dX12_goesOn_513 (fun S_1664 e_1664 H locs hP hS => ?_)
                    have I_1664 := dg_I.uFi (lo := 0) (hi := 1) I_1659 e_1664 sM_0 (by decide +kernel) (show 0 ≤ ((0 : Int32)).toInt ∧ ((0 : Int32)).toInt ≤ 1 from (by decide +kernel))
                    have M_1664 := dg_sm.uF M_1659 e_1664 sM_0 (by decide)
                    refine lv_iconst (v := 1) hx hb dX12_goesOn_516 (by decide +kernel) ?_
                    have hz_1665 : (1 : Int32).toInt = 1 := by decide +kernel
                    have hz_1666 : (1 : Int32).toInt = 1 := by decide +kernel
                    have hz_1667 : (0 : Int32).toInt = 0 := by decide +kernel
                    have hz_1668 : (1 : Int32).toInt = 1 := by decide +kernel
                    have hz_1669 : (0 : Int32).toInt = 0 := by decide +kernel
                    refine W.widen (k := 0) (n := 0) (Nat.le_of_ble_eq_true rfl) (Nat.le_of_ble_eq_true rfl) ?_
                    rw [hQ9]
                    exact dg_iret hx hb hr hlocks (by decide +kernel) hP hS ⟨I_1664, M_1664, (by decide +kernel), ⟨y_1660, y_1661, y_1662, y_3, y_1628, dp, y_1629, 0, ((dg_uF_ne e_1664 (fun z => absurd z.2 (by decide))).trans f_y_1660), ((dg_uF_ne e_1664 (fun z => absurd z.2 (by decide))).trans f_y_1661), ((dg_uF_ne e_1664 (fun z => absurd z.2 (by decide))).trans f_y_1662), (((dg_uF_ne e_1664 (fun z => absurd z.2 (by decide))).trans ((m_1659.1 0 8 _ sM_0 (by decide)).trans ((dg_uf_F e_1656 0 8).trans ((dg_uf_F e_1652 0 8).trans (m_1626.1 0 8 _ sM_0 (by decide)))))).trans f_y_3), (((dg_uF_ne e_1664 (fun z => absurd z.2 (by decide))).trans ((m_1659.1 0 34 _ sM_0 (by decide)).trans ((dg_uf_F e_1656 0 34).trans (dg_uf_F e_1652 0 34)))).trans f_y_1628), (((dg_uF_ne e_1664 (fun z => absurd z.2 (by decide))).trans ((m_1659.1 0 42 _ sM_0 (by decide)).trans ((dg_uf_F e_1656 0 42).trans ((dg_uf_F e_1652 0 42).trans ((m_1626.1 0 42 _ sM_0 (by decide)).trans (m_2.1 0 42 _ sM_0 (by decide))))))).trans f_dp), (((dg_uF_ne e_1664 (fun z => absurd z.2 (by decide))).trans ((m_1659.1 0 45 _ sM_0 (by decide)).trans ((dg_uf_F e_1656 0 45).trans (dg_uf_F e_1652 0 45)))).trans f_y_1629), (dg_uF_at e_1664), (by omega)⟩, (fun k9 hk9 hk0 => POM.mk0 (P0M.keep (P0M.keep P0_1656 m_1659 (by decide) (by decide) (by decide) (by decide) (by decide) (by decide) (by decide) (by decide) (by decide) (by decide) (by decide) (by decide) (by decide) (by decide) (by decide)) (dg_sm.uF (WF := [(0, 46)]) (WA := []) dg_sm.rf e_1664 sM_0 (by decide)) (by decide) (by decide) (by decide) (by decide) (by decide) (by decide) (by decide) (by decide) (by decide) (by decide) (by decide) (by decide) (by decide) (by decide) (by decide)) (dg_uF_at e_1664) (by omega)), (ZWM.keep (ZWM.keep (ZWM.keep (ZWM.keep w_1626_2 (dg_sm.uf (WF := []) (WA := [22]) dg_sm.rf e_1652 sM_22 (by decide)) (by decide) (by decide) (by decide) (by decide)) (dg_sm.uf (WF := []) (WA := [23]) dg_sm.rf e_1656 sM_23 (by decide)) (by decide) (by decide) (by decide) (by decide)) m_1659 (by decide) (by decide) (by decide) (by decide)) (dg_sm.uF (WF := [(0, 46)]) (WA := []) dg_sm.rf e_1664 sM_0 (by decide)) (by decide) (by decide) (by decide) (by decide)), trivial⟩ dX12_goesOn_517
                · have jc_1624 := dk_eqc (k := 0) (by decide +kernel) c_1624
                  clear w_1622_1
                  refine lv_aload_n hx hb dX12_goesOn_461 rfl (lv_at hl 3 rfl) ?_
                  refine lv_iconst (v := 1) hx hb dX12_goesOn_462 (by decide +kernel) ?_
                  refine lv_aload_n hx hb dX12_goesOn_463 rfl (lv_at hl 3 rfl) ?_
                  refine dg_get (C := RX12) (T := TX12) (N := 77) hx hb hts (fun w h => bw_mem (wU_X12 w h)) hown K hP sM_0 rfl 4 (by decide) (hts _ (bw_mem wB_1145)) (fun _ h9 => h9) (v := .int sa) ((m_2.1 0 4 _ sM_0 (by decide)).trans f_sa) dX12_goesOn_464 ?_
                  have hz_1670 : (1 : Int32).toInt = 1 := by decide +kernel
                  refine dg_callv hS hA1 hA (va_runV (As := [.int 1, .int sa]) (rest := []) F (c_m_blame l g D o S_2 1 (by decide +kernel) sa y_3 f_y_3 (by omega) I_2 H.size) (cwV 2 hts (bw_V wB_1137 wB_1138 wB_1139 wB_881 wB_1136) rfl rfl rfl (by decide +kernel) ⟨Nat.le_of_ble_eq_true rfl, Nat.le_of_ble_eq_true rfl⟩) (dg_preV sM_0 rfl K ST hP hS hA1 hA) rfl rfl hl.1 rfl (lv_room (Nat.le_of_ble_eq_true rfl)) dX12_goesOn_467 ⟨Nat.le_of_ble_eq_true rfl, Nat.le_of_ble_eq_true rfl⟩) (fun S_1671 hw_1671 H locs hP hS => ?_)
                  obtain ⟨I_1671, m_1671, w_1671_0, -⟩ := hw_1671
                  have M_1671 := dg_sm.tr M_2 m_1671 (by decide) (by decide)
                  have hz_1672 : (1 : Int32).toInt = 1 := by decide +kernel
                  obtain ⟨y_1673, f_y_1673, w_1671_0⟩ := w_1671_0
                  have w_1671_0 : ((y_3).toInt ≠ 0 → (y_1673).toInt = (y_3).toInt) ∧ ((y_3).toInt = 0 → (y_1673).toInt = ((1 : Int32)).toInt) := w_1671_0
                  obtain ⟨w_1671_0_0, w_1671_0_1⟩ := w_1671_0
                  clear w_1671_0_0
                  have w_1671_0_1r := w_1671_0_1 (by omega)
                  clear w_1671_0_1
                  have b_y_1673 : 0 ≤ (y_1673).toInt ∧ (y_1673).toInt ≤ 6 := dg_I.intb (lo := 0) (hi := 6) I_1671 sM_0 (by decide +kernel) f_y_1673
                  have hbl_y_1673 : 1 ≤ (y_1673).toInt := by omega
                  refine lv_aload_n hx hb dX12_goesOn_470 rfl (lv_at hl 3 rfl) ?_
                  refine dg_get (C := RX12) (T := TX12) (N := 77) hx hb hts (fun w h => bw_mem (wU_X12 w h)) hown K hP sM_0 rfl 8 (by decide) (hts _ (bw_mem wB_1133)) (fun _ h9 => h9) (v := .int y_1673) f_y_1673 dX12_goesOn_471 ?_
                  refine lv_if_le (tgt := 479) hx hb dX12_goesOn_474 (by decide) (fun c => absurd c (fun z => absurd (dk_lec (k := 0) (by decide +kernel) z) (by omega))) (fun _ => ?_)
                  refine lv_iconst (v := 0) hx hb dX12_goesOn_477 (by decide +kernel) ?_
                  have hz_1674 : (0 : Int32).toInt = 0 := by decide +kernel
                  have hz_1675 : (0 : Int32).toInt = 0 := by decide +kernel
                  have hz_1676 : (0 : Int32).toInt = 0 := by decide +kernel
                  refine W.widen (k := 0) (n := 0) (Nat.le_of_ble_eq_true rfl) (Nat.le_of_ble_eq_true rfl) ?_
                  rw [hQ9]
                  exact dg_iret hx hb hr hlocks (by decide +kernel) hP hS ⟨I_1671, M_1671, (by decide +kernel), ⟨sg, sa, se, y_1673, cd, dp, om, oo, (((m_1671.1 0 3 _ sM_0 (by decide)).trans (m_2.1 0 3 _ sM_0 (by decide))).trans f_sg), (((m_1671.1 0 4 _ sM_0 (by decide)).trans (m_2.1 0 4 _ sM_0 (by decide))).trans f_sa), (((m_1671.1 0 5 _ sM_0 (by decide)).trans (m_2.1 0 5 _ sM_0 (by decide))).trans f_se), f_y_1673, (((m_1671.1 0 34 _ sM_0 (by decide)).trans (m_2.1 0 34 _ sM_0 (by decide))).trans f_cd), (((m_1671.1 0 42 _ sM_0 (by decide)).trans (m_2.1 0 42 _ sM_0 (by decide))).trans f_dp), (((m_1671.1 0 45 _ sM_0 (by decide)).trans (m_2.1 0 45 _ sM_0 (by decide))).trans f_om), (((m_1671.1 0 46 _ sM_0 (by decide)).trans (m_2.1 0 46 _ sM_0 (by decide))).trans f_oo), (by omega)⟩, (fun k9 hk9 hk0 => by have q9 := (f_y_1673).symm.trans hk9; cases q9; omega), (ZWM.keep (ZWM.keep ZW m_2 (by decide) (by decide) (by decide) (by decide)) m_1671 (by decide) (by decide) (by decide) (by decide)), trivial⟩ dX12_goesOn_478
              refine lv_icmp_eq (tgt := 452) hx hb dX12_goesOn_443 (by decide) (fun c_1677 => ?_) (fun c_1677 => ?_)
              · have jc_1677 := dk_eqc (k := 3) (by decide +kernel) c_1677
                exact J_1620 ()  (by omega) _ _ hP hS _ (lv_sub hl [0, 1, 2, 3] rfl)
              · have jc_1677 := dk_neqc (k := 3) (by decide +kernel) c_1677
                clear jc_1677
                refine lv_iload_n hx hb dX12_goesOn_446 rfl (lv_at hl 1 rfl) ?_
                refine lv_bipush (v := 6) hx hb dX12_goesOn_447 (by decide +kernel) ?_
                refine lv_icmp_ne (tgt := 518) hx hb dX12_goesOn_449 (by decide) (fun c_1678 => ?_) (fun c_1678 => ?_)
                · have jc_1678 := dk_neqc (k := 6) (by decide +kernel) c_1678
                  have jtc_1678 : (x_7).toInt ≤ 5 := by omega
                  clear jc_1678
                  refine lv_aload_n hx hb dX12_goesOn_518 rfl (lv_at hl 3 rfl) ?_
                  refine lv_iload_n hx hb dX12_goesOn_519 rfl (lv_at hl 1 rfl) ?_
                  refine lv_iconst (v := 5) hx hb dX12_goesOn_520 (by decide +kernel) ?_
                  have J_1734 : ∀ (x_1680 : Int32), (41 ≤ (x_1680).toInt ∧ (x_1680).toInt ≤ 93) → ∀ (H : Heap) (locs : List Loc), va_P D vwCl (dg_w g shM o rfM S_2) H → va_S A s.heap H locs → ∀ ls : Array Slot, lv_has ls 5 [(3, .int x_8), (2, .int x_7), (1, .int x_5), (0, .ref (o + 0))] → W p l e ({ frames := 3, cells := 0, slots := 0, locals := 77 } : Room) s m args below meth c H locs 0 0 Q9 (F0 m 531 ls [.int x_1680, .ref (o + 0)]) := by
                    intro x_1680 b_x_1680 H locs hP hS ls hl
                    refine dg_calli hS hA1 hA (va_runV (As := [.int x_1680]) (rest := []) F (c_m_isSign l g D o S_2 x_1680 sg ((m_2.1 0 3 _ sM_0 (by decide)).trans f_sg) (by omega) va ((m_2.1 0 6 _ sM_0 (by decide)).trans f_va) (by omega) I_2 H.size) (cwV 1 hts (bw_V wB_1157 wB_1158 wB_1159 wB_881 wB_1156) rfl rfl rfl (by decide +kernel) ⟨Nat.le_of_ble_eq_true rfl, Nat.le_of_ble_eq_true rfl⟩) (dg_preV sM_0 rfl K ST hP hS hA1 hA) rfl rfl hl.1 rfl (lv_room (Nat.le_of_ble_eq_true rfl)) dX12_goesOn_531 ⟨Nat.le_of_ble_eq_true rfl, Nat.le_of_ble_eq_true rfl⟩) (fun x_1735 S_1736 hw_1736 H locs hP hS => ?_)
                    rw [hw_1736.1] at hP
                    obtain ⟨hq_1736, w_1736_0, w_1736_1, -⟩ := hw_1736
                    have w_1736_0 : 0 ≤ (x_1735).toInt ∧ (x_1735).toInt ≤ 1 := w_1736_0
                    have w_1736_1 : (x_1735).toInt = 1 ↔ ((sg).toInt = 3 ∧ (va).toInt = (x_1680).toInt) := w_1736_1
                    refine lv_if_ne (tgt := 546) hx hb dX12_goesOn_534 (by decide) (fun c_1737 => ?_) (fun c_1737 => ?_)
                    · have jc_1737 := dk_neqc (k := 0) (by decide +kernel) c_1737
                      have jbc_1737 : 1 ≤ (x_1735).toInt := by omega
                      clear jc_1737
                      have w_1736_1_r := w_1736_1.mp (by omega)
                      obtain ⟨w_1736_1_r1, w_1736_1_r2⟩ := w_1736_1_r
                      clear w_1736_1
                      have hlx_2r := hlx_2 (by omega)
                      clear hlx_2
                      refine lv_aload_n hx hb dX12_goesOn_546 rfl (lv_at hl 3 rfl) ?_
                      refine dg_get (C := RX12) (T := TX12) (N := 77) hx hb hts (fun w h => bw_mem (wU_X12 w h)) hown K hP sM_0 rfl 8 (by decide) (hts _ (bw_mem wB_1133)) (fun _ h9 => h9) (v := .int y_3) f_y_3 dX12_goesOn_547 ?_
                      refine lv_if_le (tgt := 555) hx hb dX12_goesOn_550 (by decide) (fun _ => ?_) (fun c => absurd (dk_lep (k := 0) (by decide +kernel) (by omega)) c)
                      refine lv_aload_n hx hb dX12_goesOn_555 rfl (lv_at hl 3 rfl) ?_
                      refine lv_iconst (v := 1) hx hb dX12_goesOn_556 (by decide +kernel) ?_
                      have hz_1738 : (1 : Int32).toInt = 1 := by decide +kernel
                      refine dg_callv hS hA1 hA (va_runV (As := [.int 1]) (rest := []) F (c_m_joins l g D o S_2 1 (by decide +kernel) cd ((m_2.1 0 34 _ sM_0 (by decide)).trans f_cd) (by omega) om ((m_2.1 0 45 _ sM_0 (by decide)).trans f_om) (by omega) (by omega) (ZWM.keep ZW m_2 (by decide) (by decide) (by decide) (by decide)) (ZKM.keep ZK m_2 (by decide) (by decide)) (P1M.keep P1 m_2 (by decide) (by decide) (by decide) (by decide) (by decide) (by decide) (by decide) (by decide) (by decide) (by decide) (by decide) (by decide) (by decide) (by decide) (by decide)) I_2 H.size) (cwV 1 hts (bw_V wB_1234 wB_1235 wB_1236 wB_881 wB_1233) rfl rfl rfl (by decide +kernel) ⟨Nat.le_of_ble_eq_true rfl, Nat.le_of_ble_eq_true rfl⟩) (dg_preV sM_0 rfl K ST hP hS hA1 hA) rfl rfl hl.1 rfl (lv_room (Nat.le_of_ble_eq_true rfl)) dX12_goesOn_557 ⟨Nat.le_of_ble_eq_true rfl, Nat.le_of_ble_eq_true rfl⟩) (fun S_1739 hw_1739 H locs hP hS => ?_)
                      obtain ⟨I_1739, m_1739, w_1739_0, w_1739_1, w_1739_2, w_1739_3, -⟩ := hw_1739
                      have M_1739 := dg_sm.tr M_2 m_1739 (by decide) (by decide)
                      have hz_1740 : (1 : Int32).toInt = 1 := by decide +kernel
                      obtain ⟨y_1741, y_1742, f_y_1741, f_y_1742, w_1739_0⟩ := w_1739_0
                      have w_1739_0 : (y_1741).toInt + (y_1742).toInt = (cd).toInt + (om).toInt := w_1739_0
                      have b_y_1741 : 0 ≤ (y_1741).toInt ∧ (y_1741).toInt ≤ 1600 := dg_I.intb (lo := 0) (hi := 1600) I_1739 sM_0 (by decide +kernel) f_y_1741
                      have b_y_1742 : 0 ≤ (y_1742).toInt ∧ (y_1742).toInt ≤ 500 := dg_I.intb (lo := 0) (hi := 500) I_1739 sM_0 (by decide +kernel) f_y_1742
                      have w_1739_1 : TOPM S_1739 (1 : Int32) := w_1739_1
                      obtain ⟨x_1743, f_x_1743, b_x_1743⟩ := dg_I.int (i := 0) (k := 43) (lo := (-2147483648)) (hi := 2147483647) I_1739 sM_0 (by decide +kernel)
                      have hkd := PSM.kind w_1739_3 (((m_1739.1 0 42 _ sM_0 (by decide)).trans (m_2.1 0 42 _ sM_0 (by decide))).trans f_dp) f_x_1743 f_y_1742 (fx := x_5) (by omega) ((congrFun (m_1739.2 22 _ sM_22 (by decide)).1 _).trans ex_7.symm) (rfl : S_1739.2.1 25 (x_5 : Int32).toNatClampNeg = _)
                      unfold dk_fk at hkd
                      have hcl9 := dk_clN x_5
                      refine lv_aload_n hx hb dX12_goesOn_560 rfl (lv_at hl 3 rfl) ?_
                      refine lv_dup hx hb dX12_goesOn_561 rfl ?_
                      refine dg_get (C := RX12) (T := TX12) (N := 77) hx hb hts (fun w h => bw_mem (wU_X12 w h)) hown K hP sM_0 rfl 42 (by decide) (hts _ (bw_mem wB_1203)) (fun _ h9 => h9) (v := .int dp) (((m_1739.1 0 42 _ sM_0 (by decide)).trans (m_2.1 0 42 _ sM_0 (by decide))).trans f_dp) dX12_goesOn_562 ?_
                      refine lv_iconst (v := 1) hx hb dX12_goesOn_565 (by decide +kernel) ?_
                      refine lv_isub hx hb dX12_goesOn_566 ?_
                      refine lv_topi (fun x_1744 ex_1744 => ?_)
                      have jx_1744 : (x_1744).toInt = (dp).toInt - 1 := by rw [ex_1744]; exact dk_subT rfl (by decide +kernel) (by omega) (by omega)
                      refine dg_put (ci := 12) (v := .int x_1744) (ty := tyX12 42) (C := RX12) (T := TX12) (N := 77) hx hb hts (fun w h => bw_mem (wU_X12 w h)) tyX12 tyX12_ok nmX12 hown K hP hS hA1 sM_0 rfl 42 (by decide) (hts _ (bw_mem wB_1203)) (fun _ h9 => h9) rfl (by decide +kernel) rfl rfl dX12_goesOn_567 (fun S_1745 e_1745 H locs hP hS => ?_)
                      have I_1745 := dg_I.uFi (lo := 0) (hi := 20) I_1739 e_1745 sM_0 (by decide +kernel) (show 0 ≤ (x_1744).toInt ∧ (x_1744).toInt ≤ 20 from (by omega))
                      have M_1745 := dg_sm.uF M_1739 e_1745 sM_0 (by decide)
                      refine lv_aload_n hx hb dX12_goesOn_570 rfl (lv_at hl 3 rfl) ?_
                      refine lv_dup hx hb dX12_goesOn_571 rfl ?_
                      refine dg_get (C := RX12) (T := TX12) (N := 77) hx hb hts (fun w h => bw_mem (wU_X12 w h)) hown K hP sM_0 rfl 43 (by decide) (hts _ (bw_mem wB_1212)) (fun _ h9 => h9) (v := .int x_1743) ((dg_uF_ne e_1745 (fun z => absurd z.2 (by decide))).trans f_x_1743) dX12_goesOn_572 ?_
                      refine lv_iconst (v := 1) hx hb dX12_goesOn_575 (by decide +kernel) ?_
                      refine lv_isub hx hb dX12_goesOn_576 ?_
                      refine lv_topi (fun x_1746 ex_1746 => ?_)
                      refine dg_put (ci := 12) (v := .int x_1746) (ty := tyX12 43) (C := RX12) (T := TX12) (N := 77) hx hb hts (fun w h => bw_mem (wU_X12 w h)) tyX12 tyX12_ok nmX12 hown K hP hS hA1 sM_0 rfl 43 (by decide) (hts _ (bw_mem wB_1212)) (fun _ h9 => h9) rfl (by decide +kernel) rfl rfl dX12_goesOn_577 (fun S_1747 e_1747 H locs hP hS => ?_)
                      have I_1747 := dg_I.uFi (lo := (-2147483648)) (hi := 2147483647) I_1745 e_1747 sM_0 (by decide +kernel) (show (-2147483648) ≤ (x_1746).toInt ∧ (x_1746).toInt ≤ 2147483647 from (dk_full _))
                      have M_1747 := dg_sm.uF M_1745 e_1747 sM_0 (by decide)
                      refine lv_iload_n hx hb dX12_goesOn_580 rfl (lv_at hl 1 rfl) ?_
                      refine lv_iconst (v := 4) hx hb dX12_goesOn_581 (by decide +kernel) ?_
                      refine lv_icmp_ne (tgt := 596) hx hb dX12_goesOn_582 (by decide) (fun c_1748 => ?_) (fun c_1748 => ?_)
                      · have jc_1748 := dk_neqc (k := 4) (by decide +kernel) c_1748
                        clear jc_1748
                        have P1_1747 : P1M S_1747 := P1M.close2 w_1739_3 (((m_1739.1 0 42 _ sM_0 (by decide)).trans (m_2.1 0 42 _ sM_0 (by decide))).trans f_dp) f_x_1743 f_y_1742 w_1739_1 (by omega) (fx := x_5) (by omega) ((congrFun (m_1739.2 22 _ sM_22 (by decide)).1 _).trans ex_7.symm) (by omega) e_1745 (by omega) e_1747 (by omega)
                        refine lv_iload_n hx hb dX12_goesOn_596 rfl (lv_at hl 1 rfl) ?_
                        refine lv_iconst (v := 5) hx hb dX12_goesOn_597 (by decide +kernel) ?_
                        refine lv_icmp_ne (tgt := 613) hx hb dX12_goesOn_598 (by decide) (fun c_1749 => ?_) (fun c_1749 => ?_)
                        · have jc_1749 := dk_neqc (k := 5) (by decide +kernel) c_1749
                          have jtc_1749 : (x_7).toInt ≤ 2 := by omega
                          clear jc_1749
                          refine lv_aload_n hx hb dX12_goesOn_613 rfl (lv_at hl 3 rfl) ?_
                          refine dg_callv hS hA1 hA (va_runV (As := []) (rest := []) F (c_m_ahead l g D o S_1747 se (((dg_uF_ne e_1747 (fun z => absurd z.2 (by decide))).trans ((dg_uF_ne e_1745 (fun z => absurd z.2 (by decide))).trans ((m_1739.1 0 5 _ sM_0 (by decide)).trans (m_2.1 0 5 _ sM_0 (by decide))))).trans f_se) (by omega) sl (((dg_uF_ne e_1747 (fun z => absurd z.2 (by decide))).trans ((dg_uF_ne e_1745 (fun z => absurd z.2 (by decide))).trans ((m_1739.1 0 2 _ sM_0 (by decide)).trans (m_2.1 0 2 _ sM_0 (by decide))))).trans f_sl) (by omega) (by omega) I_1747 H.size) (cwV 0 hts (bw_V wB_1161 wB_1162 wB_1163 wB_881 wB_1160) rfl rfl rfl (by decide +kernel) ⟨Nat.le_of_ble_eq_true rfl, Nat.le_of_ble_eq_true rfl⟩) (dg_preV sM_0 rfl K ST hP hS hA1 hA) rfl rfl hl.1 rfl (lv_room (Nat.le_of_ble_eq_true rfl)) dX12_goesOn_614 ⟨Nat.le_of_ble_eq_true rfl, Nat.le_of_ble_eq_true rfl⟩) (fun S_1750 hw_1750 H locs hP hS => ?_)
                          obtain ⟨I_1750, m_1750, w_1750_0, -⟩ := hw_1750
                          have M_1750 := dg_sm.tr M_1747 m_1750 (by decide) (by decide)
                          obtain ⟨y_1751, y_1752, y_1753, f_y_1751, f_y_1752, f_y_1753, w_1750_0⟩ := w_1750_0
                          have w_1750_0 : (se).toInt ≤ (y_1752).toInt ∧ (y_1752).toInt ≤ (y_1753).toInt ∧ (y_1753).toInt ≤ (sl).toInt ∧ ((y_1751).toInt ≠ 0 → (y_1752).toInt + 1 ≤ (y_1753).toInt) := w_1750_0
                          obtain ⟨w_1750_0_0, w_1750_0_1, w_1750_0_2, w_1750_0_3⟩ := w_1750_0
                          have b_y_1751 : 0 ≤ (y_1751).toInt ∧ (y_1751).toInt ≤ 3 := dg_I.intb (lo := 0) (hi := 3) I_1750 sM_0 (by decide +kernel) f_y_1751
                          have b_y_1752 : 0 ≤ (y_1752).toInt ∧ (y_1752).toInt ≤ 1600 := dg_I.intb (lo := 0) (hi := 1600) I_1750 sM_0 (by decide +kernel) f_y_1752
                          have b_y_1753 : 0 ≤ (y_1753).toInt ∧ (y_1753).toInt ≤ 1600 := dg_I.intb (lo := 0) (hi := 1600) I_1750 sM_0 (by decide +kernel) f_y_1753
                          refine lv_iconst (v := 1) hx hb dX12_goesOn_617 (by decide +kernel) ?_
                          have hz_1754 : (1 : Int32).toInt = 1 := by decide +kernel
                          have hz_1755 : (1 : Int32).toInt = 1 := by decide +kernel
                          have hz_1756 : (1 : Int32).toInt = 1 := by decide +kernel
                          refine W.widen (k := 0) (n := 0) (Nat.le_of_ble_eq_true rfl) (Nat.le_of_ble_eq_true rfl) ?_
                          rw [hQ9]
                          exact dg_iret hx hb hr hlocks (by decide +kernel) hP hS ⟨I_1750, M_1750, (by decide +kernel), ⟨y_1751, y_1752, y_1753, y_3, y_1741, x_1744, y_1742, oo, f_y_1751, f_y_1752, f_y_1753, (((m_1750.1 0 8 _ sM_0 (by decide)).trans ((dg_uF_ne e_1747 (fun z => absurd z.2 (by decide))).trans ((dg_uF_ne e_1745 (fun z => absurd z.2 (by decide))).trans (m_1739.1 0 8 _ sM_0 (by decide))))).trans f_y_3), (((m_1750.1 0 34 _ sM_0 (by decide)).trans ((dg_uF_ne e_1747 (fun z => absurd z.2 (by decide))).trans (dg_uF_ne e_1745 (fun z => absurd z.2 (by decide))))).trans f_y_1741), (((m_1750.1 0 42 _ sM_0 (by decide)).trans (dg_uF_ne e_1747 (fun z => absurd z.2 (by decide)))).trans (dg_uF_at e_1745)), (((m_1750.1 0 45 _ sM_0 (by decide)).trans ((dg_uF_ne e_1747 (fun z => absurd z.2 (by decide))).trans (dg_uF_ne e_1745 (fun z => absurd z.2 (by decide))))).trans f_y_1742), (((m_1750.1 0 46 _ sM_0 (by decide)).trans ((dg_uF_ne e_1747 (fun z => absurd z.2 (by decide))).trans ((dg_uF_ne e_1745 (fun z => absurd z.2 (by decide))).trans ((m_1739.1 0 46 _ sM_0 (by decide)).trans (m_2.1 0 46 _ sM_0 (by decide)))))).trans f_oo), (by omega)⟩, (fun k9 hk9 hk0 => POM.mk1 (P1M.keep P1_1747 m_1750 (by decide) (by decide) (by decide) (by decide) (by decide) (by decide) (by decide) (by decide) (by decide) (by decide) (by decide) (by decide) (by decide) (by decide) (by decide)) (((m_1750.1 0 46 _ sM_0 (by decide)).trans ((dg_uF_ne e_1747 (fun z => absurd z.2 (by decide))).trans ((dg_uF_ne e_1745 (fun z => absurd z.2 (by decide))).trans ((m_1739.1 0 46 _ sM_0 (by decide)).trans (m_2.1 0 46 _ sM_0 (by decide)))))).trans f_oo) (by omega)), (ZWM.keep (ZWM.keep (ZWM.keep w_1739_2 (dg_sm.uF (WF := [(0, 42)]) (WA := []) dg_sm.rf e_1745 sM_0 (by decide)) (by decide) (by decide) (by decide) (by decide)) (dg_sm.uF (WF := [(0, 43)]) (WA := []) dg_sm.rf e_1747 sM_0 (by decide)) (by decide) (by decide) (by decide) (by decide)) m_1750 (by decide) (by decide) (by decide) (by decide)), trivial⟩ dX12_goesOn_618
                        · have jc_1749 := dk_eqc (k := 5) (by decide +kernel) c_1749
                          refine lv_aload_n hx hb dX12_goesOn_601 rfl (lv_at hl 3 rfl) ?_
                          refine dg_get (C := RX12) (T := TX12) (N := 77) hx hb hts (fun w h => bw_mem (wU_X12 w h)) hown K hP sM_0 rfl 38 (by decide) (hts _ (bw_mem wB_1214)) (fun _ h9 => h9) (v := .ref (o + 23)) (show S_1747.1 0 38 = .ref (o + 23) from dg_I.rel (d := 23) I_1747 sM_0 (by decide +kernel)) dX12_goesOn_602 ?_
                          refine lv_aload_n hx hb dX12_goesOn_605 rfl (lv_at hl 3 rfl) ?_
                          refine dg_get (C := RX12) (T := TX12) (N := 77) hx hb hts (fun w h => bw_mem (wU_X12 w h)) hown K hP sM_0 rfl 42 (by decide) (hts _ (bw_mem wB_1203)) (fun _ h9 => h9) (v := .int x_1744) ((dg_uF_ne e_1747 (fun z => absurd z.2 (by decide))).trans (dg_uF_at e_1745)) dX12_goesOn_606 ?_
                          refine lv_iconst (v := 1) hx hb dX12_goesOn_609 (by decide +kernel) ?_
                          refine lv_isub hx hb dX12_goesOn_610 ?_
                          refine lv_topi (fun x_1757 ex_1757 => ?_)
                          have jx_1757 : (x_1757).toInt = (x_1744).toInt - 1 := by rw [ex_1757]; exact dk_subT rfl (by decide +kernel) (by omega) (by omega)
                          refine lv_iconst (v := 2) hx hb dX12_goesOn_611 (by decide +kernel) ?_
                          have hin_1758 : vp_in x_1757 20 := (dk_inv (by omega) (by omega))
                          have hz_1760 : (2 : Int32).toInt = 2 := by decide +kernel
                          refine dg_iast hx hb K hP hS hA1 sM_23 hin_1758 dX12_goesOn_612 (fun S_1759 e_1759 H locs hP hS => ?_)
                          have I_1759 := dg_I.ufu (lo := 0) (hi := 2) I_1747 e_1759 sM_23 (by decide +kernel) (show 0 ≤ ((2 : Int32)).toInt ∧ ((2 : Int32)).toInt ≤ 2 from (by decide +kernel))
                          have M_1759 := dg_sm.uf M_1747 e_1759 sM_23 (by decide)
                          have hz_1761 : (2 : Int32).toInt = 2 := by decide +kernel
                          have P1_1759 : P1M S_1759 := P1M.close5 P1_1747 ((dg_uF_ne e_1747 (fun z => absurd z.2 (by decide))).trans (dg_uF_at e_1745)) (by omega) (by omega) (by omega) e_1759
                          refine lv_aload_n hx hb dX12_goesOn_613 rfl (lv_at hl 3 rfl) ?_
                          refine dg_callv hS hA1 hA (va_runV (As := []) (rest := []) F (c_m_ahead l g D o S_1759 se (((dg_uf_F e_1759 0 5).trans ((dg_uF_ne e_1747 (fun z => absurd z.2 (by decide))).trans ((dg_uF_ne e_1745 (fun z => absurd z.2 (by decide))).trans ((m_1739.1 0 5 _ sM_0 (by decide)).trans (m_2.1 0 5 _ sM_0 (by decide)))))).trans f_se) (by omega) sl (((dg_uf_F e_1759 0 2).trans ((dg_uF_ne e_1747 (fun z => absurd z.2 (by decide))).trans ((dg_uF_ne e_1745 (fun z => absurd z.2 (by decide))).trans ((m_1739.1 0 2 _ sM_0 (by decide)).trans (m_2.1 0 2 _ sM_0 (by decide)))))).trans f_sl) (by omega) (by omega) I_1759 H.size) (cwV 0 hts (bw_V wB_1161 wB_1162 wB_1163 wB_881 wB_1160) rfl rfl rfl (by decide +kernel) ⟨Nat.le_of_ble_eq_true rfl, Nat.le_of_ble_eq_true rfl⟩) (dg_preV sM_0 rfl K ST hP hS hA1 hA) rfl rfl hl.1 rfl (lv_room (Nat.le_of_ble_eq_true rfl)) dX12_goesOn_614 ⟨Nat.le_of_ble_eq_true rfl, Nat.le_of_ble_eq_true rfl⟩) (fun S_1762 hw_1762 H locs hP hS => ?_)
                          obtain ⟨I_1762, m_1762, w_1762_0, -⟩ := hw_1762
                          have M_1762 := dg_sm.tr M_1759 m_1762 (by decide) (by decide)
                          obtain ⟨y_1763, y_1764, y_1765, f_y_1763, f_y_1764, f_y_1765, w_1762_0⟩ := w_1762_0
                          have w_1762_0 : (se).toInt ≤ (y_1764).toInt ∧ (y_1764).toInt ≤ (y_1765).toInt ∧ (y_1765).toInt ≤ (sl).toInt ∧ ((y_1763).toInt ≠ 0 → (y_1764).toInt + 1 ≤ (y_1765).toInt) := w_1762_0
                          obtain ⟨w_1762_0_0, w_1762_0_1, w_1762_0_2, w_1762_0_3⟩ := w_1762_0
                          have b_y_1763 : 0 ≤ (y_1763).toInt ∧ (y_1763).toInt ≤ 3 := dg_I.intb (lo := 0) (hi := 3) I_1762 sM_0 (by decide +kernel) f_y_1763
                          have b_y_1764 : 0 ≤ (y_1764).toInt ∧ (y_1764).toInt ≤ 1600 := dg_I.intb (lo := 0) (hi := 1600) I_1762 sM_0 (by decide +kernel) f_y_1764
                          have b_y_1765 : 0 ≤ (y_1765).toInt ∧ (y_1765).toInt ≤ 1600 := dg_I.intb (lo := 0) (hi := 1600) I_1762 sM_0 (by decide +kernel) f_y_1765
                          refine lv_iconst (v := 1) hx hb dX12_goesOn_617 (by decide +kernel) ?_
                          have hz_1766 : (1 : Int32).toInt = 1 := by decide +kernel
                          have hz_1767 : (1 : Int32).toInt = 1 := by decide +kernel
                          have hz_1768 : (1 : Int32).toInt = 1 := by decide +kernel
                          refine W.widen (k := 0) (n := 0) (Nat.le_of_ble_eq_true rfl) (Nat.le_of_ble_eq_true rfl) ?_
                          rw [hQ9]
                          exact dg_iret hx hb hr hlocks (by decide +kernel) hP hS ⟨I_1762, M_1762, (by decide +kernel), ⟨y_1763, y_1764, y_1765, y_3, y_1741, x_1744, y_1742, oo, f_y_1763, f_y_1764, f_y_1765, (((m_1762.1 0 8 _ sM_0 (by decide)).trans ((dg_uf_F e_1759 0 8).trans ((dg_uF_ne e_1747 (fun z => absurd z.2 (by decide))).trans ((dg_uF_ne e_1745 (fun z => absurd z.2 (by decide))).trans (m_1739.1 0 8 _ sM_0 (by decide)))))).trans f_y_3), (((m_1762.1 0 34 _ sM_0 (by decide)).trans ((dg_uf_F e_1759 0 34).trans ((dg_uF_ne e_1747 (fun z => absurd z.2 (by decide))).trans (dg_uF_ne e_1745 (fun z => absurd z.2 (by decide)))))).trans f_y_1741), (((m_1762.1 0 42 _ sM_0 (by decide)).trans ((dg_uf_F e_1759 0 42).trans (dg_uF_ne e_1747 (fun z => absurd z.2 (by decide))))).trans (dg_uF_at e_1745)), (((m_1762.1 0 45 _ sM_0 (by decide)).trans ((dg_uf_F e_1759 0 45).trans ((dg_uF_ne e_1747 (fun z => absurd z.2 (by decide))).trans (dg_uF_ne e_1745 (fun z => absurd z.2 (by decide)))))).trans f_y_1742), (((m_1762.1 0 46 _ sM_0 (by decide)).trans ((dg_uf_F e_1759 0 46).trans ((dg_uF_ne e_1747 (fun z => absurd z.2 (by decide))).trans ((dg_uF_ne e_1745 (fun z => absurd z.2 (by decide))).trans ((m_1739.1 0 46 _ sM_0 (by decide)).trans (m_2.1 0 46 _ sM_0 (by decide))))))).trans f_oo), (by omega)⟩, (fun k9 hk9 hk0 => POM.mk1 (P1M.keep P1_1759 m_1762 (by decide) (by decide) (by decide) (by decide) (by decide) (by decide) (by decide) (by decide) (by decide) (by decide) (by decide) (by decide) (by decide) (by decide) (by decide)) (((m_1762.1 0 46 _ sM_0 (by decide)).trans ((dg_uf_F e_1759 0 46).trans ((dg_uF_ne e_1747 (fun z => absurd z.2 (by decide))).trans ((dg_uF_ne e_1745 (fun z => absurd z.2 (by decide))).trans ((m_1739.1 0 46 _ sM_0 (by decide)).trans (m_2.1 0 46 _ sM_0 (by decide))))))).trans f_oo) (by omega)), (ZWM.keep (ZWM.keep (ZWM.keep (ZWM.keep w_1739_2 (dg_sm.uF (WF := [(0, 42)]) (WA := []) dg_sm.rf e_1745 sM_0 (by decide)) (by decide) (by decide) (by decide) (by decide)) (dg_sm.uF (WF := [(0, 43)]) (WA := []) dg_sm.rf e_1747 sM_0 (by decide)) (by decide) (by decide) (by decide) (by decide)) (dg_sm.uf (WF := []) (WA := [23]) dg_sm.rf e_1759 sM_23 (by decide)) (by decide) (by decide) (by decide) (by decide)) m_1762 (by decide) (by decide) (by decide) (by decide)), trivial⟩ dX12_goesOn_618
                      · have jc_1748 := dk_eqc (k := 4) (by decide +kernel) c_1748
                        refine lv_aload_n hx hb dX12_goesOn_585 rfl (lv_at hl 3 rfl) ?_
                        refine lv_aload_n hx hb dX12_goesOn_586 rfl (lv_at hl 3 rfl) ?_
                        refine dg_get (C := RX12) (T := TX12) (N := 77) hx hb hts (fun w h => bw_mem (wU_X12 w h)) hown K hP sM_0 rfl 40 (by decide) (hts _ (bw_mem wB_1232)) (fun _ h9 => h9) (v := .ref (o + 25)) (show S_1747.1 0 40 = .ref (o + 25) from dg_I.rel (d := 25) I_1747 sM_0 (by decide +kernel)) dX12_goesOn_587 ?_
                        refine lv_iload_n hx hb dX12_goesOn_590 rfl (lv_at hl 2 rfl) ?_
                        have hin_1769 : vp_in x_5 20 := (dk_inv (by omega) (by omega))
                        refine dg_iald hx hb K hP sM_25 hin_1769 dX12_goesOn_591 (fun x_1770 ex_1770 => ?_)
                        have hp25_x_1770 : S_1739.2.1 25 (x_5 : Int32).toNatClampNeg = x_1770 := by rw [ex_1770, (((dg_uF_f e_1747 25).trans (dg_uF_f e_1745 25)))]
                        rw [hp25_x_1770] at hkd
                        refine lv_iconst (v := 0) hx hb dX12_goesOn_592 (by decide +kernel) ?_
                        refine dg_callv hS hA1 hA (va_runV (As := [.int x_1770, .int 0]) (rest := []) F (c_m_add l g D o S_1747 x_1770 (by omega) 0 y_1741 (((dg_uF_ne e_1747 (fun z => absurd z.2 (by decide))).trans (dg_uF_ne e_1745 (fun z => absurd z.2 (by decide)))).trans f_y_1741) (by omega) (ZWM.keep (ZWM.keep w_1739_2 (dg_sm.uF (WF := [(0, 42)]) (WA := []) dg_sm.rf e_1745 sM_0 (by decide)) (by decide) (by decide) (by decide) (by decide)) (dg_sm.uF (WF := [(0, 43)]) (WA := []) dg_sm.rf e_1747 sM_0 (by decide)) (by decide) (by decide) (by decide) (by decide)) (ZKM.keep (ZKM.keep (ZKM.keep (ZKM.keep ZK m_2 (by decide) (by decide)) m_1739 (by decide) (by decide)) (dg_sm.uF (WF := [(0, 42)]) (WA := []) dg_sm.rf e_1745 sM_0 (by decide)) (by decide) (by decide)) (dg_sm.uF (WF := [(0, 43)]) (WA := []) dg_sm.rf e_1747 sM_0 (by decide)) (by decide) (by decide)) I_1747 H.size) (cwV 2 hts (bw_V wB_1209 wB_1210 wB_1211 wB_881 wB_1208) rfl rfl rfl (by decide +kernel) ⟨Nat.le_of_ble_eq_true rfl, Nat.le_of_ble_eq_true rfl⟩) (dg_preV sM_0 rfl K ST hP hS hA1 hA) rfl rfl hl.1 rfl (lv_room (Nat.le_of_ble_eq_true rfl)) dX12_goesOn_593 ⟨Nat.le_of_ble_eq_true rfl, Nat.le_of_ble_eq_true rfl⟩) (fun S_1771 hw_1771 H locs hP hS => ?_)
                        obtain ⟨I_1771, m_1771, w_1771_0, w_1771_1, w_1771_2, -⟩ := hw_1771
                        have M_1771 := dg_sm.tr M_1747 m_1771 (by decide) (by decide)
                        have hz_1772 : (0 : Int32).toInt = 0 := by decide +kernel
                        obtain ⟨y_1773, f_y_1773, w_1771_0⟩ := w_1771_0
                        have w_1771_0 : (y_1773).toInt = (y_1741).toInt + 1 := w_1771_0
                        have b_y_1773 : 0 ≤ (y_1773).toInt ∧ (y_1773).toInt ≤ 1600 := dg_I.intb (lo := 0) (hi := 1600) I_1771 sM_0 (by decide +kernel) f_y_1773
                        have w_1771_1 : ADM S_1747 S_1771 x_1770 := w_1771_1
                        have P1_1771 : P1M S_1771 := P1M.close4 w_1739_3 (((m_1739.1 0 42 _ sM_0 (by decide)).trans (m_2.1 0 42 _ sM_0 (by decide))).trans f_dp) f_x_1743 f_y_1742 w_1739_1 (by omega) (fx := x_5) (by omega) ((congrFun (m_1739.2 22 _ sM_22 (by decide)).1 _).trans ex_7.symm) (by omega) e_1745 (by omega) e_1747 (by omega) hp25_x_1770 m_1771 w_1771_1
                        refine lv_iload_n hx hb dX12_goesOn_596 rfl (lv_at hl 1 rfl) ?_
                        refine lv_iconst (v := 5) hx hb dX12_goesOn_597 (by decide +kernel) ?_
                        refine lv_icmp_ne (tgt := 613) hx hb dX12_goesOn_598 (by decide) (fun _ => ?_) (fun c => absurd c (fun z => absurd (dk_eqc (k := 5) (by decide +kernel) z) (by omega)))
                        refine lv_aload_n hx hb dX12_goesOn_613 rfl (lv_at hl 3 rfl) ?_
                        refine dg_callv hS hA1 hA (va_runV (As := []) (rest := []) F (c_m_ahead l g D o S_1771 se (((m_1771.1 0 5 _ sM_0 (by decide)).trans ((dg_uF_ne e_1747 (fun z => absurd z.2 (by decide))).trans ((dg_uF_ne e_1745 (fun z => absurd z.2 (by decide))).trans ((m_1739.1 0 5 _ sM_0 (by decide)).trans (m_2.1 0 5 _ sM_0 (by decide)))))).trans f_se) (by omega) sl (((m_1771.1 0 2 _ sM_0 (by decide)).trans ((dg_uF_ne e_1747 (fun z => absurd z.2 (by decide))).trans ((dg_uF_ne e_1745 (fun z => absurd z.2 (by decide))).trans ((m_1739.1 0 2 _ sM_0 (by decide)).trans (m_2.1 0 2 _ sM_0 (by decide)))))).trans f_sl) (by omega) (by omega) I_1771 H.size) (cwV 0 hts (bw_V wB_1161 wB_1162 wB_1163 wB_881 wB_1160) rfl rfl rfl (by decide +kernel) ⟨Nat.le_of_ble_eq_true rfl, Nat.le_of_ble_eq_true rfl⟩) (dg_preV sM_0 rfl K ST hP hS hA1 hA) rfl rfl hl.1 rfl (lv_room (Nat.le_of_ble_eq_true rfl)) dX12_goesOn_614 ⟨Nat.le_of_ble_eq_true rfl, Nat.le_of_ble_eq_true rfl⟩) (fun S_1774 hw_1774 H locs hP hS => ?_)
                        obtain ⟨I_1774, m_1774, w_1774_0, -⟩ := hw_1774
                        have M_1774 := dg_sm.tr M_1771 m_1774 (by decide) (by decide)
                        obtain ⟨y_1775, y_1776, y_1777, f_y_1775, f_y_1776, f_y_1777, w_1774_0⟩ := w_1774_0
                        have w_1774_0 : (se).toInt ≤ (y_1776).toInt ∧ (y_1776).toInt ≤ (y_1777).toInt ∧ (y_1777).toInt ≤ (sl).toInt ∧ ((y_1775).toInt ≠ 0 → (y_1776).toInt + 1 ≤ (y_1777).toInt) := w_1774_0
                        obtain ⟨w_1774_0_0, w_1774_0_1, w_1774_0_2, w_1774_0_3⟩ := w_1774_0
                        have b_y_1775 : 0 ≤ (y_1775).toInt ∧ (y_1775).toInt ≤ 3 := dg_I.intb (lo := 0) (hi := 3) I_1774 sM_0 (by decide +kernel) f_y_1775
                        have b_y_1776 : 0 ≤ (y_1776).toInt ∧ (y_1776).toInt ≤ 1600 := dg_I.intb (lo := 0) (hi := 1600) I_1774 sM_0 (by decide +kernel) f_y_1776
                        have b_y_1777 : 0 ≤ (y_1777).toInt ∧ (y_1777).toInt ≤ 1600 := dg_I.intb (lo := 0) (hi := 1600) I_1774 sM_0 (by decide +kernel) f_y_1777
                        refine lv_iconst (v := 1) hx hb dX12_goesOn_617 (by decide +kernel) ?_
                        have hz_1778 : (1 : Int32).toInt = 1 := by decide +kernel
                        have hz_1779 : (1 : Int32).toInt = 1 := by decide +kernel
                        have hz_1780 : (1 : Int32).toInt = 1 := by decide +kernel
                        refine W.widen (k := 0) (n := 0) (Nat.le_of_ble_eq_true rfl) (Nat.le_of_ble_eq_true rfl) ?_
                        rw [hQ9]
                        exact dg_iret hx hb hr hlocks (by decide +kernel) hP hS ⟨I_1774, M_1774, (by decide +kernel), ⟨y_1775, y_1776, y_1777, y_3, y_1773, x_1744, y_1742, oo, f_y_1775, f_y_1776, f_y_1777, (((m_1774.1 0 8 _ sM_0 (by decide)).trans ((m_1771.1 0 8 _ sM_0 (by decide)).trans ((dg_uF_ne e_1747 (fun z => absurd z.2 (by decide))).trans ((dg_uF_ne e_1745 (fun z => absurd z.2 (by decide))).trans (m_1739.1 0 8 _ sM_0 (by decide)))))).trans f_y_3), ((m_1774.1 0 34 _ sM_0 (by decide)).trans f_y_1773), (((m_1774.1 0 42 _ sM_0 (by decide)).trans ((m_1771.1 0 42 _ sM_0 (by decide)).trans (dg_uF_ne e_1747 (fun z => absurd z.2 (by decide))))).trans (dg_uF_at e_1745)), (((m_1774.1 0 45 _ sM_0 (by decide)).trans ((m_1771.1 0 45 _ sM_0 (by decide)).trans ((dg_uF_ne e_1747 (fun z => absurd z.2 (by decide))).trans (dg_uF_ne e_1745 (fun z => absurd z.2 (by decide)))))).trans f_y_1742), (((m_1774.1 0 46 _ sM_0 (by decide)).trans ((m_1771.1 0 46 _ sM_0 (by decide)).trans ((dg_uF_ne e_1747 (fun z => absurd z.2 (by decide))).trans ((dg_uF_ne e_1745 (fun z => absurd z.2 (by decide))).trans ((m_1739.1 0 46 _ sM_0 (by decide)).trans (m_2.1 0 46 _ sM_0 (by decide))))))).trans f_oo), (by omega)⟩, (fun k9 hk9 hk0 => POM.mk1 (P1M.keep P1_1771 m_1774 (by decide) (by decide) (by decide) (by decide) (by decide) (by decide) (by decide) (by decide) (by decide) (by decide) (by decide) (by decide) (by decide) (by decide) (by decide)) (((m_1774.1 0 46 _ sM_0 (by decide)).trans ((m_1771.1 0 46 _ sM_0 (by decide)).trans ((dg_uF_ne e_1747 (fun z => absurd z.2 (by decide))).trans ((dg_uF_ne e_1745 (fun z => absurd z.2 (by decide))).trans ((m_1739.1 0 46 _ sM_0 (by decide)).trans (m_2.1 0 46 _ sM_0 (by decide))))))).trans f_oo) (by omega)), (ZWM.keep w_1771_2 m_1774 (by decide) (by decide) (by decide) (by decide)), trivial⟩ dX12_goesOn_618
                    · have jc_1737 := dk_eqc (k := 0) (by decide +kernel) c_1737
                      clear w_1736_1
                      refine lv_aload_n hx hb dX12_goesOn_537 rfl (lv_at hl 3 rfl) ?_
                      refine lv_iconst (v := 1) hx hb dX12_goesOn_538 (by decide +kernel) ?_
                      refine lv_aload_n hx hb dX12_goesOn_539 rfl (lv_at hl 3 rfl) ?_
                      refine dg_get (C := RX12) (T := TX12) (N := 77) hx hb hts (fun w h => bw_mem (wU_X12 w h)) hown K hP sM_0 rfl 4 (by decide) (hts _ (bw_mem wB_1145)) (fun _ h9 => h9) (v := .int sa) ((m_2.1 0 4 _ sM_0 (by decide)).trans f_sa) dX12_goesOn_540 ?_
                      have hz_1781 : (1 : Int32).toInt = 1 := by decide +kernel
                      refine dg_callv hS hA1 hA (va_runV (As := [.int 1, .int sa]) (rest := []) F (c_m_blame l g D o S_2 1 (by decide +kernel) sa y_3 f_y_3 (by omega) I_2 H.size) (cwV 2 hts (bw_V wB_1137 wB_1138 wB_1139 wB_881 wB_1136) rfl rfl rfl (by decide +kernel) ⟨Nat.le_of_ble_eq_true rfl, Nat.le_of_ble_eq_true rfl⟩) (dg_preV sM_0 rfl K ST hP hS hA1 hA) rfl rfl hl.1 rfl (lv_room (Nat.le_of_ble_eq_true rfl)) dX12_goesOn_543 ⟨Nat.le_of_ble_eq_true rfl, Nat.le_of_ble_eq_true rfl⟩) (fun S_1782 hw_1782 H locs hP hS => ?_)
                      obtain ⟨I_1782, m_1782, w_1782_0, -⟩ := hw_1782
                      have M_1782 := dg_sm.tr M_2 m_1782 (by decide) (by decide)
                      have hz_1783 : (1 : Int32).toInt = 1 := by decide +kernel
                      obtain ⟨y_1784, f_y_1784, w_1782_0⟩ := w_1782_0
                      have w_1782_0 : ((y_3).toInt ≠ 0 → (y_1784).toInt = (y_3).toInt) ∧ ((y_3).toInt = 0 → (y_1784).toInt = ((1 : Int32)).toInt) := w_1782_0
                      obtain ⟨w_1782_0_0, w_1782_0_1⟩ := w_1782_0
                      clear w_1782_0_0
                      have w_1782_0_1r := w_1782_0_1 (by omega)
                      clear w_1782_0_1
                      have b_y_1784 : 0 ≤ (y_1784).toInt ∧ (y_1784).toInt ≤ 6 := dg_I.intb (lo := 0) (hi := 6) I_1782 sM_0 (by decide +kernel) f_y_1784
                      have hbl_y_1784 : 1 ≤ (y_1784).toInt := by omega
                      refine lv_aload_n hx hb dX12_goesOn_546 rfl (lv_at hl 3 rfl) ?_
                      refine dg_get (C := RX12) (T := TX12) (N := 77) hx hb hts (fun w h => bw_mem (wU_X12 w h)) hown K hP sM_0 rfl 8 (by decide) (hts _ (bw_mem wB_1133)) (fun _ h9 => h9) (v := .int y_1784) f_y_1784 dX12_goesOn_547 ?_
                      refine lv_if_le (tgt := 555) hx hb dX12_goesOn_550 (by decide) (fun c => absurd c (fun z => absurd (dk_lec (k := 0) (by decide +kernel) z) (by omega))) (fun _ => ?_)
                      refine lv_iconst (v := 0) hx hb dX12_goesOn_553 (by decide +kernel) ?_
                      have hz_1785 : (0 : Int32).toInt = 0 := by decide +kernel
                      have hz_1786 : (0 : Int32).toInt = 0 := by decide +kernel
                      have hz_1787 : (0 : Int32).toInt = 0 := by decide +kernel
                      refine W.widen (k := 0) (n := 0) (Nat.le_of_ble_eq_true rfl) (Nat.le_of_ble_eq_true rfl) ?_
                      rw [hQ9]
                      exact dg_iret hx hb hr hlocks (by decide +kernel) hP hS ⟨I_1782, M_1782, (by decide +kernel), ⟨sg, sa, se, y_1784, cd, dp, om, oo, (((m_1782.1 0 3 _ sM_0 (by decide)).trans (m_2.1 0 3 _ sM_0 (by decide))).trans f_sg), (((m_1782.1 0 4 _ sM_0 (by decide)).trans (m_2.1 0 4 _ sM_0 (by decide))).trans f_sa), (((m_1782.1 0 5 _ sM_0 (by decide)).trans (m_2.1 0 5 _ sM_0 (by decide))).trans f_se), f_y_1784, (((m_1782.1 0 34 _ sM_0 (by decide)).trans (m_2.1 0 34 _ sM_0 (by decide))).trans f_cd), (((m_1782.1 0 42 _ sM_0 (by decide)).trans (m_2.1 0 42 _ sM_0 (by decide))).trans f_dp), (((m_1782.1 0 45 _ sM_0 (by decide)).trans (m_2.1 0 45 _ sM_0 (by decide))).trans f_om), (((m_1782.1 0 46 _ sM_0 (by decide)).trans (m_2.1 0 46 _ sM_0 (by decide))).trans f_oo), (by omega)⟩, (fun k9 hk9 hk0 => by have q9 := (f_y_1784).symm.trans hk9; cases q9; omega), (ZWM.keep (ZWM.keep ZW m_2 (by decide) (by decide) (by decide) (by decide)) m_1782 (by decide) (by decide) (by decide) (by decide)), trivial⟩ dX12_goesOn_554
                  refine lv_icmp_ne (tgt := 529) hx hb dX12_goesOn_521 (by decide) (fun c_1788 => ?_) (fun c_1788 => ?_)
                  · have jc_1788 := dk_neqc (k := 5) (by decide +kernel) c_1788
                    have jtc_1788 : (x_7).toInt ≤ 4 := by omega
                    clear jc_1788
                    refine lv_bipush (v := 41) hx hb dX12_goesOn_529 (by decide +kernel) ?_
                    have hz_1789 : (41 : Int32).toInt = 41 := by decide +kernel
                    exact J_1734 41 (by decide +kernel) _ _ hP hS _ (lv_sub hl [0, 1, 2, 3] rfl)
                  · have jc_1788 := dk_eqc (k := 5) (by decide +kernel) c_1788
                    refine lv_bipush (v := 93) hx hb dX12_goesOn_524 (by decide +kernel) ?_
                    refine lv_goto (tgt := 531) hx hb dX12_goesOn_526 (by decide) ?_
                    have hz_1790 : (93 : Int32).toInt = 93 := by decide +kernel
                    exact J_1734 93 (by decide +kernel) _ _ hP hS _ (lv_sub hl [0, 1, 2, 3] rfl)
                · have jc_1678 := dk_eqc (k := 6) (by decide +kernel) c_1678
                  exact J_1620 ()  (by omega) _ _ hP hS _ (lv_sub hl [0, 1, 2, 3] rfl)
            · have jc_1506 := dk_ngec (k := 2) (by decide +kernel) c_1506
              refine lv_aload_n hx hb dX12_goesOn_427 rfl (lv_at hl 3 rfl) ?_
              refine dg_get (C := RX12) (T := TX12) (N := 77) hx hb hts (fun w h => bw_mem (wU_X12 w h)) hown K hP sM_0 rfl 8 (by decide) (hts _ (bw_mem wB_1133)) (fun _ h9 => h9) (v := .int y_3) f_y_3 dX12_goesOn_428 ?_
              refine lv_if_ne (tgt := 439) hx hb dX12_goesOn_431 (by decide) (fun c => absurd (dk_eqp (k := 0) (by decide +kernel) (by omega)) c) (fun _ => ?_)
              refine lv_aload_n hx hb dX12_goesOn_434 rfl (lv_at hl 3 rfl) ?_
              refine lv_iconst (v := 1) hx hb dX12_goesOn_435 (by decide +kernel) ?_
              have hz_1791 : (1 : Int32).toInt = 1 := by decide +kernel
              refine dg_callv hS hA1 hA (va_runV (As := [.int 1]) (rest := []) F (c_m_joins l g D o S_2 1 (by decide +kernel) cd ((m_2.1 0 34 _ sM_0 (by decide)).trans f_cd) (by omega) om ((m_2.1 0 45 _ sM_0 (by decide)).trans f_om) (by omega) (by omega) (ZWM.keep ZW m_2 (by decide) (by decide) (by decide) (by decide)) (ZKM.keep ZK m_2 (by decide) (by decide)) (P1M.keep P1 m_2 (by decide) (by decide) (by decide) (by decide) (by decide) (by decide) (by decide) (by decide) (by decide) (by decide) (by decide) (by decide) (by decide) (by decide) (by decide)) I_2 H.size) (cwV 1 hts (bw_V wB_1234 wB_1235 wB_1236 wB_881 wB_1233) rfl rfl rfl (by decide +kernel) ⟨Nat.le_of_ble_eq_true rfl, Nat.le_of_ble_eq_true rfl⟩) (dg_preV sM_0 rfl K ST hP hS hA1 hA) rfl rfl hl.1 rfl (lv_room (Nat.le_of_ble_eq_true rfl)) dX12_goesOn_436 ⟨Nat.le_of_ble_eq_true rfl, Nat.le_of_ble_eq_true rfl⟩) (fun S_1792 hw_1792 H locs hP hS => ?_)
              obtain ⟨I_1792, m_1792, w_1792_0, w_1792_1, w_1792_2, w_1792_3, -⟩ := hw_1792
              have M_1792 := dg_sm.tr M_2 m_1792 (by decide) (by decide)
              have hz_1793 : (1 : Int32).toInt = 1 := by decide +kernel
              obtain ⟨y_1794, y_1795, f_y_1794, f_y_1795, w_1792_0⟩ := w_1792_0
              have w_1792_0 : (y_1794).toInt + (y_1795).toInt = (cd).toInt + (om).toInt := w_1792_0
              have b_y_1794 : 0 ≤ (y_1794).toInt ∧ (y_1794).toInt ≤ 1600 := dg_I.intb (lo := 0) (hi := 1600) I_1792 sM_0 (by decide +kernel) f_y_1794
              have b_y_1795 : 0 ≤ (y_1795).toInt ∧ (y_1795).toInt ≤ 500 := dg_I.intb (lo := 0) (hi := 500) I_1792 sM_0 (by decide +kernel) f_y_1795
              have w_1792_1 : TOPM S_1792 (1 : Int32) := w_1792_1
              obtain ⟨x_1796, f_x_1796, b_x_1796⟩ := dg_I.int (i := 0) (k := 43) (lo := (-2147483648)) (hi := 2147483647) I_1792 sM_0 (by decide +kernel)
              refine lv_iconst (v := 0) hx hb dX12_goesOn_439 (by decide +kernel) ?_
              have hz_1797 : (0 : Int32).toInt = 0 := by decide +kernel
              have hz_1798 : (0 : Int32).toInt = 0 := by decide +kernel
              have hz_1799 : (0 : Int32).toInt = 0 := by decide +kernel
              refine W.widen (k := 0) (n := 0) (Nat.le_of_ble_eq_true rfl) (Nat.le_of_ble_eq_true rfl) ?_
              rw [hQ9]
              exact dg_iret hx hb hr hlocks (by decide +kernel) hP hS ⟨I_1792, M_1792, (by decide +kernel), ⟨sg, sa, se, y_3, y_1794, dp, y_1795, oo, (((m_1792.1 0 3 _ sM_0 (by decide)).trans (m_2.1 0 3 _ sM_0 (by decide))).trans f_sg), (((m_1792.1 0 4 _ sM_0 (by decide)).trans (m_2.1 0 4 _ sM_0 (by decide))).trans f_sa), (((m_1792.1 0 5 _ sM_0 (by decide)).trans (m_2.1 0 5 _ sM_0 (by decide))).trans f_se), ((m_1792.1 0 8 _ sM_0 (by decide)).trans f_y_3), f_y_1794, (((m_1792.1 0 42 _ sM_0 (by decide)).trans (m_2.1 0 42 _ sM_0 (by decide))).trans f_dp), f_y_1795, (((m_1792.1 0 46 _ sM_0 (by decide)).trans (m_2.1 0 46 _ sM_0 (by decide))).trans f_oo), (by omega)⟩, (fun k9 hk9 hk0 => POM.mk1 w_1792_3 (((m_1792.1 0 46 _ sM_0 (by decide)).trans (m_2.1 0 46 _ sM_0 (by decide))).trans f_oo) (by omega)), w_1792_2, trivial⟩ dX12_goesOn_440
          · have jc_1505 := dk_neqc (k := 0) (by decide +kernel) c_1505
            have jbc_1505 : 1 ≤ (x_8).toInt := by omega
            clear jc_1505
            have w_9_1_r := w_9_1.mp (by omega)
            clear w_9_1
            refine lv_aload_n hx hb dX12_goesOn_404 rfl (lv_at hl 3 rfl) ?_
            refine dg_get (C := RX12) (T := TX12) (N := 77) hx hb hts (fun w h => bw_mem (wU_X12 w h)) hown K hP sM_0 rfl 38 (by decide) (hts _ (bw_mem wB_1214)) (fun _ h9 => h9) (v := .ref (o + 23)) (show S_2.1 0 38 = .ref (o + 23) from dg_I.rel (d := 23) I_2 sM_0 (by decide +kernel)) dX12_goesOn_405 ?_
            refine lv_iload_n hx hb dX12_goesOn_408 rfl (lv_at hl 2 rfl) ?_
            have hin_1800 : vp_in x_5 20 := (dk_inv (by omega) (by omega))
            refine dg_iald hx hb K hP sM_23 hin_1800 dX12_goesOn_409 (fun y_1801 ey_1801 => ?_)
            obtain rfl : x_11 = y_1801 := (ey_1801.trans ex_11.symm).symm
            refine lv_if_ne (tgt := 422) hx hb dX12_goesOn_410 (by decide) (fun c_1802 => ?_) (fun c_1802 => ?_)
            · have jc_1802 := dk_neqc (k := 0) (by decide +kernel) c_1802
              have jbc_1802 : 1 ≤ (x_11).toInt := by omega
              clear jc_1802
              refine lv_iload_n hx hb dX12_goesOn_422 rfl (lv_at hl 1 rfl) ?_
              refine lv_iconst (v := 2) hx hb dX12_goesOn_423 (by decide +kernel) ?_
              refine lv_icmp_ge (tgt := 441) hx hb dX12_goesOn_424 (by decide) (fun c_1803 => ?_) (fun c_1803 => ?_)
              · have jc_1803 := dk_gec (k := 2) (by decide +kernel) c_1803
                refine lv_iload_n hx hb dX12_goesOn_441 rfl (lv_at hl 1 rfl) ?_
                refine lv_iconst (v := 3) hx hb dX12_goesOn_442 (by decide +kernel) ?_
                have J_1917 : ∀ (u9 : Unit), ((x_7 : Int32).toInt = 3 ∨ (x_7 : Int32).toInt = 6) → ∀ (H : Heap) (locs : List Loc), va_P D vwCl (dg_w g shM o rfM S_2) H → va_S A s.heap H locs → ∀ ls : Array Slot, lv_has ls 5 [(3, .int x_8), (2, .int x_7), (1, .int x_5), (0, .ref (o + 0))] → W p l e ({ frames := 3, cells := 0, slots := 0, locals := 77 } : Room) s m args below meth c H locs 0 0 Q9 (F0 m 452 ls []) := by
                  intro u9 rel_0 H locs hP hS ls hl
                  refine lv_aload_n hx hb dX12_goesOn_452 rfl (lv_at hl 3 rfl) ?_
                  refine lv_bipush (v := 44) hx hb dX12_goesOn_453 (by decide +kernel) ?_
                  refine dg_calli hS hA1 hA (va_runV (As := [.int 44]) (rest := []) F (c_m_isSign l g D o S_2 44 sg ((m_2.1 0 3 _ sM_0 (by decide)).trans f_sg) (by omega) va ((m_2.1 0 6 _ sM_0 (by decide)).trans f_va) (by omega) I_2 H.size) (cwV 1 hts (bw_V wB_1157 wB_1158 wB_1159 wB_881 wB_1156) rfl rfl rfl (by decide +kernel) ⟨Nat.le_of_ble_eq_true rfl, Nat.le_of_ble_eq_true rfl⟩) (dg_preV sM_0 rfl K ST hP hS hA1 hA) rfl rfl hl.1 rfl (lv_room (Nat.le_of_ble_eq_true rfl)) dX12_goesOn_455 ⟨Nat.le_of_ble_eq_true rfl, Nat.le_of_ble_eq_true rfl⟩) (fun x_1918 S_1919 hw_1919 H locs hP hS => ?_)
                  rw [hw_1919.1] at hP
                  obtain ⟨hq_1919, w_1919_0, w_1919_1, -⟩ := hw_1919
                  have hz_1920 : (44 : Int32).toInt = 44 := by decide +kernel
                  have w_1919_0 : 0 ≤ (x_1918).toInt ∧ (x_1918).toInt ≤ 1 := w_1919_0
                  have w_1919_1 : (x_1918).toInt = 1 ↔ ((sg).toInt = 3 ∧ (va).toInt = ((44 : Int32)).toInt) := w_1919_1
                  refine lv_if_ne (tgt := 470) hx hb dX12_goesOn_458 (by decide) (fun c_1921 => ?_) (fun c_1921 => ?_)
                  · have jc_1921 := dk_neqc (k := 0) (by decide +kernel) c_1921
                    have jbc_1921 : 1 ≤ (x_1918).toInt := by omega
                    clear jc_1921
                    have w_1919_1_r := w_1919_1.mp (by omega)
                    obtain ⟨w_1919_1_r1, w_1919_1_r2⟩ := w_1919_1_r
                    clear w_1919_1
                    have hlx_2r := hlx_2 (by omega)
                    clear hlx_2
                    refine lv_aload_n hx hb dX12_goesOn_470 rfl (lv_at hl 3 rfl) ?_
                    refine dg_get (C := RX12) (T := TX12) (N := 77) hx hb hts (fun w h => bw_mem (wU_X12 w h)) hown K hP sM_0 rfl 8 (by decide) (hts _ (bw_mem wB_1133)) (fun _ h9 => h9) (v := .int y_3) f_y_3 dX12_goesOn_471 ?_
                    refine lv_if_le (tgt := 479) hx hb dX12_goesOn_474 (by decide) (fun _ => ?_) (fun c => absurd (dk_lep (k := 0) (by decide +kernel) (by omega)) c)
                    refine lv_aload_n hx hb dX12_goesOn_479 rfl (lv_at hl 3 rfl) ?_
                    refine lv_iconst (v := 1) hx hb dX12_goesOn_480 (by decide +kernel) ?_
                    have hz_1922 : (1 : Int32).toInt = 1 := by decide +kernel
                    refine dg_callv hS hA1 hA (va_runV (As := [.int 1]) (rest := []) F (c_m_joins l g D o S_2 1 (by decide +kernel) cd ((m_2.1 0 34 _ sM_0 (by decide)).trans f_cd) (by omega) om ((m_2.1 0 45 _ sM_0 (by decide)).trans f_om) (by omega) (by omega) (ZWM.keep ZW m_2 (by decide) (by decide) (by decide) (by decide)) (ZKM.keep ZK m_2 (by decide) (by decide)) (P1M.keep P1 m_2 (by decide) (by decide) (by decide) (by decide) (by decide) (by decide) (by decide) (by decide) (by decide) (by decide) (by decide) (by decide) (by decide) (by decide) (by decide)) I_2 H.size) (cwV 1 hts (bw_V wB_1234 wB_1235 wB_1236 wB_881 wB_1233) rfl rfl rfl (by decide +kernel) ⟨Nat.le_of_ble_eq_true rfl, Nat.le_of_ble_eq_true rfl⟩) (dg_preV sM_0 rfl K ST hP hS hA1 hA) rfl rfl hl.1 rfl (lv_room (Nat.le_of_ble_eq_true rfl)) dX12_goesOn_481 ⟨Nat.le_of_ble_eq_true rfl, Nat.le_of_ble_eq_true rfl⟩) (fun S_1923 hw_1923 H locs hP hS => ?_)
                    obtain ⟨I_1923, m_1923, w_1923_0, w_1923_1, w_1923_2, w_1923_3, -⟩ := hw_1923
                    have M_1923 := dg_sm.tr M_2 m_1923 (by decide) (by decide)
                    have hz_1924 : (1 : Int32).toInt = 1 := by decide +kernel
                    obtain ⟨y_1925, y_1926, f_y_1925, f_y_1926, w_1923_0⟩ := w_1923_0
                    have w_1923_0 : (y_1925).toInt + (y_1926).toInt = (cd).toInt + (om).toInt := w_1923_0
                    have b_y_1925 : 0 ≤ (y_1925).toInt ∧ (y_1925).toInt ≤ 1600 := dg_I.intb (lo := 0) (hi := 1600) I_1923 sM_0 (by decide +kernel) f_y_1925
                    have b_y_1926 : 0 ≤ (y_1926).toInt ∧ (y_1926).toInt ≤ 500 := dg_I.intb (lo := 0) (hi := 500) I_1923 sM_0 (by decide +kernel) f_y_1926
                    have w_1923_1 : TOPM S_1923 (1 : Int32) := w_1923_1
                    obtain ⟨x_1927, f_x_1927, b_x_1927⟩ := dg_I.int (i := 0) (k := 43) (lo := (-2147483648)) (hi := 2147483647) I_1923 sM_0 (by decide +kernel)
                    refine lv_aload_n hx hb dX12_goesOn_484 rfl (lv_at hl 3 rfl) ?_
                    refine dg_get (C := RX12) (T := TX12) (N := 77) hx hb hts (fun w h => bw_mem (wU_X12 w h)) hown K hP sM_0 rfl 37 (by decide) (hts _ (bw_mem wB_1213)) (fun _ h9 => h9) (v := .ref (o + 22)) (show S_1923.1 0 37 = .ref (o + 22) from dg_I.rel (d := 22) I_1923 sM_0 (by decide +kernel)) dX12_goesOn_485 ?_
                    refine lv_iload_n hx hb dX12_goesOn_488 rfl (lv_at hl 2 rfl) ?_
                    refine lv_iload_n hx hb dX12_goesOn_489 rfl (lv_at hl 1 rfl) ?_
                    refine lv_iconst (v := 3) hx hb dX12_goesOn_490 (by decide +kernel) ?_
                    refine lv_icmp_ne (tgt := 498) hx hb dX12_goesOn_491 (by decide) (fun c_1928 => ?_) (fun c_1928 => ?_)
                    · have jc_1928 := dk_neqc (k := 3) (by decide +kernel) c_1928
                      clear jc_1928
                      refine lv_iconst (v := 3) hx hb dX12_goesOn_498 (by decide +kernel) ?_
                      have hin_1929 : vp_in x_5 20 := (dk_inv (by omega) (by omega))
                      have hz_1931 : (3 : Int32).toInt = 3 := by decide +kernel
                      refine dg_iast hx hb K hP hS hA1 sM_22 hin_1929 dX12_goesOn_499 (fun S_1930 e_1930 H locs hP hS => ?_)
                      have I_1930 := dg_I.ufu (lo := 0) (hi := 6) I_1923 e_1930 sM_22 (by decide +kernel) (show 0 ≤ ((3 : Int32)).toInt ∧ ((3 : Int32)).toInt ≤ 6 from (by decide +kernel))
                      have M_1930 := dg_sm.uf M_1923 e_1930 sM_22 (by decide)
                      have hz_1932 : (3 : Int32).toInt = 3 := by decide +kernel
                      refine lv_aload_n hx hb dX12_goesOn_500 rfl (lv_at hl 3 rfl) ?_
                      refine dg_get (C := RX12) (T := TX12) (N := 77) hx hb hts (fun w h => bw_mem (wU_X12 w h)) hown K hP sM_0 rfl 38 (by decide) (hts _ (bw_mem wB_1214)) (fun _ h9 => h9) (v := .ref (o + 23)) (show S_1930.1 0 38 = .ref (o + 23) from dg_I.rel (d := 23) I_1930 sM_0 (by decide +kernel)) dX12_goesOn_501 ?_
                      refine lv_iload_n hx hb dX12_goesOn_504 rfl (lv_at hl 2 rfl) ?_
                      refine lv_iconst (v := 0) hx hb dX12_goesOn_505 (by decide +kernel) ?_
                      have hin_1933 : vp_in x_5 20 := (dk_inv (by omega) (by omega))
                      have hz_1935 : (0 : Int32).toInt = 0 := by decide +kernel
                      refine dg_iast hx hb K hP hS hA1 sM_23 hin_1933 dX12_goesOn_506 (fun S_1934 e_1934 H locs hP hS => ?_)
                      have I_1934 := dg_I.ufu (lo := 0) (hi := 2) I_1930 e_1934 sM_23 (by decide +kernel) (show 0 ≤ ((0 : Int32)).toInt ∧ ((0 : Int32)).toInt ≤ 2 from (by decide +kernel))
                      have M_1934 := dg_sm.uf M_1930 e_1934 sM_23 (by decide)
                      have hz_1936 : (0 : Int32).toInt = 0 := by decide +kernel
                      have P0_1934 : P0M S_1934 := P1M.comma w_1923_3 (((m_1923.1 0 42 _ sM_0 (by decide)).trans (m_2.1 0 42 _ sM_0 (by decide))).trans f_dp) f_x_1927 f_y_1926 w_1923_1 (by omega) (fx := x_5) (by omega) ((congrFun (m_1923.2 22 _ sM_22 (by decide)).1 _).trans ex_7.symm) (by omega) e_1930 e_1934
                      refine lv_aload_n hx hb dX12_goesOn_507 rfl (lv_at hl 3 rfl) ?_
                      refine dg_callv hS hA1 hA (va_runV (As := []) (rest := []) F (c_m_ahead l g D o S_1934 se (((dg_uf_F e_1934 0 5).trans ((dg_uf_F e_1930 0 5).trans ((m_1923.1 0 5 _ sM_0 (by decide)).trans (m_2.1 0 5 _ sM_0 (by decide))))).trans f_se) (by omega) sl (((dg_uf_F e_1934 0 2).trans ((dg_uf_F e_1930 0 2).trans ((m_1923.1 0 2 _ sM_0 (by decide)).trans (m_2.1 0 2 _ sM_0 (by decide))))).trans f_sl) (by omega) (by omega) I_1934 H.size) (cwV 0 hts (bw_V wB_1161 wB_1162 wB_1163 wB_881 wB_1160) rfl rfl rfl (by decide +kernel) ⟨Nat.le_of_ble_eq_true rfl, Nat.le_of_ble_eq_true rfl⟩) (dg_preV sM_0 rfl K ST hP hS hA1 hA) rfl rfl hl.1 rfl (lv_room (Nat.le_of_ble_eq_true rfl)) dX12_goesOn_508 ⟨Nat.le_of_ble_eq_true rfl, Nat.le_of_ble_eq_true rfl⟩) (fun S_1937 hw_1937 H locs hP hS => ?_)
                      obtain ⟨I_1937, m_1937, w_1937_0, -⟩ := hw_1937
                      have M_1937 := dg_sm.tr M_1934 m_1937 (by decide) (by decide)
                      obtain ⟨y_1938, y_1939, y_1940, f_y_1938, f_y_1939, f_y_1940, w_1937_0⟩ := w_1937_0
                      have w_1937_0 : (se).toInt ≤ (y_1939).toInt ∧ (y_1939).toInt ≤ (y_1940).toInt ∧ (y_1940).toInt ≤ (sl).toInt ∧ ((y_1938).toInt ≠ 0 → (y_1939).toInt + 1 ≤ (y_1940).toInt) := w_1937_0
                      obtain ⟨w_1937_0_0, w_1937_0_1, w_1937_0_2, w_1937_0_3⟩ := w_1937_0
                      have b_y_1938 : 0 ≤ (y_1938).toInt ∧ (y_1938).toInt ≤ 3 := dg_I.intb (lo := 0) (hi := 3) I_1937 sM_0 (by decide +kernel) f_y_1938
                      have b_y_1939 : 0 ≤ (y_1939).toInt ∧ (y_1939).toInt ≤ 1600 := dg_I.intb (lo := 0) (hi := 1600) I_1937 sM_0 (by decide +kernel) f_y_1939
                      have b_y_1940 : 0 ≤ (y_1940).toInt ∧ (y_1940).toInt ≤ 1600 := dg_I.intb (lo := 0) (hi := 1600) I_1937 sM_0 (by decide +kernel) f_y_1940
                      refine lv_aload_n hx hb dX12_goesOn_511 rfl (lv_at hl 3 rfl) ?_
                      refine lv_iconst (v := 0) hx hb dX12_goesOn_512 (by decide +kernel) ?_
                      have hz_1941 : (0 : Int32).toInt = 0 := by decide +kernel
                      refine dg_put (ci := 12) (v := .int 0) (ty := tyX12 46) (C := RX12) (T := TX12) (N := 77) hx hb hts (fun w h => bw_mem (wU_X12 w h)) tyX12 tyX12_ok nmX12 hown K hP hS hA1 sM_0 rfl 46 (by decide) (hts _ (bw_mem wB_1237)) (fun _ h9 => h9) rfl (by decide +kernel) (by decide +kernel) (by decide +kernel) dX12_goesOn_513 (fun S_1942 e_1942 H locs hP hS => ?_)
                      have I_1942 := dg_I.uFi (lo := 0) (hi := 1) I_1937 e_1942 sM_0 (by decide +kernel) (show 0 ≤ ((0 : Int32)).toInt ∧ ((0 : Int32)).toInt ≤ 1 from (by decide +kernel))
                      have M_1942 := dg_sm.uF M_1937 e_1942 sM_0 (by decide)
                      refine lv_iconst (v := 1) hx hb dX12_goesOn_516 (by decide +kernel) ?_
                      have hz_1943 : (1 : Int32).toInt = 1 := by decide +kernel
                      have hz_1944 : (1 : Int32).toInt = 1 := by decide +kernel
                      have hz_1945 : (0 : Int32).toInt = 0 := by decide +kernel
                      have hz_1946 : (1 : Int32).toInt = 1 := by decide +kernel
                      have hz_1947 : (0 : Int32).toInt = 0 := by decide +kernel
                      refine W.widen (k := 0) (n := 0) (Nat.le_of_ble_eq_true rfl) (Nat.le_of_ble_eq_true rfl) ?_
                      rw [hQ9]
                      exact dg_iret hx hb hr hlocks (by decide +kernel) hP hS ⟨I_1942, M_1942, (by decide +kernel), ⟨y_1938, y_1939, y_1940, y_3, y_1925, dp, y_1926, 0, ((dg_uF_ne e_1942 (fun z => absurd z.2 (by decide))).trans f_y_1938), ((dg_uF_ne e_1942 (fun z => absurd z.2 (by decide))).trans f_y_1939), ((dg_uF_ne e_1942 (fun z => absurd z.2 (by decide))).trans f_y_1940), (((dg_uF_ne e_1942 (fun z => absurd z.2 (by decide))).trans ((m_1937.1 0 8 _ sM_0 (by decide)).trans ((dg_uf_F e_1934 0 8).trans ((dg_uf_F e_1930 0 8).trans (m_1923.1 0 8 _ sM_0 (by decide)))))).trans f_y_3), (((dg_uF_ne e_1942 (fun z => absurd z.2 (by decide))).trans ((m_1937.1 0 34 _ sM_0 (by decide)).trans ((dg_uf_F e_1934 0 34).trans (dg_uf_F e_1930 0 34)))).trans f_y_1925), (((dg_uF_ne e_1942 (fun z => absurd z.2 (by decide))).trans ((m_1937.1 0 42 _ sM_0 (by decide)).trans ((dg_uf_F e_1934 0 42).trans ((dg_uf_F e_1930 0 42).trans ((m_1923.1 0 42 _ sM_0 (by decide)).trans (m_2.1 0 42 _ sM_0 (by decide))))))).trans f_dp), (((dg_uF_ne e_1942 (fun z => absurd z.2 (by decide))).trans ((m_1937.1 0 45 _ sM_0 (by decide)).trans ((dg_uf_F e_1934 0 45).trans (dg_uf_F e_1930 0 45)))).trans f_y_1926), (dg_uF_at e_1942), (by omega)⟩, (fun k9 hk9 hk0 => POM.mk0 (P0M.keep (P0M.keep P0_1934 m_1937 (by decide) (by decide) (by decide) (by decide) (by decide) (by decide) (by decide) (by decide) (by decide) (by decide) (by decide) (by decide) (by decide) (by decide) (by decide)) (dg_sm.uF (WF := [(0, 46)]) (WA := []) dg_sm.rf e_1942 sM_0 (by decide)) (by decide) (by decide) (by decide) (by decide) (by decide) (by decide) (by decide) (by decide) (by decide) (by decide) (by decide) (by decide) (by decide) (by decide) (by decide)) (dg_uF_at e_1942) (by omega)), (ZWM.keep (ZWM.keep (ZWM.keep (ZWM.keep w_1923_2 (dg_sm.uf (WF := []) (WA := [22]) dg_sm.rf e_1930 sM_22 (by decide)) (by decide) (by decide) (by decide) (by decide)) (dg_sm.uf (WF := []) (WA := [23]) dg_sm.rf e_1934 sM_23 (by decide)) (by decide) (by decide) (by decide) (by decide)) m_1937 (by decide) (by decide) (by decide) (by decide)) (dg_sm.uF (WF := [(0, 46)]) (WA := []) dg_sm.rf e_1942 sM_0 (by decide)) (by decide) (by decide) (by decide) (by decide)), trivial⟩ dX12_goesOn_517
                    · have jc_1928 := dk_eqc (k := 3) (by decide +kernel) c_1928
                      refine lv_iconst (v := 4) hx hb dX12_goesOn_494 (by decide +kernel) ?_
                      refine lv_goto (tgt := 499) hx hb dX12_goesOn_495 (by decide) ?_
                      have hin_1948 : vp_in x_5 20 := (dk_inv (by omega) (by omega))
                      have hz_1950 : (4 : Int32).toInt = 4 := by decide +kernel
                      refine dg_iast hx hb K hP hS hA1 sM_22 hin_1948 dX12_goesOn_499 (fun S_1949 e_1949 H locs hP hS => ?_)
                      have I_1949 := dg_I.ufu (lo := 0) (hi := 6) I_1923 e_1949 sM_22 (by decide +kernel) (show 0 ≤ ((4 : Int32)).toInt ∧ ((4 : Int32)).toInt ≤ 6 from (by decide +kernel))
                      have M_1949 := dg_sm.uf M_1923 e_1949 sM_22 (by decide)
                      have hz_1951 : (4 : Int32).toInt = 4 := by decide +kernel
                      refine lv_aload_n hx hb dX12_goesOn_500 rfl (lv_at hl 3 rfl) ?_
                      refine dg_get (C := RX12) (T := TX12) (N := 77) hx hb hts (fun w h => bw_mem (wU_X12 w h)) hown K hP sM_0 rfl 38 (by decide) (hts _ (bw_mem wB_1214)) (fun _ h9 => h9) (v := .ref (o + 23)) (show S_1949.1 0 38 = .ref (o + 23) from dg_I.rel (d := 23) I_1949 sM_0 (by decide +kernel)) dX12_goesOn_501 ?_
                      refine lv_iload_n hx hb dX12_goesOn_504 rfl (lv_at hl 2 rfl) ?_
                      refine lv_iconst (v := 0) hx hb dX12_goesOn_505 (by decide +kernel) ?_
                      have hin_1952 : vp_in x_5 20 := (dk_inv (by omega) (by omega))
                      have hz_1954 : (0 : Int32).toInt = 0 := by decide +kernel
                      refine dg_iast hx hb K hP hS hA1 sM_23 hin_1952 dX12_goesOn_506 (fun S_1953 e_1953 H locs hP hS => ?_)
                      have I_1953 := dg_I.ufu (lo := 0) (hi := 2) I_1949 e_1953 sM_23 (by decide +kernel) (show 0 ≤ ((0 : Int32)).toInt ∧ ((0 : Int32)).toInt ≤ 2 from (by decide +kernel))
                      have M_1953 := dg_sm.uf M_1949 e_1953 sM_23 (by decide)
                      have hz_1955 : (0 : Int32).toInt = 0 := by decide +kernel
                      have P0_1953 : P0M S_1953 := P1M.comma w_1923_3 (((m_1923.1 0 42 _ sM_0 (by decide)).trans (m_2.1 0 42 _ sM_0 (by decide))).trans f_dp) f_x_1927 f_y_1926 w_1923_1 (by omega) (fx := x_5) (by omega) ((congrFun (m_1923.2 22 _ sM_22 (by decide)).1 _).trans ex_7.symm) (by omega) e_1949 e_1953
                      refine lv_aload_n hx hb dX12_goesOn_507 rfl (lv_at hl 3 rfl) ?_
                      refine dg_callv hS hA1 hA (va_runV (As := []) (rest := []) F (c_m_ahead l g D o S_1953 se (((dg_uf_F e_1953 0 5).trans ((dg_uf_F e_1949 0 5).trans ((m_1923.1 0 5 _ sM_0 (by decide)).trans (m_2.1 0 5 _ sM_0 (by decide))))).trans f_se) (by omega) sl (((dg_uf_F e_1953 0 2).trans ((dg_uf_F e_1949 0 2).trans ((m_1923.1 0 2 _ sM_0 (by decide)).trans (m_2.1 0 2 _ sM_0 (by decide))))).trans f_sl) (by omega) (by omega) I_1953 H.size) (cwV 0 hts (bw_V wB_1161 wB_1162 wB_1163 wB_881 wB_1160) rfl rfl rfl (by decide +kernel) ⟨Nat.le_of_ble_eq_true rfl, Nat.le_of_ble_eq_true rfl⟩) (dg_preV sM_0 rfl K ST hP hS hA1 hA) rfl rfl hl.1 rfl (lv_room (Nat.le_of_ble_eq_true rfl)) dX12_goesOn_508 ⟨Nat.le_of_ble_eq_true rfl, Nat.le_of_ble_eq_true rfl⟩) (fun S_1956 hw_1956 H locs hP hS => ?_)
                      obtain ⟨I_1956, m_1956, w_1956_0, -⟩ := hw_1956
                      have M_1956 := dg_sm.tr M_1953 m_1956 (by decide) (by decide)
                      obtain ⟨y_1957, y_1958, y_1959, f_y_1957, f_y_1958, f_y_1959, w_1956_0⟩ := w_1956_0
                      have w_1956_0 : (se).toInt ≤ (y_1958).toInt ∧ (y_1958).toInt ≤ (y_1959).toInt ∧ (y_1959).toInt ≤ (sl).toInt ∧ ((y_1957).toInt ≠ 0 → (y_1958).toInt + 1 ≤ (y_1959).toInt) := w_1956_0
                      obtain ⟨w_1956_0_0, w_1956_0_1, w_1956_0_2, w_1956_0_3⟩ := w_1956_0
                      have b_y_1957 : 0 ≤ (y_1957).toInt ∧ (y_1957).toInt ≤ 3 := dg_I.intb (lo := 0) (hi := 3) I_1956 sM_0 (by decide +kernel) f_y_1957
                      have b_y_1958 : 0 ≤ (y_1958).toInt ∧ (y_1958).toInt ≤ 1600 := dg_I.intb (lo := 0) (hi := 1600) I_1956 sM_0 (by decide +kernel) f_y_1958
                      have b_y_1959 : 0 ≤ (y_1959).toInt ∧ (y_1959).toInt ≤ 1600 := dg_I.intb (lo := 0) (hi := 1600) I_1956 sM_0 (by decide +kernel) f_y_1959
                      refine lv_aload_n hx hb dX12_goesOn_511 rfl (lv_at hl 3 rfl) ?_
                      refine lv_iconst (v := 0) hx hb dX12_goesOn_512 (by decide +kernel) ?_
                      have hz_1960 : (0 : Int32).toInt = 0 := by decide +kernel
                      refine dg_put (ci := 12) (v := .int 0) (ty := tyX12 46) (C := RX12) (T := TX12) (N := 77) hx hb hts (fun w h => bw_mem (wU_X12 w h)) tyX12 tyX12_ok nmX12 hown K hP hS hA1 sM_0 rfl 46 (by decide) (hts _ (bw_mem wB_1237)) (fun _ h9 => h9) rfl (by decide +kernel) (by decide +kernel) (by decide +kernel) dX12_goesOn_513 (fun S_1961 e_1961 H locs hP hS => ?_)
                      have I_1961 := dg_I.uFi (lo := 0) (hi := 1) I_1956 e_1961 sM_0 (by decide +kernel) (show 0 ≤ ((0 : Int32)).toInt ∧ ((0 : Int32)).toInt ≤ 1 from (by decide +kernel))
                      have M_1961 := dg_sm.uF M_1956 e_1961 sM_0 (by decide)
                      refine lv_iconst (v := 1) hx hb dX12_goesOn_516 (by decide +kernel) ?_
                      have hz_1962 : (1 : Int32).toInt = 1 := by decide +kernel
                      have hz_1963 : (1 : Int32).toInt = 1 := by decide +kernel
                      have hz_1964 : (0 : Int32).toInt = 0 := by decide +kernel
                      have hz_1965 : (1 : Int32).toInt = 1 := by decide +kernel
                      have hz_1966 : (0 : Int32).toInt = 0 := by decide +kernel
                      refine W.widen (k := 0) (n := 0) (Nat.le_of_ble_eq_true rfl) (Nat.le_of_ble_eq_true rfl) ?_
                      rw [hQ9]
                      exact dg_iret hx hb hr hlocks (by decide +kernel) hP hS ⟨I_1961, M_1961, (by decide +kernel), ⟨y_1957, y_1958, y_1959, y_3, y_1925, dp, y_1926, 0, ((dg_uF_ne e_1961 (fun z => absurd z.2 (by decide))).trans f_y_1957), ((dg_uF_ne e_1961 (fun z => absurd z.2 (by decide))).trans f_y_1958), ((dg_uF_ne e_1961 (fun z => absurd z.2 (by decide))).trans f_y_1959), (((dg_uF_ne e_1961 (fun z => absurd z.2 (by decide))).trans ((m_1956.1 0 8 _ sM_0 (by decide)).trans ((dg_uf_F e_1953 0 8).trans ((dg_uf_F e_1949 0 8).trans (m_1923.1 0 8 _ sM_0 (by decide)))))).trans f_y_3), (((dg_uF_ne e_1961 (fun z => absurd z.2 (by decide))).trans ((m_1956.1 0 34 _ sM_0 (by decide)).trans ((dg_uf_F e_1953 0 34).trans (dg_uf_F e_1949 0 34)))).trans f_y_1925), (((dg_uF_ne e_1961 (fun z => absurd z.2 (by decide))).trans ((m_1956.1 0 42 _ sM_0 (by decide)).trans ((dg_uf_F e_1953 0 42).trans ((dg_uf_F e_1949 0 42).trans ((m_1923.1 0 42 _ sM_0 (by decide)).trans (m_2.1 0 42 _ sM_0 (by decide))))))).trans f_dp), (((dg_uF_ne e_1961 (fun z => absurd z.2 (by decide))).trans ((m_1956.1 0 45 _ sM_0 (by decide)).trans ((dg_uf_F e_1953 0 45).trans (dg_uf_F e_1949 0 45)))).trans f_y_1926), (dg_uF_at e_1961), (by omega)⟩, (fun k9 hk9 hk0 => POM.mk0 (P0M.keep (P0M.keep P0_1953 m_1956 (by decide) (by decide) (by decide) (by decide) (by decide) (by decide) (by decide) (by decide) (by decide) (by decide) (by decide) (by decide) (by decide) (by decide) (by decide)) (dg_sm.uF (WF := [(0, 46)]) (WA := []) dg_sm.rf e_1961 sM_0 (by decide)) (by decide) (by decide) (by decide) (by decide) (by decide) (by decide) (by decide) (by decide) (by decide) (by decide) (by decide) (by decide) (by decide) (by decide) (by decide)) (dg_uF_at e_1961) (by omega)), (ZWM.keep (ZWM.keep (ZWM.keep (ZWM.keep w_1923_2 (dg_sm.uf (WF := []) (WA := [22]) dg_sm.rf e_1949 sM_22 (by decide)) (by decide) (by decide) (by decide) (by decide)) (dg_sm.uf (WF := []) (WA := [23]) dg_sm.rf e_1953 sM_23 (by decide)) (by decide) (by decide) (by decide) (by decide)) m_1956 (by decide) (by decide) (by decide) (by decide)) (dg_sm.uF (WF := [(0, 46)]) (WA := []) dg_sm.rf e_1961 sM_0 (by decide)) (by decide) (by decide) (by decide) (by decide)), trivial⟩ dX12_goesOn_517
                  · have jc_1921 := dk_eqc (k := 0) (by decide +kernel) c_1921
                    clear w_1919_1
                    refine lv_aload_n hx hb dX12_goesOn_461 rfl (lv_at hl 3 rfl) ?_
                    refine lv_iconst (v := 1) hx hb dX12_goesOn_462 (by decide +kernel) ?_
                    refine lv_aload_n hx hb dX12_goesOn_463 rfl (lv_at hl 3 rfl) ?_
                    refine dg_get (C := RX12) (T := TX12) (N := 77) hx hb hts (fun w h => bw_mem (wU_X12 w h)) hown K hP sM_0 rfl 4 (by decide) (hts _ (bw_mem wB_1145)) (fun _ h9 => h9) (v := .int sa) ((m_2.1 0 4 _ sM_0 (by decide)).trans f_sa) dX12_goesOn_464 ?_
                    have hz_1967 : (1 : Int32).toInt = 1 := by decide +kernel
                    refine dg_callv hS hA1 hA (va_runV (As := [.int 1, .int sa]) (rest := []) F (c_m_blame l g D o S_2 1 (by decide +kernel) sa y_3 f_y_3 (by omega) I_2 H.size) (cwV 2 hts (bw_V wB_1137 wB_1138 wB_1139 wB_881 wB_1136) rfl rfl rfl (by decide +kernel) ⟨Nat.le_of_ble_eq_true rfl, Nat.le_of_ble_eq_true rfl⟩) (dg_preV sM_0 rfl K ST hP hS hA1 hA) rfl rfl hl.1 rfl (lv_room (Nat.le_of_ble_eq_true rfl)) dX12_goesOn_467 ⟨Nat.le_of_ble_eq_true rfl, Nat.le_of_ble_eq_true rfl⟩) (fun S_1968 hw_1968 H locs hP hS => ?_)
                    obtain ⟨I_1968, m_1968, w_1968_0, -⟩ := hw_1968
                    have M_1968 := dg_sm.tr M_2 m_1968 (by decide) (by decide)
                    have hz_1969 : (1 : Int32).toInt = 1 := by decide +kernel
                    obtain ⟨y_1970, f_y_1970, w_1968_0⟩ := w_1968_0
                    have w_1968_0 : ((y_3).toInt ≠ 0 → (y_1970).toInt = (y_3).toInt) ∧ ((y_3).toInt = 0 → (y_1970).toInt = ((1 : Int32)).toInt) := w_1968_0
                    obtain ⟨w_1968_0_0, w_1968_0_1⟩ := w_1968_0
                    clear w_1968_0_0
                    have w_1968_0_1r := w_1968_0_1 (by omega)
                    clear w_1968_0_1
                    have b_y_1970 : 0 ≤ (y_1970).toInt ∧ (y_1970).toInt ≤ 6 := dg_I.intb (lo := 0) (hi := 6) I_1968 sM_0 (by decide +kernel) f_y_1970
                    have hbl_y_1970 : 1 ≤ (y_1970).toInt := by omega
                    refine lv_aload_n hx hb dX12_goesOn_470 rfl (lv_at hl 3 rfl) ?_
                    refine dg_get (C := RX12) (T := TX12) (N := 77) hx hb hts (fun w h => bw_mem (wU_X12 w h)) hown K hP sM_0 rfl 8 (by decide) (hts _ (bw_mem wB_1133)) (fun _ h9 => h9) (v := .int y_1970) f_y_1970 dX12_goesOn_471 ?_
                    refine lv_if_le (tgt := 479) hx hb dX12_goesOn_474 (by decide) (fun c => absurd c (fun z => absurd (dk_lec (k := 0) (by decide +kernel) z) (by omega))) (fun _ => ?_)
                    refine lv_iconst (v := 0) hx hb dX12_goesOn_477 (by decide +kernel) ?_
                    have hz_1971 : (0 : Int32).toInt = 0 := by decide +kernel
                    have hz_1972 : (0 : Int32).toInt = 0 := by decide +kernel
                    have hz_1973 : (0 : Int32).toInt = 0 := by decide +kernel
                    refine W.widen (k := 0) (n := 0) (Nat.le_of_ble_eq_true rfl) (Nat.le_of_ble_eq_true rfl) ?_
                    rw [hQ9]
                    exact dg_iret hx hb hr hlocks (by decide +kernel) hP hS ⟨I_1968, M_1968, (by decide +kernel), ⟨sg, sa, se, y_1970, cd, dp, om, oo, (((m_1968.1 0 3 _ sM_0 (by decide)).trans (m_2.1 0 3 _ sM_0 (by decide))).trans f_sg), (((m_1968.1 0 4 _ sM_0 (by decide)).trans (m_2.1 0 4 _ sM_0 (by decide))).trans f_sa), (((m_1968.1 0 5 _ sM_0 (by decide)).trans (m_2.1 0 5 _ sM_0 (by decide))).trans f_se), f_y_1970, (((m_1968.1 0 34 _ sM_0 (by decide)).trans (m_2.1 0 34 _ sM_0 (by decide))).trans f_cd), (((m_1968.1 0 42 _ sM_0 (by decide)).trans (m_2.1 0 42 _ sM_0 (by decide))).trans f_dp), (((m_1968.1 0 45 _ sM_0 (by decide)).trans (m_2.1 0 45 _ sM_0 (by decide))).trans f_om), (((m_1968.1 0 46 _ sM_0 (by decide)).trans (m_2.1 0 46 _ sM_0 (by decide))).trans f_oo), (by omega)⟩, (fun k9 hk9 hk0 => by have q9 := (f_y_1970).symm.trans hk9; cases q9; omega), (ZWM.keep (ZWM.keep ZW m_2 (by decide) (by decide) (by decide) (by decide)) m_1968 (by decide) (by decide) (by decide) (by decide)), trivial⟩ dX12_goesOn_478
                refine lv_icmp_eq (tgt := 452) hx hb dX12_goesOn_443 (by decide) (fun c_1974 => ?_) (fun c_1974 => ?_)
                · have jc_1974 := dk_eqc (k := 3) (by decide +kernel) c_1974
                  exact J_1917 ()  (by omega) _ _ hP hS _ (lv_sub hl [0, 1, 2, 3] rfl)
                · have jc_1974 := dk_neqc (k := 3) (by decide +kernel) c_1974
                  clear jc_1974
                  refine lv_iload_n hx hb dX12_goesOn_446 rfl (lv_at hl 1 rfl) ?_
                  refine lv_bipush (v := 6) hx hb dX12_goesOn_447 (by decide +kernel) ?_
                  refine lv_icmp_ne (tgt := 518) hx hb dX12_goesOn_449 (by decide) (fun c_1975 => ?_) (fun c_1975 => ?_)
                  · have jc_1975 := dk_neqc (k := 6) (by decide +kernel) c_1975
                    have jtc_1975 : (x_7).toInt ≤ 5 := by omega
                    clear jc_1975
                    refine lv_aload_n hx hb dX12_goesOn_518 rfl (lv_at hl 3 rfl) ?_
                    refine lv_iload_n hx hb dX12_goesOn_519 rfl (lv_at hl 1 rfl) ?_
                    refine lv_iconst (v := 5) hx hb dX12_goesOn_520 (by decide +kernel) ?_
                    have J_2031 : ∀ (x_1977 : Int32), (41 ≤ (x_1977).toInt ∧ (x_1977).toInt ≤ 93) → ∀ (H : Heap) (locs : List Loc), va_P D vwCl (dg_w g shM o rfM S_2) H → va_S A s.heap H locs → ∀ ls : Array Slot, lv_has ls 5 [(3, .int x_8), (2, .int x_7), (1, .int x_5), (0, .ref (o + 0))] → W p l e ({ frames := 3, cells := 0, slots := 0, locals := 77 } : Room) s m args below meth c H locs 0 0 Q9 (F0 m 531 ls [.int x_1977, .ref (o + 0)]) := by
                      intro x_1977 b_x_1977 H locs hP hS ls hl
                      refine dg_calli hS hA1 hA (va_runV (As := [.int x_1977]) (rest := []) F (c_m_isSign l g D o S_2 x_1977 sg ((m_2.1 0 3 _ sM_0 (by decide)).trans f_sg) (by omega) va ((m_2.1 0 6 _ sM_0 (by decide)).trans f_va) (by omega) I_2 H.size) (cwV 1 hts (bw_V wB_1157 wB_1158 wB_1159 wB_881 wB_1156) rfl rfl rfl (by decide +kernel) ⟨Nat.le_of_ble_eq_true rfl, Nat.le_of_ble_eq_true rfl⟩) (dg_preV sM_0 rfl K ST hP hS hA1 hA) rfl rfl hl.1 rfl (lv_room (Nat.le_of_ble_eq_true rfl)) dX12_goesOn_531 ⟨Nat.le_of_ble_eq_true rfl, Nat.le_of_ble_eq_true rfl⟩) (fun x_2032 S_2033 hw_2033 H locs hP hS => ?_)
                      rw [hw_2033.1] at hP
                      obtain ⟨hq_2033, w_2033_0, w_2033_1, -⟩ := hw_2033
                      have w_2033_0 : 0 ≤ (x_2032).toInt ∧ (x_2032).toInt ≤ 1 := w_2033_0
                      have w_2033_1 : (x_2032).toInt = 1 ↔ ((sg).toInt = 3 ∧ (va).toInt = (x_1977).toInt) := w_2033_1
                      refine lv_if_ne (tgt := 546) hx hb dX12_goesOn_534 (by decide) (fun c_2034 => ?_) (fun c_2034 => ?_)
                      · have jc_2034 := dk_neqc (k := 0) (by decide +kernel) c_2034
                        have jbc_2034 : 1 ≤ (x_2032).toInt := by omega
                        clear jc_2034
                        have w_2033_1_r := w_2033_1.mp (by omega)
                        obtain ⟨w_2033_1_r1, w_2033_1_r2⟩ := w_2033_1_r
                        clear w_2033_1
                        have hlx_2r := hlx_2 (by omega)
                        clear hlx_2
                        refine lv_aload_n hx hb dX12_goesOn_546 rfl (lv_at hl 3 rfl) ?_
                        refine dg_get (C := RX12) (T := TX12) (N := 77) hx hb hts (fun w h => bw_mem (wU_X12 w h)) hown K hP sM_0 rfl 8 (by decide) (hts _ (bw_mem wB_1133)) (fun _ h9 => h9) (v := .int y_3) f_y_3 dX12_goesOn_547 ?_
                        refine lv_if_le (tgt := 555) hx hb dX12_goesOn_550 (by decide) (fun _ => ?_) (fun c => absurd (dk_lep (k := 0) (by decide +kernel) (by omega)) c)
                        refine lv_aload_n hx hb dX12_goesOn_555 rfl (lv_at hl 3 rfl) ?_
                        refine lv_iconst (v := 1) hx hb dX12_goesOn_556 (by decide +kernel) ?_
                        have hz_2035 : (1 : Int32).toInt = 1 := by decide +kernel
                        refine dg_callv hS hA1 hA (va_runV (As := [.int 1]) (rest := []) F (c_m_joins l g D o S_2 1 (by decide +kernel) cd ((m_2.1 0 34 _ sM_0 (by decide)).trans f_cd) (by omega) om ((m_2.1 0 45 _ sM_0 (by decide)).trans f_om) (by omega) (by omega) (ZWM.keep ZW m_2 (by decide) (by decide) (by decide) (by decide)) (ZKM.keep ZK m_2 (by decide) (by decide)) (P1M.keep P1 m_2 (by decide) (by decide) (by decide) (by decide) (by decide) (by decide) (by decide) (by decide) (by decide) (by decide) (by decide) (by decide) (by decide) (by decide) (by decide)) I_2 H.size) (cwV 1 hts (bw_V wB_1234 wB_1235 wB_1236 wB_881 wB_1233) rfl rfl rfl (by decide +kernel) ⟨Nat.le_of_ble_eq_true rfl, Nat.le_of_ble_eq_true rfl⟩) (dg_preV sM_0 rfl K ST hP hS hA1 hA) rfl rfl hl.1 rfl (lv_room (Nat.le_of_ble_eq_true rfl)) dX12_goesOn_557 ⟨Nat.le_of_ble_eq_true rfl, Nat.le_of_ble_eq_true rfl⟩) (fun S_2036 hw_2036 H locs hP hS => ?_)
                        obtain ⟨I_2036, m_2036, w_2036_0, w_2036_1, w_2036_2, w_2036_3, -⟩ := hw_2036
                        have M_2036 := dg_sm.tr M_2 m_2036 (by decide) (by decide)
                        have hz_2037 : (1 : Int32).toInt = 1 := by decide +kernel
                        obtain ⟨y_2038, y_2039, f_y_2038, f_y_2039, w_2036_0⟩ := w_2036_0
                        have w_2036_0 : (y_2038).toInt + (y_2039).toInt = (cd).toInt + (om).toInt := w_2036_0
                        have b_y_2038 : 0 ≤ (y_2038).toInt ∧ (y_2038).toInt ≤ 1600 := dg_I.intb (lo := 0) (hi := 1600) I_2036 sM_0 (by decide +kernel) f_y_2038
                        have b_y_2039 : 0 ≤ (y_2039).toInt ∧ (y_2039).toInt ≤ 500 := dg_I.intb (lo := 0) (hi := 500) I_2036 sM_0 (by decide +kernel) f_y_2039
                        have w_2036_1 : TOPM S_2036 (1 : Int32) := w_2036_1
                        obtain ⟨x_2040, f_x_2040, b_x_2040⟩ := dg_I.int (i := 0) (k := 43) (lo := (-2147483648)) (hi := 2147483647) I_2036 sM_0 (by decide +kernel)
                        have hkd := PSM.kind w_2036_3 (((m_2036.1 0 42 _ sM_0 (by decide)).trans (m_2.1 0 42 _ sM_0 (by decide))).trans f_dp) f_x_2040 f_y_2039 (fx := x_5) (by omega) ((congrFun (m_2036.2 22 _ sM_22 (by decide)).1 _).trans ex_7.symm) (rfl : S_2036.2.1 25 (x_5 : Int32).toNatClampNeg = _)
                        unfold dk_fk at hkd
                        have hcl9 := dk_clN x_5
                        refine lv_aload_n hx hb dX12_goesOn_560 rfl (lv_at hl 3 rfl) ?_
                        refine lv_dup hx hb dX12_goesOn_561 rfl ?_
                        refine dg_get (C := RX12) (T := TX12) (N := 77) hx hb hts (fun w h => bw_mem (wU_X12 w h)) hown K hP sM_0 rfl 42 (by decide) (hts _ (bw_mem wB_1203)) (fun _ h9 => h9) (v := .int dp) (((m_2036.1 0 42 _ sM_0 (by decide)).trans (m_2.1 0 42 _ sM_0 (by decide))).trans f_dp) dX12_goesOn_562 ?_
                        refine lv_iconst (v := 1) hx hb dX12_goesOn_565 (by decide +kernel) ?_
                        refine lv_isub hx hb dX12_goesOn_566 ?_
                        refine lv_topi (fun x_2041 ex_2041 => ?_)
                        have jx_2041 : (x_2041).toInt = (dp).toInt - 1 := by rw [ex_2041]; exact dk_subT rfl (by decide +kernel) (by omega) (by omega)
                        refine dg_put (ci := 12) (v := .int x_2041) (ty := tyX12 42) (C := RX12) (T := TX12) (N := 77) hx hb hts (fun w h => bw_mem (wU_X12 w h)) tyX12 tyX12_ok nmX12 hown K hP hS hA1 sM_0 rfl 42 (by decide) (hts _ (bw_mem wB_1203)) (fun _ h9 => h9) rfl (by decide +kernel) rfl rfl dX12_goesOn_567 (fun S_2042 e_2042 H locs hP hS => ?_)
                        have I_2042 := dg_I.uFi (lo := 0) (hi := 20) I_2036 e_2042 sM_0 (by decide +kernel) (show 0 ≤ (x_2041).toInt ∧ (x_2041).toInt ≤ 20 from (by omega))
                        have M_2042 := dg_sm.uF M_2036 e_2042 sM_0 (by decide)
                        refine lv_aload_n hx hb dX12_goesOn_570 rfl (lv_at hl 3 rfl) ?_
                        refine lv_dup hx hb dX12_goesOn_571 rfl ?_
                        refine dg_get (C := RX12) (T := TX12) (N := 77) hx hb hts (fun w h => bw_mem (wU_X12 w h)) hown K hP sM_0 rfl 43 (by decide) (hts _ (bw_mem wB_1212)) (fun _ h9 => h9) (v := .int x_2040) ((dg_uF_ne e_2042 (fun z => absurd z.2 (by decide))).trans f_x_2040) dX12_goesOn_572 ?_
                        refine lv_iconst (v := 1) hx hb dX12_goesOn_575 (by decide +kernel) ?_
                        refine lv_isub hx hb dX12_goesOn_576 ?_
                        refine lv_topi (fun x_2043 ex_2043 => ?_)
                        refine dg_put (ci := 12) (v := .int x_2043) (ty := tyX12 43) (C := RX12) (T := TX12) (N := 77) hx hb hts (fun w h => bw_mem (wU_X12 w h)) tyX12 tyX12_ok nmX12 hown K hP hS hA1 sM_0 rfl 43 (by decide) (hts _ (bw_mem wB_1212)) (fun _ h9 => h9) rfl (by decide +kernel) rfl rfl dX12_goesOn_577 (fun S_2044 e_2044 H locs hP hS => ?_)
                        have I_2044 := dg_I.uFi (lo := (-2147483648)) (hi := 2147483647) I_2042 e_2044 sM_0 (by decide +kernel) (show (-2147483648) ≤ (x_2043).toInt ∧ (x_2043).toInt ≤ 2147483647 from (dk_full _))
                        have M_2044 := dg_sm.uF M_2042 e_2044 sM_0 (by decide)
                        refine lv_iload_n hx hb dX12_goesOn_580 rfl (lv_at hl 1 rfl) ?_
                        refine lv_iconst (v := 4) hx hb dX12_goesOn_581 (by decide +kernel) ?_
                        refine lv_icmp_ne (tgt := 596) hx hb dX12_goesOn_582 (by decide) (fun c_2045 => ?_) (fun c_2045 => ?_)
                        · have jc_2045 := dk_neqc (k := 4) (by decide +kernel) c_2045
                          clear jc_2045
                          have P1_2044 : P1M S_2044 := P1M.close2 w_2036_3 (((m_2036.1 0 42 _ sM_0 (by decide)).trans (m_2.1 0 42 _ sM_0 (by decide))).trans f_dp) f_x_2040 f_y_2039 w_2036_1 (by omega) (fx := x_5) (by omega) ((congrFun (m_2036.2 22 _ sM_22 (by decide)).1 _).trans ex_7.symm) (by omega) e_2042 (by omega) e_2044 (by omega)
                          refine lv_iload_n hx hb dX12_goesOn_596 rfl (lv_at hl 1 rfl) ?_
                          refine lv_iconst (v := 5) hx hb dX12_goesOn_597 (by decide +kernel) ?_
                          refine lv_icmp_ne (tgt := 613) hx hb dX12_goesOn_598 (by decide) (fun c_2046 => ?_) (fun c_2046 => ?_)
                          · have jc_2046 := dk_neqc (k := 5) (by decide +kernel) c_2046
                            have jtc_2046 : (x_7).toInt ≤ 2 := by omega
                            clear jc_2046
                            refine lv_aload_n hx hb dX12_goesOn_613 rfl (lv_at hl 3 rfl) ?_
                            refine dg_callv hS hA1 hA (va_runV (As := []) (rest := []) F (c_m_ahead l g D o S_2044 se (((dg_uF_ne e_2044 (fun z => absurd z.2 (by decide))).trans ((dg_uF_ne e_2042 (fun z => absurd z.2 (by decide))).trans ((m_2036.1 0 5 _ sM_0 (by decide)).trans (m_2.1 0 5 _ sM_0 (by decide))))).trans f_se) (by omega) sl (((dg_uF_ne e_2044 (fun z => absurd z.2 (by decide))).trans ((dg_uF_ne e_2042 (fun z => absurd z.2 (by decide))).trans ((m_2036.1 0 2 _ sM_0 (by decide)).trans (m_2.1 0 2 _ sM_0 (by decide))))).trans f_sl) (by omega) (by omega) I_2044 H.size) (cwV 0 hts (bw_V wB_1161 wB_1162 wB_1163 wB_881 wB_1160) rfl rfl rfl (by decide +kernel) ⟨Nat.le_of_ble_eq_true rfl, Nat.le_of_ble_eq_true rfl⟩) (dg_preV sM_0 rfl K ST hP hS hA1 hA) rfl rfl hl.1 rfl (lv_room (Nat.le_of_ble_eq_true rfl)) dX12_goesOn_614 ⟨Nat.le_of_ble_eq_true rfl, Nat.le_of_ble_eq_true rfl⟩) (fun S_2047 hw_2047 H locs hP hS => ?_)
                            obtain ⟨I_2047, m_2047, w_2047_0, -⟩ := hw_2047
                            have M_2047 := dg_sm.tr M_2044 m_2047 (by decide) (by decide)
                            obtain ⟨y_2048, y_2049, y_2050, f_y_2048, f_y_2049, f_y_2050, w_2047_0⟩ := w_2047_0
                            have w_2047_0 : (se).toInt ≤ (y_2049).toInt ∧ (y_2049).toInt ≤ (y_2050).toInt ∧ (y_2050).toInt ≤ (sl).toInt ∧ ((y_2048).toInt ≠ 0 → (y_2049).toInt + 1 ≤ (y_2050).toInt) := w_2047_0
                            obtain ⟨w_2047_0_0, w_2047_0_1, w_2047_0_2, w_2047_0_3⟩ := w_2047_0
                            have b_y_2048 : 0 ≤ (y_2048).toInt ∧ (y_2048).toInt ≤ 3 := dg_I.intb (lo := 0) (hi := 3) I_2047 sM_0 (by decide +kernel) f_y_2048
                            have b_y_2049 : 0 ≤ (y_2049).toInt ∧ (y_2049).toInt ≤ 1600 := dg_I.intb (lo := 0) (hi := 1600) I_2047 sM_0 (by decide +kernel) f_y_2049
                            have b_y_2050 : 0 ≤ (y_2050).toInt ∧ (y_2050).toInt ≤ 1600 := dg_I.intb (lo := 0) (hi := 1600) I_2047 sM_0 (by decide +kernel) f_y_2050
                            refine lv_iconst (v := 1) hx hb dX12_goesOn_617 (by decide +kernel) ?_
                            have hz_2051 : (1 : Int32).toInt = 1 := by decide +kernel
                            have hz_2052 : (1 : Int32).toInt = 1 := by decide +kernel
                            have hz_2053 : (1 : Int32).toInt = 1 := by decide +kernel
                            refine W.widen (k := 0) (n := 0) (Nat.le_of_ble_eq_true rfl) (Nat.le_of_ble_eq_true rfl) ?_
                            rw [hQ9]
                            exact dg_iret hx hb hr hlocks (by decide +kernel) hP hS ⟨I_2047, M_2047, (by decide +kernel), ⟨y_2048, y_2049, y_2050, y_3, y_2038, x_2041, y_2039, oo, f_y_2048, f_y_2049, f_y_2050, (((m_2047.1 0 8 _ sM_0 (by decide)).trans ((dg_uF_ne e_2044 (fun z => absurd z.2 (by decide))).trans ((dg_uF_ne e_2042 (fun z => absurd z.2 (by decide))).trans (m_2036.1 0 8 _ sM_0 (by decide))))).trans f_y_3), (((m_2047.1 0 34 _ sM_0 (by decide)).trans ((dg_uF_ne e_2044 (fun z => absurd z.2 (by decide))).trans (dg_uF_ne e_2042 (fun z => absurd z.2 (by decide))))).trans f_y_2038), (((m_2047.1 0 42 _ sM_0 (by decide)).trans (dg_uF_ne e_2044 (fun z => absurd z.2 (by decide)))).trans (dg_uF_at e_2042)), (((m_2047.1 0 45 _ sM_0 (by decide)).trans ((dg_uF_ne e_2044 (fun z => absurd z.2 (by decide))).trans (dg_uF_ne e_2042 (fun z => absurd z.2 (by decide))))).trans f_y_2039), (((m_2047.1 0 46 _ sM_0 (by decide)).trans ((dg_uF_ne e_2044 (fun z => absurd z.2 (by decide))).trans ((dg_uF_ne e_2042 (fun z => absurd z.2 (by decide))).trans ((m_2036.1 0 46 _ sM_0 (by decide)).trans (m_2.1 0 46 _ sM_0 (by decide)))))).trans f_oo), (by omega)⟩, (fun k9 hk9 hk0 => POM.mk1 (P1M.keep P1_2044 m_2047 (by decide) (by decide) (by decide) (by decide) (by decide) (by decide) (by decide) (by decide) (by decide) (by decide) (by decide) (by decide) (by decide) (by decide) (by decide)) (((m_2047.1 0 46 _ sM_0 (by decide)).trans ((dg_uF_ne e_2044 (fun z => absurd z.2 (by decide))).trans ((dg_uF_ne e_2042 (fun z => absurd z.2 (by decide))).trans ((m_2036.1 0 46 _ sM_0 (by decide)).trans (m_2.1 0 46 _ sM_0 (by decide)))))).trans f_oo) (by omega)), (ZWM.keep (ZWM.keep (ZWM.keep w_2036_2 (dg_sm.uF (WF := [(0, 42)]) (WA := []) dg_sm.rf e_2042 sM_0 (by decide)) (by decide) (by decide) (by decide) (by decide)) (dg_sm.uF (WF := [(0, 43)]) (WA := []) dg_sm.rf e_2044 sM_0 (by decide)) (by decide) (by decide) (by decide) (by decide)) m_2047 (by decide) (by decide) (by decide) (by decide)), trivial⟩ dX12_goesOn_618
                          · have jc_2046 := dk_eqc (k := 5) (by decide +kernel) c_2046
                            refine lv_aload_n hx hb dX12_goesOn_601 rfl (lv_at hl 3 rfl) ?_
                            refine dg_get (C := RX12) (T := TX12) (N := 77) hx hb hts (fun w h => bw_mem (wU_X12 w h)) hown K hP sM_0 rfl 38 (by decide) (hts _ (bw_mem wB_1214)) (fun _ h9 => h9) (v := .ref (o + 23)) (show S_2044.1 0 38 = .ref (o + 23) from dg_I.rel (d := 23) I_2044 sM_0 (by decide +kernel)) dX12_goesOn_602 ?_
                            refine lv_aload_n hx hb dX12_goesOn_605 rfl (lv_at hl 3 rfl) ?_
                            refine dg_get (C := RX12) (T := TX12) (N := 77) hx hb hts (fun w h => bw_mem (wU_X12 w h)) hown K hP sM_0 rfl 42 (by decide) (hts _ (bw_mem wB_1203)) (fun _ h9 => h9) (v := .int x_2041) ((dg_uF_ne e_2044 (fun z => absurd z.2 (by decide))).trans (dg_uF_at e_2042)) dX12_goesOn_606 ?_
                            refine lv_iconst (v := 1) hx hb dX12_goesOn_609 (by decide +kernel) ?_
                            refine lv_isub hx hb dX12_goesOn_610 ?_
                            refine lv_topi (fun x_2054 ex_2054 => ?_)
                            have jx_2054 : (x_2054).toInt = (x_2041).toInt - 1 := by rw [ex_2054]; exact dk_subT rfl (by decide +kernel) (by omega) (by omega)
                            refine lv_iconst (v := 2) hx hb dX12_goesOn_611 (by decide +kernel) ?_
                            have hin_2055 : vp_in x_2054 20 := (dk_inv (by omega) (by omega))
                            have hz_2057 : (2 : Int32).toInt = 2 := by decide +kernel
                            refine dg_iast hx hb K hP hS hA1 sM_23 hin_2055 dX12_goesOn_612 (fun S_2056 e_2056 H locs hP hS => ?_)
                            have I_2056 := dg_I.ufu (lo := 0) (hi := 2) I_2044 e_2056 sM_23 (by decide +kernel) (show 0 ≤ ((2 : Int32)).toInt ∧ ((2 : Int32)).toInt ≤ 2 from (by decide +kernel))
                            have M_2056 := dg_sm.uf M_2044 e_2056 sM_23 (by decide)
                            have hz_2058 : (2 : Int32).toInt = 2 := by decide +kernel
                            have P1_2056 : P1M S_2056 := P1M.close5 P1_2044 ((dg_uF_ne e_2044 (fun z => absurd z.2 (by decide))).trans (dg_uF_at e_2042)) (by omega) (by omega) (by omega) e_2056
                            refine lv_aload_n hx hb dX12_goesOn_613 rfl (lv_at hl 3 rfl) ?_
                            refine dg_callv hS hA1 hA (va_runV (As := []) (rest := []) F (c_m_ahead l g D o S_2056 se (((dg_uf_F e_2056 0 5).trans ((dg_uF_ne e_2044 (fun z => absurd z.2 (by decide))).trans ((dg_uF_ne e_2042 (fun z => absurd z.2 (by decide))).trans ((m_2036.1 0 5 _ sM_0 (by decide)).trans (m_2.1 0 5 _ sM_0 (by decide)))))).trans f_se) (by omega) sl (((dg_uf_F e_2056 0 2).trans ((dg_uF_ne e_2044 (fun z => absurd z.2 (by decide))).trans ((dg_uF_ne e_2042 (fun z => absurd z.2 (by decide))).trans ((m_2036.1 0 2 _ sM_0 (by decide)).trans (m_2.1 0 2 _ sM_0 (by decide)))))).trans f_sl) (by omega) (by omega) I_2056 H.size) (cwV 0 hts (bw_V wB_1161 wB_1162 wB_1163 wB_881 wB_1160) rfl rfl rfl (by decide +kernel) ⟨Nat.le_of_ble_eq_true rfl, Nat.le_of_ble_eq_true rfl⟩) (dg_preV sM_0 rfl K ST hP hS hA1 hA) rfl rfl hl.1 rfl (lv_room (Nat.le_of_ble_eq_true rfl)) dX12_goesOn_614 ⟨Nat.le_of_ble_eq_true rfl, Nat.le_of_ble_eq_true rfl⟩) (fun S_2059 hw_2059 H locs hP hS => ?_)
                            obtain ⟨I_2059, m_2059, w_2059_0, -⟩ := hw_2059
                            have M_2059 := dg_sm.tr M_2056 m_2059 (by decide) (by decide)
                            obtain ⟨y_2060, y_2061, y_2062, f_y_2060, f_y_2061, f_y_2062, w_2059_0⟩ := w_2059_0
                            have w_2059_0 : (se).toInt ≤ (y_2061).toInt ∧ (y_2061).toInt ≤ (y_2062).toInt ∧ (y_2062).toInt ≤ (sl).toInt ∧ ((y_2060).toInt ≠ 0 → (y_2061).toInt + 1 ≤ (y_2062).toInt) := w_2059_0
                            obtain ⟨w_2059_0_0, w_2059_0_1, w_2059_0_2, w_2059_0_3⟩ := w_2059_0
                            have b_y_2060 : 0 ≤ (y_2060).toInt ∧ (y_2060).toInt ≤ 3 := dg_I.intb (lo := 0) (hi := 3) I_2059 sM_0 (by decide +kernel) f_y_2060
                            have b_y_2061 : 0 ≤ (y_2061).toInt ∧ (y_2061).toInt ≤ 1600 := dg_I.intb (lo := 0) (hi := 1600) I_2059 sM_0 (by decide +kernel) f_y_2061
                            have b_y_2062 : 0 ≤ (y_2062).toInt ∧ (y_2062).toInt ≤ 1600 := dg_I.intb (lo := 0) (hi := 1600) I_2059 sM_0 (by decide +kernel) f_y_2062
                            refine lv_iconst (v := 1) hx hb dX12_goesOn_617 (by decide +kernel) ?_
                            have hz_2063 : (1 : Int32).toInt = 1 := by decide +kernel
                            have hz_2064 : (1 : Int32).toInt = 1 := by decide +kernel
                            have hz_2065 : (1 : Int32).toInt = 1 := by decide +kernel
                            refine W.widen (k := 0) (n := 0) (Nat.le_of_ble_eq_true rfl) (Nat.le_of_ble_eq_true rfl) ?_
                            rw [hQ9]
                            exact dg_iret hx hb hr hlocks (by decide +kernel) hP hS ⟨I_2059, M_2059, (by decide +kernel), ⟨y_2060, y_2061, y_2062, y_3, y_2038, x_2041, y_2039, oo, f_y_2060, f_y_2061, f_y_2062, (((m_2059.1 0 8 _ sM_0 (by decide)).trans ((dg_uf_F e_2056 0 8).trans ((dg_uF_ne e_2044 (fun z => absurd z.2 (by decide))).trans ((dg_uF_ne e_2042 (fun z => absurd z.2 (by decide))).trans (m_2036.1 0 8 _ sM_0 (by decide)))))).trans f_y_3), (((m_2059.1 0 34 _ sM_0 (by decide)).trans ((dg_uf_F e_2056 0 34).trans ((dg_uF_ne e_2044 (fun z => absurd z.2 (by decide))).trans (dg_uF_ne e_2042 (fun z => absurd z.2 (by decide)))))).trans f_y_2038), (((m_2059.1 0 42 _ sM_0 (by decide)).trans ((dg_uf_F e_2056 0 42).trans (dg_uF_ne e_2044 (fun z => absurd z.2 (by decide))))).trans (dg_uF_at e_2042)), (((m_2059.1 0 45 _ sM_0 (by decide)).trans ((dg_uf_F e_2056 0 45).trans ((dg_uF_ne e_2044 (fun z => absurd z.2 (by decide))).trans (dg_uF_ne e_2042 (fun z => absurd z.2 (by decide)))))).trans f_y_2039), (((m_2059.1 0 46 _ sM_0 (by decide)).trans ((dg_uf_F e_2056 0 46).trans ((dg_uF_ne e_2044 (fun z => absurd z.2 (by decide))).trans ((dg_uF_ne e_2042 (fun z => absurd z.2 (by decide))).trans ((m_2036.1 0 46 _ sM_0 (by decide)).trans (m_2.1 0 46 _ sM_0 (by decide))))))).trans f_oo), (by omega)⟩, (fun k9 hk9 hk0 => POM.mk1 (P1M.keep P1_2056 m_2059 (by decide) (by decide) (by decide) (by decide) (by decide) (by decide) (by decide) (by decide) (by decide) (by decide) (by decide) (by decide) (by decide) (by decide) (by decide)) (((m_2059.1 0 46 _ sM_0 (by decide)).trans ((dg_uf_F e_2056 0 46).trans ((dg_uF_ne e_2044 (fun z => absurd z.2 (by decide))).trans ((dg_uF_ne e_2042 (fun z => absurd z.2 (by decide))).trans ((m_2036.1 0 46 _ sM_0 (by decide)).trans (m_2.1 0 46 _ sM_0 (by decide))))))).trans f_oo) (by omega)), (ZWM.keep (ZWM.keep (ZWM.keep (ZWM.keep w_2036_2 (dg_sm.uF (WF := [(0, 42)]) (WA := []) dg_sm.rf e_2042 sM_0 (by decide)) (by decide) (by decide) (by decide) (by decide)) (dg_sm.uF (WF := [(0, 43)]) (WA := []) dg_sm.rf e_2044 sM_0 (by decide)) (by decide) (by decide) (by decide) (by decide)) (dg_sm.uf (WF := []) (WA := [23]) dg_sm.rf e_2056 sM_23 (by decide)) (by decide) (by decide) (by decide) (by decide)) m_2059 (by decide) (by decide) (by decide) (by decide)), trivial⟩ dX12_goesOn_618
                        · have jc_2045 := dk_eqc (k := 4) (by decide +kernel) c_2045
                          refine lv_aload_n hx hb dX12_goesOn_585 rfl (lv_at hl 3 rfl) ?_
                          refine lv_aload_n hx hb dX12_goesOn_586 rfl (lv_at hl 3 rfl) ?_
                          refine dg_get (C := RX12) (T := TX12) (N := 77) hx hb hts (fun w h => bw_mem (wU_X12 w h)) hown K hP sM_0 rfl 40 (by decide) (hts _ (bw_mem wB_1232)) (fun _ h9 => h9) (v := .ref (o + 25)) (show S_2044.1 0 40 = .ref (o + 25) from dg_I.rel (d := 25) I_2044 sM_0 (by decide +kernel)) dX12_goesOn_587 ?_
                          refine lv_iload_n hx hb dX12_goesOn_590 rfl (lv_at hl 2 rfl) ?_
                          have hin_2066 : vp_in x_5 20 := (dk_inv (by omega) (by omega))
                          refine dg_iald hx hb K hP sM_25 hin_2066 dX12_goesOn_591 (fun x_2067 ex_2067 => ?_)
                          have hp25_x_2067 : S_2036.2.1 25 (x_5 : Int32).toNatClampNeg = x_2067 := by rw [ex_2067, (((dg_uF_f e_2044 25).trans (dg_uF_f e_2042 25)))]
                          rw [hp25_x_2067] at hkd
                          refine lv_iconst (v := 0) hx hb dX12_goesOn_592 (by decide +kernel) ?_
                          refine dg_callv hS hA1 hA (va_runV (As := [.int x_2067, .int 0]) (rest := []) F (c_m_add l g D o S_2044 x_2067 (by omega) 0 y_2038 (((dg_uF_ne e_2044 (fun z => absurd z.2 (by decide))).trans (dg_uF_ne e_2042 (fun z => absurd z.2 (by decide)))).trans f_y_2038) (by omega) (ZWM.keep (ZWM.keep w_2036_2 (dg_sm.uF (WF := [(0, 42)]) (WA := []) dg_sm.rf e_2042 sM_0 (by decide)) (by decide) (by decide) (by decide) (by decide)) (dg_sm.uF (WF := [(0, 43)]) (WA := []) dg_sm.rf e_2044 sM_0 (by decide)) (by decide) (by decide) (by decide) (by decide)) (ZKM.keep (ZKM.keep (ZKM.keep (ZKM.keep ZK m_2 (by decide) (by decide)) m_2036 (by decide) (by decide)) (dg_sm.uF (WF := [(0, 42)]) (WA := []) dg_sm.rf e_2042 sM_0 (by decide)) (by decide) (by decide)) (dg_sm.uF (WF := [(0, 43)]) (WA := []) dg_sm.rf e_2044 sM_0 (by decide)) (by decide) (by decide)) I_2044 H.size) (cwV 2 hts (bw_V wB_1209 wB_1210 wB_1211 wB_881 wB_1208) rfl rfl rfl (by decide +kernel) ⟨Nat.le_of_ble_eq_true rfl, Nat.le_of_ble_eq_true rfl⟩) (dg_preV sM_0 rfl K ST hP hS hA1 hA) rfl rfl hl.1 rfl (lv_room (Nat.le_of_ble_eq_true rfl)) dX12_goesOn_593 ⟨Nat.le_of_ble_eq_true rfl, Nat.le_of_ble_eq_true rfl⟩) (fun S_2068 hw_2068 H locs hP hS => ?_)
                          obtain ⟨I_2068, m_2068, w_2068_0, w_2068_1, w_2068_2, -⟩ := hw_2068
                          have M_2068 := dg_sm.tr M_2044 m_2068 (by decide) (by decide)
                          have hz_2069 : (0 : Int32).toInt = 0 := by decide +kernel
                          obtain ⟨y_2070, f_y_2070, w_2068_0⟩ := w_2068_0
                          have w_2068_0 : (y_2070).toInt = (y_2038).toInt + 1 := w_2068_0
                          have b_y_2070 : 0 ≤ (y_2070).toInt ∧ (y_2070).toInt ≤ 1600 := dg_I.intb (lo := 0) (hi := 1600) I_2068 sM_0 (by decide +kernel) f_y_2070
                          have w_2068_1 : ADM S_2044 S_2068 x_2067 := w_2068_1
                          have P1_2068 : P1M S_2068 := P1M.close4 w_2036_3 (((m_2036.1 0 42 _ sM_0 (by decide)).trans (m_2.1 0 42 _ sM_0 (by decide))).trans f_dp) f_x_2040 f_y_2039 w_2036_1 (by omega) (fx := x_5) (by omega) ((congrFun (m_2036.2 22 _ sM_22 (by decide)).1 _).trans ex_7.symm) (by omega) e_2042 (by omega) e_2044 (by omega) hp25_x_2067 m_2068 w_2068_1
                          refine lv_iload_n hx hb dX12_goesOn_596 rfl (lv_at hl 1 rfl) ?_
                          refine lv_iconst (v := 5) hx hb dX12_goesOn_597 (by decide +kernel) ?_
                          refine lv_icmp_ne (tgt := 613) hx hb dX12_goesOn_598 (by decide) (fun _ => ?_) (fun c => absurd c (fun z => absurd (dk_eqc (k := 5) (by decide +kernel) z) (by omega)))
                          refine lv_aload_n hx hb dX12_goesOn_613 rfl (lv_at hl 3 rfl) ?_
                          refine dg_callv hS hA1 hA (va_runV (As := []) (rest := []) F (c_m_ahead l g D o S_2068 se (((m_2068.1 0 5 _ sM_0 (by decide)).trans ((dg_uF_ne e_2044 (fun z => absurd z.2 (by decide))).trans ((dg_uF_ne e_2042 (fun z => absurd z.2 (by decide))).trans ((m_2036.1 0 5 _ sM_0 (by decide)).trans (m_2.1 0 5 _ sM_0 (by decide)))))).trans f_se) (by omega) sl (((m_2068.1 0 2 _ sM_0 (by decide)).trans ((dg_uF_ne e_2044 (fun z => absurd z.2 (by decide))).trans ((dg_uF_ne e_2042 (fun z => absurd z.2 (by decide))).trans ((m_2036.1 0 2 _ sM_0 (by decide)).trans (m_2.1 0 2 _ sM_0 (by decide)))))).trans f_sl) (by omega) (by omega) I_2068 H.size) (cwV 0 hts (bw_V wB_1161 wB_1162 wB_1163 wB_881 wB_1160) rfl rfl rfl (by decide +kernel) ⟨Nat.le_of_ble_eq_true rfl, Nat.le_of_ble_eq_true rfl⟩) (dg_preV sM_0 rfl K ST hP hS hA1 hA) rfl rfl hl.1 rfl (lv_room (Nat.le_of_ble_eq_true rfl)) dX12_goesOn_614 ⟨Nat.le_of_ble_eq_true rfl, Nat.le_of_ble_eq_true rfl⟩) (fun S_2071 hw_2071 H locs hP hS => ?_)
                          obtain ⟨I_2071, m_2071, w_2071_0, -⟩ := hw_2071
                          have M_2071 := dg_sm.tr M_2068 m_2071 (by decide) (by decide)
                          obtain ⟨y_2072, y_2073, y_2074, f_y_2072, f_y_2073, f_y_2074, w_2071_0⟩ := w_2071_0
                          have w_2071_0 : (se).toInt ≤ (y_2073).toInt ∧ (y_2073).toInt ≤ (y_2074).toInt ∧ (y_2074).toInt ≤ (sl).toInt ∧ ((y_2072).toInt ≠ 0 → (y_2073).toInt + 1 ≤ (y_2074).toInt) := w_2071_0
                          obtain ⟨w_2071_0_0, w_2071_0_1, w_2071_0_2, w_2071_0_3⟩ := w_2071_0
                          have b_y_2072 : 0 ≤ (y_2072).toInt ∧ (y_2072).toInt ≤ 3 := dg_I.intb (lo := 0) (hi := 3) I_2071 sM_0 (by decide +kernel) f_y_2072
                          have b_y_2073 : 0 ≤ (y_2073).toInt ∧ (y_2073).toInt ≤ 1600 := dg_I.intb (lo := 0) (hi := 1600) I_2071 sM_0 (by decide +kernel) f_y_2073
                          have b_y_2074 : 0 ≤ (y_2074).toInt ∧ (y_2074).toInt ≤ 1600 := dg_I.intb (lo := 0) (hi := 1600) I_2071 sM_0 (by decide +kernel) f_y_2074
                          refine lv_iconst (v := 1) hx hb dX12_goesOn_617 (by decide +kernel) ?_
                          have hz_2075 : (1 : Int32).toInt = 1 := by decide +kernel
                          have hz_2076 : (1 : Int32).toInt = 1 := by decide +kernel
                          have hz_2077 : (1 : Int32).toInt = 1 := by decide +kernel
                          refine W.widen (k := 0) (n := 0) (Nat.le_of_ble_eq_true rfl) (Nat.le_of_ble_eq_true rfl) ?_
                          rw [hQ9]
                          exact dg_iret hx hb hr hlocks (by decide +kernel) hP hS ⟨I_2071, M_2071, (by decide +kernel), ⟨y_2072, y_2073, y_2074, y_3, y_2070, x_2041, y_2039, oo, f_y_2072, f_y_2073, f_y_2074, (((m_2071.1 0 8 _ sM_0 (by decide)).trans ((m_2068.1 0 8 _ sM_0 (by decide)).trans ((dg_uF_ne e_2044 (fun z => absurd z.2 (by decide))).trans ((dg_uF_ne e_2042 (fun z => absurd z.2 (by decide))).trans (m_2036.1 0 8 _ sM_0 (by decide)))))).trans f_y_3), ((m_2071.1 0 34 _ sM_0 (by decide)).trans f_y_2070), (((m_2071.1 0 42 _ sM_0 (by decide)).trans ((m_2068.1 0 42 _ sM_0 (by decide)).trans (dg_uF_ne e_2044 (fun z => absurd z.2 (by decide))))).trans (dg_uF_at e_2042)), (((m_2071.1 0 45 _ sM_0 (by decide)).trans ((m_2068.1 0 45 _ sM_0 (by decide)).trans ((dg_uF_ne e_2044 (fun z => absurd z.2 (by decide))).trans (dg_uF_ne e_2042 (fun z => absurd z.2 (by decide)))))).trans f_y_2039), (((m_2071.1 0 46 _ sM_0 (by decide)).trans ((m_2068.1 0 46 _ sM_0 (by decide)).trans ((dg_uF_ne e_2044 (fun z => absurd z.2 (by decide))).trans ((dg_uF_ne e_2042 (fun z => absurd z.2 (by decide))).trans ((m_2036.1 0 46 _ sM_0 (by decide)).trans (m_2.1 0 46 _ sM_0 (by decide))))))).trans f_oo), (by omega)⟩, (fun k9 hk9 hk0 => POM.mk1 (P1M.keep P1_2068 m_2071 (by decide) (by decide) (by decide) (by decide) (by decide) (by decide) (by decide) (by decide) (by decide) (by decide) (by decide) (by decide) (by decide) (by decide) (by decide)) (((m_2071.1 0 46 _ sM_0 (by decide)).trans ((m_2068.1 0 46 _ sM_0 (by decide)).trans ((dg_uF_ne e_2044 (fun z => absurd z.2 (by decide))).trans ((dg_uF_ne e_2042 (fun z => absurd z.2 (by decide))).trans ((m_2036.1 0 46 _ sM_0 (by decide)).trans (m_2.1 0 46 _ sM_0 (by decide))))))).trans f_oo) (by omega)), (ZWM.keep w_2068_2 m_2071 (by decide) (by decide) (by decide) (by decide)), trivial⟩ dX12_goesOn_618
                      · have jc_2034 := dk_eqc (k := 0) (by decide +kernel) c_2034
                        clear w_2033_1
                        refine lv_aload_n hx hb dX12_goesOn_537 rfl (lv_at hl 3 rfl) ?_
                        refine lv_iconst (v := 1) hx hb dX12_goesOn_538 (by decide +kernel) ?_
                        refine lv_aload_n hx hb dX12_goesOn_539 rfl (lv_at hl 3 rfl) ?_
                        refine dg_get (C := RX12) (T := TX12) (N := 77) hx hb hts (fun w h => bw_mem (wU_X12 w h)) hown K hP sM_0 rfl 4 (by decide) (hts _ (bw_mem wB_1145)) (fun _ h9 => h9) (v := .int sa) ((m_2.1 0 4 _ sM_0 (by decide)).trans f_sa) dX12_goesOn_540 ?_
                        have hz_2078 : (1 : Int32).toInt = 1 := by decide +kernel
                        refine dg_callv hS hA1 hA (va_runV (As := [.int 1, .int sa]) (rest := []) F (c_m_blame l g D o S_2 1 (by decide +kernel) sa y_3 f_y_3 (by omega) I_2 H.size) (cwV 2 hts (bw_V wB_1137 wB_1138 wB_1139 wB_881 wB_1136) rfl rfl rfl (by decide +kernel) ⟨Nat.le_of_ble_eq_true rfl, Nat.le_of_ble_eq_true rfl⟩) (dg_preV sM_0 rfl K ST hP hS hA1 hA) rfl rfl hl.1 rfl (lv_room (Nat.le_of_ble_eq_true rfl)) dX12_goesOn_543 ⟨Nat.le_of_ble_eq_true rfl, Nat.le_of_ble_eq_true rfl⟩) (fun S_2079 hw_2079 H locs hP hS => ?_)
                        obtain ⟨I_2079, m_2079, w_2079_0, -⟩ := hw_2079
                        have M_2079 := dg_sm.tr M_2 m_2079 (by decide) (by decide)
                        have hz_2080 : (1 : Int32).toInt = 1 := by decide +kernel
                        obtain ⟨y_2081, f_y_2081, w_2079_0⟩ := w_2079_0
                        have w_2079_0 : ((y_3).toInt ≠ 0 → (y_2081).toInt = (y_3).toInt) ∧ ((y_3).toInt = 0 → (y_2081).toInt = ((1 : Int32)).toInt) := w_2079_0
                        obtain ⟨w_2079_0_0, w_2079_0_1⟩ := w_2079_0
                        clear w_2079_0_0
                        have w_2079_0_1r := w_2079_0_1 (by omega)
                        clear w_2079_0_1
                        have b_y_2081 : 0 ≤ (y_2081).toInt ∧ (y_2081).toInt ≤ 6 := dg_I.intb (lo := 0) (hi := 6) I_2079 sM_0 (by decide +kernel) f_y_2081
                        have hbl_y_2081 : 1 ≤ (y_2081).toInt := by omega
                        refine lv_aload_n hx hb dX12_goesOn_546 rfl (lv_at hl 3 rfl) ?_
                        refine dg_get (C := RX12) (T := TX12) (N := 77) hx hb hts (fun w h => bw_mem (wU_X12 w h)) hown K hP sM_0 rfl 8 (by decide) (hts _ (bw_mem wB_1133)) (fun _ h9 => h9) (v := .int y_2081) f_y_2081 dX12_goesOn_547 ?_
                        refine lv_if_le (tgt := 555) hx hb dX12_goesOn_550 (by decide) (fun c => absurd c (fun z => absurd (dk_lec (k := 0) (by decide +kernel) z) (by omega))) (fun _ => ?_)
                        refine lv_iconst (v := 0) hx hb dX12_goesOn_553 (by decide +kernel) ?_
                        have hz_2082 : (0 : Int32).toInt = 0 := by decide +kernel
                        have hz_2083 : (0 : Int32).toInt = 0 := by decide +kernel
                        have hz_2084 : (0 : Int32).toInt = 0 := by decide +kernel
                        refine W.widen (k := 0) (n := 0) (Nat.le_of_ble_eq_true rfl) (Nat.le_of_ble_eq_true rfl) ?_
                        rw [hQ9]
                        exact dg_iret hx hb hr hlocks (by decide +kernel) hP hS ⟨I_2079, M_2079, (by decide +kernel), ⟨sg, sa, se, y_2081, cd, dp, om, oo, (((m_2079.1 0 3 _ sM_0 (by decide)).trans (m_2.1 0 3 _ sM_0 (by decide))).trans f_sg), (((m_2079.1 0 4 _ sM_0 (by decide)).trans (m_2.1 0 4 _ sM_0 (by decide))).trans f_sa), (((m_2079.1 0 5 _ sM_0 (by decide)).trans (m_2.1 0 5 _ sM_0 (by decide))).trans f_se), f_y_2081, (((m_2079.1 0 34 _ sM_0 (by decide)).trans (m_2.1 0 34 _ sM_0 (by decide))).trans f_cd), (((m_2079.1 0 42 _ sM_0 (by decide)).trans (m_2.1 0 42 _ sM_0 (by decide))).trans f_dp), (((m_2079.1 0 45 _ sM_0 (by decide)).trans (m_2.1 0 45 _ sM_0 (by decide))).trans f_om), (((m_2079.1 0 46 _ sM_0 (by decide)).trans (m_2.1 0 46 _ sM_0 (by decide))).trans f_oo), (by omega)⟩, (fun k9 hk9 hk0 => by have q9 := (f_y_2081).symm.trans hk9; cases q9; omega), (ZWM.keep (ZWM.keep ZW m_2 (by decide) (by decide) (by decide) (by decide)) m_2079 (by decide) (by decide) (by decide) (by decide)), trivial⟩ dX12_goesOn_554
                    refine lv_icmp_ne (tgt := 529) hx hb dX12_goesOn_521 (by decide) (fun c_2085 => ?_) (fun c_2085 => ?_)
                    · have jc_2085 := dk_neqc (k := 5) (by decide +kernel) c_2085
                      have jtc_2085 : (x_7).toInt ≤ 4 := by omega
                      clear jc_2085
                      refine lv_bipush (v := 41) hx hb dX12_goesOn_529 (by decide +kernel) ?_
                      have hz_2086 : (41 : Int32).toInt = 41 := by decide +kernel
                      exact J_2031 41 (by decide +kernel) _ _ hP hS _ (lv_sub hl [0, 1, 2, 3] rfl)
                    · have jc_2085 := dk_eqc (k := 5) (by decide +kernel) c_2085
                      refine lv_bipush (v := 93) hx hb dX12_goesOn_524 (by decide +kernel) ?_
                      refine lv_goto (tgt := 531) hx hb dX12_goesOn_526 (by decide) ?_
                      have hz_2087 : (93 : Int32).toInt = 93 := by decide +kernel
                      exact J_2031 93 (by decide +kernel) _ _ hP hS _ (lv_sub hl [0, 1, 2, 3] rfl)
                  · have jc_1975 := dk_eqc (k := 6) (by decide +kernel) c_1975
                    exact J_1917 ()  (by omega) _ _ hP hS _ (lv_sub hl [0, 1, 2, 3] rfl)
              · have jc_1803 := dk_ngec (k := 2) (by decide +kernel) c_1803
                refine lv_aload_n hx hb dX12_goesOn_427 rfl (lv_at hl 3 rfl) ?_
                refine dg_get (C := RX12) (T := TX12) (N := 77) hx hb hts (fun w h => bw_mem (wU_X12 w h)) hown K hP sM_0 rfl 8 (by decide) (hts _ (bw_mem wB_1133)) (fun _ h9 => h9) (v := .int y_3) f_y_3 dX12_goesOn_428 ?_
                refine lv_if_ne (tgt := 439) hx hb dX12_goesOn_431 (by decide) (fun c => absurd (dk_eqp (k := 0) (by decide +kernel) (by omega)) c) (fun _ => ?_)
                refine lv_aload_n hx hb dX12_goesOn_434 rfl (lv_at hl 3 rfl) ?_
                refine lv_iconst (v := 1) hx hb dX12_goesOn_435 (by decide +kernel) ?_
                have hz_2088 : (1 : Int32).toInt = 1 := by decide +kernel
                refine dg_callv hS hA1 hA (va_runV (As := [.int 1]) (rest := []) F (c_m_joins l g D o S_2 1 (by decide +kernel) cd ((m_2.1 0 34 _ sM_0 (by decide)).trans f_cd) (by omega) om ((m_2.1 0 45 _ sM_0 (by decide)).trans f_om) (by omega) (by omega) (ZWM.keep ZW m_2 (by decide) (by decide) (by decide) (by decide)) (ZKM.keep ZK m_2 (by decide) (by decide)) (P1M.keep P1 m_2 (by decide) (by decide) (by decide) (by decide) (by decide) (by decide) (by decide) (by decide) (by decide) (by decide) (by decide) (by decide) (by decide) (by decide) (by decide)) I_2 H.size) (cwV 1 hts (bw_V wB_1234 wB_1235 wB_1236 wB_881 wB_1233) rfl rfl rfl (by decide +kernel) ⟨Nat.le_of_ble_eq_true rfl, Nat.le_of_ble_eq_true rfl⟩) (dg_preV sM_0 rfl K ST hP hS hA1 hA) rfl rfl hl.1 rfl (lv_room (Nat.le_of_ble_eq_true rfl)) dX12_goesOn_436 ⟨Nat.le_of_ble_eq_true rfl, Nat.le_of_ble_eq_true rfl⟩) (fun S_2089 hw_2089 H locs hP hS => ?_)
                obtain ⟨I_2089, m_2089, w_2089_0, w_2089_1, w_2089_2, w_2089_3, -⟩ := hw_2089
                have M_2089 := dg_sm.tr M_2 m_2089 (by decide) (by decide)
                have hz_2090 : (1 : Int32).toInt = 1 := by decide +kernel
                obtain ⟨y_2091, y_2092, f_y_2091, f_y_2092, w_2089_0⟩ := w_2089_0
                have w_2089_0 : (y_2091).toInt + (y_2092).toInt = (cd).toInt + (om).toInt := w_2089_0
                have b_y_2091 : 0 ≤ (y_2091).toInt ∧ (y_2091).toInt ≤ 1600 := dg_I.intb (lo := 0) (hi := 1600) I_2089 sM_0 (by decide +kernel) f_y_2091
                have b_y_2092 : 0 ≤ (y_2092).toInt ∧ (y_2092).toInt ≤ 500 := dg_I.intb (lo := 0) (hi := 500) I_2089 sM_0 (by decide +kernel) f_y_2092
                have w_2089_1 : TOPM S_2089 (1 : Int32) := w_2089_1
                obtain ⟨x_2093, f_x_2093, b_x_2093⟩ := dg_I.int (i := 0) (k := 43) (lo := (-2147483648)) (hi := 2147483647) I_2089 sM_0 (by decide +kernel)
                refine lv_iconst (v := 0) hx hb dX12_goesOn_439 (by decide +kernel) ?_
                have hz_2094 : (0 : Int32).toInt = 0 := by decide +kernel
                have hz_2095 : (0 : Int32).toInt = 0 := by decide +kernel
                have hz_2096 : (0 : Int32).toInt = 0 := by decide +kernel
                refine W.widen (k := 0) (n := 0) (Nat.le_of_ble_eq_true rfl) (Nat.le_of_ble_eq_true rfl) ?_
                rw [hQ9]
                exact dg_iret hx hb hr hlocks (by decide +kernel) hP hS ⟨I_2089, M_2089, (by decide +kernel), ⟨sg, sa, se, y_3, y_2091, dp, y_2092, oo, (((m_2089.1 0 3 _ sM_0 (by decide)).trans (m_2.1 0 3 _ sM_0 (by decide))).trans f_sg), (((m_2089.1 0 4 _ sM_0 (by decide)).trans (m_2.1 0 4 _ sM_0 (by decide))).trans f_sa), (((m_2089.1 0 5 _ sM_0 (by decide)).trans (m_2.1 0 5 _ sM_0 (by decide))).trans f_se), ((m_2089.1 0 8 _ sM_0 (by decide)).trans f_y_3), f_y_2091, (((m_2089.1 0 42 _ sM_0 (by decide)).trans (m_2.1 0 42 _ sM_0 (by decide))).trans f_dp), f_y_2092, (((m_2089.1 0 46 _ sM_0 (by decide)).trans (m_2.1 0 46 _ sM_0 (by decide))).trans f_oo), (by omega)⟩, (fun k9 hk9 hk0 => POM.mk1 w_2089_3 (((m_2089.1 0 46 _ sM_0 (by decide)).trans (m_2.1 0 46 _ sM_0 (by decide))).trans f_oo) (by omega)), w_2089_2, trivial⟩ dX12_goesOn_440
            · have jc_1802 := dk_eqc (k := 0) (by decide +kernel) c_1802
              refine lv_aload_n hx hb dX12_goesOn_413 rfl (lv_at hl 3 rfl) ?_
              refine lv_iconst (v := 1) hx hb dX12_goesOn_414 (by decide +kernel) ?_
              refine lv_aload_n hx hb dX12_goesOn_415 rfl (lv_at hl 3 rfl) ?_
              refine dg_get (C := RX12) (T := TX12) (N := 77) hx hb hts (fun w h => bw_mem (wU_X12 w h)) hown K hP sM_0 rfl 4 (by decide) (hts _ (bw_mem wB_1145)) (fun _ h9 => h9) (v := .int sa) ((m_2.1 0 4 _ sM_0 (by decide)).trans f_sa) dX12_goesOn_416 ?_
              have hz_2097 : (1 : Int32).toInt = 1 := by decide +kernel
              refine dg_callv hS hA1 hA (va_runV (As := [.int 1, .int sa]) (rest := []) F (c_m_blame l g D o S_2 1 (by decide +kernel) sa y_3 f_y_3 (by omega) I_2 H.size) (cwV 2 hts (bw_V wB_1137 wB_1138 wB_1139 wB_881 wB_1136) rfl rfl rfl (by decide +kernel) ⟨Nat.le_of_ble_eq_true rfl, Nat.le_of_ble_eq_true rfl⟩) (dg_preV sM_0 rfl K ST hP hS hA1 hA) rfl rfl hl.1 rfl (lv_room (Nat.le_of_ble_eq_true rfl)) dX12_goesOn_419 ⟨Nat.le_of_ble_eq_true rfl, Nat.le_of_ble_eq_true rfl⟩) (fun S_2098 hw_2098 H locs hP hS => ?_)
              obtain ⟨I_2098, m_2098, w_2098_0, -⟩ := hw_2098
              have M_2098 := dg_sm.tr M_2 m_2098 (by decide) (by decide)
              have hz_2099 : (1 : Int32).toInt = 1 := by decide +kernel
              obtain ⟨y_2100, f_y_2100, w_2098_0⟩ := w_2098_0
              have w_2098_0 : ((y_3).toInt ≠ 0 → (y_2100).toInt = (y_3).toInt) ∧ ((y_3).toInt = 0 → (y_2100).toInt = ((1 : Int32)).toInt) := w_2098_0
              obtain ⟨w_2098_0_0, w_2098_0_1⟩ := w_2098_0
              clear w_2098_0_0
              have w_2098_0_1r := w_2098_0_1 (by omega)
              clear w_2098_0_1
              have b_y_2100 : 0 ≤ (y_2100).toInt ∧ (y_2100).toInt ≤ 6 := dg_I.intb (lo := 0) (hi := 6) I_2098 sM_0 (by decide +kernel) f_y_2100
              have hbl_y_2100 : 1 ≤ (y_2100).toInt := by omega
              refine lv_iload_n hx hb dX12_goesOn_422 rfl (lv_at hl 1 rfl) ?_
              refine lv_iconst (v := 2) hx hb dX12_goesOn_423 (by decide +kernel) ?_
              refine lv_icmp_ge (tgt := 441) hx hb dX12_goesOn_424 (by decide) (fun c_2101 => ?_) (fun c_2101 => ?_)
              · have jc_2101 := dk_gec (k := 2) (by decide +kernel) c_2101
                refine lv_iload_n hx hb dX12_goesOn_441 rfl (lv_at hl 1 rfl) ?_
                refine lv_iconst (v := 3) hx hb dX12_goesOn_442 (by decide +kernel) ?_
                have J_2133 : ∀ (u9 : Unit), ((x_7 : Int32).toInt = 3 ∨ (x_7 : Int32).toInt = 6) → ∀ (H : Heap) (locs : List Loc), va_P D vwCl (dg_w g shM o rfM S_2098) H → va_S A s.heap H locs → ∀ ls : Array Slot, lv_has ls 5 [(3, .int x_8), (2, .int x_7), (1, .int x_5), (0, .ref (o + 0))] → W p l e ({ frames := 3, cells := 0, slots := 0, locals := 77 } : Room) s m args below meth c H locs 0 0 Q9 (F0 m 452 ls []) := by
                  intro u9 rel_0 H locs hP hS ls hl
                  refine lv_aload_n hx hb dX12_goesOn_452 rfl (lv_at hl 3 rfl) ?_
                  refine lv_bipush (v := 44) hx hb dX12_goesOn_453 (by decide +kernel) ?_
                  refine dg_calli hS hA1 hA (va_runV (As := [.int 44]) (rest := []) F (c_m_isSign l g D o S_2098 44 sg (((m_2098.1 0 3 _ sM_0 (by decide)).trans (m_2.1 0 3 _ sM_0 (by decide))).trans f_sg) (by omega) va (((m_2098.1 0 6 _ sM_0 (by decide)).trans (m_2.1 0 6 _ sM_0 (by decide))).trans f_va) (by omega) I_2098 H.size) (cwV 1 hts (bw_V wB_1157 wB_1158 wB_1159 wB_881 wB_1156) rfl rfl rfl (by decide +kernel) ⟨Nat.le_of_ble_eq_true rfl, Nat.le_of_ble_eq_true rfl⟩) (dg_preV sM_0 rfl K ST hP hS hA1 hA) rfl rfl hl.1 rfl (lv_room (Nat.le_of_ble_eq_true rfl)) dX12_goesOn_455 ⟨Nat.le_of_ble_eq_true rfl, Nat.le_of_ble_eq_true rfl⟩) (fun x_2134 S_2135 hw_2135 H locs hP hS => ?_)
                  rw [hw_2135.1] at hP
                  obtain ⟨hq_2135, w_2135_0, w_2135_1, -⟩ := hw_2135
                  have hz_2136 : (44 : Int32).toInt = 44 := by decide +kernel
                  have w_2135_0 : 0 ≤ (x_2134).toInt ∧ (x_2134).toInt ≤ 1 := w_2135_0
                  have w_2135_1 : (x_2134).toInt = 1 ↔ ((sg).toInt = 3 ∧ (va).toInt = ((44 : Int32)).toInt) := w_2135_1
                  refine lv_if_ne (tgt := 470) hx hb dX12_goesOn_458 (by decide) (fun c_2137 => ?_) (fun c_2137 => ?_)
                  · have jc_2137 := dk_neqc (k := 0) (by decide +kernel) c_2137
                    have jbc_2137 : 1 ≤ (x_2134).toInt := by omega
                    clear jc_2137
                    have w_2135_1_r := w_2135_1.mp (by omega)
                    obtain ⟨w_2135_1_r1, w_2135_1_r2⟩ := w_2135_1_r
                    clear w_2135_1
                    have hlx_2r := hlx_2 (by omega)
                    clear hlx_2
                    refine lv_aload_n hx hb dX12_goesOn_470 rfl (lv_at hl 3 rfl) ?_
                    refine dg_get (C := RX12) (T := TX12) (N := 77) hx hb hts (fun w h => bw_mem (wU_X12 w h)) hown K hP sM_0 rfl 8 (by decide) (hts _ (bw_mem wB_1133)) (fun _ h9 => h9) (v := .int y_2100) f_y_2100 dX12_goesOn_471 ?_
                    refine lv_if_le (tgt := 479) hx hb dX12_goesOn_474 (by decide) (fun c => absurd c (fun z => absurd (dk_lec (k := 0) (by decide +kernel) z) (by omega))) (fun _ => ?_)
                    refine lv_iconst (v := 0) hx hb dX12_goesOn_477 (by decide +kernel) ?_
                    have hz_2138 : (0 : Int32).toInt = 0 := by decide +kernel
                    have hz_2139 : (0 : Int32).toInt = 0 := by decide +kernel
                    have hz_2140 : (0 : Int32).toInt = 0 := by decide +kernel
                    refine W.widen (k := 0) (n := 0) (Nat.le_of_ble_eq_true rfl) (Nat.le_of_ble_eq_true rfl) ?_
                    rw [hQ9]
                    exact dg_iret hx hb hr hlocks (by decide +kernel) hP hS ⟨I_2098, M_2098, (by decide +kernel), ⟨sg, sa, se, y_2100, cd, dp, om, oo, (((m_2098.1 0 3 _ sM_0 (by decide)).trans (m_2.1 0 3 _ sM_0 (by decide))).trans f_sg), (((m_2098.1 0 4 _ sM_0 (by decide)).trans (m_2.1 0 4 _ sM_0 (by decide))).trans f_sa), (((m_2098.1 0 5 _ sM_0 (by decide)).trans (m_2.1 0 5 _ sM_0 (by decide))).trans f_se), f_y_2100, (((m_2098.1 0 34 _ sM_0 (by decide)).trans (m_2.1 0 34 _ sM_0 (by decide))).trans f_cd), (((m_2098.1 0 42 _ sM_0 (by decide)).trans (m_2.1 0 42 _ sM_0 (by decide))).trans f_dp), (((m_2098.1 0 45 _ sM_0 (by decide)).trans (m_2.1 0 45 _ sM_0 (by decide))).trans f_om), (((m_2098.1 0 46 _ sM_0 (by decide)).trans (m_2.1 0 46 _ sM_0 (by decide))).trans f_oo), (by omega)⟩, (fun k9 hk9 hk0 => by have q9 := (f_y_2100).symm.trans hk9; cases q9; omega), (ZWM.keep (ZWM.keep ZW m_2 (by decide) (by decide) (by decide) (by decide)) m_2098 (by decide) (by decide) (by decide) (by decide)), trivial⟩ dX12_goesOn_478
                  · have jc_2137 := dk_eqc (k := 0) (by decide +kernel) c_2137
                    clear w_2135_1
                    refine lv_aload_n hx hb dX12_goesOn_461 rfl (lv_at hl 3 rfl) ?_
                    refine lv_iconst (v := 1) hx hb dX12_goesOn_462 (by decide +kernel) ?_
                    refine lv_aload_n hx hb dX12_goesOn_463 rfl (lv_at hl 3 rfl) ?_
                    refine dg_get (C := RX12) (T := TX12) (N := 77) hx hb hts (fun w h => bw_mem (wU_X12 w h)) hown K hP sM_0 rfl 4 (by decide) (hts _ (bw_mem wB_1145)) (fun _ h9 => h9) (v := .int sa) (((m_2098.1 0 4 _ sM_0 (by decide)).trans (m_2.1 0 4 _ sM_0 (by decide))).trans f_sa) dX12_goesOn_464 ?_
                    have hz_2141 : (1 : Int32).toInt = 1 := by decide +kernel
                    refine dg_callv hS hA1 hA (va_runV (As := [.int 1, .int sa]) (rest := []) F (c_m_blame l g D o S_2098 1 (by decide +kernel) sa y_2100 f_y_2100 (by omega) I_2098 H.size) (cwV 2 hts (bw_V wB_1137 wB_1138 wB_1139 wB_881 wB_1136) rfl rfl rfl (by decide +kernel) ⟨Nat.le_of_ble_eq_true rfl, Nat.le_of_ble_eq_true rfl⟩) (dg_preV sM_0 rfl K ST hP hS hA1 hA) rfl rfl hl.1 rfl (lv_room (Nat.le_of_ble_eq_true rfl)) dX12_goesOn_467 ⟨Nat.le_of_ble_eq_true rfl, Nat.le_of_ble_eq_true rfl⟩) (fun S_2142 hw_2142 H locs hP hS => ?_)
                    obtain ⟨I_2142, m_2142, w_2142_0, -⟩ := hw_2142
                    have M_2142 := dg_sm.tr M_2098 m_2142 (by decide) (by decide)
                    have hz_2143 : (1 : Int32).toInt = 1 := by decide +kernel
                    obtain ⟨y_2144, f_y_2144, w_2142_0⟩ := w_2142_0
                    have w_2142_0 : ((y_2100).toInt ≠ 0 → (y_2144).toInt = (y_2100).toInt) ∧ ((y_2100).toInt = 0 → (y_2144).toInt = ((1 : Int32)).toInt) := w_2142_0
                    obtain ⟨w_2142_0_0, w_2142_0_1⟩ := w_2142_0
                    have w_2142_0_0r := w_2142_0_0 (by omega)
                    clear w_2142_0_0
                    clear w_2142_0_1
                    have b_y_2144 : 0 ≤ (y_2144).toInt ∧ (y_2144).toInt ≤ 6 := dg_I.intb (lo := 0) (hi := 6) I_2142 sM_0 (by decide +kernel) f_y_2144
                    have hbl_y_2144 : 1 ≤ (y_2144).toInt := by omega
                    refine lv_aload_n hx hb dX12_goesOn_470 rfl (lv_at hl 3 rfl) ?_
                    refine dg_get (C := RX12) (T := TX12) (N := 77) hx hb hts (fun w h => bw_mem (wU_X12 w h)) hown K hP sM_0 rfl 8 (by decide) (hts _ (bw_mem wB_1133)) (fun _ h9 => h9) (v := .int y_2144) f_y_2144 dX12_goesOn_471 ?_
                    refine lv_if_le (tgt := 479) hx hb dX12_goesOn_474 (by decide) (fun c => absurd c (fun z => absurd (dk_lec (k := 0) (by decide +kernel) z) (by omega))) (fun _ => ?_)
                    refine lv_iconst (v := 0) hx hb dX12_goesOn_477 (by decide +kernel) ?_
                    have hz_2145 : (0 : Int32).toInt = 0 := by decide +kernel
                    have hz_2146 : (0 : Int32).toInt = 0 := by decide +kernel
                    have hz_2147 : (0 : Int32).toInt = 0 := by decide +kernel
                    refine W.widen (k := 0) (n := 0) (Nat.le_of_ble_eq_true rfl) (Nat.le_of_ble_eq_true rfl) ?_
                    rw [hQ9]
                    exact dg_iret hx hb hr hlocks (by decide +kernel) hP hS ⟨I_2142, M_2142, (by decide +kernel), ⟨sg, sa, se, y_2144, cd, dp, om, oo, (((m_2142.1 0 3 _ sM_0 (by decide)).trans ((m_2098.1 0 3 _ sM_0 (by decide)).trans (m_2.1 0 3 _ sM_0 (by decide)))).trans f_sg), (((m_2142.1 0 4 _ sM_0 (by decide)).trans ((m_2098.1 0 4 _ sM_0 (by decide)).trans (m_2.1 0 4 _ sM_0 (by decide)))).trans f_sa), (((m_2142.1 0 5 _ sM_0 (by decide)).trans ((m_2098.1 0 5 _ sM_0 (by decide)).trans (m_2.1 0 5 _ sM_0 (by decide)))).trans f_se), f_y_2144, (((m_2142.1 0 34 _ sM_0 (by decide)).trans ((m_2098.1 0 34 _ sM_0 (by decide)).trans (m_2.1 0 34 _ sM_0 (by decide)))).trans f_cd), (((m_2142.1 0 42 _ sM_0 (by decide)).trans ((m_2098.1 0 42 _ sM_0 (by decide)).trans (m_2.1 0 42 _ sM_0 (by decide)))).trans f_dp), (((m_2142.1 0 45 _ sM_0 (by decide)).trans ((m_2098.1 0 45 _ sM_0 (by decide)).trans (m_2.1 0 45 _ sM_0 (by decide)))).trans f_om), (((m_2142.1 0 46 _ sM_0 (by decide)).trans ((m_2098.1 0 46 _ sM_0 (by decide)).trans (m_2.1 0 46 _ sM_0 (by decide)))).trans f_oo), (by omega)⟩, (fun k9 hk9 hk0 => by have q9 := (f_y_2144).symm.trans hk9; cases q9; omega), (ZWM.keep (ZWM.keep (ZWM.keep ZW m_2 (by decide) (by decide) (by decide) (by decide)) m_2098 (by decide) (by decide) (by decide) (by decide)) m_2142 (by decide) (by decide) (by decide) (by decide)), trivial⟩ dX12_goesOn_478
                refine lv_icmp_eq (tgt := 452) hx hb dX12_goesOn_443 (by decide) (fun c_2148 => ?_) (fun c_2148 => ?_)
                · have jc_2148 := dk_eqc (k := 3) (by decide +kernel) c_2148
                  exact J_2133 ()  (by omega) _ _ hP hS _ (lv_sub hl [0, 1, 2, 3] rfl)
                · have jc_2148 := dk_neqc (k := 3) (by decide +kernel) c_2148
                  clear jc_2148
                  refine lv_iload_n hx hb dX12_goesOn_446 rfl (lv_at hl 1 rfl) ?_
                  refine lv_bipush (v := 6) hx hb dX12_goesOn_447 (by decide +kernel) ?_
                  refine lv_icmp_ne (tgt := 518) hx hb dX12_goesOn_449 (by decide) (fun c_2149 => ?_) (fun c_2149 => ?_)
                  · have jc_2149 := dk_neqc (k := 6) (by decide +kernel) c_2149
                    have jtc_2149 : (x_7).toInt ≤ 5 := by omega
                    clear jc_2149
                    refine lv_aload_n hx hb dX12_goesOn_518 rfl (lv_at hl 3 rfl) ?_
                    refine lv_iload_n hx hb dX12_goesOn_519 rfl (lv_at hl 1 rfl) ?_
                    refine lv_iconst (v := 5) hx hb dX12_goesOn_520 (by decide +kernel) ?_
                    have J_2165 : ∀ (x_2151 : Int32), (41 ≤ (x_2151).toInt ∧ (x_2151).toInt ≤ 93) → ∀ (H : Heap) (locs : List Loc), va_P D vwCl (dg_w g shM o rfM S_2098) H → va_S A s.heap H locs → ∀ ls : Array Slot, lv_has ls 5 [(3, .int x_8), (2, .int x_7), (1, .int x_5), (0, .ref (o + 0))] → W p l e ({ frames := 3, cells := 0, slots := 0, locals := 77 } : Room) s m args below meth c H locs 0 0 Q9 (F0 m 531 ls [.int x_2151, .ref (o + 0)]) := by
                      intro x_2151 b_x_2151 H locs hP hS ls hl
                      refine dg_calli hS hA1 hA (va_runV (As := [.int x_2151]) (rest := []) F (c_m_isSign l g D o S_2098 x_2151 sg (((m_2098.1 0 3 _ sM_0 (by decide)).trans (m_2.1 0 3 _ sM_0 (by decide))).trans f_sg) (by omega) va (((m_2098.1 0 6 _ sM_0 (by decide)).trans (m_2.1 0 6 _ sM_0 (by decide))).trans f_va) (by omega) I_2098 H.size) (cwV 1 hts (bw_V wB_1157 wB_1158 wB_1159 wB_881 wB_1156) rfl rfl rfl (by decide +kernel) ⟨Nat.le_of_ble_eq_true rfl, Nat.le_of_ble_eq_true rfl⟩) (dg_preV sM_0 rfl K ST hP hS hA1 hA) rfl rfl hl.1 rfl (lv_room (Nat.le_of_ble_eq_true rfl)) dX12_goesOn_531 ⟨Nat.le_of_ble_eq_true rfl, Nat.le_of_ble_eq_true rfl⟩) (fun x_2166 S_2167 hw_2167 H locs hP hS => ?_)
                      rw [hw_2167.1] at hP
                      obtain ⟨hq_2167, w_2167_0, w_2167_1, -⟩ := hw_2167
                      have w_2167_0 : 0 ≤ (x_2166).toInt ∧ (x_2166).toInt ≤ 1 := w_2167_0
                      have w_2167_1 : (x_2166).toInt = 1 ↔ ((sg).toInt = 3 ∧ (va).toInt = (x_2151).toInt) := w_2167_1
                      refine lv_if_ne (tgt := 546) hx hb dX12_goesOn_534 (by decide) (fun c_2168 => ?_) (fun c_2168 => ?_)
                      · have jc_2168 := dk_neqc (k := 0) (by decide +kernel) c_2168
                        have jbc_2168 : 1 ≤ (x_2166).toInt := by omega
                        clear jc_2168
                        have w_2167_1_r := w_2167_1.mp (by omega)
                        obtain ⟨w_2167_1_r1, w_2167_1_r2⟩ := w_2167_1_r
                        clear w_2167_1
                        have hlx_2r := hlx_2 (by omega)
                        clear hlx_2
                        refine lv_aload_n hx hb dX12_goesOn_546 rfl (lv_at hl 3 rfl) ?_
                        refine dg_get (C := RX12) (T := TX12) (N := 77) hx hb hts (fun w h => bw_mem (wU_X12 w h)) hown K hP sM_0 rfl 8 (by decide) (hts _ (bw_mem wB_1133)) (fun _ h9 => h9) (v := .int y_2100) f_y_2100 dX12_goesOn_547 ?_
                        refine lv_if_le (tgt := 555) hx hb dX12_goesOn_550 (by decide) (fun c => absurd c (fun z => absurd (dk_lec (k := 0) (by decide +kernel) z) (by omega))) (fun _ => ?_)
                        refine lv_iconst (v := 0) hx hb dX12_goesOn_553 (by decide +kernel) ?_
                        have hz_2169 : (0 : Int32).toInt = 0 := by decide +kernel
                        have hz_2170 : (0 : Int32).toInt = 0 := by decide +kernel
                        have hz_2171 : (0 : Int32).toInt = 0 := by decide +kernel
                        refine W.widen (k := 0) (n := 0) (Nat.le_of_ble_eq_true rfl) (Nat.le_of_ble_eq_true rfl) ?_
                        rw [hQ9]
                        exact dg_iret hx hb hr hlocks (by decide +kernel) hP hS ⟨I_2098, M_2098, (by decide +kernel), ⟨sg, sa, se, y_2100, cd, dp, om, oo, (((m_2098.1 0 3 _ sM_0 (by decide)).trans (m_2.1 0 3 _ sM_0 (by decide))).trans f_sg), (((m_2098.1 0 4 _ sM_0 (by decide)).trans (m_2.1 0 4 _ sM_0 (by decide))).trans f_sa), (((m_2098.1 0 5 _ sM_0 (by decide)).trans (m_2.1 0 5 _ sM_0 (by decide))).trans f_se), f_y_2100, (((m_2098.1 0 34 _ sM_0 (by decide)).trans (m_2.1 0 34 _ sM_0 (by decide))).trans f_cd), (((m_2098.1 0 42 _ sM_0 (by decide)).trans (m_2.1 0 42 _ sM_0 (by decide))).trans f_dp), (((m_2098.1 0 45 _ sM_0 (by decide)).trans (m_2.1 0 45 _ sM_0 (by decide))).trans f_om), (((m_2098.1 0 46 _ sM_0 (by decide)).trans (m_2.1 0 46 _ sM_0 (by decide))).trans f_oo), (by omega)⟩, (fun k9 hk9 hk0 => by have q9 := (f_y_2100).symm.trans hk9; cases q9; omega), (ZWM.keep (ZWM.keep ZW m_2 (by decide) (by decide) (by decide) (by decide)) m_2098 (by decide) (by decide) (by decide) (by decide)), trivial⟩ dX12_goesOn_554
                      · have jc_2168 := dk_eqc (k := 0) (by decide +kernel) c_2168
                        clear w_2167_1
                        refine lv_aload_n hx hb dX12_goesOn_537 rfl (lv_at hl 3 rfl) ?_
                        refine lv_iconst (v := 1) hx hb dX12_goesOn_538 (by decide +kernel) ?_
                        refine lv_aload_n hx hb dX12_goesOn_539 rfl (lv_at hl 3 rfl) ?_
                        refine dg_get (C := RX12) (T := TX12) (N := 77) hx hb hts (fun w h => bw_mem (wU_X12 w h)) hown K hP sM_0 rfl 4 (by decide) (hts _ (bw_mem wB_1145)) (fun _ h9 => h9) (v := .int sa) (((m_2098.1 0 4 _ sM_0 (by decide)).trans (m_2.1 0 4 _ sM_0 (by decide))).trans f_sa) dX12_goesOn_540 ?_
                        have hz_2172 : (1 : Int32).toInt = 1 := by decide +kernel
                        refine dg_callv hS hA1 hA (va_runV (As := [.int 1, .int sa]) (rest := []) F (c_m_blame l g D o S_2098 1 (by decide +kernel) sa y_2100 f_y_2100 (by omega) I_2098 H.size) (cwV 2 hts (bw_V wB_1137 wB_1138 wB_1139 wB_881 wB_1136) rfl rfl rfl (by decide +kernel) ⟨Nat.le_of_ble_eq_true rfl, Nat.le_of_ble_eq_true rfl⟩) (dg_preV sM_0 rfl K ST hP hS hA1 hA) rfl rfl hl.1 rfl (lv_room (Nat.le_of_ble_eq_true rfl)) dX12_goesOn_543 ⟨Nat.le_of_ble_eq_true rfl, Nat.le_of_ble_eq_true rfl⟩) (fun S_2173 hw_2173 H locs hP hS => ?_)
                        obtain ⟨I_2173, m_2173, w_2173_0, -⟩ := hw_2173
                        have M_2173 := dg_sm.tr M_2098 m_2173 (by decide) (by decide)
                        have hz_2174 : (1 : Int32).toInt = 1 := by decide +kernel
                        obtain ⟨y_2175, f_y_2175, w_2173_0⟩ := w_2173_0
                        have w_2173_0 : ((y_2100).toInt ≠ 0 → (y_2175).toInt = (y_2100).toInt) ∧ ((y_2100).toInt = 0 → (y_2175).toInt = ((1 : Int32)).toInt) := w_2173_0
                        obtain ⟨w_2173_0_0, w_2173_0_1⟩ := w_2173_0
                        have w_2173_0_0r := w_2173_0_0 (by omega)
                        clear w_2173_0_0
                        clear w_2173_0_1
                        have b_y_2175 : 0 ≤ (y_2175).toInt ∧ (y_2175).toInt ≤ 6 := dg_I.intb (lo := 0) (hi := 6) I_2173 sM_0 (by decide +kernel) f_y_2175
                        have hbl_y_2175 : 1 ≤ (y_2175).toInt := by omega
                        refine lv_aload_n hx hb dX12_goesOn_546 rfl (lv_at hl 3 rfl) ?_
                        refine dg_get (C := RX12) (T := TX12) (N := 77) hx hb hts (fun w h => bw_mem (wU_X12 w h)) hown K hP sM_0 rfl 8 (by decide) (hts _ (bw_mem wB_1133)) (fun _ h9 => h9) (v := .int y_2175) f_y_2175 dX12_goesOn_547 ?_
                        refine lv_if_le (tgt := 555) hx hb dX12_goesOn_550 (by decide) (fun c => absurd c (fun z => absurd (dk_lec (k := 0) (by decide +kernel) z) (by omega))) (fun _ => ?_)
                        refine lv_iconst (v := 0) hx hb dX12_goesOn_553 (by decide +kernel) ?_
                        have hz_2176 : (0 : Int32).toInt = 0 := by decide +kernel
                        have hz_2177 : (0 : Int32).toInt = 0 := by decide +kernel
                        have hz_2178 : (0 : Int32).toInt = 0 := by decide +kernel
                        refine W.widen (k := 0) (n := 0) (Nat.le_of_ble_eq_true rfl) (Nat.le_of_ble_eq_true rfl) ?_
                        rw [hQ9]
                        exact dg_iret hx hb hr hlocks (by decide +kernel) hP hS ⟨I_2173, M_2173, (by decide +kernel), ⟨sg, sa, se, y_2175, cd, dp, om, oo, (((m_2173.1 0 3 _ sM_0 (by decide)).trans ((m_2098.1 0 3 _ sM_0 (by decide)).trans (m_2.1 0 3 _ sM_0 (by decide)))).trans f_sg), (((m_2173.1 0 4 _ sM_0 (by decide)).trans ((m_2098.1 0 4 _ sM_0 (by decide)).trans (m_2.1 0 4 _ sM_0 (by decide)))).trans f_sa), (((m_2173.1 0 5 _ sM_0 (by decide)).trans ((m_2098.1 0 5 _ sM_0 (by decide)).trans (m_2.1 0 5 _ sM_0 (by decide)))).trans f_se), f_y_2175, (((m_2173.1 0 34 _ sM_0 (by decide)).trans ((m_2098.1 0 34 _ sM_0 (by decide)).trans (m_2.1 0 34 _ sM_0 (by decide)))).trans f_cd), (((m_2173.1 0 42 _ sM_0 (by decide)).trans ((m_2098.1 0 42 _ sM_0 (by decide)).trans (m_2.1 0 42 _ sM_0 (by decide)))).trans f_dp), (((m_2173.1 0 45 _ sM_0 (by decide)).trans ((m_2098.1 0 45 _ sM_0 (by decide)).trans (m_2.1 0 45 _ sM_0 (by decide)))).trans f_om), (((m_2173.1 0 46 _ sM_0 (by decide)).trans ((m_2098.1 0 46 _ sM_0 (by decide)).trans (m_2.1 0 46 _ sM_0 (by decide)))).trans f_oo), (by omega)⟩, (fun k9 hk9 hk0 => by have q9 := (f_y_2175).symm.trans hk9; cases q9; omega), (ZWM.keep (ZWM.keep (ZWM.keep ZW m_2 (by decide) (by decide) (by decide) (by decide)) m_2098 (by decide) (by decide) (by decide) (by decide)) m_2173 (by decide) (by decide) (by decide) (by decide)), trivial⟩ dX12_goesOn_554
                    refine lv_icmp_ne (tgt := 529) hx hb dX12_goesOn_521 (by decide) (fun c_2179 => ?_) (fun c_2179 => ?_)
                    · have jc_2179 := dk_neqc (k := 5) (by decide +kernel) c_2179
                      have jtc_2179 : (x_7).toInt ≤ 4 := by omega
                      clear jc_2179
                      refine lv_bipush (v := 41) hx hb dX12_goesOn_529 (by decide +kernel) ?_
                      have hz_2180 : (41 : Int32).toInt = 41 := by decide +kernel
                      exact J_2165 41 (by decide +kernel) _ _ hP hS _ (lv_sub hl [0, 1, 2, 3] rfl)
                    · have jc_2179 := dk_eqc (k := 5) (by decide +kernel) c_2179
                      refine lv_bipush (v := 93) hx hb dX12_goesOn_524 (by decide +kernel) ?_
                      refine lv_goto (tgt := 531) hx hb dX12_goesOn_526 (by decide) ?_
                      have hz_2181 : (93 : Int32).toInt = 93 := by decide +kernel
                      exact J_2165 93 (by decide +kernel) _ _ hP hS _ (lv_sub hl [0, 1, 2, 3] rfl)
                  · have jc_2149 := dk_eqc (k := 6) (by decide +kernel) c_2149
                    exact J_2133 ()  (by omega) _ _ hP hS _ (lv_sub hl [0, 1, 2, 3] rfl)
              · have jc_2101 := dk_ngec (k := 2) (by decide +kernel) c_2101
                refine lv_aload_n hx hb dX12_goesOn_427 rfl (lv_at hl 3 rfl) ?_
                refine dg_get (C := RX12) (T := TX12) (N := 77) hx hb hts (fun w h => bw_mem (wU_X12 w h)) hown K hP sM_0 rfl 8 (by decide) (hts _ (bw_mem wB_1133)) (fun _ h9 => h9) (v := .int y_2100) f_y_2100 dX12_goesOn_428 ?_
                refine lv_if_ne (tgt := 439) hx hb dX12_goesOn_431 (by decide) (fun _ => ?_) (fun c => absurd c (fun z => absurd (dk_eqc (k := 0) (by decide +kernel) z) (by omega)))
                refine lv_iconst (v := 0) hx hb dX12_goesOn_439 (by decide +kernel) ?_
                have hz_2182 : (0 : Int32).toInt = 0 := by decide +kernel
                have hz_2183 : (0 : Int32).toInt = 0 := by decide +kernel
                have hz_2184 : (0 : Int32).toInt = 0 := by decide +kernel
                refine W.widen (k := 0) (n := 0) (Nat.le_of_ble_eq_true rfl) (Nat.le_of_ble_eq_true rfl) ?_
                rw [hQ9]
                exact dg_iret hx hb hr hlocks (by decide +kernel) hP hS ⟨I_2098, M_2098, (by decide +kernel), ⟨sg, sa, se, y_2100, cd, dp, om, oo, (((m_2098.1 0 3 _ sM_0 (by decide)).trans (m_2.1 0 3 _ sM_0 (by decide))).trans f_sg), (((m_2098.1 0 4 _ sM_0 (by decide)).trans (m_2.1 0 4 _ sM_0 (by decide))).trans f_sa), (((m_2098.1 0 5 _ sM_0 (by decide)).trans (m_2.1 0 5 _ sM_0 (by decide))).trans f_se), f_y_2100, (((m_2098.1 0 34 _ sM_0 (by decide)).trans (m_2.1 0 34 _ sM_0 (by decide))).trans f_cd), (((m_2098.1 0 42 _ sM_0 (by decide)).trans (m_2.1 0 42 _ sM_0 (by decide))).trans f_dp), (((m_2098.1 0 45 _ sM_0 (by decide)).trans (m_2.1 0 45 _ sM_0 (by decide))).trans f_om), (((m_2098.1 0 46 _ sM_0 (by decide)).trans (m_2.1 0 46 _ sM_0 (by decide))).trans f_oo), (by omega)⟩, (fun k9 hk9 hk0 => by have q9 := (f_y_2100).symm.trans hk9; cases q9; omega), (ZWM.keep (ZWM.keep ZW m_2 (by decide) (by decide) (by decide) (by decide)) m_2098 (by decide) (by decide) (by decide) (by decide)), trivial⟩ dX12_goesOn_440
        refine lv_if_eq (tgt := 400) hx hb dX12_goesOn_286 (by decide) (fun c_2185 => ?_) (fun c_2185 => ?_)
        · have jc_2185 := dk_eqc (k := 0) (by decide +kernel) c_2185
          clear w_9_1
          exact J_1504   _ _ hP hS _ (lv_sub hl [0, 1, 2, 3] rfl)
        · have jc_2185 := dk_neqc (k := 0) (by decide +kernel) c_2185
          have jbc_2185 : 1 ≤ (x_8).toInt := by omega
          clear jc_2185
          have w_9_1_r := w_9_1.mp (by omega)
          clear w_9_1
          refine lv_aload_n hx hb dX12_goesOn_289 rfl (lv_at hl 3 rfl) ?_
          refine lv_ldc2 hx hb hown (hts _ (bw_mem wB_1190)) dX12_goesOn_290 ?_
          refine dg_calli hS hA1 hA (va_runV (As := [.long 6385252]) (rest := []) F (c_m_isWord l g D o S_2 6385252 sg ((m_2.1 0 3 _ sM_0 (by decide)).trans f_sg) (by omega) I_2 H.size) (cwV 1 hts (bw_V wB_1165 wB_1166 wB_1167 wB_881 wB_1164) rfl rfl rfl (by decide +kernel) ⟨Nat.le_of_ble_eq_true rfl, Nat.le_of_ble_eq_true rfl⟩) (dg_preV sM_0 rfl K ST hP hS hA1 hA) rfl rfl hl.1 rfl (lv_room (Nat.le_of_ble_eq_true rfl)) dX12_goesOn_293 ⟨Nat.le_of_ble_eq_true rfl, Nat.le_of_ble_eq_true rfl⟩) (fun x_2186 S_2187 hw_2187 H locs hP hS => ?_)
          rw [hw_2187.1] at hP
          obtain ⟨hq_2187, w_2187_0, w_2187_1, -⟩ := hw_2187
          have w_2187_0 : 0 ≤ (x_2186).toInt ∧ (x_2186).toInt ≤ 1 := w_2187_0
          have w_2187_1 : (x_2186).toInt = 1 → (sg).toInt = 1 := w_2187_1
          have J_2259 : ∀ (u9 : Unit), ((sg).toInt = 1) → ∀ (H : Heap) (locs : List Loc), va_P D vwCl (dg_w g shM o rfM S_2) H → va_S A s.heap H locs → ∀ ls : Array Slot, lv_has ls 5 [(3, .int x_8), (2, .int x_7), (1, .int x_5), (0, .ref (o + 0))] → W p l e ({ frames := 3, cells := 0, slots := 0, locals := 77 } : Room) s m args below meth c H locs 0 0 Q9 (F0 m 309 ls []) := by
            intro u9 rel_0 H locs hP hS ls hl
            clear w_2187_1
            refine lv_aload_n hx hb dX12_goesOn_309 rfl (lv_at hl 3 rfl) ?_
            refine dg_get (C := RX12) (T := TX12) (N := 77) hx hb hts (fun w h => bw_mem (wU_X12 w h)) hown K hP sM_0 rfl 38 (by decide) (hts _ (bw_mem wB_1214)) (fun _ h9 => h9) (v := .ref (o + 23)) (show S_2.1 0 38 = .ref (o + 23) from dg_I.rel (d := 23) I_2 sM_0 (by decide +kernel)) dX12_goesOn_310 ?_
            refine lv_iload_n hx hb dX12_goesOn_313 rfl (lv_at hl 2 rfl) ?_
            have hin_2260 : vp_in x_5 20 := (dk_inv (by omega) (by omega))
            refine dg_iald hx hb K hP sM_23 hin_2260 dX12_goesOn_314 (fun y_2261 ey_2261 => ?_)
            obtain rfl : x_11 = y_2261 := (ey_2261.trans ex_11.symm).symm
            refine lv_if_ne (tgt := 327) hx hb dX12_goesOn_315 (by decide) (fun c_2262 => ?_) (fun c_2262 => ?_)
            · have jc_2262 := dk_neqc (k := 0) (by decide +kernel) c_2262
              have jbc_2262 : 1 ≤ (x_11).toInt := by omega
              clear jc_2262
              refine lv_aload_n hx hb dX12_goesOn_327 rfl (lv_at hl 3 rfl) ?_
              refine dg_get (C := RX12) (T := TX12) (N := 77) hx hb hts (fun w h => bw_mem (wU_X12 w h)) hown K hP sM_0 rfl 8 (by decide) (hts _ (bw_mem wB_1133)) (fun _ h9 => h9) (v := .int y_3) f_y_3 dX12_goesOn_328 ?_
              refine lv_if_le (tgt := 336) hx hb dX12_goesOn_331 (by decide) (fun _ => ?_) (fun c => absurd (dk_lep (k := 0) (by decide +kernel) (by omega)) c)
              refine lv_aload_n hx hb dX12_goesOn_336 rfl (lv_at hl 3 rfl) ?_
              refine lv_ldc2 hx hb hown (hts _ (bw_mem wB_1190)) dX12_goesOn_337 ?_
              refine dg_calli hS hA1 hA (va_runV (As := [.long 6385252]) (rest := []) F (c_m_isWord l g D o S_2 6385252 sg ((m_2.1 0 3 _ sM_0 (by decide)).trans f_sg) (by omega) I_2 H.size) (cwV 1 hts (bw_V wB_1165 wB_1166 wB_1167 wB_881 wB_1164) rfl rfl rfl (by decide +kernel) ⟨Nat.le_of_ble_eq_true rfl, Nat.le_of_ble_eq_true rfl⟩) (dg_preV sM_0 rfl K ST hP hS hA1 hA) rfl rfl hl.1 rfl (lv_room (Nat.le_of_ble_eq_true rfl)) dX12_goesOn_340 ⟨Nat.le_of_ble_eq_true rfl, Nat.le_of_ble_eq_true rfl⟩) (fun x_2263 S_2264 hw_2264 H locs hP hS => ?_)
              rw [hw_2264.1] at hP
              obtain ⟨hq_2264, w_2264_0, w_2264_1, -⟩ := hw_2264
              have w_2264_0 : 0 ≤ (x_2263).toInt ∧ (x_2263).toInt ≤ 1 := w_2264_0
              have w_2264_1 : (x_2263).toInt = 1 → (sg).toInt = 1 := w_2264_1
              refine lv_istore (lv' := [(4, .int x_2263), (3, .int x_8), (2, .int x_7), (1, .int x_5), (0, .ref (o + 0))]) hx hb dX12_goesOn_343 hl (by decide) rfl (fun ls hl => ?_)
              refine lv_aload_n hx hb dX12_goesOn_345 rfl (lv_at hl 4 rfl) ?_
              refine lv_iload hx hb dX12_goesOn_346 (lv_at hl 0 rfl) ?_
              refine lv_if_eq (tgt := 355) hx hb dX12_goesOn_348 (by decide) (fun c_2265 => ?_) (fun c_2265 => ?_)
              · have jc_2265 := dk_eqc (k := 0) (by decide +kernel) c_2265
                clear w_2264_1
                refine lv_iconst (v := 1) hx hb dX12_goesOn_355 (by decide +kernel) ?_
                have hz_2266 : (1 : Int32).toInt = 1 := by decide +kernel
                refine dg_callv hS hA1 hA (va_runV (As := [.int 1]) (rest := []) F (c_m_joins l g D o S_2 1 (by decide +kernel) cd ((m_2.1 0 34 _ sM_0 (by decide)).trans f_cd) (by omega) om ((m_2.1 0 45 _ sM_0 (by decide)).trans f_om) (by omega) (by omega) (ZWM.keep ZW m_2 (by decide) (by decide) (by decide) (by decide)) (ZKM.keep ZK m_2 (by decide) (by decide)) (P1M.keep P1 m_2 (by decide) (by decide) (by decide) (by decide) (by decide) (by decide) (by decide) (by decide) (by decide) (by decide) (by decide) (by decide) (by decide) (by decide) (by decide)) I_2 H.size) (cwV 1 hts (bw_V wB_1234 wB_1235 wB_1236 wB_881 wB_1233) rfl rfl rfl (by decide +kernel) ⟨Nat.le_of_ble_eq_true rfl, Nat.le_of_ble_eq_true rfl⟩) (dg_preV sM_0 rfl K ST hP hS hA1 hA) rfl rfl hl.1 rfl (lv_room (Nat.le_of_ble_eq_true rfl)) dX12_goesOn_356 ⟨Nat.le_of_ble_eq_true rfl, Nat.le_of_ble_eq_true rfl⟩) (fun S_2267 hw_2267 H locs hP hS => ?_)
                obtain ⟨I_2267, m_2267, w_2267_0, w_2267_1, w_2267_2, w_2267_3, -⟩ := hw_2267
                have M_2267 := dg_sm.tr M_2 m_2267 (by decide) (by decide)
                have hz_2268 : (1 : Int32).toInt = 1 := by decide +kernel
                obtain ⟨y_2269, y_2270, f_y_2269, f_y_2270, w_2267_0⟩ := w_2267_0
                have w_2267_0 : (y_2269).toInt + (y_2270).toInt = (cd).toInt + (om).toInt := w_2267_0
                have b_y_2269 : 0 ≤ (y_2269).toInt ∧ (y_2269).toInt ≤ 1600 := dg_I.intb (lo := 0) (hi := 1600) I_2267 sM_0 (by decide +kernel) f_y_2269
                have b_y_2270 : 0 ≤ (y_2270).toInt ∧ (y_2270).toInt ≤ 500 := dg_I.intb (lo := 0) (hi := 500) I_2267 sM_0 (by decide +kernel) f_y_2270
                have w_2267_1 : TOPM S_2267 (1 : Int32) := w_2267_1
                obtain ⟨x_2271, f_x_2271, b_x_2271⟩ := dg_I.int (i := 0) (k := 43) (lo := (-2147483648)) (hi := 2147483647) I_2267 sM_0 (by decide +kernel)
                refine lv_aload_n hx hb dX12_goesOn_359 rfl (lv_at hl 4 rfl) ?_
                refine lv_iload hx hb dX12_goesOn_360 (lv_at hl 0 rfl) ?_
                refine lv_if_eq (tgt := 370) hx hb dX12_goesOn_362 (by decide) (fun _ => ?_) (fun c => absurd (dk_eqp (k := 0) (by decide +kernel) (by omega)) c)
                refine lv_bipush (v := 42) hx hb dX12_goesOn_370 (by decide +kernel) ?_
                refine dg_callv hS hA1 hA (va_runV (As := [.int 42]) (rest := []) F (c_m_holdsBack l g D o S_2267 42 y_2270 f_y_2270 (by omega) I_2267 H.size) (cwV 1 hts (bw_V wB_1224 wB_1225 wB_1226 wB_881 wB_1223) rfl rfl rfl (by decide +kernel) ⟨Nat.le_of_ble_eq_true rfl, Nat.le_of_ble_eq_true rfl⟩) (dg_preV sM_0 rfl K ST hP hS hA1 hA) rfl rfl hl.1 rfl (lv_room (Nat.le_of_ble_eq_true rfl)) dX12_goesOn_372 ⟨Nat.le_of_ble_eq_true rfl, Nat.le_of_ble_eq_true rfl⟩) (fun S_2272 hw_2272 H locs hP hS => ?_)
                obtain ⟨I_2272, m_2272, w_2272_0, w_2272_1, -⟩ := hw_2272
                have M_2272 := dg_sm.tr M_2267 m_2272 (by decide) (by decide)
                have hz_2273 : (42 : Int32).toInt = 42 := by decide +kernel
                obtain ⟨y_2274, f_y_2274, w_2272_0⟩ := w_2272_0
                have w_2272_0 : (y_2274).toInt = (y_2270).toInt + 1 := w_2272_0
                have b_y_2274 : 0 ≤ (y_2274).toInt ∧ (y_2274).toInt ≤ 500 := dg_I.intb (lo := 0) (hi := 500) I_2272 sM_0 (by decide +kernel) f_y_2274
                have w_2272_1 : HBM S_2267 S_2272 (42 : Int32) := w_2272_1
                refine lv_aload_n hx hb dX12_goesOn_375 rfl (lv_at hl 4 rfl) ?_
                refine dg_get (C := RX12) (T := TX12) (N := 77) hx hb hts (fun w h => bw_mem (wU_X12 w h)) hown K hP sM_0 rfl 38 (by decide) (hts _ (bw_mem wB_1214)) (fun _ h9 => h9) (v := .ref (o + 23)) (show S_2272.1 0 38 = .ref (o + 23) from dg_I.rel (d := 23) I_2272 sM_0 (by decide +kernel)) dX12_goesOn_376 ?_
                refine lv_iload_n hx hb dX12_goesOn_379 rfl (lv_at hl 3 rfl) ?_
                refine lv_iconst (v := 0) hx hb dX12_goesOn_380 (by decide +kernel) ?_
                have hin_2275 : vp_in x_5 20 := (dk_inv (by omega) (by omega))
                have hz_2277 : (0 : Int32).toInt = 0 := by decide +kernel
                refine dg_iast hx hb K hP hS hA1 sM_23 hin_2275 dX12_goesOn_381 (fun S_2276 e_2276 H locs hP hS => ?_)
                have I_2276 := dg_I.ufu (lo := 0) (hi := 2) I_2272 e_2276 sM_23 (by decide +kernel) (show 0 ≤ ((0 : Int32)).toInt ∧ ((0 : Int32)).toInt ≤ 2 from (by decide +kernel))
                have M_2276 := dg_sm.uf M_2272 e_2276 sM_23 (by decide)
                have hz_2278 : (0 : Int32).toInt = 0 := by decide +kernel
                refine lv_aload_n hx hb dX12_goesOn_382 rfl (lv_at hl 4 rfl) ?_
                refine dg_get (C := RX12) (T := TX12) (N := 77) hx hb hts (fun w h => bw_mem (wU_X12 w h)) hown K hP sM_0 rfl 39 (by decide) (hts _ (bw_mem wB_1215)) (fun _ h9 => h9) (v := .ref (o + 24)) (show S_2276.1 0 39 = .ref (o + 24) from dg_I.rel (d := 24) I_2276 sM_0 (by decide +kernel)) dX12_goesOn_383 ?_
                refine lv_iload_n hx hb dX12_goesOn_386 rfl (lv_at hl 3 rfl) ?_
                refine lv_iconst (v := 1) hx hb dX12_goesOn_387 (by decide +kernel) ?_
                have hin_2279 : vp_in x_5 20 := (dk_inv (by omega) (by omega))
                have hz_2281 : (1 : Int32).toInt = 1 := by decide +kernel
                refine dg_zast hx hb K hP hS hA1 sM_24 hin_2279 (by decide +kernel) dX12_goesOn_388 (fun S_2280 e_2280 H locs hP hS => ?_)
                have I_2280 := dg_I.ufu (lo := 0) (hi := 1) I_2276 e_2280 sM_24 (by decide +kernel) (show 0 ≤ ((1 : Int32)).toInt ∧ ((1 : Int32)).toInt ≤ 1 from (by decide +kernel))
                have M_2280 := dg_sm.uf M_2276 e_2280 sM_24 (by decide)
                have P0_2280 : P0M S_2280 := P1M.andor w_2267_3 (((m_2267.1 0 42 _ sM_0 (by decide)).trans (m_2.1 0 42 _ sM_0 (by decide))).trans f_dp) f_x_2271 f_y_2270 w_2267_1 m_2272 w_2272_1 (by omega) (fx := x_5) (by omega) e_2276 e_2280
                refine lv_aload_n hx hb dX12_goesOn_389 rfl (lv_at hl 4 rfl) ?_
                refine dg_callv hS hA1 hA (va_runV (As := []) (rest := []) F (c_m_ahead l g D o S_2280 se (((dg_uf_F e_2280 0 5).trans ((dg_uf_F e_2276 0 5).trans ((m_2272.1 0 5 _ sM_0 (by decide)).trans ((m_2267.1 0 5 _ sM_0 (by decide)).trans (m_2.1 0 5 _ sM_0 (by decide)))))).trans f_se) (by omega) sl (((dg_uf_F e_2280 0 2).trans ((dg_uf_F e_2276 0 2).trans ((m_2272.1 0 2 _ sM_0 (by decide)).trans ((m_2267.1 0 2 _ sM_0 (by decide)).trans (m_2.1 0 2 _ sM_0 (by decide)))))).trans f_sl) (by omega) (by omega) I_2280 H.size) (cwV 0 hts (bw_V wB_1161 wB_1162 wB_1163 wB_881 wB_1160) rfl rfl rfl (by decide +kernel) ⟨Nat.le_of_ble_eq_true rfl, Nat.le_of_ble_eq_true rfl⟩) (dg_preV sM_0 rfl K ST hP hS hA1 hA) rfl rfl hl.1 rfl (lv_room (Nat.le_of_ble_eq_true rfl)) dX12_goesOn_390 ⟨Nat.le_of_ble_eq_true rfl, Nat.le_of_ble_eq_true rfl⟩) (fun S_2282 hw_2282 H locs hP hS => ?_)
                obtain ⟨I_2282, m_2282, w_2282_0, -⟩ := hw_2282
                have M_2282 := dg_sm.tr M_2280 m_2282 (by decide) (by decide)
                obtain ⟨y_2283, y_2284, y_2285, f_y_2283, f_y_2284, f_y_2285, w_2282_0⟩ := w_2282_0
                have w_2282_0 : (se).toInt ≤ (y_2284).toInt ∧ (y_2284).toInt ≤ (y_2285).toInt ∧ (y_2285).toInt ≤ (sl).toInt ∧ ((y_2283).toInt ≠ 0 → (y_2284).toInt + 1 ≤ (y_2285).toInt) := w_2282_0
                obtain ⟨w_2282_0_0, w_2282_0_1, w_2282_0_2, w_2282_0_3⟩ := w_2282_0
                have b_y_2283 : 0 ≤ (y_2283).toInt ∧ (y_2283).toInt ≤ 3 := dg_I.intb (lo := 0) (hi := 3) I_2282 sM_0 (by decide +kernel) f_y_2283
                have b_y_2284 : 0 ≤ (y_2284).toInt ∧ (y_2284).toInt ≤ 1600 := dg_I.intb (lo := 0) (hi := 1600) I_2282 sM_0 (by decide +kernel) f_y_2284
                have b_y_2285 : 0 ≤ (y_2285).toInt ∧ (y_2285).toInt ≤ 1600 := dg_I.intb (lo := 0) (hi := 1600) I_2282 sM_0 (by decide +kernel) f_y_2285
                refine lv_aload_n hx hb dX12_goesOn_393 rfl (lv_at hl 4 rfl) ?_
                refine lv_iconst (v := 0) hx hb dX12_goesOn_394 (by decide +kernel) ?_
                have hz_2286 : (0 : Int32).toInt = 0 := by decide +kernel
                refine dg_put (ci := 12) (v := .int 0) (ty := tyX12 46) (C := RX12) (T := TX12) (N := 77) hx hb hts (fun w h => bw_mem (wU_X12 w h)) tyX12 tyX12_ok nmX12 hown K hP hS hA1 sM_0 rfl 46 (by decide) (hts _ (bw_mem wB_1237)) (fun _ h9 => h9) rfl (by decide +kernel) (by decide +kernel) (by decide +kernel) dX12_goesOn_395 (fun S_2287 e_2287 H locs hP hS => ?_)
                have I_2287 := dg_I.uFi (lo := 0) (hi := 1) I_2282 e_2287 sM_0 (by decide +kernel) (show 0 ≤ ((0 : Int32)).toInt ∧ ((0 : Int32)).toInt ≤ 1 from (by decide +kernel))
                have M_2287 := dg_sm.uF M_2282 e_2287 sM_0 (by decide)
                refine lv_iconst (v := 1) hx hb dX12_goesOn_398 (by decide +kernel) ?_
                have hz_2288 : (1 : Int32).toInt = 1 := by decide +kernel
                have hz_2289 : (1 : Int32).toInt = 1 := by decide +kernel
                have hz_2290 : (0 : Int32).toInt = 0 := by decide +kernel
                have hz_2291 : (1 : Int32).toInt = 1 := by decide +kernel
                have hz_2292 : (0 : Int32).toInt = 0 := by decide +kernel
                refine W.widen (k := 0) (n := 0) (Nat.le_of_ble_eq_true rfl) (Nat.le_of_ble_eq_true rfl) ?_
                rw [hQ9]
                exact dg_iret hx hb hr hlocks (by decide +kernel) hP hS ⟨I_2287, M_2287, (by decide +kernel), ⟨y_2283, y_2284, y_2285, y_3, y_2269, dp, y_2274, 0, ((dg_uF_ne e_2287 (fun z => absurd z.2 (by decide))).trans f_y_2283), ((dg_uF_ne e_2287 (fun z => absurd z.2 (by decide))).trans f_y_2284), ((dg_uF_ne e_2287 (fun z => absurd z.2 (by decide))).trans f_y_2285), (((dg_uF_ne e_2287 (fun z => absurd z.2 (by decide))).trans ((m_2282.1 0 8 _ sM_0 (by decide)).trans ((dg_uf_F e_2280 0 8).trans ((dg_uf_F e_2276 0 8).trans ((m_2272.1 0 8 _ sM_0 (by decide)).trans (m_2267.1 0 8 _ sM_0 (by decide))))))).trans f_y_3), (((dg_uF_ne e_2287 (fun z => absurd z.2 (by decide))).trans ((m_2282.1 0 34 _ sM_0 (by decide)).trans ((dg_uf_F e_2280 0 34).trans ((dg_uf_F e_2276 0 34).trans (m_2272.1 0 34 _ sM_0 (by decide)))))).trans f_y_2269), (((dg_uF_ne e_2287 (fun z => absurd z.2 (by decide))).trans ((m_2282.1 0 42 _ sM_0 (by decide)).trans ((dg_uf_F e_2280 0 42).trans ((dg_uf_F e_2276 0 42).trans ((m_2272.1 0 42 _ sM_0 (by decide)).trans ((m_2267.1 0 42 _ sM_0 (by decide)).trans (m_2.1 0 42 _ sM_0 (by decide)))))))).trans f_dp), (((dg_uF_ne e_2287 (fun z => absurd z.2 (by decide))).trans ((m_2282.1 0 45 _ sM_0 (by decide)).trans ((dg_uf_F e_2280 0 45).trans (dg_uf_F e_2276 0 45)))).trans f_y_2274), (dg_uF_at e_2287), (by omega)⟩, (fun k9 hk9 hk0 => POM.mk0 (P0M.keep (P0M.keep P0_2280 m_2282 (by decide) (by decide) (by decide) (by decide) (by decide) (by decide) (by decide) (by decide) (by decide) (by decide) (by decide) (by decide) (by decide) (by decide) (by decide)) (dg_sm.uF (WF := [(0, 46)]) (WA := []) dg_sm.rf e_2287 sM_0 (by decide)) (by decide) (by decide) (by decide) (by decide) (by decide) (by decide) (by decide) (by decide) (by decide) (by decide) (by decide) (by decide) (by decide) (by decide) (by decide)) (dg_uF_at e_2287) (by omega)), (ZWM.keep (ZWM.keep (ZWM.keep (ZWM.keep (ZWM.keep w_2267_2 m_2272 (by decide) (by decide) (by decide) (by decide)) (dg_sm.uf (WF := []) (WA := [23]) dg_sm.rf e_2276 sM_23 (by decide)) (by decide) (by decide) (by decide) (by decide)) (dg_sm.uf (WF := []) (WA := [24]) dg_sm.rf e_2280 sM_24 (by decide)) (by decide) (by decide) (by decide) (by decide)) m_2282 (by decide) (by decide) (by decide) (by decide)) (dg_sm.uF (WF := [(0, 46)]) (WA := []) dg_sm.rf e_2287 sM_0 (by decide)) (by decide) (by decide) (by decide) (by decide)), trivial⟩ dX12_goesOn_399
              · have jc_2265 := dk_neqc (k := 0) (by decide +kernel) c_2265
                have jbc_2265 : 1 ≤ (x_2263).toInt := by omega
                clear jc_2265
                have w_2264_1_r := w_2264_1 (by omega)
                clear w_2264_1
                have hlx_2r := hlx_2 (by omega)
                clear hlx_2
                refine lv_iconst (v := 2) hx hb dX12_goesOn_351 (by decide +kernel) ?_
                refine lv_goto (tgt := 356) hx hb dX12_goesOn_352 (by decide) ?_
                have hz_2293 : (2 : Int32).toInt = 2 := by decide +kernel
                refine dg_callv hS hA1 hA (va_runV (As := [.int 2]) (rest := []) F (c_m_joins l g D o S_2 2 (by decide +kernel) cd ((m_2.1 0 34 _ sM_0 (by decide)).trans f_cd) (by omega) om ((m_2.1 0 45 _ sM_0 (by decide)).trans f_om) (by omega) (by omega) (ZWM.keep ZW m_2 (by decide) (by decide) (by decide) (by decide)) (ZKM.keep ZK m_2 (by decide) (by decide)) (P1M.keep P1 m_2 (by decide) (by decide) (by decide) (by decide) (by decide) (by decide) (by decide) (by decide) (by decide) (by decide) (by decide) (by decide) (by decide) (by decide) (by decide)) I_2 H.size) (cwV 1 hts (bw_V wB_1234 wB_1235 wB_1236 wB_881 wB_1233) rfl rfl rfl (by decide +kernel) ⟨Nat.le_of_ble_eq_true rfl, Nat.le_of_ble_eq_true rfl⟩) (dg_preV sM_0 rfl K ST hP hS hA1 hA) rfl rfl hl.1 rfl (lv_room (Nat.le_of_ble_eq_true rfl)) dX12_goesOn_356 ⟨Nat.le_of_ble_eq_true rfl, Nat.le_of_ble_eq_true rfl⟩) (fun S_2294 hw_2294 H locs hP hS => ?_)
                obtain ⟨I_2294, m_2294, w_2294_0, w_2294_1, w_2294_2, w_2294_3, -⟩ := hw_2294
                have M_2294 := dg_sm.tr M_2 m_2294 (by decide) (by decide)
                have hz_2295 : (2 : Int32).toInt = 2 := by decide +kernel
                obtain ⟨y_2296, y_2297, f_y_2296, f_y_2297, w_2294_0⟩ := w_2294_0
                have w_2294_0 : (y_2296).toInt + (y_2297).toInt = (cd).toInt + (om).toInt := w_2294_0
                have b_y_2296 : 0 ≤ (y_2296).toInt ∧ (y_2296).toInt ≤ 1600 := dg_I.intb (lo := 0) (hi := 1600) I_2294 sM_0 (by decide +kernel) f_y_2296
                have b_y_2297 : 0 ≤ (y_2297).toInt ∧ (y_2297).toInt ≤ 500 := dg_I.intb (lo := 0) (hi := 500) I_2294 sM_0 (by decide +kernel) f_y_2297
                have w_2294_1 : TOPM S_2294 (2 : Int32) := w_2294_1
                obtain ⟨x_2298, f_x_2298, b_x_2298⟩ := dg_I.int (i := 0) (k := 43) (lo := (-2147483648)) (hi := 2147483647) I_2294 sM_0 (by decide +kernel)
                refine lv_aload_n hx hb dX12_goesOn_359 rfl (lv_at hl 4 rfl) ?_
                refine lv_iload hx hb dX12_goesOn_360 (lv_at hl 0 rfl) ?_
                refine lv_if_eq (tgt := 370) hx hb dX12_goesOn_362 (by decide) (fun c => absurd c (fun z => absurd (dk_eqc (k := 0) (by decide +kernel) z) (by omega))) (fun _ => ?_)
                refine lv_bipush (v := 41) hx hb dX12_goesOn_365 (by decide +kernel) ?_
                refine lv_goto (tgt := 372) hx hb dX12_goesOn_367 (by decide) ?_
                refine dg_callv hS hA1 hA (va_runV (As := [.int 41]) (rest := []) F (c_m_holdsBack l g D o S_2294 41 y_2297 f_y_2297 (by omega) I_2294 H.size) (cwV 1 hts (bw_V wB_1224 wB_1225 wB_1226 wB_881 wB_1223) rfl rfl rfl (by decide +kernel) ⟨Nat.le_of_ble_eq_true rfl, Nat.le_of_ble_eq_true rfl⟩) (dg_preV sM_0 rfl K ST hP hS hA1 hA) rfl rfl hl.1 rfl (lv_room (Nat.le_of_ble_eq_true rfl)) dX12_goesOn_372 ⟨Nat.le_of_ble_eq_true rfl, Nat.le_of_ble_eq_true rfl⟩) (fun S_2299 hw_2299 H locs hP hS => ?_)
                obtain ⟨I_2299, m_2299, w_2299_0, w_2299_1, -⟩ := hw_2299
                have M_2299 := dg_sm.tr M_2294 m_2299 (by decide) (by decide)
                have hz_2300 : (41 : Int32).toInt = 41 := by decide +kernel
                obtain ⟨y_2301, f_y_2301, w_2299_0⟩ := w_2299_0
                have w_2299_0 : (y_2301).toInt = (y_2297).toInt + 1 := w_2299_0
                have b_y_2301 : 0 ≤ (y_2301).toInt ∧ (y_2301).toInt ≤ 500 := dg_I.intb (lo := 0) (hi := 500) I_2299 sM_0 (by decide +kernel) f_y_2301
                have w_2299_1 : HBM S_2294 S_2299 (41 : Int32) := w_2299_1
                refine lv_aload_n hx hb dX12_goesOn_375 rfl (lv_at hl 4 rfl) ?_
                refine dg_get (C := RX12) (T := TX12) (N := 77) hx hb hts (fun w h => bw_mem (wU_X12 w h)) hown K hP sM_0 rfl 38 (by decide) (hts _ (bw_mem wB_1214)) (fun _ h9 => h9) (v := .ref (o + 23)) (show S_2299.1 0 38 = .ref (o + 23) from dg_I.rel (d := 23) I_2299 sM_0 (by decide +kernel)) dX12_goesOn_376 ?_
                refine lv_iload_n hx hb dX12_goesOn_379 rfl (lv_at hl 3 rfl) ?_
                refine lv_iconst (v := 0) hx hb dX12_goesOn_380 (by decide +kernel) ?_
                have hin_2302 : vp_in x_5 20 := (dk_inv (by omega) (by omega))
                have hz_2304 : (0 : Int32).toInt = 0 := by decide +kernel
                refine dg_iast hx hb K hP hS hA1 sM_23 hin_2302 dX12_goesOn_381 (fun S_2303 e_2303 H locs hP hS => ?_)
                have I_2303 := dg_I.ufu (lo := 0) (hi := 2) I_2299 e_2303 sM_23 (by decide +kernel) (show 0 ≤ ((0 : Int32)).toInt ∧ ((0 : Int32)).toInt ≤ 2 from (by decide +kernel))
                have M_2303 := dg_sm.uf M_2299 e_2303 sM_23 (by decide)
                have hz_2305 : (0 : Int32).toInt = 0 := by decide +kernel
                refine lv_aload_n hx hb dX12_goesOn_382 rfl (lv_at hl 4 rfl) ?_
                refine dg_get (C := RX12) (T := TX12) (N := 77) hx hb hts (fun w h => bw_mem (wU_X12 w h)) hown K hP sM_0 rfl 39 (by decide) (hts _ (bw_mem wB_1215)) (fun _ h9 => h9) (v := .ref (o + 24)) (show S_2303.1 0 39 = .ref (o + 24) from dg_I.rel (d := 24) I_2303 sM_0 (by decide +kernel)) dX12_goesOn_383 ?_
                refine lv_iload_n hx hb dX12_goesOn_386 rfl (lv_at hl 3 rfl) ?_
                refine lv_iconst (v := 1) hx hb dX12_goesOn_387 (by decide +kernel) ?_
                have hin_2306 : vp_in x_5 20 := (dk_inv (by omega) (by omega))
                have hz_2308 : (1 : Int32).toInt = 1 := by decide +kernel
                refine dg_zast hx hb K hP hS hA1 sM_24 hin_2306 (by decide +kernel) dX12_goesOn_388 (fun S_2307 e_2307 H locs hP hS => ?_)
                have I_2307 := dg_I.ufu (lo := 0) (hi := 1) I_2303 e_2307 sM_24 (by decide +kernel) (show 0 ≤ ((1 : Int32)).toInt ∧ ((1 : Int32)).toInt ≤ 1 from (by decide +kernel))
                have M_2307 := dg_sm.uf M_2303 e_2307 sM_24 (by decide)
                have P0_2307 : P0M S_2307 := P1M.andor w_2294_3 (((m_2294.1 0 42 _ sM_0 (by decide)).trans (m_2.1 0 42 _ sM_0 (by decide))).trans f_dp) f_x_2298 f_y_2297 w_2294_1 m_2299 w_2299_1 (by omega) (fx := x_5) (by omega) e_2303 e_2307
                refine lv_aload_n hx hb dX12_goesOn_389 rfl (lv_at hl 4 rfl) ?_
                refine dg_callv hS hA1 hA (va_runV (As := []) (rest := []) F (c_m_ahead l g D o S_2307 se (((dg_uf_F e_2307 0 5).trans ((dg_uf_F e_2303 0 5).trans ((m_2299.1 0 5 _ sM_0 (by decide)).trans ((m_2294.1 0 5 _ sM_0 (by decide)).trans (m_2.1 0 5 _ sM_0 (by decide)))))).trans f_se) (by omega) sl (((dg_uf_F e_2307 0 2).trans ((dg_uf_F e_2303 0 2).trans ((m_2299.1 0 2 _ sM_0 (by decide)).trans ((m_2294.1 0 2 _ sM_0 (by decide)).trans (m_2.1 0 2 _ sM_0 (by decide)))))).trans f_sl) (by omega) (by omega) I_2307 H.size) (cwV 0 hts (bw_V wB_1161 wB_1162 wB_1163 wB_881 wB_1160) rfl rfl rfl (by decide +kernel) ⟨Nat.le_of_ble_eq_true rfl, Nat.le_of_ble_eq_true rfl⟩) (dg_preV sM_0 rfl K ST hP hS hA1 hA) rfl rfl hl.1 rfl (lv_room (Nat.le_of_ble_eq_true rfl)) dX12_goesOn_390 ⟨Nat.le_of_ble_eq_true rfl, Nat.le_of_ble_eq_true rfl⟩) (fun S_2309 hw_2309 H locs hP hS => ?_)
                obtain ⟨I_2309, m_2309, w_2309_0, -⟩ := hw_2309
                have M_2309 := dg_sm.tr M_2307 m_2309 (by decide) (by decide)
                obtain ⟨y_2310, y_2311, y_2312, f_y_2310, f_y_2311, f_y_2312, w_2309_0⟩ := w_2309_0
                have w_2309_0 : (se).toInt ≤ (y_2311).toInt ∧ (y_2311).toInt ≤ (y_2312).toInt ∧ (y_2312).toInt ≤ (sl).toInt ∧ ((y_2310).toInt ≠ 0 → (y_2311).toInt + 1 ≤ (y_2312).toInt) := w_2309_0
                obtain ⟨w_2309_0_0, w_2309_0_1, w_2309_0_2, w_2309_0_3⟩ := w_2309_0
                have b_y_2310 : 0 ≤ (y_2310).toInt ∧ (y_2310).toInt ≤ 3 := dg_I.intb (lo := 0) (hi := 3) I_2309 sM_0 (by decide +kernel) f_y_2310
                have b_y_2311 : 0 ≤ (y_2311).toInt ∧ (y_2311).toInt ≤ 1600 := dg_I.intb (lo := 0) (hi := 1600) I_2309 sM_0 (by decide +kernel) f_y_2311
                have b_y_2312 : 0 ≤ (y_2312).toInt ∧ (y_2312).toInt ≤ 1600 := dg_I.intb (lo := 0) (hi := 1600) I_2309 sM_0 (by decide +kernel) f_y_2312
                refine lv_aload_n hx hb dX12_goesOn_393 rfl (lv_at hl 4 rfl) ?_
                refine lv_iconst (v := 0) hx hb dX12_goesOn_394 (by decide +kernel) ?_
                have hz_2313 : (0 : Int32).toInt = 0 := by decide +kernel
                refine dg_put (ci := 12) (v := .int 0) (ty := tyX12 46) (C := RX12) (T := TX12) (N := 77) hx hb hts (fun w h => bw_mem (wU_X12 w h)) tyX12 tyX12_ok nmX12 hown K hP hS hA1 sM_0 rfl 46 (by decide) (hts _ (bw_mem wB_1237)) (fun _ h9 => h9) rfl (by decide +kernel) (by decide +kernel) (by decide +kernel) dX12_goesOn_395 (fun S_2314 e_2314 H locs hP hS => ?_)
                have I_2314 := dg_I.uFi (lo := 0) (hi := 1) I_2309 e_2314 sM_0 (by decide +kernel) (show 0 ≤ ((0 : Int32)).toInt ∧ ((0 : Int32)).toInt ≤ 1 from (by decide +kernel))
                have M_2314 := dg_sm.uF M_2309 e_2314 sM_0 (by decide)
                refine lv_iconst (v := 1) hx hb dX12_goesOn_398 (by decide +kernel) ?_
                have hz_2315 : (1 : Int32).toInt = 1 := by decide +kernel
                have hz_2316 : (1 : Int32).toInt = 1 := by decide +kernel
                have hz_2317 : (0 : Int32).toInt = 0 := by decide +kernel
                have hz_2318 : (1 : Int32).toInt = 1 := by decide +kernel
                have hz_2319 : (0 : Int32).toInt = 0 := by decide +kernel
                refine W.widen (k := 0) (n := 0) (Nat.le_of_ble_eq_true rfl) (Nat.le_of_ble_eq_true rfl) ?_
                rw [hQ9]
                exact dg_iret hx hb hr hlocks (by decide +kernel) hP hS ⟨I_2314, M_2314, (by decide +kernel), ⟨y_2310, y_2311, y_2312, y_3, y_2296, dp, y_2301, 0, ((dg_uF_ne e_2314 (fun z => absurd z.2 (by decide))).trans f_y_2310), ((dg_uF_ne e_2314 (fun z => absurd z.2 (by decide))).trans f_y_2311), ((dg_uF_ne e_2314 (fun z => absurd z.2 (by decide))).trans f_y_2312), (((dg_uF_ne e_2314 (fun z => absurd z.2 (by decide))).trans ((m_2309.1 0 8 _ sM_0 (by decide)).trans ((dg_uf_F e_2307 0 8).trans ((dg_uf_F e_2303 0 8).trans ((m_2299.1 0 8 _ sM_0 (by decide)).trans (m_2294.1 0 8 _ sM_0 (by decide))))))).trans f_y_3), (((dg_uF_ne e_2314 (fun z => absurd z.2 (by decide))).trans ((m_2309.1 0 34 _ sM_0 (by decide)).trans ((dg_uf_F e_2307 0 34).trans ((dg_uf_F e_2303 0 34).trans (m_2299.1 0 34 _ sM_0 (by decide)))))).trans f_y_2296), (((dg_uF_ne e_2314 (fun z => absurd z.2 (by decide))).trans ((m_2309.1 0 42 _ sM_0 (by decide)).trans ((dg_uf_F e_2307 0 42).trans ((dg_uf_F e_2303 0 42).trans ((m_2299.1 0 42 _ sM_0 (by decide)).trans ((m_2294.1 0 42 _ sM_0 (by decide)).trans (m_2.1 0 42 _ sM_0 (by decide)))))))).trans f_dp), (((dg_uF_ne e_2314 (fun z => absurd z.2 (by decide))).trans ((m_2309.1 0 45 _ sM_0 (by decide)).trans ((dg_uf_F e_2307 0 45).trans (dg_uf_F e_2303 0 45)))).trans f_y_2301), (dg_uF_at e_2314), (by omega)⟩, (fun k9 hk9 hk0 => POM.mk0 (P0M.keep (P0M.keep P0_2307 m_2309 (by decide) (by decide) (by decide) (by decide) (by decide) (by decide) (by decide) (by decide) (by decide) (by decide) (by decide) (by decide) (by decide) (by decide) (by decide)) (dg_sm.uF (WF := [(0, 46)]) (WA := []) dg_sm.rf e_2314 sM_0 (by decide)) (by decide) (by decide) (by decide) (by decide) (by decide) (by decide) (by decide) (by decide) (by decide) (by decide) (by decide) (by decide) (by decide) (by decide) (by decide)) (dg_uF_at e_2314) (by omega)), (ZWM.keep (ZWM.keep (ZWM.keep (ZWM.keep (ZWM.keep w_2294_2 m_2299 (by decide) (by decide) (by decide) (by decide)) (dg_sm.uf (WF := []) (WA := [23]) dg_sm.rf e_2303 sM_23 (by decide)) (by decide) (by decide) (by decide) (by decide)) (dg_sm.uf (WF := []) (WA := [24]) dg_sm.rf e_2307 sM_24 (by decide)) (by decide) (by decide) (by decide) (by decide)) m_2309 (by decide) (by decide) (by decide) (by decide)) (dg_sm.uF (WF := [(0, 46)]) (WA := []) dg_sm.rf e_2314 sM_0 (by decide)) (by decide) (by decide) (by decide) (by decide)), trivial⟩ dX12_goesOn_399
            · have jc_2262 := dk_eqc (k := 0) (by decide +kernel) c_2262
              refine lv_aload_n hx hb dX12_goesOn_318 rfl (lv_at hl 3 rfl) ?_
              refine lv_iconst (v := 1) hx hb dX12_goesOn_319 (by decide +kernel) ?_
              refine lv_aload_n hx hb dX12_goesOn_320 rfl (lv_at hl 3 rfl) ?_
              refine dg_get (C := RX12) (T := TX12) (N := 77) hx hb hts (fun w h => bw_mem (wU_X12 w h)) hown K hP sM_0 rfl 4 (by decide) (hts _ (bw_mem wB_1145)) (fun _ h9 => h9) (v := .int sa) ((m_2.1 0 4 _ sM_0 (by decide)).trans f_sa) dX12_goesOn_321 ?_
              have hz_2320 : (1 : Int32).toInt = 1 := by decide +kernel
              refine dg_callv hS hA1 hA (va_runV (As := [.int 1, .int sa]) (rest := []) F (c_m_blame l g D o S_2 1 (by decide +kernel) sa y_3 f_y_3 (by omega) I_2 H.size) (cwV 2 hts (bw_V wB_1137 wB_1138 wB_1139 wB_881 wB_1136) rfl rfl rfl (by decide +kernel) ⟨Nat.le_of_ble_eq_true rfl, Nat.le_of_ble_eq_true rfl⟩) (dg_preV sM_0 rfl K ST hP hS hA1 hA) rfl rfl hl.1 rfl (lv_room (Nat.le_of_ble_eq_true rfl)) dX12_goesOn_324 ⟨Nat.le_of_ble_eq_true rfl, Nat.le_of_ble_eq_true rfl⟩) (fun S_2321 hw_2321 H locs hP hS => ?_)
              obtain ⟨I_2321, m_2321, w_2321_0, -⟩ := hw_2321
              have M_2321 := dg_sm.tr M_2 m_2321 (by decide) (by decide)
              have hz_2322 : (1 : Int32).toInt = 1 := by decide +kernel
              obtain ⟨y_2323, f_y_2323, w_2321_0⟩ := w_2321_0
              have w_2321_0 : ((y_3).toInt ≠ 0 → (y_2323).toInt = (y_3).toInt) ∧ ((y_3).toInt = 0 → (y_2323).toInt = ((1 : Int32)).toInt) := w_2321_0
              obtain ⟨w_2321_0_0, w_2321_0_1⟩ := w_2321_0
              clear w_2321_0_0
              have w_2321_0_1r := w_2321_0_1 (by omega)
              clear w_2321_0_1
              have b_y_2323 : 0 ≤ (y_2323).toInt ∧ (y_2323).toInt ≤ 6 := dg_I.intb (lo := 0) (hi := 6) I_2321 sM_0 (by decide +kernel) f_y_2323
              have hbl_y_2323 : 1 ≤ (y_2323).toInt := by omega
              refine lv_aload_n hx hb dX12_goesOn_327 rfl (lv_at hl 3 rfl) ?_
              refine dg_get (C := RX12) (T := TX12) (N := 77) hx hb hts (fun w h => bw_mem (wU_X12 w h)) hown K hP sM_0 rfl 8 (by decide) (hts _ (bw_mem wB_1133)) (fun _ h9 => h9) (v := .int y_2323) f_y_2323 dX12_goesOn_328 ?_
              refine lv_if_le (tgt := 336) hx hb dX12_goesOn_331 (by decide) (fun c => absurd c (fun z => absurd (dk_lec (k := 0) (by decide +kernel) z) (by omega))) (fun _ => ?_)
              refine lv_iconst (v := 0) hx hb dX12_goesOn_334 (by decide +kernel) ?_
              have hz_2324 : (0 : Int32).toInt = 0 := by decide +kernel
              have hz_2325 : (0 : Int32).toInt = 0 := by decide +kernel
              have hz_2326 : (0 : Int32).toInt = 0 := by decide +kernel
              refine W.widen (k := 0) (n := 0) (Nat.le_of_ble_eq_true rfl) (Nat.le_of_ble_eq_true rfl) ?_
              rw [hQ9]
              exact dg_iret hx hb hr hlocks (by decide +kernel) hP hS ⟨I_2321, M_2321, (by decide +kernel), ⟨sg, sa, se, y_2323, cd, dp, om, oo, (((m_2321.1 0 3 _ sM_0 (by decide)).trans (m_2.1 0 3 _ sM_0 (by decide))).trans f_sg), (((m_2321.1 0 4 _ sM_0 (by decide)).trans (m_2.1 0 4 _ sM_0 (by decide))).trans f_sa), (((m_2321.1 0 5 _ sM_0 (by decide)).trans (m_2.1 0 5 _ sM_0 (by decide))).trans f_se), f_y_2323, (((m_2321.1 0 34 _ sM_0 (by decide)).trans (m_2.1 0 34 _ sM_0 (by decide))).trans f_cd), (((m_2321.1 0 42 _ sM_0 (by decide)).trans (m_2.1 0 42 _ sM_0 (by decide))).trans f_dp), (((m_2321.1 0 45 _ sM_0 (by decide)).trans (m_2.1 0 45 _ sM_0 (by decide))).trans f_om), (((m_2321.1 0 46 _ sM_0 (by decide)).trans (m_2.1 0 46 _ sM_0 (by decide))).trans f_oo), (by omega)⟩, (fun k9 hk9 hk0 => by have q9 := (f_y_2323).symm.trans hk9; cases q9; omega), (ZWM.keep (ZWM.keep ZW m_2 (by decide) (by decide) (by decide) (by decide)) m_2321 (by decide) (by decide) (by decide) (by decide)), trivial⟩ dX12_goesOn_335
          refine lv_if_ne (tgt := 309) hx hb dX12_goesOn_296 (by decide) (fun c_2327 => ?_) (fun c_2327 => ?_)
          · have jc_2327 := dk_neqc (k := 0) (by decide +kernel) c_2327
            have jbc_2327 : 1 ≤ (x_2186).toInt := by omega
            clear jc_2327
            have w_2187_1_r := w_2187_1 (by omega)
            clear w_2187_1
            have hlx_2r := hlx_2 (by omega)
            clear hlx_2
            exact J_2259 ()  (by omega) _ _ hP hS _ (lv_sub hl [0, 1, 2, 3] rfl)
          · have jc_2327 := dk_eqc (k := 0) (by decide +kernel) c_2327
            clear w_2187_1
            refine lv_aload_n hx hb dX12_goesOn_299 rfl (lv_at hl 3 rfl) ?_
            refine lv_ldc2 hx hb hown (hts _ (bw_mem wB_1189)) dX12_goesOn_300 ?_
            refine dg_calli hS hA1 hA (va_runV (As := [.long 28530]) (rest := []) F (c_m_isWord l g D o S_2 28530 sg ((m_2.1 0 3 _ sM_0 (by decide)).trans f_sg) (by omega) I_2 H.size) (cwV 1 hts (bw_V wB_1165 wB_1166 wB_1167 wB_881 wB_1164) rfl rfl rfl (by decide +kernel) ⟨Nat.le_of_ble_eq_true rfl, Nat.le_of_ble_eq_true rfl⟩) (dg_preV sM_0 rfl K ST hP hS hA1 hA) rfl rfl hl.1 rfl (lv_room (Nat.le_of_ble_eq_true rfl)) dX12_goesOn_303 ⟨Nat.le_of_ble_eq_true rfl, Nat.le_of_ble_eq_true rfl⟩) (fun x_2328 S_2329 hw_2329 H locs hP hS => ?_)
            rw [hw_2329.1] at hP
            obtain ⟨hq_2329, w_2329_0, w_2329_1, -⟩ := hw_2329
            have w_2329_0 : 0 ≤ (x_2328).toInt ∧ (x_2328).toInt ≤ 1 := w_2329_0
            have w_2329_1 : (x_2328).toInt = 1 → (sg).toInt = 1 := w_2329_1
            refine lv_if_eq (tgt := 400) hx hb dX12_goesOn_306 (by decide) (fun c_2330 => ?_) (fun c_2330 => ?_)
            · have jc_2330 := dk_eqc (k := 0) (by decide +kernel) c_2330
              clear w_2329_1
              exact J_1504   _ _ hP hS _ (lv_sub hl [0, 1, 2, 3] rfl)
            · have jc_2330 := dk_neqc (k := 0) (by decide +kernel) c_2330
              have jbc_2330 : 1 ≤ (x_2328).toInt := by omega
              clear jc_2330
              have w_2329_1_r := w_2329_1 (by omega)
              clear w_2329_1
              have hlx_2r := hlx_2 (by omega)
              clear hlx_2
              exact J_2259 ()  (by omega) _ _ hP hS _ (lv_sub hl [0, 1, 2, 3] rfl)
      refine lv_if_eq (tgt := 285) hx hb dX12_goesOn_189 (by decide) (fun c_2331 => ?_) (fun c_2331 => ?_)
      · have jc_2331 := dk_eqc (k := 0) (by decide +kernel) c_2331
        clear w_9_1
        exact J_1140   _ _ hP hS _ (lv_sub hl [0, 1, 2, 3] rfl)
      · have jc_2331 := dk_neqc (k := 0) (by decide +kernel) c_2331
        have jbc_2331 : 1 ≤ (x_8).toInt := by omega
        clear jc_2331
        have w_9_1_r := w_9_1.mp (by omega)
        clear w_9_1
        refine lv_aload_n hx hb dX12_goesOn_192 rfl (lv_at hl 3 rfl) ?_
        refine dg_get (C := RX12) (T := TX12) (N := 77) hx hb hts (fun w h => bw_mem (wU_X12 w h)) hown K hP sM_0 rfl 38 (by decide) (hts _ (bw_mem wB_1214)) (fun _ h9 => h9) (v := .ref (o + 23)) (show S_2.1 0 38 = .ref (o + 23) from dg_I.rel (d := 23) I_2 sM_0 (by decide +kernel)) dX12_goesOn_193 ?_
        refine lv_iload_n hx hb dX12_goesOn_196 rfl (lv_at hl 2 rfl) ?_
        have hin_2332 : vp_in x_5 20 := (dk_inv (by omega) (by omega))
        refine dg_iald hx hb K hP sM_23 hin_2332 dX12_goesOn_197 (fun y_2333 ey_2333 => ?_)
        obtain rfl : x_11 = y_2333 := (ey_2333.trans ex_11.symm).symm
        refine lv_if_ne (tgt := 285) hx hb dX12_goesOn_198 (by decide) (fun c_2334 => ?_) (fun c_2334 => ?_)
        · have jc_2334 := dk_neqc (k := 0) (by decide +kernel) c_2334
          have jbc_2334 : 1 ≤ (x_11).toInt := by omega
          clear jc_2334
          exact J_1140   _ _ hP hS _ (lv_sub hl [0, 1, 2, 3] rfl)
        · have jc_2334 := dk_eqc (k := 0) (by decide +kernel) c_2334
          refine lv_aload_n hx hb dX12_goesOn_201 rfl (lv_at hl 3 rfl) ?_
          refine lv_bipush (v := 60) hx hb dX12_goesOn_202 (by decide +kernel) ?_
          refine dg_calli hS hA1 hA (va_runV (As := [.int 60]) (rest := []) F (c_m_isSign l g D o S_2 60 sg ((m_2.1 0 3 _ sM_0 (by decide)).trans f_sg) (by omega) va ((m_2.1 0 6 _ sM_0 (by decide)).trans f_va) (by omega) I_2 H.size) (cwV 1 hts (bw_V wB_1157 wB_1158 wB_1159 wB_881 wB_1156) rfl rfl rfl (by decide +kernel) ⟨Nat.le_of_ble_eq_true rfl, Nat.le_of_ble_eq_true rfl⟩) (dg_preV sM_0 rfl K ST hP hS hA1 hA) rfl rfl hl.1 rfl (lv_room (Nat.le_of_ble_eq_true rfl)) dX12_goesOn_204 ⟨Nat.le_of_ble_eq_true rfl, Nat.le_of_ble_eq_true rfl⟩) (fun x_2335 S_2336 hw_2336 H locs hP hS => ?_)
          rw [hw_2336.1] at hP
          obtain ⟨hq_2336, w_2336_0, w_2336_1, -⟩ := hw_2336
          have hz_2337 : (60 : Int32).toInt = 60 := by decide +kernel
          have w_2336_0 : 0 ≤ (x_2335).toInt ∧ (x_2335).toInt ≤ 1 := w_2336_0
          have w_2336_1 : (x_2335).toInt = 1 ↔ ((sg).toInt = 3 ∧ (va).toInt = ((60 : Int32)).toInt) := w_2336_1
          have J_2379 : ∀ (u9 : Unit), ((sg).toInt = 3) → ∀ (H : Heap) (locs : List Loc), va_P D vwCl (dg_w g shM o rfM S_2) H → va_S A s.heap H locs → ∀ ls : Array Slot, lv_has ls 5 [(3, .int x_8), (2, .int x_7), (1, .int x_5), (0, .ref (o + 0))] → W p l e ({ frames := 3, cells := 0, slots := 0, locals := 77 } : Room) s m args below meth c H locs 0 0 Q9 (F0 m 228 ls []) := by
            intro u9 rel_0 H locs hP hS ls hl
            clear w_2336_1
            refine lv_aload_n hx hb dX12_goesOn_228 rfl (lv_at hl 3 rfl) ?_
            refine lv_iconst (v := 5) hx hb dX12_goesOn_229 (by decide +kernel) ?_
            have hz_2380 : (5 : Int32).toInt = 5 := by decide +kernel
            refine dg_callv hS hA1 hA (va_runV (As := [.int 5]) (rest := []) F (c_m_joins l g D o S_2 5 (by decide +kernel) cd ((m_2.1 0 34 _ sM_0 (by decide)).trans f_cd) (by omega) om ((m_2.1 0 45 _ sM_0 (by decide)).trans f_om) (by omega) (by omega) (ZWM.keep ZW m_2 (by decide) (by decide) (by decide) (by decide)) (ZKM.keep ZK m_2 (by decide) (by decide)) (P1M.keep P1 m_2 (by decide) (by decide) (by decide) (by decide) (by decide) (by decide) (by decide) (by decide) (by decide) (by decide) (by decide) (by decide) (by decide) (by decide) (by decide)) I_2 H.size) (cwV 1 hts (bw_V wB_1234 wB_1235 wB_1236 wB_881 wB_1233) rfl rfl rfl (by decide +kernel) ⟨Nat.le_of_ble_eq_true rfl, Nat.le_of_ble_eq_true rfl⟩) (dg_preV sM_0 rfl K ST hP hS hA1 hA) rfl rfl hl.1 rfl (lv_room (Nat.le_of_ble_eq_true rfl)) dX12_goesOn_230 ⟨Nat.le_of_ble_eq_true rfl, Nat.le_of_ble_eq_true rfl⟩) (fun S_2381 hw_2381 H locs hP hS => ?_)
            obtain ⟨I_2381, m_2381, w_2381_0, w_2381_1, w_2381_2, w_2381_3, -⟩ := hw_2381
            have M_2381 := dg_sm.tr M_2 m_2381 (by decide) (by decide)
            have hz_2382 : (5 : Int32).toInt = 5 := by decide +kernel
            obtain ⟨y_2383, y_2384, f_y_2383, f_y_2384, w_2381_0⟩ := w_2381_0
            have w_2381_0 : (y_2383).toInt + (y_2384).toInt = (cd).toInt + (om).toInt := w_2381_0
            have b_y_2383 : 0 ≤ (y_2383).toInt ∧ (y_2383).toInt ≤ 1600 := dg_I.intb (lo := 0) (hi := 1600) I_2381 sM_0 (by decide +kernel) f_y_2383
            have b_y_2384 : 0 ≤ (y_2384).toInt ∧ (y_2384).toInt ≤ 500 := dg_I.intb (lo := 0) (hi := 500) I_2381 sM_0 (by decide +kernel) f_y_2384
            have w_2381_1 : TOPM S_2381 (5 : Int32) := w_2381_1
            obtain ⟨x_2385, f_x_2385, b_x_2385⟩ := dg_I.int (i := 0) (k := 43) (lo := (-2147483648)) (hi := 2147483647) I_2381 sM_0 (by decide +kernel)
            refine lv_aload_n hx hb dX12_goesOn_233 rfl (lv_at hl 3 rfl) ?_
            refine lv_aload_n hx hb dX12_goesOn_234 rfl (lv_at hl 3 rfl) ?_
            refine lv_bipush (v := 60) hx hb dX12_goesOn_235 (by decide +kernel) ?_
            refine dg_calli hS hA1 hA (va_runV (As := [.int 60]) (rest := [.ref (o + 0)]) F (c_m_isSign l g D o S_2381 60 sg (((m_2381.1 0 3 _ sM_0 (by decide)).trans (m_2.1 0 3 _ sM_0 (by decide))).trans f_sg) (by omega) va (((m_2381.1 0 6 _ sM_0 (by decide)).trans (m_2.1 0 6 _ sM_0 (by decide))).trans f_va) (by omega) I_2381 H.size) (cwV 1 hts (bw_V wB_1157 wB_1158 wB_1159 wB_881 wB_1156) rfl rfl rfl (by decide +kernel) ⟨Nat.le_of_ble_eq_true rfl, Nat.le_of_ble_eq_true rfl⟩) (dg_preV sM_0 rfl K ST hP hS hA1 hA) rfl rfl hl.1 rfl (lv_room (Nat.le_of_ble_eq_true rfl)) dX12_goesOn_237 ⟨Nat.le_of_ble_eq_true rfl, Nat.le_of_ble_eq_true rfl⟩) (fun x_2386 S_2387 hw_2387 H locs hP hS => ?_)
            rw [hw_2387.1] at hP
            obtain ⟨hq_2387, w_2387_0, w_2387_1, -⟩ := hw_2387
            have hz_2388 : (60 : Int32).toInt = 60 := by decide +kernel
            have w_2387_0 : 0 ≤ (x_2386).toInt ∧ (x_2386).toInt ≤ 1 := w_2387_0
            have w_2387_1 : (x_2386).toInt = 1 ↔ ((sg).toInt = 3 ∧ (va).toInt = ((60 : Int32)).toInt) := w_2387_1
            have J_2412 : ∀ (x_2394 : Int32), (38 ≤ (x_2394).toInt ∧ (x_2394).toInt ≤ 40) → ∀ (H : Heap) (locs : List Loc), va_P D vwCl (dg_w g shM o rfM S_2381) H → va_S A s.heap H locs → ∀ ls : Array Slot, lv_has ls 5 [(3, .int x_8), (2, .int x_7), (1, .int x_5), (0, .ref (o + 0))] → W p l e ({ frames := 3, cells := 0, slots := 0, locals := 77 } : Room) s m args below meth c H locs 0 0 Q9 (F0 m 264 ls [.int x_2394, .ref (o + 0)]) := by
              intro x_2394 b_x_2394 H locs hP hS ls hl
              clear w_2387_1
              refine dg_callv hS hA1 hA (va_runV (As := [.int x_2394]) (rest := []) F (c_m_holdsBack l g D o S_2381 x_2394 y_2384 f_y_2384 (by omega) I_2381 H.size) (cwV 1 hts (bw_V wB_1224 wB_1225 wB_1226 wB_881 wB_1223) rfl rfl rfl (by decide +kernel) ⟨Nat.le_of_ble_eq_true rfl, Nat.le_of_ble_eq_true rfl⟩) (dg_preV sM_0 rfl K ST hP hS hA1 hA) rfl rfl hl.1 rfl (lv_room (Nat.le_of_ble_eq_true rfl)) dX12_goesOn_264 ⟨Nat.le_of_ble_eq_true rfl, Nat.le_of_ble_eq_true rfl⟩) (fun S_2413 hw_2413 H locs hP hS => ?_)
              obtain ⟨I_2413, m_2413, w_2413_0, w_2413_1, -⟩ := hw_2413
              have M_2413 := dg_sm.tr M_2381 m_2413 (by decide) (by decide)
              obtain ⟨y_2414, f_y_2414, w_2413_0⟩ := w_2413_0
              have w_2413_0 : (y_2414).toInt = (y_2384).toInt + 1 := w_2413_0
              have b_y_2414 : 0 ≤ (y_2414).toInt ∧ (y_2414).toInt ≤ 500 := dg_I.intb (lo := 0) (hi := 500) I_2413 sM_0 (by decide +kernel) f_y_2414
              have w_2413_1 : HBM S_2381 S_2413 x_2394 := w_2413_1
              refine lv_aload_n hx hb dX12_goesOn_267 rfl (lv_at hl 3 rfl) ?_
              refine dg_get (C := RX12) (T := TX12) (N := 77) hx hb hts (fun w h => bw_mem (wU_X12 w h)) hown K hP sM_0 rfl 38 (by decide) (hts _ (bw_mem wB_1214)) (fun _ h9 => h9) (v := .ref (o + 23)) (show S_2413.1 0 38 = .ref (o + 23) from dg_I.rel (d := 23) I_2413 sM_0 (by decide +kernel)) dX12_goesOn_268 ?_
              refine lv_iload_n hx hb dX12_goesOn_271 rfl (lv_at hl 2 rfl) ?_
              refine lv_iconst (v := 1) hx hb dX12_goesOn_272 (by decide +kernel) ?_
              have hin_2415 : vp_in x_5 20 := (dk_inv (by omega) (by omega))
              have hz_2417 : (1 : Int32).toInt = 1 := by decide +kernel
              refine dg_iast hx hb K hP hS hA1 sM_23 hin_2415 dX12_goesOn_273 (fun S_2416 e_2416 H locs hP hS => ?_)
              have I_2416 := dg_I.ufu (lo := 0) (hi := 2) I_2413 e_2416 sM_23 (by decide +kernel) (show 0 ≤ ((1 : Int32)).toInt ∧ ((1 : Int32)).toInt ≤ 2 from (by decide +kernel))
              have M_2416 := dg_sm.uf M_2413 e_2416 sM_23 (by decide)
              have hz_2418 : (1 : Int32).toInt = 1 := by decide +kernel
              have P0_2416 : P0M S_2416 := P1M.cmp w_2381_3 (((m_2381.1 0 42 _ sM_0 (by decide)).trans (m_2.1 0 42 _ sM_0 (by decide))).trans f_dp) f_x_2385 f_y_2384 w_2381_1 (by omega) m_2413 w_2413_1 (by omega) (fx := x_5) (by omega) ((congrFun (m_2381.2 22 _ sM_22 (by decide)).1 _).trans ex_7.symm) (by unfold dk_ts; omega) (by rw [((congrFun (m_2381.2 23 _ sM_23 (by decide)).1 _).trans ex_11.symm)]; omega) e_2416 (by omega)
              refine lv_aload_n hx hb dX12_goesOn_274 rfl (lv_at hl 3 rfl) ?_
              refine dg_callv hS hA1 hA (va_runV (As := []) (rest := []) F (c_m_ahead l g D o S_2416 se (((dg_uf_F e_2416 0 5).trans ((m_2413.1 0 5 _ sM_0 (by decide)).trans ((m_2381.1 0 5 _ sM_0 (by decide)).trans (m_2.1 0 5 _ sM_0 (by decide))))).trans f_se) (by omega) sl (((dg_uf_F e_2416 0 2).trans ((m_2413.1 0 2 _ sM_0 (by decide)).trans ((m_2381.1 0 2 _ sM_0 (by decide)).trans (m_2.1 0 2 _ sM_0 (by decide))))).trans f_sl) (by omega) (by omega) I_2416 H.size) (cwV 0 hts (bw_V wB_1161 wB_1162 wB_1163 wB_881 wB_1160) rfl rfl rfl (by decide +kernel) ⟨Nat.le_of_ble_eq_true rfl, Nat.le_of_ble_eq_true rfl⟩) (dg_preV sM_0 rfl K ST hP hS hA1 hA) rfl rfl hl.1 rfl (lv_room (Nat.le_of_ble_eq_true rfl)) dX12_goesOn_275 ⟨Nat.le_of_ble_eq_true rfl, Nat.le_of_ble_eq_true rfl⟩) (fun S_2419 hw_2419 H locs hP hS => ?_)
              obtain ⟨I_2419, m_2419, w_2419_0, -⟩ := hw_2419
              have M_2419 := dg_sm.tr M_2416 m_2419 (by decide) (by decide)
              obtain ⟨y_2420, y_2421, y_2422, f_y_2420, f_y_2421, f_y_2422, w_2419_0⟩ := w_2419_0
              have w_2419_0 : (se).toInt ≤ (y_2421).toInt ∧ (y_2421).toInt ≤ (y_2422).toInt ∧ (y_2422).toInt ≤ (sl).toInt ∧ ((y_2420).toInt ≠ 0 → (y_2421).toInt + 1 ≤ (y_2422).toInt) := w_2419_0
              obtain ⟨w_2419_0_0, w_2419_0_1, w_2419_0_2, w_2419_0_3⟩ := w_2419_0
              have b_y_2420 : 0 ≤ (y_2420).toInt ∧ (y_2420).toInt ≤ 3 := dg_I.intb (lo := 0) (hi := 3) I_2419 sM_0 (by decide +kernel) f_y_2420
              have b_y_2421 : 0 ≤ (y_2421).toInt ∧ (y_2421).toInt ≤ 1600 := dg_I.intb (lo := 0) (hi := 1600) I_2419 sM_0 (by decide +kernel) f_y_2421
              have b_y_2422 : 0 ≤ (y_2422).toInt ∧ (y_2422).toInt ≤ 1600 := dg_I.intb (lo := 0) (hi := 1600) I_2419 sM_0 (by decide +kernel) f_y_2422
              refine lv_aload_n hx hb dX12_goesOn_278 rfl (lv_at hl 3 rfl) ?_
              refine lv_iconst (v := 0) hx hb dX12_goesOn_279 (by decide +kernel) ?_
              have hz_2423 : (0 : Int32).toInt = 0 := by decide +kernel
              refine dg_put (ci := 12) (v := .int 0) (ty := tyX12 46) (C := RX12) (T := TX12) (N := 77) hx hb hts (fun w h => bw_mem (wU_X12 w h)) tyX12 tyX12_ok nmX12 hown K hP hS hA1 sM_0 rfl 46 (by decide) (hts _ (bw_mem wB_1237)) (fun _ h9 => h9) rfl (by decide +kernel) (by decide +kernel) (by decide +kernel) dX12_goesOn_280 (fun S_2424 e_2424 H locs hP hS => ?_)
              have I_2424 := dg_I.uFi (lo := 0) (hi := 1) I_2419 e_2424 sM_0 (by decide +kernel) (show 0 ≤ ((0 : Int32)).toInt ∧ ((0 : Int32)).toInt ≤ 1 from (by decide +kernel))
              have M_2424 := dg_sm.uF M_2419 e_2424 sM_0 (by decide)
              refine lv_iconst (v := 1) hx hb dX12_goesOn_283 (by decide +kernel) ?_
              have hz_2425 : (1 : Int32).toInt = 1 := by decide +kernel
              have hz_2426 : (1 : Int32).toInt = 1 := by decide +kernel
              have hz_2427 : (0 : Int32).toInt = 0 := by decide +kernel
              have hz_2428 : (1 : Int32).toInt = 1 := by decide +kernel
              have hz_2429 : (0 : Int32).toInt = 0 := by decide +kernel
              refine W.widen (k := 0) (n := 0) (Nat.le_of_ble_eq_true rfl) (Nat.le_of_ble_eq_true rfl) ?_
              rw [hQ9]
              exact dg_iret hx hb hr hlocks (by decide +kernel) hP hS ⟨I_2424, M_2424, (by decide +kernel), ⟨y_2420, y_2421, y_2422, y_3, y_2383, dp, y_2414, 0, ((dg_uF_ne e_2424 (fun z => absurd z.2 (by decide))).trans f_y_2420), ((dg_uF_ne e_2424 (fun z => absurd z.2 (by decide))).trans f_y_2421), ((dg_uF_ne e_2424 (fun z => absurd z.2 (by decide))).trans f_y_2422), (((dg_uF_ne e_2424 (fun z => absurd z.2 (by decide))).trans ((m_2419.1 0 8 _ sM_0 (by decide)).trans ((dg_uf_F e_2416 0 8).trans ((m_2413.1 0 8 _ sM_0 (by decide)).trans (m_2381.1 0 8 _ sM_0 (by decide)))))).trans f_y_3), (((dg_uF_ne e_2424 (fun z => absurd z.2 (by decide))).trans ((m_2419.1 0 34 _ sM_0 (by decide)).trans ((dg_uf_F e_2416 0 34).trans (m_2413.1 0 34 _ sM_0 (by decide))))).trans f_y_2383), (((dg_uF_ne e_2424 (fun z => absurd z.2 (by decide))).trans ((m_2419.1 0 42 _ sM_0 (by decide)).trans ((dg_uf_F e_2416 0 42).trans ((m_2413.1 0 42 _ sM_0 (by decide)).trans ((m_2381.1 0 42 _ sM_0 (by decide)).trans (m_2.1 0 42 _ sM_0 (by decide))))))).trans f_dp), (((dg_uF_ne e_2424 (fun z => absurd z.2 (by decide))).trans ((m_2419.1 0 45 _ sM_0 (by decide)).trans (dg_uf_F e_2416 0 45))).trans f_y_2414), (dg_uF_at e_2424), (by omega)⟩, (fun k9 hk9 hk0 => POM.mk0 (P0M.keep (P0M.keep P0_2416 m_2419 (by decide) (by decide) (by decide) (by decide) (by decide) (by decide) (by decide) (by decide) (by decide) (by decide) (by decide) (by decide) (by decide) (by decide) (by decide)) (dg_sm.uF (WF := [(0, 46)]) (WA := []) dg_sm.rf e_2424 sM_0 (by decide)) (by decide) (by decide) (by decide) (by decide) (by decide) (by decide) (by decide) (by decide) (by decide) (by decide) (by decide) (by decide) (by decide) (by decide) (by decide)) (dg_uF_at e_2424) (by omega)), (ZWM.keep (ZWM.keep (ZWM.keep (ZWM.keep w_2381_2 m_2413 (by decide) (by decide) (by decide) (by decide)) (dg_sm.uf (WF := []) (WA := [23]) dg_sm.rf e_2416 sM_23 (by decide)) (by decide) (by decide) (by decide) (by decide)) m_2419 (by decide) (by decide) (by decide) (by decide)) (dg_sm.uF (WF := [(0, 46)]) (WA := []) dg_sm.rf e_2424 sM_0 (by decide)) (by decide) (by decide) (by decide) (by decide)), trivial⟩ dX12_goesOn_284
            refine lv_if_eq (tgt := 248) hx hb dX12_goesOn_240 (by decide) (fun c_2430 => ?_) (fun c_2430 => ?_)
            · have jc_2430 := dk_eqc (k := 0) (by decide +kernel) c_2430
              clear w_2387_1
              refine lv_aload_n hx hb dX12_goesOn_248 rfl (lv_at hl 3 rfl) ?_
              refine lv_bipush (v := 62) hx hb dX12_goesOn_249 (by decide +kernel) ?_
              refine dg_calli hS hA1 hA (va_runV (As := [.int 62]) (rest := [.ref (o + 0)]) F (c_m_isSign l g D o S_2381 62 sg (((m_2381.1 0 3 _ sM_0 (by decide)).trans (m_2.1 0 3 _ sM_0 (by decide))).trans f_sg) (by omega) va (((m_2381.1 0 6 _ sM_0 (by decide)).trans (m_2.1 0 6 _ sM_0 (by decide))).trans f_va) (by omega) I_2381 H.size) (cwV 1 hts (bw_V wB_1157 wB_1158 wB_1159 wB_881 wB_1156) rfl rfl rfl (by decide +kernel) ⟨Nat.le_of_ble_eq_true rfl, Nat.le_of_ble_eq_true rfl⟩) (dg_preV sM_0 rfl K ST hP hS hA1 hA) rfl rfl hl.1 rfl (lv_room (Nat.le_of_ble_eq_true rfl)) dX12_goesOn_251 ⟨Nat.le_of_ble_eq_true rfl, Nat.le_of_ble_eq_true rfl⟩) (fun x_2431 S_2432 hw_2432 H locs hP hS => ?_)
              rw [hw_2432.1] at hP
              obtain ⟨hq_2432, w_2432_0, w_2432_1, -⟩ := hw_2432
              have hz_2433 : (62 : Int32).toInt = 62 := by decide +kernel
              have w_2432_0 : 0 ≤ (x_2431).toInt ∧ (x_2431).toInt ≤ 1 := w_2432_0
              have w_2432_1 : (x_2431).toInt = 1 ↔ ((sg).toInt = 3 ∧ (va).toInt = ((62 : Int32)).toInt) := w_2432_1
              refine lv_if_eq (tgt := 262) hx hb dX12_goesOn_254 (by decide) (fun c_2434 => ?_) (fun c_2434 => ?_)
              · have jc_2434 := dk_eqc (k := 0) (by decide +kernel) c_2434
                clear w_2432_1
                refine lv_bipush (v := 40) hx hb dX12_goesOn_262 (by decide +kernel) ?_
                have hz_2435 : (40 : Int32).toInt = 40 := by decide +kernel
                exact J_2412 40 (by decide +kernel) _ _ hP hS _ (lv_sub hl [0, 1, 2, 3] rfl)
              · have jc_2434 := dk_neqc (k := 0) (by decide +kernel) c_2434
                have jbc_2434 : 1 ≤ (x_2431).toInt := by omega
                clear jc_2434
                have w_2432_1_r := w_2432_1.mp (by omega)
                obtain ⟨w_2432_1_r1, w_2432_1_r2⟩ := w_2432_1_r
                clear w_2432_1
                have hlx_2r := hlx_2 (by omega)
                clear hlx_2
                refine lv_bipush (v := 39) hx hb dX12_goesOn_257 (by decide +kernel) ?_
                refine lv_goto (tgt := 264) hx hb dX12_goesOn_259 (by decide) ?_
                have hz_2436 : (39 : Int32).toInt = 39 := by decide +kernel
                exact J_2412 39 (by decide +kernel) _ _ hP hS _ (lv_sub hl [0, 1, 2, 3] rfl)
            · have jc_2430 := dk_neqc (k := 0) (by decide +kernel) c_2430
              have jbc_2430 : 1 ≤ (x_2386).toInt := by omega
              clear jc_2430
              have w_2387_1_r := w_2387_1.mp (by omega)
              obtain ⟨w_2387_1_r1, w_2387_1_r2⟩ := w_2387_1_r
              clear w_2387_1
              have hlx_2r := hlx_2 (by omega)
              clear hlx_2
              refine lv_bipush (v := 38) hx hb dX12_goesOn_243 (by decide +kernel) ?_
              refine lv_goto (tgt := 264) hx hb dX12_goesOn_245 (by decide) ?_
              have hz_2437 : (38 : Int32).toInt = 38 := by decide +kernel
              exact J_2412 38 (by decide +kernel) _ _ hP hS _ (lv_sub hl [0, 1, 2, 3] rfl)
          refine lv_if_ne (tgt := 228) hx hb dX12_goesOn_207 (by decide) (fun c_2438 => ?_) (fun c_2438 => ?_)
          · have jc_2438 := dk_neqc (k := 0) (by decide +kernel) c_2438
            have jbc_2438 : 1 ≤ (x_2335).toInt := by omega
            clear jc_2438
            have w_2336_1_r := w_2336_1.mp (by omega)
            obtain ⟨w_2336_1_r1, w_2336_1_r2⟩ := w_2336_1_r
            clear w_2336_1
            have hlx_2r := hlx_2 (by omega)
            clear hlx_2
            exact J_2379 ()  (by omega) _ _ hP hS _ (lv_sub hl [0, 1, 2, 3] rfl)
          · have jc_2438 := dk_eqc (k := 0) (by decide +kernel) c_2438
            clear w_2336_1
            refine lv_aload_n hx hb dX12_goesOn_210 rfl (lv_at hl 3 rfl) ?_
            refine lv_bipush (v := 62) hx hb dX12_goesOn_211 (by decide +kernel) ?_
            refine dg_calli hS hA1 hA (va_runV (As := [.int 62]) (rest := []) F (c_m_isSign l g D o S_2 62 sg ((m_2.1 0 3 _ sM_0 (by decide)).trans f_sg) (by omega) va ((m_2.1 0 6 _ sM_0 (by decide)).trans f_va) (by omega) I_2 H.size) (cwV 1 hts (bw_V wB_1157 wB_1158 wB_1159 wB_881 wB_1156) rfl rfl rfl (by decide +kernel) ⟨Nat.le_of_ble_eq_true rfl, Nat.le_of_ble_eq_true rfl⟩) (dg_preV sM_0 rfl K ST hP hS hA1 hA) rfl rfl hl.1 rfl (lv_room (Nat.le_of_ble_eq_true rfl)) dX12_goesOn_213 ⟨Nat.le_of_ble_eq_true rfl, Nat.le_of_ble_eq_true rfl⟩) (fun x_2439 S_2440 hw_2440 H locs hP hS => ?_)
            rw [hw_2440.1] at hP
            obtain ⟨hq_2440, w_2440_0, w_2440_1, -⟩ := hw_2440
            have hz_2441 : (62 : Int32).toInt = 62 := by decide +kernel
            have w_2440_0 : 0 ≤ (x_2439).toInt ∧ (x_2439).toInt ≤ 1 := w_2440_0
            have w_2440_1 : (x_2439).toInt = 1 ↔ ((sg).toInt = 3 ∧ (va).toInt = ((62 : Int32)).toInt) := w_2440_1
            refine lv_if_ne (tgt := 228) hx hb dX12_goesOn_216 (by decide) (fun c_2442 => ?_) (fun c_2442 => ?_)
            · have jc_2442 := dk_neqc (k := 0) (by decide +kernel) c_2442
              have jbc_2442 : 1 ≤ (x_2439).toInt := by omega
              clear jc_2442
              have w_2440_1_r := w_2440_1.mp (by omega)
              obtain ⟨w_2440_1_r1, w_2440_1_r2⟩ := w_2440_1_r
              clear w_2440_1
              have hlx_2r := hlx_2 (by omega)
              clear hlx_2
              exact J_2379 ()  (by omega) _ _ hP hS _ (lv_sub hl [0, 1, 2, 3] rfl)
            · have jc_2442 := dk_eqc (k := 0) (by decide +kernel) c_2442
              clear w_2440_1
              refine lv_aload_n hx hb dX12_goesOn_219 rfl (lv_at hl 3 rfl) ?_
              refine lv_bipush (v := 61) hx hb dX12_goesOn_220 (by decide +kernel) ?_
              refine dg_calli hS hA1 hA (va_runV (As := [.int 61]) (rest := []) F (c_m_isSign l g D o S_2 61 sg ((m_2.1 0 3 _ sM_0 (by decide)).trans f_sg) (by omega) va ((m_2.1 0 6 _ sM_0 (by decide)).trans f_va) (by omega) I_2 H.size) (cwV 1 hts (bw_V wB_1157 wB_1158 wB_1159 wB_881 wB_1156) rfl rfl rfl (by decide +kernel) ⟨Nat.le_of_ble_eq_true rfl, Nat.le_of_ble_eq_true rfl⟩) (dg_preV sM_0 rfl K ST hP hS hA1 hA) rfl rfl hl.1 rfl (lv_room (Nat.le_of_ble_eq_true rfl)) dX12_goesOn_222 ⟨Nat.le_of_ble_eq_true rfl, Nat.le_of_ble_eq_true rfl⟩) (fun x_2443 S_2444 hw_2444 H locs hP hS => ?_)
              rw [hw_2444.1] at hP
              obtain ⟨hq_2444, w_2444_0, w_2444_1, -⟩ := hw_2444
              have hz_2445 : (61 : Int32).toInt = 61 := by decide +kernel
              have w_2444_0 : 0 ≤ (x_2443).toInt ∧ (x_2443).toInt ≤ 1 := w_2444_0
              have w_2444_1 : (x_2443).toInt = 1 ↔ ((sg).toInt = 3 ∧ (va).toInt = ((61 : Int32)).toInt) := w_2444_1
              refine lv_if_eq (tgt := 285) hx hb dX12_goesOn_225 (by decide) (fun c_2446 => ?_) (fun c_2446 => ?_)
              · have jc_2446 := dk_eqc (k := 0) (by decide +kernel) c_2446
                clear w_2444_1
                exact J_1140   _ _ hP hS _ (lv_sub hl [0, 1, 2, 3] rfl)
              · have jc_2446 := dk_neqc (k := 0) (by decide +kernel) c_2446
                have jbc_2446 : 1 ≤ (x_2443).toInt := by omega
                clear jc_2446
                have w_2444_1_r := w_2444_1.mp (by omega)
                obtain ⟨w_2444_1_r1, w_2444_1_r2⟩ := w_2444_1_r
                clear w_2444_1
                have hlx_2r := hlx_2 (by omega)
                clear hlx_2
                exact J_2379 ()  (by omega) _ _ hP hS _ (lv_sub hl [0, 1, 2, 3] rfl)
    refine lv_icmp_ge (tgt := 188) hx hb dX12_goesOn_39 (by decide) (fun c_2447 => ?_) (fun c_2447 => ?_)
    · have jc_2447 := dk_gec (k := 2) (by decide +kernel) c_2447
      exact J_728   _ _ hP hS _ (lv_sub hl [0, 1, 2, 3] rfl)
    · have jc_2447 := dk_ngec (k := 2) (by decide +kernel) c_2447
      refine lv_aload_n hx hb dX12_goesOn_42 rfl (lv_at hl 3 rfl) ?_
      refine lv_bipush (v := 43) hx hb dX12_goesOn_43 (by decide +kernel) ?_
      refine dg_calli hS hA1 hA (va_runV (As := [.int 43]) (rest := []) F (c_m_isSign l g D o S_2 43 sg ((m_2.1 0 3 _ sM_0 (by decide)).trans f_sg) (by omega) va ((m_2.1 0 6 _ sM_0 (by decide)).trans f_va) (by omega) I_2 H.size) (cwV 1 hts (bw_V wB_1157 wB_1158 wB_1159 wB_881 wB_1156) rfl rfl rfl (by decide +kernel) ⟨Nat.le_of_ble_eq_true rfl, Nat.le_of_ble_eq_true rfl⟩) (dg_preV sM_0 rfl K ST hP hS hA1 hA) rfl rfl hl.1 rfl (lv_room (Nat.le_of_ble_eq_true rfl)) dX12_goesOn_45 ⟨Nat.le_of_ble_eq_true rfl, Nat.le_of_ble_eq_true rfl⟩) (fun x_2448 S_2449 hw_2449 H locs hP hS => ?_)
      rw [hw_2449.1] at hP
      obtain ⟨hq_2449, w_2449_0, w_2449_1, -⟩ := hw_2449
      have hz_2450 : (43 : Int32).toInt = 43 := by decide +kernel
      have w_2449_0 : 0 ≤ (x_2448).toInt ∧ (x_2448).toInt ≤ 1 := w_2449_0
      have w_2449_1 : (x_2448).toInt = 1 ↔ ((sg).toInt = 3 ∧ (va).toInt = ((43 : Int32)).toInt) := w_2449_1
      have J_2752 : ∀ (u9 : Unit), ((sg).toInt = 3 ∧ ((va).toInt = 43 ∨ (va).toInt = 45 ∨ (va).toInt = 42 ∨ (va).toInt = 47 ∨ (va).toInt = 37)) → ∀ (H : Heap) (locs : List Loc), va_P D vwCl (dg_w g shM o rfM S_2) H → va_S A s.heap H locs → ∀ ls : Array Slot, lv_has ls 5 [(3, .int x_8), (2, .int x_7), (1, .int x_5), (0, .ref (o + 0))] → W p l e ({ frames := 3, cells := 0, slots := 0, locals := 77 } : Room) s m args below meth c H locs 0 0 Q9 (F0 m 87 ls []) := by
        intro u9 rel_0 H locs hP hS ls hl
        clear w_2449_1
        refine lv_aload_n hx hb dX12_goesOn_87 rfl (lv_at hl 3 rfl) ?_
        refine lv_aload_n hx hb dX12_goesOn_88 rfl (lv_at hl 3 rfl) ?_
        refine lv_bipush (v := 43) hx hb dX12_goesOn_89 (by decide +kernel) ?_
        refine dg_calli hS hA1 hA (va_runV (As := [.int 43]) (rest := [.ref (o + 0)]) F (c_m_isSign l g D o S_2 43 sg ((m_2.1 0 3 _ sM_0 (by decide)).trans f_sg) (by omega) va ((m_2.1 0 6 _ sM_0 (by decide)).trans f_va) (by omega) I_2 H.size) (cwV 1 hts (bw_V wB_1157 wB_1158 wB_1159 wB_881 wB_1156) rfl rfl rfl (by decide +kernel) ⟨Nat.le_of_ble_eq_true rfl, Nat.le_of_ble_eq_true rfl⟩) (dg_preV sM_0 rfl K ST hP hS hA1 hA) rfl rfl hl.1 rfl (lv_room (Nat.le_of_ble_eq_true rfl)) dX12_goesOn_91 ⟨Nat.le_of_ble_eq_true rfl, Nat.le_of_ble_eq_true rfl⟩) (fun x_2753 S_2754 hw_2754 H locs hP hS => ?_)
        rw [hw_2754.1] at hP
        obtain ⟨hq_2754, w_2754_0, w_2754_1, -⟩ := hw_2754
        have hz_2755 : (43 : Int32).toInt = 43 := by decide +kernel
        have w_2754_0 : 0 ≤ (x_2753).toInt ∧ (x_2753).toInt ≤ 1 := w_2754_0
        have w_2754_1 : (x_2753).toInt = 1 ↔ ((sg).toInt = 3 ∧ (va).toInt = ((43 : Int32)).toInt) := w_2754_1
        refine lv_if_ne (tgt := 106) hx hb dX12_goesOn_94 (by decide) (fun c_2756 => ?_) (fun c_2756 => ?_)
        · have jc_2756 := dk_neqc (k := 0) (by decide +kernel) c_2756
          have jbc_2756 : 1 ≤ (x_2753).toInt := by omega
          clear jc_2756
          have w_2754_1_r := w_2754_1.mp (by omega)
          obtain ⟨w_2754_1_r1, w_2754_1_r2⟩ := w_2754_1_r
          clear w_2754_1
          have hlx_2r := hlx_2 (by omega)
          clear hlx_2
          refine lv_iconst (v := 5) hx hb dX12_goesOn_106 (by decide +kernel) ?_
          refine lv_goto (tgt := 112) hx hb dX12_goesOn_107 (by decide) ?_
          have hz_2757 : (5 : Int32).toInt = 5 := by decide +kernel
          refine dg_callv hS hA1 hA (va_runV (As := [.int 5]) (rest := []) F (c_m_joins l g D o S_2 5 (by decide +kernel) cd ((m_2.1 0 34 _ sM_0 (by decide)).trans f_cd) (by omega) om ((m_2.1 0 45 _ sM_0 (by decide)).trans f_om) (by omega) (by omega) (ZWM.keep ZW m_2 (by decide) (by decide) (by decide) (by decide)) (ZKM.keep ZK m_2 (by decide) (by decide)) (P1M.keep P1 m_2 (by decide) (by decide) (by decide) (by decide) (by decide) (by decide) (by decide) (by decide) (by decide) (by decide) (by decide) (by decide) (by decide) (by decide) (by decide)) I_2 H.size) (cwV 1 hts (bw_V wB_1234 wB_1235 wB_1236 wB_881 wB_1233) rfl rfl rfl (by decide +kernel) ⟨Nat.le_of_ble_eq_true rfl, Nat.le_of_ble_eq_true rfl⟩) (dg_preV sM_0 rfl K ST hP hS hA1 hA) rfl rfl hl.1 rfl (lv_room (Nat.le_of_ble_eq_true rfl)) dX12_goesOn_112 ⟨Nat.le_of_ble_eq_true rfl, Nat.le_of_ble_eq_true rfl⟩) (fun S_2758 hw_2758 H locs hP hS => ?_)
          obtain ⟨I_2758, m_2758, w_2758_0, w_2758_1, w_2758_2, w_2758_3, -⟩ := hw_2758
          have M_2758 := dg_sm.tr M_2 m_2758 (by decide) (by decide)
          have hz_2759 : (5 : Int32).toInt = 5 := by decide +kernel
          obtain ⟨y_2760, y_2761, f_y_2760, f_y_2761, w_2758_0⟩ := w_2758_0
          have w_2758_0 : (y_2760).toInt + (y_2761).toInt = (cd).toInt + (om).toInt := w_2758_0
          have b_y_2760 : 0 ≤ (y_2760).toInt ∧ (y_2760).toInt ≤ 1600 := dg_I.intb (lo := 0) (hi := 1600) I_2758 sM_0 (by decide +kernel) f_y_2760
          have b_y_2761 : 0 ≤ (y_2761).toInt ∧ (y_2761).toInt ≤ 500 := dg_I.intb (lo := 0) (hi := 500) I_2758 sM_0 (by decide +kernel) f_y_2761
          have w_2758_1 : TOPM S_2758 (5 : Int32) := w_2758_1
          obtain ⟨x_2762, f_x_2762, b_x_2762⟩ := dg_I.int (i := 0) (k := 43) (lo := (-2147483648)) (hi := 2147483647) I_2758 sM_0 (by decide +kernel)
          refine lv_aload_n hx hb dX12_goesOn_115 rfl (lv_at hl 3 rfl) ?_
          refine lv_aload_n hx hb dX12_goesOn_116 rfl (lv_at hl 3 rfl) ?_
          refine lv_bipush (v := 43) hx hb dX12_goesOn_117 (by decide +kernel) ?_
          refine dg_calli hS hA1 hA (va_runV (As := [.int 43]) (rest := [.ref (o + 0)]) F (c_m_isSign l g D o S_2758 43 sg (((m_2758.1 0 3 _ sM_0 (by decide)).trans (m_2.1 0 3 _ sM_0 (by decide))).trans f_sg) (by omega) va (((m_2758.1 0 6 _ sM_0 (by decide)).trans (m_2.1 0 6 _ sM_0 (by decide))).trans f_va) (by omega) I_2758 H.size) (cwV 1 hts (bw_V wB_1157 wB_1158 wB_1159 wB_881 wB_1156) rfl rfl rfl (by decide +kernel) ⟨Nat.le_of_ble_eq_true rfl, Nat.le_of_ble_eq_true rfl⟩) (dg_preV sM_0 rfl K ST hP hS hA1 hA) rfl rfl hl.1 rfl (lv_room (Nat.le_of_ble_eq_true rfl)) dX12_goesOn_119 ⟨Nat.le_of_ble_eq_true rfl, Nat.le_of_ble_eq_true rfl⟩) (fun x_2763 S_2764 hw_2764 H locs hP hS => ?_)
          rw [hw_2764.1] at hP
          obtain ⟨hq_2764, w_2764_0, w_2764_1, -⟩ := hw_2764
          have hz_2765 : (43 : Int32).toInt = 43 := by decide +kernel
          have w_2764_0 : 0 ≤ (x_2763).toInt ∧ (x_2763).toInt ≤ 1 := w_2764_0
          have w_2764_1 : (x_2763).toInt = 1 ↔ ((sg).toInt = 3 ∧ (va).toInt = ((43 : Int32)).toInt) := w_2764_1
          refine lv_if_eq (tgt := 130) hx hb dX12_goesOn_122 (by decide) (fun c_2766 => ?_) (fun c_2766 => ?_)
          · have jc_2766 := dk_eqc (k := 0) (by decide +kernel) c_2766
            have w_2764_1_r : (va).toInt ≠ 43 := fun q9 => absurd (w_2764_1.mpr ⟨by omega, by omega⟩) (by omega)
            clear w_2764_1
            refine lv_aload_n hx hb dX12_goesOn_130 rfl (lv_at hl 3 rfl) ?_
            refine lv_bipush (v := 45) hx hb dX12_goesOn_131 (by decide +kernel) ?_
            refine dg_calli hS hA1 hA (va_runV (As := [.int 45]) (rest := [.ref (o + 0)]) F (c_m_isSign l g D o S_2758 45 sg (((m_2758.1 0 3 _ sM_0 (by decide)).trans (m_2.1 0 3 _ sM_0 (by decide))).trans f_sg) (by omega) va (((m_2758.1 0 6 _ sM_0 (by decide)).trans (m_2.1 0 6 _ sM_0 (by decide))).trans f_va) (by omega) I_2758 H.size) (cwV 1 hts (bw_V wB_1157 wB_1158 wB_1159 wB_881 wB_1156) rfl rfl rfl (by decide +kernel) ⟨Nat.le_of_ble_eq_true rfl, Nat.le_of_ble_eq_true rfl⟩) (dg_preV sM_0 rfl K ST hP hS hA1 hA) rfl rfl hl.1 rfl (lv_room (Nat.le_of_ble_eq_true rfl)) dX12_goesOn_133 ⟨Nat.le_of_ble_eq_true rfl, Nat.le_of_ble_eq_true rfl⟩) (fun x_2767 S_2768 hw_2768 H locs hP hS => ?_)
            rw [hw_2768.1] at hP
            obtain ⟨hq_2768, w_2768_0, w_2768_1, -⟩ := hw_2768
            have hz_2769 : (45 : Int32).toInt = 45 := by decide +kernel
            have w_2768_0 : 0 ≤ (x_2767).toInt ∧ (x_2767).toInt ≤ 1 := w_2768_0
            have w_2768_1 : (x_2767).toInt = 1 ↔ ((sg).toInt = 3 ∧ (va).toInt = ((45 : Int32)).toInt) := w_2768_1
            refine lv_if_eq (tgt := 144) hx hb dX12_goesOn_136 (by decide) (fun c_2770 => ?_) (fun c_2770 => ?_)
            · have jc_2770 := dk_eqc (k := 0) (by decide +kernel) c_2770
              have w_2768_1_r : (va).toInt ≠ 45 := fun q9 => absurd (w_2768_1.mpr ⟨by omega, by omega⟩) (by omega)
              clear w_2768_1
              refine lv_aload_n hx hb dX12_goesOn_144 rfl (lv_at hl 3 rfl) ?_
              refine lv_bipush (v := 42) hx hb dX12_goesOn_145 (by decide +kernel) ?_
              refine dg_calli hS hA1 hA (va_runV (As := [.int 42]) (rest := [.ref (o + 0)]) F (c_m_isSign l g D o S_2758 42 sg (((m_2758.1 0 3 _ sM_0 (by decide)).trans (m_2.1 0 3 _ sM_0 (by decide))).trans f_sg) (by omega) va (((m_2758.1 0 6 _ sM_0 (by decide)).trans (m_2.1 0 6 _ sM_0 (by decide))).trans f_va) (by omega) I_2758 H.size) (cwV 1 hts (bw_V wB_1157 wB_1158 wB_1159 wB_881 wB_1156) rfl rfl rfl (by decide +kernel) ⟨Nat.le_of_ble_eq_true rfl, Nat.le_of_ble_eq_true rfl⟩) (dg_preV sM_0 rfl K ST hP hS hA1 hA) rfl rfl hl.1 rfl (lv_room (Nat.le_of_ble_eq_true rfl)) dX12_goesOn_147 ⟨Nat.le_of_ble_eq_true rfl, Nat.le_of_ble_eq_true rfl⟩) (fun x_2771 S_2772 hw_2772 H locs hP hS => ?_)
              rw [hw_2772.1] at hP
              obtain ⟨hq_2772, w_2772_0, w_2772_1, -⟩ := hw_2772
              have hz_2773 : (42 : Int32).toInt = 42 := by decide +kernel
              have w_2772_0 : 0 ≤ (x_2771).toInt ∧ (x_2771).toInt ≤ 1 := w_2772_0
              have w_2772_1 : (x_2771).toInt = 1 ↔ ((sg).toInt = 3 ∧ (va).toInt = ((42 : Int32)).toInt) := w_2772_1
              refine lv_if_eq (tgt := 158) hx hb dX12_goesOn_150 (by decide) (fun c_2774 => ?_) (fun c_2774 => ?_)
              · have jc_2774 := dk_eqc (k := 0) (by decide +kernel) c_2774
                have w_2772_1_r : (va).toInt ≠ 42 := fun q9 => absurd (w_2772_1.mpr ⟨by omega, by omega⟩) (by omega)
                clear w_2772_1
                refine lv_aload_n hx hb dX12_goesOn_158 rfl (lv_at hl 3 rfl) ?_
                refine lv_bipush (v := 47) hx hb dX12_goesOn_159 (by decide +kernel) ?_
                refine dg_calli hS hA1 hA (va_runV (As := [.int 47]) (rest := [.ref (o + 0)]) F (c_m_isSign l g D o S_2758 47 sg (((m_2758.1 0 3 _ sM_0 (by decide)).trans (m_2.1 0 3 _ sM_0 (by decide))).trans f_sg) (by omega) va (((m_2758.1 0 6 _ sM_0 (by decide)).trans (m_2.1 0 6 _ sM_0 (by decide))).trans f_va) (by omega) I_2758 H.size) (cwV 1 hts (bw_V wB_1157 wB_1158 wB_1159 wB_881 wB_1156) rfl rfl rfl (by decide +kernel) ⟨Nat.le_of_ble_eq_true rfl, Nat.le_of_ble_eq_true rfl⟩) (dg_preV sM_0 rfl K ST hP hS hA1 hA) rfl rfl hl.1 rfl (lv_room (Nat.le_of_ble_eq_true rfl)) dX12_goesOn_161 ⟨Nat.le_of_ble_eq_true rfl, Nat.le_of_ble_eq_true rfl⟩) (fun x_2775 S_2776 hw_2776 H locs hP hS => ?_)
                rw [hw_2776.1] at hP
                obtain ⟨hq_2776, w_2776_0, w_2776_1, -⟩ := hw_2776
                have hz_2777 : (47 : Int32).toInt = 47 := by decide +kernel
                have w_2776_0 : 0 ≤ (x_2775).toInt ∧ (x_2775).toInt ≤ 1 := w_2776_0
                have w_2776_1 : (x_2775).toInt = 1 ↔ ((sg).toInt = 3 ∧ (va).toInt = ((47 : Int32)).toInt) := w_2776_1
                refine lv_if_eq (tgt := 172) hx hb dX12_goesOn_164 (by decide) (fun c_2778 => ?_) (fun c_2778 => ?_)
                · have jc_2778 := dk_eqc (k := 0) (by decide +kernel) c_2778
                  have w_2776_1_r : (va).toInt ≠ 47 := fun q9 => absurd (w_2776_1.mpr ⟨by omega, by omega⟩) (by omega)
                  clear w_2776_1
                  refine lv_bipush (v := 35) hx hb dX12_goesOn_172 (by decide +kernel) ?_
                  refine dg_callv hS hA1 hA (va_runV (As := [.int 35]) (rest := []) F (c_m_holdsBack l g D o S_2758 35 y_2761 f_y_2761 (by omega) I_2758 H.size) (cwV 1 hts (bw_V wB_1224 wB_1225 wB_1226 wB_881 wB_1223) rfl rfl rfl (by decide +kernel) ⟨Nat.le_of_ble_eq_true rfl, Nat.le_of_ble_eq_true rfl⟩) (dg_preV sM_0 rfl K ST hP hS hA1 hA) rfl rfl hl.1 rfl (lv_room (Nat.le_of_ble_eq_true rfl)) dX12_goesOn_174 ⟨Nat.le_of_ble_eq_true rfl, Nat.le_of_ble_eq_true rfl⟩) (fun S_2779 hw_2779 H locs hP hS => ?_)
                  obtain ⟨I_2779, m_2779, w_2779_0, w_2779_1, -⟩ := hw_2779
                  have M_2779 := dg_sm.tr M_2758 m_2779 (by decide) (by decide)
                  have hz_2780 : (35 : Int32).toInt = 35 := by decide +kernel
                  obtain ⟨y_2781, f_y_2781, w_2779_0⟩ := w_2779_0
                  have w_2779_0 : (y_2781).toInt = (y_2761).toInt + 1 := w_2779_0
                  have b_y_2781 : 0 ≤ (y_2781).toInt ∧ (y_2781).toInt ≤ 500 := dg_I.intb (lo := 0) (hi := 500) I_2779 sM_0 (by decide +kernel) f_y_2781
                  have w_2779_1 : HBM S_2758 S_2779 (35 : Int32) := w_2779_1
                  have P0_2779 : P0M S_2779 := P1M.bin w_2758_3 (((m_2758.1 0 42 _ sM_0 (by decide)).trans (m_2.1 0 42 _ sM_0 (by decide))).trans f_dp) f_x_2762 f_y_2761 w_2758_1 m_2779 w_2779_1 (by omega)
                  refine lv_aload_n hx hb dX12_goesOn_177 rfl (lv_at hl 3 rfl) ?_
                  refine dg_callv hS hA1 hA (va_runV (As := []) (rest := []) F (c_m_ahead l g D o S_2779 se (((m_2779.1 0 5 _ sM_0 (by decide)).trans ((m_2758.1 0 5 _ sM_0 (by decide)).trans (m_2.1 0 5 _ sM_0 (by decide)))).trans f_se) (by omega) sl (((m_2779.1 0 2 _ sM_0 (by decide)).trans ((m_2758.1 0 2 _ sM_0 (by decide)).trans (m_2.1 0 2 _ sM_0 (by decide)))).trans f_sl) (by omega) (by omega) I_2779 H.size) (cwV 0 hts (bw_V wB_1161 wB_1162 wB_1163 wB_881 wB_1160) rfl rfl rfl (by decide +kernel) ⟨Nat.le_of_ble_eq_true rfl, Nat.le_of_ble_eq_true rfl⟩) (dg_preV sM_0 rfl K ST hP hS hA1 hA) rfl rfl hl.1 rfl (lv_room (Nat.le_of_ble_eq_true rfl)) dX12_goesOn_178 ⟨Nat.le_of_ble_eq_true rfl, Nat.le_of_ble_eq_true rfl⟩) (fun S_2782 hw_2782 H locs hP hS => ?_)
                  obtain ⟨I_2782, m_2782, w_2782_0, -⟩ := hw_2782
                  have M_2782 := dg_sm.tr M_2779 m_2782 (by decide) (by decide)
                  obtain ⟨y_2783, y_2784, y_2785, f_y_2783, f_y_2784, f_y_2785, w_2782_0⟩ := w_2782_0
                  have w_2782_0 : (se).toInt ≤ (y_2784).toInt ∧ (y_2784).toInt ≤ (y_2785).toInt ∧ (y_2785).toInt ≤ (sl).toInt ∧ ((y_2783).toInt ≠ 0 → (y_2784).toInt + 1 ≤ (y_2785).toInt) := w_2782_0
                  obtain ⟨w_2782_0_0, w_2782_0_1, w_2782_0_2, w_2782_0_3⟩ := w_2782_0
                  have b_y_2783 : 0 ≤ (y_2783).toInt ∧ (y_2783).toInt ≤ 3 := dg_I.intb (lo := 0) (hi := 3) I_2782 sM_0 (by decide +kernel) f_y_2783
                  have b_y_2784 : 0 ≤ (y_2784).toInt ∧ (y_2784).toInt ≤ 1600 := dg_I.intb (lo := 0) (hi := 1600) I_2782 sM_0 (by decide +kernel) f_y_2784
                  have b_y_2785 : 0 ≤ (y_2785).toInt ∧ (y_2785).toInt ≤ 1600 := dg_I.intb (lo := 0) (hi := 1600) I_2782 sM_0 (by decide +kernel) f_y_2785
                  refine lv_aload_n hx hb dX12_goesOn_181 rfl (lv_at hl 3 rfl) ?_
                  refine lv_iconst (v := 0) hx hb dX12_goesOn_182 (by decide +kernel) ?_
                  have hz_2786 : (0 : Int32).toInt = 0 := by decide +kernel
                  refine dg_put (ci := 12) (v := .int 0) (ty := tyX12 46) (C := RX12) (T := TX12) (N := 77) hx hb hts (fun w h => bw_mem (wU_X12 w h)) tyX12 tyX12_ok nmX12 hown K hP hS hA1 sM_0 rfl 46 (by decide) (hts _ (bw_mem wB_1237)) (fun _ h9 => h9) rfl (by decide +kernel) (by decide +kernel) (by decide +kernel) dX12_goesOn_183 (fun S_2787 e_2787 H locs hP hS => ?_)
                  have I_2787 := dg_I.uFi (lo := 0) (hi := 1) I_2782 e_2787 sM_0 (by decide +kernel) (show 0 ≤ ((0 : Int32)).toInt ∧ ((0 : Int32)).toInt ≤ 1 from (by decide +kernel))
                  have M_2787 := dg_sm.uF M_2782 e_2787 sM_0 (by decide)
                  refine lv_iconst (v := 1) hx hb dX12_goesOn_186 (by decide +kernel) ?_
                  have hz_2788 : (1 : Int32).toInt = 1 := by decide +kernel
                  have hz_2789 : (1 : Int32).toInt = 1 := by decide +kernel
                  have hz_2790 : (0 : Int32).toInt = 0 := by decide +kernel
                  have hz_2791 : (1 : Int32).toInt = 1 := by decide +kernel
                  have hz_2792 : (0 : Int32).toInt = 0 := by decide +kernel
                  refine W.widen (k := 0) (n := 0) (Nat.le_of_ble_eq_true rfl) (Nat.le_of_ble_eq_true rfl) ?_
                  rw [hQ9]
                  exact dg_iret hx hb hr hlocks (by decide +kernel) hP hS ⟨I_2787, M_2787, (by decide +kernel), ⟨y_2783, y_2784, y_2785, y_3, y_2760, dp, y_2781, 0, ((dg_uF_ne e_2787 (fun z => absurd z.2 (by decide))).trans f_y_2783), ((dg_uF_ne e_2787 (fun z => absurd z.2 (by decide))).trans f_y_2784), ((dg_uF_ne e_2787 (fun z => absurd z.2 (by decide))).trans f_y_2785), (((dg_uF_ne e_2787 (fun z => absurd z.2 (by decide))).trans ((m_2782.1 0 8 _ sM_0 (by decide)).trans ((m_2779.1 0 8 _ sM_0 (by decide)).trans (m_2758.1 0 8 _ sM_0 (by decide))))).trans f_y_3), (((dg_uF_ne e_2787 (fun z => absurd z.2 (by decide))).trans ((m_2782.1 0 34 _ sM_0 (by decide)).trans (m_2779.1 0 34 _ sM_0 (by decide)))).trans f_y_2760), (((dg_uF_ne e_2787 (fun z => absurd z.2 (by decide))).trans ((m_2782.1 0 42 _ sM_0 (by decide)).trans ((m_2779.1 0 42 _ sM_0 (by decide)).trans ((m_2758.1 0 42 _ sM_0 (by decide)).trans (m_2.1 0 42 _ sM_0 (by decide)))))).trans f_dp), (((dg_uF_ne e_2787 (fun z => absurd z.2 (by decide))).trans (m_2782.1 0 45 _ sM_0 (by decide))).trans f_y_2781), (dg_uF_at e_2787), (by omega)⟩, (fun k9 hk9 hk0 => POM.mk0 (P0M.keep (P0M.keep P0_2779 m_2782 (by decide) (by decide) (by decide) (by decide) (by decide) (by decide) (by decide) (by decide) (by decide) (by decide) (by decide) (by decide) (by decide) (by decide) (by decide)) (dg_sm.uF (WF := [(0, 46)]) (WA := []) dg_sm.rf e_2787 sM_0 (by decide)) (by decide) (by decide) (by decide) (by decide) (by decide) (by decide) (by decide) (by decide) (by decide) (by decide) (by decide) (by decide) (by decide) (by decide) (by decide)) (dg_uF_at e_2787) (by omega)), (ZWM.keep (ZWM.keep (ZWM.keep w_2758_2 m_2779 (by decide) (by decide) (by decide) (by decide)) m_2782 (by decide) (by decide) (by decide) (by decide)) (dg_sm.uF (WF := [(0, 46)]) (WA := []) dg_sm.rf e_2787 sM_0 (by decide)) (by decide) (by decide) (by decide) (by decide)), trivial⟩ dX12_goesOn_187
                · have jc_2778 := dk_neqc (k := 0) (by decide +kernel) c_2778
                  have jbc_2778 : 1 ≤ (x_2775).toInt := by omega
                  clear jc_2778
                  have w_2776_1_r := w_2776_1.mp (by omega)
                  obtain ⟨w_2776_1_r1, w_2776_1_r2⟩ := w_2776_1_r
                  clear w_2776_1
                  refine lv_bipush (v := 34) hx hb dX12_goesOn_167 (by decide +kernel) ?_
                  refine lv_goto (tgt := 174) hx hb dX12_goesOn_169 (by decide) ?_
                  refine dg_callv hS hA1 hA (va_runV (As := [.int 34]) (rest := []) F (c_m_holdsBack l g D o S_2758 34 y_2761 f_y_2761 (by omega) I_2758 H.size) (cwV 1 hts (bw_V wB_1224 wB_1225 wB_1226 wB_881 wB_1223) rfl rfl rfl (by decide +kernel) ⟨Nat.le_of_ble_eq_true rfl, Nat.le_of_ble_eq_true rfl⟩) (dg_preV sM_0 rfl K ST hP hS hA1 hA) rfl rfl hl.1 rfl (lv_room (Nat.le_of_ble_eq_true rfl)) dX12_goesOn_174 ⟨Nat.le_of_ble_eq_true rfl, Nat.le_of_ble_eq_true rfl⟩) (fun S_2793 hw_2793 H locs hP hS => ?_)
                  obtain ⟨I_2793, m_2793, w_2793_0, w_2793_1, -⟩ := hw_2793
                  have M_2793 := dg_sm.tr M_2758 m_2793 (by decide) (by decide)
                  have hz_2794 : (34 : Int32).toInt = 34 := by decide +kernel
                  obtain ⟨y_2795, f_y_2795, w_2793_0⟩ := w_2793_0
                  have w_2793_0 : (y_2795).toInt = (y_2761).toInt + 1 := w_2793_0
                  have b_y_2795 : 0 ≤ (y_2795).toInt ∧ (y_2795).toInt ≤ 500 := dg_I.intb (lo := 0) (hi := 500) I_2793 sM_0 (by decide +kernel) f_y_2795
                  have w_2793_1 : HBM S_2758 S_2793 (34 : Int32) := w_2793_1
                  have P0_2793 : P0M S_2793 := P1M.bin w_2758_3 (((m_2758.1 0 42 _ sM_0 (by decide)).trans (m_2.1 0 42 _ sM_0 (by decide))).trans f_dp) f_x_2762 f_y_2761 w_2758_1 m_2793 w_2793_1 (by omega)
                  refine lv_aload_n hx hb dX12_goesOn_177 rfl (lv_at hl 3 rfl) ?_
                  refine dg_callv hS hA1 hA (va_runV (As := []) (rest := []) F (c_m_ahead l g D o S_2793 se (((m_2793.1 0 5 _ sM_0 (by decide)).trans ((m_2758.1 0 5 _ sM_0 (by decide)).trans (m_2.1 0 5 _ sM_0 (by decide)))).trans f_se) (by omega) sl (((m_2793.1 0 2 _ sM_0 (by decide)).trans ((m_2758.1 0 2 _ sM_0 (by decide)).trans (m_2.1 0 2 _ sM_0 (by decide)))).trans f_sl) (by omega) (by omega) I_2793 H.size) (cwV 0 hts (bw_V wB_1161 wB_1162 wB_1163 wB_881 wB_1160) rfl rfl rfl (by decide +kernel) ⟨Nat.le_of_ble_eq_true rfl, Nat.le_of_ble_eq_true rfl⟩) (dg_preV sM_0 rfl K ST hP hS hA1 hA) rfl rfl hl.1 rfl (lv_room (Nat.le_of_ble_eq_true rfl)) dX12_goesOn_178 ⟨Nat.le_of_ble_eq_true rfl, Nat.le_of_ble_eq_true rfl⟩) (fun S_2796 hw_2796 H locs hP hS => ?_)
                  obtain ⟨I_2796, m_2796, w_2796_0, -⟩ := hw_2796
                  have M_2796 := dg_sm.tr M_2793 m_2796 (by decide) (by decide)
                  obtain ⟨y_2797, y_2798, y_2799, f_y_2797, f_y_2798, f_y_2799, w_2796_0⟩ := w_2796_0
                  have w_2796_0 : (se).toInt ≤ (y_2798).toInt ∧ (y_2798).toInt ≤ (y_2799).toInt ∧ (y_2799).toInt ≤ (sl).toInt ∧ ((y_2797).toInt ≠ 0 → (y_2798).toInt + 1 ≤ (y_2799).toInt) := w_2796_0
                  obtain ⟨w_2796_0_0, w_2796_0_1, w_2796_0_2, w_2796_0_3⟩ := w_2796_0
                  have b_y_2797 : 0 ≤ (y_2797).toInt ∧ (y_2797).toInt ≤ 3 := dg_I.intb (lo := 0) (hi := 3) I_2796 sM_0 (by decide +kernel) f_y_2797
                  have b_y_2798 : 0 ≤ (y_2798).toInt ∧ (y_2798).toInt ≤ 1600 := dg_I.intb (lo := 0) (hi := 1600) I_2796 sM_0 (by decide +kernel) f_y_2798
                  have b_y_2799 : 0 ≤ (y_2799).toInt ∧ (y_2799).toInt ≤ 1600 := dg_I.intb (lo := 0) (hi := 1600) I_2796 sM_0 (by decide +kernel) f_y_2799
                  refine lv_aload_n hx hb dX12_goesOn_181 rfl (lv_at hl 3 rfl) ?_
                  refine lv_iconst (v := 0) hx hb dX12_goesOn_182 (by decide +kernel) ?_
                  have hz_2800 : (0 : Int32).toInt = 0 := by decide +kernel
                  refine dg_put (ci := 12) (v := .int 0) (ty := tyX12 46) (C := RX12) (T := TX12) (N := 77) hx hb hts (fun w h => bw_mem (wU_X12 w h)) tyX12 tyX12_ok nmX12 hown K hP hS hA1 sM_0 rfl 46 (by decide) (hts _ (bw_mem wB_1237)) (fun _ h9 => h9) rfl (by decide +kernel) (by decide +kernel) (by decide +kernel) dX12_goesOn_183 (fun S_2801 e_2801 H locs hP hS => ?_)
                  have I_2801 := dg_I.uFi (lo := 0) (hi := 1) I_2796 e_2801 sM_0 (by decide +kernel) (show 0 ≤ ((0 : Int32)).toInt ∧ ((0 : Int32)).toInt ≤ 1 from (by decide +kernel))
                  have M_2801 := dg_sm.uF M_2796 e_2801 sM_0 (by decide)
                  refine lv_iconst (v := 1) hx hb dX12_goesOn_186 (by decide +kernel) ?_
                  have hz_2802 : (1 : Int32).toInt = 1 := by decide +kernel
                  have hz_2803 : (1 : Int32).toInt = 1 := by decide +kernel
                  have hz_2804 : (0 : Int32).toInt = 0 := by decide +kernel
                  have hz_2805 : (1 : Int32).toInt = 1 := by decide +kernel
                  have hz_2806 : (0 : Int32).toInt = 0 := by decide +kernel
                  refine W.widen (k := 0) (n := 0) (Nat.le_of_ble_eq_true rfl) (Nat.le_of_ble_eq_true rfl) ?_
                  rw [hQ9]
                  exact dg_iret hx hb hr hlocks (by decide +kernel) hP hS ⟨I_2801, M_2801, (by decide +kernel), ⟨y_2797, y_2798, y_2799, y_3, y_2760, dp, y_2795, 0, ((dg_uF_ne e_2801 (fun z => absurd z.2 (by decide))).trans f_y_2797), ((dg_uF_ne e_2801 (fun z => absurd z.2 (by decide))).trans f_y_2798), ((dg_uF_ne e_2801 (fun z => absurd z.2 (by decide))).trans f_y_2799), (((dg_uF_ne e_2801 (fun z => absurd z.2 (by decide))).trans ((m_2796.1 0 8 _ sM_0 (by decide)).trans ((m_2793.1 0 8 _ sM_0 (by decide)).trans (m_2758.1 0 8 _ sM_0 (by decide))))).trans f_y_3), (((dg_uF_ne e_2801 (fun z => absurd z.2 (by decide))).trans ((m_2796.1 0 34 _ sM_0 (by decide)).trans (m_2793.1 0 34 _ sM_0 (by decide)))).trans f_y_2760), (((dg_uF_ne e_2801 (fun z => absurd z.2 (by decide))).trans ((m_2796.1 0 42 _ sM_0 (by decide)).trans ((m_2793.1 0 42 _ sM_0 (by decide)).trans ((m_2758.1 0 42 _ sM_0 (by decide)).trans (m_2.1 0 42 _ sM_0 (by decide)))))).trans f_dp), (((dg_uF_ne e_2801 (fun z => absurd z.2 (by decide))).trans (m_2796.1 0 45 _ sM_0 (by decide))).trans f_y_2795), (dg_uF_at e_2801), (by omega)⟩, (fun k9 hk9 hk0 => POM.mk0 (P0M.keep (P0M.keep P0_2793 m_2796 (by decide) (by decide) (by decide) (by decide) (by decide) (by decide) (by decide) (by decide) (by decide) (by decide) (by decide) (by decide) (by decide) (by decide) (by decide)) (dg_sm.uF (WF := [(0, 46)]) (WA := []) dg_sm.rf e_2801 sM_0 (by decide)) (by decide) (by decide) (by decide) (by decide) (by decide) (by decide) (by decide) (by decide) (by decide) (by decide) (by decide) (by decide) (by decide) (by decide) (by decide)) (dg_uF_at e_2801) (by omega)), (ZWM.keep (ZWM.keep (ZWM.keep w_2758_2 m_2793 (by decide) (by decide) (by decide) (by decide)) m_2796 (by decide) (by decide) (by decide) (by decide)) (dg_sm.uF (WF := [(0, 46)]) (WA := []) dg_sm.rf e_2801 sM_0 (by decide)) (by decide) (by decide) (by decide) (by decide)), trivial⟩ dX12_goesOn_187
              · have jc_2774 := dk_neqc (k := 0) (by decide +kernel) c_2774
                have jbc_2774 : 1 ≤ (x_2771).toInt := by omega
                clear jc_2774
                have w_2772_1_r := w_2772_1.mp (by omega)
                obtain ⟨w_2772_1_r1, w_2772_1_r2⟩ := w_2772_1_r
                clear w_2772_1
                refine lv_bipush (v := 33) hx hb dX12_goesOn_153 (by decide +kernel) ?_
                refine lv_goto (tgt := 174) hx hb dX12_goesOn_155 (by decide) ?_
                refine dg_callv hS hA1 hA (va_runV (As := [.int 33]) (rest := []) F (c_m_holdsBack l g D o S_2758 33 y_2761 f_y_2761 (by omega) I_2758 H.size) (cwV 1 hts (bw_V wB_1224 wB_1225 wB_1226 wB_881 wB_1223) rfl rfl rfl (by decide +kernel) ⟨Nat.le_of_ble_eq_true rfl, Nat.le_of_ble_eq_true rfl⟩) (dg_preV sM_0 rfl K ST hP hS hA1 hA) rfl rfl hl.1 rfl (lv_room (Nat.le_of_ble_eq_true rfl)) dX12_goesOn_174 ⟨Nat.le_of_ble_eq_true rfl, Nat.le_of_ble_eq_true rfl⟩) (fun S_2807 hw_2807 H locs hP hS => ?_)
                obtain ⟨I_2807, m_2807, w_2807_0, w_2807_1, -⟩ := hw_2807
                have M_2807 := dg_sm.tr M_2758 m_2807 (by decide) (by decide)
                have hz_2808 : (33 : Int32).toInt = 33 := by decide +kernel
                obtain ⟨y_2809, f_y_2809, w_2807_0⟩ := w_2807_0
                have w_2807_0 : (y_2809).toInt = (y_2761).toInt + 1 := w_2807_0
                have b_y_2809 : 0 ≤ (y_2809).toInt ∧ (y_2809).toInt ≤ 500 := dg_I.intb (lo := 0) (hi := 500) I_2807 sM_0 (by decide +kernel) f_y_2809
                have w_2807_1 : HBM S_2758 S_2807 (33 : Int32) := w_2807_1
                have P0_2807 : P0M S_2807 := P1M.bin w_2758_3 (((m_2758.1 0 42 _ sM_0 (by decide)).trans (m_2.1 0 42 _ sM_0 (by decide))).trans f_dp) f_x_2762 f_y_2761 w_2758_1 m_2807 w_2807_1 (by omega)
                refine lv_aload_n hx hb dX12_goesOn_177 rfl (lv_at hl 3 rfl) ?_
                refine dg_callv hS hA1 hA (va_runV (As := []) (rest := []) F (c_m_ahead l g D o S_2807 se (((m_2807.1 0 5 _ sM_0 (by decide)).trans ((m_2758.1 0 5 _ sM_0 (by decide)).trans (m_2.1 0 5 _ sM_0 (by decide)))).trans f_se) (by omega) sl (((m_2807.1 0 2 _ sM_0 (by decide)).trans ((m_2758.1 0 2 _ sM_0 (by decide)).trans (m_2.1 0 2 _ sM_0 (by decide)))).trans f_sl) (by omega) (by omega) I_2807 H.size) (cwV 0 hts (bw_V wB_1161 wB_1162 wB_1163 wB_881 wB_1160) rfl rfl rfl (by decide +kernel) ⟨Nat.le_of_ble_eq_true rfl, Nat.le_of_ble_eq_true rfl⟩) (dg_preV sM_0 rfl K ST hP hS hA1 hA) rfl rfl hl.1 rfl (lv_room (Nat.le_of_ble_eq_true rfl)) dX12_goesOn_178 ⟨Nat.le_of_ble_eq_true rfl, Nat.le_of_ble_eq_true rfl⟩) (fun S_2810 hw_2810 H locs hP hS => ?_)
                obtain ⟨I_2810, m_2810, w_2810_0, -⟩ := hw_2810
                have M_2810 := dg_sm.tr M_2807 m_2810 (by decide) (by decide)
                obtain ⟨y_2811, y_2812, y_2813, f_y_2811, f_y_2812, f_y_2813, w_2810_0⟩ := w_2810_0
                have w_2810_0 : (se).toInt ≤ (y_2812).toInt ∧ (y_2812).toInt ≤ (y_2813).toInt ∧ (y_2813).toInt ≤ (sl).toInt ∧ ((y_2811).toInt ≠ 0 → (y_2812).toInt + 1 ≤ (y_2813).toInt) := w_2810_0
                obtain ⟨w_2810_0_0, w_2810_0_1, w_2810_0_2, w_2810_0_3⟩ := w_2810_0
                have b_y_2811 : 0 ≤ (y_2811).toInt ∧ (y_2811).toInt ≤ 3 := dg_I.intb (lo := 0) (hi := 3) I_2810 sM_0 (by decide +kernel) f_y_2811
                have b_y_2812 : 0 ≤ (y_2812).toInt ∧ (y_2812).toInt ≤ 1600 := dg_I.intb (lo := 0) (hi := 1600) I_2810 sM_0 (by decide +kernel) f_y_2812
                have b_y_2813 : 0 ≤ (y_2813).toInt ∧ (y_2813).toInt ≤ 1600 := dg_I.intb (lo := 0) (hi := 1600) I_2810 sM_0 (by decide +kernel) f_y_2813
                refine lv_aload_n hx hb dX12_goesOn_181 rfl (lv_at hl 3 rfl) ?_
                refine lv_iconst (v := 0) hx hb dX12_goesOn_182 (by decide +kernel) ?_
                have hz_2814 : (0 : Int32).toInt = 0 := by decide +kernel
                refine dg_put (ci := 12) (v := .int 0) (ty := tyX12 46) (C := RX12) (T := TX12) (N := 77) hx hb hts (fun w h => bw_mem (wU_X12 w h)) tyX12 tyX12_ok nmX12 hown K hP hS hA1 sM_0 rfl 46 (by decide) (hts _ (bw_mem wB_1237)) (fun _ h9 => h9) rfl (by decide +kernel) (by decide +kernel) (by decide +kernel) dX12_goesOn_183 (fun S_2815 e_2815 H locs hP hS => ?_)
                have I_2815 := dg_I.uFi (lo := 0) (hi := 1) I_2810 e_2815 sM_0 (by decide +kernel) (show 0 ≤ ((0 : Int32)).toInt ∧ ((0 : Int32)).toInt ≤ 1 from (by decide +kernel))
                have M_2815 := dg_sm.uF M_2810 e_2815 sM_0 (by decide)
                refine lv_iconst (v := 1) hx hb dX12_goesOn_186 (by decide +kernel) ?_
                have hz_2816 : (1 : Int32).toInt = 1 := by decide +kernel
                have hz_2817 : (1 : Int32).toInt = 1 := by decide +kernel
                have hz_2818 : (0 : Int32).toInt = 0 := by decide +kernel
                have hz_2819 : (1 : Int32).toInt = 1 := by decide +kernel
                have hz_2820 : (0 : Int32).toInt = 0 := by decide +kernel
                refine W.widen (k := 0) (n := 0) (Nat.le_of_ble_eq_true rfl) (Nat.le_of_ble_eq_true rfl) ?_
                rw [hQ9]
                exact dg_iret hx hb hr hlocks (by decide +kernel) hP hS ⟨I_2815, M_2815, (by decide +kernel), ⟨y_2811, y_2812, y_2813, y_3, y_2760, dp, y_2809, 0, ((dg_uF_ne e_2815 (fun z => absurd z.2 (by decide))).trans f_y_2811), ((dg_uF_ne e_2815 (fun z => absurd z.2 (by decide))).trans f_y_2812), ((dg_uF_ne e_2815 (fun z => absurd z.2 (by decide))).trans f_y_2813), (((dg_uF_ne e_2815 (fun z => absurd z.2 (by decide))).trans ((m_2810.1 0 8 _ sM_0 (by decide)).trans ((m_2807.1 0 8 _ sM_0 (by decide)).trans (m_2758.1 0 8 _ sM_0 (by decide))))).trans f_y_3), (((dg_uF_ne e_2815 (fun z => absurd z.2 (by decide))).trans ((m_2810.1 0 34 _ sM_0 (by decide)).trans (m_2807.1 0 34 _ sM_0 (by decide)))).trans f_y_2760), (((dg_uF_ne e_2815 (fun z => absurd z.2 (by decide))).trans ((m_2810.1 0 42 _ sM_0 (by decide)).trans ((m_2807.1 0 42 _ sM_0 (by decide)).trans ((m_2758.1 0 42 _ sM_0 (by decide)).trans (m_2.1 0 42 _ sM_0 (by decide)))))).trans f_dp), (((dg_uF_ne e_2815 (fun z => absurd z.2 (by decide))).trans (m_2810.1 0 45 _ sM_0 (by decide))).trans f_y_2809), (dg_uF_at e_2815), (by omega)⟩, (fun k9 hk9 hk0 => POM.mk0 (P0M.keep (P0M.keep P0_2807 m_2810 (by decide) (by decide) (by decide) (by decide) (by decide) (by decide) (by decide) (by decide) (by decide) (by decide) (by decide) (by decide) (by decide) (by decide) (by decide)) (dg_sm.uF (WF := [(0, 46)]) (WA := []) dg_sm.rf e_2815 sM_0 (by decide)) (by decide) (by decide) (by decide) (by decide) (by decide) (by decide) (by decide) (by decide) (by decide) (by decide) (by decide) (by decide) (by decide) (by decide) (by decide)) (dg_uF_at e_2815) (by omega)), (ZWM.keep (ZWM.keep (ZWM.keep w_2758_2 m_2807 (by decide) (by decide) (by decide) (by decide)) m_2810 (by decide) (by decide) (by decide) (by decide)) (dg_sm.uF (WF := [(0, 46)]) (WA := []) dg_sm.rf e_2815 sM_0 (by decide)) (by decide) (by decide) (by decide) (by decide)), trivial⟩ dX12_goesOn_187
            · have jc_2770 := dk_neqc (k := 0) (by decide +kernel) c_2770
              have jbc_2770 : 1 ≤ (x_2767).toInt := by omega
              clear jc_2770
              have w_2768_1_r := w_2768_1.mp (by omega)
              obtain ⟨w_2768_1_r1, w_2768_1_r2⟩ := w_2768_1_r
              clear w_2768_1
              refine lv_bipush (v := 32) hx hb dX12_goesOn_139 (by decide +kernel) ?_
              refine lv_goto (tgt := 174) hx hb dX12_goesOn_141 (by decide) ?_
              refine dg_callv hS hA1 hA (va_runV (As := [.int 32]) (rest := []) F (c_m_holdsBack l g D o S_2758 32 y_2761 f_y_2761 (by omega) I_2758 H.size) (cwV 1 hts (bw_V wB_1224 wB_1225 wB_1226 wB_881 wB_1223) rfl rfl rfl (by decide +kernel) ⟨Nat.le_of_ble_eq_true rfl, Nat.le_of_ble_eq_true rfl⟩) (dg_preV sM_0 rfl K ST hP hS hA1 hA) rfl rfl hl.1 rfl (lv_room (Nat.le_of_ble_eq_true rfl)) dX12_goesOn_174 ⟨Nat.le_of_ble_eq_true rfl, Nat.le_of_ble_eq_true rfl⟩) (fun S_2821 hw_2821 H locs hP hS => ?_)
              obtain ⟨I_2821, m_2821, w_2821_0, w_2821_1, -⟩ := hw_2821
              have M_2821 := dg_sm.tr M_2758 m_2821 (by decide) (by decide)
              have hz_2822 : (32 : Int32).toInt = 32 := by decide +kernel
              obtain ⟨y_2823, f_y_2823, w_2821_0⟩ := w_2821_0
              have w_2821_0 : (y_2823).toInt = (y_2761).toInt + 1 := w_2821_0
              have b_y_2823 : 0 ≤ (y_2823).toInt ∧ (y_2823).toInt ≤ 500 := dg_I.intb (lo := 0) (hi := 500) I_2821 sM_0 (by decide +kernel) f_y_2823
              have w_2821_1 : HBM S_2758 S_2821 (32 : Int32) := w_2821_1
              have P0_2821 : P0M S_2821 := P1M.bin w_2758_3 (((m_2758.1 0 42 _ sM_0 (by decide)).trans (m_2.1 0 42 _ sM_0 (by decide))).trans f_dp) f_x_2762 f_y_2761 w_2758_1 m_2821 w_2821_1 (by omega)
              refine lv_aload_n hx hb dX12_goesOn_177 rfl (lv_at hl 3 rfl) ?_
              refine dg_callv hS hA1 hA (va_runV (As := []) (rest := []) F (c_m_ahead l g D o S_2821 se (((m_2821.1 0 5 _ sM_0 (by decide)).trans ((m_2758.1 0 5 _ sM_0 (by decide)).trans (m_2.1 0 5 _ sM_0 (by decide)))).trans f_se) (by omega) sl (((m_2821.1 0 2 _ sM_0 (by decide)).trans ((m_2758.1 0 2 _ sM_0 (by decide)).trans (m_2.1 0 2 _ sM_0 (by decide)))).trans f_sl) (by omega) (by omega) I_2821 H.size) (cwV 0 hts (bw_V wB_1161 wB_1162 wB_1163 wB_881 wB_1160) rfl rfl rfl (by decide +kernel) ⟨Nat.le_of_ble_eq_true rfl, Nat.le_of_ble_eq_true rfl⟩) (dg_preV sM_0 rfl K ST hP hS hA1 hA) rfl rfl hl.1 rfl (lv_room (Nat.le_of_ble_eq_true rfl)) dX12_goesOn_178 ⟨Nat.le_of_ble_eq_true rfl, Nat.le_of_ble_eq_true rfl⟩) (fun S_2824 hw_2824 H locs hP hS => ?_)
              obtain ⟨I_2824, m_2824, w_2824_0, -⟩ := hw_2824
              have M_2824 := dg_sm.tr M_2821 m_2824 (by decide) (by decide)
              obtain ⟨y_2825, y_2826, y_2827, f_y_2825, f_y_2826, f_y_2827, w_2824_0⟩ := w_2824_0
              have w_2824_0 : (se).toInt ≤ (y_2826).toInt ∧ (y_2826).toInt ≤ (y_2827).toInt ∧ (y_2827).toInt ≤ (sl).toInt ∧ ((y_2825).toInt ≠ 0 → (y_2826).toInt + 1 ≤ (y_2827).toInt) := w_2824_0
              obtain ⟨w_2824_0_0, w_2824_0_1, w_2824_0_2, w_2824_0_3⟩ := w_2824_0
              have b_y_2825 : 0 ≤ (y_2825).toInt ∧ (y_2825).toInt ≤ 3 := dg_I.intb (lo := 0) (hi := 3) I_2824 sM_0 (by decide +kernel) f_y_2825
              have b_y_2826 : 0 ≤ (y_2826).toInt ∧ (y_2826).toInt ≤ 1600 := dg_I.intb (lo := 0) (hi := 1600) I_2824 sM_0 (by decide +kernel) f_y_2826
              have b_y_2827 : 0 ≤ (y_2827).toInt ∧ (y_2827).toInt ≤ 1600 := dg_I.intb (lo := 0) (hi := 1600) I_2824 sM_0 (by decide +kernel) f_y_2827
              refine lv_aload_n hx hb dX12_goesOn_181 rfl (lv_at hl 3 rfl) ?_
              refine lv_iconst (v := 0) hx hb dX12_goesOn_182 (by decide +kernel) ?_
              have hz_2828 : (0 : Int32).toInt = 0 := by decide +kernel
              refine dg_put (ci := 12) (v := .int 0) (ty := tyX12 46) (C := RX12) (T := TX12) (N := 77) hx hb hts (fun w h => bw_mem (wU_X12 w h)) tyX12 tyX12_ok nmX12 hown K hP hS hA1 sM_0 rfl 46 (by decide) (hts _ (bw_mem wB_1237)) (fun _ h9 => h9) rfl (by decide +kernel) (by decide +kernel) (by decide +kernel) dX12_goesOn_183 (fun S_2829 e_2829 H locs hP hS => ?_)
              have I_2829 := dg_I.uFi (lo := 0) (hi := 1) I_2824 e_2829 sM_0 (by decide +kernel) (show 0 ≤ ((0 : Int32)).toInt ∧ ((0 : Int32)).toInt ≤ 1 from (by decide +kernel))
              have M_2829 := dg_sm.uF M_2824 e_2829 sM_0 (by decide)
              refine lv_iconst (v := 1) hx hb dX12_goesOn_186 (by decide +kernel) ?_
              have hz_2830 : (1 : Int32).toInt = 1 := by decide +kernel
              have hz_2831 : (1 : Int32).toInt = 1 := by decide +kernel
              have hz_2832 : (0 : Int32).toInt = 0 := by decide +kernel
              have hz_2833 : (1 : Int32).toInt = 1 := by decide +kernel
              have hz_2834 : (0 : Int32).toInt = 0 := by decide +kernel
              refine W.widen (k := 0) (n := 0) (Nat.le_of_ble_eq_true rfl) (Nat.le_of_ble_eq_true rfl) ?_
              rw [hQ9]
              exact dg_iret hx hb hr hlocks (by decide +kernel) hP hS ⟨I_2829, M_2829, (by decide +kernel), ⟨y_2825, y_2826, y_2827, y_3, y_2760, dp, y_2823, 0, ((dg_uF_ne e_2829 (fun z => absurd z.2 (by decide))).trans f_y_2825), ((dg_uF_ne e_2829 (fun z => absurd z.2 (by decide))).trans f_y_2826), ((dg_uF_ne e_2829 (fun z => absurd z.2 (by decide))).trans f_y_2827), (((dg_uF_ne e_2829 (fun z => absurd z.2 (by decide))).trans ((m_2824.1 0 8 _ sM_0 (by decide)).trans ((m_2821.1 0 8 _ sM_0 (by decide)).trans (m_2758.1 0 8 _ sM_0 (by decide))))).trans f_y_3), (((dg_uF_ne e_2829 (fun z => absurd z.2 (by decide))).trans ((m_2824.1 0 34 _ sM_0 (by decide)).trans (m_2821.1 0 34 _ sM_0 (by decide)))).trans f_y_2760), (((dg_uF_ne e_2829 (fun z => absurd z.2 (by decide))).trans ((m_2824.1 0 42 _ sM_0 (by decide)).trans ((m_2821.1 0 42 _ sM_0 (by decide)).trans ((m_2758.1 0 42 _ sM_0 (by decide)).trans (m_2.1 0 42 _ sM_0 (by decide)))))).trans f_dp), (((dg_uF_ne e_2829 (fun z => absurd z.2 (by decide))).trans (m_2824.1 0 45 _ sM_0 (by decide))).trans f_y_2823), (dg_uF_at e_2829), (by omega)⟩, (fun k9 hk9 hk0 => POM.mk0 (P0M.keep (P0M.keep P0_2821 m_2824 (by decide) (by decide) (by decide) (by decide) (by decide) (by decide) (by decide) (by decide) (by decide) (by decide) (by decide) (by decide) (by decide) (by decide) (by decide)) (dg_sm.uF (WF := [(0, 46)]) (WA := []) dg_sm.rf e_2829 sM_0 (by decide)) (by decide) (by decide) (by decide) (by decide) (by decide) (by decide) (by decide) (by decide) (by decide) (by decide) (by decide) (by decide) (by decide) (by decide) (by decide)) (dg_uF_at e_2829) (by omega)), (ZWM.keep (ZWM.keep (ZWM.keep w_2758_2 m_2821 (by decide) (by decide) (by decide) (by decide)) m_2824 (by decide) (by decide) (by decide) (by decide)) (dg_sm.uF (WF := [(0, 46)]) (WA := []) dg_sm.rf e_2829 sM_0 (by decide)) (by decide) (by decide) (by decide) (by decide)), trivial⟩ dX12_goesOn_187
          · have jc_2766 := dk_neqc (k := 0) (by decide +kernel) c_2766
            have jbc_2766 : 1 ≤ (x_2763).toInt := by omega
            clear jc_2766
            have w_2764_1_r := w_2764_1.mp (by omega)
            obtain ⟨w_2764_1_r1, w_2764_1_r2⟩ := w_2764_1_r
            clear w_2764_1
            refine lv_bipush (v := 31) hx hb dX12_goesOn_125 (by decide +kernel) ?_
            refine lv_goto (tgt := 174) hx hb dX12_goesOn_127 (by decide) ?_
            refine dg_callv hS hA1 hA (va_runV (As := [.int 31]) (rest := []) F (c_m_holdsBack l g D o S_2758 31 y_2761 f_y_2761 (by omega) I_2758 H.size) (cwV 1 hts (bw_V wB_1224 wB_1225 wB_1226 wB_881 wB_1223) rfl rfl rfl (by decide +kernel) ⟨Nat.le_of_ble_eq_true rfl, Nat.le_of_ble_eq_true rfl⟩) (dg_preV sM_0 rfl K ST hP hS hA1 hA) rfl rfl hl.1 rfl (lv_room (Nat.le_of_ble_eq_true rfl)) dX12_goesOn_174 ⟨Nat.le_of_ble_eq_true rfl, Nat.le_of_ble_eq_true rfl⟩) (fun S_2835 hw_2835 H locs hP hS => ?_)
            obtain ⟨I_2835, m_2835, w_2835_0, w_2835_1, -⟩ := hw_2835
            have M_2835 := dg_sm.tr M_2758 m_2835 (by decide) (by decide)
            have hz_2836 : (31 : Int32).toInt = 31 := by decide +kernel
            obtain ⟨y_2837, f_y_2837, w_2835_0⟩ := w_2835_0
            have w_2835_0 : (y_2837).toInt = (y_2761).toInt + 1 := w_2835_0
            have b_y_2837 : 0 ≤ (y_2837).toInt ∧ (y_2837).toInt ≤ 500 := dg_I.intb (lo := 0) (hi := 500) I_2835 sM_0 (by decide +kernel) f_y_2837
            have w_2835_1 : HBM S_2758 S_2835 (31 : Int32) := w_2835_1
            have P0_2835 : P0M S_2835 := P1M.bin w_2758_3 (((m_2758.1 0 42 _ sM_0 (by decide)).trans (m_2.1 0 42 _ sM_0 (by decide))).trans f_dp) f_x_2762 f_y_2761 w_2758_1 m_2835 w_2835_1 (by omega)
            refine lv_aload_n hx hb dX12_goesOn_177 rfl (lv_at hl 3 rfl) ?_
            refine dg_callv hS hA1 hA (va_runV (As := []) (rest := []) F (c_m_ahead l g D o S_2835 se (((m_2835.1 0 5 _ sM_0 (by decide)).trans ((m_2758.1 0 5 _ sM_0 (by decide)).trans (m_2.1 0 5 _ sM_0 (by decide)))).trans f_se) (by omega) sl (((m_2835.1 0 2 _ sM_0 (by decide)).trans ((m_2758.1 0 2 _ sM_0 (by decide)).trans (m_2.1 0 2 _ sM_0 (by decide)))).trans f_sl) (by omega) (by omega) I_2835 H.size) (cwV 0 hts (bw_V wB_1161 wB_1162 wB_1163 wB_881 wB_1160) rfl rfl rfl (by decide +kernel) ⟨Nat.le_of_ble_eq_true rfl, Nat.le_of_ble_eq_true rfl⟩) (dg_preV sM_0 rfl K ST hP hS hA1 hA) rfl rfl hl.1 rfl (lv_room (Nat.le_of_ble_eq_true rfl)) dX12_goesOn_178 ⟨Nat.le_of_ble_eq_true rfl, Nat.le_of_ble_eq_true rfl⟩) (fun S_2838 hw_2838 H locs hP hS => ?_)
            obtain ⟨I_2838, m_2838, w_2838_0, -⟩ := hw_2838
            have M_2838 := dg_sm.tr M_2835 m_2838 (by decide) (by decide)
            obtain ⟨y_2839, y_2840, y_2841, f_y_2839, f_y_2840, f_y_2841, w_2838_0⟩ := w_2838_0
            have w_2838_0 : (se).toInt ≤ (y_2840).toInt ∧ (y_2840).toInt ≤ (y_2841).toInt ∧ (y_2841).toInt ≤ (sl).toInt ∧ ((y_2839).toInt ≠ 0 → (y_2840).toInt + 1 ≤ (y_2841).toInt) := w_2838_0
            obtain ⟨w_2838_0_0, w_2838_0_1, w_2838_0_2, w_2838_0_3⟩ := w_2838_0
            have b_y_2839 : 0 ≤ (y_2839).toInt ∧ (y_2839).toInt ≤ 3 := dg_I.intb (lo := 0) (hi := 3) I_2838 sM_0 (by decide +kernel) f_y_2839
            have b_y_2840 : 0 ≤ (y_2840).toInt ∧ (y_2840).toInt ≤ 1600 := dg_I.intb (lo := 0) (hi := 1600) I_2838 sM_0 (by decide +kernel) f_y_2840
            have b_y_2841 : 0 ≤ (y_2841).toInt ∧ (y_2841).toInt ≤ 1600 := dg_I.intb (lo := 0) (hi := 1600) I_2838 sM_0 (by decide +kernel) f_y_2841
            refine lv_aload_n hx hb dX12_goesOn_181 rfl (lv_at hl 3 rfl) ?_
            refine lv_iconst (v := 0) hx hb dX12_goesOn_182 (by decide +kernel) ?_
            have hz_2842 : (0 : Int32).toInt = 0 := by decide +kernel
            refine dg_put (ci := 12) (v := .int 0) (ty := tyX12 46) (C := RX12) (T := TX12) (N := 77) hx hb hts (fun w h => bw_mem (wU_X12 w h)) tyX12 tyX12_ok nmX12 hown K hP hS hA1 sM_0 rfl 46 (by decide) (hts _ (bw_mem wB_1237)) (fun _ h9 => h9) rfl (by decide +kernel) (by decide +kernel) (by decide +kernel) dX12_goesOn_183 (fun S_2843 e_2843 H locs hP hS => ?_)
            have I_2843 := dg_I.uFi (lo := 0) (hi := 1) I_2838 e_2843 sM_0 (by decide +kernel) (show 0 ≤ ((0 : Int32)).toInt ∧ ((0 : Int32)).toInt ≤ 1 from (by decide +kernel))
            have M_2843 := dg_sm.uF M_2838 e_2843 sM_0 (by decide)
            refine lv_iconst (v := 1) hx hb dX12_goesOn_186 (by decide +kernel) ?_
            have hz_2844 : (1 : Int32).toInt = 1 := by decide +kernel
            have hz_2845 : (1 : Int32).toInt = 1 := by decide +kernel
            have hz_2846 : (0 : Int32).toInt = 0 := by decide +kernel
            have hz_2847 : (1 : Int32).toInt = 1 := by decide +kernel
            have hz_2848 : (0 : Int32).toInt = 0 := by decide +kernel
            refine W.widen (k := 0) (n := 0) (Nat.le_of_ble_eq_true rfl) (Nat.le_of_ble_eq_true rfl) ?_
            rw [hQ9]
            exact dg_iret hx hb hr hlocks (by decide +kernel) hP hS ⟨I_2843, M_2843, (by decide +kernel), ⟨y_2839, y_2840, y_2841, y_3, y_2760, dp, y_2837, 0, ((dg_uF_ne e_2843 (fun z => absurd z.2 (by decide))).trans f_y_2839), ((dg_uF_ne e_2843 (fun z => absurd z.2 (by decide))).trans f_y_2840), ((dg_uF_ne e_2843 (fun z => absurd z.2 (by decide))).trans f_y_2841), (((dg_uF_ne e_2843 (fun z => absurd z.2 (by decide))).trans ((m_2838.1 0 8 _ sM_0 (by decide)).trans ((m_2835.1 0 8 _ sM_0 (by decide)).trans (m_2758.1 0 8 _ sM_0 (by decide))))).trans f_y_3), (((dg_uF_ne e_2843 (fun z => absurd z.2 (by decide))).trans ((m_2838.1 0 34 _ sM_0 (by decide)).trans (m_2835.1 0 34 _ sM_0 (by decide)))).trans f_y_2760), (((dg_uF_ne e_2843 (fun z => absurd z.2 (by decide))).trans ((m_2838.1 0 42 _ sM_0 (by decide)).trans ((m_2835.1 0 42 _ sM_0 (by decide)).trans ((m_2758.1 0 42 _ sM_0 (by decide)).trans (m_2.1 0 42 _ sM_0 (by decide)))))).trans f_dp), (((dg_uF_ne e_2843 (fun z => absurd z.2 (by decide))).trans (m_2838.1 0 45 _ sM_0 (by decide))).trans f_y_2837), (dg_uF_at e_2843), (by omega)⟩, (fun k9 hk9 hk0 => POM.mk0 (P0M.keep (P0M.keep P0_2835 m_2838 (by decide) (by decide) (by decide) (by decide) (by decide) (by decide) (by decide) (by decide) (by decide) (by decide) (by decide) (by decide) (by decide) (by decide) (by decide)) (dg_sm.uF (WF := [(0, 46)]) (WA := []) dg_sm.rf e_2843 sM_0 (by decide)) (by decide) (by decide) (by decide) (by decide) (by decide) (by decide) (by decide) (by decide) (by decide) (by decide) (by decide) (by decide) (by decide) (by decide) (by decide)) (dg_uF_at e_2843) (by omega)), (ZWM.keep (ZWM.keep (ZWM.keep w_2758_2 m_2835 (by decide) (by decide) (by decide) (by decide)) m_2838 (by decide) (by decide) (by decide) (by decide)) (dg_sm.uF (WF := [(0, 46)]) (WA := []) dg_sm.rf e_2843 sM_0 (by decide)) (by decide) (by decide) (by decide) (by decide)), trivial⟩ dX12_goesOn_187
        · have jc_2756 := dk_eqc (k := 0) (by decide +kernel) c_2756
          have w_2754_1_r : (va).toInt ≠ 43 := fun q9 => absurd (w_2754_1.mpr ⟨by omega, by omega⟩) (by omega)
          clear w_2754_1
          refine lv_aload_n hx hb dX12_goesOn_97 rfl (lv_at hl 3 rfl) ?_
          refine lv_bipush (v := 45) hx hb dX12_goesOn_98 (by decide +kernel) ?_
          refine dg_calli hS hA1 hA (va_runV (As := [.int 45]) (rest := [.ref (o + 0)]) F (c_m_isSign l g D o S_2 45 sg ((m_2.1 0 3 _ sM_0 (by decide)).trans f_sg) (by omega) va ((m_2.1 0 6 _ sM_0 (by decide)).trans f_va) (by omega) I_2 H.size) (cwV 1 hts (bw_V wB_1157 wB_1158 wB_1159 wB_881 wB_1156) rfl rfl rfl (by decide +kernel) ⟨Nat.le_of_ble_eq_true rfl, Nat.le_of_ble_eq_true rfl⟩) (dg_preV sM_0 rfl K ST hP hS hA1 hA) rfl rfl hl.1 rfl (lv_room (Nat.le_of_ble_eq_true rfl)) dX12_goesOn_100 ⟨Nat.le_of_ble_eq_true rfl, Nat.le_of_ble_eq_true rfl⟩) (fun x_2849 S_2850 hw_2850 H locs hP hS => ?_)
          rw [hw_2850.1] at hP
          obtain ⟨hq_2850, w_2850_0, w_2850_1, -⟩ := hw_2850
          have hz_2851 : (45 : Int32).toInt = 45 := by decide +kernel
          have w_2850_0 : 0 ≤ (x_2849).toInt ∧ (x_2849).toInt ≤ 1 := w_2850_0
          have w_2850_1 : (x_2849).toInt = 1 ↔ ((sg).toInt = 3 ∧ (va).toInt = ((45 : Int32)).toInt) := w_2850_1
          refine lv_if_eq (tgt := 110) hx hb dX12_goesOn_103 (by decide) (fun c_2852 => ?_) (fun c_2852 => ?_)
          · have jc_2852 := dk_eqc (k := 0) (by decide +kernel) c_2852
            have w_2850_1_r : (va).toInt ≠ 45 := fun q9 => absurd (w_2850_1.mpr ⟨by omega, by omega⟩) (by omega)
            clear w_2850_1
            refine lv_bipush (v := 6) hx hb dX12_goesOn_110 (by decide +kernel) ?_
            have hz_2853 : (6 : Int32).toInt = 6 := by decide +kernel
            refine dg_callv hS hA1 hA (va_runV (As := [.int 6]) (rest := []) F (c_m_joins l g D o S_2 6 (by decide +kernel) cd ((m_2.1 0 34 _ sM_0 (by decide)).trans f_cd) (by omega) om ((m_2.1 0 45 _ sM_0 (by decide)).trans f_om) (by omega) (by omega) (ZWM.keep ZW m_2 (by decide) (by decide) (by decide) (by decide)) (ZKM.keep ZK m_2 (by decide) (by decide)) (P1M.keep P1 m_2 (by decide) (by decide) (by decide) (by decide) (by decide) (by decide) (by decide) (by decide) (by decide) (by decide) (by decide) (by decide) (by decide) (by decide) (by decide)) I_2 H.size) (cwV 1 hts (bw_V wB_1234 wB_1235 wB_1236 wB_881 wB_1233) rfl rfl rfl (by decide +kernel) ⟨Nat.le_of_ble_eq_true rfl, Nat.le_of_ble_eq_true rfl⟩) (dg_preV sM_0 rfl K ST hP hS hA1 hA) rfl rfl hl.1 rfl (lv_room (Nat.le_of_ble_eq_true rfl)) dX12_goesOn_112 ⟨Nat.le_of_ble_eq_true rfl, Nat.le_of_ble_eq_true rfl⟩) (fun S_2854 hw_2854 H locs hP hS => ?_)
            obtain ⟨I_2854, m_2854, w_2854_0, w_2854_1, w_2854_2, w_2854_3, -⟩ := hw_2854
            have M_2854 := dg_sm.tr M_2 m_2854 (by decide) (by decide)
            have hz_2855 : (6 : Int32).toInt = 6 := by decide +kernel
            obtain ⟨y_2856, y_2857, f_y_2856, f_y_2857, w_2854_0⟩ := w_2854_0
            have w_2854_0 : (y_2856).toInt + (y_2857).toInt = (cd).toInt + (om).toInt := w_2854_0
            have b_y_2856 : 0 ≤ (y_2856).toInt ∧ (y_2856).toInt ≤ 1600 := dg_I.intb (lo := 0) (hi := 1600) I_2854 sM_0 (by decide +kernel) f_y_2856
            have b_y_2857 : 0 ≤ (y_2857).toInt ∧ (y_2857).toInt ≤ 500 := dg_I.intb (lo := 0) (hi := 500) I_2854 sM_0 (by decide +kernel) f_y_2857
            have w_2854_1 : TOPM S_2854 (6 : Int32) := w_2854_1
            obtain ⟨x_2858, f_x_2858, b_x_2858⟩ := dg_I.int (i := 0) (k := 43) (lo := (-2147483648)) (hi := 2147483647) I_2854 sM_0 (by decide +kernel)
            refine lv_aload_n hx hb dX12_goesOn_115 rfl (lv_at hl 3 rfl) ?_
            refine lv_aload_n hx hb dX12_goesOn_116 rfl (lv_at hl 3 rfl) ?_
            refine lv_bipush (v := 43) hx hb dX12_goesOn_117 (by decide +kernel) ?_
            refine dg_calli hS hA1 hA (va_runV (As := [.int 43]) (rest := [.ref (o + 0)]) F (c_m_isSign l g D o S_2854 43 sg (((m_2854.1 0 3 _ sM_0 (by decide)).trans (m_2.1 0 3 _ sM_0 (by decide))).trans f_sg) (by omega) va (((m_2854.1 0 6 _ sM_0 (by decide)).trans (m_2.1 0 6 _ sM_0 (by decide))).trans f_va) (by omega) I_2854 H.size) (cwV 1 hts (bw_V wB_1157 wB_1158 wB_1159 wB_881 wB_1156) rfl rfl rfl (by decide +kernel) ⟨Nat.le_of_ble_eq_true rfl, Nat.le_of_ble_eq_true rfl⟩) (dg_preV sM_0 rfl K ST hP hS hA1 hA) rfl rfl hl.1 rfl (lv_room (Nat.le_of_ble_eq_true rfl)) dX12_goesOn_119 ⟨Nat.le_of_ble_eq_true rfl, Nat.le_of_ble_eq_true rfl⟩) (fun x_2859 S_2860 hw_2860 H locs hP hS => ?_)
            rw [hw_2860.1] at hP
            obtain ⟨hq_2860, w_2860_0, w_2860_1, -⟩ := hw_2860
            have hz_2861 : (43 : Int32).toInt = 43 := by decide +kernel
            have w_2860_0 : 0 ≤ (x_2859).toInt ∧ (x_2859).toInt ≤ 1 := w_2860_0
            have w_2860_1 : (x_2859).toInt = 1 ↔ ((sg).toInt = 3 ∧ (va).toInt = ((43 : Int32)).toInt) := w_2860_1
            refine lv_if_eq (tgt := 130) hx hb dX12_goesOn_122 (by decide) (fun c_2862 => ?_) (fun c_2862 => ?_)
            · have jc_2862 := dk_eqc (k := 0) (by decide +kernel) c_2862
              have w_2860_1_r : (va).toInt ≠ 43 := fun q9 => absurd (w_2860_1.mpr ⟨by omega, by omega⟩) (by omega)
              clear w_2860_1
              refine lv_aload_n hx hb dX12_goesOn_130 rfl (lv_at hl 3 rfl) ?_
              refine lv_bipush (v := 45) hx hb dX12_goesOn_131 (by decide +kernel) ?_
              refine dg_calli hS hA1 hA (va_runV (As := [.int 45]) (rest := [.ref (o + 0)]) F (c_m_isSign l g D o S_2854 45 sg (((m_2854.1 0 3 _ sM_0 (by decide)).trans (m_2.1 0 3 _ sM_0 (by decide))).trans f_sg) (by omega) va (((m_2854.1 0 6 _ sM_0 (by decide)).trans (m_2.1 0 6 _ sM_0 (by decide))).trans f_va) (by omega) I_2854 H.size) (cwV 1 hts (bw_V wB_1157 wB_1158 wB_1159 wB_881 wB_1156) rfl rfl rfl (by decide +kernel) ⟨Nat.le_of_ble_eq_true rfl, Nat.le_of_ble_eq_true rfl⟩) (dg_preV sM_0 rfl K ST hP hS hA1 hA) rfl rfl hl.1 rfl (lv_room (Nat.le_of_ble_eq_true rfl)) dX12_goesOn_133 ⟨Nat.le_of_ble_eq_true rfl, Nat.le_of_ble_eq_true rfl⟩) (fun x_2863 S_2864 hw_2864 H locs hP hS => ?_)
              rw [hw_2864.1] at hP
              obtain ⟨hq_2864, w_2864_0, w_2864_1, -⟩ := hw_2864
              have hz_2865 : (45 : Int32).toInt = 45 := by decide +kernel
              have w_2864_0 : 0 ≤ (x_2863).toInt ∧ (x_2863).toInt ≤ 1 := w_2864_0
              have w_2864_1 : (x_2863).toInt = 1 ↔ ((sg).toInt = 3 ∧ (va).toInt = ((45 : Int32)).toInt) := w_2864_1
              refine lv_if_eq (tgt := 144) hx hb dX12_goesOn_136 (by decide) (fun c_2866 => ?_) (fun c_2866 => ?_)
              · have jc_2866 := dk_eqc (k := 0) (by decide +kernel) c_2866
                have w_2864_1_r : (va).toInt ≠ 45 := fun q9 => absurd (w_2864_1.mpr ⟨by omega, by omega⟩) (by omega)
                clear w_2864_1
                refine lv_aload_n hx hb dX12_goesOn_144 rfl (lv_at hl 3 rfl) ?_
                refine lv_bipush (v := 42) hx hb dX12_goesOn_145 (by decide +kernel) ?_
                refine dg_calli hS hA1 hA (va_runV (As := [.int 42]) (rest := [.ref (o + 0)]) F (c_m_isSign l g D o S_2854 42 sg (((m_2854.1 0 3 _ sM_0 (by decide)).trans (m_2.1 0 3 _ sM_0 (by decide))).trans f_sg) (by omega) va (((m_2854.1 0 6 _ sM_0 (by decide)).trans (m_2.1 0 6 _ sM_0 (by decide))).trans f_va) (by omega) I_2854 H.size) (cwV 1 hts (bw_V wB_1157 wB_1158 wB_1159 wB_881 wB_1156) rfl rfl rfl (by decide +kernel) ⟨Nat.le_of_ble_eq_true rfl, Nat.le_of_ble_eq_true rfl⟩) (dg_preV sM_0 rfl K ST hP hS hA1 hA) rfl rfl hl.1 rfl (lv_room (Nat.le_of_ble_eq_true rfl)) dX12_goesOn_147 ⟨Nat.le_of_ble_eq_true rfl, Nat.le_of_ble_eq_true rfl⟩) (fun x_2867 S_2868 hw_2868 H locs hP hS => ?_)
                rw [hw_2868.1] at hP
                obtain ⟨hq_2868, w_2868_0, w_2868_1, -⟩ := hw_2868
                have hz_2869 : (42 : Int32).toInt = 42 := by decide +kernel
                have w_2868_0 : 0 ≤ (x_2867).toInt ∧ (x_2867).toInt ≤ 1 := w_2868_0
                have w_2868_1 : (x_2867).toInt = 1 ↔ ((sg).toInt = 3 ∧ (va).toInt = ((42 : Int32)).toInt) := w_2868_1
                refine lv_if_eq (tgt := 158) hx hb dX12_goesOn_150 (by decide) (fun c_2870 => ?_) (fun c_2870 => ?_)
                · have jc_2870 := dk_eqc (k := 0) (by decide +kernel) c_2870
                  have w_2868_1_r : (va).toInt ≠ 42 := fun q9 => absurd (w_2868_1.mpr ⟨by omega, by omega⟩) (by omega)
                  clear w_2868_1
                  refine lv_aload_n hx hb dX12_goesOn_158 rfl (lv_at hl 3 rfl) ?_
                  refine lv_bipush (v := 47) hx hb dX12_goesOn_159 (by decide +kernel) ?_
                  refine dg_calli hS hA1 hA (va_runV (As := [.int 47]) (rest := [.ref (o + 0)]) F (c_m_isSign l g D o S_2854 47 sg (((m_2854.1 0 3 _ sM_0 (by decide)).trans (m_2.1 0 3 _ sM_0 (by decide))).trans f_sg) (by omega) va (((m_2854.1 0 6 _ sM_0 (by decide)).trans (m_2.1 0 6 _ sM_0 (by decide))).trans f_va) (by omega) I_2854 H.size) (cwV 1 hts (bw_V wB_1157 wB_1158 wB_1159 wB_881 wB_1156) rfl rfl rfl (by decide +kernel) ⟨Nat.le_of_ble_eq_true rfl, Nat.le_of_ble_eq_true rfl⟩) (dg_preV sM_0 rfl K ST hP hS hA1 hA) rfl rfl hl.1 rfl (lv_room (Nat.le_of_ble_eq_true rfl)) dX12_goesOn_161 ⟨Nat.le_of_ble_eq_true rfl, Nat.le_of_ble_eq_true rfl⟩) (fun x_2871 S_2872 hw_2872 H locs hP hS => ?_)
                  rw [hw_2872.1] at hP
                  obtain ⟨hq_2872, w_2872_0, w_2872_1, -⟩ := hw_2872
                  have hz_2873 : (47 : Int32).toInt = 47 := by decide +kernel
                  have w_2872_0 : 0 ≤ (x_2871).toInt ∧ (x_2871).toInt ≤ 1 := w_2872_0
                  have w_2872_1 : (x_2871).toInt = 1 ↔ ((sg).toInt = 3 ∧ (va).toInt = ((47 : Int32)).toInt) := w_2872_1
                  refine lv_if_eq (tgt := 172) hx hb dX12_goesOn_164 (by decide) (fun c_2874 => ?_) (fun c_2874 => ?_)
                  · have jc_2874 := dk_eqc (k := 0) (by decide +kernel) c_2874
                    have w_2872_1_r : (va).toInt ≠ 47 := fun q9 => absurd (w_2872_1.mpr ⟨by omega, by omega⟩) (by omega)
                    clear w_2872_1
                    refine lv_bipush (v := 35) hx hb dX12_goesOn_172 (by decide +kernel) ?_
                    refine dg_callv hS hA1 hA (va_runV (As := [.int 35]) (rest := []) F (c_m_holdsBack l g D o S_2854 35 y_2857 f_y_2857 (by omega) I_2854 H.size) (cwV 1 hts (bw_V wB_1224 wB_1225 wB_1226 wB_881 wB_1223) rfl rfl rfl (by decide +kernel) ⟨Nat.le_of_ble_eq_true rfl, Nat.le_of_ble_eq_true rfl⟩) (dg_preV sM_0 rfl K ST hP hS hA1 hA) rfl rfl hl.1 rfl (lv_room (Nat.le_of_ble_eq_true rfl)) dX12_goesOn_174 ⟨Nat.le_of_ble_eq_true rfl, Nat.le_of_ble_eq_true rfl⟩) (fun S_2875 hw_2875 H locs hP hS => ?_)
                    obtain ⟨I_2875, m_2875, w_2875_0, w_2875_1, -⟩ := hw_2875
                    have M_2875 := dg_sm.tr M_2854 m_2875 (by decide) (by decide)
                    have hz_2876 : (35 : Int32).toInt = 35 := by decide +kernel
                    obtain ⟨y_2877, f_y_2877, w_2875_0⟩ := w_2875_0
                    have w_2875_0 : (y_2877).toInt = (y_2857).toInt + 1 := w_2875_0
                    have b_y_2877 : 0 ≤ (y_2877).toInt ∧ (y_2877).toInt ≤ 500 := dg_I.intb (lo := 0) (hi := 500) I_2875 sM_0 (by decide +kernel) f_y_2877
                    have w_2875_1 : HBM S_2854 S_2875 (35 : Int32) := w_2875_1
                    have P0_2875 : P0M S_2875 := P1M.bin w_2854_3 (((m_2854.1 0 42 _ sM_0 (by decide)).trans (m_2.1 0 42 _ sM_0 (by decide))).trans f_dp) f_x_2858 f_y_2857 w_2854_1 m_2875 w_2875_1 (by omega)
                    refine lv_aload_n hx hb dX12_goesOn_177 rfl (lv_at hl 3 rfl) ?_
                    refine dg_callv hS hA1 hA (va_runV (As := []) (rest := []) F (c_m_ahead l g D o S_2875 se (((m_2875.1 0 5 _ sM_0 (by decide)).trans ((m_2854.1 0 5 _ sM_0 (by decide)).trans (m_2.1 0 5 _ sM_0 (by decide)))).trans f_se) (by omega) sl (((m_2875.1 0 2 _ sM_0 (by decide)).trans ((m_2854.1 0 2 _ sM_0 (by decide)).trans (m_2.1 0 2 _ sM_0 (by decide)))).trans f_sl) (by omega) (by omega) I_2875 H.size) (cwV 0 hts (bw_V wB_1161 wB_1162 wB_1163 wB_881 wB_1160) rfl rfl rfl (by decide +kernel) ⟨Nat.le_of_ble_eq_true rfl, Nat.le_of_ble_eq_true rfl⟩) (dg_preV sM_0 rfl K ST hP hS hA1 hA) rfl rfl hl.1 rfl (lv_room (Nat.le_of_ble_eq_true rfl)) dX12_goesOn_178 ⟨Nat.le_of_ble_eq_true rfl, Nat.le_of_ble_eq_true rfl⟩) (fun S_2878 hw_2878 H locs hP hS => ?_)
                    obtain ⟨I_2878, m_2878, w_2878_0, -⟩ := hw_2878
                    have M_2878 := dg_sm.tr M_2875 m_2878 (by decide) (by decide)
                    obtain ⟨y_2879, y_2880, y_2881, f_y_2879, f_y_2880, f_y_2881, w_2878_0⟩ := w_2878_0
                    have w_2878_0 : (se).toInt ≤ (y_2880).toInt ∧ (y_2880).toInt ≤ (y_2881).toInt ∧ (y_2881).toInt ≤ (sl).toInt ∧ ((y_2879).toInt ≠ 0 → (y_2880).toInt + 1 ≤ (y_2881).toInt) := w_2878_0
                    obtain ⟨w_2878_0_0, w_2878_0_1, w_2878_0_2, w_2878_0_3⟩ := w_2878_0
                    have b_y_2879 : 0 ≤ (y_2879).toInt ∧ (y_2879).toInt ≤ 3 := dg_I.intb (lo := 0) (hi := 3) I_2878 sM_0 (by decide +kernel) f_y_2879
                    have b_y_2880 : 0 ≤ (y_2880).toInt ∧ (y_2880).toInt ≤ 1600 := dg_I.intb (lo := 0) (hi := 1600) I_2878 sM_0 (by decide +kernel) f_y_2880
                    have b_y_2881 : 0 ≤ (y_2881).toInt ∧ (y_2881).toInt ≤ 1600 := dg_I.intb (lo := 0) (hi := 1600) I_2878 sM_0 (by decide +kernel) f_y_2881
                    refine lv_aload_n hx hb dX12_goesOn_181 rfl (lv_at hl 3 rfl) ?_
                    refine lv_iconst (v := 0) hx hb dX12_goesOn_182 (by decide +kernel) ?_
                    have hz_2882 : (0 : Int32).toInt = 0 := by decide +kernel
                    refine dg_put (ci := 12) (v := .int 0) (ty := tyX12 46) (C := RX12) (T := TX12) (N := 77) hx hb hts (fun w h => bw_mem (wU_X12 w h)) tyX12 tyX12_ok nmX12 hown K hP hS hA1 sM_0 rfl 46 (by decide) (hts _ (bw_mem wB_1237)) (fun _ h9 => h9) rfl (by decide +kernel) (by decide +kernel) (by decide +kernel) dX12_goesOn_183 (fun S_2883 e_2883 H locs hP hS => ?_)
                    have I_2883 := dg_I.uFi (lo := 0) (hi := 1) I_2878 e_2883 sM_0 (by decide +kernel) (show 0 ≤ ((0 : Int32)).toInt ∧ ((0 : Int32)).toInt ≤ 1 from (by decide +kernel))
                    have M_2883 := dg_sm.uF M_2878 e_2883 sM_0 (by decide)
                    refine lv_iconst (v := 1) hx hb dX12_goesOn_186 (by decide +kernel) ?_
                    have hz_2884 : (1 : Int32).toInt = 1 := by decide +kernel
                    have hz_2885 : (1 : Int32).toInt = 1 := by decide +kernel
                    have hz_2886 : (0 : Int32).toInt = 0 := by decide +kernel
                    have hz_2887 : (1 : Int32).toInt = 1 := by decide +kernel
                    have hz_2888 : (0 : Int32).toInt = 0 := by decide +kernel
                    refine W.widen (k := 0) (n := 0) (Nat.le_of_ble_eq_true rfl) (Nat.le_of_ble_eq_true rfl) ?_
                    rw [hQ9]
                    exact dg_iret hx hb hr hlocks (by decide +kernel) hP hS ⟨I_2883, M_2883, (by decide +kernel), ⟨y_2879, y_2880, y_2881, y_3, y_2856, dp, y_2877, 0, ((dg_uF_ne e_2883 (fun z => absurd z.2 (by decide))).trans f_y_2879), ((dg_uF_ne e_2883 (fun z => absurd z.2 (by decide))).trans f_y_2880), ((dg_uF_ne e_2883 (fun z => absurd z.2 (by decide))).trans f_y_2881), (((dg_uF_ne e_2883 (fun z => absurd z.2 (by decide))).trans ((m_2878.1 0 8 _ sM_0 (by decide)).trans ((m_2875.1 0 8 _ sM_0 (by decide)).trans (m_2854.1 0 8 _ sM_0 (by decide))))).trans f_y_3), (((dg_uF_ne e_2883 (fun z => absurd z.2 (by decide))).trans ((m_2878.1 0 34 _ sM_0 (by decide)).trans (m_2875.1 0 34 _ sM_0 (by decide)))).trans f_y_2856), (((dg_uF_ne e_2883 (fun z => absurd z.2 (by decide))).trans ((m_2878.1 0 42 _ sM_0 (by decide)).trans ((m_2875.1 0 42 _ sM_0 (by decide)).trans ((m_2854.1 0 42 _ sM_0 (by decide)).trans (m_2.1 0 42 _ sM_0 (by decide)))))).trans f_dp), (((dg_uF_ne e_2883 (fun z => absurd z.2 (by decide))).trans (m_2878.1 0 45 _ sM_0 (by decide))).trans f_y_2877), (dg_uF_at e_2883), (by omega)⟩, (fun k9 hk9 hk0 => POM.mk0 (P0M.keep (P0M.keep P0_2875 m_2878 (by decide) (by decide) (by decide) (by decide) (by decide) (by decide) (by decide) (by decide) (by decide) (by decide) (by decide) (by decide) (by decide) (by decide) (by decide)) (dg_sm.uF (WF := [(0, 46)]) (WA := []) dg_sm.rf e_2883 sM_0 (by decide)) (by decide) (by decide) (by decide) (by decide) (by decide) (by decide) (by decide) (by decide) (by decide) (by decide) (by decide) (by decide) (by decide) (by decide) (by decide)) (dg_uF_at e_2883) (by omega)), (ZWM.keep (ZWM.keep (ZWM.keep w_2854_2 m_2875 (by decide) (by decide) (by decide) (by decide)) m_2878 (by decide) (by decide) (by decide) (by decide)) (dg_sm.uF (WF := [(0, 46)]) (WA := []) dg_sm.rf e_2883 sM_0 (by decide)) (by decide) (by decide) (by decide) (by decide)), trivial⟩ dX12_goesOn_187
                  · have jc_2874 := dk_neqc (k := 0) (by decide +kernel) c_2874
                    have jbc_2874 : 1 ≤ (x_2871).toInt := by omega
                    clear jc_2874
                    have w_2872_1_r := w_2872_1.mp (by omega)
                    obtain ⟨w_2872_1_r1, w_2872_1_r2⟩ := w_2872_1_r
                    clear w_2872_1
                    have hlx_2r := hlx_2 (by omega)
                    clear hlx_2
                    refine lv_bipush (v := 34) hx hb dX12_goesOn_167 (by decide +kernel) ?_
                    refine lv_goto (tgt := 174) hx hb dX12_goesOn_169 (by decide) ?_
                    refine dg_callv hS hA1 hA (va_runV (As := [.int 34]) (rest := []) F (c_m_holdsBack l g D o S_2854 34 y_2857 f_y_2857 (by omega) I_2854 H.size) (cwV 1 hts (bw_V wB_1224 wB_1225 wB_1226 wB_881 wB_1223) rfl rfl rfl (by decide +kernel) ⟨Nat.le_of_ble_eq_true rfl, Nat.le_of_ble_eq_true rfl⟩) (dg_preV sM_0 rfl K ST hP hS hA1 hA) rfl rfl hl.1 rfl (lv_room (Nat.le_of_ble_eq_true rfl)) dX12_goesOn_174 ⟨Nat.le_of_ble_eq_true rfl, Nat.le_of_ble_eq_true rfl⟩) (fun S_2889 hw_2889 H locs hP hS => ?_)
                    obtain ⟨I_2889, m_2889, w_2889_0, w_2889_1, -⟩ := hw_2889
                    have M_2889 := dg_sm.tr M_2854 m_2889 (by decide) (by decide)
                    have hz_2890 : (34 : Int32).toInt = 34 := by decide +kernel
                    obtain ⟨y_2891, f_y_2891, w_2889_0⟩ := w_2889_0
                    have w_2889_0 : (y_2891).toInt = (y_2857).toInt + 1 := w_2889_0
                    have b_y_2891 : 0 ≤ (y_2891).toInt ∧ (y_2891).toInt ≤ 500 := dg_I.intb (lo := 0) (hi := 500) I_2889 sM_0 (by decide +kernel) f_y_2891
                    have w_2889_1 : HBM S_2854 S_2889 (34 : Int32) := w_2889_1
                    have P0_2889 : P0M S_2889 := P1M.bin w_2854_3 (((m_2854.1 0 42 _ sM_0 (by decide)).trans (m_2.1 0 42 _ sM_0 (by decide))).trans f_dp) f_x_2858 f_y_2857 w_2854_1 m_2889 w_2889_1 (by omega)
                    refine lv_aload_n hx hb dX12_goesOn_177 rfl (lv_at hl 3 rfl) ?_
                    refine dg_callv hS hA1 hA (va_runV (As := []) (rest := []) F (c_m_ahead l g D o S_2889 se (((m_2889.1 0 5 _ sM_0 (by decide)).trans ((m_2854.1 0 5 _ sM_0 (by decide)).trans (m_2.1 0 5 _ sM_0 (by decide)))).trans f_se) (by omega) sl (((m_2889.1 0 2 _ sM_0 (by decide)).trans ((m_2854.1 0 2 _ sM_0 (by decide)).trans (m_2.1 0 2 _ sM_0 (by decide)))).trans f_sl) (by omega) (by omega) I_2889 H.size) (cwV 0 hts (bw_V wB_1161 wB_1162 wB_1163 wB_881 wB_1160) rfl rfl rfl (by decide +kernel) ⟨Nat.le_of_ble_eq_true rfl, Nat.le_of_ble_eq_true rfl⟩) (dg_preV sM_0 rfl K ST hP hS hA1 hA) rfl rfl hl.1 rfl (lv_room (Nat.le_of_ble_eq_true rfl)) dX12_goesOn_178 ⟨Nat.le_of_ble_eq_true rfl, Nat.le_of_ble_eq_true rfl⟩) (fun S_2892 hw_2892 H locs hP hS => ?_)
                    obtain ⟨I_2892, m_2892, w_2892_0, -⟩ := hw_2892
                    have M_2892 := dg_sm.tr M_2889 m_2892 (by decide) (by decide)
                    obtain ⟨y_2893, y_2894, y_2895, f_y_2893, f_y_2894, f_y_2895, w_2892_0⟩ := w_2892_0
                    have w_2892_0 : (se).toInt ≤ (y_2894).toInt ∧ (y_2894).toInt ≤ (y_2895).toInt ∧ (y_2895).toInt ≤ (sl).toInt ∧ ((y_2893).toInt ≠ 0 → (y_2894).toInt + 1 ≤ (y_2895).toInt) := w_2892_0
                    obtain ⟨w_2892_0_0, w_2892_0_1, w_2892_0_2, w_2892_0_3⟩ := w_2892_0
                    have b_y_2893 : 0 ≤ (y_2893).toInt ∧ (y_2893).toInt ≤ 3 := dg_I.intb (lo := 0) (hi := 3) I_2892 sM_0 (by decide +kernel) f_y_2893
                    have b_y_2894 : 0 ≤ (y_2894).toInt ∧ (y_2894).toInt ≤ 1600 := dg_I.intb (lo := 0) (hi := 1600) I_2892 sM_0 (by decide +kernel) f_y_2894
                    have b_y_2895 : 0 ≤ (y_2895).toInt ∧ (y_2895).toInt ≤ 1600 := dg_I.intb (lo := 0) (hi := 1600) I_2892 sM_0 (by decide +kernel) f_y_2895
                    refine lv_aload_n hx hb dX12_goesOn_181 rfl (lv_at hl 3 rfl) ?_
                    refine lv_iconst (v := 0) hx hb dX12_goesOn_182 (by decide +kernel) ?_
                    have hz_2896 : (0 : Int32).toInt = 0 := by decide +kernel
                    refine dg_put (ci := 12) (v := .int 0) (ty := tyX12 46) (C := RX12) (T := TX12) (N := 77) hx hb hts (fun w h => bw_mem (wU_X12 w h)) tyX12 tyX12_ok nmX12 hown K hP hS hA1 sM_0 rfl 46 (by decide) (hts _ (bw_mem wB_1237)) (fun _ h9 => h9) rfl (by decide +kernel) (by decide +kernel) (by decide +kernel) dX12_goesOn_183 (fun S_2897 e_2897 H locs hP hS => ?_)
                    have I_2897 := dg_I.uFi (lo := 0) (hi := 1) I_2892 e_2897 sM_0 (by decide +kernel) (show 0 ≤ ((0 : Int32)).toInt ∧ ((0 : Int32)).toInt ≤ 1 from (by decide +kernel))
                    have M_2897 := dg_sm.uF M_2892 e_2897 sM_0 (by decide)
                    refine lv_iconst (v := 1) hx hb dX12_goesOn_186 (by decide +kernel) ?_
                    have hz_2898 : (1 : Int32).toInt = 1 := by decide +kernel
                    have hz_2899 : (1 : Int32).toInt = 1 := by decide +kernel
                    have hz_2900 : (0 : Int32).toInt = 0 := by decide +kernel
                    have hz_2901 : (1 : Int32).toInt = 1 := by decide +kernel
                    have hz_2902 : (0 : Int32).toInt = 0 := by decide +kernel
                    refine W.widen (k := 0) (n := 0) (Nat.le_of_ble_eq_true rfl) (Nat.le_of_ble_eq_true rfl) ?_
                    rw [hQ9]
                    exact dg_iret hx hb hr hlocks (by decide +kernel) hP hS ⟨I_2897, M_2897, (by decide +kernel), ⟨y_2893, y_2894, y_2895, y_3, y_2856, dp, y_2891, 0, ((dg_uF_ne e_2897 (fun z => absurd z.2 (by decide))).trans f_y_2893), ((dg_uF_ne e_2897 (fun z => absurd z.2 (by decide))).trans f_y_2894), ((dg_uF_ne e_2897 (fun z => absurd z.2 (by decide))).trans f_y_2895), (((dg_uF_ne e_2897 (fun z => absurd z.2 (by decide))).trans ((m_2892.1 0 8 _ sM_0 (by decide)).trans ((m_2889.1 0 8 _ sM_0 (by decide)).trans (m_2854.1 0 8 _ sM_0 (by decide))))).trans f_y_3), (((dg_uF_ne e_2897 (fun z => absurd z.2 (by decide))).trans ((m_2892.1 0 34 _ sM_0 (by decide)).trans (m_2889.1 0 34 _ sM_0 (by decide)))).trans f_y_2856), (((dg_uF_ne e_2897 (fun z => absurd z.2 (by decide))).trans ((m_2892.1 0 42 _ sM_0 (by decide)).trans ((m_2889.1 0 42 _ sM_0 (by decide)).trans ((m_2854.1 0 42 _ sM_0 (by decide)).trans (m_2.1 0 42 _ sM_0 (by decide)))))).trans f_dp), (((dg_uF_ne e_2897 (fun z => absurd z.2 (by decide))).trans (m_2892.1 0 45 _ sM_0 (by decide))).trans f_y_2891), (dg_uF_at e_2897), (by omega)⟩, (fun k9 hk9 hk0 => POM.mk0 (P0M.keep (P0M.keep P0_2889 m_2892 (by decide) (by decide) (by decide) (by decide) (by decide) (by decide) (by decide) (by decide) (by decide) (by decide) (by decide) (by decide) (by decide) (by decide) (by decide)) (dg_sm.uF (WF := [(0, 46)]) (WA := []) dg_sm.rf e_2897 sM_0 (by decide)) (by decide) (by decide) (by decide) (by decide) (by decide) (by decide) (by decide) (by decide) (by decide) (by decide) (by decide) (by decide) (by decide) (by decide) (by decide)) (dg_uF_at e_2897) (by omega)), (ZWM.keep (ZWM.keep (ZWM.keep w_2854_2 m_2889 (by decide) (by decide) (by decide) (by decide)) m_2892 (by decide) (by decide) (by decide) (by decide)) (dg_sm.uF (WF := [(0, 46)]) (WA := []) dg_sm.rf e_2897 sM_0 (by decide)) (by decide) (by decide) (by decide) (by decide)), trivial⟩ dX12_goesOn_187
                · have jc_2870 := dk_neqc (k := 0) (by decide +kernel) c_2870
                  have jbc_2870 : 1 ≤ (x_2867).toInt := by omega
                  clear jc_2870
                  have w_2868_1_r := w_2868_1.mp (by omega)
                  obtain ⟨w_2868_1_r1, w_2868_1_r2⟩ := w_2868_1_r
                  clear w_2868_1
                  have hlx_2r := hlx_2 (by omega)
                  clear hlx_2
                  refine lv_bipush (v := 33) hx hb dX12_goesOn_153 (by decide +kernel) ?_
                  refine lv_goto (tgt := 174) hx hb dX12_goesOn_155 (by decide) ?_
                  refine dg_callv hS hA1 hA (va_runV (As := [.int 33]) (rest := []) F (c_m_holdsBack l g D o S_2854 33 y_2857 f_y_2857 (by omega) I_2854 H.size) (cwV 1 hts (bw_V wB_1224 wB_1225 wB_1226 wB_881 wB_1223) rfl rfl rfl (by decide +kernel) ⟨Nat.le_of_ble_eq_true rfl, Nat.le_of_ble_eq_true rfl⟩) (dg_preV sM_0 rfl K ST hP hS hA1 hA) rfl rfl hl.1 rfl (lv_room (Nat.le_of_ble_eq_true rfl)) dX12_goesOn_174 ⟨Nat.le_of_ble_eq_true rfl, Nat.le_of_ble_eq_true rfl⟩) (fun S_2903 hw_2903 H locs hP hS => ?_)
                  obtain ⟨I_2903, m_2903, w_2903_0, w_2903_1, -⟩ := hw_2903
                  have M_2903 := dg_sm.tr M_2854 m_2903 (by decide) (by decide)
                  have hz_2904 : (33 : Int32).toInt = 33 := by decide +kernel
                  obtain ⟨y_2905, f_y_2905, w_2903_0⟩ := w_2903_0
                  have w_2903_0 : (y_2905).toInt = (y_2857).toInt + 1 := w_2903_0
                  have b_y_2905 : 0 ≤ (y_2905).toInt ∧ (y_2905).toInt ≤ 500 := dg_I.intb (lo := 0) (hi := 500) I_2903 sM_0 (by decide +kernel) f_y_2905
                  have w_2903_1 : HBM S_2854 S_2903 (33 : Int32) := w_2903_1
                  have P0_2903 : P0M S_2903 := P1M.bin w_2854_3 (((m_2854.1 0 42 _ sM_0 (by decide)).trans (m_2.1 0 42 _ sM_0 (by decide))).trans f_dp) f_x_2858 f_y_2857 w_2854_1 m_2903 w_2903_1 (by omega)
                  refine lv_aload_n hx hb dX12_goesOn_177 rfl (lv_at hl 3 rfl) ?_
                  refine dg_callv hS hA1 hA (va_runV (As := []) (rest := []) F (c_m_ahead l g D o S_2903 se (((m_2903.1 0 5 _ sM_0 (by decide)).trans ((m_2854.1 0 5 _ sM_0 (by decide)).trans (m_2.1 0 5 _ sM_0 (by decide)))).trans f_se) (by omega) sl (((m_2903.1 0 2 _ sM_0 (by decide)).trans ((m_2854.1 0 2 _ sM_0 (by decide)).trans (m_2.1 0 2 _ sM_0 (by decide)))).trans f_sl) (by omega) (by omega) I_2903 H.size) (cwV 0 hts (bw_V wB_1161 wB_1162 wB_1163 wB_881 wB_1160) rfl rfl rfl (by decide +kernel) ⟨Nat.le_of_ble_eq_true rfl, Nat.le_of_ble_eq_true rfl⟩) (dg_preV sM_0 rfl K ST hP hS hA1 hA) rfl rfl hl.1 rfl (lv_room (Nat.le_of_ble_eq_true rfl)) dX12_goesOn_178 ⟨Nat.le_of_ble_eq_true rfl, Nat.le_of_ble_eq_true rfl⟩) (fun S_2906 hw_2906 H locs hP hS => ?_)
                  obtain ⟨I_2906, m_2906, w_2906_0, -⟩ := hw_2906
                  have M_2906 := dg_sm.tr M_2903 m_2906 (by decide) (by decide)
                  obtain ⟨y_2907, y_2908, y_2909, f_y_2907, f_y_2908, f_y_2909, w_2906_0⟩ := w_2906_0
                  have w_2906_0 : (se).toInt ≤ (y_2908).toInt ∧ (y_2908).toInt ≤ (y_2909).toInt ∧ (y_2909).toInt ≤ (sl).toInt ∧ ((y_2907).toInt ≠ 0 → (y_2908).toInt + 1 ≤ (y_2909).toInt) := w_2906_0
                  obtain ⟨w_2906_0_0, w_2906_0_1, w_2906_0_2, w_2906_0_3⟩ := w_2906_0
                  have b_y_2907 : 0 ≤ (y_2907).toInt ∧ (y_2907).toInt ≤ 3 := dg_I.intb (lo := 0) (hi := 3) I_2906 sM_0 (by decide +kernel) f_y_2907
                  have b_y_2908 : 0 ≤ (y_2908).toInt ∧ (y_2908).toInt ≤ 1600 := dg_I.intb (lo := 0) (hi := 1600) I_2906 sM_0 (by decide +kernel) f_y_2908
                  have b_y_2909 : 0 ≤ (y_2909).toInt ∧ (y_2909).toInt ≤ 1600 := dg_I.intb (lo := 0) (hi := 1600) I_2906 sM_0 (by decide +kernel) f_y_2909
                  refine lv_aload_n hx hb dX12_goesOn_181 rfl (lv_at hl 3 rfl) ?_
                  refine lv_iconst (v := 0) hx hb dX12_goesOn_182 (by decide +kernel) ?_
                  have hz_2910 : (0 : Int32).toInt = 0 := by decide +kernel
                  refine dg_put (ci := 12) (v := .int 0) (ty := tyX12 46) (C := RX12) (T := TX12) (N := 77) hx hb hts (fun w h => bw_mem (wU_X12 w h)) tyX12 tyX12_ok nmX12 hown K hP hS hA1 sM_0 rfl 46 (by decide) (hts _ (bw_mem wB_1237)) (fun _ h9 => h9) rfl (by decide +kernel) (by decide +kernel) (by decide +kernel) dX12_goesOn_183 (fun S_2911 e_2911 H locs hP hS => ?_)
                  have I_2911 := dg_I.uFi (lo := 0) (hi := 1) I_2906 e_2911 sM_0 (by decide +kernel) (show 0 ≤ ((0 : Int32)).toInt ∧ ((0 : Int32)).toInt ≤ 1 from (by decide +kernel))
                  have M_2911 := dg_sm.uF M_2906 e_2911 sM_0 (by decide)
                  refine lv_iconst (v := 1) hx hb dX12_goesOn_186 (by decide +kernel) ?_
                  have hz_2912 : (1 : Int32).toInt = 1 := by decide +kernel
                  have hz_2913 : (1 : Int32).toInt = 1 := by decide +kernel
                  have hz_2914 : (0 : Int32).toInt = 0 := by decide +kernel
                  have hz_2915 : (1 : Int32).toInt = 1 := by decide +kernel
                  have hz_2916 : (0 : Int32).toInt = 0 := by decide +kernel
                  refine W.widen (k := 0) (n := 0) (Nat.le_of_ble_eq_true rfl) (Nat.le_of_ble_eq_true rfl) ?_
                  rw [hQ9]
                  exact dg_iret hx hb hr hlocks (by decide +kernel) hP hS ⟨I_2911, M_2911, (by decide +kernel), ⟨y_2907, y_2908, y_2909, y_3, y_2856, dp, y_2905, 0, ((dg_uF_ne e_2911 (fun z => absurd z.2 (by decide))).trans f_y_2907), ((dg_uF_ne e_2911 (fun z => absurd z.2 (by decide))).trans f_y_2908), ((dg_uF_ne e_2911 (fun z => absurd z.2 (by decide))).trans f_y_2909), (((dg_uF_ne e_2911 (fun z => absurd z.2 (by decide))).trans ((m_2906.1 0 8 _ sM_0 (by decide)).trans ((m_2903.1 0 8 _ sM_0 (by decide)).trans (m_2854.1 0 8 _ sM_0 (by decide))))).trans f_y_3), (((dg_uF_ne e_2911 (fun z => absurd z.2 (by decide))).trans ((m_2906.1 0 34 _ sM_0 (by decide)).trans (m_2903.1 0 34 _ sM_0 (by decide)))).trans f_y_2856), (((dg_uF_ne e_2911 (fun z => absurd z.2 (by decide))).trans ((m_2906.1 0 42 _ sM_0 (by decide)).trans ((m_2903.1 0 42 _ sM_0 (by decide)).trans ((m_2854.1 0 42 _ sM_0 (by decide)).trans (m_2.1 0 42 _ sM_0 (by decide)))))).trans f_dp), (((dg_uF_ne e_2911 (fun z => absurd z.2 (by decide))).trans (m_2906.1 0 45 _ sM_0 (by decide))).trans f_y_2905), (dg_uF_at e_2911), (by omega)⟩, (fun k9 hk9 hk0 => POM.mk0 (P0M.keep (P0M.keep P0_2903 m_2906 (by decide) (by decide) (by decide) (by decide) (by decide) (by decide) (by decide) (by decide) (by decide) (by decide) (by decide) (by decide) (by decide) (by decide) (by decide)) (dg_sm.uF (WF := [(0, 46)]) (WA := []) dg_sm.rf e_2911 sM_0 (by decide)) (by decide) (by decide) (by decide) (by decide) (by decide) (by decide) (by decide) (by decide) (by decide) (by decide) (by decide) (by decide) (by decide) (by decide) (by decide)) (dg_uF_at e_2911) (by omega)), (ZWM.keep (ZWM.keep (ZWM.keep w_2854_2 m_2903 (by decide) (by decide) (by decide) (by decide)) m_2906 (by decide) (by decide) (by decide) (by decide)) (dg_sm.uF (WF := [(0, 46)]) (WA := []) dg_sm.rf e_2911 sM_0 (by decide)) (by decide) (by decide) (by decide) (by decide)), trivial⟩ dX12_goesOn_187
              · have jc_2866 := dk_neqc (k := 0) (by decide +kernel) c_2866
                have jbc_2866 : 1 ≤ (x_2863).toInt := by omega
                clear jc_2866
                have w_2864_1_r := w_2864_1.mp (by omega)
                obtain ⟨w_2864_1_r1, w_2864_1_r2⟩ := w_2864_1_r
                clear w_2864_1
                have hlx_2r := hlx_2 (by omega)
                clear hlx_2
                refine lv_bipush (v := 32) hx hb dX12_goesOn_139 (by decide +kernel) ?_
                refine lv_goto (tgt := 174) hx hb dX12_goesOn_141 (by decide) ?_
                refine dg_callv hS hA1 hA (va_runV (As := [.int 32]) (rest := []) F (c_m_holdsBack l g D o S_2854 32 y_2857 f_y_2857 (by omega) I_2854 H.size) (cwV 1 hts (bw_V wB_1224 wB_1225 wB_1226 wB_881 wB_1223) rfl rfl rfl (by decide +kernel) ⟨Nat.le_of_ble_eq_true rfl, Nat.le_of_ble_eq_true rfl⟩) (dg_preV sM_0 rfl K ST hP hS hA1 hA) rfl rfl hl.1 rfl (lv_room (Nat.le_of_ble_eq_true rfl)) dX12_goesOn_174 ⟨Nat.le_of_ble_eq_true rfl, Nat.le_of_ble_eq_true rfl⟩) (fun S_2917 hw_2917 H locs hP hS => ?_)
                obtain ⟨I_2917, m_2917, w_2917_0, w_2917_1, -⟩ := hw_2917
                have M_2917 := dg_sm.tr M_2854 m_2917 (by decide) (by decide)
                have hz_2918 : (32 : Int32).toInt = 32 := by decide +kernel
                obtain ⟨y_2919, f_y_2919, w_2917_0⟩ := w_2917_0
                have w_2917_0 : (y_2919).toInt = (y_2857).toInt + 1 := w_2917_0
                have b_y_2919 : 0 ≤ (y_2919).toInt ∧ (y_2919).toInt ≤ 500 := dg_I.intb (lo := 0) (hi := 500) I_2917 sM_0 (by decide +kernel) f_y_2919
                have w_2917_1 : HBM S_2854 S_2917 (32 : Int32) := w_2917_1
                have P0_2917 : P0M S_2917 := P1M.bin w_2854_3 (((m_2854.1 0 42 _ sM_0 (by decide)).trans (m_2.1 0 42 _ sM_0 (by decide))).trans f_dp) f_x_2858 f_y_2857 w_2854_1 m_2917 w_2917_1 (by omega)
                refine lv_aload_n hx hb dX12_goesOn_177 rfl (lv_at hl 3 rfl) ?_
                refine dg_callv hS hA1 hA (va_runV (As := []) (rest := []) F (c_m_ahead l g D o S_2917 se (((m_2917.1 0 5 _ sM_0 (by decide)).trans ((m_2854.1 0 5 _ sM_0 (by decide)).trans (m_2.1 0 5 _ sM_0 (by decide)))).trans f_se) (by omega) sl (((m_2917.1 0 2 _ sM_0 (by decide)).trans ((m_2854.1 0 2 _ sM_0 (by decide)).trans (m_2.1 0 2 _ sM_0 (by decide)))).trans f_sl) (by omega) (by omega) I_2917 H.size) (cwV 0 hts (bw_V wB_1161 wB_1162 wB_1163 wB_881 wB_1160) rfl rfl rfl (by decide +kernel) ⟨Nat.le_of_ble_eq_true rfl, Nat.le_of_ble_eq_true rfl⟩) (dg_preV sM_0 rfl K ST hP hS hA1 hA) rfl rfl hl.1 rfl (lv_room (Nat.le_of_ble_eq_true rfl)) dX12_goesOn_178 ⟨Nat.le_of_ble_eq_true rfl, Nat.le_of_ble_eq_true rfl⟩) (fun S_2920 hw_2920 H locs hP hS => ?_)
                obtain ⟨I_2920, m_2920, w_2920_0, -⟩ := hw_2920
                have M_2920 := dg_sm.tr M_2917 m_2920 (by decide) (by decide)
                obtain ⟨y_2921, y_2922, y_2923, f_y_2921, f_y_2922, f_y_2923, w_2920_0⟩ := w_2920_0
                have w_2920_0 : (se).toInt ≤ (y_2922).toInt ∧ (y_2922).toInt ≤ (y_2923).toInt ∧ (y_2923).toInt ≤ (sl).toInt ∧ ((y_2921).toInt ≠ 0 → (y_2922).toInt + 1 ≤ (y_2923).toInt) := w_2920_0
                obtain ⟨w_2920_0_0, w_2920_0_1, w_2920_0_2, w_2920_0_3⟩ := w_2920_0
                have b_y_2921 : 0 ≤ (y_2921).toInt ∧ (y_2921).toInt ≤ 3 := dg_I.intb (lo := 0) (hi := 3) I_2920 sM_0 (by decide +kernel) f_y_2921
                have b_y_2922 : 0 ≤ (y_2922).toInt ∧ (y_2922).toInt ≤ 1600 := dg_I.intb (lo := 0) (hi := 1600) I_2920 sM_0 (by decide +kernel) f_y_2922
                have b_y_2923 : 0 ≤ (y_2923).toInt ∧ (y_2923).toInt ≤ 1600 := dg_I.intb (lo := 0) (hi := 1600) I_2920 sM_0 (by decide +kernel) f_y_2923
                refine lv_aload_n hx hb dX12_goesOn_181 rfl (lv_at hl 3 rfl) ?_
                refine lv_iconst (v := 0) hx hb dX12_goesOn_182 (by decide +kernel) ?_
                have hz_2924 : (0 : Int32).toInt = 0 := by decide +kernel
                refine dg_put (ci := 12) (v := .int 0) (ty := tyX12 46) (C := RX12) (T := TX12) (N := 77) hx hb hts (fun w h => bw_mem (wU_X12 w h)) tyX12 tyX12_ok nmX12 hown K hP hS hA1 sM_0 rfl 46 (by decide) (hts _ (bw_mem wB_1237)) (fun _ h9 => h9) rfl (by decide +kernel) (by decide +kernel) (by decide +kernel) dX12_goesOn_183 (fun S_2925 e_2925 H locs hP hS => ?_)
                have I_2925 := dg_I.uFi (lo := 0) (hi := 1) I_2920 e_2925 sM_0 (by decide +kernel) (show 0 ≤ ((0 : Int32)).toInt ∧ ((0 : Int32)).toInt ≤ 1 from (by decide +kernel))
                have M_2925 := dg_sm.uF M_2920 e_2925 sM_0 (by decide)
                refine lv_iconst (v := 1) hx hb dX12_goesOn_186 (by decide +kernel) ?_
                have hz_2926 : (1 : Int32).toInt = 1 := by decide +kernel
                have hz_2927 : (1 : Int32).toInt = 1 := by decide +kernel
                have hz_2928 : (0 : Int32).toInt = 0 := by decide +kernel
                have hz_2929 : (1 : Int32).toInt = 1 := by decide +kernel
                have hz_2930 : (0 : Int32).toInt = 0 := by decide +kernel
                refine W.widen (k := 0) (n := 0) (Nat.le_of_ble_eq_true rfl) (Nat.le_of_ble_eq_true rfl) ?_
                rw [hQ9]
                exact dg_iret hx hb hr hlocks (by decide +kernel) hP hS ⟨I_2925, M_2925, (by decide +kernel), ⟨y_2921, y_2922, y_2923, y_3, y_2856, dp, y_2919, 0, ((dg_uF_ne e_2925 (fun z => absurd z.2 (by decide))).trans f_y_2921), ((dg_uF_ne e_2925 (fun z => absurd z.2 (by decide))).trans f_y_2922), ((dg_uF_ne e_2925 (fun z => absurd z.2 (by decide))).trans f_y_2923), (((dg_uF_ne e_2925 (fun z => absurd z.2 (by decide))).trans ((m_2920.1 0 8 _ sM_0 (by decide)).trans ((m_2917.1 0 8 _ sM_0 (by decide)).trans (m_2854.1 0 8 _ sM_0 (by decide))))).trans f_y_3), (((dg_uF_ne e_2925 (fun z => absurd z.2 (by decide))).trans ((m_2920.1 0 34 _ sM_0 (by decide)).trans (m_2917.1 0 34 _ sM_0 (by decide)))).trans f_y_2856), (((dg_uF_ne e_2925 (fun z => absurd z.2 (by decide))).trans ((m_2920.1 0 42 _ sM_0 (by decide)).trans ((m_2917.1 0 42 _ sM_0 (by decide)).trans ((m_2854.1 0 42 _ sM_0 (by decide)).trans (m_2.1 0 42 _ sM_0 (by decide)))))).trans f_dp), (((dg_uF_ne e_2925 (fun z => absurd z.2 (by decide))).trans (m_2920.1 0 45 _ sM_0 (by decide))).trans f_y_2919), (dg_uF_at e_2925), (by omega)⟩, (fun k9 hk9 hk0 => POM.mk0 (P0M.keep (P0M.keep P0_2917 m_2920 (by decide) (by decide) (by decide) (by decide) (by decide) (by decide) (by decide) (by decide) (by decide) (by decide) (by decide) (by decide) (by decide) (by decide) (by decide)) (dg_sm.uF (WF := [(0, 46)]) (WA := []) dg_sm.rf e_2925 sM_0 (by decide)) (by decide) (by decide) (by decide) (by decide) (by decide) (by decide) (by decide) (by decide) (by decide) (by decide) (by decide) (by decide) (by decide) (by decide) (by decide)) (dg_uF_at e_2925) (by omega)), (ZWM.keep (ZWM.keep (ZWM.keep w_2854_2 m_2917 (by decide) (by decide) (by decide) (by decide)) m_2920 (by decide) (by decide) (by decide) (by decide)) (dg_sm.uF (WF := [(0, 46)]) (WA := []) dg_sm.rf e_2925 sM_0 (by decide)) (by decide) (by decide) (by decide) (by decide)), trivial⟩ dX12_goesOn_187
            · have jc_2862 := dk_neqc (k := 0) (by decide +kernel) c_2862
              have jbc_2862 : 1 ≤ (x_2859).toInt := by omega
              clear jc_2862
              have w_2860_1_r := w_2860_1.mp (by omega)
              obtain ⟨w_2860_1_r1, w_2860_1_r2⟩ := w_2860_1_r
              clear w_2860_1
              have hlx_2r := hlx_2 (by omega)
              clear hlx_2
              refine lv_bipush (v := 31) hx hb dX12_goesOn_125 (by decide +kernel) ?_
              refine lv_goto (tgt := 174) hx hb dX12_goesOn_127 (by decide) ?_
              refine dg_callv hS hA1 hA (va_runV (As := [.int 31]) (rest := []) F (c_m_holdsBack l g D o S_2854 31 y_2857 f_y_2857 (by omega) I_2854 H.size) (cwV 1 hts (bw_V wB_1224 wB_1225 wB_1226 wB_881 wB_1223) rfl rfl rfl (by decide +kernel) ⟨Nat.le_of_ble_eq_true rfl, Nat.le_of_ble_eq_true rfl⟩) (dg_preV sM_0 rfl K ST hP hS hA1 hA) rfl rfl hl.1 rfl (lv_room (Nat.le_of_ble_eq_true rfl)) dX12_goesOn_174 ⟨Nat.le_of_ble_eq_true rfl, Nat.le_of_ble_eq_true rfl⟩) (fun S_2931 hw_2931 H locs hP hS => ?_)
              obtain ⟨I_2931, m_2931, w_2931_0, w_2931_1, -⟩ := hw_2931
              have M_2931 := dg_sm.tr M_2854 m_2931 (by decide) (by decide)
              have hz_2932 : (31 : Int32).toInt = 31 := by decide +kernel
              obtain ⟨y_2933, f_y_2933, w_2931_0⟩ := w_2931_0
              have w_2931_0 : (y_2933).toInt = (y_2857).toInt + 1 := w_2931_0
              have b_y_2933 : 0 ≤ (y_2933).toInt ∧ (y_2933).toInt ≤ 500 := dg_I.intb (lo := 0) (hi := 500) I_2931 sM_0 (by decide +kernel) f_y_2933
              have w_2931_1 : HBM S_2854 S_2931 (31 : Int32) := w_2931_1
              have P0_2931 : P0M S_2931 := P1M.bin w_2854_3 (((m_2854.1 0 42 _ sM_0 (by decide)).trans (m_2.1 0 42 _ sM_0 (by decide))).trans f_dp) f_x_2858 f_y_2857 w_2854_1 m_2931 w_2931_1 (by omega)
              refine lv_aload_n hx hb dX12_goesOn_177 rfl (lv_at hl 3 rfl) ?_
              refine dg_callv hS hA1 hA (va_runV (As := []) (rest := []) F (c_m_ahead l g D o S_2931 se (((m_2931.1 0 5 _ sM_0 (by decide)).trans ((m_2854.1 0 5 _ sM_0 (by decide)).trans (m_2.1 0 5 _ sM_0 (by decide)))).trans f_se) (by omega) sl (((m_2931.1 0 2 _ sM_0 (by decide)).trans ((m_2854.1 0 2 _ sM_0 (by decide)).trans (m_2.1 0 2 _ sM_0 (by decide)))).trans f_sl) (by omega) (by omega) I_2931 H.size) (cwV 0 hts (bw_V wB_1161 wB_1162 wB_1163 wB_881 wB_1160) rfl rfl rfl (by decide +kernel) ⟨Nat.le_of_ble_eq_true rfl, Nat.le_of_ble_eq_true rfl⟩) (dg_preV sM_0 rfl K ST hP hS hA1 hA) rfl rfl hl.1 rfl (lv_room (Nat.le_of_ble_eq_true rfl)) dX12_goesOn_178 ⟨Nat.le_of_ble_eq_true rfl, Nat.le_of_ble_eq_true rfl⟩) (fun S_2934 hw_2934 H locs hP hS => ?_)
              obtain ⟨I_2934, m_2934, w_2934_0, -⟩ := hw_2934
              have M_2934 := dg_sm.tr M_2931 m_2934 (by decide) (by decide)
              obtain ⟨y_2935, y_2936, y_2937, f_y_2935, f_y_2936, f_y_2937, w_2934_0⟩ := w_2934_0
              have w_2934_0 : (se).toInt ≤ (y_2936).toInt ∧ (y_2936).toInt ≤ (y_2937).toInt ∧ (y_2937).toInt ≤ (sl).toInt ∧ ((y_2935).toInt ≠ 0 → (y_2936).toInt + 1 ≤ (y_2937).toInt) := w_2934_0
              obtain ⟨w_2934_0_0, w_2934_0_1, w_2934_0_2, w_2934_0_3⟩ := w_2934_0
              have b_y_2935 : 0 ≤ (y_2935).toInt ∧ (y_2935).toInt ≤ 3 := dg_I.intb (lo := 0) (hi := 3) I_2934 sM_0 (by decide +kernel) f_y_2935
              have b_y_2936 : 0 ≤ (y_2936).toInt ∧ (y_2936).toInt ≤ 1600 := dg_I.intb (lo := 0) (hi := 1600) I_2934 sM_0 (by decide +kernel) f_y_2936
              have b_y_2937 : 0 ≤ (y_2937).toInt ∧ (y_2937).toInt ≤ 1600 := dg_I.intb (lo := 0) (hi := 1600) I_2934 sM_0 (by decide +kernel) f_y_2937
              refine lv_aload_n hx hb dX12_goesOn_181 rfl (lv_at hl 3 rfl) ?_
              refine lv_iconst (v := 0) hx hb dX12_goesOn_182 (by decide +kernel) ?_
              have hz_2938 : (0 : Int32).toInt = 0 := by decide +kernel
              refine dg_put (ci := 12) (v := .int 0) (ty := tyX12 46) (C := RX12) (T := TX12) (N := 77) hx hb hts (fun w h => bw_mem (wU_X12 w h)) tyX12 tyX12_ok nmX12 hown K hP hS hA1 sM_0 rfl 46 (by decide) (hts _ (bw_mem wB_1237)) (fun _ h9 => h9) rfl (by decide +kernel) (by decide +kernel) (by decide +kernel) dX12_goesOn_183 (fun S_2939 e_2939 H locs hP hS => ?_)
              have I_2939 := dg_I.uFi (lo := 0) (hi := 1) I_2934 e_2939 sM_0 (by decide +kernel) (show 0 ≤ ((0 : Int32)).toInt ∧ ((0 : Int32)).toInt ≤ 1 from (by decide +kernel))
              have M_2939 := dg_sm.uF M_2934 e_2939 sM_0 (by decide)
              refine lv_iconst (v := 1) hx hb dX12_goesOn_186 (by decide +kernel) ?_
              have hz_2940 : (1 : Int32).toInt = 1 := by decide +kernel
              have hz_2941 : (1 : Int32).toInt = 1 := by decide +kernel
              have hz_2942 : (0 : Int32).toInt = 0 := by decide +kernel
              have hz_2943 : (1 : Int32).toInt = 1 := by decide +kernel
              have hz_2944 : (0 : Int32).toInt = 0 := by decide +kernel
              refine W.widen (k := 0) (n := 0) (Nat.le_of_ble_eq_true rfl) (Nat.le_of_ble_eq_true rfl) ?_
              rw [hQ9]
              exact dg_iret hx hb hr hlocks (by decide +kernel) hP hS ⟨I_2939, M_2939, (by decide +kernel), ⟨y_2935, y_2936, y_2937, y_3, y_2856, dp, y_2933, 0, ((dg_uF_ne e_2939 (fun z => absurd z.2 (by decide))).trans f_y_2935), ((dg_uF_ne e_2939 (fun z => absurd z.2 (by decide))).trans f_y_2936), ((dg_uF_ne e_2939 (fun z => absurd z.2 (by decide))).trans f_y_2937), (((dg_uF_ne e_2939 (fun z => absurd z.2 (by decide))).trans ((m_2934.1 0 8 _ sM_0 (by decide)).trans ((m_2931.1 0 8 _ sM_0 (by decide)).trans (m_2854.1 0 8 _ sM_0 (by decide))))).trans f_y_3), (((dg_uF_ne e_2939 (fun z => absurd z.2 (by decide))).trans ((m_2934.1 0 34 _ sM_0 (by decide)).trans (m_2931.1 0 34 _ sM_0 (by decide)))).trans f_y_2856), (((dg_uF_ne e_2939 (fun z => absurd z.2 (by decide))).trans ((m_2934.1 0 42 _ sM_0 (by decide)).trans ((m_2931.1 0 42 _ sM_0 (by decide)).trans ((m_2854.1 0 42 _ sM_0 (by decide)).trans (m_2.1 0 42 _ sM_0 (by decide)))))).trans f_dp), (((dg_uF_ne e_2939 (fun z => absurd z.2 (by decide))).trans (m_2934.1 0 45 _ sM_0 (by decide))).trans f_y_2933), (dg_uF_at e_2939), (by omega)⟩, (fun k9 hk9 hk0 => POM.mk0 (P0M.keep (P0M.keep P0_2931 m_2934 (by decide) (by decide) (by decide) (by decide) (by decide) (by decide) (by decide) (by decide) (by decide) (by decide) (by decide) (by decide) (by decide) (by decide) (by decide)) (dg_sm.uF (WF := [(0, 46)]) (WA := []) dg_sm.rf e_2939 sM_0 (by decide)) (by decide) (by decide) (by decide) (by decide) (by decide) (by decide) (by decide) (by decide) (by decide) (by decide) (by decide) (by decide) (by decide) (by decide) (by decide)) (dg_uF_at e_2939) (by omega)), (ZWM.keep (ZWM.keep (ZWM.keep w_2854_2 m_2931 (by decide) (by decide) (by decide) (by decide)) m_2934 (by decide) (by decide) (by decide) (by decide)) (dg_sm.uF (WF := [(0, 46)]) (WA := []) dg_sm.rf e_2939 sM_0 (by decide)) (by decide) (by decide) (by decide) (by decide)), trivial⟩ dX12_goesOn_187
          · have jc_2852 := dk_neqc (k := 0) (by decide +kernel) c_2852
            have jbc_2852 : 1 ≤ (x_2849).toInt := by omega
            clear jc_2852
            have w_2850_1_r := w_2850_1.mp (by omega)
            obtain ⟨w_2850_1_r1, w_2850_1_r2⟩ := w_2850_1_r
            clear w_2850_1
            have hlx_2r := hlx_2 (by omega)
            clear hlx_2
            refine lv_iconst (v := 5) hx hb dX12_goesOn_106 (by decide +kernel) ?_
            refine lv_goto (tgt := 112) hx hb dX12_goesOn_107 (by decide) ?_
            have hz_2945 : (5 : Int32).toInt = 5 := by decide +kernel
            refine dg_callv hS hA1 hA (va_runV (As := [.int 5]) (rest := []) F (c_m_joins l g D o S_2 5 (by decide +kernel) cd ((m_2.1 0 34 _ sM_0 (by decide)).trans f_cd) (by omega) om ((m_2.1 0 45 _ sM_0 (by decide)).trans f_om) (by omega) (by omega) (ZWM.keep ZW m_2 (by decide) (by decide) (by decide) (by decide)) (ZKM.keep ZK m_2 (by decide) (by decide)) (P1M.keep P1 m_2 (by decide) (by decide) (by decide) (by decide) (by decide) (by decide) (by decide) (by decide) (by decide) (by decide) (by decide) (by decide) (by decide) (by decide) (by decide)) I_2 H.size) (cwV 1 hts (bw_V wB_1234 wB_1235 wB_1236 wB_881 wB_1233) rfl rfl rfl (by decide +kernel) ⟨Nat.le_of_ble_eq_true rfl, Nat.le_of_ble_eq_true rfl⟩) (dg_preV sM_0 rfl K ST hP hS hA1 hA) rfl rfl hl.1 rfl (lv_room (Nat.le_of_ble_eq_true rfl)) dX12_goesOn_112 ⟨Nat.le_of_ble_eq_true rfl, Nat.le_of_ble_eq_true rfl⟩) (fun S_2946 hw_2946 H locs hP hS => ?_)
            obtain ⟨I_2946, m_2946, w_2946_0, w_2946_1, w_2946_2, w_2946_3, -⟩ := hw_2946
            have M_2946 := dg_sm.tr M_2 m_2946 (by decide) (by decide)
            have hz_2947 : (5 : Int32).toInt = 5 := by decide +kernel
            obtain ⟨y_2948, y_2949, f_y_2948, f_y_2949, w_2946_0⟩ := w_2946_0
            have w_2946_0 : (y_2948).toInt + (y_2949).toInt = (cd).toInt + (om).toInt := w_2946_0
            have b_y_2948 : 0 ≤ (y_2948).toInt ∧ (y_2948).toInt ≤ 1600 := dg_I.intb (lo := 0) (hi := 1600) I_2946 sM_0 (by decide +kernel) f_y_2948
            have b_y_2949 : 0 ≤ (y_2949).toInt ∧ (y_2949).toInt ≤ 500 := dg_I.intb (lo := 0) (hi := 500) I_2946 sM_0 (by decide +kernel) f_y_2949
            have w_2946_1 : TOPM S_2946 (5 : Int32) := w_2946_1
            obtain ⟨x_2950, f_x_2950, b_x_2950⟩ := dg_I.int (i := 0) (k := 43) (lo := (-2147483648)) (hi := 2147483647) I_2946 sM_0 (by decide +kernel)
            refine lv_aload_n hx hb dX12_goesOn_115 rfl (lv_at hl 3 rfl) ?_
            refine lv_aload_n hx hb dX12_goesOn_116 rfl (lv_at hl 3 rfl) ?_
            refine lv_bipush (v := 43) hx hb dX12_goesOn_117 (by decide +kernel) ?_
            refine dg_calli hS hA1 hA (va_runV (As := [.int 43]) (rest := [.ref (o + 0)]) F (c_m_isSign l g D o S_2946 43 sg (((m_2946.1 0 3 _ sM_0 (by decide)).trans (m_2.1 0 3 _ sM_0 (by decide))).trans f_sg) (by omega) va (((m_2946.1 0 6 _ sM_0 (by decide)).trans (m_2.1 0 6 _ sM_0 (by decide))).trans f_va) (by omega) I_2946 H.size) (cwV 1 hts (bw_V wB_1157 wB_1158 wB_1159 wB_881 wB_1156) rfl rfl rfl (by decide +kernel) ⟨Nat.le_of_ble_eq_true rfl, Nat.le_of_ble_eq_true rfl⟩) (dg_preV sM_0 rfl K ST hP hS hA1 hA) rfl rfl hl.1 rfl (lv_room (Nat.le_of_ble_eq_true rfl)) dX12_goesOn_119 ⟨Nat.le_of_ble_eq_true rfl, Nat.le_of_ble_eq_true rfl⟩) (fun x_2951 S_2952 hw_2952 H locs hP hS => ?_)
            rw [hw_2952.1] at hP
            obtain ⟨hq_2952, w_2952_0, w_2952_1, -⟩ := hw_2952
            have hz_2953 : (43 : Int32).toInt = 43 := by decide +kernel
            have w_2952_0 : 0 ≤ (x_2951).toInt ∧ (x_2951).toInt ≤ 1 := w_2952_0
            have w_2952_1 : (x_2951).toInt = 1 ↔ ((sg).toInt = 3 ∧ (va).toInt = ((43 : Int32)).toInt) := w_2952_1
            refine lv_if_eq (tgt := 130) hx hb dX12_goesOn_122 (by decide) (fun c_2954 => ?_) (fun c_2954 => ?_)
            · have jc_2954 := dk_eqc (k := 0) (by decide +kernel) c_2954
              have w_2952_1_r : (va).toInt ≠ 43 := fun q9 => absurd (w_2952_1.mpr ⟨by omega, by omega⟩) (by omega)
              clear w_2952_1
              refine lv_aload_n hx hb dX12_goesOn_130 rfl (lv_at hl 3 rfl) ?_
              refine lv_bipush (v := 45) hx hb dX12_goesOn_131 (by decide +kernel) ?_
              refine dg_calli hS hA1 hA (va_runV (As := [.int 45]) (rest := [.ref (o + 0)]) F (c_m_isSign l g D o S_2946 45 sg (((m_2946.1 0 3 _ sM_0 (by decide)).trans (m_2.1 0 3 _ sM_0 (by decide))).trans f_sg) (by omega) va (((m_2946.1 0 6 _ sM_0 (by decide)).trans (m_2.1 0 6 _ sM_0 (by decide))).trans f_va) (by omega) I_2946 H.size) (cwV 1 hts (bw_V wB_1157 wB_1158 wB_1159 wB_881 wB_1156) rfl rfl rfl (by decide +kernel) ⟨Nat.le_of_ble_eq_true rfl, Nat.le_of_ble_eq_true rfl⟩) (dg_preV sM_0 rfl K ST hP hS hA1 hA) rfl rfl hl.1 rfl (lv_room (Nat.le_of_ble_eq_true rfl)) dX12_goesOn_133 ⟨Nat.le_of_ble_eq_true rfl, Nat.le_of_ble_eq_true rfl⟩) (fun x_2955 S_2956 hw_2956 H locs hP hS => ?_)
              rw [hw_2956.1] at hP
              obtain ⟨hq_2956, w_2956_0, w_2956_1, -⟩ := hw_2956
              have hz_2957 : (45 : Int32).toInt = 45 := by decide +kernel
              have w_2956_0 : 0 ≤ (x_2955).toInt ∧ (x_2955).toInt ≤ 1 := w_2956_0
              have w_2956_1 : (x_2955).toInt = 1 ↔ ((sg).toInt = 3 ∧ (va).toInt = ((45 : Int32)).toInt) := w_2956_1
              refine lv_if_eq (tgt := 144) hx hb dX12_goesOn_136 (by decide) (fun c_2958 => ?_) (fun c_2958 => ?_)
              · have jc_2958 := dk_eqc (k := 0) (by decide +kernel) c_2958
                have w_2956_1_r : (va).toInt ≠ 45 := fun q9 => absurd (w_2956_1.mpr ⟨by omega, by omega⟩) (by omega)
                clear w_2956_1
                refine lv_aload_n hx hb dX12_goesOn_144 rfl (lv_at hl 3 rfl) ?_
                refine lv_bipush (v := 42) hx hb dX12_goesOn_145 (by decide +kernel) ?_
                refine dg_calli hS hA1 hA (va_runV (As := [.int 42]) (rest := [.ref (o + 0)]) F (c_m_isSign l g D o S_2946 42 sg (((m_2946.1 0 3 _ sM_0 (by decide)).trans (m_2.1 0 3 _ sM_0 (by decide))).trans f_sg) (by omega) va (((m_2946.1 0 6 _ sM_0 (by decide)).trans (m_2.1 0 6 _ sM_0 (by decide))).trans f_va) (by omega) I_2946 H.size) (cwV 1 hts (bw_V wB_1157 wB_1158 wB_1159 wB_881 wB_1156) rfl rfl rfl (by decide +kernel) ⟨Nat.le_of_ble_eq_true rfl, Nat.le_of_ble_eq_true rfl⟩) (dg_preV sM_0 rfl K ST hP hS hA1 hA) rfl rfl hl.1 rfl (lv_room (Nat.le_of_ble_eq_true rfl)) dX12_goesOn_147 ⟨Nat.le_of_ble_eq_true rfl, Nat.le_of_ble_eq_true rfl⟩) (fun x_2959 S_2960 hw_2960 H locs hP hS => ?_)
                rw [hw_2960.1] at hP
                obtain ⟨hq_2960, w_2960_0, w_2960_1, -⟩ := hw_2960
                have hz_2961 : (42 : Int32).toInt = 42 := by decide +kernel
                have w_2960_0 : 0 ≤ (x_2959).toInt ∧ (x_2959).toInt ≤ 1 := w_2960_0
                have w_2960_1 : (x_2959).toInt = 1 ↔ ((sg).toInt = 3 ∧ (va).toInt = ((42 : Int32)).toInt) := w_2960_1
                refine lv_if_eq (tgt := 158) hx hb dX12_goesOn_150 (by decide) (fun c_2962 => ?_) (fun c_2962 => ?_)
                · have jc_2962 := dk_eqc (k := 0) (by decide +kernel) c_2962
                  have w_2960_1_r : (va).toInt ≠ 42 := fun q9 => absurd (w_2960_1.mpr ⟨by omega, by omega⟩) (by omega)
                  clear w_2960_1
                  refine lv_aload_n hx hb dX12_goesOn_158 rfl (lv_at hl 3 rfl) ?_
                  refine lv_bipush (v := 47) hx hb dX12_goesOn_159 (by decide +kernel) ?_
                  refine dg_calli hS hA1 hA (va_runV (As := [.int 47]) (rest := [.ref (o + 0)]) F (c_m_isSign l g D o S_2946 47 sg (((m_2946.1 0 3 _ sM_0 (by decide)).trans (m_2.1 0 3 _ sM_0 (by decide))).trans f_sg) (by omega) va (((m_2946.1 0 6 _ sM_0 (by decide)).trans (m_2.1 0 6 _ sM_0 (by decide))).trans f_va) (by omega) I_2946 H.size) (cwV 1 hts (bw_V wB_1157 wB_1158 wB_1159 wB_881 wB_1156) rfl rfl rfl (by decide +kernel) ⟨Nat.le_of_ble_eq_true rfl, Nat.le_of_ble_eq_true rfl⟩) (dg_preV sM_0 rfl K ST hP hS hA1 hA) rfl rfl hl.1 rfl (lv_room (Nat.le_of_ble_eq_true rfl)) dX12_goesOn_161 ⟨Nat.le_of_ble_eq_true rfl, Nat.le_of_ble_eq_true rfl⟩) (fun x_2963 S_2964 hw_2964 H locs hP hS => ?_)
                  rw [hw_2964.1] at hP
                  obtain ⟨hq_2964, w_2964_0, w_2964_1, -⟩ := hw_2964
                  have hz_2965 : (47 : Int32).toInt = 47 := by decide +kernel
                  have w_2964_0 : 0 ≤ (x_2963).toInt ∧ (x_2963).toInt ≤ 1 := w_2964_0
                  have w_2964_1 : (x_2963).toInt = 1 ↔ ((sg).toInt = 3 ∧ (va).toInt = ((47 : Int32)).toInt) := w_2964_1
                  refine lv_if_eq (tgt := 172) hx hb dX12_goesOn_164 (by decide) (fun c_2966 => ?_) (fun c_2966 => ?_)
                  · have jc_2966 := dk_eqc (k := 0) (by decide +kernel) c_2966
                    have w_2964_1_r : (va).toInt ≠ 47 := fun q9 => absurd (w_2964_1.mpr ⟨by omega, by omega⟩) (by omega)
                    clear w_2964_1
                    refine lv_bipush (v := 35) hx hb dX12_goesOn_172 (by decide +kernel) ?_
                    refine dg_callv hS hA1 hA (va_runV (As := [.int 35]) (rest := []) F (c_m_holdsBack l g D o S_2946 35 y_2949 f_y_2949 (by omega) I_2946 H.size) (cwV 1 hts (bw_V wB_1224 wB_1225 wB_1226 wB_881 wB_1223) rfl rfl rfl (by decide +kernel) ⟨Nat.le_of_ble_eq_true rfl, Nat.le_of_ble_eq_true rfl⟩) (dg_preV sM_0 rfl K ST hP hS hA1 hA) rfl rfl hl.1 rfl (lv_room (Nat.le_of_ble_eq_true rfl)) dX12_goesOn_174 ⟨Nat.le_of_ble_eq_true rfl, Nat.le_of_ble_eq_true rfl⟩) (fun S_2967 hw_2967 H locs hP hS => ?_)
                    obtain ⟨I_2967, m_2967, w_2967_0, w_2967_1, -⟩ := hw_2967
                    have M_2967 := dg_sm.tr M_2946 m_2967 (by decide) (by decide)
                    have hz_2968 : (35 : Int32).toInt = 35 := by decide +kernel
                    obtain ⟨y_2969, f_y_2969, w_2967_0⟩ := w_2967_0
                    have w_2967_0 : (y_2969).toInt = (y_2949).toInt + 1 := w_2967_0
                    have b_y_2969 : 0 ≤ (y_2969).toInt ∧ (y_2969).toInt ≤ 500 := dg_I.intb (lo := 0) (hi := 500) I_2967 sM_0 (by decide +kernel) f_y_2969
                    have w_2967_1 : HBM S_2946 S_2967 (35 : Int32) := w_2967_1
                    have P0_2967 : P0M S_2967 := P1M.bin w_2946_3 (((m_2946.1 0 42 _ sM_0 (by decide)).trans (m_2.1 0 42 _ sM_0 (by decide))).trans f_dp) f_x_2950 f_y_2949 w_2946_1 m_2967 w_2967_1 (by omega)
                    refine lv_aload_n hx hb dX12_goesOn_177 rfl (lv_at hl 3 rfl) ?_
                    refine dg_callv hS hA1 hA (va_runV (As := []) (rest := []) F (c_m_ahead l g D o S_2967 se (((m_2967.1 0 5 _ sM_0 (by decide)).trans ((m_2946.1 0 5 _ sM_0 (by decide)).trans (m_2.1 0 5 _ sM_0 (by decide)))).trans f_se) (by omega) sl (((m_2967.1 0 2 _ sM_0 (by decide)).trans ((m_2946.1 0 2 _ sM_0 (by decide)).trans (m_2.1 0 2 _ sM_0 (by decide)))).trans f_sl) (by omega) (by omega) I_2967 H.size) (cwV 0 hts (bw_V wB_1161 wB_1162 wB_1163 wB_881 wB_1160) rfl rfl rfl (by decide +kernel) ⟨Nat.le_of_ble_eq_true rfl, Nat.le_of_ble_eq_true rfl⟩) (dg_preV sM_0 rfl K ST hP hS hA1 hA) rfl rfl hl.1 rfl (lv_room (Nat.le_of_ble_eq_true rfl)) dX12_goesOn_178 ⟨Nat.le_of_ble_eq_true rfl, Nat.le_of_ble_eq_true rfl⟩) (fun S_2970 hw_2970 H locs hP hS => ?_)
                    obtain ⟨I_2970, m_2970, w_2970_0, -⟩ := hw_2970
                    have M_2970 := dg_sm.tr M_2967 m_2970 (by decide) (by decide)
                    obtain ⟨y_2971, y_2972, y_2973, f_y_2971, f_y_2972, f_y_2973, w_2970_0⟩ := w_2970_0
                    have w_2970_0 : (se).toInt ≤ (y_2972).toInt ∧ (y_2972).toInt ≤ (y_2973).toInt ∧ (y_2973).toInt ≤ (sl).toInt ∧ ((y_2971).toInt ≠ 0 → (y_2972).toInt + 1 ≤ (y_2973).toInt) := w_2970_0
                    obtain ⟨w_2970_0_0, w_2970_0_1, w_2970_0_2, w_2970_0_3⟩ := w_2970_0
                    have b_y_2971 : 0 ≤ (y_2971).toInt ∧ (y_2971).toInt ≤ 3 := dg_I.intb (lo := 0) (hi := 3) I_2970 sM_0 (by decide +kernel) f_y_2971
                    have b_y_2972 : 0 ≤ (y_2972).toInt ∧ (y_2972).toInt ≤ 1600 := dg_I.intb (lo := 0) (hi := 1600) I_2970 sM_0 (by decide +kernel) f_y_2972
                    have b_y_2973 : 0 ≤ (y_2973).toInt ∧ (y_2973).toInt ≤ 1600 := dg_I.intb (lo := 0) (hi := 1600) I_2970 sM_0 (by decide +kernel) f_y_2973
                    refine lv_aload_n hx hb dX12_goesOn_181 rfl (lv_at hl 3 rfl) ?_
                    refine lv_iconst (v := 0) hx hb dX12_goesOn_182 (by decide +kernel) ?_
                    have hz_2974 : (0 : Int32).toInt = 0 := by decide +kernel
                    refine dg_put (ci := 12) (v := .int 0) (ty := tyX12 46) (C := RX12) (T := TX12) (N := 77) hx hb hts (fun w h => bw_mem (wU_X12 w h)) tyX12 tyX12_ok nmX12 hown K hP hS hA1 sM_0 rfl 46 (by decide) (hts _ (bw_mem wB_1237)) (fun _ h9 => h9) rfl (by decide +kernel) (by decide +kernel) (by decide +kernel) dX12_goesOn_183 (fun S_2975 e_2975 H locs hP hS => ?_)
                    have I_2975 := dg_I.uFi (lo := 0) (hi := 1) I_2970 e_2975 sM_0 (by decide +kernel) (show 0 ≤ ((0 : Int32)).toInt ∧ ((0 : Int32)).toInt ≤ 1 from (by decide +kernel))
                    have M_2975 := dg_sm.uF M_2970 e_2975 sM_0 (by decide)
                    refine lv_iconst (v := 1) hx hb dX12_goesOn_186 (by decide +kernel) ?_
                    have hz_2976 : (1 : Int32).toInt = 1 := by decide +kernel
                    have hz_2977 : (1 : Int32).toInt = 1 := by decide +kernel
                    have hz_2978 : (0 : Int32).toInt = 0 := by decide +kernel
                    have hz_2979 : (1 : Int32).toInt = 1 := by decide +kernel
                    have hz_2980 : (0 : Int32).toInt = 0 := by decide +kernel
                    refine W.widen (k := 0) (n := 0) (Nat.le_of_ble_eq_true rfl) (Nat.le_of_ble_eq_true rfl) ?_
                    rw [hQ9]
                    exact dg_iret hx hb hr hlocks (by decide +kernel) hP hS ⟨I_2975, M_2975, (by decide +kernel), ⟨y_2971, y_2972, y_2973, y_3, y_2948, dp, y_2969, 0, ((dg_uF_ne e_2975 (fun z => absurd z.2 (by decide))).trans f_y_2971), ((dg_uF_ne e_2975 (fun z => absurd z.2 (by decide))).trans f_y_2972), ((dg_uF_ne e_2975 (fun z => absurd z.2 (by decide))).trans f_y_2973), (((dg_uF_ne e_2975 (fun z => absurd z.2 (by decide))).trans ((m_2970.1 0 8 _ sM_0 (by decide)).trans ((m_2967.1 0 8 _ sM_0 (by decide)).trans (m_2946.1 0 8 _ sM_0 (by decide))))).trans f_y_3), (((dg_uF_ne e_2975 (fun z => absurd z.2 (by decide))).trans ((m_2970.1 0 34 _ sM_0 (by decide)).trans (m_2967.1 0 34 _ sM_0 (by decide)))).trans f_y_2948), (((dg_uF_ne e_2975 (fun z => absurd z.2 (by decide))).trans ((m_2970.1 0 42 _ sM_0 (by decide)).trans ((m_2967.1 0 42 _ sM_0 (by decide)).trans ((m_2946.1 0 42 _ sM_0 (by decide)).trans (m_2.1 0 42 _ sM_0 (by decide)))))).trans f_dp), (((dg_uF_ne e_2975 (fun z => absurd z.2 (by decide))).trans (m_2970.1 0 45 _ sM_0 (by decide))).trans f_y_2969), (dg_uF_at e_2975), (by omega)⟩, (fun k9 hk9 hk0 => POM.mk0 (P0M.keep (P0M.keep P0_2967 m_2970 (by decide) (by decide) (by decide) (by decide) (by decide) (by decide) (by decide) (by decide) (by decide) (by decide) (by decide) (by decide) (by decide) (by decide) (by decide)) (dg_sm.uF (WF := [(0, 46)]) (WA := []) dg_sm.rf e_2975 sM_0 (by decide)) (by decide) (by decide) (by decide) (by decide) (by decide) (by decide) (by decide) (by decide) (by decide) (by decide) (by decide) (by decide) (by decide) (by decide) (by decide)) (dg_uF_at e_2975) (by omega)), (ZWM.keep (ZWM.keep (ZWM.keep w_2946_2 m_2967 (by decide) (by decide) (by decide) (by decide)) m_2970 (by decide) (by decide) (by decide) (by decide)) (dg_sm.uF (WF := [(0, 46)]) (WA := []) dg_sm.rf e_2975 sM_0 (by decide)) (by decide) (by decide) (by decide) (by decide)), trivial⟩ dX12_goesOn_187
                  · have jc_2966 := dk_neqc (k := 0) (by decide +kernel) c_2966
                    have jbc_2966 : 1 ≤ (x_2963).toInt := by omega
                    clear jc_2966
                    have w_2964_1_r := w_2964_1.mp (by omega)
                    obtain ⟨w_2964_1_r1, w_2964_1_r2⟩ := w_2964_1_r
                    clear w_2964_1
                    refine lv_bipush (v := 34) hx hb dX12_goesOn_167 (by decide +kernel) ?_
                    refine lv_goto (tgt := 174) hx hb dX12_goesOn_169 (by decide) ?_
                    refine dg_callv hS hA1 hA (va_runV (As := [.int 34]) (rest := []) F (c_m_holdsBack l g D o S_2946 34 y_2949 f_y_2949 (by omega) I_2946 H.size) (cwV 1 hts (bw_V wB_1224 wB_1225 wB_1226 wB_881 wB_1223) rfl rfl rfl (by decide +kernel) ⟨Nat.le_of_ble_eq_true rfl, Nat.le_of_ble_eq_true rfl⟩) (dg_preV sM_0 rfl K ST hP hS hA1 hA) rfl rfl hl.1 rfl (lv_room (Nat.le_of_ble_eq_true rfl)) dX12_goesOn_174 ⟨Nat.le_of_ble_eq_true rfl, Nat.le_of_ble_eq_true rfl⟩) (fun S_2981 hw_2981 H locs hP hS => ?_)
                    obtain ⟨I_2981, m_2981, w_2981_0, w_2981_1, -⟩ := hw_2981
                    have M_2981 := dg_sm.tr M_2946 m_2981 (by decide) (by decide)
                    have hz_2982 : (34 : Int32).toInt = 34 := by decide +kernel
                    obtain ⟨y_2983, f_y_2983, w_2981_0⟩ := w_2981_0
                    have w_2981_0 : (y_2983).toInt = (y_2949).toInt + 1 := w_2981_0
                    have b_y_2983 : 0 ≤ (y_2983).toInt ∧ (y_2983).toInt ≤ 500 := dg_I.intb (lo := 0) (hi := 500) I_2981 sM_0 (by decide +kernel) f_y_2983
                    have w_2981_1 : HBM S_2946 S_2981 (34 : Int32) := w_2981_1
                    have P0_2981 : P0M S_2981 := P1M.bin w_2946_3 (((m_2946.1 0 42 _ sM_0 (by decide)).trans (m_2.1 0 42 _ sM_0 (by decide))).trans f_dp) f_x_2950 f_y_2949 w_2946_1 m_2981 w_2981_1 (by omega)
                    refine lv_aload_n hx hb dX12_goesOn_177 rfl (lv_at hl 3 rfl) ?_
                    refine dg_callv hS hA1 hA (va_runV (As := []) (rest := []) F (c_m_ahead l g D o S_2981 se (((m_2981.1 0 5 _ sM_0 (by decide)).trans ((m_2946.1 0 5 _ sM_0 (by decide)).trans (m_2.1 0 5 _ sM_0 (by decide)))).trans f_se) (by omega) sl (((m_2981.1 0 2 _ sM_0 (by decide)).trans ((m_2946.1 0 2 _ sM_0 (by decide)).trans (m_2.1 0 2 _ sM_0 (by decide)))).trans f_sl) (by omega) (by omega) I_2981 H.size) (cwV 0 hts (bw_V wB_1161 wB_1162 wB_1163 wB_881 wB_1160) rfl rfl rfl (by decide +kernel) ⟨Nat.le_of_ble_eq_true rfl, Nat.le_of_ble_eq_true rfl⟩) (dg_preV sM_0 rfl K ST hP hS hA1 hA) rfl rfl hl.1 rfl (lv_room (Nat.le_of_ble_eq_true rfl)) dX12_goesOn_178 ⟨Nat.le_of_ble_eq_true rfl, Nat.le_of_ble_eq_true rfl⟩) (fun S_2984 hw_2984 H locs hP hS => ?_)
                    obtain ⟨I_2984, m_2984, w_2984_0, -⟩ := hw_2984
                    have M_2984 := dg_sm.tr M_2981 m_2984 (by decide) (by decide)
                    obtain ⟨y_2985, y_2986, y_2987, f_y_2985, f_y_2986, f_y_2987, w_2984_0⟩ := w_2984_0
                    have w_2984_0 : (se).toInt ≤ (y_2986).toInt ∧ (y_2986).toInt ≤ (y_2987).toInt ∧ (y_2987).toInt ≤ (sl).toInt ∧ ((y_2985).toInt ≠ 0 → (y_2986).toInt + 1 ≤ (y_2987).toInt) := w_2984_0
                    obtain ⟨w_2984_0_0, w_2984_0_1, w_2984_0_2, w_2984_0_3⟩ := w_2984_0
                    have b_y_2985 : 0 ≤ (y_2985).toInt ∧ (y_2985).toInt ≤ 3 := dg_I.intb (lo := 0) (hi := 3) I_2984 sM_0 (by decide +kernel) f_y_2985
                    have b_y_2986 : 0 ≤ (y_2986).toInt ∧ (y_2986).toInt ≤ 1600 := dg_I.intb (lo := 0) (hi := 1600) I_2984 sM_0 (by decide +kernel) f_y_2986
                    have b_y_2987 : 0 ≤ (y_2987).toInt ∧ (y_2987).toInt ≤ 1600 := dg_I.intb (lo := 0) (hi := 1600) I_2984 sM_0 (by decide +kernel) f_y_2987
                    refine lv_aload_n hx hb dX12_goesOn_181 rfl (lv_at hl 3 rfl) ?_
                    refine lv_iconst (v := 0) hx hb dX12_goesOn_182 (by decide +kernel) ?_
                    have hz_2988 : (0 : Int32).toInt = 0 := by decide +kernel
                    refine dg_put (ci := 12) (v := .int 0) (ty := tyX12 46) (C := RX12) (T := TX12) (N := 77) hx hb hts (fun w h => bw_mem (wU_X12 w h)) tyX12 tyX12_ok nmX12 hown K hP hS hA1 sM_0 rfl 46 (by decide) (hts _ (bw_mem wB_1237)) (fun _ h9 => h9) rfl (by decide +kernel) (by decide +kernel) (by decide +kernel) dX12_goesOn_183 (fun S_2989 e_2989 H locs hP hS => ?_)
                    have I_2989 := dg_I.uFi (lo := 0) (hi := 1) I_2984 e_2989 sM_0 (by decide +kernel) (show 0 ≤ ((0 : Int32)).toInt ∧ ((0 : Int32)).toInt ≤ 1 from (by decide +kernel))
                    have M_2989 := dg_sm.uF M_2984 e_2989 sM_0 (by decide)
                    refine lv_iconst (v := 1) hx hb dX12_goesOn_186 (by decide +kernel) ?_
                    have hz_2990 : (1 : Int32).toInt = 1 := by decide +kernel
                    have hz_2991 : (1 : Int32).toInt = 1 := by decide +kernel
                    have hz_2992 : (0 : Int32).toInt = 0 := by decide +kernel
                    have hz_2993 : (1 : Int32).toInt = 1 := by decide +kernel
                    have hz_2994 : (0 : Int32).toInt = 0 := by decide +kernel
                    refine W.widen (k := 0) (n := 0) (Nat.le_of_ble_eq_true rfl) (Nat.le_of_ble_eq_true rfl) ?_
                    rw [hQ9]
                    exact dg_iret hx hb hr hlocks (by decide +kernel) hP hS ⟨I_2989, M_2989, (by decide +kernel), ⟨y_2985, y_2986, y_2987, y_3, y_2948, dp, y_2983, 0, ((dg_uF_ne e_2989 (fun z => absurd z.2 (by decide))).trans f_y_2985), ((dg_uF_ne e_2989 (fun z => absurd z.2 (by decide))).trans f_y_2986), ((dg_uF_ne e_2989 (fun z => absurd z.2 (by decide))).trans f_y_2987), (((dg_uF_ne e_2989 (fun z => absurd z.2 (by decide))).trans ((m_2984.1 0 8 _ sM_0 (by decide)).trans ((m_2981.1 0 8 _ sM_0 (by decide)).trans (m_2946.1 0 8 _ sM_0 (by decide))))).trans f_y_3), (((dg_uF_ne e_2989 (fun z => absurd z.2 (by decide))).trans ((m_2984.1 0 34 _ sM_0 (by decide)).trans (m_2981.1 0 34 _ sM_0 (by decide)))).trans f_y_2948), (((dg_uF_ne e_2989 (fun z => absurd z.2 (by decide))).trans ((m_2984.1 0 42 _ sM_0 (by decide)).trans ((m_2981.1 0 42 _ sM_0 (by decide)).trans ((m_2946.1 0 42 _ sM_0 (by decide)).trans (m_2.1 0 42 _ sM_0 (by decide)))))).trans f_dp), (((dg_uF_ne e_2989 (fun z => absurd z.2 (by decide))).trans (m_2984.1 0 45 _ sM_0 (by decide))).trans f_y_2983), (dg_uF_at e_2989), (by omega)⟩, (fun k9 hk9 hk0 => POM.mk0 (P0M.keep (P0M.keep P0_2981 m_2984 (by decide) (by decide) (by decide) (by decide) (by decide) (by decide) (by decide) (by decide) (by decide) (by decide) (by decide) (by decide) (by decide) (by decide) (by decide)) (dg_sm.uF (WF := [(0, 46)]) (WA := []) dg_sm.rf e_2989 sM_0 (by decide)) (by decide) (by decide) (by decide) (by decide) (by decide) (by decide) (by decide) (by decide) (by decide) (by decide) (by decide) (by decide) (by decide) (by decide) (by decide)) (dg_uF_at e_2989) (by omega)), (ZWM.keep (ZWM.keep (ZWM.keep w_2946_2 m_2981 (by decide) (by decide) (by decide) (by decide)) m_2984 (by decide) (by decide) (by decide) (by decide)) (dg_sm.uF (WF := [(0, 46)]) (WA := []) dg_sm.rf e_2989 sM_0 (by decide)) (by decide) (by decide) (by decide) (by decide)), trivial⟩ dX12_goesOn_187
                · have jc_2962 := dk_neqc (k := 0) (by decide +kernel) c_2962
                  have jbc_2962 : 1 ≤ (x_2959).toInt := by omega
                  clear jc_2962
                  have w_2960_1_r := w_2960_1.mp (by omega)
                  obtain ⟨w_2960_1_r1, w_2960_1_r2⟩ := w_2960_1_r
                  clear w_2960_1
                  refine lv_bipush (v := 33) hx hb dX12_goesOn_153 (by decide +kernel) ?_
                  refine lv_goto (tgt := 174) hx hb dX12_goesOn_155 (by decide) ?_
                  refine dg_callv hS hA1 hA (va_runV (As := [.int 33]) (rest := []) F (c_m_holdsBack l g D o S_2946 33 y_2949 f_y_2949 (by omega) I_2946 H.size) (cwV 1 hts (bw_V wB_1224 wB_1225 wB_1226 wB_881 wB_1223) rfl rfl rfl (by decide +kernel) ⟨Nat.le_of_ble_eq_true rfl, Nat.le_of_ble_eq_true rfl⟩) (dg_preV sM_0 rfl K ST hP hS hA1 hA) rfl rfl hl.1 rfl (lv_room (Nat.le_of_ble_eq_true rfl)) dX12_goesOn_174 ⟨Nat.le_of_ble_eq_true rfl, Nat.le_of_ble_eq_true rfl⟩) (fun S_2995 hw_2995 H locs hP hS => ?_)
                  obtain ⟨I_2995, m_2995, w_2995_0, w_2995_1, -⟩ := hw_2995
                  have M_2995 := dg_sm.tr M_2946 m_2995 (by decide) (by decide)
                  have hz_2996 : (33 : Int32).toInt = 33 := by decide +kernel
                  obtain ⟨y_2997, f_y_2997, w_2995_0⟩ := w_2995_0
                  have w_2995_0 : (y_2997).toInt = (y_2949).toInt + 1 := w_2995_0
                  have b_y_2997 : 0 ≤ (y_2997).toInt ∧ (y_2997).toInt ≤ 500 := dg_I.intb (lo := 0) (hi := 500) I_2995 sM_0 (by decide +kernel) f_y_2997
                  have w_2995_1 : HBM S_2946 S_2995 (33 : Int32) := w_2995_1
                  have P0_2995 : P0M S_2995 := P1M.bin w_2946_3 (((m_2946.1 0 42 _ sM_0 (by decide)).trans (m_2.1 0 42 _ sM_0 (by decide))).trans f_dp) f_x_2950 f_y_2949 w_2946_1 m_2995 w_2995_1 (by omega)
                  refine lv_aload_n hx hb dX12_goesOn_177 rfl (lv_at hl 3 rfl) ?_
                  refine dg_callv hS hA1 hA (va_runV (As := []) (rest := []) F (c_m_ahead l g D o S_2995 se (((m_2995.1 0 5 _ sM_0 (by decide)).trans ((m_2946.1 0 5 _ sM_0 (by decide)).trans (m_2.1 0 5 _ sM_0 (by decide)))).trans f_se) (by omega) sl (((m_2995.1 0 2 _ sM_0 (by decide)).trans ((m_2946.1 0 2 _ sM_0 (by decide)).trans (m_2.1 0 2 _ sM_0 (by decide)))).trans f_sl) (by omega) (by omega) I_2995 H.size) (cwV 0 hts (bw_V wB_1161 wB_1162 wB_1163 wB_881 wB_1160) rfl rfl rfl (by decide +kernel) ⟨Nat.le_of_ble_eq_true rfl, Nat.le_of_ble_eq_true rfl⟩) (dg_preV sM_0 rfl K ST hP hS hA1 hA) rfl rfl hl.1 rfl (lv_room (Nat.le_of_ble_eq_true rfl)) dX12_goesOn_178 ⟨Nat.le_of_ble_eq_true rfl, Nat.le_of_ble_eq_true rfl⟩) (fun S_2998 hw_2998 H locs hP hS => ?_)
                  obtain ⟨I_2998, m_2998, w_2998_0, -⟩ := hw_2998
                  have M_2998 := dg_sm.tr M_2995 m_2998 (by decide) (by decide)
                  obtain ⟨y_2999, y_3000, y_3001, f_y_2999, f_y_3000, f_y_3001, w_2998_0⟩ := w_2998_0
                  have w_2998_0 : (se).toInt ≤ (y_3000).toInt ∧ (y_3000).toInt ≤ (y_3001).toInt ∧ (y_3001).toInt ≤ (sl).toInt ∧ ((y_2999).toInt ≠ 0 → (y_3000).toInt + 1 ≤ (y_3001).toInt) := w_2998_0
                  obtain ⟨w_2998_0_0, w_2998_0_1, w_2998_0_2, w_2998_0_3⟩ := w_2998_0
                  have b_y_2999 : 0 ≤ (y_2999).toInt ∧ (y_2999).toInt ≤ 3 := dg_I.intb (lo := 0) (hi := 3) I_2998 sM_0 (by decide +kernel) f_y_2999
                  have b_y_3000 : 0 ≤ (y_3000).toInt ∧ (y_3000).toInt ≤ 1600 := dg_I.intb (lo := 0) (hi := 1600) I_2998 sM_0 (by decide +kernel) f_y_3000
                  have b_y_3001 : 0 ≤ (y_3001).toInt ∧ (y_3001).toInt ≤ 1600 := dg_I.intb (lo := 0) (hi := 1600) I_2998 sM_0 (by decide +kernel) f_y_3001
                  refine lv_aload_n hx hb dX12_goesOn_181 rfl (lv_at hl 3 rfl) ?_
                  refine lv_iconst (v := 0) hx hb dX12_goesOn_182 (by decide +kernel) ?_
                  have hz_3002 : (0 : Int32).toInt = 0 := by decide +kernel
                  refine dg_put (ci := 12) (v := .int 0) (ty := tyX12 46) (C := RX12) (T := TX12) (N := 77) hx hb hts (fun w h => bw_mem (wU_X12 w h)) tyX12 tyX12_ok nmX12 hown K hP hS hA1 sM_0 rfl 46 (by decide) (hts _ (bw_mem wB_1237)) (fun _ h9 => h9) rfl (by decide +kernel) (by decide +kernel) (by decide +kernel) dX12_goesOn_183 (fun S_3003 e_3003 H locs hP hS => ?_)
                  have I_3003 := dg_I.uFi (lo := 0) (hi := 1) I_2998 e_3003 sM_0 (by decide +kernel) (show 0 ≤ ((0 : Int32)).toInt ∧ ((0 : Int32)).toInt ≤ 1 from (by decide +kernel))
                  have M_3003 := dg_sm.uF M_2998 e_3003 sM_0 (by decide)
                  refine lv_iconst (v := 1) hx hb dX12_goesOn_186 (by decide +kernel) ?_
                  have hz_3004 : (1 : Int32).toInt = 1 := by decide +kernel
                  have hz_3005 : (1 : Int32).toInt = 1 := by decide +kernel
                  have hz_3006 : (0 : Int32).toInt = 0 := by decide +kernel
                  have hz_3007 : (1 : Int32).toInt = 1 := by decide +kernel
                  have hz_3008 : (0 : Int32).toInt = 0 := by decide +kernel
                  refine W.widen (k := 0) (n := 0) (Nat.le_of_ble_eq_true rfl) (Nat.le_of_ble_eq_true rfl) ?_
                  rw [hQ9]
                  exact dg_iret hx hb hr hlocks (by decide +kernel) hP hS ⟨I_3003, M_3003, (by decide +kernel), ⟨y_2999, y_3000, y_3001, y_3, y_2948, dp, y_2997, 0, ((dg_uF_ne e_3003 (fun z => absurd z.2 (by decide))).trans f_y_2999), ((dg_uF_ne e_3003 (fun z => absurd z.2 (by decide))).trans f_y_3000), ((dg_uF_ne e_3003 (fun z => absurd z.2 (by decide))).trans f_y_3001), (((dg_uF_ne e_3003 (fun z => absurd z.2 (by decide))).trans ((m_2998.1 0 8 _ sM_0 (by decide)).trans ((m_2995.1 0 8 _ sM_0 (by decide)).trans (m_2946.1 0 8 _ sM_0 (by decide))))).trans f_y_3), (((dg_uF_ne e_3003 (fun z => absurd z.2 (by decide))).trans ((m_2998.1 0 34 _ sM_0 (by decide)).trans (m_2995.1 0 34 _ sM_0 (by decide)))).trans f_y_2948), (((dg_uF_ne e_3003 (fun z => absurd z.2 (by decide))).trans ((m_2998.1 0 42 _ sM_0 (by decide)).trans ((m_2995.1 0 42 _ sM_0 (by decide)).trans ((m_2946.1 0 42 _ sM_0 (by decide)).trans (m_2.1 0 42 _ sM_0 (by decide)))))).trans f_dp), (((dg_uF_ne e_3003 (fun z => absurd z.2 (by decide))).trans (m_2998.1 0 45 _ sM_0 (by decide))).trans f_y_2997), (dg_uF_at e_3003), (by omega)⟩, (fun k9 hk9 hk0 => POM.mk0 (P0M.keep (P0M.keep P0_2995 m_2998 (by decide) (by decide) (by decide) (by decide) (by decide) (by decide) (by decide) (by decide) (by decide) (by decide) (by decide) (by decide) (by decide) (by decide) (by decide)) (dg_sm.uF (WF := [(0, 46)]) (WA := []) dg_sm.rf e_3003 sM_0 (by decide)) (by decide) (by decide) (by decide) (by decide) (by decide) (by decide) (by decide) (by decide) (by decide) (by decide) (by decide) (by decide) (by decide) (by decide) (by decide)) (dg_uF_at e_3003) (by omega)), (ZWM.keep (ZWM.keep (ZWM.keep w_2946_2 m_2995 (by decide) (by decide) (by decide) (by decide)) m_2998 (by decide) (by decide) (by decide) (by decide)) (dg_sm.uF (WF := [(0, 46)]) (WA := []) dg_sm.rf e_3003 sM_0 (by decide)) (by decide) (by decide) (by decide) (by decide)), trivial⟩ dX12_goesOn_187
              · have jc_2958 := dk_neqc (k := 0) (by decide +kernel) c_2958
                have jbc_2958 : 1 ≤ (x_2955).toInt := by omega
                clear jc_2958
                have w_2956_1_r := w_2956_1.mp (by omega)
                obtain ⟨w_2956_1_r1, w_2956_1_r2⟩ := w_2956_1_r
                clear w_2956_1
                refine lv_bipush (v := 32) hx hb dX12_goesOn_139 (by decide +kernel) ?_
                refine lv_goto (tgt := 174) hx hb dX12_goesOn_141 (by decide) ?_
                refine dg_callv hS hA1 hA (va_runV (As := [.int 32]) (rest := []) F (c_m_holdsBack l g D o S_2946 32 y_2949 f_y_2949 (by omega) I_2946 H.size) (cwV 1 hts (bw_V wB_1224 wB_1225 wB_1226 wB_881 wB_1223) rfl rfl rfl (by decide +kernel) ⟨Nat.le_of_ble_eq_true rfl, Nat.le_of_ble_eq_true rfl⟩) (dg_preV sM_0 rfl K ST hP hS hA1 hA) rfl rfl hl.1 rfl (lv_room (Nat.le_of_ble_eq_true rfl)) dX12_goesOn_174 ⟨Nat.le_of_ble_eq_true rfl, Nat.le_of_ble_eq_true rfl⟩) (fun S_3009 hw_3009 H locs hP hS => ?_)
                obtain ⟨I_3009, m_3009, w_3009_0, w_3009_1, -⟩ := hw_3009
                have M_3009 := dg_sm.tr M_2946 m_3009 (by decide) (by decide)
                have hz_3010 : (32 : Int32).toInt = 32 := by decide +kernel
                obtain ⟨y_3011, f_y_3011, w_3009_0⟩ := w_3009_0
                have w_3009_0 : (y_3011).toInt = (y_2949).toInt + 1 := w_3009_0
                have b_y_3011 : 0 ≤ (y_3011).toInt ∧ (y_3011).toInt ≤ 500 := dg_I.intb (lo := 0) (hi := 500) I_3009 sM_0 (by decide +kernel) f_y_3011
                have w_3009_1 : HBM S_2946 S_3009 (32 : Int32) := w_3009_1
                have P0_3009 : P0M S_3009 := P1M.bin w_2946_3 (((m_2946.1 0 42 _ sM_0 (by decide)).trans (m_2.1 0 42 _ sM_0 (by decide))).trans f_dp) f_x_2950 f_y_2949 w_2946_1 m_3009 w_3009_1 (by omega)
                refine lv_aload_n hx hb dX12_goesOn_177 rfl (lv_at hl 3 rfl) ?_
                refine dg_callv hS hA1 hA (va_runV (As := []) (rest := []) F (c_m_ahead l g D o S_3009 se (((m_3009.1 0 5 _ sM_0 (by decide)).trans ((m_2946.1 0 5 _ sM_0 (by decide)).trans (m_2.1 0 5 _ sM_0 (by decide)))).trans f_se) (by omega) sl (((m_3009.1 0 2 _ sM_0 (by decide)).trans ((m_2946.1 0 2 _ sM_0 (by decide)).trans (m_2.1 0 2 _ sM_0 (by decide)))).trans f_sl) (by omega) (by omega) I_3009 H.size) (cwV 0 hts (bw_V wB_1161 wB_1162 wB_1163 wB_881 wB_1160) rfl rfl rfl (by decide +kernel) ⟨Nat.le_of_ble_eq_true rfl, Nat.le_of_ble_eq_true rfl⟩) (dg_preV sM_0 rfl K ST hP hS hA1 hA) rfl rfl hl.1 rfl (lv_room (Nat.le_of_ble_eq_true rfl)) dX12_goesOn_178 ⟨Nat.le_of_ble_eq_true rfl, Nat.le_of_ble_eq_true rfl⟩) (fun S_3012 hw_3012 H locs hP hS => ?_)
                obtain ⟨I_3012, m_3012, w_3012_0, -⟩ := hw_3012
                have M_3012 := dg_sm.tr M_3009 m_3012 (by decide) (by decide)
                obtain ⟨y_3013, y_3014, y_3015, f_y_3013, f_y_3014, f_y_3015, w_3012_0⟩ := w_3012_0
                have w_3012_0 : (se).toInt ≤ (y_3014).toInt ∧ (y_3014).toInt ≤ (y_3015).toInt ∧ (y_3015).toInt ≤ (sl).toInt ∧ ((y_3013).toInt ≠ 0 → (y_3014).toInt + 1 ≤ (y_3015).toInt) := w_3012_0
                obtain ⟨w_3012_0_0, w_3012_0_1, w_3012_0_2, w_3012_0_3⟩ := w_3012_0
                have b_y_3013 : 0 ≤ (y_3013).toInt ∧ (y_3013).toInt ≤ 3 := dg_I.intb (lo := 0) (hi := 3) I_3012 sM_0 (by decide +kernel) f_y_3013
                have b_y_3014 : 0 ≤ (y_3014).toInt ∧ (y_3014).toInt ≤ 1600 := dg_I.intb (lo := 0) (hi := 1600) I_3012 sM_0 (by decide +kernel) f_y_3014
                have b_y_3015 : 0 ≤ (y_3015).toInt ∧ (y_3015).toInt ≤ 1600 := dg_I.intb (lo := 0) (hi := 1600) I_3012 sM_0 (by decide +kernel) f_y_3015
                refine lv_aload_n hx hb dX12_goesOn_181 rfl (lv_at hl 3 rfl) ?_
                refine lv_iconst (v := 0) hx hb dX12_goesOn_182 (by decide +kernel) ?_
                have hz_3016 : (0 : Int32).toInt = 0 := by decide +kernel
                refine dg_put (ci := 12) (v := .int 0) (ty := tyX12 46) (C := RX12) (T := TX12) (N := 77) hx hb hts (fun w h => bw_mem (wU_X12 w h)) tyX12 tyX12_ok nmX12 hown K hP hS hA1 sM_0 rfl 46 (by decide) (hts _ (bw_mem wB_1237)) (fun _ h9 => h9) rfl (by decide +kernel) (by decide +kernel) (by decide +kernel) dX12_goesOn_183 (fun S_3017 e_3017 H locs hP hS => ?_)
                have I_3017 := dg_I.uFi (lo := 0) (hi := 1) I_3012 e_3017 sM_0 (by decide +kernel) (show 0 ≤ ((0 : Int32)).toInt ∧ ((0 : Int32)).toInt ≤ 1 from (by decide +kernel))
                have M_3017 := dg_sm.uF M_3012 e_3017 sM_0 (by decide)
                refine lv_iconst (v := 1) hx hb dX12_goesOn_186 (by decide +kernel) ?_
                have hz_3018 : (1 : Int32).toInt = 1 := by decide +kernel
                have hz_3019 : (1 : Int32).toInt = 1 := by decide +kernel
                have hz_3020 : (0 : Int32).toInt = 0 := by decide +kernel
                have hz_3021 : (1 : Int32).toInt = 1 := by decide +kernel
                have hz_3022 : (0 : Int32).toInt = 0 := by decide +kernel
                refine W.widen (k := 0) (n := 0) (Nat.le_of_ble_eq_true rfl) (Nat.le_of_ble_eq_true rfl) ?_
                rw [hQ9]
                exact dg_iret hx hb hr hlocks (by decide +kernel) hP hS ⟨I_3017, M_3017, (by decide +kernel), ⟨y_3013, y_3014, y_3015, y_3, y_2948, dp, y_3011, 0, ((dg_uF_ne e_3017 (fun z => absurd z.2 (by decide))).trans f_y_3013), ((dg_uF_ne e_3017 (fun z => absurd z.2 (by decide))).trans f_y_3014), ((dg_uF_ne e_3017 (fun z => absurd z.2 (by decide))).trans f_y_3015), (((dg_uF_ne e_3017 (fun z => absurd z.2 (by decide))).trans ((m_3012.1 0 8 _ sM_0 (by decide)).trans ((m_3009.1 0 8 _ sM_0 (by decide)).trans (m_2946.1 0 8 _ sM_0 (by decide))))).trans f_y_3), (((dg_uF_ne e_3017 (fun z => absurd z.2 (by decide))).trans ((m_3012.1 0 34 _ sM_0 (by decide)).trans (m_3009.1 0 34 _ sM_0 (by decide)))).trans f_y_2948), (((dg_uF_ne e_3017 (fun z => absurd z.2 (by decide))).trans ((m_3012.1 0 42 _ sM_0 (by decide)).trans ((m_3009.1 0 42 _ sM_0 (by decide)).trans ((m_2946.1 0 42 _ sM_0 (by decide)).trans (m_2.1 0 42 _ sM_0 (by decide)))))).trans f_dp), (((dg_uF_ne e_3017 (fun z => absurd z.2 (by decide))).trans (m_3012.1 0 45 _ sM_0 (by decide))).trans f_y_3011), (dg_uF_at e_3017), (by omega)⟩, (fun k9 hk9 hk0 => POM.mk0 (P0M.keep (P0M.keep P0_3009 m_3012 (by decide) (by decide) (by decide) (by decide) (by decide) (by decide) (by decide) (by decide) (by decide) (by decide) (by decide) (by decide) (by decide) (by decide) (by decide)) (dg_sm.uF (WF := [(0, 46)]) (WA := []) dg_sm.rf e_3017 sM_0 (by decide)) (by decide) (by decide) (by decide) (by decide) (by decide) (by decide) (by decide) (by decide) (by decide) (by decide) (by decide) (by decide) (by decide) (by decide) (by decide)) (dg_uF_at e_3017) (by omega)), (ZWM.keep (ZWM.keep (ZWM.keep w_2946_2 m_3009 (by decide) (by decide) (by decide) (by decide)) m_3012 (by decide) (by decide) (by decide) (by decide)) (dg_sm.uF (WF := [(0, 46)]) (WA := []) dg_sm.rf e_3017 sM_0 (by decide)) (by decide) (by decide) (by decide) (by decide)), trivial⟩ dX12_goesOn_187
            · have jc_2954 := dk_neqc (k := 0) (by decide +kernel) c_2954
              have jbc_2954 : 1 ≤ (x_2951).toInt := by omega
              clear jc_2954
              have w_2952_1_r := w_2952_1.mp (by omega)
              obtain ⟨w_2952_1_r1, w_2952_1_r2⟩ := w_2952_1_r
              clear w_2952_1
              refine lv_bipush (v := 31) hx hb dX12_goesOn_125 (by decide +kernel) ?_
              refine lv_goto (tgt := 174) hx hb dX12_goesOn_127 (by decide) ?_
              refine dg_callv hS hA1 hA (va_runV (As := [.int 31]) (rest := []) F (c_m_holdsBack l g D o S_2946 31 y_2949 f_y_2949 (by omega) I_2946 H.size) (cwV 1 hts (bw_V wB_1224 wB_1225 wB_1226 wB_881 wB_1223) rfl rfl rfl (by decide +kernel) ⟨Nat.le_of_ble_eq_true rfl, Nat.le_of_ble_eq_true rfl⟩) (dg_preV sM_0 rfl K ST hP hS hA1 hA) rfl rfl hl.1 rfl (lv_room (Nat.le_of_ble_eq_true rfl)) dX12_goesOn_174 ⟨Nat.le_of_ble_eq_true rfl, Nat.le_of_ble_eq_true rfl⟩) (fun S_3023 hw_3023 H locs hP hS => ?_)
              obtain ⟨I_3023, m_3023, w_3023_0, w_3023_1, -⟩ := hw_3023
              have M_3023 := dg_sm.tr M_2946 m_3023 (by decide) (by decide)
              have hz_3024 : (31 : Int32).toInt = 31 := by decide +kernel
              obtain ⟨y_3025, f_y_3025, w_3023_0⟩ := w_3023_0
              have w_3023_0 : (y_3025).toInt = (y_2949).toInt + 1 := w_3023_0
              have b_y_3025 : 0 ≤ (y_3025).toInt ∧ (y_3025).toInt ≤ 500 := dg_I.intb (lo := 0) (hi := 500) I_3023 sM_0 (by decide +kernel) f_y_3025
              have w_3023_1 : HBM S_2946 S_3023 (31 : Int32) := w_3023_1
              have P0_3023 : P0M S_3023 := P1M.bin w_2946_3 (((m_2946.1 0 42 _ sM_0 (by decide)).trans (m_2.1 0 42 _ sM_0 (by decide))).trans f_dp) f_x_2950 f_y_2949 w_2946_1 m_3023 w_3023_1 (by omega)
              refine lv_aload_n hx hb dX12_goesOn_177 rfl (lv_at hl 3 rfl) ?_
              refine dg_callv hS hA1 hA (va_runV (As := []) (rest := []) F (c_m_ahead l g D o S_3023 se (((m_3023.1 0 5 _ sM_0 (by decide)).trans ((m_2946.1 0 5 _ sM_0 (by decide)).trans (m_2.1 0 5 _ sM_0 (by decide)))).trans f_se) (by omega) sl (((m_3023.1 0 2 _ sM_0 (by decide)).trans ((m_2946.1 0 2 _ sM_0 (by decide)).trans (m_2.1 0 2 _ sM_0 (by decide)))).trans f_sl) (by omega) (by omega) I_3023 H.size) (cwV 0 hts (bw_V wB_1161 wB_1162 wB_1163 wB_881 wB_1160) rfl rfl rfl (by decide +kernel) ⟨Nat.le_of_ble_eq_true rfl, Nat.le_of_ble_eq_true rfl⟩) (dg_preV sM_0 rfl K ST hP hS hA1 hA) rfl rfl hl.1 rfl (lv_room (Nat.le_of_ble_eq_true rfl)) dX12_goesOn_178 ⟨Nat.le_of_ble_eq_true rfl, Nat.le_of_ble_eq_true rfl⟩) (fun S_3026 hw_3026 H locs hP hS => ?_)
              obtain ⟨I_3026, m_3026, w_3026_0, -⟩ := hw_3026
              have M_3026 := dg_sm.tr M_3023 m_3026 (by decide) (by decide)
              obtain ⟨y_3027, y_3028, y_3029, f_y_3027, f_y_3028, f_y_3029, w_3026_0⟩ := w_3026_0
              have w_3026_0 : (se).toInt ≤ (y_3028).toInt ∧ (y_3028).toInt ≤ (y_3029).toInt ∧ (y_3029).toInt ≤ (sl).toInt ∧ ((y_3027).toInt ≠ 0 → (y_3028).toInt + 1 ≤ (y_3029).toInt) := w_3026_0
              obtain ⟨w_3026_0_0, w_3026_0_1, w_3026_0_2, w_3026_0_3⟩ := w_3026_0
              have b_y_3027 : 0 ≤ (y_3027).toInt ∧ (y_3027).toInt ≤ 3 := dg_I.intb (lo := 0) (hi := 3) I_3026 sM_0 (by decide +kernel) f_y_3027
              have b_y_3028 : 0 ≤ (y_3028).toInt ∧ (y_3028).toInt ≤ 1600 := dg_I.intb (lo := 0) (hi := 1600) I_3026 sM_0 (by decide +kernel) f_y_3028
              have b_y_3029 : 0 ≤ (y_3029).toInt ∧ (y_3029).toInt ≤ 1600 := dg_I.intb (lo := 0) (hi := 1600) I_3026 sM_0 (by decide +kernel) f_y_3029
              refine lv_aload_n hx hb dX12_goesOn_181 rfl (lv_at hl 3 rfl) ?_
              refine lv_iconst (v := 0) hx hb dX12_goesOn_182 (by decide +kernel) ?_
              have hz_3030 : (0 : Int32).toInt = 0 := by decide +kernel
              refine dg_put (ci := 12) (v := .int 0) (ty := tyX12 46) (C := RX12) (T := TX12) (N := 77) hx hb hts (fun w h => bw_mem (wU_X12 w h)) tyX12 tyX12_ok nmX12 hown K hP hS hA1 sM_0 rfl 46 (by decide) (hts _ (bw_mem wB_1237)) (fun _ h9 => h9) rfl (by decide +kernel) (by decide +kernel) (by decide +kernel) dX12_goesOn_183 (fun S_3031 e_3031 H locs hP hS => ?_)
              have I_3031 := dg_I.uFi (lo := 0) (hi := 1) I_3026 e_3031 sM_0 (by decide +kernel) (show 0 ≤ ((0 : Int32)).toInt ∧ ((0 : Int32)).toInt ≤ 1 from (by decide +kernel))
              have M_3031 := dg_sm.uF M_3026 e_3031 sM_0 (by decide)
              refine lv_iconst (v := 1) hx hb dX12_goesOn_186 (by decide +kernel) ?_
              have hz_3032 : (1 : Int32).toInt = 1 := by decide +kernel
              have hz_3033 : (1 : Int32).toInt = 1 := by decide +kernel
              have hz_3034 : (0 : Int32).toInt = 0 := by decide +kernel
              have hz_3035 : (1 : Int32).toInt = 1 := by decide +kernel
              have hz_3036 : (0 : Int32).toInt = 0 := by decide +kernel
              refine W.widen (k := 0) (n := 0) (Nat.le_of_ble_eq_true rfl) (Nat.le_of_ble_eq_true rfl) ?_
              rw [hQ9]
              exact dg_iret hx hb hr hlocks (by decide +kernel) hP hS ⟨I_3031, M_3031, (by decide +kernel), ⟨y_3027, y_3028, y_3029, y_3, y_2948, dp, y_3025, 0, ((dg_uF_ne e_3031 (fun z => absurd z.2 (by decide))).trans f_y_3027), ((dg_uF_ne e_3031 (fun z => absurd z.2 (by decide))).trans f_y_3028), ((dg_uF_ne e_3031 (fun z => absurd z.2 (by decide))).trans f_y_3029), (((dg_uF_ne e_3031 (fun z => absurd z.2 (by decide))).trans ((m_3026.1 0 8 _ sM_0 (by decide)).trans ((m_3023.1 0 8 _ sM_0 (by decide)).trans (m_2946.1 0 8 _ sM_0 (by decide))))).trans f_y_3), (((dg_uF_ne e_3031 (fun z => absurd z.2 (by decide))).trans ((m_3026.1 0 34 _ sM_0 (by decide)).trans (m_3023.1 0 34 _ sM_0 (by decide)))).trans f_y_2948), (((dg_uF_ne e_3031 (fun z => absurd z.2 (by decide))).trans ((m_3026.1 0 42 _ sM_0 (by decide)).trans ((m_3023.1 0 42 _ sM_0 (by decide)).trans ((m_2946.1 0 42 _ sM_0 (by decide)).trans (m_2.1 0 42 _ sM_0 (by decide)))))).trans f_dp), (((dg_uF_ne e_3031 (fun z => absurd z.2 (by decide))).trans (m_3026.1 0 45 _ sM_0 (by decide))).trans f_y_3025), (dg_uF_at e_3031), (by omega)⟩, (fun k9 hk9 hk0 => POM.mk0 (P0M.keep (P0M.keep P0_3023 m_3026 (by decide) (by decide) (by decide) (by decide) (by decide) (by decide) (by decide) (by decide) (by decide) (by decide) (by decide) (by decide) (by decide) (by decide) (by decide)) (dg_sm.uF (WF := [(0, 46)]) (WA := []) dg_sm.rf e_3031 sM_0 (by decide)) (by decide) (by decide) (by decide) (by decide) (by decide) (by decide) (by decide) (by decide) (by decide) (by decide) (by decide) (by decide) (by decide) (by decide) (by decide)) (dg_uF_at e_3031) (by omega)), (ZWM.keep (ZWM.keep (ZWM.keep w_2946_2 m_3023 (by decide) (by decide) (by decide) (by decide)) m_3026 (by decide) (by decide) (by decide) (by decide)) (dg_sm.uF (WF := [(0, 46)]) (WA := []) dg_sm.rf e_3031 sM_0 (by decide)) (by decide) (by decide) (by decide) (by decide)), trivial⟩ dX12_goesOn_187
      refine lv_if_ne (tgt := 87) hx hb dX12_goesOn_48 (by decide) (fun c_3037 => ?_) (fun c_3037 => ?_)
      · have jc_3037 := dk_neqc (k := 0) (by decide +kernel) c_3037
        have jbc_3037 : 1 ≤ (x_2448).toInt := by omega
        clear jc_3037
        have w_2449_1_r := w_2449_1.mp (by omega)
        obtain ⟨w_2449_1_r1, w_2449_1_r2⟩ := w_2449_1_r
        clear w_2449_1
        have hlx_2r := hlx_2 (by omega)
        clear hlx_2
        exact J_2752 ()  (by omega) _ _ hP hS _ (lv_sub hl [0, 1, 2, 3] rfl)
      · have jc_3037 := dk_eqc (k := 0) (by decide +kernel) c_3037
        clear w_2449_1
        refine lv_aload_n hx hb dX12_goesOn_51 rfl (lv_at hl 3 rfl) ?_
        refine lv_bipush (v := 45) hx hb dX12_goesOn_52 (by decide +kernel) ?_
        refine dg_calli hS hA1 hA (va_runV (As := [.int 45]) (rest := []) F (c_m_isSign l g D o S_2 45 sg ((m_2.1 0 3 _ sM_0 (by decide)).trans f_sg) (by omega) va ((m_2.1 0 6 _ sM_0 (by decide)).trans f_va) (by omega) I_2 H.size) (cwV 1 hts (bw_V wB_1157 wB_1158 wB_1159 wB_881 wB_1156) rfl rfl rfl (by decide +kernel) ⟨Nat.le_of_ble_eq_true rfl, Nat.le_of_ble_eq_true rfl⟩) (dg_preV sM_0 rfl K ST hP hS hA1 hA) rfl rfl hl.1 rfl (lv_room (Nat.le_of_ble_eq_true rfl)) dX12_goesOn_54 ⟨Nat.le_of_ble_eq_true rfl, Nat.le_of_ble_eq_true rfl⟩) (fun x_3038 S_3039 hw_3039 H locs hP hS => ?_)
        rw [hw_3039.1] at hP
        obtain ⟨hq_3039, w_3039_0, w_3039_1, -⟩ := hw_3039
        have hz_3040 : (45 : Int32).toInt = 45 := by decide +kernel
        have w_3039_0 : 0 ≤ (x_3038).toInt ∧ (x_3038).toInt ≤ 1 := w_3039_0
        have w_3039_1 : (x_3038).toInt = 1 ↔ ((sg).toInt = 3 ∧ (va).toInt = ((45 : Int32)).toInt) := w_3039_1
        refine lv_if_ne (tgt := 87) hx hb dX12_goesOn_57 (by decide) (fun c_3041 => ?_) (fun c_3041 => ?_)
        · have jc_3041 := dk_neqc (k := 0) (by decide +kernel) c_3041
          have jbc_3041 : 1 ≤ (x_3038).toInt := by omega
          clear jc_3041
          have w_3039_1_r := w_3039_1.mp (by omega)
          obtain ⟨w_3039_1_r1, w_3039_1_r2⟩ := w_3039_1_r
          clear w_3039_1
          have hlx_2r := hlx_2 (by omega)
          clear hlx_2
          exact J_2752 ()  (by omega) _ _ hP hS _ (lv_sub hl [0, 1, 2, 3] rfl)
        · have jc_3041 := dk_eqc (k := 0) (by decide +kernel) c_3041
          clear w_3039_1
          refine lv_aload_n hx hb dX12_goesOn_60 rfl (lv_at hl 3 rfl) ?_
          refine lv_bipush (v := 42) hx hb dX12_goesOn_61 (by decide +kernel) ?_
          refine dg_calli hS hA1 hA (va_runV (As := [.int 42]) (rest := []) F (c_m_isSign l g D o S_2 42 sg ((m_2.1 0 3 _ sM_0 (by decide)).trans f_sg) (by omega) va ((m_2.1 0 6 _ sM_0 (by decide)).trans f_va) (by omega) I_2 H.size) (cwV 1 hts (bw_V wB_1157 wB_1158 wB_1159 wB_881 wB_1156) rfl rfl rfl (by decide +kernel) ⟨Nat.le_of_ble_eq_true rfl, Nat.le_of_ble_eq_true rfl⟩) (dg_preV sM_0 rfl K ST hP hS hA1 hA) rfl rfl hl.1 rfl (lv_room (Nat.le_of_ble_eq_true rfl)) dX12_goesOn_63 ⟨Nat.le_of_ble_eq_true rfl, Nat.le_of_ble_eq_true rfl⟩) (fun x_3042 S_3043 hw_3043 H locs hP hS => ?_)
          rw [hw_3043.1] at hP
          obtain ⟨hq_3043, w_3043_0, w_3043_1, -⟩ := hw_3043
          have hz_3044 : (42 : Int32).toInt = 42 := by decide +kernel
          have w_3043_0 : 0 ≤ (x_3042).toInt ∧ (x_3042).toInt ≤ 1 := w_3043_0
          have w_3043_1 : (x_3042).toInt = 1 ↔ ((sg).toInt = 3 ∧ (va).toInt = ((42 : Int32)).toInt) := w_3043_1
          refine lv_if_ne (tgt := 87) hx hb dX12_goesOn_66 (by decide) (fun c_3045 => ?_) (fun c_3045 => ?_)
          · have jc_3045 := dk_neqc (k := 0) (by decide +kernel) c_3045
            have jbc_3045 : 1 ≤ (x_3042).toInt := by omega
            clear jc_3045
            have w_3043_1_r := w_3043_1.mp (by omega)
            obtain ⟨w_3043_1_r1, w_3043_1_r2⟩ := w_3043_1_r
            clear w_3043_1
            have hlx_2r := hlx_2 (by omega)
            clear hlx_2
            exact J_2752 ()  (by omega) _ _ hP hS _ (lv_sub hl [0, 1, 2, 3] rfl)
          · have jc_3045 := dk_eqc (k := 0) (by decide +kernel) c_3045
            clear w_3043_1
            refine lv_aload_n hx hb dX12_goesOn_69 rfl (lv_at hl 3 rfl) ?_
            refine lv_bipush (v := 47) hx hb dX12_goesOn_70 (by decide +kernel) ?_
            refine dg_calli hS hA1 hA (va_runV (As := [.int 47]) (rest := []) F (c_m_isSign l g D o S_2 47 sg ((m_2.1 0 3 _ sM_0 (by decide)).trans f_sg) (by omega) va ((m_2.1 0 6 _ sM_0 (by decide)).trans f_va) (by omega) I_2 H.size) (cwV 1 hts (bw_V wB_1157 wB_1158 wB_1159 wB_881 wB_1156) rfl rfl rfl (by decide +kernel) ⟨Nat.le_of_ble_eq_true rfl, Nat.le_of_ble_eq_true rfl⟩) (dg_preV sM_0 rfl K ST hP hS hA1 hA) rfl rfl hl.1 rfl (lv_room (Nat.le_of_ble_eq_true rfl)) dX12_goesOn_72 ⟨Nat.le_of_ble_eq_true rfl, Nat.le_of_ble_eq_true rfl⟩) (fun x_3046 S_3047 hw_3047 H locs hP hS => ?_)
            rw [hw_3047.1] at hP
            obtain ⟨hq_3047, w_3047_0, w_3047_1, -⟩ := hw_3047
            have hz_3048 : (47 : Int32).toInt = 47 := by decide +kernel
            have w_3047_0 : 0 ≤ (x_3046).toInt ∧ (x_3046).toInt ≤ 1 := w_3047_0
            have w_3047_1 : (x_3046).toInt = 1 ↔ ((sg).toInt = 3 ∧ (va).toInt = ((47 : Int32)).toInt) := w_3047_1
            refine lv_if_ne (tgt := 87) hx hb dX12_goesOn_75 (by decide) (fun c_3049 => ?_) (fun c_3049 => ?_)
            · have jc_3049 := dk_neqc (k := 0) (by decide +kernel) c_3049
              have jbc_3049 : 1 ≤ (x_3046).toInt := by omega
              clear jc_3049
              have w_3047_1_r := w_3047_1.mp (by omega)
              obtain ⟨w_3047_1_r1, w_3047_1_r2⟩ := w_3047_1_r
              clear w_3047_1
              have hlx_2r := hlx_2 (by omega)
              clear hlx_2
              exact J_2752 ()  (by omega) _ _ hP hS _ (lv_sub hl [0, 1, 2, 3] rfl)
            · have jc_3049 := dk_eqc (k := 0) (by decide +kernel) c_3049
              clear w_3047_1
              refine lv_aload_n hx hb dX12_goesOn_78 rfl (lv_at hl 3 rfl) ?_
              refine lv_bipush (v := 37) hx hb dX12_goesOn_79 (by decide +kernel) ?_
              refine dg_calli hS hA1 hA (va_runV (As := [.int 37]) (rest := []) F (c_m_isSign l g D o S_2 37 sg ((m_2.1 0 3 _ sM_0 (by decide)).trans f_sg) (by omega) va ((m_2.1 0 6 _ sM_0 (by decide)).trans f_va) (by omega) I_2 H.size) (cwV 1 hts (bw_V wB_1157 wB_1158 wB_1159 wB_881 wB_1156) rfl rfl rfl (by decide +kernel) ⟨Nat.le_of_ble_eq_true rfl, Nat.le_of_ble_eq_true rfl⟩) (dg_preV sM_0 rfl K ST hP hS hA1 hA) rfl rfl hl.1 rfl (lv_room (Nat.le_of_ble_eq_true rfl)) dX12_goesOn_81 ⟨Nat.le_of_ble_eq_true rfl, Nat.le_of_ble_eq_true rfl⟩) (fun x_3050 S_3051 hw_3051 H locs hP hS => ?_)
              rw [hw_3051.1] at hP
              obtain ⟨hq_3051, w_3051_0, w_3051_1, -⟩ := hw_3051
              have hz_3052 : (37 : Int32).toInt = 37 := by decide +kernel
              have w_3051_0 : 0 ≤ (x_3050).toInt ∧ (x_3050).toInt ≤ 1 := w_3051_0
              have w_3051_1 : (x_3050).toInt = 1 ↔ ((sg).toInt = 3 ∧ (va).toInt = ((37 : Int32)).toInt) := w_3051_1
              refine lv_if_eq (tgt := 188) hx hb dX12_goesOn_84 (by decide) (fun c_3053 => ?_) (fun c_3053 => ?_)
              · have jc_3053 := dk_eqc (k := 0) (by decide +kernel) c_3053
                clear w_3051_1
                exact J_728   _ _ hP hS _ (lv_sub hl [0, 1, 2, 3] rfl)
              · have jc_3053 := dk_neqc (k := 0) (by decide +kernel) c_3053
                have jbc_3053 : 1 ≤ (x_3050).toInt := by omega
                clear jc_3053
                have w_3051_1_r := w_3051_1.mp (by omega)
                obtain ⟨w_3051_1_r1, w_3051_1_r2⟩ := w_3051_1_r
                clear w_3051_1
                have hlx_2r := hlx_2 (by omega)
                clear hlx_2
                exact J_2752 ()  (by omega) _ _ hP hS _ (lv_sub hl [0, 1, 2, 3] rfl)
  · have jc_4 := dk_nlec (k := 0) (by decide +kernel) c_4
    refine lv_iconst (v := 0) hx hb dX12_goesOn_11 (by decide +kernel) ?_
    have hz_3054 : (0 : Int32).toInt = 0 := by decide +kernel
    have hz_3055 : (0 : Int32).toInt = 0 := by decide +kernel
    have hz_3056 : (0 : Int32).toInt = 0 := by decide +kernel
    refine W.widen (k := 0) (n := 0) (Nat.le_of_ble_eq_true rfl) (Nat.le_of_ble_eq_true rfl) ?_
    rw [hQ9]
    exact dg_iret hx hb hr hlocks (by decide +kernel) hP hS ⟨I_2, M_2, (by decide +kernel), ⟨sg, sa, se, y_3, cd, dp, om, oo, ((m_2.1 0 3 _ sM_0 (by decide)).trans f_sg), ((m_2.1 0 4 _ sM_0 (by decide)).trans f_sa), ((m_2.1 0 5 _ sM_0 (by decide)).trans f_se), f_y_3, ((m_2.1 0 34 _ sM_0 (by decide)).trans f_cd), ((m_2.1 0 42 _ sM_0 (by decide)).trans f_dp), ((m_2.1 0 45 _ sM_0 (by decide)).trans f_om), ((m_2.1 0 46 _ sM_0 (by decide)).trans f_oo), (by omega)⟩, (fun k9 hk9 hk0 => by have q9 := (f_y_3).symm.trans hk9; cases q9; omega), (ZWM.keep ZW m_2 (by decide) (by decide) (by decide) (by decide)), trivial⟩ dX12_goesOn_12
