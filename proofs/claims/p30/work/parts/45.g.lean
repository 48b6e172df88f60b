/-! 45.g.lean.txt -/
theorem dX12_goesOn_0 : decode cX12_goesOn 0 = .ok (.aload_n 0, 1) := by decide +kernel
theorem dX12_goesOn_1 : decode cX12_goesOn 1 = .ok (.invokevirtual 266, 3) := by decide +kernel
theorem dX12_goesOn_4 : decode cX12_goesOn 4 = .ok (.aload_n 0, 1) := by decide +kernel
theorem dX12_goesOn_5 : decode cX12_goesOn 5 = .ok (.getfield 36, 3) := by decide +kernel
theorem dX12_goesOn_8 : decode cX12_goesOn 8 = .ok (.ifCond .le 5, 3) := by decide +kernel
theorem dX12_goesOn_11 : decode cX12_goesOn 11 = .ok (.iconst 0, 1) := by decide +kernel
theorem dX12_goesOn_12 : decode cX12_goesOn 12 = .ok (.ireturn, 1) := by decide +kernel
theorem dX12_goesOn_13 : decode cX12_goesOn 13 = .ok (.aload_n 0, 1) := by decide +kernel
theorem dX12_goesOn_14 : decode cX12_goesOn 14 = .ok (.getfield 140, 3) := by decide +kernel
theorem dX12_goesOn_17 : decode cX12_goesOn 17 = .ok (.iconst 1, 1) := by decide +kernel
theorem dX12_goesOn_18 : decode cX12_goesOn 18 = .ok (.isub, 1) := by decide +kernel
theorem dX12_goesOn_19 : decode cX12_goesOn 19 = .ok (.istore_n 1, 1) := by decide +kernel
theorem dX12_goesOn_20 : decode cX12_goesOn 20 = .ok (.aload_n 0, 1) := by decide +kernel
theorem dX12_goesOn_21 : decode cX12_goesOn 21 = .ok (.getfield 124, 3) := by decide +kernel
theorem dX12_goesOn_24 : decode cX12_goesOn 24 = .ok (.iload_n 1, 1) := by decide +kernel
theorem dX12_goesOn_25 : decode cX12_goesOn 25 = .ok (.iaload, 1) := by decide +kernel
theorem dX12_goesOn_26 : decode cX12_goesOn 26 = .ok (.istore_n 2, 1) := by decide +kernel
theorem dX12_goesOn_27 : decode cX12_goesOn 27 = .ok (.iload_n 2, 1) := by decide +kernel
theorem dX12_goesOn_28 : decode cX12_goesOn 28 = .ok (.invokestatic 346, 3) := by decide +kernel
theorem dX12_goesOn_31 : decode cX12_goesOn 31 = .ok (.istore_n 3, 1) := by decide +kernel
theorem dX12_goesOn_32 : decode cX12_goesOn 32 = .ok (.aload_n 0, 1) := by decide +kernel
theorem dX12_goesOn_33 : decode cX12_goesOn 33 = .ok (.getfield 127, 3) := by decide +kernel
theorem dX12_goesOn_36 : decode cX12_goesOn 36 = .ok (.iload_n 1, 1) := by decide +kernel
theorem dX12_goesOn_37 : decode cX12_goesOn 37 = .ok (.iaload, 1) := by decide +kernel
theorem dX12_goesOn_38 : decode cX12_goesOn 38 = .ok (.iconst 2, 1) := by decide +kernel
theorem dX12_goesOn_39 : decode cX12_goesOn 39 = .ok (.if_icmp .ge 149, 3) := by decide +kernel
theorem dX12_goesOn_42 : decode cX12_goesOn 42 = .ok (.aload_n 0, 1) := by decide +kernel
theorem dX12_goesOn_43 : decode cX12_goesOn 43 = .ok (.bipush 43, 2) := by decide +kernel
theorem dX12_goesOn_45 : decode cX12_goesOn 45 = .ok (.invokevirtual 269, 3) := by decide +kernel
theorem dX12_goesOn_48 : decode cX12_goesOn 48 = .ok (.ifCond .ne 39, 3) := by decide +kernel
theorem dX12_goesOn_51 : decode cX12_goesOn 51 = .ok (.aload_n 0, 1) := by decide +kernel
theorem dX12_goesOn_52 : decode cX12_goesOn 52 = .ok (.bipush 45, 2) := by decide +kernel
theorem dX12_goesOn_54 : decode cX12_goesOn 54 = .ok (.invokevirtual 269, 3) := by decide +kernel
theorem dX12_goesOn_57 : decode cX12_goesOn 57 = .ok (.ifCond .ne 30, 3) := by decide +kernel
theorem dX12_goesOn_60 : decode cX12_goesOn 60 = .ok (.aload_n 0, 1) := by decide +kernel
theorem dX12_goesOn_61 : decode cX12_goesOn 61 = .ok (.bipush 42, 2) := by decide +kernel
theorem dX12_goesOn_63 : decode cX12_goesOn 63 = .ok (.invokevirtual 269, 3) := by decide +kernel
theorem dX12_goesOn_66 : decode cX12_goesOn 66 = .ok (.ifCond .ne 21, 3) := by decide +kernel
theorem dX12_goesOn_69 : decode cX12_goesOn 69 = .ok (.aload_n 0, 1) := by decide +kernel
theorem dX12_goesOn_70 : decode cX12_goesOn 70 = .ok (.bipush 47, 2) := by decide +kernel
theorem dX12_goesOn_72 : decode cX12_goesOn 72 = .ok (.invokevirtual 269, 3) := by decide +kernel
theorem dX12_goesOn_75 : decode cX12_goesOn 75 = .ok (.ifCond .ne 12, 3) := by decide +kernel
theorem dX12_goesOn_78 : decode cX12_goesOn 78 = .ok (.aload_n 0, 1) := by decide +kernel
theorem dX12_goesOn_79 : decode cX12_goesOn 79 = .ok (.bipush 37, 2) := by decide +kernel
theorem dX12_goesOn_81 : decode cX12_goesOn 81 = .ok (.invokevirtual 269, 3) := by decide +kernel
theorem dX12_goesOn_84 : decode cX12_goesOn 84 = .ok (.ifCond .eq 104, 3) := by decide +kernel
theorem dX12_goesOn_87 : decode cX12_goesOn 87 = .ok (.aload_n 0, 1) := by decide +kernel
theorem dX12_goesOn_88 : decode cX12_goesOn 88 = .ok (.aload_n 0, 1) := by decide +kernel
theorem dX12_goesOn_89 : decode cX12_goesOn 89 = .ok (.bipush 43, 2) := by decide +kernel
theorem dX12_goesOn_91 : decode cX12_goesOn 91 = .ok (.invokevirtual 269, 3) := by decide +kernel
theorem dX12_goesOn_94 : decode cX12_goesOn 94 = .ok (.ifCond .ne 12, 3) := by decide +kernel
theorem dX12_goesOn_97 : decode cX12_goesOn 97 = .ok (.aload_n 0, 1) := by decide +kernel
theorem dX12_goesOn_98 : decode cX12_goesOn 98 = .ok (.bipush 45, 2) := by decide +kernel
theorem dX12_goesOn_100 : decode cX12_goesOn 100 = .ok (.invokevirtual 269, 3) := by decide +kernel
theorem dX12_goesOn_103 : decode cX12_goesOn 103 = .ok (.ifCond .eq 7, 3) := by decide +kernel
theorem dX12_goesOn_106 : decode cX12_goesOn 106 = .ok (.iconst 5, 1) := by decide +kernel
theorem dX12_goesOn_107 : decode cX12_goesOn 107 = .ok (.goto 5, 3) := by decide +kernel
theorem dX12_goesOn_110 : decode cX12_goesOn 110 = .ok (.bipush 6, 2) := by decide +kernel
theorem dX12_goesOn_112 : decode cX12_goesOn 112 = .ok (.invokevirtual 359, 3) := by decide +kernel
theorem dX12_goesOn_115 : decode cX12_goesOn 115 = .ok (.aload_n 0, 1) := by decide +kernel
theorem dX12_goesOn_116 : decode cX12_goesOn 116 = .ok (.aload_n 0, 1) := by decide +kernel
theorem dX12_goesOn_117 : decode cX12_goesOn 117 = .ok (.bipush 43, 2) := by decide +kernel
theorem dX12_goesOn_119 : decode cX12_goesOn 119 = .ok (.invokevirtual 269, 3) := by decide +kernel
theorem dX12_goesOn_122 : decode cX12_goesOn 122 = .ok (.ifCond .eq 8, 3) := by decide +kernel
theorem dX12_goesOn_125 : decode cX12_goesOn 125 = .ok (.bipush 31, 2) := by decide +kernel
theorem dX12_goesOn_127 : decode cX12_goesOn 127 = .ok (.goto 47, 3) := by decide +kernel
theorem dX12_goesOn_130 : decode cX12_goesOn 130 = .ok (.aload_n 0, 1) := by decide +kernel
theorem dX12_goesOn_131 : decode cX12_goesOn 131 = .ok (.bipush 45, 2) := by decide +kernel
theorem dX12_goesOn_133 : decode cX12_goesOn 133 = .ok (.invokevirtual 269, 3) := by decide +kernel
theorem dX12_goesOn_136 : decode cX12_goesOn 136 = .ok (.ifCond .eq 8, 3) := by decide +kernel
theorem dX12_goesOn_139 : decode cX12_goesOn 139 = .ok (.bipush 32, 2) := by decide +kernel
theorem dX12_goesOn_141 : decode cX12_goesOn 141 = .ok (.goto 33, 3) := by decide +kernel
theorem dX12_goesOn_144 : decode cX12_goesOn 144 = .ok (.aload_n 0, 1) := by decide +kernel
theorem dX12_goesOn_145 : decode cX12_goesOn 145 = .ok (.bipush 42, 2) := by decide +kernel
theorem dX12_goesOn_147 : decode cX12_goesOn 147 = .ok (.invokevirtual 269, 3) := by decide +kernel
theorem dX12_goesOn_150 : decode cX12_goesOn 150 = .ok (.ifCond .eq 8, 3) := by decide +kernel
theorem dX12_goesOn_153 : decode cX12_goesOn 153 = .ok (.bipush 33, 2) := by decide +kernel
theorem dX12_goesOn_155 : decode cX12_goesOn 155 = .ok (.goto 19, 3) := by decide +kernel
theorem dX12_goesOn_158 : decode cX12_goesOn 158 = .ok (.aload_n 0, 1) := by decide +kernel
theorem dX12_goesOn_159 : decode cX12_goesOn 159 = .ok (.bipush 47, 2) := by decide +kernel
theorem dX12_goesOn_161 : decode cX12_goesOn 161 = .ok (.invokevirtual 269, 3) := by decide +kernel
theorem dX12_goesOn_164 : decode cX12_goesOn 164 = .ok (.ifCond .eq 8, 3) := by decide +kernel
theorem dX12_goesOn_167 : decode cX12_goesOn 167 = .ok (.bipush 34, 2) := by decide +kernel
theorem dX12_goesOn_169 : decode cX12_goesOn 169 = .ok (.goto 5, 3) := by decide +kernel
theorem dX12_goesOn_172 : decode cX12_goesOn 172 = .ok (.bipush 35, 2) := by decide +kernel
theorem dX12_goesOn_174 : decode cX12_goesOn 174 = .ok (.invokevirtual 353, 3) := by decide +kernel
theorem dX12_goesOn_177 : decode cX12_goesOn 177 = .ok (.aload_n 0, 1) := by decide +kernel
theorem dX12_goesOn_178 : decode cX12_goesOn 178 = .ok (.invokevirtual 272, 3) := by decide +kernel
theorem dX12_goesOn_181 : decode cX12_goesOn 181 = .ok (.aload_n 0, 1) := by decide +kernel
theorem dX12_goesOn_182 : decode cX12_goesOn 182 = .ok (.iconst 0, 1) := by decide +kernel
theorem dX12_goesOn_183 : decode cX12_goesOn 183 = .ok (.putfield 152, 3) := by decide +kernel
theorem dX12_goesOn_186 : decode cX12_goesOn 186 = .ok (.iconst 1, 1) := by decide +kernel
theorem dX12_goesOn_187 : decode cX12_goesOn 187 = .ok (.ireturn, 1) := by decide +kernel
theorem dX12_goesOn_188 : decode cX12_goesOn 188 = .ok (.iload_n 3, 1) := by decide +kernel
theorem dX12_goesOn_189 : decode cX12_goesOn 189 = .ok (.ifCond .eq 96, 3) := by decide +kernel
theorem dX12_goesOn_192 : decode cX12_goesOn 192 = .ok (.aload_n 0, 1) := by decide +kernel
theorem dX12_goesOn_193 : decode cX12_goesOn 193 = .ok (.getfield 127, 3) := by decide +kernel
theorem dX12_goesOn_196 : decode cX12_goesOn 196 = .ok (.iload_n 1, 1) := by decide +kernel
theorem dX12_goesOn_197 : decode cX12_goesOn 197 = .ok (.iaload, 1) := by decide +kernel
theorem dX12_goesOn_198 : decode cX12_goesOn 198 = .ok (.ifCond .ne 87, 3) := by decide +kernel
theorem dX12_goesOn_201 : decode cX12_goesOn 201 = .ok (.aload_n 0, 1) := by decide +kernel
theorem dX12_goesOn_202 : decode cX12_goesOn 202 = .ok (.bipush 60, 2) := by decide +kernel
theorem dX12_goesOn_204 : decode cX12_goesOn 204 = .ok (.invokevirtual 269, 3) := by decide +kernel
theorem dX12_goesOn_207 : decode cX12_goesOn 207 = .ok (.ifCond .ne 21, 3) := by decide +kernel
theorem dX12_goesOn_210 : decode cX12_goesOn 210 = .ok (.aload_n 0, 1) := by decide +kernel
theorem dX12_goesOn_211 : decode cX12_goesOn 211 = .ok (.bipush 62, 2) := by decide +kernel
theorem dX12_goesOn_213 : decode cX12_goesOn 213 = .ok (.invokevirtual 269, 3) := by decide +kernel
theorem dX12_goesOn_216 : decode cX12_goesOn 216 = .ok (.ifCond .ne 12, 3) := by decide +kernel
theorem dX12_goesOn_219 : decode cX12_goesOn 219 = .ok (.aload_n 0, 1) := by decide +kernel
theorem dX12_goesOn_220 : decode cX12_goesOn 220 = .ok (.bipush 61, 2) := by decide +kernel
theorem dX12_goesOn_222 : decode cX12_goesOn 222 = .ok (.invokevirtual 269, 3) := by decide +kernel
theorem dX12_goesOn_225 : decode cX12_goesOn 225 = .ok (.ifCond .eq 60, 3) := by decide +kernel
theorem dX12_goesOn_228 : decode cX12_goesOn 228 = .ok (.aload_n 0, 1) := by decide +kernel
theorem dX12_goesOn_229 : decode cX12_goesOn 229 = .ok (.iconst 5, 1) := by decide +kernel
theorem dX12_goesOn_230 : decode cX12_goesOn 230 = .ok (.invokevirtual 359, 3) := by decide +kernel
theorem dX12_goesOn_233 : decode cX12_goesOn 233 = .ok (.aload_n 0, 1) := by decide +kernel
theorem dX12_goesOn_234 : decode cX12_goesOn 234 = .ok (.aload_n 0, 1) := by decide +kernel
theorem dX12_goesOn_235 : decode cX12_goesOn 235 = .ok (.bipush 60, 2) := by decide +kernel
theorem dX12_goesOn_237 : decode cX12_goesOn 237 = .ok (.invokevirtual 269, 3) := by decide +kernel
theorem dX12_goesOn_240 : decode cX12_goesOn 240 = .ok (.ifCond .eq 8, 3) := by decide +kernel
theorem dX12_goesOn_243 : decode cX12_goesOn 243 = .ok (.bipush 38, 2) := by decide +kernel
theorem dX12_goesOn_245 : decode cX12_goesOn 245 = .ok (.goto 19, 3) := by decide +kernel
theorem dX12_goesOn_248 : decode cX12_goesOn 248 = .ok (.aload_n 0, 1) := by decide +kernel
theorem dX12_goesOn_249 : decode cX12_goesOn 249 = .ok (.bipush 62, 2) := by decide +kernel
theorem dX12_goesOn_251 : decode cX12_goesOn 251 = .ok (.invokevirtual 269, 3) := by decide +kernel
theorem dX12_goesOn_254 : decode cX12_goesOn 254 = .ok (.ifCond .eq 8, 3) := by decide +kernel
theorem dX12_goesOn_257 : decode cX12_goesOn 257 = .ok (.bipush 39, 2) := by decide +kernel
theorem dX12_goesOn_259 : decode cX12_goesOn 259 = .ok (.goto 5, 3) := by decide +kernel
theorem dX12_goesOn_262 : decode cX12_goesOn 262 = .ok (.bipush 40, 2) := by decide +kernel
theorem dX12_goesOn_264 : decode cX12_goesOn 264 = .ok (.invokevirtual 353, 3) := by decide +kernel
theorem dX12_goesOn_267 : decode cX12_goesOn 267 = .ok (.aload_n 0, 1) := by decide +kernel
theorem dX12_goesOn_268 : decode cX12_goesOn 268 = .ok (.getfield 127, 3) := by decide +kernel
theorem dX12_goesOn_271 : decode cX12_goesOn 271 = .ok (.iload_n 1, 1) := by decide +kernel
theorem dX12_goesOn_272 : decode cX12_goesOn 272 = .ok (.iconst 1, 1) := by decide +kernel
theorem dX12_goesOn_273 : decode cX12_goesOn 273 = .ok (.iastore, 1) := by decide +kernel
theorem dX12_goesOn_274 : decode cX12_goesOn 274 = .ok (.aload_n 0, 1) := by decide +kernel
theorem dX12_goesOn_275 : decode cX12_goesOn 275 = .ok (.invokevirtual 272, 3) := by decide +kernel
theorem dX12_goesOn_278 : decode cX12_goesOn 278 = .ok (.aload_n 0, 1) := by decide +kernel
theorem dX12_goesOn_279 : decode cX12_goesOn 279 = .ok (.iconst 0, 1) := by decide +kernel
theorem dX12_goesOn_280 : decode cX12_goesOn 280 = .ok (.putfield 152, 3) := by decide +kernel
theorem dX12_goesOn_283 : decode cX12_goesOn 283 = .ok (.iconst 1, 1) := by decide +kernel
theorem dX12_goesOn_284 : decode cX12_goesOn 284 = .ok (.ireturn, 1) := by decide +kernel
theorem dX12_goesOn_285 : decode cX12_goesOn 285 = .ok (.iload_n 3, 1) := by decide +kernel
theorem dX12_goesOn_286 : decode cX12_goesOn 286 = .ok (.ifCond .eq 114, 3) := by decide +kernel
theorem dX12_goesOn_289 : decode cX12_goesOn 289 = .ok (.aload_n 0, 1) := by decide +kernel
theorem dX12_goesOn_290 : decode cX12_goesOn 290 = .ok (.ldc2_w 319, 3) := by decide +kernel
theorem dX12_goesOn_293 : decode cX12_goesOn 293 = .ok (.invokevirtual 349, 3) := by decide +kernel
theorem dX12_goesOn_296 : decode cX12_goesOn 296 = .ok (.ifCond .ne 13, 3) := by decide +kernel
theorem dX12_goesOn_299 : decode cX12_goesOn 299 = .ok (.aload_n 0, 1) := by decide +kernel
theorem dX12_goesOn_300 : decode cX12_goesOn 300 = .ok (.ldc2_w 317, 3) := by decide +kernel
theorem dX12_goesOn_303 : decode cX12_goesOn 303 = .ok (.invokevirtual 349, 3) := by decide +kernel
theorem dX12_goesOn_306 : decode cX12_goesOn 306 = .ok (.ifCond .eq 94, 3) := by decide +kernel
theorem dX12_goesOn_309 : decode cX12_goesOn 309 = .ok (.aload_n 0, 1) := by decide +kernel
theorem dX12_goesOn_310 : decode cX12_goesOn 310 = .ok (.getfield 127, 3) := by decide +kernel
theorem dX12_goesOn_313 : decode cX12_goesOn 313 = .ok (.iload_n 1, 1) := by decide +kernel
theorem dX12_goesOn_314 : decode cX12_goesOn 314 = .ok (.iaload, 1) := by decide +kernel
theorem dX12_goesOn_315 : decode cX12_goesOn 315 = .ok (.ifCond .ne 12, 3) := by decide +kernel
theorem dX12_goesOn_318 : decode cX12_goesOn 318 = .ok (.aload_n 0, 1) := by decide +kernel
theorem dX12_goesOn_319 : decode cX12_goesOn 319 = .ok (.iconst 1, 1) := by decide +kernel
theorem dX12_goesOn_320 : decode cX12_goesOn 320 = .ok (.aload_n 0, 1) := by decide +kernel
theorem dX12_goesOn_321 : decode cX12_goesOn 321 = .ok (.getfield 23, 3) := by decide +kernel
theorem dX12_goesOn_324 : decode cX12_goesOn 324 = .ok (.invokevirtual 255, 3) := by decide +kernel
theorem dX12_goesOn_327 : decode cX12_goesOn 327 = .ok (.aload_n 0, 1) := by decide +kernel
theorem dX12_goesOn_328 : decode cX12_goesOn 328 = .ok (.getfield 36, 3) := by decide +kernel
theorem dX12_goesOn_331 : decode cX12_goesOn 331 = .ok (.ifCond .le 5, 3) := by decide +kernel
theorem dX12_goesOn_334 : decode cX12_goesOn 334 = .ok (.iconst 0, 1) := by decide +kernel
theorem dX12_goesOn_335 : decode cX12_goesOn 335 = .ok (.ireturn, 1) := by decide +kernel
theorem dX12_goesOn_336 : decode cX12_goesOn 336 = .ok (.aload_n 0, 1) := by decide +kernel
theorem dX12_goesOn_337 : decode cX12_goesOn 337 = .ok (.ldc2_w 319, 3) := by decide +kernel
theorem dX12_goesOn_340 : decode cX12_goesOn 340 = .ok (.invokevirtual 349, 3) := by decide +kernel
theorem dX12_goesOn_343 : decode cX12_goesOn 343 = .ok (.istore 4, 2) := by decide +kernel
theorem dX12_goesOn_345 : decode cX12_goesOn 345 = .ok (.aload_n 0, 1) := by decide +kernel
theorem dX12_goesOn_346 : decode cX12_goesOn 346 = .ok (.iload 4, 2) := by decide +kernel
theorem dX12_goesOn_348 : decode cX12_goesOn 348 = .ok (.ifCond .eq 7, 3) := by decide +kernel
theorem dX12_goesOn_351 : decode cX12_goesOn 351 = .ok (.iconst 2, 1) := by decide +kernel
theorem dX12_goesOn_352 : decode cX12_goesOn 352 = .ok (.goto 4, 3) := by decide +kernel
theorem dX12_goesOn_355 : decode cX12_goesOn 355 = .ok (.iconst 1, 1) := by decide +kernel
theorem dX12_goesOn_356 : decode cX12_goesOn 356 = .ok (.invokevirtual 359, 3) := by decide +kernel
theorem dX12_goesOn_359 : decode cX12_goesOn 359 = .ok (.aload_n 0, 1) := by decide +kernel
theorem dX12_goesOn_360 : decode cX12_goesOn 360 = .ok (.iload 4, 2) := by decide +kernel
theorem dX12_goesOn_362 : decode cX12_goesOn 362 = .ok (.ifCond .eq 8, 3) := by decide +kernel
theorem dX12_goesOn_365 : decode cX12_goesOn 365 = .ok (.bipush 41, 2) := by decide +kernel
theorem dX12_goesOn_367 : decode cX12_goesOn 367 = .ok (.goto 5, 3) := by decide +kernel
theorem dX12_goesOn_370 : decode cX12_goesOn 370 = .ok (.bipush 42, 2) := by decide +kernel
theorem dX12_goesOn_372 : decode cX12_goesOn 372 = .ok (.invokevirtual 353, 3) := by decide +kernel
theorem dX12_goesOn_375 : decode cX12_goesOn 375 = .ok (.aload_n 0, 1) := by decide +kernel
theorem dX12_goesOn_376 : decode cX12_goesOn 376 = .ok (.getfield 127, 3) := by decide +kernel
theorem dX12_goesOn_379 : decode cX12_goesOn 379 = .ok (.iload_n 1, 1) := by decide +kernel
theorem dX12_goesOn_380 : decode cX12_goesOn 380 = .ok (.iconst 0, 1) := by decide +kernel
theorem dX12_goesOn_381 : decode cX12_goesOn 381 = .ok (.iastore, 1) := by decide +kernel
theorem dX12_goesOn_382 : decode cX12_goesOn 382 = .ok (.aload_n 0, 1) := by decide +kernel
theorem dX12_goesOn_383 : decode cX12_goesOn 383 = .ok (.getfield 130, 3) := by decide +kernel
theorem dX12_goesOn_386 : decode cX12_goesOn 386 = .ok (.iload_n 1, 1) := by decide +kernel
theorem dX12_goesOn_387 : decode cX12_goesOn 387 = .ok (.iconst 1, 1) := by decide +kernel
theorem dX12_goesOn_388 : decode cX12_goesOn 388 = .ok (.bastore, 1) := by decide +kernel
theorem dX12_goesOn_389 : decode cX12_goesOn 389 = .ok (.aload_n 0, 1) := by decide +kernel
theorem dX12_goesOn_390 : decode cX12_goesOn 390 = .ok (.invokevirtual 272, 3) := by decide +kernel
theorem dX12_goesOn_393 : decode cX12_goesOn 393 = .ok (.aload_n 0, 1) := by decide +kernel
theorem dX12_goesOn_394 : decode cX12_goesOn 394 = .ok (.iconst 0, 1) := by decide +kernel
theorem dX12_goesOn_395 : decode cX12_goesOn 395 = .ok (.putfield 152, 3) := by decide +kernel
theorem dX12_goesOn_398 : decode cX12_goesOn 398 = .ok (.iconst 1, 1) := by decide +kernel
theorem dX12_goesOn_399 : decode cX12_goesOn 399 = .ok (.ireturn, 1) := by decide +kernel
theorem dX12_goesOn_400 : decode cX12_goesOn 400 = .ok (.iload_n 3, 1) := by decide +kernel
theorem dX12_goesOn_401 : decode cX12_goesOn 401 = .ok (.ifCond .eq 21, 3) := by decide +kernel
theorem dX12_goesOn_404 : decode cX12_goesOn 404 = .ok (.aload_n 0, 1) := by decide +kernel
theorem dX12_goesOn_405 : decode cX12_goesOn 405 = .ok (.getfield 127, 3) := by decide +kernel
theorem dX12_goesOn_408 : decode cX12_goesOn 408 = .ok (.iload_n 1, 1) := by decide +kernel
theorem dX12_goesOn_409 : decode cX12_goesOn 409 = .ok (.iaload, 1) := by decide +kernel
theorem dX12_goesOn_410 : decode cX12_goesOn 410 = .ok (.ifCond .ne 12, 3) := by decide +kernel
theorem dX12_goesOn_413 : decode cX12_goesOn 413 = .ok (.aload_n 0, 1) := by decide +kernel
theorem dX12_goesOn_414 : decode cX12_goesOn 414 = .ok (.iconst 1, 1) := by decide +kernel
theorem dX12_goesOn_415 : decode cX12_goesOn 415 = .ok (.aload_n 0, 1) := by decide +kernel
theorem dX12_goesOn_416 : decode cX12_goesOn 416 = .ok (.getfield 23, 3) := by decide +kernel
theorem dX12_goesOn_419 : decode cX12_goesOn 419 = .ok (.invokevirtual 255, 3) := by decide +kernel
theorem dX12_goesOn_422 : decode cX12_goesOn 422 = .ok (.iload_n 2, 1) := by decide +kernel
theorem dX12_goesOn_423 : decode cX12_goesOn 423 = .ok (.iconst 2, 1) := by decide +kernel
theorem dX12_goesOn_424 : decode cX12_goesOn 424 = .ok (.if_icmp .ge 17, 3) := by decide +kernel
theorem dX12_goesOn_427 : decode cX12_goesOn 427 = .ok (.aload_n 0, 1) := by decide +kernel
theorem dX12_goesOn_428 : decode cX12_goesOn 428 = .ok (.getfield 36, 3) := by decide +kernel
theorem dX12_goesOn_431 : decode cX12_goesOn 431 = .ok (.ifCond .ne 8, 3) := by decide +kernel
theorem dX12_goesOn_434 : decode cX12_goesOn 434 = .ok (.aload_n 0, 1) := by decide +kernel
theorem dX12_goesOn_435 : decode cX12_goesOn 435 = .ok (.iconst 1, 1) := by decide +kernel
theorem dX12_goesOn_436 : decode cX12_goesOn 436 = .ok (.invokevirtual 359, 3) := by decide +kernel
theorem dX12_goesOn_439 : decode cX12_goesOn 439 = .ok (.iconst 0, 1) := by decide +kernel
theorem dX12_goesOn_440 : decode cX12_goesOn 440 = .ok (.ireturn, 1) := by decide +kernel
theorem dX12_goesOn_441 : decode cX12_goesOn 441 = .ok (.iload_n 2, 1) := by decide +kernel
theorem dX12_goesOn_442 : decode cX12_goesOn 442 = .ok (.iconst 3, 1) := by decide +kernel
theorem dX12_goesOn_443 : decode cX12_goesOn 443 = .ok (.if_icmp .eq 9, 3) := by decide +kernel
theorem dX12_goesOn_446 : decode cX12_goesOn 446 = .ok (.iload_n 2, 1) := by decide +kernel
theorem dX12_goesOn_447 : decode cX12_goesOn 447 = .ok (.bipush 6, 2) := by decide +kernel
theorem dX12_goesOn_449 : decode cX12_goesOn 449 = .ok (.if_icmp .ne 69, 3) := by decide +kernel
theorem dX12_goesOn_452 : decode cX12_goesOn 452 = .ok (.aload_n 0, 1) := by decide +kernel
theorem dX12_goesOn_453 : decode cX12_goesOn 453 = .ok (.bipush 44, 2) := by decide +kernel
theorem dX12_goesOn_455 : decode cX12_goesOn 455 = .ok (.invokevirtual 269, 3) := by decide +kernel
theorem dX12_goesOn_458 : decode cX12_goesOn 458 = .ok (.ifCond .ne 12, 3) := by decide +kernel
theorem dX12_goesOn_461 : decode cX12_goesOn 461 = .ok (.aload_n 0, 1) := by decide +kernel
theorem dX12_goesOn_462 : decode cX12_goesOn 462 = .ok (.iconst 1, 1) := by decide +kernel
theorem dX12_goesOn_463 : decode cX12_goesOn 463 = .ok (.aload_n 0, 1) := by decide +kernel
theorem dX12_goesOn_464 : decode cX12_goesOn 464 = .ok (.getfield 23, 3) := by decide +kernel
theorem dX12_goesOn_467 : decode cX12_goesOn 467 = .ok (.invokevirtual 255, 3) := by decide +kernel
theorem dX12_goesOn_470 : decode cX12_goesOn 470 = .ok (.aload_n 0, 1) := by decide +kernel
theorem dX12_goesOn_471 : decode cX12_goesOn 471 = .ok (.getfield 36, 3) := by decide +kernel
theorem dX12_goesOn_474 : decode cX12_goesOn 474 = .ok (.ifCond .le 5, 3) := by decide +kernel
theorem dX12_goesOn_477 : decode cX12_goesOn 477 = .ok (.iconst 0, 1) := by decide +kernel
theorem dX12_goesOn_478 : decode cX12_goesOn 478 = .ok (.ireturn, 1) := by decide +kernel
theorem dX12_goesOn_479 : decode cX12_goesOn 479 = .ok (.aload_n 0, 1) := by decide +kernel
theorem dX12_goesOn_480 : decode cX12_goesOn 480 = .ok (.iconst 1, 1) := by decide +kernel
theorem dX12_goesOn_481 : decode cX12_goesOn 481 = .ok (.invokevirtual 359, 3) := by decide +kernel
theorem dX12_goesOn_484 : decode cX12_goesOn 484 = .ok (.aload_n 0, 1) := by decide +kernel
theorem dX12_goesOn_485 : decode cX12_goesOn 485 = .ok (.getfield 124, 3) := by decide +kernel
theorem dX12_goesOn_488 : decode cX12_goesOn 488 = .ok (.iload_n 1, 1) := by decide +kernel
theorem dX12_goesOn_489 : decode cX12_goesOn 489 = .ok (.iload_n 2, 1) := by decide +kernel
theorem dX12_goesOn_490 : decode cX12_goesOn 490 = .ok (.iconst 3, 1) := by decide +kernel
theorem dX12_goesOn_491 : decode cX12_goesOn 491 = .ok (.if_icmp .ne 7, 3) := by decide +kernel
theorem dX12_goesOn_494 : decode cX12_goesOn 494 = .ok (.iconst 4, 1) := by decide +kernel
theorem dX12_goesOn_495 : decode cX12_goesOn 495 = .ok (.goto 4, 3) := by decide +kernel
theorem dX12_goesOn_498 : decode cX12_goesOn 498 = .ok (.iconst 3, 1) := by decide +kernel
theorem dX12_goesOn_499 : decode cX12_goesOn 499 = .ok (.iastore, 1) := by decide +kernel
theorem dX12_goesOn_500 : decode cX12_goesOn 500 = .ok (.aload_n 0, 1) := by decide +kernel
theorem dX12_goesOn_501 : decode cX12_goesOn 501 = .ok (.getfield 127, 3) := by decide +kernel
theorem dX12_goesOn_504 : decode cX12_goesOn 504 = .ok (.iload_n 1, 1) := by decide +kernel
theorem dX12_goesOn_505 : decode cX12_goesOn 505 = .ok (.iconst 0, 1) := by decide +kernel
theorem dX12_goesOn_506 : decode cX12_goesOn 506 = .ok (.iastore, 1) := by decide +kernel
theorem dX12_goesOn_507 : decode cX12_goesOn 507 = .ok (.aload_n 0, 1) := by decide +kernel
theorem dX12_goesOn_508 : decode cX12_goesOn 508 = .ok (.invokevirtual 272, 3) := by decide +kernel
theorem dX12_goesOn_511 : decode cX12_goesOn 511 = .ok (.aload_n 0, 1) := by decide +kernel
theorem dX12_goesOn_512 : decode cX12_goesOn 512 = .ok (.iconst 0, 1) := by decide +kernel
theorem dX12_goesOn_513 : decode cX12_goesOn 513 = .ok (.putfield 152, 3) := by decide +kernel
theorem dX12_goesOn_516 : decode cX12_goesOn 516 = .ok (.iconst 1, 1) := by decide +kernel
theorem dX12_goesOn_517 : decode cX12_goesOn 517 = .ok (.ireturn, 1) := by decide +kernel
theorem dX12_goesOn_518 : decode cX12_goesOn 518 = .ok (.aload_n 0, 1) := by decide +kernel
theorem dX12_goesOn_519 : decode cX12_goesOn 519 = .ok (.iload_n 2, 1) := by decide +kernel
theorem dX12_goesOn_520 : decode cX12_goesOn 520 = .ok (.iconst 5, 1) := by decide +kernel
theorem dX12_goesOn_521 : decode cX12_goesOn 521 = .ok (.if_icmp .ne 8, 3) := by decide +kernel
theorem dX12_goesOn_524 : decode cX12_goesOn 524 = .ok (.bipush 93, 2) := by decide +kernel
theorem dX12_goesOn_526 : decode cX12_goesOn 526 = .ok (.goto 5, 3) := by decide +kernel
theorem dX12_goesOn_529 : decode cX12_goesOn 529 = .ok (.bipush 41, 2) := by decide +kernel
theorem dX12_goesOn_531 : decode cX12_goesOn 531 = .ok (.invokevirtual 269, 3) := by decide +kernel
theorem dX12_goesOn_534 : decode cX12_goesOn 534 = .ok (.ifCond .ne 12, 3) := by decide +kernel
theorem dX12_goesOn_537 : decode cX12_goesOn 537 = .ok (.aload_n 0, 1) := by decide +kernel
theorem dX12_goesOn_538 : decode cX12_goesOn 538 = .ok (.iconst 1, 1) := by decide +kernel
theorem dX12_goesOn_539 : decode cX12_goesOn 539 = .ok (.aload_n 0, 1) := by decide +kernel
theorem dX12_goesOn_540 : decode cX12_goesOn 540 = .ok (.getfield 23, 3) := by decide +kernel
theorem dX12_goesOn_543 : decode cX12_goesOn 543 = .ok (.invokevirtual 255, 3) := by decide +kernel
theorem dX12_goesOn_546 : decode cX12_goesOn 546 = .ok (.aload_n 0, 1) := by decide +kernel
theorem dX12_goesOn_547 : decode cX12_goesOn 547 = .ok (.getfield 36, 3) := by decide +kernel
theorem dX12_goesOn_550 : decode cX12_goesOn 550 = .ok (.ifCond .le 5, 3) := by decide +kernel
theorem dX12_goesOn_553 : decode cX12_goesOn 553 = .ok (.iconst 0, 1) := by decide +kernel
theorem dX12_goesOn_554 : decode cX12_goesOn 554 = .ok (.ireturn, 1) := by decide +kernel
theorem dX12_goesOn_555 : decode cX12_goesOn 555 = .ok (.aload_n 0, 1) := by decide +kernel
theorem dX12_goesOn_556 : decode cX12_goesOn 556 = .ok (.iconst 1, 1) := by decide +kernel
theorem dX12_goesOn_557 : decode cX12_goesOn 557 = .ok (.invokevirtual 359, 3) := by decide +kernel
theorem dX12_goesOn_560 : decode cX12_goesOn 560 = .ok (.aload_n 0, 1) := by decide +kernel
theorem dX12_goesOn_561 : decode cX12_goesOn 561 = .ok (.dup, 1) := by decide +kernel
theorem dX12_goesOn_562 : decode cX12_goesOn 562 = .ok (.getfield 140, 3) := by decide +kernel
theorem dX12_goesOn_565 : decode cX12_goesOn 565 = .ok (.iconst 1, 1) := by decide +kernel
theorem dX12_goesOn_566 : decode cX12_goesOn 566 = .ok (.isub, 1) := by decide +kernel
theorem dX12_goesOn_567 : decode cX12_goesOn 567 = .ok (.putfield 140, 3) := by decide +kernel
theorem dX12_goesOn_570 : decode cX12_goesOn 570 = .ok (.aload_n 0, 1) := by decide +kernel
theorem dX12_goesOn_571 : decode cX12_goesOn 571 = .ok (.dup, 1) := by decide +kernel
theorem dX12_goesOn_572 : decode cX12_goesOn 572 = .ok (.getfield 143, 3) := by decide +kernel
theorem dX12_goesOn_575 : decode cX12_goesOn 575 = .ok (.iconst 1, 1) := by decide +kernel
theorem dX12_goesOn_576 : decode cX12_goesOn 576 = .ok (.isub, 1) := by decide +kernel
theorem dX12_goesOn_577 : decode cX12_goesOn 577 = .ok (.putfield 143, 3) := by decide +kernel
theorem dX12_goesOn_580 : decode cX12_goesOn 580 = .ok (.iload_n 2, 1) := by decide +kernel
theorem dX12_goesOn_581 : decode cX12_goesOn 581 = .ok (.iconst 4, 1) := by decide +kernel
theorem dX12_goesOn_582 : decode cX12_goesOn 582 = .ok (.if_icmp .ne 14, 3) := by decide +kernel
theorem dX12_goesOn_585 : decode cX12_goesOn 585 = .ok (.aload_n 0, 1) := by decide +kernel
theorem dX12_goesOn_586 : decode cX12_goesOn 586 = .ok (.aload_n 0, 1) := by decide +kernel
theorem dX12_goesOn_587 : decode cX12_goesOn 587 = .ok (.getfield 134, 3) := by decide +kernel
theorem dX12_goesOn_590 : decode cX12_goesOn 590 = .ok (.iload_n 1, 1) := by decide +kernel
theorem dX12_goesOn_591 : decode cX12_goesOn 591 = .ok (.iaload, 1) := by decide +kernel
theorem dX12_goesOn_592 : decode cX12_goesOn 592 = .ok (.iconst 0, 1) := by decide +kernel
theorem dX12_goesOn_593 : decode cX12_goesOn 593 = .ok (.invokevirtual 340, 3) := by decide +kernel
theorem dX12_goesOn_596 : decode cX12_goesOn 596 = .ok (.iload_n 2, 1) := by decide +kernel
theorem dX12_goesOn_597 : decode cX12_goesOn 597 = .ok (.iconst 5, 1) := by decide +kernel
theorem dX12_goesOn_598 : decode cX12_goesOn 598 = .ok (.if_icmp .ne 15, 3) := by decide +kernel
theorem dX12_goesOn_601 : decode cX12_goesOn 601 = .ok (.aload_n 0, 1) := by decide +kernel
theorem dX12_goesOn_602 : decode cX12_goesOn 602 = .ok (.getfield 127, 3) := by decide +kernel
theorem dX12_goesOn_605 : decode cX12_goesOn 605 = .ok (.aload_n 0, 1) := by decide +kernel
theorem dX12_goesOn_606 : decode cX12_goesOn 606 = .ok (.getfield 140, 3) := by decide +kernel
theorem dX12_goesOn_609 : decode cX12_goesOn 609 = .ok (.iconst 1, 1) := by decide +kernel
theorem dX12_goesOn_610 : decode cX12_goesOn 610 = .ok (.isub, 1) := by decide +kernel
theorem dX12_goesOn_611 : decode cX12_goesOn 611 = .ok (.iconst 2, 1) := by decide +kernel
theorem dX12_goesOn_612 : decode cX12_goesOn 612 = .ok (.iastore, 1) := by decide +kernel
theorem dX12_goesOn_613 : decode cX12_goesOn 613 = .ok (.aload_n 0, 1) := by decide +kernel
theorem dX12_goesOn_614 : decode cX12_goesOn 614 = .ok (.invokevirtual 272, 3) := by decide +kernel
theorem dX12_goesOn_617 : decode cX12_goesOn 617 = .ok (.iconst 1, 1) := by decide +kernel
theorem dX12_goesOn_618 : decode cX12_goesOn 618 = .ok (.ireturn, 1) := by decide +kernel
theorem wB_1233 : Cond.code yX12_joins cX12_joins 2 none ∈ dgB := List.mem_filter.mpr ⟨tbl_8 _ (List.mem_of_getElem? (i := 99) rfl), rfl⟩
theorem wB_1234 : Cond.methodLink RX12 359 yX12_joins ∈ dgB := List.mem_filter.mpr ⟨tbl_8 _ (List.mem_of_getElem? (i := 96) (by decide +kernel)), by decide +kernel⟩
theorem wB_1235 : Cond.instanceMethod yX12_joins ∈ dgB := List.mem_filter.mpr ⟨tbl_8 _ (List.mem_of_getElem? (i := 98) (by decide +kernel)), by decide +kernel⟩
theorem wB_1236 : Cond.selects RX12 yX12_joins yX12_joins ∈ dgB := List.mem_filter.mpr ⟨List.mem_of_getElem? (i := 113) (by decide +kernel), by decide +kernel⟩
theorem wB_1237 : Cond.fieldLink RX12 152 "DarkMineModel" "operand" "Z" ∈ dgB := List.mem_filter.mpr ⟨tbl_6 _ (List.mem_of_getElem? (i := 209) (by decide +kernel)), by decide +kernel⟩
set_option maxHeartbeats 8000000 in
set_option maxRecDepth 100000 in
theorem c_m_goesOn (l : Launch) (g : Nat → ClassId) (D : va_G) (o : Nat) (S : dg_S) (sg : Int32) (f_sg : S.1 0 3 = .int sg) (b_sg : 0 ≤ (sg).toInt ∧ (sg).toInt ≤ 3) (sa : Int32) (f_sa : S.1 0 4 = .int sa) (b_sa : 0 ≤ (sa).toInt ∧ (sa).toInt ≤ 1600) (se : Int32) (f_se : S.1 0 5 = .int se) (b_se : 0 ≤ (se).toInt ∧ (se).toInt ≤ 1600) (sl : Int32) (f_sl : S.1 0 2 = .int sl) (b_sl : 0 ≤ (sl).toInt ∧ (sl).toInt ≤ 1600) (fk : Int32) (f_fk : S.1 0 8 = .int fk) (b_fk : 0 ≤ (fk).toInt ∧ (fk).toInt ≤ 6) (va : Int32) (f_va : S.1 0 6 = .int va) (b_va : 0 ≤ (va).toInt ∧ (va).toInt ≤ 9999) (cd : Int32) (f_cd : S.1 0 34 = .int cd) (b_cd : 0 ≤ (cd).toInt ∧ (cd).toInt ≤ 1600) (dp : Int32) (f_dp : S.1 0 42 = .int dp) (b_dp : 0 ≤ (dp).toInt ∧ (dp).toInt ≤ 20) (on : Int32) (f_on : S.1 0 43 = .int on) (om : Int32) (f_om : S.1 0 45 = .int om) (b_om : 0 ≤ (om).toInt ∧ (om).toInt ≤ 500) (oo : Int32) (f_oo : S.1 0 46 = .int oo) (b_oo : 1 ≤ (oo).toInt ∧ (oo).toInt ≤ 1) (hlx : (sa).toInt ≤ (se).toInt ∧ (se).toInt ≤ (sl).toInt ∧ ((sg).toInt ≠ 0 → (sa).toInt + 1 ≤ (se).toInt)) (hro : (cd).toInt + (om).toInt + (dp).toInt ≤ (sa).toInt) (ZW : ZWM S) (ZK : ZKM S) (P1 : P1M S) (I : CM o S) (sz : Nat) : Met l yX12_goesOn (bw yX12_goesOn cX12_goesOn 5 (some .boolean)) ({ frames := 3, cells := 0, slots := 0, locals := 77 } : Room) (dk_Pc g D (dg_w g shM o rfM S) sz [.ref (o + 0)]) (va_Qi (fun (r : Int32) S' => CM o S' ∧ dg_sm shM [(0, 3), (0, 4), (0, 5), (0, 6), (0, 7), (0, 8), (0, 9), (0, 12), (0, 34), (0, 42), (0, 43), (0, 45), (0, 46)] [18, 19, 22, 23, 24, 27] S S' ∧ (0 ≤ (r).toInt ∧ (r).toInt ≤ 1) ∧ (∃ y9_3 y9_4 y9_5 y9_8 y9_34 y9_42 y9_45 y9_46 : Int32, S'.1 0 3 = .int y9_3 ∧ S'.1 0 4 = .int y9_4 ∧ S'.1 0 5 = .int y9_5 ∧ S'.1 0 8 = .int y9_8 ∧ S'.1 0 34 = .int y9_34 ∧ S'.1 0 42 = .int y9_42 ∧ S'.1 0 45 = .int y9_45 ∧ S'.1 0 46 = .int y9_46 ∧ (((y9_4).toInt ≤ (y9_5).toInt ∧ (y9_5).toInt ≤ (sl).toInt ∧ ((y9_3).toInt ≠ 0 → (y9_4).toInt + 1 ≤ (y9_5).toInt)) ∧ (sa).toInt ≤ (y9_4).toInt ∧ ((fk).toInt ≠ 0 → (y9_8).toInt ≠ 0) ∧ (((y9_8).toInt = 0 → (r).toInt = 1 → (sa).toInt + 1 ≤ (y9_4).toInt) ∧ ((y9_8).toInt = 0 → (y9_34).toInt + (y9_45).toInt + (y9_42).toInt ≤ (y9_4).toInt)))) ∧ (∀ k9 : Int32, S'.1 0 8 = .int k9 → k9.toInt = 0 → POM S') ∧ ZWM S' ∧ True) (dg_B g D shM o rfM) (dg_A o shM.length sz)) 0 0 (dg_A o shM.length sz) := by
  refine dg_met (cc := cX12_goesOn) (maxL := 5) (ret := (some .boolean)) (by decide) rfl (Nat.le_of_ble_eq_true rfl) ?_
  intro p e s m args below meth c A hAe harg hx hb hr hml hts hown hlocks hin hP K hS hA1 hA ST hsz ls hl
  rw [← hAe]
  have F : CallFix p m c cX12_goesOn 5 s args (bw yX12_goesOn cX12_goesOn 5 (some .boolean)) RX12 := ⟨hx, hb, hml, hown, hts⟩
  have hl : lv_has ls 5 [(0, .ref (o + 0))] := hl
  have M_0 : dg_sm shM [(0, 3), (0, 4), (0, 5), (0, 6), (0, 7), (0, 8), (0, 9), (0, 12), (0, 34), (0, 42), (0, 43), (0, 45), (0, 46)] [18, 19, 22, 23, 24, 27] S S := dg_sm.rf
  obtain ⟨Q9, hQ9⟩ : ∃ Q : State → Prop, Q = MQ below (va_Qi (fun (r : Int32) S' => CM o S' ∧ dg_sm shM [(0, 3), (0, 4), (0, 5), (0, 6), (0, 7), (0, 8), (0, 9), (0, 12), (0, 34), (0, 42), (0, 43), (0, 45), (0, 46)] [18, 19, 22, 23, 24, 27] S S' ∧ (0 ≤ (r).toInt ∧ (r).toInt ≤ 1) ∧ (∃ y9_3 y9_4 y9_5 y9_8 y9_34 y9_42 y9_45 y9_46 : Int32, S'.1 0 3 = .int y9_3 ∧ S'.1 0 4 = .int y9_4 ∧ S'.1 0 5 = .int y9_5 ∧ S'.1 0 8 = .int y9_8 ∧ S'.1 0 34 = .int y9_34 ∧ S'.1 0 42 = .int y9_42 ∧ S'.1 0 45 = .int y9_45 ∧ S'.1 0 46 = .int y9_46 ∧ (((y9_4).toInt ≤ (y9_5).toInt ∧ (y9_5).toInt ≤ (sl).toInt ∧ ((y9_3).toInt ≠ 0 → (y9_4).toInt + 1 ≤ (y9_5).toInt)) ∧ (sa).toInt ≤ (y9_4).toInt ∧ ((fk).toInt ≠ 0 → (y9_8).toInt ≠ 0) ∧ (((y9_8).toInt = 0 → (r).toInt = 1 → (sa).toInt + 1 ≤ (y9_4).toInt) ∧ ((y9_8).toInt = 0 → (y9_34).toInt + (y9_45).toInt + (y9_42).toInt ≤ (y9_4).toInt)))) ∧ (∀ k9 : Int32, S'.1 0 8 = .int k9 → k9.toInt = 0 → POM S') ∧ ZWM S' ∧ True) (dg_B g D shM o rfM) A) args s 0 0 A := ⟨_, rfl⟩
  rw [← hQ9]
  obtain ⟨hlx_0, hlx_1, hlx_2⟩ := hlx
  have hdm_0 := PSM.dims P1 f_dp f_on f_om
  refine lv_aload_n hx hb dX12_goesOn_0 rfl (lv_at hl 0 rfl) ?_
  refine dg_callv hS hA1 hA (va_runV (As := []) (rest := []) F (c_m_lex l g D o S fk f_fk (by omega) I s.heap.size) (cwV 0 hts (bw_V wB_1153 wB_1154 wB_1155 wB_881 wB_1152) rfl rfl rfl (by decide +kernel) ⟨Nat.le_of_ble_eq_true rfl, Nat.le_of_ble_eq_true rfl⟩) (dg_preV sM_0 rfl K ST hP hS hA1 hA) rfl rfl hl.1 rfl (lv_room (Nat.le_of_ble_eq_true rfl)) dX12_goesOn_1 ⟨Nat.le_of_ble_eq_true rfl, Nat.le_of_ble_eq_true rfl⟩) (fun S_2 hw_2 H locs hP hS => ?_)
  obtain ⟨I_2, m_2, w_2_0, -⟩ := hw_2
  have M_2 := dg_sm.tr M_0 m_2 (by decide) (by decide)
  obtain ⟨y_3, f_y_3, w_2_0⟩ := w_2_0
  have w_2_0 : (fk).toInt ≠ 0 → (y_3).toInt = (fk).toInt := w_2_0
  have b_y_3 : 0 ≤ (y_3).toInt ∧ (y_3).toInt ≤ 6 := dg_I.intb (lo := 0) (hi := 6) I_2 sM_0 (by decide +kernel) f_y_3
  refine lv_aload_n hx hb dX12_goesOn_4 rfl (lv_at hl 0 rfl) ?_
  refine dg_get (C := RX12) (T := TX12) (N := 77) hx hb hts (fun w h => bw_mem (wU_X12 w h)) hown K hP sM_0 rfl 8 (by decide) (hts _ (bw_mem wB_1133)) (fun _ h9 => h9) (v := .int y_3) f_y_3 dX12_goesOn_5 ?_
  refine lv_if_le (tgt := 13) hx hb dX12_goesOn_8 (by decide) (fun c_4 => ?_) (fun c_4 => ?_)
  · have jc_4 := dk_lec (k := 0) (by decide +kernel) c_4
    have w_2_0c : (fk).toInt = 0 := by omega
    clear w_2_0
    refine lv_aload_n hx hb dX12_goesOn_13 rfl (lv_at hl 0 rfl) ?_
    refine dg_get (C := RX12) (T := TX12) (N := 77) hx hb hts (fun w h => bw_mem (wU_X12 w h)) hown K hP sM_0 rfl 42 (by decide) (hts _ (bw_mem wB_1203)) (fun _ h9 => h9) (v := .int dp) ((m_2.1 0 42 _ sM_0 (by decide)).trans f_dp) dX12_goesOn_14 ?_
    refine lv_iconst (v := 1) hx hb dX12_goesOn_17 (by decide +kernel) ?_
    refine lv_isub hx hb dX12_goesOn_18 ?_
    refine lv_topi (fun x_5 ex_5 => ?_)
    have jx_5 : (x_5).toInt = (dp).toInt - 1 := by rw [ex_5]; exact dk_subT rfl (by decide +kernel) (by omega) (by omega)
    refine lv_istore_n (lv' := [(1, .int x_5), (0, .ref (o + 0))]) hx hb dX12_goesOn_19 rfl hl (by decide) rfl (fun ls hl => ?_)
    refine lv_aload_n hx hb dX12_goesOn_20 rfl (lv_at hl 1 rfl) ?_
    refine dg_get (C := RX12) (T := TX12) (N := 77) hx hb hts (fun w h => bw_mem (wU_X12 w h)) hown K hP sM_0 rfl 37 (by decide) (hts _ (bw_mem wB_1213)) (fun _ h9 => h9) (v := .ref (o + 22)) (show S_2.1 0 37 = .ref (o + 22) from dg_I.rel (d := 22) I_2 sM_0 (by decide +kernel)) dX12_goesOn_21 ?_
    refine lv_iload_n hx hb dX12_goesOn_24 rfl (lv_at hl 0 rfl) ?_
    have hin_6 : vp_in x_5 20 := (dk_inv (by omega) (by omega))
    refine dg_iald hx hb K hP sM_22 hin_6 dX12_goesOn_25 (fun x_7 ex_7 => ?_)
    have b_x_7 := dk_all_at (dg_I.row (lo := 0) (hi := 6) I_2 sM_22 (by decide +kernel)) hin_6 ex_7
    refine lv_istore_n (lv' := [(2, .int x_7), (1, .int x_5), (0, .ref (o + 0))]) hx hb dX12_goesOn_26 rfl hl (by decide) rfl (fun ls hl => ?_)
    refine lv_iload_n hx hb dX12_goesOn_27 rfl (lv_at hl 0 rfl) ?_
    refine dg_calli hS hA1 hA (va_runS (As := [.int x_7]) (rest := []) F (c_m_isTest l g D o S_2 x_7 I_2 H.size) (va_cwS 1 hts (bw_S wB_1221 wB_1222 wB_881 wB_1220) rfl rfl rfl (by decide +kernel) ⟨Nat.le_of_ble_eq_true rfl, Nat.le_of_ble_eq_true rfl⟩) (dg_preS K ST hP hS hA1 hA) rfl rfl hl.1 rfl (lv_room (Nat.le_of_ble_eq_true rfl)) dX12_goesOn_28 ⟨Nat.le_of_ble_eq_true rfl, Nat.le_of_ble_eq_true rfl⟩) (fun x_8 S_9 hw_9 H locs hP hS => ?_)
    rw [hw_9.1] at hP
    obtain ⟨hq_9, w_9_0, w_9_1, -⟩ := hw_9
    have w_9_0 : 0 ≤ (x_8).toInt ∧ (x_8).toInt ≤ 1 := w_9_0
    have w_9_1 : (x_8).toInt = 1 ↔ ((x_7).toInt = 1 ∨ (x_7).toInt = 5 ∨ (x_7).toInt = 6) := w_9_1
    refine lv_istore_n (lv' := [(3, .int x_8), (2, .int x_7), (1, .int x_5), (0, .ref (o + 0))]) hx hb dX12_goesOn_31 rfl hl (by decide) rfl (fun ls hl => ?_)
    refine lv_aload_n hx hb dX12_goesOn_32 rfl (lv_at hl 3 rfl) ?_
    refine dg_get (C := RX12) (T := TX12) (N := 77) hx hb hts (fun w h => bw_mem (wU_X12 w h)) hown K hP sM_0 rfl 38 (by decide) (hts _ (bw_mem wB_1214)) (fun _ h9 => h9) (v := .ref (o + 23)) (show S_2.1 0 38 = .ref (o + 23) from dg_I.rel (d := 23) I_2 sM_0 (by decide +kernel)) dX12_goesOn_33 ?_
    refine lv_iload_n hx hb dX12_goesOn_36 rfl (lv_at hl 2 rfl) ?_
    have hin_10 : vp_in x_5 20 := (dk_inv (by omega) (by omega))
    refine dg_iald hx hb K hP sM_23 hin_10 dX12_goesOn_37 (fun x_11 ex_11 => ?_)
    have b_x_11 := dk_all_at (dg_I.row (lo := 0) (hi := 2) I_2 sM_23 (by decide +kernel)) hin_10 ex_11
    refine lv_iconst (v := 2) hx hb dX12_goesOn_38 (by decide +kernel) ?_
    have J_417 : ∀ (H : Heap) (locs : List Loc), va_P D vwCl (dg_w g shM o rfM S_2) H → va_S A s.heap H locs → ∀ ls : Array Slot, lv_has ls 5 [(3, .int x_8), (2, .int x_7), (1, .int x_5), (0, .ref (o + 0))] → W p l e ({ frames := 3, cells := 0, slots := 0, locals := 77 } : Room) s m args below meth c H locs 0 0 Q9 (F0 m 188 ls []) := by
      intro H locs hP hS ls hl
      refine lv_iload_n hx hb dX12_goesOn_188 rfl (lv_at hl 0 rfl) ?_
      have J_706 : ∀ (H : Heap) (locs : List Loc), va_P D vwCl (dg_w g shM o rfM S_2) H → va_S A s.heap H locs → ∀ ls : Array Slot, lv_has ls 5 [(3, .int x_8), (2, .int x_7), (1, .int x_5), (0, .ref (o + 0))] → W p l e ({ frames := 3, cells := 0, slots := 0, locals := 77 } : Room) s m args below meth c H locs 0 0 Q9 (F0 m 285 ls []) := by
        intro H locs hP hS ls hl
        refine lv_iload_n hx hb dX12_goesOn_285 rfl (lv_at hl 0 rfl) ?_
        have J_947 : ∀ (H : Heap) (locs : List Loc), va_P D vwCl (dg_w g shM o rfM S_2) H → va_S A s.heap H locs → ∀ ls : Array Slot, lv_has ls 5 [(3, .int x_8), (2, .int x_7), (1, .int x_5), (0, .ref (o + 0))] → W p l e ({ frames := 3, cells := 0, slots := 0, locals := 77 } : Room) s m args below meth c H locs 0 0 Q9 (F0 m 400 ls []) := by
          intro H locs hP hS ls hl
          refine lv_iload_n hx hb dX12_goesOn_400 rfl (lv_at hl 0 rfl) ?_
          have J_1114 : ∀ (H : Heap) (locs : List Loc), va_P D vwCl (dg_w g shM o rfM S_2) H → va_S A s.heap H locs → ∀ ls : Array Slot, lv_has ls 5 [(3, .int x_8), (2, .int x_7), (1, .int x_5), (0, .ref (o + 0))] → W p l e ({ frames := 3, cells := 0, slots := 0, locals := 77 } : Room) s m args below meth c H locs 0 0 Q9 (F0 m 422 ls []) := by
            intro H locs hP hS ls hl
            refine lv_iload_n hx hb dX12_goesOn_422 rfl (lv_at hl 1 rfl) ?_
            refine lv_iconst (v := 2) hx hb dX12_goesOn_423 (by decide +kernel) ?_
            refine lv_icmp_ge (tgt := 441) hx hb dX12_goesOn_424 (by decide) (fun c_1115 => ?_) (fun c_1115 => ?_)
            · have jc_1115 := dk_gec (k := 2) (by decide +kernel) c_1115
              refine lv_iload_n hx hb dX12_goesOn_441 rfl (lv_at hl 1 rfl) ?_
              refine lv_iconst (v := 3) hx hb dX12_goesOn_442 (by decide +kernel) ?_
              have J_1229 : ∀ (u9 : Unit), ((x_7 : Int32).toInt = 3 ∨ (x_7 : Int32).toInt = 6) → ∀ (H : Heap) (locs : List Loc), va_P D vwCl (dg_w g shM o rfM S_2) H → va_S A s.heap H locs → ∀ ls : Array Slot, lv_has ls 5 [(3, .int x_8), (2, .int x_7), (1, .int x_5), (0, .ref (o + 0))] → W p l e ({ frames := 3, cells := 0, slots := 0, locals := 77 } : Room) s m args below meth c H locs 0 0 Q9 (F0 m 452 ls []) := by
                intro u9 rel_0 H locs hP hS ls hl
                refine lv_aload_n hx hb dX12_goesOn_452 rfl (lv_at hl 3 rfl) ?_
                refine lv_bipush (v := 44) hx hb dX12_goesOn_453 (by decide +kernel) ?_
                refine dg_calli hS hA1 hA (va_runV (As := [.int 44]) (rest := []) F (c_m_isSign l g D o S_2 44 sg ((m_2.1 0 3 _ sM_0 (by decide)).trans f_sg) (by omega) va ((m_2.1 0 6 _ sM_0 (by decide)).trans f_va) (by omega) I_2 H.size) (cwV 1 hts (bw_V wB_1157 wB_1158 wB_1159 wB_881 wB_1156) rfl rfl rfl (by decide +kernel) ⟨Nat.le_of_ble_eq_true rfl, Nat.le_of_ble_eq_true rfl⟩) (dg_preV sM_0 rfl K ST hP hS hA1 hA) rfl rfl hl.1 rfl (lv_room (Nat.le_of_ble_eq_true rfl)) dX12_goesOn_455 ⟨Nat.le_of_ble_eq_true rfl, Nat.le_of_ble_eq_true rfl⟩) (fun x_1230 S_1231 hw_1231 H locs hP hS => ?_)
                rw [hw_1231.1] at hP
                obtain ⟨hq_1231, w_1231_0, w_1231_1, -⟩ := hw_1231
                have hz_1232 : (44 : Int32).toInt = 44 := by decide +kernel
                have w_1231_0 : 0 ≤ (x_1230).toInt ∧ (x_1230).toInt ≤ 1 := w_1231_0
                have w_1231_1 : (x_1230).toInt = 1 ↔ ((sg).toInt = 3 ∧ (va).toInt = ((44 : Int32)).toInt) := w_1231_1
                refine lv_if_ne (tgt := 470) hx hb dX12_goesOn_458 (by decide) (fun c_1233 => ?_) (fun c_1233 => ?_)
                · have jc_1233 := dk_neqc (k := 0) (by decide +kernel) c_1233
                  have jbc_1233 : 1 ≤ (x_1230).toInt := by omega
                  clear jc_1233
                  have w_1231_1_r := w_1231_1.mp (by omega)
                  obtain ⟨w_1231_1_r1, w_1231_1_r2⟩ := w_1231_1_r
                  clear w_1231_1
                  have hlx_2r := hlx_2 (by omega)
                  clear hlx_2
                  refine lv_aload_n hx hb dX12_goesOn_470 rfl (lv_at hl 3 rfl) ?_
                  refine dg_get (C := RX12) (T := TX12) (N := 77) hx hb hts (fun w h => bw_mem (wU_X12 w h)) hown K hP sM_0 rfl 8 (by decide) (hts _ (bw_mem wB_1133)) (fun _ h9 => h9) (v := .int y_3) f_y_3 dX12_goesOn_471 ?_
                  refine lv_if_le (tgt := 479) hx hb dX12_goesOn_474 (by decide) (fun _ => ?_) (fun c => absurd (dk_lep (k := 0) (by decide +kernel) (by omega)) c)
                  refine lv_aload_n hx hb dX12_goesOn_479 rfl (lv_at hl 3 rfl) ?_
                  refine lv_iconst (v := 1) hx hb dX12_goesOn_480 (by decide +kernel) ?_
                  have hz_1234 : (1 : Int32).toInt = 1 := by decide +kernel
                  refine dg_callv hS hA1 hA (va_runV (As := [.int 1]) (rest := []) F (c_m_joins l g D o S_2 1 (by decide +kernel) cd ((m_2.1 0 34 _ sM_0 (by decide)).trans f_cd) (by omega) om ((m_2.1 0 45 _ sM_0 (by decide)).trans f_om) (by omega) (by omega) (ZWM.keep ZW m_2 (by decide) (by decide) (by decide) (by decide)) (ZKM.keep ZK m_2 (by decide) (by decide)) (P1M.keep P1 m_2 (by decide) (by decide) (by decide) (by decide) (by decide) (by decide) (by decide) (by decide) (by decide) (by decide) (by decide) (by decide) (by decide) (by decide) (by decide)) I_2 H.size) (cwV 1 hts (bw_V wB_1234 wB_1235 wB_1236 wB_881 wB_1233) rfl rfl rfl (by decide +kernel) ⟨Nat.le_of_ble_eq_true rfl, Nat.le_of_ble_eq_true rfl⟩) (dg_preV sM_0 rfl K ST hP hS hA1 hA) rfl rfl hl.1 rfl (lv_room (Nat.le_of_ble_eq_true rfl)) dX12_goesOn_481 ⟨Nat.le_of_ble_eq_true rfl, Nat.le_of_ble_eq_true rfl⟩) (fun S_1235 hw_1235 H locs hP hS => ?_)
                  obtain ⟨I_1235, m_1235, w_1235_0, w_1235_1, w_1235_2, w_1235_3, -⟩ := hw_1235
                  have M_1235 := dg_sm.tr M_2 m_1235 (by decide) (by decide)
                  have hz_1236 : (1 : Int32).toInt = 1 := by decide +kernel
                  obtain ⟨y_1237, y_1238, f_y_1237, f_y_1238, w_1235_0⟩ := w_1235_0
                  have w_1235_0 : (y_1237).toInt + (y_1238).toInt = (cd).toInt + (om).toInt := w_1235_0
                  have b_y_1237 : 0 ≤ (y_1237).toInt ∧ (y_1237).toInt ≤ 1600 := dg_I.intb (lo := 0) (hi := 1600) I_1235 sM_0 (by decide +kernel) f_y_1237
                  have b_y_1238 : 0 ≤ (y_1238).toInt ∧ (y_1238).toInt ≤ 500 := dg_I.intb (lo := 0) (hi := 500) I_1235 sM_0 (by decide +kernel) f_y_1238
                  have w_1235_1 : TOPM S_1235 (1 : Int32) := w_1235_1
                  obtain ⟨x_1239, f_x_1239, b_x_1239⟩ := dg_I.int (i := 0) (k := 43) (lo := (-2147483648)) (hi := 2147483647) I_1235 sM_0 (by decide +kernel)
                  refine lv_aload_n hx hb dX12_goesOn_484 rfl (lv_at hl 3 rfl) ?_
                  refine dg_get (C := RX12) (T := TX12) (N := 77) hx hb hts (fun w h => bw_mem (wU_X12 w h)) hown K hP sM_0 rfl 37 (by decide) (hts _ (bw_mem wB_1213)) (fun _ h9 => h9) (v := .ref (o + 22)) (show S_1235.1 0 37 = .ref (o + 22) from dg_I.rel (d := 22) I_1235 sM_0 (by decide +kernel)) dX12_goesOn_485 ?_
                  refine lv_iload_n hx hb dX12_goesOn_488 rfl (lv_at hl 2 rfl) ?_
                  refine lv_iload_n hx hb dX12_goesOn_489 rfl (lv_at hl 1 rfl) ?_
                  refine lv_iconst (v := 3) hx hb dX12_goesOn_490 (by decide +kernel) ?_
                  refine lv_icmp_ne (tgt := 498) hx hb dX12_goesOn_491 (by decide) (fun c_1240 => ?_) (fun c_1240 => ?_)
                  · have jc_1240 := dk_neqc (k := 3) (by decide +kernel) c_1240
                    clear jc_1240
                    refine lv_iconst (v := 3) hx hb dX12_goesOn_498 (by decide +kernel) ?_
                    have hin_1241 : vp_in x_5 20 := (dk_inv (by omega) (by omega))
                    have hz_1243 : (3 : Int32).toInt = 3 := by decide +kernel
                    refine dg_iast hx hb K hP hS hA1 sM_22 hin_1241 dX12_goesOn_499 (fun S_1242 e_1242 H locs hP hS => ?_)
                    have I_1242 := dg_I.ufu (lo := 0) (hi := 6) I_1235 e_1242 sM_22 (by decide +kernel) (show 0 ≤ ((3 : Int32)).toInt ∧ ((3 : Int32)).toInt ≤ 6 from (by decide +kernel))
                    have M_1242 := dg_sm.uf M_1235 e_1242 sM_22 (by decide)
                    have hz_1244 : (3 : Int32).toInt = 3 := by decide +kernel
                    refine lv_aload_n hx hb dX12_goesOn_500 rfl (lv_at hl 3 rfl) ?_
                    refine dg_get (C := RX12) (T := TX12) (N := 77) hx hb hts (fun w h => bw_mem (wU_X12 w h)) hown K hP sM_0 rfl 38 (by decide) (hts _ (bw_mem wB_1214)) (fun _ h9 => h9) (v := .ref (o + 23)) (show S_1242.1 0 38 = .ref (o + 23) from dg_I.rel (d := 23) I_1242 sM_0 (by decide +kernel)) dX12_goesOn_501 ?_
                    refine lv_iload_n hx hb dX12_goesOn_504 rfl (lv_at hl 2 rfl) ?_
                    refine lv_iconst (v := 0) hx hb dX12_goesOn_505 (by decide +kernel) ?_
                    have hin_1245 : vp_in x_5 20 := (dk_inv (by omega) (by omega))
                    have hz_1247 : (0 : Int32).toInt = 0 := by decide +kernel
                    refine dg_iast hx hb K hP hS hA1 sM_23 hin_1245 dX12_goesOn_506 (fun S_1246 e_1246 H locs hP hS => ?_)
                    have I_1246 := dg_I.ufu (lo := 0) (hi := 2) I_1242 e_1246 sM_23 (by decide +kernel) (show 0 ≤ ((0 : Int32)).toInt ∧ ((0 : Int32)).toInt ≤ 2 from (by decide +kernel))
                    have M_1246 := dg_sm.uf M_1242 e_1246 sM_23 (by decide)
                    have hz_1248 : (0 : Int32).toInt = 0 := by decide +kernel
                    have P0_1246 : P0M S_1246 := P1M.comma w_1235_3 (((m_1235.1 0 42 _ sM_0 (by decide)).trans (m_2.1 0 42 _ sM_0 (by decide))).trans f_dp) f_x_1239 f_y_1238 w_1235_1 (by omega) (fx := x_5) (by omega) ((congrFun (m_1235.2 22 _ sM_22 (by decide)).1 _).trans ex_7.symm) (by omega) e_1242 e_1246
                    refine lv_aload_n hx hb dX12_goesOn_507 rfl (lv_at hl 3 rfl) ?_
                    refine dg_callv hS hA1 hA (va_runV (As := []) (rest := []) F (c_m_ahead l g D o S_1246 se (((dg_uf_F e_1246 0 5).trans ((dg_uf_F e_1242 0 5).trans ((m_1235.1 0 5 _ sM_0 (by decide)).trans (m_2.1 0 5 _ sM_0 (by decide))))).trans f_se) (by omega) sl (((dg_uf_F e_1246 0 2).trans ((dg_uf_F e_1242 0 2).trans ((m_1235.1 0 2 _ sM_0 (by decide)).trans (m_2.1 0 2 _ sM_0 (by decide))))).trans f_sl) (by omega) (by omega) I_1246 H.size) (cwV 0 hts (bw_V wB_1161 wB_1162 wB_1163 wB_881 wB_1160) rfl rfl rfl (by decide +kernel) ⟨Nat.le_of_ble_eq_true rfl, Nat.le_of_ble_eq_true rfl⟩) (dg_preV sM_0 rfl K ST hP hS hA1 hA) rfl rfl hl.1 rfl (lv_room (Nat.le_of_ble_eq_true rfl)) dX12_goesOn_508 ⟨Nat.le_of_ble_eq_true rfl, Nat.le_of_ble_eq_true rfl⟩) (fun S_1249 hw_1249 H locs hP hS => ?_)
                    obtain ⟨I_1249, m_1249, w_1249_0, -⟩ := hw_1249
                    have M_1249 := dg_sm.tr M_1246 m_1249 (by decide) (by decide)
                    obtain ⟨y_1250, y_1251, y_1252, f_y_1250, f_y_1251, f_y_1252, w_1249_0⟩ := w_1249_0
                    have w_1249_0 : (se).toInt ≤ (y_1251).toInt ∧ (y_1251).toInt ≤ (y_1252).toInt ∧ (y_1252).toInt ≤ (sl).toInt ∧ ((y_1250).toInt ≠ 0 → (y_1251).toInt + 1 ≤ (y_1252).toInt) := w_1249_0
                    obtain ⟨w_1249_0_0, w_1249_0_1, w_1249_0_2, w_1249_0_3⟩ := w_1249_0
                    have b_y_1250 : 0 ≤ (y_1250).toInt ∧ (y_1250).toInt ≤ 3 := dg_I.intb (lo := 0) (hi := 3) I_1249 sM_0 (by decide +kernel) f_y_1250
                    have b_y_1251 : 0 ≤ (y_1251).toInt ∧ (y_1251).toInt ≤ 1600 := dg_I.intb (lo := 0) (hi := 1600) I_1249 sM_0 (by decide +kernel) f_y_1251
                    have b_y_1252 : 0 ≤ (y_1252).toInt ∧ (y_1252).toInt ≤ 1600 := dg_I.intb (lo := 0) (hi := 1600) I_1249 sM_0 (by decide +kernel) f_y_1252
                    refine lv_aload_n hx hb dX12_goesOn_511 rfl (lv_at hl 3 rfl) ?_
                    refine lv_iconst (v := 0) hx hb dX12_goesOn_512 (by decide +kernel) ?_
                    have hz_1253 : (0 : Int32).toInt = 0 := by decide +kernel
                    refine dg_put (ci := 12) (v := .int 0) (ty := tyX12 46) (C := RX12) (T := TX12) (N := 77) hx hb hts (fun w h => bw_mem (wU_X12 w h)) tyX12 tyX12_ok nmX12 hown K hP hS hA1 sM_0 rfl 46 (by decide) (hts _ (bw_mem wB_1237)) (fun _ h9 => h9) rfl (by decide +kernel) (by decide +kernel) (by decide +kernel) dX12_goesOn_513 (fun S_1254 e_1254 H locs hP hS => ?_)
                    have I_1254 := dg_I.uFi (lo := 0) (hi := 1) I_1249 e_1254 sM_0 (by decide +kernel) (show 0 ≤ ((0 : Int32)).toInt ∧ ((0 : Int32)).toInt ≤ 1 from (by decide +kernel))
                    have M_1254 := dg_sm.uF M_1249 e_1254 sM_0 (by decide)
                    refine lv_iconst (v := 1) hx hb dX12_goesOn_516 (by decide +kernel) ?_
                    have hz_1255 : (1 : Int32).toInt = 1 := by decide +kernel
                    have hz_1256 : (1 : Int32).toInt = 1 := by decide +kernel
                    have hz_1257 : (0 : Int32).toInt = 0 := by decide +kernel
                    have hz_1258 : (1 : Int32).toInt = 1 := by decide +kernel
                    have hz_1259 : (0 : Int32).toInt = 0 := by decide +kernel
                    refine W.widen (k := 0) (n := 0) (Nat.le_of_ble_eq_true rfl) (Nat.le_of_ble_eq_true rfl) ?_
                    rw [hQ9]
                    exact dg_iret hx hb hr hlocks (by decide +kernel) hP hS ⟨I_1254, M_1254, (by decide +kernel), ⟨y_1250, y_1251, y_1252, y_3, y_1237, dp, y_1238, 0, ((dg_uF_ne e_1254 (fun z => absurd z.2 (by decide))).trans f_y_1250), ((dg_uF_ne e_1254 (fun z => absurd z.2 (by decide))).trans f_y_1251), ((dg_uF_ne e_1254 (fun z => absurd z.2 (by decide))).trans f_y_1252), (((dg_uF_ne e_1254 (fun z => absurd z.2 (by decide))).trans ((m_1249.1 0 8 _ sM_0 (by decide)).trans ((dg_uf_F e_1246 0 8).trans ((dg_uf_F e_1242 0 8).trans (m_1235.1 0 8 _ sM_0 (by decide)))))).trans f_y_3), (((dg_uF_ne e_1254 (fun z => absurd z.2 (by decide))).trans ((m_1249.1 0 34 _ sM_0 (by decide)).trans ((dg_uf_F e_1246 0 34).trans (dg_uf_F e_1242 0 34)))).trans f_y_1237), (((dg_uF_ne e_1254 (fun z => absurd z.2 (by decide))).trans ((m_1249.1 0 42 _ sM_0 (by decide)).trans ((dg_uf_F e_1246 0 42).trans ((dg_uf_F e_1242 0 42).trans ((m_1235.1 0 42 _ sM_0 (by decide)).trans (m_2.1 0 42 _ sM_0 (by decide))))))).trans f_dp), (((dg_uF_ne e_1254 (fun z => absurd z.2 (by decide))).trans ((m_1249.1 0 45 _ sM_0 (by decide)).trans ((dg_uf_F e_1246 0 45).trans (dg_uf_F e_1242 0 45)))).trans f_y_1238), (dg_uF_at e_1254), (by omega)⟩, (fun k9 hk9 hk0 => POM.mk0 (P0M.keep (P0M.keep P0_1246 m_1249 (by decide) (by decide) (by decide) (by decide) (by decide) (by decide) (by decide) (by decide) (by decide) (by decide) (by decide) (by decide) (by decide) (by decide) (by decide)) (dg_sm.uF (WF := [(0, 46)]) (WA := []) dg_sm.rf e_1254 sM_0 (by decide)) (by decide) (by decide) (by decide) (by decide) (by decide) (by decide) (by decide) (by decide) (by decide) (by decide) (by decide) (by decide) (by decide) (by decide) (by decide)) (dg_uF_at e_1254) (by omega)), (ZWM.keep (ZWM.keep (ZWM.keep (ZWM.keep w_1235_2 (dg_sm.uf (WF := []) (WA := [22]) dg_sm.rf e_1242 sM_22 (by decide)) (by decide) (by decide) (by decide) (by decide)) (dg_sm.uf (WF := []) (WA := [23]) dg_sm.rf e_1246 sM_23 (by decide)) (by decide) (by decide) (by decide) (by decide)) m_1249 (by decide) (by decide) (by decide) (by decide)) (dg_sm.uF (WF := [(0, 46)]) (WA := []) dg_sm.rf e_1254 sM_0 (by decide)) (by decide) (by decide) (by decide) (by decide)), trivial⟩ dX12_goesOn_517
                  · have jc_1240 := dk_eqc (k := 3) (by decide +kernel) c_1240
                    refine lv_iconst (v := 4) hx hb dX12_goesOn_494 (by decide +kernel) ?_
                    refine lv_goto (tgt := 499) hx hb dX12_goesOn_495 (by decide) ?_
                    have hin_1260 : vp_in x_5 20 := (dk_inv (by omega) (by omega))
                    have hz_1262 : (4 : Int32).toInt = 4 := by decide +kernel
                    refine dg_iast hx hb K hP hS hA1 sM_22 hin_1260 dX12_goesOn_499 (fun S_1261 e_1261 H locs hP hS => ?_)
                    have I_1261 := dg_I.ufu (lo := 0) (hi := 6) I_1235 e_1261 sM_22 (by decide +kernel) (show 0 ≤ ((4 : Int32)).toInt ∧ ((4 : Int32)).toInt ≤ 6 from (by decide +kernel))
                    have M_1261 := dg_sm.uf M_1235 e_1261 sM_22 (by decide)
                    have hz_1263 : (4 : Int32).toInt = 4 := by decide +kernel
                    refine lv_aload_n hx hb dX12_goesOn_500 rfl (lv_at hl 3 rfl) ?_
                    refine dg_get (C := RX12) (T := TX12) (N := 77) hx hb hts (fun w h => bw_mem (wU_X12 w h)) hown K hP sM_0 rfl 38 (by decide) (hts _ (bw_mem wB_1214)) (fun _ h9 => h9) (v := .ref (o + 23)) (show S_1261.1 0 38 = .ref (o + 23) from dg_I.rel (d := 23) I_1261 sM_0 (by decide +kernel)) dX12_goesOn_501 ?_
                    refine lv_iload_n hx hb dX12_goesOn_504 rfl (lv_at hl 2 rfl) ?_
                    refine lv_iconst (v := 0) hx hb dX12_goesOn_505 (by decide +kernel) ?_
                    have hin_1264 : vp_in x_5 20 := (dk_inv (by omega) (by omega))
                    have hz_1266 : (0 : Int32).toInt = 0 := by decide +kernel
                    refine dg_iast hx hb K hP hS hA1 sM_23 hin_1264 dX12_goesOn_506 (fun S_1265 e_1265 H locs hP hS => ?_)
                    have I_1265 := dg_I.ufu (lo := 0) (hi := 2) I_1261 e_1265 sM_23 (by decide +kernel) (show 0 ≤ ((0 : Int32)).toInt ∧ ((0 : Int32)).toInt ≤ 2 from (by decide +kernel))
                    have M_1265 := dg_sm.uf M_1261 e_1265 sM_23 (by decide)
                    have hz_1267 : (0 : Int32).toInt = 0 := by decide +kernel
                    have P0_1265 : P0M S_1265 := P1M.comma w_1235_3 (((m_1235.1 0 42 _ sM_0 (by decide)).trans (m_2.1 0 42 _ sM_0 (by decide))).trans f_dp) f_x_1239 f_y_1238 w_1235_1 (by omega) (fx := x_5) (by omega) ((congrFun (m_1235.2 22 _ sM_22 (by decide)).1 _).trans ex_7.symm) (by omega) e_1261 e_1265
                    refine lv_aload_n hx hb dX12_goesOn_507 rfl (lv_at hl 3 rfl) ?_
                    refine dg_callv hS hA1 hA (va_runV (As := []) (rest := []) F (c_m_ahead l g D o S_1265 se (((dg_uf_F e_1265 0 5).trans ((dg_uf_F e_1261 0 5).trans ((m_1235.1 0 5 _ sM_0 (by decide)).trans (m_2.1 0 5 _ sM_0 (by decide))))).trans f_se) (by omega) sl (((dg_uf_F e_1265 0 2).trans ((dg_uf_F e_1261 0 2).trans ((m_1235.1 0 2 _ sM_0 (by decide)).trans (m_2.1 0 2 _ sM_0 (by decide))))).trans f_sl) (by omega) (by omega) I_1265 H.size) (cwV 0 hts (bw_V wB_1161 wB_1162 wB_1163 wB_881 wB_1160) rfl rfl rfl (by decide +kernel) ⟨Nat.le_of_ble_eq_true rfl, Nat.le_of_ble_eq_true rfl⟩) (dg_preV sM_0 rfl K ST hP hS hA1 hA) rfl rfl hl.1 rfl (lv_room (Nat.le_of_ble_eq_true rfl)) dX12_goesOn_508 ⟨Nat.le_of_ble_eq_true rfl, Nat.le_of_ble_eq_true rfl⟩) (fun S_1268 hw_1268 H locs hP hS => ?_)
                    obtain ⟨I_1268, m_1268, w_1268_0, -⟩ := hw_1268
                    have M_1268 := dg_sm.tr M_1265 m_1268 (by decide) (by decide)
                    obtain ⟨y_1269, y_1270, y_1271, f_y_1269, f_y_1270, f_y_1271, w_1268_0⟩ := w_1268_0
                    have w_1268_0 : (se).toInt ≤ (y_1270).toInt ∧ (y_1270).toInt ≤ (y_1271).toInt ∧ (y_1271).toInt ≤ (sl).toInt ∧ ((y_1269).toInt ≠ 0 → (y_1270).toInt + 1 ≤ (y_1271).toInt) := w_1268_0
                    obtain ⟨w_1268_0_0, w_1268_0_1, w_1268_0_2, w_1268_0_3⟩ := w_1268_0
                    have b_y_1269 : 0 ≤ (y_1269).toInt ∧ (y_1269).toInt ≤ 3 := dg_I.intb (lo := 0) (hi := 3) I_1268 sM_0 (by decide +kernel) f_y_1269
                    have b_y_1270 : 0 ≤ (y_1270).toInt ∧ (y_1270).toInt ≤ 1600 := dg_I.intb (lo := 0) (hi := 1600) I_1268 sM_0 (by decide +kernel) f_y_1270
                    have b_y_1271 : 0 ≤ (y_1271).toInt ∧ (y_1271).toInt ≤ 1600 := dg_I.intb (lo := 0) (hi := 1600) I_1268 sM_0 (by decide +kernel) f_y_1271
                    refine lv_aload_n hx hb dX12_goesOn_511 rfl (lv_at hl 3 rfl) ?_
                    refine lv_iconst (v := 0) hx hb dX12_goesOn_512 (by decide +kernel) ?_
                    have hz_1272 : (0 : Int32).toInt = 0 := by decide +kernel
                    refine dg_put (ci := 12) (v := .int 0) (ty := tyX12 46) (C := RX12) (T := TX12) (N := 77) hx hb hts (fun w h => bw_mem (wU_X12 w h)) tyX12 tyX12_ok nmX12 hown K hP hS hA1 sM_0 rfl 46 (by decide) (hts _ (bw_mem wB_1237)) (fun _ h9 => h9) rfl (by decide +kernel) (by decide +kernel) (by decide +kernel) dX12_goesOn_513 (fun S_1273 e_1273 H locs hP hS => ?_)
                    have I_1273 := dg_I.uFi (lo := 0) (hi := 1) I_1268 e_1273 sM_0 (by decide +kernel) (show 0 ≤ ((0 : Int32)).toInt ∧ ((0 : Int32)).toInt ≤ 1 from (by decide +kernel))
                    have M_1273 := dg_sm.uF M_1268 e_1273 sM_0 (by decide)
                    refine lv_iconst (v := 1) hx hb dX12_goesOn_516 (by decide +kernel) ?_
                    have hz_1274 : (1 : Int32).toInt = 1 := by decide +kernel
                    have hz_1275 : (1 : Int32).toInt = 1 := by decide +kernel
                    have hz_1276 : (0 : Int32).toInt = 0 := by decide +kernel
                    have hz_1277 : (1 : Int32).toInt = 1 := by decide +kernel
                    have hz_1278 : (0 : Int32).toInt = 0 := by decide +kernel
                    refine W.widen (k := 0) (n := 0) (Nat.le_of_ble_eq_true rfl) (Nat.le_of_ble_eq_true rfl) ?_
                    rw [hQ9]
                    exact dg_iret hx hb hr hlocks (by decide +kernel) hP hS ⟨I_1273, M_1273, (by decide +kernel), ⟨y_1269, y_1270, y_1271, y_3, y_1237, dp, y_1238, 0, ((dg_uF_ne e_1273 (fun z => absurd z.2 (by decide))).trans f_y_1269), ((dg_uF_ne e_1273 (fun z => absurd z.2 (by decide))).trans f_y_1270), ((dg_uF_ne e_1273 (fun z => absurd z.2 (by decide))).trans f_y_1271), (((dg_uF_ne e_1273 (fun z => absurd z.2 (by decide))).trans ((m_1268.1 0 8 _ sM_0 (by decide)).trans ((dg_uf_F e_1265 0 8).trans ((dg_uf_F e_1261 0 8).trans (m_1235.1 0 8 _ sM_0 (by decide)))))).trans f_y_3), (((dg_uF_ne e_1273 (fun z => absurd z.2 (by decide))).trans ((m_1268.1 0 34 _ sM_0 (by decide)).trans ((dg_uf_F e_1265 0 34).trans (dg_uf_F e_1261 0 34)))).trans f_y_1237), (((dg_uF_ne e_1273 (fun z => absurd z.2 (by decide))).trans ((m_1268.1 0 42 _ sM_0 (by decide)).trans ((dg_uf_F e_1265 0 42).trans ((dg_uf_F e_1261 0 42).trans ((m_1235.1 0 42 _ sM_0 (by decide)).trans (m_2.1 0 42 _ sM_0 (by decide))))))).trans f_dp), (((dg_uF_ne e_1273 (fun z => absurd z.2 (by decide))).trans ((m_1268.1 0 45 _ sM_0 (by decide)).trans ((dg_uf_F e_1265 0 45).trans (dg_uf_F e_1261 0 45)))).trans f_y_1238), (dg_uF_at e_1273), (by omega)⟩, (fun k9 hk9 hk0 => POM.mk0 (P0M.keep (P0M.keep P0_1265 m_1268 (by decide) (by decide) (by decide) (by decide) (by decide) (by decide) (by decide) (by decide) (by decide) (by decide) (by decide) (by decide) (by decide) (by decide) (by decide)) (dg_sm.uF (WF := [(0, 46)]) (WA := []) dg_sm.rf e_1273 sM_0 (by decide)) (by decide) (by decide) (by decide) (by decide) (by decide) (by decide) (by decide) (by decide) (by decide) (by decide) (by decide) (by decide) (by decide) (by decide) (by decide)) (dg_uF_at e_1273) (by omega)), (ZWM.keep (ZWM.keep (ZWM.keep (ZWM.keep w_1235_2 (dg_sm.uf (WF := []) (WA := [22]) dg_sm.rf e_1261 sM_22 (by decide)) (by decide) (by decide) (by decide) (by decide)) (dg_sm.uf (WF := []) (WA := [23]) dg_sm.rf e_1265 sM_23 (by decide)) (by decide) (by decide) (by decide) (by decide)) m_1268 (by decide) (by decide) (by decide) (by decide)) (dg_sm.uF (WF := [(0, 46)]) (WA := []) dg_sm.rf e_1273 sM_0 (by decide)) (by decide) (by decide) (by decide) (by decide)), trivial⟩ dX12_goesOn_517
                · have jc_1233 := dk_eqc (k := 0) (by decide +kernel) c_1233
                  clear w_1231_1
                  refine lv_aload_n hx hb dX12_goesOn_461 rfl (lv_at hl 3 rfl) ?_
                  refine lv_iconst (v := 1) hx hb dX12_goesOn_462 (by decide +kernel) ?_
                  refine lv_aload_n hx hb dX12_goesOn_463 rfl (lv_at hl 3 rfl) ?_
                  refine dg_get (C := RX12) (T := TX12) (N := 77) hx hb hts (fun w h => bw_mem (wU_X12 w h)) hown K hP sM_0 rfl 4 (by decide) (hts _ (bw_mem wB_1145)) (fun _ h9 => h9) (v := .int sa) ((m_2.1 0 4 _ sM_0 (by decide)).trans f_sa) dX12_goesOn_464 ?_
                  have hz_1279 : (1 : Int32).toInt = 1 := by decide +kernel
                  refine dg_callv hS hA1 hA (va_runV (As := [.int 1, .int sa]) (rest := []) F (c_m_blame l g D o S_2 1 (by decide +kernel) sa y_3 f_y_3 (by omega) I_2 H.size) (cwV 2 hts (bw_V wB_1137 wB_1138 wB_1139 wB_881 wB_1136) rfl rfl rfl (by decide +kernel) ⟨Nat.le_of_ble_eq_true rfl, Nat.le_of_ble_eq_true rfl⟩) (dg_preV sM_0 rfl K ST hP hS hA1 hA) rfl rfl hl.1 rfl (lv_room (Nat.le_of_ble_eq_true rfl)) dX12_goesOn_467 ⟨Nat.le_of_ble_eq_true rfl, Nat.le_of_ble_eq_true rfl⟩) (fun S_1280 hw_1280 H locs hP hS => ?_)
                  obtain ⟨I_1280, m_1280, w_1280_0, -⟩ := hw_1280
                  have M_1280 := dg_sm.tr M_2 m_1280 (by decide) (by decide)
                  have hz_1281 : (1 : Int32).toInt = 1 := by decide +kernel
                  obtain ⟨y_1282, f_y_1282, w_1280_0⟩ := w_1280_0
                  have w_1280_0 : ((y_3).toInt ≠ 0 → (y_1282).toInt = (y_3).toInt) ∧ ((y_3).toInt = 0 → (y_1282).toInt = ((1 : Int32)).toInt) := w_1280_0
                  obtain ⟨w_1280_0_0, w_1280_0_1⟩ := w_1280_0
                  clear w_1280_0_0
                  have w_1280_0_1r := w_1280_0_1 (by omega)
                  clear w_1280_0_1
                  have b_y_1282 : 0 ≤ (y_1282).toInt ∧ (y_1282).toInt ≤ 6 := dg_I.intb (lo := 0) (hi := 6) I_1280 sM_0 (by decide +kernel) f_y_1282
                  have hbl_y_1282 : 1 ≤ (y_1282).toInt := by omega
                  refine lv_aload_n hx hb dX12_goesOn_470 rfl (lv_at hl 3 rfl) ?_
                  refine dg_get (C := RX12) (T := TX12) (N := 77) hx hb hts (fun w h => bw_mem (wU_X12 w h)) hown K hP sM_0 rfl 8 (by decide) (hts _ (bw_mem wB_1133)) (fun _ h9 => h9) (v := .int y_1282) f_y_1282 dX12_goesOn_471 ?_
                  refine lv_if_le (tgt := 479) hx hb dX12_goesOn_474 (by decide) (fun c => absurd c (fun z => absurd (dk_lec (k := 0) (by decide +kernel) z) (by omega))) (fun _ => ?_)
                  refine lv_iconst (v := 0) hx hb dX12_goesOn_477 (by decide +kernel) ?_
                  have hz_1283 : (0 : Int32).toInt = 0 := by decide +kernel
                  have hz_1284 : (0 : Int32).toInt = 0 := by decide +kernel
                  have hz_1285 : (0 : Int32).toInt = 0 := by decide +kernel
                  refine W.widen (k := 0) (n := 0) (Nat.le_of_ble_eq_true rfl) (Nat.le_of_ble_eq_true rfl) ?_
                  rw [hQ9]
                  exact dg_iret hx hb hr hlocks (by decide +kernel) hP hS ⟨I_1280, M_1280, (by decide +kernel), ⟨sg, sa, se, y_1282, cd, dp, om, oo, (((m_1280.1 0 3 _ sM_0 (by decide)).trans (m_2.1 0 3 _ sM_0 (by decide))).trans f_sg), (((m_1280.1 0 4 _ sM_0 (by decide)).trans (m_2.1 0 4 _ sM_0 (by decide))).trans f_sa), (((m_1280.1 0 5 _ sM_0 (by decide)).trans (m_2.1 0 5 _ sM_0 (by decide))).trans f_se), f_y_1282, (((m_1280.1 0 34 _ sM_0 (by decide)).trans (m_2.1 0 34 _ sM_0 (by decide))).trans f_cd), (((m_1280.1 0 42 _ sM_0 (by decide)).trans (m_2.1 0 42 _ sM_0 (by decide))).trans f_dp), (((m_1280.1 0 45 _ sM_0 (by decide)).trans (m_2.1 0 45 _ sM_0 (by decide))).trans f_om), (((m_1280.1 0 46 _ sM_0 (by decide)).trans (m_2.1 0 46 _ sM_0 (by decide))).trans f_oo), (by omega)⟩, (fun k9 hk9 hk0 => by have q9 := (f_y_1282).symm.trans hk9; cases q9; omega), (ZWM.keep (ZWM.keep ZW m_2 (by decide) (by decide) (by decide) (by decide)) m_1280 (by decide) (by decide) (by decide) (by decide)), trivial⟩ dX12_goesOn_478
              refine lv_icmp_eq (tgt := 452) hx hb dX12_goesOn_443 (by decide) (fun c_1286 => ?_) (fun c_1286 => ?_)
              · have jc_1286 := dk_eqc (k := 3) (by decide +kernel) c_1286
                exact J_1229 ()  (by omega) _ _ hP hS _ (lv_sub hl [0, 1, 2, 3] rfl)
              · have jc_1286 := dk_neqc (k := 3) (by decide +kernel) c_1286
                clear jc_1286
                refine lv_iload_n hx hb dX12_goesOn_446 rfl (lv_at hl 1 rfl) ?_
                refine lv_bipush (v := 6) hx hb dX12_goesOn_447 (by decide +kernel) ?_
                refine lv_icmp_ne (tgt := 518) hx hb dX12_goesOn_449 (by decide) (fun c_1287 => ?_) (fun c_1287 => ?_)
                · have jc_1287 := dk_neqc (k := 6) (by decide +kernel) c_1287
                  have jtc_1287 : (x_7).toInt ≤ 5 := by omega
                  clear jc_1287
                  refine lv_aload_n hx hb dX12_goesOn_518 rfl (lv_at hl 3 rfl) ?_
                  refine lv_iload_n hx hb dX12_goesOn_519 rfl (lv_at hl 1 rfl) ?_
                  refine lv_iconst (v := 5) hx hb dX12_goesOn_520 (by decide +kernel) ?_
                  have J_1343 : ∀ (x_1289 : Int32), (41 ≤ (x_1289).toInt ∧ (x_1289).toInt ≤ 93) → ∀ (H : Heap) (locs : List Loc), va_P D vwCl (dg_w g shM o rfM S_2) H → va_S A s.heap H locs → ∀ ls : Array Slot, lv_has ls 5 [(3, .int x_8), (2, .int x_7), (1, .int x_5), (0, .ref (o + 0))] → W p l e ({ frames := 3, cells := 0, slots := 0, locals := 77 } : Room) s m args below meth c H locs 0 0 Q9 (F0 m 531 ls [.int x_1289, .ref (o + 0)]) := by
                    intro x_1289 b_x_1289 H locs hP hS ls hl
                    refine dg_calli hS hA1 hA (va_runV (As := [.int x_1289]) (rest := []) F (c_m_isSign l g D o S_2 x_1289 sg ((m_2.1 0 3 _ sM_0 (by decide)).trans f_sg) (by omega) va ((m_2.1 0 6 _ sM_0 (by decide)).trans f_va) (by omega) I_2 H.size) (cwV 1 hts (bw_V wB_1157 wB_1158 wB_1159 wB_881 wB_1156) rfl rfl rfl (by decide +kernel) ⟨Nat.le_of_ble_eq_true rfl, Nat.le_of_ble_eq_true rfl⟩) (dg_preV sM_0 rfl K ST hP hS hA1 hA) rfl rfl hl.1 rfl (lv_room (Nat.le_of_ble_eq_true rfl)) dX12_goesOn_531 ⟨Nat.le_of_ble_eq_true rfl, Nat.le_of_ble_eq_true rfl⟩) (fun x_1344 S_1345 hw_1345 H locs hP hS => ?_)
                    rw [hw_1345.1] at hP
                    obtain ⟨hq_1345, w_1345_0, w_1345_1, -⟩ := hw_1345
                    have w_1345_0 : 0 ≤ (x_1344).toInt ∧ (x_1344).toInt ≤ 1 := w_1345_0
                    have w_1345_1 : (x_1344).toInt = 1 ↔ ((sg).toInt = 3 ∧ (va).toInt = (x_1289).toInt) := w_1345_1
                    refine lv_if_ne (tgt := 546) hx hb dX12_goesOn_534 (by decide) (fun c_1346 => ?_) (fun c_1346 => ?_)
                    · have jc_1346 := dk_neqc (k := 0) (by decide +kernel) c_1346
                      have jbc_1346 : 1 ≤ (x_1344).toInt := by omega
                      clear jc_1346
                      have w_1345_1_r := w_1345_1.mp (by omega)
                      obtain ⟨w_1345_1_r1, w_1345_1_r2⟩ := w_1345_1_r
                      clear w_1345_1
                      have hlx_2r := hlx_2 (by omega)
                      clear hlx_2
                      refine lv_aload_n hx hb dX12_goesOn_546 rfl (lv_at hl 3 rfl) ?_
                      refine dg_get (C := RX12) (T := TX12) (N := 77) hx hb hts (fun w h => bw_mem (wU_X12 w h)) hown K hP sM_0 rfl 8 (by decide) (hts _ (bw_mem wB_1133)) (fun _ h9 => h9) (v := .int y_3) f_y_3 dX12_goesOn_547 ?_
                      refine lv_if_le (tgt := 555) hx hb dX12_goesOn_550 (by decide) (fun _ => ?_) (fun c => absurd (dk_lep (k := 0) (by decide +kernel) (by omega)) c)
                      refine lv_aload_n hx hb dX12_goesOn_555 rfl (lv_at hl 3 rfl) ?_
                      refine lv_iconst (v := 1) hx hb dX12_goesOn_556 (by decide +kernel) ?_
                      have hz_1347 : (1 : Int32).toInt = 1 := by decide +kernel
                      refine dg_callv hS hA1 hA (va_runV (As := [.int 1]) (rest := []) F (c_m_joins l g D o S_2 1 (by decide +kernel) cd ((m_2.1 0 34 _ sM_0 (by decide)).trans f_cd) (by omega) om ((m_2.1 0 45 _ sM_0 (by decide)).trans f_om) (by omega) (by omega) (ZWM.keep ZW m_2 (by decide) (by decide) (by decide) (by decide)) (ZKM.keep ZK m_2 (by decide) (by decide)) (P1M.keep P1 m_2 (by decide) (by decide) (by decide) (by decide) (by decide) (by decide) (by decide) (by decide) (by decide) (by decide) (by decide) (by decide) (by decide) (by decide) (by decide)) I_2 H.size) (cwV 1 hts (bw_V wB_1234 wB_1235 wB_1236 wB_881 wB_1233) rfl rfl rfl (by decide +kernel) ⟨Nat.le_of_ble_eq_true rfl, Nat.le_of_ble_eq_true rfl⟩) (dg_preV sM_0 rfl K ST hP hS hA1 hA) rfl rfl hl.1 rfl (lv_room (Nat.le_of_ble_eq_true rfl)) dX12_goesOn_557 ⟨Nat.le_of_ble_eq_true rfl, Nat.le_of_ble_eq_true rfl⟩) (fun S_1348 hw_1348 H locs hP hS => ?_)
                      obtain ⟨I_1348, m_1348, w_1348_0, w_1348_1, w_1348_2, w_1348_3, -⟩ := hw_1348
                      have M_1348 := dg_sm.tr M_2 m_1348 (by decide) (by decide)
                      have hz_1349 : (1 : Int32).toInt = 1 := by decide +kernel
                      obtain ⟨y_1350, y_1351, f_y_1350, f_y_1351, w_1348_0⟩ := w_1348_0
                      have w_1348_0 : (y_1350).toInt + (y_1351).toInt = (cd).toInt + (om).toInt := w_1348_0
                      have b_y_1350 : 0 ≤ (y_1350).toInt ∧ (y_1350).toInt ≤ 1600 := dg_I.intb (lo := 0) (hi := 1600) I_1348 sM_0 (by decide +kernel) f_y_1350
                      have b_y_1351 : 0 ≤ (y_1351).toInt ∧ (y_1351).toInt ≤ 500 := dg_I.intb (lo := 0) (hi := 500) I_1348 sM_0 (by decide +kernel) f_y_1351
                      have w_1348_1 : TOPM S_1348 (1 : Int32) := w_1348_1
                      obtain ⟨x_1352, f_x_1352, b_x_1352⟩ := dg_I.int (i := 0) (k := 43) (lo := (-2147483648)) (hi := 2147483647) I_1348 sM_0 (by decide +kernel)
                      have hkd := PSM.kind w_1348_3 (((m_1348.1 0 42 _ sM_0 (by decide)).trans (m_2.1 0 42 _ sM_0 (by decide))).trans f_dp) f_x_1352 f_y_1351 (fx := x_5) (by omega) ((congrFun (m_1348.2 22 _ sM_22 (by decide)).1 _).trans ex_7.symm) (rfl : S_1348.2.1 25 (x_5 : Int32).toNatClampNeg = _)
                      unfold dk_fk at hkd
                      have hcl9 := dk_clN x_5
                      refine lv_aload_n hx hb dX12_goesOn_560 rfl (lv_at hl 3 rfl) ?_
                      refine lv_dup hx hb dX12_goesOn_561 rfl ?_
                      refine dg_get (C := RX12) (T := TX12) (N := 77) hx hb hts (fun w h => bw_mem (wU_X12 w h)) hown K hP sM_0 rfl 42 (by decide) (hts _ (bw_mem wB_1203)) (fun _ h9 => h9) (v := .int dp) (((m_1348.1 0 42 _ sM_0 (by decide)).trans (m_2.1 0 42 _ sM_0 (by decide))).trans f_dp) dX12_goesOn_562 ?_
                      refine lv_iconst (v := 1) hx hb dX12_goesOn_565 (by decide +kernel) ?_
                      refine lv_isub hx hb dX12_goesOn_566 ?_
                      refine lv_topi (fun x_1353 ex_1353 => ?_)
                      have jx_1353 : (x_1353).toInt = (dp).toInt - 1 := by rw [ex_1353]; exact dk_subT rfl (by decide +kernel) (by omega) (by omega)
                      refine dg_put (ci := 12) (v := .int x_1353) (ty := tyX12 42) (C := RX12) (T := TX12) (N := 77) hx hb hts (fun w h => bw_mem (wU_X12 w h)) tyX12 tyX12_ok nmX12 hown K hP hS hA1 sM_0 rfl 42 (by decide) (hts _ (bw_mem wB_1203)) (fun _ h9 => h9) rfl (by decide +kernel) rfl rfl dX12_goesOn_567 (fun S_1354 e_1354 H locs hP hS => ?_)
                      have I_1354 := dg_I.uFi (lo := 0) (hi := 20) I_1348 e_1354 sM_0 (by decide +kernel) (show 0 ≤ (x_1353).toInt ∧ (x_1353).toInt ≤ 20 from (by omega))
                      have M_1354 := dg_sm.uF M_1348 e_1354 sM_0 (by decide)
                      refine lv_aload_n hx hb dX12_goesOn_570 rfl (lv_at hl 3 rfl) ?_
                      refine lv_dup hx hb dX12_goesOn_571 rfl ?_
                      refine dg_get (C := RX12) (T := TX12) (N := 77) hx hb hts (fun w h => bw_mem (wU_X12 w h)) hown K hP sM_0 rfl 43 (by decide) (hts _ (bw_mem wB_1212)) (fun _ h9 => h9) (v := .int x_1352) ((dg_uF_ne e_1354 (fun z => absurd z.2 (by decide))).trans f_x_1352) dX12_goesOn_572 ?_
                      refine lv_iconst (v := 1) hx hb dX12_goesOn_575 (by decide +kernel) ?_
                      refine lv_isub hx hb dX12_goesOn_576 ?_
                      refine lv_topi (fun x_1355 ex_1355 => ?_)
                      refine dg_put (ci := 12) (v := .int x_1355) (ty := tyX12 43) (C := RX12) (T := TX12) (N := 77) hx hb hts (fun w h => bw_mem (wU_X12 w h)) tyX12 tyX12_ok nmX12 hown K hP hS hA1 sM_0 rfl 43 (by decide) (hts _ (bw_mem wB_1212)) (fun _ h9 => h9) rfl (by decide +kernel) rfl rfl dX12_goesOn_577 (fun S_1356 e_1356 H locs hP hS => ?_)
                      have I_1356 := dg_I.uFi (lo := (-2147483648)) (hi := 2147483647) I_1354 e_1356 sM_0 (by decide +kernel) (show (-2147483648) ≤ (x_1355).toInt ∧ (x_1355).toInt ≤ 2147483647 from (dk_full _))
                      have M_1356 := dg_sm.uF M_1354 e_1356 sM_0 (by decide)
                      refine lv_iload_n hx hb dX12_goesOn_580 rfl (lv_at hl 1 rfl) ?_
                      refine lv_iconst (v := 4) hx hb dX12_goesOn_581 (by decide +kernel) ?_
                      refine lv_icmp_ne (tgt := 596) hx hb dX12_goesOn_582 (by decide) (fun c_1357 => ?_) (fun c_1357 => ?_)
                      · have jc_1357 := dk_neqc (k := 4) (by decide +kernel) c_1357
                        clear jc_1357
                        have P1_1356 : P1M S_1356 := P1M.close2 w_1348_3 (((m_1348.1 0 42 _ sM_0 (by decide)).trans (m_2.1 0 42 _ sM_0 (by decide))).trans f_dp) f_x_1352 f_y_1351 w_1348_1 (by omega) (fx := x_5) (by omega) ((congrFun (m_1348.2 22 _ sM_22 (by decide)).1 _).trans ex_7.symm) (by omega) e_1354 (by omega) e_1356 (by omega)
                        refine lv_iload_n hx hb dX12_goesOn_596 rfl (lv_at hl 1 rfl) ?_
                        refine lv_iconst (v := 5) hx hb dX12_goesOn_597 (by decide +kernel) ?_
                        refine lv_icmp_ne (tgt := 613) hx hb dX12_goesOn_598 (by decide) (fun c_1358 => ?_) (fun c_1358 => ?_)
                        · have jc_1358 := dk_neqc (k := 5) (by decide +kernel) c_1358
                          have jtc_1358 : (x_7).toInt ≤ 2 := by omega
                          clear jc_1358
                          refine lv_aload_n hx hb dX12_goesOn_613 rfl (lv_at hl 3 rfl) ?_
                          refine dg_callv hS hA1 hA (va_runV (As := []) (rest := []) F (c_m_ahead l g D o S_1356 se (((dg_uF_ne e_1356 (fun z => absurd z.2 (by decide))).trans ((dg_uF_ne e_1354 (fun z => absurd z.2 (by decide))).trans ((m_1348.1 0 5 _ sM_0 (by decide)).trans (m_2.1 0 5 _ sM_0 (by decide))))).trans f_se) (by omega) sl (((dg_uF_ne e_1356 (fun z => absurd z.2 (by decide))).trans ((dg_uF_ne e_1354 (fun z => absurd z.2 (by decide))).trans ((m_1348.1 0 2 _ sM_0 (by decide)).trans (m_2.1 0 2 _ sM_0 (by decide))))).trans f_sl) (by omega) (by omega) I_1356 H.size) (cwV 0 hts (bw_V wB_1161 wB_1162 wB_1163 wB_881 wB_1160) rfl rfl rfl (by decide +kernel) ⟨Nat.le_of_ble_eq_true rfl, Nat.le_of_ble_eq_true rfl⟩) (dg_preV sM_0 rfl K ST hP hS hA1 hA) rfl rfl hl.1 rfl (lv_room (Nat.le_of_ble_eq_true rfl)) dX12_goesOn_614 ⟨Nat.le_of_ble_eq_true rfl, Nat.le_of_ble_eq_true rfl⟩) (fun S_1359 hw_1359 H locs hP hS => ?_)
                          obtain ⟨I_1359, m_1359, w_1359_0, -⟩ := hw_1359
                          have M_1359 := dg_sm.tr M_1356 m_1359 (by decide) (by decide)
                          obtain ⟨y_1360, y_1361, y_1362, f_y_1360, f_y_1361, f_y_1362, w_1359_0⟩ := w_1359_0
                          have w_1359_0 : (se).toInt ≤ (y_1361).toInt ∧ (y_1361).toInt ≤ (y_1362).toInt ∧ (y_1362).toInt ≤ (sl).toInt ∧ ((y_1360).toInt ≠ 0 → (y_1361).toInt + 1 ≤ (y_1362).toInt) := w_1359_0
                          obtain ⟨w_1359_0_0, w_1359_0_1, w_1359_0_2, w_1359_0_3⟩ := w_1359_0
                          have b_y_1360 : 0 ≤ (y_1360).toInt ∧ (y_1360).toInt ≤ 3 := dg_I.intb (lo := 0) (hi := 3) I_1359 sM_0 (by decide +kernel) f_y_1360
                          have b_y_1361 : 0 ≤ (y_1361).toInt ∧ (y_1361).toInt ≤ 1600 := dg_I.intb (lo := 0) (hi := 1600) I_1359 sM_0 (by decide +kernel) f_y_1361
                          have b_y_1362 : 0 ≤ (y_1362).toInt ∧ (y_1362).toInt ≤ 1600 := dg_I.intb (lo := 0) (hi := 1600) I_1359 sM_0 (by decide +kernel) f_y_1362
                          refine lv_iconst (v := 1) hx hb dX12_goesOn_617 (by decide +kernel) ?_
                          have hz_1363 : (1 : Int32).toInt = 1 := by decide +kernel
                          have hz_1364 : (1 : Int32).toInt = 1 := by decide +kernel
                          have hz_1365 : (1 : Int32).toInt = 1 := by decide +kernel
                          refine W.widen (k := 0) (n := 0) (Nat.le_of_ble_eq_true rfl) (Nat.le_of_ble_eq_true rfl) ?_
                          rw [hQ9]
                          exact dg_iret hx hb hr hlocks (by decide +kernel) hP hS ⟨I_1359, M_1359, (by decide +kernel), ⟨y_1360, y_1361, y_1362, y_3, y_1350, x_1353, y_1351, oo, f_y_1360, f_y_1361, f_y_1362, (((m_1359.1 0 8 _ sM_0 (by decide)).trans ((dg_uF_ne e_1356 (fun z => absurd z.2 (by decide))).trans ((dg_uF_ne e_1354 (fun z => absurd z.2 (by decide))).trans (m_1348.1 0 8 _ sM_0 (by decide))))).trans f_y_3), (((m_1359.1 0 34 _ sM_0 (by decide)).trans ((dg_uF_ne e_1356 (fun z => absurd z.2 (by decide))).trans (dg_uF_ne e_1354 (fun z => absurd z.2 (by decide))))).trans f_y_1350), (((m_1359.1 0 42 _ sM_0 (by decide)).trans (dg_uF_ne e_1356 (fun z => absurd z.2 (by decide)))).trans (dg_uF_at e_1354)), (((m_1359.1 0 45 _ sM_0 (by decide)).trans ((dg_uF_ne e_1356 (fun z => absurd z.2 (by decide))).trans (dg_uF_ne e_1354 (fun z => absurd z.2 (by decide))))).trans f_y_1351), (((m_1359.1 0 46 _ sM_0 (by decide)).trans ((dg_uF_ne e_1356 (fun z => absurd z.2 (by decide))).trans ((dg_uF_ne e_1354 (fun z => absurd z.2 (by decide))).trans ((m_1348.1 0 46 _ sM_0 (by decide)).trans (m_2.1 0 46 _ sM_0 (by decide)))))).trans f_oo), (by omega)⟩, (fun k9 hk9 hk0 => POM.mk1 (P1M.keep P1_1356 m_1359 (by decide) (by decide) (by decide) (by decide) (by decide) (by decide) (by decide) (by decide) (by decide) (by decide) (by decide) (by decide) (by decide) (by decide) (by decide)) (((m_1359.1 0 46 _ sM_0 (by decide)).trans ((dg_uF_ne e_1356 (fun z => absurd z.2 (by decide))).trans ((dg_uF_ne e_1354 (fun z => absurd z.2 (by decide))).trans ((m_1348.1 0 46 _ sM_0 (by decide)).trans (m_2.1 0 46 _ sM_0 (by decide)))))).trans f_oo) (by omega)), (ZWM.keep (ZWM.keep (ZWM.keep w_1348_2 (dg_sm.uF (WF := [(0, 42)]) (WA := []) dg_sm.rf e_1354 sM_0 (by decide)) (by decide) (by decide) (by decide) (by decide)) (dg_sm.uF (WF := [(0, 43)]) (WA := []) dg_sm.rf e_1356 sM_0 (by decide)) (by decide) (by decide) (by decide) (by decide)) m_1359 (by decide) (by decide) (by decide) (by decide)), trivial⟩ dX12_goesOn_618
                        · have jc_1358 := dk_eqc (k := 5) (by decide +kernel) c_1358
                          refine lv_aload_n hx hb dX12_goesOn_601 rfl (lv_at hl 3 rfl) ?_
                          refine dg_get (C := RX12) (T := TX12) (N := 77) hx hb hts (fun w h => bw_mem (wU_X12 w h)) hown K hP sM_0 rfl 38 (by decide) (hts _ (bw_mem wB_1214)) (fun _ h9 => h9) (v := .ref (o + 23)) (show S_1356.1 0 38 = .ref (o + 23) from dg_I.rel (d := 23) I_1356 sM_0 (by decide +kernel)) dX12_goesOn_602 ?_
                          refine lv_aload_n hx hb dX12_goesOn_605 rfl (lv_at hl 3 rfl) ?_
                          refine dg_get (C := RX12) (T := TX12) (N := 77) hx hb hts (fun w h => bw_mem (wU_X12 w h)) hown K hP sM_0 rfl 42 (by decide) (hts _ (bw_mem wB_1203)) (fun _ h9 => h9) (v := .int x_1353) ((dg_uF_ne e_1356 (fun z => absurd z.2 (by decide))).trans (dg_uF_at e_1354)) dX12_goesOn_606 ?_
                          refine lv_iconst (v := 1) hx hb dX12_goesOn_609 (by decide +kernel) ?_
                          refine lv_isub hx hb dX12_goesOn_610 ?_
                          refine lv_topi (fun x_1366 ex_1366 => ?_)
                          have jx_1366 : (x_1366).toInt = (x_1353).toInt - 1 := by rw [ex_1366]; exact dk_subT rfl (by decide +kernel) (by omega) (by omega)
                          refine lv_iconst (v := 2) hx hb dX12_goesOn_611 (by decide +kernel) ?_
                          have hin_1367 : vp_in x_1366 20 := (dk_inv (by omega) (by omega))
                          have hz_1369 : (2 : Int32).toInt = 2 := by decide +kernel
                          refine dg_iast hx hb K hP hS hA1 sM_23 hin_1367 dX12_goesOn_612 (fun S_1368 e_1368 H locs hP hS => ?_)
                          have I_1368 := dg_I.ufu (lo := 0) (hi := 2) I_1356 e_1368 sM_23 (by decide +kernel) (show 0 ≤ ((2 : Int32)).toInt ∧ ((2 : Int32)).toInt ≤ 2 from (by decide +kernel))
                          have M_1368 := dg_sm.uf M_1356 e_1368 sM_23 (by decide)
                          have hz_1370 : (2 : Int32).toInt = 2 := by decide +kernel
                          have P1_1368 : P1M S_1368 := P1M.close5 P1_1356 ((dg_uF_ne e_1356 (fun z => absurd z.2 (by decide))).trans (dg_uF_at e_1354)) (by omega) (by omega) (by omega) e_1368
                          refine lv_aload_n hx hb dX12_goesOn_613 rfl (lv_at hl 3 rfl) ?_
                          refine dg_callv hS hA1 hA (va_runV (As := []) (rest := []) F (c_m_ahead l g D o S_1368 se (((dg_uf_F e_1368 0 5).trans ((dg_uF_ne e_1356 (fun z => absurd z.2 (by decide))).trans ((dg_uF_ne e_1354 (fun z => absurd z.2 (by decide))).trans ((m_1348.1 0 5 _ sM_0 (by decide)).trans (m_2.1 0 5 _ sM_0 (by decide)))))).trans f_se) (by omega) sl (((dg_uf_F e_1368 0 2).trans ((dg_uF_ne e_1356 (fun z => absurd z.2 (by decide))).trans ((dg_uF_ne e_1354 (fun z => absurd z.2 (by decide))).trans ((m_1348.1 0 2 _ sM_0 (by decide)).trans (m_2.1 0 2 _ sM_0 (by decide)))))).trans f_sl) (by omega) (by omega) I_1368 H.size) (cwV 0 hts (bw_V wB_1161 wB_1162 wB_1163 wB_881 wB_1160) rfl rfl rfl (by decide +kernel) ⟨Nat.le_of_ble_eq_true rfl, Nat.le_of_ble_eq_true rfl⟩) (dg_preV sM_0 rfl K ST hP hS hA1 hA) rfl rfl hl.1 rfl (lv_room (Nat.le_of_ble_eq_true rfl)) dX12_goesOn_614 ⟨Nat.le_of_ble_eq_true rfl, Nat.le_of_ble_eq_true rfl⟩) (fun S_1371 hw_1371 H locs hP hS => ?_)
                          obtain ⟨I_1371, m_1371, w_1371_0, -⟩ := hw_1371
                          have M_1371 := dg_sm.tr M_1368 m_1371 (by decide) (by decide)
                          obtain ⟨y_1372, y_1373, y_1374, f_y_1372, f_y_1373, f_y_1374, w_1371_0⟩ := w_1371_0
                          have w_1371_0 : (se).toInt ≤ (y_1373).toInt ∧ (y_1373).toInt ≤ (y_1374).toInt ∧ (y_1374).toInt ≤ (sl).toInt ∧ ((y_1372).toInt ≠ 0 → (y_1373).toInt + 1 ≤ (y_1374).toInt) := w_1371_0
                          obtain ⟨w_1371_0_0, w_1371_0_1, w_1371_0_2, w_1371_0_3⟩ := w_1371_0
                          have b_y_1372 : 0 ≤ (y_1372).toInt ∧ (y_1372).toInt ≤ 3 := dg_I.intb (lo := 0) (hi := 3) I_1371 sM_0 (by decide +kernel) f_y_1372
                          have b_y_1373 : 0 ≤ (y_1373).toInt ∧ (y_1373).toInt ≤ 1600 := dg_I.intb (lo := 0) (hi := 1600) I_1371 sM_0 (by decide +kernel) f_y_1373
                          have b_y_1374 : 0 ≤ (y_1374).toInt ∧ (y_1374).toInt ≤ 1600 := dg_I.intb (lo := 0) (hi := 1600) I_1371 sM_0 (by decide +kernel) f_y_1374
                          refine lv_iconst (v := 1) hx hb dX12_goesOn_617 (by decide +kernel) ?_
                          have hz_1375 : (1 : Int32).toInt = 1 := by decide +kernel
                          have hz_1376 : (1 : Int32).toInt = 1 := by decide +kernel
                          have hz_1377 : (1 : Int32).toInt = 1 := by decide +kernel
                          refine W.widen (k := 0) (n := 0) (Nat.le_of_ble_eq_true rfl) (Nat.le_of_ble_eq_true rfl) ?_
                          rw [hQ9]
                          exact dg_iret hx hb hr hlocks (by decide +kernel) hP hS ⟨I_1371, M_1371, (by decide +kernel), ⟨y_1372, y_1373, y_1374, y_3, y_1350, x_1353, y_1351, oo, f_y_1372, f_y_1373, f_y_1374, (((m_1371.1 0 8 _ sM_0 (by decide)).trans ((dg_uf_F e_1368 0 8).trans ((dg_uF_ne e_1356 (fun z => absurd z.2 (by decide))).trans ((dg_uF_ne e_1354 (fun z => absurd z.2 (by decide))).trans (m_1348.1 0 8 _ sM_0 (by decide)))))).trans f_y_3), (((m_1371.1 0 34 _ sM_0 (by decide)).trans ((dg_uf_F e_1368 0 34).trans ((dg_uF_ne e_1356 (fun z => absurd z.2 (by decide))).trans (dg_uF_ne e_1354 (fun z => absurd z.2 (by decide)))))).trans f_y_1350), (((m_1371.1 0 42 _ sM_0 (by decide)).trans ((dg_uf_F e_1368 0 42).trans (dg_uF_ne e_1356 (fun z => absurd z.2 (by decide))))).trans (dg_uF_at e_1354)), (((m_1371.1 0 45 _ sM_0 (by decide)).trans ((dg_uf_F e_1368 0 45).trans ((dg_uF_ne e_1356 (fun z => absurd z.2 (by decide))).trans (dg_uF_ne e_1354 (fun z => absurd z.2 (by decide)))))).trans f_y_1351), (((m_1371.1 0 46 _ sM_0 (by decide)).trans ((dg_uf_F e_1368 0 46).trans ((dg_uF_ne e_1356 (fun z => absurd z.2 (by decide))).trans ((dg_uF_ne e_1354 (fun z => absurd z.2 (by decide))).trans ((m_1348.1 0 46 _ sM_0 (by decide)).trans (m_2.1 0 46 _ sM_0 (by decide))))))).trans f_oo), (by omega)⟩, (fun k9 hk9 hk0 => POM.mk1 (P1M.keep P1_1368 m_1371 (by decide) (by decide) (by decide) (by decide) (by decide) (by decide) (by decide) (by decide) (by decide) (by decide) (by decide) (by decide) (by decide) (by decide) (by decide)) (((m_1371.1 0 46 _ sM_0 (by decide)).trans ((dg_uf_F e_1368 0 46).trans ((dg_uF_ne e_1356 (fun z => absurd z.2 (by decide))).trans ((dg_uF_ne e_1354 (fun z => absurd z.2 (by decide))).trans ((m_1348.1 0 46 _ sM_0 (by decide)).trans (m_2.1 0 46 _ sM_0 (by decide))))))).trans f_oo) (by omega)), (ZWM.keep (ZWM.keep (ZWM.keep (ZWM.keep w_1348_2 (dg_sm.uF (WF := [(0, 42)]) (WA := []) dg_sm.rf e_1354 sM_0 (by decide)) (by decide) (by decide) (by decide) (by decide)) (dg_sm.uF (WF := [(0, 43)]) (WA := []) dg_sm.rf e_1356 sM_0 (by decide)) (by decide) (by decide) (by decide) (by decide)) (dg_sm.uf (WF := []) (WA := [23]) dg_sm.rf e_1368 sM_23 (by decide)) (by decide) (by decide) (by decide) (by decide)) m_1371 (by decide) (by decide) (by decide) (by decide)), trivial⟩ dX12_goesOn_618
                      · have jc_1357 := dk_eqc (k := 4) (by decide +kernel) c_1357
                        refine lv_aload_n hx hb dX12_goesOn_585 rfl (lv_at hl 3 rfl) ?_
                        refine lv_aload_n hx hb dX12_goesOn_586 rfl (lv_at hl 3 rfl) ?_
                        refine dg_get (C := RX12) (T := TX12) (N := 77) hx hb hts (fun w h => bw_mem (wU_X12 w h)) hown K hP sM_0 rfl 40 (by decide) (hts _ (bw_mem wB_1232)) (fun _ h9 => h9) (v := .ref (o + 25)) (show S_1356.1 0 40 = .ref (o + 25) from dg_I.rel (d := 25) I_1356 sM_0 (by decide +kernel)) dX12_goesOn_587 ?_
                        refine lv_iload_n hx hb dX12_goesOn_590 rfl (lv_at hl 2 rfl) ?_
                        have hin_1378 : vp_in x_5 20 := (dk_inv (by omega) (by omega))
                        refine dg_iald hx hb K hP sM_25 hin_1378 dX12_goesOn_591 (fun x_1379 ex_1379 => ?_)
                        have hp25_x_1379 : S_1348.2.1 25 (x_5 : Int32).toNatClampNeg = x_1379 := by rw [ex_1379, (((dg_uF_f e_1356 25).trans (dg_uF_f e_1354 25)))]
                        rw [hp25_x_1379] at hkd
                        refine lv_iconst (v := 0) hx hb dX12_goesOn_592 (by decide +kernel) ?_
                        refine dg_callv hS hA1 hA (va_runV (As := [.int x_1379, .int 0]) (rest := []) F (c_m_add l g D o S_1356 x_1379 (by omega) 0 y_1350 (((dg_uF_ne e_1356 (fun z => absurd z.2 (by decide))).trans (dg_uF_ne e_1354 (fun z => absurd z.2 (by decide)))).trans f_y_1350) (by omega) (ZWM.keep (ZWM.keep w_1348_2 (dg_sm.uF (WF := [(0, 42)]) (WA := []) dg_sm.rf e_1354 sM_0 (by decide)) (by decide) (by decide) (by decide) (by decide)) (dg_sm.uF (WF := [(0, 43)]) (WA := []) dg_sm.rf e_1356 sM_0 (by decide)) (by decide) (by decide) (by decide) (by decide)) (ZKM.keep (ZKM.keep (ZKM.keep (ZKM.keep ZK m_2 (by decide) (by decide)) m_1348 (by decide) (by decide)) (dg_sm.uF (WF := [(0, 42)]) (WA := []) dg_sm.rf e_1354 sM_0 (by decide)) (by decide) (by decide)) (dg_sm.uF (WF := [(0, 43)]) (WA := []) dg_sm.rf e_1356 sM_0 (by decide)) (by decide) (by decide)) I_1356 H.size) (cwV 2 hts (bw_V wB_1209 wB_1210 wB_1211 wB_881 wB_1208) rfl rfl rfl (by decide +kernel) ⟨Nat.le_of_ble_eq_true rfl, Nat.le_of_ble_eq_true rfl⟩) (dg_preV sM_0 rfl K ST hP hS hA1 hA) rfl rfl hl.1 rfl (lv_room (Nat.le_of_ble_eq_true rfl)) dX12_goesOn_593 ⟨Nat.le_of_ble_eq_true rfl, Nat.le_of_ble_eq_true rfl⟩) (fun S_1380 hw_1380 H locs hP hS => ?_)
                        obtain ⟨I_1380, m_1380, w_1380_0, w_1380_1, w_1380_2, -⟩ := hw_1380
                        have M_1380 := dg_sm.tr M_1356 m_1380 (by decide) (by decide)
                        have hz_1381 : (0 : Int32).toInt = 0 := by decide +kernel
                        obtain ⟨y_1382, f_y_1382, w_1380_0⟩ := w_1380_0
                        have w_1380_0 : (y_1382).toInt = (y_1350).toInt + 1 := w_1380_0
                        have b_y_1382 : 0 ≤ (y_1382).toInt ∧ (y_1382).toInt ≤ 1600 := dg_I.intb (lo := 0) (hi := 1600) I_1380 sM_0 (by decide +kernel) f_y_1382
                        have w_1380_1 : ADM S_1356 S_1380 x_1379 := w_1380_1
                        have P1_1380 : P1M S_1380 := P1M.close4 w_1348_3 (((m_1348.1 0 42 _ sM_0 (by decide)).trans (m_2.1 0 42 _ sM_0 (by decide))).trans f_dp) f_x_1352 f_y_1351 w_1348_1 (by omega) (fx := x_5) (by omega) ((congrFun (m_1348.2 22 _ sM_22 (by decide)).1 _).trans ex_7.symm) (by omega) e_1354 (by omega) e_1356 (by omega) hp25_x_1379 m_1380 w_1380_1
                        refine lv_iload_n hx hb dX12_goesOn_596 rfl (lv_at hl 1 rfl) ?_
                        refine lv_iconst (v := 5) hx hb dX12_goesOn_597 (by decide +kernel) ?_
                        refine lv_icmp_ne (tgt := 613) hx hb dX12_goesOn_598 (by decide) (fun _ => ?_) (fun c => absurd c (fun z => absurd (dk_eqc (k := 5) (by decide +kernel) z) (by omega)))
                        refine lv_aload_n hx hb dX12_goesOn_613 rfl (lv_at hl 3 rfl) ?_
                        refine dg_callv hS hA1 hA (va_runV (As := []) (rest := []) F (c_m_ahead l g D o S_1380 se (((m_1380.1 0 5 _ sM_0 (by decide)).trans ((dg_uF_ne e_1356 (fun z => absurd z.2 (by decide))).trans ((dg_uF_ne e_1354 (fun z => absurd z.2 (by decide))).trans ((m_1348.1 0 5 _ sM_0 (by decide)).trans (m_2.1 0 5 _ sM_0 (by decide)))))).trans f_se) (by omega) sl (((m_1380.1 0 2 _ sM_0 (by decide)).trans ((dg_uF_ne e_1356 (fun z => absurd z.2 (by decide))).trans ((dg_uF_ne e_1354 (fun z => absurd z.2 (by decide))).trans ((m_1348.1 0 2 _ sM_0 (by decide)).trans (m_2.1 0 2 _ sM_0 (by decide)))))).trans f_sl) (by omega) (by omega) I_1380 H.size) (cwV 0 hts (bw_V wB_1161 wB_1162 wB_1163 wB_881 wB_1160) rfl rfl rfl (by decide +kernel) ⟨Nat.le_of_ble_eq_true rfl, Nat.le_of_ble_eq_true rfl⟩) (dg_preV sM_0 rfl K ST hP hS hA1 hA) rfl rfl hl.1 rfl (lv_room (Nat.le_of_ble_eq_true rfl)) dX12_goesOn_614 ⟨Nat.le_of_ble_eq_true rfl, Nat.le_of_ble_eq_true rfl⟩) (fun S_1383 hw_1383 H locs hP hS => ?_)
                        obtain ⟨I_1383, m_1383, w_1383_0, -⟩ := hw_1383
                        have M_1383 := dg_sm.tr M_1380 m_1383 (by decide) (by decide)
                        obtain ⟨y_1384, y_1385, y_1386, f_y_1384, f_y_1385, f_y_1386, w_1383_0⟩ := w_1383_0
                        have w_1383_0 : (se).toInt ≤ (y_1385).toInt ∧ (y_1385).toInt ≤ (y_1386).toInt ∧ (y_1386).toInt ≤ (sl).toInt ∧ ((y_1384).toInt ≠ 0 → (y_1385).toInt + 1 ≤ (y_1386).toInt) := w_1383_0
                        obtain ⟨w_1383_0_0, w_1383_0_1, w_1383_0_2, w_1383_0_3⟩ := w_1383_0
                        have b_y_1384 : 0 ≤ (y_1384).toInt ∧ (y_1384).toInt ≤ 3 := dg_I.intb (lo := 0) (hi := 3) I_1383 sM_0 (by decide +kernel) f_y_1384
                        have b_y_1385 : 0 ≤ (y_1385).toInt ∧ (y_1385).toInt ≤ 1600 := dg_I.intb (lo := 0) (hi := 1600) I_1383 sM_0 (by decide +kernel) f_y_1385
                        have b_y_1386 : 0 ≤ (y_1386).toInt ∧ (y_1386).toInt ≤ 1600 := dg_I.intb (lo := 0) (hi := 1600) I_1383 sM_0 (by decide +kernel) f_y_1386
                        refine lv_iconst (v := 1) hx hb dX12_goesOn_617 (by decide +kernel) ?_
                        have hz_1387 : (1 : Int32).toInt = 1 := by decide +kernel
                        have hz_1388 : (1 : Int32).toInt = 1 := by decide +kernel
                        have hz_1389 : (1 : Int32).toInt = 1 := by decide +kernel
                        refine W.widen (k := 0) (n := 0) (Nat.le_of_ble_eq_true rfl) (Nat.le_of_ble_eq_true rfl) ?_
                        rw [hQ9]
                        exact dg_iret hx hb hr hlocks (by decide +kernel) hP hS ⟨I_1383, M_1383, (by decide +kernel), ⟨y_1384, y_1385, y_1386, y_3, y_1382, x_1353, y_1351, oo, f_y_1384, f_y_1385, f_y_1386, (((m_1383.1 0 8 _ sM_0 (by decide)).trans ((m_1380.1 0 8 _ sM_0 (by decide)).trans ((dg_uF_ne e_1356 (fun z => absurd z.2 (by decide))).trans ((dg_uF_ne e_1354 (fun z => absurd z.2 (by decide))).trans (m_1348.1 0 8 _ sM_0 (by decide)))))).trans f_y_3), ((m_1383.1 0 34 _ sM_0 (by decide)).trans f_y_1382), (((m_1383.1 0 42 _ sM_0 (by decide)).trans ((m_1380.1 0 42 _ sM_0 (by decide)).trans (dg_uF_ne e_1356 (fun z => absurd z.2 (by decide))))).trans (dg_uF_at e_1354)), (((m_1383.1 0 45 _ sM_0 (by decide)).trans ((m_1380.1 0 45 _ sM_0 (by decide)).trans ((dg_uF_ne e_1356 (fun z => absurd z.2 (by decide))).trans (dg_uF_ne e_1354 (fun z => absurd z.2 (by decide)))))).trans f_y_1351), (((m_1383.1 0 46 _ sM_0 (by decide)).trans ((m_1380.1 0 46 _ sM_0 (by decide)).trans ((dg_uF_ne e_1356 (fun z => absurd z.2 (by decide))).trans ((dg_uF_ne e_1354 (fun z => absurd z.2 (by decide))).trans ((m_1348.1 0 46 _ sM_0 (by decide)).trans (m_2.1 0 46 _ sM_0 (by decide))))))).trans f_oo), (by omega)⟩, (fun k9 hk9 hk0 => POM.mk1 (P1M.keep P1_1380 m_1383 (by decide) (by decide) (by decide) (by decide) (by decide) (by decide) (by decide) (by decide) (by decide) (by decide) (by decide) (by decide) (by decide) (by decide) (by decide)) (((m_1383.1 0 46 _ sM_0 (by decide)).trans ((m_1380.1 0 46 _ sM_0 (by decide)).trans ((dg_uF_ne e_1356 (fun z => absurd z.2 (by decide))).trans ((dg_uF_ne e_1354 (fun z => absurd z.2 (by decide))).trans ((m_1348.1 0 46 _ sM_0 (by decide)).trans (m_2.1 0 46 _ sM_0 (by decide))))))).trans f_oo) (by omega)), (ZWM.keep w_1380_2 m_1383 (by decide) (by decide) (by decide) (by decide)), trivial⟩ dX12_goesOn_618
                    · have jc_1346 := dk_eqc (k := 0) (by decide +kernel) c_1346
                      clear w_1345_1
                      refine lv_aload_n hx hb dX12_goesOn_537 rfl (lv_at hl 3 rfl) ?_
                      refine lv_iconst (v := 1) hx hb dX12_goesOn_538 (by decide +kernel) ?_
                      refine lv_aload_n hx hb dX12_goesOn_539 rfl (lv_at hl 3 rfl) ?_
                      refine dg_get (C := RX12) (T := TX12) (N := 77) hx hb hts (fun w h => bw_mem (wU_X12 w h)) hown K hP sM_0 rfl 4 (by decide) (hts _ (bw_mem wB_1145)) (fun _ h9 => h9) (v := .int sa) ((m_2.1 0 4 _ sM_0 (by decide)).trans f_sa) dX12_goesOn_540 ?_
                      have hz_1390 : (1 : Int32).toInt = 1 := by decide +kernel
                      refine dg_callv hS hA1 hA (va_runV (As := [.int 1, .int sa]) (rest := []) F (c_m_blame l g D o S_2 1 (by decide +kernel) sa y_3 f_y_3 (by omega) I_2 H.size) (cwV 2 hts (bw_V wB_1137 wB_1138 wB_1139 wB_881 wB_1136) rfl rfl rfl (by decide +kernel) ⟨Nat.le_of_ble_eq_true rfl, Nat.le_of_ble_eq_true rfl⟩) (dg_preV sM_0 rfl K ST hP hS hA1 hA) rfl rfl hl.1 rfl (lv_room (Nat.le_of_ble_eq_true rfl)) dX12_goesOn_543 ⟨Nat.le_of_ble_eq_true rfl, Nat.le_of_ble_eq_true rfl⟩) (fun S_1391 hw_1391 H locs hP hS => ?_)
                      obtain ⟨I_1391, m_1391, w_1391_0, -⟩ := hw_1391
                      have M_1391 := dg_sm.tr M_2 m_1391 (by decide) (by decide)
                      have hz_1392 : (1 : Int32).toInt = 1 := by decide +kernel
                      obtain ⟨y_1393, f_y_1393, w_1391_0⟩ := w_1391_0
                      have w_1391_0 : ((y_3).toInt ≠ 0 → (y_1393).toInt = (y_3).toInt) ∧ ((y_3).toInt = 0 → (y_1393).toInt = ((1 : Int32)).toInt) := w_1391_0
                      obtain ⟨w_1391_0_0, w_1391_0_1⟩ := w_1391_0
                      clear w_1391_0_0
                      have w_1391_0_1r := w_1391_0_1 (by omega)
                      clear w_1391_0_1
                      have b_y_1393 : 0 ≤ (y_1393).toInt ∧ (y_1393).toInt ≤ 6 := dg_I.intb (lo := 0) (hi := 6) I_1391 sM_0 (by decide +kernel) f_y_1393
                      have hbl_y_1393 : 1 ≤ (y_1393).toInt := by omega
                      refine lv_aload_n hx hb dX12_goesOn_546 rfl (lv_at hl 3 rfl) ?_
                      refine dg_get (C := RX12) (T := TX12) (N := 77) hx hb hts (fun w h => bw_mem (wU_X12 w h)) hown K hP sM_0 rfl 8 (by decide) (hts _ (bw_mem wB_1133)) (fun _ h9 => h9) (v := .int y_1393) f_y_1393 dX12_goesOn_547 ?_
                      refine lv_if_le (tgt := 555) hx hb dX12_goesOn_550 (by decide) (fun c => absurd c (fun z => absurd (dk_lec (k := 0) (by decide +kernel) z) (by omega))) (fun _ => ?_)
                      refine lv_iconst (v := 0) hx hb dX12_goesOn_553 (by decide +kernel) ?_
                      have hz_1394 : (0 : Int32).toInt = 0 := by decide +kernel
                      have hz_1395 : (0 : Int32).toInt = 0 := by decide +kernel
                      have hz_1396 : (0 : Int32).toInt = 0 := by decide +kernel
                      refine W.widen (k := 0) (n := 0) (Nat.le_of_ble_eq_true rfl) (Nat.le_of_ble_eq_true rfl) ?_
                      rw [hQ9]
                      exact dg_iret hx hb hr hlocks (by decide +kernel) hP hS ⟨I_1391, M_1391, (by decide +kernel), ⟨sg, sa, se, y_1393, cd, dp, om, oo, (((m_1391.1 0 3 _ sM_0 (by decide)).trans (m_2.1 0 3 _ sM_0 (by decide))).trans f_sg), (((m_1391.1 0 4 _ sM_0 (by decide)).trans (m_2.1 0 4 _ sM_0 (by decide))).trans f_sa), (((m_1391.1 0 5 _ sM_0 (by decide)).trans (m_2.1 0 5 _ sM_0 (by decide))).trans f_se), f_y_1393, (((m_1391.1 0 34 _ sM_0 (by decide)).trans (m_2.1 0 34 _ sM_0 (by decide))).trans f_cd), (((m_1391.1 0 42 _ sM_0 (by decide)).trans (m_2.1 0 42 _ sM_0 (by decide))).trans f_dp), (((m_1391.1 0 45 _ sM_0 (by decide)).trans (m_2.1 0 45 _ sM_0 (by decide))).trans f_om), (((m_1391.1 0 46 _ sM_0 (by decide)).trans (m_2.1 0 46 _ sM_0 (by decide))).trans f_oo), (by omega)⟩, (fun k9 hk9 hk0 => by have q9 := (f_y_1393).symm.trans hk9; cases q9; omega), (ZWM.keep (ZWM.keep ZW m_2 (by decide) (by decide) (by decide) (by decide)) m_1391 (by decide) (by decide) (by decide) (by decide)), trivial⟩ dX12_goesOn_554
                  refine lv_icmp_ne (tgt := 529) hx hb dX12_goesOn_521 (by decide) (fun c_1397 => ?_) (fun c_1397 => ?_)
                  · have jc_1397 := dk_neqc (k := 5) (by decide +kernel) c_1397
                    have jtc_1397 : (x_7).toInt ≤ 4 := by omega
                    clear jc_1397
                    refine lv_bipush (v := 41) hx hb dX12_goesOn_529 (by decide +kernel) ?_
                    have hz_1398 : (41 : Int32).toInt = 41 := by decide +kernel
                    exact J_1343 41 (by decide +kernel) _ _ hP hS _ (lv_sub hl [0, 1, 2, 3] rfl)
                  · have jc_1397 := dk_eqc (k := 5) (by decide +kernel) c_1397
                    refine lv_bipush (v := 93) hx hb dX12_goesOn_524 (by decide +kernel) ?_
                    refine lv_goto (tgt := 531) hx hb dX12_goesOn_526 (by decide) ?_
                    have hz_1399 : (93 : Int32).toInt = 93 := by decide +kernel
                    exact J_1343 93 (by decide +kernel) _ _ hP hS _ (lv_sub hl [0, 1, 2, 3] rfl)
                · have jc_1287 := dk_eqc (k := 6) (by decide +kernel) c_1287
                  exact J_1229 ()  (by omega) _ _ hP hS _ (lv_sub hl [0, 1, 2, 3] rfl)
            · have jc_1115 := dk_ngec (k := 2) (by decide +kernel) c_1115
              refine lv_aload_n hx hb dX12_goesOn_427 rfl (lv_at hl 3 rfl) ?_
              refine dg_get (C := RX12) (T := TX12) (N := 77) hx hb hts (fun w h => bw_mem (wU_X12 w h)) hown K hP sM_0 rfl 8 (by decide) (hts _ (bw_mem wB_1133)) (fun _ h9 => h9) (v := .int y_3) f_y_3 dX12_goesOn_428 ?_
              refine lv_if_ne (tgt := 439) hx hb dX12_goesOn_431 (by decide) (fun c => absurd (dk_eqp (k := 0) (by decide +kernel) (by omega)) c) (fun _ => ?_)
              refine lv_aload_n hx hb dX12_goesOn_434 rfl (lv_at hl 3 rfl) ?_
              refine lv_iconst (v := 1) hx hb dX12_goesOn_435 (by decide +kernel) ?_
              have hz_1400 : (1 : Int32).toInt = 1 := by decide +kernel
              refine dg_callv hS hA1 hA (va_runV (As := [.int 1]) (rest := []) F (c_m_joins l g D o S_2 1 (by decide +kernel) cd ((m_2.1 0 34 _ sM_0 (by decide)).trans f_cd) (by omega) om ((m_2.1 0 45 _ sM_0 (by decide)).trans f_om) (by omega) (by omega) (ZWM.keep ZW m_2 (by decide) (by decide) (by decide) (by decide)) (ZKM.keep ZK m_2 (by decide) (by decide)) (P1M.keep P1 m_2 (by decide) (by decide) (by decide) (by decide) (by decide) (by decide) (by decide) (by decide) (by decide) (by decide) (by decide) (by decide) (by decide) (by decide) (by decide)) I_2 H.size) (cwV 1 hts (bw_V wB_1234 wB_1235 wB_1236 wB_881 wB_1233) rfl rfl rfl (by decide +kernel) ⟨Nat.le_of_ble_eq_true rfl, Nat.le_of_ble_eq_true rfl⟩) (dg_preV sM_0 rfl K ST hP hS hA1 hA) rfl rfl hl.1 rfl (lv_room (Nat.le_of_ble_eq_true rfl)) dX12_goesOn_436 ⟨Nat.le_of_ble_eq_true rfl, Nat.le_of_ble_eq_true rfl⟩) (fun S_1401 hw_1401 H locs hP hS => ?_)
              obtain ⟨I_1401, m_1401, w_1401_0, w_1401_1, w_1401_2, w_1401_3, -⟩ := hw_1401
              have M_1401 := dg_sm.tr M_2 m_1401 (by decide) (by decide)
              have hz_1402 : (1 : Int32).toInt = 1 := by decide +kernel
              obtain ⟨y_1403, y_1404, f_y_1403, f_y_1404, w_1401_0⟩ := w_1401_0
              have w_1401_0 : (y_1403).toInt + (y_1404).toInt = (cd).toInt + (om).toInt := w_1401_0
              have b_y_1403 : 0 ≤ (y_1403).toInt ∧ (y_1403).toInt ≤ 1600 := dg_I.intb (lo := 0) (hi := 1600) I_1401 sM_0 (by decide +kernel) f_y_1403
              have b_y_1404 : 0 ≤ (y_1404).toInt ∧ (y_1404).toInt ≤ 500 := dg_I.intb (lo := 0) (hi := 500) I_1401 sM_0 (by decide +kernel) f_y_1404
              have w_1401_1 : TOPM S_1401 (1 : Int32) := w_1401_1
              obtain ⟨x_1405, f_x_1405, b_x_1405⟩ := dg_I.int (i := 0) (k := 43) (lo := (-2147483648)) (hi := 2147483647) I_1401 sM_0 (by decide +kernel)
              refine lv_iconst (v := 0) hx hb dX12_goesOn_439 (by decide +kernel) ?_
              have hz_1406 : (0 : Int32).toInt = 0 := by decide +kernel
              have hz_1407 : (0 : Int32).toInt = 0 := by decide +kernel
              have hz_1408 : (0 : Int32).toInt = 0 := by decide +kernel
              refine W.widen (k := 0) (n := 0) (Nat.le_of_ble_eq_true rfl) (Nat.le_of_ble_eq_true rfl) ?_
              rw [hQ9]
              exact dg_iret hx hb hr hlocks (by decide +kernel) hP hS ⟨I_1401, M_1401, (by decide +kernel), ⟨sg, sa, se, y_3, y_1403, dp, y_1404, oo, (((m_1401.1 0 3 _ sM_0 (by decide)).trans (m_2.1 0 3 _ sM_0 (by decide))).trans f_sg), (((m_1401.1 0 4 _ sM_0 (by decide)).trans (m_2.1 0 4 _ sM_0 (by decide))).trans f_sa), (((m_1401.1 0 5 _ sM_0 (by decide)).trans (m_2.1 0 5 _ sM_0 (by decide))).trans f_se), ((m_1401.1 0 8 _ sM_0 (by decide)).trans f_y_3), f_y_1403, (((m_1401.1 0 42 _ sM_0 (by decide)).trans (m_2.1 0 42 _ sM_0 (by decide))).trans f_dp), f_y_1404, (((m_1401.1 0 46 _ sM_0 (by decide)).trans (m_2.1 0 46 _ sM_0 (by decide))).trans f_oo), (by omega)⟩, (fun k9 hk9 hk0 => POM.mk1 w_1401_3 (((m_1401.1 0 46 _ sM_0 (by decide)).trans (m_2.1 0 46 _ sM_0 (by decide))).trans f_oo) (by omega)), w_1401_2, trivial⟩ dX12_goesOn_440
          refine lv_if_eq (tgt := 422) hx hb dX12_goesOn_401 (by decide) (fun c_1409 => ?_) (fun c_1409 => ?_)
          · have jc_1409 := dk_eqc (k := 0) (by decide +kernel) c_1409
            clear w_9_1
            exact J_1114   _ _ hP hS _ (lv_sub hl [0, 1, 2, 3] rfl)
          · have jc_1409 := dk_neqc (k := 0) (by decide +kernel) c_1409
            have jbc_1409 : 1 ≤ (x_8).toInt := by omega
            clear jc_1409
            have w_9_1_r := w_9_1.mp (by omega)
            clear w_9_1
            refine lv_aload_n hx hb dX12_goesOn_404 rfl (lv_at hl 3 rfl) ?_
            refine dg_get (C := RX12) (T := TX12) (N := 77) hx hb hts (fun w h => bw_mem (wU_X12 w h)) hown K hP sM_0 rfl 38 (by decide) (hts _ (bw_mem wB_1214)) (fun _ h9 => h9) (v := .ref (o + 23)) (show S_2.1 0 38 = .ref (o + 23) from dg_I.rel (d := 23) I_2 sM_0 (by decide +kernel)) dX12_goesOn_405 ?_
            refine lv_iload_n hx hb dX12_goesOn_408 rfl (lv_at hl 2 rfl) ?_
            have hin_1410 : vp_in x_5 20 := (dk_inv (by omega) (by omega))
            refine dg_iald hx hb K hP sM_23 hin_1410 dX12_goesOn_409 (fun y_1411 ey_1411 => ?_)
            obtain rfl : x_11 = y_1411 := (ey_1411.trans ex_11.symm).symm
            refine lv_if_ne (tgt := 422) hx hb dX12_goesOn_410 (by decide) (fun c_1412 => ?_) (fun c_1412 => ?_)
            · have jc_1412 := dk_neqc (k := 0) (by decide +kernel) c_1412
              have jbc_1412 : 1 ≤ (x_11).toInt := by omega
              clear jc_1412
              exact J_1114   _ _ hP hS _ (lv_sub hl [0, 1, 2, 3] rfl)
            · have jc_1412 := dk_eqc (k := 0) (by decide +kernel) c_1412
              refine lv_aload_n hx hb dX12_goesOn_413 rfl (lv_at hl 3 rfl) ?_
              refine lv_iconst (v := 1) hx hb dX12_goesOn_414 (by decide +kernel) ?_
              refine lv_aload_n hx hb dX12_goesOn_415 rfl (lv_at hl 3 rfl) ?_
              refine dg_get (C := RX12) (T := TX12) (N := 77) hx hb hts (fun w h => bw_mem (wU_X12 w h)) hown K hP sM_0 rfl 4 (by decide) (hts _ (bw_mem wB_1145)) (fun _ h9 => h9) (v := .int sa) ((m_2.1 0 4 _ sM_0 (by decide)).trans f_sa) dX12_goesOn_416 ?_
              have hz_1413 : (1 : Int32).toInt = 1 := by decide +kernel
              refine dg_callv hS hA1 hA (va_runV (As := [.int 1, .int sa]) (rest := []) F (c_m_blame l g D o S_2 1 (by decide +kernel) sa y_3 f_y_3 (by omega) I_2 H.size) (cwV 2 hts (bw_V wB_1137 wB_1138 wB_1139 wB_881 wB_1136) rfl rfl rfl (by decide +kernel) ⟨Nat.le_of_ble_eq_true rfl, Nat.le_of_ble_eq_true rfl⟩) (dg_preV sM_0 rfl K ST hP hS hA1 hA) rfl rfl hl.1 rfl (lv_room (Nat.le_of_ble_eq_true rfl)) dX12_goesOn_419 ⟨Nat.le_of_ble_eq_true rfl, Nat.le_of_ble_eq_true rfl⟩) (fun S_1414 hw_1414 H locs hP hS => ?_)
              obtain ⟨I_1414, m_1414, w_1414_0, -⟩ := hw_1414
              have M_1414 := dg_sm.tr M_2 m_1414 (by decide) (by decide)
              have hz_1415 : (1 : Int32).toInt = 1 := by decide +kernel
              obtain ⟨y_1416, f_y_1416, w_1414_0⟩ := w_1414_0
              have w_1414_0 : ((y_3).toInt ≠ 0 → (y_1416).toInt = (y_3).toInt) ∧ ((y_3).toInt = 0 → (y_1416).toInt = ((1 : Int32)).toInt) := w_1414_0
              obtain ⟨w_1414_0_0, w_1414_0_1⟩ := w_1414_0
              clear w_1414_0_0
              have w_1414_0_1r := w_1414_0_1 (by omega)
              clear w_1414_0_1
              have b_y_1416 : 0 ≤ (y_1416).toInt ∧ (y_1416).toInt ≤ 6 := dg_I.intb (lo := 0) (hi := 6) I_1414 sM_0 (by decide +kernel) f_y_1416
              have hbl_y_1416 : 1 ≤ (y_1416).toInt := by omega
              refine lv_iload_n hx hb dX12_goesOn_422 rfl (lv_at hl 1 rfl) ?_
              refine lv_iconst (v := 2) hx hb dX12_goesOn_423 (by decide +kernel) ?_
              refine lv_icmp_ge (tgt := 441) hx hb dX12_goesOn_424 (by decide) (fun c_1417 => ?_) (fun c_1417 => ?_)
              · have jc_1417 := dk_gec (k := 2) (by decide +kernel) c_1417
                refine lv_iload_n hx hb dX12_goesOn_441 rfl (lv_at hl 1 rfl) ?_
                refine lv_iconst (v := 3) hx hb dX12_goesOn_442 (by decide +kernel) ?_
                have J_1449 : ∀ (u9 : Unit), ((x_7 : Int32).toInt = 3 ∨ (x_7 : Int32).toInt = 6) → ∀ (H : Heap) (locs : List Loc), va_P D vwCl (dg_w g shM o rfM S_1414) H → va_S A s.heap H locs → ∀ ls : Array Slot, lv_has ls 5 [(3, .int x_8), (2, .int x_7), (1, .int x_5), (0, .ref (o + 0))] → W p l e ({ frames := 3, cells := 0, slots := 0, locals := 77 } : Room) s m args below meth c H locs 0 0 Q9 (F0 m 452 ls []) := by
                  intro u9 rel_0 H locs hP hS ls hl
                  refine lv_aload_n hx hb dX12_goesOn_452 rfl (lv_at hl 3 rfl) ?_
                  refine lv_bipush (v := 44) hx hb dX12_goesOn_453 (by decide +kernel) ?_
                  refine dg_calli hS hA1 hA (va_runV (As := [.int 44]) (rest := []) F (c_m_isSign l g D o S_1414 44 sg (((m_1414.1 0 3 _ sM_0 (by decide)).trans (m_2.1 0 3 _ sM_0 (by decide))).trans f_sg) (by omega) va (((m_1414.1 0 6 _ sM_0 (by decide)).trans (m_2.1 0 6 _ sM_0 (by decide))).trans f_va) (by omega) I_1414 H.size) (cwV 1 hts (bw_V wB_1157 wB_1158 wB_1159 wB_881 wB_1156) rfl rfl rfl (by decide +kernel) ⟨Nat.le_of_ble_eq_true rfl, Nat.le_of_ble_eq_true rfl⟩) (dg_preV sM_0 rfl K ST hP hS hA1 hA) rfl rfl hl.1 rfl (lv_room (Nat.le_of_ble_eq_true rfl)) dX12_goesOn_455 ⟨Nat.le_of_ble_eq_true rfl, Nat.le_of_ble_eq_true rfl⟩) (fun x_1450 S_1451 hw_1451 H locs hP hS => ?_)
                  rw [hw_1451.1] at hP
                  obtain ⟨hq_1451, w_1451_0, w_1451_1, -⟩ := hw_1451
                  have hz_1452 : (44 : Int32).toInt = 44 := by decide +kernel
                  have w_1451_0 : 0 ≤ (x_1450).toInt ∧ (x_1450).toInt ≤ 1 := w_1451_0
                  have w_1451_1 : (x_1450).toInt = 1 ↔ ((sg).toInt = 3 ∧ (va).toInt = ((44 : Int32)).toInt) := w_1451_1
                  refine lv_if_ne (tgt := 470) hx hb dX12_goesOn_458 (by decide) (fun c_1453 => ?_) (fun c_1453 => ?_)
                  · have jc_1453 := dk_neqc (k := 0) (by decide +kernel) c_1453
                    have jbc_1453 : 1 ≤ (x_1450).toInt := by omega
                    clear jc_1453
                    have w_1451_1_r := w_1451_1.mp (by omega)
                    obtain ⟨w_1451_1_r1, w_1451_1_r2⟩ := w_1451_1_r
                    clear w_1451_1
                    have hlx_2r := hlx_2 (by omega)
                    clear hlx_2
                    refine lv_aload_n hx hb dX12_goesOn_470 rfl (lv_at hl 3 rfl) ?_
                    refine dg_get (C := RX12) (T := TX12) (N := 77) hx hb hts (fun w h => bw_mem (wU_X12 w h)) hown K hP sM_0 rfl 8 (by decide) (hts _ (bw_mem wB_1133)) (fun _ h9 => h9) (v := .int y_1416) f_y_1416 dX12_goesOn_471 ?_
                    refine lv_if_le (tgt := 479) hx hb dX12_goesOn_474 (by decide) (fun c => absurd c (fun z => absurd (dk_lec (k := 0) (by decide +kernel) z) (by omega))) (fun _ => ?_)
                    refine lv_iconst (v := 0) hx hb dX12_goesOn_477 (by decide +kernel) ?_
                    have hz_1454 : (0 : Int32).toInt = 0 := by decide +kernel
                    have hz_1455 : (0 : Int32).toInt = 0 := by decide +kernel
                    have hz_1456 : (0 : Int32).toInt = 0 := by decide +kernel
                    refine W.widen (k := 0) (n := 0) (Nat.le_of_ble_eq_true rfl) (Nat.le_of_ble_eq_true rfl) ?_
                    rw [hQ9]
                    exact dg_iret hx hb hr hlocks (by decide +kernel) hP hS ⟨I_1414, M_1414, (by decide +kernel), ⟨sg, sa, se, y_1416, cd, dp, om, oo, (((m_1414.1 0 3 _ sM_0 (by decide)).trans (m_2.1 0 3 _ sM_0 (by decide))).trans f_sg), (((m_1414.1 0 4 _ sM_0 (by decide)).trans (m_2.1 0 4 _ sM_0 (by decide))).trans f_sa), (((m_1414.1 0 5 _ sM_0 (by decide)).trans (m_2.1 0 5 _ sM_0 (by decide))).trans f_se), f_y_1416, (((m_1414.1 0 34 _ sM_0 (by decide)).trans (m_2.1 0 34 _ sM_0 (by decide))).trans f_cd), (((m_1414.1 0 42 _ sM_0 (by decide)).trans (m_2.1 0 42 _ sM_0 (by decide))).trans f_dp), (((m_1414.1 0 45 _ sM_0 (by decide)).trans (m_2.1 0 45 _ sM_0 (by decide))).trans f_om), (((m_1414.1 0 46 _ sM_0 (by decide)).trans (m_2.1 0 46 _ sM_0 (by decide))).trans f_oo), (by omega)⟩, (fun k9 hk9 hk0 => by have q9 := (f_y_1416).symm.trans hk9; cases q9; omega), (ZWM.keep (ZWM.keep ZW m_2 (by decide) (by decide) (by decide) (by decide)) m_1414 (by decide) (by decide) (by decide) (by decide)), trivial⟩ dX12_goesOn_478
                  · have jc_1453 := dk_eqc (k := 0) (by decide +kernel) c_1453
                    clear w_1451_1
                    refine lv_aload_n hx hb dX12_goesOn_461 rfl (lv_at hl 3 rfl) ?_
                    refine lv_iconst (v := 1) hx hb dX12_goesOn_462 (by decide +kernel) ?_
                    refine lv_aload_n hx hb dX12_goesOn_463 rfl (lv_at hl 3 rfl) ?_
                    refine dg_get (C := RX12) (T := TX12) (N := 77) hx hb hts (fun w h => bw_mem (wU_X12 w h)) hown K hP sM_0 rfl 4 (by decide) (hts _ (bw_mem wB_1145)) (fun _ h9 => h9) (v := .int sa) (((m_1414.1 0 4 _ sM_0 (by decide)).trans (m_2.1 0 4 _ sM_0 (by decide))).trans f_sa) dX12_goesOn_464 ?_
                    have hz_1457 : (1 : Int32).toInt = 1 := by decide +kernel
                    refine dg_callv hS hA1 hA (va_runV (As := [.int 1, .int sa]) (rest := []) F (c_m_blame l g D o S_1414 1 (by decide +kernel) sa y_1416 f_y_1416 (by omega) I_1414 H.size) (cwV 2 hts (bw_V wB_1137 wB_1138 wB_1139 wB_881 wB_1136) rfl rfl rfl (by decide +kernel) ⟨Nat.le_of_ble_eq_true rfl, Nat.le_of_ble_eq_true rfl⟩) (dg_preV sM_0 rfl K ST hP hS hA1 hA) rfl rfl hl.1 rfl (lv_room (Nat.le_of_ble_eq_true rfl)) dX12_goesOn_467 ⟨Nat.le_of_ble_eq_true rfl, Nat.le_of_ble_eq_true rfl⟩) (fun S_1458 hw_1458 H locs hP hS => ?_)
                    obtain ⟨I_1458, m_1458, w_1458_0, -⟩ := hw_1458
                    have M_1458 := dg_sm.tr M_1414 m_1458 (by decide) (by decide)
                    have hz_1459 : (1 : Int32).toInt = 1 := by decide +kernel
                    obtain ⟨y_1460, f_y_1460, w_1458_0⟩ := w_1458_0
                    have w_1458_0 : ((y_1416).toInt ≠ 0 → (y_1460).toInt = (y_1416).toInt) ∧ ((y_1416).toInt = 0 → (y_1460).toInt = ((1 : Int32)).toInt) := w_1458_0
                    obtain ⟨w_1458_0_0, w_1458_0_1⟩ := w_1458_0
                    have w_1458_0_0r := w_1458_0_0 (by omega)
                    clear w_1458_0_0
                    clear w_1458_0_1
                    have b_y_1460 : 0 ≤ (y_1460).toInt ∧ (y_1460).toInt ≤ 6 := dg_I.intb (lo := 0) (hi := 6) I_1458 sM_0 (by decide +kernel) f_y_1460
                    have hbl_y_1460 : 1 ≤ (y_1460).toInt := by omega
                    refine lv_aload_n hx hb dX12_goesOn_470 rfl (lv_at hl 3 rfl) ?_
                    refine dg_get (C := RX12) (T := TX12) (N := 77) hx hb hts (fun w h => bw_mem (wU_X12 w h)) hown K hP sM_0 rfl 8 (by decide) (hts _ (bw_mem wB_1133)) (fun _ h9 => h9) (v := .int y_1460) f_y_1460 dX12_goesOn_471 ?_
                    refine lv_if_le (tgt := 479) hx hb dX12_goesOn_474 (by decide) (fun c => absurd c (fun z => absurd (dk_lec (k := 0) (by decide +kernel) z) (by omega))) (fun _ => ?_)
                    refine lv_iconst (v := 0) hx hb dX12_goesOn_477 (by decide +kernel) ?_
                    have hz_1461 : (0 : Int32).toInt = 0 := by decide +kernel
                    have hz_1462 : (0 : Int32).toInt = 0 := by decide +kernel
                    have hz_1463 : (0 : Int32).toInt = 0 := by decide +kernel
                    refine W.widen (k := 0) (n := 0) (Nat.le_of_ble_eq_true rfl) (Nat.le_of_ble_eq_true rfl) ?_
                    rw [hQ9]
                    exact dg_iret hx hb hr hlocks (by decide +kernel) hP hS ⟨I_1458, M_1458, (by decide +kernel), ⟨sg, sa, se, y_1460, cd, dp, om, oo, (((m_1458.1 0 3 _ sM_0 (by decide)).trans ((m_1414.1 0 3 _ sM_0 (by decide)).trans (m_2.1 0 3 _ sM_0 (by decide)))).trans f_sg), (((m_1458.1 0 4 _ sM_0 (by decide)).trans ((m_1414.1 0 4 _ sM_0 (by decide)).trans (m_2.1 0 4 _ sM_0 (by decide)))).trans f_sa), (((m_1458.1 0 5 _ sM_0 (by decide)).trans ((m_1414.1 0 5 _ sM_0 (by decide)).trans (m_2.1 0 5 _ sM_0 (by decide)))).trans f_se), f_y_1460, (((m_1458.1 0 34 _ sM_0 (by decide)).trans ((m_1414.1 0 34 _ sM_0 (by decide)).trans (m_2.1 0 34 _ sM_0 (by decide)))).trans f_cd), (((m_1458.1 0 42 _ sM_0 (by decide)).trans ((m_1414.1 0 42 _ sM_0 (by decide)).trans (m_2.1 0 42 _ sM_0 (by decide)))).trans f_dp), (((m_1458.1 0 45 _ sM_0 (by decide)).trans ((m_1414.1 0 45 _ sM_0 (by decide)).trans (m_2.1 0 45 _ sM_0 (by decide)))).trans f_om), (((m_1458.1 0 46 _ sM_0 (by decide)).trans ((m_1414.1 0 46 _ sM_0 (by decide)).trans (m_2.1 0 46 _ sM_0 (by decide)))).trans f_oo), (by omega)⟩, (fun k9 hk9 hk0 => by have q9 := (f_y_1460).symm.trans hk9; cases q9; omega), (ZWM.keep (ZWM.keep (ZWM.keep ZW m_2 (by decide) (by decide) (by decide) (by decide)) m_1414 (by decide) (by decide) (by decide) (by decide)) m_1458 (by decide) (by decide) (by decide) (by decide)), trivial⟩ dX12_goesOn_478
                refine lv_icmp_eq (tgt := 452) hx hb dX12_goesOn_443 (by decide) (fun c_1464 => ?_) (fun c_1464 => ?_)
                · have jc_1464 := dk_eqc (k := 3) (by decide +kernel) c_1464
                  exact J_1449 ()  (by omega) _ _ hP hS _ (lv_sub hl [0, 1, 2, 3] rfl)
                · have jc_1464 := dk_neqc (k := 3) (by decide +kernel) c_1464
                  clear jc_1464
                  refine lv_iload_n hx hb dX12_goesOn_446 rfl (lv_at hl 1 rfl) ?_
                  refine lv_bipush (v := 6) hx hb dX12_goesOn_447 (by decide +kernel) ?_
                  refine lv_icmp_ne (tgt := 518) hx hb dX12_goesOn_449 (by decide) (fun c_1465 => ?_) (fun c_1465 => ?_)
                  · have jc_1465 := dk_neqc (k := 6) (by decide +kernel) c_1465
                    have jtc_1465 : (x_7).toInt ≤ 5 := by omega
                    clear jc_1465
                    refine lv_aload_n hx hb dX12_goesOn_518 rfl (lv_at hl 3 rfl) ?_
                    refine lv_iload_n hx hb dX12_goesOn_519 rfl (lv_at hl 1 rfl) ?_
                    refine lv_iconst (v := 5) hx hb dX12_goesOn_520 (by decide +kernel) ?_
                    have J_1481 : ∀ (x_1467 : Int32), (41 ≤ (x_1467).toInt ∧ (x_1467).toInt ≤ 93) → ∀ (H : Heap) (locs : List Loc), va_P D vwCl (dg_w g shM o rfM S_1414) H → va_S A s.heap H locs → ∀ ls : Array Slot, lv_has ls 5 [(3, .int x_8), (2, .int x_7), (1, .int x_5), (0, .ref (o + 0))] → W p l e ({ frames := 3, cells := 0, slots := 0, locals := 77 } : Room) s m args below meth c H locs 0 0 Q9 (F0 m 531 ls [.int x_1467, .ref (o + 0)]) := by
                      intro x_1467 b_x_1467 H locs hP hS ls hl
                      refine dg_calli hS hA1 hA (va_runV (As := [.int x_1467]) (rest := []) F (c_m_isSign l g D o S_1414 x_1467 sg (((m_1414.1 0 3 _ sM_0 (by decide)).trans (m_2.1 0 3 _ sM_0 (by decide))).trans f_sg) (by omega) va (((m_1414.1 0 6 _ sM_0 (by decide)).trans (m_2.1 0 6 _ sM_0 (by decide))).trans f_va) (by omega) I_1414 H.size) (cwV 1 hts (bw_V wB_1157 wB_1158 wB_1159 wB_881 wB_1156) rfl rfl rfl (by decide +kernel) ⟨Nat.le_of_ble_eq_true rfl, Nat.le_of_ble_eq_true rfl⟩) (dg_preV sM_0 rfl K ST hP hS hA1 hA) rfl rfl hl.1 rfl (lv_room (Nat.le_of_ble_eq_true rfl)) dX12_goesOn_531 ⟨Nat.le_of_ble_eq_true rfl, Nat.le_of_ble_eq_true rfl⟩) (fun x_1482 S_1483 hw_1483 H locs hP hS => ?_)
                      rw [hw_1483.1] at hP
                      obtain ⟨hq_1483, w_1483_0, w_1483_1, -⟩ := hw_1483
                      have w_1483_0 : 0 ≤ (x_1482).toInt ∧ (x_1482).toInt ≤ 1 := w_1483_0
                      have w_1483_1 : (x_1482).toInt = 1 ↔ ((sg).toInt = 3 ∧ (va).toInt = (x_1467).toInt) := w_1483_1
                      refine lv_if_ne (tgt := 546) hx hb dX12_goesOn_534 (by decide) (fun c_1484 => ?_) (fun c_1484 => ?_)
                      · have jc_1484 := dk_neqc (k := 0) (by decide +kernel) c_1484
                        have jbc_1484 : 1 ≤ (x_1482).toInt := by omega
                        clear jc_1484
                        have w_1483_1_r := w_1483_1.mp (by omega)
                        obtain ⟨w_1483_1_r1, w_1483_1_r2⟩ := w_1483_1_r
                        clear w_1483_1
                        have hlx_2r := hlx_2 (by omega)
                        clear hlx_2
                        refine lv_aload_n hx hb dX12_goesOn_546 rfl (lv_at hl 3 rfl) ?_
                        refine dg_get (C := RX12) (T := TX12) (N := 77) hx hb hts (fun w h => bw_mem (wU_X12 w h)) hown K hP sM_0 rfl 8 (by decide) (hts _ (bw_mem wB_1133)) (fun _ h9 => h9) (v := .int y_1416) f_y_1416 dX12_goesOn_547 ?_
                        refine lv_if_le (tgt := 555) hx hb dX12_goesOn_550 (by decide) (fun c => absurd c (fun z => absurd (dk_lec (k := 0) (by decide +kernel) z) (by omega))) (fun _ => ?_)
                        refine lv_iconst (v := 0) hx hb dX12_goesOn_553 (by decide +kernel) ?_
                        have hz_1485 : (0 : Int32).toInt = 0 := by decide +kernel
                        have hz_1486 : (0 : Int32).toInt = 0 := by decide +kernel
                        have hz_1487 : (0 : Int32).toInt = 0 := by decide +kernel
                        refine W.widen (k := 0) (n := 0) (Nat.le_of_ble_eq_true rfl) (Nat.le_of_ble_eq_true rfl) ?_
                        rw [hQ9]
                        exact dg_iret hx hb hr hlocks (by decide +kernel) hP hS ⟨I_1414, M_1414, (by decide +kernel), ⟨sg, sa, se, y_1416, cd, dp, om, oo, (((m_1414.1 0 3 _ sM_0 (by decide)).trans (m_2.1 0 3 _ sM_0 (by decide))).trans f_sg), (((m_1414.1 0 4 _ sM_0 (by decide)).trans (m_2.1 0 4 _ sM_0 (by decide))).trans f_sa), (((m_1414.1 0 5 _ sM_0 (by decide)).trans (m_2.1 0 5 _ sM_0 (by decide))).trans f_se), f_y_1416, (((m_1414.1 0 34 _ sM_0 (by decide)).trans (m_2.1 0 34 _ sM_0 (by decide))).trans f_cd), (((m_1414.1 0 42 _ sM_0 (by decide)).trans (m_2.1 0 42 _ sM_0 (by decide))).trans f_dp), (((m_1414.1 0 45 _ sM_0 (by decide)).trans (m_2.1 0 45 _ sM_0 (by decide))).trans f_om), (((m_1414.1 0 46 _ sM_0 (by decide)).trans (m_2.1 0 46 _ sM_0 (by decide))).trans f_oo), (by omega)⟩, (fun k9 hk9 hk0 => by have q9 := (f_y_1416).symm.trans hk9; cases q9; omega), (ZWM.keep (ZWM.keep ZW m_2 (by decide) (by decide) (by decide) (by decide)) m_1414 (by decide) (by decide) (by decide) (by decide)), trivial⟩ dX12_goesOn_554
                      · have jc_1484 := dk_eqc (k := 0) (by decide +kernel) c_1484
                        clear w_1483_1
                        refine lv_aload_n hx hb dX12_goesOn_537 rfl (lv_at hl 3 rfl) ?_
                        refine lv_iconst (v := 1) hx hb dX12_goesOn_538 (by decide +kernel) ?_
                        refine lv_aload_n hx hb dX12_goesOn_539 rfl (lv_at hl 3 rfl) ?_
                        refine dg_get (C := RX12) (T := TX12) (N := 77) hx hb hts (fun w h => bw_mem (wU_X12 w h)) hown K hP sM_0 rfl 4 (by decide) (hts _ (bw_mem wB_1145)) (fun _ h9 => h9) (v := .int sa) (((m_1414.1 0 4 _ sM_0 (by decide)).trans (m_2.1 0 4 _ sM_0 (by decide))).trans f_sa) dX12_goesOn_540 ?_
                        have hz_1488 : (1 : Int32).toInt = 1 := by decide +kernel
                        refine dg_callv hS hA1 hA (va_runV (As := [.int 1, .int sa]) (rest := []) F (c_m_blame l g D o S_1414 1 (by decide +kernel) sa y_1416 f_y_1416 (by omega) I_1414 H.size) (cwV 2 hts (bw_V wB_1137 wB_1138 wB_1139 wB_881 wB_1136) rfl rfl rfl (by decide +kernel) ⟨Nat.le_of_ble_eq_true rfl, Nat.le_of_ble_eq_true rfl⟩) (dg_preV sM_0 rfl K ST hP hS hA1 hA) rfl rfl hl.1 rfl (lv_room (Nat.le_of_ble_eq_true rfl)) dX12_goesOn_543 ⟨Nat.le_of_ble_eq_true rfl, Nat.le_of_ble_eq_true rfl⟩) (fun S_1489 hw_1489 H locs hP hS => ?_)
                        obtain ⟨I_1489, m_1489, w_1489_0, -⟩ := hw_1489
                        have M_1489 := dg_sm.tr M_1414 m_1489 (by decide) (by decide)
                        have hz_1490 : (1 : Int32).toInt = 1 := by decide +kernel
                        obtain ⟨y_1491, f_y_1491, w_1489_0⟩ := w_1489_0
                        have w_1489_0 : ((y_1416).toInt ≠ 0 → (y_1491).toInt = (y_1416).toInt) ∧ ((y_1416).toInt = 0 → (y_1491).toInt = ((1 : Int32)).toInt) := w_1489_0
                        obtain ⟨w_1489_0_0, w_1489_0_1⟩ := w_1489_0
                        have w_1489_0_0r := w_1489_0_0 (by omega)
                        clear w_1489_0_0
                        clear w_1489_0_1
                        have b_y_1491 : 0 ≤ (y_1491).toInt ∧ (y_1491).toInt ≤ 6 := dg_I.intb (lo := 0) (hi := 6) I_1489 sM_0 (by decide +kernel) f_y_1491
                        have hbl_y_1491 : 1 ≤ (y_1491).toInt := by omega
                        refine lv_aload_n hx hb dX12_goesOn_546 rfl (lv_at hl 3 rfl) ?_
                        refine dg_get (C := RX12) (T := TX12) (N := 77) hx hb hts (fun w h => bw_mem (wU_X12 w h)) hown K hP sM_0 rfl 8 (by decide) (hts _ (bw_mem wB_1133)) (fun _ h9 => h9) (v := .int y_1491) f_y_1491 dX12_goesOn_547 ?_
                        refine lv_if_le (tgt := 555) hx hb dX12_goesOn_550 (by decide) (fun c => absurd c (fun z => absurd (dk_lec (k := 0) (by decide +kernel) z) (by omega))) (fun _ => ?_)
                        refine lv_iconst (v := 0) hx hb dX12_goesOn_553 (by decide +kernel) ?_
                        have hz_1492 : (0 : Int32).toInt = 0 := by decide +kernel
                        have hz_1493 : (0 : Int32).toInt = 0 := by decide +kernel
                        have hz_1494 : (0 : Int32).toInt = 0 := by decide +kernel
                        refine W.widen (k := 0) (n := 0) (Nat.le_of_ble_eq_true rfl) (Nat.le_of_ble_eq_true rfl) ?_
                        rw [hQ9]
                        exact dg_iret hx hb hr hlocks (by decide +kernel) hP hS ⟨I_1489, M_1489, (by decide +kernel), ⟨sg, sa, se, y_1491, cd, dp, om, oo, (((m_1489.1 0 3 _ sM_0 (by decide)).trans ((m_1414.1 0 3 _ sM_0 (by decide)).trans (m_2.1 0 3 _ sM_0 (by decide)))).trans f_sg), (((m_1489.1 0 4 _ sM_0 (by decide)).trans ((m_1414.1 0 4 _ sM_0 (by decide)).trans (m_2.1 0 4 _ sM_0 (by decide)))).trans f_sa), (((m_1489.1 0 5 _ sM_0 (by decide)).trans ((m_1414.1 0 5 _ sM_0 (by decide)).trans (m_2.1 0 5 _ sM_0 (by decide)))).trans f_se), f_y_1491, (((m_1489.1 0 34 _ sM_0 (by decide)).trans ((m_1414.1 0 34 _ sM_0 (by decide)).trans (m_2.1 0 34 _ sM_0 (by decide)))).trans f_cd), (((m_1489.1 0 42 _ sM_0 (by decide)).trans ((m_1414.1 0 42 _ sM_0 (by decide)).trans (m_2.1 0 42 _ sM_0 (by decide)))).trans f_dp), (((m_1489.1 0 45 _ sM_0 (by decide)).trans ((m_1414.1 0 45 _ sM_0 (by decide)).trans (m_2.1 0 45 _ sM_0 (by decide)))).trans f_om), (((m_1489.1 0 46 _ sM_0 (by decide)).trans ((m_1414.1 0 46 _ sM_0 (by decide)).trans (m_2.1 0 46 _ sM_0 (by decide)))).trans f_oo), (by omega)⟩, (fun k9 hk9 hk0 => by have q9 := (f_y_1491).symm.trans hk9; cases q9; omega), (ZWM.keep (ZWM.keep (ZWM.keep ZW m_2 (by decide) (by decide) (by decide) (by decide)) m_1414 (by decide) (by decide) (by decide) (by decide)) m_1489 (by decide) (by decide) (by decide) (by decide)), trivial⟩ dX12_goesOn_554
                    refine lv_icmp_ne (tgt := 529) hx hb dX12_goesOn_521 (by decide) (fun c_1495 => ?_) (fun c_1495 => ?_)
                    · have jc_1495 := dk_neqc (k := 5) (by decide +kernel) c_1495
                      have jtc_1495 : (x_7).toInt ≤ 4 := by omega
                      clear jc_1495
                      refine lv_bipush (v := 41) hx hb dX12_goesOn_529 (by decide +kernel) ?_
                      have hz_1496 : (41 : Int32).toInt = 41 := by decide +kernel
                      exact J_1481 41 (by decide +kernel) _ _ hP hS _ (lv_sub hl [0, 1, 2, 3] rfl)
                    · have jc_1495 := dk_eqc (k := 5) (by decide +kernel) c_1495
                      refine lv_bipush (v := 93) hx hb dX12_goesOn_524 (by decide +kernel) ?_
                      refine lv_goto (tgt := 531) hx hb dX12_goesOn_526 (by decide) ?_
                      have hz_1497 : (93 : Int32).toInt = 93 := by decide +kernel
                      exact J_1481 93 (by decide +kernel) _ _ hP hS _ (lv_sub hl [0, 1, 2, 3] rfl)
                  · have jc_1465 := dk_eqc (k := 6) (by decide +kernel) c_1465
                    exact J_1449 ()  (by omega) _ _ hP hS _ (lv_sub hl [0, 1, 2, 3] rfl)
              · have jc_1417 := dk_ngec (k := 2) (by decide +kernel) c_1417
                refine lv_aload_n hx hb dX12_goesOn_427 rfl (lv_at hl 3 rfl) ?_
                refine dg_get (C := RX12) (T := TX12) (N := 77) hx hb hts (fun w h => bw_mem (wU_X12 w h)) hown K hP sM_0 rfl 8 (by decide) (hts _ (bw_mem wB_1133)) (fun _ h9 => h9) (v := .int y_1416) f_y_1416 dX12_goesOn_428 ?_
                refine lv_if_ne (tgt := 439) hx hb dX12_goesOn_431 (by decide) (fun _ => ?_) (fun c => absurd c (fun z => absurd (dk_eqc (k := 0) (by decide +kernel) z) (by omega)))
                refine lv_iconst (v := 0) hx hb dX12_goesOn_439 (by decide +kernel) ?_
                have hz_1498 : (0 : Int32).toInt = 0 := by decide +kernel
                have hz_1499 : (0 : Int32).toInt = 0 := by decide +kernel
                have hz_1500 : (0 : Int32).toInt = 0 := by decide +kernel
                refine W.widen (k := 0) (n := 0) (Nat.le_of_ble_eq_true rfl) (Nat.le_of_ble_eq_true rfl) ?_
                rw [hQ9]
                exact dg_iret hx hb hr hlocks (by decide +kernel) hP hS ⟨I_1414, M_1414, (by decide +kernel), ⟨sg, sa, se, y_1416, cd, dp, om, oo, (((m_1414.1 0 3 _ sM_0 (by decide)).trans (m_2.1 0 3 _ sM_0 (by decide))).trans f_sg), (((m_1414.1 0 4 _ sM_0 (by decide)).trans (m_2.1 0 4 _ sM_0 (by decide))).trans f_sa), (((m_1414.1 0 5 _ sM_0 (by decide)).trans (m_2.1 0 5 _ sM_0 (by decide))).trans f_se), f_y_1416, (((m_1414.1 0 34 _ sM_0 (by decide)).trans (m_2.1 0 34 _ sM_0 (by decide))).trans f_cd), (((m_1414.1 0 42 _ sM_0 (by decide)).trans (m_2.1 0 42 _ sM_0 (by decide))).trans f_dp), (((m_1414.1 0 45 _ sM_0 (by decide)).trans (m_2.1 0 45 _ sM_0 (by decide))).trans f_om), (((m_1414.1 0 46 _ sM_0 (by decide)).trans (m_2.1 0 46 _ sM_0 (by decide))).trans f_oo), (by omega)⟩, (fun k9 hk9 hk0 => by have q9 := (f_y_1416).symm.trans hk9; cases q9; omega), (ZWM.keep (ZWM.keep ZW m_2 (by decide) (by decide) (by decide) (by decide)) m_1414 (by decide) (by decide) (by decide) (by decide)), trivial⟩ dX12_goesOn_440
        refine lv_if_eq (tgt := 400) hx hb dX12_goesOn_286 (by decide) (fun c_1501 => ?_) (fun c_1501 => ?_)
        · have jc_1501 := dk_eqc (k := 0) (by decide +kernel) c_1501
          clear w_9_1
          exact J_947   _ _ hP hS _ (lv_sub hl [0, 1, 2, 3] rfl)
        · have jc_1501 := dk_neqc (k := 0) (by decide +kernel) c_1501
          have jbc_1501 : 1 ≤ (x_8).toInt := by omega
          clear jc_1501
          have w_9_1_r := w_9_1.mp (by omega)
          clear w_9_1
          refine lv_aload_n hx hb dX12_goesOn_289 rfl (lv_at hl 3 rfl) ?_
          refine lv_ldc2 hx hb hown (hts _ (bw_mem wB_1190)) dX12_goesOn_290 ?_
          refine dg_calli hS hA1 hA (va_runV (As := [.long 6385252]) (rest := []) F (c_m_isWord l g D o S_2 6385252 sg ((m_2.1 0 3 _ sM_0 (by decide)).trans f_sg) (by omega) I_2 H.size) (cwV 1 hts (bw_V wB_1165 wB_1166 wB_1167 wB_881 wB_1164) rfl rfl rfl (by decide +kernel) ⟨Nat.le_of_ble_eq_true rfl, Nat.le_of_ble_eq_true rfl⟩) (dg_preV sM_0 rfl K ST hP hS hA1 hA) rfl rfl hl.1 rfl (lv_room (Nat.le_of_ble_eq_true rfl)) dX12_goesOn_293 ⟨Nat.le_of_ble_eq_true rfl, Nat.le_of_ble_eq_true rfl⟩) (fun x_1502 S_1503 hw_1503 H locs hP hS => ?_)
          rw [hw_1503.1] at hP
          obtain ⟨hq_1503, w_1503_0, w_1503_1, -⟩ := hw_1503
          have w_1503_0 : 0 ≤ (x_1502).toInt ∧ (x_1502).toInt ≤ 1 := w_1503_0
          have w_1503_1 : (x_1502).toInt = 1 → (sg).toInt = 1 := w_1503_1
          have J_1575 : ∀ (u9 : Unit), ((sg).toInt = 1) → ∀ (H : Heap) (locs : List Loc), va_P D vwCl (dg_w g shM o rfM S_2) H → va_S A s.heap H locs → ∀ ls : Array Slot, lv_has ls 5 [(3, .int x_8), (2, .int x_7), (1, .int x_5), (0, .ref (o + 0))] → W p l e ({ frames := 3, cells := 0, slots := 0, locals := 77 } : Room) s m args below meth c H locs 0 0 Q9 (F0 m 309 ls []) := by
            intro u9 rel_0 H locs hP hS ls hl
            clear w_1503_1
            refine lv_aload_n hx hb dX12_goesOn_309 rfl (lv_at hl 3 rfl) ?_
            refine dg_get (C := RX12) (T := TX12) (N := 77) hx hb hts (fun w h => bw_mem (wU_X12 w h)) hown K hP sM_0 rfl 38 (by decide) (hts _ (bw_mem wB_1214)) (fun _ h9 => h9) (v := .ref (o + 23)) (show S_2.1 0 38 = .ref (o + 23) from dg_I.rel (d := 23) I_2 sM_0 (by decide +kernel)) dX12_goesOn_310 ?_
            refine lv_iload_n hx hb dX12_goesOn_313 rfl (lv_at hl 2 rfl) ?_
            have hin_1576 : vp_in x_5 20 := (dk_inv (by omega) (by omega))
            refine dg_iald hx hb K hP sM_23 hin_1576 dX12_goesOn_314 (fun y_1577 ey_1577 => ?_)
            obtain rfl : x_11 = y_1577 := (ey_1577.trans ex_11.symm).symm
            refine lv_if_ne (tgt := 327) hx hb dX12_goesOn_315 (by decide) (fun c_1578 => ?_) (fun c_1578 => ?_)
            · have jc_1578 := dk_neqc (k := 0) (by decide +kernel) c_1578
              have jbc_1578 : 1 ≤ (x_11).toInt := by omega
              clear jc_1578
              refine lv_aload_n hx hb dX12_goesOn_327 rfl (lv_at hl 3 rfl) ?_
              refine dg_get (C := RX12) (T := TX12) (N := 77) hx hb hts (fun w h => bw_mem (wU_X12 w h)) hown K hP sM_0 rfl 8 (by decide) (hts _ (bw_mem wB_1133)) (fun _ h9 => h9) (v := .int y_3) f_y_3 dX12_goesOn_328 ?_
              refine lv_if_le (tgt := 336) hx hb dX12_goesOn_331 (by decide) (fun _ => ?_) (fun c => absurd (dk_lep (k := 0) (by decide +kernel) (by omega)) c)
              refine lv_aload_n hx hb dX12_goesOn_336 rfl (lv_at hl 3 rfl) ?_
              refine lv_ldc2 hx hb hown (hts _ (bw_mem wB_1190)) dX12_goesOn_337 ?_
              refine dg_calli hS hA1 hA (va_runV (As := [.long 6385252]) (rest := []) F (c_m_isWord l g D o S_2 6385252 sg ((m_2.1 0 3 _ sM_0 (by decide)).trans f_sg) (by omega) I_2 H.size) (cwV 1 hts (bw_V wB_1165 wB_1166 wB_1167 wB_881 wB_1164) rfl rfl rfl (by decide +kernel) ⟨Nat.le_of_ble_eq_true rfl, Nat.le_of_ble_eq_true rfl⟩) (dg_preV sM_0 rfl K ST hP hS hA1 hA) rfl rfl hl.1 rfl (lv_room (Nat.le_of_ble_eq_true rfl)) dX12_goesOn_340 ⟨Nat.le_of_ble_eq_true rfl, Nat.le_of_ble_eq_true rfl⟩) (fun x_1579 S_1580 hw_1580 H locs hP hS => ?_)
              rw [hw_1580.1] at hP
              obtain ⟨hq_1580, w_1580_0, w_1580_1, -⟩ := hw_1580
              have w_1580_0 : 0 ≤ (x_1579).toInt ∧ (x_1579).toInt ≤ 1 := w_1580_0
              have w_1580_1 : (x_1579).toInt = 1 → (sg).toInt = 1 := w_1580_1
              refine lv_istore (lv' := [(4, .int x_1579), (3, .int x_8), (2, .int x_7), (1, .int x_5), (0, .ref (o + 0))]) hx hb dX12_goesOn_343 hl (by decide) rfl (fun ls hl => ?_)
              refine lv_aload_n hx hb dX12_goesOn_345 rfl (lv_at hl 4 rfl) ?_
              refine lv_iload hx hb dX12_goesOn_346 (lv_at hl 0 rfl) ?_
              refine lv_if_eq (tgt := 355) hx hb dX12_goesOn_348 (by decide) (fun c_1581 => ?_) (fun c_1581 => ?_)
              · have jc_1581 := dk_eqc (k := 0) (by decide +kernel) c_1581
                clear w_1580_1
                refine lv_iconst (v := 1) hx hb dX12_goesOn_355 (by decide +kernel) ?_
                have hz_1582 : (1 : Int32).toInt = 1 := by decide +kernel
                refine dg_callv hS hA1 hA (va_runV (As := [.int 1]) (rest := []) F (c_m_joins l g D o S_2 1 (by decide +kernel) cd ((m_2.1 0 34 _ sM_0 (by decide)).trans f_cd) (by omega) om ((m_2.1 0 45 _ sM_0 (by decide)).trans f_om) (by omega) (by omega) (ZWM.keep ZW m_2 (by decide) (by decide) (by decide) (by decide)) (ZKM.keep ZK m_2 (by decide) (by decide)) (P1M.keep P1 m_2 (by decide) (by decide) (by decide) (by decide) (by decide) (by decide) (by decide) (by decide) (by decide) (by decide) (by decide) (by decide) (by decide) (by decide) (by decide)) I_2 H.size) (cwV 1 hts (bw_V wB_1234 wB_1235 wB_1236 wB_881 wB_1233) rfl rfl rfl (by decide +kernel) ⟨Nat.le_of_ble_eq_true rfl, Nat.le_of_ble_eq_true rfl⟩) (dg_preV sM_0 rfl K ST hP hS hA1 hA) rfl rfl hl.1 rfl (lv_room (Nat.le_of_ble_eq_true rfl)) dX12_goesOn_356 ⟨Nat.le_of_ble_eq_true rfl, Nat.le_of_ble_eq_true rfl⟩) (fun S_1583 hw_1583 H locs hP hS => ?_)
                obtain ⟨I_1583, m_1583, w_1583_0, w_1583_1, w_1583_2, w_1583_3, -⟩ := hw_1583
                have M_1583 := dg_sm.tr M_2 m_1583 (by decide) (by decide)
                have hz_1584 : (1 : Int32).toInt = 1 := by decide +kernel
                obtain ⟨y_1585, y_1586, f_y_1585, f_y_1586, w_1583_0⟩ := w_1583_0
                have w_1583_0 : (y_1585).toInt + (y_1586).toInt = (cd).toInt + (om).toInt := w_1583_0
                have b_y_1585 : 0 ≤ (y_1585).toInt ∧ (y_1585).toInt ≤ 1600 := dg_I.intb (lo := 0) (hi := 1600) I_1583 sM_0 (by decide +kernel) f_y_1585
                have b_y_1586 : 0 ≤ (y_1586).toInt ∧ (y_1586).toInt ≤ 500 := dg_I.intb (lo := 0) (hi := 500) I_1583 sM_0 (by decide +kernel) f_y_1586
                have w_1583_1 : TOPM S_1583 (1 : Int32) := w_1583_1
                obtain ⟨x_1587, f_x_1587, b_x_1587⟩ := dg_I.int (i := 0) (k := 43) (lo := (-2147483648)) (hi := 2147483647) I_1583 sM_0 (by decide +kernel)
                refine lv_aload_n hx hb dX12_goesOn_359 rfl (lv_at hl 4 rfl) ?_
                refine lv_iload hx hb dX12_goesOn_360 (lv_at hl 0 rfl) ?_
                refine lv_if_eq (tgt := 370) hx hb dX12_goesOn_362 (by decide) (fun _ => ?_) (fun c => absurd (dk_eqp (k := 0) (by decide +kernel) (by omega)) c)
                refine lv_bipush (v := 42) hx hb dX12_goesOn_370 (by decide +kernel) ?_
                refine dg_callv hS hA1 hA (va_runV (As := [.int 42]) (rest := []) F (c_m_holdsBack l g D o S_1583 42 y_1586 f_y_1586 (by omega) I_1583 H.size) (cwV 1 hts (bw_V wB_1224 wB_1225 wB_1226 wB_881 wB_1223) rfl rfl rfl (by decide +kernel) ⟨Nat.le_of_ble_eq_true rfl, Nat.le_of_ble_eq_true rfl⟩) (dg_preV sM_0 rfl K ST hP hS hA1 hA) rfl rfl hl.1 rfl (lv_room (Nat.le_of_ble_eq_true rfl)) dX12_goesOn_372 ⟨Nat.le_of_ble_eq_true rfl, Nat.le_of_ble_eq_true rfl⟩) (fun S_1588 hw_1588 H locs hP hS => ?_)
                obtain ⟨I_1588, m_1588, w_1588_0, w_1588_1, -⟩ := hw_1588
                have M_1588 := dg_sm.tr M_1583 m_1588 (by decide) (by decide)
                have hz_1589 : (42 : Int32).toInt = 42 := by decide +kernel
                obtain ⟨y_1590, f_y_1590, w_1588_0⟩ := w_1588_0
                have w_1588_0 : (y_1590).toInt = (y_1586).toInt + 1 := w_1588_0
                have b_y_1590 : 0 ≤ (y_1590).toInt ∧ (y_1590).toInt ≤ 500 := dg_I.intb (lo := 0) (hi := 500) I_1588 sM_0 (by decide +kernel) f_y_1590
                have w_1588_1 : HBM S_1583 S_1588 (42 : Int32) := w_1588_1
                refine lv_aload_n hx hb dX12_goesOn_375 rfl (lv_at hl 4 rfl) ?_
                refine dg_get (C := RX12) (T := TX12) (N := 77) hx hb hts (fun w h => bw_mem (wU_X12 w h)) hown K hP sM_0 rfl 38 (by decide) (hts _ (bw_mem wB_1214)) (fun _ h9 => h9) (v := .ref (o + 23)) (show S_1588.1 0 38 = .ref (o + 23) from dg_I.rel (d := 23) I_1588 sM_0 (by decide +kernel)) dX12_goesOn_376 ?_
                refine lv_iload_n hx hb dX12_goesOn_379 rfl (lv_at hl 3 rfl) ?_
                refine lv_iconst (v := 0) hx hb dX12_goesOn_380 (by decide +kernel) ?_
                have hin_1591 : vp_in x_5 20 := (dk_inv (by omega) (by omega))
                have hz_1593 : (0 : Int32).toInt = 0 := by decide +kernel
                refine dg_iast hx hb K hP hS hA1 sM_23 hin_1591 dX12_goesOn_381 (fun S_1592 e_1592 H locs hP hS => ?_)
                have I_1592 := dg_I.ufu (lo := 0) (hi := 2) I_1588 e_1592 sM_23 (by decide +kernel) (show 0 ≤ ((0 : Int32)).toInt ∧ ((0 : Int32)).toInt ≤ 2 from (by decide +kernel))
                have M_1592 := dg_sm.uf M_1588 e_1592 sM_23 (by decide)
                have hz_1594 : (0 : Int32).toInt = 0 := by decide +kernel
                refine lv_aload_n hx hb dX12_goesOn_382 rfl (lv_at hl 4 rfl) ?_
                refine dg_get (C := RX12) (T := TX12) (N := 77) hx hb hts (fun w h => bw_mem (wU_X12 w h)) hown K hP sM_0 rfl 39 (by decide) (hts _ (bw_mem wB_1215)) (fun _ h9 => h9) (v := .ref (o + 24)) (show S_1592.1 0 39 = .ref (o + 24) from dg_I.rel (d := 24) I_1592 sM_0 (by decide +kernel)) dX12_goesOn_383 ?_
                refine lv_iload_n hx hb dX12_goesOn_386 rfl (lv_at hl 3 rfl) ?_
                refine lv_iconst (v := 1) hx hb dX12_goesOn_387 (by decide +kernel) ?_
                have hin_1595 : vp_in x_5 20 := (dk_inv (by omega) (by omega))
                have hz_1597 : (1 : Int32).toInt = 1 := by decide +kernel
                refine dg_zast hx hb K hP hS hA1 sM_24 hin_1595 (by decide +kernel) dX12_goesOn_388 (fun S_1596 e_1596 H locs hP hS => ?_)
                have I_1596 := dg_I.ufu (lo := 0) (hi := 1) I_1592 e_1596 sM_24 (by decide +kernel) (show 0 ≤ ((1 : Int32)).toInt ∧ ((1 : Int32)).toInt ≤ 1 from (by decide +kernel))
                have M_1596 := dg_sm.uf M_1592 e_1596 sM_24 (by decide)
                have P0_1596 : P0M S_1596 := P1M.andor w_1583_3 (((m_1583.1 0 42 _ sM_0 (by decide)).trans (m_2.1 0 42 _ sM_0 (by decide))).trans f_dp) f_x_1587 f_y_1586 w_1583_1 m_1588 w_1588_1 (by omega) (fx := x_5) (by omega) e_1592 e_1596
                refine lv_aload_n hx hb dX12_goesOn_389 rfl (lv_at hl 4 rfl) ?_
                refine dg_callv hS hA1 hA (va_runV (As := []) (rest := []) F (c_m_ahead l g D o S_1596 se (((dg_uf_F e_1596 0 5).trans ((dg_uf_F e_1592 0 5).trans ((m_1588.1 0 5 _ sM_0 (by decide)).trans ((m_1583.1 0 5 _ sM_0 (by decide)).trans (m_2.1 0 5 _ sM_0 (by decide)))))).trans f_se) (by omega) sl (((dg_uf_F e_1596 0 2).trans ((dg_uf_F e_1592 0 2).trans ((m_1588.1 0 2 _ sM_0 (by decide)).trans ((m_1583.1 0 2 _ sM_0 (by decide)).trans (m_2.1 0 2 _ sM_0 (by decide)))))).trans f_sl) (by omega) (by omega) I_1596 H.size) (cwV 0 hts (bw_V wB_1161 wB_1162 wB_1163 wB_881 wB_1160) rfl rfl rfl (by decide +kernel) ⟨Nat.le_of_ble_eq_true rfl, Nat.le_of_ble_eq_true rfl⟩) (dg_preV sM_0 rfl K ST hP hS hA1 hA) rfl rfl hl.1 rfl (lv_room (Nat.le_of_ble_eq_true rfl)) dX12_goesOn_390 ⟨Nat.le_of_ble_eq_true rfl, Nat.le_of_ble_eq_true rfl⟩) (fun S_1598 hw_1598 H locs hP hS => ?_)
                obtain ⟨I_1598, m_1598, w_1598_0, -⟩ := hw_1598
                have M_1598 := dg_sm.tr M_1596 m_1598 (by decide) (by decide)
                obtain ⟨y_1599, y_1600, y_1601, f_y_1599, f_y_1600, f_y_1601, w_1598_0⟩ := w_1598_0
                have w_1598_0 : (se).toInt ≤ (y_1600).toInt ∧ (y_1600).toInt ≤ (y_1601).toInt ∧ (y_1601).toInt ≤ (sl).toInt ∧ ((y_1599).toInt ≠ 0 → (y_1600).toInt + 1 ≤ (y_1601).toInt) := w_1598_0
                obtain ⟨w_1598_0_0, w_1598_0_1, w_1598_0_2, w_1598_0_3⟩ := w_1598_0
                have b_y_1599 : 0 ≤ (y_1599).toInt ∧ (y_1599).toInt ≤ 3 := dg_I.intb (lo := 0) (hi := 3) I_1598 sM_0 (by decide +kernel) f_y_1599
                have b_y_1600 : 0 ≤ (y_1600).toInt ∧ (y_1600).toInt ≤ 1600 := dg_I.intb (lo := 0) (hi := 1600) I_1598 sM_0 (by decide +kernel) f_y_1600
                have b_y_1601 : 0 ≤ (y_1601).toInt ∧ (y_1601).toInt ≤ 1600 := dg_I.intb (lo := 0) (hi := 1600) I_1598 sM_0 (by decide +kernel) f_y_1601
                refine lv_aload_n hx hb dX12_goesOn_393 rfl (lv_at hl 4 rfl) ?_
                refine lv_iconst (v := 0) hx hb dX12_goesOn_394 (by decide +kernel) ?_
                have hz_1602 : (0 : Int32).toInt = 0 := by decide +kernel
                refine dg_put (ci := 12) (v := .int 0) (ty := tyX12 46) (C := RX12) (T := TX12) (N := 77) hx hb hts (fun w h => bw_mem (wU_X12 w h)) tyX12 tyX12_ok nmX12 hown K hP hS hA1 sM_0 rfl 46 (by decide) (hts _ (bw_mem wB_1237)) (fun _ h9 => h9) rfl (by decide +kernel) (by decide +kernel) (by decide +kernel) dX12_goesOn_395 (fun S_1603 e_1603 H locs hP hS => ?_)
                have I_1603 := dg_I.uFi (lo := 0) (hi := 1) I_1598 e_1603 sM_0 (by decide +kernel) (show 0 ≤ ((0 : Int32)).toInt ∧ ((0 : Int32)).toInt ≤ 1 from (by decide +kernel))
                have M_1603 := dg_sm.uF M_1598 e_1603 sM_0 (by decide)
                refine lv_iconst (v := 1) hx hb dX12_goesOn_398 (by decide +kernel) ?_
                have hz_1604 : (1 : Int32).toInt = 1 := by decide +kernel
                have hz_1605 : (1 : Int32).toInt = 1 := by decide +kernel
                have hz_1606 : (0 : Int32).toInt = 0 := by decide +kernel
                have hz_1607 : (1 : Int32).toInt = 1 := by decide +kernel
                have hz_1608 : (0 : Int32).toInt = 0 := by decide +kernel
                refine W.widen (k := 0) (n := 0) (Nat.le_of_ble_eq_true rfl) (Nat.le_of_ble_eq_true rfl) ?_
                rw [hQ9]
                exact dg_iret hx hb hr hlocks (by decide +kernel) hP hS ⟨I_1603, M_1603, (by decide +kernel), ⟨y_1599, y_1600, y_1601, y_3, y_1585, dp, y_1590, 0, ((dg_uF_ne e_1603 (fun z => absurd z.2 (by decide))).trans f_y_1599), ((dg_uF_ne e_1603 (fun z => absurd z.2 (by decide))).trans f_y_1600), ((dg_uF_ne e_1603 (fun z => absurd z.2 (by decide))).trans f_y_1601), (((dg_uF_ne e_1603 (fun z => absurd z.2 (by decide))).trans ((m_1598.1 0 8 _ sM_0 (by decide)).trans ((dg_uf_F e_1596 0 8).trans ((dg_uf_F e_1592 0 8).trans ((m_1588.1 0 8 _ sM_0 (by decide)).trans (m_1583.1 0 8 _ sM_0 (by decide))))))).trans f_y_3), (((dg_uF_ne e_1603 (fun z => absurd z.2 (by decide))).trans ((m_1598.1 0 34 _ sM_0 (by decide)).trans ((dg_uf_F e_1596 0 34).trans ((dg_uf_F e_1592 0 34).trans (m_1588.1 0 34 _ sM_0 (by decide)))))).trans f_y_1585), (((dg_uF_ne e_1603 (fun z => absurd z.2 (by decide))).trans ((m_1598.1 0 42 _ sM_0 (by decide)).trans ((dg_uf_F e_1596 0 42).trans ((dg_uf_F e_1592 0 42).trans ((m_1588.1 0 42 _ sM_0 (by decide)).trans ((m_1583.1 0 42 _ sM_0 (by decide)).trans (m_2.1 0 42 _ sM_0 (by decide)))))))).trans f_dp), (((dg_uF_ne e_1603 (fun z => absurd z.2 (by decide))).trans ((m_1598.1 0 45 _ sM_0 (by decide)).trans ((dg_uf_F e_1596 0 45).trans (dg_uf_F e_1592 0 45)))).trans f_y_1590), (dg_uF_at e_1603), (by omega)⟩, (fun k9 hk9 hk0 => POM.mk0 (P0M.keep (P0M.keep P0_1596 m_1598 (by decide) (by decide) (by decide) (by decide) (by decide) (by decide) (by decide) (by decide) (by decide) (by decide) (by decide) (by decide) (by decide) (by decide) (by decide)) (dg_sm.uF (WF := [(0, 46)]) (WA := []) dg_sm.rf e_1603 sM_0 (by decide)) (by decide) (by decide) (by decide) (by decide) (by decide) (by decide) (by decide) (by decide) (by decide) (by decide) (by decide) (by decide) (by decide) (by decide) (by decide)) (dg_uF_at e_1603) (by omega)), (ZWM.keep (ZWM.keep (ZWM.keep (ZWM.keep (ZWM.keep w_1583_2 m_1588 (by decide) (by decide) (by decide) (by decide)) (dg_sm.uf (WF := []) (WA := [23]) dg_sm.rf e_1592 sM_23 (by decide)) (by decide) (by decide) (by decide) (by decide)) (dg_sm.uf (WF := []) (WA := [24]) dg_sm.rf e_1596 sM_24 (by decide)) (by decide) (by decide) (by decide) (by decide)) m_1598 (by decide) (by decide) (by decide) (by decide)) (dg_sm.uF (WF := [(0, 46)]) (WA := []) dg_sm.rf e_1603 sM_0 (by decide)) (by decide) (by decide) (by decide) (by decide)), trivial⟩ dX12_goesOn_399
              · have jc_1581 := dk_neqc (k := 0) (by decide +kernel) c_1581
                have jbc_1581 : 1 ≤ (x_1579).toInt := by omega
                clear jc_1581
                have w_1580_1_r := w_1580_1 (by omega)
                clear w_1580_1
                have hlx_2r := hlx_2 (by omega)
                clear hlx_2
                refine lv_iconst (v := 2) hx hb dX12_goesOn_351 (by decide +kernel) ?_
                refine lv_goto (tgt := 356) hx hb dX12_goesOn_352 (by decide) ?_
                have hz_1609 : (2 : Int32).toInt = 2 := by decide +kernel
                refine dg_callv hS hA1 hA (va_runV (As := [.int 2]) (rest := []) F (c_m_joins l g D o S_2 2 (by decide +kernel) cd ((m_2.1 0 34 _ sM_0 (by decide)).trans f_cd) (by omega) om ((m_2.1 0 45 _ sM_0 (by decide)).trans f_om) (by omega) (by omega) (ZWM.keep ZW m_2 (by decide) (by decide) (by decide) (by decide)) (ZKM.keep ZK m_2 (by decide) (by decide)) (P1M.keep P1 m_2 (by decide) (by decide) (by decide) (by decide) (by decide) (by decide) (by decide) (by decide) (by decide) (by decide) (by decide) (by decide) (by decide) (by decide) (by decide)) I_2 H.size) (cwV 1 hts (bw_V wB_1234 wB_1235 wB_1236 wB_881 wB_1233) rfl rfl rfl (by decide +kernel) ⟨Nat.le_of_ble_eq_true rfl, Nat.le_of_ble_eq_true rfl⟩) (dg_preV sM_0 rfl K ST hP hS hA1 hA) rfl rfl hl.1 rfl (lv_room (Nat.le_of_ble_eq_true rfl)) dX12_goesOn_356 ⟨Nat.le_of_ble_eq_true rfl, Nat.le_of_ble_eq_true rfl⟩) (fun S_1610 hw_1610 H locs hP hS => ?_)
                obtain ⟨I_1610, m_1610, w_1610_0, w_1610_1, w_1610_2, w_1610_3, -⟩ := hw_1610
                have M_1610 := dg_sm.tr M_2 m_1610 (by decide) (by decide)
                have hz_1611 : (2 : Int32).toInt = 2 := by decide +kernel
                obtain ⟨y_1612, y_1613, f_y_1612, f_y_1613, w_1610_0⟩ := w_1610_0
                have w_1610_0 : (y_1612).toInt + (y_1613).toInt = (cd).toInt + (om).toInt := w_1610_0
                have b_y_1612 : 0 ≤ (y_1612).toInt ∧ (y_1612).toInt ≤ 1600 := dg_I.intb (lo := 0) (hi := 1600) I_1610 sM_0 (by decide +kernel) f_y_1612
                have b_y_1613 : 0 ≤ (y_1613).toInt ∧ (y_1613).toInt ≤ 500 := dg_I.intb (lo := 0) (hi := 500) I_1610 sM_0 (by decide +kernel) f_y_1613
                have w_1610_1 : TOPM S_1610 (2 : Int32) := w_1610_1
                obtain ⟨x_1614, f_x_1614, b_x_1614⟩ := dg_I.int (i := 0) (k := 43) (lo := (-2147483648)) (hi := 2147483647) I_1610 sM_0 (by decide +kernel)
                refine lv_aload_n hx hb dX12_goesOn_359 rfl (lv_at hl 4 rfl) ?_
                refine lv_iload hx hb dX12_goesOn_360 (lv_at hl 0 rfl) ?_
                refine lv_if_eq (tgt := 370) hx hb dX12_goesOn_362 (by decide) (fun c => absurd c (fun z => absurd (dk_eqc (k := 0) (by decide +kernel) z) (by omega))) (fun _ => ?_)
                refine lv_bipush (v := 41) hx hb dX12_goesOn_365 (by decide +kernel) ?_
                refine lv_goto (tgt := 372) hx hb dX12_goesOn_367 (by decide) ?_
                refine dg_callv hS hA1 hA (va_runV (As := [.int 41]) (rest := []) F (c_m_holdsBack l g D o S_1610 41 y_1613 f_y_1613 (by omega) I_1610 H.size) (cwV 1 hts (bw_V wB_1224 wB_1225 wB_1226 wB_881 wB_1223) rfl rfl rfl (by decide +kernel) ⟨Nat.le_of_ble_eq_true rfl, Nat.le_of_ble_eq_true rfl⟩) (dg_preV sM_0 rfl K ST hP hS hA1 hA) rfl rfl hl.1 rfl (lv_room (Nat.le_of_ble_eq_true rfl)) dX12_goesOn_372 ⟨Nat.le_of_ble_eq_true rfl, Nat.le_of_ble_eq_true rfl⟩) (fun S_1615 hw_1615 H locs hP hS => ?_)
                obtain ⟨I_1615, m_1615, w_1615_0, w_1615_1, -⟩ := hw_1615
                have M_1615 := dg_sm.tr M_1610 m_1615 (by decide) (by decide)
                have hz_1616 : (41 : Int32).toInt = 41 := by decide +kernel
                obtain ⟨y_1617, f_y_1617, w_1615_0⟩ := w_1615_0
                have w_1615_0 : (y_1617).toInt = (y_1613).toInt + 1 := w_1615_0
                have b_y_1617 : 0 ≤ (y_1617).toInt ∧ (y_1617).toInt ≤ 500 := dg_I.intb (lo := 0) (hi := 500) I_1615 sM_0 (by decide +kernel) f_y_1617
                have w_1615_1 : HBM S_1610 S_1615 (41 : Int32) := w_1615_1
                refine lv_aload_n hx hb dX12_goesOn_375 rfl (lv_at hl 4 rfl) ?_
                refine dg_get (C := RX12) (T := TX12) (N := 77) hx hb hts (fun w h => bw_mem (wU_X12 w h)) hown K hP sM_0 rfl 38 (by decide) (hts _ (bw_mem wB_1214)) (fun _ h9 => h9) (v := .ref (o + 23)) (show S_1615.1 0 38 = .ref (o + 23) from dg_I.rel (d := 23) I_1615 sM_0 (by decide +kernel)) dX12_goesOn_376 ?_
                refine lv_iload_n hx hb dX12_goesOn_379 rfl (lv_at hl 3 rfl) ?_
                refine lv_iconst (v := 0) hx hb dX12_goesOn_380 (by decide +kernel) ?_
                have hin_1618 : vp_in x_5 20 := (dk_inv (by omega) (by omega))
                have hz_1620 : (0 : Int32).toInt = 0 := by decide +kernel
                refine dg_iast hx hb K hP hS hA1 sM_23 hin_1618 dX12_goesOn_381 (fun S_1619 e_1619 H locs hP hS => ?_)
                have I_1619 := dg_I.ufu (lo := 0) (hi := 2) I_1615 e_1619 sM_23 (by decide +kernel) (show 0 ≤ ((0 : Int32)).toInt ∧ ((0 : Int32)).toInt ≤ 2 from (by decide +kernel))
                have M_1619 := dg_sm.uf M_1615 e_1619 sM_23 (by decide)
                have hz_1621 : (0 : Int32).toInt = 0 := by decide +kernel
                refine lv_aload_n hx hb dX12_goesOn_382 rfl (lv_at hl 4 rfl) ?_
                refine dg_get (C := RX12) (T := TX12) (N := 77) hx hb hts (fun w h => bw_mem (wU_X12 w h)) hown K hP sM_0 rfl 39 (by decide) (hts _ (bw_mem wB_1215)) (fun _ h9 => h9) (v := .ref (o + 24)) (show S_1619.1 0 39 = .ref (o + 24) from dg_I.rel (d := 24) I_1619 sM_0 (by decide +kernel)) dX12_goesOn_383 ?_
                refine lv_iload_n hx hb dX12_goesOn_386 rfl (lv_at hl 3 rfl) ?_
                refine lv_iconst (v := 1) hx hb dX12_goesOn_387 (by decide +kernel) ?_
                have hin_1622 : vp_in x_5 20 := (dk_inv (by omega) (by omega))
                have hz_1624 : (1 : Int32).toInt = 1 := by decide +kernel
                refine dg_zast hx hb K hP hS hA1 sM_24 hin_1622 (by decide +kernel) dX12_goesOn_388 (fun S_1623 e_1623 H locs hP hS => ?_)
                have I_1623 := dg_I.ufu (lo := 0) (hi := 1) I_1619 e_1623 sM_24 (by decide +kernel) (show 0 ≤ ((1 : Int32)).toInt ∧ ((1 : Int32)).toInt ≤ 1 from (by decide +kernel))
                have M_1623 := dg_sm.uf M_1619 e_1623 sM_24 (by decide)
                have P0_1623 : P0M S_1623 := P1M.andor w_1610_3 (((m_1610.1 0 42 _ sM_0 (by decide)).trans (m_2.1 0 42 _ sM_0 (by decide))).trans f_dp) f_x_1614 f_y_1613 w_1610_1 m_1615 w_1615_1 (by omega) (fx := x_5) (by omega) e_1619 e_1623
                refine lv_aload_n hx hb dX12_goesOn_389 rfl (lv_at hl 4 rfl) ?_
                refine dg_callv hS hA1 hA (va_runV (As := []) (rest := []) F (c_m_ahead l g D o S_1623 se (((dg_uf_F e_1623 0 5).trans ((dg_uf_F e_1619 0 5).trans ((m_1615.1 0 5 _ sM_0 (by decide)).trans ((m_1610.1 0 5 _ sM_0 (by decide)).trans (m_2.1 0 5 _ sM_0 (by decide)))))).trans f_se) (by omega) sl (((dg_uf_F e_1623 0 2).trans ((dg_uf_F e_1619 0 2).trans ((m_1615.1 0 2 _ sM_0 (by decide)).trans ((m_1610.1 0 2 _ sM_0 (by decide)).trans (m_2.1 0 2 _ sM_0 (by decide)))))).trans f_sl) (by omega) (by omega) I_1623 H.size) (cwV 0 hts (bw_V wB_1161 wB_1162 wB_1163 wB_881 wB_1160) rfl rfl rfl (by decide +kernel) ⟨Nat.le_of_ble_eq_true rfl, Nat.le_of_ble_eq_true rfl⟩) (dg_preV sM_0 rfl K ST hP hS hA1 hA) rfl rfl hl.1 rfl (lv_room (Nat.le_of_ble_eq_true rfl)) dX12_goesOn_390 ⟨Nat.le_of_ble_eq_true rfl, Nat.le_of_ble_eq_true rfl⟩) (fun S_1625 hw_1625 H locs hP hS => ?_)
                obtain ⟨I_1625, m_1625, w_1625_0, -⟩ := hw_1625
                have M_1625 := dg_sm.tr M_1623 m_1625 (by decide) (by decide)
                obtain ⟨y_1626, y_1627, y_1628, f_y_1626, f_y_1627, f_y_1628, w_1625_0⟩ := w_1625_0
                have w_1625_0 : (se).toInt ≤ (y_1627).toInt ∧ (y_1627).toInt ≤ (y_1628).toInt ∧ (y_1628).toInt ≤ (sl).toInt ∧ ((y_1626).toInt ≠ 0 → (y_1627).toInt + 1 ≤ (y_1628).toInt) := w_1625_0
                obtain ⟨w_1625_0_0, w_1625_0_1, w_1625_0_2, w_1625_0_3⟩ := w_1625_0
                have b_y_1626 : 0 ≤ (y_1626).toInt ∧ (y_1626).toInt ≤ 3 := dg_I.intb (lo := 0) (hi := 3) I_1625 sM_0 (by decide +kernel) f_y_1626
                have b_y_1627 : 0 ≤ (y_1627).toInt ∧ (y_1627).toInt ≤ 1600 := dg_I.intb (lo := 0) (hi := 1600) I_1625 sM_0 (by decide +kernel) f_y_1627
                have b_y_1628 : 0 ≤ (y_1628).toInt ∧ (y_1628).toInt ≤ 1600 := dg_I.intb (lo := 0) (hi := 1600) I_1625 sM_0 (by decide +kernel) f_y_1628
                refine lv_aload_n hx hb dX12_goesOn_393 rfl (lv_at hl 4 rfl) ?_
                refine lv_iconst (v := 0) hx hb dX12_goesOn_394 (by decide +kernel) ?_
                have hz_1629 : (0 : Int32).toInt = 0 := by decide +kernel
                refine dg_put (ci := 12) (v := .int 0) (ty := tyX12 46) (C := RX12) (T := TX12) (N := 77) hx hb hts (fun w h => bw_mem (wU_X12 w h)) tyX12 tyX12_ok nmX12 hown K hP hS hA1 sM_0 rfl 46 (by decide) (hts _ (bw_mem wB_1237)) (fun _ h9 => h9) rfl (by decide +kernel) (by decide +kernel) (by decide +kernel) dX12_goesOn_395 (fun S_1630 e_1630 H locs hP hS => ?_)
                have I_1630 := dg_I.uFi (lo := 0) (hi := 1) I_1625 e_1630 sM_0 (by decide +kernel) (show 0 ≤ ((0 : Int32)).toInt ∧ ((0 : Int32)).toInt ≤ 1 from (by decide +kernel))
                have M_1630 := dg_sm.uF M_1625 e_1630 sM_0 (by decide)
                refine lv_iconst (v := 1) hx hb dX12_goesOn_398 (by decide +kernel) ?_
                have hz_1631 : (1 : Int32).toInt = 1 := by decide +kernel
                have hz_1632 : (1 : Int32).toInt = 1 := by decide +kernel
                have hz_1633 : (0 : Int32).toInt = 0 := by decide +kernel
                have hz_1634 : (1 : Int32).toInt = 1 := by decide +kernel
                have hz_1635 : (0 : Int32).toInt = 0 := by decide +kernel
                refine W.widen (k := 0) (n := 0) (Nat.le_of_ble_eq_true rfl) (Nat.le_of_ble_eq_true rfl) ?_
                rw [hQ9]
                exact dg_iret hx hb hr hlocks (by decide +kernel) hP hS ⟨I_1630, M_1630, (by decide +kernel), ⟨y_1626, y_1627, y_1628, y_3, y_1612, dp, y_1617, 0, ((dg_uF_ne e_1630 (fun z => absurd z.2 (by decide))).trans f_y_1626), ((dg_uF_ne e_1630 (fun z => absurd z.2 (by decide))).trans f_y_1627), ((dg_uF_ne e_1630 (fun z => absurd z.2 (by decide))).trans f_y_1628), (((dg_uF_ne e_1630 (fun z => absurd z.2 (by decide))).trans ((m_1625.1 0 8 _ sM_0 (by decide)).trans ((dg_uf_F e_1623 0 8).trans ((dg_uf_F e_1619 0 8).trans ((m_1615.1 0 8 _ sM_0 (by decide)).trans (m_1610.1 0 8 _ sM_0 (by decide))))))).trans f_y_3), (((dg_uF_ne e_1630 (fun z => absurd z.2 (by decide))).trans ((m_1625.1 0 34 _ sM_0 (by decide)).trans ((dg_uf_F e_1623 0 34).trans ((dg_uf_F e_1619 0 34).trans (m_1615.1 0 34 _ sM_0 (by decide)))))).trans f_y_1612), (((dg_uF_ne e_1630 (fun z => absurd z.2 (by decide))).trans ((m_1625.1 0 42 _ sM_0 (by decide)).trans ((dg_uf_F e_1623 0 42).trans ((dg_uf_F e_1619 0 42).trans ((m_1615.1 0 42 _ sM_0 (by decide)).trans ((m_1610.1 0 42 _ sM_0 (by decide)).trans (m_2.1 0 42 _ sM_0 (by decide)))))))).trans f_dp), (((dg_uF_ne e_1630 (fun z => absurd z.2 (by decide))).trans ((m_1625.1 0 45 _ sM_0 (by decide)).trans ((dg_uf_F e_1623 0 45).trans (dg_uf_F e_1619 0 45)))).trans f_y_1617), (dg_uF_at e_1630), (by omega)⟩, (fun k9 hk9 hk0 => POM.mk0 (P0M.keep (P0M.keep P0_1623 m_1625 (by decide) (by decide) (by decide) (by decide) (by decide) (by decide) (by decide) (by decide) (by decide) (by decide) (by decide) (by decide) (by decide) (by decide) (by decide)) (dg_sm.uF (WF := [(0, 46)]) (WA := []) dg_sm.rf e_1630 sM_0 (by decide)) (by decide) (by decide) (by decide) (by decide) (by decide) (by decide) (by decide) (by decide) (by decide) (by decide) (by decide) (by decide) (by decide) (by decide) (by decide)) (dg_uF_at e_1630) (by omega)), (ZWM.keep (ZWM.keep (ZWM.keep (ZWM.keep (ZWM.keep w_1610_2 m_1615 (by decide) (by decide) (by decide) (by decide)) (dg_sm.uf (WF := []) (WA := [23]) dg_sm.rf e_1619 sM_23 (by decide)) (by decide) (by decide) (by decide) (by decide)) (dg_sm.uf (WF := []) (WA := [24]) dg_sm.rf e_1623 sM_24 (by decide)) (by decide) (by decide) (by decide) (by decide)) m_1625 (by decide) (by decide) (by decide) (by decide)) (dg_sm.uF (WF := [(0, 46)]) (WA := []) dg_sm.rf e_1630 sM_0 (by decide)) (by decide) (by decide) (by decide) (by decide)), trivial⟩ dX12_goesOn_399
            · have jc_1578 := dk_eqc (k := 0) (by decide +kernel) c_1578
              refine lv_aload_n hx hb dX12_goesOn_318 rfl (lv_at hl 3 rfl) ?_
              refine lv_iconst (v := 1) hx hb dX12_goesOn_319 (by decide +kernel) ?_
              refine lv_aload_n hx hb dX12_goesOn_320 rfl (lv_at hl 3 rfl) ?_
              refine dg_get (C := RX12) (T := TX12) (N := 77) hx hb hts (fun w h => bw_mem (wU_X12 w h)) hown K hP sM_0 rfl 4 (by decide) (hts _ (bw_mem wB_1145)) (fun _ h9 => h9) (v := .int sa) ((m_2.1 0 4 _ sM_0 (by decide)).trans f_sa) dX12_goesOn_321 ?_
              have hz_1636 : (1 : Int32).toInt = 1 := by decide +kernel
              refine dg_callv hS hA1 hA (va_runV (As := [.int 1, .int sa]) (rest := []) F (c_m_blame l g D o S_2 1 (by decide +kernel) sa y_3 f_y_3 (by omega) I_2 H.size) (cwV 2 hts (bw_V wB_1137 wB_1138 wB_1139 wB_881 wB_1136) rfl rfl rfl (by decide +kernel) ⟨Nat.le_of_ble_eq_true rfl, Nat.le_of_ble_eq_true rfl⟩) (dg_preV sM_0 rfl K ST hP hS hA1 hA) rfl rfl hl.1 rfl (lv_room (Nat.le_of_ble_eq_true rfl)) dX12_goesOn_324 ⟨Nat.le_of_ble_eq_true rfl, Nat.le_of_ble_eq_true rfl⟩) (fun S_1637 hw_1637 H locs hP hS => ?_)
              obtain ⟨I_1637, m_1637, w_1637_0, -⟩ := hw_1637
              have M_1637 := dg_sm.tr M_2 m_1637 (by decide) (by decide)
              have hz_1638 : (1 : Int32).toInt = 1 := by decide +kernel
              obtain ⟨y_1639, f_y_1639, w_1637_0⟩ := w_1637_0
              have w_1637_0 : ((y_3).toInt ≠ 0 → (y_1639).toInt = (y_3).toInt) ∧ ((y_3).toInt = 0 → (y_1639).toInt = ((1 : Int32)).toInt) := w_1637_0
              obtain ⟨w_1637_0_0, w_1637_0_1⟩ := w_1637_0
              clear w_1637_0_0
              have w_1637_0_1r := w_1637_0_1 (by omega)
              clear w_1637_0_1
              have b_y_1639 : 0 ≤ (y_1639).toInt ∧ (y_1639).toInt ≤ 6 := dg_I.intb (lo := 0) (hi := 6) I_1637 sM_0 (by decide +kernel) f_y_1639
              have hbl_y_1639 : 1 ≤ (y_1639).toInt := by omega
              refine lv_aload_n hx hb dX12_goesOn_327 rfl (lv_at hl 3 rfl) ?_
              refine dg_get (C := RX12) (T := TX12) (N := 77) hx hb hts (fun w h => bw_mem (wU_X12 w h)) hown K hP sM_0 rfl 8 (by decide) (hts _ (bw_mem wB_1133)) (fun _ h9 => h9) (v := .int y_1639) f_y_1639 dX12_goesOn_328 ?_
              refine lv_if_le (tgt := 336) hx hb dX12_goesOn_331 (by decide) (fun c => absurd c (fun z => absurd (dk_lec (k := 0) (by decide +kernel) z) (by omega))) (fun _ => ?_)
              refine lv_iconst (v := 0) hx hb dX12_goesOn_334 (by decide +kernel) ?_
              have hz_1640 : (0 : Int32).toInt = 0 := by decide +kernel
              have hz_1641 : (0 : Int32).toInt = 0 := by decide +kernel
              have hz_1642 : (0 : Int32).toInt = 0 := by decide +kernel
              refine W.widen (k := 0) (n := 0) (Nat.le_of_ble_eq_true rfl) (Nat.le_of_ble_eq_true rfl) ?_
              rw [hQ9]
              exact dg_iret hx hb hr hlocks (by decide +kernel) hP hS ⟨I_1637, M_1637, (by decide +kernel), ⟨sg, sa, se, y_1639, cd, dp, om, oo, (((m_1637.1 0 3 _ sM_0 (by decide)).trans (m_2.1 0 3 _ sM_0 (by decide))).trans f_sg), (((m_1637.1 0 4 _ sM_0 (by decide)).trans (m_2.1 0 4 _ sM_0 (by decide))).trans f_sa), (((m_1637.1 0 5 _ sM_0 (by decide)).trans (m_2.1 0 5 _ sM_0 (by decide))).trans f_se), f_y_1639, (((m_1637.1 0 34 _ sM_0 (by decide)).trans (m_2.1 0 34 _ sM_0 (by decide))).trans f_cd), (((m_1637.1 0 42 _ sM_0 (by decide)).trans (m_2.1 0 42 _ sM_0 (by decide))).trans f_dp), (((m_1637.1 0 45 _ sM_0 (by decide)).trans (m_2.1 0 45 _ sM_0 (by decide))).trans f_om), (((m_1637.1 0 46 _ sM_0 (by decide)).trans (m_2.1 0 46 _ sM_0 (by decide))).trans f_oo), (by omega)⟩, (fun k9 hk9 hk0 => by have q9 := (f_y_1639).symm.trans hk9; cases q9; omega), (ZWM.keep (ZWM.keep ZW m_2 (by decide) (by decide) (by decide) (by decide)) m_1637 (by decide) (by decide) (by decide) (by decide)), trivial⟩ dX12_goesOn_335
          refine lv_if_ne (tgt := 309) hx hb dX12_goesOn_296 (by decide) (fun c_1643 => ?_) (fun c_1643 => ?_)
          · have jc_1643 := dk_neqc (k := 0) (by decide +kernel) c_1643
            have jbc_1643 : 1 ≤ (x_1502).toInt := by omega
            clear jc_1643
            have w_1503_1_r := w_1503_1 (by omega)
            clear w_1503_1
            have hlx_2r := hlx_2 (by omega)
            clear hlx_2
            exact J_1575 ()  (by omega) _ _ hP hS _ (lv_sub hl [0, 1, 2, 3] rfl)
          · have jc_1643 := dk_eqc (k := 0) (by decide +kernel) c_1643
            clear w_1503_1
            refine lv_aload_n hx hb dX12_goesOn_299 rfl (lv_at hl 3 rfl) ?_
            refine lv_ldc2 hx hb hown (hts _ (bw_mem wB_1189)) dX12_goesOn_300 ?_
            refine dg_calli hS hA1 hA (va_runV (As := [.long 28530]) (rest := []) F (c_m_isWord l g D o S_2 28530 sg ((m_2.1 0 3 _ sM_0 (by decide)).trans f_sg) (by omega) I_2 H.size) (cwV 1 hts (bw_V wB_1165 wB_1166 wB_1167 wB_881 wB_1164) rfl rfl rfl (by decide +kernel) ⟨Nat.le_of_ble_eq_true rfl, Nat.le_of_ble_eq_true rfl⟩) (dg_preV sM_0 rfl K ST hP hS hA1 hA) rfl rfl hl.1 rfl (lv_room (Nat.le_of_ble_eq_true rfl)) dX12_goesOn_303 ⟨Nat.le_of_ble_eq_true rfl, Nat.le_of_ble_eq_true rfl⟩) (fun x_1644 S_1645 hw_1645 H locs hP hS => ?_)
            rw [hw_1645.1] at hP
            obtain ⟨hq_1645, w_1645_0, w_1645_1, -⟩ := hw_1645
            have w_1645_0 : 0 ≤ (x_1644).toInt ∧ (x_1644).toInt ≤ 1 := w_1645_0
            have w_1645_1 : (x_1644).toInt = 1 → (sg).toInt = 1 := w_1645_1
            refine lv_if_eq (tgt := 400) hx hb dX12_goesOn_306 (by decide) (fun c_1646 => ?_) (fun c_1646 => ?_)
            · have jc_1646 := dk_eqc (k := 0) (by decide +kernel) c_1646
              clear w_1645_1
              exact J_947   _ _ hP hS _ (lv_sub hl [0, 1, 2, 3] rfl)
            · have jc_1646 := dk_neqc (k := 0) (by decide +kernel) c_1646
              have jbc_1646 : 1 ≤ (x_1644).toInt := by omega
              clear jc_1646
              have w_1645_1_r := w_1645_1 (by omega)
              clear w_1645_1
              have hlx_2r := hlx_2 (by omega)
              clear hlx_2
              exact J_1575 ()  (by omega) _ _ hP hS _ (lv_sub hl [0, 1, 2, 3] rfl)
      refine lv_if_eq (tgt := 285) hx hb dX12_goesOn_189 (by decide) (fun c_1647 => ?_) (fun c_1647 => ?_)
      · have jc_1647 := dk_eqc (k := 0) (by decide +kernel) c_1647
        clear w_9_1
        exact J_706   _ _ hP hS _ (lv_sub hl [0, 1, 2, 3] rfl)
      · have jc_1647 := dk_neqc (k := 0) (by decide +kernel) c_1647
        have jbc_1647 : 1 ≤ (x_8).toInt := by omega
        clear jc_1647
        have w_9_1_r := w_9_1.mp (by omega)
        clear w_9_1
        refine lv_aload_n hx hb dX12_goesOn_192 rfl (lv_at hl 3 rfl) ?_
        refine dg_get (C := RX12) (T := TX12) (N := 77) hx hb hts (fun w h => bw_mem (wU_X12 w h)) hown K hP sM_0 rfl 38 (by decide) (hts _ (bw_mem wB_1214)) (fun _ h9 => h9) (v := .ref (o + 23)) (show S_2.1 0 38 = .ref (o + 23) from dg_I.rel (d := 23) I_2 sM_0 (by decide +kernel)) dX12_goesOn_193 ?_
        refine lv_iload_n hx hb dX12_goesOn_196 rfl (lv_at hl 2 rfl) ?_
        have hin_1648 : vp_in x_5 20 := (dk_inv (by omega) (by omega))
        refine dg_iald hx hb K hP sM_23 hin_1648 dX12_goesOn_197 (fun y_1649 ey_1649 => ?_)
        obtain rfl : x_11 = y_1649 := (ey_1649.trans ex_11.symm).symm
        refine lv_if_ne (tgt := 285) hx hb dX12_goesOn_198 (by decide) (fun c_1650 => ?_) (fun c_1650 => ?_)
        · have jc_1650 := dk_neqc (k := 0) (by decide +kernel) c_1650
          have jbc_1650 : 1 ≤ (x_11).toInt := by omega
          clear jc_1650
          exact J_706   _ _ hP hS _ (lv_sub hl [0, 1, 2, 3] rfl)
        · have jc_1650 := dk_eqc (k := 0) (by decide +kernel) c_1650
          refine lv_aload_n hx hb dX12_goesOn_201 rfl (lv_at hl 3 rfl) ?_
          refine lv_bipush (v := 60) hx hb dX12_goesOn_202 (by decide +kernel) ?_
          refine dg_calli hS hA1 hA (va_runV (As := [.int 60]) (rest := []) F (c_m_isSign l g D o S_2 60 sg ((m_2.1 0 3 _ sM_0 (by decide)).trans f_sg) (by omega) va ((m_2.1 0 6 _ sM_0 (by decide)).trans f_va) (by omega) I_2 H.size) (cwV 1 hts (bw_V wB_1157 wB_1158 wB_1159 wB_881 wB_1156) rfl rfl rfl (by decide +kernel) ⟨Nat.le_of_ble_eq_true rfl, Nat.le_of_ble_eq_true rfl⟩) (dg_preV sM_0 rfl K ST hP hS hA1 hA) rfl rfl hl.1 rfl (lv_room (Nat.le_of_ble_eq_true rfl)) dX12_goesOn_204 ⟨Nat.le_of_ble_eq_true rfl, Nat.le_of_ble_eq_true rfl⟩) (fun x_1651 S_1652 hw_1652 H locs hP hS => ?_)
          rw [hw_1652.1] at hP
          obtain ⟨hq_1652, w_1652_0, w_1652_1, -⟩ := hw_1652
          have hz_1653 : (60 : Int32).toInt = 60 := by decide +kernel
          have w_1652_0 : 0 ≤ (x_1651).toInt ∧ (x_1651).toInt ≤ 1 := w_1652_0
          have w_1652_1 : (x_1651).toInt = 1 ↔ ((sg).toInt = 3 ∧ (va).toInt = ((60 : Int32)).toInt) := w_1652_1
          have J_1695 : ∀ (u9 : Unit), ((sg).toInt = 3) → ∀ (H : Heap) (locs : List Loc), va_P D vwCl (dg_w g shM o rfM S_2) H → va_S A s.heap H locs → ∀ ls : Array Slot, lv_has ls 5 [(3, .int x_8), (2, .int x_7), (1, .int x_5), (0, .ref (o + 0))] → W p l e ({ frames := 3, cells := 0, slots := 0, locals := 77 } : Room) s m args below meth c H locs 0 0 Q9 (F0 m 228 ls []) := by
            intro u9 rel_0 H locs hP hS ls hl
            clear w_1652_1
            refine lv_aload_n hx hb dX12_goesOn_228 rfl (lv_at hl 3 rfl) ?_
            refine lv_iconst (v := 5) hx hb dX12_goesOn_229 (by decide +kernel) ?_
            have hz_1696 : (5 : Int32).toInt = 5 := by decide +kernel
            refine dg_callv hS hA1 hA (va_runV (As := [.int 5]) (rest := []) F (c_m_joins l g D o S_2 5 (by decide +kernel) cd ((m_2.1 0 34 _ sM_0 (by decide)).trans f_cd) (by omega) om ((m_2.1 0 45 _ sM_0 (by decide)).trans f_om) (by omega) (by omega) (ZWM.keep ZW m_2 (by decide) (by decide) (by decide) (by decide)) (ZKM.keep ZK m_2 (by decide) (by decide)) (P1M.keep P1 m_2 (by decide) (by decide) (by decide) (by decide) (by decide) (by decide) (by decide) (by decide) (by decide) (by decide) (by decide) (by decide) (by decide) (by decide) (by decide)) I_2 H.size) (cwV 1 hts (bw_V wB_1234 wB_1235 wB_1236 wB_881 wB_1233) rfl rfl rfl (by decide +kernel) ⟨Nat.le_of_ble_eq_true rfl, Nat.le_of_ble_eq_true rfl⟩) (dg_preV sM_0 rfl K ST hP hS hA1 hA) rfl rfl hl.1 rfl (lv_room (Nat.le_of_ble_eq_true rfl)) dX12_goesOn_230 ⟨Nat.le_of_ble_eq_true rfl, Nat.le_of_ble_eq_true rfl⟩) (fun S_1697 hw_1697 H locs hP hS => ?_)
            obtain ⟨I_1697, m_1697, w_1697_0, w_1697_1, w_1697_2, w_1697_3, -⟩ := hw_1697
            have M_1697 := dg_sm.tr M_2 m_1697 (by decide) (by decide)
            have hz_1698 : (5 : Int32).toInt = 5 := by decide +kernel
            obtain ⟨y_1699, y_1700, f_y_1699, f_y_1700, w_1697_0⟩ := w_1697_0
            have w_1697_0 : (y_1699).toInt + (y_1700).toInt = (cd).toInt + (om).toInt := w_1697_0
            have b_y_1699 : 0 ≤ (y_1699).toInt ∧ (y_1699).toInt ≤ 1600 := dg_I.intb (lo := 0) (hi := 1600) I_1697 sM_0 (by decide +kernel) f_y_1699
            have b_y_1700 : 0 ≤ (y_1700).toInt ∧ (y_1700).toInt ≤ 500 := dg_I.intb (lo := 0) (hi := 500) I_1697 sM_0 (by decide +kernel) f_y_1700
            have w_1697_1 : TOPM S_1697 (5 : Int32) := w_1697_1
            obtain ⟨x_1701, f_x_1701, b_x_1701⟩ := dg_I.int (i := 0) (k := 43) (lo := (-2147483648)) (hi := 2147483647) I_1697 sM_0 (by decide +kernel)
            refine lv_aload_n hx hb dX12_goesOn_233 rfl (lv_at hl 3 rfl) ?_
            refine lv_aload_n hx hb dX12_goesOn_234 rfl (lv_at hl 3 rfl) ?_
            refine lv_bipush (v := 60) hx hb dX12_goesOn_235 (by decide +kernel) ?_
            refine dg_calli hS hA1 hA (va_runV (As := [.int 60]) (rest := [.ref (o + 0)]) F (c_m_isSign l g D o S_1697 60 sg (((m_1697.1 0 3 _ sM_0 (by decide)).trans (m_2.1 0 3 _ sM_0 (by decide))).trans f_sg) (by omega) va (((m_1697.1 0 6 _ sM_0 (by decide)).trans (m_2.1 0 6 _ sM_0 (by decide))).trans f_va) (by omega) I_1697 H.size) (cwV 1 hts (bw_V wB_1157 wB_1158 wB_1159 wB_881 wB_1156) rfl rfl rfl (by decide +kernel) ⟨Nat.le_of_ble_eq_true rfl, Nat.le_of_ble_eq_true rfl⟩) (dg_preV sM_0 rfl K ST hP hS hA1 hA) rfl rfl hl.1 rfl (lv_room (Nat.le_of_ble_eq_true rfl)) dX12_goesOn_237 ⟨Nat.le_of_ble_eq_true rfl, Nat.le_of_ble_eq_true rfl⟩) (fun x_1702 S_1703 hw_1703 H locs hP hS => ?_)
            rw [hw_1703.1] at hP
            obtain ⟨hq_1703, w_1703_0, w_1703_1, -⟩ := hw_1703
            have hz_1704 : (60 : Int32).toInt = 60 := by decide +kernel
            have w_1703_0 : 0 ≤ (x_1702).toInt ∧ (x_1702).toInt ≤ 1 := w_1703_0
            have w_1703_1 : (x_1702).toInt = 1 ↔ ((sg).toInt = 3 ∧ (va).toInt = ((60 : Int32)).toInt) := w_1703_1
            have J_1728 : ∀ (x_1710 : Int32), (38 ≤ (x_1710).toInt ∧ (x_1710).toInt ≤ 40) → ∀ (H : Heap) (locs : List Loc), va_P D vwCl (dg_w g shM o rfM S_1697) H → va_S A s.heap H locs → ∀ ls : Array Slot, lv_has ls 5 [(3, .int x_8), (2, .int x_7), (1, .int x_5), (0, .ref (o + 0))] → W p l e ({ frames := 3, cells := 0, slots := 0, locals := 77 } : Room) s m args below meth c H locs 0 0 Q9 (F0 m 264 ls [.int x_1710, .ref (o + 0)]) := by
              intro x_1710 b_x_1710 H locs hP hS ls hl
              clear w_1703_1
              refine dg_callv hS hA1 hA (va_runV (As := [.int x_1710]) (rest := []) F (c_m_holdsBack l g D o S_1697 x_1710 y_1700 f_y_1700 (by omega) I_1697 H.size) (cwV 1 hts (bw_V wB_1224 wB_1225 wB_1226 wB_881 wB_1223) rfl rfl rfl (by decide +kernel) ⟨Nat.le_of_ble_eq_true rfl, Nat.le_of_ble_eq_true rfl⟩) (dg_preV sM_0 rfl K ST hP hS hA1 hA) rfl rfl hl.1 rfl (lv_room (Nat.le_of_ble_eq_true rfl)) dX12_goesOn_264 ⟨Nat.le_of_ble_eq_true rfl, Nat.le_of_ble_eq_true rfl⟩) (fun S_1729 hw_1729 H locs hP hS => ?_)
              obtain ⟨I_1729, m_1729, w_1729_0, w_1729_1, -⟩ := hw_1729
              have M_1729 := dg_sm.tr M_1697 m_1729 (by decide) (by decide)
              obtain ⟨y_1730, f_y_1730, w_1729_0⟩ := w_1729_0
              have w_1729_0 : (y_1730).toInt = (y_1700).toInt + 1 := w_1729_0
              have b_y_1730 : 0 ≤ (y_1730).toInt ∧ (y_1730).toInt ≤ 500 := dg_I.intb (lo := 0) (hi := 500) I_1729 sM_0 (by decide +kernel) f_y_1730
              have w_1729_1 : HBM S_1697 S_1729 x_1710 := w_1729_1
              refine lv_aload_n hx hb dX12_goesOn_267 rfl (lv_at hl 3 rfl) ?_
              refine dg_get (C := RX12) (T := TX12) (N := 77) hx hb hts (fun w h => bw_mem (wU_X12 w h)) hown K hP sM_0 rfl 38 (by decide) (hts _ (bw_mem wB_1214)) (fun _ h9 => h9) (v := .ref (o + 23)) (show S_1729.1 0 38 = .ref (o + 23) from dg_I.rel (d := 23) I_1729 sM_0 (by decide +kernel)) dX12_goesOn_268 ?_
              refine lv_iload_n hx hb dX12_goesOn_271 rfl (lv_at hl 2 rfl) ?_
              refine lv_iconst (v := 1) hx hb dX12_goesOn_272 (by decide +kernel) ?_
              have hin_1731 : vp_in x_5 20 := (dk_inv (by omega) (by omega))
              have hz_1733 : (1 : Int32).toInt = 1 := by decide +kernel
              refine dg_iast hx hb K hP hS hA1 sM_23 hin_1731 dX12_goesOn_273 (fun S_1732 e_1732 H locs hP hS => ?_)
              have I_1732 := dg_I.ufu (lo := 0) (hi := 2) I_1729 e_1732 sM_23 (by decide +kernel) (show 0 ≤ ((1 : Int32)).toInt ∧ ((1 : Int32)).toInt ≤ 2 from (by decide +kernel))
              have M_1732 := dg_sm.uf M_1729 e_1732 sM_23 (by decide)
              have hz_1734 : (1 : Int32).toInt = 1 := by decide +kernel
              have P0_1732 : P0M S_1732 := P1M.cmp w_1697_3 (((m_1697.1 0 42 _ sM_0 (by decide)).trans (m_2.1 0 42 _ sM_0 (by decide))).trans f_dp) f_x_1701 f_y_1700 w_1697_1 (by omega) m_1729 w_1729_1 (by omega) (fx := x_5) (by omega) ((congrFun (m_1697.2 22 _ sM_22 (by decide)).1 _).trans ex_7.symm) (by unfold dk_ts; omega) (by rw [((congrFun (m_1697.2 23 _ sM_23 (by decide)).1 _).trans ex_11.symm)]; omega) e_1732 (by omega)
              refine lv_aload_n hx hb dX12_goesOn_274 rfl (lv_at hl 3 rfl) ?_
              refine dg_callv hS hA1 hA (va_runV (As := []) (rest := []) F (c_m_ahead l g D o S_1732 se (((dg_uf_F e_1732 0 5).trans ((m_1729.1 0 5 _ sM_0 (by decide)).trans ((m_1697.1 0 5 _ sM_0 (by decide)).trans (m_2.1 0 5 _ sM_0 (by decide))))).trans f_se) (by omega) sl (((dg_uf_F e_1732 0 2).trans ((m_1729.1 0 2 _ sM_0 (by decide)).trans ((m_1697.1 0 2 _ sM_0 (by decide)).trans (m_2.1 0 2 _ sM_0 (by decide))))).trans f_sl) (by omega) (by omega) I_1732 H.size) (cwV 0 hts (bw_V wB_1161 wB_1162 wB_1163 wB_881 wB_1160) rfl rfl rfl (by decide +kernel) ⟨Nat.le_of_ble_eq_true rfl, Nat.le_of_ble_eq_true rfl⟩) (dg_preV sM_0 rfl K ST hP hS hA1 hA) rfl rfl hl.1 rfl (lv_room (Nat.le_of_ble_eq_true rfl)) dX12_goesOn_275 ⟨Nat.le_of_ble_eq_true rfl, Nat.le_of_ble_eq_true rfl⟩) (fun S_1735 hw_1735 H locs hP hS => ?_)
              obtain ⟨I_1735, m_1735, w_1735_0, -⟩ := hw_1735
              have M_1735 := dg_sm.tr M_1732 m_1735 (by decide) (by decide)
              obtain ⟨y_1736, y_1737, y_1738, f_y_1736, f_y_1737, f_y_1738, w_1735_0⟩ := w_1735_0
              have w_1735_0 : (se).toInt ≤ (y_1737).toInt ∧ (y_1737).toInt ≤ (y_1738).toInt ∧ (y_1738).toInt ≤ (sl).toInt ∧ ((y_1736).toInt ≠ 0 → (y_1737).toInt + 1 ≤ (y_1738).toInt) := w_1735_0
              obtain ⟨w_1735_0_0, w_1735_0_1, w_1735_0_2, w_1735_0_3⟩ := w_1735_0
              have b_y_1736 : 0 ≤ (y_1736).toInt ∧ (y_1736).toInt ≤ 3 := dg_I.intb (lo := 0) (hi := 3) I_1735 sM_0 (by decide +kernel) f_y_1736
              have b_y_1737 : 0 ≤ (y_1737).toInt ∧ (y_1737).toInt ≤ 1600 := dg_I.intb (lo := 0) (hi := 1600) I_1735 sM_0 (by decide +kernel) f_y_1737
              have b_y_1738 : 0 ≤ (y_1738).toInt ∧ (y_1738).toInt ≤ 1600 := dg_I.intb (lo := 0) (hi := 1600) I_1735 sM_0 (by decide +kernel) f_y_1738
              refine lv_aload_n hx hb dX12_goesOn_278 rfl (lv_at hl 3 rfl) ?_
              refine lv_iconst (v := 0) hx hb dX12_goesOn_279 (by decide +kernel) ?_
              have hz_1739 : (0 : Int32).toInt = 0 := by decide +kernel
              refine dg_put (ci := 12) (v := .int 0) (ty := tyX12 46) (C := RX12) (T := TX12) (N := 77) hx hb hts (fun w h => bw_mem (wU_X12 w h)) tyX12 tyX12_ok nmX12 hown K hP hS hA1 sM_0 rfl 46 (by decide) (hts _ (bw_mem wB_1237)) (fun _ h9 => h9) rfl (by decide +kernel) (by decide +kernel) (by decide +kernel) dX12_goesOn_280 (fun S_1740 e_1740 H locs hP hS => ?_)
              have I_1740 := dg_I.uFi (lo := 0) (hi := 1) I_1735 e_1740 sM_0 (by decide +kernel) (show 0 ≤ ((0 : Int32)).toInt ∧ ((0 : Int32)).toInt ≤ 1 from (by decide +kernel))
              have M_1740 := dg_sm.uF M_1735 e_1740 sM_0 (by decide)
              refine lv_iconst (v := 1) hx hb dX12_goesOn_283 (by decide +kernel) ?_
              have hz_1741 : (1 : Int32).toInt = 1 := by decide +kernel
              have hz_1742 : (1 : Int32).toInt = 1 := by decide +kernel
              have hz_1743 : (0 : Int32).toInt = 0 := by decide +kernel
              have hz_1744 : (1 : Int32).toInt = 1 := by decide +kernel
              have hz_1745 : (0 : Int32).toInt = 0 := by decide +kernel
              refine W.widen (k := 0) (n := 0) (Nat.le_of_ble_eq_true rfl) (Nat.le_of_ble_eq_true rfl) ?_
              rw [hQ9]
              exact dg_iret hx hb hr hlocks (by decide +kernel) hP hS ⟨I_1740, M_1740, (by decide +kernel), ⟨y_1736, y_1737, y_1738, y_3, y_1699, dp, y_1730, 0, ((dg_uF_ne e_1740 (fun z => absurd z.2 (by decide))).trans f_y_1736), ((dg_uF_ne e_1740 (fun z => absurd z.2 (by decide))).trans f_y_1737), ((dg_uF_ne e_1740 (fun z => absurd z.2 (by decide))).trans f_y_1738), (((dg_uF_ne e_1740 (fun z => absurd z.2 (by decide))).trans ((m_1735.1 0 8 _ sM_0 (by decide)).trans ((dg_uf_F e_1732 0 8).trans ((m_1729.1 0 8 _ sM_0 (by decide)).trans (m_1697.1 0 8 _ sM_0 (by decide)))))).trans f_y_3), (((dg_uF_ne e_1740 (fun z => absurd z.2 (by decide))).trans ((m_1735.1 0 34 _ sM_0 (by decide)).trans ((dg_uf_F e_1732 0 34).trans (m_1729.1 0 34 _ sM_0 (by decide))))).trans f_y_1699), (((dg_uF_ne e_1740 (fun z => absurd z.2 (by decide))).trans ((m_1735.1 0 42 _ sM_0 (by decide)).trans ((dg_uf_F e_1732 0 42).trans ((m_1729.1 0 42 _ sM_0 (by decide)).trans ((m_1697.1 0 42 _ sM_0 (by decide)).trans (m_2.1 0 42 _ sM_0 (by decide))))))).trans f_dp), (((dg_uF_ne e_1740 (fun z => absurd z.2 (by decide))).trans ((m_1735.1 0 45 _ sM_0 (by decide)).trans (dg_uf_F e_1732 0 45))).trans f_y_1730), (dg_uF_at e_1740), (by omega)⟩, (fun k9 hk9 hk0 => POM.mk0 (P0M.keep (P0M.keep P0_1732 m_1735 (by decide) (by decide) (by decide) (by decide) (by decide) (by decide) (by decide) (by decide) (by decide) (by decide) (by decide) (by decide) (by decide) (by decide) (by decide)) (dg_sm.uF (WF := [(0, 46)]) (WA := []) dg_sm.rf e_1740 sM_0 (by decide)) (by decide) (by decide) (by decide) (by decide) (by decide) (by decide) (by decide) (by decide) (by decide) (by decide) (by decide) (by decide) (by decide) (by decide) (by decide)) (dg_uF_at e_1740) (by omega)), (ZWM.keep (ZWM.keep (ZWM.keep (ZWM.keep w_1697_2 m_1729 (by decide) (by decide) (by decide) (by decide)) (dg_sm.uf (WF := []) (WA := [23]) dg_sm.rf e_1732 sM_23 (by decide)) (by decide) (by decide) (by decide) (by decide)) m_1735 (by decide) (by decide) (by decide) (by decide)) (dg_sm.uF (WF := [(0, 46)]) (WA := []) dg_sm.rf e_1740 sM_0 (by decide)) (by decide) (by decide) (by decide) (by decide)), trivial⟩ dX12_goesOn_284
            refine lv_if_eq (tgt := 248) hx hb dX12_goesOn_240 (by decide) (fun c_1746 => ?_) (fun c_1746 => ?_)
            · have jc_1746 := dk_eqc (k := 0) (by decide +kernel) c_1746
              clear w_1703_1
              refine lv_aload_n hx hb dX12_goesOn_248 rfl (lv_at hl 3 rfl) ?_
              refine lv_bipush (v := 62) hx hb dX12_goesOn_249 (by decide +kernel) ?_
              refine dg_calli hS hA1 hA (va_runV (As := [.int 62]) (rest := [.ref (o + 0)]) F (c_m_isSign l g D o S_1697 62 sg (((m_1697.1 0 3 _ sM_0 (by decide)).trans (m_2.1 0 3 _ sM_0 (by decide))).trans f_sg) (by omega) va (((m_1697.1 0 6 _ sM_0 (by decide)).trans (m_2.1 0 6 _ sM_0 (by decide))).trans f_va) (by omega) I_1697 H.size) (cwV 1 hts (bw_V wB_1157 wB_1158 wB_1159 wB_881 wB_1156) rfl rfl rfl (by decide +kernel) ⟨Nat.le_of_ble_eq_true rfl, Nat.le_of_ble_eq_true rfl⟩) (dg_preV sM_0 rfl K ST hP hS hA1 hA) rfl rfl hl.1 rfl (lv_room (Nat.le_of_ble_eq_true rfl)) dX12_goesOn_251 ⟨Nat.le_of_ble_eq_true rfl, Nat.le_of_ble_eq_true rfl⟩) (fun x_1747 S_1748 hw_1748 H locs hP hS => ?_)
              rw [hw_1748.1] at hP
              obtain ⟨hq_1748, w_1748_0, w_1748_1, -⟩ := hw_1748
              have hz_1749 : (62 : Int32).toInt = 62 := by decide +kernel
              have w_1748_0 : 0 ≤ (x_1747).toInt ∧ (x_1747).toInt ≤ 1 := w_1748_0
              have w_1748_1 : (x_1747).toInt = 1 ↔ ((sg).toInt = 3 ∧ (va).toInt = ((62 : Int32)).toInt) := w_1748_1
              refine lv_if_eq (tgt := 262) hx hb dX12_goesOn_254 (by decide) (fun c_1750 => ?_) (fun c_1750 => ?_)
              · have jc_1750 := dk_eqc (k := 0) (by decide +kernel) c_1750
                clear w_1748_1
                refine lv_bipush (v := 40) hx hb dX12_goesOn_262 (by decide +kernel) ?_
                have hz_1751 : (40 : Int32).toInt = 40 := by decide +kernel
                exact J_1728 40 (by decide +kernel) _ _ hP hS _ (lv_sub hl [0, 1, 2, 3] rfl)
              · have jc_1750 := dk_neqc (k := 0) (by decide +kernel) c_1750
                have jbc_1750 : 1 ≤ (x_1747).toInt := by omega
                clear jc_1750
                have w_1748_1_r := w_1748_1.mp (by omega)
                obtain ⟨w_1748_1_r1, w_1748_1_r2⟩ := w_1748_1_r
                clear w_1748_1
                have hlx_2r := hlx_2 (by omega)
                clear hlx_2
                refine lv_bipush (v := 39) hx hb dX12_goesOn_257 (by decide +kernel) ?_
                refine lv_goto (tgt := 264) hx hb dX12_goesOn_259 (by decide) ?_
                have hz_1752 : (39 : Int32).toInt = 39 := by decide +kernel
                exact J_1728 39 (by decide +kernel) _ _ hP hS _ (lv_sub hl [0, 1, 2, 3] rfl)
            · have jc_1746 := dk_neqc (k := 0) (by decide +kernel) c_1746
              have jbc_1746 : 1 ≤ (x_1702).toInt := by omega
              clear jc_1746
              have w_1703_1_r := w_1703_1.mp (by omega)
              obtain ⟨w_1703_1_r1, w_1703_1_r2⟩ := w_1703_1_r
              clear w_1703_1
              have hlx_2r := hlx_2 (by omega)
              clear hlx_2
              refine lv_bipush (v := 38) hx hb dX12_goesOn_243 (by decide +kernel) ?_
              refine lv_goto (tgt := 264) hx hb dX12_goesOn_245 (by decide) ?_
              have hz_1753 : (38 : Int32).toInt = 38 := by decide +kernel
              exact J_1728 38 (by decide +kernel) _ _ hP hS _ (lv_sub hl [0, 1, 2, 3] rfl)
          refine lv_if_ne (tgt := 228) hx hb dX12_goesOn_207 (by decide) (fun c_1754 => ?_) (fun c_1754 => ?_)
          · have jc_1754 := dk_neqc (k := 0) (by decide +kernel) c_1754
            have jbc_1754 : 1 ≤ (x_1651).toInt := by omega
            clear jc_1754
            have w_1652_1_r := w_1652_1.mp (by omega)
            obtain ⟨w_1652_1_r1, w_1652_1_r2⟩ := w_1652_1_r
            clear w_1652_1
            have hlx_2r := hlx_2 (by omega)
            clear hlx_2
            exact J_1695 ()  (by omega) _ _ hP hS _ (lv_sub hl [0, 1, 2, 3] rfl)
          · have jc_1754 := dk_eqc (k := 0) (by decide +kernel) c_1754
            clear w_1652_1
            refine lv_aload_n hx hb dX12_goesOn_210 rfl (lv_at hl 3 rfl) ?_
            refine lv_bipush (v := 62) hx hb dX12_goesOn_211 (by decide +kernel) ?_
            refine dg_calli hS hA1 hA (va_runV (As := [.int 62]) (rest := []) F (c_m_isSign l g D o S_2 62 sg ((m_2.1 0 3 _ sM_0 (by decide)).trans f_sg) (by omega) va ((m_2.1 0 6 _ sM_0 (by decide)).trans f_va) (by omega) I_2 H.size) (cwV 1 hts (bw_V wB_1157 wB_1158 wB_1159 wB_881 wB_1156) rfl rfl rfl (by decide +kernel) ⟨Nat.le_of_ble_eq_true rfl, Nat.le_of_ble_eq_true rfl⟩) (dg_preV sM_0 rfl K ST hP hS hA1 hA) rfl rfl hl.1 rfl (lv_room (Nat.le_of_ble_eq_true rfl)) dX12_goesOn_213 ⟨Nat.le_of_ble_eq_true rfl, Nat.le_of_ble_eq_true rfl⟩) (fun x_1755 S_1756 hw_1756 H locs hP hS => ?_)
            rw [hw_1756.1] at hP
            obtain ⟨hq_1756, w_1756_0, w_1756_1, -⟩ := hw_1756
            have hz_1757 : (62 : Int32).toInt = 62 := by decide +kernel
            have w_1756_0 : 0 ≤ (x_1755).toInt ∧ (x_1755).toInt ≤ 1 := w_1756_0
            have w_1756_1 : (x_1755).toInt = 1 ↔ ((sg).toInt = 3 ∧ (va).toInt = ((62 : Int32)).toInt) := w_1756_1
            refine lv_if_ne (tgt := 228) hx hb dX12_goesOn_216 (by decide) (fun c_1758 => ?_) (fun c_1758 => ?_)
            · have jc_1758 := dk_neqc (k := 0) (by decide +kernel) c_1758
              have jbc_1758 : 1 ≤ (x_1755).toInt := by omega
              clear jc_1758
              have w_1756_1_r := w_1756_1.mp (by omega)
              obtain ⟨w_1756_1_r1, w_1756_1_r2⟩ := w_1756_1_r
              clear w_1756_1
              have hlx_2r := hlx_2 (by omega)
              clear hlx_2
              exact J_1695 ()  (by omega) _ _ hP hS _ (lv_sub hl [0, 1, 2, 3] rfl)
            · have jc_1758 := dk_eqc (k := 0) (by decide +kernel) c_1758
              clear w_1756_1
              refine lv_aload_n hx hb dX12_goesOn_219 rfl (lv_at hl 3 rfl) ?_
              refine lv_bipush (v := 61) hx hb dX12_goesOn_220 (by decide +kernel) ?_
              refine dg_calli hS hA1 hA (va_runV (As := [.int 61]) (rest := []) F (c_m_isSign l g D o S_2 61 sg ((m_2.1 0 3 _ sM_0 (by decide)).trans f_sg) (by omega) va ((m_2.1 0 6 _ sM_0 (by decide)).trans f_va) (by omega) I_2 H.size) (cwV 1 hts (bw_V wB_1157 wB_1158 wB_1159 wB_881 wB_1156) rfl rfl rfl (by decide +kernel) ⟨Nat.le_of_ble_eq_true rfl, Nat.le_of_ble_eq_true rfl⟩) (dg_preV sM_0 rfl K ST hP hS hA1 hA) rfl rfl hl.1 rfl (lv_room (Nat.le_of_ble_eq_true rfl)) dX12_goesOn_222 ⟨Nat.le_of_ble_eq_true rfl, Nat.le_of_ble_eq_true rfl⟩) (fun x_1759 S_1760 hw_1760 H locs hP hS => ?_)
              rw [hw_1760.1] at hP
              obtain ⟨hq_1760, w_1760_0, w_1760_1, -⟩ := hw_1760
              have hz_1761 : (61 : Int32).toInt = 61 := by decide +kernel
              have w_1760_0 : 0 ≤ (x_1759).toInt ∧ (x_1759).toInt ≤ 1 := w_1760_0
              have w_1760_1 : (x_1759).toInt = 1 ↔ ((sg).toInt = 3 ∧ (va).toInt = ((61 : Int32)).toInt) := w_1760_1
              refine lv_if_eq (tgt := 285) hx hb dX12_goesOn_225 (by decide) (fun c_1762 => ?_) (fun c_1762 => ?_)
              · have jc_1762 := dk_eqc (k := 0) (by decide +kernel) c_1762
                clear w_1760_1
                exact J_706   _ _ hP hS _ (lv_sub hl [0, 1, 2, 3] rfl)
              · have jc_1762 := dk_neqc (k := 0) (by decide +kernel) c_1762
                have jbc_1762 : 1 ≤ (x_1759).toInt := by omega
                clear jc_1762
                have w_1760_1_r := w_1760_1.mp (by omega)
                obtain ⟨w_1760_1_r1, w_1760_1_r2⟩ := w_1760_1_r
                clear w_1760_1
                have hlx_2r := hlx_2 (by omega)
                clear hlx_2
                exact J_1695 ()  (by omega) _ _ hP hS _ (lv_sub hl [0, 1, 2, 3] rfl)
    refine lv_icmp_ge (tgt := 188) hx hb dX12_goesOn_39 (by decide) (fun c_1763 => ?_) (fun c_1763 => ?_)
    · have jc_1763 := dk_gec (k := 2) (by decide +kernel) c_1763
      exact J_417   _ _ hP hS _ (lv_sub hl [0, 1, 2, 3] rfl)
    · have jc_1763 := dk_ngec (k := 2) (by decide +kernel) c_1763
      refine lv_aload_n hx hb dX12_goesOn_42 rfl (lv_at hl 3 rfl) ?_
      refine lv_bipush (v := 43) hx hb dX12_goesOn_43 (by decide +kernel) ?_
      refine dg_calli hS hA1 hA (va_runV (As := [.int 43]) (rest := []) F (c_m_isSign l g D o S_2 43 sg ((m_2.1 0 3 _ sM_0 (by decide)).trans f_sg) (by omega) va ((m_2.1 0 6 _ sM_0 (by decide)).trans f_va) (by omega) I_2 H.size) (cwV 1 hts (bw_V wB_1157 wB_1158 wB_1159 wB_881 wB_1156) rfl rfl rfl (by decide +kernel) ⟨Nat.le_of_ble_eq_true rfl, Nat.le_of_ble_eq_true rfl⟩) (dg_preV sM_0 rfl K ST hP hS hA1 hA) rfl rfl hl.1 rfl (lv_room (Nat.le_of_ble_eq_true rfl)) dX12_goesOn_45 ⟨Nat.le_of_ble_eq_true rfl, Nat.le_of_ble_eq_true rfl⟩) (fun x_1764 S_1765 hw_1765 H locs hP hS => ?_)
      rw [hw_1765.1] at hP
      obtain ⟨hq_1765, w_1765_0, w_1765_1, -⟩ := hw_1765
      have hz_1766 : (43 : Int32).toInt = 43 := by decide +kernel
      have w_1765_0 : 0 ≤ (x_1764).toInt ∧ (x_1764).toInt ≤ 1 := w_1765_0
      have w_1765_1 : (x_1764).toInt = 1 ↔ ((sg).toInt = 3 ∧ (va).toInt = ((43 : Int32)).toInt) := w_1765_1
      have J_1880 : ∀ (u9 : Unit), ((sg).toInt = 3) → ((va).toInt = 43 ∨ (va).toInt = 45 ∨ (va).toInt = 42 ∨ (va).toInt = 47 ∨ (va).toInt = 37) → ∀ (H : Heap) (locs : List Loc), va_P D vwCl (dg_w g shM o rfM S_2) H → va_S A s.heap H locs → ∀ ls : Array Slot, lv_has ls 5 [(3, .int x_8), (2, .int x_7), (1, .int x_5), (0, .ref (o + 0))] → W p l e ({ frames := 3, cells := 0, slots := 0, locals := 77 } : Room) s m args below meth c H locs 0 0 Q9 (F0 m 87 ls []) := by
        intro u9 rel_0 rel_1 H locs hP hS ls hl
        clear w_1765_1
        have hlx_2r := hlx_2 (by omega)
        clear hlx_2
        refine lv_aload_n hx hb dX12_goesOn_87 rfl (lv_at hl 3 rfl) ?_
        refine lv_aload_n hx hb dX12_goesOn_88 rfl (lv_at hl 3 rfl) ?_
        refine lv_bipush (v := 43) hx hb dX12_goesOn_89 (by decide +kernel) ?_
        refine dg_calli hS hA1 hA (va_runV (As := [.int 43]) (rest := [.ref (o + 0)]) F (c_m_isSign l g D o S_2 43 sg ((m_2.1 0 3 _ sM_0 (by decide)).trans f_sg) (by omega) va ((m_2.1 0 6 _ sM_0 (by decide)).trans f_va) (by omega) I_2 H.size) (cwV 1 hts (bw_V wB_1157 wB_1158 wB_1159 wB_881 wB_1156) rfl rfl rfl (by decide +kernel) ⟨Nat.le_of_ble_eq_true rfl, Nat.le_of_ble_eq_true rfl⟩) (dg_preV sM_0 rfl K ST hP hS hA1 hA) rfl rfl hl.1 rfl (lv_room (Nat.le_of_ble_eq_true rfl)) dX12_goesOn_91 ⟨Nat.le_of_ble_eq_true rfl, Nat.le_of_ble_eq_true rfl⟩) (fun x_1881 S_1882 hw_1882 H locs hP hS => ?_)
        rw [hw_1882.1] at hP
        obtain ⟨hq_1882, w_1882_0, w_1882_1, -⟩ := hw_1882
        have hz_1883 : (43 : Int32).toInt = 43 := by decide +kernel
        have w_1882_0 : 0 ≤ (x_1881).toInt ∧ (x_1881).toInt ≤ 1 := w_1882_0
        have w_1882_1 : (x_1881).toInt = 1 ↔ ((sg).toInt = 3 ∧ (va).toInt = ((43 : Int32)).toInt) := w_1882_1
        refine lv_if_ne (tgt := 106) hx hb dX12_goesOn_94 (by decide) (fun c_1884 => ?_) (fun c_1884 => ?_)
        · have jc_1884 := dk_neqc (k := 0) (by decide +kernel) c_1884
          have jbc_1884 : 1 ≤ (x_1881).toInt := by omega
          clear jc_1884
          have w_1882_1_r := w_1882_1.mp (by omega)
          obtain ⟨w_1882_1_r1, w_1882_1_r2⟩ := w_1882_1_r
          clear rel_1
          clear w_1882_1
          refine lv_iconst (v := 5) hx hb dX12_goesOn_106 (by decide +kernel) ?_
          refine lv_goto (tgt := 112) hx hb dX12_goesOn_107 (by decide) ?_
          have hz_1885 : (5 : Int32).toInt = 5 := by decide +kernel
          refine dg_callv hS hA1 hA (va_runV (As := [.int 5]) (rest := []) F (c_m_joins l g D o S_2 5 (by decide +kernel) cd ((m_2.1 0 34 _ sM_0 (by decide)).trans f_cd) (by omega) om ((m_2.1 0 45 _ sM_0 (by decide)).trans f_om) (by omega) (by omega) (ZWM.keep ZW m_2 (by decide) (by decide) (by decide) (by decide)) (ZKM.keep ZK m_2 (by decide) (by decide)) (P1M.keep P1 m_2 (by decide) (by decide) (by decide) (by decide) (by decide) (by decide) (by decide) (by decide) (by decide) (by decide) (by decide) (by decide) (by decide) (by decide) (by decide)) I_2 H.size) (cwV 1 hts (bw_V wB_1234 wB_1235 wB_1236 wB_881 wB_1233) rfl rfl rfl (by decide +kernel) ⟨Nat.le_of_ble_eq_true rfl, Nat.le_of_ble_eq_true rfl⟩) (dg_preV sM_0 rfl K ST hP hS hA1 hA) rfl rfl hl.1 rfl (lv_room (Nat.le_of_ble_eq_true rfl)) dX12_goesOn_112 ⟨Nat.le_of_ble_eq_true rfl, Nat.le_of_ble_eq_true rfl⟩) (fun S_1886 hw_1886 H locs hP hS => ?_)
          obtain ⟨I_1886, m_1886, w_1886_0, w_1886_1, w_1886_2, w_1886_3, -⟩ := hw_1886
          have M_1886 := dg_sm.tr M_2 m_1886 (by decide) (by decide)
          have hz_1887 : (5 : Int32).toInt = 5 := by decide +kernel
          obtain ⟨y_1888, y_1889, f_y_1888, f_y_1889, w_1886_0⟩ := w_1886_0
          have w_1886_0 : (y_1888).toInt + (y_1889).toInt = (cd).toInt + (om).toInt := w_1886_0
          have b_y_1888 : 0 ≤ (y_1888).toInt ∧ (y_1888).toInt ≤ 1600 := dg_I.intb (lo := 0) (hi := 1600) I_1886 sM_0 (by decide +kernel) f_y_1888
          have b_y_1889 : 0 ≤ (y_1889).toInt ∧ (y_1889).toInt ≤ 500 := dg_I.intb (lo := 0) (hi := 500) I_1886 sM_0 (by decide +kernel) f_y_1889
          have w_1886_1 : TOPM S_1886 (5 : Int32) := w_1886_1
          obtain ⟨x_1890, f_x_1890, b_x_1890⟩ := dg_I.int (i := 0) (k := 43) (lo := (-2147483648)) (hi := 2147483647) I_1886 sM_0 (by decide +kernel)
          refine lv_aload_n hx hb dX12_goesOn_115 rfl (lv_at hl 3 rfl) ?_
          refine lv_aload_n hx hb dX12_goesOn_116 rfl (lv_at hl 3 rfl) ?_
          refine lv_bipush (v := 43) hx hb dX12_goesOn_117 (by decide +kernel) ?_
          refine dg_calli hS hA1 hA (va_runV (As := [.int 43]) (rest := [.ref (o + 0)]) F (c_m_isSign l g D o S_1886 43 sg (((m_1886.1 0 3 _ sM_0 (by decide)).trans (m_2.1 0 3 _ sM_0 (by decide))).trans f_sg) (by omega) va (((m_1886.1 0 6 _ sM_0 (by decide)).trans (m_2.1 0 6 _ sM_0 (by decide))).trans f_va) (by omega) I_1886 H.size) (cwV 1 hts (bw_V wB_1157 wB_1158 wB_1159 wB_881 wB_1156) rfl rfl rfl (by decide +kernel) ⟨Nat.le_of_ble_eq_true rfl, Nat.le_of_ble_eq_true rfl⟩) (dg_preV sM_0 rfl K ST hP hS hA1 hA) rfl rfl hl.1 rfl (lv_room (Nat.le_of_ble_eq_true rfl)) dX12_goesOn_119 ⟨Nat.le_of_ble_eq_true rfl, Nat.le_of_ble_eq_true rfl⟩) (fun x_1891 S_1892 hw_1892 H locs hP hS => ?_)
          rw [hw_1892.1] at hP
          obtain ⟨hq_1892, w_1892_0, w_1892_1, -⟩ := hw_1892
          have hz_1893 : (43 : Int32).toInt = 43 := by decide +kernel
          have w_1892_0 : 0 ≤ (x_1891).toInt ∧ (x_1891).toInt ≤ 1 := w_1892_0
          have w_1892_1 : (x_1891).toInt = 1 ↔ ((sg).toInt = 3 ∧ (va).toInt = ((43 : Int32)).toInt) := w_1892_1
          have J_1909 : ∀ (u9 : Unit), ((31 : Int32).toInt = 31 ∨ (31 : Int32).toInt = 32) → ∀ (H : Heap) (locs : List Loc), va_P D vwCl (dg_w g shM o rfM S_1886) H → va_S A s.heap H locs → ∀ ls : Array Slot, lv_has ls 5 [(3, .int x_8), (2, .int x_7), (1, .int x_5), (0, .ref (o + 0))] → W p l e ({ frames := 3, cells := 0, slots := 0, locals := 77 } : Room) s m args below meth c H locs 0 0 Q9 (F0 m 174 ls [.int 31, .ref (o + 0)]) := by
            intro u9 rel_0 H locs hP hS ls hl
            clear w_1892_1
            refine dg_callv hS hA1 hA (va_runV (As := [.int 31]) (rest := []) F (c_m_holdsBack l g D o S_1886 31 y_1889 f_y_1889 (by omega) I_1886 H.size) (cwV 1 hts (bw_V wB_1224 wB_1225 wB_1226 wB_881 wB_1223) rfl rfl rfl (by decide +kernel) ⟨Nat.le_of_ble_eq_true rfl, Nat.le_of_ble_eq_true rfl⟩) (dg_preV sM_0 rfl K ST hP hS hA1 hA) rfl rfl hl.1 rfl (lv_room (Nat.le_of_ble_eq_true rfl)) dX12_goesOn_174 ⟨Nat.le_of_ble_eq_true rfl, Nat.le_of_ble_eq_true rfl⟩) (fun S_1910 hw_1910 H locs hP hS => ?_)
            obtain ⟨I_1910, m_1910, w_1910_0, w_1910_1, -⟩ := hw_1910
            have M_1910 := dg_sm.tr M_1886 m_1910 (by decide) (by decide)
            have hz_1911 : (31 : Int32).toInt = 31 := by decide +kernel
            obtain ⟨y_1912, f_y_1912, w_1910_0⟩ := w_1910_0
            have w_1910_0 : (y_1912).toInt = (y_1889).toInt + 1 := w_1910_0
            have b_y_1912 : 0 ≤ (y_1912).toInt ∧ (y_1912).toInt ≤ 500 := dg_I.intb (lo := 0) (hi := 500) I_1910 sM_0 (by decide +kernel) f_y_1912
            have w_1910_1 : HBM S_1886 S_1910 (31 : Int32) := w_1910_1
            have P0_1910 : P0M S_1910 := P1M.bin w_1886_3 (((m_1886.1 0 42 _ sM_0 (by decide)).trans (m_2.1 0 42 _ sM_0 (by decide))).trans f_dp) f_x_1890 f_y_1889 w_1886_1 m_1910 w_1910_1 (by omega)
            refine lv_aload_n hx hb dX12_goesOn_177 rfl (lv_at hl 3 rfl) ?_
            refine dg_callv hS hA1 hA (va_runV (As := []) (rest := []) F (c_m_ahead l g D o S_1910 se (((m_1910.1 0 5 _ sM_0 (by decide)).trans ((m_1886.1 0 5 _ sM_0 (by decide)).trans (m_2.1 0 5 _ sM_0 (by decide)))).trans f_se) (by omega) sl (((m_1910.1 0 2 _ sM_0 (by decide)).trans ((m_1886.1 0 2 _ sM_0 (by decide)).trans (m_2.1 0 2 _ sM_0 (by decide)))).trans f_sl) (by omega) (by omega) I_1910 H.size) (cwV 0 hts (bw_V wB_1161 wB_1162 wB_1163 wB_881 wB_1160) rfl rfl rfl (by decide +kernel) ⟨Nat.le_of_ble_eq_true rfl, Nat.le_of_ble_eq_true rfl⟩) (dg_preV sM_0 rfl K ST hP hS hA1 hA) rfl rfl hl.1 rfl (lv_room (Nat.le_of_ble_eq_true rfl)) dX12_goesOn_178 ⟨Nat.le_of_ble_eq_true rfl, Nat.le_of_ble_eq_true rfl⟩) (fun S_1913 hw_1913 H locs hP hS => ?_)
            obtain ⟨I_1913, m_1913, w_1913_0, -⟩ := hw_1913
            have M_1913 := dg_sm.tr M_1910 m_1913 (by decide) (by decide)
            obtain ⟨y_1914, y_1915, y_1916, f_y_1914, f_y_1915, f_y_1916, w_1913_0⟩ := w_1913_0
            have w_1913_0 : (se).toInt ≤ (y_1915).toInt ∧ (y_1915).toInt ≤ (y_1916).toInt ∧ (y_1916).toInt ≤ (sl).toInt ∧ ((y_1914).toInt ≠ 0 → (y_1915).toInt + 1 ≤ (y_1916).toInt) := w_1913_0
            obtain ⟨w_1913_0_0, w_1913_0_1, w_1913_0_2, w_1913_0_3⟩ := w_1913_0
            have b_y_1914 : 0 ≤ (y_1914).toInt ∧ (y_1914).toInt ≤ 3 := dg_I.intb (lo := 0) (hi := 3) I_1913 sM_0 (by decide +kernel) f_y_1914
            have b_y_1915 : 0 ≤ (y_1915).toInt ∧ (y_1915).toInt ≤ 1600 := dg_I.intb (lo := 0) (hi := 1600) I_1913 sM_0 (by decide +kernel) f_y_1915
            have b_y_1916 : 0 ≤ (y_1916).toInt ∧ (y_1916).toInt ≤ 1600 := dg_I.intb (lo := 0) (hi := 1600) I_1913 sM_0 (by decide +kernel) f_y_1916
            refine lv_aload_n hx hb dX12_goesOn_181 rfl (lv_at hl 3 rfl) ?_
            refine lv_iconst (v := 0) hx hb dX12_goesOn_182 (by decide +kernel) ?_
            have hz_1917 : (0 : Int32).toInt = 0 := by decide +kernel
            refine dg_put (ci := 12) (v := .int 0) (ty := tyX12 46) (C := RX12) (T := TX12) (N := 77) hx hb hts (fun w h => bw_mem (wU_X12 w h)) tyX12 tyX12_ok nmX12 hown K hP hS hA1 sM_0 rfl 46 (by decide) (hts _ (bw_mem wB_1237)) (fun _ h9 => h9) rfl (by decide +kernel) (by decide +kernel) (by decide +kernel) dX12_goesOn_183 (fun S_1918 e_1918 H locs hP hS => ?_)
            have I_1918 := dg_I.uFi (lo := 0) (hi := 1) I_1913 e_1918 sM_0 (by decide +kernel) (show 0 ≤ ((0 : Int32)).toInt ∧ ((0 : Int32)).toInt ≤ 1 from (by decide +kernel))
            have M_1918 := dg_sm.uF M_1913 e_1918 sM_0 (by decide)
            refine lv_iconst (v := 1) hx hb dX12_goesOn_186 (by decide +kernel) ?_
            have hz_1919 : (1 : Int32).toInt = 1 := by decide +kernel
            have hz_1920 : (1 : Int32).toInt = 1 := by decide +kernel
            have hz_1921 : (0 : Int32).toInt = 0 := by decide +kernel
            have hz_1922 : (1 : Int32).toInt = 1 := by decide +kernel
            have hz_1923 : (0 : Int32).toInt = 0 := by decide +kernel
            refine W.widen (k := 0) (n := 0) (Nat.le_of_ble_eq_true rfl) (Nat.le_of_ble_eq_true rfl) ?_
            rw [hQ9]
            exact dg_iret hx hb hr hlocks (by decide +kernel) hP hS ⟨I_1918, M_1918, (by decide +kernel), ⟨y_1914, y_1915, y_1916, y_3, y_1888, dp, y_1912, 0, ((dg_uF_ne e_1918 (fun z => absurd z.2 (by decide))).trans f_y_1914), ((dg_uF_ne e_1918 (fun z => absurd z.2 (by decide))).trans f_y_1915), ((dg_uF_ne e_1918 (fun z => absurd z.2 (by decide))).trans f_y_1916), (((dg_uF_ne e_1918 (fun z => absurd z.2 (by decide))).trans ((m_1913.1 0 8 _ sM_0 (by decide)).trans ((m_1910.1 0 8 _ sM_0 (by decide)).trans (m_1886.1 0 8 _ sM_0 (by decide))))).trans f_y_3), (((dg_uF_ne e_1918 (fun z => absurd z.2 (by decide))).trans ((m_1913.1 0 34 _ sM_0 (by decide)).trans (m_1910.1 0 34 _ sM_0 (by decide)))).trans f_y_1888), (((dg_uF_ne e_1918 (fun z => absurd z.2 (by decide))).trans ((m_1913.1 0 42 _ sM_0 (by decide)).trans ((m_1910.1 0 42 _ sM_0 (by decide)).trans ((m_1886.1 0 42 _ sM_0 (by decide)).trans (m_2.1 0 42 _ sM_0 (by decide)))))).trans f_dp), (((dg_uF_ne e_1918 (fun z => absurd z.2 (by decide))).trans (m_1913.1 0 45 _ sM_0 (by decide))).trans f_y_1912), (dg_uF_at e_1918), (by omega)⟩, (fun k9 hk9 hk0 => POM.mk0 (P0M.keep (P0M.keep P0_1910 m_1913 (by decide) (by decide) (by decide) (by decide) (by decide) (by decide) (by decide) (by decide) (by decide) (by decide) (by decide) (by decide) (by decide) (by decide) (by decide)) (dg_sm.uF (WF := [(0, 46)]) (WA := []) dg_sm.rf e_1918 sM_0 (by decide)) (by decide) (by decide) (by decide) (by decide) (by decide) (by decide) (by decide) (by decide) (by decide) (by decide) (by decide) (by decide) (by decide) (by decide) (by decide)) (dg_uF_at e_1918) (by omega)), (ZWM.keep (ZWM.keep (ZWM.keep w_1886_2 m_1910 (by decide) (by decide) (by decide) (by decide)) m_1913 (by decide) (by decide) (by decide) (by decide)) (dg_sm.uF (WF := [(0, 46)]) (WA := []) dg_sm.rf e_1918 sM_0 (by decide)) (by decide) (by decide) (by decide) (by decide)), trivial⟩ dX12_goesOn_187
          refine lv_if_eq (tgt := 130) hx hb dX12_goesOn_122 (by decide) (fun c_1924 => ?_) (fun c_1924 => ?_)
          · have jc_1924 := dk_eqc (k := 0) (by decide +kernel) c_1924
            have w_1892_1_r : (va).toInt ≠ 43 := fun q9 => absurd (w_1892_1.mpr ⟨by omega, by omega⟩) (by omega)
            clear w_1892_1
            omega
          · have jc_1924 := dk_neqc (k := 0) (by decide +kernel) c_1924
            have jbc_1924 : 1 ≤ (x_1891).toInt := by omega
            clear jc_1924
            have w_1892_1_r := w_1892_1.mp (by omega)
            obtain ⟨w_1892_1_r1, w_1892_1_r2⟩ := w_1892_1_r
            clear w_1892_1
            refine lv_bipush (v := 31) hx hb dX12_goesOn_125 (by decide +kernel) ?_
            refine lv_goto (tgt := 174) hx hb dX12_goesOn_127 (by decide) ?_
            exact J_1909 ()  (by omega) _ _ hP hS _ (lv_sub hl [0, 1, 2, 3] rfl)
        · have jc_1884 := dk_eqc (k := 0) (by decide +kernel) c_1884
          have w_1882_1_r : (va).toInt ≠ 43 := fun q9 => absurd (w_1882_1.mpr ⟨by omega, by omega⟩) (by omega)
          clear w_1882_1
          refine lv_aload_n hx hb dX12_goesOn_97 rfl (lv_at hl 3 rfl) ?_
          refine lv_bipush (v := 45) hx hb dX12_goesOn_98 (by decide +kernel) ?_
          refine dg_calli hS hA1 hA (va_runV (As := [.int 45]) (rest := [.ref (o + 0)]) F (c_m_isSign l g D o S_2 45 sg ((m_2.1 0 3 _ sM_0 (by decide)).trans f_sg) (by omega) va ((m_2.1 0 6 _ sM_0 (by decide)).trans f_va) (by omega) I_2 H.size) (cwV 1 hts (bw_V wB_1157 wB_1158 wB_1159 wB_881 wB_1156) rfl rfl rfl (by decide +kernel) ⟨Nat.le_of_ble_eq_true rfl, Nat.le_of_ble_eq_true rfl⟩) (dg_preV sM_0 rfl K ST hP hS hA1 hA) rfl rfl hl.1 rfl (lv_room (Nat.le_of_ble_eq_true rfl)) dX12_goesOn_100 ⟨Nat.le_of_ble_eq_true rfl, Nat.le_of_ble_eq_true rfl⟩) (fun x_1925 S_1926 hw_1926 H locs hP hS => ?_)
          rw [hw_1926.1] at hP
          obtain ⟨hq_1926, w_1926_0, w_1926_1, -⟩ := hw_1926
          have hz_1927 : (45 : Int32).toInt = 45 := by decide +kernel
          have w_1926_0 : 0 ≤ (x_1925).toInt ∧ (x_1925).toInt ≤ 1 := w_1926_0
          have w_1926_1 : (x_1925).toInt = 1 ↔ ((sg).toInt = 3 ∧ (va).toInt = ((45 : Int32)).toInt) := w_1926_1
          refine lv_if_eq (tgt := 110) hx hb dX12_goesOn_103 (by decide) (fun c_1928 => ?_) (fun c_1928 => ?_)
          · have jc_1928 := dk_eqc (k := 0) (by decide +kernel) c_1928
            have w_1926_1_r : (va).toInt ≠ 45 := fun q9 => absurd (w_1926_1.mpr ⟨by omega, by omega⟩) (by omega)
            clear w_1926_1
            refine lv_bipush (v := 6) hx hb dX12_goesOn_110 (by decide +kernel) ?_
            have hz_1929 : (6 : Int32).toInt = 6 := by decide +kernel
            refine dg_callv hS hA1 hA (va_runV (As := [.int 6]) (rest := []) F (c_m_joins l g D o S_2 6 (by decide +kernel) cd ((m_2.1 0 34 _ sM_0 (by decide)).trans f_cd) (by omega) om ((m_2.1 0 45 _ sM_0 (by decide)).trans f_om) (by omega) (by omega) (ZWM.keep ZW m_2 (by decide) (by decide) (by decide) (by decide)) (ZKM.keep ZK m_2 (by decide) (by decide)) (P1M.keep P1 m_2 (by decide) (by decide) (by decide) (by decide) (by decide) (by decide) (by decide) (by decide) (by decide) (by decide) (by decide) (by decide) (by decide) (by decide) (by decide)) I_2 H.size) (cwV 1 hts (bw_V wB_1234 wB_1235 wB_1236 wB_881 wB_1233) rfl rfl rfl (by decide +kernel) ⟨Nat.le_of_ble_eq_true rfl, Nat.le_of_ble_eq_true rfl⟩) (dg_preV sM_0 rfl K ST hP hS hA1 hA) rfl rfl hl.1 rfl (lv_room (Nat.le_of_ble_eq_true rfl)) dX12_goesOn_112 ⟨Nat.le_of_ble_eq_true rfl, Nat.le_of_ble_eq_true rfl⟩) (fun S_1930 hw_1930 H locs hP hS => ?_)
            obtain ⟨I_1930, m_1930, w_1930_0, w_1930_1, w_1930_2, w_1930_3, -⟩ := hw_1930
            have M_1930 := dg_sm.tr M_2 m_1930 (by decide) (by decide)
            have hz_1931 : (6 : Int32).toInt = 6 := by decide +kernel
            obtain ⟨y_1932, y_1933, f_y_1932, f_y_1933, w_1930_0⟩ := w_1930_0
            have w_1930_0 : (y_1932).toInt + (y_1933).toInt = (cd).toInt + (om).toInt := w_1930_0
            have b_y_1932 : 0 ≤ (y_1932).toInt ∧ (y_1932).toInt ≤ 1600 := dg_I.intb (lo := 0) (hi := 1600) I_1930 sM_0 (by decide +kernel) f_y_1932
            have b_y_1933 : 0 ≤ (y_1933).toInt ∧ (y_1933).toInt ≤ 500 := dg_I.intb (lo := 0) (hi := 500) I_1930 sM_0 (by decide +kernel) f_y_1933
            have w_1930_1 : TOPM S_1930 (6 : Int32) := w_1930_1
            obtain ⟨x_1934, f_x_1934, b_x_1934⟩ := dg_I.int (i := 0) (k := 43) (lo := (-2147483648)) (hi := 2147483647) I_1930 sM_0 (by decide +kernel)
            refine lv_aload_n hx hb dX12_goesOn_115 rfl (lv_at hl 3 rfl) ?_
            refine lv_aload_n hx hb dX12_goesOn_116 rfl (lv_at hl 3 rfl) ?_
            refine lv_bipush (v := 43) hx hb dX12_goesOn_117 (by decide +kernel) ?_
            refine dg_calli hS hA1 hA (va_runV (As := [.int 43]) (rest := [.ref (o + 0)]) F (c_m_isSign l g D o S_1930 43 sg (((m_1930.1 0 3 _ sM_0 (by decide)).trans (m_2.1 0 3 _ sM_0 (by decide))).trans f_sg) (by omega) va (((m_1930.1 0 6 _ sM_0 (by decide)).trans (m_2.1 0 6 _ sM_0 (by decide))).trans f_va) (by omega) I_1930 H.size) (cwV 1 hts (bw_V wB_1157 wB_1158 wB_1159 wB_881 wB_1156) rfl rfl rfl (by decide +kernel) ⟨Nat.le_of_ble_eq_true rfl, Nat.le_of_ble_eq_true rfl⟩) (dg_preV sM_0 rfl K ST hP hS hA1 hA) rfl rfl hl.1 rfl (lv_room (Nat.le_of_ble_eq_true rfl)) dX12_goesOn_119 ⟨Nat.le_of_ble_eq_true rfl, Nat.le_of_ble_eq_true rfl⟩) (fun x_1935 S_1936 hw_1936 H locs hP hS => ?_)
            rw [hw_1936.1] at hP
            obtain ⟨hq_1936, w_1936_0, w_1936_1, -⟩ := hw_1936
            have hz_1937 : (43 : Int32).toInt = 43 := by decide +kernel
            have w_1936_0 : 0 ≤ (x_1935).toInt ∧ (x_1935).toInt ≤ 1 := w_1936_0
            have w_1936_1 : (x_1935).toInt = 1 ↔ ((sg).toInt = 3 ∧ (va).toInt = ((43 : Int32)).toInt) := w_1936_1
            have J_1965 : ∀ (x_1951 : Int32), (33 ≤ (x_1951).toInt ∧ (x_1951).toInt ≤ 35) → (33 ≤ (x_1951 : Int32).toInt ∧ (x_1951 : Int32).toInt ≤ 35) → ∀ (H : Heap) (locs : List Loc), va_P D vwCl (dg_w g shM o rfM S_1930) H → va_S A s.heap H locs → ∀ ls : Array Slot, lv_has ls 5 [(3, .int x_8), (2, .int x_7), (1, .int x_5), (0, .ref (o + 0))] → W p l e ({ frames := 3, cells := 0, slots := 0, locals := 77 } : Room) s m args below meth c H locs 0 0 Q9 (F0 m 174 ls [.int x_1951, .ref (o + 0)]) := by
              clear rel_1 w_1882_1_r w_1926_1_r
              intro x_1951 b_x_1951 rel_0 H locs hP hS ls hl
              clear w_1936_1
              refine dg_callv hS hA1 hA (va_runV (As := [.int x_1951]) (rest := []) F (c_m_holdsBack l g D o S_1930 x_1951 y_1933 f_y_1933 (by omega) I_1930 H.size) (cwV 1 hts (bw_V wB_1224 wB_1225 wB_1226 wB_881 wB_1223) rfl rfl rfl (by decide +kernel) ⟨Nat.le_of_ble_eq_true rfl, Nat.le_of_ble_eq_true rfl⟩) (dg_preV sM_0 rfl K ST hP hS hA1 hA) rfl rfl hl.1 rfl (lv_room (Nat.le_of_ble_eq_true rfl)) dX12_goesOn_174 ⟨Nat.le_of_ble_eq_true rfl, Nat.le_of_ble_eq_true rfl⟩) (fun S_1966 hw_1966 H locs hP hS => ?_)
              obtain ⟨I_1966, m_1966, w_1966_0, w_1966_1, -⟩ := hw_1966
              have M_1966 := dg_sm.tr M_1930 m_1966 (by decide) (by decide)
              obtain ⟨y_1967, f_y_1967, w_1966_0⟩ := w_1966_0
              have w_1966_0 : (y_1967).toInt = (y_1933).toInt + 1 := w_1966_0
              have b_y_1967 : 0 ≤ (y_1967).toInt ∧ (y_1967).toInt ≤ 500 := dg_I.intb (lo := 0) (hi := 500) I_1966 sM_0 (by decide +kernel) f_y_1967
              have w_1966_1 : HBM S_1930 S_1966 x_1951 := w_1966_1
              have P0_1966 : P0M S_1966 := P1M.bin w_1930_3 (((m_1930.1 0 42 _ sM_0 (by decide)).trans (m_2.1 0 42 _ sM_0 (by decide))).trans f_dp) f_x_1934 f_y_1933 w_1930_1 m_1966 w_1966_1 (by omega)
              refine lv_aload_n hx hb dX12_goesOn_177 rfl (lv_at hl 3 rfl) ?_
              refine dg_callv hS hA1 hA (va_runV (As := []) (rest := []) F (c_m_ahead l g D o S_1966 se (((m_1966.1 0 5 _ sM_0 (by decide)).trans ((m_1930.1 0 5 _ sM_0 (by decide)).trans (m_2.1 0 5 _ sM_0 (by decide)))).trans f_se) (by omega) sl (((m_1966.1 0 2 _ sM_0 (by decide)).trans ((m_1930.1 0 2 _ sM_0 (by decide)).trans (m_2.1 0 2 _ sM_0 (by decide)))).trans f_sl) (by omega) (by omega) I_1966 H.size) (cwV 0 hts (bw_V wB_1161 wB_1162 wB_1163 wB_881 wB_1160) rfl rfl rfl (by decide +kernel) ⟨Nat.le_of_ble_eq_true rfl, Nat.le_of_ble_eq_true rfl⟩) (dg_preV sM_0 rfl K ST hP hS hA1 hA) rfl rfl hl.1 rfl (lv_room (Nat.le_of_ble_eq_true rfl)) dX12_goesOn_178 ⟨Nat.le_of_ble_eq_true rfl, Nat.le_of_ble_eq_true rfl⟩) (fun S_1968 hw_1968 H locs hP hS => ?_)
              obtain ⟨I_1968, m_1968, w_1968_0, -⟩ := hw_1968
              have M_1968 := dg_sm.tr M_1966 m_1968 (by decide) (by decide)
              obtain ⟨y_1969, y_1970, y_1971, f_y_1969, f_y_1970, f_y_1971, w_1968_0⟩ := w_1968_0
              have w_1968_0 : (se).toInt ≤ (y_1970).toInt ∧ (y_1970).toInt ≤ (y_1971).toInt ∧ (y_1971).toInt ≤ (sl).toInt ∧ ((y_1969).toInt ≠ 0 → (y_1970).toInt + 1 ≤ (y_1971).toInt) := w_1968_0
              obtain ⟨w_1968_0_0, w_1968_0_1, w_1968_0_2, w_1968_0_3⟩ := w_1968_0
              have b_y_1969 : 0 ≤ (y_1969).toInt ∧ (y_1969).toInt ≤ 3 := dg_I.intb (lo := 0) (hi := 3) I_1968 sM_0 (by decide +kernel) f_y_1969
              have b_y_1970 : 0 ≤ (y_1970).toInt ∧ (y_1970).toInt ≤ 1600 := dg_I.intb (lo := 0) (hi := 1600) I_1968 sM_0 (by decide +kernel) f_y_1970
              have b_y_1971 : 0 ≤ (y_1971).toInt ∧ (y_1971).toInt ≤ 1600 := dg_I.intb (lo := 0) (hi := 1600) I_1968 sM_0 (by decide +kernel) f_y_1971
              refine lv_aload_n hx hb dX12_goesOn_181 rfl (lv_at hl 3 rfl) ?_
              refine lv_iconst (v := 0) hx hb dX12_goesOn_182 (by decide +kernel) ?_
              have hz_1972 : (0 : Int32).toInt = 0 := by decide +kernel
              refine dg_put (ci := 12) (v := .int 0) (ty := tyX12 46) (C := RX12) (T := TX12) (N := 77) hx hb hts (fun w h => bw_mem (wU_X12 w h)) tyX12 tyX12_ok nmX12 hown K hP hS hA1 sM_0 rfl 46 (by decide) (hts _ (bw_mem wB_1237)) (fun _ h9 => h9) rfl (by decide +kernel) (by decide +kernel) (by decide +kernel) dX12_goesOn_183 (fun S_1973 e_1973 H locs hP hS => ?_)
              have I_1973 := dg_I.uFi (lo := 0) (hi := 1) I_1968 e_1973 sM_0 (by decide +kernel) (show 0 ≤ ((0 : Int32)).toInt ∧ ((0 : Int32)).toInt ≤ 1 from (by decide +kernel))
              have M_1973 := dg_sm.uF M_1968 e_1973 sM_0 (by decide)
              refine lv_iconst (v := 1) hx hb dX12_goesOn_186 (by decide +kernel) ?_
              have hz_1974 : (1 : Int32).toInt = 1 := by decide +kernel
              have hz_1975 : (1 : Int32).toInt = 1 := by decide +kernel
              have hz_1976 : (0 : Int32).toInt = 0 := by decide +kernel
              have hz_1977 : (1 : Int32).toInt = 1 := by decide +kernel
              have hz_1978 : (0 : Int32).toInt = 0 := by decide +kernel
              refine W.widen (k := 0) (n := 0) (Nat.le_of_ble_eq_true rfl) (Nat.le_of_ble_eq_true rfl) ?_
              rw [hQ9]
              exact dg_iret hx hb hr hlocks (by decide +kernel) hP hS ⟨I_1973, M_1973, (by decide +kernel), ⟨y_1969, y_1970, y_1971, y_3, y_1932, dp, y_1967, 0, ((dg_uF_ne e_1973 (fun z => absurd z.2 (by decide))).trans f_y_1969), ((dg_uF_ne e_1973 (fun z => absurd z.2 (by decide))).trans f_y_1970), ((dg_uF_ne e_1973 (fun z => absurd z.2 (by decide))).trans f_y_1971), (((dg_uF_ne e_1973 (fun z => absurd z.2 (by decide))).trans ((m_1968.1 0 8 _ sM_0 (by decide)).trans ((m_1966.1 0 8 _ sM_0 (by decide)).trans (m_1930.1 0 8 _ sM_0 (by decide))))).trans f_y_3), (((dg_uF_ne e_1973 (fun z => absurd z.2 (by decide))).trans ((m_1968.1 0 34 _ sM_0 (by decide)).trans (m_1966.1 0 34 _ sM_0 (by decide)))).trans f_y_1932), (((dg_uF_ne e_1973 (fun z => absurd z.2 (by decide))).trans ((m_1968.1 0 42 _ sM_0 (by decide)).trans ((m_1966.1 0 42 _ sM_0 (by decide)).trans ((m_1930.1 0 42 _ sM_0 (by decide)).trans (m_2.1 0 42 _ sM_0 (by decide)))))).trans f_dp), (((dg_uF_ne e_1973 (fun z => absurd z.2 (by decide))).trans (m_1968.1 0 45 _ sM_0 (by decide))).trans f_y_1967), (dg_uF_at e_1973), (by omega)⟩, (fun k9 hk9 hk0 => POM.mk0 (P0M.keep (P0M.keep P0_1966 m_1968 (by decide) (by decide) (by decide) (by decide) (by decide) (by decide) (by decide) (by decide) (by decide) (by decide) (by decide) (by decide) (by decide) (by decide) (by decide)) (dg_sm.uF (WF := [(0, 46)]) (WA := []) dg_sm.rf e_1973 sM_0 (by decide)) (by decide) (by decide) (by decide) (by decide) (by decide) (by decide) (by decide) (by decide) (by decide) (by decide) (by decide) (by decide) (by decide) (by decide) (by decide)) (dg_uF_at e_1973) (by omega)), (ZWM.keep (ZWM.keep (ZWM.keep w_1930_2 m_1966 (by decide) (by decide) (by decide) (by decide)) m_1968 (by decide) (by decide) (by decide) (by decide)) (dg_sm.uF (WF := [(0, 46)]) (WA := []) dg_sm.rf e_1973 sM_0 (by decide)) (by decide) (by decide) (by decide) (by decide)), trivial⟩ dX12_goesOn_187
            refine lv_if_eq (tgt := 130) hx hb dX12_goesOn_122 (by decide) (fun c_1979 => ?_) (fun c_1979 => ?_)
            · have jc_1979 := dk_eqc (k := 0) (by decide +kernel) c_1979
              have w_1936_1_r : (va).toInt ≠ 43 := fun q9 => absurd (w_1936_1.mpr ⟨by omega, by omega⟩) (by omega)
              clear w_1936_1
              refine lv_aload_n hx hb dX12_goesOn_130 rfl (lv_at hl 3 rfl) ?_
              refine lv_bipush (v := 45) hx hb dX12_goesOn_131 (by decide +kernel) ?_
              refine dg_calli hS hA1 hA (va_runV (As := [.int 45]) (rest := [.ref (o + 0)]) F (c_m_isSign l g D o S_1930 45 sg (((m_1930.1 0 3 _ sM_0 (by decide)).trans (m_2.1 0 3 _ sM_0 (by decide))).trans f_sg) (by omega) va (((m_1930.1 0 6 _ sM_0 (by decide)).trans (m_2.1 0 6 _ sM_0 (by decide))).trans f_va) (by omega) I_1930 H.size) (cwV 1 hts (bw_V wB_1157 wB_1158 wB_1159 wB_881 wB_1156) rfl rfl rfl (by decide +kernel) ⟨Nat.le_of_ble_eq_true rfl, Nat.le_of_ble_eq_true rfl⟩) (dg_preV sM_0 rfl K ST hP hS hA1 hA) rfl rfl hl.1 rfl (lv_room (Nat.le_of_ble_eq_true rfl)) dX12_goesOn_133 ⟨Nat.le_of_ble_eq_true rfl, Nat.le_of_ble_eq_true rfl⟩) (fun x_1980 S_1981 hw_1981 H locs hP hS => ?_)
              rw [hw_1981.1] at hP
              obtain ⟨hq_1981, w_1981_0, w_1981_1, -⟩ := hw_1981
              have hz_1982 : (45 : Int32).toInt = 45 := by decide +kernel
              have w_1981_0 : 0 ≤ (x_1980).toInt ∧ (x_1980).toInt ≤ 1 := w_1981_0
              have w_1981_1 : (x_1980).toInt = 1 ↔ ((sg).toInt = 3 ∧ (va).toInt = ((45 : Int32)).toInt) := w_1981_1
              refine lv_if_eq (tgt := 144) hx hb dX12_goesOn_136 (by decide) (fun c_1983 => ?_) (fun c_1983 => ?_)
              · have jc_1983 := dk_eqc (k := 0) (by decide +kernel) c_1983
                have w_1981_1_r : (va).toInt ≠ 45 := fun q9 => absurd (w_1981_1.mpr ⟨by omega, by omega⟩) (by omega)
                clear w_1981_1
                refine lv_aload_n hx hb dX12_goesOn_144 rfl (lv_at hl 3 rfl) ?_
                refine lv_bipush (v := 42) hx hb dX12_goesOn_145 (by decide +kernel) ?_
                refine dg_calli hS hA1 hA (va_runV (As := [.int 42]) (rest := [.ref (o + 0)]) F (c_m_isSign l g D o S_1930 42 sg (((m_1930.1 0 3 _ sM_0 (by decide)).trans (m_2.1 0 3 _ sM_0 (by decide))).trans f_sg) (by omega) va (((m_1930.1 0 6 _ sM_0 (by decide)).trans (m_2.1 0 6 _ sM_0 (by decide))).trans f_va) (by omega) I_1930 H.size) (cwV 1 hts (bw_V wB_1157 wB_1158 wB_1159 wB_881 wB_1156) rfl rfl rfl (by decide +kernel) ⟨Nat.le_of_ble_eq_true rfl, Nat.le_of_ble_eq_true rfl⟩) (dg_preV sM_0 rfl K ST hP hS hA1 hA) rfl rfl hl.1 rfl (lv_room (Nat.le_of_ble_eq_true rfl)) dX12_goesOn_147 ⟨Nat.le_of_ble_eq_true rfl, Nat.le_of_ble_eq_true rfl⟩) (fun x_1984 S_1985 hw_1985 H locs hP hS => ?_)
                rw [hw_1985.1] at hP
                obtain ⟨hq_1985, w_1985_0, w_1985_1, -⟩ := hw_1985
                have hz_1986 : (42 : Int32).toInt = 42 := by decide +kernel
                have w_1985_0 : 0 ≤ (x_1984).toInt ∧ (x_1984).toInt ≤ 1 := w_1985_0
                have w_1985_1 : (x_1984).toInt = 1 ↔ ((sg).toInt = 3 ∧ (va).toInt = ((42 : Int32)).toInt) := w_1985_1
                refine lv_if_eq (tgt := 158) hx hb dX12_goesOn_150 (by decide) (fun c_1987 => ?_) (fun c_1987 => ?_)
                · have jc_1987 := dk_eqc (k := 0) (by decide +kernel) c_1987
                  have w_1985_1_r : (va).toInt ≠ 42 := fun q9 => absurd (w_1985_1.mpr ⟨by omega, by omega⟩) (by omega)
                  clear w_1985_1
                  refine lv_aload_n hx hb dX12_goesOn_158 rfl (lv_at hl 3 rfl) ?_
                  refine lv_bipush (v := 47) hx hb dX12_goesOn_159 (by decide +kernel) ?_
                  refine dg_calli hS hA1 hA (va_runV (As := [.int 47]) (rest := [.ref (o + 0)]) F (c_m_isSign l g D o S_1930 47 sg (((m_1930.1 0 3 _ sM_0 (by decide)).trans (m_2.1 0 3 _ sM_0 (by decide))).trans f_sg) (by omega) va (((m_1930.1 0 6 _ sM_0 (by decide)).trans (m_2.1 0 6 _ sM_0 (by decide))).trans f_va) (by omega) I_1930 H.size) (cwV 1 hts (bw_V wB_1157 wB_1158 wB_1159 wB_881 wB_1156) rfl rfl rfl (by decide +kernel) ⟨Nat.le_of_ble_eq_true rfl, Nat.le_of_ble_eq_true rfl⟩) (dg_preV sM_0 rfl K ST hP hS hA1 hA) rfl rfl hl.1 rfl (lv_room (Nat.le_of_ble_eq_true rfl)) dX12_goesOn_161 ⟨Nat.le_of_ble_eq_true rfl, Nat.le_of_ble_eq_true rfl⟩) (fun x_1988 S_1989 hw_1989 H locs hP hS => ?_)
                  rw [hw_1989.1] at hP
                  obtain ⟨hq_1989, w_1989_0, w_1989_1, -⟩ := hw_1989
                  have hz_1990 : (47 : Int32).toInt = 47 := by decide +kernel
                  have w_1989_0 : 0 ≤ (x_1988).toInt ∧ (x_1988).toInt ≤ 1 := w_1989_0
                  have w_1989_1 : (x_1988).toInt = 1 ↔ ((sg).toInt = 3 ∧ (va).toInt = ((47 : Int32)).toInt) := w_1989_1
                  refine lv_if_eq (tgt := 172) hx hb dX12_goesOn_164 (by decide) (fun c_1991 => ?_) (fun c_1991 => ?_)
                  · have jc_1991 := dk_eqc (k := 0) (by decide +kernel) c_1991
                    have w_1989_1_r : (va).toInt ≠ 47 := fun q9 => absurd (w_1989_1.mpr ⟨by omega, by omega⟩) (by omega)
                    clear w_1989_1
                    refine lv_bipush (v := 35) hx hb dX12_goesOn_172 (by decide +kernel) ?_
                    have hz_1992 : (35 : Int32).toInt = 35 := by decide +kernel
                    have hz_1993 : (35 : Int32).toInt = 35 := by decide +kernel
                    exact J_1965 35 (by decide +kernel) (by omega) _ _ hP hS _ (lv_sub hl [0, 1, 2, 3] rfl)
                  · have jc_1991 := dk_neqc (k := 0) (by decide +kernel) c_1991
                    have jbc_1991 : 1 ≤ (x_1988).toInt := by omega
                    clear jc_1991
                    have w_1989_1_r := w_1989_1.mp (by omega)
                    obtain ⟨w_1989_1_r1, w_1989_1_r2⟩ := w_1989_1_r
                    clear rel_1 w_1882_1_r w_1926_1_r w_1936_1_r w_1981_1_r w_1985_1_r
                    clear w_1989_1
                    refine lv_bipush (v := 34) hx hb dX12_goesOn_167 (by decide +kernel) ?_
                    refine lv_goto (tgt := 174) hx hb dX12_goesOn_169 (by decide) ?_
                    have hz_1994 : (34 : Int32).toInt = 34 := by decide +kernel
                    have hz_1995 : (34 : Int32).toInt = 34 := by decide +kernel
                    exact J_1965 34 (by decide +kernel) (by omega) _ _ hP hS _ (lv_sub hl [0, 1, 2, 3] rfl)
                · have jc_1987 := dk_neqc (k := 0) (by decide +kernel) c_1987
                  have jbc_1987 : 1 ≤ (x_1984).toInt := by omega
                  clear jc_1987
                  have w_1985_1_r := w_1985_1.mp (by omega)
                  obtain ⟨w_1985_1_r1, w_1985_1_r2⟩ := w_1985_1_r
                  clear rel_1 w_1882_1_r w_1926_1_r w_1936_1_r w_1981_1_r
                  clear w_1985_1
                  refine lv_bipush (v := 33) hx hb dX12_goesOn_153 (by decide +kernel) ?_
                  refine lv_goto (tgt := 174) hx hb dX12_goesOn_155 (by decide) ?_
                  have hz_1996 : (33 : Int32).toInt = 33 := by decide +kernel
                  have hz_1997 : (33 : Int32).toInt = 33 := by decide +kernel
                  exact J_1965 33 (by decide +kernel) (by omega) _ _ hP hS _ (lv_sub hl [0, 1, 2, 3] rfl)
              · have jc_1983 := dk_neqc (k := 0) (by decide +kernel) c_1983
                have jbc_1983 : 1 ≤ (x_1980).toInt := by omega
                clear jc_1983
                have w_1981_1_r := w_1981_1.mp (by omega)
                obtain ⟨w_1981_1_r1, w_1981_1_r2⟩ := w_1981_1_r
                clear w_1981_1
                omega
            · have jc_1979 := dk_neqc (k := 0) (by decide +kernel) c_1979
              have jbc_1979 : 1 ≤ (x_1935).toInt := by omega
              clear jc_1979
              have w_1936_1_r := w_1936_1.mp (by omega)
              obtain ⟨w_1936_1_r1, w_1936_1_r2⟩ := w_1936_1_r
              clear w_1936_1
              omega
          · have jc_1928 := dk_neqc (k := 0) (by decide +kernel) c_1928
            have jbc_1928 : 1 ≤ (x_1925).toInt := by omega
            clear jc_1928
            have w_1926_1_r := w_1926_1.mp (by omega)
            obtain ⟨w_1926_1_r1, w_1926_1_r2⟩ := w_1926_1_r
            clear rel_1 w_1882_1_r
            clear w_1926_1
            refine lv_iconst (v := 5) hx hb dX12_goesOn_106 (by decide +kernel) ?_
            refine lv_goto (tgt := 112) hx hb dX12_goesOn_107 (by decide) ?_
            have hz_1998 : (5 : Int32).toInt = 5 := by decide +kernel
            refine dg_callv hS hA1 hA (va_runV (As := [.int 5]) (rest := []) F (c_m_joins l g D o S_2 5 (by decide +kernel) cd ((m_2.1 0 34 _ sM_0 (by decide)).trans f_cd) (by omega) om ((m_2.1 0 45 _ sM_0 (by decide)).trans f_om) (by omega) (by omega) (ZWM.keep ZW m_2 (by decide) (by decide) (by decide) (by decide)) (ZKM.keep ZK m_2 (by decide) (by decide)) (P1M.keep P1 m_2 (by decide) (by decide) (by decide) (by decide) (by decide) (by decide) (by decide) (by decide) (by decide) (by decide) (by decide) (by decide) (by decide) (by decide) (by decide)) I_2 H.size) (cwV 1 hts (bw_V wB_1234 wB_1235 wB_1236 wB_881 wB_1233) rfl rfl rfl (by decide +kernel) ⟨Nat.le_of_ble_eq_true rfl, Nat.le_of_ble_eq_true rfl⟩) (dg_preV sM_0 rfl K ST hP hS hA1 hA) rfl rfl hl.1 rfl (lv_room (Nat.le_of_ble_eq_true rfl)) dX12_goesOn_112 ⟨Nat.le_of_ble_eq_true rfl, Nat.le_of_ble_eq_true rfl⟩) (fun S_1999 hw_1999 H locs hP hS => ?_)
            obtain ⟨I_1999, m_1999, w_1999_0, w_1999_1, w_1999_2, w_1999_3, -⟩ := hw_1999
            have M_1999 := dg_sm.tr M_2 m_1999 (by decide) (by decide)
            have hz_2000 : (5 : Int32).toInt = 5 := by decide +kernel
            obtain ⟨y_2001, y_2002, f_y_2001, f_y_2002, w_1999_0⟩ := w_1999_0
            have w_1999_0 : (y_2001).toInt + (y_2002).toInt = (cd).toInt + (om).toInt := w_1999_0
            have b_y_2001 : 0 ≤ (y_2001).toInt ∧ (y_2001).toInt ≤ 1600 := dg_I.intb (lo := 0) (hi := 1600) I_1999 sM_0 (by decide +kernel) f_y_2001
            have b_y_2002 : 0 ≤ (y_2002).toInt ∧ (y_2002).toInt ≤ 500 := dg_I.intb (lo := 0) (hi := 500) I_1999 sM_0 (by decide +kernel) f_y_2002
            have w_1999_1 : TOPM S_1999 (5 : Int32) := w_1999_1
            obtain ⟨x_2003, f_x_2003, b_x_2003⟩ := dg_I.int (i := 0) (k := 43) (lo := (-2147483648)) (hi := 2147483647) I_1999 sM_0 (by decide +kernel)
            refine lv_aload_n hx hb dX12_goesOn_115 rfl (lv_at hl 3 rfl) ?_
            refine lv_aload_n hx hb dX12_goesOn_116 rfl (lv_at hl 3 rfl) ?_
            refine lv_bipush (v := 43) hx hb dX12_goesOn_117 (by decide +kernel) ?_
            refine dg_calli hS hA1 hA (va_runV (As := [.int 43]) (rest := [.ref (o + 0)]) F (c_m_isSign l g D o S_1999 43 sg (((m_1999.1 0 3 _ sM_0 (by decide)).trans (m_2.1 0 3 _ sM_0 (by decide))).trans f_sg) (by omega) va (((m_1999.1 0 6 _ sM_0 (by decide)).trans (m_2.1 0 6 _ sM_0 (by decide))).trans f_va) (by omega) I_1999 H.size) (cwV 1 hts (bw_V wB_1157 wB_1158 wB_1159 wB_881 wB_1156) rfl rfl rfl (by decide +kernel) ⟨Nat.le_of_ble_eq_true rfl, Nat.le_of_ble_eq_true rfl⟩) (dg_preV sM_0 rfl K ST hP hS hA1 hA) rfl rfl hl.1 rfl (lv_room (Nat.le_of_ble_eq_true rfl)) dX12_goesOn_119 ⟨Nat.le_of_ble_eq_true rfl, Nat.le_of_ble_eq_true rfl⟩) (fun x_2004 S_2005 hw_2005 H locs hP hS => ?_)
            rw [hw_2005.1] at hP
            obtain ⟨hq_2005, w_2005_0, w_2005_1, -⟩ := hw_2005
            have hz_2006 : (43 : Int32).toInt = 43 := by decide +kernel
            have w_2005_0 : 0 ≤ (x_2004).toInt ∧ (x_2004).toInt ≤ 1 := w_2005_0
            have w_2005_1 : (x_2004).toInt = 1 ↔ ((sg).toInt = 3 ∧ (va).toInt = ((43 : Int32)).toInt) := w_2005_1
            have J_2026 : ∀ (u9 : Unit), ((32 : Int32).toInt = 31 ∨ (32 : Int32).toInt = 32) → ∀ (H : Heap) (locs : List Loc), va_P D vwCl (dg_w g shM o rfM S_1999) H → va_S A s.heap H locs → ∀ ls : Array Slot, lv_has ls 5 [(3, .int x_8), (2, .int x_7), (1, .int x_5), (0, .ref (o + 0))] → W p l e ({ frames := 3, cells := 0, slots := 0, locals := 77 } : Room) s m args below meth c H locs 0 0 Q9 (F0 m 174 ls [.int 32, .ref (o + 0)]) := by
              intro u9 rel_0 H locs hP hS ls hl
              clear w_2005_1
              refine dg_callv hS hA1 hA (va_runV (As := [.int 32]) (rest := []) F (c_m_holdsBack l g D o S_1999 32 y_2002 f_y_2002 (by omega) I_1999 H.size) (cwV 1 hts (bw_V wB_1224 wB_1225 wB_1226 wB_881 wB_1223) rfl rfl rfl (by decide +kernel) ⟨Nat.le_of_ble_eq_true rfl, Nat.le_of_ble_eq_true rfl⟩) (dg_preV sM_0 rfl K ST hP hS hA1 hA) rfl rfl hl.1 rfl (lv_room (Nat.le_of_ble_eq_true rfl)) dX12_goesOn_174 ⟨Nat.le_of_ble_eq_true rfl, Nat.le_of_ble_eq_true rfl⟩) (fun S_2027 hw_2027 H locs hP hS => ?_)
              obtain ⟨I_2027, m_2027, w_2027_0, w_2027_1, -⟩ := hw_2027
              have M_2027 := dg_sm.tr M_1999 m_2027 (by decide) (by decide)
              have hz_2028 : (32 : Int32).toInt = 32 := by decide +kernel
              obtain ⟨y_2029, f_y_2029, w_2027_0⟩ := w_2027_0
              have w_2027_0 : (y_2029).toInt = (y_2002).toInt + 1 := w_2027_0
              have b_y_2029 : 0 ≤ (y_2029).toInt ∧ (y_2029).toInt ≤ 500 := dg_I.intb (lo := 0) (hi := 500) I_2027 sM_0 (by decide +kernel) f_y_2029
              have w_2027_1 : HBM S_1999 S_2027 (32 : Int32) := w_2027_1
              have P0_2027 : P0M S_2027 := P1M.bin w_1999_3 (((m_1999.1 0 42 _ sM_0 (by decide)).trans (m_2.1 0 42 _ sM_0 (by decide))).trans f_dp) f_x_2003 f_y_2002 w_1999_1 m_2027 w_2027_1 (by omega)
              refine lv_aload_n hx hb dX12_goesOn_177 rfl (lv_at hl 3 rfl) ?_
              refine dg_callv hS hA1 hA (va_runV (As := []) (rest := []) F (c_m_ahead l g D o S_2027 se (((m_2027.1 0 5 _ sM_0 (by decide)).trans ((m_1999.1 0 5 _ sM_0 (by decide)).trans (m_2.1 0 5 _ sM_0 (by decide)))).trans f_se) (by omega) sl (((m_2027.1 0 2 _ sM_0 (by decide)).trans ((m_1999.1 0 2 _ sM_0 (by decide)).trans (m_2.1 0 2 _ sM_0 (by decide)))).trans f_sl) (by omega) (by omega) I_2027 H.size) (cwV 0 hts (bw_V wB_1161 wB_1162 wB_1163 wB_881 wB_1160) rfl rfl rfl (by decide +kernel) ⟨Nat.le_of_ble_eq_true rfl, Nat.le_of_ble_eq_true rfl⟩) (dg_preV sM_0 rfl K ST hP hS hA1 hA) rfl rfl hl.1 rfl (lv_room (Nat.le_of_ble_eq_true rfl)) dX12_goesOn_178 ⟨Nat.le_of_ble_eq_true rfl, Nat.le_of_ble_eq_true rfl⟩) (fun S_2030 hw_2030 H locs hP hS => ?_)
              obtain ⟨I_2030, m_2030, w_2030_0, -⟩ := hw_2030
              have M_2030 := dg_sm.tr M_2027 m_2030 (by decide) (by decide)
              obtain ⟨y_2031, y_2032, y_2033, f_y_2031, f_y_2032, f_y_2033, w_2030_0⟩ := w_2030_0
              have w_2030_0 : (se).toInt ≤ (y_2032).toInt ∧ (y_2032).toInt ≤ (y_2033).toInt ∧ (y_2033).toInt ≤ (sl).toInt ∧ ((y_2031).toInt ≠ 0 → (y_2032).toInt + 1 ≤ (y_2033).toInt) := w_2030_0
              obtain ⟨w_2030_0_0, w_2030_0_1, w_2030_0_2, w_2030_0_3⟩ := w_2030_0
              have b_y_2031 : 0 ≤ (y_2031).toInt ∧ (y_2031).toInt ≤ 3 := dg_I.intb (lo := 0) (hi := 3) I_2030 sM_0 (by decide +kernel) f_y_2031
              have b_y_2032 : 0 ≤ (y_2032).toInt ∧ (y_2032).toInt ≤ 1600 := dg_I.intb (lo := 0) (hi := 1600) I_2030 sM_0 (by decide +kernel) f_y_2032
              have b_y_2033 : 0 ≤ (y_2033).toInt ∧ (y_2033).toInt ≤ 1600 := dg_I.intb (lo := 0) (hi := 1600) I_2030 sM_0 (by decide +kernel) f_y_2033
              refine lv_aload_n hx hb dX12_goesOn_181 rfl (lv_at hl 3 rfl) ?_
              refine lv_iconst (v := 0) hx hb dX12_goesOn_182 (by decide +kernel) ?_
              have hz_2034 : (0 : Int32).toInt = 0 := by decide +kernel
              refine dg_put (ci := 12) (v := .int 0) (ty := tyX12 46) (C := RX12) (T := TX12) (N := 77) hx hb hts (fun w h => bw_mem (wU_X12 w h)) tyX12 tyX12_ok nmX12 hown K hP hS hA1 sM_0 rfl 46 (by decide) (hts _ (bw_mem wB_1237)) (fun _ h9 => h9) rfl (by decide +kernel) (by decide +kernel) (by decide +kernel) dX12_goesOn_183 (fun S_2035 e_2035 H locs hP hS => ?_)
              have I_2035 := dg_I.uFi (lo := 0) (hi := 1) I_2030 e_2035 sM_0 (by decide +kernel) (show 0 ≤ ((0 : Int32)).toInt ∧ ((0 : Int32)).toInt ≤ 1 from (by decide +kernel))
              have M_2035 := dg_sm.uF M_2030 e_2035 sM_0 (by decide)
              refine lv_iconst (v := 1) hx hb dX12_goesOn_186 (by decide +kernel) ?_
              have hz_2036 : (1 : Int32).toInt = 1 := by decide +kernel
              have hz_2037 : (1 : Int32).toInt = 1 := by decide +kernel
              have hz_2038 : (0 : Int32).toInt = 0 := by decide +kernel
              have hz_2039 : (1 : Int32).toInt = 1 := by decide +kernel
              have hz_2040 : (0 : Int32).toInt = 0 := by decide +kernel
              refine W.widen (k := 0) (n := 0) (Nat.le_of_ble_eq_true rfl) (Nat.le_of_ble_eq_true rfl) ?_
              rw [hQ9]
              exact dg_iret hx hb hr hlocks (by decide +kernel) hP hS ⟨I_2035, M_2035, (by decide +kernel), ⟨y_2031, y_2032, y_2033, y_3, y_2001, dp, y_2029, 0, ((dg_uF_ne e_2035 (fun z => absurd z.2 (by decide))).trans f_y_2031), ((dg_uF_ne e_2035 (fun z => absurd z.2 (by decide))).trans f_y_2032), ((dg_uF_ne e_2035 (fun z => absurd z.2 (by decide))).trans f_y_2033), (((dg_uF_ne e_2035 (fun z => absurd z.2 (by decide))).trans ((m_2030.1 0 8 _ sM_0 (by decide)).trans ((m_2027.1 0 8 _ sM_0 (by decide)).trans (m_1999.1 0 8 _ sM_0 (by decide))))).trans f_y_3), (((dg_uF_ne e_2035 (fun z => absurd z.2 (by decide))).trans ((m_2030.1 0 34 _ sM_0 (by decide)).trans (m_2027.1 0 34 _ sM_0 (by decide)))).trans f_y_2001), (((dg_uF_ne e_2035 (fun z => absurd z.2 (by decide))).trans ((m_2030.1 0 42 _ sM_0 (by decide)).trans ((m_2027.1 0 42 _ sM_0 (by decide)).trans ((m_1999.1 0 42 _ sM_0 (by decide)).trans (m_2.1 0 42 _ sM_0 (by decide)))))).trans f_dp), (((dg_uF_ne e_2035 (fun z => absurd z.2 (by decide))).trans (m_2030.1 0 45 _ sM_0 (by decide))).trans f_y_2029), (dg_uF_at e_2035), (by omega)⟩, (fun k9 hk9 hk0 => POM.mk0 (P0M.keep (P0M.keep P0_2027 m_2030 (by decide) (by decide) (by decide) (by decide) (by decide) (by decide) (by decide) (by decide) (by decide) (by decide) (by decide) (by decide) (by decide) (by decide) (by decide)) (dg_sm.uF (WF := [(0, 46)]) (WA := []) dg_sm.rf e_2035 sM_0 (by decide)) (by decide) (by decide) (by decide) (by decide) (by decide) (by decide) (by decide) (by decide) (by decide) (by decide) (by decide) (by decide) (by decide) (by decide) (by decide)) (dg_uF_at e_2035) (by omega)), (ZWM.keep (ZWM.keep (ZWM.keep w_1999_2 m_2027 (by decide) (by decide) (by decide) (by decide)) m_2030 (by decide) (by decide) (by decide) (by decide)) (dg_sm.uF (WF := [(0, 46)]) (WA := []) dg_sm.rf e_2035 sM_0 (by decide)) (by decide) (by decide) (by decide) (by decide)), trivial⟩ dX12_goesOn_187
            refine lv_if_eq (tgt := 130) hx hb dX12_goesOn_122 (by decide) (fun c_2041 => ?_) (fun c_2041 => ?_)
            · have jc_2041 := dk_eqc (k := 0) (by decide +kernel) c_2041
              have w_2005_1_r : (va).toInt ≠ 43 := fun q9 => absurd (w_2005_1.mpr ⟨by omega, by omega⟩) (by omega)
              clear w_2005_1
              refine lv_aload_n hx hb dX12_goesOn_130 rfl (lv_at hl 3 rfl) ?_
              refine lv_bipush (v := 45) hx hb dX12_goesOn_131 (by decide +kernel) ?_
              refine dg_calli hS hA1 hA (va_runV (As := [.int 45]) (rest := [.ref (o + 0)]) F (c_m_isSign l g D o S_1999 45 sg (((m_1999.1 0 3 _ sM_0 (by decide)).trans (m_2.1 0 3 _ sM_0 (by decide))).trans f_sg) (by omega) va (((m_1999.1 0 6 _ sM_0 (by decide)).trans (m_2.1 0 6 _ sM_0 (by decide))).trans f_va) (by omega) I_1999 H.size) (cwV 1 hts (bw_V wB_1157 wB_1158 wB_1159 wB_881 wB_1156) rfl rfl rfl (by decide +kernel) ⟨Nat.le_of_ble_eq_true rfl, Nat.le_of_ble_eq_true rfl⟩) (dg_preV sM_0 rfl K ST hP hS hA1 hA) rfl rfl hl.1 rfl (lv_room (Nat.le_of_ble_eq_true rfl)) dX12_goesOn_133 ⟨Nat.le_of_ble_eq_true rfl, Nat.le_of_ble_eq_true rfl⟩) (fun x_2042 S_2043 hw_2043 H locs hP hS => ?_)
              rw [hw_2043.1] at hP
              obtain ⟨hq_2043, w_2043_0, w_2043_1, -⟩ := hw_2043
              have hz_2044 : (45 : Int32).toInt = 45 := by decide +kernel
              have w_2043_0 : 0 ≤ (x_2042).toInt ∧ (x_2042).toInt ≤ 1 := w_2043_0
              have w_2043_1 : (x_2042).toInt = 1 ↔ ((sg).toInt = 3 ∧ (va).toInt = ((45 : Int32)).toInt) := w_2043_1
              refine lv_if_eq (tgt := 144) hx hb dX12_goesOn_136 (by decide) (fun c_2045 => ?_) (fun c_2045 => ?_)
              · have jc_2045 := dk_eqc (k := 0) (by decide +kernel) c_2045
                have w_2043_1_r : (va).toInt ≠ 45 := fun q9 => absurd (w_2043_1.mpr ⟨by omega, by omega⟩) (by omega)
                clear w_2043_1
                omega
              · have jc_2045 := dk_neqc (k := 0) (by decide +kernel) c_2045
                have jbc_2045 : 1 ≤ (x_2042).toInt := by omega
                clear jc_2045
                have w_2043_1_r := w_2043_1.mp (by omega)
                obtain ⟨w_2043_1_r1, w_2043_1_r2⟩ := w_2043_1_r
                clear w_2005_1_r
                clear w_2043_1
                refine lv_bipush (v := 32) hx hb dX12_goesOn_139 (by decide +kernel) ?_
                refine lv_goto (tgt := 174) hx hb dX12_goesOn_141 (by decide) ?_
                exact J_2026 ()  (by omega) _ _ hP hS _ (lv_sub hl [0, 1, 2, 3] rfl)
            · have jc_2041 := dk_neqc (k := 0) (by decide +kernel) c_2041
              have jbc_2041 : 1 ≤ (x_2004).toInt := by omega
              clear jc_2041
              have w_2005_1_r := w_2005_1.mp (by omega)
              obtain ⟨w_2005_1_r1, w_2005_1_r2⟩ := w_2005_1_r
              clear w_2005_1
              omega
      refine lv_if_ne (tgt := 87) hx hb dX12_goesOn_48 (by decide) (fun c_2046 => ?_) (fun c_2046 => ?_)
      · have jc_2046 := dk_neqc (k := 0) (by decide +kernel) c_2046
        have jbc_2046 : 1 ≤ (x_1764).toInt := by omega
        clear jc_2046
        have w_1765_1_r := w_1765_1.mp (by omega)
        obtain ⟨w_1765_1_r1, w_1765_1_r2⟩ := w_1765_1_r
        clear w_1765_1
        have hlx_2r := hlx_2 (by omega)
        clear hlx_2
        exact J_1880 ()  (by omega) (by omega) _ _ hP hS _ (lv_sub hl [0, 1, 2, 3] rfl)
      · have jc_2046 := dk_eqc (k := 0) (by decide +kernel) c_2046
        clear w_1765_1
        refine lv_aload_n hx hb dX12_goesOn_51 rfl (lv_at hl 3 rfl) ?_
        refine lv_bipush (v := 45) hx hb dX12_goesOn_52 (by decide +kernel) ?_
        refine dg_calli hS hA1 hA (va_runV (As := [.int 45]) (rest := []) F (c_m_isSign l g D o S_2 45 sg ((m_2.1 0 3 _ sM_0 (by decide)).trans f_sg) (by omega) va ((m_2.1 0 6 _ sM_0 (by decide)).trans f_va) (by omega) I_2 H.size) (cwV 1 hts (bw_V wB_1157 wB_1158 wB_1159 wB_881 wB_1156) rfl rfl rfl (by decide +kernel) ⟨Nat.le_of_ble_eq_true rfl, Nat.le_of_ble_eq_true rfl⟩) (dg_preV sM_0 rfl K ST hP hS hA1 hA) rfl rfl hl.1 rfl (lv_room (Nat.le_of_ble_eq_true rfl)) dX12_goesOn_54 ⟨Nat.le_of_ble_eq_true rfl, Nat.le_of_ble_eq_true rfl⟩) (fun x_2047 S_2048 hw_2048 H locs hP hS => ?_)
        rw [hw_2048.1] at hP
        obtain ⟨hq_2048, w_2048_0, w_2048_1, -⟩ := hw_2048
        have hz_2049 : (45 : Int32).toInt = 45 := by decide +kernel
        have w_2048_0 : 0 ≤ (x_2047).toInt ∧ (x_2047).toInt ≤ 1 := w_2048_0
        have w_2048_1 : (x_2047).toInt = 1 ↔ ((sg).toInt = 3 ∧ (va).toInt = ((45 : Int32)).toInt) := w_2048_1
        refine lv_if_ne (tgt := 87) hx hb dX12_goesOn_57 (by decide) (fun c_2050 => ?_) (fun c_2050 => ?_)
        · have jc_2050 := dk_neqc (k := 0) (by decide +kernel) c_2050
          have jbc_2050 : 1 ≤ (x_2047).toInt := by omega
          clear jc_2050
          have w_2048_1_r := w_2048_1.mp (by omega)
          obtain ⟨w_2048_1_r1, w_2048_1_r2⟩ := w_2048_1_r
          clear w_2048_1
          have hlx_2r := hlx_2 (by omega)
          clear hlx_2
          exact J_1880 ()  (by omega) (by omega) _ _ hP hS _ (lv_sub hl [0, 1, 2, 3] rfl)
        · have jc_2050 := dk_eqc (k := 0) (by decide +kernel) c_2050
          clear w_2048_1
          refine lv_aload_n hx hb dX12_goesOn_60 rfl (lv_at hl 3 rfl) ?_
          refine lv_bipush (v := 42) hx hb dX12_goesOn_61 (by decide +kernel) ?_
          refine dg_calli hS hA1 hA (va_runV (As := [.int 42]) (rest := []) F (c_m_isSign l g D o S_2 42 sg ((m_2.1 0 3 _ sM_0 (by decide)).trans f_sg) (by omega) va ((m_2.1 0 6 _ sM_0 (by decide)).trans f_va) (by omega) I_2 H.size) (cwV 1 hts (bw_V wB_1157 wB_1158 wB_1159 wB_881 wB_1156) rfl rfl rfl (by decide +kernel) ⟨Nat.le_of_ble_eq_true rfl, Nat.le_of_ble_eq_true rfl⟩) (dg_preV sM_0 rfl K ST hP hS hA1 hA) rfl rfl hl.1 rfl (lv_room (Nat.le_of_ble_eq_true rfl)) dX12_goesOn_63 ⟨Nat.le_of_ble_eq_true rfl, Nat.le_of_ble_eq_true rfl⟩) (fun x_2051 S_2052 hw_2052 H locs hP hS => ?_)
          rw [hw_2052.1] at hP
          obtain ⟨hq_2052, w_2052_0, w_2052_1, -⟩ := hw_2052
          have hz_2053 : (42 : Int32).toInt = 42 := by decide +kernel
          have w_2052_0 : 0 ≤ (x_2051).toInt ∧ (x_2051).toInt ≤ 1 := w_2052_0
          have w_2052_1 : (x_2051).toInt = 1 ↔ ((sg).toInt = 3 ∧ (va).toInt = ((42 : Int32)).toInt) := w_2052_1
          refine lv_if_ne (tgt := 87) hx hb dX12_goesOn_66 (by decide) (fun c_2054 => ?_) (fun c_2054 => ?_)
          · have jc_2054 := dk_neqc (k := 0) (by decide +kernel) c_2054
            have jbc_2054 : 1 ≤ (x_2051).toInt := by omega
            clear jc_2054
            have w_2052_1_r := w_2052_1.mp (by omega)
            obtain ⟨w_2052_1_r1, w_2052_1_r2⟩ := w_2052_1_r
            clear w_2052_1
            have hlx_2r := hlx_2 (by omega)
            clear hlx_2
            exact J_1880 ()  (by omega) (by omega) _ _ hP hS _ (lv_sub hl [0, 1, 2, 3] rfl)
          · have jc_2054 := dk_eqc (k := 0) (by decide +kernel) c_2054
            clear w_2052_1
            refine lv_aload_n hx hb dX12_goesOn_69 rfl (lv_at hl 3 rfl) ?_
            refine lv_bipush (v := 47) hx hb dX12_goesOn_70 (by decide +kernel) ?_
            refine dg_calli hS hA1 hA (va_runV (As := [.int 47]) (rest := []) F (c_m_isSign l g D o S_2 47 sg ((m_2.1 0 3 _ sM_0 (by decide)).trans f_sg) (by omega) va ((m_2.1 0 6 _ sM_0 (by decide)).trans f_va) (by omega) I_2 H.size) (cwV 1 hts (bw_V wB_1157 wB_1158 wB_1159 wB_881 wB_1156) rfl rfl rfl (by decide +kernel) ⟨Nat.le_of_ble_eq_true rfl, Nat.le_of_ble_eq_true rfl⟩) (dg_preV sM_0 rfl K ST hP hS hA1 hA) rfl rfl hl.1 rfl (lv_room (Nat.le_of_ble_eq_true rfl)) dX12_goesOn_72 ⟨Nat.le_of_ble_eq_true rfl, Nat.le_of_ble_eq_true rfl⟩) (fun x_2055 S_2056 hw_2056 H locs hP hS => ?_)
            rw [hw_2056.1] at hP
            obtain ⟨hq_2056, w_2056_0, w_2056_1, -⟩ := hw_2056
            have hz_2057 : (47 : Int32).toInt = 47 := by decide +kernel
            have w_2056_0 : 0 ≤ (x_2055).toInt ∧ (x_2055).toInt ≤ 1 := w_2056_0
            have w_2056_1 : (x_2055).toInt = 1 ↔ ((sg).toInt = 3 ∧ (va).toInt = ((47 : Int32)).toInt) := w_2056_1
            refine lv_if_ne (tgt := 87) hx hb dX12_goesOn_75 (by decide) (fun c_2058 => ?_) (fun c_2058 => ?_)
            · have jc_2058 := dk_neqc (k := 0) (by decide +kernel) c_2058
              have jbc_2058 : 1 ≤ (x_2055).toInt := by omega
              clear jc_2058
              have w_2056_1_r := w_2056_1.mp (by omega)
              obtain ⟨w_2056_1_r1, w_2056_1_r2⟩ := w_2056_1_r
              clear w_2056_1
              have hlx_2r := hlx_2 (by omega)
              clear hlx_2
              exact J_1880 ()  (by omega) (by omega) _ _ hP hS _ (lv_sub hl [0, 1, 2, 3] rfl)
            · have jc_2058 := dk_eqc (k := 0) (by decide +kernel) c_2058
              clear w_2056_1
              refine lv_aload_n hx hb dX12_goesOn_78 rfl (lv_at hl 3 rfl) ?_
              refine lv_bipush (v := 37) hx hb dX12_goesOn_79 (by decide +kernel) ?_
              refine dg_calli hS hA1 hA (va_runV (As := [.int 37]) (rest := []) F (c_m_isSign l g D o S_2 37 sg ((m_2.1 0 3 _ sM_0 (by decide)).trans f_sg) (by omega) va ((m_2.1 0 6 _ sM_0 (by decide)).trans f_va) (by omega) I_2 H.size) (cwV 1 hts (bw_V wB_1157 wB_1158 wB_1159 wB_881 wB_1156) rfl rfl rfl (by decide +kernel) ⟨Nat.le_of_ble_eq_true rfl, Nat.le_of_ble_eq_true rfl⟩) (dg_preV sM_0 rfl K ST hP hS hA1 hA) rfl rfl hl.1 rfl (lv_room (Nat.le_of_ble_eq_true rfl)) dX12_goesOn_81 ⟨Nat.le_of_ble_eq_true rfl, Nat.le_of_ble_eq_true rfl⟩) (fun x_2059 S_2060 hw_2060 H locs hP hS => ?_)
              rw [hw_2060.1] at hP
              obtain ⟨hq_2060, w_2060_0, w_2060_1, -⟩ := hw_2060
              have hz_2061 : (37 : Int32).toInt = 37 := by decide +kernel
              have w_2060_0 : 0 ≤ (x_2059).toInt ∧ (x_2059).toInt ≤ 1 := w_2060_0
              have w_2060_1 : (x_2059).toInt = 1 ↔ ((sg).toInt = 3 ∧ (va).toInt = ((37 : Int32)).toInt) := w_2060_1
              refine lv_if_eq (tgt := 188) hx hb dX12_goesOn_84 (by decide) (fun c_2062 => ?_) (fun c_2062 => ?_)
              · have jc_2062 := dk_eqc (k := 0) (by decide +kernel) c_2062
                clear w_2060_1
                exact J_417   _ _ hP hS _ (lv_sub hl [0, 1, 2, 3] rfl)
              · have jc_2062 := dk_neqc (k := 0) (by decide +kernel) c_2062
                have jbc_2062 : 1 ≤ (x_2059).toInt := by omega
                clear jc_2062
                have w_2060_1_r := w_2060_1.mp (by omega)
                obtain ⟨w_2060_1_r1, w_2060_1_r2⟩ := w_2060_1_r
                clear w_2060_1
                have hlx_2r := hlx_2 (by omega)
                clear hlx_2
                exact J_1880 ()  (by omega) (by omega) _ _ hP hS _ (lv_sub hl [0, 1, 2, 3] rfl)
  · have jc_4 := dk_nlec (k := 0) (by decide +kernel) c_4
    refine lv_iconst (v := 0) hx hb dX12_goesOn_11 (by decide +kernel) ?_
    have hz_2063 : (0 : Int32).toInt = 0 := by decide +kernel
    have hz_2064 : (0 : Int32).toInt = 0 := by decide +kernel
    have hz_2065 : (0 : Int32).toInt = 0 := by decide +kernel
    refine W.widen (k := 0) (n := 0) (Nat.le_of_ble_eq_true rfl) (Nat.le_of_ble_eq_true rfl) ?_
    rw [hQ9]
    exact dg_iret hx hb hr hlocks (by decide +kernel) hP hS ⟨I_2, M_2, (by decide +kernel), ⟨sg, sa, se, y_3, cd, dp, om, oo, ((m_2.1 0 3 _ sM_0 (by decide)).trans f_sg), ((m_2.1 0 4 _ sM_0 (by decide)).trans f_sa), ((m_2.1 0 5 _ sM_0 (by decide)).trans f_se), f_y_3, ((m_2.1 0 34 _ sM_0 (by decide)).trans f_cd), ((m_2.1 0 42 _ sM_0 (by decide)).trans f_dp), ((m_2.1 0 45 _ sM_0 (by decide)).trans f_om), ((m_2.1 0 46 _ sM_0 (by decide)).trans f_oo), (by omega)⟩, (fun k9 hk9 hk0 => by have q9 := (f_y_3).symm.trans hk9; cases q9; omega), (ZWM.keep ZW m_2 (by decide) (by decide) (by decide) (by decide)), trivial⟩ dX12_goesOn_12
