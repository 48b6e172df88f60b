/-! 45.g.lean.txt -/
theorem dX12_goesOn_0 : decode cX12_goesOn 0 = .ok (.aload_n 0, 1) := by decide +kernel
theorem dX12_goesOn_1 : decode cX12_goesOn 1 = .ok (.invokevirtual 266, 3) := by decide +kernel
theorem dX12_goesOn_4 : decode cX12_goesOn 4 = .ok (.aload_n 0, 1) := by decide +kernel
theorem dX12_goesOn_5 : decode cX12_goesOn 5 = .ok (.getfield 36, 3) := by decide +kernel
theorem dX12_goesOn_8 : decode cX12_goesOn 8 = .ok (.ifCond .le 5, 3) := by decide +kernel
theorem dX12_goesOn_11 : decode cX12_goesOn 11 = .ok (.iconst 0, 1) := by decide +kernel
theorem dX12_goesOn_12 : decode cX12_goesOn 12 = .ok (.ireturn, 1) := by decide +kernel
theorem dX12_goesOn_13 : decode cX12_goesOn 13 = .ok (.aload_n 0, 1) := by decide +kernel
theorem dX12_goesOn_14 : decode cX12_goesOn 14 = .ok (.getfield 140, 3) := by decide +kernel
theorem dX12_goesOn_17 : decode cX12_goesOn 17 = .ok (.iconst 1, 1) := by decide +kernel
theorem dX12_goesOn_18 : decode cX12_goesOn 18 = .ok (.isub, 1) := by decide +kernel
theorem dX12_goesOn_19 : decode cX12_goesOn 19 = .ok (.istore_n 1, 1) := by decide +kernel
theorem dX12_goesOn_20 : decode cX12_goesOn 20 = .ok (.aload_n 0, 1) := by decide +kernel
theorem dX12_goesOn_21 : decode cX12_goesOn 21 = .ok (.getfield 124, 3) := by decide +kernel
theorem dX12_goesOn_24 : decode cX12_goesOn 24 = .ok (.iload_n 1, 1) := by decide +kernel
theorem dX12_goesOn_25 : decode cX12_goesOn 25 = .ok (.iaload, 1) := by decide +kernel
theorem dX12_goesOn_26 : decode cX12_goesOn 26 = .ok (.istore_n 2, 1) := by decide +kernel
theorem dX12_goesOn_27 : decode cX12_goesOn 27 = .ok (.iload_n 2, 1) := by decide +kernel
theorem dX12_goesOn_28 : decode cX12_goesOn 28 = .ok (.invokestatic 346, 3) := by decide +kernel
theorem dX12_goesOn_31 : decode cX12_goesOn 31 = .ok (.istore_n 3, 1) := by decide +kernel
theorem dX12_goesOn_32 : decode cX12_goesOn 32 = .ok (.aload_n 0, 1) := by decide +kernel
theorem dX12_goesOn_33 : decode cX12_goesOn 33 = .ok (.getfield 127, 3) := by decide +kernel
theorem dX12_goesOn_36 : decode cX12_goesOn 36 = .ok (.iload_n 1, 1) := by decide +kernel
theorem dX12_goesOn_37 : decode cX12_goesOn 37 = .ok (.iaload, 1) := by decide +kernel
theorem dX12_goesOn_38 : decode cX12_goesOn 38 = .ok (.iconst 2, 1) := by decide +kernel
theorem dX12_goesOn_39 : decode cX12_goesOn 39 = .ok (.if_icmp .ge 149, 3) := by decide +kernel
theorem dX12_goesOn_42 : decode cX12_goesOn 42 = .ok (.aload_n 0, 1) := by decide +kernel
theorem dX12_goesOn_43 : decode cX12_goesOn 43 = .ok (.bipush 43, 2) := by decide +kernel
theorem dX12_goesOn_45 : decode cX12_goesOn 45 = .ok (.invokevirtual 269, 3) := by decide +kernel
theorem dX12_goesOn_48 : decode cX12_goesOn 48 = .ok (.ifCond .ne 39, 3) := by decide +kernel
theorem dX12_goesOn_51 : decode cX12_goesOn 51 = .ok (.aload_n 0, 1) := by decide +kernel
theorem dX12_goesOn_52 : decode cX12_goesOn 52 = .ok (.bipush 45, 2) := by decide +kernel
theorem dX12_goesOn_54 : decode cX12_goesOn 54 = .ok (.invokevirtual 269, 3) := by decide +kernel
theorem dX12_goesOn_57 : decode cX12_goesOn 57 = .ok (.ifCond .ne 30, 3) := by decide +kernel
theorem dX12_goesOn_60 : decode cX12_goesOn 60 = .ok (.aload_n 0, 1) := by decide +kernel
theorem dX12_goesOn_61 : decode cX12_goesOn 61 = .ok (.bipush 42, 2) := by decide +kernel
theorem dX12_goesOn_63 : decode cX12_goesOn 63 = .ok (.invokevirtual 269, 3) := by decide +kernel
theorem dX12_goesOn_66 : decode cX12_goesOn 66 = .ok (.ifCond .ne 21, 3) := by decide +kernel
theorem dX12_goesOn_69 : decode cX12_goesOn 69 = .ok (.aload_n 0, 1) := by decide +kernel
theorem dX12_goesOn_70 : decode cX12_goesOn 70 = .ok (.bipush 47, 2) := by decide +kernel
theorem dX12_goesOn_72 : decode cX12_goesOn 72 = .ok (.invokevirtual 269, 3) := by decide +kernel
theorem dX12_goesOn_75 : decode cX12_goesOn 75 = .ok (.ifCond .ne 12, 3) := by decide +kernel
theorem dX12_goesOn_78 : decode cX12_goesOn 78 = .ok (.aload_n 0, 1) := by decide +kernel
theorem dX12_goesOn_79 : decode cX12_goesOn 79 = .ok (.bipush 37, 2) := by decide +kernel
theorem dX12_goesOn_81 : decode cX12_goesOn 81 = .ok (.invokevirtual 269, 3) := by decide +kernel
theorem dX12_goesOn_84 : decode cX12_goesOn 84 = .ok (.ifCond .eq 104, 3) := by decide +kernel
theorem dX12_goesOn_87 : decode cX12_goesOn 87 = .ok (.aload_n 0, 1) := by decide +kernel
theorem dX12_goesOn_88 : decode cX12_goesOn 88 = .ok (.aload_n 0, 1) := by decide +kernel
theorem dX12_goesOn_89 : decode cX12_goesOn 89 = .ok (.bipush 43, 2) := by decide +kernel
theorem dX12_goesOn_91 : decode cX12_goesOn 91 = .ok (.invokevirtual 269, 3) := by decide +kernel
theorem dX12_goesOn_94 : decode cX12_goesOn 94 = .ok (.ifCond .ne 12, 3) := by decide +kernel
theorem dX12_goesOn_97 : decode cX12_goesOn 97 = .ok (.aload_n 0, 1) := by decide +kernel
theorem dX12_goesOn_98 : decode cX12_goesOn 98 = .ok (.bipush 45, 2) := by decide +kernel
theorem dX12_goesOn_100 : decode cX12_goesOn 100 = .ok (.invokevirtual 269, 3) := by decide +kernel
theorem dX12_goesOn_103 : decode cX12_goesOn 103 = .ok (.ifCond .eq 7, 3) := by decide +kernel
theorem dX12_goesOn_106 : decode cX12_goesOn 106 = .ok (.iconst 5, 1) := by decide +kernel
theorem dX12_goesOn_107 : decode cX12_goesOn 107 = .ok (.goto 5, 3) := by decide +kernel
theorem dX12_goesOn_110 : decode cX12_goesOn 110 = .ok (.bipush 6, 2) := by decide +kernel
theorem dX12_goesOn_112 : decode cX12_goesOn 112 = .ok (.invokevirtual 359, 3) := by decide +kernel
theorem dX12_goesOn_115 : decode cX12_goesOn 115 = .ok (.aload_n 0, 1) := by decide +kernel
theorem dX12_goesOn_116 : decode cX12_goesOn 116 = .ok (.aload_n 0, 1) := by decide +kernel
theorem dX12_goesOn_117 : decode cX12_goesOn 117 = .ok (.bipush 43, 2) := by decide +kernel
theorem dX12_goesOn_119 : decode cX12_goesOn 119 = .ok (.invokevirtual 269, 3) := by decide +kernel
theorem dX12_goesOn_122 : decode cX12_goesOn 122 = .ok (.ifCond .eq 8, 3) := by decide +kernel
theorem dX12_goesOn_125 : decode cX12_goesOn 125 = .ok (.bipush 31, 2) := by decide +kernel
theorem dX12_goesOn_127 : decode cX12_goesOn 127 = .ok (.goto 47, 3) := by decide +kernel
theorem dX12_goesOn_130 : decode cX12_goesOn 130 = .ok (.aload_n 0, 1) := by decide +kernel
theorem dX12_goesOn_131 : decode cX12_goesOn 131 = .ok (.bipush 45, 2) := by decide +kernel
theorem dX12_goesOn_133 : decode cX12_goesOn 133 = .ok (.invokevirtual 269, 3) := by decide +kernel
theorem dX12_goesOn_136 : decode cX12_goesOn 136 = .ok (.ifCond .eq 8, 3) := by decide +kernel
theorem dX12_goesOn_139 : decode cX12_goesOn 139 = .ok (.bipush 32, 2) := by decide +kernel
theorem dX12_goesOn_141 : decode cX12_goesOn 141 = .ok (.goto 33, 3) := by decide +kernel
theorem dX12_goesOn_144 : decode cX12_goesOn 144 = .ok (.aload_n 0, 1) := by decide +kernel
theorem dX12_goesOn_145 : decode cX12_goesOn 145 = .ok (.bipush 42, 2) := by decide +kernel
theorem dX12_goesOn_147 : decode cX12_goesOn 147 = .ok (.invokevirtual 269, 3) := by decide +kernel
theorem dX12_goesOn_150 : decode cX12_goesOn 150 = .ok (.ifCond .eq 8, 3) := by decide +kernel
theorem dX12_goesOn_153 : decode cX12_goesOn 153 = .ok (.bipush 33, 2) := by decide +kernel
theorem dX12_goesOn_155 : decode cX12_goesOn 155 = .ok (.goto 19, 3) := by decide +kernel
theorem dX12_goesOn_158 : decode cX12_goesOn 158 = .ok (.aload_n 0, 1) := by decide +kernel
theorem dX12_goesOn_159 : decode cX12_goesOn 159 = .ok (.bipush 47, 2) := by decide +kernel
theorem dX12_goesOn_161 : decode cX12_goesOn 161 = .ok (.invokevirtual 269, 3) := by decide +kernel
theorem dX12_goesOn_164 : decode cX12_goesOn 164 = .ok (.ifCond .eq 8, 3) := by decide +kernel
theorem dX12_goesOn_167 : decode cX12_goesOn 167 = .ok (.bipush 34, 2) := by decide +kernel
theorem dX12_goesOn_169 : decode cX12_goesOn 169 = .ok (.goto 5, 3) := by decide +kernel
theorem dX12_goesOn_172 : decode cX12_goesOn 172 = .ok (.bipush 35, 2) := by decide +kernel
theorem dX12_goesOn_174 : decode cX12_goesOn 174 = .ok (.invokevirtual 353, 3) := by decide +kernel
theorem dX12_goesOn_177 : decode cX12_goesOn 177 = .ok (.aload_n 0, 1) := by decide +kernel
theorem dX12_goesOn_178 : decode cX12_goesOn 178 = .ok (.invokevirtual 272, 3) := by decide +kernel
theorem dX12_goesOn_181 : decode cX12_goesOn 181 = .ok (.aload_n 0, 1) := by decide +kernel
theorem dX12_goesOn_182 : decode cX12_goesOn 182 = .ok (.iconst 0, 1) := by decide +kernel
theorem dX12_goesOn_183 : decode cX12_goesOn 183 = .ok (.putfield 152, 3) := by decide +kernel
theorem dX12_goesOn_186 : decode cX12_goesOn 186 = .ok (.iconst 1, 1) := by decide +kernel
theorem dX12_goesOn_187 : decode cX12_goesOn 187 = .ok (.ireturn, 1) := by decide +kernel
theorem dX12_goesOn_188 : decode cX12_goesOn 188 = .ok (.iload_n 3, 1) := by decide +kernel
theorem dX12_goesOn_189 : decode cX12_goesOn 189 = .ok (.ifCond .eq 96, 3) := by decide +kernel
theorem dX12_goesOn_192 : decode cX12_goesOn 192 = .ok (.aload_n 0, 1) := by decide +kernel
theorem dX12_goesOn_193 : decode cX12_goesOn 193 = .ok (.getfield 127, 3) := by decide +kernel
theorem dX12_goesOn_196 : decode cX12_goesOn 196 = .ok (.iload_n 1, 1) := by decide +kernel
theorem dX12_goesOn_197 : decode cX12_goesOn 197 = .ok (.iaload, 1) := by decide +kernel
theorem dX12_goesOn_198 : decode cX12_goesOn 198 = .ok (.ifCond .ne 87, 3) := by decide +kernel
theorem dX12_goesOn_201 : decode cX12_goesOn 201 = .ok (.aload_n 0, 1) := by decide +kernel
theorem dX12_goesOn_202 : decode cX12_goesOn 202 = .ok (.bipush 60, 2) := by decide +kernel
theorem dX12_goesOn_204 : decode cX12_goesOn 204 = .ok (.invokevirtual 269, 3) := by decide +kernel
theorem dX12_goesOn_207 : decode cX12_goesOn 207 = .ok (.ifCond .ne 21, 3) := by decide +kernel
theorem dX12_goesOn_210 : decode cX12_goesOn 210 = .ok (.aload_n 0, 1) := by decide +kernel
theorem dX12_goesOn_211 : decode cX12_goesOn 211 = .ok (.bipush 62, 2) := by decide +kernel
theorem dX12_goesOn_213 : decode cX12_goesOn 213 = .ok (.invokevirtual 269, 3) := by decide +kernel
theorem dX12_goesOn_216 : decode cX12_goesOn 216 = .ok (.ifCond .ne 12, 3) := by decide +kernel
theorem dX12_goesOn_219 : decode cX12_goesOn 219 = .ok (.aload_n 0, 1) := by decide +kernel
theorem dX12_goesOn_220 : decode cX12_goesOn 220 = .ok (.bipush 61, 2) := by decide +kernel
theorem dX12_goesOn_222 : decode cX12_goesOn 222 = .ok (.invokevirtual 269, 3) := by decide +kernel
theorem dX12_goesOn_225 : decode cX12_goesOn 225 = .ok (.ifCond .eq 60, 3) := by decide +kernel
theorem dX12_goesOn_228 : decode cX12_goesOn 228 = .ok (.aload_n 0, 1) := by decide +kernel
theorem dX12_goesOn_229 : decode cX12_goesOn 229 = .ok (.iconst 5, 1) := by decide +kernel
theorem dX12_goesOn_230 : decode cX12_goesOn 230 = .ok (.invokevirtual 359, 3) := by decide +kernel
theorem dX12_goesOn_233 : decode cX12_goesOn 233 = .ok (.aload_n 0, 1) := by decide +kernel
theorem dX12_goesOn_234 : decode cX12_goesOn 234 = .ok (.aload_n 0, 1) := by decide +kernel
theorem dX12_goesOn_235 : decode cX12_goesOn 235 = .ok (.bipush 60, 2) := by decide +kernel
theorem dX12_goesOn_237 : decode cX12_goesOn 237 = .ok (.invokevirtual 269, 3) := by decide +kernel
theorem dX12_goesOn_240 : decode cX12_goesOn 240 = .ok (.ifCond .eq 8, 3) := by decide +kernel
theorem dX12_goesOn_243 : decode cX12_goesOn 243 = .ok (.bipush 38, 2) := by decide +kernel
theorem dX12_goesOn_245 : decode cX12_goesOn 245 = .ok (.goto 19, 3) := by decide +kernel
theorem dX12_goesOn_248 : decode cX12_goesOn 248 = .ok (.aload_n 0, 1) := by decide +kernel
theorem dX12_goesOn_249 : decode cX12_goesOn 249 = .ok (.bipush 62, 2) := by decide +kernel
theorem dX12_goesOn_251 : decode cX12_goesOn 251 = .ok (.invokevirtual 269, 3) := by decide +kernel
theorem dX12_goesOn_254 : decode cX12_goesOn 254 = .ok (.ifCond .eq 8, 3) := by decide +kernel
theorem dX12_goesOn_257 : decode cX12_goesOn 257 = .ok (.bipush 39, 2) := by decide +kernel
theorem dX12_goesOn_259 : decode cX12_goesOn 259 = .ok (.goto 5, 3) := by decide +kernel
theorem dX12_goesOn_262 : decode cX12_goesOn 262 = .ok (.bipush 40, 2) := by decide +kernel
theorem dX12_goesOn_264 : decode cX12_goesOn 264 = .ok (.invokevirtual 353, 3) := by decide +kernel
theorem dX12_goesOn_267 : decode cX12_goesOn 267 = .ok (.aload_n 0, 1) := by decide +kernel
theorem dX12_goesOn_268 : decode cX12_goesOn 268 = .ok (.getfield 127, 3) := by decide +kernel
theorem dX12_goesOn_271 : decode cX12_goesOn 271 = .ok (.iload_n 1, 1) := by decide +kernel
theorem dX12_goesOn_272 : decode cX12_goesOn 272 = .ok (.iconst 1, 1) := by decide +kernel
theorem dX12_goesOn_273 : decode cX12_goesOn 273 = .ok (.iastore, 1) := by decide +kernel
theorem dX12_goesOn_274 : decode cX12_goesOn 274 = .ok (.aload_n 0, 1) := by decide +kernel
theorem dX12_goesOn_275 : decode cX12_goesOn 275 = .ok (.invokevirtual 272, 3) := by decide +kernel
theorem dX12_goesOn_278 : decode cX12_goesOn 278 = .ok (.aload_n 0, 1) := by decide +kernel
theorem dX12_goesOn_279 : decode cX12_goesOn 279 = .ok (.iconst 0, 1) := by decide +kernel
theorem dX12_goesOn_280 : decode cX12_goesOn 280 = .ok (.putfield 152, 3) := by decide +kernel
theorem dX12_goesOn_283 : decode cX12_goesOn 283 = .ok (.iconst 1, 1) := by decide +kernel
theorem dX12_goesOn_284 : decode cX12_goesOn 284 = .ok (.ireturn, 1) := by decide +kernel
theorem dX12_goesOn_285 : decode cX12_goesOn 285 = .ok (.iload_n 3, 1) := by decide +kernel
theorem dX12_goesOn_286 : decode cX12_goesOn 286 = .ok (.ifCond .eq 114, 3) := by decide +kernel
theorem dX12_goesOn_289 : decode cX12_goesOn 289 = .ok (.aload_n 0, 1) := by decide +kernel
theorem dX12_goesOn_290 : decode cX12_goesOn 290 = .ok (.ldc2_w 319, 3) := by decide +kernel
theorem dX12_goesOn_293 : decode cX12_goesOn 293 = .ok (.invokevirtual 349, 3) := by decide +kernel
theorem dX12_goesOn_296 : decode cX12_goesOn 296 = .ok (.ifCond .ne 13, 3) := by decide +kernel
theorem dX12_goesOn_299 : decode cX12_goesOn 299 = .ok (.aload_n 0, 1) := by decide +kernel
theorem dX12_goesOn_300 : decode cX12_goesOn 300 = .ok (.ldc2_w 317, 3) := by decide +kernel
theorem dX12_goesOn_303 : decode cX12_goesOn 303 = .ok (.invokevirtual 349, 3) := by decide +kernel
theorem dX12_goesOn_306 : decode cX12_goesOn 306 = .ok (.ifCond .eq 94, 3) := by decide +kernel
theorem dX12_goesOn_309 : decode cX12_goesOn 309 = .ok (.aload_n 0, 1) := by decide +kernel
theorem dX12_goesOn_310 : decode cX12_goesOn 310 = .ok (.getfield 127, 3) := by decide +kernel
theorem dX12_goesOn_313 : decode cX12_goesOn 313 = .ok (.iload_n 1, 1) := by decide +kernel
theorem dX12_goesOn_314 : decode cX12_goesOn 314 = .ok (.iaload, 1) := by decide +kernel
theorem dX12_goesOn_315 : decode cX12_goesOn 315 = .ok (.ifCond .ne 12, 3) := by decide +kernel
theorem dX12_goesOn_318 : decode cX12_goesOn 318 = .ok (.aload_n 0, 1) := by decide +kernel
theorem dX12_goesOn_319 : decode cX12_goesOn 319 = .ok (.iconst 1, 1) := by decide +kernel
theorem dX12_goesOn_320 : decode cX12_goesOn 320 = .ok (.aload_n 0, 1) := by decide +kernel
theorem dX12_goesOn_321 : decode cX12_goesOn 321 = .ok (.getfield 23, 3) := by decide +kernel
theorem dX12_goesOn_324 : decode cX12_goesOn 324 = .ok (.invokevirtual 255, 3) := by decide +kernel
theorem dX12_goesOn_327 : decode cX12_goesOn 327 = .ok (.aload_n 0, 1) := by decide +kernel
theorem dX12_goesOn_328 : decode cX12_goesOn 328 = .ok (.getfield 36, 3) := by decide +kernel
theorem dX12_goesOn_331 : decode cX12_goesOn 331 = .ok (.ifCond .le 5, 3) := by decide +kernel
theorem dX12_goesOn_334 : decode cX12_goesOn 334 = .ok (.iconst 0, 1) := by decide +kernel
theorem dX12_goesOn_335 : decode cX12_goesOn 335 = .ok (.ireturn, 1) := by decide +kernel
theorem dX12_goesOn_336 : decode cX12_goesOn 336 = .ok (.aload_n 0, 1) := by decide +kernel
theorem dX12_goesOn_337 : decode cX12_goesOn 337 = .ok (.ldc2_w 319, 3) := by decide +kernel
theorem dX12_goesOn_340 : decode cX12_goesOn 340 = .ok (.invokevirtual 349, 3) := by decide +kernel
theorem dX12_goesOn_343 : decode cX12_goesOn 343 = .ok (.istore 4, 2) := by decide +kernel
theorem dX12_goesOn_345 : decode cX12_goesOn 345 = .ok (.aload_n 0, 1) := by decide +kernel
theorem dX12_goesOn_346 : decode cX12_goesOn 346 = .ok (.iload 4, 2) := by decide +kernel
theorem dX12_goesOn_348 : decode cX12_goesOn 348 = .ok (.ifCond .eq 7, 3) := by decide +kernel
theorem dX12_goesOn_351 : decode cX12_goesOn 351 = .ok (.iconst 2, 1) := by decide +kernel
theorem dX12_goesOn_352 : decode cX12_goesOn 352 = .ok (.goto 4, 3) := by decide +kernel
theorem dX12_goesOn_355 : decode cX12_goesOn 355 = .ok (.iconst 1, 1) := by decide +kernel
theorem dX12_goesOn_356 : decode cX12_goesOn 356 = .ok (.invokevirtual 359, 3) := by decide +kernel
theorem dX12_goesOn_359 : decode cX12_goesOn 359 = .ok (.aload_n 0, 1) := by decide +kernel
theorem dX12_goesOn_360 : decode cX12_goesOn 360 = .ok (.iload 4, 2) := by decide +kernel
theorem dX12_goesOn_362 : decode cX12_goesOn 362 = .ok (.ifCond .eq 8, 3) := by decide +kernel
theorem dX12_goesOn_365 : decode cX12_goesOn 365 = .ok (.bipush 41, 2) := by decide +kernel
theorem dX12_goesOn_367 : decode cX12_goesOn 367 = .ok (.goto 5, 3) := by decide +kernel
theorem dX12_goesOn_370 : decode cX12_goesOn 370 = .ok (.bipush 42, 2) := by decide +kernel
theorem dX12_goesOn_372 : decode cX12_goesOn 372 = .ok (.invokevirtual 353, 3) := by decide +kernel
theorem dX12_goesOn_375 : decode cX12_goesOn 375 = .ok (.aload_n 0, 1) := by decide +kernel
theorem dX12_goesOn_376 : decode cX12_goesOn 376 = .ok (.getfield 127, 3) := by decide +kernel
theorem dX12_goesOn_379 : decode cX12_goesOn 379 = .ok (.iload_n 1, 1) := by decide +kernel
theorem dX12_goesOn_380 : decode cX12_goesOn 380 = .ok (.iconst 0, 1) := by decide +kernel
theorem dX12_goesOn_381 : decode cX12_goesOn 381 = .ok (.iastore, 1) := by decide +kernel
theorem dX12_goesOn_382 : decode cX12_goesOn 382 = .ok (.aload_n 0, 1) := by decide +kernel
theorem dX12_goesOn_383 : decode cX12_goesOn 383 = .ok (.getfield 130, 3) := by decide +kernel
theorem dX12_goesOn_386 : decode cX12_goesOn 386 = .ok (.iload_n 1, 1) := by decide +kernel
theorem dX12_goesOn_387 : decode cX12_goesOn 387 = .ok (.iconst 1, 1) := by decide +kernel
theorem dX12_goesOn_388 : decode cX12_goesOn 388 = .ok (.bastore, 1) := by decide +kernel
theorem dX12_goesOn_389 : decode cX12_goesOn 389 = .ok (.aload_n 0, 1) := by decide +kernel
theorem dX12_goesOn_390 : decode cX12_goesOn 390 = .ok (.invokevirtual 272, 3) := by decide +kernel
theorem dX12_goesOn_393 : decode cX12_goesOn 393 = .ok (.aload_n 0, 1) := by decide +kernel
theorem dX12_goesOn_394 : decode cX12_goesOn 394 = .ok (.iconst 0, 1) := by decide +kernel
theorem dX12_goesOn_395 : decode cX12_goesOn 395 = .ok (.putfield 152, 3) := by decide +kernel
theorem dX12_goesOn_398 : decode cX12_goesOn 398 = .ok (.iconst 1, 1) := by decide +kernel
theorem dX12_goesOn_399 : decode cX12_goesOn 399 = .ok (.ireturn, 1) := by decide +kernel
theorem dX12_goesOn_400 : decode cX12_goesOn 400 = .ok (.iload_n 3, 1) := by decide +kernel
theorem dX12_goesOn_401 : decode cX12_goesOn 401 = .ok (.ifCond .eq 21, 3) := by decide +kernel
theorem dX12_goesOn_404 : decode cX12_goesOn 404 = .ok (.aload_n 0, 1) := by decide +kernel
theorem dX12_goesOn_405 : decode cX12_goesOn 405 = .ok (.getfield 127, 3) := by decide +kernel
theorem dX12_goesOn_408 : decode cX12_goesOn 408 = .ok (.iload_n 1, 1) := by decide +kernel
theorem dX12_goesOn_409 : decode cX12_goesOn 409 = .ok (.iaload, 1) := by decide +kernel
theorem dX12_goesOn_410 : decode cX12_goesOn 410 = .ok (.ifCond .ne 12, 3) := by decide +kernel
theorem dX12_goesOn_413 : decode cX12_goesOn 413 = .ok (.aload_n 0, 1) := by decide +kernel
theorem dX12_goesOn_414 : decode cX12_goesOn 414 = .ok (.iconst 1, 1) := by decide +kernel
theorem dX12_goesOn_415 : decode cX12_goesOn 415 = .ok (.aload_n 0, 1) := by decide +kernel
theorem dX12_goesOn_416 : decode cX12_goesOn 416 = .ok (.getfield 23, 3) := by decide +kernel
theorem dX12_goesOn_419 : decode cX12_goesOn 419 = .ok (.invokevirtual 255, 3) := by decide +kernel
theorem dX12_goesOn_422 : decode cX12_goesOn 422 = .ok (.iload_n 2, 1) := by decide +kernel
theorem dX12_goesOn_423 : decode cX12_goesOn 423 = .ok (.iconst 2, 1) := by decide +kernel
theorem dX12_goesOn_424 : decode cX12_goesOn 424 = .ok (.if_icmp .ge 17, 3) := by decide +kernel
theorem dX12_goesOn_427 : decode cX12_goesOn 427 = .ok (.aload_n 0, 1) := by decide +kernel
theorem dX12_goesOn_428 : decode cX12_goesOn 428 = .ok (.getfield 36, 3) := by decide +kernel
theorem dX12_goesOn_431 : decode cX12_goesOn 431 = .ok (.ifCond .ne 8, 3) := by decide +kernel
theorem dX12_goesOn_434 : decode cX12_goesOn 434 = .ok (.aload_n 0, 1) := by decide +kernel
theorem dX12_goesOn_435 : decode cX12_goesOn 435 = .ok (.iconst 1, 1) := by decide +kernel
theorem dX12_goesOn_436 : decode cX12_goesOn 436 = .ok (.invokevirtual 359, 3) := by decide +kernel
theorem dX12_goesOn_439 : decode cX12_goesOn 439 = .ok (.iconst 0, 1) := by decide +kernel
theorem dX12_goesOn_440 : decode cX12_goesOn 440 = .ok (.ireturn, 1) := by decide +kernel
theorem dX12_goesOn_441 : decode cX12_goesOn 441 = .ok (.iload_n 2, 1) := by decide +kernel
theorem dX12_goesOn_442 : decode cX12_goesOn 442 = .ok (.iconst 3, 1) := by decide +kernel
theorem dX12_goesOn_443 : decode cX12_goesOn 443 = .ok (.if_icmp .eq 9, 3) := by decide +kernel
theorem dX12_goesOn_446 : decode cX12_goesOn 446 = .ok (.iload_n 2, 1) := by decide +kernel
theorem dX12_goesOn_447 : decode cX12_goesOn 447 = .ok (.bipush 6, 2) := by decide +kernel
theorem dX12_goesOn_449 : decode cX12_goesOn 449 = .ok (.if_icmp .ne 69, 3) := by decide +kernel
theorem dX12_goesOn_452 : decode cX12_goesOn 452 = .ok (.aload_n 0, 1) := by decide +kernel
theorem dX12_goesOn_453 : decode cX12_goesOn 453 = .ok (.bipush 44, 2) := by decide +kernel
theorem dX12_goesOn_455 : decode cX12_goesOn 455 = .ok (.invokevirtual 269, 3) := by decide +kernel
theorem dX12_goesOn_458 : decode cX12_goesOn 458 = .ok (.ifCond .ne 12, 3) := by decide +kernel
theorem dX12_goesOn_461 : decode cX12_goesOn 461 = .ok (.aload_n 0, 1) := by decide +kernel
theorem dX12_goesOn_462 : decode cX12_goesOn 462 = .ok (.iconst 1, 1) := by decide +kernel
theorem dX12_goesOn_463 : decode cX12_goesOn 463 = .ok (.aload_n 0, 1) := by decide +kernel
theorem dX12_goesOn_464 : decode cX12_goesOn 464 = .ok (.getfield 23, 3) := by decide +kernel
theorem dX12_goesOn_467 : decode cX12_goesOn 467 = .ok (.invokevirtual 255, 3) := by decide +kernel
theorem dX12_goesOn_470 : decode cX12_goesOn 470 = .ok (.aload_n 0, 1) := by decide +kernel
theorem dX12_goesOn_471 : decode cX12_goesOn 471 = .ok (.getfield 36, 3) := by decide +kernel
theorem dX12_goesOn_474 : decode cX12_goesOn 474 = .ok (.ifCond .le 5, 3) := by decide +kernel
theorem dX12_goesOn_477 : decode cX12_goesOn 477 = .ok (.iconst 0, 1) := by decide +kernel
theorem dX12_goesOn_478 : decode cX12_goesOn 478 = .ok (.ireturn, 1) := by decide +kernel
theorem dX12_goesOn_479 : decode cX12_goesOn 479 = .ok (.aload_n 0, 1) := by decide +kernel
theorem dX12_goesOn_480 : decode cX12_goesOn 480 = .ok (.iconst 1, 1) := by decide +kernel
theorem dX12_goesOn_481 : decode cX12_goesOn 481 = .ok (.invokevirtual 359, 3) := by decide +kernel
theorem dX12_goesOn_484 : decode cX12_goesOn 484 = .ok (.aload_n 0, 1) := by decide +kernel
theorem dX12_goesOn_485 : decode cX12_goesOn 485 = .ok (.getfield 124, 3) := by decide +kernel
theorem dX12_goesOn_488 : decode cX12_goesOn 488 = .ok (.iload_n 1, 1) := by decide +kernel
theorem dX12_goesOn_489 : decode cX12_goesOn 489 = .ok (.iload_n 2, 1) := by decide +kernel
theorem dX12_goesOn_490 : decode cX12_goesOn 490 = .ok (.iconst 3, 1) := by decide +kernel
theorem dX12_goesOn_491 : decode cX12_goesOn 491 = .ok (.if_icmp .ne 7, 3) := by decide +kernel
theorem dX12_goesOn_494 : decode cX12_goesOn 494 = .ok (.iconst 4, 1) := by decide +kernel
theorem dX12_goesOn_495 : decode cX12_goesOn 495 = .ok (.goto 4, 3) := by decide +kernel
theorem dX12_goesOn_498 : decode cX12_goesOn 498 = .ok (.iconst 3, 1) := by decide +kernel
theorem dX12_goesOn_499 : decode cX12_goesOn 499 = .ok (.iastore, 1) := by decide +kernel
theorem dX12_goesOn_500 : decode cX12_goesOn 500 = .ok (.aload_n 0, 1) := by decide +kernel
theorem dX12_goesOn_501 : decode cX12_goesOn 501 = .ok (.getfield 127, 3) := by decide +kernel
theorem dX12_goesOn_504 : decode cX12_goesOn 504 = .ok (.iload_n 1, 1) := by decide +kernel
theorem dX12_goesOn_505 : decode cX12_goesOn 505 = .ok (.iconst 0, 1) := by decide +kernel
theorem dX12_goesOn_506 : decode cX12_goesOn 506 = .ok (.iastore, 1) := by decide +kernel
theorem dX12_goesOn_507 : decode cX12_goesOn 507 = .ok (.aload_n 0, 1) := by decide +kernel
theorem dX12_goesOn_508 : decode cX12_goesOn 508 = .ok (.invokevirtual 272, 3) := by decide +kernel
theorem dX12_goesOn_511 : decode cX12_goesOn 511 = .ok (.aload_n 0, 1) := by decide +kernel
theorem dX12_goesOn_512 : decode cX12_goesOn 512 = .ok (.iconst 0, 1) := by decide +kernel
theorem dX12_goesOn_513 : decode cX12_goesOn 513 = .ok (.putfield 152, 3) := by decide +kernel
theorem dX12_goesOn_516 : decode cX12_goesOn 516 = .ok (.iconst 1, 1) := by decide +kernel
theorem dX12_goesOn_517 : decode cX12_goesOn 517 = .ok (.ireturn, 1) := by decide +kernel
theorem dX12_goesOn_518 : decode cX12_goesOn 518 = .ok (.aload_n 0, 1) := by decide +kernel
theorem dX12_goesOn_519 : decode cX12_goesOn 519 = .ok (.iload_n 2, 1) := by decide +kernel
theorem dX12_goesOn_520 : decode cX12_goesOn 520 = .ok (.iconst 5, 1) := by decide +kernel
theorem dX12_goesOn_521 : decode cX12_goesOn 521 = .ok (.if_icmp .ne 8, 3) := by decide +kernel
theorem dX12_goesOn_524 : decode cX12_goesOn 524 = .ok (.bipush 93, 2) := by decide +kernel
theorem dX12_goesOn_526 : decode cX12_goesOn 526 = .ok (.goto 5, 3) := by decide +kernel
theorem dX12_goesOn_529 : decode cX12_goesOn 529 = .ok (.bipush 41, 2) := by decide +kernel
theorem dX12_goesOn_531 : decode cX12_goesOn 531 = .ok (.invokevirtual 269, 3) := by decide +kernel
theorem dX12_goesOn_534 : decode cX12_goesOn 534 = .ok (.ifCond .ne 12, 3) := by decide +kernel
theorem dX12_goesOn_537 : decode cX12_goesOn 537 = .ok (.aload_n 0, 1) := by decide +kernel
theorem dX12_goesOn_538 : decode cX12_goesOn 538 = .ok (.iconst 1, 1) := by decide +kernel
theorem dX12_goesOn_539 : decode cX12_goesOn 539 = .ok (.aload_n 0, 1) := by decide +kernel
theorem dX12_goesOn_540 : decode cX12_goesOn 540 = .ok (.getfield 23, 3) := by decide +kernel
theorem dX12_goesOn_543 : decode cX12_goesOn 543 = .ok (.invokevirtual 255, 3) := by decide +kernel
theorem dX12_goesOn_546 : decode cX12_goesOn 546 = .ok (.aload_n 0, 1) := by decide +kernel
theorem dX12_goesOn_547 : decode cX12_goesOn 547 = .ok (.getfield 36, 3) := by decide +kernel
theorem dX12_goesOn_550 : decode cX12_goesOn 550 = .ok (.ifCond .le 5, 3) := by decide +kernel
theorem dX12_goesOn_553 : decode cX12_goesOn 553 = .ok (.iconst 0, 1) := by decide +kernel
theorem dX12_goesOn_554 : decode cX12_goesOn 554 = .ok (.ireturn, 1) := by decide +kernel
theorem dX12_goesOn_555 : decode cX12_goesOn 555 = .ok (.aload_n 0, 1) := by decide +kernel
theorem dX12_goesOn_556 : decode cX12_goesOn 556 = .ok (.iconst 1, 1) := by decide +kernel
theorem dX12_goesOn_557 : decode cX12_goesOn 557 = .ok (.invokevirtual 359, 3) := by decide +kernel
theorem dX12_goesOn_560 : decode cX12_goesOn 560 = .ok (.aload_n 0, 1) := by decide +kernel
theorem dX12_goesOn_561 : decode cX12_goesOn 561 = .ok (.dup, 1) := by decide +kernel
theorem dX12_goesOn_562 : decode cX12_goesOn 562 = .ok (.getfield 140, 3) := by decide +kernel
theorem dX12_goesOn_565 : decode cX12_goesOn 565 = .ok (.iconst 1, 1) := by decide +kernel
theorem dX12_goesOn_566 : decode cX12_goesOn 566 = .ok (.isub, 1) := by decide +kernel
theorem dX12_goesOn_567 : decode cX12_goesOn 567 = .ok (.putfield 140, 3) := by decide +kernel
theorem dX12_goesOn_570 : decode cX12_goesOn 570 = .ok (.aload_n 0, 1) := by decide +kernel
theorem dX12_goesOn_571 : decode cX12_goesOn 571 = .ok (.dup, 1) := by decide +kernel
theorem dX12_goesOn_572 : decode cX12_goesOn 572 = .ok (.getfield 143, 3) := by decide +kernel
theorem dX12_goesOn_575 : decode cX12_goesOn 575 = .ok (.iconst 1, 1) := by decide +kernel
theorem dX12_goesOn_576 : decode cX12_goesOn 576 = .ok (.isub, 1) := by decide +kernel
theorem dX12_goesOn_577 : decode cX12_goesOn 577 = .ok (.putfield 143, 3) := by decide +kernel
theorem dX12_goesOn_580 : decode cX12_goesOn 580 = .ok (.iload_n 2, 1) := by decide +kernel
theorem dX12_goesOn_581 : decode cX12_goesOn 581 = .ok (.iconst 4, 1) := by decide +kernel
theorem dX12_goesOn_582 : decode cX12_goesOn 582 = .ok (.if_icmp .ne 14, 3) := by decide +kernel
theorem dX12_goesOn_585 : decode cX12_goesOn 585 = .ok (.aload_n 0, 1) := by decide +kernel
theorem dX12_goesOn_586 : decode cX12_goesOn 586 = .ok (.aload_n 0, 1) := by decide +kernel
theorem dX12_goesOn_587 : decode cX12_goesOn 587 = .ok (.getfield 134, 3) := by decide +kernel
theorem dX12_goesOn_590 : decode cX12_goesOn 590 = .ok (.iload_n 1, 1) := by decide +kernel
theorem dX12_goesOn_591 : decode cX12_goesOn 591 = .ok (.iaload, 1) := by decide +kernel
theorem dX12_goesOn_592 : decode cX12_goesOn 592 = .ok (.iconst 0, 1) := by decide +kernel
theorem dX12_goesOn_593 : decode cX12_goesOn 593 = .ok (.invokevirtual 340, 3) := by decide +kernel
theorem dX12_goesOn_596 : decode cX12_goesOn 596 = .ok (.iload_n 2, 1) := by decide +kernel
theorem dX12_goesOn_597 : decode cX12_goesOn 597 = .ok (.iconst 5, 1) := by decide +kernel
theorem dX12_goesOn_598 : decode cX12_goesOn 598 = .ok (.if_icmp .ne 15, 3) := by decide +kernel
theorem dX12_goesOn_601 : decode cX12_goesOn 601 = .ok (.aload_n 0, 1) := by decide +kernel
theorem dX12_goesOn_602 : decode cX12_goesOn 602 = .ok (.getfield 127, 3) := by decide +kernel
theorem dX12_goesOn_605 : decode cX12_goesOn 605 = .ok (.aload_n 0, 1) := by decide +kernel
theorem dX12_goesOn_606 : decode cX12_goesOn 606 = .ok (.getfield 140, 3) := by decide +kernel
theorem dX12_goesOn_609 : decode cX12_goesOn 609 = .ok (.iconst 1, 1) := by decide +kernel
theorem dX12_goesOn_610 : decode cX12_goesOn 610 = .ok (.isub, 1) := by decide +kernel
theorem dX12_goesOn_611 : decode cX12_goesOn 611 = .ok (.iconst 2, 1) := by decide +kernel
theorem dX12_goesOn_612 : decode cX12_goesOn 612 = .ok (.iastore, 1) := by decide +kernel
theorem dX12_goesOn_613 : decode cX12_goesOn 613 = .ok (.aload_n 0, 1) := by decide +kernel
theorem dX12_goesOn_614 : decode cX12_goesOn 614 = .ok (.invokevirtual 272, 3) := by decide +kernel
theorem dX12_goesOn_617 : decode cX12_goesOn 617 = .ok (.iconst 1, 1) := by decide +kernel
theorem dX12_goesOn_618 : decode cX12_goesOn 618 = .ok (.ireturn, 1) := by decide +kernel
theorem wB_1233 : Cond.code yX12_joins cX12_joins 2 none ∈ dgB := List.mem_filter.mpr ⟨tbl_8 _ (List.mem_of_getElem? (i := 99) rfl), rfl⟩
theorem wB_1234 : Cond.methodLink RX12 359 yX12_joins ∈ dgB := List.mem_filter.mpr ⟨tbl_8 _ (List.mem_of_getElem? (i := 96) (by decide +kernel)), by decide +kernel⟩
theorem wB_1235 : Cond.instanceMethod yX12_joins ∈ dgB := List.mem_filter.mpr ⟨tbl_8 _ (List.mem_of_getElem? (i := 98) (by decide +kernel)), by decide +kernel⟩
theorem wB_1236 : Cond.selects RX12 yX12_joins yX12_joins ∈ dgB := List.mem_filter.mpr ⟨List.mem_of_getElem? (i := 113) (by decide +kernel), by decide +kernel⟩
theorem wB_1237 : Cond.fieldLink RX12 152 "DarkMineModel" "operand" "Z" ∈ dgB := List.mem_filter.mpr ⟨tbl_6 _ (List.mem_of_getElem? (i := 209) (by decide +kernel)), by decide +kernel⟩
set_option maxHeartbeats 8000000 in
set_option maxRecDepth 100000 in
theorem c_m_goesOn (l : Launch) (g : Nat → ClassId) (D : va_G) (o : Nat) (S : dg_S) (sg : Int32) (f_sg : S.1 0 3 = .int sg) (b_sg : 0 ≤ (sg).toInt ∧ (sg).toInt ≤ 3) (sa : Int32) (f_sa : S.1 0 4 = .int sa) (b_sa : 0 ≤ (sa).toInt ∧ (sa).toInt ≤ 1600) (se : Int32) (f_se : S.1 0 5 = .int se) (b_se : 0 ≤ (se).toInt ∧ (se).toInt ≤ 1600) (sl : Int32) (f_sl : S.1 0 2 = .int sl) (b_sl : 0 ≤ (sl).toInt ∧ (sl).toInt ≤ 1600) (fk : Int32) (f_fk : S.1 0 8 = .int fk) (b_fk : 0 ≤ (fk).toInt ∧ (fk).toInt ≤ 6) (va : Int32) (f_va : S.1 0 6 = .int va) (b_va : 0 ≤ (va).toInt ∧ (va).toInt ≤ 9999) (cd : Int32) (f_cd : S.1 0 34 = .int cd) (b_cd : 0 ≤ (cd).toInt ∧ (cd).toInt ≤ 1600) (dp : Int32) (f_dp : S.1 0 42 = .int dp) (b_dp : 0 ≤ (dp).toInt ∧ (dp).toInt ≤ 20) (on : Int32) (f_on : S.1 0 43 = .int on) (om : Int32) (f_om : S.1 0 45 = .int om) (b_om : 0 ≤ (om).toInt ∧ (om).toInt ≤ 500) (oo : Int32) (f_oo : S.1 0 46 = .int oo) (b_oo : 1 ≤ (oo).toInt ∧ (oo).toInt ≤ 1) (hlx : (sa).toInt ≤ (se).toInt ∧ (se).toInt ≤ (sl).toInt ∧ ((sg).toInt ≠ 0 → (sa).toInt + 1 ≤ (se).toInt)) (hro : (cd).toInt + (om).toInt + (dp).toInt ≤ (sa).toInt) (ZW : ZWM S) (ZK : ZKM S) (P1 : P1M S) (I : CM o S) (sz : Nat) : Met l yX12_goesOn (bw yX12_goesOn cX12_goesOn 5 (some .boolean)) ({ frames := 3, cells := 0, slots := 0, locals := 77 } : Room) (dk_Pc g D (dg_w g shM o rfM S) sz [.ref (o + 0)]) (va_Qi (fun (r : Int32) S' => CM o S' ∧ dg_sm shM [(0, 3), (0, 4), (0, 5), (0, 6), (0, 7), (0, 8), (0, 9), (0, 12), (0, 34), (0, 42), (0, 43), (0, 45), (0, 46)] [18, 19, 22, 23, 24, 27] S S' ∧ (0 ≤ (r).toInt ∧ (r).toInt ≤ 1) ∧ (∃ y9_3 y9_4 y9_5 y9_8 y9_34 y9_42 y9_45 y9_46 : Int32, S'.1 0 3 = .int y9_3 ∧ S'.1 0 4 = .int y9_4 ∧ S'.1 0 5 = .int y9_5 ∧ S'.1 0 8 = .int y9_8 ∧ S'.1 0 34 = .int y9_34 ∧ S'.1 0 42 = .int y9_42 ∧ S'.1 0 45 = .int y9_45 ∧ S'.1 0 46 = .int y9_46 ∧ (((y9_4).toInt ≤ (y9_5).toInt ∧ (y9_5).toInt ≤ (sl).toInt ∧ ((y9_3).toInt ≠ 0 → (y9_4).toInt + 1 ≤ (y9_5).toInt)) ∧ (sa).toInt ≤ (y9_4).toInt ∧ ((fk).toInt ≠ 0 → (y9_8).toInt ≠ 0) ∧ (((y9_8).toInt = 0 → (r).toInt = 1 → (sa).toInt + 1 ≤ (y9_4).toInt) ∧ ((y9_8).toInt = 0 → (y9_34).toInt + (y9_45).toInt + (y9_42).toInt ≤ (y9_4).toInt)))) ∧ (∀ k9 : Int32, S'.1 0 8 = .int k9 → k9.toInt = 0 → POM S') ∧ ZWM S' ∧ True) (dg_B g D shM o rfM) (dg_A o shM.length sz)) 0 0 (dg_A o shM.length sz) := by
  refine dg_met (cc := cX12_goesOn) (maxL := 5) (ret := (some .boolean)) (by decide) rfl (Nat.le_of_ble_eq_true rfl) ?_
  intro p e s m args below meth c A hAe harg hx hb hr hml hts hown hlocks hin hP K hS hA1 hA ST hsz ls hl
  rw [← hAe]
  have F : CallFix p m c cX12_goesOn 5 s args (bw yX12_goesOn cX12_goesOn 5 (some .boolean)) RX12 := ⟨hx, hb, hml, hown, hts⟩
  have hl : lv_has ls 5 [(0, .ref (o + 0))] := hl
  have M_0 : dg_sm shM [(0, 3), (0, 4), (0, 5), (0, 6), (0, 7), (0, 8), (0, 9), (0, 12), (0, 34), (0, 42), (0, 43), (0, 45), (0, 46)] [18, 19, 22, 23, 24, 27] S S := dg_sm.rf
  have hdm_0 := PSM.dims P1 f_dp f_on f_om
  refine lv_aload_n hx hb dX12_goesOn_0 rfl (lv_at hl 0 rfl) ?_
  refine dg_callv hS hA1 hA (va_runV (As := []) (rest := []) F (c_m_lex l g D o S fk f_fk (by omega) I s.heap.size) (cwV 0 hts (bw_V wB_1153 wB_1154 wB_1155 wB_881 wB_1152) rfl rfl rfl (by decide +kernel) ⟨Nat.le_of_ble_eq_true rfl, Nat.le_of_ble_eq_true rfl⟩) (dg_preV sM_0 rfl K ST hP hS hA1 hA) rfl rfl hl.1 rfl (lv_room (Nat.le_of_ble_eq_true rfl)) dX12_goesOn_1 ⟨Nat.le_of_ble_eq_true rfl, Nat.le_of_ble_eq_true rfl⟩) (fun S_2 hw_2 H locs hP hS => ?_)
  obtain ⟨I_2, m_2, w_2_0, -⟩ := hw_2
  have M_2 := dg_sm.tr M_0 m_2 (by decide) (by decide)
  obtain ⟨y_3, f_y_3, w_2_0⟩ := w_2_0
  have w_2_0 : (fk).toInt ≠ 0 → (y_3).toInt = (fk).toInt := w_2_0
  have b_y_3 : 0 ≤ (y_3).toInt ∧ (y_3).toInt ≤ 6 := dg_I.intb (lo := 0) (hi := 6) I_2 sM_0 (by decide +kernel) f_y_3
  refine lv_aload_n hx hb dX12_goesOn_4 rfl (lv_at hl 0 rfl) ?_
  refine dg_get (C := RX12) (T := TX12) (N := 77) hx hb hts (fun w h => bw_mem (wU_X12 w h)) hown K hP sM_0 rfl 8 (by decide) (hts _ (bw_mem wB_1133)) (fun _ h9 => h9) (v := .int y_3) f_y_3 dX12_goesOn_5 ?_
  refine lv_if_le (tgt := 13) hx hb dX12_goesOn_8 (by decide) (fun c_4 => ?_) (fun c_4 => ?_)
  · have jc_4 := dk_lec (k := 0) (by decide +kernel) c_4
    refine lv_aload_n hx hb dX12_goesOn_13 rfl (lv_at hl 0 rfl) ?_
    refine dg_get (C := RX12) (T := TX12) (N := 77) hx hb hts (fun w h => bw_mem (wU_X12 w h)) hown K hP sM_0 rfl 42 (by decide) (hts _ (bw_mem wB_1203)) (fun _ h9 => h9) (v := .int dp) ((m_2.1 0 42 _ sM_0 (by decide)).trans f_dp) dX12_goesOn_14 ?_
    refine lv_iconst (v := 1) hx hb dX12_goesOn_17 (by decide +kernel) ?_
    refine lv_isub hx hb dX12_goesOn_18 ?_
    refine lv_topi (fun x_5 ex_5 => ?_)
    have jx_5 : (x_5).toInt = (dp).toInt - 1 := by rw [ex_5]; exact dk_subT rfl (by decide +kernel) (by omega) (by omega)
    refine lv_istore_n (lv' := [(1, .int x_5), (0, .ref (o + 0))]) hx hb dX12_goesOn_19 rfl hl (by decide) rfl (fun ls hl => ?_)
    refine lv_aload_n hx hb dX12_goesOn_20 rfl (lv_at hl 1 rfl) ?_
    refine dg_get (C := RX12) (T := TX12) (N := 77) hx hb hts (fun w h => bw_mem (wU_X12 w h)) hown K hP sM_0 rfl 37 (by decide) (hts _ (bw_mem wB_1213)) (fun _ h9 => h9) (v := .ref (o + 22)) (show S_2.1 0 37 = .ref (o + 22) from dg_I.rel (d := 22) I_2 sM_0 (by decide +kernel)) dX12_goesOn_21 ?_
    refine lv_iload_n hx hb dX12_goesOn_24 rfl (lv_at hl 0 rfl) ?_
    have hin_6 : vp_in x_5 20 := (dk_inv (by omega) (by omega))
    refine dg_iald hx hb K hP sM_22 hin_6 dX12_goesOn_25 (fun x_7 ex_7 => ?_)
    have b_x_7 := dk_all_at (dg_I.row (lo := 0) (hi := 6) I_2 sM_22 (by decide +kernel)) hin_6 ex_7
    refine lv_istore_n (lv' := [(2, .int x_7), (1, .int x_5), (0, .ref (o + 0))]) hx hb dX12_goesOn_26 rfl hl (by decide) rfl (fun ls hl => ?_)
    refine lv_iload_n hx hb dX12_goesOn_27 rfl (lv_at hl 0 rfl) ?_
    refine dg_calli hS hA1 hA (va_runS (As := [.int x_7]) (rest := []) F (c_m_isTest l g D o S_2 x_7 I_2 H.size) (va_cwS 1 hts (bw_S wB_1221 wB_1222 wB_881 wB_1220) rfl rfl rfl (by decide +kernel) ⟨Nat.le_of_ble_eq_true rfl, Nat.le_of_ble_eq_true rfl⟩) (dg_preS K ST hP hS hA1 hA) rfl rfl hl.1 rfl (lv_room (Nat.le_of_ble_eq_true rfl)) dX12_goesOn_28 ⟨Nat.le_of_ble_eq_true rfl, Nat.le_of_ble_eq_true rfl⟩) (fun x_8 S_9 hw_9 H locs hP hS => ?_)
    rw [hw_9.1] at hP
    obtain ⟨hq_9, w_9_0, w_9_1, -⟩ := hw_9
    have w_9_0 : 0 ≤ (x_8).toInt ∧ (x_8).toInt ≤ 1 := w_9_0
    have w_9_1 : (x_8).toInt = 1 ↔ ((x_7).toInt = 1 ∨ (x_7).toInt = 5 ∨ (x_7).toInt = 6) := w_9_1
    refine lv_istore_n (lv' := [(3, .int x_8), (2, .int x_7), (1, .int x_5), (0, .ref (o + 0))]) hx hb dX12_goesOn_31 rfl hl (by decide) rfl (fun ls hl => ?_)
    refine lv_aload_n hx hb dX12_goesOn_32 rfl (lv_at hl 3 rfl) ?_
    refine dg_get (C := RX12) (T := TX12) (N := 77) hx hb hts (fun w h => bw_mem (wU_X12 w h)) hown K hP sM_0 rfl 38 (by decide) (hts _ (bw_mem wB_1214)) (fun _ h9 => h9) (v := .ref (o + 23)) (show S_2.1 0 38 = .ref (o + 23) from dg_I.rel (d := 23) I_2 sM_0 (by decide +kernel)) dX12_goesOn_33 ?_
    refine lv_iload_n hx hb dX12_goesOn_36 rfl (lv_at hl 2 rfl) ?_
    have hin_10 : vp_in x_5 20 := (dk_inv (by omega) (by omega))
    refine dg_iald hx hb K hP sM_23 hin_10 dX12_goesOn_37 (fun x_11 ex_11 => ?_)
    have b_x_11 := dk_all_at (dg_I.row (lo := 0) (hi := 2) I_2 sM_23 (by decide +kernel)) hin_10 ex_11
    refine lv_iconst (v := 2) hx hb dX12_goesOn_38 (by decide +kernel) ?_
    have J_1279 : ∀ (H : Heap) (locs : List Loc), va_P D vwCl (dg_w g shM o rfM S_2) H → va_S A s.heap H locs → ∀ ls : Array Slot, lv_has ls 5 [(3, .int x_8), (2, .int x_7), (1, .int x_5), (0, .ref (o + 0))] → W p l e ({ frames := 3, cells := 0, slots := 0, locals := 77 } : Room) s m args below meth c H locs 0 0 (MQ below (va_Qi (fun (r : Int32) S' => CM o S' ∧ dg_sm shM [(0, 3), (0, 4), (0, 5), (0, 6), (0, 7), (0, 8), (0, 9), (0, 12), (0, 34), (0, 42), (0, 43), (0, 45), (0, 46)] [18, 19, 22, 23, 24, 27] S S' ∧ (0 ≤ (r).toInt ∧ (r).toInt ≤ 1) ∧ (∃ y9_3 y9_4 y9_5 y9_8 y9_34 y9_42 y9_45 y9_46 : Int32, S'.1 0 3 = .int y9_3 ∧ S'.1 0 4 = .int y9_4 ∧ S'.1 0 5 = .int y9_5 ∧ S'.1 0 8 = .int y9_8 ∧ S'.1 0 34 = .int y9_34 ∧ S'.1 0 42 = .int y9_42 ∧ S'.1 0 45 = .int y9_45 ∧ S'.1 0 46 = .int y9_46 ∧ (((y9_4).toInt ≤ (y9_5).toInt ∧ (y9_5).toInt ≤ (sl).toInt ∧ ((y9_3).toInt ≠ 0 → (y9_4).toInt + 1 ≤ (y9_5).toInt)) ∧ (sa).toInt ≤ (y9_4).toInt ∧ ((fk).toInt ≠ 0 → (y9_8).toInt ≠ 0) ∧ (((y9_8).toInt = 0 → (r).toInt = 1 → (sa).toInt + 1 ≤ (y9_4).toInt) ∧ ((y9_8).toInt = 0 → (y9_34).toInt + (y9_45).toInt + (y9_42).toInt ≤ (y9_4).toInt)))) ∧ (∀ k9 : Int32, S'.1 0 8 = .int k9 → k9.toInt = 0 → POM S') ∧ ZWM S' ∧ True) (dg_B g D shM o rfM) A) args s 0 0 A) (F0 m 188 ls []) := by
      intro H locs hP hS ls hl
      refine lv_iload_n hx hb dX12_goesOn_188 rfl (lv_at hl 0 rfl) ?_
      have J_2200 : ∀ (H : Heap) (locs : List Loc), va_P D vwCl (dg_w g shM o rfM S_2) H → va_S A s.heap H locs → ∀ ls : Array Slot, lv_has ls 5 [(3, .int x_8), (2, .int x_7), (1, .int x_5), (0, .ref (o + 0))] → W p l e ({ frames := 3, cells := 0, slots := 0, locals := 77 } : Room) s m args below meth c H locs 0 0 (MQ below (va_Qi (fun (r : Int32) S' => CM o S' ∧ dg_sm shM [(0, 3), (0, 4), (0, 5), (0, 6), (0, 7), (0, 8), (0, 9), (0, 12), (0, 34), (0, 42), (0, 43), (0, 45), (0, 46)] [18, 19, 22, 23, 24, 27] S S' ∧ (0 ≤ (r).toInt ∧ (r).toInt ≤ 1) ∧ (∃ y9_3 y9_4 y9_5 y9_8 y9_34 y9_42 y9_45 y9_46 : Int32, S'.1 0 3 = .int y9_3 ∧ S'.1 0 4 = .int y9_4 ∧ S'.1 0 5 = .int y9_5 ∧ S'.1 0 8 = .int y9_8 ∧ S'.1 0 34 = .int y9_34 ∧ S'.1 0 42 = .int y9_42 ∧ S'.1 0 45 = .int y9_45 ∧ S'.1 0 46 = .int y9_46 ∧ (((y9_4).toInt ≤ (y9_5).toInt ∧ (y9_5).toInt ≤ (sl).toInt ∧ ((y9_3).toInt ≠ 0 → (y9_4).toInt + 1 ≤ (y9_5).toInt)) ∧ (sa).toInt ≤ (y9_4).toInt ∧ ((fk).toInt ≠ 0 → (y9_8).toInt ≠ 0) ∧ (((y9_8).toInt = 0 → (r).toInt = 1 → (sa).toInt + 1 ≤ (y9_4).toInt) ∧ ((y9_8).toInt = 0 → (y9_34).toInt + (y9_45).toInt + (y9_42).toInt ≤ (y9_4).toInt)))) ∧ (∀ k9 : Int32, S'.1 0 8 = .int k9 → k9.toInt = 0 → POM S') ∧ ZWM S' ∧ True) (dg_B g D shM o rfM) A) args s 0 0 A) (F0 m 285 ls []) := by
        intro H locs hP hS ls hl
        refine lv_iload_n hx hb dX12_goesOn_285 rfl (lv_at hl 0 rfl) ?_
        have J_3069 : ∀ (H : Heap) (locs : List Loc), va_P D vwCl (dg_w g shM o rfM S_2) H → va_S A s.heap H locs → ∀ ls : Array Slot, lv_has ls 5 [(3, .int x_8), (2, .int x_7), (1, .int x_5), (0, .ref (o + 0))] → W p l e ({ frames := 3, cells := 0, slots := 0, locals := 77 } : Room) s m args below meth c H locs 0 0 (MQ below (va_Qi (fun (r : Int32) S' => CM o S' ∧ dg_sm shM [(0, 3), (0, 4), (0, 5), (0, 6), (0, 7), (0, 8), (0, 9), (0, 12), (0, 34), (0, 42), (0, 43), (0, 45), (0, 46)] [18, 19, 22, 23, 24, 27] S S' ∧ (0 ≤ (r).toInt ∧ (r).toInt ≤ 1) ∧ (∃ y9_3 y9_4 y9_5 y9_8 y9_34 y9_42 y9_45 y9_46 : Int32, S'.1 0 3 = .int y9_3 ∧ S'.1 0 4 = .int y9_4 ∧ S'.1 0 5 = .int y9_5 ∧ S'.1 0 8 = .int y9_8 ∧ S'.1 0 34 = .int y9_34 ∧ S'.1 0 42 = .int y9_42 ∧ S'.1 0 45 = .int y9_45 ∧ S'.1 0 46 = .int y9_46 ∧ (((y9_4).toInt ≤ (y9_5).toInt ∧ (y9_5).toInt ≤ (sl).toInt ∧ ((y9_3).toInt ≠ 0 → (y9_4).toInt + 1 ≤ (y9_5).toInt)) ∧ (sa).toInt ≤ (y9_4).toInt ∧ ((fk).toInt ≠ 0 → (y9_8).toInt ≠ 0) ∧ (((y9_8).toInt = 0 → (r).toInt = 1 → (sa).toInt + 1 ≤ (y9_4).toInt) ∧ ((y9_8).toInt = 0 → (y9_34).toInt + (y9_45).toInt + (y9_42).toInt ≤ (y9_4).toInt)))) ∧ (∀ k9 : Int32, S'.1 0 8 = .int k9 → k9.toInt = 0 → POM S') ∧ ZWM S' ∧ True) (dg_B g D shM o rfM) A) args s 0 0 A) (F0 m 400 ls []) := by
          intro H locs hP hS ls hl
          refine lv_iload_n hx hb dX12_goesOn_400 rfl (lv_at hl 0 rfl) ?_
          refine lv_if_eq (tgt := 422) hx hb dX12_goesOn_401 (by decide) (fun c_3070 => ?_) (fun c_3070 => ?_)
          · have jc_3070 := dk_eqc (k := 0) (by decide +kernel) c_3070
            refine lv_iload_n hx hb dX12_goesOn_422 rfl (lv_at hl 1 rfl) ?_
            refine lv_iconst (v := 2) hx hb dX12_goesOn_423 (by decide +kernel) ?_
            refine lv_icmp_ge (tgt := 441) hx hb dX12_goesOn_424 (by decide) (fun c_3071 => ?_) (fun c_3071 => ?_)
            · have jc_3071 := dk_gec (k := 2) (by decide +kernel) c_3071
              refine lv_iload_n hx hb dX12_goesOn_441 rfl (lv_at hl 1 rfl) ?_
              refine lv_iconst (v := 3) hx hb dX12_goesOn_442 (by decide +kernel) ?_
              have J_3299 : ((x_7 : Int32).toInt = 3 ∨ (x_7 : Int32).toInt = 6) → ∀ (H : Heap) (locs : List Loc), va_P D vwCl (dg_w g shM o rfM S_2) H → va_S A s.heap H locs → ∀ ls : Array Slot, lv_has ls 5 [(3, .int x_8), (2, .int x_7), (1, .int x_5), (0, .ref (o + 0))] → W p l e ({ frames := 3, cells := 0, slots := 0, locals := 77 } : Room) s m args below meth c H locs 0 0 (MQ below (va_Qi (fun (r : Int32) S' => CM o S' ∧ dg_sm shM [(0, 3), (0, 4), (0, 5), (0, 6), (0, 7), (0, 8), (0, 9), (0, 12), (0, 34), (0, 42), (0, 43), (0, 45), (0, 46)] [18, 19, 22, 23, 24, 27] S S' ∧ (0 ≤ (r).toInt ∧ (r).toInt ≤ 1) ∧ (∃ y9_3 y9_4 y9_5 y9_8 y9_34 y9_42 y9_45 y9_46 : Int32, S'.1 0 3 = .int y9_3 ∧ S'.1 0 4 = .int y9_4 ∧ S'.1 0 5 = .int y9_5 ∧ S'.1 0 8 = .int y9_8 ∧ S'.1 0 34 = .int y9_34 ∧ S'.1 0 42 = .int y9_42 ∧ S'.1 0 45 = .int y9_45 ∧ S'.1 0 46 = .int y9_46 ∧ (((y9_4).toInt ≤ (y9_5).toInt ∧ (y9_5).toInt ≤ (sl).toInt ∧ ((y9_3).toInt ≠ 0 → (y9_4).toInt + 1 ≤ (y9_5).toInt)) ∧ (sa).toInt ≤ (y9_4).toInt ∧ ((fk).toInt ≠ 0 → (y9_8).toInt ≠ 0) ∧ (((y9_8).toInt = 0 → (r).toInt = 1 → (sa).toInt + 1 ≤ (y9_4).toInt) ∧ ((y9_8).toInt = 0 → (y9_34).toInt + (y9_45).toInt + (y9_42).toInt ≤ (y9_4).toInt)))) ∧ (∀ k9 : Int32, S'.1 0 8 = .int k9 → k9.toInt = 0 → POM S') ∧ ZWM S' ∧ True) (dg_B g D shM o rfM) A) args s 0 0 A) (F0 m 452 ls []) := by
                intro rel_0 H locs hP hS ls hl
                refine lv_aload_n hx hb dX12_goesOn_452 rfl (lv_at hl 3 rfl) ?_
                refine lv_bipush (v := 44) hx hb dX12_goesOn_453 (by decide +kernel) ?_
                refine dg_calli hS hA1 hA (va_runV (As := [.int 44]) (rest := []) F (c_m_isSign l g D o S_2 44 sg ((m_2.1 0 3 _ sM_0 (by decide)).trans f_sg) (by omega) va ((m_2.1 0 6 _ sM_0 (by decide)).trans f_va) (by omega) I_2 H.size) (cwV 1 hts (bw_V wB_1157 wB_1158 wB_1159 wB_881 wB_1156) rfl rfl rfl (by decide +kernel) ⟨Nat.le_of_ble_eq_true rfl, Nat.le_of_ble_eq_true rfl⟩) (dg_preV sM_0 rfl K ST hP hS hA1 hA) rfl rfl hl.1 rfl (lv_room (Nat.le_of_ble_eq_true rfl)) dX12_goesOn_455 ⟨Nat.le_of_ble_eq_true rfl, Nat.le_of_ble_eq_true rfl⟩) (fun x_3300 S_3301 hw_3301 H locs hP hS => ?_)
                rw [hw_3301.1] at hP
                obtain ⟨hq_3301, w_3301_0, w_3301_1, -⟩ := hw_3301
                have hz_3302 : (44 : Int32).toInt = 44 := by decide +kernel
                have w_3301_0 : 0 ≤ (x_3300).toInt ∧ (x_3300).toInt ≤ 1 := w_3301_0
                have w_3301_1 : (x_3300).toInt = 1 ↔ ((sg).toInt = 3 ∧ (va).toInt = ((44 : Int32)).toInt) := w_3301_1
                refine lv_if_ne (tgt := 470) hx hb dX12_goesOn_458 (by decide) (fun c_3303 => ?_) (fun c_3303 => ?_)
                · have jc_3303 := dk_neqc (k := 0) (by decide +kernel) c_3303
                  have w_3301_1_r := w_3301_1.mp (by omega)
                  clear w_3301_1
                  refine lv_aload_n hx hb dX12_goesOn_470 rfl (lv_at hl 3 rfl) ?_
                  refine dg_get (C := RX12) (T := TX12) (N := 77) hx hb hts (fun w h => bw_mem (wU_X12 w h)) hown K hP sM_0 rfl 8 (by decide) (hts _ (bw_mem wB_1133)) (fun _ h9 => h9) (v := .int y_3) f_y_3 dX12_goesOn_471 ?_
                  refine lv_if_le (tgt := 479) hx hb dX12_goesOn_474 (by decide) (fun _ => ?_) (fun c => absurd (dk_lep (k := 0) (by decide +kernel) (by omega)) c)
                  refine lv_aload_n hx hb dX12_goesOn_479 rfl (lv_at hl 3 rfl) ?_
                  refine lv_iconst (v := 1) hx hb dX12_goesOn_480 (by decide +kernel) ?_
                  have hz_3304 : (1 : Int32).toInt = 1 := by decide +kernel
                  refine dg_callv hS hA1 hA (va_runV (As := [.int 1]) (rest := []) F (c_m_joins l g D o S_2 1 (by decide +kernel) cd ((m_2.1 0 34 _ sM_0 (by decide)).trans f_cd) (by omega) om ((m_2.1 0 45 _ sM_0 (by decide)).trans f_om) (by omega) (by omega) (ZWM.keep ZW m_2 (by decide) (by decide) (by decide) (by decide)) (ZKM.keep ZK m_2 (by decide) (by decide)) (P1M.keep P1 m_2 (by decide) (by decide) (by decide) (by decide) (by decide) (by decide) (by decide) (by decide) (by decide) (by decide) (by decide) (by decide) (by decide) (by decide) (by decide)) I_2 H.size) (cwV 1 hts (bw_V wB_1234 wB_1235 wB_1236 wB_881 wB_1233) rfl rfl rfl (by decide +kernel) ⟨Nat.le_of_ble_eq_true rfl, Nat.le_of_ble_eq_true rfl⟩) (dg_preV sM_0 rfl K ST hP hS hA1 hA) rfl rfl hl.1 rfl (lv_room (Nat.le_of_ble_eq_true rfl)) dX12_goesOn_481 ⟨Nat.le_of_ble_eq_true rfl, Nat.le_of_ble_eq_true rfl⟩) (fun S_3305 hw_3305 H locs hP hS => ?_)
                  obtain ⟨I_3305, m_3305, w_3305_0, w_3305_1, w_3305_2, w_3305_3, -⟩ := hw_3305
                  have M_3305 := dg_sm.tr M_2 m_3305 (by decide) (by decide)
                  have hz_3306 : (1 : Int32).toInt = 1 := by decide +kernel
                  obtain ⟨y_3307, y_3308, f_y_3307, f_y_3308, w_3305_0⟩ := w_3305_0
                  have w_3305_0 : (y_3307).toInt + (y_3308).toInt = (cd).toInt + (om).toInt := w_3305_0
                  have b_y_3307 : 0 ≤ (y_3307).toInt ∧ (y_3307).toInt ≤ 1600 := dg_I.intb (lo := 0) (hi := 1600) I_3305 sM_0 (by decide +kernel) f_y_3307
                  have b_y_3308 : 0 ≤ (y_3308).toInt ∧ (y_3308).toInt ≤ 500 := dg_I.intb (lo := 0) (hi := 500) I_3305 sM_0 (by decide +kernel) f_y_3308
                  have w_3305_1 : TOPM S_3305 (1 : Int32) := w_3305_1
                  refine lv_aload_n hx hb dX12_goesOn_484 rfl (lv_at hl 3 rfl) ?_
                  refine dg_get (C := RX12) (T := TX12) (N := 77) hx hb hts (fun w h => bw_mem (wU_X12 w h)) hown K hP sM_0 rfl 37 (by decide) (hts _ (bw_mem wB_1213)) (fun _ h9 => h9) (v := .ref (o + 22)) (show S_3305.1 0 37 = .ref (o + 22) from dg_I.rel (d := 22) I_3305 sM_0 (by decide +kernel)) dX12_goesOn_485 ?_
                  refine lv_iload_n hx hb dX12_goesOn_488 rfl (lv_at hl 2 rfl) ?_
                  refine lv_iload_n hx hb dX12_goesOn_489 rfl (lv_at hl 1 rfl) ?_
                  refine lv_iconst (v := 3) hx hb dX12_goesOn_490 (by decide +kernel) ?_
                  refine lv_icmp_ne (tgt := 498) hx hb dX12_goesOn_491 (by decide) (fun c_3309 => ?_) (fun c_3309 => ?_)
                  · have jc_3309 := dk_neqc (k := 3) (by decide +kernel) c_3309
                    refine lv_iconst (v := 3) hx hb dX12_goesOn_498 (by decide +kernel) ?_
                    have hin_3310 : vp_in x_5 20 := (dk_inv (by omega) (by omega))
                    have hz_3312 : (3 : Int32).toInt = 3 := by decide +kernel
                    refine dg_iast hx hb K hP hS hA1 sM_22 hin_3310 dX12_goesOn_499 (fun S_3311 e_3311 H locs hP hS => ?_)
                    have I_3311 := dg_I.ufu (lo := 0) (hi := 6) I_3305 e_3311 sM_22 (by decide +kernel) (show 0 ≤ ((3 : Int32)).toInt ∧ ((3 : Int32)).toInt ≤ 6 from (by decide +kernel))
                    have M_3311 := dg_sm.uf M_3305 e_3311 sM_22 (by decide)
                    have hz_3313 : (3 : Int32).toInt = 3 := by decide +kernel
                    refine lv_aload_n hx hb dX12_goesOn_500 rfl (lv_at hl 3 rfl) ?_
                    refine dg_get (C := RX12) (T := TX12) (N := 77) hx hb hts (fun w h => bw_mem (wU_X12 w h)) hown K hP sM_0 rfl 38 (by decide) (hts _ (bw_mem wB_1214)) (fun _ h9 => h9) (v := .ref (o + 23)) (show S_3311.1 0 38 = .ref (o + 23) from dg_I.rel (d := 23) I_3311 sM_0 (by decide +kernel)) dX12_goesOn_501 ?_
                    refine lv_iload_n hx hb dX12_goesOn_504 rfl (lv_at hl 2 rfl) ?_
                    refine lv_iconst (v := 0) hx hb dX12_goesOn_505 (by decide +kernel) ?_
                    have hin_3314 : vp_in x_5 20 := (dk_inv (by omega) (by omega))
                    have hz_3316 : (0 : Int32).toInt = 0 := by decide +kernel
                    refine dg_iast hx hb K hP hS hA1 sM_23 hin_3314 dX12_goesOn_506 (fun S_3315 e_3315 H locs hP hS => ?_)
                    have I_3315 := dg_I.ufu (lo := 0) (hi := 2) I_3311 e_3315 sM_23 (by decide +kernel) (show 0 ≤ ((0 : Int32)).toInt ∧ ((0 : Int32)).toInt ≤ 2 from (by decide +kernel))
                    have M_3315 := dg_sm.uf M_3311 e_3315 sM_23 (by decide)
                    obtain ⟨x_3317, f_x_3317, b_x_3317⟩ := dg_I.int (i := 0) (k := 43) (lo := (-2147483648)) (hi := 2147483647) I_3305 sM_0 (by decide +kernel)
                    have hz_3318 : (0 : Int32).toInt = 0 := by decide +kernel
                    obtain ⟨x_3319, f_x_3319⟩ : ∃ x, S_3305.2.1 22 (x_5 : Int32).toNatClampNeg = x := ⟨_, rfl⟩
                    have hin_3320 : vp_in (x_5 : Int32) 20 := (dk_inv (by omega) (by omega))
                    have b_x_3319 := dk_all_at (dg_I.row (lo := 0) (hi := 6) I_3305 sM_22 (by decide +kernel)) hin_3320 f_x_3319.symm
                    have P0_3315 : P0M S_3315 := P1M.comma w_3305_3 (((m_3305.1 0 42 _ sM_0 (by decide)).trans (m_2.1 0 42 _ sM_0 (by decide))).trans f_dp) f_x_3317 f_y_3308 w_3305_1 (by omega) (fx := x_5) (by omega) f_x_3319 (by omega) e_3311 e_3315
                    refine lv_aload_n hx hb dX12_goesOn_507 rfl (lv_at hl 3 rfl) ?_
                    refine dg_callv hS hA1 hA (va_runV (As := []) (rest := []) F (c_m_ahead l g D o S_3315 se (((dg_uf_F e_3315 0 5).trans ((dg_uf_F e_3311 0 5).trans ((m_3305.1 0 5 _ sM_0 (by decide)).trans (m_2.1 0 5 _ sM_0 (by decide))))).trans f_se) (by omega) sl (((dg_uf_F e_3315 0 2).trans ((dg_uf_F e_3311 0 2).trans ((m_3305.1 0 2 _ sM_0 (by decide)).trans (m_2.1 0 2 _ sM_0 (by decide))))).trans f_sl) (by omega) (by omega) I_3315 H.size) (cwV 0 hts (bw_V wB_1161 wB_1162 wB_1163 wB_881 wB_1160) rfl rfl rfl (by decide +kernel) ⟨Nat.le_of_ble_eq_true rfl, Nat.le_of_ble_eq_true rfl⟩) (dg_preV sM_0 rfl K ST hP hS hA1 hA) rfl rfl hl.1 rfl (lv_room (Nat.le_of_ble_eq_true rfl)) dX12_goesOn_508 ⟨Nat.le_of_ble_eq_true rfl, Nat.le_of_ble_eq_true rfl⟩) (fun S_3321 hw_3321 H locs hP hS => ?_)
                    obtain ⟨I_3321, m_3321, w_3321_0, -⟩ := hw_3321
                    have M_3321 := dg_sm.tr M_3315 m_3321 (by decide) (by decide)
                    obtain ⟨y_3322, y_3323, y_3324, f_y_3322, f_y_3323, f_y_3324, w_3321_0⟩ := w_3321_0
                    have w_3321_0 : (se).toInt ≤ (y_3323).toInt ∧ (y_3323).toInt ≤ (y_3324).toInt ∧ (y_3324).toInt ≤ (sl).toInt ∧ ((y_3322).toInt ≠ 0 → (y_3323).toInt + 1 ≤ (y_3324).toInt) := w_3321_0
                    have b_y_3322 : 0 ≤ (y_3322).toInt ∧ (y_3322).toInt ≤ 3 := dg_I.intb (lo := 0) (hi := 3) I_3321 sM_0 (by decide +kernel) f_y_3322
                    have b_y_3323 : 0 ≤ (y_3323).toInt ∧ (y_3323).toInt ≤ 1600 := dg_I.intb (lo := 0) (hi := 1600) I_3321 sM_0 (by decide +kernel) f_y_3323
                    have b_y_3324 : 0 ≤ (y_3324).toInt ∧ (y_3324).toInt ≤ 1600 := dg_I.intb (lo := 0) (hi := 1600) I_3321 sM_0 (by decide +kernel) f_y_3324
                    refine lv_aload_n hx hb dX12_goesOn_511 rfl (lv_at hl 3 rfl) ?_
                    refine lv_iconst (v := 0) hx hb dX12_goesOn_512 (by decide +kernel) ?_
                    have hz_3325 : (0 : Int32).toInt = 0 := by decide +kernel
                    refine dg_put (ci := 12) (v := .int 0) (ty := tyX12 46) (C := RX12) (T := TX12) (N := 77) hx hb hts (fun w h => bw_mem (wU_X12 w h)) tyX12 tyX12_ok nmX12 hown K hP hS hA1 sM_0 rfl 46 (by decide) (hts _ (bw_mem wB_1237)) (fun _ h9 => h9) rfl (by decide +kernel) (by decide +kernel) (by decide +kernel) dX12_goesOn_513 (fun S_3326 e_3326 H locs hP hS => ?_)
                    have I_3326 := dg_I.uFi (lo := 0) (hi := 1) I_3321 e_3326 sM_0 (by decide +kernel) (show 0 ≤ ((0 : Int32)).toInt ∧ ((0 : Int32)).toInt ≤ 1 from (by decide +kernel))
                    have M_3326 := dg_sm.uF M_3321 e_3326 sM_0 (by decide)
                    refine lv_iconst (v := 1) hx hb dX12_goesOn_516 (by decide +kernel) ?_
                    have hz_3327 : (1 : Int32).toInt = 1 := by decide +kernel
                    have hz_3328 : (1 : Int32).toInt = 1 := by decide +kernel
                    have hz_3329 : (0 : Int32).toInt = 0 := by decide +kernel
                    have hz_3330 : (1 : Int32).toInt = 1 := by decide +kernel
                    have hz_3331 : (0 : Int32).toInt = 0 := by decide +kernel
                    refine W.widen (k := 0) (n := 0) (Nat.le_of_ble_eq_true rfl) (Nat.le_of_ble_eq_true rfl) ?_
                    exact dg_iret hx hb hr hlocks (by decide +kernel) hP hS ⟨I_3326, M_3326, (by decide +kernel), ⟨y_3322, y_3323, y_3324, y_3, y_3307, dp, y_3308, 0, ((dg_uF_ne e_3326 (fun z => absurd z.2 (by decide))).trans f_y_3322), ((dg_uF_ne e_3326 (fun z => absurd z.2 (by decide))).trans f_y_3323), ((dg_uF_ne e_3326 (fun z => absurd z.2 (by decide))).trans f_y_3324), (((dg_uF_ne e_3326 (fun z => absurd z.2 (by decide))).trans ((m_3321.1 0 8 _ sM_0 (by decide)).trans ((dg_uf_F e_3315 0 8).trans ((dg_uf_F e_3311 0 8).trans (m_3305.1 0 8 _ sM_0 (by decide)))))).trans f_y_3), (((dg_uF_ne e_3326 (fun z => absurd z.2 (by decide))).trans ((m_3321.1 0 34 _ sM_0 (by decide)).trans ((dg_uf_F e_3315 0 34).trans (dg_uf_F e_3311 0 34)))).trans f_y_3307), (((dg_uF_ne e_3326 (fun z => absurd z.2 (by decide))).trans ((m_3321.1 0 42 _ sM_0 (by decide)).trans ((dg_uf_F e_3315 0 42).trans ((dg_uf_F e_3311 0 42).trans ((m_3305.1 0 42 _ sM_0 (by decide)).trans (m_2.1 0 42 _ sM_0 (by decide))))))).trans f_dp), (((dg_uF_ne e_3326 (fun z => absurd z.2 (by decide))).trans ((m_3321.1 0 45 _ sM_0 (by decide)).trans ((dg_uf_F e_3315 0 45).trans (dg_uf_F e_3311 0 45)))).trans f_y_3308), (dg_uF_at e_3326), (by omega)⟩, (fun k9 hk9 hk0 => POM.mk0 (P0M.keep (P0M.keep P0_3315 m_3321 (by decide) (by decide) (by decide) (by decide) (by decide) (by decide) (by decide) (by decide) (by decide) (by decide) (by decide) (by decide) (by decide) (by decide) (by decide)) (dg_sm.uF (WF := [(0, 46)]) (WA := []) dg_sm.rf e_3326 sM_0 (by decide)) (by decide) (by decide) (by decide) (by decide) (by decide) (by decide) (by decide) (by decide) (by decide) (by decide) (by decide) (by decide) (by decide) (by decide) (by decide)) (dg_uF_at e_3326) (by omega)), (ZWM.keep (ZWM.keep (ZWM.keep (ZWM.keep w_3305_2 (dg_sm.uf (WF := []) (WA := [22]) dg_sm.rf e_3311 sM_22 (by decide)) (by decide) (by decide) (by decide) (by decide)) (dg_sm.uf (WF := []) (WA := [23]) dg_sm.rf e_3315 sM_23 (by decide)) (by decide) (by decide) (by decide) (by decide)) m_3321 (by decide) (by decide) (by decide) (by decide)) (dg_sm.uF (WF := [(0, 46)]) (WA := []) dg_sm.rf e_3326 sM_0 (by decide)) (by decide) (by decide) (by decide) (by decide)), trivial⟩ dX12_goesOn_517
                  · have jc_3309 := dk_eqc (k := 3) (by decide +kernel) c_3309
                    refine lv_iconst (v := 4) hx hb dX12_goesOn_494 (by decide +kernel) ?_
                    refine lv_goto (tgt := 499) hx hb dX12_goesOn_495 (by decide) ?_
                    have hin_3332 : vp_in x_5 20 := (dk_inv (by omega) (by omega))
                    have hz_3334 : (4 : Int32).toInt = 4 := by decide +kernel
                    refine dg_iast hx hb K hP hS hA1 sM_22 hin_3332 dX12_goesOn_499 (fun S_3333 e_3333 H locs hP hS => ?_)
                    have I_3333 := dg_I.ufu (lo := 0) (hi := 6) I_3305 e_3333 sM_22 (by decide +kernel) (show 0 ≤ ((4 : Int32)).toInt ∧ ((4 : Int32)).toInt ≤ 6 from (by decide +kernel))
                    have M_3333 := dg_sm.uf M_3305 e_3333 sM_22 (by decide)
                    have hz_3335 : (4 : Int32).toInt = 4 := by decide +kernel
                    refine lv_aload_n hx hb dX12_goesOn_500 rfl (lv_at hl 3 rfl) ?_
                    refine dg_get (C := RX12) (T := TX12) (N := 77) hx hb hts (fun w h => bw_mem (wU_X12 w h)) hown K hP sM_0 rfl 38 (by decide) (hts _ (bw_mem wB_1214)) (fun _ h9 => h9) (v := .ref (o + 23)) (show S_3333.1 0 38 = .ref (o + 23) from dg_I.rel (d := 23) I_3333 sM_0 (by decide +kernel)) dX12_goesOn_501 ?_
                    refine lv_iload_n hx hb dX12_goesOn_504 rfl (lv_at hl 2 rfl) ?_
                    refine lv_iconst (v := 0) hx hb dX12_goesOn_505 (by decide +kernel) ?_
                    have hin_3336 : vp_in x_5 20 := (dk_inv (by omega) (by omega))
                    have hz_3338 : (0 : Int32).toInt = 0 := by decide +kernel
                    refine dg_iast hx hb K hP hS hA1 sM_23 hin_3336 dX12_goesOn_506 (fun S_3337 e_3337 H locs hP hS => ?_)
                    have I_3337 := dg_I.ufu (lo := 0) (hi := 2) I_3333 e_3337 sM_23 (by decide +kernel) (show 0 ≤ ((0 : Int32)).toInt ∧ ((0 : Int32)).toInt ≤ 2 from (by decide +kernel))
                    have M_3337 := dg_sm.uf M_3333 e_3337 sM_23 (by decide)
                    obtain ⟨x_3339, f_x_3339, b_x_3339⟩ := dg_I.int (i := 0) (k := 43) (lo := (-2147483648)) (hi := 2147483647) I_3305 sM_0 (by decide +kernel)
                    have hz_3340 : (0 : Int32).toInt = 0 := by decide +kernel
                    obtain ⟨x_3341, f_x_3341⟩ : ∃ x, S_3305.2.1 22 (x_5 : Int32).toNatClampNeg = x := ⟨_, rfl⟩
                    have hin_3342 : vp_in (x_5 : Int32) 20 := (dk_inv (by omega) (by omega))
                    have b_x_3341 := dk_all_at (dg_I.row (lo := 0) (hi := 6) I_3305 sM_22 (by decide +kernel)) hin_3342 f_x_3341.symm
                    have P0_3337 : P0M S_3337 := P1M.comma w_3305_3 (((m_3305.1 0 42 _ sM_0 (by decide)).trans (m_2.1 0 42 _ sM_0 (by decide))).trans f_dp) f_x_3339 f_y_3308 w_3305_1 (by omega) (fx := x_5) (by omega) f_x_3341 (by omega) e_3333 e_3337
                    refine lv_aload_n hx hb dX12_goesOn_507 rfl (lv_at hl 3 rfl) ?_
                    refine dg_callv hS hA1 hA (va_runV (As := []) (rest := []) F (c_m_ahead l g D o S_3337 se (((dg_uf_F e_3337 0 5).trans ((dg_uf_F e_3333 0 5).trans ((m_3305.1 0 5 _ sM_0 (by decide)).trans (m_2.1 0 5 _ sM_0 (by decide))))).trans f_se) (by omega) sl (((dg_uf_F e_3337 0 2).trans ((dg_uf_F e_3333 0 2).trans ((m_3305.1 0 2 _ sM_0 (by decide)).trans (m_2.1 0 2 _ sM_0 (by decide))))).trans f_sl) (by omega) (by omega) I_3337 H.size) (cwV 0 hts (bw_V wB_1161 wB_1162 wB_1163 wB_881 wB_1160) rfl rfl rfl (by decide +kernel) ⟨Nat.le_of_ble_eq_true rfl, Nat.le_of_ble_eq_true rfl⟩) (dg_preV sM_0 rfl K ST hP hS hA1 hA) rfl rfl hl.1 rfl (lv_room (Nat.le_of_ble_eq_true rfl)) dX12_goesOn_508 ⟨Nat.le_of_ble_eq_true rfl, Nat.le_of_ble_eq_true rfl⟩) (fun S_3343 hw_3343 H locs hP hS => ?_)
                    obtain ⟨I_3343, m_3343, w_3343_0, -⟩ := hw_3343
                    have M_3343 := dg_sm.tr M_3337 m_3343 (by decide) (by decide)
                    obtain ⟨y_3344, y_3345, y_3346, f_y_3344, f_y_3345, f_y_3346, w_3343_0⟩ := w_3343_0
                    have w_3343_0 : (se).toInt ≤ (y_3345).toInt ∧ (y_3345).toInt ≤ (y_3346).toInt ∧ (y_3346).toInt ≤ (sl).toInt ∧ ((y_3344).toInt ≠ 0 → (y_3345).toInt + 1 ≤ (y_3346).toInt) := w_3343_0
                    have b_y_3344 : 0 ≤ (y_3344).toInt ∧ (y_3344).toInt ≤ 3 := dg_I.intb (lo := 0) (hi := 3) I_3343 sM_0 (by decide +kernel) f_y_3344
                    have b_y_3345 : 0 ≤ (y_3345).toInt ∧ (y_3345).toInt ≤ 1600 := dg_I.intb (lo := 0) (hi := 1600) I_3343 sM_0 (by decide +kernel) f_y_3345
                    have b_y_3346 : 0 ≤ (y_3346).toInt ∧ (y_3346).toInt ≤ 1600 := dg_I.intb (lo := 0) (hi := 1600) I_3343 sM_0 (by decide +kernel) f_y_3346
                    refine lv_aload_n hx hb dX12_goesOn_511 rfl (lv_at hl 3 rfl) ?_
                    refine lv_iconst (v := 0) hx hb dX12_goesOn_512 (by decide +kernel) ?_
                    have hz_3347 : (0 : Int32).toInt = 0 := by decide +kernel
                    refine dg_put (ci := 12) (v := .int 0) (ty := tyX12 46) (C := RX12) (T := TX12) (N := 77) hx hb hts (fun w h => bw_mem (wU_X12 w h)) tyX12 tyX12_ok nmX12 hown K hP hS hA1 sM_0 rfl 46 (by decide) (hts _ (bw_mem wB_1237)) (fun _ h9 => h9) rfl (by decide +kernel) (by decide +kernel) (by decide +kernel) dX12_goesOn_513 (fun S_3348 e_3348 H locs hP hS => ?_)
                    have I_3348 := dg_I.uFi (lo := 0) (hi := 1) I_3343 e_3348 sM_0 (by decide +kernel) (show 0 ≤ ((0 : Int32)).toInt ∧ ((0 : Int32)).toInt ≤ 1 from (by decide +kernel))
                    have M_3348 := dg_sm.uF M_3343 e_3348 sM_0 (by decide)
                    refine lv_iconst (v := 1) hx hb dX12_goesOn_516 (by decide +kernel) ?_
                    have hz_3349 : (1 : Int32).toInt = 1 := by decide +kernel
                    have hz_3350 : (1 : Int32).toInt = 1 := by decide +kernel
                    have hz_3351 : (0 : Int32).toInt = 0 := by decide +kernel
                    have hz_3352 : (1 : Int32).toInt = 1 := by decide +kernel
                    have hz_3353 : (0 : Int32).toInt = 0 := by decide +kernel
                    refine W.widen (k := 0) (n := 0) (Nat.le_of_ble_eq_true rfl) (Nat.le_of_ble_eq_true rfl) ?_
                    exact dg_iret hx hb hr hlocks (by decide +kernel) hP hS ⟨I_3348, M_3348, (by decide +kernel), ⟨y_3344, y_3345, y_3346, y_3, y_3307, dp, y_3308, 0, ((dg_uF_ne e_3348 (fun z => absurd z.2 (by decide))).trans f_y_3344), ((dg_uF_ne e_3348 (fun z => absurd z.2 (by decide))).trans f_y_3345), ((dg_uF_ne e_3348 (fun z => absurd z.2 (by decide))).trans f_y_3346), (((dg_uF_ne e_3348 (fun z => absurd z.2 (by decide))).trans ((m_3343.1 0 8 _ sM_0 (by decide)).trans ((dg_uf_F e_3337 0 8).trans ((dg_uf_F e_3333 0 8).trans (m_3305.1 0 8 _ sM_0 (by decide)))))).trans f_y_3), (((dg_uF_ne e_3348 (fun z => absurd z.2 (by decide))).trans ((m_3343.1 0 34 _ sM_0 (by decide)).trans ((dg_uf_F e_3337 0 34).trans (dg_uf_F e_3333 0 34)))).trans f_y_3307), (((dg_uF_ne e_3348 (fun z => absurd z.2 (by decide))).trans ((m_3343.1 0 42 _ sM_0 (by decide)).trans ((dg_uf_F e_3337 0 42).trans ((dg_uf_F e_3333 0 42).trans ((m_3305.1 0 42 _ sM_0 (by decide)).trans (m_2.1 0 42 _ sM_0 (by decide))))))).trans f_dp), (((dg_uF_ne e_3348 (fun z => absurd z.2 (by decide))).trans ((m_3343.1 0 45 _ sM_0 (by decide)).trans ((dg_uf_F e_3337 0 45).trans (dg_uf_F e_3333 0 45)))).trans f_y_3308), (dg_uF_at e_3348), (by omega)⟩, (fun k9 hk9 hk0 => POM.mk0 (P0M.keep (P0M.keep P0_3337 m_3343 (by decide) (by decide) (by decide) (by decide) (by decide) (by decide) (by decide) (by decide) (by decide) (by decide) (by decide) (by decide) (by decide) (by decide) (by decide)) (dg_sm.uF (WF := [(0, 46)]) (WA := []) dg_sm.rf e_3348 sM_0 (by decide)) (by decide) (by decide) (by decide) (by decide) (by decide) (by decide) (by decide) (by decide) (by decide) (by decide) (by decide) (by decide) (by decide) (by decide) (by decide)) (dg_uF_at e_3348) (by omega)), (ZWM.keep (ZWM.keep (ZWM.keep (ZWM.keep w_3305_2 (dg_sm.uf (WF := []) (WA := [22]) dg_sm.rf e_3333 sM_22 (by decide)) (by decide) (by decide) (by decide) (by decide)) (dg_sm.uf (WF := []) (WA := [23]) dg_sm.rf e_3337 sM_23 (by decide)) (by decide) (by decide) (by decide) (by decide)) m_3343 (by decide) (by decide) (by decide) (by decide)) (dg_sm.uF (WF := [(0, 46)]) (WA := []) dg_sm.rf e_3348 sM_0 (by decide)) (by decide) (by decide) (by decide) (by decide)), trivial⟩ dX12_goesOn_517
                · have jc_3303 := dk_eqc (k := 0) (by decide +kernel) c_3303
                  clear w_3301_1
                  refine lv_aload_n hx hb dX12_goesOn_461 rfl (lv_at hl 3 rfl) ?_
                  refine lv_iconst (v := 1) hx hb dX12_goesOn_462 (by decide +kernel) ?_
                  refine lv_aload_n hx hb dX12_goesOn_463 rfl (lv_at hl 3 rfl) ?_
                  refine dg_get (C := RX12) (T := TX12) (N := 77) hx hb hts (fun w h => bw_mem (wU_X12 w h)) hown K hP sM_0 rfl 4 (by decide) (hts _ (bw_mem wB_1145)) (fun _ h9 => h9) (v := .int sa) ((m_2.1 0 4 _ sM_0 (by decide)).trans f_sa) dX12_goesOn_464 ?_
                  have hz_3354 : (1 : Int32).toInt = 1 := by decide +kernel
                  refine dg_callv hS hA1 hA (va_runV (As := [.int 1, .int sa]) (rest := []) F (c_m_blame l g D o S_2 1 (by decide +kernel) sa y_3 f_y_3 (by omega) I_2 H.size) (cwV 2 hts (bw_V wB_1137 wB_1138 wB_1139 wB_881 wB_1136) rfl rfl rfl (by decide +kernel) ⟨Nat.le_of_ble_eq_true rfl, Nat.le_of_ble_eq_true rfl⟩) (dg_preV sM_0 rfl K ST hP hS hA1 hA) rfl rfl hl.1 rfl (lv_room (Nat.le_of_ble_eq_true rfl)) dX12_goesOn_467 ⟨Nat.le_of_ble_eq_true rfl, Nat.le_of_ble_eq_true rfl⟩) (fun S_3355 hw_3355 H locs hP hS => ?_)
                  obtain ⟨I_3355, m_3355, w_3355_0, -⟩ := hw_3355
                  have M_3355 := dg_sm.tr M_2 m_3355 (by decide) (by decide)
                  have hz_3356 : (1 : Int32).toInt = 1 := by decide +kernel
                  obtain ⟨y_3357, f_y_3357, w_3355_0⟩ := w_3355_0
                  have w_3355_0 : ((y_3).toInt ≠ 0 → (y_3357).toInt = (y_3).toInt) ∧ ((y_3).toInt = 0 → (y_3357).toInt = ((1 : Int32)).toInt) := w_3355_0
                  have b_y_3357 : 0 ≤ (y_3357).toInt ∧ (y_3357).toInt ≤ 6 := dg_I.intb (lo := 0) (hi := 6) I_3355 sM_0 (by decide +kernel) f_y_3357
                  refine lv_aload_n hx hb dX12_goesOn_470 rfl (lv_at hl 3 rfl) ?_
                  refine dg_get (C := RX12) (T := TX12) (N := 77) hx hb hts (fun w h => bw_mem (wU_X12 w h)) hown K hP sM_0 rfl 8 (by decide) (hts _ (bw_mem wB_1133)) (fun _ h9 => h9) (v := .int y_3357) f_y_3357 dX12_goesOn_471 ?_
                  refine lv_if_le (tgt := 479) hx hb dX12_goesOn_474 (by decide) (fun c_3358 => ?_) (fun c_3358 => ?_)
                  · have jc_3358 := dk_lec (k := 0) (by decide +kernel) c_3358
                    refine lv_aload_n hx hb dX12_goesOn_479 rfl (lv_at hl 3 rfl) ?_
                    refine lv_iconst (v := 1) hx hb dX12_goesOn_480 (by decide +kernel) ?_
                    have hz_3359 : (1 : Int32).toInt = 1 := by decide +kernel
                    refine dg_callv hS hA1 hA (va_runV (As := [.int 1]) (rest := []) F (c_m_joins l g D o S_3355 1 (by decide +kernel) cd (((m_3355.1 0 34 _ sM_0 (by decide)).trans (m_2.1 0 34 _ sM_0 (by decide))).trans f_cd) (by omega) om (((m_3355.1 0 45 _ sM_0 (by decide)).trans (m_2.1 0 45 _ sM_0 (by decide))).trans f_om) (by omega) (by omega) (ZWM.keep (ZWM.keep ZW m_2 (by decide) (by decide) (by decide) (by decide)) m_3355 (by decide) (by decide) (by decide) (by decide)) (ZKM.keep (ZKM.keep ZK m_2 (by decide) (by decide)) m_3355 (by decide) (by decide)) (P1M.keep (P1M.keep P1 m_2 (by decide) (by decide) (by decide) (by decide) (by decide) (by decide) (by decide) (by decide) (by decide) (by decide) (by decide) (by decide) (by decide) (by decide) (by decide)) m_3355 (by decide) (by decide) (by decide) (by decide) (by decide) (by decide) (by decide) (by decide) (by decide) (by decide) (by decide) (by decide) (by decide) (by decide) (by decide)) I_3355 H.size) (cwV 1 hts (bw_V wB_1234 wB_1235 wB_1236 wB_881 wB_1233) rfl rfl rfl (by decide +kernel) ⟨Nat.le_of_ble_eq_true rfl, Nat.le_of_ble_eq_true rfl⟩) (dg_preV sM_0 rfl K ST hP hS hA1 hA) rfl rfl hl.1 rfl (lv_room (Nat.le_of_ble_eq_true rfl)) dX12_goesOn_481 ⟨Nat.le_of_ble_eq_true rfl, Nat.le_of_ble_eq_true rfl⟩) (fun S_3360 hw_3360 H locs hP hS => ?_)
                    obtain ⟨I_3360, m_3360, w_3360_0, w_3360_1, w_3360_2, w_3360_3, -⟩ := hw_3360
                    have M_3360 := dg_sm.tr M_3355 m_3360 (by decide) (by decide)
                    have hz_3361 : (1 : Int32).toInt = 1 := by decide +kernel
                    obtain ⟨y_3362, y_3363, f_y_3362, f_y_3363, w_3360_0⟩ := w_3360_0
                    have w_3360_0 : (y_3362).toInt + (y_3363).toInt = (cd).toInt + (om).toInt := w_3360_0
                    have b_y_3362 : 0 ≤ (y_3362).toInt ∧ (y_3362).toInt ≤ 1600 := dg_I.intb (lo := 0) (hi := 1600) I_3360 sM_0 (by decide +kernel) f_y_3362
                    have b_y_3363 : 0 ≤ (y_3363).toInt ∧ (y_3363).toInt ≤ 500 := dg_I.intb (lo := 0) (hi := 500) I_3360 sM_0 (by decide +kernel) f_y_3363
                    have w_3360_1 : TOPM S_3360 (1 : Int32) := w_3360_1
                    refine lv_aload_n hx hb dX12_goesOn_484 rfl (lv_at hl 3 rfl) ?_
                    refine dg_get (C := RX12) (T := TX12) (N := 77) hx hb hts (fun w h => bw_mem (wU_X12 w h)) hown K hP sM_0 rfl 37 (by decide) (hts _ (bw_mem wB_1213)) (fun _ h9 => h9) (v := .ref (o + 22)) (show S_3360.1 0 37 = .ref (o + 22) from dg_I.rel (d := 22) I_3360 sM_0 (by decide +kernel)) dX12_goesOn_485 ?_
                    refine lv_iload_n hx hb dX12_goesOn_488 rfl (lv_at hl 2 rfl) ?_
                    refine lv_iload_n hx hb dX12_goesOn_489 rfl (lv_at hl 1 rfl) ?_
                    refine lv_iconst (v := 3) hx hb dX12_goesOn_490 (by decide +kernel) ?_
                    refine lv_icmp_ne (tgt := 498) hx hb dX12_goesOn_491 (by decide) (fun c_3364 => ?_) (fun c_3364 => ?_)
                    · have jc_3364 := dk_neqc (k := 3) (by decide +kernel) c_3364
                      refine lv_iconst (v := 3) hx hb dX12_goesOn_498 (by decide +kernel) ?_
                      have hin_3365 : vp_in x_5 20 := (dk_inv (by omega) (by omega))
                      have hz_3367 : (3 : Int32).toInt = 3 := by decide +kernel
                      refine dg_iast hx hb K hP hS hA1 sM_22 hin_3365 dX12_goesOn_499 (fun S_3366 e_3366 H locs hP hS => ?_)
                      have I_3366 := dg_I.ufu (lo := 0) (hi := 6) I_3360 e_3366 sM_22 (by decide +kernel) (show 0 ≤ ((3 : Int32)).toInt ∧ ((3 : Int32)).toInt ≤ 6 from (by decide +kernel))
                      have M_3366 := dg_sm.uf M_3360 e_3366 sM_22 (by decide)
                      have hz_3368 : (3 : Int32).toInt = 3 := by decide +kernel
                      refine lv_aload_n hx hb dX12_goesOn_500 rfl (lv_at hl 3 rfl) ?_
                      refine dg_get (C := RX12) (T := TX12) (N := 77) hx hb hts (fun w h => bw_mem (wU_X12 w h)) hown K hP sM_0 rfl 38 (by decide) (hts _ (bw_mem wB_1214)) (fun _ h9 => h9) (v := .ref (o + 23)) (show S_3366.1 0 38 = .ref (o + 23) from dg_I.rel (d := 23) I_3366 sM_0 (by decide +kernel)) dX12_goesOn_501 ?_
                      refine lv_iload_n hx hb dX12_goesOn_504 rfl (lv_at hl 2 rfl) ?_
                      refine lv_iconst (v := 0) hx hb dX12_goesOn_505 (by decide +kernel) ?_
                      have hin_3369 : vp_in x_5 20 := (dk_inv (by omega) (by omega))
                      have hz_3371 : (0 : Int32).toInt = 0 := by decide +kernel
                      refine dg_iast hx hb K hP hS hA1 sM_23 hin_3369 dX12_goesOn_506 (fun S_3370 e_3370 H locs hP hS => ?_)
                      have I_3370 := dg_I.ufu (lo := 0) (hi := 2) I_3366 e_3370 sM_23 (by decide +kernel) (show 0 ≤ ((0 : Int32)).toInt ∧ ((0 : Int32)).toInt ≤ 2 from (by decide +kernel))
                      have M_3370 := dg_sm.uf M_3366 e_3370 sM_23 (by decide)
                      obtain ⟨x_3372, f_x_3372, b_x_3372⟩ := dg_I.int (i := 0) (k := 43) (lo := (-2147483648)) (hi := 2147483647) I_3360 sM_0 (by decide +kernel)
                      have hz_3373 : (0 : Int32).toInt = 0 := by decide +kernel
                      obtain ⟨x_3374, f_x_3374⟩ : ∃ x, S_3360.2.1 22 (x_5 : Int32).toNatClampNeg = x := ⟨_, rfl⟩
                      have hin_3375 : vp_in (x_5 : Int32) 20 := (dk_inv (by omega) (by omega))
                      have b_x_3374 := dk_all_at (dg_I.row (lo := 0) (hi := 6) I_3360 sM_22 (by decide +kernel)) hin_3375 f_x_3374.symm
                      have P0_3370 : P0M S_3370 := P1M.comma w_3360_3 (((m_3360.1 0 42 _ sM_0 (by decide)).trans ((m_3355.1 0 42 _ sM_0 (by decide)).trans (m_2.1 0 42 _ sM_0 (by decide)))).trans f_dp) f_x_3372 f_y_3363 w_3360_1 (by omega) (fx := x_5) (by omega) f_x_3374 (by omega) e_3366 e_3370
                      refine lv_aload_n hx hb dX12_goesOn_507 rfl (lv_at hl 3 rfl) ?_
                      refine dg_callv hS hA1 hA (va_runV (As := []) (rest := []) F (c_m_ahead l g D o S_3370 se (((dg_uf_F e_3370 0 5).trans ((dg_uf_F e_3366 0 5).trans ((m_3360.1 0 5 _ sM_0 (by decide)).trans ((m_3355.1 0 5 _ sM_0 (by decide)).trans (m_2.1 0 5 _ sM_0 (by decide)))))).trans f_se) (by omega) sl (((dg_uf_F e_3370 0 2).trans ((dg_uf_F e_3366 0 2).trans ((m_3360.1 0 2 _ sM_0 (by decide)).trans ((m_3355.1 0 2 _ sM_0 (by decide)).trans (m_2.1 0 2 _ sM_0 (by decide)))))).trans f_sl) (by omega) (by omega) I_3370 H.size) (cwV 0 hts (bw_V wB_1161 wB_1162 wB_1163 wB_881 wB_1160) rfl rfl rfl (by decide +kernel) ⟨Nat.le_of_ble_eq_true rfl, Nat.le_of_ble_eq_true rfl⟩) (dg_preV sM_0 rfl K ST hP hS hA1 hA) rfl rfl hl.1 rfl (lv_room (Nat.le_of_ble_eq_true rfl)) dX12_goesOn_508 ⟨Nat.le_of_ble_eq_true rfl, Nat.le_of_ble_eq_true rfl⟩) (fun S_3376 hw_3376 H locs hP hS => ?_)
                      obtain ⟨I_3376, m_3376, w_3376_0, -⟩ := hw_3376
                      have M_3376 := dg_sm.tr M_3370 m_3376 (by decide) (by decide)
                      obtain ⟨y_3377, y_3378, y_3379, f_y_3377, f_y_3378, f_y_3379, w_3376_0⟩ := w_3376_0
                      have w_3376_0 : (se).toInt ≤ (y_3378).toInt ∧ (y_3378).toInt ≤ (y_3379).toInt ∧ (y_3379).toInt ≤ (sl).toInt ∧ ((y_3377).toInt ≠ 0 → (y_3378).toInt + 1 ≤ (y_3379).toInt) := w_3376_0
                      have b_y_3377 : 0 ≤ (y_3377).toInt ∧ (y_3377).toInt ≤ 3 := dg_I.intb (lo := 0) (hi := 3) I_3376 sM_0 (by decide +kernel) f_y_3377
                      have b_y_3378 : 0 ≤ (y_3378).toInt ∧ (y_3378).toInt ≤ 1600 := dg_I.intb (lo := 0) (hi := 1600) I_3376 sM_0 (by decide +kernel) f_y_3378
                      have b_y_3379 : 0 ≤ (y_3379).toInt ∧ (y_3379).toInt ≤ 1600 := dg_I.intb (lo := 0) (hi := 1600) I_3376 sM_0 (by decide +kernel) f_y_3379
                      refine lv_aload_n hx hb dX12_goesOn_511 rfl (lv_at hl 3 rfl) ?_
                      refine lv_iconst (v := 0) hx hb dX12_goesOn_512 (by decide +kernel) ?_
                      have hz_3380 : (0 : Int32).toInt = 0 := by decide +kernel
                      refine dg_put (ci := 12) (v := .int 0) (ty := tyX12 46) (C := RX12) (T := TX12) (N := 77) hx hb hts (fun w h => bw_mem (wU_X12 w h)) tyX12 tyX12_ok nmX12 hown K hP hS hA1 sM_0 rfl 46 (by decide) (hts _ (bw_mem wB_1237)) (fun _ h9 => h9) rfl (by decide +kernel) (by decide +kernel) (by decide +kernel) dX12_goesOn_513 (fun S_3381 e_3381 H locs hP hS => ?_)
                      have I_3381 := dg_I.uFi (lo := 0) (hi := 1) I_3376 e_3381 sM_0 (by decide +kernel) (show 0 ≤ ((0 : Int32)).toInt ∧ ((0 : Int32)).toInt ≤ 1 from (by decide +kernel))
                      have M_3381 := dg_sm.uF M_3376 e_3381 sM_0 (by decide)
                      refine lv_iconst (v := 1) hx hb dX12_goesOn_516 (by decide +kernel) ?_
                      have hz_3382 : (1 : Int32).toInt = 1 := by decide +kernel
                      have hz_3383 : (1 : Int32).toInt = 1 := by decide +kernel
                      have hz_3384 : (0 : Int32).toInt = 0 := by decide +kernel
                      have hz_3385 : (1 : Int32).toInt = 1 := by decide +kernel
                      have hz_3386 : (0 : Int32).toInt = 0 := by decide +kernel
                      refine W.widen (k := 0) (n := 0) (Nat.le_of_ble_eq_true rfl) (Nat.le_of_ble_eq_true rfl) ?_
                      exact dg_iret hx hb hr hlocks (by decide +kernel) hP hS ⟨I_3381, M_3381, (by decide +kernel), ⟨y_3377, y_3378, y_3379, y_3357, y_3362, dp, y_3363, 0, ((dg_uF_ne e_3381 (fun z => absurd z.2 (by decide))).trans f_y_3377), ((dg_uF_ne e_3381 (fun z => absurd z.2 (by decide))).trans f_y_3378), ((dg_uF_ne e_3381 (fun z => absurd z.2 (by decide))).trans f_y_3379), (((dg_uF_ne e_3381 (fun z => absurd z.2 (by decide))).trans ((m_3376.1 0 8 _ sM_0 (by decide)).trans ((dg_uf_F e_3370 0 8).trans ((dg_uf_F e_3366 0 8).trans (m_3360.1 0 8 _ sM_0 (by decide)))))).trans f_y_3357), (((dg_uF_ne e_3381 (fun z => absurd z.2 (by decide))).trans ((m_3376.1 0 34 _ sM_0 (by decide)).trans ((dg_uf_F e_3370 0 34).trans (dg_uf_F e_3366 0 34)))).trans f_y_3362), (((dg_uF_ne e_3381 (fun z => absurd z.2 (by decide))).trans ((m_3376.1 0 42 _ sM_0 (by decide)).trans ((dg_uf_F e_3370 0 42).trans ((dg_uf_F e_3366 0 42).trans ((m_3360.1 0 42 _ sM_0 (by decide)).trans ((m_3355.1 0 42 _ sM_0 (by decide)).trans (m_2.1 0 42 _ sM_0 (by decide)))))))).trans f_dp), (((dg_uF_ne e_3381 (fun z => absurd z.2 (by decide))).trans ((m_3376.1 0 45 _ sM_0 (by decide)).trans ((dg_uf_F e_3370 0 45).trans (dg_uf_F e_3366 0 45)))).trans f_y_3363), (dg_uF_at e_3381), (by omega)⟩, (fun k9 hk9 hk0 => POM.mk0 (P0M.keep (P0M.keep P0_3370 m_3376 (by decide) (by decide) (by decide) (by decide) (by decide) (by decide) (by decide) (by decide) (by decide) (by decide) (by decide) (by decide) (by decide) (by decide) (by decide)) (dg_sm.uF (WF := [(0, 46)]) (WA := []) dg_sm.rf e_3381 sM_0 (by decide)) (by decide) (by decide) (by decide) (by decide) (by decide) (by decide) (by decide) (by decide) (by decide) (by decide) (by decide) (by decide) (by decide) (by decide) (by decide)) (dg_uF_at e_3381) (by omega)), (ZWM.keep (ZWM.keep (ZWM.keep (ZWM.keep w_3360_2 (dg_sm.uf (WF := []) (WA := [22]) dg_sm.rf e_3366 sM_22 (by decide)) (by decide) (by decide) (by decide) (by decide)) (dg_sm.uf (WF := []) (WA := [23]) dg_sm.rf e_3370 sM_23 (by decide)) (by decide) (by decide) (by decide) (by decide)) m_3376 (by decide) (by decide) (by decide) (by decide)) (dg_sm.uF (WF := [(0, 46)]) (WA := []) dg_sm.rf e_3381 sM_0 (by decide)) (by decide) (by decide) (by decide) (by decide)), trivial⟩ dX12_goesOn_517
                    · have jc_3364 := dk_eqc (k := 3) (by decide +kernel) c_3364
                      refine lv_iconst (v := 4) hx hb dX12_goesOn_494 (by decide +kernel) ?_
                      refine lv_goto (tgt := 499) hx hb dX12_goesOn_495 (by decide) ?_
                      have hin_3387 : vp_in x_5 20 := (dk_inv (by omega) (by omega))
                      have hz_3389 : (4 : Int32).toInt = 4 := by decide +kernel
                      refine dg_iast hx hb K hP hS hA1 sM_22 hin_3387 dX12_goesOn_499 (fun S_3388 e_3388 H locs hP hS => ?_)
                      have I_3388 := dg_I.ufu (lo := 0) (hi := 6) I_3360 e_3388 sM_22 (by decide +kernel) (show 0 ≤ ((4 : Int32)).toInt ∧ ((4 : Int32)).toInt ≤ 6 from (by decide +kernel))
                      have M_3388 := dg_sm.uf M_3360 e_3388 sM_22 (by decide)
                      have hz_3390 : (4 : Int32).toInt = 4 := by decide +kernel
                      refine lv_aload_n hx hb dX12_goesOn_500 rfl (lv_at hl 3 rfl) ?_
                      refine dg_get (C := RX12) (T := TX12) (N := 77) hx hb hts (fun w h => bw_mem (wU_X12 w h)) hown K hP sM_0 rfl 38 (by decide) (hts _ (bw_mem wB_1214)) (fun _ h9 => h9) (v := .ref (o + 23)) (show S_3388.1 0 38 = .ref (o + 23) from dg_I.rel (d := 23) I_3388 sM_0 (by decide +kernel)) dX12_goesOn_501 ?_
                      refine lv_iload_n hx hb dX12_goesOn_504 rfl (lv_at hl 2 rfl) ?_
                      refine lv_iconst (v := 0) hx hb dX12_goesOn_505 (by decide +kernel) ?_
                      have hin_3391 : vp_in x_5 20 := (dk_inv (by omega) (by omega))
                      have hz_3393 : (0 : Int32).toInt = 0 := by decide +kernel
                      refine dg_iast hx hb K hP hS hA1 sM_23 hin_3391 dX12_goesOn_506 (fun S_3392 e_3392 H locs hP hS => ?_)
                      have I_3392 := dg_I.ufu (lo := 0) (hi := 2) I_3388 e_3392 sM_23 (by decide +kernel) (show 0 ≤ ((0 : Int32)).toInt ∧ ((0 : Int32)).toInt ≤ 2 from (by decide +kernel))
                      have M_3392 := dg_sm.uf M_3388 e_3392 sM_23 (by decide)
                      obtain ⟨x_3394, f_x_3394, b_x_3394⟩ := dg_I.int (i := 0) (k := 43) (lo := (-2147483648)) (hi := 2147483647) I_3360 sM_0 (by decide +kernel)
                      have hz_3395 : (0 : Int32).toInt = 0 := by decide +kernel
                      obtain ⟨x_3396, f_x_3396⟩ : ∃ x, S_3360.2.1 22 (x_5 : Int32).toNatClampNeg = x := ⟨_, rfl⟩
                      have hin_3397 : vp_in (x_5 : Int32) 20 := (dk_inv (by omega) (by omega))
                      have b_x_3396 := dk_all_at (dg_I.row (lo := 0) (hi := 6) I_3360 sM_22 (by decide +kernel)) hin_3397 f_x_3396.symm
                      have P0_3392 : P0M S_3392 := P1M.comma w_3360_3 (((m_3360.1 0 42 _ sM_0 (by decide)).trans ((m_3355.1 0 42 _ sM_0 (by decide)).trans (m_2.1 0 42 _ sM_0 (by decide)))).trans f_dp) f_x_3394 f_y_3363 w_3360_1 (by omega) (fx := x_5) (by omega) f_x_3396 (by omega) e_3388 e_3392
                      refine lv_aload_n hx hb dX12_goesOn_507 rfl (lv_at hl 3 rfl) ?_
                      refine dg_callv hS hA1 hA (va_runV (As := []) (rest := []) F (c_m_ahead l g D o S_3392 se (((dg_uf_F e_3392 0 5).trans ((dg_uf_F e_3388 0 5).trans ((m_3360.1 0 5 _ sM_0 (by decide)).trans ((m_3355.1 0 5 _ sM_0 (by decide)).trans (m_2.1 0 5 _ sM_0 (by decide)))))).trans f_se) (by omega) sl (((dg_uf_F e_3392 0 2).trans ((dg_uf_F e_3388 0 2).trans ((m_3360.1 0 2 _ sM_0 (by decide)).trans ((m_3355.1 0 2 _ sM_0 (by decide)).trans (m_2.1 0 2 _ sM_0 (by decide)))))).trans f_sl) (by omega) (by omega) I_3392 H.size) (cwV 0 hts (bw_V wB_1161 wB_1162 wB_1163 wB_881 wB_1160) rfl rfl rfl (by decide +kernel) ⟨Nat.le_of_ble_eq_true rfl, Nat.le_of_ble_eq_true rfl⟩) (dg_preV sM_0 rfl K ST hP hS hA1 hA) rfl rfl hl.1 rfl (lv_room (Nat.le_of_ble_eq_true rfl)) dX12_goesOn_508 ⟨Nat.le_of_ble_eq_true rfl, Nat.le_of_ble_eq_true rfl⟩) (fun S_3398 hw_3398 H locs hP hS => ?_)
                      obtain ⟨I_3398, m_3398, w_3398_0, -⟩ := hw_3398
                      have M_3398 := dg_sm.tr M_3392 m_3398 (by decide) (by decide)
                      obtain ⟨y_3399, y_3400, y_3401, f_y_3399, f_y_3400, f_y_3401, w_3398_0⟩ := w_3398_0
                      have w_3398_0 : (se).toInt ≤ (y_3400).toInt ∧ (y_3400).toInt ≤ (y_3401).toInt ∧ (y_3401).toInt ≤ (sl).toInt ∧ ((y_3399).toInt ≠ 0 → (y_3400).toInt + 1 ≤ (y_3401).toInt) := w_3398_0
                      have b_y_3399 : 0 ≤ (y_3399).toInt ∧ (y_3399).toInt ≤ 3 := dg_I.intb (lo := 0) (hi := 3) I_3398 sM_0 (by decide +kernel) f_y_3399
                      have b_y_3400 : 0 ≤ (y_3400).toInt ∧ (y_3400).toInt ≤ 1600 := dg_I.intb (lo := 0) (hi := 1600) I_3398 sM_0 (by decide +kernel) f_y_3400
                      have b_y_3401 : 0 ≤ (y_3401).toInt ∧ (y_3401).toInt ≤ 1600 := dg_I.intb (lo := 0) (hi := 1600) I_3398 sM_0 (by decide +kernel) f_y_3401
                      refine lv_aload_n hx hb dX12_goesOn_511 rfl (lv_at hl 3 rfl) ?_
                      refine lv_iconst (v := 0) hx hb dX12_goesOn_512 (by decide +kernel) ?_
                      have hz_3402 : (0 : Int32).toInt = 0 := by decide +kernel
                      refine dg_put (ci := 12) (v := .int 0) (ty := tyX12 46) (C := RX12) (T := TX12) (N := 77) hx hb hts (fun w h => bw_mem (wU_X12 w h)) tyX12 tyX12_ok nmX12 hown K hP hS hA1 sM_0 rfl 46 (by decide) (hts _ (bw_mem wB_1237)) (fun _ h9 => h9) rfl (by decide +kernel) (by decide +kernel) (by decide +kernel) dX12_goesOn_513 (fun S_3403 e_3403 H locs hP hS => ?_)
                      have I_3403 := dg_I.uFi (lo := 0) (hi := 1) I_3398 e_3403 sM_0 (by decide +kernel) (show 0 ≤ ((0 : Int32)).toInt ∧ ((0 : Int32)).toInt ≤ 1 from (by decide +kernel))
                      have M_3403 := dg_sm.uF M_3398 e_3403 sM_0 (by decide)
                      refine lv_iconst (v := 1) hx hb dX12_goesOn_516 (by decide +kernel) ?_
                      have hz_3404 : (1 : Int32).toInt = 1 := by decide +kernel
                      have hz_3405 : (1 : Int32).toInt = 1 := by decide +kernel
                      have hz_3406 : (0 : Int32).toInt = 0 := by decide +kernel
                      have hz_3407 : (1 : Int32).toInt = 1 := by decide +kernel
                      have hz_3408 : (0 : Int32).toInt = 0 := by decide +kernel
                      refine W.widen (k := 0) (n := 0) (Nat.le_of_ble_eq_true rfl) (Nat.le_of_ble_eq_true rfl) ?_
                      exact dg_iret hx hb hr hlocks (by decide +kernel) hP hS ⟨I_3403, M_3403, (by decide +kernel), ⟨y_3399, y_3400, y_3401, y_3357, y_3362, dp, y_3363, 0, ((dg_uF_ne e_3403 (fun z => absurd z.2 (by decide))).trans f_y_3399), ((dg_uF_ne e_3403 (fun z => absurd z.2 (by decide))).trans f_y_3400), ((dg_uF_ne e_3403 (fun z => absurd z.2 (by decide))).trans f_y_3401), (((dg_uF_ne e_3403 (fun z => absurd z.2 (by decide))).trans ((m_3398.1 0 8 _ sM_0 (by decide)).trans ((dg_uf_F e_3392 0 8).trans ((dg_uf_F e_3388 0 8).trans (m_3360.1 0 8 _ sM_0 (by decide)))))).trans f_y_3357), (((dg_uF_ne e_3403 (fun z => absurd z.2 (by decide))).trans ((m_3398.1 0 34 _ sM_0 (by decide)).trans ((dg_uf_F e_3392 0 34).trans (dg_uf_F e_3388 0 34)))).trans f_y_3362), (((dg_uF_ne e_3403 (fun z => absurd z.2 (by decide))).trans ((m_3398.1 0 42 _ sM_0 (by decide)).trans ((dg_uf_F e_3392 0 42).trans ((dg_uf_F e_3388 0 42).trans ((m_3360.1 0 42 _ sM_0 (by decide)).trans ((m_3355.1 0 42 _ sM_0 (by decide)).trans (m_2.1 0 42 _ sM_0 (by decide)))))))).trans f_dp), (((dg_uF_ne e_3403 (fun z => absurd z.2 (by decide))).trans ((m_3398.1 0 45 _ sM_0 (by decide)).trans ((dg_uf_F e_3392 0 45).trans (dg_uf_F e_3388 0 45)))).trans f_y_3363), (dg_uF_at e_3403), (by omega)⟩, (fun k9 hk9 hk0 => POM.mk0 (P0M.keep (P0M.keep P0_3392 m_3398 (by decide) (by decide) (by decide) (by decide) (by decide) (by decide) (by decide) (by decide) (by decide) (by decide) (by decide) (by decide) (by decide) (by decide) (by decide)) (dg_sm.uF (WF := [(0, 46)]) (WA := []) dg_sm.rf e_3403 sM_0 (by decide)) (by decide) (by decide) (by decide) (by decide) (by decide) (by decide) (by decide) (by decide) (by decide) (by decide) (by decide) (by decide) (by decide) (by decide) (by decide)) (dg_uF_at e_3403) (by omega)), (ZWM.keep (ZWM.keep (ZWM.keep (ZWM.keep w_3360_2 (dg_sm.uf (WF := []) (WA := [22]) dg_sm.rf e_3388 sM_22 (by decide)) (by decide) (by decide) (by decide) (by decide)) (dg_sm.uf (WF := []) (WA := [23]) dg_sm.rf e_3392 sM_23 (by decide)) (by decide) (by decide) (by decide) (by decide)) m_3398 (by decide) (by decide) (by decide) (by decide)) (dg_sm.uF (WF := [(0, 46)]) (WA := []) dg_sm.rf e_3403 sM_0 (by decide)) (by decide) (by decide) (by decide) (by decide)), trivial⟩ dX12_goesOn_517
                  · have jc_3358 := dk_nlec (k := 0) (by decide +kernel) c_3358
                    refine lv_iconst (v := 0) hx hb dX12_goesOn_477 (by decide +kernel) ?_
                    have hz_3409 : (0 : Int32).toInt = 0 := by decide +kernel
                    have hz_3410 : (0 : Int32).toInt = 0 := by decide +kernel
                    have hz_3411 : (0 : Int32).toInt = 0 := by decide +kernel
                    refine W.widen (k := 0) (n := 0) (Nat.le_of_ble_eq_true rfl) (Nat.le_of_ble_eq_true rfl) ?_
                    exact dg_iret hx hb hr hlocks (by decide +kernel) hP hS ⟨I_3355, M_3355, (by decide +kernel), ⟨sg, sa, se, y_3357, cd, dp, om, oo, (((m_3355.1 0 3 _ sM_0 (by decide)).trans (m_2.1 0 3 _ sM_0 (by decide))).trans f_sg), (((m_3355.1 0 4 _ sM_0 (by decide)).trans (m_2.1 0 4 _ sM_0 (by decide))).trans f_sa), (((m_3355.1 0 5 _ sM_0 (by decide)).trans (m_2.1 0 5 _ sM_0 (by decide))).trans f_se), f_y_3357, (((m_3355.1 0 34 _ sM_0 (by decide)).trans (m_2.1 0 34 _ sM_0 (by decide))).trans f_cd), (((m_3355.1 0 42 _ sM_0 (by decide)).trans (m_2.1 0 42 _ sM_0 (by decide))).trans f_dp), (((m_3355.1 0 45 _ sM_0 (by decide)).trans (m_2.1 0 45 _ sM_0 (by decide))).trans f_om), (((m_3355.1 0 46 _ sM_0 (by decide)).trans (m_2.1 0 46 _ sM_0 (by decide))).trans f_oo), (by omega)⟩, (fun k9 hk9 hk0 => by have q9 := (f_y_3357).symm.trans hk9; cases q9; omega), (ZWM.keep (ZWM.keep ZW m_2 (by decide) (by decide) (by decide) (by decide)) m_3355 (by decide) (by decide) (by decide) (by decide)), trivial⟩ dX12_goesOn_478
              refine lv_icmp_eq (tgt := 452) hx hb dX12_goesOn_443 (by decide) (fun c_3412 => ?_) (fun c_3412 => ?_)
              · have jc_3412 := dk_eqc (k := 3) (by decide +kernel) c_3412
                exact J_3299  (by omega) _ _ hP hS _ (lv_sub hl [0, 1, 2, 3] rfl)
              · have jc_3412 := dk_neqc (k := 3) (by decide +kernel) c_3412
                refine lv_iload_n hx hb dX12_goesOn_446 rfl (lv_at hl 1 rfl) ?_
                refine lv_bipush (v := 6) hx hb dX12_goesOn_447 (by decide +kernel) ?_
                refine lv_icmp_ne (tgt := 518) hx hb dX12_goesOn_449 (by decide) (fun c_3413 => ?_) (fun c_3413 => ?_)
                · have jc_3413 := dk_neqc (k := 6) (by decide +kernel) c_3413
                  refine lv_aload_n hx hb dX12_goesOn_518 rfl (lv_at hl 3 rfl) ?_
                  refine lv_iload_n hx hb dX12_goesOn_519 rfl (lv_at hl 1 rfl) ?_
                  refine lv_iconst (v := 5) hx hb dX12_goesOn_520 (by decide +kernel) ?_
                  have J_3527 : ∀ (x_3415 : Int32), (41 ≤ (x_3415).toInt ∧ (x_3415).toInt ≤ 93) → ∀ (H : Heap) (locs : List Loc), va_P D vwCl (dg_w g shM o rfM S_2) H → va_S A s.heap H locs → ∀ ls : Array Slot, lv_has ls 5 [(3, .int x_8), (2, .int x_7), (1, .int x_5), (0, .ref (o + 0))] → W p l e ({ frames := 3, cells := 0, slots := 0, locals := 77 } : Room) s m args below meth c H locs 0 0 (MQ below (va_Qi (fun (r : Int32) S' => CM o S' ∧ dg_sm shM [(0, 3), (0, 4), (0, 5), (0, 6), (0, 7), (0, 8), (0, 9), (0, 12), (0, 34), (0, 42), (0, 43), (0, 45), (0, 46)] [18, 19, 22, 23, 24, 27] S S' ∧ (0 ≤ (r).toInt ∧ (r).toInt ≤ 1) ∧ (∃ y9_3 y9_4 y9_5 y9_8 y9_34 y9_42 y9_45 y9_46 : Int32, S'.1 0 3 = .int y9_3 ∧ S'.1 0 4 = .int y9_4 ∧ S'.1 0 5 = .int y9_5 ∧ S'.1 0 8 = .int y9_8 ∧ S'.1 0 34 = .int y9_34 ∧ S'.1 0 42 = .int y9_42 ∧ S'.1 0 45 = .int y9_45 ∧ S'.1 0 46 = .int y9_46 ∧ (((y9_4).toInt ≤ (y9_5).toInt ∧ (y9_5).toInt ≤ (sl).toInt ∧ ((y9_3).toInt ≠ 0 → (y9_4).toInt + 1 ≤ (y9_5).toInt)) ∧ (sa).toInt ≤ (y9_4).toInt ∧ ((fk).toInt ≠ 0 → (y9_8).toInt ≠ 0) ∧ (((y9_8).toInt = 0 → (r).toInt = 1 → (sa).toInt + 1 ≤ (y9_4).toInt) ∧ ((y9_8).toInt = 0 → (y9_34).toInt + (y9_45).toInt + (y9_42).toInt ≤ (y9_4).toInt)))) ∧ (∀ k9 : Int32, S'.1 0 8 = .int k9 → k9.toInt = 0 → POM S') ∧ ZWM S' ∧ True) (dg_B g D shM o rfM) A) args s 0 0 A) (F0 m 531 ls [.int x_3415, .ref (o + 0)]) := by
                    intro x_3415 b_x_3415 H locs hP hS ls hl
                    refine dg_calli hS hA1 hA (va_runV (As := [.int x_3415]) (rest := []) F (c_m_isSign l g D o S_2 x_3415 sg ((m_2.1 0 3 _ sM_0 (by decide)).trans f_sg) (by omega) va ((m_2.1 0 6 _ sM_0 (by decide)).trans f_va) (by omega) I_2 H.size) (cwV 1 hts (bw_V wB_1157 wB_1158 wB_1159 wB_881 wB_1156) rfl rfl rfl (by decide +kernel) ⟨Nat.le_of_ble_eq_true rfl, Nat.le_of_ble_eq_true rfl⟩) (dg_preV sM_0 rfl K ST hP hS hA1 hA) rfl rfl hl.1 rfl (lv_room (Nat.le_of_ble_eq_true rfl)) dX12_goesOn_531 ⟨Nat.le_of_ble_eq_true rfl, Nat.le_of_ble_eq_true rfl⟩) (fun x_3528 S_3529 hw_3529 H locs hP hS => ?_)
                    rw [hw_3529.1] at hP
                    obtain ⟨hq_3529, w_3529_0, w_3529_1, -⟩ := hw_3529
                    have w_3529_0 : 0 ≤ (x_3528).toInt ∧ (x_3528).toInt ≤ 1 := w_3529_0
                    have w_3529_1 : (x_3528).toInt = 1 ↔ ((sg).toInt = 3 ∧ (va).toInt = (x_3415).toInt) := w_3529_1
                    refine lv_if_ne (tgt := 546) hx hb dX12_goesOn_534 (by decide) (fun c_3530 => ?_) (fun c_3530 => ?_)
                    · have jc_3530 := dk_neqc (k := 0) (by decide +kernel) c_3530
                      have w_3529_1_r := w_3529_1.mp (by omega)
                      clear w_3529_1
                      refine lv_aload_n hx hb dX12_goesOn_546 rfl (lv_at hl 3 rfl) ?_
                      refine dg_get (C := RX12) (T := TX12) (N := 77) hx hb hts (fun w h => bw_mem (wU_X12 w h)) hown K hP sM_0 rfl 8 (by decide) (hts _ (bw_mem wB_1133)) (fun _ h9 => h9) (v := .int y_3) f_y_3 dX12_goesOn_547 ?_
                      refine lv_if_le (tgt := 555) hx hb dX12_goesOn_550 (by decide) (fun _ => ?_) (fun c => absurd (dk_lep (k := 0) (by decide +kernel) (by omega)) c)
                      refine lv_aload_n hx hb dX12_goesOn_555 rfl (lv_at hl 3 rfl) ?_
                      refine lv_iconst (v := 1) hx hb dX12_goesOn_556 (by decide +kernel) ?_
                      have hz_3531 : (1 : Int32).toInt = 1 := by decide +kernel
                      refine dg_callv hS hA1 hA (va_runV (As := [.int 1]) (rest := []) F (c_m_joins l g D o S_2 1 (by decide +kernel) cd ((m_2.1 0 34 _ sM_0 (by decide)).trans f_cd) (by omega) om ((m_2.1 0 45 _ sM_0 (by decide)).trans f_om) (by omega) (by omega) (ZWM.keep ZW m_2 (by decide) (by decide) (by decide) (by decide)) (ZKM.keep ZK m_2 (by decide) (by decide)) (P1M.keep P1 m_2 (by decide) (by decide) (by decide) (by decide) (by decide) (by decide) (by decide) (by decide) (by decide) (by decide) (by decide) (by decide) (by decide) (by decide) (by decide)) I_2 H.size) (cwV 1 hts (bw_V wB_1234 wB_1235 wB_1236 wB_881 wB_1233) rfl rfl rfl (by decide +kernel) ⟨Nat.le_of_ble_eq_true rfl, Nat.le_of_ble_eq_true rfl⟩) (dg_preV sM_0 rfl K ST hP hS hA1 hA) rfl rfl hl.1 rfl (lv_room (Nat.le_of_ble_eq_true rfl)) dX12_goesOn_557 ⟨Nat.le_of_ble_eq_true rfl, Nat.le_of_ble_eq_true rfl⟩) (fun S_3532 hw_3532 H locs hP hS => ?_)
                      obtain ⟨I_3532, m_3532, w_3532_0, w_3532_1, w_3532_2, w_3532_3, -⟩ := hw_3532
                      have M_3532 := dg_sm.tr M_2 m_3532 (by decide) (by decide)
                      have hz_3533 : (1 : Int32).toInt = 1 := by decide +kernel
                      obtain ⟨y_3534, y_3535, f_y_3534, f_y_3535, w_3532_0⟩ := w_3532_0
                      have w_3532_0 : (y_3534).toInt + (y_3535).toInt = (cd).toInt + (om).toInt := w_3532_0
                      have b_y_3534 : 0 ≤ (y_3534).toInt ∧ (y_3534).toInt ≤ 1600 := dg_I.intb (lo := 0) (hi := 1600) I_3532 sM_0 (by decide +kernel) f_y_3534
                      have b_y_3535 : 0 ≤ (y_3535).toInt ∧ (y_3535).toInt ≤ 500 := dg_I.intb (lo := 0) (hi := 500) I_3532 sM_0 (by decide +kernel) f_y_3535
                      have w_3532_1 : TOPM S_3532 (1 : Int32) := w_3532_1
                      obtain ⟨x_3536, f_x_3536, b_x_3536⟩ := dg_I.int (i := 0) (k := 43) (lo := (-2147483648)) (hi := 2147483647) I_3532 sM_0 (by decide +kernel)
                      have hkd := PSM.kind w_3532_3 (((m_3532.1 0 42 _ sM_0 (by decide)).trans (m_2.1 0 42 _ sM_0 (by decide))).trans f_dp) f_x_3536 f_y_3535 (fx := x_5) (by omega) ((congrFun (m_3532.2 22 _ sM_22 (by decide)).1 _).trans ex_7.symm) (rfl : S_3532.2.1 25 (x_5 : Int32).toNatClampNeg = _)
                      unfold dk_fk at hkd
                      have hcl9 := dk_clN x_5
                      refine lv_aload_n hx hb dX12_goesOn_560 rfl (lv_at hl 3 rfl) ?_
                      refine lv_dup hx hb dX12_goesOn_561 rfl ?_
                      refine dg_get (C := RX12) (T := TX12) (N := 77) hx hb hts (fun w h => bw_mem (wU_X12 w h)) hown K hP sM_0 rfl 42 (by decide) (hts _ (bw_mem wB_1203)) (fun _ h9 => h9) (v := .int dp) (((m_3532.1 0 42 _ sM_0 (by decide)).trans (m_2.1 0 42 _ sM_0 (by decide))).trans f_dp) dX12_goesOn_562 ?_
                      refine lv_iconst (v := 1) hx hb dX12_goesOn_565 (by decide +kernel) ?_
                      refine lv_isub hx hb dX12_goesOn_566 ?_
                      refine lv_topi (fun x_3537 ex_3537 => ?_)
                      have jx_3537 : (x_3537).toInt = (dp).toInt - 1 := by rw [ex_3537]; exact dk_subT rfl (by decide +kernel) (by omega) (by omega)
                      refine dg_put (ci := 12) (v := .int x_3537) (ty := tyX12 42) (C := RX12) (T := TX12) (N := 77) hx hb hts (fun w h => bw_mem (wU_X12 w h)) tyX12 tyX12_ok nmX12 hown K hP hS hA1 sM_0 rfl 42 (by decide) (hts _ (bw_mem wB_1203)) (fun _ h9 => h9) rfl (by decide +kernel) rfl rfl dX12_goesOn_567 (fun S_3538 e_3538 H locs hP hS => ?_)
                      have I_3538 := dg_I.uFi (lo := 0) (hi := 20) I_3532 e_3538 sM_0 (by decide +kernel) (show 0 ≤ (x_3537).toInt ∧ (x_3537).toInt ≤ 20 from (by omega))
                      have M_3538 := dg_sm.uF M_3532 e_3538 sM_0 (by decide)
                      refine lv_aload_n hx hb dX12_goesOn_570 rfl (lv_at hl 3 rfl) ?_
                      refine lv_dup hx hb dX12_goesOn_571 rfl ?_
                      refine dg_get (C := RX12) (T := TX12) (N := 77) hx hb hts (fun w h => bw_mem (wU_X12 w h)) hown K hP sM_0 rfl 43 (by decide) (hts _ (bw_mem wB_1212)) (fun _ h9 => h9) (v := .int x_3536) ((dg_uF_ne e_3538 (fun z => absurd z.2 (by decide))).trans f_x_3536) dX12_goesOn_572 ?_
                      refine lv_iconst (v := 1) hx hb dX12_goesOn_575 (by decide +kernel) ?_
                      refine lv_isub hx hb dX12_goesOn_576 ?_
                      refine lv_topi (fun x_3539 ex_3539 => ?_)
                      refine dg_put (ci := 12) (v := .int x_3539) (ty := tyX12 43) (C := RX12) (T := TX12) (N := 77) hx hb hts (fun w h => bw_mem (wU_X12 w h)) tyX12 tyX12_ok nmX12 hown K hP hS hA1 sM_0 rfl 43 (by decide) (hts _ (bw_mem wB_1212)) (fun _ h9 => h9) rfl (by decide +kernel) rfl rfl dX12_goesOn_577 (fun S_3540 e_3540 H locs hP hS => ?_)
                      have I_3540 := dg_I.uFi (lo := (-2147483648)) (hi := 2147483647) I_3538 e_3540 sM_0 (by decide +kernel) (show (-2147483648) ≤ (x_3539).toInt ∧ (x_3539).toInt ≤ 2147483647 from (dk_full _))
                      have M_3540 := dg_sm.uF M_3538 e_3540 sM_0 (by decide)
                      refine lv_iload_n hx hb dX12_goesOn_580 rfl (lv_at hl 1 rfl) ?_
                      refine lv_iconst (v := 4) hx hb dX12_goesOn_581 (by decide +kernel) ?_
                      refine lv_icmp_ne (tgt := 596) hx hb dX12_goesOn_582 (by decide) (fun c_3541 => ?_) (fun c_3541 => ?_)
                      · have jc_3541 := dk_neqc (k := 4) (by decide +kernel) c_3541
                        obtain ⟨x_3542, f_x_3542, b_x_3542⟩ := dg_I.int (i := 0) (k := 42) (lo := 0) (hi := 20) I_3532 sM_0 (by decide +kernel)
                        obtain ⟨x_3543, f_x_3543, b_x_3543⟩ := dg_I.int (i := 0) (k := 43) (lo := (-2147483648)) (hi := 2147483647) I_3532 sM_0 (by decide +kernel)
                        have P1_3540 : P1M S_3540 := P1M.close2 w_3532_3 f_x_3542 f_x_3543 f_y_3535 w_3532_1 (by omega) (fx := x_5) (by omega) ((congrFun (m_3532.2 22 _ sM_22 (by decide)).1 _).trans ex_7.symm) (by omega) e_3538 (by omega) e_3540 (by omega)
                        refine lv_iload_n hx hb dX12_goesOn_596 rfl (lv_at hl 1 rfl) ?_
                        refine lv_iconst (v := 5) hx hb dX12_goesOn_597 (by decide +kernel) ?_
                        refine lv_icmp_ne (tgt := 613) hx hb dX12_goesOn_598 (by decide) (fun c_3544 => ?_) (fun c_3544 => ?_)
                        · have jc_3544 := dk_neqc (k := 5) (by decide +kernel) c_3544
                          refine lv_aload_n hx hb dX12_goesOn_613 rfl (lv_at hl 3 rfl) ?_
                          refine dg_callv hS hA1 hA (va_runV (As := []) (rest := []) F (c_m_ahead l g D o S_3540 se (((dg_uF_ne e_3540 (fun z => absurd z.2 (by decide))).trans ((dg_uF_ne e_3538 (fun z => absurd z.2 (by decide))).trans ((m_3532.1 0 5 _ sM_0 (by decide)).trans (m_2.1 0 5 _ sM_0 (by decide))))).trans f_se) (by omega) sl (((dg_uF_ne e_3540 (fun z => absurd z.2 (by decide))).trans ((dg_uF_ne e_3538 (fun z => absurd z.2 (by decide))).trans ((m_3532.1 0 2 _ sM_0 (by decide)).trans (m_2.1 0 2 _ sM_0 (by decide))))).trans f_sl) (by omega) (by omega) I_3540 H.size) (cwV 0 hts (bw_V wB_1161 wB_1162 wB_1163 wB_881 wB_1160) rfl rfl rfl (by decide +kernel) ⟨Nat.le_of_ble_eq_true rfl, Nat.le_of_ble_eq_true rfl⟩) (dg_preV sM_0 rfl K ST hP hS hA1 hA) rfl rfl hl.1 rfl (lv_room (Nat.le_of_ble_eq_true rfl)) dX12_goesOn_614 ⟨Nat.le_of_ble_eq_true rfl, Nat.le_of_ble_eq_true rfl⟩) (fun S_3545 hw_3545 H locs hP hS => ?_)
                          obtain ⟨I_3545, m_3545, w_3545_0, -⟩ := hw_3545
                          have M_3545 := dg_sm.tr M_3540 m_3545 (by decide) (by decide)
                          obtain ⟨y_3546, y_3547, y_3548, f_y_3546, f_y_3547, f_y_3548, w_3545_0⟩ := w_3545_0
                          have w_3545_0 : (se).toInt ≤ (y_3547).toInt ∧ (y_3547).toInt ≤ (y_3548).toInt ∧ (y_3548).toInt ≤ (sl).toInt ∧ ((y_3546).toInt ≠ 0 → (y_3547).toInt + 1 ≤ (y_3548).toInt) := w_3545_0
                          have b_y_3546 : 0 ≤ (y_3546).toInt ∧ (y_3546).toInt ≤ 3 := dg_I.intb (lo := 0) (hi := 3) I_3545 sM_0 (by decide +kernel) f_y_3546
                          have b_y_3547 : 0 ≤ (y_3547).toInt ∧ (y_3547).toInt ≤ 1600 := dg_I.intb (lo := 0) (hi := 1600) I_3545 sM_0 (by decide +kernel) f_y_3547
                          have b_y_3548 : 0 ≤ (y_3548).toInt ∧ (y_3548).toInt ≤ 1600 := dg_I.intb (lo := 0) (hi := 1600) I_3545 sM_0 (by decide +kernel) f_y_3548
                          refine lv_iconst (v := 1) hx hb dX12_goesOn_617 (by decide +kernel) ?_
                          have hz_3549 : (1 : Int32).toInt = 1 := by decide +kernel
                          have hz_3550 : (1 : Int32).toInt = 1 := by decide +kernel
                          obtain ⟨x_3551, f_x_3551, b_x_3551⟩ := dg_I.int (i := 0) (k := 42) (lo := 0) (hi := 20) I_3545 sM_0 (by decide +kernel)
                          have hz_3552 : (1 : Int32).toInt = 1 := by decide +kernel
                          refine W.widen (k := 0) (n := 0) (Nat.le_of_ble_eq_true rfl) (Nat.le_of_ble_eq_true rfl) ?_
                          exact dg_iret hx hb hr hlocks (by decide +kernel) hP hS ⟨I_3545, M_3545, (by decide +kernel), ⟨y_3546, y_3547, y_3548, y_3, y_3534, x_3551, y_3535, oo, f_y_3546, f_y_3547, f_y_3548, (((m_3545.1 0 8 _ sM_0 (by decide)).trans ((dg_uF_ne e_3540 (fun z => absurd z.2 (by decide))).trans ((dg_uF_ne e_3538 (fun z => absurd z.2 (by decide))).trans (m_3532.1 0 8 _ sM_0 (by decide))))).trans f_y_3), (((m_3545.1 0 34 _ sM_0 (by decide)).trans ((dg_uF_ne e_3540 (fun z => absurd z.2 (by decide))).trans (dg_uF_ne e_3538 (fun z => absurd z.2 (by decide))))).trans f_y_3534), f_x_3551, (((m_3545.1 0 45 _ sM_0 (by decide)).trans ((dg_uF_ne e_3540 (fun z => absurd z.2 (by decide))).trans (dg_uF_ne e_3538 (fun z => absurd z.2 (by decide))))).trans f_y_3535), (((m_3545.1 0 46 _ sM_0 (by decide)).trans ((dg_uF_ne e_3540 (fun z => absurd z.2 (by decide))).trans ((dg_uF_ne e_3538 (fun z => absurd z.2 (by decide))).trans ((m_3532.1 0 46 _ sM_0 (by decide)).trans (m_2.1 0 46 _ sM_0 (by decide)))))).trans f_oo), (by omega)⟩, (fun k9 hk9 hk0 => POM.mk1 (P1M.keep P1_3540 m_3545 (by decide) (by decide) (by decide) (by decide) (by decide) (by decide) (by decide) (by decide) (by decide) (by decide) (by decide) (by decide) (by decide) (by decide) (by decide)) (((m_3545.1 0 46 _ sM_0 (by decide)).trans ((dg_uF_ne e_3540 (fun z => absurd z.2 (by decide))).trans ((dg_uF_ne e_3538 (fun z => absurd z.2 (by decide))).trans ((m_3532.1 0 46 _ sM_0 (by decide)).trans (m_2.1 0 46 _ sM_0 (by decide)))))).trans f_oo) (by omega)), (ZWM.keep (ZWM.keep (ZWM.keep w_3532_2 (dg_sm.uF (WF := [(0, 42)]) (WA := []) dg_sm.rf e_3538 sM_0 (by decide)) (by decide) (by decide) (by decide) (by decide)) (dg_sm.uF (WF := [(0, 43)]) (WA := []) dg_sm.rf e_3540 sM_0 (by decide)) (by decide) (by decide) (by decide) (by decide)) m_3545 (by decide) (by decide) (by decide) (by decide)), trivial⟩ dX12_goesOn_618
                        · have jc_3544 := dk_eqc (k := 5) (by decide +kernel) c_3544
                          refine lv_aload_n hx hb dX12_goesOn_601 rfl (lv_at hl 3 rfl) ?_
                          refine dg_get (C := RX12) (T := TX12) (N := 77) hx hb hts (fun w h => bw_mem (wU_X12 w h)) hown K hP sM_0 rfl 38 (by decide) (hts _ (bw_mem wB_1214)) (fun _ h9 => h9) (v := .ref (o + 23)) (show S_3540.1 0 38 = .ref (o + 23) from dg_I.rel (d := 23) I_3540 sM_0 (by decide +kernel)) dX12_goesOn_602 ?_
                          refine lv_aload_n hx hb dX12_goesOn_605 rfl (lv_at hl 3 rfl) ?_
                          obtain ⟨x_3553, f_x_3553, b_x_3553⟩ := dg_I.int (i := 0) (k := 42) (lo := 0) (hi := 20) I_3540 sM_0 (by decide +kernel)
                          refine dg_get (C := RX12) (T := TX12) (N := 77) hx hb hts (fun w h => bw_mem (wU_X12 w h)) hown K hP sM_0 rfl 42 (by decide) (hts _ (bw_mem wB_1203)) (fun _ h9 => h9) (v := .int x_3553) f_x_3553 dX12_goesOn_606 ?_
                          refine lv_iconst (v := 1) hx hb dX12_goesOn_609 (by decide +kernel) ?_
                          refine lv_isub hx hb dX12_goesOn_610 ?_
                          refine lv_topi (fun x_3554 ex_3554 => ?_)
                          have jx_3554 : (x_3554).toInt = (x_3553).toInt - 1 := by rw [ex_3554]; exact dk_subT rfl (by decide +kernel) (by omega) (by omega)
                          refine lv_iconst (v := 2) hx hb dX12_goesOn_611 (by decide +kernel) ?_
                          have hin_3555 : vp_in x_3554 20 := (dk_inv (by omega) (by omega))
                          have hz_3557 : (2 : Int32).toInt = 2 := by decide +kernel
                          refine dg_iast hx hb K hP hS hA1 sM_23 hin_3555 dX12_goesOn_612 (fun S_3556 e_3556 H locs hP hS => ?_)
                          have I_3556 := dg_I.ufu (lo := 0) (hi := 2) I_3540 e_3556 sM_23 (by decide +kernel) (show 0 ≤ ((2 : Int32)).toInt ∧ ((2 : Int32)).toInt ≤ 2 from (by decide +kernel))
                          have M_3556 := dg_sm.uf M_3540 e_3556 sM_23 (by decide)
                          have hz_3558 : (2 : Int32).toInt = 2 := by decide +kernel
                          have P1_3556 : P1M S_3556 := P1M.close5 P1_3540 f_x_3553 (by omega) (by omega) (by omega) e_3556
                          refine lv_aload_n hx hb dX12_goesOn_613 rfl (lv_at hl 3 rfl) ?_
                          refine dg_callv hS hA1 hA (va_runV (As := []) (rest := []) F (c_m_ahead l g D o S_3556 se (((dg_uf_F e_3556 0 5).trans ((dg_uF_ne e_3540 (fun z => absurd z.2 (by decide))).trans ((dg_uF_ne e_3538 (fun z => absurd z.2 (by decide))).trans ((m_3532.1 0 5 _ sM_0 (by decide)).trans (m_2.1 0 5 _ sM_0 (by decide)))))).trans f_se) (by omega) sl (((dg_uf_F e_3556 0 2).trans ((dg_uF_ne e_3540 (fun z => absurd z.2 (by decide))).trans ((dg_uF_ne e_3538 (fun z => absurd z.2 (by decide))).trans ((m_3532.1 0 2 _ sM_0 (by decide)).trans (m_2.1 0 2 _ sM_0 (by decide)))))).trans f_sl) (by omega) (by omega) I_3556 H.size) (cwV 0 hts (bw_V wB_1161 wB_1162 wB_1163 wB_881 wB_1160) rfl rfl rfl (by decide +kernel) ⟨Nat.le_of_ble_eq_true rfl, Nat.le_of_ble_eq_true rfl⟩) (dg_preV sM_0 rfl K ST hP hS hA1 hA) rfl rfl hl.1 rfl (lv_room (Nat.le_of_ble_eq_true rfl)) dX12_goesOn_614 ⟨Nat.le_of_ble_eq_true rfl, Nat.le_of_ble_eq_true rfl⟩) (fun S_3559 hw_3559 H locs hP hS => ?_)
                          obtain ⟨I_3559, m_3559, w_3559_0, -⟩ := hw_3559
                          have M_3559 := dg_sm.tr M_3556 m_3559 (by decide) (by decide)
                          obtain ⟨y_3560, y_3561, y_3562, f_y_3560, f_y_3561, f_y_3562, w_3559_0⟩ := w_3559_0
                          have w_3559_0 : (se).toInt ≤ (y_3561).toInt ∧ (y_3561).toInt ≤ (y_3562).toInt ∧ (y_3562).toInt ≤ (sl).toInt ∧ ((y_3560).toInt ≠ 0 → (y_3561).toInt + 1 ≤ (y_3562).toInt) := w_3559_0
                          have b_y_3560 : 0 ≤ (y_3560).toInt ∧ (y_3560).toInt ≤ 3 := dg_I.intb (lo := 0) (hi := 3) I_3559 sM_0 (by decide +kernel) f_y_3560
                          have b_y_3561 : 0 ≤ (y_3561).toInt ∧ (y_3561).toInt ≤ 1600 := dg_I.intb (lo := 0) (hi := 1600) I_3559 sM_0 (by decide +kernel) f_y_3561
                          have b_y_3562 : 0 ≤ (y_3562).toInt ∧ (y_3562).toInt ≤ 1600 := dg_I.intb (lo := 0) (hi := 1600) I_3559 sM_0 (by decide +kernel) f_y_3562
                          refine lv_iconst (v := 1) hx hb dX12_goesOn_617 (by decide +kernel) ?_
                          have hz_3563 : (1 : Int32).toInt = 1 := by decide +kernel
                          have hz_3564 : (1 : Int32).toInt = 1 := by decide +kernel
                          have hz_3565 : (1 : Int32).toInt = 1 := by decide +kernel
                          refine W.widen (k := 0) (n := 0) (Nat.le_of_ble_eq_true rfl) (Nat.le_of_ble_eq_true rfl) ?_
                          exact dg_iret hx hb hr hlocks (by decide +kernel) hP hS ⟨I_3559, M_3559, (by decide +kernel), ⟨y_3560, y_3561, y_3562, y_3, y_3534, x_3553, y_3535, oo, f_y_3560, f_y_3561, f_y_3562, (((m_3559.1 0 8 _ sM_0 (by decide)).trans ((dg_uf_F e_3556 0 8).trans ((dg_uF_ne e_3540 (fun z => absurd z.2 (by decide))).trans ((dg_uF_ne e_3538 (fun z => absurd z.2 (by decide))).trans (m_3532.1 0 8 _ sM_0 (by decide)))))).trans f_y_3), (((m_3559.1 0 34 _ sM_0 (by decide)).trans ((dg_uf_F e_3556 0 34).trans ((dg_uF_ne e_3540 (fun z => absurd z.2 (by decide))).trans (dg_uF_ne e_3538 (fun z => absurd z.2 (by decide)))))).trans f_y_3534), (((m_3559.1 0 42 _ sM_0 (by decide)).trans (dg_uf_F e_3556 0 42)).trans f_x_3553), (((m_3559.1 0 45 _ sM_0 (by decide)).trans ((dg_uf_F e_3556 0 45).trans ((dg_uF_ne e_3540 (fun z => absurd z.2 (by decide))).trans (dg_uF_ne e_3538 (fun z => absurd z.2 (by decide)))))).trans f_y_3535), (((m_3559.1 0 46 _ sM_0 (by decide)).trans ((dg_uf_F e_3556 0 46).trans ((dg_uF_ne e_3540 (fun z => absurd z.2 (by decide))).trans ((dg_uF_ne e_3538 (fun z => absurd z.2 (by decide))).trans ((m_3532.1 0 46 _ sM_0 (by decide)).trans (m_2.1 0 46 _ sM_0 (by decide))))))).trans f_oo), (by omega)⟩, (fun k9 hk9 hk0 => POM.mk1 (P1M.keep P1_3556 m_3559 (by decide) (by decide) (by decide) (by decide) (by decide) (by decide) (by decide) (by decide) (by decide) (by decide) (by decide) (by decide) (by decide) (by decide) (by decide)) (((m_3559.1 0 46 _ sM_0 (by decide)).trans ((dg_uf_F e_3556 0 46).trans ((dg_uF_ne e_3540 (fun z => absurd z.2 (by decide))).trans ((dg_uF_ne e_3538 (fun z => absurd z.2 (by decide))).trans ((m_3532.1 0 46 _ sM_0 (by decide)).trans (m_2.1 0 46 _ sM_0 (by decide))))))).trans f_oo) (by omega)), (ZWM.keep (ZWM.keep (ZWM.keep (ZWM.keep w_3532_2 (dg_sm.uF (WF := [(0, 42)]) (WA := []) dg_sm.rf e_3538 sM_0 (by decide)) (by decide) (by decide) (by decide) (by decide)) (dg_sm.uF (WF := [(0, 43)]) (WA := []) dg_sm.rf e_3540 sM_0 (by decide)) (by decide) (by decide) (by decide) (by decide)) (dg_sm.uf (WF := []) (WA := [23]) dg_sm.rf e_3556 sM_23 (by decide)) (by decide) (by decide) (by decide) (by decide)) m_3559 (by decide) (by decide) (by decide) (by decide)), trivial⟩ dX12_goesOn_618
                      · have jc_3541 := dk_eqc (k := 4) (by decide +kernel) c_3541
                        refine lv_aload_n hx hb dX12_goesOn_585 rfl (lv_at hl 3 rfl) ?_
                        refine lv_aload_n hx hb dX12_goesOn_586 rfl (lv_at hl 3 rfl) ?_
                        refine dg_get (C := RX12) (T := TX12) (N := 77) hx hb hts (fun w h => bw_mem (wU_X12 w h)) hown K hP sM_0 rfl 40 (by decide) (hts _ (bw_mem wB_1232)) (fun _ h9 => h9) (v := .ref (o + 25)) (show S_3540.1 0 40 = .ref (o + 25) from dg_I.rel (d := 25) I_3540 sM_0 (by decide +kernel)) dX12_goesOn_587 ?_
                        refine lv_iload_n hx hb dX12_goesOn_590 rfl (lv_at hl 2 rfl) ?_
                        have hin_3566 : vp_in x_5 20 := (dk_inv (by omega) (by omega))
                        refine dg_iald hx hb K hP sM_25 hin_3566 dX12_goesOn_591 (fun x_3567 ex_3567 => ?_)
                        have hp25_x_3567 : S_3532.2.1 25 (x_5 : Int32).toNatClampNeg = x_3567 := by rw [ex_3567, (((dg_uF_f e_3540 25).trans (dg_uF_f e_3538 25)))]
                        rw [hp25_x_3567] at hkd
                        refine lv_iconst (v := 0) hx hb dX12_goesOn_592 (by decide +kernel) ?_
                        refine dg_callv hS hA1 hA (va_runV (As := [.int x_3567, .int 0]) (rest := []) F (c_m_add l g D o S_3540 x_3567 (by omega) 0 y_3534 (((dg_uF_ne e_3540 (fun z => absurd z.2 (by decide))).trans (dg_uF_ne e_3538 (fun z => absurd z.2 (by decide)))).trans f_y_3534) (by omega) (ZWM.keep (ZWM.keep w_3532_2 (dg_sm.uF (WF := [(0, 42)]) (WA := []) dg_sm.rf e_3538 sM_0 (by decide)) (by decide) (by decide) (by decide) (by decide)) (dg_sm.uF (WF := [(0, 43)]) (WA := []) dg_sm.rf e_3540 sM_0 (by decide)) (by decide) (by decide) (by decide) (by decide)) (ZKM.keep (ZKM.keep (ZKM.keep (ZKM.keep ZK m_2 (by decide) (by decide)) m_3532 (by decide) (by decide)) (dg_sm.uF (WF := [(0, 42)]) (WA := []) dg_sm.rf e_3538 sM_0 (by decide)) (by decide) (by decide)) (dg_sm.uF (WF := [(0, 43)]) (WA := []) dg_sm.rf e_3540 sM_0 (by decide)) (by decide) (by decide)) I_3540 H.size) (cwV 2 hts (bw_V wB_1209 wB_1210 wB_1211 wB_881 wB_1208) rfl rfl rfl (by decide +kernel) ⟨Nat.le_of_ble_eq_true rfl, Nat.le_of_ble_eq_true rfl⟩) (dg_preV sM_0 rfl K ST hP hS hA1 hA) rfl rfl hl.1 rfl (lv_room (Nat.le_of_ble_eq_true rfl)) dX12_goesOn_593 ⟨Nat.le_of_ble_eq_true rfl, Nat.le_of_ble_eq_true rfl⟩) (fun S_3568 hw_3568 H locs hP hS => ?_)
                        obtain ⟨I_3568, m_3568, w_3568_0, w_3568_1, w_3568_2, -⟩ := hw_3568
                        have M_3568 := dg_sm.tr M_3540 m_3568 (by decide) (by decide)
                        have hz_3569 : (0 : Int32).toInt = 0 := by decide +kernel
                        obtain ⟨y_3570, f_y_3570, w_3568_0⟩ := w_3568_0
                        have w_3568_0 : (y_3570).toInt = (y_3534).toInt + 1 := w_3568_0
                        have b_y_3570 : 0 ≤ (y_3570).toInt ∧ (y_3570).toInt ≤ 1600 := dg_I.intb (lo := 0) (hi := 1600) I_3568 sM_0 (by decide +kernel) f_y_3570
                        have w_3568_1 : ADM S_3540 S_3568 x_3567 := w_3568_1
                        obtain ⟨x_3571, f_x_3571, b_x_3571⟩ := dg_I.int (i := 0) (k := 42) (lo := 0) (hi := 20) I_3532 sM_0 (by decide +kernel)
                        obtain ⟨x_3572, f_x_3572, b_x_3572⟩ := dg_I.int (i := 0) (k := 43) (lo := (-2147483648)) (hi := 2147483647) I_3532 sM_0 (by decide +kernel)
                        have P1_3568 : P1M S_3568 := P1M.close4 w_3532_3 f_x_3571 f_x_3572 f_y_3535 w_3532_1 (by omega) (fx := x_5) (by omega) ((congrFun (m_3532.2 22 _ sM_22 (by decide)).1 _).trans ex_7.symm) (by omega) e_3538 (by omega) e_3540 (by omega) hp25_x_3567 m_3568 w_3568_1
                        refine lv_iload_n hx hb dX12_goesOn_596 rfl (lv_at hl 1 rfl) ?_
                        refine lv_iconst (v := 5) hx hb dX12_goesOn_597 (by decide +kernel) ?_
                        refine lv_icmp_ne (tgt := 613) hx hb dX12_goesOn_598 (by decide) (fun _ => ?_) (fun c => absurd c (fun z => absurd (dk_eqc (k := 5) (by decide +kernel) z) (by omega)))
                        refine lv_aload_n hx hb dX12_goesOn_613 rfl (lv_at hl 3 rfl) ?_
                        refine dg_callv hS hA1 hA (va_runV (As := []) (rest := []) F (c_m_ahead l g D o S_3568 se (((m_3568.1 0 5 _ sM_0 (by decide)).trans ((dg_uF_ne e_3540 (fun z => absurd z.2 (by decide))).trans ((dg_uF_ne e_3538 (fun z => absurd z.2 (by decide))).trans ((m_3532.1 0 5 _ sM_0 (by decide)).trans (m_2.1 0 5 _ sM_0 (by decide)))))).trans f_se) (by omega) sl (((m_3568.1 0 2 _ sM_0 (by decide)).trans ((dg_uF_ne e_3540 (fun z => absurd z.2 (by decide))).trans ((dg_uF_ne e_3538 (fun z => absurd z.2 (by decide))).trans ((m_3532.1 0 2 _ sM_0 (by decide)).trans (m_2.1 0 2 _ sM_0 (by decide)))))).trans f_sl) (by omega) (by omega) I_3568 H.size) (cwV 0 hts (bw_V wB_1161 wB_1162 wB_1163 wB_881 wB_1160) rfl rfl rfl (by decide +kernel) ⟨Nat.le_of_ble_eq_true rfl, Nat.le_of_ble_eq_true rfl⟩) (dg_preV sM_0 rfl K ST hP hS hA1 hA) rfl rfl hl.1 rfl (lv_room (Nat.le_of_ble_eq_true rfl)) dX12_goesOn_614 ⟨Nat.le_of_ble_eq_true rfl, Nat.le_of_ble_eq_true rfl⟩) (fun S_3573 hw_3573 H locs hP hS => ?_)
                        obtain ⟨I_3573, m_3573, w_3573_0, -⟩ := hw_3573
                        have M_3573 := dg_sm.tr M_3568 m_3573 (by decide) (by decide)
                        obtain ⟨y_3574, y_3575, y_3576, f_y_3574, f_y_3575, f_y_3576, w_3573_0⟩ := w_3573_0
                        have w_3573_0 : (se).toInt ≤ (y_3575).toInt ∧ (y_3575).toInt ≤ (y_3576).toInt ∧ (y_3576).toInt ≤ (sl).toInt ∧ ((y_3574).toInt ≠ 0 → (y_3575).toInt + 1 ≤ (y_3576).toInt) := w_3573_0
                        have b_y_3574 : 0 ≤ (y_3574).toInt ∧ (y_3574).toInt ≤ 3 := dg_I.intb (lo := 0) (hi := 3) I_3573 sM_0 (by decide +kernel) f_y_3574
                        have b_y_3575 : 0 ≤ (y_3575).toInt ∧ (y_3575).toInt ≤ 1600 := dg_I.intb (lo := 0) (hi := 1600) I_3573 sM_0 (by decide +kernel) f_y_3575
                        have b_y_3576 : 0 ≤ (y_3576).toInt ∧ (y_3576).toInt ≤ 1600 := dg_I.intb (lo := 0) (hi := 1600) I_3573 sM_0 (by decide +kernel) f_y_3576
                        refine lv_iconst (v := 1) hx hb dX12_goesOn_617 (by decide +kernel) ?_
                        have hz_3577 : (1 : Int32).toInt = 1 := by decide +kernel
                        have hz_3578 : (1 : Int32).toInt = 1 := by decide +kernel
                        obtain ⟨x_3579, f_x_3579, b_x_3579⟩ := dg_I.int (i := 0) (k := 42) (lo := 0) (hi := 20) I_3573 sM_0 (by decide +kernel)
                        have hz_3580 : (1 : Int32).toInt = 1 := by decide +kernel
                        refine W.widen (k := 0) (n := 0) (Nat.le_of_ble_eq_true rfl) (Nat.le_of_ble_eq_true rfl) ?_
                        exact dg_iret hx hb hr hlocks (by decide +kernel) hP hS ⟨I_3573, M_3573, (by decide +kernel), ⟨y_3574, y_3575, y_3576, y_3, y_3570, x_3579, y_3535, oo, f_y_3574, f_y_3575, f_y_3576, (((m_3573.1 0 8 _ sM_0 (by decide)).trans ((m_3568.1 0 8 _ sM_0 (by decide)).trans ((dg_uF_ne e_3540 (fun z => absurd z.2 (by decide))).trans ((dg_uF_ne e_3538 (fun z => absurd z.2 (by decide))).trans (m_3532.1 0 8 _ sM_0 (by decide)))))).trans f_y_3), ((m_3573.1 0 34 _ sM_0 (by decide)).trans f_y_3570), f_x_3579, (((m_3573.1 0 45 _ sM_0 (by decide)).trans ((m_3568.1 0 45 _ sM_0 (by decide)).trans ((dg_uF_ne e_3540 (fun z => absurd z.2 (by decide))).trans (dg_uF_ne e_3538 (fun z => absurd z.2 (by decide)))))).trans f_y_3535), (((m_3573.1 0 46 _ sM_0 (by decide)).trans ((m_3568.1 0 46 _ sM_0 (by decide)).trans ((dg_uF_ne e_3540 (fun z => absurd z.2 (by decide))).trans ((dg_uF_ne e_3538 (fun z => absurd z.2 (by decide))).trans ((m_3532.1 0 46 _ sM_0 (by decide)).trans (m_2.1 0 46 _ sM_0 (by decide))))))).trans f_oo), (by omega)⟩, (fun k9 hk9 hk0 => POM.mk1 (P1M.keep P1_3568 m_3573 (by decide) (by decide) (by decide) (by decide) (by decide) (by decide) (by decide) (by decide) (by decide) (by decide) (by decide) (by decide) (by decide) (by decide) (by decide)) (((m_3573.1 0 46 _ sM_0 (by decide)).trans ((m_3568.1 0 46 _ sM_0 (by decide)).trans ((dg_uF_ne e_3540 (fun z => absurd z.2 (by decide))).trans ((dg_uF_ne e_3538 (fun z => absurd z.2 (by decide))).trans ((m_3532.1 0 46 _ sM_0 (by decide)).trans (m_2.1 0 46 _ sM_0 (by decide))))))).trans f_oo) (by omega)), (ZWM.keep w_3568_2 m_3573 (by decide) (by decide) (by decide) (by decide)), trivial⟩ dX12_goesOn_618
                    · have jc_3530 := dk_eqc (k := 0) (by decide +kernel) c_3530
                      clear w_3529_1
                      refine lv_aload_n hx hb dX12_goesOn_537 rfl (lv_at hl 3 rfl) ?_
                      refine lv_iconst (v := 1) hx hb dX12_goesOn_538 (by decide +kernel) ?_
                      refine lv_aload_n hx hb dX12_goesOn_539 rfl (lv_at hl 3 rfl) ?_
                      refine dg_get (C := RX12) (T := TX12) (N := 77) hx hb hts (fun w h => bw_mem (wU_X12 w h)) hown K hP sM_0 rfl 4 (by decide) (hts _ (bw_mem wB_1145)) (fun _ h9 => h9) (v := .int sa) ((m_2.1 0 4 _ sM_0 (by decide)).trans f_sa) dX12_goesOn_540 ?_
                      have hz_3581 : (1 : Int32).toInt = 1 := by decide +kernel
                      refine dg_callv hS hA1 hA (va_runV (As := [.int 1, .int sa]) (rest := []) F (c_m_blame l g D o S_2 1 (by decide +kernel) sa y_3 f_y_3 (by omega) I_2 H.size) (cwV 2 hts (bw_V wB_1137 wB_1138 wB_1139 wB_881 wB_1136) rfl rfl rfl (by decide +kernel) ⟨Nat.le_of_ble_eq_true rfl, Nat.le_of_ble_eq_true rfl⟩) (dg_preV sM_0 rfl K ST hP hS hA1 hA) rfl rfl hl.1 rfl (lv_room (Nat.le_of_ble_eq_true rfl)) dX12_goesOn_543 ⟨Nat.le_of_ble_eq_true rfl, Nat.le_of_ble_eq_true rfl⟩) (fun S_3582 hw_3582 H locs hP hS => ?_)
                      obtain ⟨I_3582, m_3582, w_3582_0, -⟩ := hw_3582
                      have M_3582 := dg_sm.tr M_2 m_3582 (by decide) (by decide)
                      have hz_3583 : (1 : Int32).toInt = 1 := by decide +kernel
                      obtain ⟨y_3584, f_y_3584, w_3582_0⟩ := w_3582_0
                      have w_3582_0 : ((y_3).toInt ≠ 0 → (y_3584).toInt = (y_3).toInt) ∧ ((y_3).toInt = 0 → (y_3584).toInt = ((1 : Int32)).toInt) := w_3582_0
                      have b_y_3584 : 0 ≤ (y_3584).toInt ∧ (y_3584).toInt ≤ 6 := dg_I.intb (lo := 0) (hi := 6) I_3582 sM_0 (by decide +kernel) f_y_3584
                      refine lv_aload_n hx hb dX12_goesOn_546 rfl (lv_at hl 3 rfl) ?_
                      refine dg_get (C := RX12) (T := TX12) (N := 77) hx hb hts (fun w h => bw_mem (wU_X12 w h)) hown K hP sM_0 rfl 8 (by decide) (hts _ (bw_mem wB_1133)) (fun _ h9 => h9) (v := .int y_3584) f_y_3584 dX12_goesOn_547 ?_
                      refine lv_if_le (tgt := 555) hx hb dX12_goesOn_550 (by decide) (fun c_3585 => ?_) (fun c_3585 => ?_)
                      · have jc_3585 := dk_lec (k := 0) (by decide +kernel) c_3585
                        refine lv_aload_n hx hb dX12_goesOn_555 rfl (lv_at hl 3 rfl) ?_
                        refine lv_iconst (v := 1) hx hb dX12_goesOn_556 (by decide +kernel) ?_
                        have hz_3586 : (1 : Int32).toInt = 1 := by decide +kernel
                        refine dg_callv hS hA1 hA (va_runV (As := [.int 1]) (rest := []) F (c_m_joins l g D o S_3582 1 (by decide +kernel) cd (((m_3582.1 0 34 _ sM_0 (by decide)).trans (m_2.1 0 34 _ sM_0 (by decide))).trans f_cd) (by omega) om (((m_3582.1 0 45 _ sM_0 (by decide)).trans (m_2.1 0 45 _ sM_0 (by decide))).trans f_om) (by omega) (by omega) (ZWM.keep (ZWM.keep ZW m_2 (by decide) (by decide) (by decide) (by decide)) m_3582 (by decide) (by decide) (by decide) (by decide)) (ZKM.keep (ZKM.keep ZK m_2 (by decide) (by decide)) m_3582 (by decide) (by decide)) (P1M.keep (P1M.keep P1 m_2 (by decide) (by decide) (by decide) (by decide) (by decide) (by decide) (by decide) (by decide) (by decide) (by decide) (by decide) (by decide) (by decide) (by decide) (by decide)) m_3582 (by decide) (by decide) (by decide) (by decide) (by decide) (by decide) (by decide) (by decide) (by decide) (by decide) (by decide) (by decide) (by decide) (by decide) (by decide)) I_3582 H.size) (cwV 1 hts (bw_V wB_1234 wB_1235 wB_1236 wB_881 wB_1233) rfl rfl rfl (by decide +kernel) ⟨Nat.le_of_ble_eq_true rfl, Nat.le_of_ble_eq_true rfl⟩) (dg_preV sM_0 rfl K ST hP hS hA1 hA) rfl rfl hl.1 rfl (lv_room (Nat.le_of_ble_eq_true rfl)) dX12_goesOn_557 ⟨Nat.le_of_ble_eq_true rfl, Nat.le_of_ble_eq_true rfl⟩) (fun S_3587 hw_3587 H locs hP hS => ?_)
                        obtain ⟨I_3587, m_3587, w_3587_0, w_3587_1, w_3587_2, w_3587_3, -⟩ := hw_3587
                        have M_3587 := dg_sm.tr M_3582 m_3587 (by decide) (by decide)
                        have hz_3588 : (1 : Int32).toInt = 1 := by decide +kernel
                        obtain ⟨y_3589, y_3590, f_y_3589, f_y_3590, w_3587_0⟩ := w_3587_0
                        have w_3587_0 : (y_3589).toInt + (y_3590).toInt = (cd).toInt + (om).toInt := w_3587_0
                        have b_y_3589 : 0 ≤ (y_3589).toInt ∧ (y_3589).toInt ≤ 1600 := dg_I.intb (lo := 0) (hi := 1600) I_3587 sM_0 (by decide +kernel) f_y_3589
                        have b_y_3590 : 0 ≤ (y_3590).toInt ∧ (y_3590).toInt ≤ 500 := dg_I.intb (lo := 0) (hi := 500) I_3587 sM_0 (by decide +kernel) f_y_3590
                        have w_3587_1 : TOPM S_3587 (1 : Int32) := w_3587_1
                        obtain ⟨x_3591, f_x_3591, b_x_3591⟩ := dg_I.int (i := 0) (k := 43) (lo := (-2147483648)) (hi := 2147483647) I_3587 sM_0 (by decide +kernel)
                        have hkd := PSM.kind w_3587_3 (((m_3587.1 0 42 _ sM_0 (by decide)).trans ((m_3582.1 0 42 _ sM_0 (by decide)).trans (m_2.1 0 42 _ sM_0 (by decide)))).trans f_dp) f_x_3591 f_y_3590 (fx := x_5) (by omega) ((congrFun ((m_3587.2 22 _ sM_22 (by decide)).1.trans (m_3582.2 22 _ sM_22 (by decide)).1) _).trans ex_7.symm) (rfl : S_3587.2.1 25 (x_5 : Int32).toNatClampNeg = _)
                        unfold dk_fk at hkd
                        have hcl9 := dk_clN x_5
                        refine lv_aload_n hx hb dX12_goesOn_560 rfl (lv_at hl 3 rfl) ?_
                        refine lv_dup hx hb dX12_goesOn_561 rfl ?_
                        refine dg_get (C := RX12) (T := TX12) (N := 77) hx hb hts (fun w h => bw_mem (wU_X12 w h)) hown K hP sM_0 rfl 42 (by decide) (hts _ (bw_mem wB_1203)) (fun _ h9 => h9) (v := .int dp) (((m_3587.1 0 42 _ sM_0 (by decide)).trans ((m_3582.1 0 42 _ sM_0 (by decide)).trans (m_2.1 0 42 _ sM_0 (by decide)))).trans f_dp) dX12_goesOn_562 ?_
                        refine lv_iconst (v := 1) hx hb dX12_goesOn_565 (by decide +kernel) ?_
                        refine lv_isub hx hb dX12_goesOn_566 ?_
                        refine lv_topi (fun x_3592 ex_3592 => ?_)
                        have jx_3592 : (x_3592).toInt = (dp).toInt - 1 := by rw [ex_3592]; exact dk_subT rfl (by decide +kernel) (by omega) (by omega)
                        refine dg_put (ci := 12) (v := .int x_3592) (ty := tyX12 42) (C := RX12) (T := TX12) (N := 77) hx hb hts (fun w h => bw_mem (wU_X12 w h)) tyX12 tyX12_ok nmX12 hown K hP hS hA1 sM_0 rfl 42 (by decide) (hts _ (bw_mem wB_1203)) (fun _ h9 => h9) rfl (by decide +kernel) rfl rfl dX12_goesOn_567 (fun S_3593 e_3593 H locs hP hS => ?_)
                        have I_3593 := dg_I.uFi (lo := 0) (hi := 20) I_3587 e_3593 sM_0 (by decide +kernel) (show 0 ≤ (x_3592).toInt ∧ (x_3592).toInt ≤ 20 from (by omega))
                        have M_3593 := dg_sm.uF M_3587 e_3593 sM_0 (by decide)
                        refine lv_aload_n hx hb dX12_goesOn_570 rfl (lv_at hl 3 rfl) ?_
                        refine lv_dup hx hb dX12_goesOn_571 rfl ?_
                        refine dg_get (C := RX12) (T := TX12) (N := 77) hx hb hts (fun w h => bw_mem (wU_X12 w h)) hown K hP sM_0 rfl 43 (by decide) (hts _ (bw_mem wB_1212)) (fun _ h9 => h9) (v := .int x_3591) ((dg_uF_ne e_3593 (fun z => absurd z.2 (by decide))).trans f_x_3591) dX12_goesOn_572 ?_
                        refine lv_iconst (v := 1) hx hb dX12_goesOn_575 (by decide +kernel) ?_
                        refine lv_isub hx hb dX12_goesOn_576 ?_
                        refine lv_topi (fun x_3594 ex_3594 => ?_)
                        refine dg_put (ci := 12) (v := .int x_3594) (ty := tyX12 43) (C := RX12) (T := TX12) (N := 77) hx hb hts (fun w h => bw_mem (wU_X12 w h)) tyX12 tyX12_ok nmX12 hown K hP hS hA1 sM_0 rfl 43 (by decide) (hts _ (bw_mem wB_1212)) (fun _ h9 => h9) rfl (by decide +kernel) rfl rfl dX12_goesOn_577 (fun S_3595 e_3595 H locs hP hS => ?_)
                        have I_3595 := dg_I.uFi (lo := (-2147483648)) (hi := 2147483647) I_3593 e_3595 sM_0 (by decide +kernel) (show (-2147483648) ≤ (x_3594).toInt ∧ (x_3594).toInt ≤ 2147483647 from (dk_full _))
                        have M_3595 := dg_sm.uF M_3593 e_3595 sM_0 (by decide)
                        refine lv_iload_n hx hb dX12_goesOn_580 rfl (lv_at hl 1 rfl) ?_
                        refine lv_iconst (v := 4) hx hb dX12_goesOn_581 (by decide +kernel) ?_
                        refine lv_icmp_ne (tgt := 596) hx hb dX12_goesOn_582 (by decide) (fun c_3596 => ?_) (fun c_3596 => ?_)
                        · have jc_3596 := dk_neqc (k := 4) (by decide +kernel) c_3596
                          obtain ⟨x_3597, f_x_3597, b_x_3597⟩ := dg_I.int (i := 0) (k := 42) (lo := 0) (hi := 20) I_3587 sM_0 (by decide +kernel)
                          obtain ⟨x_3598, f_x_3598, b_x_3598⟩ := dg_I.int (i := 0) (k := 43) (lo := (-2147483648)) (hi := 2147483647) I_3587 sM_0 (by decide +kernel)
                          have P1_3595 : P1M S_3595 := P1M.close2 w_3587_3 f_x_3597 f_x_3598 f_y_3590 w_3587_1 (by omega) (fx := x_5) (by omega) ((congrFun ((m_3587.2 22 _ sM_22 (by decide)).1.trans (m_3582.2 22 _ sM_22 (by decide)).1) _).trans ex_7.symm) (by omega) e_3593 (by omega) e_3595 (by omega)
                          refine lv_iload_n hx hb dX12_goesOn_596 rfl (lv_at hl 1 rfl) ?_
                          refine lv_iconst (v := 5) hx hb dX12_goesOn_597 (by decide +kernel) ?_
                          refine lv_icmp_ne (tgt := 613) hx hb dX12_goesOn_598 (by decide) (fun c_3599 => ?_) (fun c_3599 => ?_)
                          · have jc_3599 := dk_neqc (k := 5) (by decide +kernel) c_3599
                            refine lv_aload_n hx hb dX12_goesOn_613 rfl (lv_at hl 3 rfl) ?_
                            refine dg_callv hS hA1 hA (va_runV (As := []) (rest := []) F (c_m_ahead l g D o S_3595 se (((dg_uF_ne e_3595 (fun z => absurd z.2 (by decide))).trans ((dg_uF_ne e_3593 (fun z => absurd z.2 (by decide))).trans ((m_3587.1 0 5 _ sM_0 (by decide)).trans ((m_3582.1 0 5 _ sM_0 (by decide)).trans (m_2.1 0 5 _ sM_0 (by decide)))))).trans f_se) (by omega) sl (((dg_uF_ne e_3595 (fun z => absurd z.2 (by decide))).trans ((dg_uF_ne e_3593 (fun z => absurd z.2 (by decide))).trans ((m_3587.1 0 2 _ sM_0 (by decide)).trans ((m_3582.1 0 2 _ sM_0 (by decide)).trans (m_2.1 0 2 _ sM_0 (by decide)))))).trans f_sl) (by omega) (by omega) I_3595 H.size) (cwV 0 hts (bw_V wB_1161 wB_1162 wB_1163 wB_881 wB_1160) rfl rfl rfl (by decide +kernel) ⟨Nat.le_of_ble_eq_true rfl, Nat.le_of_ble_eq_true rfl⟩) (dg_preV sM_0 rfl K ST hP hS hA1 hA) rfl rfl hl.1 rfl (lv_room (Nat.le_of_ble_eq_true rfl)) dX12_goesOn_614 ⟨Nat.le_of_ble_eq_true rfl, Nat.le_of_ble_eq_true rfl⟩) (fun S_3600 hw_3600 H locs hP hS => ?_)
                            obtain ⟨I_3600, m_3600, w_3600_0, -⟩ := hw_3600
                            have M_3600 := dg_sm.tr M_3595 m_3600 (by decide) (by decide)
                            obtain ⟨y_3601, y_3602, y_3603, f_y_3601, f_y_3602, f_y_3603, w_3600_0⟩ := w_3600_0
                            have w_3600_0 : (se).toInt ≤ (y_3602).toInt ∧ (y_3602).toInt ≤ (y_3603).toInt ∧ (y_3603).toInt ≤ (sl).toInt ∧ ((y_3601).toInt ≠ 0 → (y_3602).toInt + 1 ≤ (y_3603).toInt) := w_3600_0
                            have b_y_3601 : 0 ≤ (y_3601).toInt ∧ (y_3601).toInt ≤ 3 := dg_I.intb (lo := 0) (hi := 3) I_3600 sM_0 (by decide +kernel) f_y_3601
                            have b_y_3602 : 0 ≤ (y_3602).toInt ∧ (y_3602).toInt ≤ 1600 := dg_I.intb (lo := 0) (hi := 1600) I_3600 sM_0 (by decide +kernel) f_y_3602
                            have b_y_3603 : 0 ≤ (y_3603).toInt ∧ (y_3603).toInt ≤ 1600 := dg_I.intb (lo := 0) (hi := 1600) I_3600 sM_0 (by decide +kernel) f_y_3603
                            refine lv_iconst (v := 1) hx hb dX12_goesOn_617 (by decide +kernel) ?_
                            have hz_3604 : (1 : Int32).toInt = 1 := by decide +kernel
                            have hz_3605 : (1 : Int32).toInt = 1 := by decide +kernel
                            obtain ⟨x_3606, f_x_3606, b_x_3606⟩ := dg_I.int (i := 0) (k := 42) (lo := 0) (hi := 20) I_3600 sM_0 (by decide +kernel)
                            have hz_3607 : (1 : Int32).toInt = 1 := by decide +kernel
                            refine W.widen (k := 0) (n := 0) (Nat.le_of_ble_eq_true rfl) (Nat.le_of_ble_eq_true rfl) ?_
                            exact dg_iret hx hb hr hlocks (by decide +kernel) hP hS ⟨I_3600, M_3600, (by decide +kernel), ⟨y_3601, y_3602, y_3603, y_3584, y_3589, x_3606, y_3590, oo, f_y_3601, f_y_3602, f_y_3603, (((m_3600.1 0 8 _ sM_0 (by decide)).trans ((dg_uF_ne e_3595 (fun z => absurd z.2 (by decide))).trans ((dg_uF_ne e_3593 (fun z => absurd z.2 (by decide))).trans (m_3587.1 0 8 _ sM_0 (by decide))))).trans f_y_3584), (((m_3600.1 0 34 _ sM_0 (by decide)).trans ((dg_uF_ne e_3595 (fun z => absurd z.2 (by decide))).trans (dg_uF_ne e_3593 (fun z => absurd z.2 (by decide))))).trans f_y_3589), f_x_3606, (((m_3600.1 0 45 _ sM_0 (by decide)).trans ((dg_uF_ne e_3595 (fun z => absurd z.2 (by decide))).trans (dg_uF_ne e_3593 (fun z => absurd z.2 (by decide))))).trans f_y_3590), (((m_3600.1 0 46 _ sM_0 (by decide)).trans ((dg_uF_ne e_3595 (fun z => absurd z.2 (by decide))).trans ((dg_uF_ne e_3593 (fun z => absurd z.2 (by decide))).trans ((m_3587.1 0 46 _ sM_0 (by decide)).trans ((m_3582.1 0 46 _ sM_0 (by decide)).trans (m_2.1 0 46 _ sM_0 (by decide))))))).trans f_oo), (by omega)⟩, (fun k9 hk9 hk0 => POM.mk1 (P1M.keep P1_3595 m_3600 (by decide) (by decide) (by decide) (by decide) (by decide) (by decide) (by decide) (by decide) (by decide) (by decide) (by decide) (by decide) (by decide) (by decide) (by decide)) (((m_3600.1 0 46 _ sM_0 (by decide)).trans ((dg_uF_ne e_3595 (fun z => absurd z.2 (by decide))).trans ((dg_uF_ne e_3593 (fun z => absurd z.2 (by decide))).trans ((m_3587.1 0 46 _ sM_0 (by decide)).trans ((m_3582.1 0 46 _ sM_0 (by decide)).trans (m_2.1 0 46 _ sM_0 (by decide))))))).trans f_oo) (by omega)), (ZWM.keep (ZWM.keep (ZWM.keep w_3587_2 (dg_sm.uF (WF := [(0, 42)]) (WA := []) dg_sm.rf e_3593 sM_0 (by decide)) (by decide) (by decide) (by decide) (by decide)) (dg_sm.uF (WF := [(0, 43)]) (WA := []) dg_sm.rf e_3595 sM_0 (by decide)) (by decide) (by decide) (by decide) (by decide)) m_3600 (by decide) (by decide) (by decide) (by decide)), trivial⟩ dX12_goesOn_618
                          · have jc_3599 := dk_eqc (k := 5) (by decide +kernel) c_3599
                            refine lv_aload_n hx hb dX12_goesOn_601 rfl (lv_at hl 3 rfl) ?_
                            refine dg_get (C := RX12) (T := TX12) (N := 77) hx hb hts (fun w h => bw_mem (wU_X12 w h)) hown K hP sM_0 rfl 38 (by decide) (hts _ (bw_mem wB_1214)) (fun _ h9 => h9) (v := .ref (o + 23)) (show S_3595.1 0 38 = .ref (o + 23) from dg_I.rel (d := 23) I_3595 sM_0 (by decide +kernel)) dX12_goesOn_602 ?_
                            refine lv_aload_n hx hb dX12_goesOn_605 rfl (lv_at hl 3 rfl) ?_
                            obtain ⟨x_3608, f_x_3608, b_x_3608⟩ := dg_I.int (i := 0) (k := 42) (lo := 0) (hi := 20) I_3595 sM_0 (by decide +kernel)
                            refine dg_get (C := RX12) (T := TX12) (N := 77) hx hb hts (fun w h => bw_mem (wU_X12 w h)) hown K hP sM_0 rfl 42 (by decide) (hts _ (bw_mem wB_1203)) (fun _ h9 => h9) (v := .int x_3608) f_x_3608 dX12_goesOn_606 ?_
                            refine lv_iconst (v := 1) hx hb dX12_goesOn_609 (by decide +kernel) ?_
                            refine lv_isub hx hb dX12_goesOn_610 ?_
                            refine lv_topi (fun x_3609 ex_3609 => ?_)
                            have jx_3609 : (x_3609).toInt = (x_3608).toInt - 1 := by rw [ex_3609]; exact dk_subT rfl (by decide +kernel) (by omega) (by omega)
                            refine lv_iconst (v := 2) hx hb dX12_goesOn_611 (by decide +kernel) ?_
                            have hin_3610 : vp_in x_3609 20 := (dk_inv (by omega) (by omega))
                            have hz_3612 : (2 : Int32).toInt = 2 := by decide +kernel
                            refine dg_iast hx hb K hP hS hA1 sM_23 hin_3610 dX12_goesOn_612 (fun S_3611 e_3611 H locs hP hS => ?_)
                            have I_3611 := dg_I.ufu (lo := 0) (hi := 2) I_3595 e_3611 sM_23 (by decide +kernel) (show 0 ≤ ((2 : Int32)).toInt ∧ ((2 : Int32)).toInt ≤ 2 from (by decide +kernel))
                            have M_3611 := dg_sm.uf M_3595 e_3611 sM_23 (by decide)
                            have hz_3613 : (2 : Int32).toInt = 2 := by decide +kernel
                            have P1_3611 : P1M S_3611 := P1M.close5 P1_3595 f_x_3608 (by omega) (by omega) (by omega) e_3611
                            refine lv_aload_n hx hb dX12_goesOn_613 rfl (lv_at hl 3 rfl) ?_
                            refine dg_callv hS hA1 hA (va_runV (As := []) (rest := []) F (c_m_ahead l g D o S_3611 se (((dg_uf_F e_3611 0 5).trans ((dg_uF_ne e_3595 (fun z => absurd z.2 (by decide))).trans ((dg_uF_ne e_3593 (fun z => absurd z.2 (by decide))).trans ((m_3587.1 0 5 _ sM_0 (by decide)).trans ((m_3582.1 0 5 _ sM_0 (by decide)).trans (m_2.1 0 5 _ sM_0 (by decide))))))).trans f_se) (by omega) sl (((dg_uf_F e_3611 0 2).trans ((dg_uF_ne e_3595 (fun z => absurd z.2 (by decide))).trans ((dg_uF_ne e_3593 (fun z => absurd z.2 (by decide))).trans ((m_3587.1 0 2 _ sM_0 (by decide)).trans ((m_3582.1 0 2 _ sM_0 (by decide)).trans (m_2.1 0 2 _ sM_0 (by decide))))))).trans f_sl) (by omega) (by omega) I_3611 H.size) (cwV 0 hts (bw_V wB_1161 wB_1162 wB_1163 wB_881 wB_1160) rfl rfl rfl (by decide +kernel) ⟨Nat.le_of_ble_eq_true rfl, Nat.le_of_ble_eq_true rfl⟩) (dg_preV sM_0 rfl K ST hP hS hA1 hA) rfl rfl hl.1 rfl (lv_room (Nat.le_of_ble_eq_true rfl)) dX12_goesOn_614 ⟨Nat.le_of_ble_eq_true rfl, Nat.le_of_ble_eq_true rfl⟩) (fun S_3614 hw_3614 H locs hP hS => ?_)
                            obtain ⟨I_3614, m_3614, w_3614_0, -⟩ := hw_3614
                            have M_3614 := dg_sm.tr M_3611 m_3614 (by decide) (by decide)
                            obtain ⟨y_3615, y_3616, y_3617, f_y_3615, f_y_3616, f_y_3617, w_3614_0⟩ := w_3614_0
                            have w_3614_0 : (se).toInt ≤ (y_3616).toInt ∧ (y_3616).toInt ≤ (y_3617).toInt ∧ (y_3617).toInt ≤ (sl).toInt ∧ ((y_3615).toInt ≠ 0 → (y_3616).toInt + 1 ≤ (y_3617).toInt) := w_3614_0
                            have b_y_3615 : 0 ≤ (y_3615).toInt ∧ (y_3615).toInt ≤ 3 := dg_I.intb (lo := 0) (hi := 3) I_3614 sM_0 (by decide +kernel) f_y_3615
                            have b_y_3616 : 0 ≤ (y_3616).toInt ∧ (y_3616).toInt ≤ 1600 := dg_I.intb (lo := 0) (hi := 1600) I_3614 sM_0 (by decide +kernel) f_y_3616
                            have b_y_3617 : 0 ≤ (y_3617).toInt ∧ (y_3617).toInt ≤ 1600 := dg_I.intb (lo := 0) (hi := 1600) I_3614 sM_0 (by decide +kernel) f_y_3617
                            refine lv_iconst (v := 1) hx hb dX12_goesOn_617 (by decide +kernel) ?_
                            have hz_3618 : (1 : Int32).toInt = 1 := by decide +kernel
                            have hz_3619 : (1 : Int32).toInt = 1 := by decide +kernel
                            have hz_3620 : (1 : Int32).toInt = 1 := by decide +kernel
                            refine W.widen (k := 0) (n := 0) (Nat.le_of_ble_eq_true rfl) (Nat.le_of_ble_eq_true rfl) ?_
                            exact dg_iret hx hb hr hlocks (by decide +kernel) hP hS ⟨I_3614, M_3614, (by decide +kernel), ⟨y_3615, y_3616, y_3617, y_3584, y_3589, x_3608, y_3590, oo, f_y_3615, f_y_3616, f_y_3617, (((m_3614.1 0 8 _ sM_0 (by decide)).trans ((dg_uf_F e_3611 0 8).trans ((dg_uF_ne e_3595 (fun z => absurd z.2 (by decide))).trans ((dg_uF_ne e_3593 (fun z => absurd z.2 (by decide))).trans (m_3587.1 0 8 _ sM_0 (by decide)))))).trans f_y_3584), (((m_3614.1 0 34 _ sM_0 (by decide)).trans ((dg_uf_F e_3611 0 34).trans ((dg_uF_ne e_3595 (fun z => absurd z.2 (by decide))).trans (dg_uF_ne e_3593 (fun z => absurd z.2 (by decide)))))).trans f_y_3589), (((m_3614.1 0 42 _ sM_0 (by decide)).trans (dg_uf_F e_3611 0 42)).trans f_x_3608), (((m_3614.1 0 45 _ sM_0 (by decide)).trans ((dg_uf_F e_3611 0 45).trans ((dg_uF_ne e_3595 (fun z => absurd z.2 (by decide))).trans (dg_uF_ne e_3593 (fun z => absurd z.2 (by decide)))))).trans f_y_3590), (((m_3614.1 0 46 _ sM_0 (by decide)).trans ((dg_uf_F e_3611 0 46).trans ((dg_uF_ne e_3595 (fun z => absurd z.2 (by decide))).trans ((dg_uF_ne e_3593 (fun z => absurd z.2 (by decide))).trans ((m_3587.1 0 46 _ sM_0 (by decide)).trans ((m_3582.1 0 46 _ sM_0 (by decide)).trans (m_2.1 0 46 _ sM_0 (by decide)))))))).trans f_oo), (by omega)⟩, (fun k9 hk9 hk0 => POM.mk1 (P1M.keep P1_3611 m_3614 (by decide) (by decide) (by decide) (by decide) (by decide) (by decide) (by decide) (by decide) (by decide) (by decide) (by decide) (by decide) (by decide) (by decide) (by decide)) (((m_3614.1 0 46 _ sM_0 (by decide)).trans ((dg_uf_F e_3611 0 46).trans ((dg_uF_ne e_3595 (fun z => absurd z.2 (by decide))).trans ((dg_uF_ne e_3593 (fun z => absurd z.2 (by decide))).trans ((m_3587.1 0 46 _ sM_0 (by decide)).trans ((m_3582.1 0 46 _ sM_0 (by decide)).trans (m_2.1 0 46 _ sM_0 (by decide)))))))).trans f_oo) (by omega)), (ZWM.keep (ZWM.keep (ZWM.keep (ZWM.keep w_3587_2 (dg_sm.uF (WF := [(0, 42)]) (WA := []) dg_sm.rf e_3593 sM_0 (by decide)) (by decide) (by decide) (by decide) (by decide)) (dg_sm.uF (WF := [(0, 43)]) (WA := []) dg_sm.rf e_3595 sM_0 (by decide)) (by decide) (by decide) (by decide) (by decide)) (dg_sm.uf (WF := []) (WA := [23]) dg_sm.rf e_3611 sM_23 (by decide)) (by decide) (by decide) (by decide) (by decide)) m_3614 (by decide) (by decide) (by decide) (by decide)), trivial⟩ dX12_goesOn_618
                        · have jc_3596 := dk_eqc (k := 4) (by decide +kernel) c_3596
                          refine lv_aload_n hx hb dX12_goesOn_585 rfl (lv_at hl 3 rfl) ?_
                          refine lv_aload_n hx hb dX12_goesOn_586 rfl (lv_at hl 3 rfl) ?_
                          refine dg_get (C := RX12) (T := TX12) (N := 77) hx hb hts (fun w h => bw_mem (wU_X12 w h)) hown K hP sM_0 rfl 40 (by decide) (hts _ (bw_mem wB_1232)) (fun _ h9 => h9) (v := .ref (o + 25)) (show S_3595.1 0 40 = .ref (o + 25) from dg_I.rel (d := 25) I_3595 sM_0 (by decide +kernel)) dX12_goesOn_587 ?_
                          refine lv_iload_n hx hb dX12_goesOn_590 rfl (lv_at hl 2 rfl) ?_
                          have hin_3621 : vp_in x_5 20 := (dk_inv (by omega) (by omega))
                          refine dg_iald hx hb K hP sM_25 hin_3621 dX12_goesOn_591 (fun x_3622 ex_3622 => ?_)
                          have hp25_x_3622 : S_3587.2.1 25 (x_5 : Int32).toNatClampNeg = x_3622 := by rw [ex_3622, (((dg_uF_f e_3595 25).trans (dg_uF_f e_3593 25)))]
                          rw [hp25_x_3622] at hkd
                          refine lv_iconst (v := 0) hx hb dX12_goesOn_592 (by decide +kernel) ?_
                          refine dg_callv hS hA1 hA (va_runV (As := [.int x_3622, .int 0]) (rest := []) F (c_m_add l g D o S_3595 x_3622 (by omega) 0 y_3589 (((dg_uF_ne e_3595 (fun z => absurd z.2 (by decide))).trans (dg_uF_ne e_3593 (fun z => absurd z.2 (by decide)))).trans f_y_3589) (by omega) (ZWM.keep (ZWM.keep w_3587_2 (dg_sm.uF (WF := [(0, 42)]) (WA := []) dg_sm.rf e_3593 sM_0 (by decide)) (by decide) (by decide) (by decide) (by decide)) (dg_sm.uF (WF := [(0, 43)]) (WA := []) dg_sm.rf e_3595 sM_0 (by decide)) (by decide) (by decide) (by decide) (by decide)) (ZKM.keep (ZKM.keep (ZKM.keep (ZKM.keep (ZKM.keep ZK m_2 (by decide) (by decide)) m_3582 (by decide) (by decide)) m_3587 (by decide) (by decide)) (dg_sm.uF (WF := [(0, 42)]) (WA := []) dg_sm.rf e_3593 sM_0 (by decide)) (by decide) (by decide)) (dg_sm.uF (WF := [(0, 43)]) (WA := []) dg_sm.rf e_3595 sM_0 (by decide)) (by decide) (by decide)) I_3595 H.size) (cwV 2 hts (bw_V wB_1209 wB_1210 wB_1211 wB_881 wB_1208) rfl rfl rfl (by decide +kernel) ⟨Nat.le_of_ble_eq_true rfl, Nat.le_of_ble_eq_true rfl⟩) (dg_preV sM_0 rfl K ST hP hS hA1 hA) rfl rfl hl.1 rfl (lv_room (Nat.le_of_ble_eq_true rfl)) dX12_goesOn_593 ⟨Nat.le_of_ble_eq_true rfl, Nat.le_of_ble_eq_true rfl⟩) (fun S_3623 hw_3623 H locs hP hS => ?_)
                          obtain ⟨I_3623, m_3623, w_3623_0, w_3623_1, w_3623_2, -⟩ := hw_3623
                          have M_3623 := dg_sm.tr M_3595 m_3623 (by decide) (by decide)
                          have hz_3624 : (0 : Int32).toInt = 0 := by decide +kernel
                          obtain ⟨y_3625, f_y_3625, w_3623_0⟩ := w_3623_0
                          have w_3623_0 : (y_3625).toInt = (y_3589).toInt + 1 := w_3623_0
                          have b_y_3625 : 0 ≤ (y_3625).toInt ∧ (y_3625).toInt ≤ 1600 := dg_I.intb (lo := 0) (hi := 1600) I_3623 sM_0 (by decide +kernel) f_y_3625
                          have w_3623_1 : ADM S_3595 S_3623 x_3622 := w_3623_1
                          obtain ⟨x_3626, f_x_3626, b_x_3626⟩ := dg_I.int (i := 0) (k := 42) (lo := 0) (hi := 20) I_3587 sM_0 (by decide +kernel)
                          obtain ⟨x_3627, f_x_3627, b_x_3627⟩ := dg_I.int (i := 0) (k := 43) (lo := (-2147483648)) (hi := 2147483647) I_3587 sM_0 (by decide +kernel)
                          have P1_3623 : P1M S_3623 := P1M.close4 w_3587_3 f_x_3626 f_x_3627 f_y_3590 w_3587_1 (by omega) (fx := x_5) (by omega) ((congrFun ((m_3587.2 22 _ sM_22 (by decide)).1.trans (m_3582.2 22 _ sM_22 (by decide)).1) _).trans ex_7.symm) (by omega) e_3593 (by omega) e_3595 (by omega) hp25_x_3622 m_3623 w_3623_1
                          refine lv_iload_n hx hb dX12_goesOn_596 rfl (lv_at hl 1 rfl) ?_
                          refine lv_iconst (v := 5) hx hb dX12_goesOn_597 (by decide +kernel) ?_
                          refine lv_icmp_ne (tgt := 613) hx hb dX12_goesOn_598 (by decide) (fun _ => ?_) (fun c => absurd c (fun z => absurd (dk_eqc (k := 5) (by decide +kernel) z) (by omega)))
                          refine lv_aload_n hx hb dX12_goesOn_613 rfl (lv_at hl 3 rfl) ?_
                          refine dg_callv hS hA1 hA (va_runV (As := []) (rest := []) F (c_m_ahead l g D o S_3623 se (((m_3623.1 0 5 _ sM_0 (by decide)).trans ((dg_uF_ne e_3595 (fun z => absurd z.2 (by decide))).trans ((dg_uF_ne e_3593 (fun z => absurd z.2 (by decide))).trans ((m_3587.1 0 5 _ sM_0 (by decide)).trans ((m_3582.1 0 5 _ sM_0 (by decide)).trans (m_2.1 0 5 _ sM_0 (by decide))))))).trans f_se) (by omega) sl (((m_3623.1 0 2 _ sM_0 (by decide)).trans ((dg_uF_ne e_3595 (fun z => absurd z.2 (by decide))).trans ((dg_uF_ne e_3593 (fun z => absurd z.2 (by decide))).trans ((m_3587.1 0 2 _ sM_0 (by decide)).trans ((m_3582.1 0 2 _ sM_0 (by decide)).trans (m_2.1 0 2 _ sM_0 (by decide))))))).trans f_sl) (by omega) (by omega) I_3623 H.size) (cwV 0 hts (bw_V wB_1161 wB_1162 wB_1163 wB_881 wB_1160) rfl rfl rfl (by decide +kernel) ⟨Nat.le_of_ble_eq_true rfl, Nat.le_of_ble_eq_true rfl⟩) (dg_preV sM_0 rfl K ST hP hS hA1 hA) rfl rfl hl.1 rfl (lv_room (Nat.le_of_ble_eq_true rfl)) dX12_goesOn_614 ⟨Nat.le_of_ble_eq_true rfl, Nat.le_of_ble_eq_true rfl⟩) (fun S_3628 hw_3628 H locs hP hS => ?_)
                          obtain ⟨I_3628, m_3628, w_3628_0, -⟩ := hw_3628
                          have M_3628 := dg_sm.tr M_3623 m_3628 (by decide) (by decide)
                          obtain ⟨y_3629, y_3630, y_3631, f_y_3629, f_y_3630, f_y_3631, w_3628_0⟩ := w_3628_0
                          have w_3628_0 : (se).toInt ≤ (y_3630).toInt ∧ (y_3630).toInt ≤ (y_3631).toInt ∧ (y_3631).toInt ≤ (sl).toInt ∧ ((y_3629).toInt ≠ 0 → (y_3630).toInt + 1 ≤ (y_3631).toInt) := w_3628_0
                          have b_y_3629 : 0 ≤ (y_3629).toInt ∧ (y_3629).toInt ≤ 3 := dg_I.intb (lo := 0) (hi := 3) I_3628 sM_0 (by decide +kernel) f_y_3629
                          have b_y_3630 : 0 ≤ (y_3630).toInt ∧ (y_3630).toInt ≤ 1600 := dg_I.intb (lo := 0) (hi := 1600) I_3628 sM_0 (by decide +kernel) f_y_3630
                          have b_y_3631 : 0 ≤ (y_3631).toInt ∧ (y_3631).toInt ≤ 1600 := dg_I.intb (lo := 0) (hi := 1600) I_3628 sM_0 (by decide +kernel) f_y_3631
                          refine lv_iconst (v := 1) hx hb dX12_goesOn_617 (by decide +kernel) ?_
                          have hz_3632 : (1 : Int32).toInt = 1 := by decide +kernel
                          have hz_3633 : (1 : Int32).toInt = 1 := by decide +kernel
                          obtain ⟨x_3634, f_x_3634, b_x_3634⟩ := dg_I.int (i := 0) (k := 42) (lo := 0) (hi := 20) I_3628 sM_0 (by decide +kernel)
                          have hz_3635 : (1 : Int32).toInt = 1 := by decide +kernel
                          refine W.widen (k := 0) (n := 0) (Nat.le_of_ble_eq_true rfl) (Nat.le_of_ble_eq_true rfl) ?_
                          exact dg_iret hx hb hr hlocks (by decide +kernel) hP hS ⟨I_3628, M_3628, (by decide +kernel), ⟨y_3629, y_3630, y_3631, y_3584, y_3625, x_3634, y_3590, oo, f_y_3629, f_y_3630, f_y_3631, (((m_3628.1 0 8 _ sM_0 (by decide)).trans ((m_3623.1 0 8 _ sM_0 (by decide)).trans ((dg_uF_ne e_3595 (fun z => absurd z.2 (by decide))).trans ((dg_uF_ne e_3593 (fun z => absurd z.2 (by decide))).trans (m_3587.1 0 8 _ sM_0 (by decide)))))).trans f_y_3584), ((m_3628.1 0 34 _ sM_0 (by decide)).trans f_y_3625), f_x_3634, (((m_3628.1 0 45 _ sM_0 (by decide)).trans ((m_3623.1 0 45 _ sM_0 (by decide)).trans ((dg_uF_ne e_3595 (fun z => absurd z.2 (by decide))).trans (dg_uF_ne e_3593 (fun z => absurd z.2 (by decide)))))).trans f_y_3590), (((m_3628.1 0 46 _ sM_0 (by decide)).trans ((m_3623.1 0 46 _ sM_0 (by decide)).trans ((dg_uF_ne e_3595 (fun z => absurd z.2 (by decide))).trans ((dg_uF_ne e_3593 (fun z => absurd z.2 (by decide))).trans ((m_3587.1 0 46 _ sM_0 (by decide)).trans ((m_3582.1 0 46 _ sM_0 (by decide)).trans (m_2.1 0 46 _ sM_0 (by decide)))))))).trans f_oo), (by omega)⟩, (fun k9 hk9 hk0 => POM.mk1 (P1M.keep P1_3623 m_3628 (by decide) (by decide) (by decide) (by decide) (by decide) (by decide) (by decide) (by decide) (by decide) (by decide) (by decide) (by decide) (by decide) (by decide) (by decide)) (((m_3628.1 0 46 _ sM_0 (by decide)).trans ((m_3623.1 0 46 _ sM_0 (by decide)).trans ((dg_uF_ne e_3595 (fun z => absurd z.2 (by decide))).trans ((dg_uF_ne e_3593 (fun z => absurd z.2 (by decide))).trans ((m_3587.1 0 46 _ sM_0 (by decide)).trans ((m_3582.1 0 46 _ sM_0 (by decide)).trans (m_2.1 0 46 _ sM_0 (by decide)))))))).trans f_oo) (by omega)), (ZWM.keep w_3623_2 m_3628 (by decide) (by decide) (by decide) (by decide)), trivial⟩ dX12_goesOn_618
                      · have jc_3585 := dk_nlec (k := 0) (by decide +kernel) c_3585
                        refine lv_iconst (v := 0) hx hb dX12_goesOn_553 (by decide +kernel) ?_
                        have hz_3636 : (0 : Int32).toInt = 0 := by decide +kernel
                        have hz_3637 : (0 : Int32).toInt = 0 := by decide +kernel
                        have hz_3638 : (0 : Int32).toInt = 0 := by decide +kernel
                        refine W.widen (k := 0) (n := 0) (Nat.le_of_ble_eq_true rfl) (Nat.le_of_ble_eq_true rfl) ?_
                        exact dg_iret hx hb hr hlocks (by decide +kernel) hP hS ⟨I_3582, M_3582, (by decide +kernel), ⟨sg, sa, se, y_3584, cd, dp, om, oo, (((m_3582.1 0 3 _ sM_0 (by decide)).trans (m_2.1 0 3 _ sM_0 (by decide))).trans f_sg), (((m_3582.1 0 4 _ sM_0 (by decide)).trans (m_2.1 0 4 _ sM_0 (by decide))).trans f_sa), (((m_3582.1 0 5 _ sM_0 (by decide)).trans (m_2.1 0 5 _ sM_0 (by decide))).trans f_se), f_y_3584, (((m_3582.1 0 34 _ sM_0 (by decide)).trans (m_2.1 0 34 _ sM_0 (by decide))).trans f_cd), (((m_3582.1 0 42 _ sM_0 (by decide)).trans (m_2.1 0 42 _ sM_0 (by decide))).trans f_dp), (((m_3582.1 0 45 _ sM_0 (by decide)).trans (m_2.1 0 45 _ sM_0 (by decide))).trans f_om), (((m_3582.1 0 46 _ sM_0 (by decide)).trans (m_2.1 0 46 _ sM_0 (by decide))).trans f_oo), (by omega)⟩, (fun k9 hk9 hk0 => by have q9 := (f_y_3584).symm.trans hk9; cases q9; omega), (ZWM.keep (ZWM.keep ZW m_2 (by decide) (by decide) (by decide) (by decide)) m_3582 (by decide) (by decide) (by decide) (by decide)), trivial⟩ dX12_goesOn_554
                  refine lv_icmp_ne (tgt := 529) hx hb dX12_goesOn_521 (by decide) (fun c_3639 => ?_) (fun c_3639 => ?_)
                  · have jc_3639 := dk_neqc (k := 5) (by decide +kernel) c_3639
                    refine lv_bipush (v := 41) hx hb dX12_goesOn_529 (by decide +kernel) ?_
                    have hz_3640 : (41 : Int32).toInt = 41 := by decide +kernel
                    exact J_3527 41 (by decide +kernel) _ _ hP hS _ (lv_sub hl [0, 1, 2, 3] rfl)
                  · have jc_3639 := dk_eqc (k := 5) (by decide +kernel) c_3639
                    refine lv_bipush (v := 93) hx hb dX12_goesOn_524 (by decide +kernel) ?_
                    refine lv_goto (tgt := 531) hx hb dX12_goesOn_526 (by decide) ?_
                    have hz_3641 : (93 : Int32).toInt = 93 := by decide +kernel
                    exact J_3527 93 (by decide +kernel) _ _ hP hS _ (lv_sub hl [0, 1, 2, 3] rfl)
                · have jc_3413 := dk_eqc (k := 6) (by decide +kernel) c_3413
                  exact J_3299  (by omega) _ _ hP hS _ (lv_sub hl [0, 1, 2, 3] rfl)
            · have jc_3071 := dk_ngec (k := 2) (by decide +kernel) c_3071
              refine lv_aload_n hx hb dX12_goesOn_427 rfl (lv_at hl 3 rfl) ?_
              refine dg_get (C := RX12) (T := TX12) (N := 77) hx hb hts (fun w h => bw_mem (wU_X12 w h)) hown K hP sM_0 rfl 8 (by decide) (hts _ (bw_mem wB_1133)) (fun _ h9 => h9) (v := .int y_3) f_y_3 dX12_goesOn_428 ?_
              refine lv_if_ne (tgt := 439) hx hb dX12_goesOn_431 (by decide) (fun c => absurd (dk_eqp (k := 0) (by decide +kernel) (by omega)) c) (fun _ => ?_)
              refine lv_aload_n hx hb dX12_goesOn_434 rfl (lv_at hl 3 rfl) ?_
              refine lv_iconst (v := 1) hx hb dX12_goesOn_435 (by decide +kernel) ?_
              have hz_3642 : (1 : Int32).toInt = 1 := by decide +kernel
              refine dg_callv hS hA1 hA (va_runV (As := [.int 1]) (rest := []) F (c_m_joins l g D o S_2 1 (by decide +kernel) cd ((m_2.1 0 34 _ sM_0 (by decide)).trans f_cd) (by omega) om ((m_2.1 0 45 _ sM_0 (by decide)).trans f_om) (by omega) (by omega) (ZWM.keep ZW m_2 (by decide) (by decide) (by decide) (by decide)) (ZKM.keep ZK m_2 (by decide) (by decide)) (P1M.keep P1 m_2 (by decide) (by decide) (by decide) (by decide) (by decide) (by decide) (by decide) (by decide) (by decide) (by decide) (by decide) (by decide) (by decide) (by decide) (by decide)) I_2 H.size) (cwV 1 hts (bw_V wB_1234 wB_1235 wB_1236 wB_881 wB_1233) rfl rfl rfl (by decide +kernel) ⟨Nat.le_of_ble_eq_true rfl, Nat.le_of_ble_eq_true rfl⟩) (dg_preV sM_0 rfl K ST hP hS hA1 hA) rfl rfl hl.1 rfl (lv_room (Nat.le_of_ble_eq_true rfl)) dX12_goesOn_436 ⟨Nat.le_of_ble_eq_true rfl, Nat.le_of_ble_eq_true rfl⟩) (fun S_3643 hw_3643 H locs hP hS => ?_)
              obtain ⟨I_3643, m_3643, w_3643_0, w_3643_1, w_3643_2, w_3643_3, -⟩ := hw_3643
              have M_3643 := dg_sm.tr M_2 m_3643 (by decide) (by decide)
              have hz_3644 : (1 : Int32).toInt = 1 := by decide +kernel
              obtain ⟨y_3645, y_3646, f_y_3645, f_y_3646, w_3643_0⟩ := w_3643_0
              have w_3643_0 : (y_3645).toInt + (y_3646).toInt = (cd).toInt + (om).toInt := w_3643_0
              have b_y_3645 : 0 ≤ (y_3645).toInt ∧ (y_3645).toInt ≤ 1600 := dg_I.intb (lo := 0) (hi := 1600) I_3643 sM_0 (by decide +kernel) f_y_3645
              have b_y_3646 : 0 ≤ (y_3646).toInt ∧ (y_3646).toInt ≤ 500 := dg_I.intb (lo := 0) (hi := 500) I_3643 sM_0 (by decide +kernel) f_y_3646
              have w_3643_1 : TOPM S_3643 (1 : Int32) := w_3643_1
              refine lv_iconst (v := 0) hx hb dX12_goesOn_439 (by decide +kernel) ?_
              have hz_3647 : (0 : Int32).toInt = 0 := by decide +kernel
              have hz_3648 : (0 : Int32).toInt = 0 := by decide +kernel
              have hz_3649 : (0 : Int32).toInt = 0 := by decide +kernel
              refine W.widen (k := 0) (n := 0) (Nat.le_of_ble_eq_true rfl) (Nat.le_of_ble_eq_true rfl) ?_
              exact dg_iret hx hb hr hlocks (by decide +kernel) hP hS ⟨I_3643, M_3643, (by decide +kernel), ⟨sg, sa, se, y_3, y_3645, dp, y_3646, oo, (((m_3643.1 0 3 _ sM_0 (by decide)).trans (m_2.1 0 3 _ sM_0 (by decide))).trans f_sg), (((m_3643.1 0 4 _ sM_0 (by decide)).trans (m_2.1 0 4 _ sM_0 (by decide))).trans f_sa), (((m_3643.1 0 5 _ sM_0 (by decide)).trans (m_2.1 0 5 _ sM_0 (by decide))).trans f_se), ((m_3643.1 0 8 _ sM_0 (by decide)).trans f_y_3), f_y_3645, (((m_3643.1 0 42 _ sM_0 (by decide)).trans (m_2.1 0 42 _ sM_0 (by decide))).trans f_dp), f_y_3646, (((m_3643.1 0 46 _ sM_0 (by decide)).trans (m_2.1 0 46 _ sM_0 (by decide))).trans f_oo), (by omega)⟩, (fun k9 hk9 hk0 => POM.mk1 w_3643_3 (((m_3643.1 0 46 _ sM_0 (by decide)).trans (m_2.1 0 46 _ sM_0 (by decide))).trans f_oo) (by omega)), w_3643_2, trivial⟩ dX12_goesOn_440
          · have jc_3070 := dk_neqc (k := 0) (by decide +kernel) c_3070
            refine lv_aload_n hx hb dX12_goesOn_404 rfl (lv_at hl 3 rfl) ?_
            refine dg_get (C := RX12) (T := TX12) (N := 77) hx hb hts (fun w h => bw_mem (wU_X12 w h)) hown K hP sM_0 rfl 38 (by decide) (hts _ (bw_mem wB_1214)) (fun _ h9 => h9) (v := .ref (o + 23)) (show S_2.1 0 38 = .ref (o + 23) from dg_I.rel (d := 23) I_2 sM_0 (by decide +kernel)) dX12_goesOn_405 ?_
            refine lv_iload_n hx hb dX12_goesOn_408 rfl (lv_at hl 2 rfl) ?_
            have hin_3650 : vp_in x_5 20 := (dk_inv (by omega) (by omega))
            refine dg_iald hx hb K hP sM_23 hin_3650 dX12_goesOn_409 (fun y_3651 ey_3651 => ?_)
            obtain rfl : x_11 = y_3651 := (ey_3651.trans ex_11.symm).symm
            refine lv_if_ne (tgt := 422) hx hb dX12_goesOn_410 (by decide) (fun c_3652 => ?_) (fun c_3652 => ?_)
            · have jc_3652 := dk_neqc (k := 0) (by decide +kernel) c_3652
              refine lv_iload_n hx hb dX12_goesOn_422 rfl (lv_at hl 1 rfl) ?_
              refine lv_iconst (v := 2) hx hb dX12_goesOn_423 (by decide +kernel) ?_
              refine lv_icmp_ge (tgt := 441) hx hb dX12_goesOn_424 (by decide) (fun c_3653 => ?_) (fun c_3653 => ?_)
              · have jc_3653 := dk_gec (k := 2) (by decide +kernel) c_3653
                refine lv_iload_n hx hb dX12_goesOn_441 rfl (lv_at hl 1 rfl) ?_
                refine lv_iconst (v := 3) hx hb dX12_goesOn_442 (by decide +kernel) ?_
                have J_3881 : ((x_7 : Int32).toInt = 3 ∨ (x_7 : Int32).toInt = 6) → ∀ (H : Heap) (locs : List Loc), va_P D vwCl (dg_w g shM o rfM S_2) H → va_S A s.heap H locs → ∀ ls : Array Slot, lv_has ls 5 [(3, .int x_8), (2, .int x_7), (1, .int x_5), (0, .ref (o + 0))] → W p l e ({ frames := 3, cells := 0, slots := 0, locals := 77 } : Room) s m args below meth c H locs 0 0 (MQ below (va_Qi (fun (r : Int32) S' => CM o S' ∧ dg_sm shM [(0, 3), (0, 4), (0, 5), (0, 6), (0, 7), (0, 8), (0, 9), (0, 12), (0, 34), (0, 42), (0, 43), (0, 45), (0, 46)] [18, 19, 22, 23, 24, 27] S S' ∧ (0 ≤ (r).toInt ∧ (r).toInt ≤ 1) ∧ (∃ y9_3 y9_4 y9_5 y9_8 y9_34 y9_42 y9_45 y9_46 : Int32, S'.1 0 3 = .int y9_3 ∧ S'.1 0 4 = .int y9_4 ∧ S'.1 0 5 = .int y9_5 ∧ S'.1 0 8 = .int y9_8 ∧ S'.1 0 34 = .int y9_34 ∧ S'.1 0 42 = .int y9_42 ∧ S'.1 0 45 = .int y9_45 ∧ S'.1 0 46 = .int y9_46 ∧ (((y9_4).toInt ≤ (y9_5).toInt ∧ (y9_5).toInt ≤ (sl).toInt ∧ ((y9_3).toInt ≠ 0 → (y9_4).toInt + 1 ≤ (y9_5).toInt)) ∧ (sa).toInt ≤ (y9_4).toInt ∧ ((fk).toInt ≠ 0 → (y9_8).toInt ≠ 0) ∧ (((y9_8).toInt = 0 → (r).toInt = 1 → (sa).toInt + 1 ≤ (y9_4).toInt) ∧ ((y9_8).toInt = 0 → (y9_34).toInt + (y9_45).toInt + (y9_42).toInt ≤ (y9_4).toInt)))) ∧ (∀ k9 : Int32, S'.1 0 8 = .int k9 → k9.toInt = 0 → POM S') ∧ ZWM S' ∧ True) (dg_B g D shM o rfM) A) args s 0 0 A) (F0 m 452 ls []) := by
                  intro rel_0 H locs hP hS ls hl
                  refine lv_aload_n hx hb dX12_goesOn_452 rfl (lv_at hl 3 rfl) ?_
                  refine lv_bipush (v := 44) hx hb dX12_goesOn_453 (by decide +kernel) ?_
                  refine dg_calli hS hA1 hA (va_runV (As := [.int 44]) (rest := []) F (c_m_isSign l g D o S_2 44 sg ((m_2.1 0 3 _ sM_0 (by decide)).trans f_sg) (by omega) va ((m_2.1 0 6 _ sM_0 (by decide)).trans f_va) (by omega) I_2 H.size) (cwV 1 hts (bw_V wB_1157 wB_1158 wB_1159 wB_881 wB_1156) rfl rfl rfl (by decide +kernel) ⟨Nat.le_of_ble_eq_true rfl, Nat.le_of_ble_eq_true rfl⟩) (dg_preV sM_0 rfl K ST hP hS hA1 hA) rfl rfl hl.1 rfl (lv_room (Nat.le_of_ble_eq_true rfl)) dX12_goesOn_455 ⟨Nat.le_of_ble_eq_true rfl, Nat.le_of_ble_eq_true rfl⟩) (fun x_3882 S_3883 hw_3883 H locs hP hS => ?_)
                  rw [hw_3883.1] at hP
                  obtain ⟨hq_3883, w_3883_0, w_3883_1, -⟩ := hw_3883
                  have hz_3884 : (44 : Int32).toInt = 44 := by decide +kernel
                  have w_3883_0 : 0 ≤ (x_3882).toInt ∧ (x_3882).toInt ≤ 1 := w_3883_0
                  have w_3883_1 : (x_3882).toInt = 1 ↔ ((sg).toInt = 3 ∧ (va).toInt = ((44 : Int32)).toInt) := w_3883_1
                  refine lv_if_ne (tgt := 470) hx hb dX12_goesOn_458 (by decide) (fun c_3885 => ?_) (fun c_3885 => ?_)
                  · have jc_3885 := dk_neqc (k := 0) (by decide +kernel) c_3885
                    have w_3883_1_r := w_3883_1.mp (by omega)
                    clear w_3883_1
                    refine lv_aload_n hx hb dX12_goesOn_470 rfl (lv_at hl 3 rfl) ?_
                    refine dg_get (C := RX12) (T := TX12) (N := 77) hx hb hts (fun w h => bw_mem (wU_X12 w h)) hown K hP sM_0 rfl 8 (by decide) (hts _ (bw_mem wB_1133)) (fun _ h9 => h9) (v := .int y_3) f_y_3 dX12_goesOn_471 ?_
                    refine lv_if_le (tgt := 479) hx hb dX12_goesOn_474 (by decide) (fun _ => ?_) (fun c => absurd (dk_lep (k := 0) (by decide +kernel) (by omega)) c)
                    refine lv_aload_n hx hb dX12_goesOn_479 rfl (lv_at hl 3 rfl) ?_
                    refine lv_iconst (v := 1) hx hb dX12_goesOn_480 (by decide +kernel) ?_
                    have hz_3886 : (1 : Int32).toInt = 1 := by decide +kernel
                    refine dg_callv hS hA1 hA (va_runV (As := [.int 1]) (rest := []) F (c_m_joins l g D o S_2 1 (by decide +kernel) cd ((m_2.1 0 34 _ sM_0 (by decide)).trans f_cd) (by omega) om ((m_2.1 0 45 _ sM_0 (by decide)).trans f_om) (by omega) (by omega) (ZWM.keep ZW m_2 (by decide) (by decide) (by decide) (by decide)) (ZKM.keep ZK m_2 (by decide) (by decide)) (P1M.keep P1 m_2 (by decide) (by decide) (by decide) (by decide) (by decide) (by decide) (by decide) (by decide) (by decide) (by decide) (by decide) (by decide) (by decide) (by decide) (by decide)) I_2 H.size) (cwV 1 hts (bw_V wB_1234 wB_1235 wB_1236 wB_881 wB_1233) rfl rfl rfl (by decide +kernel) ⟨Nat.le_of_ble_eq_true rfl, Nat.le_of_ble_eq_true rfl⟩) (dg_preV sM_0 rfl K ST hP hS hA1 hA) rfl rfl hl.1 rfl (lv_room (Nat.le_of_ble_eq_true rfl)) dX12_goesOn_481 ⟨Nat.le_of_ble_eq_true rfl, Nat.le_of_ble_eq_true rfl⟩) (fun S_3887 hw_3887 H locs hP hS => ?_)
                    obtain ⟨I_3887, m_3887, w_3887_0, w_3887_1, w_3887_2, w_3887_3, -⟩ := hw_3887
                    have M_3887 := dg_sm.tr M_2 m_3887 (by decide) (by decide)
                    have hz_3888 : (1 : Int32).toInt = 1 := by decide +kernel
                    obtain ⟨y_3889, y_3890, f_y_3889, f_y_3890, w_3887_0⟩ := w_3887_0
                    have w_3887_0 : (y_3889).toInt + (y_3890).toInt = (cd).toInt + (om).toInt := w_3887_0
                    have b_y_3889 : 0 ≤ (y_3889).toInt ∧ (y_3889).toInt ≤ 1600 := dg_I.intb (lo := 0) (hi := 1600) I_3887 sM_0 (by decide +kernel) f_y_3889
                    have b_y_3890 : 0 ≤ (y_3890).toInt ∧ (y_3890).toInt ≤ 500 := dg_I.intb (lo := 0) (hi := 500) I_3887 sM_0 (by decide +kernel) f_y_3890
                    have w_3887_1 : TOPM S_3887 (1 : Int32) := w_3887_1
                    refine lv_aload_n hx hb dX12_goesOn_484 rfl (lv_at hl 3 rfl) ?_
                    refine dg_get (C := RX12) (T := TX12) (N := 77) hx hb hts (fun w h => bw_mem (wU_X12 w h)) hown K hP sM_0 rfl 37 (by decide) (hts _ (bw_mem wB_1213)) (fun _ h9 => h9) (v := .ref (o + 22)) (show S_3887.1 0 37 = .ref (o + 22) from dg_I.rel (d := 22) I_3887 sM_0 (by decide +kernel)) dX12_goesOn_485 ?_
                    refine lv_iload_n hx hb dX12_goesOn_488 rfl (lv_at hl 2 rfl) ?_
                    refine lv_iload_n hx hb dX12_goesOn_489 rfl (lv_at hl 1 rfl) ?_
                    refine lv_iconst (v := 3) hx hb dX12_goesOn_490 (by decide +kernel) ?_
                    refine lv_icmp_ne (tgt := 498) hx hb dX12_goesOn_491 (by decide) (fun c_3891 => ?_) (fun c_3891 => ?_)
                    · have jc_3891 := dk_neqc (k := 3) (by decide +kernel) c_3891
                      refine lv_iconst (v := 3) hx hb dX12_goesOn_498 (by decide +kernel) ?_
                      have hin_3892 : vp_in x_5 20 := (dk_inv (by omega) (by omega))
                      have hz_3894 : (3 : Int32).toInt = 3 := by decide +kernel
                      refine dg_iast hx hb K hP hS hA1 sM_22 hin_3892 dX12_goesOn_499 (fun S_3893 e_3893 H locs hP hS => ?_)
                      have I_3893 := dg_I.ufu (lo := 0) (hi := 6) I_3887 e_3893 sM_22 (by decide +kernel) (show 0 ≤ ((3 : Int32)).toInt ∧ ((3 : Int32)).toInt ≤ 6 from (by decide +kernel))
                      have M_3893 := dg_sm.uf M_3887 e_3893 sM_22 (by decide)
                      have hz_3895 : (3 : Int32).toInt = 3 := by decide +kernel
                      refine lv_aload_n hx hb dX12_goesOn_500 rfl (lv_at hl 3 rfl) ?_
                      refine dg_get (C := RX12) (T := TX12) (N := 77) hx hb hts (fun w h => bw_mem (wU_X12 w h)) hown K hP sM_0 rfl 38 (by decide) (hts _ (bw_mem wB_1214)) (fun _ h9 => h9) (v := .ref (o + 23)) (show S_3893.1 0 38 = .ref (o + 23) from dg_I.rel (d := 23) I_3893 sM_0 (by decide +kernel)) dX12_goesOn_501 ?_
                      refine lv_iload_n hx hb dX12_goesOn_504 rfl (lv_at hl 2 rfl) ?_
                      refine lv_iconst (v := 0) hx hb dX12_goesOn_505 (by decide +kernel) ?_
                      have hin_3896 : vp_in x_5 20 := (dk_inv (by omega) (by omega))
                      have hz_3898 : (0 : Int32).toInt = 0 := by decide +kernel
                      refine dg_iast hx hb K hP hS hA1 sM_23 hin_3896 dX12_goesOn_506 (fun S_3897 e_3897 H locs hP hS => ?_)
                      have I_3897 := dg_I.ufu (lo := 0) (hi := 2) I_3893 e_3897 sM_23 (by decide +kernel) (show 0 ≤ ((0 : Int32)).toInt ∧ ((0 : Int32)).toInt ≤ 2 from (by decide +kernel))
                      have M_3897 := dg_sm.uf M_3893 e_3897 sM_23 (by decide)
                      obtain ⟨x_3899, f_x_3899, b_x_3899⟩ := dg_I.int (i := 0) (k := 43) (lo := (-2147483648)) (hi := 2147483647) I_3887 sM_0 (by decide +kernel)
                      have hz_3900 : (0 : Int32).toInt = 0 := by decide +kernel
                      obtain ⟨x_3901, f_x_3901⟩ : ∃ x, S_3887.2.1 22 (x_5 : Int32).toNatClampNeg = x := ⟨_, rfl⟩
                      have hin_3902 : vp_in (x_5 : Int32) 20 := (dk_inv (by omega) (by omega))
                      have b_x_3901 := dk_all_at (dg_I.row (lo := 0) (hi := 6) I_3887 sM_22 (by decide +kernel)) hin_3902 f_x_3901.symm
                      have P0_3897 : P0M S_3897 := P1M.comma w_3887_3 (((m_3887.1 0 42 _ sM_0 (by decide)).trans (m_2.1 0 42 _ sM_0 (by decide))).trans f_dp) f_x_3899 f_y_3890 w_3887_1 (by omega) (fx := x_5) (by omega) f_x_3901 (by omega) e_3893 e_3897
                      refine lv_aload_n hx hb dX12_goesOn_507 rfl (lv_at hl 3 rfl) ?_
                      refine dg_callv hS hA1 hA (va_runV (As := []) (rest := []) F (c_m_ahead l g D o S_3897 se (((dg_uf_F e_3897 0 5).trans ((dg_uf_F e_3893 0 5).trans ((m_3887.1 0 5 _ sM_0 (by decide)).trans (m_2.1 0 5 _ sM_0 (by decide))))).trans f_se) (by omega) sl (((dg_uf_F e_3897 0 2).trans ((dg_uf_F e_3893 0 2).trans ((m_3887.1 0 2 _ sM_0 (by decide)).trans (m_2.1 0 2 _ sM_0 (by decide))))).trans f_sl) (by omega) (by omega) I_3897 H.size) (cwV 0 hts (bw_V wB_1161 wB_1162 wB_1163 wB_881 wB_1160) rfl rfl rfl (by decide +kernel) ⟨Nat.le_of_ble_eq_true rfl, Nat.le_of_ble_eq_true rfl⟩) (dg_preV sM_0 rfl K ST hP hS hA1 hA) rfl rfl hl.1 rfl (lv_room (Nat.le_of_ble_eq_true rfl)) dX12_goesOn_508 ⟨Nat.le_of_ble_eq_true rfl, Nat.le_of_ble_eq_true rfl⟩) (fun S_3903 hw_3903 H locs hP hS => ?_)
                      obtain ⟨I_3903, m_3903, w_3903_0, -⟩ := hw_3903
                      have M_3903 := dg_sm.tr M_3897 m_3903 (by decide) (by decide)
                      obtain ⟨y_3904, y_3905, y_3906, f_y_3904, f_y_3905, f_y_3906, w_3903_0⟩ := w_3903_0
                      have w_3903_0 : (se).toInt ≤ (y_3905).toInt ∧ (y_3905).toInt ≤ (y_3906).toInt ∧ (y_3906).toInt ≤ (sl).toInt ∧ ((y_3904).toInt ≠ 0 → (y_3905).toInt + 1 ≤ (y_3906).toInt) := w_3903_0
                      have b_y_3904 : 0 ≤ (y_3904).toInt ∧ (y_3904).toInt ≤ 3 := dg_I.intb (lo := 0) (hi := 3) I_3903 sM_0 (by decide +kernel) f_y_3904
                      have b_y_3905 : 0 ≤ (y_3905).toInt ∧ (y_3905).toInt ≤ 1600 := dg_I.intb (lo := 0) (hi := 1600) I_3903 sM_0 (by decide +kernel) f_y_3905
                      have b_y_3906 : 0 ≤ (y_3906).toInt ∧ (y_3906).toInt ≤ 1600 := dg_I.intb (lo := 0) (hi := 1600) I_3903 sM_0 (by decide +kernel) f_y_3906
                      refine lv_aload_n hx hb dX12_goesOn_511 rfl (lv_at hl 3 rfl) ?_
                      refine lv_iconst (v := 0) hx hb dX12_goesOn_512 (by decide +kernel) ?_
                      have hz_3907 : (0 : Int32).toInt = 0 := by decide +kernel
                      refine dg_put (ci := 12) (v := .int 0) (ty := tyX12 46) (C := RX12) (T := TX12) (N := 77) hx hb hts (fun w h => bw_mem (wU_X12 w h)) tyX12 tyX12_ok nmX12 hown K hP hS hA1 sM_0 rfl 46 (by decide) (hts _ (bw_mem wB_1237)) (fun _ h9 => h9) rfl (by decide +kernel) (by decide +kernel) (by decide +kernel) dX12_goesOn_513 (fun S_3908 e_3908 H locs hP hS => ?_)
                      have I_3908 := dg_I.uFi (lo := 0) (hi := 1) I_3903 e_3908 sM_0 (by decide +kernel) (show 0 ≤ ((0 : Int32)).toInt ∧ ((0 : Int32)).toInt ≤ 1 from (by decide +kernel))
                      have M_3908 := dg_sm.uF M_3903 e_3908 sM_0 (by decide)
                      refine lv_iconst (v := 1) hx hb dX12_goesOn_516 (by decide +kernel) ?_
                      have hz_3909 : (1 : Int32).toInt = 1 := by decide +kernel
                      have hz_3910 : (1 : Int32).toInt = 1 := by decide +kernel
                      have hz_3911 : (0 : Int32).toInt = 0 := by decide +kernel
                      have hz_3912 : (1 : Int32).toInt = 1 := by decide +kernel
                      have hz_3913 : (0 : Int32).toInt = 0 := by decide +kernel
                      refine W.widen (k := 0) (n := 0) (Nat.le_of_ble_eq_true rfl) (Nat.le_of_ble_eq_true rfl) ?_
                      exact dg_iret hx hb hr hlocks (by decide +kernel) hP hS ⟨I_3908, M_3908, (by decide +kernel), ⟨y_3904, y_3905, y_3906, y_3, y_3889, dp, y_3890, 0, ((dg_uF_ne e_3908 (fun z => absurd z.2 (by decide))).trans f_y_3904), ((dg_uF_ne e_3908 (fun z => absurd z.2 (by decide))).trans f_y_3905), ((dg_uF_ne e_3908 (fun z => absurd z.2 (by decide))).trans f_y_3906), (((dg_uF_ne e_3908 (fun z => absurd z.2 (by decide))).trans ((m_3903.1 0 8 _ sM_0 (by decide)).trans ((dg_uf_F e_3897 0 8).trans ((dg_uf_F e_3893 0 8).trans (m_3887.1 0 8 _ sM_0 (by decide)))))).trans f_y_3), (((dg_uF_ne e_3908 (fun z => absurd z.2 (by decide))).trans ((m_3903.1 0 34 _ sM_0 (by decide)).trans ((dg_uf_F e_3897 0 34).trans (dg_uf_F e_3893 0 34)))).trans f_y_3889), (((dg_uF_ne e_3908 (fun z => absurd z.2 (by decide))).trans ((m_3903.1 0 42 _ sM_0 (by decide)).trans ((dg_uf_F e_3897 0 42).trans ((dg_uf_F e_3893 0 42).trans ((m_3887.1 0 42 _ sM_0 (by decide)).trans (m_2.1 0 42 _ sM_0 (by decide))))))).trans f_dp), (((dg_uF_ne e_3908 (fun z => absurd z.2 (by decide))).trans ((m_3903.1 0 45 _ sM_0 (by decide)).trans ((dg_uf_F e_3897 0 45).trans (dg_uf_F e_3893 0 45)))).trans f_y_3890), (dg_uF_at e_3908), (by omega)⟩, (fun k9 hk9 hk0 => POM.mk0 (P0M.keep (P0M.keep P0_3897 m_3903 (by decide) (by decide) (by decide) (by decide) (by decide) (by decide) (by decide) (by decide) (by decide) (by decide) (by decide) (by decide) (by decide) (by decide) (by decide)) (dg_sm.uF (WF := [(0, 46)]) (WA := []) dg_sm.rf e_3908 sM_0 (by decide)) (by decide) (by decide) (by decide) (by decide) (by decide) (by decide) (by decide) (by decide) (by decide) (by decide) (by decide) (by decide) (by decide) (by decide) (by decide)) (dg_uF_at e_3908) (by omega)), (ZWM.keep (ZWM.keep (ZWM.keep (ZWM.keep w_3887_2 (dg_sm.uf (WF := []) (WA := [22]) dg_sm.rf e_3893 sM_22 (by decide)) (by decide) (by decide) (by decide) (by decide)) (dg_sm.uf (WF := []) (WA := [23]) dg_sm.rf e_3897 sM_23 (by decide)) (by decide) (by decide) (by decide) (by decide)) m_3903 (by decide) (by decide) (by decide) (by decide)) (dg_sm.uF (WF := [(0, 46)]) (WA := []) dg_sm.rf e_3908 sM_0 (by decide)) (by decide) (by decide) (by decide) (by decide)), trivial⟩ dX12_goesOn_517
                    · have jc_3891 := dk_eqc (k := 3) (by decide +kernel) c_3891
                      refine lv_iconst (v := 4) hx hb dX12_goesOn_494 (by decide +kernel) ?_
                      refine lv_goto (tgt := 499) hx hb dX12_goesOn_495 (by decide) ?_
                      have hin_3914 : vp_in x_5 20 := (dk_inv (by omega) (by omega))
                      have hz_3916 : (4 : Int32).toInt = 4 := by decide +kernel
                      refine dg_iast hx hb K hP hS hA1 sM_22 hin_3914 dX12_goesOn_499 (fun S_3915 e_3915 H locs hP hS => ?_)
                      have I_3915 := dg_I.ufu (lo := 0) (hi := 6) I_3887 e_3915 sM_22 (by decide +kernel) (show 0 ≤ ((4 : Int32)).toInt ∧ ((4 : Int32)).toInt ≤ 6 from (by decide +kernel))
                      have M_3915 := dg_sm.uf M_3887 e_3915 sM_22 (by decide)
                      have hz_3917 : (4 : Int32).toInt = 4 := by decide +kernel
                      refine lv_aload_n hx hb dX12_goesOn_500 rfl (lv_at hl 3 rfl) ?_
                      refine dg_get (C := RX12) (T := TX12) (N := 77) hx hb hts (fun w h => bw_mem (wU_X12 w h)) hown K hP sM_0 rfl 38 (by decide) (hts _ (bw_mem wB_1214)) (fun _ h9 => h9) (v := .ref (o + 23)) (show S_3915.1 0 38 = .ref (o + 23) from dg_I.rel (d := 23) I_3915 sM_0 (by decide +kernel)) dX12_goesOn_501 ?_
                      refine lv_iload_n hx hb dX12_goesOn_504 rfl (lv_at hl 2 rfl) ?_
                      refine lv_iconst (v := 0) hx hb dX12_goesOn_505 (by decide +kernel) ?_
                      have hin_3918 : vp_in x_5 20 := (dk_inv (by omega) (by omega))
                      have hz_3920 : (0 : Int32).toInt = 0 := by decide +kernel
                      refine dg_iast hx hb K hP hS hA1 sM_23 hin_3918 dX12_goesOn_506 (fun S_3919 e_3919 H locs hP hS => ?_)
                      have I_3919 := dg_I.ufu (lo := 0) (hi := 2) I_3915 e_3919 sM_23 (by decide +kernel) (show 0 ≤ ((0 : Int32)).toInt ∧ ((0 : Int32)).toInt ≤ 2 from (by decide +kernel))
                      have M_3919 := dg_sm.uf M_3915 e_3919 sM_23 (by decide)
                      obtain ⟨x_3921, f_x_3921, b_x_3921⟩ := dg_I.int (i := 0) (k := 43) (lo := (-2147483648)) (hi := 2147483647) I_3887 sM_0 (by decide +kernel)
                      have hz_3922 : (0 : Int32).toInt = 0 := by decide +kernel
                      obtain ⟨x_3923, f_x_3923⟩ : ∃ x, S_3887.2.1 22 (x_5 : Int32).toNatClampNeg = x := ⟨_, rfl⟩
                      have hin_3924 : vp_in (x_5 : Int32) 20 := (dk_inv (by omega) (by omega))
                      have b_x_3923 := dk_all_at (dg_I.row (lo := 0) (hi := 6) I_3887 sM_22 (by decide +kernel)) hin_3924 f_x_3923.symm
                      have P0_3919 : P0M S_3919 := P1M.comma w_3887_3 (((m_3887.1 0 42 _ sM_0 (by decide)).trans (m_2.1 0 42 _ sM_0 (by decide))).trans f_dp) f_x_3921 f_y_3890 w_3887_1 (by omega) (fx := x_5) (by omega) f_x_3923 (by omega) e_3915 e_3919
                      refine lv_aload_n hx hb dX12_goesOn_507 rfl (lv_at hl 3 rfl) ?_
                      refine dg_callv hS hA1 hA (va_runV (As := []) (rest := []) F (c_m_ahead l g D o S_3919 se (((dg_uf_F e_3919 0 5).trans ((dg_uf_F e_3915 0 5).trans ((m_3887.1 0 5 _ sM_0 (by decide)).trans (m_2.1 0 5 _ sM_0 (by decide))))).trans f_se) (by omega) sl (((dg_uf_F e_3919 0 2).trans ((dg_uf_F e_3915 0 2).trans ((m_3887.1 0 2 _ sM_0 (by decide)).trans (m_2.1 0 2 _ sM_0 (by decide))))).trans f_sl) (by omega) (by omega) I_3919 H.size) (cwV 0 hts (bw_V wB_1161 wB_1162 wB_1163 wB_881 wB_1160) rfl rfl rfl (by decide +kernel) ⟨Nat.le_of_ble_eq_true rfl, Nat.le_of_ble_eq_true rfl⟩) (dg_preV sM_0 rfl K ST hP hS hA1 hA) rfl rfl hl.1 rfl (lv_room (Nat.le_of_ble_eq_true rfl)) dX12_goesOn_508 ⟨Nat.le_of_ble_eq_true rfl, Nat.le_of_ble_eq_true rfl⟩) (fun S_3925 hw_3925 H locs hP hS => ?_)
                      obtain ⟨I_3925, m_3925, w_3925_0, -⟩ := hw_3925
                      have M_3925 := dg_sm.tr M_3919 m_3925 (by decide) (by decide)
                      obtain ⟨y_3926, y_3927, y_3928, f_y_3926, f_y_3927, f_y_3928, w_3925_0⟩ := w_3925_0
                      have w_3925_0 : (se).toInt ≤ (y_3927).toInt ∧ (y_3927).toInt ≤ (y_3928).toInt ∧ (y_3928).toInt ≤ (sl).toInt ∧ ((y_3926).toInt ≠ 0 → (y_3927).toInt + 1 ≤ (y_3928).toInt) := w_3925_0
                      have b_y_3926 : 0 ≤ (y_3926).toInt ∧ (y_3926).toInt ≤ 3 := dg_I.intb (lo := 0) (hi := 3) I_3925 sM_0 (by decide +kernel) f_y_3926
                      have b_y_3927 : 0 ≤ (y_3927).toInt ∧ (y_3927).toInt ≤ 1600 := dg_I.intb (lo := 0) (hi := 1600) I_3925 sM_0 (by decide +kernel) f_y_3927
                      have b_y_3928 : 0 ≤ (y_3928).toInt ∧ (y_3928).toInt ≤ 1600 := dg_I.intb (lo := 0) (hi := 1600) I_3925 sM_0 (by decide +kernel) f_y_3928
                      refine lv_aload_n hx hb dX12_goesOn_511 rfl (lv_at hl 3 rfl) ?_
                      refine lv_iconst (v := 0) hx hb dX12_goesOn_512 (by decide +kernel) ?_
                      have hz_3929 : (0 : Int32).toInt = 0 := by decide +kernel
                      refine dg_put (ci := 12) (v := .int 0) (ty := tyX12 46) (C := RX12) (T := TX12) (N := 77) hx hb hts (fun w h => bw_mem (wU_X12 w h)) tyX12 tyX12_ok nmX12 hown K hP hS hA1 sM_0 rfl 46 (by decide) (hts _ (bw_mem wB_1237)) (fun _ h9 => h9) rfl (by decide +kernel) (by decide +kernel) (by decide +kernel) dX12_goesOn_513 (fun S_3930 e_3930 H locs hP hS => ?_)
                      have I_3930 := dg_I.uFi (lo := 0) (hi := 1) I_3925 e_3930 sM_0 (by decide +kernel) (show 0 ≤ ((0 : Int32)).toInt ∧ ((0 : Int32)).toInt ≤ 1 from (by decide +kernel))
                      have M_3930 := dg_sm.uF M_3925 e_3930 sM_0 (by decide)
                      refine lv_iconst (v := 1) hx hb dX12_goesOn_516 (by decide +kernel) ?_
                      have hz_3931 : (1 : Int32).toInt = 1 := by decide +kernel
                      have hz_3932 : (1 : Int32).toInt = 1 := by decide +kernel
                      have hz_3933 : (0 : Int32).toInt = 0 := by decide +kernel
                      have hz_3934 : (1 : Int32).toInt = 1 := by decide +kernel
                      have hz_3935 : (0 : Int32).toInt = 0 := by decide +kernel
                      refine W.widen (k := 0) (n := 0) (Nat.le_of_ble_eq_true rfl) (Nat.le_of_ble_eq_true rfl) ?_
                      exact dg_iret hx hb hr hlocks (by decide +kernel) hP hS ⟨I_3930, M_3930, (by decide +kernel), ⟨y_3926, y_3927, y_3928, y_3, y_3889, dp, y_3890, 0, ((dg_uF_ne e_3930 (fun z => absurd z.2 (by decide))).trans f_y_3926), ((dg_uF_ne e_3930 (fun z => absurd z.2 (by decide))).trans f_y_3927), ((dg_uF_ne e_3930 (fun z => absurd z.2 (by decide))).trans f_y_3928), (((dg_uF_ne e_3930 (fun z => absurd z.2 (by decide))).trans ((m_3925.1 0 8 _ sM_0 (by decide)).trans ((dg_uf_F e_3919 0 8).trans ((dg_uf_F e_3915 0 8).trans (m_3887.1 0 8 _ sM_0 (by decide)))))).trans f_y_3), (((dg_uF_ne e_3930 (fun z => absurd z.2 (by decide))).trans ((m_3925.1 0 34 _ sM_0 (by decide)).trans ((dg_uf_F e_3919 0 34).trans (dg_uf_F e_3915 0 34)))).trans f_y_3889), (((dg_uF_ne e_3930 (fun z => absurd z.2 (by decide))).trans ((m_3925.1 0 42 _ sM_0 (by decide)).trans ((dg_uf_F e_3919 0 42).trans ((dg_uf_F e_3915 0 42).trans ((m_3887.1 0 42 _ sM_0 (by decide)).trans (m_2.1 0 42 _ sM_0 (by decide))))))).trans f_dp), (((dg_uF_ne e_3930 (fun z => absurd z.2 (by decide))).trans ((m_3925.1 0 45 _ sM_0 (by decide)).trans ((dg_uf_F e_3919 0 45).trans (dg_uf_F e_3915 0 45)))).trans f_y_3890), (dg_uF_at e_3930), (by omega)⟩, (fun k9 hk9 hk0 => POM.mk0 (P0M.keep (P0M.keep P0_3919 m_3925 (by decide) (by decide) (by decide) (by decide) (by decide) (by decide) (by decide) (by decide) (by decide) (by decide) (by decide) (by decide) (by decide) (by decide) (by decide)) (dg_sm.uF (WF := [(0, 46)]) (WA := []) dg_sm.rf e_3930 sM_0 (by decide)) (by decide) (by decide) (by decide) (by decide) (by decide) (by decide) (by decide) (by decide) (by decide) (by decide) (by decide) (by decide) (by decide) (by decide) (by decide)) (dg_uF_at e_3930) (by omega)), (ZWM.keep (ZWM.keep (ZWM.keep (ZWM.keep w_3887_2 (dg_sm.uf (WF := []) (WA := [22]) dg_sm.rf e_3915 sM_22 (by decide)) (by decide) (by decide) (by decide) (by decide)) (dg_sm.uf (WF := []) (WA := [23]) dg_sm.rf e_3919 sM_23 (by decide)) (by decide) (by decide) (by decide) (by decide)) m_3925 (by decide) (by decide) (by decide) (by decide)) (dg_sm.uF (WF := [(0, 46)]) (WA := []) dg_sm.rf e_3930 sM_0 (by decide)) (by decide) (by decide) (by decide) (by decide)), trivial⟩ dX12_goesOn_517
                  · have jc_3885 := dk_eqc (k := 0) (by decide +kernel) c_3885
                    clear w_3883_1
                    refine lv_aload_n hx hb dX12_goesOn_461 rfl (lv_at hl 3 rfl) ?_
                    refine lv_iconst (v := 1) hx hb dX12_goesOn_462 (by decide +kernel) ?_
                    refine lv_aload_n hx hb dX12_goesOn_463 rfl (lv_at hl 3 rfl) ?_
                    refine dg_get (C := RX12) (T := TX12) (N := 77) hx hb hts (fun w h => bw_mem (wU_X12 w h)) hown K hP sM_0 rfl 4 (by decide) (hts _ (bw_mem wB_1145)) (fun _ h9 => h9) (v := .int sa) ((m_2.1 0 4 _ sM_0 (by decide)).trans f_sa) dX12_goesOn_464 ?_
                    have hz_3936 : (1 : Int32).toInt = 1 := by decide +kernel
                    refine dg_callv hS hA1 hA (va_runV (As := [.int 1, .int sa]) (rest := []) F (c_m_blame l g D o S_2 1 (by decide +kernel) sa y_3 f_y_3 (by omega) I_2 H.size) (cwV 2 hts (bw_V wB_1137 wB_1138 wB_1139 wB_881 wB_1136) rfl rfl rfl (by decide +kernel) ⟨Nat.le_of_ble_eq_true rfl, Nat.le_of_ble_eq_true rfl⟩) (dg_preV sM_0 rfl K ST hP hS hA1 hA) rfl rfl hl.1 rfl (lv_room (Nat.le_of_ble_eq_true rfl)) dX12_goesOn_467 ⟨Nat.le_of_ble_eq_true rfl, Nat.le_of_ble_eq_true rfl⟩) (fun S_3937 hw_3937 H locs hP hS => ?_)
                    obtain ⟨I_3937, m_3937, w_3937_0, -⟩ := hw_3937
                    have M_3937 := dg_sm.tr M_2 m_3937 (by decide) (by decide)
                    have hz_3938 : (1 : Int32).toInt = 1 := by decide +kernel
                    obtain ⟨y_3939, f_y_3939, w_3937_0⟩ := w_3937_0
                    have w_3937_0 : ((y_3).toInt ≠ 0 → (y_3939).toInt = (y_3).toInt) ∧ ((y_3).toInt = 0 → (y_3939).toInt = ((1 : Int32)).toInt) := w_3937_0
                    have b_y_3939 : 0 ≤ (y_3939).toInt ∧ (y_3939).toInt ≤ 6 := dg_I.intb (lo := 0) (hi := 6) I_3937 sM_0 (by decide +kernel) f_y_3939
                    refine lv_aload_n hx hb dX12_goesOn_470 rfl (lv_at hl 3 rfl) ?_
                    refine dg_get (C := RX12) (T := TX12) (N := 77) hx hb hts (fun w h => bw_mem (wU_X12 w h)) hown K hP sM_0 rfl 8 (by decide) (hts _ (bw_mem wB_1133)) (fun _ h9 => h9) (v := .int y_3939) f_y_3939 dX12_goesOn_471 ?_
                    refine lv_if_le (tgt := 479) hx hb dX12_goesOn_474 (by decide) (fun c_3940 => ?_) (fun c_3940 => ?_)
                    · have jc_3940 := dk_lec (k := 0) (by decide +kernel) c_3940
                      refine lv_aload_n hx hb dX12_goesOn_479 rfl (lv_at hl 3 rfl) ?_
                      refine lv_iconst (v := 1) hx hb dX12_goesOn_480 (by decide +kernel) ?_
                      have hz_3941 : (1 : Int32).toInt = 1 := by decide +kernel
                      refine dg_callv hS hA1 hA (va_runV (As := [.int 1]) (rest := []) F (c_m_joins l g D o S_3937 1 (by decide +kernel) cd (((m_3937.1 0 34 _ sM_0 (by decide)).trans (m_2.1 0 34 _ sM_0 (by decide))).trans f_cd) (by omega) om (((m_3937.1 0 45 _ sM_0 (by decide)).trans (m_2.1 0 45 _ sM_0 (by decide))).trans f_om) (by omega) (by omega) (ZWM.keep (ZWM.keep ZW m_2 (by decide) (by decide) (by decide) (by decide)) m_3937 (by decide) (by decide) (by decide) (by decide)) (ZKM.keep (ZKM.keep ZK m_2 (by decide) (by decide)) m_3937 (by decide) (by decide)) (P1M.keep (P1M.keep P1 m_2 (by decide) (by decide) (by decide) (by decide) (by decide) (by decide) (by decide) (by decide) (by decide) (by decide) (by decide) (by decide) (by decide) (by decide) (by decide)) m_3937 (by decide) (by decide) (by decide) (by decide) (by decide) (by decide) (by decide) (by decide) (by decide) (by decide) (by decide) (by decide) (by decide) (by decide) (by decide)) I_3937 H.size) (cwV 1 hts (bw_V wB_1234 wB_1235 wB_1236 wB_881 wB_1233) rfl rfl rfl (by decide +kernel) ⟨Nat.le_of_ble_eq_true rfl, Nat.le_of_ble_eq_true rfl⟩) (dg_preV sM_0 rfl K ST hP hS hA1 hA) rfl rfl hl.1 rfl (lv_room (Nat.le_of_ble_eq_true rfl)) dX12_goesOn_481 ⟨Nat.le_of_ble_eq_true rfl, Nat.le_of_ble_eq_true rfl⟩) (fun S_3942 hw_3942 H locs hP hS => ?_)
                      obtain ⟨I_3942, m_3942, w_3942_0, w_3942_1, w_3942_2, w_3942_3, -⟩ := hw_3942
                      have M_3942 := dg_sm.tr M_3937 m_3942 (by decide) (by decide)
                      have hz_3943 : (1 : Int32).toInt = 1 := by decide +kernel
                      obtain ⟨y_3944, y_3945, f_y_3944, f_y_3945, w_3942_0⟩ := w_3942_0
                      have w_3942_0 : (y_3944).toInt + (y_3945).toInt = (cd).toInt + (om).toInt := w_3942_0
                      have b_y_3944 : 0 ≤ (y_3944).toInt ∧ (y_3944).toInt ≤ 1600 := dg_I.intb (lo := 0) (hi := 1600) I_3942 sM_0 (by decide +kernel) f_y_3944
                      have b_y_3945 : 0 ≤ (y_3945).toInt ∧ (y_3945).toInt ≤ 500 := dg_I.intb (lo := 0) (hi := 500) I_3942 sM_0 (by decide +kernel) f_y_3945
                      have w_3942_1 : TOPM S_3942 (1 : Int32) := w_3942_1
                      refine lv_aload_n hx hb dX12_goesOn_484 rfl (lv_at hl 3 rfl) ?_
                      refine dg_get (C := RX12) (T := TX12) (N := 77) hx hb hts (fun w h => bw_mem (wU_X12 w h)) hown K hP sM_0 rfl 37 (by decide) (hts _ (bw_mem wB_1213)) (fun _ h9 => h9) (v := .ref (o + 22)) (show S_3942.1 0 37 = .ref (o + 22) from dg_I.rel (d := 22) I_3942 sM_0 (by decide +kernel)) dX12_goesOn_485 ?_
                      refine lv_iload_n hx hb dX12_goesOn_488 rfl (lv_at hl 2 rfl) ?_
                      refine lv_iload_n hx hb dX12_goesOn_489 rfl (lv_at hl 1 rfl) ?_
                      refine lv_iconst (v := 3) hx hb dX12_goesOn_490 (by decide +kernel) ?_
                      refine lv_icmp_ne (tgt := 498) hx hb dX12_goesOn_491 (by decide) (fun c_3946 => ?_) (fun c_3946 => ?_)
                      · have jc_3946 := dk_neqc (k := 3) (by decide +kernel) c_3946
                        refine lv_iconst (v := 3) hx hb dX12_goesOn_498 (by decide +kernel) ?_
                        have hin_3947 : vp_in x_5 20 := (dk_inv (by omega) (by omega))
                        have hz_3949 : (3 : Int32).toInt = 3 := by decide +kernel
                        refine dg_iast hx hb K hP hS hA1 sM_22 hin_3947 dX12_goesOn_499 (fun S_3948 e_3948 H locs hP hS => ?_)
                        have I_3948 := dg_I.ufu (lo := 0) (hi := 6) I_3942 e_3948 sM_22 (by decide +kernel) (show 0 ≤ ((3 : Int32)).toInt ∧ ((3 : Int32)).toInt ≤ 6 from (by decide +kernel))
                        have M_3948 := dg_sm.uf M_3942 e_3948 sM_22 (by decide)
                        have hz_3950 : (3 : Int32).toInt = 3 := by decide +kernel
                        refine lv_aload_n hx hb dX12_goesOn_500 rfl (lv_at hl 3 rfl) ?_
                        refine dg_get (C := RX12) (T := TX12) (N := 77) hx hb hts (fun w h => bw_mem (wU_X12 w h)) hown K hP sM_0 rfl 38 (by decide) (hts _ (bw_mem wB_1214)) (fun _ h9 => h9) (v := .ref (o + 23)) (show S_3948.1 0 38 = .ref (o + 23) from dg_I.rel (d := 23) I_3948 sM_0 (by decide +kernel)) dX12_goesOn_501 ?_
                        refine lv_iload_n hx hb dX12_goesOn_504 rfl (lv_at hl 2 rfl) ?_
                        refine lv_iconst (v := 0) hx hb dX12_goesOn_505 (by decide +kernel) ?_
                        have hin_3951 : vp_in x_5 20 := (dk_inv (by omega) (by omega))
                        have hz_3953 : (0 : Int32).toInt = 0 := by decide +kernel
                        refine dg_iast hx hb K hP hS hA1 sM_23 hin_3951 dX12_goesOn_506 (fun S_3952 e_3952 H locs hP hS => ?_)
                        have I_3952 := dg_I.ufu (lo := 0) (hi := 2) I_3948 e_3952 sM_23 (by decide +kernel) (show 0 ≤ ((0 : Int32)).toInt ∧ ((0 : Int32)).toInt ≤ 2 from (by decide +kernel))
                        have M_3952 := dg_sm.uf M_3948 e_3952 sM_23 (by decide)
                        obtain ⟨x_3954, f_x_3954, b_x_3954⟩ := dg_I.int (i := 0) (k := 43) (lo := (-2147483648)) (hi := 2147483647) I_3942 sM_0 (by decide +kernel)
                        have hz_3955 : (0 : Int32).toInt = 0 := by decide +kernel
                        obtain ⟨x_3956, f_x_3956⟩ : ∃ x, S_3942.2.1 22 (x_5 : Int32).toNatClampNeg = x := ⟨_, rfl⟩
                        have hin_3957 : vp_in (x_5 : Int32) 20 := (dk_inv (by omega) (by omega))
                        have b_x_3956 := dk_all_at (dg_I.row (lo := 0) (hi := 6) I_3942 sM_22 (by decide +kernel)) hin_3957 f_x_3956.symm
                        have P0_3952 : P0M S_3952 := P1M.comma w_3942_3 (((m_3942.1 0 42 _ sM_0 (by decide)).trans ((m_3937.1 0 42 _ sM_0 (by decide)).trans (m_2.1 0 42 _ sM_0 (by decide)))).trans f_dp) f_x_3954 f_y_3945 w_3942_1 (by omega) (fx := x_5) (by omega) f_x_3956 (by omega) e_3948 e_3952
                        refine lv_aload_n hx hb dX12_goesOn_507 rfl (lv_at hl 3 rfl) ?_
                        refine dg_callv hS hA1 hA (va_runV (As := []) (rest := []) F (c_m_ahead l g D o S_3952 se (((dg_uf_F e_3952 0 5).trans ((dg_uf_F e_3948 0 5).trans ((m_3942.1 0 5 _ sM_0 (by decide)).trans ((m_3937.1 0 5 _ sM_0 (by decide)).trans (m_2.1 0 5 _ sM_0 (by decide)))))).trans f_se) (by omega) sl (((dg_uf_F e_3952 0 2).trans ((dg_uf_F e_3948 0 2).trans ((m_3942.1 0 2 _ sM_0 (by decide)).trans ((m_3937.1 0 2 _ sM_0 (by decide)).trans (m_2.1 0 2 _ sM_0 (by decide)))))).trans f_sl) (by omega) (by omega) I_3952 H.size) (cwV 0 hts (bw_V wB_1161 wB_1162 wB_1163 wB_881 wB_1160) rfl rfl rfl (by decide +kernel) ⟨Nat.le_of_ble_eq_true rfl, Nat.le_of_ble_eq_true rfl⟩) (dg_preV sM_0 rfl K ST hP hS hA1 hA) rfl rfl hl.1 rfl (lv_room (Nat.le_of_ble_eq_true rfl)) dX12_goesOn_508 ⟨Nat.le_of_ble_eq_true rfl, Nat.le_of_ble_eq_true rfl⟩) (fun S_3958 hw_3958 H locs hP hS => ?_)
                        obtain ⟨I_3958, m_3958, w_3958_0, -⟩ := hw_3958
                        have M_3958 := dg_sm.tr M_3952 m_3958 (by decide) (by decide)
                        obtain ⟨y_3959, y_3960, y_3961, f_y_3959, f_y_3960, f_y_3961, w_3958_0⟩ := w_3958_0
                        have w_3958_0 : (se).toInt ≤ (y_3960).toInt ∧ (y_3960).toInt ≤ (y_3961).toInt ∧ (y_3961).toInt ≤ (sl).toInt ∧ ((y_3959).toInt ≠ 0 → (y_3960).toInt + 1 ≤ (y_3961).toInt) := w_3958_0
                        have b_y_3959 : 0 ≤ (y_3959).toInt ∧ (y_3959).toInt ≤ 3 := dg_I.intb (lo := 0) (hi := 3) I_3958 sM_0 (by decide +kernel) f_y_3959
                        have b_y_3960 : 0 ≤ (y_3960).toInt ∧ (y_3960).toInt ≤ 1600 := dg_I.intb (lo := 0) (hi := 1600) I_3958 sM_0 (by decide +kernel) f_y_3960
                        have b_y_3961 : 0 ≤ (y_3961).toInt ∧ (y_3961).toInt ≤ 1600 := dg_I.intb (lo := 0) (hi := 1600) I_3958 sM_0 (by decide +kernel) f_y_3961
                        refine lv_aload_n hx hb dX12_goesOn_511 rfl (lv_at hl 3 rfl) ?_
                        refine lv_iconst (v := 0) hx hb dX12_goesOn_512 (by decide +kernel) ?_
                        have hz_3962 : (0 : Int32).toInt = 0 := by decide +kernel
                        refine dg_put (ci := 12) (v := .int 0) (ty := tyX12 46) (C := RX12) (T := TX12) (N := 77) hx hb hts (fun w h => bw_mem (wU_X12 w h)) tyX12 tyX12_ok nmX12 hown K hP hS hA1 sM_0 rfl 46 (by decide) (hts _ (bw_mem wB_1237)) (fun _ h9 => h9) rfl (by decide +kernel) (by decide +kernel) (by decide +kernel) dX12_goesOn_513 (fun S_3963 e_3963 H locs hP hS => ?_)
                        have I_3963 := dg_I.uFi (lo := 0) (hi := 1) I_3958 e_3963 sM_0 (by decide +kernel) (show 0 ≤ ((0 : Int32)).toInt ∧ ((0 : Int32)).toInt ≤ 1 from (by decide +kernel))
                        have M_3963 := dg_sm.uF M_3958 e_3963 sM_0 (by decide)
                        refine lv_iconst (v := 1) hx hb dX12_goesOn_516 (by decide +kernel) ?_
                        have hz_3964 : (1 : Int32).toInt = 1 := by decide +kernel
                        have hz_3965 : (1 : Int32).toInt = 1 := by decide +kernel
                        have hz_3966 : (0 : Int32).toInt = 0 := by decide +kernel
                        have hz_3967 : (1 : Int32).toInt = 1 := by decide +kernel
                        have hz_3968 : (0 : Int32).toInt = 0 := by decide +kernel
                        refine W.widen (k := 0) (n := 0) (Nat.le_of_ble_eq_true rfl) (Nat.le_of_ble_eq_true rfl) ?_
                        exact dg_iret hx hb hr hlocks (by decide +kernel) hP hS ⟨I_3963, M_3963, (by decide +kernel), ⟨y_3959, y_3960, y_3961, y_3939, y_3944, dp, y_3945, 0, ((dg_uF_ne e_3963 (fun z => absurd z.2 (by decide))).trans f_y_3959), ((dg_uF_ne e_3963 (fun z => absurd z.2 (by decide))).trans f_y_3960), ((dg_uF_ne e_3963 (fun z => absurd z.2 (by decide))).trans f_y_3961), (((dg_uF_ne e_3963 (fun z => absurd z.2 (by decide))).trans ((m_3958.1 0 8 _ sM_0 (by decide)).trans ((dg_uf_F e_3952 0 8).trans ((dg_uf_F e_3948 0 8).trans (m_3942.1 0 8 _ sM_0 (by decide)))))).trans f_y_3939), (((dg_uF_ne e_3963 (fun z => absurd z.2 (by decide))).trans ((m_3958.1 0 34 _ sM_0 (by decide)).trans ((dg_uf_F e_3952 0 34).trans (dg_uf_F e_3948 0 34)))).trans f_y_3944), (((dg_uF_ne e_3963 (fun z => absurd z.2 (by decide))).trans ((m_3958.1 0 42 _ sM_0 (by decide)).trans ((dg_uf_F e_3952 0 42).trans ((dg_uf_F e_3948 0 42).trans ((m_3942.1 0 42 _ sM_0 (by decide)).trans ((m_3937.1 0 42 _ sM_0 (by decide)).trans (m_2.1 0 42 _ sM_0 (by decide)))))))).trans f_dp), (((dg_uF_ne e_3963 (fun z => absurd z.2 (by decide))).trans ((m_3958.1 0 45 _ sM_0 (by decide)).trans ((dg_uf_F e_3952 0 45).trans (dg_uf_F e_3948 0 45)))).trans f_y_3945), (dg_uF_at e_3963), (by omega)⟩, (fun k9 hk9 hk0 => POM.mk0 (P0M.keep (P0M.keep P0_3952 m_3958 (by decide) (by decide) (by decide) (by decide) (by decide) (by decide) (by decide) (by decide) (by decide) (by decide) (by decide) (by decide) (by decide) (by decide) (by decide)) (dg_sm.uF (WF := [(0, 46)]) (WA := []) dg_sm.rf e_3963 sM_0 (by decide)) (by decide) (by decide) (by decide) (by decide) (by decide) (by decide) (by decide) (by decide) (by decide) (by decide) (by decide) (by decide) (by decide) (by decide) (by decide)) (dg_uF_at e_3963) (by omega)), (ZWM.keep (ZWM.keep (ZWM.keep (ZWM.keep w_3942_2 (dg_sm.uf (WF := []) (WA := [22]) dg_sm.rf e_3948 sM_22 (by decide)) (by decide) (by decide) (by decide) (by decide)) (dg_sm.uf (WF := []) (WA := [23]) dg_sm.rf e_3952 sM_23 (by decide)) (by decide) (by decide) (by decide) (by decide)) m_3958 (by decide) (by decide) (by decide) (by decide)) (dg_sm.uF (WF := [(0, 46)]) (WA := []) dg_sm.rf e_3963 sM_0 (by decide)) (by decide) (by decide) (by decide) (by decide)), trivial⟩ dX12_goesOn_517
                      · have jc_3946 := dk_eqc (k := 3) (by decide +kernel) c_3946
                        refine lv_iconst (v := 4) hx hb dX12_goesOn_494 (by decide +kernel) ?_
                        refine lv_goto (tgt := 499) hx hb dX12_goesOn_495 (by decide) ?_
                        have hin_3969 : vp_in x_5 20 := (dk_inv (by omega) (by omega))
                        have hz_3971 : (4 : Int32).toInt = 4 := by decide +kernel
                        refine dg_iast hx hb K hP hS hA1 sM_22 hin_3969 dX12_goesOn_499 (fun S_3970 e_3970 H locs hP hS => ?_)
                        have I_3970 := dg_I.ufu (lo := 0) (hi := 6) I_3942 e_3970 sM_22 (by decide +kernel) (show 0 ≤ ((4 : Int32)).toInt ∧ ((4 : Int32)).toInt ≤ 6 from (by decide +kernel))
                        have M_3970 := dg_sm.uf M_3942 e_3970 sM_22 (by decide)
                        have hz_3972 : (4 : Int32).toInt = 4 := by decide +kernel
                        refine lv_aload_n hx hb dX12_goesOn_500 rfl (lv_at hl 3 rfl) ?_
                        refine dg_get (C := RX12) (T := TX12) (N := 77) hx hb hts (fun w h => bw_mem (wU_X12 w h)) hown K hP sM_0 rfl 38 (by decide) (hts _ (bw_mem wB_1214)) (fun _ h9 => h9) (v := .ref (o + 23)) (show S_3970.1 0 38 = .ref (o + 23) from dg_I.rel (d := 23) I_3970 sM_0 (by decide +kernel)) dX12_goesOn_501 ?_
                        refine lv_iload_n hx hb dX12_goesOn_504 rfl (lv_at hl 2 rfl) ?_
                        refine lv_iconst (v := 0) hx hb dX12_goesOn_505 (by decide +kernel) ?_
                        have hin_3973 : vp_in x_5 20 := (dk_inv (by omega) (by omega))
                        have hz_3975 : (0 : Int32).toInt = 0 := by decide +kernel
                        refine dg_iast hx hb K hP hS hA1 sM_23 hin_3973 dX12_goesOn_506 (fun S_3974 e_3974 H locs hP hS => ?_)
                        have I_3974 := dg_I.ufu (lo := 0) (hi := 2) I_3970 e_3974 sM_23 (by decide +kernel) (show 0 ≤ ((0 : Int32)).toInt ∧ ((0 : Int32)).toInt ≤ 2 from (by decide +kernel))
                        have M_3974 := dg_sm.uf M_3970 e_3974 sM_23 (by decide)
                        obtain ⟨x_3976, f_x_3976, b_x_3976⟩ := dg_I.int (i := 0) (k := 43) (lo := (-2147483648)) (hi := 2147483647) I_3942 sM_0 (by decide +kernel)
                        have hz_3977 : (0 : Int32).toInt = 0 := by decide +kernel
                        obtain ⟨x_3978, f_x_3978⟩ : ∃ x, S_3942.2.1 22 (x_5 : Int32).toNatClampNeg = x := ⟨_, rfl⟩
                        have hin_3979 : vp_in (x_5 : Int32) 20 := (dk_inv (by omega) (by omega))
                        have b_x_3978 := dk_all_at (dg_I.row (lo := 0) (hi := 6) I_3942 sM_22 (by decide +kernel)) hin_3979 f_x_3978.symm
                        have P0_3974 : P0M S_3974 := P1M.comma w_3942_3 (((m_3942.1 0 42 _ sM_0 (by decide)).trans ((m_3937.1 0 42 _ sM_0 (by decide)).trans (m_2.1 0 42 _ sM_0 (by decide)))).trans f_dp) f_x_3976 f_y_3945 w_3942_1 (by omega) (fx := x_5) (by omega) f_x_3978 (by omega) e_3970 e_3974
                        refine lv_aload_n hx hb dX12_goesOn_507 rfl (lv_at hl 3 rfl) ?_
                        refine dg_callv hS hA1 hA (va_runV (As := []) (rest := []) F (c_m_ahead l g D o S_3974 se (((dg_uf_F e_3974 0 5).trans ((dg_uf_F e_3970 0 5).trans ((m_3942.1 0 5 _ sM_0 (by decide)).trans ((m_3937.1 0 5 _ sM_0 (by decide)).trans (m_2.1 0 5 _ sM_0 (by decide)))))).trans f_se) (by omega) sl (((dg_uf_F e_3974 0 2).trans ((dg_uf_F e_3970 0 2).trans ((m_3942.1 0 2 _ sM_0 (by decide)).trans ((m_3937.1 0 2 _ sM_0 (by decide)).trans (m_2.1 0 2 _ sM_0 (by decide)))))).trans f_sl) (by omega) (by omega) I_3974 H.size) (cwV 0 hts (bw_V wB_1161 wB_1162 wB_1163 wB_881 wB_1160) rfl rfl rfl (by decide +kernel) ⟨Nat.le_of_ble_eq_true rfl, Nat.le_of_ble_eq_true rfl⟩) (dg_preV sM_0 rfl K ST hP hS hA1 hA) rfl rfl hl.1 rfl (lv_room (Nat.le_of_ble_eq_true rfl)) dX12_goesOn_508 ⟨Nat.le_of_ble_eq_true rfl, Nat.le_of_ble_eq_true rfl⟩) (fun S_3980 hw_3980 H locs hP hS => ?_)
                        obtain ⟨I_3980, m_3980, w_3980_0, -⟩ := hw_3980
                        have M_3980 := dg_sm.tr M_3974 m_3980 (by decide) (by decide)
                        obtain ⟨y_3981, y_3982, y_3983, f_y_3981, f_y_3982, f_y_3983, w_3980_0⟩ := w_3980_0
                        have w_3980_0 : (se).toInt ≤ (y_3982).toInt ∧ (y_3982).toInt ≤ (y_3983).toInt ∧ (y_3983).toInt ≤ (sl).toInt ∧ ((y_3981).toInt ≠ 0 → (y_3982).toInt + 1 ≤ (y_3983).toInt) := w_3980_0
                        have b_y_3981 : 0 ≤ (y_3981).toInt ∧ (y_3981).toInt ≤ 3 := dg_I.intb (lo := 0) (hi := 3) I_3980 sM_0 (by decide +kernel) f_y_3981
                        have b_y_3982 : 0 ≤ (y_3982).toInt ∧ (y_3982).toInt ≤ 1600 := dg_I.intb (lo := 0) (hi := 1600) I_3980 sM_0 (by decide +kernel) f_y_3982
                        have b_y_3983 : 0 ≤ (y_3983).toInt ∧ (y_3983).toInt ≤ 1600 := dg_I.intb (lo := 0) (hi := 1600) I_3980 sM_0 (by decide +kernel) f_y_3983
                        refine lv_aload_n hx hb dX12_goesOn_511 rfl (lv_at hl 3 rfl) ?_
                        refine lv_iconst (v := 0) hx hb dX12_goesOn_512 (by decide +kernel) ?_
                        have hz_3984 : (0 : Int32).toInt = 0 := by decide +kernel
                        refine dg_put (ci := 12) (v := .int 0) (ty := tyX12 46) (C := RX12) (T := TX12) (N := 77) hx hb hts (fun w h => bw_mem (wU_X12 w h)) tyX12 tyX12_ok nmX12 hown K hP hS hA1 sM_0 rfl 46 (by decide) (hts _ (bw_mem wB_1237)) (fun _ h9 => h9) rfl (by decide +kernel) (by decide +kernel) (by decide +kernel) dX12_goesOn_513 (fun S_3985 e_3985 H locs hP hS => ?_)
                        have I_3985 := dg_I.uFi (lo := 0) (hi := 1) I_3980 e_3985 sM_0 (by decide +kernel) (show 0 ≤ ((0 : Int32)).toInt ∧ ((0 : Int32)).toInt ≤ 1 from (by decide +kernel))
                        have M_3985 := dg_sm.uF M_3980 e_3985 sM_0 (by decide)
                        refine lv_iconst (v := 1) hx hb dX12_goesOn_516 (by decide +kernel) ?_
                        have hz_3986 : (1 : Int32).toInt = 1 := by decide +kernel
                        have hz_3987 : (1 : Int32).toInt = 1 := by decide +kernel
                        have hz_3988 : (0 : Int32).toInt = 0 := by decide +kernel
                        have hz_3989 : (1 : Int32).toInt = 1 := by decide +kernel
                        have hz_3990 : (0 : Int32).toInt = 0 := by decide +kernel
                        refine W.widen (k := 0) (n := 0) (Nat.le_of_ble_eq_true rfl) (Nat.le_of_ble_eq_true rfl) ?_
                        exact dg_iret hx hb hr hlocks (by decide +kernel) hP hS ⟨I_3985, M_3985, (by decide +kernel), ⟨y_3981, y_3982, y_3983, y_3939, y_3944, dp, y_3945, 0, ((dg_uF_ne e_3985 (fun z => absurd z.2 (by decide))).trans f_y_3981), ((dg_uF_ne e_3985 (fun z => absurd z.2 (by decide))).trans f_y_3982), ((dg_uF_ne e_3985 (fun z => absurd z.2 (by decide))).trans f_y_3983), (((dg_uF_ne e_3985 (fun z => absurd z.2 (by decide))).trans ((m_3980.1 0 8 _ sM_0 (by decide)).trans ((dg_uf_F e_3974 0 8).trans ((dg_uf_F e_3970 0 8).trans (m_3942.1 0 8 _ sM_0 (by decide)))))).trans f_y_3939), (((dg_uF_ne e_3985 (fun z => absurd z.2 (by decide))).trans ((m_3980.1 0 34 _ sM_0 (by decide)).trans ((dg_uf_F e_3974 0 34).trans (dg_uf_F e_3970 0 34)))).trans f_y_3944), (((dg_uF_ne e_3985 (fun z => absurd z.2 (by decide))).trans ((m_3980.1 0 42 _ sM_0 (by decide)).trans ((dg_uf_F e_3974 0 42).trans ((dg_uf_F e_3970 0 42).trans ((m_3942.1 0 42 _ sM_0 (by decide)).trans ((m_3937.1 0 42 _ sM_0 (by decide)).trans (m_2.1 0 42 _ sM_0 (by decide)))))))).trans f_dp), (((dg_uF_ne e_3985 (fun z => absurd z.2 (by decide))).trans ((m_3980.1 0 45 _ sM_0 (by decide)).trans ((dg_uf_F e_3974 0 45).trans (dg_uf_F e_3970 0 45)))).trans f_y_3945), (dg_uF_at e_3985), (by omega)⟩, (fun k9 hk9 hk0 => POM.mk0 (P0M.keep (P0M.keep P0_3974 m_3980 (by decide) (by decide) (by decide) (by decide) (by decide) (by decide) (by decide) (by decide) (by decide) (by decide) (by decide) (by decide) (by decide) (by decide) (by decide)) (dg_sm.uF (WF := [(0, 46)]) (WA := []) dg_sm.rf e_3985 sM_0 (by decide)) (by decide) (by decide) (by decide) (by decide) (by decide) (by decide) (by decide) (by decide) (by decide) (by decide) (by decide) (by decide) (by decide) (by decide) (by decide)) (dg_uF_at e_3985) (by omega)), (ZWM.keep (ZWM.keep (ZWM.keep (ZWM.keep w_3942_2 (dg_sm.uf (WF := []) (WA := [22]) dg_sm.rf e_3970 sM_22 (by decide)) (by decide) (by decide) (by decide) (by decide)) (dg_sm.uf (WF := []) (WA := [23]) dg_sm.rf e_3974 sM_23 (by decide)) (by decide) (by decide) (by decide) (by decide)) m_3980 (by decide) (by decide) (by decide) (by decide)) (dg_sm.uF (WF := [(0, 46)]) (WA := []) dg_sm.rf e_3985 sM_0 (by decide)) (by decide) (by decide) (by decide) (by decide)), trivial⟩ dX12_goesOn_517
                    · have jc_3940 := dk_nlec (k := 0) (by decide +kernel) c_3940
                      refine lv_iconst (v := 0) hx hb dX12_goesOn_477 (by decide +kernel) ?_
                      have hz_3991 : (0 : Int32).toInt = 0 := by decide +kernel
                      have hz_3992 : (0 : Int32).toInt = 0 := by decide +kernel
                      have hz_3993 : (0 : Int32).toInt = 0 := by decide +kernel
                      refine W.widen (k := 0) (n := 0) (Nat.le_of_ble_eq_true rfl) (Nat.le_of_ble_eq_true rfl) ?_
                      exact dg_iret hx hb hr hlocks (by decide +kernel) hP hS ⟨I_3937, M_3937, (by decide +kernel), ⟨sg, sa, se, y_3939, cd, dp, om, oo, (((m_3937.1 0 3 _ sM_0 (by decide)).trans (m_2.1 0 3 _ sM_0 (by decide))).trans f_sg), (((m_3937.1 0 4 _ sM_0 (by decide)).trans (m_2.1 0 4 _ sM_0 (by decide))).trans f_sa), (((m_3937.1 0 5 _ sM_0 (by decide)).trans (m_2.1 0 5 _ sM_0 (by decide))).trans f_se), f_y_3939, (((m_3937.1 0 34 _ sM_0 (by decide)).trans (m_2.1 0 34 _ sM_0 (by decide))).trans f_cd), (((m_3937.1 0 42 _ sM_0 (by decide)).trans (m_2.1 0 42 _ sM_0 (by decide))).trans f_dp), (((m_3937.1 0 45 _ sM_0 (by decide)).trans (m_2.1 0 45 _ sM_0 (by decide))).trans f_om), (((m_3937.1 0 46 _ sM_0 (by decide)).trans (m_2.1 0 46 _ sM_0 (by decide))).trans f_oo), (by omega)⟩, (fun k9 hk9 hk0 => by have q9 := (f_y_3939).symm.trans hk9; cases q9; omega), (ZWM.keep (ZWM.keep ZW m_2 (by decide) (by decide) (by decide) (by decide)) m_3937 (by decide) (by decide) (by decide) (by decide)), trivial⟩ dX12_goesOn_478
                refine lv_icmp_eq (tgt := 452) hx hb dX12_goesOn_443 (by decide) (fun c_3994 => ?_) (fun c_3994 => ?_)
                · have jc_3994 := dk_eqc (k := 3) (by decide +kernel) c_3994
                  exact J_3881  (by omega) _ _ hP hS _ (lv_sub hl [0, 1, 2, 3] rfl)
                · have jc_3994 := dk_neqc (k := 3) (by decide +kernel) c_3994
                  refine lv_iload_n hx hb dX12_goesOn_446 rfl (lv_at hl 1 rfl) ?_
                  refine lv_bipush (v := 6) hx hb dX12_goesOn_447 (by decide +kernel) ?_
                  refine lv_icmp_ne (tgt := 518) hx hb dX12_goesOn_449 (by decide) (fun c_3995 => ?_) (fun c_3995 => ?_)
                  · have jc_3995 := dk_neqc (k := 6) (by decide +kernel) c_3995
                    refine lv_aload_n hx hb dX12_goesOn_518 rfl (lv_at hl 3 rfl) ?_
                    refine lv_iload_n hx hb dX12_goesOn_519 rfl (lv_at hl 1 rfl) ?_
                    refine lv_iconst (v := 5) hx hb dX12_goesOn_520 (by decide +kernel) ?_
                    have J_4109 : ∀ (x_3997 : Int32), (41 ≤ (x_3997).toInt ∧ (x_3997).toInt ≤ 93) → ∀ (H : Heap) (locs : List Loc), va_P D vwCl (dg_w g shM o rfM S_2) H → va_S A s.heap H locs → ∀ ls : Array Slot, lv_has ls 5 [(3, .int x_8), (2, .int x_7), (1, .int x_5), (0, .ref (o + 0))] → W p l e ({ frames := 3, cells := 0, slots := 0, locals := 77 } : Room) s m args below meth c H locs 0 0 (MQ below (va_Qi (fun (r : Int32) S' => CM o S' ∧ dg_sm shM [(0, 3), (0, 4), (0, 5), (0, 6), (0, 7), (0, 8), (0, 9), (0, 12), (0, 34), (0, 42), (0, 43), (0, 45), (0, 46)] [18, 19, 22, 23, 24, 27] S S' ∧ (0 ≤ (r).toInt ∧ (r).toInt ≤ 1) ∧ (∃ y9_3 y9_4 y9_5 y9_8 y9_34 y9_42 y9_45 y9_46 : Int32, S'.1 0 3 = .int y9_3 ∧ S'.1 0 4 = .int y9_4 ∧ S'.1 0 5 = .int y9_5 ∧ S'.1 0 8 = .int y9_8 ∧ S'.1 0 34 = .int y9_34 ∧ S'.1 0 42 = .int y9_42 ∧ S'.1 0 45 = .int y9_45 ∧ S'.1 0 46 = .int y9_46 ∧ (((y9_4).toInt ≤ (y9_5).toInt ∧ (y9_5).toInt ≤ (sl).toInt ∧ ((y9_3).toInt ≠ 0 → (y9_4).toInt + 1 ≤ (y9_5).toInt)) ∧ (sa).toInt ≤ (y9_4).toInt ∧ ((fk).toInt ≠ 0 → (y9_8).toInt ≠ 0) ∧ (((y9_8).toInt = 0 → (r).toInt = 1 → (sa).toInt + 1 ≤ (y9_4).toInt) ∧ ((y9_8).toInt = 0 → (y9_34).toInt + (y9_45).toInt + (y9_42).toInt ≤ (y9_4).toInt)))) ∧ (∀ k9 : Int32, S'.1 0 8 = .int k9 → k9.toInt = 0 → POM S') ∧ ZWM S' ∧ True) (dg_B g D shM o rfM) A) args s 0 0 A) (F0 m 531 ls [.int x_3997, .ref (o + 0)]) := by
                      intro x_3997 b_x_3997 H locs hP hS ls hl
                      refine dg_calli hS hA1 hA (va_runV (As := [.int x_3997]) (rest := []) F (c_m_isSign l g D o S_2 x_3997 sg ((m_2.1 0 3 _ sM_0 (by decide)).trans f_sg) (by omega) va ((m_2.1 0 6 _ sM_0 (by decide)).trans f_va) (by omega) I_2 H.size) (cwV 1 hts (bw_V wB_1157 wB_1158 wB_1159 wB_881 wB_1156) rfl rfl rfl (by decide +kernel) ⟨Nat.le_of_ble_eq_true rfl, Nat.le_of_ble_eq_true rfl⟩) (dg_preV sM_0 rfl K ST hP hS hA1 hA) rfl rfl hl.1 rfl (lv_room (Nat.le_of_ble_eq_true rfl)) dX12_goesOn_531 ⟨Nat.le_of_ble_eq_true rfl, Nat.le_of_ble_eq_true rfl⟩) (fun x_4110 S_4111 hw_4111 H locs hP hS => ?_)
                      rw [hw_4111.1] at hP
                      obtain ⟨hq_4111, w_4111_0, w_4111_1, -⟩ := hw_4111
                      have w_4111_0 : 0 ≤ (x_4110).toInt ∧ (x_4110).toInt ≤ 1 := w_4111_0
                      have w_4111_1 : (x_4110).toInt = 1 ↔ ((sg).toInt = 3 ∧ (va).toInt = (x_3997).toInt) := w_4111_1
                      refine lv_if_ne (tgt := 546) hx hb dX12_goesOn_534 (by decide) (fun c_4112 => ?_) (fun c_4112 => ?_)
                      · have jc_4112 := dk_neqc (k := 0) (by decide +kernel) c_4112
                        have w_4111_1_r := w_4111_1.mp (by omega)
                        clear w_4111_1
                        refine lv_aload_n hx hb dX12_goesOn_546 rfl (lv_at hl 3 rfl) ?_
                        refine dg_get (C := RX12) (T := TX12) (N := 77) hx hb hts (fun w h => bw_mem (wU_X12 w h)) hown K hP sM_0 rfl 8 (by decide) (hts _ (bw_mem wB_1133)) (fun _ h9 => h9) (v := .int y_3) f_y_3 dX12_goesOn_547 ?_
                        refine lv_if_le (tgt := 555) hx hb dX12_goesOn_550 (by decide) (fun _ => ?_) (fun c => absurd (dk_lep (k := 0) (by decide +kernel) (by omega)) c)
                        refine lv_aload_n hx hb dX12_goesOn_555 rfl (lv_at hl 3 rfl) ?_
                        refine lv_iconst (v := 1) hx hb dX12_goesOn_556 (by decide +kernel) ?_
                        have hz_4113 : (1 : Int32).toInt = 1 := by decide +kernel
                        refine dg_callv hS hA1 hA (va_runV (As := [.int 1]) (rest := []) F (c_m_joins l g D o S_2 1 (by decide +kernel) cd ((m_2.1 0 34 _ sM_0 (by decide)).trans f_cd) (by omega) om ((m_2.1 0 45 _ sM_0 (by decide)).trans f_om) (by omega) (by omega) (ZWM.keep ZW m_2 (by decide) (by decide) (by decide) (by decide)) (ZKM.keep ZK m_2 (by decide) (by decide)) (P1M.keep P1 m_2 (by decide) (by decide) (by decide) (by decide) (by decide) (by decide) (by decide) (by decide) (by decide) (by decide) (by decide) (by decide) (by decide) (by decide) (by decide)) I_2 H.size) (cwV 1 hts (bw_V wB_1234 wB_1235 wB_1236 wB_881 wB_1233) rfl rfl rfl (by decide +kernel) ⟨Nat.le_of_ble_eq_true rfl, Nat.le_of_ble_eq_true rfl⟩) (dg_preV sM_0 rfl K ST hP hS hA1 hA) rfl rfl hl.1 rfl (lv_room (Nat.le_of_ble_eq_true rfl)) dX12_goesOn_557 ⟨Nat.le_of_ble_eq_true rfl, Nat.le_of_ble_eq_true rfl⟩) (fun S_4114 hw_4114 H locs hP hS => ?_)
                        obtain ⟨I_4114, m_4114, w_4114_0, w_4114_1, w_4114_2, w_4114_3, -⟩ := hw_4114
                        have M_4114 := dg_sm.tr M_2 m_4114 (by decide) (by decide)
                        have hz_4115 : (1 : Int32).toInt = 1 := by decide +kernel
                        obtain ⟨y_4116, y_4117, f_y_4116, f_y_4117, w_4114_0⟩ := w_4114_0
                        have w_4114_0 : (y_4116).toInt + (y_4117).toInt = (cd).toInt + (om).toInt := w_4114_0
                        have b_y_4116 : 0 ≤ (y_4116).toInt ∧ (y_4116).toInt ≤ 1600 := dg_I.intb (lo := 0) (hi := 1600) I_4114 sM_0 (by decide +kernel) f_y_4116
                        have b_y_4117 : 0 ≤ (y_4117).toInt ∧ (y_4117).toInt ≤ 500 := dg_I.intb (lo := 0) (hi := 500) I_4114 sM_0 (by decide +kernel) f_y_4117
                        have w_4114_1 : TOPM S_4114 (1 : Int32) := w_4114_1
                        obtain ⟨x_4118, f_x_4118, b_x_4118⟩ := dg_I.int (i := 0) (k := 43) (lo := (-2147483648)) (hi := 2147483647) I_4114 sM_0 (by decide +kernel)
                        have hkd := PSM.kind w_4114_3 (((m_4114.1 0 42 _ sM_0 (by decide)).trans (m_2.1 0 42 _ sM_0 (by decide))).trans f_dp) f_x_4118 f_y_4117 (fx := x_5) (by omega) ((congrFun (m_4114.2 22 _ sM_22 (by decide)).1 _).trans ex_7.symm) (rfl : S_4114.2.1 25 (x_5 : Int32).toNatClampNeg = _)
                        unfold dk_fk at hkd
                        have hcl9 := dk_clN x_5
                        refine lv_aload_n hx hb dX12_goesOn_560 rfl (lv_at hl 3 rfl) ?_
                        refine lv_dup hx hb dX12_goesOn_561 rfl ?_
                        refine dg_get (C := RX12) (T := TX12) (N := 77) hx hb hts (fun w h => bw_mem (wU_X12 w h)) hown K hP sM_0 rfl 42 (by decide) (hts _ (bw_mem wB_1203)) (fun _ h9 => h9) (v := .int dp) (((m_4114.1 0 42 _ sM_0 (by decide)).trans (m_2.1 0 42 _ sM_0 (by decide))).trans f_dp) dX12_goesOn_562 ?_
                        refine lv_iconst (v := 1) hx hb dX12_goesOn_565 (by decide +kernel) ?_
                        refine lv_isub hx hb dX12_goesOn_566 ?_
                        refine lv_topi (fun x_4119 ex_4119 => ?_)
                        have jx_4119 : (x_4119).toInt = (dp).toInt - 1 := by rw [ex_4119]; exact dk_subT rfl (by decide +kernel) (by omega) (by omega)
                        refine dg_put (ci := 12) (v := .int x_4119) (ty := tyX12 42) (C := RX12) (T := TX12) (N := 77) hx hb hts (fun w h => bw_mem (wU_X12 w h)) tyX12 tyX12_ok nmX12 hown K hP hS hA1 sM_0 rfl 42 (by decide) (hts _ (bw_mem wB_1203)) (fun _ h9 => h9) rfl (by decide +kernel) rfl rfl dX12_goesOn_567 (fun S_4120 e_4120 H locs hP hS => ?_)
                        have I_4120 := dg_I.uFi (lo := 0) (hi := 20) I_4114 e_4120 sM_0 (by decide +kernel) (show 0 ≤ (x_4119).toInt ∧ (x_4119).toInt ≤ 20 from (by omega))
                        have M_4120 := dg_sm.uF M_4114 e_4120 sM_0 (by decide)
                        refine lv_aload_n hx hb dX12_goesOn_570 rfl (lv_at hl 3 rfl) ?_
                        refine lv_dup hx hb dX12_goesOn_571 rfl ?_
                        refine dg_get (C := RX12) (T := TX12) (N := 77) hx hb hts (fun w h => bw_mem (wU_X12 w h)) hown K hP sM_0 rfl 43 (by decide) (hts _ (bw_mem wB_1212)) (fun _ h9 => h9) (v := .int x_4118) ((dg_uF_ne e_4120 (fun z => absurd z.2 (by decide))).trans f_x_4118) dX12_goesOn_572 ?_
                        refine lv_iconst (v := 1) hx hb dX12_goesOn_575 (by decide +kernel) ?_
                        refine lv_isub hx hb dX12_goesOn_576 ?_
                        refine lv_topi (fun x_4121 ex_4121 => ?_)
                        refine dg_put (ci := 12) (v := .int x_4121) (ty := tyX12 43) (C := RX12) (T := TX12) (N := 77) hx hb hts (fun w h => bw_mem (wU_X12 w h)) tyX12 tyX12_ok nmX12 hown K hP hS hA1 sM_0 rfl 43 (by decide) (hts _ (bw_mem wB_1212)) (fun _ h9 => h9) rfl (by decide +kernel) rfl rfl dX12_goesOn_577 (fun S_4122 e_4122 H locs hP hS => ?_)
                        have I_4122 := dg_I.uFi (lo := (-2147483648)) (hi := 2147483647) I_4120 e_4122 sM_0 (by decide +kernel) (show (-2147483648) ≤ (x_4121).toInt ∧ (x_4121).toInt ≤ 2147483647 from (dk_full _))
                        have M_4122 := dg_sm.uF M_4120 e_4122 sM_0 (by decide)
                        refine lv_iload_n hx hb dX12_goesOn_580 rfl (lv_at hl 1 rfl) ?_
                        refine lv_iconst (v := 4) hx hb dX12_goesOn_581 (by decide +kernel) ?_
                        refine lv_icmp_ne (tgt := 596) hx hb dX12_goesOn_582 (by decide) (fun c_4123 => ?_) (fun c_4123 => ?_)
                        · have jc_4123 := dk_neqc (k := 4) (by decide +kernel) c_4123
                          obtain ⟨x_4124, f_x_4124, b_x_4124⟩ := dg_I.int (i := 0) (k := 42) (lo := 0) (hi := 20) I_4114 sM_0 (by decide +kernel)
                          obtain ⟨x_4125, f_x_4125, b_x_4125⟩ := dg_I.int (i := 0) (k := 43) (lo := (-2147483648)) (hi := 2147483647) I_4114 sM_0 (by decide +kernel)
                          have P1_4122 : P1M S_4122 := P1M.close2 w_4114_3 f_x_4124 f_x_4125 f_y_4117 w_4114_1 (by omega) (fx := x_5) (by omega) ((congrFun (m_4114.2 22 _ sM_22 (by decide)).1 _).trans ex_7.symm) (by omega) e_4120 (by omega) e_4122 (by omega)
                          refine lv_iload_n hx hb dX12_goesOn_596 rfl (lv_at hl 1 rfl) ?_
                          refine lv_iconst (v := 5) hx hb dX12_goesOn_597 (by decide +kernel) ?_
                          refine lv_icmp_ne (tgt := 613) hx hb dX12_goesOn_598 (by decide) (fun c_4126 => ?_) (fun c_4126 => ?_)
                          · have jc_4126 := dk_neqc (k := 5) (by decide +kernel) c_4126
                            refine lv_aload_n hx hb dX12_goesOn_613 rfl (lv_at hl 3 rfl) ?_
                            refine dg_callv hS hA1 hA (va_runV (As := []) (rest := []) F (c_m_ahead l g D o S_4122 se (((dg_uF_ne e_4122 (fun z => absurd z.2 (by decide))).trans ((dg_uF_ne e_4120 (fun z => absurd z.2 (by decide))).trans ((m_4114.1 0 5 _ sM_0 (by decide)).trans (m_2.1 0 5 _ sM_0 (by decide))))).trans f_se) (by omega) sl (((dg_uF_ne e_4122 (fun z => absurd z.2 (by decide))).trans ((dg_uF_ne e_4120 (fun z => absurd z.2 (by decide))).trans ((m_4114.1 0 2 _ sM_0 (by decide)).trans (m_2.1 0 2 _ sM_0 (by decide))))).trans f_sl) (by omega) (by omega) I_4122 H.size) (cwV 0 hts (bw_V wB_1161 wB_1162 wB_1163 wB_881 wB_1160) rfl rfl rfl (by decide +kernel) ⟨Nat.le_of_ble_eq_true rfl, Nat.le_of_ble_eq_true rfl⟩) (dg_preV sM_0 rfl K ST hP hS hA1 hA) rfl rfl hl.1 rfl (lv_room (Nat.le_of_ble_eq_true rfl)) dX12_goesOn_614 ⟨Nat.le_of_ble_eq_true rfl, Nat.le_of_ble_eq_true rfl⟩) (fun S_4127 hw_4127 H locs hP hS => ?_)
                            obtain ⟨I_4127, m_4127, w_4127_0, -⟩ := hw_4127
                            have M_4127 := dg_sm.tr M_4122 m_4127 (by decide) (by decide)
                            obtain ⟨y_4128, y_4129, y_4130, f_y_4128, f_y_4129, f_y_4130, w_4127_0⟩ := w_4127_0
                            have w_4127_0 : (se).toInt ≤ (y_4129).toInt ∧ (y_4129).toInt ≤ (y_4130).toInt ∧ (y_4130).toInt ≤ (sl).toInt ∧ ((y_4128).toInt ≠ 0 → (y_4129).toInt + 1 ≤ (y_4130).toInt) := w_4127_0
                            have b_y_4128 : 0 ≤ (y_4128).toInt ∧ (y_4128).toInt ≤ 3 := dg_I.intb (lo := 0) (hi := 3) I_4127 sM_0 (by decide +kernel) f_y_4128
                            have b_y_4129 : 0 ≤ (y_4129).toInt ∧ (y_4129).toInt ≤ 1600 := dg_I.intb (lo := 0) (hi := 1600) I_4127 sM_0 (by decide +kernel) f_y_4129
                            have b_y_4130 : 0 ≤ (y_4130).toInt ∧ (y_4130).toInt ≤ 1600 := dg_I.intb (lo := 0) (hi := 1600) I_4127 sM_0 (by decide +kernel) f_y_4130
                            refine lv_iconst (v := 1) hx hb dX12_goesOn_617 (by decide +kernel) ?_
                            have hz_4131 : (1 : Int32).toInt = 1 := by decide +kernel
                            have hz_4132 : (1 : Int32).toInt = 1 := by decide +kernel
                            obtain ⟨x_4133, f_x_4133, b_x_4133⟩ := dg_I.int (i := 0) (k := 42) (lo := 0) (hi := 20) I_4127 sM_0 (by decide +kernel)
                            have hz_4134 : (1 : Int32).toInt = 1 := by decide +kernel
                            refine W.widen (k := 0) (n := 0) (Nat.le_of_ble_eq_true rfl) (Nat.le_of_ble_eq_true rfl) ?_
                            exact dg_iret hx hb hr hlocks (by decide +kernel) hP hS ⟨I_4127, M_4127, (by decide +kernel), ⟨y_4128, y_4129, y_4130, y_3, y_4116, x_4133, y_4117, oo, f_y_4128, f_y_4129, f_y_4130, (((m_4127.1 0 8 _ sM_0 (by decide)).trans ((dg_uF_ne e_4122 (fun z => absurd z.2 (by decide))).trans ((dg_uF_ne e_4120 (fun z => absurd z.2 (by decide))).trans (m_4114.1 0 8 _ sM_0 (by decide))))).trans f_y_3), (((m_4127.1 0 34 _ sM_0 (by decide)).trans ((dg_uF_ne e_4122 (fun z => absurd z.2 (by decide))).trans (dg_uF_ne e_4120 (fun z => absurd z.2 (by decide))))).trans f_y_4116), f_x_4133, (((m_4127.1 0 45 _ sM_0 (by decide)).trans ((dg_uF_ne e_4122 (fun z => absurd z.2 (by decide))).trans (dg_uF_ne e_4120 (fun z => absurd z.2 (by decide))))).trans f_y_4117), (((m_4127.1 0 46 _ sM_0 (by decide)).trans ((dg_uF_ne e_4122 (fun z => absurd z.2 (by decide))).trans ((dg_uF_ne e_4120 (fun z => absurd z.2 (by decide))).trans ((m_4114.1 0 46 _ sM_0 (by decide)).trans (m_2.1 0 46 _ sM_0 (by decide)))))).trans f_oo), (by omega)⟩, (fun k9 hk9 hk0 => POM.mk1 (P1M.keep P1_4122 m_4127 (by decide) (by decide) (by decide) (by decide) (by decide) (by decide) (by decide) (by decide) (by decide) (by decide) (by decide) (by decide) (by decide) (by decide) (by decide)) (((m_4127.1 0 46 _ sM_0 (by decide)).trans ((dg_uF_ne e_4122 (fun z => absurd z.2 (by decide))).trans ((dg_uF_ne e_4120 (fun z => absurd z.2 (by decide))).trans ((m_4114.1 0 46 _ sM_0 (by decide)).trans (m_2.1 0 46 _ sM_0 (by decide)))))).trans f_oo) (by omega)), (ZWM.keep (ZWM.keep (ZWM.keep w_4114_2 (dg_sm.uF (WF := [(0, 42)]) (WA := []) dg_sm.rf e_4120 sM_0 (by decide)) (by decide) (by decide) (by decide) (by decide)) (dg_sm.uF (WF := [(0, 43)]) (WA := []) dg_sm.rf e_4122 sM_0 (by decide)) (by decide) (by decide) (by decide) (by decide)) m_4127 (by decide) (by decide) (by decide) (by decide)), trivial⟩ dX12_goesOn_618
                          · have jc_4126 := dk_eqc (k := 5) (by decide +kernel) c_4126
                            refine lv_aload_n hx hb dX12_goesOn_601 rfl (lv_at hl 3 rfl) ?_
                            refine dg_get (C := RX12) (T := TX12) (N := 77) hx hb hts (fun w h => bw_mem (wU_X12 w h)) hown K hP sM_0 rfl 38 (by decide) (hts _ (bw_mem wB_1214)) (fun _ h9 => h9) (v := .ref (o + 23)) (show S_4122.1 0 38 = .ref (o + 23) from dg_I.rel (d := 23) I_4122 sM_0 (by decide +kernel)) dX12_goesOn_602 ?_
                            refine lv_aload_n hx hb dX12_goesOn_605 rfl (lv_at hl 3 rfl) ?_
                            obtain ⟨x_4135, f_x_4135, b_x_4135⟩ := dg_I.int (i := 0) (k := 42) (lo := 0) (hi := 20) I_4122 sM_0 (by decide +kernel)
                            refine dg_get (C := RX12) (T := TX12) (N := 77) hx hb hts (fun w h => bw_mem (wU_X12 w h)) hown K hP sM_0 rfl 42 (by decide) (hts _ (bw_mem wB_1203)) (fun _ h9 => h9) (v := .int x_4135) f_x_4135 dX12_goesOn_606 ?_
                            refine lv_iconst (v := 1) hx hb dX12_goesOn_609 (by decide +kernel) ?_
                            refine lv_isub hx hb dX12_goesOn_610 ?_
                            refine lv_topi (fun x_4136 ex_4136 => ?_)
                            have jx_4136 : (x_4136).toInt = (x_4135).toInt - 1 := by rw [ex_4136]; exact dk_subT rfl (by decide +kernel) (by omega) (by omega)
                            refine lv_iconst (v := 2) hx hb dX12_goesOn_611 (by decide +kernel) ?_
                            have hin_4137 : vp_in x_4136 20 := (dk_inv (by omega) (by omega))
                            have hz_4139 : (2 : Int32).toInt = 2 := by decide +kernel
                            refine dg_iast hx hb K hP hS hA1 sM_23 hin_4137 dX12_goesOn_612 (fun S_4138 e_4138 H locs hP hS => ?_)
                            have I_4138 := dg_I.ufu (lo := 0) (hi := 2) I_4122 e_4138 sM_23 (by decide +kernel) (show 0 ≤ ((2 : Int32)).toInt ∧ ((2 : Int32)).toInt ≤ 2 from (by decide +kernel))
                            have M_4138 := dg_sm.uf M_4122 e_4138 sM_23 (by decide)
                            have hz_4140 : (2 : Int32).toInt = 2 := by decide +kernel
                            have P1_4138 : P1M S_4138 := P1M.close5 P1_4122 f_x_4135 (by omega) (by omega) (by omega) e_4138
                            refine lv_aload_n hx hb dX12_goesOn_613 rfl (lv_at hl 3 rfl) ?_
                            refine dg_callv hS hA1 hA (va_runV (As := []) (rest := []) F (c_m_ahead l g D o S_4138 se (((dg_uf_F e_4138 0 5).trans ((dg_uF_ne e_4122 (fun z => absurd z.2 (by decide))).trans ((dg_uF_ne e_4120 (fun z => absurd z.2 (by decide))).trans ((m_4114.1 0 5 _ sM_0 (by decide)).trans (m_2.1 0 5 _ sM_0 (by decide)))))).trans f_se) (by omega) sl (((dg_uf_F e_4138 0 2).trans ((dg_uF_ne e_4122 (fun z => absurd z.2 (by decide))).trans ((dg_uF_ne e_4120 (fun z => absurd z.2 (by decide))).trans ((m_4114.1 0 2 _ sM_0 (by decide)).trans (m_2.1 0 2 _ sM_0 (by decide)))))).trans f_sl) (by omega) (by omega) I_4138 H.size) (cwV 0 hts (bw_V wB_1161 wB_1162 wB_1163 wB_881 wB_1160) rfl rfl rfl (by decide +kernel) ⟨Nat.le_of_ble_eq_true rfl, Nat.le_of_ble_eq_true rfl⟩) (dg_preV sM_0 rfl K ST hP hS hA1 hA) rfl rfl hl.1 rfl (lv_room (Nat.le_of_ble_eq_true rfl)) dX12_goesOn_614 ⟨Nat.le_of_ble_eq_true rfl, Nat.le_of_ble_eq_true rfl⟩) (fun S_4141 hw_4141 H locs hP hS => ?_)
                            obtain ⟨I_4141, m_4141, w_4141_0, -⟩ := hw_4141
                            have M_4141 := dg_sm.tr M_4138 m_4141 (by decide) (by decide)
                            obtain ⟨y_4142, y_4143, y_4144, f_y_4142, f_y_4143, f_y_4144, w_4141_0⟩ := w_4141_0
                            have w_4141_0 : (se).toInt ≤ (y_4143).toInt ∧ (y_4143).toInt ≤ (y_4144).toInt ∧ (y_4144).toInt ≤ (sl).toInt ∧ ((y_4142).toInt ≠ 0 → (y_4143).toInt + 1 ≤ (y_4144).toInt) := w_4141_0
                            have b_y_4142 : 0 ≤ (y_4142).toInt ∧ (y_4142).toInt ≤ 3 := dg_I.intb (lo := 0) (hi := 3) I_4141 sM_0 (by decide +kernel) f_y_4142
                            have b_y_4143 : 0 ≤ (y_4143).toInt ∧ (y_4143).toInt ≤ 1600 := dg_I.intb (lo := 0) (hi := 1600) I_4141 sM_0 (by decide +kernel) f_y_4143
                            have b_y_4144 : 0 ≤ (y_4144).toInt ∧ (y_4144).toInt ≤ 1600 := dg_I.intb (lo := 0) (hi := 1600) I_4141 sM_0 (by decide +kernel) f_y_4144
                            refine lv_iconst (v := 1) hx hb dX12_goesOn_617 (by decide +kernel) ?_
                            have hz_4145 : (1 : Int32).toInt = 1 := by decide +kernel
                            have hz_4146 : (1 : Int32).toInt = 1 := by decide +kernel
                            have hz_4147 : (1 : Int32).toInt = 1 := by decide +kernel
                            refine W.widen (k := 0) (n := 0) (Nat.le_of_ble_eq_true rfl) (Nat.le_of_ble_eq_true rfl) ?_
                            exact dg_iret hx hb hr hlocks (by decide +kernel) hP hS ⟨I_4141, M_4141, (by decide +kernel), ⟨y_4142, y_4143, y_4144, y_3, y_4116, x_4135, y_4117, oo, f_y_4142, f_y_4143, f_y_4144, (((m_4141.1 0 8 _ sM_0 (by decide)).trans ((dg_uf_F e_4138 0 8).trans ((dg_uF_ne e_4122 (fun z => absurd z.2 (by decide))).trans ((dg_uF_ne e_4120 (fun z => absurd z.2 (by decide))).trans (m_4114.1 0 8 _ sM_0 (by decide)))))).trans f_y_3), (((m_4141.1 0 34 _ sM_0 (by decide)).trans ((dg_uf_F e_4138 0 34).trans ((dg_uF_ne e_4122 (fun z => absurd z.2 (by decide))).trans (dg_uF_ne e_4120 (fun z => absurd z.2 (by decide)))))).trans f_y_4116), (((m_4141.1 0 42 _ sM_0 (by decide)).trans (dg_uf_F e_4138 0 42)).trans f_x_4135), (((m_4141.1 0 45 _ sM_0 (by decide)).trans ((dg_uf_F e_4138 0 45).trans ((dg_uF_ne e_4122 (fun z => absurd z.2 (by decide))).trans (dg_uF_ne e_4120 (fun z => absurd z.2 (by decide)))))).trans f_y_4117), (((m_4141.1 0 46 _ sM_0 (by decide)).trans ((dg_uf_F e_4138 0 46).trans ((dg_uF_ne e_4122 (fun z => absurd z.2 (by decide))).trans ((dg_uF_ne e_4120 (fun z => absurd z.2 (by decide))).trans ((m_4114.1 0 46 _ sM_0 (by decide)).trans (m_2.1 0 46 _ sM_0 (by decide))))))).trans f_oo), (by omega)⟩, (fun k9 hk9 hk0 => POM.mk1 (P1M.keep P1_4138 m_4141 (by decide) (by decide) (by decide) (by decide) (by decide) (by decide) (by decide) (by decide) (by decide) (by decide) (by decide) (by decide) (by decide) (by decide) (by decide)) (((m_4141.1 0 46 _ sM_0 (by decide)).trans ((dg_uf_F e_4138 0 46).trans ((dg_uF_ne e_4122 (fun z => absurd z.2 (by decide))).trans ((dg_uF_ne e_4120 (fun z => absurd z.2 (by decide))).trans ((m_4114.1 0 46 _ sM_0 (by decide)).trans (m_2.1 0 46 _ sM_0 (by decide))))))).trans f_oo) (by omega)), (ZWM.keep (ZWM.keep (ZWM.keep (ZWM.keep w_4114_2 (dg_sm.uF (WF := [(0, 42)]) (WA := []) dg_sm.rf e_4120 sM_0 (by decide)) (by decide) (by decide) (by decide) (by decide)) (dg_sm.uF (WF := [(0, 43)]) (WA := []) dg_sm.rf e_4122 sM_0 (by decide)) (by decide) (by decide) (by decide) (by decide)) (dg_sm.uf (WF := []) (WA := [23]) dg_sm.rf e_4138 sM_23 (by decide)) (by decide) (by decide) (by decide) (by decide)) m_4141 (by decide) (by decide) (by decide) (by decide)), trivial⟩ dX12_goesOn_618
                        · have jc_4123 := dk_eqc (k := 4) (by decide +kernel) c_4123
                          refine lv_aload_n hx hb dX12_goesOn_585 rfl (lv_at hl 3 rfl) ?_
                          refine lv_aload_n hx hb dX12_goesOn_586 rfl (lv_at hl 3 rfl) ?_
                          refine dg_get (C := RX12) (T := TX12) (N := 77) hx hb hts (fun w h => bw_mem (wU_X12 w h)) hown K hP sM_0 rfl 40 (by decide) (hts _ (bw_mem wB_1232)) (fun _ h9 => h9) (v := .ref (o + 25)) (show S_4122.1 0 40 = .ref (o + 25) from dg_I.rel (d := 25) I_4122 sM_0 (by decide +kernel)) dX12_goesOn_587 ?_
                          refine lv_iload_n hx hb dX12_goesOn_590 rfl (lv_at hl 2 rfl) ?_
                          have hin_4148 : vp_in x_5 20 := (dk_inv (by omega) (by omega))
                          refine dg_iald hx hb K hP sM_25 hin_4148 dX12_goesOn_591 (fun x_4149 ex_4149 => ?_)
                          have hp25_x_4149 : S_4114.2.1 25 (x_5 : Int32).toNatClampNeg = x_4149 := by rw [ex_4149, (((dg_uF_f e_4122 25).trans (dg_uF_f e_4120 25)))]
                          rw [hp25_x_4149] at hkd
                          refine lv_iconst (v := 0) hx hb dX12_goesOn_592 (by decide +kernel) ?_
                          refine dg_callv hS hA1 hA (va_runV (As := [.int x_4149, .int 0]) (rest := []) F (c_m_add l g D o S_4122 x_4149 (by omega) 0 y_4116 (((dg_uF_ne e_4122 (fun z => absurd z.2 (by decide))).trans (dg_uF_ne e_4120 (fun z => absurd z.2 (by decide)))).trans f_y_4116) (by omega) (ZWM.keep (ZWM.keep w_4114_2 (dg_sm.uF (WF := [(0, 42)]) (WA := []) dg_sm.rf e_4120 sM_0 (by decide)) (by decide) (by decide) (by decide) (by decide)) (dg_sm.uF (WF := [(0, 43)]) (WA := []) dg_sm.rf e_4122 sM_0 (by decide)) (by decide) (by decide) (by decide) (by decide)) (ZKM.keep (ZKM.keep (ZKM.keep (ZKM.keep ZK m_2 (by decide) (by decide)) m_4114 (by decide) (by decide)) (dg_sm.uF (WF := [(0, 42)]) (WA := []) dg_sm.rf e_4120 sM_0 (by decide)) (by decide) (by decide)) (dg_sm.uF (WF := [(0, 43)]) (WA := []) dg_sm.rf e_4122 sM_0 (by decide)) (by decide) (by decide)) I_4122 H.size) (cwV 2 hts (bw_V wB_1209 wB_1210 wB_1211 wB_881 wB_1208) rfl rfl rfl (by decide +kernel) ⟨Nat.le_of_ble_eq_true rfl, Nat.le_of_ble_eq_true rfl⟩) (dg_preV sM_0 rfl K ST hP hS hA1 hA) rfl rfl hl.1 rfl (lv_room (Nat.le_of_ble_eq_true rfl)) dX12_goesOn_593 ⟨Nat.le_of_ble_eq_true rfl, Nat.le_of_ble_eq_true rfl⟩) (fun S_4150 hw_4150 H locs hP hS => ?_)
                          obtain ⟨I_4150, m_4150, w_4150_0, w_4150_1, w_4150_2, -⟩ := hw_4150
                          have M_4150 := dg_sm.tr M_4122 m_4150 (by decide) (by decide)
                          have hz_4151 : (0 : Int32).toInt = 0 := by decide +kernel
                          obtain ⟨y_4152, f_y_4152, w_4150_0⟩ := w_4150_0
                          have w_4150_0 : (y_4152).toInt = (y_4116).toInt + 1 := w_4150_0
                          have b_y_4152 : 0 ≤ (y_4152).toInt ∧ (y_4152).toInt ≤ 1600 := dg_I.intb (lo := 0) (hi := 1600) I_4150 sM_0 (by decide +kernel) f_y_4152
                          have w_4150_1 : ADM S_4122 S_4150 x_4149 := w_4150_1
                          obtain ⟨x_4153, f_x_4153, b_x_4153⟩ := dg_I.int (i := 0) (k := 42) (lo := 0) (hi := 20) I_4114 sM_0 (by decide +kernel)
                          obtain ⟨x_4154, f_x_4154, b_x_4154⟩ := dg_I.int (i := 0) (k := 43) (lo := (-2147483648)) (hi := 2147483647) I_4114 sM_0 (by decide +kernel)
                          have P1_4150 : P1M S_4150 := P1M.close4 w_4114_3 f_x_4153 f_x_4154 f_y_4117 w_4114_1 (by omega) (fx := x_5) (by omega) ((congrFun (m_4114.2 22 _ sM_22 (by decide)).1 _).trans ex_7.symm) (by omega) e_4120 (by omega) e_4122 (by omega) hp25_x_4149 m_4150 w_4150_1
                          refine lv_iload_n hx hb dX12_goesOn_596 rfl (lv_at hl 1 rfl) ?_
                          refine lv_iconst (v := 5) hx hb dX12_goesOn_597 (by decide +kernel) ?_
                          refine lv_icmp_ne (tgt := 613) hx hb dX12_goesOn_598 (by decide) (fun _ => ?_) (fun c => absurd c (fun z => absurd (dk_eqc (k := 5) (by decide +kernel) z) (by omega)))
                          refine lv_aload_n hx hb dX12_goesOn_613 rfl (lv_at hl 3 rfl) ?_
                          refine dg_callv hS hA1 hA (va_runV (As := []) (rest := []) F (c_m_ahead l g D o S_4150 se (((m_4150.1 0 5 _ sM_0 (by decide)).trans ((dg_uF_ne e_4122 (fun z => absurd z.2 (by decide))).trans ((dg_uF_ne e_4120 (fun z => absurd z.2 (by decide))).trans ((m_4114.1 0 5 _ sM_0 (by decide)).trans (m_2.1 0 5 _ sM_0 (by decide)))))).trans f_se) (by omega) sl (((m_4150.1 0 2 _ sM_0 (by decide)).trans ((dg_uF_ne e_4122 (fun z => absurd z.2 (by decide))).trans ((dg_uF_ne e_4120 (fun z => absurd z.2 (by decide))).trans ((m_4114.1 0 2 _ sM_0 (by decide)).trans (m_2.1 0 2 _ sM_0 (by decide)))))).trans f_sl) (by omega) (by omega) I_4150 H.size) (cwV 0 hts (bw_V wB_1161 wB_1162 wB_1163 wB_881 wB_1160) rfl rfl rfl (by decide +kernel) ⟨Nat.le_of_ble_eq_true rfl, Nat.le_of_ble_eq_true rfl⟩) (dg_preV sM_0 rfl K ST hP hS hA1 hA) rfl rfl hl.1 rfl (lv_room (Nat.le_of_ble_eq_true rfl)) dX12_goesOn_614 ⟨Nat.le_of_ble_eq_true rfl, Nat.le_of_ble_eq_true rfl⟩) (fun S_4155 hw_4155 H locs hP hS => ?_)
                          obtain ⟨I_4155, m_4155, w_4155_0, -⟩ := hw_4155
                          have M_4155 := dg_sm.tr M_4150 m_4155 (by decide) (by decide)
                          obtain ⟨y_4156, y_4157, y_4158, f_y_4156, f_y_4157, f_y_4158, w_4155_0⟩ := w_4155_0
                          have w_4155_0 : (se).toInt ≤ (y_4157).toInt ∧ (y_4157).toInt ≤ (y_4158).toInt ∧ (y_4158).toInt ≤ (sl).toInt ∧ ((y_4156).toInt ≠ 0 → (y_4157).toInt + 1 ≤ (y_4158).toInt) := w_4155_0
                          have b_y_4156 : 0 ≤ (y_4156).toInt ∧ (y_4156).toInt ≤ 3 := dg_I.intb (lo := 0) (hi := 3) I_4155 sM_0 (by decide +kernel) f_y_4156
                          have b_y_4157 : 0 ≤ (y_4157).toInt ∧ (y_4157).toInt ≤ 1600 := dg_I.intb (lo := 0) (hi := 1600) I_4155 sM_0 (by decide +kernel) f_y_4157
                          have b_y_4158 : 0 ≤ (y_4158).toInt ∧ (y_4158).toInt ≤ 1600 := dg_I.intb (lo := 0) (hi := 1600) I_4155 sM_0 (by decide +kernel) f_y_4158
                          refine lv_iconst (v := 1) hx hb dX12_goesOn_617 (by decide +kernel) ?_
                          have hz_4159 : (1 : Int32).toInt = 1 := by decide +kernel
                          have hz_4160 : (1 : Int32).toInt = 1 := by decide +kernel
                          obtain ⟨x_4161, f_x_4161, b_x_4161⟩ := dg_I.int (i := 0) (k := 42) (lo := 0) (hi := 20) I_4155 sM_0 (by decide +kernel)
                          have hz_4162 : (1 : Int32).toInt = 1 := by decide +kernel
                          refine W.widen (k := 0) (n := 0) (Nat.le_of_ble_eq_true rfl) (Nat.le_of_ble_eq_true rfl) ?_
                          exact dg_iret hx hb hr hlocks (by decide +kernel) hP hS ⟨I_4155, M_4155, (by decide +kernel), ⟨y_4156, y_4157, y_4158, y_3, y_4152, x_4161, y_4117, oo, f_y_4156, f_y_4157, f_y_4158, (((m_4155.1 0 8 _ sM_0 (by decide)).trans ((m_4150.1 0 8 _ sM_0 (by decide)).trans ((dg_uF_ne e_4122 (fun z => absurd z.2 (by decide))).trans ((dg_uF_ne e_4120 (fun z => absurd z.2 (by decide))).trans (m_4114.1 0 8 _ sM_0 (by decide)))))).trans f_y_3), ((m_4155.1 0 34 _ sM_0 (by decide)).trans f_y_4152), f_x_4161, (((m_4155.1 0 45 _ sM_0 (by decide)).trans ((m_4150.1 0 45 _ sM_0 (by decide)).trans ((dg_uF_ne e_4122 (fun z => absurd z.2 (by decide))).trans (dg_uF_ne e_4120 (fun z => absurd z.2 (by decide)))))).trans f_y_4117), (((m_4155.1 0 46 _ sM_0 (by decide)).trans ((m_4150.1 0 46 _ sM_0 (by decide)).trans ((dg_uF_ne e_4122 (fun z => absurd z.2 (by decide))).trans ((dg_uF_ne e_4120 (fun z => absurd z.2 (by decide))).trans ((m_4114.1 0 46 _ sM_0 (by decide)).trans (m_2.1 0 46 _ sM_0 (by decide))))))).trans f_oo), (by omega)⟩, (fun k9 hk9 hk0 => POM.mk1 (P1M.keep P1_4150 m_4155 (by decide) (by decide) (by decide) (by decide) (by decide) (by decide) (by decide) (by decide) (by decide) (by decide) (by decide) (by decide) (by decide) (by decide) (by decide)) (((m_4155.1 0 46 _ sM_0 (by decide)).trans ((m_4150.1 0 46 _ sM_0 (by decide)).trans ((dg_uF_ne e_4122 (fun z => absurd z.2 (by decide))).trans ((dg_uF_ne e_4120 (fun z => absurd z.2 (by decide))).trans ((m_4114.1 0 46 _ sM_0 (by decide)).trans (m_2.1 0 46 _ sM_0 (by decide))))))).trans f_oo) (by omega)), (ZWM.keep w_4150_2 m_4155 (by decide) (by decide) (by decide) (by decide)), trivial⟩ dX12_goesOn_618
                      · have jc_4112 := dk_eqc (k := 0) (by decide +kernel) c_4112
                        clear w_4111_1
                        refine lv_aload_n hx hb dX12_goesOn_537 rfl (lv_at hl 3 rfl) ?_
                        refine lv_iconst (v := 1) hx hb dX12_goesOn_538 (by decide +kernel) ?_
                        refine lv_aload_n hx hb dX12_goesOn_539 rfl (lv_at hl 3 rfl) ?_
                        refine dg_get (C := RX12) (T := TX12) (N := 77) hx hb hts (fun w h => bw_mem (wU_X12 w h)) hown K hP sM_0 rfl 4 (by decide) (hts _ (bw_mem wB_1145)) (fun _ h9 => h9) (v := .int sa) ((m_2.1 0 4 _ sM_0 (by decide)).trans f_sa) dX12_goesOn_540 ?_
                        have hz_4163 : (1 : Int32).toInt = 1 := by decide +kernel
                        refine dg_callv hS hA1 hA (va_runV (As := [.int 1, .int sa]) (rest := []) F (c_m_blame l g D o S_2 1 (by decide +kernel) sa y_3 f_y_3 (by omega) I_2 H.size) (cwV 2 hts (bw_V wB_1137 wB_1138 wB_1139 wB_881 wB_1136) rfl rfl rfl (by decide +kernel) ⟨Nat.le_of_ble_eq_true rfl, Nat.le_of_ble_eq_true rfl⟩) (dg_preV sM_0 rfl K ST hP hS hA1 hA) rfl rfl hl.1 rfl (lv_room (Nat.le_of_ble_eq_true rfl)) dX12_goesOn_543 ⟨Nat.le_of_ble_eq_true rfl, Nat.le_of_ble_eq_true rfl⟩) (fun S_4164 hw_4164 H locs hP hS => ?_)
                        obtain ⟨I_4164, m_4164, w_4164_0, -⟩ := hw_4164
                        have M_4164 := dg_sm.tr M_2 m_4164 (by decide) (by decide)
                        have hz_4165 : (1 : Int32).toInt = 1 := by decide +kernel
                        obtain ⟨y_4166, f_y_4166, w_4164_0⟩ := w_4164_0
                        have w_4164_0 : ((y_3).toInt ≠ 0 → (y_4166).toInt = (y_3).toInt) ∧ ((y_3).toInt = 0 → (y_4166).toInt = ((1 : Int32)).toInt) := w_4164_0
                        have b_y_4166 : 0 ≤ (y_4166).toInt ∧ (y_4166).toInt ≤ 6 := dg_I.intb (lo := 0) (hi := 6) I_4164 sM_0 (by decide +kernel) f_y_4166
                        refine lv_aload_n hx hb dX12_goesOn_546 rfl (lv_at hl 3 rfl) ?_
                        refine dg_get (C := RX12) (T := TX12) (N := 77) hx hb hts (fun w h => bw_mem (wU_X12 w h)) hown K hP sM_0 rfl 8 (by decide) (hts _ (bw_mem wB_1133)) (fun _ h9 => h9) (v := .int y_4166) f_y_4166 dX12_goesOn_547 ?_
                        refine lv_if_le (tgt := 555) hx hb dX12_goesOn_550 (by decide) (fun c_4167 => ?_) (fun c_4167 => ?_)
                        · have jc_4167 := dk_lec (k := 0) (by decide +kernel) c_4167
                          refine lv_aload_n hx hb dX12_goesOn_555 rfl (lv_at hl 3 rfl) ?_
                          refine lv_iconst (v := 1) hx hb dX12_goesOn_556 (by decide +kernel) ?_
                          have hz_4168 : (1 : Int32).toInt = 1 := by decide +kernel
                          refine dg_callv hS hA1 hA (va_runV (As := [.int 1]) (rest := []) F (c_m_joins l g D o S_4164 1 (by decide +kernel) cd (((m_4164.1 0 34 _ sM_0 (by decide)).trans (m_2.1 0 34 _ sM_0 (by decide))).trans f_cd) (by omega) om (((m_4164.1 0 45 _ sM_0 (by decide)).trans (m_2.1 0 45 _ sM_0 (by decide))).trans f_om) (by omega) (by omega) (ZWM.keep (ZWM.keep ZW m_2 (by decide) (by decide) (by decide) (by decide)) m_4164 (by decide) (by decide) (by decide) (by decide)) (ZKM.keep (ZKM.keep ZK m_2 (by decide) (by decide)) m_4164 (by decide) (by decide)) (P1M.keep (P1M.keep P1 m_2 (by decide) (by decide) (by decide) (by decide) (by decide) (by decide) (by decide) (by decide) (by decide) (by decide) (by decide) (by decide) (by decide) (by decide) (by decide)) m_4164 (by decide) (by decide) (by decide) (by decide) (by decide) (by decide) (by decide) (by decide) (by decide) (by decide) (by decide) (by decide) (by decide) (by decide) (by decide)) I_4164 H.size) (cwV 1 hts (bw_V wB_1234 wB_1235 wB_1236 wB_881 wB_1233) rfl rfl rfl (by decide +kernel) ⟨Nat.le_of_ble_eq_true rfl, Nat.le_of_ble_eq_true rfl⟩) (dg_preV sM_0 rfl K ST hP hS hA1 hA) rfl rfl hl.1 rfl (lv_room (Nat.le_of_ble_eq_true rfl)) dX12_goesOn_557 ⟨Nat.le_of_ble_eq_true rfl, Nat.le_of_ble_eq_true rfl⟩) (fun S_4169 hw_4169 H locs hP hS => ?_)
                          obtain ⟨I_4169, m_4169, w_4169_0, w_4169_1, w_4169_2, w_4169_3, -⟩ := hw_4169
                          have M_4169 := dg_sm.tr M_4164 m_4169 (by decide) (by decide)
                          have hz_4170 : (1 : Int32).toInt = 1 := by decide +kernel
                          obtain ⟨y_4171, y_4172, f_y_4171, f_y_4172, w_4169_0⟩ := w_4169_0
                          have w_4169_0 : (y_4171).toInt + (y_4172).toInt = (cd).toInt + (om).toInt := w_4169_0
                          have b_y_4171 : 0 ≤ (y_4171).toInt ∧ (y_4171).toInt ≤ 1600 := dg_I.intb (lo := 0) (hi := 1600) I_4169 sM_0 (by decide +kernel) f_y_4171
                          have b_y_4172 : 0 ≤ (y_4172).toInt ∧ (y_4172).toInt ≤ 500 := dg_I.intb (lo := 0) (hi := 500) I_4169 sM_0 (by decide +kernel) f_y_4172
                          have w_4169_1 : TOPM S_4169 (1 : Int32) := w_4169_1
                          obtain ⟨x_4173, f_x_4173, b_x_4173⟩ := dg_I.int (i := 0) (k := 43) (lo := (-2147483648)) (hi := 2147483647) I_4169 sM_0 (by decide +kernel)
                          have hkd := PSM.kind w_4169_3 (((m_4169.1 0 42 _ sM_0 (by decide)).trans ((m_4164.1 0 42 _ sM_0 (by decide)).trans (m_2.1 0 42 _ sM_0 (by decide)))).trans f_dp) f_x_4173 f_y_4172 (fx := x_5) (by omega) ((congrFun ((m_4169.2 22 _ sM_22 (by decide)).1.trans (m_4164.2 22 _ sM_22 (by decide)).1) _).trans ex_7.symm) (rfl : S_4169.2.1 25 (x_5 : Int32).toNatClampNeg = _)
                          unfold dk_fk at hkd
                          have hcl9 := dk_clN x_5
                          refine lv_aload_n hx hb dX12_goesOn_560 rfl (lv_at hl 3 rfl) ?_
                          refine lv_dup hx hb dX12_goesOn_561 rfl ?_
                          refine dg_get (C := RX12) (T := TX12) (N := 77) hx hb hts (fun w h => bw_mem (wU_X12 w h)) hown K hP sM_0 rfl 42 (by decide) (hts _ (bw_mem wB_1203)) (fun _ h9 => h9) (v := .int dp) (((m_4169.1 0 42 _ sM_0 (by decide)).trans ((m_4164.1 0 42 _ sM_0 (by decide)).trans (m_2.1 0 42 _ sM_0 (by decide)))).trans f_dp) dX12_goesOn_562 ?_
                          refine lv_iconst (v := 1) hx hb dX12_goesOn_565 (by decide +kernel) ?_
                          refine lv_isub hx hb dX12_goesOn_566 ?_
                          refine lv_topi (fun x_4174 ex_4174 => ?_)
                          have jx_4174 : (x_4174).toInt = (dp).toInt - 1 := by rw [ex_4174]; exact dk_subT rfl (by decide +kernel) (by omega) (by omega)
                          refine dg_put (ci := 12) (v := .int x_4174) (ty := tyX12 42) (C := RX12) (T := TX12) (N := 77) hx hb hts (fun w h => bw_mem (wU_X12 w h)) tyX12 tyX12_ok nmX12 hown K hP hS hA1 sM_0 rfl 42 (by decide) (hts _ (bw_mem wB_1203)) (fun _ h9 => h9) rfl (by decide +kernel) rfl rfl dX12_goesOn_567 (fun S_4175 e_4175 H locs hP hS => ?_)
                          have I_4175 := dg_I.uFi (lo := 0) (hi := 20) I_4169 e_4175 sM_0 (by decide +kernel) (show 0 ≤ (x_4174).toInt ∧ (x_4174).toInt ≤ 20 from (by omega))
                          have M_4175 := dg_sm.uF M_4169 e_4175 sM_0 (by decide)
                          refine lv_aload_n hx hb dX12_goesOn_570 rfl (lv_at hl 3 rfl) ?_
                          refine lv_dup hx hb dX12_goesOn_571 rfl ?_
                          refine dg_get (C := RX12) (T := TX12) (N := 77) hx hb hts (fun w h => bw_mem (wU_X12 w h)) hown K hP sM_0 rfl 43 (by decide) (hts _ (bw_mem wB_1212)) (fun _ h9 => h9) (v := .int x_4173) ((dg_uF_ne e_4175 (fun z => absurd z.2 (by decide))).trans f_x_4173) dX12_goesOn_572 ?_
                          refine lv_iconst (v := 1) hx hb dX12_goesOn_575 (by decide +kernel) ?_
                          refine lv_isub hx hb dX12_goesOn_576 ?_
                          refine lv_topi (fun x_4176 ex_4176 => ?_)
                          refine dg_put (ci := 12) (v := .int x_4176) (ty := tyX12 43) (C := RX12) (T := TX12) (N := 77) hx hb hts (fun w h => bw_mem (wU_X12 w h)) tyX12 tyX12_ok nmX12 hown K hP hS hA1 sM_0 rfl 43 (by decide) (hts _ (bw_mem wB_1212)) (fun _ h9 => h9) rfl (by decide +kernel) rfl rfl dX12_goesOn_577 (fun S_4177 e_4177 H locs hP hS => ?_)
                          have I_4177 := dg_I.uFi (lo := (-2147483648)) (hi := 2147483647) I_4175 e_4177 sM_0 (by decide +kernel) (show (-2147483648) ≤ (x_4176).toInt ∧ (x_4176).toInt ≤ 2147483647 from (dk_full _))
                          have M_4177 := dg_sm.uF M_4175 e_4177 sM_0 (by decide)
                          refine lv_iload_n hx hb dX12_goesOn_580 rfl (lv_at hl 1 rfl) ?_
                          refine lv_iconst (v := 4) hx hb dX12_goesOn_581 (by decide +kernel) ?_
                          refine lv_icmp_ne (tgt := 596) hx hb dX12_goesOn_582 (by decide) (fun c_4178 => ?_) (fun c_4178 => ?_)
                          · have jc_4178 := dk_neqc (k := 4) (by decide +kernel) c_4178
                            obtain ⟨x_4179, f_x_4179, b_x_4179⟩ := dg_I.int (i := 0) (k := 42) (lo := 0) (hi := 20) I_4169 sM_0 (by decide +kernel)
                            obtain ⟨x_4180, f_x_4180, b_x_4180⟩ := dg_I.int (i := 0) (k := 43) (lo := (-2147483648)) (hi := 2147483647) I_4169 sM_0 (by decide +kernel)
                            have P1_4177 : P1M S_4177 := P1M.close2 w_4169_3 f_x_4179 f_x_4180 f_y_4172 w_4169_1 (by omega) (fx := x_5) (by omega) ((congrFun ((m_4169.2 22 _ sM_22 (by decide)).1.trans (m_4164.2 22 _ sM_22 (by decide)).1) _).trans ex_7.symm) (by omega) e_4175 (by omega) e_4177 (by omega)
                            refine lv_iload_n hx hb dX12_goesOn_596 rfl (lv_at hl 1 rfl) ?_
                            refine lv_iconst (v := 5) hx hb dX12_goesOn_597 (by decide +kernel) ?_
                            refine lv_icmp_ne (tgt := 613) hx hb dX12_goesOn_598 (by decide) (fun c_4181 => ?_) (fun c_4181 => ?_)
                            · have jc_4181 := dk_neqc (k := 5) (by decide +kernel) c_4181
                              refine lv_aload_n hx hb dX12_goesOn_613 rfl (lv_at hl 3 rfl) ?_
                              refine dg_callv hS hA1 hA (va_runV (As := []) (rest := []) F (c_m_ahead l g D o S_4177 se (((dg_uF_ne e_4177 (fun z => absurd z.2 (by decide))).trans ((dg_uF_ne e_4175 (fun z => absurd z.2 (by decide))).trans ((m_4169.1 0 5 _ sM_0 (by decide)).trans ((m_4164.1 0 5 _ sM_0 (by decide)).trans (m_2.1 0 5 _ sM_0 (by decide)))))).trans f_se) (by omega) sl (((dg_uF_ne e_4177 (fun z => absurd z.2 (by decide))).trans ((dg_uF_ne e_4175 (fun z => absurd z.2 (by decide))).trans ((m_4169.1 0 2 _ sM_0 (by decide)).trans ((m_4164.1 0 2 _ sM_0 (by decide)).trans (m_2.1 0 2 _ sM_0 (by decide)))))).trans f_sl) (by omega) (by omega) I_4177 H.size) (cwV 0 hts (bw_V wB_1161 wB_1162 wB_1163 wB_881 wB_1160) rfl rfl rfl (by decide +kernel) ⟨Nat.le_of_ble_eq_true rfl, Nat.le_of_ble_eq_true rfl⟩) (dg_preV sM_0 rfl K ST hP hS hA1 hA) rfl rfl hl.1 rfl (lv_room (Nat.le_of_ble_eq_true rfl)) dX12_goesOn_614 ⟨Nat.le_of_ble_eq_true rfl, Nat.le_of_ble_eq_true rfl⟩) (fun S_4182 hw_4182 H locs hP hS => ?_)
                              obtain ⟨I_4182, m_4182, w_4182_0, -⟩ := hw_4182
                              have M_4182 := dg_sm.tr M_4177 m_4182 (by decide) (by decide)
                              obtain ⟨y_4183, y_4184, y_4185, f_y_4183, f_y_4184, f_y_4185, w_4182_0⟩ := w_4182_0
                              have w_4182_0 : (se).toInt ≤ (y_4184).toInt ∧ (y_4184).toInt ≤ (y_4185).toInt ∧ (y_4185).toInt ≤ (sl).toInt ∧ ((y_4183).toInt ≠ 0 → (y_4184).toInt + 1 ≤ (y_4185).toInt) := w_4182_0
                              have b_y_4183 : 0 ≤ (y_4183).toInt ∧ (y_4183).toInt ≤ 3 := dg_I.intb (lo := 0) (hi := 3) I_4182 sM_0 (by decide +kernel) f_y_4183
                              have b_y_4184 : 0 ≤ (y_4184).toInt ∧ (y_4184).toInt ≤ 1600 := dg_I.intb (lo := 0) (hi := 1600) I_4182 sM_0 (by decide +kernel) f_y_4184
                              have b_y_4185 : 0 ≤ (y_4185).toInt ∧ (y_4185).toInt ≤ 1600 := dg_I.intb (lo := 0) (hi := 1600) I_4182 sM_0 (by decide +kernel) f_y_4185
                              refine lv_iconst (v := 1) hx hb dX12_goesOn_617 (by decide +kernel) ?_
                              have hz_4186 : (1 : Int32).toInt = 1 := by decide +kernel
                              have hz_4187 : (1 : Int32).toInt = 1 := by decide +kernel
                              obtain ⟨x_4188, f_x_4188, b_x_4188⟩ := dg_I.int (i := 0) (k := 42) (lo := 0) (hi := 20) I_4182 sM_0 (by decide +kernel)
                              have hz_4189 : (1 : Int32).toInt = 1 := by decide +kernel
                              refine W.widen (k := 0) (n := 0) (Nat.le_of_ble_eq_true rfl) (Nat.le_of_ble_eq_true rfl) ?_
                              exact dg_iret hx hb hr hlocks (by decide +kernel) hP hS ⟨I_4182, M_4182, (by decide +kernel), ⟨y_4183, y_4184, y_4185, y_4166, y_4171, x_4188, y_4172, oo, f_y_4183, f_y_4184, f_y_4185, (((m_4182.1 0 8 _ sM_0 (by decide)).trans ((dg_uF_ne e_4177 (fun z => absurd z.2 (by decide))).trans ((dg_uF_ne e_4175 (fun z => absurd z.2 (by decide))).trans (m_4169.1 0 8 _ sM_0 (by decide))))).trans f_y_4166), (((m_4182.1 0 34 _ sM_0 (by decide)).trans ((dg_uF_ne e_4177 (fun z => absurd z.2 (by decide))).trans (dg_uF_ne e_4175 (fun z => absurd z.2 (by decide))))).trans f_y_4171), f_x_4188, (((m_4182.1 0 45 _ sM_0 (by decide)).trans ((dg_uF_ne e_4177 (fun z => absurd z.2 (by decide))).trans (dg_uF_ne e_4175 (fun z => absurd z.2 (by decide))))).trans f_y_4172), (((m_4182.1 0 46 _ sM_0 (by decide)).trans ((dg_uF_ne e_4177 (fun z => absurd z.2 (by decide))).trans ((dg_uF_ne e_4175 (fun z => absurd z.2 (by decide))).trans ((m_4169.1 0 46 _ sM_0 (by decide)).trans ((m_4164.1 0 46 _ sM_0 (by decide)).trans (m_2.1 0 46 _ sM_0 (by decide))))))).trans f_oo), (by omega)⟩, (fun k9 hk9 hk0 => POM.mk1 (P1M.keep P1_4177 m_4182 (by decide) (by decide) (by decide) (by decide) (by decide) (by decide) (by decide) (by decide) (by decide) (by decide) (by decide) (by decide) (by decide) (by decide) (by decide)) (((m_4182.1 0 46 _ sM_0 (by decide)).trans ((dg_uF_ne e_4177 (fun z => absurd z.2 (by decide))).trans ((dg_uF_ne e_4175 (fun z => absurd z.2 (by decide))).trans ((m_4169.1 0 46 _ sM_0 (by decide)).trans ((m_4164.1 0 46 _ sM_0 (by decide)).trans (m_2.1 0 46 _ sM_0 (by decide))))))).trans f_oo) (by omega)), (ZWM.keep (ZWM.keep (ZWM.keep w_4169_2 (dg_sm.uF (WF := [(0, 42)]) (WA := []) dg_sm.rf e_4175 sM_0 (by decide)) (by decide) (by decide) (by decide) (by decide)) (dg_sm.uF (WF := [(0, 43)]) (WA := []) dg_sm.rf e_4177 sM_0 (by decide)) (by decide) (by decide) (by decide) (by decide)) m_4182 (by decide) (by decide) (by decide) (by decide)), trivial⟩ dX12_goesOn_618
                            · have jc_4181 := dk_eqc (k := 5) (by decide +kernel) c_4181
                              refine lv_aload_n hx hb dX12_goesOn_601 rfl (lv_at hl 3 rfl) ?_
                              refine dg_get (C := RX12) (T := TX12) (N := 77) hx hb hts (fun w h => bw_mem (wU_X12 w h)) hown K hP sM_0 rfl 38 (by decide) (hts _ (bw_mem wB_1214)) (fun _ h9 => h9) (v := .ref (o + 23)) (show S_4177.1 0 38 = .ref (o + 23) from dg_I.rel (d := 23) I_4177 sM_0 (by decide +kernel)) dX12_goesOn_602 ?_
                              refine lv_aload_n hx hb dX12_goesOn_605 rfl (lv_at hl 3 rfl) ?_
                              obtain ⟨x_4190, f_x_4190, b_x_4190⟩ := dg_I.int (i := 0) (k := 42) (lo := 0) (hi := 20) I_4177 sM_0 (by decide +kernel)
                              refine dg_get (C := RX12) (T := TX12) (N := 77) hx hb hts (fun w h => bw_mem (wU_X12 w h)) hown K hP sM_0 rfl 42 (by decide) (hts _ (bw_mem wB_1203)) (fun _ h9 => h9) (v := .int x_4190) f_x_4190 dX12_goesOn_606 ?_
                              refine lv_iconst (v := 1) hx hb dX12_goesOn_609 (by decide +kernel) ?_
                              refine lv_isub hx hb dX12_goesOn_610 ?_
                              refine lv_topi (fun x_4191 ex_4191 => ?_)
                              have jx_4191 : (x_4191).toInt = (x_4190).toInt - 1 := by rw [ex_4191]; exact dk_subT rfl (by decide +kernel) (by omega) (by omega)
                              refine lv_iconst (v := 2) hx hb dX12_goesOn_611 (by decide +kernel) ?_
                              have hin_4192 : vp_in x_4191 20 := (dk_inv (by omega) (by omega))
                              have hz_4194 : (2 : Int32).toInt = 2 := by decide +kernel
                              refine dg_iast hx hb K hP hS hA1 sM_23 hin_4192 dX12_goesOn_612 (fun S_4193 e_4193 H locs hP hS => ?_)
                              have I_4193 := dg_I.ufu (lo := 0) (hi := 2) I_4177 e_4193 sM_23 (by decide +kernel) (show 0 ≤ ((2 : Int32)).toInt ∧ ((2 : Int32)).toInt ≤ 2 from (by decide +kernel))
                              have M_4193 := dg_sm.uf M_4177 e_4193 sM_23 (by decide)
                              have hz_4195 : (2 : Int32).toInt = 2 := by decide +kernel
                              have P1_4193 : P1M S_4193 := P1M.close5 P1_4177 f_x_4190 (by omega) (by omega) (by omega) e_4193
                              refine lv_aload_n hx hb dX12_goesOn_613 rfl (lv_at hl 3 rfl) ?_
                              refine dg_callv hS hA1 hA (va_runV (As := []) (rest := []) F (c_m_ahead l g D o S_4193 se (((dg_uf_F e_4193 0 5).trans ((dg_uF_ne e_4177 (fun z => absurd z.2 (by decide))).trans ((dg_uF_ne e_4175 (fun z => absurd z.2 (by decide))).trans ((m_4169.1 0 5 _ sM_0 (by decide)).trans ((m_4164.1 0 5 _ sM_0 (by decide)).trans (m_2.1 0 5 _ sM_0 (by decide))))))).trans f_se) (by omega) sl (((dg_uf_F e_4193 0 2).trans ((dg_uF_ne e_4177 (fun z => absurd z.2 (by decide))).trans ((dg_uF_ne e_4175 (fun z => absurd z.2 (by decide))).trans ((m_4169.1 0 2 _ sM_0 (by decide)).trans ((m_4164.1 0 2 _ sM_0 (by decide)).trans (m_2.1 0 2 _ sM_0 (by decide))))))).trans f_sl) (by omega) (by omega) I_4193 H.size) (cwV 0 hts (bw_V wB_1161 wB_1162 wB_1163 wB_881 wB_1160) rfl rfl rfl (by decide +kernel) ⟨Nat.le_of_ble_eq_true rfl, Nat.le_of_ble_eq_true rfl⟩) (dg_preV sM_0 rfl K ST hP hS hA1 hA) rfl rfl hl.1 rfl (lv_room (Nat.le_of_ble_eq_true rfl)) dX12_goesOn_614 ⟨Nat.le_of_ble_eq_true rfl, Nat.le_of_ble_eq_true rfl⟩) (fun S_4196 hw_4196 H locs hP hS => ?_)
                              obtain ⟨I_4196, m_4196, w_4196_0, -⟩ := hw_4196
                              have M_4196 := dg_sm.tr M_4193 m_4196 (by decide) (by decide)
                              obtain ⟨y_4197, y_4198, y_4199, f_y_4197, f_y_4198, f_y_4199, w_4196_0⟩ := w_4196_0
                              have w_4196_0 : (se).toInt ≤ (y_4198).toInt ∧ (y_4198).toInt ≤ (y_4199).toInt ∧ (y_4199).toInt ≤ (sl).toInt ∧ ((y_4197).toInt ≠ 0 → (y_4198).toInt + 1 ≤ (y_4199).toInt) := w_4196_0
                              have b_y_4197 : 0 ≤ (y_4197).toInt ∧ (y_4197).toInt ≤ 3 := dg_I.intb (lo := 0) (hi := 3) I_4196 sM_0 (by decide +kernel) f_y_4197
                              have b_y_4198 : 0 ≤ (y_4198).toInt ∧ (y_4198).toInt ≤ 1600 := dg_I.intb (lo := 0) (hi := 1600) I_4196 sM_0 (by decide +kernel) f_y_4198
                              have b_y_4199 : 0 ≤ (y_4199).toInt ∧ (y_4199).toInt ≤ 1600 := dg_I.intb (lo := 0) (hi := 1600) I_4196 sM_0 (by decide +kernel) f_y_4199
                              refine lv_iconst (v := 1) hx hb dX12_goesOn_617 (by decide +kernel) ?_
                              have hz_4200 : (1 : Int32).toInt = 1 := by decide +kernel
                              have hz_4201 : (1 : Int32).toInt = 1 := by decide +kernel
                              have hz_4202 : (1 : Int32).toInt = 1 := by decide +kernel
                              refine W.widen (k := 0) (n := 0) (Nat.le_of_ble_eq_true rfl) (Nat.le_of_ble_eq_true rfl) ?_
                              exact dg_iret hx hb hr hlocks (by decide +kernel) hP hS ⟨I_4196, M_4196, (by decide +kernel), ⟨y_4197, y_4198, y_4199, y_4166, y_4171, x_4190, y_4172, oo, f_y_4197, f_y_4198, f_y_4199, (((m_4196.1 0 8 _ sM_0 (by decide)).trans ((dg_uf_F e_4193 0 8).trans ((dg_uF_ne e_4177 (fun z => absurd z.2 (by decide))).trans ((dg_uF_ne e_4175 (fun z => absurd z.2 (by decide))).trans (m_4169.1 0 8 _ sM_0 (by decide)))))).trans f_y_4166), (((m_4196.1 0 34 _ sM_0 (by decide)).trans ((dg_uf_F e_4193 0 34).trans ((dg_uF_ne e_4177 (fun z => absurd z.2 (by decide))).trans (dg_uF_ne e_4175 (fun z => absurd z.2 (by decide)))))).trans f_y_4171), (((m_4196.1 0 42 _ sM_0 (by decide)).trans (dg_uf_F e_4193 0 42)).trans f_x_4190), (((m_4196.1 0 45 _ sM_0 (by decide)).trans ((dg_uf_F e_4193 0 45).trans ((dg_uF_ne e_4177 (fun z => absurd z.2 (by decide))).trans (dg_uF_ne e_4175 (fun z => absurd z.2 (by decide)))))).trans f_y_4172), (((m_4196.1 0 46 _ sM_0 (by decide)).trans ((dg_uf_F e_4193 0 46).trans ((dg_uF_ne e_4177 (fun z => absurd z.2 (by decide))).trans ((dg_uF_ne e_4175 (fun z => absurd z.2 (by decide))).trans ((m_4169.1 0 46 _ sM_0 (by decide)).trans ((m_4164.1 0 46 _ sM_0 (by decide)).trans (m_2.1 0 46 _ sM_0 (by decide)))))))).trans f_oo), (by omega)⟩, (fun k9 hk9 hk0 => POM.mk1 (P1M.keep P1_4193 m_4196 (by decide) (by decide) (by decide) (by decide) (by decide) (by decide) (by decide) (by decide) (by decide) (by decide) (by decide) (by decide) (by decide) (by decide) (by decide)) (((m_4196.1 0 46 _ sM_0 (by decide)).trans ((dg_uf_F e_4193 0 46).trans ((dg_uF_ne e_4177 (fun z => absurd z.2 (by decide))).trans ((dg_uF_ne e_4175 (fun z => absurd z.2 (by decide))).trans ((m_4169.1 0 46 _ sM_0 (by decide)).trans ((m_4164.1 0 46 _ sM_0 (by decide)).trans (m_2.1 0 46 _ sM_0 (by decide)))))))).trans f_oo) (by omega)), (ZWM.keep (ZWM.keep (ZWM.keep (ZWM.keep w_4169_2 (dg_sm.uF (WF := [(0, 42)]) (WA := []) dg_sm.rf e_4175 sM_0 (by decide)) (by decide) (by decide) (by decide) (by decide)) (dg_sm.uF (WF := [(0, 43)]) (WA := []) dg_sm.rf e_4177 sM_0 (by decide)) (by decide) (by decide) (by decide) (by decide)) (dg_sm.uf (WF := []) (WA := [23]) dg_sm.rf e_4193 sM_23 (by decide)) (by decide) (by decide) (by decide) (by decide)) m_4196 (by decide) (by decide) (by decide) (by decide)), trivial⟩ dX12_goesOn_618
                          · have jc_4178 := dk_eqc (k := 4) (by decide +kernel) c_4178
                            refine lv_aload_n hx hb dX12_goesOn_585 rfl (lv_at hl 3 rfl) ?_
                            refine lv_aload_n hx hb dX12_goesOn_586 rfl (lv_at hl 3 rfl) ?_
                            refine dg_get (C := RX12) (T := TX12) (N := 77) hx hb hts (fun w h => bw_mem (wU_X12 w h)) hown K hP sM_0 rfl 40 (by decide) (hts _ (bw_mem wB_1232)) (fun _ h9 => h9) (v := .ref (o + 25)) (show S_4177.1 0 40 = .ref (o + 25) from dg_I.rel (d := 25) I_4177 sM_0 (by decide +kernel)) dX12_goesOn_587 ?_
                            refine lv_iload_n hx hb dX12_goesOn_590 rfl (lv_at hl 2 rfl) ?_
                            have hin_4203 : vp_in x_5 20 := (dk_inv (by omega) (by omega))
                            refine dg_iald hx hb K hP sM_25 hin_4203 dX12_goesOn_591 (fun x_4204 ex_4204 => ?_)
                            have hp25_x_4204 : S_4169.2.1 25 (x_5 : Int32).toNatClampNeg = x_4204 := by rw [ex_4204, (((dg_uF_f e_4177 25).trans (dg_uF_f e_4175 25)))]
                            rw [hp25_x_4204] at hkd
                            refine lv_iconst (v := 0) hx hb dX12_goesOn_592 (by decide +kernel) ?_
                            refine dg_callv hS hA1 hA (va_runV (As := [.int x_4204, .int 0]) (rest := []) F (c_m_add l g D o S_4177 x_4204 (by omega) 0 y_4171 (((dg_uF_ne e_4177 (fun z => absurd z.2 (by decide))).trans (dg_uF_ne e_4175 (fun z => absurd z.2 (by decide)))).trans f_y_4171) (by omega) (ZWM.keep (ZWM.keep w_4169_2 (dg_sm.uF (WF := [(0, 42)]) (WA := []) dg_sm.rf e_4175 sM_0 (by decide)) (by decide) (by decide) (by decide) (by decide)) (dg_sm.uF (WF := [(0, 43)]) (WA := []) dg_sm.rf e_4177 sM_0 (by decide)) (by decide) (by decide) (by decide) (by decide)) (ZKM.keep (ZKM.keep (ZKM.keep (ZKM.keep (ZKM.keep ZK m_2 (by decide) (by decide)) m_4164 (by decide) (by decide)) m_4169 (by decide) (by decide)) (dg_sm.uF (WF := [(0, 42)]) (WA := []) dg_sm.rf e_4175 sM_0 (by decide)) (by decide) (by decide)) (dg_sm.uF (WF := [(0, 43)]) (WA := []) dg_sm.rf e_4177 sM_0 (by decide)) (by decide) (by decide)) I_4177 H.size) (cwV 2 hts (bw_V wB_1209 wB_1210 wB_1211 wB_881 wB_1208) rfl rfl rfl (by decide +kernel) ⟨Nat.le_of_ble_eq_true rfl, Nat.le_of_ble_eq_true rfl⟩) (dg_preV sM_0 rfl K ST hP hS hA1 hA) rfl rfl hl.1 rfl (lv_room (Nat.le_of_ble_eq_true rfl)) dX12_goesOn_593 ⟨Nat.le_of_ble_eq_true rfl, Nat.le_of_ble_eq_true rfl⟩) (fun S_4205 hw_4205 H locs hP hS => ?_)
                            obtain ⟨I_4205, m_4205, w_4205_0, w_4205_1, w_4205_2, -⟩ := hw_4205
                            have M_4205 := dg_sm.tr M_4177 m_4205 (by decide) (by decide)
                            have hz_4206 : (0 : Int32).toInt = 0 := by decide +kernel
                            obtain ⟨y_4207, f_y_4207, w_4205_0⟩ := w_4205_0
                            have w_4205_0 : (y_4207).toInt = (y_4171).toInt + 1 := w_4205_0
                            have b_y_4207 : 0 ≤ (y_4207).toInt ∧ (y_4207).toInt ≤ 1600 := dg_I.intb (lo := 0) (hi := 1600) I_4205 sM_0 (by decide +kernel) f_y_4207
                            have w_4205_1 : ADM S_4177 S_4205 x_4204 := w_4205_1
                            obtain ⟨x_4208, f_x_4208, b_x_4208⟩ := dg_I.int (i := 0) (k := 42) (lo := 0) (hi := 20) I_4169 sM_0 (by decide +kernel)
                            obtain ⟨x_4209, f_x_4209, b_x_4209⟩ := dg_I.int (i := 0) (k := 43) (lo := (-2147483648)) (hi := 2147483647) I_4169 sM_0 (by decide +kernel)
                            have P1_4205 : P1M S_4205 := P1M.close4 w_4169_3 f_x_4208 f_x_4209 f_y_4172 w_4169_1 (by omega) (fx := x_5) (by omega) ((congrFun ((m_4169.2 22 _ sM_22 (by decide)).1.trans (m_4164.2 22 _ sM_22 (by decide)).1) _).trans ex_7.symm) (by omega) e_4175 (by omega) e_4177 (by omega) hp25_x_4204 m_4205 w_4205_1
                            refine lv_iload_n hx hb dX12_goesOn_596 rfl (lv_at hl 1 rfl) ?_
                            refine lv_iconst (v := 5) hx hb dX12_goesOn_597 (by decide +kernel) ?_
                            refine lv_icmp_ne (tgt := 613) hx hb dX12_goesOn_598 (by decide) (fun _ => ?_) (fun c => absurd c (fun z => absurd (dk_eqc (k := 5) (by decide +kernel) z) (by omega)))
                            refine lv_aload_n hx hb dX12_goesOn_613 rfl (lv_at hl 3 rfl) ?_
                            refine dg_callv hS hA1 hA (va_runV (As := []) (rest := []) F (c_m_ahead l g D o S_4205 se (((m_4205.1 0 5 _ sM_0 (by decide)).trans ((dg_uF_ne e_4177 (fun z => absurd z.2 (by decide))).trans ((dg_uF_ne e_4175 (fun z => absurd z.2 (by decide))).trans ((m_4169.1 0 5 _ sM_0 (by decide)).trans ((m_4164.1 0 5 _ sM_0 (by decide)).trans (m_2.1 0 5 _ sM_0 (by decide))))))).trans f_se) (by omega) sl (((m_4205.1 0 2 _ sM_0 (by decide)).trans ((dg_uF_ne e_4177 (fun z => absurd z.2 (by decide))).trans ((dg_uF_ne e_4175 (fun z => absurd z.2 (by decide))).trans ((m_4169.1 0 2 _ sM_0 (by decide)).trans ((m_4164.1 0 2 _ sM_0 (by decide)).trans (m_2.1 0 2 _ sM_0 (by decide))))))).trans f_sl) (by omega) (by omega) I_4205 H.size) (cwV 0 hts (bw_V wB_1161 wB_1162 wB_1163 wB_881 wB_1160) rfl rfl rfl (by decide +kernel) ⟨Nat.le_of_ble_eq_true rfl, Nat.le_of_ble_eq_true rfl⟩) (dg_preV sM_0 rfl K ST hP hS hA1 hA) rfl rfl hl.1 rfl (lv_room (Nat.le_of_ble_eq_true rfl)) dX12_goesOn_614 ⟨Nat.le_of_ble_eq_true rfl, Nat.le_of_ble_eq_true rfl⟩) (fun S_4210 hw_4210 H locs hP hS => ?_)
                            obtain ⟨I_4210, m_4210, w_4210_0, -⟩ := hw_4210
                            have M_4210 := dg_sm.tr M_4205 m_4210 (by decide) (by decide)
                            obtain ⟨y_4211, y_4212, y_4213, f_y_4211, f_y_4212, f_y_4213, w_4210_0⟩ := w_4210_0
                            have w_4210_0 : (se).toInt ≤ (y_4212).toInt ∧ (y_4212).toInt ≤ (y_4213).toInt ∧ (y_4213).toInt ≤ (sl).toInt ∧ ((y_4211).toInt ≠ 0 → (y_4212).toInt + 1 ≤ (y_4213).toInt) := w_4210_0
                            have b_y_4211 : 0 ≤ (y_4211).toInt ∧ (y_4211).toInt ≤ 3 := dg_I.intb (lo := 0) (hi := 3) I_4210 sM_0 (by decide +kernel) f_y_4211
                            have b_y_4212 : 0 ≤ (y_4212).toInt ∧ (y_4212).toInt ≤ 1600 := dg_I.intb (lo := 0) (hi := 1600) I_4210 sM_0 (by decide +kernel) f_y_4212
                            have b_y_4213 : 0 ≤ (y_4213).toInt ∧ (y_4213).toInt ≤ 1600 := dg_I.intb (lo := 0) (hi := 1600) I_4210 sM_0 (by decide +kernel) f_y_4213
                            refine lv_iconst (v := 1) hx hb dX12_goesOn_617 (by decide +kernel) ?_
                            have hz_4214 : (1 : Int32).toInt = 1 := by decide +kernel
                            have hz_4215 : (1 : Int32).toInt = 1 := by decide +kernel
                            obtain ⟨x_4216, f_x_4216, b_x_4216⟩ := dg_I.int (i := 0) (k := 42) (lo := 0) (hi := 20) I_4210 sM_0 (by decide +kernel)
                            have hz_4217 : (1 : Int32).toInt = 1 := by decide +kernel
                            refine W.widen (k := 0) (n := 0) (Nat.le_of_ble_eq_true rfl) (Nat.le_of_ble_eq_true rfl) ?_
                            exact dg_iret hx hb hr hlocks (by decide +kernel) hP hS ⟨I_4210, M_4210, (by decide +kernel), ⟨y_4211, y_4212, y_4213, y_4166, y_4207, x_4216, y_4172, oo, f_y_4211, f_y_4212, f_y_4213, (((m_4210.1 0 8 _ sM_0 (by decide)).trans ((m_4205.1 0 8 _ sM_0 (by decide)).trans ((dg_uF_ne e_4177 (fun z => absurd z.2 (by decide))).trans ((dg_uF_ne e_4175 (fun z => absurd z.2 (by decide))).trans (m_4169.1 0 8 _ sM_0 (by decide)))))).trans f_y_4166), ((m_4210.1 0 34 _ sM_0 (by decide)).trans f_y_4207), f_x_4216, (((m_4210.1 0 45 _ sM_0 (by decide)).trans ((m_4205.1 0 45 _ sM_0 (by decide)).trans ((dg_uF_ne e_4177 (fun z => absurd z.2 (by decide))).trans (dg_uF_ne e_4175 (fun z => absurd z.2 (by decide)))))).trans f_y_4172), (((m_4210.1 0 46 _ sM_0 (by decide)).trans ((m_4205.1 0 46 _ sM_0 (by decide)).trans ((dg_uF_ne e_4177 (fun z => absurd z.2 (by decide))).trans ((dg_uF_ne e_4175 (fun z => absurd z.2 (by decide))).trans ((m_4169.1 0 46 _ sM_0 (by decide)).trans ((m_4164.1 0 46 _ sM_0 (by decide)).trans (m_2.1 0 46 _ sM_0 (by decide)))))))).trans f_oo), (by omega)⟩, (fun k9 hk9 hk0 => POM.mk1 (P1M.keep P1_4205 m_4210 (by decide) (by decide) (by decide) (by decide) (by decide) (by decide) (by decide) (by decide) (by decide) (by decide) (by decide) (by decide) (by decide) (by decide) (by decide)) (((m_4210.1 0 46 _ sM_0 (by decide)).trans ((m_4205.1 0 46 _ sM_0 (by decide)).trans ((dg_uF_ne e_4177 (fun z => absurd z.2 (by decide))).trans ((dg_uF_ne e_4175 (fun z => absurd z.2 (by decide))).trans ((m_4169.1 0 46 _ sM_0 (by decide)).trans ((m_4164.1 0 46 _ sM_0 (by decide)).trans (m_2.1 0 46 _ sM_0 (by decide)))))))).trans f_oo) (by omega)), (ZWM.keep w_4205_2 m_4210 (by decide) (by decide) (by decide) (by decide)), trivial⟩ dX12_goesOn_618
                        · have jc_4167 := dk_nlec (k := 0) (by decide +kernel) c_4167
                          refine lv_iconst (v := 0) hx hb dX12_goesOn_553 (by decide +kernel) ?_
                          have hz_4218 : (0 : Int32).toInt = 0 := by decide +kernel
                          have hz_4219 : (0 : Int32).toInt = 0 := by decide +kernel
                          have hz_4220 : (0 : Int32).toInt = 0 := by decide +kernel
                          refine W.widen (k := 0) (n := 0) (Nat.le_of_ble_eq_true rfl) (Nat.le_of_ble_eq_true rfl) ?_
                          exact dg_iret hx hb hr hlocks (by decide +kernel) hP hS ⟨I_4164, M_4164, (by decide +kernel), ⟨sg, sa, se, y_4166, cd, dp, om, oo, (((m_4164.1 0 3 _ sM_0 (by decide)).trans (m_2.1 0 3 _ sM_0 (by decide))).trans f_sg), (((m_4164.1 0 4 _ sM_0 (by decide)).trans (m_2.1 0 4 _ sM_0 (by decide))).trans f_sa), (((m_4164.1 0 5 _ sM_0 (by decide)).trans (m_2.1 0 5 _ sM_0 (by decide))).trans f_se), f_y_4166, (((m_4164.1 0 34 _ sM_0 (by decide)).trans (m_2.1 0 34 _ sM_0 (by decide))).trans f_cd), (((m_4164.1 0 42 _ sM_0 (by decide)).trans (m_2.1 0 42 _ sM_0 (by decide))).trans f_dp), (((m_4164.1 0 45 _ sM_0 (by decide)).trans (m_2.1 0 45 _ sM_0 (by decide))).trans f_om), (((m_4164.1 0 46 _ sM_0 (by decide)).trans (m_2.1 0 46 _ sM_0 (by decide))).trans f_oo), (by omega)⟩, (fun k9 hk9 hk0 => by have q9 := (f_y_4166).symm.trans hk9; cases q9; omega), (ZWM.keep (ZWM.keep ZW m_2 (by decide) (by decide) (by decide) (by decide)) m_4164 (by decide) (by decide) (by decide) (by decide)), trivial⟩ dX12_goesOn_554
                    refine lv_icmp_ne (tgt := 529) hx hb dX12_goesOn_521 (by decide) (fun c_4221 => ?_) (fun c_4221 => ?_)
                    · have jc_4221 := dk_neqc (k := 5) (by decide +kernel) c_4221
                      refine lv_bipush (v := 41) hx hb dX12_goesOn_529 (by decide +kernel) ?_
                      have hz_4222 : (41 : Int32).toInt = 41 := by decide +kernel
                      exact J_4109 41 (by decide +kernel) _ _ hP hS _ (lv_sub hl [0, 1, 2, 3] rfl)
                    · have jc_4221 := dk_eqc (k := 5) (by decide +kernel) c_4221
                      refine lv_bipush (v := 93) hx hb dX12_goesOn_524 (by decide +kernel) ?_
                      refine lv_goto (tgt := 531) hx hb dX12_goesOn_526 (by decide) ?_
                      have hz_4223 : (93 : Int32).toInt = 93 := by decide +kernel
                      exact J_4109 93 (by decide +kernel) _ _ hP hS _ (lv_sub hl [0, 1, 2, 3] rfl)
                  · have jc_3995 := dk_eqc (k := 6) (by decide +kernel) c_3995
                    exact J_3881  (by omega) _ _ hP hS _ (lv_sub hl [0, 1, 2, 3] rfl)
              · have jc_3653 := dk_ngec (k := 2) (by decide +kernel) c_3653
                refine lv_aload_n hx hb dX12_goesOn_427 rfl (lv_at hl 3 rfl) ?_
                refine dg_get (C := RX12) (T := TX12) (N := 77) hx hb hts (fun w h => bw_mem (wU_X12 w h)) hown K hP sM_0 rfl 8 (by decide) (hts _ (bw_mem wB_1133)) (fun _ h9 => h9) (v := .int y_3) f_y_3 dX12_goesOn_428 ?_
                refine lv_if_ne (tgt := 439) hx hb dX12_goesOn_431 (by decide) (fun c => absurd (dk_eqp (k := 0) (by decide +kernel) (by omega)) c) (fun _ => ?_)
                refine lv_aload_n hx hb dX12_goesOn_434 rfl (lv_at hl 3 rfl) ?_
                refine lv_iconst (v := 1) hx hb dX12_goesOn_435 (by decide +kernel) ?_
                have hz_4224 : (1 : Int32).toInt = 1 := by decide +kernel
                refine dg_callv hS hA1 hA (va_runV (As := [.int 1]) (rest := []) F (c_m_joins l g D o S_2 1 (by decide +kernel) cd ((m_2.1 0 34 _ sM_0 (by decide)).trans f_cd) (by omega) om ((m_2.1 0 45 _ sM_0 (by decide)).trans f_om) (by omega) (by omega) (ZWM.keep ZW m_2 (by decide) (by decide) (by decide) (by decide)) (ZKM.keep ZK m_2 (by decide) (by decide)) (P1M.keep P1 m_2 (by decide) (by decide) (by decide) (by decide) (by decide) (by decide) (by decide) (by decide) (by decide) (by decide) (by decide) (by decide) (by decide) (by decide) (by decide)) I_2 H.size) (cwV 1 hts (bw_V wB_1234 wB_1235 wB_1236 wB_881 wB_1233) rfl rfl rfl (by decide +kernel) ⟨Nat.le_of_ble_eq_true rfl, Nat.le_of_ble_eq_true rfl⟩) (dg_preV sM_0 rfl K ST hP hS hA1 hA) rfl rfl hl.1 rfl (lv_room (Nat.le_of_ble_eq_true rfl)) dX12_goesOn_436 ⟨Nat.le_of_ble_eq_true rfl, Nat.le_of_ble_eq_true rfl⟩) (fun S_4225 hw_4225 H locs hP hS => ?_)
                obtain ⟨I_4225, m_4225, w_4225_0, w_4225_1, w_4225_2, w_4225_3, -⟩ := hw_4225
                have M_4225 := dg_sm.tr M_2 m_4225 (by decide) (by decide)
                have hz_4226 : (1 : Int32).toInt = 1 := by decide +kernel
                obtain ⟨y_4227, y_4228, f_y_4227, f_y_4228, w_4225_0⟩ := w_4225_0
                have w_4225_0 : (y_4227).toInt + (y_4228).toInt = (cd).toInt + (om).toInt := w_4225_0
                have b_y_4227 : 0 ≤ (y_4227).toInt ∧ (y_4227).toInt ≤ 1600 := dg_I.intb (lo := 0) (hi := 1600) I_4225 sM_0 (by decide +kernel) f_y_4227
                have b_y_4228 : 0 ≤ (y_4228).toInt ∧ (y_4228).toInt ≤ 500 := dg_I.intb (lo := 0) (hi := 500) I_4225 sM_0 (by decide +kernel) f_y_4228
                have w_4225_1 : TOPM S_4225 (1 : Int32) := w_4225_1
                refine lv_iconst (v := 0) hx hb dX12_goesOn_439 (by decide +kernel) ?_
                have hz_4229 : (0 : Int32).toInt = 0 := by decide +kernel
                have hz_4230 : (0 : Int32).toInt = 0 := by decide +kernel
                have hz_4231 : (0 : Int32).toInt = 0 := by decide +kernel
                refine W.widen (k := 0) (n := 0) (Nat.le_of_ble_eq_true rfl) (Nat.le_of_ble_eq_true rfl) ?_
                exact dg_iret hx hb hr hlocks (by decide +kernel) hP hS ⟨I_4225, M_4225, (by decide +kernel), ⟨sg, sa, se, y_3, y_4227, dp, y_4228, oo, (((m_4225.1 0 3 _ sM_0 (by decide)).trans (m_2.1 0 3 _ sM_0 (by decide))).trans f_sg), (((m_4225.1 0 4 _ sM_0 (by decide)).trans (m_2.1 0 4 _ sM_0 (by decide))).trans f_sa), (((m_4225.1 0 5 _ sM_0 (by decide)).trans (m_2.1 0 5 _ sM_0 (by decide))).trans f_se), ((m_4225.1 0 8 _ sM_0 (by decide)).trans f_y_3), f_y_4227, (((m_4225.1 0 42 _ sM_0 (by decide)).trans (m_2.1 0 42 _ sM_0 (by decide))).trans f_dp), f_y_4228, (((m_4225.1 0 46 _ sM_0 (by decide)).trans (m_2.1 0 46 _ sM_0 (by decide))).trans f_oo), (by omega)⟩, (fun k9 hk9 hk0 => POM.mk1 w_4225_3 (((m_4225.1 0 46 _ sM_0 (by decide)).trans (m_2.1 0 46 _ sM_0 (by decide))).trans f_oo) (by omega)), w_4225_2, trivial⟩ dX12_goesOn_440
            · have jc_3652 := dk_eqc (k := 0) (by decide +kernel) c_3652
              refine lv_aload_n hx hb dX12_goesOn_413 rfl (lv_at hl 3 rfl) ?_
              refine lv_iconst (v := 1) hx hb dX12_goesOn_414 (by decide +kernel) ?_
              refine lv_aload_n hx hb dX12_goesOn_415 rfl (lv_at hl 3 rfl) ?_
              refine dg_get (C := RX12) (T := TX12) (N := 77) hx hb hts (fun w h => bw_mem (wU_X12 w h)) hown K hP sM_0 rfl 4 (by decide) (hts _ (bw_mem wB_1145)) (fun _ h9 => h9) (v := .int sa) ((m_2.1 0 4 _ sM_0 (by decide)).trans f_sa) dX12_goesOn_416 ?_
              have hz_4232 : (1 : Int32).toInt = 1 := by decide +kernel
              refine dg_callv hS hA1 hA (va_runV (As := [.int 1, .int sa]) (rest := []) F (c_m_blame l g D o S_2 1 (by decide +kernel) sa y_3 f_y_3 (by omega) I_2 H.size) (cwV 2 hts (bw_V wB_1137 wB_1138 wB_1139 wB_881 wB_1136) rfl rfl rfl (by decide +kernel) ⟨Nat.le_of_ble_eq_true rfl, Nat.le_of_ble_eq_true rfl⟩) (dg_preV sM_0 rfl K ST hP hS hA1 hA) rfl rfl hl.1 rfl (lv_room (Nat.le_of_ble_eq_true rfl)) dX12_goesOn_419 ⟨Nat.le_of_ble_eq_true rfl, Nat.le_of_ble_eq_true rfl⟩) (fun S_4233 hw_4233 H locs hP hS => ?_)
              obtain ⟨I_4233, m_4233, w_4233_0, -⟩ := hw_4233
              have M_4233 := dg_sm.tr M_2 m_4233 (by decide) (by decide)
              have hz_4234 : (1 : Int32).toInt = 1 := by decide +kernel
              obtain ⟨y_4235, f_y_4235, w_4233_0⟩ := w_4233_0
              have w_4233_0 : ((y_3).toInt ≠ 0 → (y_4235).toInt = (y_3).toInt) ∧ ((y_3).toInt = 0 → (y_4235).toInt = ((1 : Int32)).toInt) := w_4233_0
              have b_y_4235 : 0 ≤ (y_4235).toInt ∧ (y_4235).toInt ≤ 6 := dg_I.intb (lo := 0) (hi := 6) I_4233 sM_0 (by decide +kernel) f_y_4235
              refine lv_iload_n hx hb dX12_goesOn_422 rfl (lv_at hl 1 rfl) ?_
              refine lv_iconst (v := 2) hx hb dX12_goesOn_423 (by decide +kernel) ?_
              refine lv_icmp_ge (tgt := 441) hx hb dX12_goesOn_424 (by decide) (fun c_4236 => ?_) (fun c_4236 => ?_)
              · have jc_4236 := dk_gec (k := 2) (by decide +kernel) c_4236
                refine lv_iload_n hx hb dX12_goesOn_441 rfl (lv_at hl 1 rfl) ?_
                refine lv_iconst (v := 3) hx hb dX12_goesOn_442 (by decide +kernel) ?_
                have J_4472 : ((x_7 : Int32).toInt = 3 ∨ (x_7 : Int32).toInt = 6) → ∀ (H : Heap) (locs : List Loc), va_P D vwCl (dg_w g shM o rfM S_4233) H → va_S A s.heap H locs → ∀ ls : Array Slot, lv_has ls 5 [(3, .int x_8), (2, .int x_7), (1, .int x_5), (0, .ref (o + 0))] → W p l e ({ frames := 3, cells := 0, slots := 0, locals := 77 } : Room) s m args below meth c H locs 0 0 (MQ below (va_Qi (fun (r : Int32) S' => CM o S' ∧ dg_sm shM [(0, 3), (0, 4), (0, 5), (0, 6), (0, 7), (0, 8), (0, 9), (0, 12), (0, 34), (0, 42), (0, 43), (0, 45), (0, 46)] [18, 19, 22, 23, 24, 27] S S' ∧ (0 ≤ (r).toInt ∧ (r).toInt ≤ 1) ∧ (∃ y9_3 y9_4 y9_5 y9_8 y9_34 y9_42 y9_45 y9_46 : Int32, S'.1 0 3 = .int y9_3 ∧ S'.1 0 4 = .int y9_4 ∧ S'.1 0 5 = .int y9_5 ∧ S'.1 0 8 = .int y9_8 ∧ S'.1 0 34 = .int y9_34 ∧ S'.1 0 42 = .int y9_42 ∧ S'.1 0 45 = .int y9_45 ∧ S'.1 0 46 = .int y9_46 ∧ (((y9_4).toInt ≤ (y9_5).toInt ∧ (y9_5).toInt ≤ (sl).toInt ∧ ((y9_3).toInt ≠ 0 → (y9_4).toInt + 1 ≤ (y9_5).toInt)) ∧ (sa).toInt ≤ (y9_4).toInt ∧ ((fk).toInt ≠ 0 → (y9_8).toInt ≠ 0) ∧ (((y9_8).toInt = 0 → (r).toInt = 1 → (sa).toInt + 1 ≤ (y9_4).toInt) ∧ ((y9_8).toInt = 0 → (y9_34).toInt + (y9_45).toInt + (y9_42).toInt ≤ (y9_4).toInt)))) ∧ (∀ k9 : Int32, S'.1 0 8 = .int k9 → k9.toInt = 0 → POM S') ∧ ZWM S' ∧ True) (dg_B g D shM o rfM) A) args s 0 0 A) (F0 m 452 ls []) := by
                  intro rel_0 H locs hP hS ls hl
                  refine lv_aload_n hx hb dX12_goesOn_452 rfl (lv_at hl 3 rfl) ?_
                  refine lv_bipush (v := 44) hx hb dX12_goesOn_453 (by decide +kernel) ?_
                  refine dg_calli hS hA1 hA (va_runV (As := [.int 44]) (rest := []) F (c_m_isSign l g D o S_4233 44 sg (((m_4233.1 0 3 _ sM_0 (by decide)).trans (m_2.1 0 3 _ sM_0 (by decide))).trans f_sg) (by omega) va (((m_4233.1 0 6 _ sM_0 (by decide)).trans (m_2.1 0 6 _ sM_0 (by decide))).trans f_va) (by omega) I_4233 H.size) (cwV 1 hts (bw_V wB_1157 wB_1158 wB_1159 wB_881 wB_1156) rfl rfl rfl (by decide +kernel) ⟨Nat.le_of_ble_eq_true rfl, Nat.le_of_ble_eq_true rfl⟩) (dg_preV sM_0 rfl K ST hP hS hA1 hA) rfl rfl hl.1 rfl (lv_room (Nat.le_of_ble_eq_true rfl)) dX12_goesOn_455 ⟨Nat.le_of_ble_eq_true rfl, Nat.le_of_ble_eq_true rfl⟩) (fun x_4473 S_4474 hw_4474 H locs hP hS => ?_)
                  rw [hw_4474.1] at hP
                  obtain ⟨hq_4474, w_4474_0, w_4474_1, -⟩ := hw_4474
                  have hz_4475 : (44 : Int32).toInt = 44 := by decide +kernel
                  have w_4474_0 : 0 ≤ (x_4473).toInt ∧ (x_4473).toInt ≤ 1 := w_4474_0
                  have w_4474_1 : (x_4473).toInt = 1 ↔ ((sg).toInt = 3 ∧ (va).toInt = ((44 : Int32)).toInt) := w_4474_1
                  refine lv_if_ne (tgt := 470) hx hb dX12_goesOn_458 (by decide) (fun c_4476 => ?_) (fun c_4476 => ?_)
                  · have jc_4476 := dk_neqc (k := 0) (by decide +kernel) c_4476
                    have w_4474_1_r := w_4474_1.mp (by omega)
                    clear w_4474_1
                    refine lv_aload_n hx hb dX12_goesOn_470 rfl (lv_at hl 3 rfl) ?_
                    refine dg_get (C := RX12) (T := TX12) (N := 77) hx hb hts (fun w h => bw_mem (wU_X12 w h)) hown K hP sM_0 rfl 8 (by decide) (hts _ (bw_mem wB_1133)) (fun _ h9 => h9) (v := .int y_4235) f_y_4235 dX12_goesOn_471 ?_
                    refine lv_if_le (tgt := 479) hx hb dX12_goesOn_474 (by decide) (fun c_4477 => ?_) (fun c_4477 => ?_)
                    · have jc_4477 := dk_lec (k := 0) (by decide +kernel) c_4477
                      refine lv_aload_n hx hb dX12_goesOn_479 rfl (lv_at hl 3 rfl) ?_
                      refine lv_iconst (v := 1) hx hb dX12_goesOn_480 (by decide +kernel) ?_
                      have hz_4478 : (1 : Int32).toInt = 1 := by decide +kernel
                      refine dg_callv hS hA1 hA (va_runV (As := [.int 1]) (rest := []) F (c_m_joins l g D o S_4233 1 (by decide +kernel) cd (((m_4233.1 0 34 _ sM_0 (by decide)).trans (m_2.1 0 34 _ sM_0 (by decide))).trans f_cd) (by omega) om (((m_4233.1 0 45 _ sM_0 (by decide)).trans (m_2.1 0 45 _ sM_0 (by decide))).trans f_om) (by omega) (by omega) (ZWM.keep (ZWM.keep ZW m_2 (by decide) (by decide) (by decide) (by decide)) m_4233 (by decide) (by decide) (by decide) (by decide)) (ZKM.keep (ZKM.keep ZK m_2 (by decide) (by decide)) m_4233 (by decide) (by decide)) (P1M.keep (P1M.keep P1 m_2 (by decide) (by decide) (by decide) (by decide) (by decide) (by decide) (by decide) (by decide) (by decide) (by decide) (by decide) (by decide) (by decide) (by decide) (by decide)) m_4233 (by decide) (by decide) (by decide) (by decide) (by decide) (by decide) (by decide) (by decide) (by decide) (by decide) (by decide) (by decide) (by decide) (by decide) (by decide)) I_4233 H.size) (cwV 1 hts (bw_V wB_1234 wB_1235 wB_1236 wB_881 wB_1233) rfl rfl rfl (by decide +kernel) ⟨Nat.le_of_ble_eq_true rfl, Nat.le_of_ble_eq_true rfl⟩) (dg_preV sM_0 rfl K ST hP hS hA1 hA) rfl rfl hl.1 rfl (lv_room (Nat.le_of_ble_eq_true rfl)) dX12_goesOn_481 ⟨Nat.le_of_ble_eq_true rfl, Nat.le_of_ble_eq_true rfl⟩) (fun S_4479 hw_4479 H locs hP hS => ?_)
                      obtain ⟨I_4479, m_4479, w_4479_0, w_4479_1, w_4479_2, w_4479_3, -⟩ := hw_4479
                      have M_4479 := dg_sm.tr M_4233 m_4479 (by decide) (by decide)
                      have hz_4480 : (1 : Int32).toInt = 1 := by decide +kernel
                      obtain ⟨y_4481, y_4482, f_y_4481, f_y_4482, w_4479_0⟩ := w_4479_0
                      have w_4479_0 : (y_4481).toInt + (y_4482).toInt = (cd).toInt + (om).toInt := w_4479_0
                      have b_y_4481 : 0 ≤ (y_4481).toInt ∧ (y_4481).toInt ≤ 1600 := dg_I.intb (lo := 0) (hi := 1600) I_4479 sM_0 (by decide +kernel) f_y_4481
                      have b_y_4482 : 0 ≤ (y_4482).toInt ∧ (y_4482).toInt ≤ 500 := dg_I.intb (lo := 0) (hi := 500) I_4479 sM_0 (by decide +kernel) f_y_4482
                      have w_4479_1 : TOPM S_4479 (1 : Int32) := w_4479_1
                      refine lv_aload_n hx hb dX12_goesOn_484 rfl (lv_at hl 3 rfl) ?_
                      refine dg_get (C := RX12) (T := TX12) (N := 77) hx hb hts (fun w h => bw_mem (wU_X12 w h)) hown K hP sM_0 rfl 37 (by decide) (hts _ (bw_mem wB_1213)) (fun _ h9 => h9) (v := .ref (o + 22)) (show S_4479.1 0 37 = .ref (o + 22) from dg_I.rel (d := 22) I_4479 sM_0 (by decide +kernel)) dX12_goesOn_485 ?_
                      refine lv_iload_n hx hb dX12_goesOn_488 rfl (lv_at hl 2 rfl) ?_
                      refine lv_iload_n hx hb dX12_goesOn_489 rfl (lv_at hl 1 rfl) ?_
                      refine lv_iconst (v := 3) hx hb dX12_goesOn_490 (by decide +kernel) ?_
                      refine lv_icmp_ne (tgt := 498) hx hb dX12_goesOn_491 (by decide) (fun c_4483 => ?_) (fun c_4483 => ?_)
                      · have jc_4483 := dk_neqc (k := 3) (by decide +kernel) c_4483
                        refine lv_iconst (v := 3) hx hb dX12_goesOn_498 (by decide +kernel) ?_
                        have hin_4484 : vp_in x_5 20 := (dk_inv (by omega) (by omega))
                        have hz_4486 : (3 : Int32).toInt = 3 := by decide +kernel
                        refine dg_iast hx hb K hP hS hA1 sM_22 hin_4484 dX12_goesOn_499 (fun S_4485 e_4485 H locs hP hS => ?_)
                        have I_4485 := dg_I.ufu (lo := 0) (hi := 6) I_4479 e_4485 sM_22 (by decide +kernel) (show 0 ≤ ((3 : Int32)).toInt ∧ ((3 : Int32)).toInt ≤ 6 from (by decide +kernel))
                        have M_4485 := dg_sm.uf M_4479 e_4485 sM_22 (by decide)
                        have hz_4487 : (3 : Int32).toInt = 3 := by decide +kernel
                        refine lv_aload_n hx hb dX12_goesOn_500 rfl (lv_at hl 3 rfl) ?_
                        refine dg_get (C := RX12) (T := TX12) (N := 77) hx hb hts (fun w h => bw_mem (wU_X12 w h)) hown K hP sM_0 rfl 38 (by decide) (hts _ (bw_mem wB_1214)) (fun _ h9 => h9) (v := .ref (o + 23)) (show S_4485.1 0 38 = .ref (o + 23) from dg_I.rel (d := 23) I_4485 sM_0 (by decide +kernel)) dX12_goesOn_501 ?_
                        refine lv_iload_n hx hb dX12_goesOn_504 rfl (lv_at hl 2 rfl) ?_
                        refine lv_iconst (v := 0) hx hb dX12_goesOn_505 (by decide +kernel) ?_
                        have hin_4488 : vp_in x_5 20 := (dk_inv (by omega) (by omega))
                        have hz_4490 : (0 : Int32).toInt = 0 := by decide +kernel
                        refine dg_iast hx hb K hP hS hA1 sM_23 hin_4488 dX12_goesOn_506 (fun S_4489 e_4489 H locs hP hS => ?_)
                        have I_4489 := dg_I.ufu (lo := 0) (hi := 2) I_4485 e_4489 sM_23 (by decide +kernel) (show 0 ≤ ((0 : Int32)).toInt ∧ ((0 : Int32)).toInt ≤ 2 from (by decide +kernel))
                        have M_4489 := dg_sm.uf M_4485 e_4489 sM_23 (by decide)
                        obtain ⟨x_4491, f_x_4491, b_x_4491⟩ := dg_I.int (i := 0) (k := 43) (lo := (-2147483648)) (hi := 2147483647) I_4479 sM_0 (by decide +kernel)
                        have hz_4492 : (0 : Int32).toInt = 0 := by decide +kernel
                        obtain ⟨x_4493, f_x_4493⟩ : ∃ x, S_4479.2.1 22 (x_5 : Int32).toNatClampNeg = x := ⟨_, rfl⟩
                        have hin_4494 : vp_in (x_5 : Int32) 20 := (dk_inv (by omega) (by omega))
                        have b_x_4493 := dk_all_at (dg_I.row (lo := 0) (hi := 6) I_4479 sM_22 (by decide +kernel)) hin_4494 f_x_4493.symm
                        have P0_4489 : P0M S_4489 := P1M.comma w_4479_3 (((m_4479.1 0 42 _ sM_0 (by decide)).trans ((m_4233.1 0 42 _ sM_0 (by decide)).trans (m_2.1 0 42 _ sM_0 (by decide)))).trans f_dp) f_x_4491 f_y_4482 w_4479_1 (by omega) (fx := x_5) (by omega) f_x_4493 (by omega) e_4485 e_4489
                        refine lv_aload_n hx hb dX12_goesOn_507 rfl (lv_at hl 3 rfl) ?_
                        refine dg_callv hS hA1 hA (va_runV (As := []) (rest := []) F (c_m_ahead l g D o S_4489 se (((dg_uf_F e_4489 0 5).trans ((dg_uf_F e_4485 0 5).trans ((m_4479.1 0 5 _ sM_0 (by decide)).trans ((m_4233.1 0 5 _ sM_0 (by decide)).trans (m_2.1 0 5 _ sM_0 (by decide)))))).trans f_se) (by omega) sl (((dg_uf_F e_4489 0 2).trans ((dg_uf_F e_4485 0 2).trans ((m_4479.1 0 2 _ sM_0 (by decide)).trans ((m_4233.1 0 2 _ sM_0 (by decide)).trans (m_2.1 0 2 _ sM_0 (by decide)))))).trans f_sl) (by omega) (by omega) I_4489 H.size) (cwV 0 hts (bw_V wB_1161 wB_1162 wB_1163 wB_881 wB_1160) rfl rfl rfl (by decide +kernel) ⟨Nat.le_of_ble_eq_true rfl, Nat.le_of_ble_eq_true rfl⟩) (dg_preV sM_0 rfl K ST hP hS hA1 hA) rfl rfl hl.1 rfl (lv_room (Nat.le_of_ble_eq_true rfl)) dX12_goesOn_508 ⟨Nat.le_of_ble_eq_true rfl, Nat.le_of_ble_eq_true rfl⟩) (fun S_4495 hw_4495 H locs hP hS => ?_)
                        obtain ⟨I_4495, m_4495, w_4495_0, -⟩ := hw_4495
                        have M_4495 := dg_sm.tr M_4489 m_4495 (by decide) (by decide)
                        obtain ⟨y_4496, y_4497, y_4498, f_y_4496, f_y_4497, f_y_4498, w_4495_0⟩ := w_4495_0
                        have w_4495_0 : (se).toInt ≤ (y_4497).toInt ∧ (y_4497).toInt ≤ (y_4498).toInt ∧ (y_4498).toInt ≤ (sl).toInt ∧ ((y_4496).toInt ≠ 0 → (y_4497).toInt + 1 ≤ (y_4498).toInt) := w_4495_0
                        have b_y_4496 : 0 ≤ (y_4496).toInt ∧ (y_4496).toInt ≤ 3 := dg_I.intb (lo := 0) (hi := 3) I_4495 sM_0 (by decide +kernel) f_y_4496
                        have b_y_4497 : 0 ≤ (y_4497).toInt ∧ (y_4497).toInt ≤ 1600 := dg_I.intb (lo := 0) (hi := 1600) I_4495 sM_0 (by decide +kernel) f_y_4497
                        have b_y_4498 : 0 ≤ (y_4498).toInt ∧ (y_4498).toInt ≤ 1600 := dg_I.intb (lo := 0) (hi := 1600) I_4495 sM_0 (by decide +kernel) f_y_4498
                        refine lv_aload_n hx hb dX12_goesOn_511 rfl (lv_at hl 3 rfl) ?_
                        refine lv_iconst (v := 0) hx hb dX12_goesOn_512 (by decide +kernel) ?_
                        have hz_4499 : (0 : Int32).toInt = 0 := by decide +kernel
                        refine dg_put (ci := 12) (v := .int 0) (ty := tyX12 46) (C := RX12) (T := TX12) (N := 77) hx hb hts (fun w h => bw_mem (wU_X12 w h)) tyX12 tyX12_ok nmX12 hown K hP hS hA1 sM_0 rfl 46 (by decide) (hts _ (bw_mem wB_1237)) (fun _ h9 => h9) rfl (by decide +kernel) (by decide +kernel) (by decide +kernel) dX12_goesOn_513 (fun S_4500 e_4500 H locs hP hS => ?_)
                        have I_4500 := dg_I.uFi (lo := 0) (hi := 1) I_4495 e_4500 sM_0 (by decide +kernel) (show 0 ≤ ((0 : Int32)).toInt ∧ ((0 : Int32)).toInt ≤ 1 from (by decide +kernel))
                        have M_4500 := dg_sm.uF M_4495 e_4500 sM_0 (by decide)
                        refine lv_iconst (v := 1) hx hb dX12_goesOn_516 (by decide +kernel) ?_
                        have hz_4501 : (1 : Int32).toInt = 1 := by decide +kernel
                        have hz_4502 : (1 : Int32).toInt = 1 := by decide +kernel
                        have hz_4503 : (0 : Int32).toInt = 0 := by decide +kernel
                        have hz_4504 : (1 : Int32).toInt = 1 := by decide +kernel
                        have hz_4505 : (0 : Int32).toInt = 0 := by decide +kernel
                        refine W.widen (k := 0) (n := 0) (Nat.le_of_ble_eq_true rfl) (Nat.le_of_ble_eq_true rfl) ?_
                        exact dg_iret hx hb hr hlocks (by decide +kernel) hP hS ⟨I_4500, M_4500, (by decide +kernel), ⟨y_4496, y_4497, y_4498, y_4235, y_4481, dp, y_4482, 0, ((dg_uF_ne e_4500 (fun z => absurd z.2 (by decide))).trans f_y_4496), ((dg_uF_ne e_4500 (fun z => absurd z.2 (by decide))).trans f_y_4497), ((dg_uF_ne e_4500 (fun z => absurd z.2 (by decide))).trans f_y_4498), (((dg_uF_ne e_4500 (fun z => absurd z.2 (by decide))).trans ((m_4495.1 0 8 _ sM_0 (by decide)).trans ((dg_uf_F e_4489 0 8).trans ((dg_uf_F e_4485 0 8).trans (m_4479.1 0 8 _ sM_0 (by decide)))))).trans f_y_4235), (((dg_uF_ne e_4500 (fun z => absurd z.2 (by decide))).trans ((m_4495.1 0 34 _ sM_0 (by decide)).trans ((dg_uf_F e_4489 0 34).trans (dg_uf_F e_4485 0 34)))).trans f_y_4481), (((dg_uF_ne e_4500 (fun z => absurd z.2 (by decide))).trans ((m_4495.1 0 42 _ sM_0 (by decide)).trans ((dg_uf_F e_4489 0 42).trans ((dg_uf_F e_4485 0 42).trans ((m_4479.1 0 42 _ sM_0 (by decide)).trans ((m_4233.1 0 42 _ sM_0 (by decide)).trans (m_2.1 0 42 _ sM_0 (by decide)))))))).trans f_dp), (((dg_uF_ne e_4500 (fun z => absurd z.2 (by decide))).trans ((m_4495.1 0 45 _ sM_0 (by decide)).trans ((dg_uf_F e_4489 0 45).trans (dg_uf_F e_4485 0 45)))).trans f_y_4482), (dg_uF_at e_4500), (by omega)⟩, (fun k9 hk9 hk0 => POM.mk0 (P0M.keep (P0M.keep P0_4489 m_4495 (by decide) (by decide) (by decide) (by decide) (by decide) (by decide) (by decide) (by decide) (by decide) (by decide) (by decide) (by decide) (by decide) (by decide) (by decide)) (dg_sm.uF (WF := [(0, 46)]) (WA := []) dg_sm.rf e_4500 sM_0 (by decide)) (by decide) (by decide) (by decide) (by decide) (by decide) (by decide) (by decide) (by decide) (by decide) (by decide) (by decide) (by decide) (by decide) (by decide) (by decide)) (dg_uF_at e_4500) (by omega)), (ZWM.keep (ZWM.keep (ZWM.keep (ZWM.keep w_4479_2 (dg_sm.uf (WF := []) (WA := [22]) dg_sm.rf e_4485 sM_22 (by decide)) (by decide) (by decide) (by decide) (by decide)) (dg_sm.uf (WF := []) (WA := [23]) dg_sm.rf e_4489 sM_23 (by decide)) (by decide) (by decide) (by decide) (by decide)) m_4495 (by decide) (by decide) (by decide) (by decide)) (dg_sm.uF (WF := [(0, 46)]) (WA := []) dg_sm.rf e_4500 sM_0 (by decide)) (by decide) (by decide) (by decide) (by decide)), trivial⟩ dX12_goesOn_517
                      · have jc_4483 := dk_eqc (k := 3) (by decide +kernel) c_4483
                        refine lv_iconst (v := 4) hx hb dX12_goesOn_494 (by decide +kernel) ?_
                        refine lv_goto (tgt := 499) hx hb dX12_goesOn_495 (by decide) ?_
                        have hin_4506 : vp_in x_5 20 := (dk_inv (by omega) (by omega))
                        have hz_4508 : (4 : Int32).toInt = 4 := by decide +kernel
                        refine dg_iast hx hb K hP hS hA1 sM_22 hin_4506 dX12_goesOn_499 (fun S_4507 e_4507 H locs hP hS => ?_)
                        have I_4507 := dg_I.ufu (lo := 0) (hi := 6) I_4479 e_4507 sM_22 (by decide +kernel) (show 0 ≤ ((4 : Int32)).toInt ∧ ((4 : Int32)).toInt ≤ 6 from (by decide +kernel))
                        have M_4507 := dg_sm.uf M_4479 e_4507 sM_22 (by decide)
                        have hz_4509 : (4 : Int32).toInt = 4 := by decide +kernel
                        refine lv_aload_n hx hb dX12_goesOn_500 rfl (lv_at hl 3 rfl) ?_
                        refine dg_get (C := RX12) (T := TX12) (N := 77) hx hb hts (fun w h => bw_mem (wU_X12 w h)) hown K hP sM_0 rfl 38 (by decide) (hts _ (bw_mem wB_1214)) (fun _ h9 => h9) (v := .ref (o + 23)) (show S_4507.1 0 38 = .ref (o + 23) from dg_I.rel (d := 23) I_4507 sM_0 (by decide +kernel)) dX12_goesOn_501 ?_
                        refine lv_iload_n hx hb dX12_goesOn_504 rfl (lv_at hl 2 rfl) ?_
                        refine lv_iconst (v := 0) hx hb dX12_goesOn_505 (by decide +kernel) ?_
                        have hin_4510 : vp_in x_5 20 := (dk_inv (by omega) (by omega))
                        have hz_4512 : (0 : Int32).toInt = 0 := by decide +kernel
                        refine dg_iast hx hb K hP hS hA1 sM_23 hin_4510 dX12_goesOn_506 (fun S_4511 e_4511 H locs hP hS => ?_)
                        have I_4511 := dg_I.ufu (lo := 0) (hi := 2) I_4507 e_4511 sM_23 (by decide +kernel) (show 0 ≤ ((0 : Int32)).toInt ∧ ((0 : Int32)).toInt ≤ 2 from (by decide +kernel))
                        have M_4511 := dg_sm.uf M_4507 e_4511 sM_23 (by decide)
                        obtain ⟨x_4513, f_x_4513, b_x_4513⟩ := dg_I.int (i := 0) (k := 43) (lo := (-2147483648)) (hi := 2147483647) I_4479 sM_0 (by decide +kernel)
                        have hz_4514 : (0 : Int32).toInt = 0 := by decide +kernel
                        obtain ⟨x_4515, f_x_4515⟩ : ∃ x, S_4479.2.1 22 (x_5 : Int32).toNatClampNeg = x := ⟨_, rfl⟩
                        have hin_4516 : vp_in (x_5 : Int32) 20 := (dk_inv (by omega) (by omega))
                        have b_x_4515 := dk_all_at (dg_I.row (lo := 0) (hi := 6) I_4479 sM_22 (by decide +kernel)) hin_4516 f_x_4515.symm
                        have P0_4511 : P0M S_4511 := P1M.comma w_4479_3 (((m_4479.1 0 42 _ sM_0 (by decide)).trans ((m_4233.1 0 42 _ sM_0 (by decide)).trans (m_2.1 0 42 _ sM_0 (by decide)))).trans f_dp) f_x_4513 f_y_4482 w_4479_1 (by omega) (fx := x_5) (by omega) f_x_4515 (by omega) e_4507 e_4511
                        refine lv_aload_n hx hb dX12_goesOn_507 rfl (lv_at hl 3 rfl) ?_
                        refine dg_callv hS hA1 hA (va_runV (As := []) (rest := []) F (c_m_ahead l g D o S_4511 se (((dg_uf_F e_4511 0 5).trans ((dg_uf_F e_4507 0 5).trans ((m_4479.1 0 5 _ sM_0 (by decide)).trans ((m_4233.1 0 5 _ sM_0 (by decide)).trans (m_2.1 0 5 _ sM_0 (by decide)))))).trans f_se) (by omega) sl (((dg_uf_F e_4511 0 2).trans ((dg_uf_F e_4507 0 2).trans ((m_4479.1 0 2 _ sM_0 (by decide)).trans ((m_4233.1 0 2 _ sM_0 (by decide)).trans (m_2.1 0 2 _ sM_0 (by decide)))))).trans f_sl) (by omega) (by omega) I_4511 H.size) (cwV 0 hts (bw_V wB_1161 wB_1162 wB_1163 wB_881 wB_1160) rfl rfl rfl (by decide +kernel) ⟨Nat.le_of_ble_eq_true rfl, Nat.le_of_ble_eq_true rfl⟩) (dg_preV sM_0 rfl K ST hP hS hA1 hA) rfl rfl hl.1 rfl (lv_room (Nat.le_of_ble_eq_true rfl)) dX12_goesOn_508 ⟨Nat.le_of_ble_eq_true rfl, Nat.le_of_ble_eq_true rfl⟩) (fun S_4517 hw_4517 H locs hP hS => ?_)
                        obtain ⟨I_4517, m_4517, w_4517_0, -⟩ := hw_4517
                        have M_4517 := dg_sm.tr M_4511 m_4517 (by decide) (by decide)
                        obtain ⟨y_4518, y_4519, y_4520, f_y_4518, f_y_4519, f_y_4520, w_4517_0⟩ := w_4517_0
                        have w_4517_0 : (se).toInt ≤ (y_4519).toInt ∧ (y_4519).toInt ≤ (y_4520).toInt ∧ (y_4520).toInt ≤ (sl).toInt ∧ ((y_4518).toInt ≠ 0 → (y_4519).toInt + 1 ≤ (y_4520).toInt) := w_4517_0
                        have b_y_4518 : 0 ≤ (y_4518).toInt ∧ (y_4518).toInt ≤ 3 := dg_I.intb (lo := 0) (hi := 3) I_4517 sM_0 (by decide +kernel) f_y_4518
                        have b_y_4519 : 0 ≤ (y_4519).toInt ∧ (y_4519).toInt ≤ 1600 := dg_I.intb (lo := 0) (hi := 1600) I_4517 sM_0 (by decide +kernel) f_y_4519
                        have b_y_4520 : 0 ≤ (y_4520).toInt ∧ (y_4520).toInt ≤ 1600 := dg_I.intb (lo := 0) (hi := 1600) I_4517 sM_0 (by decide +kernel) f_y_4520
                        refine lv_aload_n hx hb dX12_goesOn_511 rfl (lv_at hl 3 rfl) ?_
                        refine lv_iconst (v := 0) hx hb dX12_goesOn_512 (by decide +kernel) ?_
                        have hz_4521 : (0 : Int32).toInt = 0 := by decide +kernel
                        refine dg_put (ci := 12) (v := .int 0) (ty := tyX12 46) (C := RX12) (T := TX12) (N := 77) hx hb hts (fun w h => bw_mem (wU_X12 w h)) tyX12 tyX12_ok nmX12 hown K hP hS hA1 sM_0 rfl 46 (by decide) (hts _ (bw_mem wB_1237)) (fun _ h9 => h9) rfl (by decide +kernel) (by decide +kernel) (by decide +kernel) dX12_goesOn_513 (fun S_4522 e_4522 H locs hP hS => ?_)
                        have I_4522 := dg_I.uFi (lo := 0) (hi := 1) I_4517 e_4522 sM_0 (by decide +kernel) (show 0 ≤ ((0 : Int32)).toInt ∧ ((0 : Int32)).toInt ≤ 1 from (by decide +kernel))
                        have M_4522 := dg_sm.uF M_4517 e_4522 sM_0 (by decide)
                        refine lv_iconst (v := 1) hx hb dX12_goesOn_516 (by decide +kernel) ?_
                        have hz_4523 : (1 : Int32).toInt = 1 := by decide +kernel
                        have hz_4524 : (1 : Int32).toInt = 1 := by decide +kernel
                        have hz_4525 : (0 : Int32).toInt = 0 := by decide +kernel
                        have hz_4526 : (1 : Int32).toInt = 1 := by decide +kernel
                        have hz_4527 : (0 : Int32).toInt = 0 := by decide +kernel
                        refine W.widen (k := 0) (n := 0) (Nat.le_of_ble_eq_true rfl) (Nat.le_of_ble_eq_true rfl) ?_
                        exact dg_iret hx hb hr hlocks (by decide +kernel) hP hS ⟨I_4522, M_4522, (by decide +kernel), ⟨y_4518, y_4519, y_4520, y_4235, y_4481, dp, y_4482, 0, ((dg_uF_ne e_4522 (fun z => absurd z.2 (by decide))).trans f_y_4518), ((dg_uF_ne e_4522 (fun z => absurd z.2 (by decide))).trans f_y_4519), ((dg_uF_ne e_4522 (fun z => absurd z.2 (by decide))).trans f_y_4520), (((dg_uF_ne e_4522 (fun z => absurd z.2 (by decide))).trans ((m_4517.1 0 8 _ sM_0 (by decide)).trans ((dg_uf_F e_4511 0 8).trans ((dg_uf_F e_4507 0 8).trans (m_4479.1 0 8 _ sM_0 (by decide)))))).trans f_y_4235), (((dg_uF_ne e_4522 (fun z => absurd z.2 (by decide))).trans ((m_4517.1 0 34 _ sM_0 (by decide)).trans ((dg_uf_F e_4511 0 34).trans (dg_uf_F e_4507 0 34)))).trans f_y_4481), (((dg_uF_ne e_4522 (fun z => absurd z.2 (by decide))).trans ((m_4517.1 0 42 _ sM_0 (by decide)).trans ((dg_uf_F e_4511 0 42).trans ((dg_uf_F e_4507 0 42).trans ((m_4479.1 0 42 _ sM_0 (by decide)).trans ((m_4233.1 0 42 _ sM_0 (by decide)).trans (m_2.1 0 42 _ sM_0 (by decide)))))))).trans f_dp), (((dg_uF_ne e_4522 (fun z => absurd z.2 (by decide))).trans ((m_4517.1 0 45 _ sM_0 (by decide)).trans ((dg_uf_F e_4511 0 45).trans (dg_uf_F e_4507 0 45)))).trans f_y_4482), (dg_uF_at e_4522), (by omega)⟩, (fun k9 hk9 hk0 => POM.mk0 (P0M.keep (P0M.keep P0_4511 m_4517 (by decide) (by decide) (by decide) (by decide) (by decide) (by decide) (by decide) (by decide) (by decide) (by decide) (by decide) (by decide) (by decide) (by decide) (by decide)) (dg_sm.uF (WF := [(0, 46)]) (WA := []) dg_sm.rf e_4522 sM_0 (by decide)) (by decide) (by decide) (by decide) (by decide) (by decide) (by decide) (by decide) (by decide) (by decide) (by decide) (by decide) (by decide) (by decide) (by decide) (by decide)) (dg_uF_at e_4522) (by omega)), (ZWM.keep (ZWM.keep (ZWM.keep (ZWM.keep w_4479_2 (dg_sm.uf (WF := []) (WA := [22]) dg_sm.rf e_4507 sM_22 (by decide)) (by decide) (by decide) (by decide) (by decide)) (dg_sm.uf (WF := []) (WA := [23]) dg_sm.rf e_4511 sM_23 (by decide)) (by decide) (by decide) (by decide) (by decide)) m_4517 (by decide) (by decide) (by decide) (by decide)) (dg_sm.uF (WF := [(0, 46)]) (WA := []) dg_sm.rf e_4522 sM_0 (by decide)) (by decide) (by decide) (by decide) (by decide)), trivial⟩ dX12_goesOn_517
                    · have jc_4477 := dk_nlec (k := 0) (by decide +kernel) c_4477
                      refine lv_iconst (v := 0) hx hb dX12_goesOn_477 (by decide +kernel) ?_
                      have hz_4528 : (0 : Int32).toInt = 0 := by decide +kernel
                      have hz_4529 : (0 : Int32).toInt = 0 := by decide +kernel
                      have hz_4530 : (0 : Int32).toInt = 0 := by decide +kernel
                      refine W.widen (k := 0) (n := 0) (Nat.le_of_ble_eq_true rfl) (Nat.le_of_ble_eq_true rfl) ?_
                      exact dg_iret hx hb hr hlocks (by decide +kernel) hP hS ⟨I_4233, M_4233, (by decide +kernel), ⟨sg, sa, se, y_4235, cd, dp, om, oo, (((m_4233.1 0 3 _ sM_0 (by decide)).trans (m_2.1 0 3 _ sM_0 (by decide))).trans f_sg), (((m_4233.1 0 4 _ sM_0 (by decide)).trans (m_2.1 0 4 _ sM_0 (by decide))).trans f_sa), (((m_4233.1 0 5 _ sM_0 (by decide)).trans (m_2.1 0 5 _ sM_0 (by decide))).trans f_se), f_y_4235, (((m_4233.1 0 34 _ sM_0 (by decide)).trans (m_2.1 0 34 _ sM_0 (by decide))).trans f_cd), (((m_4233.1 0 42 _ sM_0 (by decide)).trans (m_2.1 0 42 _ sM_0 (by decide))).trans f_dp), (((m_4233.1 0 45 _ sM_0 (by decide)).trans (m_2.1 0 45 _ sM_0 (by decide))).trans f_om), (((m_4233.1 0 46 _ sM_0 (by decide)).trans (m_2.1 0 46 _ sM_0 (by decide))).trans f_oo), (by omega)⟩, (fun k9 hk9 hk0 => by have q9 := (f_y_4235).symm.trans hk9; cases q9; omega), (ZWM.keep (ZWM.keep ZW m_2 (by decide) (by decide) (by decide) (by decide)) m_4233 (by decide) (by decide) (by decide) (by decide)), trivial⟩ dX12_goesOn_478
                  · have jc_4476 := dk_eqc (k := 0) (by decide +kernel) c_4476
                    clear w_4474_1
                    refine lv_aload_n hx hb dX12_goesOn_461 rfl (lv_at hl 3 rfl) ?_
                    refine lv_iconst (v := 1) hx hb dX12_goesOn_462 (by decide +kernel) ?_
                    refine lv_aload_n hx hb dX12_goesOn_463 rfl (lv_at hl 3 rfl) ?_
                    refine dg_get (C := RX12) (T := TX12) (N := 77) hx hb hts (fun w h => bw_mem (wU_X12 w h)) hown K hP sM_0 rfl 4 (by decide) (hts _ (bw_mem wB_1145)) (fun _ h9 => h9) (v := .int sa) (((m_4233.1 0 4 _ sM_0 (by decide)).trans (m_2.1 0 4 _ sM_0 (by decide))).trans f_sa) dX12_goesOn_464 ?_
                    have hz_4531 : (1 : Int32).toInt = 1 := by decide +kernel
                    refine dg_callv hS hA1 hA (va_runV (As := [.int 1, .int sa]) (rest := []) F (c_m_blame l g D o S_4233 1 (by decide +kernel) sa y_4235 f_y_4235 (by omega) I_4233 H.size) (cwV 2 hts (bw_V wB_1137 wB_1138 wB_1139 wB_881 wB_1136) rfl rfl rfl (by decide +kernel) ⟨Nat.le_of_ble_eq_true rfl, Nat.le_of_ble_eq_true rfl⟩) (dg_preV sM_0 rfl K ST hP hS hA1 hA) rfl rfl hl.1 rfl (lv_room (Nat.le_of_ble_eq_true rfl)) dX12_goesOn_467 ⟨Nat.le_of_ble_eq_true rfl, Nat.le_of_ble_eq_true rfl⟩) (fun S_4532 hw_4532 H locs hP hS => ?_)
                    obtain ⟨I_4532, m_4532, w_4532_0, -⟩ := hw_4532
                    have M_4532 := dg_sm.tr M_4233 m_4532 (by decide) (by decide)
                    have hz_4533 : (1 : Int32).toInt = 1 := by decide +kernel
                    obtain ⟨y_4534, f_y_4534, w_4532_0⟩ := w_4532_0
                    have w_4532_0 : ((y_4235).toInt ≠ 0 → (y_4534).toInt = (y_4235).toInt) ∧ ((y_4235).toInt = 0 → (y_4534).toInt = ((1 : Int32)).toInt) := w_4532_0
                    have b_y_4534 : 0 ≤ (y_4534).toInt ∧ (y_4534).toInt ≤ 6 := dg_I.intb (lo := 0) (hi := 6) I_4532 sM_0 (by decide +kernel) f_y_4534
                    refine lv_aload_n hx hb dX12_goesOn_470 rfl (lv_at hl 3 rfl) ?_
                    refine dg_get (C := RX12) (T := TX12) (N := 77) hx hb hts (fun w h => bw_mem (wU_X12 w h)) hown K hP sM_0 rfl 8 (by decide) (hts _ (bw_mem wB_1133)) (fun _ h9 => h9) (v := .int y_4534) f_y_4534 dX12_goesOn_471 ?_
                    refine lv_if_le (tgt := 479) hx hb dX12_goesOn_474 (by decide) (fun c_4535 => ?_) (fun c_4535 => ?_)
                    · have jc_4535 := dk_lec (k := 0) (by decide +kernel) c_4535
                      refine lv_aload_n hx hb dX12_goesOn_479 rfl (lv_at hl 3 rfl) ?_
                      refine lv_iconst (v := 1) hx hb dX12_goesOn_480 (by decide +kernel) ?_
                      have hz_4536 : (1 : Int32).toInt = 1 := by decide +kernel
                      refine dg_callv hS hA1 hA (va_runV (As := [.int 1]) (rest := []) F (c_m_joins l g D o S_4532 1 (by decide +kernel) cd (((m_4532.1 0 34 _ sM_0 (by decide)).trans ((m_4233.1 0 34 _ sM_0 (by decide)).trans (m_2.1 0 34 _ sM_0 (by decide)))).trans f_cd) (by omega) om (((m_4532.1 0 45 _ sM_0 (by decide)).trans ((m_4233.1 0 45 _ sM_0 (by decide)).trans (m_2.1 0 45 _ sM_0 (by decide)))).trans f_om) (by omega) (by omega) (ZWM.keep (ZWM.keep (ZWM.keep ZW m_2 (by decide) (by decide) (by decide) (by decide)) m_4233 (by decide) (by decide) (by decide) (by decide)) m_4532 (by decide) (by decide) (by decide) (by decide)) (ZKM.keep (ZKM.keep (ZKM.keep ZK m_2 (by decide) (by decide)) m_4233 (by decide) (by decide)) m_4532 (by decide) (by decide)) (P1M.keep (P1M.keep (P1M.keep P1 m_2 (by decide) (by decide) (by decide) (by decide) (by decide) (by decide) (by decide) (by decide) (by decide) (by decide) (by decide) (by decide) (by decide) (by decide) (by decide)) m_4233 (by decide) (by decide) (by decide) (by decide) (by decide) (by decide) (by decide) (by decide) (by decide) (by decide) (by decide) (by decide) (by decide) (by decide) (by decide)) m_4532 (by decide) (by decide) (by decide) (by decide) (by decide) (by decide) (by decide) (by decide) (by decide) (by decide) (by decide) (by decide) (by decide) (by decide) (by decide)) I_4532 H.size) (cwV 1 hts (bw_V wB_1234 wB_1235 wB_1236 wB_881 wB_1233) rfl rfl rfl (by decide +kernel) ⟨Nat.le_of_ble_eq_true rfl, Nat.le_of_ble_eq_true rfl⟩) (dg_preV sM_0 rfl K ST hP hS hA1 hA) rfl rfl hl.1 rfl (lv_room (Nat.le_of_ble_eq_true rfl)) dX12_goesOn_481 ⟨Nat.le_of_ble_eq_true rfl, Nat.le_of_ble_eq_true rfl⟩) (fun S_4537 hw_4537 H locs hP hS => ?_)
                      obtain ⟨I_4537, m_4537, w_4537_0, w_4537_1, w_4537_2, w_4537_3, -⟩ := hw_4537
                      have M_4537 := dg_sm.tr M_4532 m_4537 (by decide) (by decide)
                      have hz_4538 : (1 : Int32).toInt = 1 := by decide +kernel
                      obtain ⟨y_4539, y_4540, f_y_4539, f_y_4540, w_4537_0⟩ := w_4537_0
                      have w_4537_0 : (y_4539).toInt + (y_4540).toInt = (cd).toInt + (om).toInt := w_4537_0
                      have b_y_4539 : 0 ≤ (y_4539).toInt ∧ (y_4539).toInt ≤ 1600 := dg_I.intb (lo := 0) (hi := 1600) I_4537 sM_0 (by decide +kernel) f_y_4539
                      have b_y_4540 : 0 ≤ (y_4540).toInt ∧ (y_4540).toInt ≤ 500 := dg_I.intb (lo := 0) (hi := 500) I_4537 sM_0 (by decide +kernel) f_y_4540
                      have w_4537_1 : TOPM S_4537 (1 : Int32) := w_4537_1
                      refine lv_aload_n hx hb dX12_goesOn_484 rfl (lv_at hl 3 rfl) ?_
                      refine dg_get (C := RX12) (T := TX12) (N := 77) hx hb hts (fun w h => bw_mem (wU_X12 w h)) hown K hP sM_0 rfl 37 (by decide) (hts _ (bw_mem wB_1213)) (fun _ h9 => h9) (v := .ref (o + 22)) (show S_4537.1 0 37 = .ref (o + 22) from dg_I.rel (d := 22) I_4537 sM_0 (by decide +kernel)) dX12_goesOn_485 ?_
                      refine lv_iload_n hx hb dX12_goesOn_488 rfl (lv_at hl 2 rfl) ?_
                      refine lv_iload_n hx hb dX12_goesOn_489 rfl (lv_at hl 1 rfl) ?_
                      refine lv_iconst (v := 3) hx hb dX12_goesOn_490 (by decide +kernel) ?_
                      refine lv_icmp_ne (tgt := 498) hx hb dX12_goesOn_491 (by decide) (fun c_4541 => ?_) (fun c_4541 => ?_)
                      · have jc_4541 := dk_neqc (k := 3) (by decide +kernel) c_4541
                        refine lv_iconst (v := 3) hx hb dX12_goesOn_498 (by decide +kernel) ?_
                        have hin_4542 : vp_in x_5 20 := (dk_inv (by omega) (by omega))
                        have hz_4544 : (3 : Int32).toInt = 3 := by decide +kernel
                        refine dg_iast hx hb K hP hS hA1 sM_22 hin_4542 dX12_goesOn_499 (fun S_4543 e_4543 H locs hP hS => ?_)
                        have I_4543 := dg_I.ufu (lo := 0) (hi := 6) I_4537 e_4543 sM_22 (by decide +kernel) (show 0 ≤ ((3 : Int32)).toInt ∧ ((3 : Int32)).toInt ≤ 6 from (by decide +kernel))
                        have M_4543 := dg_sm.uf M_4537 e_4543 sM_22 (by decide)
                        have hz_4545 : (3 : Int32).toInt = 3 := by decide +kernel
                        refine lv_aload_n hx hb dX12_goesOn_500 rfl (lv_at hl 3 rfl) ?_
                        refine dg_get (C := RX12) (T := TX12) (N := 77) hx hb hts (fun w h => bw_mem (wU_X12 w h)) hown K hP sM_0 rfl 38 (by decide) (hts _ (bw_mem wB_1214)) (fun _ h9 => h9) (v := .ref (o + 23)) (show S_4543.1 0 38 = .ref (o + 23) from dg_I.rel (d := 23) I_4543 sM_0 (by decide +kernel)) dX12_goesOn_501 ?_
                        refine lv_iload_n hx hb dX12_goesOn_504 rfl (lv_at hl 2 rfl) ?_
                        refine lv_iconst (v := 0) hx hb dX12_goesOn_505 (by decide +kernel) ?_
                        have hin_4546 : vp_in x_5 20 := (dk_inv (by omega) (by omega))
                        have hz_4548 : (0 : Int32).toInt = 0 := by decide +kernel
                        refine dg_iast hx hb K hP hS hA1 sM_23 hin_4546 dX12_goesOn_506 (fun S_4547 e_4547 H locs hP hS => ?_)
                        have I_4547 := dg_I.ufu (lo := 0) (hi := 2) I_4543 e_4547 sM_23 (by decide +kernel) (show 0 ≤ ((0 : Int32)).toInt ∧ ((0 : Int32)).toInt ≤ 2 from (by decide +kernel))
                        have M_4547 := dg_sm.uf M_4543 e_4547 sM_23 (by decide)
                        obtain ⟨x_4549, f_x_4549, b_x_4549⟩ := dg_I.int (i := 0) (k := 43) (lo := (-2147483648)) (hi := 2147483647) I_4537 sM_0 (by decide +kernel)
                        have hz_4550 : (0 : Int32).toInt = 0 := by decide +kernel
                        obtain ⟨x_4551, f_x_4551⟩ : ∃ x, S_4537.2.1 22 (x_5 : Int32).toNatClampNeg = x := ⟨_, rfl⟩
                        have hin_4552 : vp_in (x_5 : Int32) 20 := (dk_inv (by omega) (by omega))
                        have b_x_4551 := dk_all_at (dg_I.row (lo := 0) (hi := 6) I_4537 sM_22 (by decide +kernel)) hin_4552 f_x_4551.symm
                        have P0_4547 : P0M S_4547 := P1M.comma w_4537_3 (((m_4537.1 0 42 _ sM_0 (by decide)).trans ((m_4532.1 0 42 _ sM_0 (by decide)).trans ((m_4233.1 0 42 _ sM_0 (by decide)).trans (m_2.1 0 42 _ sM_0 (by decide))))).trans f_dp) f_x_4549 f_y_4540 w_4537_1 (by omega) (fx := x_5) (by omega) f_x_4551 (by omega) e_4543 e_4547
                        refine lv_aload_n hx hb dX12_goesOn_507 rfl (lv_at hl 3 rfl) ?_
                        refine dg_callv hS hA1 hA (va_runV (As := []) (rest := []) F (c_m_ahead l g D o S_4547 se (((dg_uf_F e_4547 0 5).trans ((dg_uf_F e_4543 0 5).trans ((m_4537.1 0 5 _ sM_0 (by decide)).trans ((m_4532.1 0 5 _ sM_0 (by decide)).trans ((m_4233.1 0 5 _ sM_0 (by decide)).trans (m_2.1 0 5 _ sM_0 (by decide))))))).trans f_se) (by omega) sl (((dg_uf_F e_4547 0 2).trans ((dg_uf_F e_4543 0 2).trans ((m_4537.1 0 2 _ sM_0 (by decide)).trans ((m_4532.1 0 2 _ sM_0 (by decide)).trans ((m_4233.1 0 2 _ sM_0 (by decide)).trans (m_2.1 0 2 _ sM_0 (by decide))))))).trans f_sl) (by omega) (by omega) I_4547 H.size) (cwV 0 hts (bw_V wB_1161 wB_1162 wB_1163 wB_881 wB_1160) rfl rfl rfl (by decide +kernel) ⟨Nat.le_of_ble_eq_true rfl, Nat.le_of_ble_eq_true rfl⟩) (dg_preV sM_0 rfl K ST hP hS hA1 hA) rfl rfl hl.1 rfl (lv_room (Nat.le_of_ble_eq_true rfl)) dX12_goesOn_508 ⟨Nat.le_of_ble_eq_true rfl, Nat.le_of_ble_eq_true rfl⟩) (fun S_4553 hw_4553 H locs hP hS => ?_)
                        obtain ⟨I_4553, m_4553, w_4553_0, -⟩ := hw_4553
                        have M_4553 := dg_sm.tr M_4547 m_4553 (by decide) (by decide)
                        obtain ⟨y_4554, y_4555, y_4556, f_y_4554, f_y_4555, f_y_4556, w_4553_0⟩ := w_4553_0
                        have w_4553_0 : (se).toInt ≤ (y_4555).toInt ∧ (y_4555).toInt ≤ (y_4556).toInt ∧ (y_4556).toInt ≤ (sl).toInt ∧ ((y_4554).toInt ≠ 0 → (y_4555).toInt + 1 ≤ (y_4556).toInt) := w_4553_0
                        have b_y_4554 : 0 ≤ (y_4554).toInt ∧ (y_4554).toInt ≤ 3 := dg_I.intb (lo := 0) (hi := 3) I_4553 sM_0 (by decide +kernel) f_y_4554
                        have b_y_4555 : 0 ≤ (y_4555).toInt ∧ (y_4555).toInt ≤ 1600 := dg_I.intb (lo := 0) (hi := 1600) I_4553 sM_0 (by decide +kernel) f_y_4555
                        have b_y_4556 : 0 ≤ (y_4556).toInt ∧ (y_4556).toInt ≤ 1600 := dg_I.intb (lo := 0) (hi := 1600) I_4553 sM_0 (by decide +kernel) f_y_4556
                        refine lv_aload_n hx hb dX12_goesOn_511 rfl (lv_at hl 3 rfl) ?_
                        refine lv_iconst (v := 0) hx hb dX12_goesOn_512 (by decide +kernel) ?_
                        have hz_4557 : (0 : Int32).toInt = 0 := by decide +kernel
                        refine dg_put (ci := 12) (v := .int 0) (ty := tyX12 46) (C := RX12) (T := TX12) (N := 77) hx hb hts (fun w h => bw_mem (wU_X12 w h)) tyX12 tyX12_ok nmX12 hown K hP hS hA1 sM_0 rfl 46 (by decide) (hts _ (bw_mem wB_1237)) (fun _ h9 => h9) rfl (by decide +kernel) (by decide +kernel) (by decide +kernel) dX12_goesOn_513 (fun S_4558 e_4558 H locs hP hS => ?_)
                        have I_4558 := dg_I.uFi (lo := 0) (hi := 1) I_4553 e_4558 sM_0 (by decide +kernel) (show 0 ≤ ((0 : Int32)).toInt ∧ ((0 : Int32)).toInt ≤ 1 from (by decide +kernel))
                        have M_4558 := dg_sm.uF M_4553 e_4558 sM_0 (by decide)
                        refine lv_iconst (v := 1) hx hb dX12_goesOn_516 (by decide +kernel) ?_
                        have hz_4559 : (1 : Int32).toInt = 1 := by decide +kernel
                        have hz_4560 : (1 : Int32).toInt = 1 := by decide +kernel
                        have hz_4561 : (0 : Int32).toInt = 0 := by decide +kernel
                        have hz_4562 : (1 : Int32).toInt = 1 := by decide +kernel
                        have hz_4563 : (0 : Int32).toInt = 0 := by decide +kernel
                        refine W.widen (k := 0) (n := 0) (Nat.le_of_ble_eq_true rfl) (Nat.le_of_ble_eq_true rfl) ?_
                        exact dg_iret hx hb hr hlocks (by decide +kernel) hP hS ⟨I_4558, M_4558, (by decide +kernel), ⟨y_4554, y_4555, y_4556, y_4534, y_4539, dp, y_4540, 0, ((dg_uF_ne e_4558 (fun z => absurd z.2 (by decide))).trans f_y_4554), ((dg_uF_ne e_4558 (fun z => absurd z.2 (by decide))).trans f_y_4555), ((dg_uF_ne e_4558 (fun z => absurd z.2 (by decide))).trans f_y_4556), (((dg_uF_ne e_4558 (fun z => absurd z.2 (by decide))).trans ((m_4553.1 0 8 _ sM_0 (by decide)).trans ((dg_uf_F e_4547 0 8).trans ((dg_uf_F e_4543 0 8).trans (m_4537.1 0 8 _ sM_0 (by decide)))))).trans f_y_4534), (((dg_uF_ne e_4558 (fun z => absurd z.2 (by decide))).trans ((m_4553.1 0 34 _ sM_0 (by decide)).trans ((dg_uf_F e_4547 0 34).trans (dg_uf_F e_4543 0 34)))).trans f_y_4539), (((dg_uF_ne e_4558 (fun z => absurd z.2 (by decide))).trans ((m_4553.1 0 42 _ sM_0 (by decide)).trans ((dg_uf_F e_4547 0 42).trans ((dg_uf_F e_4543 0 42).trans ((m_4537.1 0 42 _ sM_0 (by decide)).trans ((m_4532.1 0 42 _ sM_0 (by decide)).trans ((m_4233.1 0 42 _ sM_0 (by decide)).trans (m_2.1 0 42 _ sM_0 (by decide))))))))).trans f_dp), (((dg_uF_ne e_4558 (fun z => absurd z.2 (by decide))).trans ((m_4553.1 0 45 _ sM_0 (by decide)).trans ((dg_uf_F e_4547 0 45).trans (dg_uf_F e_4543 0 45)))).trans f_y_4540), (dg_uF_at e_4558), (by omega)⟩, (fun k9 hk9 hk0 => POM.mk0 (P0M.keep (P0M.keep P0_4547 m_4553 (by decide) (by decide) (by decide) (by decide) (by decide) (by decide) (by decide) (by decide) (by decide) (by decide) (by decide) (by decide) (by decide) (by decide) (by decide)) (dg_sm.uF (WF := [(0, 46)]) (WA := []) dg_sm.rf e_4558 sM_0 (by decide)) (by decide) (by decide) (by decide) (by decide) (by decide) (by decide) (by decide) (by decide) (by decide) (by decide) (by decide) (by decide) (by decide) (by decide) (by decide)) (dg_uF_at e_4558) (by omega)), (ZWM.keep (ZWM.keep (ZWM.keep (ZWM.keep w_4537_2 (dg_sm.uf (WF := []) (WA := [22]) dg_sm.rf e_4543 sM_22 (by decide)) (by decide) (by decide) (by decide) (by decide)) (dg_sm.uf (WF := []) (WA := [23]) dg_sm.rf e_4547 sM_23 (by decide)) (by decide) (by decide) (by decide) (by decide)) m_4553 (by decide) (by decide) (by decide) (by decide)) (dg_sm.uF (WF := [(0, 46)]) (WA := []) dg_sm.rf e_4558 sM_0 (by decide)) (by decide) (by decide) (by decide) (by decide)), trivial⟩ dX12_goesOn_517
                      · have jc_4541 := dk_eqc (k := 3) (by decide +kernel) c_4541
                        refine lv_iconst (v := 4) hx hb dX12_goesOn_494 (by decide +kernel) ?_
                        refine lv_goto (tgt := 499) hx hb dX12_goesOn_495 (by decide) ?_
                        have hin_4564 : vp_in x_5 20 := (dk_inv (by omega) (by omega))
                        have hz_4566 : (4 : Int32).toInt = 4 := by decide +kernel
                        refine dg_iast hx hb K hP hS hA1 sM_22 hin_4564 dX12_goesOn_499 (fun S_4565 e_4565 H locs hP hS => ?_)
                        have I_4565 := dg_I.ufu (lo := 0) (hi := 6) I_4537 e_4565 sM_22 (by decide +kernel) (show 0 ≤ ((4 : Int32)).toInt ∧ ((4 : Int32)).toInt ≤ 6 from (by decide +kernel))
                        have M_4565 := dg_sm.uf M_4537 e_4565 sM_22 (by decide)
                        have hz_4567 : (4 : Int32).toInt = 4 := by decide +kernel
                        refine lv_aload_n hx hb dX12_goesOn_500 rfl (lv_at hl 3 rfl) ?_
                        refine dg_get (C := RX12) (T := TX12) (N := 77) hx hb hts (fun w h => bw_mem (wU_X12 w h)) hown K hP sM_0 rfl 38 (by decide) (hts _ (bw_mem wB_1214)) (fun _ h9 => h9) (v := .ref (o + 23)) (show S_4565.1 0 38 = .ref (o + 23) from dg_I.rel (d := 23) I_4565 sM_0 (by decide +kernel)) dX12_goesOn_501 ?_
                        refine lv_iload_n hx hb dX12_goesOn_504 rfl (lv_at hl 2 rfl) ?_
                        refine lv_iconst (v := 0) hx hb dX12_goesOn_505 (by decide +kernel) ?_
                        have hin_4568 : vp_in x_5 20 := (dk_inv (by omega) (by omega))
                        have hz_4570 : (0 : Int32).toInt = 0 := by decide +kernel
                        refine dg_iast hx hb K hP hS hA1 sM_23 hin_4568 dX12_goesOn_506 (fun S_4569 e_4569 H locs hP hS => ?_)
                        have I_4569 := dg_I.ufu (lo := 0) (hi := 2) I_4565 e_4569 sM_23 (by decide +kernel) (show 0 ≤ ((0 : Int32)).toInt ∧ ((0 : Int32)).toInt ≤ 2 from (by decide +kernel))
                        have M_4569 := dg_sm.uf M_4565 e_4569 sM_23 (by decide)
                        obtain ⟨x_4571, f_x_4571, b_x_4571⟩ := dg_I.int (i := 0) (k := 43) (lo := (-2147483648)) (hi := 2147483647) I_4537 sM_0 (by decide +kernel)
                        have hz_4572 : (0 : Int32).toInt = 0 := by decide +kernel
                        obtain ⟨x_4573, f_x_4573⟩ : ∃ x, S_4537.2.1 22 (x_5 : Int32).toNatClampNeg = x := ⟨_, rfl⟩
                        have hin_4574 : vp_in (x_5 : Int32) 20 := (dk_inv (by omega) (by omega))
                        have b_x_4573 := dk_all_at (dg_I.row (lo := 0) (hi := 6) I_4537 sM_22 (by decide +kernel)) hin_4574 f_x_4573.symm
                        have P0_4569 : P0M S_4569 := P1M.comma w_4537_3 (((m_4537.1 0 42 _ sM_0 (by decide)).trans ((m_4532.1 0 42 _ sM_0 (by decide)).trans ((m_4233.1 0 42 _ sM_0 (by decide)).trans (m_2.1 0 42 _ sM_0 (by decide))))).trans f_dp) f_x_4571 f_y_4540 w_4537_1 (by omega) (fx := x_5) (by omega) f_x_4573 (by omega) e_4565 e_4569
                        refine lv_aload_n hx hb dX12_goesOn_507 rfl (lv_at hl 3 rfl) ?_
                        refine dg_callv hS hA1 hA (va_runV (As := []) (rest := []) F (c_m_ahead l g D o S_4569 se (((dg_uf_F e_4569 0 5).trans ((dg_uf_F e_4565 0 5).trans ((m_4537.1 0 5 _ sM_0 (by decide)).trans ((m_4532.1 0 5 _ sM_0 (by decide)).trans ((m_4233.1 0 5 _ sM_0 (by decide)).trans (m_2.1 0 5 _ sM_0 (by decide))))))).trans f_se) (by omega) sl (((dg_uf_F e_4569 0 2).trans ((dg_uf_F e_4565 0 2).trans ((m_4537.1 0 2 _ sM_0 (by decide)).trans ((m_4532.1 0 2 _ sM_0 (by decide)).trans ((m_4233.1 0 2 _ sM_0 (by decide)).trans (m_2.1 0 2 _ sM_0 (by decide))))))).trans f_sl) (by omega) (by omega) I_4569 H.size) (cwV 0 hts (bw_V wB_1161 wB_1162 wB_1163 wB_881 wB_1160) rfl rfl rfl (by decide +kernel) ⟨Nat.le_of_ble_eq_true rfl, Nat.le_of_ble_eq_true rfl⟩) (dg_preV sM_0 rfl K ST hP hS hA1 hA) rfl rfl hl.1 rfl (lv_room (Nat.le_of_ble_eq_true rfl)) dX12_goesOn_508 ⟨Nat.le_of_ble_eq_true rfl, Nat.le_of_ble_eq_true rfl⟩) (fun S_4575 hw_4575 H locs hP hS => ?_)
                        obtain ⟨I_4575, m_4575, w_4575_0, -⟩ := hw_4575
                        have M_4575 := dg_sm.tr M_4569 m_4575 (by decide) (by decide)
                        obtain ⟨y_4576, y_4577, y_4578, f_y_4576, f_y_4577, f_y_4578, w_4575_0⟩ := w_4575_0
                        have w_4575_0 : (se).toInt ≤ (y_4577).toInt ∧ (y_4577).toInt ≤ (y_4578).toInt ∧ (y_4578).toInt ≤ (sl).toInt ∧ ((y_4576).toInt ≠ 0 → (y_4577).toInt + 1 ≤ (y_4578).toInt) := w_4575_0
                        have b_y_4576 : 0 ≤ (y_4576).toInt ∧ (y_4576).toInt ≤ 3 := dg_I.intb (lo := 0) (hi := 3) I_4575 sM_0 (by decide +kernel) f_y_4576
                        have b_y_4577 : 0 ≤ (y_4577).toInt ∧ (y_4577).toInt ≤ 1600 := dg_I.intb (lo := 0) (hi := 1600) I_4575 sM_0 (by decide +kernel) f_y_4577
                        have b_y_4578 : 0 ≤ (y_4578).toInt ∧ (y_4578).toInt ≤ 1600 := dg_I.intb (lo := 0) (hi := 1600) I_4575 sM_0 (by decide +kernel) f_y_4578
                        refine lv_aload_n hx hb dX12_goesOn_511 rfl (lv_at hl 3 rfl) ?_
                        refine lv_iconst (v := 0) hx hb dX12_goesOn_512 (by decide +kernel) ?_
                        have hz_4579 : (0 : Int32).toInt = 0 := by decide +kernel
                        refine dg_put (ci := 12) (v := .int 0) (ty := tyX12 46) (C := RX12) (T := TX12) (N := 77) hx hb hts (fun w h => bw_mem (wU_X12 w h)) tyX12 tyX12_ok nmX12 hown K hP hS hA1 sM_0 rfl 46 (by decide) (hts _ (bw_mem wB_1237)) (fun _ h9 => h9) rfl (by decide +kernel) (by decide +kernel) (by decide +kernel) dX12_goesOn_513 (fun S_4580 e_4580 H locs hP hS => ?_)
                        have I_4580 := dg_I.uFi (lo := 0) (hi := 1) I_4575 e_4580 sM_0 (by decide +kernel) (show 0 ≤ ((0 : Int32)).toInt ∧ ((0 : Int32)).toInt ≤ 1 from (by decide +kernel))
                        have M_4580 := dg_sm.uF M_4575 e_4580 sM_0 (by decide)
                        refine lv_iconst (v := 1) hx hb dX12_goesOn_516 (by decide +kernel) ?_
                        have hz_4581 : (1 : Int32).toInt = 1 := by decide +kernel
                        have hz_4582 : (1 : Int32).toInt = 1 := by decide +kernel
                        have hz_4583 : (0 : Int32).toInt = 0 := by decide +kernel
                        have hz_4584 : (1 : Int32).toInt = 1 := by decide +kernel
                        have hz_4585 : (0 : Int32).toInt = 0 := by decide +kernel
                        refine W.widen (k := 0) (n := 0) (Nat.le_of_ble_eq_true rfl) (Nat.le_of_ble_eq_true rfl) ?_
                        exact dg_iret hx hb hr hlocks (by decide +kernel) hP hS ⟨I_4580, M_4580, (by decide +kernel), ⟨y_4576, y_4577, y_4578, y_4534, y_4539, dp, y_4540, 0, ((dg_uF_ne e_4580 (fun z => absurd z.2 (by decide))).trans f_y_4576), ((dg_uF_ne e_4580 (fun z => absurd z.2 (by decide))).trans f_y_4577), ((dg_uF_ne e_4580 (fun z => absurd z.2 (by decide))).trans f_y_4578), (((dg_uF_ne e_4580 (fun z => absurd z.2 (by decide))).trans ((m_4575.1 0 8 _ sM_0 (by decide)).trans ((dg_uf_F e_4569 0 8).trans ((dg_uf_F e_4565 0 8).trans (m_4537.1 0 8 _ sM_0 (by decide)))))).trans f_y_4534), (((dg_uF_ne e_4580 (fun z => absurd z.2 (by decide))).trans ((m_4575.1 0 34 _ sM_0 (by decide)).trans ((dg_uf_F e_4569 0 34).trans (dg_uf_F e_4565 0 34)))).trans f_y_4539), (((dg_uF_ne e_4580 (fun z => absurd z.2 (by decide))).trans ((m_4575.1 0 42 _ sM_0 (by decide)).trans ((dg_uf_F e_4569 0 42).trans ((dg_uf_F e_4565 0 42).trans ((m_4537.1 0 42 _ sM_0 (by decide)).trans ((m_4532.1 0 42 _ sM_0 (by decide)).trans ((m_4233.1 0 42 _ sM_0 (by decide)).trans (m_2.1 0 42 _ sM_0 (by decide))))))))).trans f_dp), (((dg_uF_ne e_4580 (fun z => absurd z.2 (by decide))).trans ((m_4575.1 0 45 _ sM_0 (by decide)).trans ((dg_uf_F e_4569 0 45).trans (dg_uf_F e_4565 0 45)))).trans f_y_4540), (dg_uF_at e_4580), (by omega)⟩, (fun k9 hk9 hk0 => POM.mk0 (P0M.keep (P0M.keep P0_4569 m_4575 (by decide) (by decide) (by decide) (by decide) (by decide) (by decide) (by decide) (by decide) (by decide) (by decide) (by decide) (by decide) (by decide) (by decide) (by decide)) (dg_sm.uF (WF := [(0, 46)]) (WA := []) dg_sm.rf e_4580 sM_0 (by decide)) (by decide) (by decide) (by decide) (by decide) (by decide) (by decide) (by decide) (by decide) (by decide) (by decide) (by decide) (by decide) (by decide) (by decide) (by decide)) (dg_uF_at e_4580) (by omega)), (ZWM.keep (ZWM.keep (ZWM.keep (ZWM.keep w_4537_2 (dg_sm.uf (WF := []) (WA := [22]) dg_sm.rf e_4565 sM_22 (by decide)) (by decide) (by decide) (by decide) (by decide)) (dg_sm.uf (WF := []) (WA := [23]) dg_sm.rf e_4569 sM_23 (by decide)) (by decide) (by decide) (by decide) (by decide)) m_4575 (by decide) (by decide) (by decide) (by decide)) (dg_sm.uF (WF := [(0, 46)]) (WA := []) dg_sm.rf e_4580 sM_0 (by decide)) (by decide) (by decide) (by decide) (by decide)), trivial⟩ dX12_goesOn_517
                    · have jc_4535 := dk_nlec (k := 0) (by decide +kernel) c_4535
                      refine lv_iconst (v := 0) hx hb dX12_goesOn_477 (by decide +kernel) ?_
                      have hz_4586 : (0 : Int32).toInt = 0 := by decide +kernel
                      have hz_4587 : (0 : Int32).toInt = 0 := by decide +kernel
                      have hz_4588 : (0 : Int32).toInt = 0 := by decide +kernel
                      refine W.widen (k := 0) (n := 0) (Nat.le_of_ble_eq_true rfl) (Nat.le_of_ble_eq_true rfl) ?_
                      exact dg_iret hx hb hr hlocks (by decide +kernel) hP hS ⟨I_4532, M_4532, (by decide +kernel), ⟨sg, sa, se, y_4534, cd, dp, om, oo, (((m_4532.1 0 3 _ sM_0 (by decide)).trans ((m_4233.1 0 3 _ sM_0 (by decide)).trans (m_2.1 0 3 _ sM_0 (by decide)))).trans f_sg), (((m_4532.1 0 4 _ sM_0 (by decide)).trans ((m_4233.1 0 4 _ sM_0 (by decide)).trans (m_2.1 0 4 _ sM_0 (by decide)))).trans f_sa), (((m_4532.1 0 5 _ sM_0 (by decide)).trans ((m_4233.1 0 5 _ sM_0 (by decide)).trans (m_2.1 0 5 _ sM_0 (by decide)))).trans f_se), f_y_4534, (((m_4532.1 0 34 _ sM_0 (by decide)).trans ((m_4233.1 0 34 _ sM_0 (by decide)).trans (m_2.1 0 34 _ sM_0 (by decide)))).trans f_cd), (((m_4532.1 0 42 _ sM_0 (by decide)).trans ((m_4233.1 0 42 _ sM_0 (by decide)).trans (m_2.1 0 42 _ sM_0 (by decide)))).trans f_dp), (((m_4532.1 0 45 _ sM_0 (by decide)).trans ((m_4233.1 0 45 _ sM_0 (by decide)).trans (m_2.1 0 45 _ sM_0 (by decide)))).trans f_om), (((m_4532.1 0 46 _ sM_0 (by decide)).trans ((m_4233.1 0 46 _ sM_0 (by decide)).trans (m_2.1 0 46 _ sM_0 (by decide)))).trans f_oo), (by omega)⟩, (fun k9 hk9 hk0 => by have q9 := (f_y_4534).symm.trans hk9; cases q9; omega), (ZWM.keep (ZWM.keep (ZWM.keep ZW m_2 (by decide) (by decide) (by decide) (by decide)) m_4233 (by decide) (by decide) (by decide) (by decide)) m_4532 (by decide) (by decide) (by decide) (by decide)), trivial⟩ dX12_goesOn_478
                refine lv_icmp_eq (tgt := 452) hx hb dX12_goesOn_443 (by decide) (fun c_4589 => ?_) (fun c_4589 => ?_)
                · have jc_4589 := dk_eqc (k := 3) (by decide +kernel) c_4589
                  exact J_4472  (by omega) _ _ hP hS _ (lv_sub hl [0, 1, 2, 3] rfl)
                · have jc_4589 := dk_neqc (k := 3) (by decide +kernel) c_4589
                  refine lv_iload_n hx hb dX12_goesOn_446 rfl (lv_at hl 1 rfl) ?_
                  refine lv_bipush (v := 6) hx hb dX12_goesOn_447 (by decide +kernel) ?_
                  refine lv_icmp_ne (tgt := 518) hx hb dX12_goesOn_449 (by decide) (fun c_4590 => ?_) (fun c_4590 => ?_)
                  · have jc_4590 := dk_neqc (k := 6) (by decide +kernel) c_4590
                    refine lv_aload_n hx hb dX12_goesOn_518 rfl (lv_at hl 3 rfl) ?_
                    refine lv_iload_n hx hb dX12_goesOn_519 rfl (lv_at hl 1 rfl) ?_
                    refine lv_iconst (v := 5) hx hb dX12_goesOn_520 (by decide +kernel) ?_
                    have J_4708 : ∀ (x_4592 : Int32), (41 ≤ (x_4592).toInt ∧ (x_4592).toInt ≤ 93) → ∀ (H : Heap) (locs : List Loc), va_P D vwCl (dg_w g shM o rfM S_4233) H → va_S A s.heap H locs → ∀ ls : Array Slot, lv_has ls 5 [(3, .int x_8), (2, .int x_7), (1, .int x_5), (0, .ref (o + 0))] → W p l e ({ frames := 3, cells := 0, slots := 0, locals := 77 } : Room) s m args below meth c H locs 0 0 (MQ below (va_Qi (fun (r : Int32) S' => CM o S' ∧ dg_sm shM [(0, 3), (0, 4), (0, 5), (0, 6), (0, 7), (0, 8), (0, 9), (0, 12), (0, 34), (0, 42), (0, 43), (0, 45), (0, 46)] [18, 19, 22, 23, 24, 27] S S' ∧ (0 ≤ (r).toInt ∧ (r).toInt ≤ 1) ∧ (∃ y9_3 y9_4 y9_5 y9_8 y9_34 y9_42 y9_45 y9_46 : Int32, S'.1 0 3 = .int y9_3 ∧ S'.1 0 4 = .int y9_4 ∧ S'.1 0 5 = .int y9_5 ∧ S'.1 0 8 = .int y9_8 ∧ S'.1 0 34 = .int y9_34 ∧ S'.1 0 42 = .int y9_42 ∧ S'.1 0 45 = .int y9_45 ∧ S'.1 0 46 = .int y9_46 ∧ (((y9_4).toInt ≤ (y9_5).toInt ∧ (y9_5).toInt ≤ (sl).toInt ∧ ((y9_3).toInt ≠ 0 → (y9_4).toInt + 1 ≤ (y9_5).toInt)) ∧ (sa).toInt ≤ (y9_4).toInt ∧ ((fk).toInt ≠ 0 → (y9_8).toInt ≠ 0) ∧ (((y9_8).toInt = 0 → (r).toInt = 1 → (sa).toInt + 1 ≤ (y9_4).toInt) ∧ ((y9_8).toInt = 0 → (y9_34).toInt + (y9_45).toInt + (y9_42).toInt ≤ (y9_4).toInt)))) ∧ (∀ k9 : Int32, S'.1 0 8 = .int k9 → k9.toInt = 0 → POM S') ∧ ZWM S' ∧ True) (dg_B g D shM o rfM) A) args s 0 0 A) (F0 m 531 ls [.int x_4592, .ref (o + 0)]) := by
                      intro x_4592 b_x_4592 H locs hP hS ls hl
                      refine dg_calli hS hA1 hA (va_runV (As := [.int x_4592]) (rest := []) F (c_m_isSign l g D o S_4233 x_4592 sg (((m_4233.1 0 3 _ sM_0 (by decide)).trans (m_2.1 0 3 _ sM_0 (by decide))).trans f_sg) (by omega) va (((m_4233.1 0 6 _ sM_0 (by decide)).trans (m_2.1 0 6 _ sM_0 (by decide))).trans f_va) (by omega) I_4233 H.size) (cwV 1 hts (bw_V wB_1157 wB_1158 wB_1159 wB_881 wB_1156) rfl rfl rfl (by decide +kernel) ⟨Nat.le_of_ble_eq_true rfl, Nat.le_of_ble_eq_true rfl⟩) (dg_preV sM_0 rfl K ST hP hS hA1 hA) rfl rfl hl.1 rfl (lv_room (Nat.le_of_ble_eq_true rfl)) dX12_goesOn_531 ⟨Nat.le_of_ble_eq_true rfl, Nat.le_of_ble_eq_true rfl⟩) (fun x_4709 S_4710 hw_4710 H locs hP hS => ?_)
                      rw [hw_4710.1] at hP
                      obtain ⟨hq_4710, w_4710_0, w_4710_1, -⟩ := hw_4710
                      have w_4710_0 : 0 ≤ (x_4709).toInt ∧ (x_4709).toInt ≤ 1 := w_4710_0
                      have w_4710_1 : (x_4709).toInt = 1 ↔ ((sg).toInt = 3 ∧ (va).toInt = (x_4592).toInt) := w_4710_1
                      refine lv_if_ne (tgt := 546) hx hb dX12_goesOn_534 (by decide) (fun c_4711 => ?_) (fun c_4711 => ?_)
                      · have jc_4711 := dk_neqc (k := 0) (by decide +kernel) c_4711
                        have w_4710_1_r := w_4710_1.mp (by omega)
                        clear w_4710_1
                        refine lv_aload_n hx hb dX12_goesOn_546 rfl (lv_at hl 3 rfl) ?_
                        refine dg_get (C := RX12) (T := TX12) (N := 77) hx hb hts (fun w h => bw_mem (wU_X12 w h)) hown K hP sM_0 rfl 8 (by decide) (hts _ (bw_mem wB_1133)) (fun _ h9 => h9) (v := .int y_4235) f_y_4235 dX12_goesOn_547 ?_
                        refine lv_if_le (tgt := 555) hx hb dX12_goesOn_550 (by decide) (fun c_4712 => ?_) (fun c_4712 => ?_)
                        · have jc_4712 := dk_lec (k := 0) (by decide +kernel) c_4712
                          refine lv_aload_n hx hb dX12_goesOn_555 rfl (lv_at hl 3 rfl) ?_
                          refine lv_iconst (v := 1) hx hb dX12_goesOn_556 (by decide +kernel) ?_
                          have hz_4713 : (1 : Int32).toInt = 1 := by decide +kernel
                          refine dg_callv hS hA1 hA (va_runV (As := [.int 1]) (rest := []) F (c_m_joins l g D o S_4233 1 (by decide +kernel) cd (((m_4233.1 0 34 _ sM_0 (by decide)).trans (m_2.1 0 34 _ sM_0 (by decide))).trans f_cd) (by omega) om (((m_4233.1 0 45 _ sM_0 (by decide)).trans (m_2.1 0 45 _ sM_0 (by decide))).trans f_om) (by omega) (by omega) (ZWM.keep (ZWM.keep ZW m_2 (by decide) (by decide) (by decide) (by decide)) m_4233 (by decide) (by decide) (by decide) (by decide)) (ZKM.keep (ZKM.keep ZK m_2 (by decide) (by decide)) m_4233 (by decide) (by decide)) (P1M.keep (P1M.keep P1 m_2 (by decide) (by decide) (by decide) (by decide) (by decide) (by decide) (by decide) (by decide) (by decide) (by decide) (by decide) (by decide) (by decide) (by decide) (by decide)) m_4233 (by decide) (by decide) (by decide) (by decide) (by decide) (by decide) (by decide) (by decide) (by decide) (by decide) (by decide) (by decide) (by decide) (by decide) (by decide)) I_4233 H.size) (cwV 1 hts (bw_V wB_1234 wB_1235 wB_1236 wB_881 wB_1233) rfl rfl rfl (by decide +kernel) ⟨Nat.le_of_ble_eq_true rfl, Nat.le_of_ble_eq_true rfl⟩) (dg_preV sM_0 rfl K ST hP hS hA1 hA) rfl rfl hl.1 rfl (lv_room (Nat.le_of_ble_eq_true rfl)) dX12_goesOn_557 ⟨Nat.le_of_ble_eq_true rfl, Nat.le_of_ble_eq_true rfl⟩) (fun S_4714 hw_4714 H locs hP hS => ?_)
                          obtain ⟨I_4714, m_4714, w_4714_0, w_4714_1, w_4714_2, w_4714_3, -⟩ := hw_4714
                          have M_4714 := dg_sm.tr M_4233 m_4714 (by decide) (by decide)
                          have hz_4715 : (1 : Int32).toInt = 1 := by decide +kernel
                          obtain ⟨y_4716, y_4717, f_y_4716, f_y_4717, w_4714_0⟩ := w_4714_0
                          have w_4714_0 : (y_4716).toInt + (y_4717).toInt = (cd).toInt + (om).toInt := w_4714_0
                          have b_y_4716 : 0 ≤ (y_4716).toInt ∧ (y_4716).toInt ≤ 1600 := dg_I.intb (lo := 0) (hi := 1600) I_4714 sM_0 (by decide +kernel) f_y_4716
                          have b_y_4717 : 0 ≤ (y_4717).toInt ∧ (y_4717).toInt ≤ 500 := dg_I.intb (lo := 0) (hi := 500) I_4714 sM_0 (by decide +kernel) f_y_4717
                          have w_4714_1 : TOPM S_4714 (1 : Int32) := w_4714_1
                          obtain ⟨x_4718, f_x_4718, b_x_4718⟩ := dg_I.int (i := 0) (k := 43) (lo := (-2147483648)) (hi := 2147483647) I_4714 sM_0 (by decide +kernel)
                          have hkd := PSM.kind w_4714_3 (((m_4714.1 0 42 _ sM_0 (by decide)).trans ((m_4233.1 0 42 _ sM_0 (by decide)).trans (m_2.1 0 42 _ sM_0 (by decide)))).trans f_dp) f_x_4718 f_y_4717 (fx := x_5) (by omega) ((congrFun ((m_4714.2 22 _ sM_22 (by decide)).1.trans (m_4233.2 22 _ sM_22 (by decide)).1) _).trans ex_7.symm) (rfl : S_4714.2.1 25 (x_5 : Int32).toNatClampNeg = _)
                          unfold dk_fk at hkd
                          have hcl9 := dk_clN x_5
                          refine lv_aload_n hx hb dX12_goesOn_560 rfl (lv_at hl 3 rfl) ?_
                          refine lv_dup hx hb dX12_goesOn_561 rfl ?_
                          refine dg_get (C := RX12) (T := TX12) (N := 77) hx hb hts (fun w h => bw_mem (wU_X12 w h)) hown K hP sM_0 rfl 42 (by decide) (hts _ (bw_mem wB_1203)) (fun _ h9 => h9) (v := .int dp) (((m_4714.1 0 42 _ sM_0 (by decide)).trans ((m_4233.1 0 42 _ sM_0 (by decide)).trans (m_2.1 0 42 _ sM_0 (by decide)))).trans f_dp) dX12_goesOn_562 ?_
                          refine lv_iconst (v := 1) hx hb dX12_goesOn_565 (by decide +kernel) ?_
                          refine lv_isub hx hb dX12_goesOn_566 ?_
                          refine lv_topi (fun x_4719 ex_4719 => ?_)
                          have jx_4719 : (x_4719).toInt = (dp).toInt - 1 := by rw [ex_4719]; exact dk_subT rfl (by decide +kernel) (by omega) (by omega)
                          refine dg_put (ci := 12) (v := .int x_4719) (ty := tyX12 42) (C := RX12) (T := TX12) (N := 77) hx hb hts (fun w h => bw_mem (wU_X12 w h)) tyX12 tyX12_ok nmX12 hown K hP hS hA1 sM_0 rfl 42 (by decide) (hts _ (bw_mem wB_1203)) (fun _ h9 => h9) rfl (by decide +kernel) rfl rfl dX12_goesOn_567 (fun S_4720 e_4720 H locs hP hS => ?_)
                          have I_4720 := dg_I.uFi (lo := 0) (hi := 20) I_4714 e_4720 sM_0 (by decide +kernel) (show 0 ≤ (x_4719).toInt ∧ (x_4719).toInt ≤ 20 from (by omega))
                          have M_4720 := dg_sm.uF M_4714 e_4720 sM_0 (by decide)
                          refine lv_aload_n hx hb dX12_goesOn_570 rfl (lv_at hl 3 rfl) ?_
                          refine lv_dup hx hb dX12_goesOn_571 rfl ?_
                          refine dg_get (C := RX12) (T := TX12) (N := 77) hx hb hts (fun w h => bw_mem (wU_X12 w h)) hown K hP sM_0 rfl 43 (by decide) (hts _ (bw_mem wB_1212)) (fun _ h9 => h9) (v := .int x_4718) ((dg_uF_ne e_4720 (fun z => absurd z.2 (by decide))).trans f_x_4718) dX12_goesOn_572 ?_
                          refine lv_iconst (v := 1) hx hb dX12_goesOn_575 (by decide +kernel) ?_
                          refine lv_isub hx hb dX12_goesOn_576 ?_
                          refine lv_topi (fun x_4721 ex_4721 => ?_)
                          refine dg_put (ci := 12) (v := .int x_4721) (ty := tyX12 43) (C := RX12) (T := TX12) (N := 77) hx hb hts (fun w h => bw_mem (wU_X12 w h)) tyX12 tyX12_ok nmX12 hown K hP hS hA1 sM_0 rfl 43 (by decide) (hts _ (bw_mem wB_1212)) (fun _ h9 => h9) rfl (by decide +kernel) rfl rfl dX12_goesOn_577 (fun S_4722 e_4722 H locs hP hS => ?_)
                          have I_4722 := dg_I.uFi (lo := (-2147483648)) (hi := 2147483647) I_4720 e_4722 sM_0 (by decide +kernel) (show (-2147483648) ≤ (x_4721).toInt ∧ (x_4721).toInt ≤ 2147483647 from (dk_full _))
                          have M_4722 := dg_sm.uF M_4720 e_4722 sM_0 (by decide)
                          refine lv_iload_n hx hb dX12_goesOn_580 rfl (lv_at hl 1 rfl) ?_
                          refine lv_iconst (v := 4) hx hb dX12_goesOn_581 (by decide +kernel) ?_
                          refine lv_icmp_ne (tgt := 596) hx hb dX12_goesOn_582 (by decide) (fun c_4723 => ?_) (fun c_4723 => ?_)
                          · have jc_4723 := dk_neqc (k := 4) (by decide +kernel) c_4723
                            obtain ⟨x_4724, f_x_4724, b_x_4724⟩ := dg_I.int (i := 0) (k := 42) (lo := 0) (hi := 20) I_4714 sM_0 (by decide +kernel)
                            obtain ⟨x_4725, f_x_4725, b_x_4725⟩ := dg_I.int (i := 0) (k := 43) (lo := (-2147483648)) (hi := 2147483647) I_4714 sM_0 (by decide +kernel)
                            have P1_4722 : P1M S_4722 := P1M.close2 w_4714_3 f_x_4724 f_x_4725 f_y_4717 w_4714_1 (by omega) (fx := x_5) (by omega) ((congrFun ((m_4714.2 22 _ sM_22 (by decide)).1.trans (m_4233.2 22 _ sM_22 (by decide)).1) _).trans ex_7.symm) (by omega) e_4720 (by omega) e_4722 (by omega)
                            refine lv_iload_n hx hb dX12_goesOn_596 rfl (lv_at hl 1 rfl) ?_
                            refine lv_iconst (v := 5) hx hb dX12_goesOn_597 (by decide +kernel) ?_
                            refine lv_icmp_ne (tgt := 613) hx hb dX12_goesOn_598 (by decide) (fun c_4726 => ?_) (fun c_4726 => ?_)
                            · have jc_4726 := dk_neqc (k := 5) (by decide +kernel) c_4726
                              refine lv_aload_n hx hb dX12_goesOn_613 rfl (lv_at hl 3 rfl) ?_
                              refine dg_callv hS hA1 hA (va_runV (As := []) (rest := []) F (c_m_ahead l g D o S_4722 se (((dg_uF_ne e_4722 (fun z => absurd z.2 (by decide))).trans ((dg_uF_ne e_4720 (fun z => absurd z.2 (by decide))).trans ((m_4714.1 0 5 _ sM_0 (by decide)).trans ((m_4233.1 0 5 _ sM_0 (by decide)).trans (m_2.1 0 5 _ sM_0 (by decide)))))).trans f_se) (by omega) sl (((dg_uF_ne e_4722 (fun z => absurd z.2 (by decide))).trans ((dg_uF_ne e_4720 (fun z => absurd z.2 (by decide))).trans ((m_4714.1 0 2 _ sM_0 (by decide)).trans ((m_4233.1 0 2 _ sM_0 (by decide)).trans (m_2.1 0 2 _ sM_0 (by decide)))))).trans f_sl) (by omega) (by omega) I_4722 H.size) (cwV 0 hts (bw_V wB_1161 wB_1162 wB_1163 wB_881 wB_1160) rfl rfl rfl (by decide +kernel) ⟨Nat.le_of_ble_eq_true rfl, Nat.le_of_ble_eq_true rfl⟩) (dg_preV sM_0 rfl K ST hP hS hA1 hA) rfl rfl hl.1 rfl (lv_room (Nat.le_of_ble_eq_true rfl)) dX12_goesOn_614 ⟨Nat.le_of_ble_eq_true rfl, Nat.le_of_ble_eq_true rfl⟩) (fun S_4727 hw_4727 H locs hP hS => ?_)
                              obtain ⟨I_4727, m_4727, w_4727_0, -⟩ := hw_4727
                              have M_4727 := dg_sm.tr M_4722 m_4727 (by decide) (by decide)
                              obtain ⟨y_4728, y_4729, y_4730, f_y_4728, f_y_4729, f_y_4730, w_4727_0⟩ := w_4727_0
                              have w_4727_0 : (se).toInt ≤ (y_4729).toInt ∧ (y_4729).toInt ≤ (y_4730).toInt ∧ (y_4730).toInt ≤ (sl).toInt ∧ ((y_4728).toInt ≠ 0 → (y_4729).toInt + 1 ≤ (y_4730).toInt) := w_4727_0
                              have b_y_4728 : 0 ≤ (y_4728).toInt ∧ (y_4728).toInt ≤ 3 := dg_I.intb (lo := 0) (hi := 3) I_4727 sM_0 (by decide +kernel) f_y_4728
                              have b_y_4729 : 0 ≤ (y_4729).toInt ∧ (y_4729).toInt ≤ 1600 := dg_I.intb (lo := 0) (hi := 1600) I_4727 sM_0 (by decide +kernel) f_y_4729
                              have b_y_4730 : 0 ≤ (y_4730).toInt ∧ (y_4730).toInt ≤ 1600 := dg_I.intb (lo := 0) (hi := 1600) I_4727 sM_0 (by decide +kernel) f_y_4730
                              refine lv_iconst (v := 1) hx hb dX12_goesOn_617 (by decide +kernel) ?_
                              have hz_4731 : (1 : Int32).toInt = 1 := by decide +kernel
                              have hz_4732 : (1 : Int32).toInt = 1 := by decide +kernel
                              obtain ⟨x_4733, f_x_4733, b_x_4733⟩ := dg_I.int (i := 0) (k := 42) (lo := 0) (hi := 20) I_4727 sM_0 (by decide +kernel)
                              have hz_4734 : (1 : Int32).toInt = 1 := by decide +kernel
                              refine W.widen (k := 0) (n := 0) (Nat.le_of_ble_eq_true rfl) (Nat.le_of_ble_eq_true rfl) ?_
                              exact dg_iret hx hb hr hlocks (by decide +kernel) hP hS ⟨I_4727, M_4727, (by decide +kernel), ⟨y_4728, y_4729, y_4730, y_4235, y_4716, x_4733, y_4717, oo, f_y_4728, f_y_4729, f_y_4730, (((m_4727.1 0 8 _ sM_0 (by decide)).trans ((dg_uF_ne e_4722 (fun z => absurd z.2 (by decide))).trans ((dg_uF_ne e_4720 (fun z => absurd z.2 (by decide))).trans (m_4714.1 0 8 _ sM_0 (by decide))))).trans f_y_4235), (((m_4727.1 0 34 _ sM_0 (by decide)).trans ((dg_uF_ne e_4722 (fun z => absurd z.2 (by decide))).trans (dg_uF_ne e_4720 (fun z => absurd z.2 (by decide))))).trans f_y_4716), f_x_4733, (((m_4727.1 0 45 _ sM_0 (by decide)).trans ((dg_uF_ne e_4722 (fun z => absurd z.2 (by decide))).trans (dg_uF_ne e_4720 (fun z => absurd z.2 (by decide))))).trans f_y_4717), (((m_4727.1 0 46 _ sM_0 (by decide)).trans ((dg_uF_ne e_4722 (fun z => absurd z.2 (by decide))).trans ((dg_uF_ne e_4720 (fun z => absurd z.2 (by decide))).trans ((m_4714.1 0 46 _ sM_0 (by decide)).trans ((m_4233.1 0 46 _ sM_0 (by decide)).trans (m_2.1 0 46 _ sM_0 (by decide))))))).trans f_oo), (by omega)⟩, (fun k9 hk9 hk0 => POM.mk1 (P1M.keep P1_4722 m_4727 (by decide) (by decide) (by decide) (by decide) (by decide) (by decide) (by decide) (by decide) (by decide) (by decide) (by decide) (by decide) (by decide) (by decide) (by decide)) (((m_4727.1 0 46 _ sM_0 (by decide)).trans ((dg_uF_ne e_4722 (fun z => absurd z.2 (by decide))).trans ((dg_uF_ne e_4720 (fun z => absurd z.2 (by decide))).trans ((m_4714.1 0 46 _ sM_0 (by decide)).trans ((m_4233.1 0 46 _ sM_0 (by decide)).trans (m_2.1 0 46 _ sM_0 (by decide))))))).trans f_oo) (by omega)), (ZWM.keep (ZWM.keep (ZWM.keep w_4714_2 (dg_sm.uF (WF := [(0, 42)]) (WA := []) dg_sm.rf e_4720 sM_0 (by decide)) (by decide) (by decide) (by decide) (by decide)) (dg_sm.uF (WF := [(0, 43)]) (WA := []) dg_sm.rf e_4722 sM_0 (by decide)) (by decide) (by decide) (by decide) (by decide)) m_4727 (by decide) (by decide) (by decide) (by decide)), trivial⟩ dX12_goesOn_618
                            · have jc_4726 := dk_eqc (k := 5) (by decide +kernel) c_4726
                              refine lv_aload_n hx hb dX12_goesOn_601 rfl (lv_at hl 3 rfl) ?_
                              refine dg_get (C := RX12) (T := TX12) (N := 77) hx hb hts (fun w h => bw_mem (wU_X12 w h)) hown K hP sM_0 rfl 38 (by decide) (hts _ (bw_mem wB_1214)) (fun _ h9 => h9) (v := .ref (o + 23)) (show S_4722.1 0 38 = .ref (o + 23) from dg_I.rel (d := 23) I_4722 sM_0 (by decide +kernel)) dX12_goesOn_602 ?_
                              refine lv_aload_n hx hb dX12_goesOn_605 rfl (lv_at hl 3 rfl) ?_
                              obtain ⟨x_4735, f_x_4735, b_x_4735⟩ := dg_I.int (i := 0) (k := 42) (lo := 0) (hi := 20) I_4722 sM_0 (by decide +kernel)
                              refine dg_get (C := RX12) (T := TX12) (N := 77) hx hb hts (fun w h => bw_mem (wU_X12 w h)) hown K hP sM_0 rfl 42 (by decide) (hts _ (bw_mem wB_1203)) (fun _ h9 => h9) (v := .int x_4735) f_x_4735 dX12_goesOn_606 ?_
                              refine lv_iconst (v := 1) hx hb dX12_goesOn_609 (by decide +kernel) ?_
                              refine lv_isub hx hb dX12_goesOn_610 ?_
                              refine lv_topi (fun x_4736 ex_4736 => ?_)
                              have jx_4736 : (x_4736).toInt = (x_4735).toInt - 1 := by rw [ex_4736]; exact dk_subT rfl (by decide +kernel) (by omega) (by omega)
                              refine lv_iconst (v := 2) hx hb dX12_goesOn_611 (by decide +kernel) ?_
                              have hin_4737 : vp_in x_4736 20 := (dk_inv (by omega) (by omega))
                              have hz_4739 : (2 : Int32).toInt = 2 := by decide +kernel
                              refine dg_iast hx hb K hP hS hA1 sM_23 hin_4737 dX12_goesOn_612 (fun S_4738 e_4738 H locs hP hS => ?_)
                              have I_4738 := dg_I.ufu (lo := 0) (hi := 2) I_4722 e_4738 sM_23 (by decide +kernel) (show 0 ≤ ((2 : Int32)).toInt ∧ ((2 : Int32)).toInt ≤ 2 from (by decide +kernel))
                              have M_4738 := dg_sm.uf M_4722 e_4738 sM_23 (by decide)
                              have hz_4740 : (2 : Int32).toInt = 2 := by decide +kernel
                              have P1_4738 : P1M S_4738 := P1M.close5 P1_4722 f_x_4735 (by omega) (by omega) (by omega) e_4738
                              refine lv_aload_n hx hb dX12_goesOn_613 rfl (lv_at hl 3 rfl) ?_
                              refine dg_callv hS hA1 hA (va_runV (As := []) (rest := []) F (c_m_ahead l g D o S_4738 se (((dg_uf_F e_4738 0 5).trans ((dg_uF_ne e_4722 (fun z => absurd z.2 (by decide))).trans ((dg_uF_ne e_4720 (fun z => absurd z.2 (by decide))).trans ((m_4714.1 0 5 _ sM_0 (by decide)).trans ((m_4233.1 0 5 _ sM_0 (by decide)).trans (m_2.1 0 5 _ sM_0 (by decide))))))).trans f_se) (by omega) sl (((dg_uf_F e_4738 0 2).trans ((dg_uF_ne e_4722 (fun z => absurd z.2 (by decide))).trans ((dg_uF_ne e_4720 (fun z => absurd z.2 (by decide))).trans ((m_4714.1 0 2 _ sM_0 (by decide)).trans ((m_4233.1 0 2 _ sM_0 (by decide)).trans (m_2.1 0 2 _ sM_0 (by decide))))))).trans f_sl) (by omega) (by omega) I_4738 H.size) (cwV 0 hts (bw_V wB_1161 wB_1162 wB_1163 wB_881 wB_1160) rfl rfl rfl (by decide +kernel) ⟨Nat.le_of_ble_eq_true rfl, Nat.le_of_ble_eq_true rfl⟩) (dg_preV sM_0 rfl K ST hP hS hA1 hA) rfl rfl hl.1 rfl (lv_room (Nat.le_of_ble_eq_true rfl)) dX12_goesOn_614 ⟨Nat.le_of_ble_eq_true rfl, Nat.le_of_ble_eq_true rfl⟩) (fun S_4741 hw_4741 H locs hP hS => ?_)
                              obtain ⟨I_4741, m_4741, w_4741_0, -⟩ := hw_4741
                              have M_4741 := dg_sm.tr M_4738 m_4741 (by decide) (by decide)
                              obtain ⟨y_4742, y_4743, y_4744, f_y_4742, f_y_4743, f_y_4744, w_4741_0⟩ := w_4741_0
                              have w_4741_0 : (se).toInt ≤ (y_4743).toInt ∧ (y_4743).toInt ≤ (y_4744).toInt ∧ (y_4744).toInt ≤ (sl).toInt ∧ ((y_4742).toInt ≠ 0 → (y_4743).toInt + 1 ≤ (y_4744).toInt) := w_4741_0
                              have b_y_4742 : 0 ≤ (y_4742).toInt ∧ (y_4742).toInt ≤ 3 := dg_I.intb (lo := 0) (hi := 3) I_4741 sM_0 (by decide +kernel) f_y_4742
                              have b_y_4743 : 0 ≤ (y_4743).toInt ∧ (y_4743).toInt ≤ 1600 := dg_I.intb (lo := 0) (hi := 1600) I_4741 sM_0 (by decide +kernel) f_y_4743
                              have b_y_4744 : 0 ≤ (y_4744).toInt ∧ (y_4744).toInt ≤ 1600 := dg_I.intb (lo := 0) (hi := 1600) I_4741 sM_0 (by decide +kernel) f_y_4744
                              refine lv_iconst (v := 1) hx hb dX12_goesOn_617 (by decide +kernel) ?_
                              have hz_4745 : (1 : Int32).toInt = 1 := by decide +kernel
                              have hz_4746 : (1 : Int32).toInt = 1 := by decide +kernel
                              have hz_4747 : (1 : Int32).toInt = 1 := by decide +kernel
                              refine W.widen (k := 0) (n := 0) (Nat.le_of_ble_eq_true rfl) (Nat.le_of_ble_eq_true rfl) ?_
                              exact dg_iret hx hb hr hlocks (by decide +kernel) hP hS ⟨I_4741, M_4741, (by decide +kernel), ⟨y_4742, y_4743, y_4744, y_4235, y_4716, x_4735, y_4717, oo, f_y_4742, f_y_4743, f_y_4744, (((m_4741.1 0 8 _ sM_0 (by decide)).trans ((dg_uf_F e_4738 0 8).trans ((dg_uF_ne e_4722 (fun z => absurd z.2 (by decide))).trans ((dg_uF_ne e_4720 (fun z => absurd z.2 (by decide))).trans (m_4714.1 0 8 _ sM_0 (by decide)))))).trans f_y_4235), (((m_4741.1 0 34 _ sM_0 (by decide)).trans ((dg_uf_F e_4738 0 34).trans ((dg_uF_ne e_4722 (fun z => absurd z.2 (by decide))).trans (dg_uF_ne e_4720 (fun z => absurd z.2 (by decide)))))).trans f_y_4716), (((m_4741.1 0 42 _ sM_0 (by decide)).trans (dg_uf_F e_4738 0 42)).trans f_x_4735), (((m_4741.1 0 45 _ sM_0 (by decide)).trans ((dg_uf_F e_4738 0 45).trans ((dg_uF_ne e_4722 (fun z => absurd z.2 (by decide))).trans (dg_uF_ne e_4720 (fun z => absurd z.2 (by decide)))))).trans f_y_4717), (((m_4741.1 0 46 _ sM_0 (by decide)).trans ((dg_uf_F e_4738 0 46).trans ((dg_uF_ne e_4722 (fun z => absurd z.2 (by decide))).trans ((dg_uF_ne e_4720 (fun z => absurd z.2 (by decide))).trans ((m_4714.1 0 46 _ sM_0 (by decide)).trans ((m_4233.1 0 46 _ sM_0 (by decide)).trans (m_2.1 0 46 _ sM_0 (by decide)))))))).trans f_oo), (by omega)⟩, (fun k9 hk9 hk0 => POM.mk1 (P1M.keep P1_4738 m_4741 (by decide) (by decide) (by decide) (by decide) (by decide) (by decide) (by decide) (by decide) (by decide) (by decide) (by decide) (by decide) (by decide) (by decide) (by decide)) (((m_4741.1 0 46 _ sM_0 (by decide)).trans ((dg_uf_F e_4738 0 46).trans ((dg_uF_ne e_4722 (fun z => absurd z.2 (by decide))).trans ((dg_uF_ne e_4720 (fun z => absurd z.2 (by decide))).trans ((m_4714.1 0 46 _ sM_0 (by decide)).trans ((m_4233.1 0 46 _ sM_0 (by decide)).trans (m_2.1 0 46 _ sM_0 (by decide)))))))).trans f_oo) (by omega)), (ZWM.keep (ZWM.keep (ZWM.keep (ZWM.keep w_4714_2 (dg_sm.uF (WF := [(0, 42)]) (WA := []) dg_sm.rf e_4720 sM_0 (by decide)) (by decide) (by decide) (by decide) (by decide)) (dg_sm.uF (WF := [(0, 43)]) (WA := []) dg_sm.rf e_4722 sM_0 (by decide)) (by decide) (by decide) (by decide) (by decide)) (dg_sm.uf (WF := []) (WA := [23]) dg_sm.rf e_4738 sM_23 (by decide)) (by decide) (by decide) (by decide) (by decide)) m_4741 (by decide) (by decide) (by decide) (by decide)), trivial⟩ dX12_goesOn_618
                          · have jc_4723 := dk_eqc (k := 4) (by decide +kernel) c_4723
                            refine lv_aload_n hx hb dX12_goesOn_585 rfl (lv_at hl 3 rfl) ?_
                            refine lv_aload_n hx hb dX12_goesOn_586 rfl (lv_at hl 3 rfl) ?_
                            refine dg_get (C := RX12) (T := TX12) (N := 77) hx hb hts (fun w h => bw_mem (wU_X12 w h)) hown K hP sM_0 rfl 40 (by decide) (hts _ (bw_mem wB_1232)) (fun _ h9 => h9) (v := .ref (o + 25)) (show S_4722.1 0 40 = .ref (o + 25) from dg_I.rel (d := 25) I_4722 sM_0 (by decide +kernel)) dX12_goesOn_587 ?_
                            refine lv_iload_n hx hb dX12_goesOn_590 rfl (lv_at hl 2 rfl) ?_
                            have hin_4748 : vp_in x_5 20 := (dk_inv (by omega) (by omega))
                            refine dg_iald hx hb K hP sM_25 hin_4748 dX12_goesOn_591 (fun x_4749 ex_4749 => ?_)
                            have hp25_x_4749 : S_4714.2.1 25 (x_5 : Int32).toNatClampNeg = x_4749 := by rw [ex_4749, (((dg_uF_f e_4722 25).trans (dg_uF_f e_4720 25)))]
                            rw [hp25_x_4749] at hkd
                            refine lv_iconst (v := 0) hx hb dX12_goesOn_592 (by decide +kernel) ?_
                            refine dg_callv hS hA1 hA (va_runV (As := [.int x_4749, .int 0]) (rest := []) F (c_m_add l g D o S_4722 x_4749 (by omega) 0 y_4716 (((dg_uF_ne e_4722 (fun z => absurd z.2 (by decide))).trans (dg_uF_ne e_4720 (fun z => absurd z.2 (by decide)))).trans f_y_4716) (by omega) (ZWM.keep (ZWM.keep w_4714_2 (dg_sm.uF (WF := [(0, 42)]) (WA := []) dg_sm.rf e_4720 sM_0 (by decide)) (by decide) (by decide) (by decide) (by decide)) (dg_sm.uF (WF := [(0, 43)]) (WA := []) dg_sm.rf e_4722 sM_0 (by decide)) (by decide) (by decide) (by decide) (by decide)) (ZKM.keep (ZKM.keep (ZKM.keep (ZKM.keep (ZKM.keep ZK m_2 (by decide) (by decide)) m_4233 (by decide) (by decide)) m_4714 (by decide) (by decide)) (dg_sm.uF (WF := [(0, 42)]) (WA := []) dg_sm.rf e_4720 sM_0 (by decide)) (by decide) (by decide)) (dg_sm.uF (WF := [(0, 43)]) (WA := []) dg_sm.rf e_4722 sM_0 (by decide)) (by decide) (by decide)) I_4722 H.size) (cwV 2 hts (bw_V wB_1209 wB_1210 wB_1211 wB_881 wB_1208) rfl rfl rfl (by decide +kernel) ⟨Nat.le_of_ble_eq_true rfl, Nat.le_of_ble_eq_true rfl⟩) (dg_preV sM_0 rfl K ST hP hS hA1 hA) rfl rfl hl.1 rfl (lv_room (Nat.le_of_ble_eq_true rfl)) dX12_goesOn_593 ⟨Nat.le_of_ble_eq_true rfl, Nat.le_of_ble_eq_true rfl⟩) (fun S_4750 hw_4750 H locs hP hS => ?_)
                            obtain ⟨I_4750, m_4750, w_4750_0, w_4750_1, w_4750_2, -⟩ := hw_4750
                            have M_4750 := dg_sm.tr M_4722 m_4750 (by decide) (by decide)
                            have hz_4751 : (0 : Int32).toInt = 0 := by decide +kernel
                            obtain ⟨y_4752, f_y_4752, w_4750_0⟩ := w_4750_0
                            have w_4750_0 : (y_4752).toInt = (y_4716).toInt + 1 := w_4750_0
                            have b_y_4752 : 0 ≤ (y_4752).toInt ∧ (y_4752).toInt ≤ 1600 := dg_I.intb (lo := 0) (hi := 1600) I_4750 sM_0 (by decide +kernel) f_y_4752
                            have w_4750_1 : ADM S_4722 S_4750 x_4749 := w_4750_1
                            obtain ⟨x_4753, f_x_4753, b_x_4753⟩ := dg_I.int (i := 0) (k := 42) (lo := 0) (hi := 20) I_4714 sM_0 (by decide +kernel)
                            obtain ⟨x_4754, f_x_4754, b_x_4754⟩ := dg_I.int (i := 0) (k := 43) (lo := (-2147483648)) (hi := 2147483647) I_4714 sM_0 (by decide +kernel)
                            have P1_4750 : P1M S_4750 := P1M.close4 w_4714_3 f_x_4753 f_x_4754 f_y_4717 w_4714_1 (by omega) (fx := x_5) (by omega) ((congrFun ((m_4714.2 22 _ sM_22 (by decide)).1.trans (m_4233.2 22 _ sM_22 (by decide)).1) _).trans ex_7.symm) (by omega) e_4720 (by omega) e_4722 (by omega) hp25_x_4749 m_4750 w_4750_1
                            refine lv_iload_n hx hb dX12_goesOn_596 rfl (lv_at hl 1 rfl) ?_
                            refine lv_iconst (v := 5) hx hb dX12_goesOn_597 (by decide +kernel) ?_
                            refine lv_icmp_ne (tgt := 613) hx hb dX12_goesOn_598 (by decide) (fun _ => ?_) (fun c => absurd c (fun z => absurd (dk_eqc (k := 5) (by decide +kernel) z) (by omega)))
                            refine lv_aload_n hx hb dX12_goesOn_613 rfl (lv_at hl 3 rfl) ?_
                            refine dg_callv hS hA1 hA (va_runV (As := []) (rest := []) F (c_m_ahead l g D o S_4750 se (((m_4750.1 0 5 _ sM_0 (by decide)).trans ((dg_uF_ne e_4722 (fun z => absurd z.2 (by decide))).trans ((dg_uF_ne e_4720 (fun z => absurd z.2 (by decide))).trans ((m_4714.1 0 5 _ sM_0 (by decide)).trans ((m_4233.1 0 5 _ sM_0 (by decide)).trans (m_2.1 0 5 _ sM_0 (by decide))))))).trans f_se) (by omega) sl (((m_4750.1 0 2 _ sM_0 (by decide)).trans ((dg_uF_ne e_4722 (fun z => absurd z.2 (by decide))).trans ((dg_uF_ne e_4720 (fun z => absurd z.2 (by decide))).trans ((m_4714.1 0 2 _ sM_0 (by decide)).trans ((m_4233.1 0 2 _ sM_0 (by decide)).trans (m_2.1 0 2 _ sM_0 (by decide))))))).trans f_sl) (by omega) (by omega) I_4750 H.size) (cwV 0 hts (bw_V wB_1161 wB_1162 wB_1163 wB_881 wB_1160) rfl rfl rfl (by decide +kernel) ⟨Nat.le_of_ble_eq_true rfl, Nat.le_of_ble_eq_true rfl⟩) (dg_preV sM_0 rfl K ST hP hS hA1 hA) rfl rfl hl.1 rfl (lv_room (Nat.le_of_ble_eq_true rfl)) dX12_goesOn_614 ⟨Nat.le_of_ble_eq_true rfl, Nat.le_of_ble_eq_true rfl⟩) (fun S_4755 hw_4755 H locs hP hS => ?_)
                            obtain ⟨I_4755, m_4755, w_4755_0, -⟩ := hw_4755
                            have M_4755 := dg_sm.tr M_4750 m_4755 (by decide) (by decide)
                            obtain ⟨y_4756, y_4757, y_4758, f_y_4756, f_y_4757, f_y_4758, w_4755_0⟩ := w_4755_0
                            have w_4755_0 : (se).toInt ≤ (y_4757).toInt ∧ (y_4757).toInt ≤ (y_4758).toInt ∧ (y_4758).toInt ≤ (sl).toInt ∧ ((y_4756).toInt ≠ 0 → (y_4757).toInt + 1 ≤ (y_4758).toInt) := w_4755_0
                            have b_y_4756 : 0 ≤ (y_4756).toInt ∧ (y_4756).toInt ≤ 3 := dg_I.intb (lo := 0) (hi := 3) I_4755 sM_0 (by decide +kernel) f_y_4756
                            have b_y_4757 : 0 ≤ (y_4757).toInt ∧ (y_4757).toInt ≤ 1600 := dg_I.intb (lo := 0) (hi := 1600) I_4755 sM_0 (by decide +kernel) f_y_4757
                            have b_y_4758 : 0 ≤ (y_4758).toInt ∧ (y_4758).toInt ≤ 1600 := dg_I.intb (lo := 0) (hi := 1600) I_4755 sM_0 (by decide +kernel) f_y_4758
                            refine lv_iconst (v := 1) hx hb dX12_goesOn_617 (by decide +kernel) ?_
                            have hz_4759 : (1 : Int32).toInt = 1 := by decide +kernel
                            have hz_4760 : (1 : Int32).toInt = 1 := by decide +kernel
                            obtain ⟨x_4761, f_x_4761, b_x_4761⟩ := dg_I.int (i := 0) (k := 42) (lo := 0) (hi := 20) I_4755 sM_0 (by decide +kernel)
                            have hz_4762 : (1 : Int32).toInt = 1 := by decide +kernel
                            refine W.widen (k := 0) (n := 0) (Nat.le_of_ble_eq_true rfl) (Nat.le_of_ble_eq_true rfl) ?_
                            exact dg_iret hx hb hr hlocks (by decide +kernel) hP hS ⟨I_4755, M_4755, (by decide +kernel), ⟨y_4756, y_4757, y_4758, y_4235, y_4752, x_4761, y_4717, oo, f_y_4756, f_y_4757, f_y_4758, (((m_4755.1 0 8 _ sM_0 (by decide)).trans ((m_4750.1 0 8 _ sM_0 (by decide)).trans ((dg_uF_ne e_4722 (fun z => absurd z.2 (by decide))).trans ((dg_uF_ne e_4720 (fun z => absurd z.2 (by decide))).trans (m_4714.1 0 8 _ sM_0 (by decide)))))).trans f_y_4235), ((m_4755.1 0 34 _ sM_0 (by decide)).trans f_y_4752), f_x_4761, (((m_4755.1 0 45 _ sM_0 (by decide)).trans ((m_4750.1 0 45 _ sM_0 (by decide)).trans ((dg_uF_ne e_4722 (fun z => absurd z.2 (by decide))).trans (dg_uF_ne e_4720 (fun z => absurd z.2 (by decide)))))).trans f_y_4717), (((m_4755.1 0 46 _ sM_0 (by decide)).trans ((m_4750.1 0 46 _ sM_0 (by decide)).trans ((dg_uF_ne e_4722 (fun z => absurd z.2 (by decide))).trans ((dg_uF_ne e_4720 (fun z => absurd z.2 (by decide))).trans ((m_4714.1 0 46 _ sM_0 (by decide)).trans ((m_4233.1 0 46 _ sM_0 (by decide)).trans (m_2.1 0 46 _ sM_0 (by decide)))))))).trans f_oo), (by omega)⟩, (fun k9 hk9 hk0 => POM.mk1 (P1M.keep P1_4750 m_4755 (by decide) (by decide) (by decide) (by decide) (by decide) (by decide) (by decide) (by decide) (by decide) (by decide) (by decide) (by decide) (by decide) (by decide) (by decide)) (((m_4755.1 0 46 _ sM_0 (by decide)).trans ((m_4750.1 0 46 _ sM_0 (by decide)).trans ((dg_uF_ne e_4722 (fun z => absurd z.2 (by decide))).trans ((dg_uF_ne e_4720 (fun z => absurd z.2 (by decide))).trans ((m_4714.1 0 46 _ sM_0 (by decide)).trans ((m_4233.1 0 46 _ sM_0 (by decide)).trans (m_2.1 0 46 _ sM_0 (by decide)))))))).trans f_oo) (by omega)), (ZWM.keep w_4750_2 m_4755 (by decide) (by decide) (by decide) (by decide)), trivial⟩ dX12_goesOn_618
                        · have jc_4712 := dk_nlec (k := 0) (by decide +kernel) c_4712
                          refine lv_iconst (v := 0) hx hb dX12_goesOn_553 (by decide +kernel) ?_
                          have hz_4763 : (0 : Int32).toInt = 0 := by decide +kernel
                          have hz_4764 : (0 : Int32).toInt = 0 := by decide +kernel
                          have hz_4765 : (0 : Int32).toInt = 0 := by decide +kernel
                          refine W.widen (k := 0) (n := 0) (Nat.le_of_ble_eq_true rfl) (Nat.le_of_ble_eq_true rfl) ?_
                          exact dg_iret hx hb hr hlocks (by decide +kernel) hP hS ⟨I_4233, M_4233, (by decide +kernel), ⟨sg, sa, se, y_4235, cd, dp, om, oo, (((m_4233.1 0 3 _ sM_0 (by decide)).trans (m_2.1 0 3 _ sM_0 (by decide))).trans f_sg), (((m_4233.1 0 4 _ sM_0 (by decide)).trans (m_2.1 0 4 _ sM_0 (by decide))).trans f_sa), (((m_4233.1 0 5 _ sM_0 (by decide)).trans (m_2.1 0 5 _ sM_0 (by decide))).trans f_se), f_y_4235, (((m_4233.1 0 34 _ sM_0 (by decide)).trans (m_2.1 0 34 _ sM_0 (by decide))).trans f_cd), (((m_4233.1 0 42 _ sM_0 (by decide)).trans (m_2.1 0 42 _ sM_0 (by decide))).trans f_dp), (((m_4233.1 0 45 _ sM_0 (by decide)).trans (m_2.1 0 45 _ sM_0 (by decide))).trans f_om), (((m_4233.1 0 46 _ sM_0 (by decide)).trans (m_2.1 0 46 _ sM_0 (by decide))).trans f_oo), (by omega)⟩, (fun k9 hk9 hk0 => by have q9 := (f_y_4235).symm.trans hk9; cases q9; omega), (ZWM.keep (ZWM.keep ZW m_2 (by decide) (by decide) (by decide) (by decide)) m_4233 (by decide) (by decide) (by decide) (by decide)), trivial⟩ dX12_goesOn_554
                      · have jc_4711 := dk_eqc (k := 0) (by decide +kernel) c_4711
                        clear w_4710_1
                        refine lv_aload_n hx hb dX12_goesOn_537 rfl (lv_at hl 3 rfl) ?_
                        refine lv_iconst (v := 1) hx hb dX12_goesOn_538 (by decide +kernel) ?_
                        refine lv_aload_n hx hb dX12_goesOn_539 rfl (lv_at hl 3 rfl) ?_
                        refine dg_get (C := RX12) (T := TX12) (N := 77) hx hb hts (fun w h => bw_mem (wU_X12 w h)) hown K hP sM_0 rfl 4 (by decide) (hts _ (bw_mem wB_1145)) (fun _ h9 => h9) (v := .int sa) (((m_4233.1 0 4 _ sM_0 (by decide)).trans (m_2.1 0 4 _ sM_0 (by decide))).trans f_sa) dX12_goesOn_540 ?_
                        have hz_4766 : (1 : Int32).toInt = 1 := by decide +kernel
                        refine dg_callv hS hA1 hA (va_runV (As := [.int 1, .int sa]) (rest := []) F (c_m_blame l g D o S_4233 1 (by decide +kernel) sa y_4235 f_y_4235 (by omega) I_4233 H.size) (cwV 2 hts (bw_V wB_1137 wB_1138 wB_1139 wB_881 wB_1136) rfl rfl rfl (by decide +kernel) ⟨Nat.le_of_ble_eq_true rfl, Nat.le_of_ble_eq_true rfl⟩) (dg_preV sM_0 rfl K ST hP hS hA1 hA) rfl rfl hl.1 rfl (lv_room (Nat.le_of_ble_eq_true rfl)) dX12_goesOn_543 ⟨Nat.le_of_ble_eq_true rfl, Nat.le_of_ble_eq_true rfl⟩) (fun S_4767 hw_4767 H locs hP hS => ?_)
                        obtain ⟨I_4767, m_4767, w_4767_0, -⟩ := hw_4767
                        have M_4767 := dg_sm.tr M_4233 m_4767 (by decide) (by decide)
                        have hz_4768 : (1 : Int32).toInt = 1 := by decide +kernel
                        obtain ⟨y_4769, f_y_4769, w_4767_0⟩ := w_4767_0
                        have w_4767_0 : ((y_4235).toInt ≠ 0 → (y_4769).toInt = (y_4235).toInt) ∧ ((y_4235).toInt = 0 → (y_4769).toInt = ((1 : Int32)).toInt) := w_4767_0
                        have b_y_4769 : 0 ≤ (y_4769).toInt ∧ (y_4769).toInt ≤ 6 := dg_I.intb (lo := 0) (hi := 6) I_4767 sM_0 (by decide +kernel) f_y_4769
                        refine lv_aload_n hx hb dX12_goesOn_546 rfl (lv_at hl 3 rfl) ?_
                        refine dg_get (C := RX12) (T := TX12) (N := 77) hx hb hts (fun w h => bw_mem (wU_X12 w h)) hown K hP sM_0 rfl 8 (by decide) (hts _ (bw_mem wB_1133)) (fun _ h9 => h9) (v := .int y_4769) f_y_4769 dX12_goesOn_547 ?_
                        refine lv_if_le (tgt := 555) hx hb dX12_goesOn_550 (by decide) (fun c_4770 => ?_) (fun c_4770 => ?_)
                        · have jc_4770 := dk_lec (k := 0) (by decide +kernel) c_4770
                          refine lv_aload_n hx hb dX12_goesOn_555 rfl (lv_at hl 3 rfl) ?_
                          refine lv_iconst (v := 1) hx hb dX12_goesOn_556 (by decide +kernel) ?_
                          have hz_4771 : (1 : Int32).toInt = 1 := by decide +kernel
                          refine dg_callv hS hA1 hA (va_runV (As := [.int 1]) (rest := []) F (c_m_joins l g D o S_4767 1 (by decide +kernel) cd (((m_4767.1 0 34 _ sM_0 (by decide)).trans ((m_4233.1 0 34 _ sM_0 (by decide)).trans (m_2.1 0 34 _ sM_0 (by decide)))).trans f_cd) (by omega) om (((m_4767.1 0 45 _ sM_0 (by decide)).trans ((m_4233.1 0 45 _ sM_0 (by decide)).trans (m_2.1 0 45 _ sM_0 (by decide)))).trans f_om) (by omega) (by omega) (ZWM.keep (ZWM.keep (ZWM.keep ZW m_2 (by decide) (by decide) (by decide) (by decide)) m_4233 (by decide) (by decide) (by decide) (by decide)) m_4767 (by decide) (by decide) (by decide) (by decide)) (ZKM.keep (ZKM.keep (ZKM.keep ZK m_2 (by decide) (by decide)) m_4233 (by decide) (by decide)) m_4767 (by decide) (by decide)) (P1M.keep (P1M.keep (P1M.keep P1 m_2 (by decide) (by decide) (by decide) (by decide) (by decide) (by decide) (by decide) (by decide) (by decide) (by decide) (by decide) (by decide) (by decide) (by decide) (by decide)) m_4233 (by decide) (by decide) (by decide) (by decide) (by decide) (by decide) (by decide) (by decide) (by decide) (by decide) (by decide) (by decide) (by decide) (by decide) (by decide)) m_4767 (by decide) (by decide) (by decide) (by decide) (by decide) (by decide) (by decide) (by decide) (by decide) (by decide) (by decide) (by decide) (by decide) (by decide) (by decide)) I_4767 H.size) (cwV 1 hts (bw_V wB_1234 wB_1235 wB_1236 wB_881 wB_1233) rfl rfl rfl (by decide +kernel) ⟨Nat.le_of_ble_eq_true rfl, Nat.le_of_ble_eq_true rfl⟩) (dg_preV sM_0 rfl K ST hP hS hA1 hA) rfl rfl hl.1 rfl (lv_room (Nat.le_of_ble_eq_true rfl)) dX12_goesOn_557 ⟨Nat.le_of_ble_eq_true rfl, Nat.le_of_ble_eq_true rfl⟩) (fun S_4772 hw_4772 H locs hP hS => ?_)
                          obtain ⟨I_4772, m_4772, w_4772_0, w_4772_1, w_4772_2, w_4772_3, -⟩ := hw_4772
                          have M_4772 := dg_sm.tr M_4767 m_4772 (by decide) (by decide)
                          have hz_4773 : (1 : Int32).toInt = 1 := by decide +kernel
                          obtain ⟨y_4774, y_4775, f_y_4774, f_y_4775, w_4772_0⟩ := w_4772_0
                          have w_4772_0 : (y_4774).toInt + (y_4775).toInt = (cd).toInt + (om).toInt := w_4772_0
                          have b_y_4774 : 0 ≤ (y_4774).toInt ∧ (y_4774).toInt ≤ 1600 := dg_I.intb (lo := 0) (hi := 1600) I_4772 sM_0 (by decide +kernel) f_y_4774
                          have b_y_4775 : 0 ≤ (y_4775).toInt ∧ (y_4775).toInt ≤ 500 := dg_I.intb (lo := 0) (hi := 500) I_4772 sM_0 (by decide +kernel) f_y_4775
                          have w_4772_1 : TOPM S_4772 (1 : Int32) := w_4772_1
                          obtain ⟨x_4776, f_x_4776, b_x_4776⟩ := dg_I.int (i := 0) (k := 43) (lo := (-2147483648)) (hi := 2147483647) I_4772 sM_0 (by decide +kernel)
                          have hkd := PSM.kind w_4772_3 (((m_4772.1 0 42 _ sM_0 (by decide)).trans ((m_4767.1 0 42 _ sM_0 (by decide)).trans ((m_4233.1 0 42 _ sM_0 (by decide)).trans (m_2.1 0 42 _ sM_0 (by decide))))).trans f_dp) f_x_4776 f_y_4775 (fx := x_5) (by omega) ((congrFun ((m_4772.2 22 _ sM_22 (by decide)).1.trans ((m_4767.2 22 _ sM_22 (by decide)).1.trans (m_4233.2 22 _ sM_22 (by decide)).1)) _).trans ex_7.symm) (rfl : S_4772.2.1 25 (x_5 : Int32).toNatClampNeg = _)
                          unfold dk_fk at hkd
                          have hcl9 := dk_clN x_5
                          refine lv_aload_n hx hb dX12_goesOn_560 rfl (lv_at hl 3 rfl) ?_
                          refine lv_dup hx hb dX12_goesOn_561 rfl ?_
                          refine dg_get (C := RX12) (T := TX12) (N := 77) hx hb hts (fun w h => bw_mem (wU_X12 w h)) hown K hP sM_0 rfl 42 (by decide) (hts _ (bw_mem wB_1203)) (fun _ h9 => h9) (v := .int dp) (((m_4772.1 0 42 _ sM_0 (by decide)).trans ((m_4767.1 0 42 _ sM_0 (by decide)).trans ((m_4233.1 0 42 _ sM_0 (by decide)).trans (m_2.1 0 42 _ sM_0 (by decide))))).trans f_dp) dX12_goesOn_562 ?_
                          refine lv_iconst (v := 1) hx hb dX12_goesOn_565 (by decide +kernel) ?_
                          refine lv_isub hx hb dX12_goesOn_566 ?_
                          refine lv_topi (fun x_4777 ex_4777 => ?_)
                          have jx_4777 : (x_4777).toInt = (dp).toInt - 1 := by rw [ex_4777]; exact dk_subT rfl (by decide +kernel) (by omega) (by omega)
                          refine dg_put (ci := 12) (v := .int x_4777) (ty := tyX12 42) (C := RX12) (T := TX12) (N := 77) hx hb hts (fun w h => bw_mem (wU_X12 w h)) tyX12 tyX12_ok nmX12 hown K hP hS hA1 sM_0 rfl 42 (by decide) (hts _ (bw_mem wB_1203)) (fun _ h9 => h9) rfl (by decide +kernel) rfl rfl dX12_goesOn_567 (fun S_4778 e_4778 H locs hP hS => ?_)
                          have I_4778 := dg_I.uFi (lo := 0) (hi := 20) I_4772 e_4778 sM_0 (by decide +kernel) (show 0 ≤ (x_4777).toInt ∧ (x_4777).toInt ≤ 20 from (by omega))
                          have M_4778 := dg_sm.uF M_4772 e_4778 sM_0 (by decide)
                          refine lv_aload_n hx hb dX12_goesOn_570 rfl (lv_at hl 3 rfl) ?_
                          refine lv_dup hx hb dX12_goesOn_571 rfl ?_
                          refine dg_get (C := RX12) (T := TX12) (N := 77) hx hb hts (fun w h => bw_mem (wU_X12 w h)) hown K hP sM_0 rfl 43 (by decide) (hts _ (bw_mem wB_1212)) (fun _ h9 => h9) (v := .int x_4776) ((dg_uF_ne e_4778 (fun z => absurd z.2 (by decide))).trans f_x_4776) dX12_goesOn_572 ?_
                          refine lv_iconst (v := 1) hx hb dX12_goesOn_575 (by decide +kernel) ?_
                          refine lv_isub hx hb dX12_goesOn_576 ?_
                          refine lv_topi (fun x_4779 ex_4779 => ?_)
                          refine dg_put (ci := 12) (v := .int x_4779) (ty := tyX12 43) (C := RX12) (T := TX12) (N := 77) hx hb hts (fun w h => bw_mem (wU_X12 w h)) tyX12 tyX12_ok nmX12 hown K hP hS hA1 sM_0 rfl 43 (by decide) (hts _ (bw_mem wB_1212)) (fun _ h9 => h9) rfl (by decide +kernel) rfl rfl dX12_goesOn_577 (fun S_4780 e_4780 H locs hP hS => ?_)
                          have I_4780 := dg_I.uFi (lo := (-2147483648)) (hi := 2147483647) I_4778 e_4780 sM_0 (by decide +kernel) (show (-2147483648) ≤ (x_4779).toInt ∧ (x_4779).toInt ≤ 2147483647 from (dk_full _))
                          have M_4780 := dg_sm.uF M_4778 e_4780 sM_0 (by decide)
                          refine lv_iload_n hx hb dX12_goesOn_580 rfl (lv_at hl 1 rfl) ?_
                          refine lv_iconst (v := 4) hx hb dX12_goesOn_581 (by decide +kernel) ?_
                          refine lv_icmp_ne (tgt := 596) hx hb dX12_goesOn_582 (by decide) (fun c_4781 => ?_) (fun c_4781 => ?_)
                          · have jc_4781 := dk_neqc (k := 4) (by decide +kernel) c_4781
                            obtain ⟨x_4782, f_x_4782, b_x_4782⟩ := dg_I.int (i := 0) (k := 42) (lo := 0) (hi := 20) I_4772 sM_0 (by decide +kernel)
                            obtain ⟨x_4783, f_x_4783, b_x_4783⟩ := dg_I.int (i := 0) (k := 43) (lo := (-2147483648)) (hi := 2147483647) I_4772 sM_0 (by decide +kernel)
                            have P1_4780 : P1M S_4780 := P1M.close2 w_4772_3 f_x_4782 f_x_4783 f_y_4775 w_4772_1 (by omega) (fx := x_5) (by omega) ((congrFun ((m_4772.2 22 _ sM_22 (by decide)).1.trans ((m_4767.2 22 _ sM_22 (by decide)).1.trans (m_4233.2 22 _ sM_22 (by decide)).1)) _).trans ex_7.symm) (by omega) e_4778 (by omega) e_4780 (by omega)
                            refine lv_iload_n hx hb dX12_goesOn_596 rfl (lv_at hl 1 rfl) ?_
                            refine lv_iconst (v := 5) hx hb dX12_goesOn_597 (by decide +kernel) ?_
                            refine lv_icmp_ne (tgt := 613) hx hb dX12_goesOn_598 (by decide) (fun c_4784 => ?_) (fun c_4784 => ?_)
                            · have jc_4784 := dk_neqc (k := 5) (by decide +kernel) c_4784
                              refine lv_aload_n hx hb dX12_goesOn_613 rfl (lv_at hl 3 rfl) ?_
                              refine dg_callv hS hA1 hA (va_runV (As := []) (rest := []) F (c_m_ahead l g D o S_4780 se (((dg_uF_ne e_4780 (fun z => absurd z.2 (by decide))).trans ((dg_uF_ne e_4778 (fun z => absurd z.2 (by decide))).trans ((m_4772.1 0 5 _ sM_0 (by decide)).trans ((m_4767.1 0 5 _ sM_0 (by decide)).trans ((m_4233.1 0 5 _ sM_0 (by decide)).trans (m_2.1 0 5 _ sM_0 (by decide))))))).trans f_se) (by omega) sl (((dg_uF_ne e_4780 (fun z => absurd z.2 (by decide))).trans ((dg_uF_ne e_4778 (fun z => absurd z.2 (by decide))).trans ((m_4772.1 0 2 _ sM_0 (by decide)).trans ((m_4767.1 0 2 _ sM_0 (by decide)).trans ((m_4233.1 0 2 _ sM_0 (by decide)).trans (m_2.1 0 2 _ sM_0 (by decide))))))).trans f_sl) (by omega) (by omega) I_4780 H.size) (cwV 0 hts (bw_V wB_1161 wB_1162 wB_1163 wB_881 wB_1160) rfl rfl rfl (by decide +kernel) ⟨Nat.le_of_ble_eq_true rfl, Nat.le_of_ble_eq_true rfl⟩) (dg_preV sM_0 rfl K ST hP hS hA1 hA) rfl rfl hl.1 rfl (lv_room (Nat.le_of_ble_eq_true rfl)) dX12_goesOn_614 ⟨Nat.le_of_ble_eq_true rfl, Nat.le_of_ble_eq_true rfl⟩) (fun S_4785 hw_4785 H locs hP hS => ?_)
                              obtain ⟨I_4785, m_4785, w_4785_0, -⟩ := hw_4785
                              have M_4785 := dg_sm.tr M_4780 m_4785 (by decide) (by decide)
                              obtain ⟨y_4786, y_4787, y_4788, f_y_4786, f_y_4787, f_y_4788, w_4785_0⟩ := w_4785_0
                              have w_4785_0 : (se).toInt ≤ (y_4787).toInt ∧ (y_4787).toInt ≤ (y_4788).toInt ∧ (y_4788).toInt ≤ (sl).toInt ∧ ((y_4786).toInt ≠ 0 → (y_4787).toInt + 1 ≤ (y_4788).toInt) := w_4785_0
                              have b_y_4786 : 0 ≤ (y_4786).toInt ∧ (y_4786).toInt ≤ 3 := dg_I.intb (lo := 0) (hi := 3) I_4785 sM_0 (by decide +kernel) f_y_4786
                              have b_y_4787 : 0 ≤ (y_4787).toInt ∧ (y_4787).toInt ≤ 1600 := dg_I.intb (lo := 0) (hi := 1600) I_4785 sM_0 (by decide +kernel) f_y_4787
                              have b_y_4788 : 0 ≤ (y_4788).toInt ∧ (y_4788).toInt ≤ 1600 := dg_I.intb (lo := 0) (hi := 1600) I_4785 sM_0 (by decide +kernel) f_y_4788
                              refine lv_iconst (v := 1) hx hb dX12_goesOn_617 (by decide +kernel) ?_
                              have hz_4789 : (1 : Int32).toInt = 1 := by decide +kernel
                              have hz_4790 : (1 : Int32).toInt = 1 := by decide +kernel
                              obtain ⟨x_4791, f_x_4791, b_x_4791⟩ := dg_I.int (i := 0) (k := 42) (lo := 0) (hi := 20) I_4785 sM_0 (by decide +kernel)
                              have hz_4792 : (1 : Int32).toInt = 1 := by decide +kernel
                              refine W.widen (k := 0) (n := 0) (Nat.le_of_ble_eq_true rfl) (Nat.le_of_ble_eq_true rfl) ?_
                              exact dg_iret hx hb hr hlocks (by decide +kernel) hP hS ⟨I_4785, M_4785, (by decide +kernel), ⟨y_4786, y_4787, y_4788, y_4769, y_4774, x_4791, y_4775, oo, f_y_4786, f_y_4787, f_y_4788, (((m_4785.1 0 8 _ sM_0 (by decide)).trans ((dg_uF_ne e_4780 (fun z => absurd z.2 (by decide))).trans ((dg_uF_ne e_4778 (fun z => absurd z.2 (by decide))).trans (m_4772.1 0 8 _ sM_0 (by decide))))).trans f_y_4769), (((m_4785.1 0 34 _ sM_0 (by decide)).trans ((dg_uF_ne e_4780 (fun z => absurd z.2 (by decide))).trans (dg_uF_ne e_4778 (fun z => absurd z.2 (by decide))))).trans f_y_4774), f_x_4791, (((m_4785.1 0 45 _ sM_0 (by decide)).trans ((dg_uF_ne e_4780 (fun z => absurd z.2 (by decide))).trans (dg_uF_ne e_4778 (fun z => absurd z.2 (by decide))))).trans f_y_4775), (((m_4785.1 0 46 _ sM_0 (by decide)).trans ((dg_uF_ne e_4780 (fun z => absurd z.2 (by decide))).trans ((dg_uF_ne e_4778 (fun z => absurd z.2 (by decide))).trans ((m_4772.1 0 46 _ sM_0 (by decide)).trans ((m_4767.1 0 46 _ sM_0 (by decide)).trans ((m_4233.1 0 46 _ sM_0 (by decide)).trans (m_2.1 0 46 _ sM_0 (by decide)))))))).trans f_oo), (by omega)⟩, (fun k9 hk9 hk0 => POM.mk1 (P1M.keep P1_4780 m_4785 (by decide) (by decide) (by decide) (by decide) (by decide) (by decide) (by decide) (by decide) (by decide) (by decide) (by decide) (by decide) (by decide) (by decide) (by decide)) (((m_4785.1 0 46 _ sM_0 (by decide)).trans ((dg_uF_ne e_4780 (fun z => absurd z.2 (by decide))).trans ((dg_uF_ne e_4778 (fun z => absurd z.2 (by decide))).trans ((m_4772.1 0 46 _ sM_0 (by decide)).trans ((m_4767.1 0 46 _ sM_0 (by decide)).trans ((m_4233.1 0 46 _ sM_0 (by decide)).trans (m_2.1 0 46 _ sM_0 (by decide)))))))).trans f_oo) (by omega)), (ZWM.keep (ZWM.keep (ZWM.keep w_4772_2 (dg_sm.uF (WF := [(0, 42)]) (WA := []) dg_sm.rf e_4778 sM_0 (by decide)) (by decide) (by decide) (by decide) (by decide)) (dg_sm.uF (WF := [(0, 43)]) (WA := []) dg_sm.rf e_4780 sM_0 (by decide)) (by decide) (by decide) (by decide) (by decide)) m_4785 (by decide) (by decide) (by decide) (by decide)), trivial⟩ dX12_goesOn_618
                            · have jc_4784 := dk_eqc (k := 5) (by decide +kernel) c_4784
                              refine lv_aload_n hx hb dX12_goesOn_601 rfl (lv_at hl 3 rfl) ?_
                              refine dg_get (C := RX12) (T := TX12) (N := 77) hx hb hts (fun w h => bw_mem (wU_X12 w h)) hown K hP sM_0 rfl 38 (by decide) (hts _ (bw_mem wB_1214)) (fun _ h9 => h9) (v := .ref (o + 23)) (show S_4780.1 0 38 = .ref (o + 23) from dg_I.rel (d := 23) I_4780 sM_0 (by decide +kernel)) dX12_goesOn_602 ?_
                              refine lv_aload_n hx hb dX12_goesOn_605 rfl (lv_at hl 3 rfl) ?_
                              obtain ⟨x_4793, f_x_4793, b_x_4793⟩ := dg_I.int (i := 0) (k := 42) (lo := 0) (hi := 20) I_4780 sM_0 (by decide +kernel)
                              refine dg_get (C := RX12) (T := TX12) (N := 77) hx hb hts (fun w h => bw_mem (wU_X12 w h)) hown K hP sM_0 rfl 42 (by decide) (hts _ (bw_mem wB_1203)) (fun _ h9 => h9) (v := .int x_4793) f_x_4793 dX12_goesOn_606 ?_
                              refine lv_iconst (v := 1) hx hb dX12_goesOn_609 (by decide +kernel) ?_
                              refine lv_isub hx hb dX12_goesOn_610 ?_
                              refine lv_topi (fun x_4794 ex_4794 => ?_)
                              have jx_4794 : (x_4794).toInt = (x_4793).toInt - 1 := by rw [ex_4794]; exact dk_subT rfl (by decide +kernel) (by omega) (by omega)
                              refine lv_iconst (v := 2) hx hb dX12_goesOn_611 (by decide +kernel) ?_
                              have hin_4795 : vp_in x_4794 20 := (dk_inv (by omega) (by omega))
                              have hz_4797 : (2 : Int32).toInt = 2 := by decide +kernel
                              refine dg_iast hx hb K hP hS hA1 sM_23 hin_4795 dX12_goesOn_612 (fun S_4796 e_4796 H locs hP hS => ?_)
                              have I_4796 := dg_I.ufu (lo := 0) (hi := 2) I_4780 e_4796 sM_23 (by decide +kernel) (show 0 ≤ ((2 : Int32)).toInt ∧ ((2 : Int32)).toInt ≤ 2 from (by decide +kernel))
                              have M_4796 := dg_sm.uf M_4780 e_4796 sM_23 (by decide)
                              have hz_4798 : (2 : Int32).toInt = 2 := by decide +kernel
                              have P1_4796 : P1M S_4796 := P1M.close5 P1_4780 f_x_4793 (by omega) (by omega) (by omega) e_4796
                              refine lv_aload_n hx hb dX12_goesOn_613 rfl (lv_at hl 3 rfl) ?_
                              refine dg_callv hS hA1 hA (va_runV (As := []) (rest := []) F (c_m_ahead l g D o S_4796 se (((dg_uf_F e_4796 0 5).trans ((dg_uF_ne e_4780 (fun z => absurd z.2 (by decide))).trans ((dg_uF_ne e_4778 (fun z => absurd z.2 (by decide))).trans ((m_4772.1 0 5 _ sM_0 (by decide)).trans ((m_4767.1 0 5 _ sM_0 (by decide)).trans ((m_4233.1 0 5 _ sM_0 (by decide)).trans (m_2.1 0 5 _ sM_0 (by decide)))))))).trans f_se) (by omega) sl (((dg_uf_F e_4796 0 2).trans ((dg_uF_ne e_4780 (fun z => absurd z.2 (by decide))).trans ((dg_uF_ne e_4778 (fun z => absurd z.2 (by decide))).trans ((m_4772.1 0 2 _ sM_0 (by decide)).trans ((m_4767.1 0 2 _ sM_0 (by decide)).trans ((m_4233.1 0 2 _ sM_0 (by decide)).trans (m_2.1 0 2 _ sM_0 (by decide)))))))).trans f_sl) (by omega) (by omega) I_4796 H.size) (cwV 0 hts (bw_V wB_1161 wB_1162 wB_1163 wB_881 wB_1160) rfl rfl rfl (by decide +kernel) ⟨Nat.le_of_ble_eq_true rfl, Nat.le_of_ble_eq_true rfl⟩) (dg_preV sM_0 rfl K ST hP hS hA1 hA) rfl rfl hl.1 rfl (lv_room (Nat.le_of_ble_eq_true rfl)) dX12_goesOn_614 ⟨Nat.le_of_ble_eq_true rfl, Nat.le_of_ble_eq_true rfl⟩) (fun S_4799 hw_4799 H locs hP hS => ?_)
                              obtain ⟨I_4799, m_4799, w_4799_0, -⟩ := hw_4799
                              have M_4799 := dg_sm.tr M_4796 m_4799 (by decide) (by decide)
                              obtain ⟨y_4800, y_4801, y_4802, f_y_4800, f_y_4801, f_y_4802, w_4799_0⟩ := w_4799_0
                              have w_4799_0 : (se).toInt ≤ (y_4801).toInt ∧ (y_4801).toInt ≤ (y_4802).toInt ∧ (y_4802).toInt ≤ (sl).toInt ∧ ((y_4800).toInt ≠ 0 → (y_4801).toInt + 1 ≤ (y_4802).toInt) := w_4799_0
                              have b_y_4800 : 0 ≤ (y_4800).toInt ∧ (y_4800).toInt ≤ 3 := dg_I.intb (lo := 0) (hi := 3) I_4799 sM_0 (by decide +kernel) f_y_4800
                              have b_y_4801 : 0 ≤ (y_4801).toInt ∧ (y_4801).toInt ≤ 1600 := dg_I.intb (lo := 0) (hi := 1600) I_4799 sM_0 (by decide +kernel) f_y_4801
                              have b_y_4802 : 0 ≤ (y_4802).toInt ∧ (y_4802).toInt ≤ 1600 := dg_I.intb (lo := 0) (hi := 1600) I_4799 sM_0 (by decide +kernel) f_y_4802
                              refine lv_iconst (v := 1) hx hb dX12_goesOn_617 (by decide +kernel) ?_
                              have hz_4803 : (1 : Int32).toInt = 1 := by decide +kernel
                              have hz_4804 : (1 : Int32).toInt = 1 := by decide +kernel
                              have hz_4805 : (1 : Int32).toInt = 1 := by decide +kernel
                              refine W.widen (k := 0) (n := 0) (Nat.le_of_ble_eq_true rfl) (Nat.le_of_ble_eq_true rfl) ?_
                              exact dg_iret hx hb hr hlocks (by decide +kernel) hP hS ⟨I_4799, M_4799, (by decide +kernel), ⟨y_4800, y_4801, y_4802, y_4769, y_4774, x_4793, y_4775, oo, f_y_4800, f_y_4801, f_y_4802, (((m_4799.1 0 8 _ sM_0 (by decide)).trans ((dg_uf_F e_4796 0 8).trans ((dg_uF_ne e_4780 (fun z => absurd z.2 (by decide))).trans ((dg_uF_ne e_4778 (fun z => absurd z.2 (by decide))).trans (m_4772.1 0 8 _ sM_0 (by decide)))))).trans f_y_4769), (((m_4799.1 0 34 _ sM_0 (by decide)).trans ((dg_uf_F e_4796 0 34).trans ((dg_uF_ne e_4780 (fun z => absurd z.2 (by decide))).trans (dg_uF_ne e_4778 (fun z => absurd z.2 (by decide)))))).trans f_y_4774), (((m_4799.1 0 42 _ sM_0 (by decide)).trans (dg_uf_F e_4796 0 42)).trans f_x_4793), (((m_4799.1 0 45 _ sM_0 (by decide)).trans ((dg_uf_F e_4796 0 45).trans ((dg_uF_ne e_4780 (fun z => absurd z.2 (by decide))).trans (dg_uF_ne e_4778 (fun z => absurd z.2 (by decide)))))).trans f_y_4775), (((m_4799.1 0 46 _ sM_0 (by decide)).trans ((dg_uf_F e_4796 0 46).trans ((dg_uF_ne e_4780 (fun z => absurd z.2 (by decide))).trans ((dg_uF_ne e_4778 (fun z => absurd z.2 (by decide))).trans ((m_4772.1 0 46 _ sM_0 (by decide)).trans ((m_4767.1 0 46 _ sM_0 (by decide)).trans ((m_4233.1 0 46 _ sM_0 (by decide)).trans (m_2.1 0 46 _ sM_0 (by decide))))))))).trans f_oo), (by omega)⟩, (fun k9 hk9 hk0 => POM.mk1 (P1M.keep P1_4796 m_4799 (by decide) (by decide) (by decide) (by decide) (by decide) (by decide) (by decide) (by decide) (by decide) (by decide) (by decide) (by decide) (by decide) (by decide) (by decide)) (((m_4799.1 0 46 _ sM_0 (by decide)).trans ((dg_uf_F e_4796 0 46).trans ((dg_uF_ne e_4780 (fun z => absurd z.2 (by decide))).trans ((dg_uF_ne e_4778 (fun z => absurd z.2 (by decide))).trans ((m_4772.1 0 46 _ sM_0 (by decide)).trans ((m_4767.1 0 46 _ sM_0 (by decide)).trans ((m_4233.1 0 46 _ sM_0 (by decide)).trans (m_2.1 0 46 _ sM_0 (by decide))))))))).trans f_oo) (by omega)), (ZWM.keep (ZWM.keep (ZWM.keep (ZWM.keep w_4772_2 (dg_sm.uF (WF := [(0, 42)]) (WA := []) dg_sm.rf e_4778 sM_0 (by decide)) (by decide) (by decide) (by decide) (by decide)) (dg_sm.uF (WF := [(0, 43)]) (WA := []) dg_sm.rf e_4780 sM_0 (by decide)) (by decide) (by decide) (by decide) (by decide)) (dg_sm.uf (WF := []) (WA := [23]) dg_sm.rf e_4796 sM_23 (by decide)) (by decide) (by decide) (by decide) (by decide)) m_4799 (by decide) (by decide) (by decide) (by decide)), trivial⟩ dX12_goesOn_618
                          · have jc_4781 := dk_eqc (k := 4) (by decide +kernel) c_4781
                            refine lv_aload_n hx hb dX12_goesOn_585 rfl (lv_at hl 3 rfl) ?_
                            refine lv_aload_n hx hb dX12_goesOn_586 rfl (lv_at hl 3 rfl) ?_
                            refine dg_get (C := RX12) (T := TX12) (N := 77) hx hb hts (fun w h => bw_mem (wU_X12 w h)) hown K hP sM_0 rfl 40 (by decide) (hts _ (bw_mem wB_1232)) (fun _ h9 => h9) (v := .ref (o + 25)) (show S_4780.1 0 40 = .ref (o + 25) from dg_I.rel (d := 25) I_4780 sM_0 (by decide +kernel)) dX12_goesOn_587 ?_
                            refine lv_iload_n hx hb dX12_goesOn_590 rfl (lv_at hl 2 rfl) ?_
                            have hin_4806 : vp_in x_5 20 := (dk_inv (by omega) (by omega))
                            refine dg_iald hx hb K hP sM_25 hin_4806 dX12_goesOn_591 (fun x_4807 ex_4807 => ?_)
                            have hp25_x_4807 : S_4772.2.1 25 (x_5 : Int32).toNatClampNeg = x_4807 := by rw [ex_4807, (((dg_uF_f e_4780 25).trans (dg_uF_f e_4778 25)))]
                            rw [hp25_x_4807] at hkd
                            refine lv_iconst (v := 0) hx hb dX12_goesOn_592 (by decide +kernel) ?_
                            refine dg_callv hS hA1 hA (va_runV (As := [.int x_4807, .int 0]) (rest := []) F (c_m_add l g D o S_4780 x_4807 (by omega) 0 y_4774 (((dg_uF_ne e_4780 (fun z => absurd z.2 (by decide))).trans (dg_uF_ne e_4778 (fun z => absurd z.2 (by decide)))).trans f_y_4774) (by omega) (ZWM.keep (ZWM.keep w_4772_2 (dg_sm.uF (WF := [(0, 42)]) (WA := []) dg_sm.rf e_4778 sM_0 (by decide)) (by decide) (by decide) (by decide) (by decide)) (dg_sm.uF (WF := [(0, 43)]) (WA := []) dg_sm.rf e_4780 sM_0 (by decide)) (by decide) (by decide) (by decide) (by decide)) (ZKM.keep (ZKM.keep (ZKM.keep (ZKM.keep (ZKM.keep (ZKM.keep ZK m_2 (by decide) (by decide)) m_4233 (by decide) (by decide)) m_4767 (by decide) (by decide)) m_4772 (by decide) (by decide)) (dg_sm.uF (WF := [(0, 42)]) (WA := []) dg_sm.rf e_4778 sM_0 (by decide)) (by decide) (by decide)) (dg_sm.uF (WF := [(0, 43)]) (WA := []) dg_sm.rf e_4780 sM_0 (by decide)) (by decide) (by decide)) I_4780 H.size) (cwV 2 hts (bw_V wB_1209 wB_1210 wB_1211 wB_881 wB_1208) rfl rfl rfl (by decide +kernel) ⟨Nat.le_of_ble_eq_true rfl, Nat.le_of_ble_eq_true rfl⟩) (dg_preV sM_0 rfl K ST hP hS hA1 hA) rfl rfl hl.1 rfl (lv_room (Nat.le_of_ble_eq_true rfl)) dX12_goesOn_593 ⟨Nat.le_of_ble_eq_true rfl, Nat.le_of_ble_eq_true rfl⟩) (fun S_4808 hw_4808 H locs hP hS => ?_)
                            obtain ⟨I_4808, m_4808, w_4808_0, w_4808_1, w_4808_2, -⟩ := hw_4808
                            have M_4808 := dg_sm.tr M_4780 m_4808 (by decide) (by decide)
                            have hz_4809 : (0 : Int32).toInt = 0 := by decide +kernel
                            obtain ⟨y_4810, f_y_4810, w_4808_0⟩ := w_4808_0
                            have w_4808_0 : (y_4810).toInt = (y_4774).toInt + 1 := w_4808_0
                            have b_y_4810 : 0 ≤ (y_4810).toInt ∧ (y_4810).toInt ≤ 1600 := dg_I.intb (lo := 0) (hi := 1600) I_4808 sM_0 (by decide +kernel) f_y_4810
                            have w_4808_1 : ADM S_4780 S_4808 x_4807 := w_4808_1
                            obtain ⟨x_4811, f_x_4811, b_x_4811⟩ := dg_I.int (i := 0) (k := 42) (lo := 0) (hi := 20) I_4772 sM_0 (by decide +kernel)
                            obtain ⟨x_4812, f_x_4812, b_x_4812⟩ := dg_I.int (i := 0) (k := 43) (lo := (-2147483648)) (hi := 2147483647) I_4772 sM_0 (by decide +kernel)
                            have P1_4808 : P1M S_4808 := P1M.close4 w_4772_3 f_x_4811 f_x_4812 f_y_4775 w_4772_1 (by omega) (fx := x_5) (by omega) ((congrFun ((m_4772.2 22 _ sM_22 (by decide)).1.trans ((m_4767.2 22 _ sM_22 (by decide)).1.trans (m_4233.2 22 _ sM_22 (by decide)).1)) _).trans ex_7.symm) (by omega) e_4778 (by omega) e_4780 (by omega) hp25_x_4807 m_4808 w_4808_1
                            refine lv_iload_n hx hb dX12_goesOn_596 rfl (lv_at hl 1 rfl) ?_
                            refine lv_iconst (v := 5) hx hb dX12_goesOn_597 (by decide +kernel) ?_
                            refine lv_icmp_ne (tgt := 613) hx hb dX12_goesOn_598 (by decide) (fun _ => ?_) (fun c => absurd c (fun z => absurd (dk_eqc (k := 5) (by decide +kernel) z) (by omega)))
                            refine lv_aload_n hx hb dX12_goesOn_613 rfl (lv_at hl 3 rfl) ?_
                            refine dg_callv hS hA1 hA (va_runV (As := []) (rest := []) F (c_m_ahead l g D o S_4808 se (((m_4808.1 0 5 _ sM_0 (by decide)).trans ((dg_uF_ne e_4780 (fun z => absurd z.2 (by decide))).trans ((dg_uF_ne e_4778 (fun z => absurd z.2 (by decide))).trans ((m_4772.1 0 5 _ sM_0 (by decide)).trans ((m_4767.1 0 5 _ sM_0 (by decide)).trans ((m_4233.1 0 5 _ sM_0 (by decide)).trans (m_2.1 0 5 _ sM_0 (by decide)))))))).trans f_se) (by omega) sl (((m_4808.1 0 2 _ sM_0 (by decide)).trans ((dg_uF_ne e_4780 (fun z => absurd z.2 (by decide))).trans ((dg_uF_ne e_4778 (fun z => absurd z.2 (by decide))).trans ((m_4772.1 0 2 _ sM_0 (by decide)).trans ((m_4767.1 0 2 _ sM_0 (by decide)).trans ((m_4233.1 0 2 _ sM_0 (by decide)).trans (m_2.1 0 2 _ sM_0 (by decide)))))))).trans f_sl) (by omega) (by omega) I_4808 H.size) (cwV 0 hts (bw_V wB_1161 wB_1162 wB_1163 wB_881 wB_1160) rfl rfl rfl (by decide +kernel) ⟨Nat.le_of_ble_eq_true rfl, Nat.le_of_ble_eq_true rfl⟩) (dg_preV sM_0 rfl K ST hP hS hA1 hA) rfl rfl hl.1 rfl (lv_room (Nat.le_of_ble_eq_true rfl)) dX12_goesOn_614 ⟨Nat.le_of_ble_eq_true rfl, Nat.le_of_ble_eq_true rfl⟩) (fun S_4813 hw_4813 H locs hP hS => ?_)
                            obtain ⟨I_4813, m_4813, w_4813_0, -⟩ := hw_4813
                            have M_4813 := dg_sm.tr M_4808 m_4813 (by decide) (by decide)
                            obtain ⟨y_4814, y_4815, y_4816, f_y_4814, f_y_4815, f_y_4816, w_4813_0⟩ := w_4813_0
                            have w_4813_0 : (se).toInt ≤ (y_4815).toInt ∧ (y_4815).toInt ≤ (y_4816).toInt ∧ (y_4816).toInt ≤ (sl).toInt ∧ ((y_4814).toInt ≠ 0 → (y_4815).toInt + 1 ≤ (y_4816).toInt) := w_4813_0
                            have b_y_4814 : 0 ≤ (y_4814).toInt ∧ (y_4814).toInt ≤ 3 := dg_I.intb (lo := 0) (hi := 3) I_4813 sM_0 (by decide +kernel) f_y_4814
                            have b_y_4815 : 0 ≤ (y_4815).toInt ∧ (y_4815).toInt ≤ 1600 := dg_I.intb (lo := 0) (hi := 1600) I_4813 sM_0 (by decide +kernel) f_y_4815
                            have b_y_4816 : 0 ≤ (y_4816).toInt ∧ (y_4816).toInt ≤ 1600 := dg_I.intb (lo := 0) (hi := 1600) I_4813 sM_0 (by decide +kernel) f_y_4816
                            refine lv_iconst (v := 1) hx hb dX12_goesOn_617 (by decide +kernel) ?_
                            have hz_4817 : (1 : Int32).toInt = 1 := by decide +kernel
                            have hz_4818 : (1 : Int32).toInt = 1 := by decide +kernel
                            obtain ⟨x_4819, f_x_4819, b_x_4819⟩ := dg_I.int (i := 0) (k := 42) (lo := 0) (hi := 20) I_4813 sM_0 (by decide +kernel)
                            have hz_4820 : (1 : Int32).toInt = 1 := by decide +kernel
                            refine W.widen (k := 0) (n := 0) (Nat.le_of_ble_eq_true rfl) (Nat.le_of_ble_eq_true rfl) ?_
                            exact dg_iret hx hb hr hlocks (by decide +kernel) hP hS ⟨I_4813, M_4813, (by decide +kernel), ⟨y_4814, y_4815, y_4816, y_4769, y_4810, x_4819, y_4775, oo, f_y_4814, f_y_4815, f_y_4816, (((m_4813.1 0 8 _ sM_0 (by decide)).trans ((m_4808.1 0 8 _ sM_0 (by decide)).trans ((dg_uF_ne e_4780 (fun z => absurd z.2 (by decide))).trans ((dg_uF_ne e_4778 (fun z => absurd z.2 (by decide))).trans (m_4772.1 0 8 _ sM_0 (by decide)))))).trans f_y_4769), ((m_4813.1 0 34 _ sM_0 (by decide)).trans f_y_4810), f_x_4819, (((m_4813.1 0 45 _ sM_0 (by decide)).trans ((m_4808.1 0 45 _ sM_0 (by decide)).trans ((dg_uF_ne e_4780 (fun z => absurd z.2 (by decide))).trans (dg_uF_ne e_4778 (fun z => absurd z.2 (by decide)))))).trans f_y_4775), (((m_4813.1 0 46 _ sM_0 (by decide)).trans ((m_4808.1 0 46 _ sM_0 (by decide)).trans ((dg_uF_ne e_4780 (fun z => absurd z.2 (by decide))).trans ((dg_uF_ne e_4778 (fun z => absurd z.2 (by decide))).trans ((m_4772.1 0 46 _ sM_0 (by decide)).trans ((m_4767.1 0 46 _ sM_0 (by decide)).trans ((m_4233.1 0 46 _ sM_0 (by decide)).trans (m_2.1 0 46 _ sM_0 (by decide))))))))).trans f_oo), (by omega)⟩, (fun k9 hk9 hk0 => POM.mk1 (P1M.keep P1_4808 m_4813 (by decide) (by decide) (by decide) (by decide) (by decide) (by decide) (by decide) (by decide) (by decide) (by decide) (by decide) (by decide) (by decide) (by decide) (by decide)) (((m_4813.1 0 46 _ sM_0 (by decide)).trans ((m_4808.1 0 46 _ sM_0 (by decide)).trans ((dg_uF_ne e_4780 (fun z => absurd z.2 (by decide))).trans ((dg_uF_ne e_4778 (fun z => absurd z.2 (by decide))).trans ((m_4772.1 0 46 _ sM_0 (by decide)).trans ((m_4767.1 0 46 _ sM_0 (by decide)).trans ((m_4233.1 0 46 _ sM_0 (by decide)).trans (m_2.1 0 46 _ sM_0 (by decide))))))))).trans f_oo) (by omega)), (ZWM.keep w_4808_2 m_4813 (by decide) (by decide) (by decide) (by decide)), trivial⟩ dX12_goesOn_618
                        · have jc_4770 := dk_nlec (k := 0) (by decide +kernel) c_4770
                          refine lv_iconst (v := 0) hx hb dX12_goesOn_553 (by decide +kernel) ?_
                          have hz_4821 : (0 : Int32).toInt = 0 := by decide +kernel
                          have hz_4822 : (0 : Int32).toInt = 0 := by decide +kernel
                          have hz_4823 : (0 : Int32).toInt = 0 := by decide +kernel
                          refine W.widen (k := 0) (n := 0) (Nat.le_of_ble_eq_true rfl) (Nat.le_of_ble_eq_true rfl) ?_
                          exact dg_iret hx hb hr hlocks (by decide +kernel) hP hS ⟨I_4767, M_4767, (by decide +kernel), ⟨sg, sa, se, y_4769, cd, dp, om, oo, (((m_4767.1 0 3 _ sM_0 (by decide)).trans ((m_4233.1 0 3 _ sM_0 (by decide)).trans (m_2.1 0 3 _ sM_0 (by decide)))).trans f_sg), (((m_4767.1 0 4 _ sM_0 (by decide)).trans ((m_4233.1 0 4 _ sM_0 (by decide)).trans (m_2.1 0 4 _ sM_0 (by decide)))).trans f_sa), (((m_4767.1 0 5 _ sM_0 (by decide)).trans ((m_4233.1 0 5 _ sM_0 (by decide)).trans (m_2.1 0 5 _ sM_0 (by decide)))).trans f_se), f_y_4769, (((m_4767.1 0 34 _ sM_0 (by decide)).trans ((m_4233.1 0 34 _ sM_0 (by decide)).trans (m_2.1 0 34 _ sM_0 (by decide)))).trans f_cd), (((m_4767.1 0 42 _ sM_0 (by decide)).trans ((m_4233.1 0 42 _ sM_0 (by decide)).trans (m_2.1 0 42 _ sM_0 (by decide)))).trans f_dp), (((m_4767.1 0 45 _ sM_0 (by decide)).trans ((m_4233.1 0 45 _ sM_0 (by decide)).trans (m_2.1 0 45 _ sM_0 (by decide)))).trans f_om), (((m_4767.1 0 46 _ sM_0 (by decide)).trans ((m_4233.1 0 46 _ sM_0 (by decide)).trans (m_2.1 0 46 _ sM_0 (by decide)))).trans f_oo), (by omega)⟩, (fun k9 hk9 hk0 => by have q9 := (f_y_4769).symm.trans hk9; cases q9; omega), (ZWM.keep (ZWM.keep (ZWM.keep ZW m_2 (by decide) (by decide) (by decide) (by decide)) m_4233 (by decide) (by decide) (by decide) (by decide)) m_4767 (by decide) (by decide) (by decide) (by decide)), trivial⟩ dX12_goesOn_554
                    refine lv_icmp_ne (tgt := 529) hx hb dX12_goesOn_521 (by decide) (fun c_4824 => ?_) (fun c_4824 => ?_)
                    · have jc_4824 := dk_neqc (k := 5) (by decide +kernel) c_4824
                      refine lv_bipush (v := 41) hx hb dX12_goesOn_529 (by decide +kernel) ?_
                      have hz_4825 : (41 : Int32).toInt = 41 := by decide +kernel
                      exact J_4708 41 (by decide +kernel) _ _ hP hS _ (lv_sub hl [0, 1, 2, 3] rfl)
                    · have jc_4824 := dk_eqc (k := 5) (by decide +kernel) c_4824
                      refine lv_bipush (v := 93) hx hb dX12_goesOn_524 (by decide +kernel) ?_
                      refine lv_goto (tgt := 531) hx hb dX12_goesOn_526 (by decide) ?_
                      have hz_4826 : (93 : Int32).toInt = 93 := by decide +kernel
                      exact J_4708 93 (by decide +kernel) _ _ hP hS _ (lv_sub hl [0, 1, 2, 3] rfl)
                  · have jc_4590 := dk_eqc (k := 6) (by decide +kernel) c_4590
                    exact J_4472  (by omega) _ _ hP hS _ (lv_sub hl [0, 1, 2, 3] rfl)
              · have jc_4236 := dk_ngec (k := 2) (by decide +kernel) c_4236
                refine lv_aload_n hx hb dX12_goesOn_427 rfl (lv_at hl 3 rfl) ?_
                refine dg_get (C := RX12) (T := TX12) (N := 77) hx hb hts (fun w h => bw_mem (wU_X12 w h)) hown K hP sM_0 rfl 8 (by decide) (hts _ (bw_mem wB_1133)) (fun _ h9 => h9) (v := .int y_4235) f_y_4235 dX12_goesOn_428 ?_
                refine lv_if_ne (tgt := 439) hx hb dX12_goesOn_431 (by decide) (fun c_4827 => ?_) (fun c_4827 => ?_)
                · have jc_4827 := dk_neqc (k := 0) (by decide +kernel) c_4827
                  refine lv_iconst (v := 0) hx hb dX12_goesOn_439 (by decide +kernel) ?_
                  have hz_4828 : (0 : Int32).toInt = 0 := by decide +kernel
                  have hz_4829 : (0 : Int32).toInt = 0 := by decide +kernel
                  have hz_4830 : (0 : Int32).toInt = 0 := by decide +kernel
                  refine W.widen (k := 0) (n := 0) (Nat.le_of_ble_eq_true rfl) (Nat.le_of_ble_eq_true rfl) ?_
                  exact dg_iret hx hb hr hlocks (by decide +kernel) hP hS ⟨I_4233, M_4233, (by decide +kernel), ⟨sg, sa, se, y_4235, cd, dp, om, oo, (((m_4233.1 0 3 _ sM_0 (by decide)).trans (m_2.1 0 3 _ sM_0 (by decide))).trans f_sg), (((m_4233.1 0 4 _ sM_0 (by decide)).trans (m_2.1 0 4 _ sM_0 (by decide))).trans f_sa), (((m_4233.1 0 5 _ sM_0 (by decide)).trans (m_2.1 0 5 _ sM_0 (by decide))).trans f_se), f_y_4235, (((m_4233.1 0 34 _ sM_0 (by decide)).trans (m_2.1 0 34 _ sM_0 (by decide))).trans f_cd), (((m_4233.1 0 42 _ sM_0 (by decide)).trans (m_2.1 0 42 _ sM_0 (by decide))).trans f_dp), (((m_4233.1 0 45 _ sM_0 (by decide)).trans (m_2.1 0 45 _ sM_0 (by decide))).trans f_om), (((m_4233.1 0 46 _ sM_0 (by decide)).trans (m_2.1 0 46 _ sM_0 (by decide))).trans f_oo), (by omega)⟩, (fun k9 hk9 hk0 => by have q9 := (f_y_4235).symm.trans hk9; cases q9; omega), (ZWM.keep (ZWM.keep ZW m_2 (by decide) (by decide) (by decide) (by decide)) m_4233 (by decide) (by decide) (by decide) (by decide)), trivial⟩ dX12_goesOn_440
                · have jc_4827 := dk_eqc (k := 0) (by decide +kernel) c_4827
                  refine lv_aload_n hx hb dX12_goesOn_434 rfl (lv_at hl 3 rfl) ?_
                  refine lv_iconst (v := 1) hx hb dX12_goesOn_435 (by decide +kernel) ?_
                  have hz_4831 : (1 : Int32).toInt = 1 := by decide +kernel
                  refine dg_callv hS hA1 hA (va_runV (As := [.int 1]) (rest := []) F (c_m_joins l g D o S_4233 1 (by decide +kernel) cd (((m_4233.1 0 34 _ sM_0 (by decide)).trans (m_2.1 0 34 _ sM_0 (by decide))).trans f_cd) (by omega) om (((m_4233.1 0 45 _ sM_0 (by decide)).trans (m_2.1 0 45 _ sM_0 (by decide))).trans f_om) (by omega) (by omega) (ZWM.keep (ZWM.keep ZW m_2 (by decide) (by decide) (by decide) (by decide)) m_4233 (by decide) (by decide) (by decide) (by decide)) (ZKM.keep (ZKM.keep ZK m_2 (by decide) (by decide)) m_4233 (by decide) (by decide)) (P1M.keep (P1M.keep P1 m_2 (by decide) (by decide) (by decide) (by decide) (by decide) (by decide) (by decide) (by decide) (by decide) (by decide) (by decide) (by decide) (by decide) (by decide) (by decide)) m_4233 (by decide) (by decide) (by decide) (by decide) (by decide) (by decide) (by decide) (by decide) (by decide) (by decide) (by decide) (by decide) (by decide) (by decide) (by decide)) I_4233 H.size) (cwV 1 hts (bw_V wB_1234 wB_1235 wB_1236 wB_881 wB_1233) rfl rfl rfl (by decide +kernel) ⟨Nat.le_of_ble_eq_true rfl, Nat.le_of_ble_eq_true rfl⟩) (dg_preV sM_0 rfl K ST hP hS hA1 hA) rfl rfl hl.1 rfl (lv_room (Nat.le_of_ble_eq_true rfl)) dX12_goesOn_436 ⟨Nat.le_of_ble_eq_true rfl, Nat.le_of_ble_eq_true rfl⟩) (fun S_4832 hw_4832 H locs hP hS => ?_)
                  obtain ⟨I_4832, m_4832, w_4832_0, w_4832_1, w_4832_2, w_4832_3, -⟩ := hw_4832
                  have M_4832 := dg_sm.tr M_4233 m_4832 (by decide) (by decide)
                  have hz_4833 : (1 : Int32).toInt = 1 := by decide +kernel
                  obtain ⟨y_4834, y_4835, f_y_4834, f_y_4835, w_4832_0⟩ := w_4832_0
                  have w_4832_0 : (y_4834).toInt + (y_4835).toInt = (cd).toInt + (om).toInt := w_4832_0
                  have b_y_4834 : 0 ≤ (y_4834).toInt ∧ (y_4834).toInt ≤ 1600 := dg_I.intb (lo := 0) (hi := 1600) I_4832 sM_0 (by decide +kernel) f_y_4834
                  have b_y_4835 : 0 ≤ (y_4835).toInt ∧ (y_4835).toInt ≤ 500 := dg_I.intb (lo := 0) (hi := 500) I_4832 sM_0 (by decide +kernel) f_y_4835
                  have w_4832_1 : TOPM S_4832 (1 : Int32) := w_4832_1
                  refine lv_iconst (v := 0) hx hb dX12_goesOn_439 (by decide +kernel) ?_
                  have hz_4836 : (0 : Int32).toInt = 0 := by decide +kernel
                  have hz_4837 : (0 : Int32).toInt = 0 := by decide +kernel
                  have hz_4838 : (0 : Int32).toInt = 0 := by decide +kernel
                  refine W.widen (k := 0) (n := 0) (Nat.le_of_ble_eq_true rfl) (Nat.le_of_ble_eq_true rfl) ?_
                  exact dg_iret hx hb hr hlocks (by decide +kernel) hP hS ⟨I_4832, M_4832, (by decide +kernel), ⟨sg, sa, se, y_4235, y_4834, dp, y_4835, oo, (((m_4832.1 0 3 _ sM_0 (by decide)).trans ((m_4233.1 0 3 _ sM_0 (by decide)).trans (m_2.1 0 3 _ sM_0 (by decide)))).trans f_sg), (((m_4832.1 0 4 _ sM_0 (by decide)).trans ((m_4233.1 0 4 _ sM_0 (by decide)).trans (m_2.1 0 4 _ sM_0 (by decide)))).trans f_sa), (((m_4832.1 0 5 _ sM_0 (by decide)).trans ((m_4233.1 0 5 _ sM_0 (by decide)).trans (m_2.1 0 5 _ sM_0 (by decide)))).trans f_se), ((m_4832.1 0 8 _ sM_0 (by decide)).trans f_y_4235), f_y_4834, (((m_4832.1 0 42 _ sM_0 (by decide)).trans ((m_4233.1 0 42 _ sM_0 (by decide)).trans (m_2.1 0 42 _ sM_0 (by decide)))).trans f_dp), f_y_4835, (((m_4832.1 0 46 _ sM_0 (by decide)).trans ((m_4233.1 0 46 _ sM_0 (by decide)).trans (m_2.1 0 46 _ sM_0 (by decide)))).trans f_oo), (by omega)⟩, (fun k9 hk9 hk0 => POM.mk1 w_4832_3 (((m_4832.1 0 46 _ sM_0 (by decide)).trans ((m_4233.1 0 46 _ sM_0 (by decide)).trans (m_2.1 0 46 _ sM_0 (by decide)))).trans f_oo) (by omega)), w_4832_2, trivial⟩ dX12_goesOn_440
        refine lv_if_eq (tgt := 400) hx hb dX12_goesOn_286 (by decide) (fun c_4839 => ?_) (fun c_4839 => ?_)
        · have jc_4839 := dk_eqc (k := 0) (by decide +kernel) c_4839
          exact J_3069   _ _ hP hS _ (lv_sub hl [0, 1, 2, 3] rfl)
        · have jc_4839 := dk_neqc (k := 0) (by decide +kernel) c_4839
          refine lv_aload_n hx hb dX12_goesOn_289 rfl (lv_at hl 3 rfl) ?_
          refine lv_ldc2 hx hb hown (hts _ (bw_mem wB_1190)) dX12_goesOn_290 ?_
          refine dg_calli hS hA1 hA (va_runV (As := [.long 6385252]) (rest := []) F (c_m_isWord l g D o S_2 6385252 sg ((m_2.1 0 3 _ sM_0 (by decide)).trans f_sg) (by omega) I_2 H.size) (cwV 1 hts (bw_V wB_1165 wB_1166 wB_1167 wB_881 wB_1164) rfl rfl rfl (by decide +kernel) ⟨Nat.le_of_ble_eq_true rfl, Nat.le_of_ble_eq_true rfl⟩) (dg_preV sM_0 rfl K ST hP hS hA1 hA) rfl rfl hl.1 rfl (lv_room (Nat.le_of_ble_eq_true rfl)) dX12_goesOn_293 ⟨Nat.le_of_ble_eq_true rfl, Nat.le_of_ble_eq_true rfl⟩) (fun x_4840 S_4841 hw_4841 H locs hP hS => ?_)
          rw [hw_4841.1] at hP
          obtain ⟨hq_4841, w_4841_0, w_4841_1, -⟩ := hw_4841
          have w_4841_0 : 0 ≤ (x_4840).toInt ∧ (x_4840).toInt ≤ 1 := w_4841_0
          have w_4841_1 : (x_4840).toInt = 1 → (sg).toInt = 1 := w_4841_1
          have J_4979 : ((sg).toInt = 1) → ∀ (H : Heap) (locs : List Loc), va_P D vwCl (dg_w g shM o rfM S_2) H → va_S A s.heap H locs → ∀ ls : Array Slot, lv_has ls 5 [(3, .int x_8), (2, .int x_7), (1, .int x_5), (0, .ref (o + 0))] → W p l e ({ frames := 3, cells := 0, slots := 0, locals := 77 } : Room) s m args below meth c H locs 0 0 (MQ below (va_Qi (fun (r : Int32) S' => CM o S' ∧ dg_sm shM [(0, 3), (0, 4), (0, 5), (0, 6), (0, 7), (0, 8), (0, 9), (0, 12), (0, 34), (0, 42), (0, 43), (0, 45), (0, 46)] [18, 19, 22, 23, 24, 27] S S' ∧ (0 ≤ (r).toInt ∧ (r).toInt ≤ 1) ∧ (∃ y9_3 y9_4 y9_5 y9_8 y9_34 y9_42 y9_45 y9_46 : Int32, S'.1 0 3 = .int y9_3 ∧ S'.1 0 4 = .int y9_4 ∧ S'.1 0 5 = .int y9_5 ∧ S'.1 0 8 = .int y9_8 ∧ S'.1 0 34 = .int y9_34 ∧ S'.1 0 42 = .int y9_42 ∧ S'.1 0 45 = .int y9_45 ∧ S'.1 0 46 = .int y9_46 ∧ (((y9_4).toInt ≤ (y9_5).toInt ∧ (y9_5).toInt ≤ (sl).toInt ∧ ((y9_3).toInt ≠ 0 → (y9_4).toInt + 1 ≤ (y9_5).toInt)) ∧ (sa).toInt ≤ (y9_4).toInt ∧ ((fk).toInt ≠ 0 → (y9_8).toInt ≠ 0) ∧ (((y9_8).toInt = 0 → (r).toInt = 1 → (sa).toInt + 1 ≤ (y9_4).toInt) ∧ ((y9_8).toInt = 0 → (y9_34).toInt + (y9_45).toInt + (y9_42).toInt ≤ (y9_4).toInt)))) ∧ (∀ k9 : Int32, S'.1 0 8 = .int k9 → k9.toInt = 0 → POM S') ∧ ZWM S' ∧ True) (dg_B g D shM o rfM) A) args s 0 0 A) (F0 m 309 ls []) := by
            intro rel_0 H locs hP hS ls hl
            refine lv_aload_n hx hb dX12_goesOn_309 rfl (lv_at hl 3 rfl) ?_
            refine dg_get (C := RX12) (T := TX12) (N := 77) hx hb hts (fun w h => bw_mem (wU_X12 w h)) hown K hP sM_0 rfl 38 (by decide) (hts _ (bw_mem wB_1214)) (fun _ h9 => h9) (v := .ref (o + 23)) (show S_2.1 0 38 = .ref (o + 23) from dg_I.rel (d := 23) I_2 sM_0 (by decide +kernel)) dX12_goesOn_310 ?_
            refine lv_iload_n hx hb dX12_goesOn_313 rfl (lv_at hl 2 rfl) ?_
            have hin_4980 : vp_in x_5 20 := (dk_inv (by omega) (by omega))
            refine dg_iald hx hb K hP sM_23 hin_4980 dX12_goesOn_314 (fun y_4981 ey_4981 => ?_)
            obtain rfl : x_11 = y_4981 := (ey_4981.trans ex_11.symm).symm
            refine lv_if_ne (tgt := 327) hx hb dX12_goesOn_315 (by decide) (fun c_4982 => ?_) (fun c_4982 => ?_)
            · have jc_4982 := dk_neqc (k := 0) (by decide +kernel) c_4982
              refine lv_aload_n hx hb dX12_goesOn_327 rfl (lv_at hl 3 rfl) ?_
              refine dg_get (C := RX12) (T := TX12) (N := 77) hx hb hts (fun w h => bw_mem (wU_X12 w h)) hown K hP sM_0 rfl 8 (by decide) (hts _ (bw_mem wB_1133)) (fun _ h9 => h9) (v := .int y_3) f_y_3 dX12_goesOn_328 ?_
              refine lv_if_le (tgt := 336) hx hb dX12_goesOn_331 (by decide) (fun _ => ?_) (fun c => absurd (dk_lep (k := 0) (by decide +kernel) (by omega)) c)
              refine lv_aload_n hx hb dX12_goesOn_336 rfl (lv_at hl 3 rfl) ?_
              refine lv_ldc2 hx hb hown (hts _ (bw_mem wB_1190)) dX12_goesOn_337 ?_
              refine dg_calli hS hA1 hA (va_runV (As := [.long 6385252]) (rest := []) F (c_m_isWord l g D o S_2 6385252 sg ((m_2.1 0 3 _ sM_0 (by decide)).trans f_sg) (by omega) I_2 H.size) (cwV 1 hts (bw_V wB_1165 wB_1166 wB_1167 wB_881 wB_1164) rfl rfl rfl (by decide +kernel) ⟨Nat.le_of_ble_eq_true rfl, Nat.le_of_ble_eq_true rfl⟩) (dg_preV sM_0 rfl K ST hP hS hA1 hA) rfl rfl hl.1 rfl (lv_room (Nat.le_of_ble_eq_true rfl)) dX12_goesOn_340 ⟨Nat.le_of_ble_eq_true rfl, Nat.le_of_ble_eq_true rfl⟩) (fun x_4983 S_4984 hw_4984 H locs hP hS => ?_)
              rw [hw_4984.1] at hP
              obtain ⟨hq_4984, w_4984_0, w_4984_1, -⟩ := hw_4984
              have w_4984_0 : 0 ≤ (x_4983).toInt ∧ (x_4983).toInt ≤ 1 := w_4984_0
              have w_4984_1 : (x_4983).toInt = 1 → (sg).toInt = 1 := w_4984_1
              refine lv_istore (lv' := [(4, .int x_4983), (3, .int x_8), (2, .int x_7), (1, .int x_5), (0, .ref (o + 0))]) hx hb dX12_goesOn_343 hl (by decide) rfl (fun ls hl => ?_)
              refine lv_aload_n hx hb dX12_goesOn_345 rfl (lv_at hl 4 rfl) ?_
              refine lv_iload hx hb dX12_goesOn_346 (lv_at hl 0 rfl) ?_
              refine lv_if_eq (tgt := 355) hx hb dX12_goesOn_348 (by decide) (fun c_4985 => ?_) (fun c_4985 => ?_)
              · have jc_4985 := dk_eqc (k := 0) (by decide +kernel) c_4985
                clear w_4984_1
                refine lv_iconst (v := 1) hx hb dX12_goesOn_355 (by decide +kernel) ?_
                have hz_4986 : (1 : Int32).toInt = 1 := by decide +kernel
                refine dg_callv hS hA1 hA (va_runV (As := [.int 1]) (rest := []) F (c_m_joins l g D o S_2 1 (by decide +kernel) cd ((m_2.1 0 34 _ sM_0 (by decide)).trans f_cd) (by omega) om ((m_2.1 0 45 _ sM_0 (by decide)).trans f_om) (by omega) (by omega) (ZWM.keep ZW m_2 (by decide) (by decide) (by decide) (by decide)) (ZKM.keep ZK m_2 (by decide) (by decide)) (P1M.keep P1 m_2 (by decide) (by decide) (by decide) (by decide) (by decide) (by decide) (by decide) (by decide) (by decide) (by decide) (by decide) (by decide) (by decide) (by decide) (by decide)) I_2 H.size) (cwV 1 hts (bw_V wB_1234 wB_1235 wB_1236 wB_881 wB_1233) rfl rfl rfl (by decide +kernel) ⟨Nat.le_of_ble_eq_true rfl, Nat.le_of_ble_eq_true rfl⟩) (dg_preV sM_0 rfl K ST hP hS hA1 hA) rfl rfl hl.1 rfl (lv_room (Nat.le_of_ble_eq_true rfl)) dX12_goesOn_356 ⟨Nat.le_of_ble_eq_true rfl, Nat.le_of_ble_eq_true rfl⟩) (fun S_4987 hw_4987 H locs hP hS => ?_)
                obtain ⟨I_4987, m_4987, w_4987_0, w_4987_1, w_4987_2, w_4987_3, -⟩ := hw_4987
                have M_4987 := dg_sm.tr M_2 m_4987 (by decide) (by decide)
                have hz_4988 : (1 : Int32).toInt = 1 := by decide +kernel
                obtain ⟨y_4989, y_4990, f_y_4989, f_y_4990, w_4987_0⟩ := w_4987_0
                have w_4987_0 : (y_4989).toInt + (y_4990).toInt = (cd).toInt + (om).toInt := w_4987_0
                have b_y_4989 : 0 ≤ (y_4989).toInt ∧ (y_4989).toInt ≤ 1600 := dg_I.intb (lo := 0) (hi := 1600) I_4987 sM_0 (by decide +kernel) f_y_4989
                have b_y_4990 : 0 ≤ (y_4990).toInt ∧ (y_4990).toInt ≤ 500 := dg_I.intb (lo := 0) (hi := 500) I_4987 sM_0 (by decide +kernel) f_y_4990
                have w_4987_1 : TOPM S_4987 (1 : Int32) := w_4987_1
                refine lv_aload_n hx hb dX12_goesOn_359 rfl (lv_at hl 4 rfl) ?_
                refine lv_iload hx hb dX12_goesOn_360 (lv_at hl 0 rfl) ?_
                refine lv_if_eq (tgt := 370) hx hb dX12_goesOn_362 (by decide) (fun _ => ?_) (fun c => absurd (dk_eqp (k := 0) (by decide +kernel) (by omega)) c)
                refine lv_bipush (v := 42) hx hb dX12_goesOn_370 (by decide +kernel) ?_
                refine dg_callv hS hA1 hA (va_runV (As := [.int 42]) (rest := []) F (c_m_holdsBack l g D o S_4987 42 y_4990 f_y_4990 (by omega) I_4987 H.size) (cwV 1 hts (bw_V wB_1224 wB_1225 wB_1226 wB_881 wB_1223) rfl rfl rfl (by decide +kernel) ⟨Nat.le_of_ble_eq_true rfl, Nat.le_of_ble_eq_true rfl⟩) (dg_preV sM_0 rfl K ST hP hS hA1 hA) rfl rfl hl.1 rfl (lv_room (Nat.le_of_ble_eq_true rfl)) dX12_goesOn_372 ⟨Nat.le_of_ble_eq_true rfl, Nat.le_of_ble_eq_true rfl⟩) (fun S_4991 hw_4991 H locs hP hS => ?_)
                obtain ⟨I_4991, m_4991, w_4991_0, w_4991_1, -⟩ := hw_4991
                have M_4991 := dg_sm.tr M_4987 m_4991 (by decide) (by decide)
                have hz_4992 : (42 : Int32).toInt = 42 := by decide +kernel
                obtain ⟨y_4993, f_y_4993, w_4991_0⟩ := w_4991_0
                have w_4991_0 : (y_4993).toInt = (y_4990).toInt + 1 := w_4991_0
                have b_y_4993 : 0 ≤ (y_4993).toInt ∧ (y_4993).toInt ≤ 500 := dg_I.intb (lo := 0) (hi := 500) I_4991 sM_0 (by decide +kernel) f_y_4993
                have w_4991_1 : HBM S_4987 S_4991 (42 : Int32) := w_4991_1
                refine lv_aload_n hx hb dX12_goesOn_375 rfl (lv_at hl 4 rfl) ?_
                refine dg_get (C := RX12) (T := TX12) (N := 77) hx hb hts (fun w h => bw_mem (wU_X12 w h)) hown K hP sM_0 rfl 38 (by decide) (hts _ (bw_mem wB_1214)) (fun _ h9 => h9) (v := .ref (o + 23)) (show S_4991.1 0 38 = .ref (o + 23) from dg_I.rel (d := 23) I_4991 sM_0 (by decide +kernel)) dX12_goesOn_376 ?_
                refine lv_iload_n hx hb dX12_goesOn_379 rfl (lv_at hl 3 rfl) ?_
                refine lv_iconst (v := 0) hx hb dX12_goesOn_380 (by decide +kernel) ?_
                have hin_4994 : vp_in x_5 20 := (dk_inv (by omega) (by omega))
                have hz_4996 : (0 : Int32).toInt = 0 := by decide +kernel
                refine dg_iast hx hb K hP hS hA1 sM_23 hin_4994 dX12_goesOn_381 (fun S_4995 e_4995 H locs hP hS => ?_)
                have I_4995 := dg_I.ufu (lo := 0) (hi := 2) I_4991 e_4995 sM_23 (by decide +kernel) (show 0 ≤ ((0 : Int32)).toInt ∧ ((0 : Int32)).toInt ≤ 2 from (by decide +kernel))
                have M_4995 := dg_sm.uf M_4991 e_4995 sM_23 (by decide)
                obtain ⟨x_4997, f_x_4997, b_x_4997⟩ := dg_I.int (i := 0) (k := 43) (lo := (-2147483648)) (hi := 2147483647) I_4987 sM_0 (by decide +kernel)
                obtain ⟨x_4998, f_x_4998, b_x_4998⟩ := dg_I.int (i := 0) (k := 45) (lo := 0) (hi := 500) I_4987 sM_0 (by decide +kernel)
                have hz_4999 : (0 : Int32).toInt = 0 := by decide +kernel
                refine lv_aload_n hx hb dX12_goesOn_382 rfl (lv_at hl 4 rfl) ?_
                refine dg_get (C := RX12) (T := TX12) (N := 77) hx hb hts (fun w h => bw_mem (wU_X12 w h)) hown K hP sM_0 rfl 39 (by decide) (hts _ (bw_mem wB_1215)) (fun _ h9 => h9) (v := .ref (o + 24)) (show S_4995.1 0 39 = .ref (o + 24) from dg_I.rel (d := 24) I_4995 sM_0 (by decide +kernel)) dX12_goesOn_383 ?_
                refine lv_iload_n hx hb dX12_goesOn_386 rfl (lv_at hl 3 rfl) ?_
                refine lv_iconst (v := 1) hx hb dX12_goesOn_387 (by decide +kernel) ?_
                have hin_5000 : vp_in x_5 20 := (dk_inv (by omega) (by omega))
                have hz_5002 : (1 : Int32).toInt = 1 := by decide +kernel
                refine dg_zast hx hb K hP hS hA1 sM_24 hin_5000 (by decide +kernel) dX12_goesOn_388 (fun S_5001 e_5001 H locs hP hS => ?_)
                have I_5001 := dg_I.ufu (lo := 0) (hi := 1) I_4995 e_5001 sM_24 (by decide +kernel) (show 0 ≤ ((1 : Int32)).toInt ∧ ((1 : Int32)).toInt ≤ 1 from (by decide +kernel))
                have M_5001 := dg_sm.uf M_4995 e_5001 sM_24 (by decide)
                have P0_5001 : P0M S_5001 := P1M.andor w_4987_3 (((m_4987.1 0 42 _ sM_0 (by decide)).trans (m_2.1 0 42 _ sM_0 (by decide))).trans f_dp) f_x_4997 f_x_4998 w_4987_1 m_4991 w_4991_1 (by omega) (fx := x_5) (by omega) e_4995 e_5001
                refine lv_aload_n hx hb dX12_goesOn_389 rfl (lv_at hl 4 rfl) ?_
                refine dg_callv hS hA1 hA (va_runV (As := []) (rest := []) F (c_m_ahead l g D o S_5001 se (((dg_uf_F e_5001 0 5).trans ((dg_uf_F e_4995 0 5).trans ((m_4991.1 0 5 _ sM_0 (by decide)).trans ((m_4987.1 0 5 _ sM_0 (by decide)).trans (m_2.1 0 5 _ sM_0 (by decide)))))).trans f_se) (by omega) sl (((dg_uf_F e_5001 0 2).trans ((dg_uf_F e_4995 0 2).trans ((m_4991.1 0 2 _ sM_0 (by decide)).trans ((m_4987.1 0 2 _ sM_0 (by decide)).trans (m_2.1 0 2 _ sM_0 (by decide)))))).trans f_sl) (by omega) (by omega) I_5001 H.size) (cwV 0 hts (bw_V wB_1161 wB_1162 wB_1163 wB_881 wB_1160) rfl rfl rfl (by decide +kernel) ⟨Nat.le_of_ble_eq_true rfl, Nat.le_of_ble_eq_true rfl⟩) (dg_preV sM_0 rfl K ST hP hS hA1 hA) rfl rfl hl.1 rfl (lv_room (Nat.le_of_ble_eq_true rfl)) dX12_goesOn_390 ⟨Nat.le_of_ble_eq_true rfl, Nat.le_of_ble_eq_true rfl⟩) (fun S_5003 hw_5003 H locs hP hS => ?_)
                obtain ⟨I_5003, m_5003, w_5003_0, -⟩ := hw_5003
                have M_5003 := dg_sm.tr M_5001 m_5003 (by decide) (by decide)
                obtain ⟨y_5004, y_5005, y_5006, f_y_5004, f_y_5005, f_y_5006, w_5003_0⟩ := w_5003_0
                have w_5003_0 : (se).toInt ≤ (y_5005).toInt ∧ (y_5005).toInt ≤ (y_5006).toInt ∧ (y_5006).toInt ≤ (sl).toInt ∧ ((y_5004).toInt ≠ 0 → (y_5005).toInt + 1 ≤ (y_5006).toInt) := w_5003_0
                have b_y_5004 : 0 ≤ (y_5004).toInt ∧ (y_5004).toInt ≤ 3 := dg_I.intb (lo := 0) (hi := 3) I_5003 sM_0 (by decide +kernel) f_y_5004
                have b_y_5005 : 0 ≤ (y_5005).toInt ∧ (y_5005).toInt ≤ 1600 := dg_I.intb (lo := 0) (hi := 1600) I_5003 sM_0 (by decide +kernel) f_y_5005
                have b_y_5006 : 0 ≤ (y_5006).toInt ∧ (y_5006).toInt ≤ 1600 := dg_I.intb (lo := 0) (hi := 1600) I_5003 sM_0 (by decide +kernel) f_y_5006
                refine lv_aload_n hx hb dX12_goesOn_393 rfl (lv_at hl 4 rfl) ?_
                refine lv_iconst (v := 0) hx hb dX12_goesOn_394 (by decide +kernel) ?_
                have hz_5007 : (0 : Int32).toInt = 0 := by decide +kernel
                refine dg_put (ci := 12) (v := .int 0) (ty := tyX12 46) (C := RX12) (T := TX12) (N := 77) hx hb hts (fun w h => bw_mem (wU_X12 w h)) tyX12 tyX12_ok nmX12 hown K hP hS hA1 sM_0 rfl 46 (by decide) (hts _ (bw_mem wB_1237)) (fun _ h9 => h9) rfl (by decide +kernel) (by decide +kernel) (by decide +kernel) dX12_goesOn_395 (fun S_5008 e_5008 H locs hP hS => ?_)
                have I_5008 := dg_I.uFi (lo := 0) (hi := 1) I_5003 e_5008 sM_0 (by decide +kernel) (show 0 ≤ ((0 : Int32)).toInt ∧ ((0 : Int32)).toInt ≤ 1 from (by decide +kernel))
                have M_5008 := dg_sm.uF M_5003 e_5008 sM_0 (by decide)
                refine lv_iconst (v := 1) hx hb dX12_goesOn_398 (by decide +kernel) ?_
                have hz_5009 : (1 : Int32).toInt = 1 := by decide +kernel
                have hz_5010 : (1 : Int32).toInt = 1 := by decide +kernel
                obtain ⟨x_5011, f_x_5011, b_x_5011⟩ := dg_I.int (i := 0) (k := 45) (lo := 0) (hi := 500) I_5008 sM_0 (by decide +kernel)
                have hz_5012 : (0 : Int32).toInt = 0 := by decide +kernel
                have hz_5013 : (1 : Int32).toInt = 1 := by decide +kernel
                have hz_5014 : (0 : Int32).toInt = 0 := by decide +kernel
                refine W.widen (k := 0) (n := 0) (Nat.le_of_ble_eq_true rfl) (Nat.le_of_ble_eq_true rfl) ?_
                exact dg_iret hx hb hr hlocks (by decide +kernel) hP hS ⟨I_5008, M_5008, (by decide +kernel), ⟨y_5004, y_5005, y_5006, y_3, y_4989, dp, x_5011, 0, ((dg_uF_ne e_5008 (fun z => absurd z.2 (by decide))).trans f_y_5004), ((dg_uF_ne e_5008 (fun z => absurd z.2 (by decide))).trans f_y_5005), ((dg_uF_ne e_5008 (fun z => absurd z.2 (by decide))).trans f_y_5006), (((dg_uF_ne e_5008 (fun z => absurd z.2 (by decide))).trans ((m_5003.1 0 8 _ sM_0 (by decide)).trans ((dg_uf_F e_5001 0 8).trans ((dg_uf_F e_4995 0 8).trans ((m_4991.1 0 8 _ sM_0 (by decide)).trans (m_4987.1 0 8 _ sM_0 (by decide))))))).trans f_y_3), (((dg_uF_ne e_5008 (fun z => absurd z.2 (by decide))).trans ((m_5003.1 0 34 _ sM_0 (by decide)).trans ((dg_uf_F e_5001 0 34).trans ((dg_uf_F e_4995 0 34).trans (m_4991.1 0 34 _ sM_0 (by decide)))))).trans f_y_4989), (((dg_uF_ne e_5008 (fun z => absurd z.2 (by decide))).trans ((m_5003.1 0 42 _ sM_0 (by decide)).trans ((dg_uf_F e_5001 0 42).trans ((dg_uf_F e_4995 0 42).trans ((m_4991.1 0 42 _ sM_0 (by decide)).trans ((m_4987.1 0 42 _ sM_0 (by decide)).trans (m_2.1 0 42 _ sM_0 (by decide)))))))).trans f_dp), f_x_5011, (dg_uF_at e_5008), (by omega)⟩, (fun k9 hk9 hk0 => POM.mk0 (P0M.keep (P0M.keep P0_5001 m_5003 (by decide) (by decide) (by decide) (by decide) (by decide) (by decide) (by decide) (by decide) (by decide) (by decide) (by decide) (by decide) (by decide) (by decide) (by decide)) (dg_sm.uF (WF := [(0, 46)]) (WA := []) dg_sm.rf e_5008 sM_0 (by decide)) (by decide) (by decide) (by decide) (by decide) (by decide) (by decide) (by decide) (by decide) (by decide) (by decide) (by decide) (by decide) (by decide) (by decide) (by decide)) (dg_uF_at e_5008) (by omega)), (ZWM.keep (ZWM.keep (ZWM.keep (ZWM.keep (ZWM.keep w_4987_2 m_4991 (by decide) (by decide) (by decide) (by decide)) (dg_sm.uf (WF := []) (WA := [23]) dg_sm.rf e_4995 sM_23 (by decide)) (by decide) (by decide) (by decide) (by decide)) (dg_sm.uf (WF := []) (WA := [24]) dg_sm.rf e_5001 sM_24 (by decide)) (by decide) (by decide) (by decide) (by decide)) m_5003 (by decide) (by decide) (by decide) (by decide)) (dg_sm.uF (WF := [(0, 46)]) (WA := []) dg_sm.rf e_5008 sM_0 (by decide)) (by decide) (by decide) (by decide) (by decide)), trivial⟩ dX12_goesOn_399
              · have jc_4985 := dk_neqc (k := 0) (by decide +kernel) c_4985
                have w_4984_1_r := w_4984_1 (by omega)
                clear w_4984_1
                refine lv_iconst (v := 2) hx hb dX12_goesOn_351 (by decide +kernel) ?_
                refine lv_goto (tgt := 356) hx hb dX12_goesOn_352 (by decide) ?_
                have hz_5015 : (2 : Int32).toInt = 2 := by decide +kernel
                refine dg_callv hS hA1 hA (va_runV (As := [.int 2]) (rest := []) F (c_m_joins l g D o S_2 2 (by decide +kernel) cd ((m_2.1 0 34 _ sM_0 (by decide)).trans f_cd) (by omega) om ((m_2.1 0 45 _ sM_0 (by decide)).trans f_om) (by omega) (by omega) (ZWM.keep ZW m_2 (by decide) (by decide) (by decide) (by decide)) (ZKM.keep ZK m_2 (by decide) (by decide)) (P1M.keep P1 m_2 (by decide) (by decide) (by decide) (by decide) (by decide) (by decide) (by decide) (by decide) (by decide) (by decide) (by decide) (by decide) (by decide) (by decide) (by decide)) I_2 H.size) (cwV 1 hts (bw_V wB_1234 wB_1235 wB_1236 wB_881 wB_1233) rfl rfl rfl (by decide +kernel) ⟨Nat.le_of_ble_eq_true rfl, Nat.le_of_ble_eq_true rfl⟩) (dg_preV sM_0 rfl K ST hP hS hA1 hA) rfl rfl hl.1 rfl (lv_room (Nat.le_of_ble_eq_true rfl)) dX12_goesOn_356 ⟨Nat.le_of_ble_eq_true rfl, Nat.le_of_ble_eq_true rfl⟩) (fun S_5016 hw_5016 H locs hP hS => ?_)
                obtain ⟨I_5016, m_5016, w_5016_0, w_5016_1, w_5016_2, w_5016_3, -⟩ := hw_5016
                have M_5016 := dg_sm.tr M_2 m_5016 (by decide) (by decide)
                have hz_5017 : (2 : Int32).toInt = 2 := by decide +kernel
                obtain ⟨y_5018, y_5019, f_y_5018, f_y_5019, w_5016_0⟩ := w_5016_0
                have w_5016_0 : (y_5018).toInt + (y_5019).toInt = (cd).toInt + (om).toInt := w_5016_0
                have b_y_5018 : 0 ≤ (y_5018).toInt ∧ (y_5018).toInt ≤ 1600 := dg_I.intb (lo := 0) (hi := 1600) I_5016 sM_0 (by decide +kernel) f_y_5018
                have b_y_5019 : 0 ≤ (y_5019).toInt ∧ (y_5019).toInt ≤ 500 := dg_I.intb (lo := 0) (hi := 500) I_5016 sM_0 (by decide +kernel) f_y_5019
                have w_5016_1 : TOPM S_5016 (2 : Int32) := w_5016_1
                refine lv_aload_n hx hb dX12_goesOn_359 rfl (lv_at hl 4 rfl) ?_
                refine lv_iload hx hb dX12_goesOn_360 (lv_at hl 0 rfl) ?_
                refine lv_if_eq (tgt := 370) hx hb dX12_goesOn_362 (by decide) (fun c => absurd c (fun z => absurd (dk_eqc (k := 0) (by decide +kernel) z) (by omega))) (fun _ => ?_)
                refine lv_bipush (v := 41) hx hb dX12_goesOn_365 (by decide +kernel) ?_
                refine lv_goto (tgt := 372) hx hb dX12_goesOn_367 (by decide) ?_
                refine dg_callv hS hA1 hA (va_runV (As := [.int 41]) (rest := []) F (c_m_holdsBack l g D o S_5016 41 y_5019 f_y_5019 (by omega) I_5016 H.size) (cwV 1 hts (bw_V wB_1224 wB_1225 wB_1226 wB_881 wB_1223) rfl rfl rfl (by decide +kernel) ⟨Nat.le_of_ble_eq_true rfl, Nat.le_of_ble_eq_true rfl⟩) (dg_preV sM_0 rfl K ST hP hS hA1 hA) rfl rfl hl.1 rfl (lv_room (Nat.le_of_ble_eq_true rfl)) dX12_goesOn_372 ⟨Nat.le_of_ble_eq_true rfl, Nat.le_of_ble_eq_true rfl⟩) (fun S_5020 hw_5020 H locs hP hS => ?_)
                obtain ⟨I_5020, m_5020, w_5020_0, w_5020_1, -⟩ := hw_5020
                have M_5020 := dg_sm.tr M_5016 m_5020 (by decide) (by decide)
                have hz_5021 : (41 : Int32).toInt = 41 := by decide +kernel
                obtain ⟨y_5022, f_y_5022, w_5020_0⟩ := w_5020_0
                have w_5020_0 : (y_5022).toInt = (y_5019).toInt + 1 := w_5020_0
                have b_y_5022 : 0 ≤ (y_5022).toInt ∧ (y_5022).toInt ≤ 500 := dg_I.intb (lo := 0) (hi := 500) I_5020 sM_0 (by decide +kernel) f_y_5022
                have w_5020_1 : HBM S_5016 S_5020 (41 : Int32) := w_5020_1
                refine lv_aload_n hx hb dX12_goesOn_375 rfl (lv_at hl 4 rfl) ?_
                refine dg_get (C := RX12) (T := TX12) (N := 77) hx hb hts (fun w h => bw_mem (wU_X12 w h)) hown K hP sM_0 rfl 38 (by decide) (hts _ (bw_mem wB_1214)) (fun _ h9 => h9) (v := .ref (o + 23)) (show S_5020.1 0 38 = .ref (o + 23) from dg_I.rel (d := 23) I_5020 sM_0 (by decide +kernel)) dX12_goesOn_376 ?_
                refine lv_iload_n hx hb dX12_goesOn_379 rfl (lv_at hl 3 rfl) ?_
                refine lv_iconst (v := 0) hx hb dX12_goesOn_380 (by decide +kernel) ?_
                have hin_5023 : vp_in x_5 20 := (dk_inv (by omega) (by omega))
                have hz_5025 : (0 : Int32).toInt = 0 := by decide +kernel
                refine dg_iast hx hb K hP hS hA1 sM_23 hin_5023 dX12_goesOn_381 (fun S_5024 e_5024 H locs hP hS => ?_)
                have I_5024 := dg_I.ufu (lo := 0) (hi := 2) I_5020 e_5024 sM_23 (by decide +kernel) (show 0 ≤ ((0 : Int32)).toInt ∧ ((0 : Int32)).toInt ≤ 2 from (by decide +kernel))
                have M_5024 := dg_sm.uf M_5020 e_5024 sM_23 (by decide)
                obtain ⟨x_5026, f_x_5026, b_x_5026⟩ := dg_I.int (i := 0) (k := 43) (lo := (-2147483648)) (hi := 2147483647) I_5016 sM_0 (by decide +kernel)
                obtain ⟨x_5027, f_x_5027, b_x_5027⟩ := dg_I.int (i := 0) (k := 45) (lo := 0) (hi := 500) I_5016 sM_0 (by decide +kernel)
                have hz_5028 : (0 : Int32).toInt = 0 := by decide +kernel
                refine lv_aload_n hx hb dX12_goesOn_382 rfl (lv_at hl 4 rfl) ?_
                refine dg_get (C := RX12) (T := TX12) (N := 77) hx hb hts (fun w h => bw_mem (wU_X12 w h)) hown K hP sM_0 rfl 39 (by decide) (hts _ (bw_mem wB_1215)) (fun _ h9 => h9) (v := .ref (o + 24)) (show S_5024.1 0 39 = .ref (o + 24) from dg_I.rel (d := 24) I_5024 sM_0 (by decide +kernel)) dX12_goesOn_383 ?_
                refine lv_iload_n hx hb dX12_goesOn_386 rfl (lv_at hl 3 rfl) ?_
                refine lv_iconst (v := 1) hx hb dX12_goesOn_387 (by decide +kernel) ?_
                have hin_5029 : vp_in x_5 20 := (dk_inv (by omega) (by omega))
                have hz_5031 : (1 : Int32).toInt = 1 := by decide +kernel
                refine dg_zast hx hb K hP hS hA1 sM_24 hin_5029 (by decide +kernel) dX12_goesOn_388 (fun S_5030 e_5030 H locs hP hS => ?_)
                have I_5030 := dg_I.ufu (lo := 0) (hi := 1) I_5024 e_5030 sM_24 (by decide +kernel) (show 0 ≤ ((1 : Int32)).toInt ∧ ((1 : Int32)).toInt ≤ 1 from (by decide +kernel))
                have M_5030 := dg_sm.uf M_5024 e_5030 sM_24 (by decide)
                have P0_5030 : P0M S_5030 := P1M.andor w_5016_3 (((m_5016.1 0 42 _ sM_0 (by decide)).trans (m_2.1 0 42 _ sM_0 (by decide))).trans f_dp) f_x_5026 f_x_5027 w_5016_1 m_5020 w_5020_1 (by omega) (fx := x_5) (by omega) e_5024 e_5030
                refine lv_aload_n hx hb dX12_goesOn_389 rfl (lv_at hl 4 rfl) ?_
                refine dg_callv hS hA1 hA (va_runV (As := []) (rest := []) F (c_m_ahead l g D o S_5030 se (((dg_uf_F e_5030 0 5).trans ((dg_uf_F e_5024 0 5).trans ((m_5020.1 0 5 _ sM_0 (by decide)).trans ((m_5016.1 0 5 _ sM_0 (by decide)).trans (m_2.1 0 5 _ sM_0 (by decide)))))).trans f_se) (by omega) sl (((dg_uf_F e_5030 0 2).trans ((dg_uf_F e_5024 0 2).trans ((m_5020.1 0 2 _ sM_0 (by decide)).trans ((m_5016.1 0 2 _ sM_0 (by decide)).trans (m_2.1 0 2 _ sM_0 (by decide)))))).trans f_sl) (by omega) (by omega) I_5030 H.size) (cwV 0 hts (bw_V wB_1161 wB_1162 wB_1163 wB_881 wB_1160) rfl rfl rfl (by decide +kernel) ⟨Nat.le_of_ble_eq_true rfl, Nat.le_of_ble_eq_true rfl⟩) (dg_preV sM_0 rfl K ST hP hS hA1 hA) rfl rfl hl.1 rfl (lv_room (Nat.le_of_ble_eq_true rfl)) dX12_goesOn_390 ⟨Nat.le_of_ble_eq_true rfl, Nat.le_of_ble_eq_true rfl⟩) (fun S_5032 hw_5032 H locs hP hS => ?_)
                obtain ⟨I_5032, m_5032, w_5032_0, -⟩ := hw_5032
                have M_5032 := dg_sm.tr M_5030 m_5032 (by decide) (by decide)
                obtain ⟨y_5033, y_5034, y_5035, f_y_5033, f_y_5034, f_y_5035, w_5032_0⟩ := w_5032_0
                have w_5032_0 : (se).toInt ≤ (y_5034).toInt ∧ (y_5034).toInt ≤ (y_5035).toInt ∧ (y_5035).toInt ≤ (sl).toInt ∧ ((y_5033).toInt ≠ 0 → (y_5034).toInt + 1 ≤ (y_5035).toInt) := w_5032_0
                have b_y_5033 : 0 ≤ (y_5033).toInt ∧ (y_5033).toInt ≤ 3 := dg_I.intb (lo := 0) (hi := 3) I_5032 sM_0 (by decide +kernel) f_y_5033
                have b_y_5034 : 0 ≤ (y_5034).toInt ∧ (y_5034).toInt ≤ 1600 := dg_I.intb (lo := 0) (hi := 1600) I_5032 sM_0 (by decide +kernel) f_y_5034
                have b_y_5035 : 0 ≤ (y_5035).toInt ∧ (y_5035).toInt ≤ 1600 := dg_I.intb (lo := 0) (hi := 1600) I_5032 sM_0 (by decide +kernel) f_y_5035
                refine lv_aload_n hx hb dX12_goesOn_393 rfl (lv_at hl 4 rfl) ?_
                refine lv_iconst (v := 0) hx hb dX12_goesOn_394 (by decide +kernel) ?_
                have hz_5036 : (0 : Int32).toInt = 0 := by decide +kernel
                refine dg_put (ci := 12) (v := .int 0) (ty := tyX12 46) (C := RX12) (T := TX12) (N := 77) hx hb hts (fun w h => bw_mem (wU_X12 w h)) tyX12 tyX12_ok nmX12 hown K hP hS hA1 sM_0 rfl 46 (by decide) (hts _ (bw_mem wB_1237)) (fun _ h9 => h9) rfl (by decide +kernel) (by decide +kernel) (by decide +kernel) dX12_goesOn_395 (fun S_5037 e_5037 H locs hP hS => ?_)
                have I_5037 := dg_I.uFi (lo := 0) (hi := 1) I_5032 e_5037 sM_0 (by decide +kernel) (show 0 ≤ ((0 : Int32)).toInt ∧ ((0 : Int32)).toInt ≤ 1 from (by decide +kernel))
                have M_5037 := dg_sm.uF M_5032 e_5037 sM_0 (by decide)
                refine lv_iconst (v := 1) hx hb dX12_goesOn_398 (by decide +kernel) ?_
                have hz_5038 : (1 : Int32).toInt = 1 := by decide +kernel
                have hz_5039 : (1 : Int32).toInt = 1 := by decide +kernel
                obtain ⟨x_5040, f_x_5040, b_x_5040⟩ := dg_I.int (i := 0) (k := 45) (lo := 0) (hi := 500) I_5037 sM_0 (by decide +kernel)
                have hz_5041 : (0 : Int32).toInt = 0 := by decide +kernel
                have hz_5042 : (1 : Int32).toInt = 1 := by decide +kernel
                have hz_5043 : (0 : Int32).toInt = 0 := by decide +kernel
                refine W.widen (k := 0) (n := 0) (Nat.le_of_ble_eq_true rfl) (Nat.le_of_ble_eq_true rfl) ?_
                exact dg_iret hx hb hr hlocks (by decide +kernel) hP hS ⟨I_5037, M_5037, (by decide +kernel), ⟨y_5033, y_5034, y_5035, y_3, y_5018, dp, x_5040, 0, ((dg_uF_ne e_5037 (fun z => absurd z.2 (by decide))).trans f_y_5033), ((dg_uF_ne e_5037 (fun z => absurd z.2 (by decide))).trans f_y_5034), ((dg_uF_ne e_5037 (fun z => absurd z.2 (by decide))).trans f_y_5035), (((dg_uF_ne e_5037 (fun z => absurd z.2 (by decide))).trans ((m_5032.1 0 8 _ sM_0 (by decide)).trans ((dg_uf_F e_5030 0 8).trans ((dg_uf_F e_5024 0 8).trans ((m_5020.1 0 8 _ sM_0 (by decide)).trans (m_5016.1 0 8 _ sM_0 (by decide))))))).trans f_y_3), (((dg_uF_ne e_5037 (fun z => absurd z.2 (by decide))).trans ((m_5032.1 0 34 _ sM_0 (by decide)).trans ((dg_uf_F e_5030 0 34).trans ((dg_uf_F e_5024 0 34).trans (m_5020.1 0 34 _ sM_0 (by decide)))))).trans f_y_5018), (((dg_uF_ne e_5037 (fun z => absurd z.2 (by decide))).trans ((m_5032.1 0 42 _ sM_0 (by decide)).trans ((dg_uf_F e_5030 0 42).trans ((dg_uf_F e_5024 0 42).trans ((m_5020.1 0 42 _ sM_0 (by decide)).trans ((m_5016.1 0 42 _ sM_0 (by decide)).trans (m_2.1 0 42 _ sM_0 (by decide)))))))).trans f_dp), f_x_5040, (dg_uF_at e_5037), (by omega)⟩, (fun k9 hk9 hk0 => POM.mk0 (P0M.keep (P0M.keep P0_5030 m_5032 (by decide) (by decide) (by decide) (by decide) (by decide) (by decide) (by decide) (by decide) (by decide) (by decide) (by decide) (by decide) (by decide) (by decide) (by decide)) (dg_sm.uF (WF := [(0, 46)]) (WA := []) dg_sm.rf e_5037 sM_0 (by decide)) (by decide) (by decide) (by decide) (by decide) (by decide) (by decide) (by decide) (by decide) (by decide) (by decide) (by decide) (by decide) (by decide) (by decide) (by decide)) (dg_uF_at e_5037) (by omega)), (ZWM.keep (ZWM.keep (ZWM.keep (ZWM.keep (ZWM.keep w_5016_2 m_5020 (by decide) (by decide) (by decide) (by decide)) (dg_sm.uf (WF := []) (WA := [23]) dg_sm.rf e_5024 sM_23 (by decide)) (by decide) (by decide) (by decide) (by decide)) (dg_sm.uf (WF := []) (WA := [24]) dg_sm.rf e_5030 sM_24 (by decide)) (by decide) (by decide) (by decide) (by decide)) m_5032 (by decide) (by decide) (by decide) (by decide)) (dg_sm.uF (WF := [(0, 46)]) (WA := []) dg_sm.rf e_5037 sM_0 (by decide)) (by decide) (by decide) (by decide) (by decide)), trivial⟩ dX12_goesOn_399
            · have jc_4982 := dk_eqc (k := 0) (by decide +kernel) c_4982
              refine lv_aload_n hx hb dX12_goesOn_318 rfl (lv_at hl 3 rfl) ?_
              refine lv_iconst (v := 1) hx hb dX12_goesOn_319 (by decide +kernel) ?_
              refine lv_aload_n hx hb dX12_goesOn_320 rfl (lv_at hl 3 rfl) ?_
              refine dg_get (C := RX12) (T := TX12) (N := 77) hx hb hts (fun w h => bw_mem (wU_X12 w h)) hown K hP sM_0 rfl 4 (by decide) (hts _ (bw_mem wB_1145)) (fun _ h9 => h9) (v := .int sa) ((m_2.1 0 4 _ sM_0 (by decide)).trans f_sa) dX12_goesOn_321 ?_
              have hz_5044 : (1 : Int32).toInt = 1 := by decide +kernel
              refine dg_callv hS hA1 hA (va_runV (As := [.int 1, .int sa]) (rest := []) F (c_m_blame l g D o S_2 1 (by decide +kernel) sa y_3 f_y_3 (by omega) I_2 H.size) (cwV 2 hts (bw_V wB_1137 wB_1138 wB_1139 wB_881 wB_1136) rfl rfl rfl (by decide +kernel) ⟨Nat.le_of_ble_eq_true rfl, Nat.le_of_ble_eq_true rfl⟩) (dg_preV sM_0 rfl K ST hP hS hA1 hA) rfl rfl hl.1 rfl (lv_room (Nat.le_of_ble_eq_true rfl)) dX12_goesOn_324 ⟨Nat.le_of_ble_eq_true rfl, Nat.le_of_ble_eq_true rfl⟩) (fun S_5045 hw_5045 H locs hP hS => ?_)
              obtain ⟨I_5045, m_5045, w_5045_0, -⟩ := hw_5045
              have M_5045 := dg_sm.tr M_2 m_5045 (by decide) (by decide)
              have hz_5046 : (1 : Int32).toInt = 1 := by decide +kernel
              obtain ⟨y_5047, f_y_5047, w_5045_0⟩ := w_5045_0
              have w_5045_0 : ((y_3).toInt ≠ 0 → (y_5047).toInt = (y_3).toInt) ∧ ((y_3).toInt = 0 → (y_5047).toInt = ((1 : Int32)).toInt) := w_5045_0
              have b_y_5047 : 0 ≤ (y_5047).toInt ∧ (y_5047).toInt ≤ 6 := dg_I.intb (lo := 0) (hi := 6) I_5045 sM_0 (by decide +kernel) f_y_5047
              refine lv_aload_n hx hb dX12_goesOn_327 rfl (lv_at hl 3 rfl) ?_
              refine dg_get (C := RX12) (T := TX12) (N := 77) hx hb hts (fun w h => bw_mem (wU_X12 w h)) hown K hP sM_0 rfl 8 (by decide) (hts _ (bw_mem wB_1133)) (fun _ h9 => h9) (v := .int y_5047) f_y_5047 dX12_goesOn_328 ?_
              refine lv_if_le (tgt := 336) hx hb dX12_goesOn_331 (by decide) (fun c_5048 => ?_) (fun c_5048 => ?_)
              · have jc_5048 := dk_lec (k := 0) (by decide +kernel) c_5048
                refine lv_aload_n hx hb dX12_goesOn_336 rfl (lv_at hl 3 rfl) ?_
                refine lv_ldc2 hx hb hown (hts _ (bw_mem wB_1190)) dX12_goesOn_337 ?_
                refine dg_calli hS hA1 hA (va_runV (As := [.long 6385252]) (rest := []) F (c_m_isWord l g D o S_5045 6385252 sg (((m_5045.1 0 3 _ sM_0 (by decide)).trans (m_2.1 0 3 _ sM_0 (by decide))).trans f_sg) (by omega) I_5045 H.size) (cwV 1 hts (bw_V wB_1165 wB_1166 wB_1167 wB_881 wB_1164) rfl rfl rfl (by decide +kernel) ⟨Nat.le_of_ble_eq_true rfl, Nat.le_of_ble_eq_true rfl⟩) (dg_preV sM_0 rfl K ST hP hS hA1 hA) rfl rfl hl.1 rfl (lv_room (Nat.le_of_ble_eq_true rfl)) dX12_goesOn_340 ⟨Nat.le_of_ble_eq_true rfl, Nat.le_of_ble_eq_true rfl⟩) (fun x_5049 S_5050 hw_5050 H locs hP hS => ?_)
                rw [hw_5050.1] at hP
                obtain ⟨hq_5050, w_5050_0, w_5050_1, -⟩ := hw_5050
                have w_5050_0 : 0 ≤ (x_5049).toInt ∧ (x_5049).toInt ≤ 1 := w_5050_0
                have w_5050_1 : (x_5049).toInt = 1 → (sg).toInt = 1 := w_5050_1
                refine lv_istore (lv' := [(4, .int x_5049), (3, .int x_8), (2, .int x_7), (1, .int x_5), (0, .ref (o + 0))]) hx hb dX12_goesOn_343 hl (by decide) rfl (fun ls hl => ?_)
                refine lv_aload_n hx hb dX12_goesOn_345 rfl (lv_at hl 4 rfl) ?_
                refine lv_iload hx hb dX12_goesOn_346 (lv_at hl 0 rfl) ?_
                refine lv_if_eq (tgt := 355) hx hb dX12_goesOn_348 (by decide) (fun c_5051 => ?_) (fun c_5051 => ?_)
                · have jc_5051 := dk_eqc (k := 0) (by decide +kernel) c_5051
                  clear w_5050_1
                  refine lv_iconst (v := 1) hx hb dX12_goesOn_355 (by decide +kernel) ?_
                  have hz_5052 : (1 : Int32).toInt = 1 := by decide +kernel
                  refine dg_callv hS hA1 hA (va_runV (As := [.int 1]) (rest := []) F (c_m_joins l g D o S_5045 1 (by decide +kernel) cd (((m_5045.1 0 34 _ sM_0 (by decide)).trans (m_2.1 0 34 _ sM_0 (by decide))).trans f_cd) (by omega) om (((m_5045.1 0 45 _ sM_0 (by decide)).trans (m_2.1 0 45 _ sM_0 (by decide))).trans f_om) (by omega) (by omega) (ZWM.keep (ZWM.keep ZW m_2 (by decide) (by decide) (by decide) (by decide)) m_5045 (by decide) (by decide) (by decide) (by decide)) (ZKM.keep (ZKM.keep ZK m_2 (by decide) (by decide)) m_5045 (by decide) (by decide)) (P1M.keep (P1M.keep P1 m_2 (by decide) (by decide) (by decide) (by decide) (by decide) (by decide) (by decide) (by decide) (by decide) (by decide) (by decide) (by decide) (by decide) (by decide) (by decide)) m_5045 (by decide) (by decide) (by decide) (by decide) (by decide) (by decide) (by decide) (by decide) (by decide) (by decide) (by decide) (by decide) (by decide) (by decide) (by decide)) I_5045 H.size) (cwV 1 hts (bw_V wB_1234 wB_1235 wB_1236 wB_881 wB_1233) rfl rfl rfl (by decide +kernel) ⟨Nat.le_of_ble_eq_true rfl, Nat.le_of_ble_eq_true rfl⟩) (dg_preV sM_0 rfl K ST hP hS hA1 hA) rfl rfl hl.1 rfl (lv_room (Nat.le_of_ble_eq_true rfl)) dX12_goesOn_356 ⟨Nat.le_of_ble_eq_true rfl, Nat.le_of_ble_eq_true rfl⟩) (fun S_5053 hw_5053 H locs hP hS => ?_)
                  obtain ⟨I_5053, m_5053, w_5053_0, w_5053_1, w_5053_2, w_5053_3, -⟩ := hw_5053
                  have M_5053 := dg_sm.tr M_5045 m_5053 (by decide) (by decide)
                  have hz_5054 : (1 : Int32).toInt = 1 := by decide +kernel
                  obtain ⟨y_5055, y_5056, f_y_5055, f_y_5056, w_5053_0⟩ := w_5053_0
                  have w_5053_0 : (y_5055).toInt + (y_5056).toInt = (cd).toInt + (om).toInt := w_5053_0
                  have b_y_5055 : 0 ≤ (y_5055).toInt ∧ (y_5055).toInt ≤ 1600 := dg_I.intb (lo := 0) (hi := 1600) I_5053 sM_0 (by decide +kernel) f_y_5055
                  have b_y_5056 : 0 ≤ (y_5056).toInt ∧ (y_5056).toInt ≤ 500 := dg_I.intb (lo := 0) (hi := 500) I_5053 sM_0 (by decide +kernel) f_y_5056
                  have w_5053_1 : TOPM S_5053 (1 : Int32) := w_5053_1
                  refine lv_aload_n hx hb dX12_goesOn_359 rfl (lv_at hl 4 rfl) ?_
                  refine lv_iload hx hb dX12_goesOn_360 (lv_at hl 0 rfl) ?_
                  refine lv_if_eq (tgt := 370) hx hb dX12_goesOn_362 (by decide) (fun _ => ?_) (fun c => absurd (dk_eqp (k := 0) (by decide +kernel) (by omega)) c)
                  refine lv_bipush (v := 42) hx hb dX12_goesOn_370 (by decide +kernel) ?_
                  refine dg_callv hS hA1 hA (va_runV (As := [.int 42]) (rest := []) F (c_m_holdsBack l g D o S_5053 42 y_5056 f_y_5056 (by omega) I_5053 H.size) (cwV 1 hts (bw_V wB_1224 wB_1225 wB_1226 wB_881 wB_1223) rfl rfl rfl (by decide +kernel) ⟨Nat.le_of_ble_eq_true rfl, Nat.le_of_ble_eq_true rfl⟩) (dg_preV sM_0 rfl K ST hP hS hA1 hA) rfl rfl hl.1 rfl (lv_room (Nat.le_of_ble_eq_true rfl)) dX12_goesOn_372 ⟨Nat.le_of_ble_eq_true rfl, Nat.le_of_ble_eq_true rfl⟩) (fun S_5057 hw_5057 H locs hP hS => ?_)
                  obtain ⟨I_5057, m_5057, w_5057_0, w_5057_1, -⟩ := hw_5057
                  have M_5057 := dg_sm.tr M_5053 m_5057 (by decide) (by decide)
                  have hz_5058 : (42 : Int32).toInt = 42 := by decide +kernel
                  obtain ⟨y_5059, f_y_5059, w_5057_0⟩ := w_5057_0
                  have w_5057_0 : (y_5059).toInt = (y_5056).toInt + 1 := w_5057_0
                  have b_y_5059 : 0 ≤ (y_5059).toInt ∧ (y_5059).toInt ≤ 500 := dg_I.intb (lo := 0) (hi := 500) I_5057 sM_0 (by decide +kernel) f_y_5059
                  have w_5057_1 : HBM S_5053 S_5057 (42 : Int32) := w_5057_1
                  refine lv_aload_n hx hb dX12_goesOn_375 rfl (lv_at hl 4 rfl) ?_
                  refine dg_get (C := RX12) (T := TX12) (N := 77) hx hb hts (fun w h => bw_mem (wU_X12 w h)) hown K hP sM_0 rfl 38 (by decide) (hts _ (bw_mem wB_1214)) (fun _ h9 => h9) (v := .ref (o + 23)) (show S_5057.1 0 38 = .ref (o + 23) from dg_I.rel (d := 23) I_5057 sM_0 (by decide +kernel)) dX12_goesOn_376 ?_
                  refine lv_iload_n hx hb dX12_goesOn_379 rfl (lv_at hl 3 rfl) ?_
                  refine lv_iconst (v := 0) hx hb dX12_goesOn_380 (by decide +kernel) ?_
                  have hin_5060 : vp_in x_5 20 := (dk_inv (by omega) (by omega))
                  have hz_5062 : (0 : Int32).toInt = 0 := by decide +kernel
                  refine dg_iast hx hb K hP hS hA1 sM_23 hin_5060 dX12_goesOn_381 (fun S_5061 e_5061 H locs hP hS => ?_)
                  have I_5061 := dg_I.ufu (lo := 0) (hi := 2) I_5057 e_5061 sM_23 (by decide +kernel) (show 0 ≤ ((0 : Int32)).toInt ∧ ((0 : Int32)).toInt ≤ 2 from (by decide +kernel))
                  have M_5061 := dg_sm.uf M_5057 e_5061 sM_23 (by decide)
                  obtain ⟨x_5063, f_x_5063, b_x_5063⟩ := dg_I.int (i := 0) (k := 43) (lo := (-2147483648)) (hi := 2147483647) I_5053 sM_0 (by decide +kernel)
                  obtain ⟨x_5064, f_x_5064, b_x_5064⟩ := dg_I.int (i := 0) (k := 45) (lo := 0) (hi := 500) I_5053 sM_0 (by decide +kernel)
                  have hz_5065 : (0 : Int32).toInt = 0 := by decide +kernel
                  refine lv_aload_n hx hb dX12_goesOn_382 rfl (lv_at hl 4 rfl) ?_
                  refine dg_get (C := RX12) (T := TX12) (N := 77) hx hb hts (fun w h => bw_mem (wU_X12 w h)) hown K hP sM_0 rfl 39 (by decide) (hts _ (bw_mem wB_1215)) (fun _ h9 => h9) (v := .ref (o + 24)) (show S_5061.1 0 39 = .ref (o + 24) from dg_I.rel (d := 24) I_5061 sM_0 (by decide +kernel)) dX12_goesOn_383 ?_
                  refine lv_iload_n hx hb dX12_goesOn_386 rfl (lv_at hl 3 rfl) ?_
                  refine lv_iconst (v := 1) hx hb dX12_goesOn_387 (by decide +kernel) ?_
                  have hin_5066 : vp_in x_5 20 := (dk_inv (by omega) (by omega))
                  have hz_5068 : (1 : Int32).toInt = 1 := by decide +kernel
                  refine dg_zast hx hb K hP hS hA1 sM_24 hin_5066 (by decide +kernel) dX12_goesOn_388 (fun S_5067 e_5067 H locs hP hS => ?_)
                  have I_5067 := dg_I.ufu (lo := 0) (hi := 1) I_5061 e_5067 sM_24 (by decide +kernel) (show 0 ≤ ((1 : Int32)).toInt ∧ ((1 : Int32)).toInt ≤ 1 from (by decide +kernel))
                  have M_5067 := dg_sm.uf M_5061 e_5067 sM_24 (by decide)
                  have P0_5067 : P0M S_5067 := P1M.andor w_5053_3 (((m_5053.1 0 42 _ sM_0 (by decide)).trans ((m_5045.1 0 42 _ sM_0 (by decide)).trans (m_2.1 0 42 _ sM_0 (by decide)))).trans f_dp) f_x_5063 f_x_5064 w_5053_1 m_5057 w_5057_1 (by omega) (fx := x_5) (by omega) e_5061 e_5067
                  refine lv_aload_n hx hb dX12_goesOn_389 rfl (lv_at hl 4 rfl) ?_
                  refine dg_callv hS hA1 hA (va_runV (As := []) (rest := []) F (c_m_ahead l g D o S_5067 se (((dg_uf_F e_5067 0 5).trans ((dg_uf_F e_5061 0 5).trans ((m_5057.1 0 5 _ sM_0 (by decide)).trans ((m_5053.1 0 5 _ sM_0 (by decide)).trans ((m_5045.1 0 5 _ sM_0 (by decide)).trans (m_2.1 0 5 _ sM_0 (by decide))))))).trans f_se) (by omega) sl (((dg_uf_F e_5067 0 2).trans ((dg_uf_F e_5061 0 2).trans ((m_5057.1 0 2 _ sM_0 (by decide)).trans ((m_5053.1 0 2 _ sM_0 (by decide)).trans ((m_5045.1 0 2 _ sM_0 (by decide)).trans (m_2.1 0 2 _ sM_0 (by decide))))))).trans f_sl) (by omega) (by omega) I_5067 H.size) (cwV 0 hts (bw_V wB_1161 wB_1162 wB_1163 wB_881 wB_1160) rfl rfl rfl (by decide +kernel) ⟨Nat.le_of_ble_eq_true rfl, Nat.le_of_ble_eq_true rfl⟩) (dg_preV sM_0 rfl K ST hP hS hA1 hA) rfl rfl hl.1 rfl (lv_room (Nat.le_of_ble_eq_true rfl)) dX12_goesOn_390 ⟨Nat.le_of_ble_eq_true rfl, Nat.le_of_ble_eq_true rfl⟩) (fun S_5069 hw_5069 H locs hP hS => ?_)
                  obtain ⟨I_5069, m_5069, w_5069_0, -⟩ := hw_5069
                  have M_5069 := dg_sm.tr M_5067 m_5069 (by decide) (by decide)
                  obtain ⟨y_5070, y_5071, y_5072, f_y_5070, f_y_5071, f_y_5072, w_5069_0⟩ := w_5069_0
                  have w_5069_0 : (se).toInt ≤ (y_5071).toInt ∧ (y_5071).toInt ≤ (y_5072).toInt ∧ (y_5072).toInt ≤ (sl).toInt ∧ ((y_5070).toInt ≠ 0 → (y_5071).toInt + 1 ≤ (y_5072).toInt) := w_5069_0
                  have b_y_5070 : 0 ≤ (y_5070).toInt ∧ (y_5070).toInt ≤ 3 := dg_I.intb (lo := 0) (hi := 3) I_5069 sM_0 (by decide +kernel) f_y_5070
                  have b_y_5071 : 0 ≤ (y_5071).toInt ∧ (y_5071).toInt ≤ 1600 := dg_I.intb (lo := 0) (hi := 1600) I_5069 sM_0 (by decide +kernel) f_y_5071
                  have b_y_5072 : 0 ≤ (y_5072).toInt ∧ (y_5072).toInt ≤ 1600 := dg_I.intb (lo := 0) (hi := 1600) I_5069 sM_0 (by decide +kernel) f_y_5072
                  refine lv_aload_n hx hb dX12_goesOn_393 rfl (lv_at hl 4 rfl) ?_
                  refine lv_iconst (v := 0) hx hb dX12_goesOn_394 (by decide +kernel) ?_
                  have hz_5073 : (0 : Int32).toInt = 0 := by decide +kernel
                  refine dg_put (ci := 12) (v := .int 0) (ty := tyX12 46) (C := RX12) (T := TX12) (N := 77) hx hb hts (fun w h => bw_mem (wU_X12 w h)) tyX12 tyX12_ok nmX12 hown K hP hS hA1 sM_0 rfl 46 (by decide) (hts _ (bw_mem wB_1237)) (fun _ h9 => h9) rfl (by decide +kernel) (by decide +kernel) (by decide +kernel) dX12_goesOn_395 (fun S_5074 e_5074 H locs hP hS => ?_)
                  have I_5074 := dg_I.uFi (lo := 0) (hi := 1) I_5069 e_5074 sM_0 (by decide +kernel) (show 0 ≤ ((0 : Int32)).toInt ∧ ((0 : Int32)).toInt ≤ 1 from (by decide +kernel))
                  have M_5074 := dg_sm.uF M_5069 e_5074 sM_0 (by decide)
                  refine lv_iconst (v := 1) hx hb dX12_goesOn_398 (by decide +kernel) ?_
                  have hz_5075 : (1 : Int32).toInt = 1 := by decide +kernel
                  have hz_5076 : (1 : Int32).toInt = 1 := by decide +kernel
                  obtain ⟨x_5077, f_x_5077, b_x_5077⟩ := dg_I.int (i := 0) (k := 45) (lo := 0) (hi := 500) I_5074 sM_0 (by decide +kernel)
                  have hz_5078 : (0 : Int32).toInt = 0 := by decide +kernel
                  have hz_5079 : (1 : Int32).toInt = 1 := by decide +kernel
                  have hz_5080 : (0 : Int32).toInt = 0 := by decide +kernel
                  refine W.widen (k := 0) (n := 0) (Nat.le_of_ble_eq_true rfl) (Nat.le_of_ble_eq_true rfl) ?_
                  exact dg_iret hx hb hr hlocks (by decide +kernel) hP hS ⟨I_5074, M_5074, (by decide +kernel), ⟨y_5070, y_5071, y_5072, y_5047, y_5055, dp, x_5077, 0, ((dg_uF_ne e_5074 (fun z => absurd z.2 (by decide))).trans f_y_5070), ((dg_uF_ne e_5074 (fun z => absurd z.2 (by decide))).trans f_y_5071), ((dg_uF_ne e_5074 (fun z => absurd z.2 (by decide))).trans f_y_5072), (((dg_uF_ne e_5074 (fun z => absurd z.2 (by decide))).trans ((m_5069.1 0 8 _ sM_0 (by decide)).trans ((dg_uf_F e_5067 0 8).trans ((dg_uf_F e_5061 0 8).trans ((m_5057.1 0 8 _ sM_0 (by decide)).trans (m_5053.1 0 8 _ sM_0 (by decide))))))).trans f_y_5047), (((dg_uF_ne e_5074 (fun z => absurd z.2 (by decide))).trans ((m_5069.1 0 34 _ sM_0 (by decide)).trans ((dg_uf_F e_5067 0 34).trans ((dg_uf_F e_5061 0 34).trans (m_5057.1 0 34 _ sM_0 (by decide)))))).trans f_y_5055), (((dg_uF_ne e_5074 (fun z => absurd z.2 (by decide))).trans ((m_5069.1 0 42 _ sM_0 (by decide)).trans ((dg_uf_F e_5067 0 42).trans ((dg_uf_F e_5061 0 42).trans ((m_5057.1 0 42 _ sM_0 (by decide)).trans ((m_5053.1 0 42 _ sM_0 (by decide)).trans ((m_5045.1 0 42 _ sM_0 (by decide)).trans (m_2.1 0 42 _ sM_0 (by decide))))))))).trans f_dp), f_x_5077, (dg_uF_at e_5074), (by omega)⟩, (fun k9 hk9 hk0 => POM.mk0 (P0M.keep (P0M.keep P0_5067 m_5069 (by decide) (by decide) (by decide) (by decide) (by decide) (by decide) (by decide) (by decide) (by decide) (by decide) (by decide) (by decide) (by decide) (by decide) (by decide)) (dg_sm.uF (WF := [(0, 46)]) (WA := []) dg_sm.rf e_5074 sM_0 (by decide)) (by decide) (by decide) (by decide) (by decide) (by decide) (by decide) (by decide) (by decide) (by decide) (by decide) (by decide) (by decide) (by decide) (by decide) (by decide)) (dg_uF_at e_5074) (by omega)), (ZWM.keep (ZWM.keep (ZWM.keep (ZWM.keep (ZWM.keep w_5053_2 m_5057 (by decide) (by decide) (by decide) (by decide)) (dg_sm.uf (WF := []) (WA := [23]) dg_sm.rf e_5061 sM_23 (by decide)) (by decide) (by decide) (by decide) (by decide)) (dg_sm.uf (WF := []) (WA := [24]) dg_sm.rf e_5067 sM_24 (by decide)) (by decide) (by decide) (by decide) (by decide)) m_5069 (by decide) (by decide) (by decide) (by decide)) (dg_sm.uF (WF := [(0, 46)]) (WA := []) dg_sm.rf e_5074 sM_0 (by decide)) (by decide) (by decide) (by decide) (by decide)), trivial⟩ dX12_goesOn_399
                · have jc_5051 := dk_neqc (k := 0) (by decide +kernel) c_5051
                  have w_5050_1_r := w_5050_1 (by omega)
                  clear w_5050_1
                  refine lv_iconst (v := 2) hx hb dX12_goesOn_351 (by decide +kernel) ?_
                  refine lv_goto (tgt := 356) hx hb dX12_goesOn_352 (by decide) ?_
                  have hz_5081 : (2 : Int32).toInt = 2 := by decide +kernel
                  refine dg_callv hS hA1 hA (va_runV (As := [.int 2]) (rest := []) F (c_m_joins l g D o S_5045 2 (by decide +kernel) cd (((m_5045.1 0 34 _ sM_0 (by decide)).trans (m_2.1 0 34 _ sM_0 (by decide))).trans f_cd) (by omega) om (((m_5045.1 0 45 _ sM_0 (by decide)).trans (m_2.1 0 45 _ sM_0 (by decide))).trans f_om) (by omega) (by omega) (ZWM.keep (ZWM.keep ZW m_2 (by decide) (by decide) (by decide) (by decide)) m_5045 (by decide) (by decide) (by decide) (by decide)) (ZKM.keep (ZKM.keep ZK m_2 (by decide) (by decide)) m_5045 (by decide) (by decide)) (P1M.keep (P1M.keep P1 m_2 (by decide) (by decide) (by decide) (by decide) (by decide) (by decide) (by decide) (by decide) (by decide) (by decide) (by decide) (by decide) (by decide) (by decide) (by decide)) m_5045 (by decide) (by decide) (by decide) (by decide) (by decide) (by decide) (by decide) (by decide) (by decide) (by decide) (by decide) (by decide) (by decide) (by decide) (by decide)) I_5045 H.size) (cwV 1 hts (bw_V wB_1234 wB_1235 wB_1236 wB_881 wB_1233) rfl rfl rfl (by decide +kernel) ⟨Nat.le_of_ble_eq_true rfl, Nat.le_of_ble_eq_true rfl⟩) (dg_preV sM_0 rfl K ST hP hS hA1 hA) rfl rfl hl.1 rfl (lv_room (Nat.le_of_ble_eq_true rfl)) dX12_goesOn_356 ⟨Nat.le_of_ble_eq_true rfl, Nat.le_of_ble_eq_true rfl⟩) (fun S_5082 hw_5082 H locs hP hS => ?_)
                  obtain ⟨I_5082, m_5082, w_5082_0, w_5082_1, w_5082_2, w_5082_3, -⟩ := hw_5082
                  have M_5082 := dg_sm.tr M_5045 m_5082 (by decide) (by decide)
                  have hz_5083 : (2 : Int32).toInt = 2 := by decide +kernel
                  obtain ⟨y_5084, y_5085, f_y_5084, f_y_5085, w_5082_0⟩ := w_5082_0
                  have w_5082_0 : (y_5084).toInt + (y_5085).toInt = (cd).toInt + (om).toInt := w_5082_0
                  have b_y_5084 : 0 ≤ (y_5084).toInt ∧ (y_5084).toInt ≤ 1600 := dg_I.intb (lo := 0) (hi := 1600) I_5082 sM_0 (by decide +kernel) f_y_5084
                  have b_y_5085 : 0 ≤ (y_5085).toInt ∧ (y_5085).toInt ≤ 500 := dg_I.intb (lo := 0) (hi := 500) I_5082 sM_0 (by decide +kernel) f_y_5085
                  have w_5082_1 : TOPM S_5082 (2 : Int32) := w_5082_1
                  refine lv_aload_n hx hb dX12_goesOn_359 rfl (lv_at hl 4 rfl) ?_
                  refine lv_iload hx hb dX12_goesOn_360 (lv_at hl 0 rfl) ?_
                  refine lv_if_eq (tgt := 370) hx hb dX12_goesOn_362 (by decide) (fun c => absurd c (fun z => absurd (dk_eqc (k := 0) (by decide +kernel) z) (by omega))) (fun _ => ?_)
                  refine lv_bipush (v := 41) hx hb dX12_goesOn_365 (by decide +kernel) ?_
                  refine lv_goto (tgt := 372) hx hb dX12_goesOn_367 (by decide) ?_
                  refine dg_callv hS hA1 hA (va_runV (As := [.int 41]) (rest := []) F (c_m_holdsBack l g D o S_5082 41 y_5085 f_y_5085 (by omega) I_5082 H.size) (cwV 1 hts (bw_V wB_1224 wB_1225 wB_1226 wB_881 wB_1223) rfl rfl rfl (by decide +kernel) ⟨Nat.le_of_ble_eq_true rfl, Nat.le_of_ble_eq_true rfl⟩) (dg_preV sM_0 rfl K ST hP hS hA1 hA) rfl rfl hl.1 rfl (lv_room (Nat.le_of_ble_eq_true rfl)) dX12_goesOn_372 ⟨Nat.le_of_ble_eq_true rfl, Nat.le_of_ble_eq_true rfl⟩) (fun S_5086 hw_5086 H locs hP hS => ?_)
                  obtain ⟨I_5086, m_5086, w_5086_0, w_5086_1, -⟩ := hw_5086
                  have M_5086 := dg_sm.tr M_5082 m_5086 (by decide) (by decide)
                  have hz_5087 : (41 : Int32).toInt = 41 := by decide +kernel
                  obtain ⟨y_5088, f_y_5088, w_5086_0⟩ := w_5086_0
                  have w_5086_0 : (y_5088).toInt = (y_5085).toInt + 1 := w_5086_0
                  have b_y_5088 : 0 ≤ (y_5088).toInt ∧ (y_5088).toInt ≤ 500 := dg_I.intb (lo := 0) (hi := 500) I_5086 sM_0 (by decide +kernel) f_y_5088
                  have w_5086_1 : HBM S_5082 S_5086 (41 : Int32) := w_5086_1
                  refine lv_aload_n hx hb dX12_goesOn_375 rfl (lv_at hl 4 rfl) ?_
                  refine dg_get (C := RX12) (T := TX12) (N := 77) hx hb hts (fun w h => bw_mem (wU_X12 w h)) hown K hP sM_0 rfl 38 (by decide) (hts _ (bw_mem wB_1214)) (fun _ h9 => h9) (v := .ref (o + 23)) (show S_5086.1 0 38 = .ref (o + 23) from dg_I.rel (d := 23) I_5086 sM_0 (by decide +kernel)) dX12_goesOn_376 ?_
                  refine lv_iload_n hx hb dX12_goesOn_379 rfl (lv_at hl 3 rfl) ?_
                  refine lv_iconst (v := 0) hx hb dX12_goesOn_380 (by decide +kernel) ?_
                  have hin_5089 : vp_in x_5 20 := (dk_inv (by omega) (by omega))
                  have hz_5091 : (0 : Int32).toInt = 0 := by decide +kernel
                  refine dg_iast hx hb K hP hS hA1 sM_23 hin_5089 dX12_goesOn_381 (fun S_5090 e_5090 H locs hP hS => ?_)
                  have I_5090 := dg_I.ufu (lo := 0) (hi := 2) I_5086 e_5090 sM_23 (by decide +kernel) (show 0 ≤ ((0 : Int32)).toInt ∧ ((0 : Int32)).toInt ≤ 2 from (by decide +kernel))
                  have M_5090 := dg_sm.uf M_5086 e_5090 sM_23 (by decide)
                  obtain ⟨x_5092, f_x_5092, b_x_5092⟩ := dg_I.int (i := 0) (k := 43) (lo := (-2147483648)) (hi := 2147483647) I_5082 sM_0 (by decide +kernel)
                  obtain ⟨x_5093, f_x_5093, b_x_5093⟩ := dg_I.int (i := 0) (k := 45) (lo := 0) (hi := 500) I_5082 sM_0 (by decide +kernel)
                  have hz_5094 : (0 : Int32).toInt = 0 := by decide +kernel
                  refine lv_aload_n hx hb dX12_goesOn_382 rfl (lv_at hl 4 rfl) ?_
                  refine dg_get (C := RX12) (T := TX12) (N := 77) hx hb hts (fun w h => bw_mem (wU_X12 w h)) hown K hP sM_0 rfl 39 (by decide) (hts _ (bw_mem wB_1215)) (fun _ h9 => h9) (v := .ref (o + 24)) (show S_5090.1 0 39 = .ref (o + 24) from dg_I.rel (d := 24) I_5090 sM_0 (by decide +kernel)) dX12_goesOn_383 ?_
                  refine lv_iload_n hx hb dX12_goesOn_386 rfl (lv_at hl 3 rfl) ?_
                  refine lv_iconst (v := 1) hx hb dX12_goesOn_387 (by decide +kernel) ?_
                  have hin_5095 : vp_in x_5 20 := (dk_inv (by omega) (by omega))
                  have hz_5097 : (1 : Int32).toInt = 1 := by decide +kernel
                  refine dg_zast hx hb K hP hS hA1 sM_24 hin_5095 (by decide +kernel) dX12_goesOn_388 (fun S_5096 e_5096 H locs hP hS => ?_)
                  have I_5096 := dg_I.ufu (lo := 0) (hi := 1) I_5090 e_5096 sM_24 (by decide +kernel) (show 0 ≤ ((1 : Int32)).toInt ∧ ((1 : Int32)).toInt ≤ 1 from (by decide +kernel))
                  have M_5096 := dg_sm.uf M_5090 e_5096 sM_24 (by decide)
                  have P0_5096 : P0M S_5096 := P1M.andor w_5082_3 (((m_5082.1 0 42 _ sM_0 (by decide)).trans ((m_5045.1 0 42 _ sM_0 (by decide)).trans (m_2.1 0 42 _ sM_0 (by decide)))).trans f_dp) f_x_5092 f_x_5093 w_5082_1 m_5086 w_5086_1 (by omega) (fx := x_5) (by omega) e_5090 e_5096
                  refine lv_aload_n hx hb dX12_goesOn_389 rfl (lv_at hl 4 rfl) ?_
                  refine dg_callv hS hA1 hA (va_runV (As := []) (rest := []) F (c_m_ahead l g D o S_5096 se (((dg_uf_F e_5096 0 5).trans ((dg_uf_F e_5090 0 5).trans ((m_5086.1 0 5 _ sM_0 (by decide)).trans ((m_5082.1 0 5 _ sM_0 (by decide)).trans ((m_5045.1 0 5 _ sM_0 (by decide)).trans (m_2.1 0 5 _ sM_0 (by decide))))))).trans f_se) (by omega) sl (((dg_uf_F e_5096 0 2).trans ((dg_uf_F e_5090 0 2).trans ((m_5086.1 0 2 _ sM_0 (by decide)).trans ((m_5082.1 0 2 _ sM_0 (by decide)).trans ((m_5045.1 0 2 _ sM_0 (by decide)).trans (m_2.1 0 2 _ sM_0 (by decide))))))).trans f_sl) (by omega) (by omega) I_5096 H.size) (cwV 0 hts (bw_V wB_1161 wB_1162 wB_1163 wB_881 wB_1160) rfl rfl rfl (by decide +kernel) ⟨Nat.le_of_ble_eq_true rfl, Nat.le_of_ble_eq_true rfl⟩) (dg_preV sM_0 rfl K ST hP hS hA1 hA) rfl rfl hl.1 rfl (lv_room (Nat.le_of_ble_eq_true rfl)) dX12_goesOn_390 ⟨Nat.le_of_ble_eq_true rfl, Nat.le_of_ble_eq_true rfl⟩) (fun S_5098 hw_5098 H locs hP hS => ?_)
                  obtain ⟨I_5098, m_5098, w_5098_0, -⟩ := hw_5098
                  have M_5098 := dg_sm.tr M_5096 m_5098 (by decide) (by decide)
                  obtain ⟨y_5099, y_5100, y_5101, f_y_5099, f_y_5100, f_y_5101, w_5098_0⟩ := w_5098_0
                  have w_5098_0 : (se).toInt ≤ (y_5100).toInt ∧ (y_5100).toInt ≤ (y_5101).toInt ∧ (y_5101).toInt ≤ (sl).toInt ∧ ((y_5099).toInt ≠ 0 → (y_5100).toInt + 1 ≤ (y_5101).toInt) := w_5098_0
                  have b_y_5099 : 0 ≤ (y_5099).toInt ∧ (y_5099).toInt ≤ 3 := dg_I.intb (lo := 0) (hi := 3) I_5098 sM_0 (by decide +kernel) f_y_5099
                  have b_y_5100 : 0 ≤ (y_5100).toInt ∧ (y_5100).toInt ≤ 1600 := dg_I.intb (lo := 0) (hi := 1600) I_5098 sM_0 (by decide +kernel) f_y_5100
                  have b_y_5101 : 0 ≤ (y_5101).toInt ∧ (y_5101).toInt ≤ 1600 := dg_I.intb (lo := 0) (hi := 1600) I_5098 sM_0 (by decide +kernel) f_y_5101
                  refine lv_aload_n hx hb dX12_goesOn_393 rfl (lv_at hl 4 rfl) ?_
                  refine lv_iconst (v := 0) hx hb dX12_goesOn_394 (by decide +kernel) ?_
                  have hz_5102 : (0 : Int32).toInt = 0 := by decide +kernel
                  refine dg_put (ci := 12) (v := .int 0) (ty := tyX12 46) (C := RX12) (T := TX12) (N := 77) hx hb hts (fun w h => bw_mem (wU_X12 w h)) tyX12 tyX12_ok nmX12 hown K hP hS hA1 sM_0 rfl 46 (by decide) (hts _ (bw_mem wB_1237)) (fun _ h9 => h9) rfl (by decide +kernel) (by decide +kernel) (by decide +kernel) dX12_goesOn_395 (fun S_5103 e_5103 H locs hP hS => ?_)
                  have I_5103 := dg_I.uFi (lo := 0) (hi := 1) I_5098 e_5103 sM_0 (by decide +kernel) (show 0 ≤ ((0 : Int32)).toInt ∧ ((0 : Int32)).toInt ≤ 1 from (by decide +kernel))
                  have M_5103 := dg_sm.uF M_5098 e_5103 sM_0 (by decide)
                  refine lv_iconst (v := 1) hx hb dX12_goesOn_398 (by decide +kernel) ?_
                  have hz_5104 : (1 : Int32).toInt = 1 := by decide +kernel
                  have hz_5105 : (1 : Int32).toInt = 1 := by decide +kernel
                  obtain ⟨x_5106, f_x_5106, b_x_5106⟩ := dg_I.int (i := 0) (k := 45) (lo := 0) (hi := 500) I_5103 sM_0 (by decide +kernel)
                  have hz_5107 : (0 : Int32).toInt = 0 := by decide +kernel
                  have hz_5108 : (1 : Int32).toInt = 1 := by decide +kernel
                  have hz_5109 : (0 : Int32).toInt = 0 := by decide +kernel
                  refine W.widen (k := 0) (n := 0) (Nat.le_of_ble_eq_true rfl) (Nat.le_of_ble_eq_true rfl) ?_
                  exact dg_iret hx hb hr hlocks (by decide +kernel) hP hS ⟨I_5103, M_5103, (by decide +kernel), ⟨y_5099, y_5100, y_5101, y_5047, y_5084, dp, x_5106, 0, ((dg_uF_ne e_5103 (fun z => absurd z.2 (by decide))).trans f_y_5099), ((dg_uF_ne e_5103 (fun z => absurd z.2 (by decide))).trans f_y_5100), ((dg_uF_ne e_5103 (fun z => absurd z.2 (by decide))).trans f_y_5101), (((dg_uF_ne e_5103 (fun z => absurd z.2 (by decide))).trans ((m_5098.1 0 8 _ sM_0 (by decide)).trans ((dg_uf_F e_5096 0 8).trans ((dg_uf_F e_5090 0 8).trans ((m_5086.1 0 8 _ sM_0 (by decide)).trans (m_5082.1 0 8 _ sM_0 (by decide))))))).trans f_y_5047), (((dg_uF_ne e_5103 (fun z => absurd z.2 (by decide))).trans ((m_5098.1 0 34 _ sM_0 (by decide)).trans ((dg_uf_F e_5096 0 34).trans ((dg_uf_F e_5090 0 34).trans (m_5086.1 0 34 _ sM_0 (by decide)))))).trans f_y_5084), (((dg_uF_ne e_5103 (fun z => absurd z.2 (by decide))).trans ((m_5098.1 0 42 _ sM_0 (by decide)).trans ((dg_uf_F e_5096 0 42).trans ((dg_uf_F e_5090 0 42).trans ((m_5086.1 0 42 _ sM_0 (by decide)).trans ((m_5082.1 0 42 _ sM_0 (by decide)).trans ((m_5045.1 0 42 _ sM_0 (by decide)).trans (m_2.1 0 42 _ sM_0 (by decide))))))))).trans f_dp), f_x_5106, (dg_uF_at e_5103), (by omega)⟩, (fun k9 hk9 hk0 => POM.mk0 (P0M.keep (P0M.keep P0_5096 m_5098 (by decide) (by decide) (by decide) (by decide) (by decide) (by decide) (by decide) (by decide) (by decide) (by decide) (by decide) (by decide) (by decide) (by decide) (by decide)) (dg_sm.uF (WF := [(0, 46)]) (WA := []) dg_sm.rf e_5103 sM_0 (by decide)) (by decide) (by decide) (by decide) (by decide) (by decide) (by decide) (by decide) (by decide) (by decide) (by decide) (by decide) (by decide) (by decide) (by decide) (by decide)) (dg_uF_at e_5103) (by omega)), (ZWM.keep (ZWM.keep (ZWM.keep (ZWM.keep (ZWM.keep w_5082_2 m_5086 (by decide) (by decide) (by decide) (by decide)) (dg_sm.uf (WF := []) (WA := [23]) dg_sm.rf e_5090 sM_23 (by decide)) (by decide) (by decide) (by decide) (by decide)) (dg_sm.uf (WF := []) (WA := [24]) dg_sm.rf e_5096 sM_24 (by decide)) (by decide) (by decide) (by decide) (by decide)) m_5098 (by decide) (by decide) (by decide) (by decide)) (dg_sm.uF (WF := [(0, 46)]) (WA := []) dg_sm.rf e_5103 sM_0 (by decide)) (by decide) (by decide) (by decide) (by decide)), trivial⟩ dX12_goesOn_399
              · have jc_5048 := dk_nlec (k := 0) (by decide +kernel) c_5048
                refine lv_iconst (v := 0) hx hb dX12_goesOn_334 (by decide +kernel) ?_
                have hz_5110 : (0 : Int32).toInt = 0 := by decide +kernel
                have hz_5111 : (0 : Int32).toInt = 0 := by decide +kernel
                have hz_5112 : (0 : Int32).toInt = 0 := by decide +kernel
                refine W.widen (k := 0) (n := 0) (Nat.le_of_ble_eq_true rfl) (Nat.le_of_ble_eq_true rfl) ?_
                exact dg_iret hx hb hr hlocks (by decide +kernel) hP hS ⟨I_5045, M_5045, (by decide +kernel), ⟨sg, sa, se, y_5047, cd, dp, om, oo, (((m_5045.1 0 3 _ sM_0 (by decide)).trans (m_2.1 0 3 _ sM_0 (by decide))).trans f_sg), (((m_5045.1 0 4 _ sM_0 (by decide)).trans (m_2.1 0 4 _ sM_0 (by decide))).trans f_sa), (((m_5045.1 0 5 _ sM_0 (by decide)).trans (m_2.1 0 5 _ sM_0 (by decide))).trans f_se), f_y_5047, (((m_5045.1 0 34 _ sM_0 (by decide)).trans (m_2.1 0 34 _ sM_0 (by decide))).trans f_cd), (((m_5045.1 0 42 _ sM_0 (by decide)).trans (m_2.1 0 42 _ sM_0 (by decide))).trans f_dp), (((m_5045.1 0 45 _ sM_0 (by decide)).trans (m_2.1 0 45 _ sM_0 (by decide))).trans f_om), (((m_5045.1 0 46 _ sM_0 (by decide)).trans (m_2.1 0 46 _ sM_0 (by decide))).trans f_oo), (by omega)⟩, (fun k9 hk9 hk0 => by have q9 := (f_y_5047).symm.trans hk9; cases q9; omega), (ZWM.keep (ZWM.keep ZW m_2 (by decide) (by decide) (by decide) (by decide)) m_5045 (by decide) (by decide) (by decide) (by decide)), trivial⟩ dX12_goesOn_335
          refine lv_if_ne (tgt := 309) hx hb dX12_goesOn_296 (by decide) (fun c_5113 => ?_) (fun c_5113 => ?_)
          · have jc_5113 := dk_neqc (k := 0) (by decide +kernel) c_5113
            have w_4841_1_r := w_4841_1 (by omega)
            clear w_4841_1
            exact J_4979  (by omega) _ _ hP hS _ (lv_sub hl [0, 1, 2, 3] rfl)
          · have jc_5113 := dk_eqc (k := 0) (by decide +kernel) c_5113
            clear w_4841_1
            refine lv_aload_n hx hb dX12_goesOn_299 rfl (lv_at hl 3 rfl) ?_
            refine lv_ldc2 hx hb hown (hts _ (bw_mem wB_1189)) dX12_goesOn_300 ?_
            refine dg_calli hS hA1 hA (va_runV (As := [.long 28530]) (rest := []) F (c_m_isWord l g D o S_2 28530 sg ((m_2.1 0 3 _ sM_0 (by decide)).trans f_sg) (by omega) I_2 H.size) (cwV 1 hts (bw_V wB_1165 wB_1166 wB_1167 wB_881 wB_1164) rfl rfl rfl (by decide +kernel) ⟨Nat.le_of_ble_eq_true rfl, Nat.le_of_ble_eq_true rfl⟩) (dg_preV sM_0 rfl K ST hP hS hA1 hA) rfl rfl hl.1 rfl (lv_room (Nat.le_of_ble_eq_true rfl)) dX12_goesOn_303 ⟨Nat.le_of_ble_eq_true rfl, Nat.le_of_ble_eq_true rfl⟩) (fun x_5114 S_5115 hw_5115 H locs hP hS => ?_)
            rw [hw_5115.1] at hP
            obtain ⟨hq_5115, w_5115_0, w_5115_1, -⟩ := hw_5115
            have w_5115_0 : 0 ≤ (x_5114).toInt ∧ (x_5114).toInt ≤ 1 := w_5115_0
            have w_5115_1 : (x_5114).toInt = 1 → (sg).toInt = 1 := w_5115_1
            refine lv_if_eq (tgt := 400) hx hb dX12_goesOn_306 (by decide) (fun c_5116 => ?_) (fun c_5116 => ?_)
            · have jc_5116 := dk_eqc (k := 0) (by decide +kernel) c_5116
              clear w_5115_1
              exact J_3069   _ _ hP hS _ (lv_sub hl [0, 1, 2, 3] rfl)
            · have jc_5116 := dk_neqc (k := 0) (by decide +kernel) c_5116
              have w_5115_1_r := w_5115_1 (by omega)
              clear w_5115_1
              exact J_4979  (by omega) _ _ hP hS _ (lv_sub hl [0, 1, 2, 3] rfl)
      refine lv_if_eq (tgt := 285) hx hb dX12_goesOn_189 (by decide) (fun c_5117 => ?_) (fun c_5117 => ?_)
      · have jc_5117 := dk_eqc (k := 0) (by decide +kernel) c_5117
        exact J_2200   _ _ hP hS _ (lv_sub hl [0, 1, 2, 3] rfl)
      · have jc_5117 := dk_neqc (k := 0) (by decide +kernel) c_5117
        refine lv_aload_n hx hb dX12_goesOn_192 rfl (lv_at hl 3 rfl) ?_
        refine dg_get (C := RX12) (T := TX12) (N := 77) hx hb hts (fun w h => bw_mem (wU_X12 w h)) hown K hP sM_0 rfl 38 (by decide) (hts _ (bw_mem wB_1214)) (fun _ h9 => h9) (v := .ref (o + 23)) (show S_2.1 0 38 = .ref (o + 23) from dg_I.rel (d := 23) I_2 sM_0 (by decide +kernel)) dX12_goesOn_193 ?_
        refine lv_iload_n hx hb dX12_goesOn_196 rfl (lv_at hl 2 rfl) ?_
        have hin_5118 : vp_in x_5 20 := (dk_inv (by omega) (by omega))
        refine dg_iald hx hb K hP sM_23 hin_5118 dX12_goesOn_197 (fun y_5119 ey_5119 => ?_)
        obtain rfl : x_11 = y_5119 := (ey_5119.trans ex_11.symm).symm
        refine lv_if_ne (tgt := 285) hx hb dX12_goesOn_198 (by decide) (fun c_5120 => ?_) (fun c_5120 => ?_)
        · have jc_5120 := dk_neqc (k := 0) (by decide +kernel) c_5120
          exact J_2200   _ _ hP hS _ (lv_sub hl [0, 1, 2, 3] rfl)
        · have jc_5120 := dk_eqc (k := 0) (by decide +kernel) c_5120
          refine lv_aload_n hx hb dX12_goesOn_201 rfl (lv_at hl 3 rfl) ?_
          refine lv_bipush (v := 60) hx hb dX12_goesOn_202 (by decide +kernel) ?_
          refine dg_calli hS hA1 hA (va_runV (As := [.int 60]) (rest := []) F (c_m_isSign l g D o S_2 60 sg ((m_2.1 0 3 _ sM_0 (by decide)).trans f_sg) (by omega) va ((m_2.1 0 6 _ sM_0 (by decide)).trans f_va) (by omega) I_2 H.size) (cwV 1 hts (bw_V wB_1157 wB_1158 wB_1159 wB_881 wB_1156) rfl rfl rfl (by decide +kernel) ⟨Nat.le_of_ble_eq_true rfl, Nat.le_of_ble_eq_true rfl⟩) (dg_preV sM_0 rfl K ST hP hS hA1 hA) rfl rfl hl.1 rfl (lv_room (Nat.le_of_ble_eq_true rfl)) dX12_goesOn_204 ⟨Nat.le_of_ble_eq_true rfl, Nat.le_of_ble_eq_true rfl⟩) (fun x_5121 S_5122 hw_5122 H locs hP hS => ?_)
          rw [hw_5122.1] at hP
          obtain ⟨hq_5122, w_5122_0, w_5122_1, -⟩ := hw_5122
          have hz_5123 : (60 : Int32).toInt = 60 := by decide +kernel
          have w_5122_0 : 0 ≤ (x_5121).toInt ∧ (x_5121).toInt ≤ 1 := w_5122_0
          have w_5122_1 : (x_5121).toInt = 1 ↔ ((sg).toInt = 3 ∧ (va).toInt = ((60 : Int32)).toInt) := w_5122_1
          have J_5169 : ((sg).toInt = 3) → ∀ (H : Heap) (locs : List Loc), va_P D vwCl (dg_w g shM o rfM S_2) H → va_S A s.heap H locs → ∀ ls : Array Slot, lv_has ls 5 [(3, .int x_8), (2, .int x_7), (1, .int x_5), (0, .ref (o + 0))] → W p l e ({ frames := 3, cells := 0, slots := 0, locals := 77 } : Room) s m args below meth c H locs 0 0 (MQ below (va_Qi (fun (r : Int32) S' => CM o S' ∧ dg_sm shM [(0, 3), (0, 4), (0, 5), (0, 6), (0, 7), (0, 8), (0, 9), (0, 12), (0, 34), (0, 42), (0, 43), (0, 45), (0, 46)] [18, 19, 22, 23, 24, 27] S S' ∧ (0 ≤ (r).toInt ∧ (r).toInt ≤ 1) ∧ (∃ y9_3 y9_4 y9_5 y9_8 y9_34 y9_42 y9_45 y9_46 : Int32, S'.1 0 3 = .int y9_3 ∧ S'.1 0 4 = .int y9_4 ∧ S'.1 0 5 = .int y9_5 ∧ S'.1 0 8 = .int y9_8 ∧ S'.1 0 34 = .int y9_34 ∧ S'.1 0 42 = .int y9_42 ∧ S'.1 0 45 = .int y9_45 ∧ S'.1 0 46 = .int y9_46 ∧ (((y9_4).toInt ≤ (y9_5).toInt ∧ (y9_5).toInt ≤ (sl).toInt ∧ ((y9_3).toInt ≠ 0 → (y9_4).toInt + 1 ≤ (y9_5).toInt)) ∧ (sa).toInt ≤ (y9_4).toInt ∧ ((fk).toInt ≠ 0 → (y9_8).toInt ≠ 0) ∧ (((y9_8).toInt = 0 → (r).toInt = 1 → (sa).toInt + 1 ≤ (y9_4).toInt) ∧ ((y9_8).toInt = 0 → (y9_34).toInt + (y9_45).toInt + (y9_42).toInt ≤ (y9_4).toInt)))) ∧ (∀ k9 : Int32, S'.1 0 8 = .int k9 → k9.toInt = 0 → POM S') ∧ ZWM S' ∧ True) (dg_B g D shM o rfM) A) args s 0 0 A) (F0 m 228 ls []) := by
            intro rel_0 H locs hP hS ls hl
            refine lv_aload_n hx hb dX12_goesOn_228 rfl (lv_at hl 3 rfl) ?_
            refine lv_iconst (v := 5) hx hb dX12_goesOn_229 (by decide +kernel) ?_
            have hz_5170 : (5 : Int32).toInt = 5 := by decide +kernel
            refine dg_callv hS hA1 hA (va_runV (As := [.int 5]) (rest := []) F (c_m_joins l g D o S_2 5 (by decide +kernel) cd ((m_2.1 0 34 _ sM_0 (by decide)).trans f_cd) (by omega) om ((m_2.1 0 45 _ sM_0 (by decide)).trans f_om) (by omega) (by omega) (ZWM.keep ZW m_2 (by decide) (by decide) (by decide) (by decide)) (ZKM.keep ZK m_2 (by decide) (by decide)) (P1M.keep P1 m_2 (by decide) (by decide) (by decide) (by decide) (by decide) (by decide) (by decide) (by decide) (by decide) (by decide) (by decide) (by decide) (by decide) (by decide) (by decide)) I_2 H.size) (cwV 1 hts (bw_V wB_1234 wB_1235 wB_1236 wB_881 wB_1233) rfl rfl rfl (by decide +kernel) ⟨Nat.le_of_ble_eq_true rfl, Nat.le_of_ble_eq_true rfl⟩) (dg_preV sM_0 rfl K ST hP hS hA1 hA) rfl rfl hl.1 rfl (lv_room (Nat.le_of_ble_eq_true rfl)) dX12_goesOn_230 ⟨Nat.le_of_ble_eq_true rfl, Nat.le_of_ble_eq_true rfl⟩) (fun S_5171 hw_5171 H locs hP hS => ?_)
            obtain ⟨I_5171, m_5171, w_5171_0, w_5171_1, w_5171_2, w_5171_3, -⟩ := hw_5171
            have M_5171 := dg_sm.tr M_2 m_5171 (by decide) (by decide)
            have hz_5172 : (5 : Int32).toInt = 5 := by decide +kernel
            obtain ⟨y_5173, y_5174, f_y_5173, f_y_5174, w_5171_0⟩ := w_5171_0
            have w_5171_0 : (y_5173).toInt + (y_5174).toInt = (cd).toInt + (om).toInt := w_5171_0
            have b_y_5173 : 0 ≤ (y_5173).toInt ∧ (y_5173).toInt ≤ 1600 := dg_I.intb (lo := 0) (hi := 1600) I_5171 sM_0 (by decide +kernel) f_y_5173
            have b_y_5174 : 0 ≤ (y_5174).toInt ∧ (y_5174).toInt ≤ 500 := dg_I.intb (lo := 0) (hi := 500) I_5171 sM_0 (by decide +kernel) f_y_5174
            have w_5171_1 : TOPM S_5171 (5 : Int32) := w_5171_1
            refine lv_aload_n hx hb dX12_goesOn_233 rfl (lv_at hl 3 rfl) ?_
            refine lv_aload_n hx hb dX12_goesOn_234 rfl (lv_at hl 3 rfl) ?_
            refine lv_bipush (v := 60) hx hb dX12_goesOn_235 (by decide +kernel) ?_
            refine dg_calli hS hA1 hA (va_runV (As := [.int 60]) (rest := [.ref (o + 0)]) F (c_m_isSign l g D o S_5171 60 sg (((m_5171.1 0 3 _ sM_0 (by decide)).trans (m_2.1 0 3 _ sM_0 (by decide))).trans f_sg) (by omega) va (((m_5171.1 0 6 _ sM_0 (by decide)).trans (m_2.1 0 6 _ sM_0 (by decide))).trans f_va) (by omega) I_5171 H.size) (cwV 1 hts (bw_V wB_1157 wB_1158 wB_1159 wB_881 wB_1156) rfl rfl rfl (by decide +kernel) ⟨Nat.le_of_ble_eq_true rfl, Nat.le_of_ble_eq_true rfl⟩) (dg_preV sM_0 rfl K ST hP hS hA1 hA) rfl rfl hl.1 rfl (lv_room (Nat.le_of_ble_eq_true rfl)) dX12_goesOn_237 ⟨Nat.le_of_ble_eq_true rfl, Nat.le_of_ble_eq_true rfl⟩) (fun x_5175 S_5176 hw_5176 H locs hP hS => ?_)
            rw [hw_5176.1] at hP
            obtain ⟨hq_5176, w_5176_0, w_5176_1, -⟩ := hw_5176
            have hz_5177 : (60 : Int32).toInt = 60 := by decide +kernel
            have w_5176_0 : 0 ≤ (x_5175).toInt ∧ (x_5175).toInt ≤ 1 := w_5176_0
            have w_5176_1 : (x_5175).toInt = 1 ↔ ((sg).toInt = 3 ∧ (va).toInt = ((60 : Int32)).toInt) := w_5176_1
            have J_5206 : ∀ (x_5183 : Int32), (38 ≤ (x_5183).toInt ∧ (x_5183).toInt ≤ 40) → ∀ (H : Heap) (locs : List Loc), va_P D vwCl (dg_w g shM o rfM S_5171) H → va_S A s.heap H locs → ∀ ls : Array Slot, lv_has ls 5 [(3, .int x_8), (2, .int x_7), (1, .int x_5), (0, .ref (o + 0))] → W p l e ({ frames := 3, cells := 0, slots := 0, locals := 77 } : Room) s m args below meth c H locs 0 0 (MQ below (va_Qi (fun (r : Int32) S' => CM o S' ∧ dg_sm shM [(0, 3), (0, 4), (0, 5), (0, 6), (0, 7), (0, 8), (0, 9), (0, 12), (0, 34), (0, 42), (0, 43), (0, 45), (0, 46)] [18, 19, 22, 23, 24, 27] S S' ∧ (0 ≤ (r).toInt ∧ (r).toInt ≤ 1) ∧ (∃ y9_3 y9_4 y9_5 y9_8 y9_34 y9_42 y9_45 y9_46 : Int32, S'.1 0 3 = .int y9_3 ∧ S'.1 0 4 = .int y9_4 ∧ S'.1 0 5 = .int y9_5 ∧ S'.1 0 8 = .int y9_8 ∧ S'.1 0 34 = .int y9_34 ∧ S'.1 0 42 = .int y9_42 ∧ S'.1 0 45 = .int y9_45 ∧ S'.1 0 46 = .int y9_46 ∧ (((y9_4).toInt ≤ (y9_5).toInt ∧ (y9_5).toInt ≤ (sl).toInt ∧ ((y9_3).toInt ≠ 0 → (y9_4).toInt + 1 ≤ (y9_5).toInt)) ∧ (sa).toInt ≤ (y9_4).toInt ∧ ((fk).toInt ≠ 0 → (y9_8).toInt ≠ 0) ∧ (((y9_8).toInt = 0 → (r).toInt = 1 → (sa).toInt + 1 ≤ (y9_4).toInt) ∧ ((y9_8).toInt = 0 → (y9_34).toInt + (y9_45).toInt + (y9_42).toInt ≤ (y9_4).toInt)))) ∧ (∀ k9 : Int32, S'.1 0 8 = .int k9 → k9.toInt = 0 → POM S') ∧ ZWM S' ∧ True) (dg_B g D shM o rfM) A) args s 0 0 A) (F0 m 264 ls [.int x_5183, .ref (o + 0)]) := by
              intro x_5183 b_x_5183 H locs hP hS ls hl
              refine dg_callv hS hA1 hA (va_runV (As := [.int x_5183]) (rest := []) F (c_m_holdsBack l g D o S_5171 x_5183 y_5174 f_y_5174 (by omega) I_5171 H.size) (cwV 1 hts (bw_V wB_1224 wB_1225 wB_1226 wB_881 wB_1223) rfl rfl rfl (by decide +kernel) ⟨Nat.le_of_ble_eq_true rfl, Nat.le_of_ble_eq_true rfl⟩) (dg_preV sM_0 rfl K ST hP hS hA1 hA) rfl rfl hl.1 rfl (lv_room (Nat.le_of_ble_eq_true rfl)) dX12_goesOn_264 ⟨Nat.le_of_ble_eq_true rfl, Nat.le_of_ble_eq_true rfl⟩) (fun S_5207 hw_5207 H locs hP hS => ?_)
              obtain ⟨I_5207, m_5207, w_5207_0, w_5207_1, -⟩ := hw_5207
              have M_5207 := dg_sm.tr M_5171 m_5207 (by decide) (by decide)
              obtain ⟨y_5208, f_y_5208, w_5207_0⟩ := w_5207_0
              have w_5207_0 : (y_5208).toInt = (y_5174).toInt + 1 := w_5207_0
              have b_y_5208 : 0 ≤ (y_5208).toInt ∧ (y_5208).toInt ≤ 500 := dg_I.intb (lo := 0) (hi := 500) I_5207 sM_0 (by decide +kernel) f_y_5208
              have w_5207_1 : HBM S_5171 S_5207 x_5183 := w_5207_1
              refine lv_aload_n hx hb dX12_goesOn_267 rfl (lv_at hl 3 rfl) ?_
              refine dg_get (C := RX12) (T := TX12) (N := 77) hx hb hts (fun w h => bw_mem (wU_X12 w h)) hown K hP sM_0 rfl 38 (by decide) (hts _ (bw_mem wB_1214)) (fun _ h9 => h9) (v := .ref (o + 23)) (show S_5207.1 0 38 = .ref (o + 23) from dg_I.rel (d := 23) I_5207 sM_0 (by decide +kernel)) dX12_goesOn_268 ?_
              refine lv_iload_n hx hb dX12_goesOn_271 rfl (lv_at hl 2 rfl) ?_
              refine lv_iconst (v := 1) hx hb dX12_goesOn_272 (by decide +kernel) ?_
              have hin_5209 : vp_in x_5 20 := (dk_inv (by omega) (by omega))
              have hz_5211 : (1 : Int32).toInt = 1 := by decide +kernel
              refine dg_iast hx hb K hP hS hA1 sM_23 hin_5209 dX12_goesOn_273 (fun S_5210 e_5210 H locs hP hS => ?_)
              have I_5210 := dg_I.ufu (lo := 0) (hi := 2) I_5207 e_5210 sM_23 (by decide +kernel) (show 0 ≤ ((1 : Int32)).toInt ∧ ((1 : Int32)).toInt ≤ 2 from (by decide +kernel))
              have M_5210 := dg_sm.uf M_5207 e_5210 sM_23 (by decide)
              obtain ⟨x_5212, f_x_5212, b_x_5212⟩ := dg_I.int (i := 0) (k := 43) (lo := (-2147483648)) (hi := 2147483647) I_5171 sM_0 (by decide +kernel)
              obtain ⟨x_5213, f_x_5213, b_x_5213⟩ := dg_I.int (i := 0) (k := 45) (lo := 0) (hi := 500) I_5171 sM_0 (by decide +kernel)
              have hz_5214 : (1 : Int32).toInt = 1 := by decide +kernel
              obtain ⟨x_5215, f_x_5215⟩ : ∃ x, S_5171.2.1 23 (x_5 : Int32).toNatClampNeg = x := ⟨_, rfl⟩
              have hin_5216 : vp_in (x_5 : Int32) 20 := (dk_inv (by omega) (by omega))
              have b_x_5215 := dk_all_at (dg_I.row (lo := 0) (hi := 2) I_5171 sM_23 (by decide +kernel)) hin_5216 f_x_5215.symm
              have P0_5210 : P0M S_5210 := P1M.cmp w_5171_3 (((m_5171.1 0 42 _ sM_0 (by decide)).trans (m_2.1 0 42 _ sM_0 (by decide))).trans f_dp) f_x_5212 f_x_5213 w_5171_1 (by omega) m_5207 w_5207_1 (by omega) (fx := x_5) (by omega) ((congrFun (m_5171.2 22 _ sM_22 (by decide)).1 _).trans ex_7.symm) (by unfold dk_ts; omega) (by rw [f_x_5215]; omega) e_5210 (by omega)
              refine lv_aload_n hx hb dX12_goesOn_274 rfl (lv_at hl 3 rfl) ?_
              refine dg_callv hS hA1 hA (va_runV (As := []) (rest := []) F (c_m_ahead l g D o S_5210 se (((dg_uf_F e_5210 0 5).trans ((m_5207.1 0 5 _ sM_0 (by decide)).trans ((m_5171.1 0 5 _ sM_0 (by decide)).trans (m_2.1 0 5 _ sM_0 (by decide))))).trans f_se) (by omega) sl (((dg_uf_F e_5210 0 2).trans ((m_5207.1 0 2 _ sM_0 (by decide)).trans ((m_5171.1 0 2 _ sM_0 (by decide)).trans (m_2.1 0 2 _ sM_0 (by decide))))).trans f_sl) (by omega) (by omega) I_5210 H.size) (cwV 0 hts (bw_V wB_1161 wB_1162 wB_1163 wB_881 wB_1160) rfl rfl rfl (by decide +kernel) ⟨Nat.le_of_ble_eq_true rfl, Nat.le_of_ble_eq_true rfl⟩) (dg_preV sM_0 rfl K ST hP hS hA1 hA) rfl rfl hl.1 rfl (lv_room (Nat.le_of_ble_eq_true rfl)) dX12_goesOn_275 ⟨Nat.le_of_ble_eq_true rfl, Nat.le_of_ble_eq_true rfl⟩) (fun S_5217 hw_5217 H locs hP hS => ?_)
              obtain ⟨I_5217, m_5217, w_5217_0, -⟩ := hw_5217
              have M_5217 := dg_sm.tr M_5210 m_5217 (by decide) (by decide)
              obtain ⟨y_5218, y_5219, y_5220, f_y_5218, f_y_5219, f_y_5220, w_5217_0⟩ := w_5217_0
              have w_5217_0 : (se).toInt ≤ (y_5219).toInt ∧ (y_5219).toInt ≤ (y_5220).toInt ∧ (y_5220).toInt ≤ (sl).toInt ∧ ((y_5218).toInt ≠ 0 → (y_5219).toInt + 1 ≤ (y_5220).toInt) := w_5217_0
              have b_y_5218 : 0 ≤ (y_5218).toInt ∧ (y_5218).toInt ≤ 3 := dg_I.intb (lo := 0) (hi := 3) I_5217 sM_0 (by decide +kernel) f_y_5218
              have b_y_5219 : 0 ≤ (y_5219).toInt ∧ (y_5219).toInt ≤ 1600 := dg_I.intb (lo := 0) (hi := 1600) I_5217 sM_0 (by decide +kernel) f_y_5219
              have b_y_5220 : 0 ≤ (y_5220).toInt ∧ (y_5220).toInt ≤ 1600 := dg_I.intb (lo := 0) (hi := 1600) I_5217 sM_0 (by decide +kernel) f_y_5220
              refine lv_aload_n hx hb dX12_goesOn_278 rfl (lv_at hl 3 rfl) ?_
              refine lv_iconst (v := 0) hx hb dX12_goesOn_279 (by decide +kernel) ?_
              have hz_5221 : (0 : Int32).toInt = 0 := by decide +kernel
              refine dg_put (ci := 12) (v := .int 0) (ty := tyX12 46) (C := RX12) (T := TX12) (N := 77) hx hb hts (fun w h => bw_mem (wU_X12 w h)) tyX12 tyX12_ok nmX12 hown K hP hS hA1 sM_0 rfl 46 (by decide) (hts _ (bw_mem wB_1237)) (fun _ h9 => h9) rfl (by decide +kernel) (by decide +kernel) (by decide +kernel) dX12_goesOn_280 (fun S_5222 e_5222 H locs hP hS => ?_)
              have I_5222 := dg_I.uFi (lo := 0) (hi := 1) I_5217 e_5222 sM_0 (by decide +kernel) (show 0 ≤ ((0 : Int32)).toInt ∧ ((0 : Int32)).toInt ≤ 1 from (by decide +kernel))
              have M_5222 := dg_sm.uF M_5217 e_5222 sM_0 (by decide)
              refine lv_iconst (v := 1) hx hb dX12_goesOn_283 (by decide +kernel) ?_
              have hz_5223 : (1 : Int32).toInt = 1 := by decide +kernel
              have hz_5224 : (1 : Int32).toInt = 1 := by decide +kernel
              obtain ⟨x_5225, f_x_5225, b_x_5225⟩ := dg_I.int (i := 0) (k := 45) (lo := 0) (hi := 500) I_5222 sM_0 (by decide +kernel)
              have hz_5226 : (0 : Int32).toInt = 0 := by decide +kernel
              have hz_5227 : (1 : Int32).toInt = 1 := by decide +kernel
              have hz_5228 : (0 : Int32).toInt = 0 := by decide +kernel
              refine W.widen (k := 0) (n := 0) (Nat.le_of_ble_eq_true rfl) (Nat.le_of_ble_eq_true rfl) ?_
              exact dg_iret hx hb hr hlocks (by decide +kernel) hP hS ⟨I_5222, M_5222, (by decide +kernel), ⟨y_5218, y_5219, y_5220, y_3, y_5173, dp, x_5225, 0, ((dg_uF_ne e_5222 (fun z => absurd z.2 (by decide))).trans f_y_5218), ((dg_uF_ne e_5222 (fun z => absurd z.2 (by decide))).trans f_y_5219), ((dg_uF_ne e_5222 (fun z => absurd z.2 (by decide))).trans f_y_5220), (((dg_uF_ne e_5222 (fun z => absurd z.2 (by decide))).trans ((m_5217.1 0 8 _ sM_0 (by decide)).trans ((dg_uf_F e_5210 0 8).trans ((m_5207.1 0 8 _ sM_0 (by decide)).trans (m_5171.1 0 8 _ sM_0 (by decide)))))).trans f_y_3), (((dg_uF_ne e_5222 (fun z => absurd z.2 (by decide))).trans ((m_5217.1 0 34 _ sM_0 (by decide)).trans ((dg_uf_F e_5210 0 34).trans (m_5207.1 0 34 _ sM_0 (by decide))))).trans f_y_5173), (((dg_uF_ne e_5222 (fun z => absurd z.2 (by decide))).trans ((m_5217.1 0 42 _ sM_0 (by decide)).trans ((dg_uf_F e_5210 0 42).trans ((m_5207.1 0 42 _ sM_0 (by decide)).trans ((m_5171.1 0 42 _ sM_0 (by decide)).trans (m_2.1 0 42 _ sM_0 (by decide))))))).trans f_dp), f_x_5225, (dg_uF_at e_5222), (by omega)⟩, (fun k9 hk9 hk0 => POM.mk0 (P0M.keep (P0M.keep P0_5210 m_5217 (by decide) (by decide) (by decide) (by decide) (by decide) (by decide) (by decide) (by decide) (by decide) (by decide) (by decide) (by decide) (by decide) (by decide) (by decide)) (dg_sm.uF (WF := [(0, 46)]) (WA := []) dg_sm.rf e_5222 sM_0 (by decide)) (by decide) (by decide) (by decide) (by decide) (by decide) (by decide) (by decide) (by decide) (by decide) (by decide) (by decide) (by decide) (by decide) (by decide) (by decide)) (dg_uF_at e_5222) (by omega)), (ZWM.keep (ZWM.keep (ZWM.keep (ZWM.keep w_5171_2 m_5207 (by decide) (by decide) (by decide) (by decide)) (dg_sm.uf (WF := []) (WA := [23]) dg_sm.rf e_5210 sM_23 (by decide)) (by decide) (by decide) (by decide) (by decide)) m_5217 (by decide) (by decide) (by decide) (by decide)) (dg_sm.uF (WF := [(0, 46)]) (WA := []) dg_sm.rf e_5222 sM_0 (by decide)) (by decide) (by decide) (by decide) (by decide)), trivial⟩ dX12_goesOn_284
            refine lv_if_eq (tgt := 248) hx hb dX12_goesOn_240 (by decide) (fun c_5229 => ?_) (fun c_5229 => ?_)
            · have jc_5229 := dk_eqc (k := 0) (by decide +kernel) c_5229
              clear w_5176_1
              refine lv_aload_n hx hb dX12_goesOn_248 rfl (lv_at hl 3 rfl) ?_
              refine lv_bipush (v := 62) hx hb dX12_goesOn_249 (by decide +kernel) ?_
              refine dg_calli hS hA1 hA (va_runV (As := [.int 62]) (rest := [.ref (o + 0)]) F (c_m_isSign l g D o S_5171 62 sg (((m_5171.1 0 3 _ sM_0 (by decide)).trans (m_2.1 0 3 _ sM_0 (by decide))).trans f_sg) (by omega) va (((m_5171.1 0 6 _ sM_0 (by decide)).trans (m_2.1 0 6 _ sM_0 (by decide))).trans f_va) (by omega) I_5171 H.size) (cwV 1 hts (bw_V wB_1157 wB_1158 wB_1159 wB_881 wB_1156) rfl rfl rfl (by decide +kernel) ⟨Nat.le_of_ble_eq_true rfl, Nat.le_of_ble_eq_true rfl⟩) (dg_preV sM_0 rfl K ST hP hS hA1 hA) rfl rfl hl.1 rfl (lv_room (Nat.le_of_ble_eq_true rfl)) dX12_goesOn_251 ⟨Nat.le_of_ble_eq_true rfl, Nat.le_of_ble_eq_true rfl⟩) (fun x_5230 S_5231 hw_5231 H locs hP hS => ?_)
              rw [hw_5231.1] at hP
              obtain ⟨hq_5231, w_5231_0, w_5231_1, -⟩ := hw_5231
              have hz_5232 : (62 : Int32).toInt = 62 := by decide +kernel
              have w_5231_0 : 0 ≤ (x_5230).toInt ∧ (x_5230).toInt ≤ 1 := w_5231_0
              have w_5231_1 : (x_5230).toInt = 1 ↔ ((sg).toInt = 3 ∧ (va).toInt = ((62 : Int32)).toInt) := w_5231_1
              refine lv_if_eq (tgt := 262) hx hb dX12_goesOn_254 (by decide) (fun c_5233 => ?_) (fun c_5233 => ?_)
              · have jc_5233 := dk_eqc (k := 0) (by decide +kernel) c_5233
                clear w_5231_1
                refine lv_bipush (v := 40) hx hb dX12_goesOn_262 (by decide +kernel) ?_
                have hz_5234 : (40 : Int32).toInt = 40 := by decide +kernel
                exact J_5206 40 (by decide +kernel) _ _ hP hS _ (lv_sub hl [0, 1, 2, 3] rfl)
              · have jc_5233 := dk_neqc (k := 0) (by decide +kernel) c_5233
                have w_5231_1_r := w_5231_1.mp (by omega)
                clear w_5231_1
                refine lv_bipush (v := 39) hx hb dX12_goesOn_257 (by decide +kernel) ?_
                refine lv_goto (tgt := 264) hx hb dX12_goesOn_259 (by decide) ?_
                have hz_5235 : (39 : Int32).toInt = 39 := by decide +kernel
                exact J_5206 39 (by decide +kernel) _ _ hP hS _ (lv_sub hl [0, 1, 2, 3] rfl)
            · have jc_5229 := dk_neqc (k := 0) (by decide +kernel) c_5229
              have w_5176_1_r := w_5176_1.mp (by omega)
              clear w_5176_1
              refine lv_bipush (v := 38) hx hb dX12_goesOn_243 (by decide +kernel) ?_
              refine lv_goto (tgt := 264) hx hb dX12_goesOn_245 (by decide) ?_
              have hz_5236 : (38 : Int32).toInt = 38 := by decide +kernel
              exact J_5206 38 (by decide +kernel) _ _ hP hS _ (lv_sub hl [0, 1, 2, 3] rfl)
          refine lv_if_ne (tgt := 228) hx hb dX12_goesOn_207 (by decide) (fun c_5237 => ?_) (fun c_5237 => ?_)
          · have jc_5237 := dk_neqc (k := 0) (by decide +kernel) c_5237
            have w_5122_1_r := w_5122_1.mp (by omega)
            clear w_5122_1
            exact J_5169  (by omega) _ _ hP hS _ (lv_sub hl [0, 1, 2, 3] rfl)
          · have jc_5237 := dk_eqc (k := 0) (by decide +kernel) c_5237
            clear w_5122_1
            refine lv_aload_n hx hb dX12_goesOn_210 rfl (lv_at hl 3 rfl) ?_
            refine lv_bipush (v := 62) hx hb dX12_goesOn_211 (by decide +kernel) ?_
            refine dg_calli hS hA1 hA (va_runV (As := [.int 62]) (rest := []) F (c_m_isSign l g D o S_2 62 sg ((m_2.1 0 3 _ sM_0 (by decide)).trans f_sg) (by omega) va ((m_2.1 0 6 _ sM_0 (by decide)).trans f_va) (by omega) I_2 H.size) (cwV 1 hts (bw_V wB_1157 wB_1158 wB_1159 wB_881 wB_1156) rfl rfl rfl (by decide +kernel) ⟨Nat.le_of_ble_eq_true rfl, Nat.le_of_ble_eq_true rfl⟩) (dg_preV sM_0 rfl K ST hP hS hA1 hA) rfl rfl hl.1 rfl (lv_room (Nat.le_of_ble_eq_true rfl)) dX12_goesOn_213 ⟨Nat.le_of_ble_eq_true rfl, Nat.le_of_ble_eq_true rfl⟩) (fun x_5238 S_5239 hw_5239 H locs hP hS => ?_)
            rw [hw_5239.1] at hP
            obtain ⟨hq_5239, w_5239_0, w_5239_1, -⟩ := hw_5239
            have hz_5240 : (62 : Int32).toInt = 62 := by decide +kernel
            have w_5239_0 : 0 ≤ (x_5238).toInt ∧ (x_5238).toInt ≤ 1 := w_5239_0
            have w_5239_1 : (x_5238).toInt = 1 ↔ ((sg).toInt = 3 ∧ (va).toInt = ((62 : Int32)).toInt) := w_5239_1
            refine lv_if_ne (tgt := 228) hx hb dX12_goesOn_216 (by decide) (fun c_5241 => ?_) (fun c_5241 => ?_)
            · have jc_5241 := dk_neqc (k := 0) (by decide +kernel) c_5241
              have w_5239_1_r := w_5239_1.mp (by omega)
              clear w_5239_1
              exact J_5169  (by omega) _ _ hP hS _ (lv_sub hl [0, 1, 2, 3] rfl)
            · have jc_5241 := dk_eqc (k := 0) (by decide +kernel) c_5241
              clear w_5239_1
              refine lv_aload_n hx hb dX12_goesOn_219 rfl (lv_at hl 3 rfl) ?_
              refine lv_bipush (v := 61) hx hb dX12_goesOn_220 (by decide +kernel) ?_
              refine dg_calli hS hA1 hA (va_runV (As := [.int 61]) (rest := []) F (c_m_isSign l g D o S_2 61 sg ((m_2.1 0 3 _ sM_0 (by decide)).trans f_sg) (by omega) va ((m_2.1 0 6 _ sM_0 (by decide)).trans f_va) (by omega) I_2 H.size) (cwV 1 hts (bw_V wB_1157 wB_1158 wB_1159 wB_881 wB_1156) rfl rfl rfl (by decide +kernel) ⟨Nat.le_of_ble_eq_true rfl, Nat.le_of_ble_eq_true rfl⟩) (dg_preV sM_0 rfl K ST hP hS hA1 hA) rfl rfl hl.1 rfl (lv_room (Nat.le_of_ble_eq_true rfl)) dX12_goesOn_222 ⟨Nat.le_of_ble_eq_true rfl, Nat.le_of_ble_eq_true rfl⟩) (fun x_5242 S_5243 hw_5243 H locs hP hS => ?_)
              rw [hw_5243.1] at hP
              obtain ⟨hq_5243, w_5243_0, w_5243_1, -⟩ := hw_5243
              have hz_5244 : (61 : Int32).toInt = 61 := by decide +kernel
              have w_5243_0 : 0 ≤ (x_5242).toInt ∧ (x_5242).toInt ≤ 1 := w_5243_0
              have w_5243_1 : (x_5242).toInt = 1 ↔ ((sg).toInt = 3 ∧ (va).toInt = ((61 : Int32)).toInt) := w_5243_1
              refine lv_if_eq (tgt := 285) hx hb dX12_goesOn_225 (by decide) (fun c_5245 => ?_) (fun c_5245 => ?_)
              · have jc_5245 := dk_eqc (k := 0) (by decide +kernel) c_5245
                clear w_5243_1
                exact J_2200   _ _ hP hS _ (lv_sub hl [0, 1, 2, 3] rfl)
              · have jc_5245 := dk_neqc (k := 0) (by decide +kernel) c_5245
                have w_5243_1_r := w_5243_1.mp (by omega)
                clear w_5243_1
                exact J_5169  (by omega) _ _ hP hS _ (lv_sub hl [0, 1, 2, 3] rfl)
    refine lv_icmp_ge (tgt := 188) hx hb dX12_goesOn_39 (by decide) (fun c_5246 => ?_) (fun c_5246 => ?_)
    · have jc_5246 := dk_gec (k := 2) (by decide +kernel) c_5246
      exact J_1279   _ _ hP hS _ (lv_sub hl [0, 1, 2, 3] rfl)
    · have jc_5246 := dk_ngec (k := 2) (by decide +kernel) c_5246
      refine lv_aload_n hx hb dX12_goesOn_42 rfl (lv_at hl 3 rfl) ?_
      refine lv_bipush (v := 43) hx hb dX12_goesOn_43 (by decide +kernel) ?_
      refine dg_calli hS hA1 hA (va_runV (As := [.int 43]) (rest := []) F (c_m_isSign l g D o S_2 43 sg ((m_2.1 0 3 _ sM_0 (by decide)).trans f_sg) (by omega) va ((m_2.1 0 6 _ sM_0 (by decide)).trans f_va) (by omega) I_2 H.size) (cwV 1 hts (bw_V wB_1157 wB_1158 wB_1159 wB_881 wB_1156) rfl rfl rfl (by decide +kernel) ⟨Nat.le_of_ble_eq_true rfl, Nat.le_of_ble_eq_true rfl⟩) (dg_preV sM_0 rfl K ST hP hS hA1 hA) rfl rfl hl.1 rfl (lv_room (Nat.le_of_ble_eq_true rfl)) dX12_goesOn_45 ⟨Nat.le_of_ble_eq_true rfl, Nat.le_of_ble_eq_true rfl⟩) (fun x_5247 S_5248 hw_5248 H locs hP hS => ?_)
      rw [hw_5248.1] at hP
      obtain ⟨hq_5248, w_5248_0, w_5248_1, -⟩ := hw_5248
      have hz_5249 : (43 : Int32).toInt = 43 := by decide +kernel
      have w_5248_0 : 0 ≤ (x_5247).toInt ∧ (x_5247).toInt ≤ 1 := w_5248_0
      have w_5248_1 : (x_5247).toInt = 1 ↔ ((sg).toInt = 3 ∧ (va).toInt = ((43 : Int32)).toInt) := w_5248_1
      have J_5593 : ((sg).toInt = 3 ∧ ((va).toInt = 43 ∨ (va).toInt = 45 ∨ (va).toInt = 42 ∨ (va).toInt = 47 ∨ (va).toInt = 37)) → ∀ (H : Heap) (locs : List Loc), va_P D vwCl (dg_w g shM o rfM S_2) H → va_S A s.heap H locs → ∀ ls : Array Slot, lv_has ls 5 [(3, .int x_8), (2, .int x_7), (1, .int x_5), (0, .ref (o + 0))] → W p l e ({ frames := 3, cells := 0, slots := 0, locals := 77 } : Room) s m args below meth c H locs 0 0 (MQ below (va_Qi (fun (r : Int32) S' => CM o S' ∧ dg_sm shM [(0, 3), (0, 4), (0, 5), (0, 6), (0, 7), (0, 8), (0, 9), (0, 12), (0, 34), (0, 42), (0, 43), (0, 45), (0, 46)] [18, 19, 22, 23, 24, 27] S S' ∧ (0 ≤ (r).toInt ∧ (r).toInt ≤ 1) ∧ (∃ y9_3 y9_4 y9_5 y9_8 y9_34 y9_42 y9_45 y9_46 : Int32, S'.1 0 3 = .int y9_3 ∧ S'.1 0 4 = .int y9_4 ∧ S'.1 0 5 = .int y9_5 ∧ S'.1 0 8 = .int y9_8 ∧ S'.1 0 34 = .int y9_34 ∧ S'.1 0 42 = .int y9_42 ∧ S'.1 0 45 = .int y9_45 ∧ S'.1 0 46 = .int y9_46 ∧ (((y9_4).toInt ≤ (y9_5).toInt ∧ (y9_5).toInt ≤ (sl).toInt ∧ ((y9_3).toInt ≠ 0 → (y9_4).toInt + 1 ≤ (y9_5).toInt)) ∧ (sa).toInt ≤ (y9_4).toInt ∧ ((fk).toInt ≠ 0 → (y9_8).toInt ≠ 0) ∧ (((y9_8).toInt = 0 → (r).toInt = 1 → (sa).toInt + 1 ≤ (y9_4).toInt) ∧ ((y9_8).toInt = 0 → (y9_34).toInt + (y9_45).toInt + (y9_42).toInt ≤ (y9_4).toInt)))) ∧ (∀ k9 : Int32, S'.1 0 8 = .int k9 → k9.toInt = 0 → POM S') ∧ ZWM S' ∧ True) (dg_B g D shM o rfM) A) args s 0 0 A) (F0 m 87 ls []) := by
        intro rel_0 H locs hP hS ls hl
        refine lv_aload_n hx hb dX12_goesOn_87 rfl (lv_at hl 3 rfl) ?_
        refine lv_aload_n hx hb dX12_goesOn_88 rfl (lv_at hl 3 rfl) ?_
        refine lv_bipush (v := 43) hx hb dX12_goesOn_89 (by decide +kernel) ?_
        refine dg_calli hS hA1 hA (va_runV (As := [.int 43]) (rest := [.ref (o + 0)]) F (c_m_isSign l g D o S_2 43 sg ((m_2.1 0 3 _ sM_0 (by decide)).trans f_sg) (by omega) va ((m_2.1 0 6 _ sM_0 (by decide)).trans f_va) (by omega) I_2 H.size) (cwV 1 hts (bw_V wB_1157 wB_1158 wB_1159 wB_881 wB_1156) rfl rfl rfl (by decide +kernel) ⟨Nat.le_of_ble_eq_true rfl, Nat.le_of_ble_eq_true rfl⟩) (dg_preV sM_0 rfl K ST hP hS hA1 hA) rfl rfl hl.1 rfl (lv_room (Nat.le_of_ble_eq_true rfl)) dX12_goesOn_91 ⟨Nat.le_of_ble_eq_true rfl, Nat.le_of_ble_eq_true rfl⟩) (fun x_5594 S_5595 hw_5595 H locs hP hS => ?_)
        rw [hw_5595.1] at hP
        obtain ⟨hq_5595, w_5595_0, w_5595_1, -⟩ := hw_5595
        have hz_5596 : (43 : Int32).toInt = 43 := by decide +kernel
        have w_5595_0 : 0 ≤ (x_5594).toInt ∧ (x_5594).toInt ≤ 1 := w_5595_0
        have w_5595_1 : (x_5594).toInt = 1 ↔ ((sg).toInt = 3 ∧ (va).toInt = ((43 : Int32)).toInt) := w_5595_1
        refine lv_if_ne (tgt := 106) hx hb dX12_goesOn_94 (by decide) (fun c_5597 => ?_) (fun c_5597 => ?_)
        · have jc_5597 := dk_neqc (k := 0) (by decide +kernel) c_5597
          have w_5595_1_r := w_5595_1.mp (by omega)
          clear w_5595_1
          refine lv_iconst (v := 5) hx hb dX12_goesOn_106 (by decide +kernel) ?_
          refine lv_goto (tgt := 112) hx hb dX12_goesOn_107 (by decide) ?_
          have hz_5598 : (5 : Int32).toInt = 5 := by decide +kernel
          refine dg_callv hS hA1 hA (va_runV (As := [.int 5]) (rest := []) F (c_m_joins l g D o S_2 5 (by decide +kernel) cd ((m_2.1 0 34 _ sM_0 (by decide)).trans f_cd) (by omega) om ((m_2.1 0 45 _ sM_0 (by decide)).trans f_om) (by omega) (by omega) (ZWM.keep ZW m_2 (by decide) (by decide) (by decide) (by decide)) (ZKM.keep ZK m_2 (by decide) (by decide)) (P1M.keep P1 m_2 (by decide) (by decide) (by decide) (by decide) (by decide) (by decide) (by decide) (by decide) (by decide) (by decide) (by decide) (by decide) (by decide) (by decide) (by decide)) I_2 H.size) (cwV 1 hts (bw_V wB_1234 wB_1235 wB_1236 wB_881 wB_1233) rfl rfl rfl (by decide +kernel) ⟨Nat.le_of_ble_eq_true rfl, Nat.le_of_ble_eq_true rfl⟩) (dg_preV sM_0 rfl K ST hP hS hA1 hA) rfl rfl hl.1 rfl (lv_room (Nat.le_of_ble_eq_true rfl)) dX12_goesOn_112 ⟨Nat.le_of_ble_eq_true rfl, Nat.le_of_ble_eq_true rfl⟩) (fun S_5599 hw_5599 H locs hP hS => ?_)
          obtain ⟨I_5599, m_5599, w_5599_0, w_5599_1, w_5599_2, w_5599_3, -⟩ := hw_5599
          have M_5599 := dg_sm.tr M_2 m_5599 (by decide) (by decide)
          have hz_5600 : (5 : Int32).toInt = 5 := by decide +kernel
          obtain ⟨y_5601, y_5602, f_y_5601, f_y_5602, w_5599_0⟩ := w_5599_0
          have w_5599_0 : (y_5601).toInt + (y_5602).toInt = (cd).toInt + (om).toInt := w_5599_0
          have b_y_5601 : 0 ≤ (y_5601).toInt ∧ (y_5601).toInt ≤ 1600 := dg_I.intb (lo := 0) (hi := 1600) I_5599 sM_0 (by decide +kernel) f_y_5601
          have b_y_5602 : 0 ≤ (y_5602).toInt ∧ (y_5602).toInt ≤ 500 := dg_I.intb (lo := 0) (hi := 500) I_5599 sM_0 (by decide +kernel) f_y_5602
          have w_5599_1 : TOPM S_5599 (5 : Int32) := w_5599_1
          refine lv_aload_n hx hb dX12_goesOn_115 rfl (lv_at hl 3 rfl) ?_
          refine lv_aload_n hx hb dX12_goesOn_116 rfl (lv_at hl 3 rfl) ?_
          refine lv_bipush (v := 43) hx hb dX12_goesOn_117 (by decide +kernel) ?_
          refine dg_calli hS hA1 hA (va_runV (As := [.int 43]) (rest := [.ref (o + 0)]) F (c_m_isSign l g D o S_5599 43 sg (((m_5599.1 0 3 _ sM_0 (by decide)).trans (m_2.1 0 3 _ sM_0 (by decide))).trans f_sg) (by omega) va (((m_5599.1 0 6 _ sM_0 (by decide)).trans (m_2.1 0 6 _ sM_0 (by decide))).trans f_va) (by omega) I_5599 H.size) (cwV 1 hts (bw_V wB_1157 wB_1158 wB_1159 wB_881 wB_1156) rfl rfl rfl (by decide +kernel) ⟨Nat.le_of_ble_eq_true rfl, Nat.le_of_ble_eq_true rfl⟩) (dg_preV sM_0 rfl K ST hP hS hA1 hA) rfl rfl hl.1 rfl (lv_room (Nat.le_of_ble_eq_true rfl)) dX12_goesOn_119 ⟨Nat.le_of_ble_eq_true rfl, Nat.le_of_ble_eq_true rfl⟩) (fun x_5603 S_5604 hw_5604 H locs hP hS => ?_)
          rw [hw_5604.1] at hP
          obtain ⟨hq_5604, w_5604_0, w_5604_1, -⟩ := hw_5604
          have hz_5605 : (43 : Int32).toInt = 43 := by decide +kernel
          have w_5604_0 : 0 ≤ (x_5603).toInt ∧ (x_5603).toInt ≤ 1 := w_5604_0
          have w_5604_1 : (x_5603).toInt = 1 ↔ ((sg).toInt = 3 ∧ (va).toInt = ((43 : Int32)).toInt) := w_5604_1
          refine lv_if_eq (tgt := 130) hx hb dX12_goesOn_122 (by decide) (fun c_5606 => ?_) (fun c_5606 => ?_)
          · have jc_5606 := dk_eqc (k := 0) (by decide +kernel) c_5606
            have w_5604_1_r : (va).toInt ≠ 43 := fun q9 => absurd (w_5604_1.mpr ⟨by omega, by omega⟩) (by omega)
            clear w_5604_1
            refine lv_aload_n hx hb dX12_goesOn_130 rfl (lv_at hl 3 rfl) ?_
            refine lv_bipush (v := 45) hx hb dX12_goesOn_131 (by decide +kernel) ?_
            refine dg_calli hS hA1 hA (va_runV (As := [.int 45]) (rest := [.ref (o + 0)]) F (c_m_isSign l g D o S_5599 45 sg (((m_5599.1 0 3 _ sM_0 (by decide)).trans (m_2.1 0 3 _ sM_0 (by decide))).trans f_sg) (by omega) va (((m_5599.1 0 6 _ sM_0 (by decide)).trans (m_2.1 0 6 _ sM_0 (by decide))).trans f_va) (by omega) I_5599 H.size) (cwV 1 hts (bw_V wB_1157 wB_1158 wB_1159 wB_881 wB_1156) rfl rfl rfl (by decide +kernel) ⟨Nat.le_of_ble_eq_true rfl, Nat.le_of_ble_eq_true rfl⟩) (dg_preV sM_0 rfl K ST hP hS hA1 hA) rfl rfl hl.1 rfl (lv_room (Nat.le_of_ble_eq_true rfl)) dX12_goesOn_133 ⟨Nat.le_of_ble_eq_true rfl, Nat.le_of_ble_eq_true rfl⟩) (fun x_5607 S_5608 hw_5608 H locs hP hS => ?_)
            rw [hw_5608.1] at hP
            obtain ⟨hq_5608, w_5608_0, w_5608_1, -⟩ := hw_5608
            have hz_5609 : (45 : Int32).toInt = 45 := by decide +kernel
            have w_5608_0 : 0 ≤ (x_5607).toInt ∧ (x_5607).toInt ≤ 1 := w_5608_0
            have w_5608_1 : (x_5607).toInt = 1 ↔ ((sg).toInt = 3 ∧ (va).toInt = ((45 : Int32)).toInt) := w_5608_1
            refine lv_if_eq (tgt := 144) hx hb dX12_goesOn_136 (by decide) (fun c_5610 => ?_) (fun c_5610 => ?_)
            · have jc_5610 := dk_eqc (k := 0) (by decide +kernel) c_5610
              have w_5608_1_r : (va).toInt ≠ 45 := fun q9 => absurd (w_5608_1.mpr ⟨by omega, by omega⟩) (by omega)
              clear w_5608_1
              refine lv_aload_n hx hb dX12_goesOn_144 rfl (lv_at hl 3 rfl) ?_
              refine lv_bipush (v := 42) hx hb dX12_goesOn_145 (by decide +kernel) ?_
              refine dg_calli hS hA1 hA (va_runV (As := [.int 42]) (rest := [.ref (o + 0)]) F (c_m_isSign l g D o S_5599 42 sg (((m_5599.1 0 3 _ sM_0 (by decide)).trans (m_2.1 0 3 _ sM_0 (by decide))).trans f_sg) (by omega) va (((m_5599.1 0 6 _ sM_0 (by decide)).trans (m_2.1 0 6 _ sM_0 (by decide))).trans f_va) (by omega) I_5599 H.size) (cwV 1 hts (bw_V wB_1157 wB_1158 wB_1159 wB_881 wB_1156) rfl rfl rfl (by decide +kernel) ⟨Nat.le_of_ble_eq_true rfl, Nat.le_of_ble_eq_true rfl⟩) (dg_preV sM_0 rfl K ST hP hS hA1 hA) rfl rfl hl.1 rfl (lv_room (Nat.le_of_ble_eq_true rfl)) dX12_goesOn_147 ⟨Nat.le_of_ble_eq_true rfl, Nat.le_of_ble_eq_true rfl⟩) (fun x_5611 S_5612 hw_5612 H locs hP hS => ?_)
              rw [hw_5612.1] at hP
              obtain ⟨hq_5612, w_5612_0, w_5612_1, -⟩ := hw_5612
              have hz_5613 : (42 : Int32).toInt = 42 := by decide +kernel
              have w_5612_0 : 0 ≤ (x_5611).toInt ∧ (x_5611).toInt ≤ 1 := w_5612_0
              have w_5612_1 : (x_5611).toInt = 1 ↔ ((sg).toInt = 3 ∧ (va).toInt = ((42 : Int32)).toInt) := w_5612_1
              refine lv_if_eq (tgt := 158) hx hb dX12_goesOn_150 (by decide) (fun c_5614 => ?_) (fun c_5614 => ?_)
              · have jc_5614 := dk_eqc (k := 0) (by decide +kernel) c_5614
                have w_5612_1_r : (va).toInt ≠ 42 := fun q9 => absurd (w_5612_1.mpr ⟨by omega, by omega⟩) (by omega)
                clear w_5612_1
                refine lv_aload_n hx hb dX12_goesOn_158 rfl (lv_at hl 3 rfl) ?_
                refine lv_bipush (v := 47) hx hb dX12_goesOn_159 (by decide +kernel) ?_
                refine dg_calli hS hA1 hA (va_runV (As := [.int 47]) (rest := [.ref (o + 0)]) F (c_m_isSign l g D o S_5599 47 sg (((m_5599.1 0 3 _ sM_0 (by decide)).trans (m_2.1 0 3 _ sM_0 (by decide))).trans f_sg) (by omega) va (((m_5599.1 0 6 _ sM_0 (by decide)).trans (m_2.1 0 6 _ sM_0 (by decide))).trans f_va) (by omega) I_5599 H.size) (cwV 1 hts (bw_V wB_1157 wB_1158 wB_1159 wB_881 wB_1156) rfl rfl rfl (by decide +kernel) ⟨Nat.le_of_ble_eq_true rfl, Nat.le_of_ble_eq_true rfl⟩) (dg_preV sM_0 rfl K ST hP hS hA1 hA) rfl rfl hl.1 rfl (lv_room (Nat.le_of_ble_eq_true rfl)) dX12_goesOn_161 ⟨Nat.le_of_ble_eq_true rfl, Nat.le_of_ble_eq_true rfl⟩) (fun x_5615 S_5616 hw_5616 H locs hP hS => ?_)
                rw [hw_5616.1] at hP
                obtain ⟨hq_5616, w_5616_0, w_5616_1, -⟩ := hw_5616
                have hz_5617 : (47 : Int32).toInt = 47 := by decide +kernel
                have w_5616_0 : 0 ≤ (x_5615).toInt ∧ (x_5615).toInt ≤ 1 := w_5616_0
                have w_5616_1 : (x_5615).toInt = 1 ↔ ((sg).toInt = 3 ∧ (va).toInt = ((47 : Int32)).toInt) := w_5616_1
                refine lv_if_eq (tgt := 172) hx hb dX12_goesOn_164 (by decide) (fun c_5618 => ?_) (fun c_5618 => ?_)
                · have jc_5618 := dk_eqc (k := 0) (by decide +kernel) c_5618
                  have w_5616_1_r : (va).toInt ≠ 47 := fun q9 => absurd (w_5616_1.mpr ⟨by omega, by omega⟩) (by omega)
                  clear w_5616_1
                  refine lv_bipush (v := 35) hx hb dX12_goesOn_172 (by decide +kernel) ?_
                  refine dg_callv hS hA1 hA (va_runV (As := [.int 35]) (rest := []) F (c_m_holdsBack l g D o S_5599 35 y_5602 f_y_5602 (by omega) I_5599 H.size) (cwV 1 hts (bw_V wB_1224 wB_1225 wB_1226 wB_881 wB_1223) rfl rfl rfl (by decide +kernel) ⟨Nat.le_of_ble_eq_true rfl, Nat.le_of_ble_eq_true rfl⟩) (dg_preV sM_0 rfl K ST hP hS hA1 hA) rfl rfl hl.1 rfl (lv_room (Nat.le_of_ble_eq_true rfl)) dX12_goesOn_174 ⟨Nat.le_of_ble_eq_true rfl, Nat.le_of_ble_eq_true rfl⟩) (fun S_5619 hw_5619 H locs hP hS => ?_)
                  obtain ⟨I_5619, m_5619, w_5619_0, w_5619_1, -⟩ := hw_5619
                  have M_5619 := dg_sm.tr M_5599 m_5619 (by decide) (by decide)
                  have hz_5620 : (35 : Int32).toInt = 35 := by decide +kernel
                  obtain ⟨y_5621, f_y_5621, w_5619_0⟩ := w_5619_0
                  have w_5619_0 : (y_5621).toInt = (y_5602).toInt + 1 := w_5619_0
                  have b_y_5621 : 0 ≤ (y_5621).toInt ∧ (y_5621).toInt ≤ 500 := dg_I.intb (lo := 0) (hi := 500) I_5619 sM_0 (by decide +kernel) f_y_5621
                  have w_5619_1 : HBM S_5599 S_5619 (35 : Int32) := w_5619_1
                  obtain ⟨x_5622, f_x_5622, b_x_5622⟩ := dg_I.int (i := 0) (k := 43) (lo := (-2147483648)) (hi := 2147483647) I_5599 sM_0 (by decide +kernel)
                  obtain ⟨x_5623, f_x_5623, b_x_5623⟩ := dg_I.int (i := 0) (k := 45) (lo := 0) (hi := 500) I_5599 sM_0 (by decide +kernel)
                  have P0_5619 : P0M S_5619 := P1M.bin w_5599_3 (((m_5599.1 0 42 _ sM_0 (by decide)).trans (m_2.1 0 42 _ sM_0 (by decide))).trans f_dp) f_x_5622 f_x_5623 w_5599_1 m_5619 w_5619_1 (by omega)
                  refine lv_aload_n hx hb dX12_goesOn_177 rfl (lv_at hl 3 rfl) ?_
                  refine dg_callv hS hA1 hA (va_runV (As := []) (rest := []) F (c_m_ahead l g D o S_5619 se (((m_5619.1 0 5 _ sM_0 (by decide)).trans ((m_5599.1 0 5 _ sM_0 (by decide)).trans (m_2.1 0 5 _ sM_0 (by decide)))).trans f_se) (by omega) sl (((m_5619.1 0 2 _ sM_0 (by decide)).trans ((m_5599.1 0 2 _ sM_0 (by decide)).trans (m_2.1 0 2 _ sM_0 (by decide)))).trans f_sl) (by omega) (by omega) I_5619 H.size) (cwV 0 hts (bw_V wB_1161 wB_1162 wB_1163 wB_881 wB_1160) rfl rfl rfl (by decide +kernel) ⟨Nat.le_of_ble_eq_true rfl, Nat.le_of_ble_eq_true rfl⟩) (dg_preV sM_0 rfl K ST hP hS hA1 hA) rfl rfl hl.1 rfl (lv_room (Nat.le_of_ble_eq_true rfl)) dX12_goesOn_178 ⟨Nat.le_of_ble_eq_true rfl, Nat.le_of_ble_eq_true rfl⟩) (fun S_5624 hw_5624 H locs hP hS => ?_)
                  obtain ⟨I_5624, m_5624, w_5624_0, -⟩ := hw_5624
                  have M_5624 := dg_sm.tr M_5619 m_5624 (by decide) (by decide)
                  obtain ⟨y_5625, y_5626, y_5627, f_y_5625, f_y_5626, f_y_5627, w_5624_0⟩ := w_5624_0
                  have w_5624_0 : (se).toInt ≤ (y_5626).toInt ∧ (y_5626).toInt ≤ (y_5627).toInt ∧ (y_5627).toInt ≤ (sl).toInt ∧ ((y_5625).toInt ≠ 0 → (y_5626).toInt + 1 ≤ (y_5627).toInt) := w_5624_0
                  have b_y_5625 : 0 ≤ (y_5625).toInt ∧ (y_5625).toInt ≤ 3 := dg_I.intb (lo := 0) (hi := 3) I_5624 sM_0 (by decide +kernel) f_y_5625
                  have b_y_5626 : 0 ≤ (y_5626).toInt ∧ (y_5626).toInt ≤ 1600 := dg_I.intb (lo := 0) (hi := 1600) I_5624 sM_0 (by decide +kernel) f_y_5626
                  have b_y_5627 : 0 ≤ (y_5627).toInt ∧ (y_5627).toInt ≤ 1600 := dg_I.intb (lo := 0) (hi := 1600) I_5624 sM_0 (by decide +kernel) f_y_5627
                  refine lv_aload_n hx hb dX12_goesOn_181 rfl (lv_at hl 3 rfl) ?_
                  refine lv_iconst (v := 0) hx hb dX12_goesOn_182 (by decide +kernel) ?_
                  have hz_5628 : (0 : Int32).toInt = 0 := by decide +kernel
                  refine dg_put (ci := 12) (v := .int 0) (ty := tyX12 46) (C := RX12) (T := TX12) (N := 77) hx hb hts (fun w h => bw_mem (wU_X12 w h)) tyX12 tyX12_ok nmX12 hown K hP hS hA1 sM_0 rfl 46 (by decide) (hts _ (bw_mem wB_1237)) (fun _ h9 => h9) rfl (by decide +kernel) (by decide +kernel) (by decide +kernel) dX12_goesOn_183 (fun S_5629 e_5629 H locs hP hS => ?_)
                  have I_5629 := dg_I.uFi (lo := 0) (hi := 1) I_5624 e_5629 sM_0 (by decide +kernel) (show 0 ≤ ((0 : Int32)).toInt ∧ ((0 : Int32)).toInt ≤ 1 from (by decide +kernel))
                  have M_5629 := dg_sm.uF M_5624 e_5629 sM_0 (by decide)
                  refine lv_iconst (v := 1) hx hb dX12_goesOn_186 (by decide +kernel) ?_
                  have hz_5630 : (1 : Int32).toInt = 1 := by decide +kernel
                  have hz_5631 : (1 : Int32).toInt = 1 := by decide +kernel
                  obtain ⟨x_5632, f_x_5632, b_x_5632⟩ := dg_I.int (i := 0) (k := 45) (lo := 0) (hi := 500) I_5629 sM_0 (by decide +kernel)
                  have hz_5633 : (0 : Int32).toInt = 0 := by decide +kernel
                  have hz_5634 : (1 : Int32).toInt = 1 := by decide +kernel
                  have hz_5635 : (0 : Int32).toInt = 0 := by decide +kernel
                  refine W.widen (k := 0) (n := 0) (Nat.le_of_ble_eq_true rfl) (Nat.le_of_ble_eq_true rfl) ?_
                  exact dg_iret hx hb hr hlocks (by decide +kernel) hP hS ⟨I_5629, M_5629, (by decide +kernel), ⟨y_5625, y_5626, y_5627, y_3, y_5601, dp, x_5632, 0, ((dg_uF_ne e_5629 (fun z => absurd z.2 (by decide))).trans f_y_5625), ((dg_uF_ne e_5629 (fun z => absurd z.2 (by decide))).trans f_y_5626), ((dg_uF_ne e_5629 (fun z => absurd z.2 (by decide))).trans f_y_5627), (((dg_uF_ne e_5629 (fun z => absurd z.2 (by decide))).trans ((m_5624.1 0 8 _ sM_0 (by decide)).trans ((m_5619.1 0 8 _ sM_0 (by decide)).trans (m_5599.1 0 8 _ sM_0 (by decide))))).trans f_y_3), (((dg_uF_ne e_5629 (fun z => absurd z.2 (by decide))).trans ((m_5624.1 0 34 _ sM_0 (by decide)).trans (m_5619.1 0 34 _ sM_0 (by decide)))).trans f_y_5601), (((dg_uF_ne e_5629 (fun z => absurd z.2 (by decide))).trans ((m_5624.1 0 42 _ sM_0 (by decide)).trans ((m_5619.1 0 42 _ sM_0 (by decide)).trans ((m_5599.1 0 42 _ sM_0 (by decide)).trans (m_2.1 0 42 _ sM_0 (by decide)))))).trans f_dp), f_x_5632, (dg_uF_at e_5629), (by omega)⟩, (fun k9 hk9 hk0 => POM.mk0 (P0M.keep (P0M.keep P0_5619 m_5624 (by decide) (by decide) (by decide) (by decide) (by decide) (by decide) (by decide) (by decide) (by decide) (by decide) (by decide) (by decide) (by decide) (by decide) (by decide)) (dg_sm.uF (WF := [(0, 46)]) (WA := []) dg_sm.rf e_5629 sM_0 (by decide)) (by decide) (by decide) (by decide) (by decide) (by decide) (by decide) (by decide) (by decide) (by decide) (by decide) (by decide) (by decide) (by decide) (by decide) (by decide)) (dg_uF_at e_5629) (by omega)), (ZWM.keep (ZWM.keep (ZWM.keep w_5599_2 m_5619 (by decide) (by decide) (by decide) (by decide)) m_5624 (by decide) (by decide) (by decide) (by decide)) (dg_sm.uF (WF := [(0, 46)]) (WA := []) dg_sm.rf e_5629 sM_0 (by decide)) (by decide) (by decide) (by decide) (by decide)), trivial⟩ dX12_goesOn_187
                · have jc_5618 := dk_neqc (k := 0) (by decide +kernel) c_5618
                  have w_5616_1_r := w_5616_1.mp (by omega)
                  clear w_5616_1
                  refine lv_bipush (v := 34) hx hb dX12_goesOn_167 (by decide +kernel) ?_
                  refine lv_goto (tgt := 174) hx hb dX12_goesOn_169 (by decide) ?_
                  refine dg_callv hS hA1 hA (va_runV (As := [.int 34]) (rest := []) F (c_m_holdsBack l g D o S_5599 34 y_5602 f_y_5602 (by omega) I_5599 H.size) (cwV 1 hts (bw_V wB_1224 wB_1225 wB_1226 wB_881 wB_1223) rfl rfl rfl (by decide +kernel) ⟨Nat.le_of_ble_eq_true rfl, Nat.le_of_ble_eq_true rfl⟩) (dg_preV sM_0 rfl K ST hP hS hA1 hA) rfl rfl hl.1 rfl (lv_room (Nat.le_of_ble_eq_true rfl)) dX12_goesOn_174 ⟨Nat.le_of_ble_eq_true rfl, Nat.le_of_ble_eq_true rfl⟩) (fun S_5636 hw_5636 H locs hP hS => ?_)
                  obtain ⟨I_5636, m_5636, w_5636_0, w_5636_1, -⟩ := hw_5636
                  have M_5636 := dg_sm.tr M_5599 m_5636 (by decide) (by decide)
                  have hz_5637 : (34 : Int32).toInt = 34 := by decide +kernel
                  obtain ⟨y_5638, f_y_5638, w_5636_0⟩ := w_5636_0
                  have w_5636_0 : (y_5638).toInt = (y_5602).toInt + 1 := w_5636_0
                  have b_y_5638 : 0 ≤ (y_5638).toInt ∧ (y_5638).toInt ≤ 500 := dg_I.intb (lo := 0) (hi := 500) I_5636 sM_0 (by decide +kernel) f_y_5638
                  have w_5636_1 : HBM S_5599 S_5636 (34 : Int32) := w_5636_1
                  obtain ⟨x_5639, f_x_5639, b_x_5639⟩ := dg_I.int (i := 0) (k := 43) (lo := (-2147483648)) (hi := 2147483647) I_5599 sM_0 (by decide +kernel)
                  obtain ⟨x_5640, f_x_5640, b_x_5640⟩ := dg_I.int (i := 0) (k := 45) (lo := 0) (hi := 500) I_5599 sM_0 (by decide +kernel)
                  have P0_5636 : P0M S_5636 := P1M.bin w_5599_3 (((m_5599.1 0 42 _ sM_0 (by decide)).trans (m_2.1 0 42 _ sM_0 (by decide))).trans f_dp) f_x_5639 f_x_5640 w_5599_1 m_5636 w_5636_1 (by omega)
                  refine lv_aload_n hx hb dX12_goesOn_177 rfl (lv_at hl 3 rfl) ?_
                  refine dg_callv hS hA1 hA (va_runV (As := []) (rest := []) F (c_m_ahead l g D o S_5636 se (((m_5636.1 0 5 _ sM_0 (by decide)).trans ((m_5599.1 0 5 _ sM_0 (by decide)).trans (m_2.1 0 5 _ sM_0 (by decide)))).trans f_se) (by omega) sl (((m_5636.1 0 2 _ sM_0 (by decide)).trans ((m_5599.1 0 2 _ sM_0 (by decide)).trans (m_2.1 0 2 _ sM_0 (by decide)))).trans f_sl) (by omega) (by omega) I_5636 H.size) (cwV 0 hts (bw_V wB_1161 wB_1162 wB_1163 wB_881 wB_1160) rfl rfl rfl (by decide +kernel) ⟨Nat.le_of_ble_eq_true rfl, Nat.le_of_ble_eq_true rfl⟩) (dg_preV sM_0 rfl K ST hP hS hA1 hA) rfl rfl hl.1 rfl (lv_room (Nat.le_of_ble_eq_true rfl)) dX12_goesOn_178 ⟨Nat.le_of_ble_eq_true rfl, Nat.le_of_ble_eq_true rfl⟩) (fun S_5641 hw_5641 H locs hP hS => ?_)
                  obtain ⟨I_5641, m_5641, w_5641_0, -⟩ := hw_5641
                  have M_5641 := dg_sm.tr M_5636 m_5641 (by decide) (by decide)
                  obtain ⟨y_5642, y_5643, y_5644, f_y_5642, f_y_5643, f_y_5644, w_5641_0⟩ := w_5641_0
                  have w_5641_0 : (se).toInt ≤ (y_5643).toInt ∧ (y_5643).toInt ≤ (y_5644).toInt ∧ (y_5644).toInt ≤ (sl).toInt ∧ ((y_5642).toInt ≠ 0 → (y_5643).toInt + 1 ≤ (y_5644).toInt) := w_5641_0
                  have b_y_5642 : 0 ≤ (y_5642).toInt ∧ (y_5642).toInt ≤ 3 := dg_I.intb (lo := 0) (hi := 3) I_5641 sM_0 (by decide +kernel) f_y_5642
                  have b_y_5643 : 0 ≤ (y_5643).toInt ∧ (y_5643).toInt ≤ 1600 := dg_I.intb (lo := 0) (hi := 1600) I_5641 sM_0 (by decide +kernel) f_y_5643
                  have b_y_5644 : 0 ≤ (y_5644).toInt ∧ (y_5644).toInt ≤ 1600 := dg_I.intb (lo := 0) (hi := 1600) I_5641 sM_0 (by decide +kernel) f_y_5644
                  refine lv_aload_n hx hb dX12_goesOn_181 rfl (lv_at hl 3 rfl) ?_
                  refine lv_iconst (v := 0) hx hb dX12_goesOn_182 (by decide +kernel) ?_
                  have hz_5645 : (0 : Int32).toInt = 0 := by decide +kernel
                  refine dg_put (ci := 12) (v := .int 0) (ty := tyX12 46) (C := RX12) (T := TX12) (N := 77) hx hb hts (fun w h => bw_mem (wU_X12 w h)) tyX12 tyX12_ok nmX12 hown K hP hS hA1 sM_0 rfl 46 (by decide) (hts _ (bw_mem wB_1237)) (fun _ h9 => h9) rfl (by decide +kernel) (by decide +kernel) (by decide +kernel) dX12_goesOn_183 (fun S_5646 e_5646 H locs hP hS => ?_)
                  have I_5646 := dg_I.uFi (lo := 0) (hi := 1) I_5641 e_5646 sM_0 (by decide +kernel) (show 0 ≤ ((0 : Int32)).toInt ∧ ((0 : Int32)).toInt ≤ 1 from (by decide +kernel))
                  have M_5646 := dg_sm.uF M_5641 e_5646 sM_0 (by decide)
                  refine lv_iconst (v := 1) hx hb dX12_goesOn_186 (by decide +kernel) ?_
                  have hz_5647 : (1 : Int32).toInt = 1 := by decide +kernel
                  have hz_5648 : (1 : Int32).toInt = 1 := by decide +kernel
                  obtain ⟨x_5649, f_x_5649, b_x_5649⟩ := dg_I.int (i := 0) (k := 45) (lo := 0) (hi := 500) I_5646 sM_0 (by decide +kernel)
                  have hz_5650 : (0 : Int32).toInt = 0 := by decide +kernel
                  have hz_5651 : (1 : Int32).toInt = 1 := by decide +kernel
                  have hz_5652 : (0 : Int32).toInt = 0 := by decide +kernel
                  refine W.widen (k := 0) (n := 0) (Nat.le_of_ble_eq_true rfl) (Nat.le_of_ble_eq_true rfl) ?_
                  exact dg_iret hx hb hr hlocks (by decide +kernel) hP hS ⟨I_5646, M_5646, (by decide +kernel), ⟨y_5642, y_5643, y_5644, y_3, y_5601, dp, x_5649, 0, ((dg_uF_ne e_5646 (fun z => absurd z.2 (by decide))).trans f_y_5642), ((dg_uF_ne e_5646 (fun z => absurd z.2 (by decide))).trans f_y_5643), ((dg_uF_ne e_5646 (fun z => absurd z.2 (by decide))).trans f_y_5644), (((dg_uF_ne e_5646 (fun z => absurd z.2 (by decide))).trans ((m_5641.1 0 8 _ sM_0 (by decide)).trans ((m_5636.1 0 8 _ sM_0 (by decide)).trans (m_5599.1 0 8 _ sM_0 (by decide))))).trans f_y_3), (((dg_uF_ne e_5646 (fun z => absurd z.2 (by decide))).trans ((m_5641.1 0 34 _ sM_0 (by decide)).trans (m_5636.1 0 34 _ sM_0 (by decide)))).trans f_y_5601), (((dg_uF_ne e_5646 (fun z => absurd z.2 (by decide))).trans ((m_5641.1 0 42 _ sM_0 (by decide)).trans ((m_5636.1 0 42 _ sM_0 (by decide)).trans ((m_5599.1 0 42 _ sM_0 (by decide)).trans (m_2.1 0 42 _ sM_0 (by decide)))))).trans f_dp), f_x_5649, (dg_uF_at e_5646), (by omega)⟩, (fun k9 hk9 hk0 => POM.mk0 (P0M.keep (P0M.keep P0_5636 m_5641 (by decide) (by decide) (by decide) (by decide) (by decide) (by decide) (by decide) (by decide) (by decide) (by decide) (by decide) (by decide) (by decide) (by decide) (by decide)) (dg_sm.uF (WF := [(0, 46)]) (WA := []) dg_sm.rf e_5646 sM_0 (by decide)) (by decide) (by decide) (by decide) (by decide) (by decide) (by decide) (by decide) (by decide) (by decide) (by decide) (by decide) (by decide) (by decide) (by decide) (by decide)) (dg_uF_at e_5646) (by omega)), (ZWM.keep (ZWM.keep (ZWM.keep w_5599_2 m_5636 (by decide) (by decide) (by decide) (by decide)) m_5641 (by decide) (by decide) (by decide) (by decide)) (dg_sm.uF (WF := [(0, 46)]) (WA := []) dg_sm.rf e_5646 sM_0 (by decide)) (by decide) (by decide) (by decide) (by decide)), trivial⟩ dX12_goesOn_187
              · have jc_5614 := dk_neqc (k := 0) (by decide +kernel) c_5614
                have w_5612_1_r := w_5612_1.mp (by omega)
                clear w_5612_1
                refine lv_bipush (v := 33) hx hb dX12_goesOn_153 (by decide +kernel) ?_
                refine lv_goto (tgt := 174) hx hb dX12_goesOn_155 (by decide) ?_
                refine dg_callv hS hA1 hA (va_runV (As := [.int 33]) (rest := []) F (c_m_holdsBack l g D o S_5599 33 y_5602 f_y_5602 (by omega) I_5599 H.size) (cwV 1 hts (bw_V wB_1224 wB_1225 wB_1226 wB_881 wB_1223) rfl rfl rfl (by decide +kernel) ⟨Nat.le_of_ble_eq_true rfl, Nat.le_of_ble_eq_true rfl⟩) (dg_preV sM_0 rfl K ST hP hS hA1 hA) rfl rfl hl.1 rfl (lv_room (Nat.le_of_ble_eq_true rfl)) dX12_goesOn_174 ⟨Nat.le_of_ble_eq_true rfl, Nat.le_of_ble_eq_true rfl⟩) (fun S_5653 hw_5653 H locs hP hS => ?_)
                obtain ⟨I_5653, m_5653, w_5653_0, w_5653_1, -⟩ := hw_5653
                have M_5653 := dg_sm.tr M_5599 m_5653 (by decide) (by decide)
                have hz_5654 : (33 : Int32).toInt = 33 := by decide +kernel
                obtain ⟨y_5655, f_y_5655, w_5653_0⟩ := w_5653_0
                have w_5653_0 : (y_5655).toInt = (y_5602).toInt + 1 := w_5653_0
                have b_y_5655 : 0 ≤ (y_5655).toInt ∧ (y_5655).toInt ≤ 500 := dg_I.intb (lo := 0) (hi := 500) I_5653 sM_0 (by decide +kernel) f_y_5655
                have w_5653_1 : HBM S_5599 S_5653 (33 : Int32) := w_5653_1
                obtain ⟨x_5656, f_x_5656, b_x_5656⟩ := dg_I.int (i := 0) (k := 43) (lo := (-2147483648)) (hi := 2147483647) I_5599 sM_0 (by decide +kernel)
                obtain ⟨x_5657, f_x_5657, b_x_5657⟩ := dg_I.int (i := 0) (k := 45) (lo := 0) (hi := 500) I_5599 sM_0 (by decide +kernel)
                have P0_5653 : P0M S_5653 := P1M.bin w_5599_3 (((m_5599.1 0 42 _ sM_0 (by decide)).trans (m_2.1 0 42 _ sM_0 (by decide))).trans f_dp) f_x_5656 f_x_5657 w_5599_1 m_5653 w_5653_1 (by omega)
                refine lv_aload_n hx hb dX12_goesOn_177 rfl (lv_at hl 3 rfl) ?_
                refine dg_callv hS hA1 hA (va_runV (As := []) (rest := []) F (c_m_ahead l g D o S_5653 se (((m_5653.1 0 5 _ sM_0 (by decide)).trans ((m_5599.1 0 5 _ sM_0 (by decide)).trans (m_2.1 0 5 _ sM_0 (by decide)))).trans f_se) (by omega) sl (((m_5653.1 0 2 _ sM_0 (by decide)).trans ((m_5599.1 0 2 _ sM_0 (by decide)).trans (m_2.1 0 2 _ sM_0 (by decide)))).trans f_sl) (by omega) (by omega) I_5653 H.size) (cwV 0 hts (bw_V wB_1161 wB_1162 wB_1163 wB_881 wB_1160) rfl rfl rfl (by decide +kernel) ⟨Nat.le_of_ble_eq_true rfl, Nat.le_of_ble_eq_true rfl⟩) (dg_preV sM_0 rfl K ST hP hS hA1 hA) rfl rfl hl.1 rfl (lv_room (Nat.le_of_ble_eq_true rfl)) dX12_goesOn_178 ⟨Nat.le_of_ble_eq_true rfl, Nat.le_of_ble_eq_true rfl⟩) (fun S_5658 hw_5658 H locs hP hS => ?_)
                obtain ⟨I_5658, m_5658, w_5658_0, -⟩ := hw_5658
                have M_5658 := dg_sm.tr M_5653 m_5658 (by decide) (by decide)
                obtain ⟨y_5659, y_5660, y_5661, f_y_5659, f_y_5660, f_y_5661, w_5658_0⟩ := w_5658_0
                have w_5658_0 : (se).toInt ≤ (y_5660).toInt ∧ (y_5660).toInt ≤ (y_5661).toInt ∧ (y_5661).toInt ≤ (sl).toInt ∧ ((y_5659).toInt ≠ 0 → (y_5660).toInt + 1 ≤ (y_5661).toInt) := w_5658_0
                have b_y_5659 : 0 ≤ (y_5659).toInt ∧ (y_5659).toInt ≤ 3 := dg_I.intb (lo := 0) (hi := 3) I_5658 sM_0 (by decide +kernel) f_y_5659
                have b_y_5660 : 0 ≤ (y_5660).toInt ∧ (y_5660).toInt ≤ 1600 := dg_I.intb (lo := 0) (hi := 1600) I_5658 sM_0 (by decide +kernel) f_y_5660
                have b_y_5661 : 0 ≤ (y_5661).toInt ∧ (y_5661).toInt ≤ 1600 := dg_I.intb (lo := 0) (hi := 1600) I_5658 sM_0 (by decide +kernel) f_y_5661
                refine lv_aload_n hx hb dX12_goesOn_181 rfl (lv_at hl 3 rfl) ?_
                refine lv_iconst (v := 0) hx hb dX12_goesOn_182 (by decide +kernel) ?_
                have hz_5662 : (0 : Int32).toInt = 0 := by decide +kernel
                refine dg_put (ci := 12) (v := .int 0) (ty := tyX12 46) (C := RX12) (T := TX12) (N := 77) hx hb hts (fun w h => bw_mem (wU_X12 w h)) tyX12 tyX12_ok nmX12 hown K hP hS hA1 sM_0 rfl 46 (by decide) (hts _ (bw_mem wB_1237)) (fun _ h9 => h9) rfl (by decide +kernel) (by decide +kernel) (by decide +kernel) dX12_goesOn_183 (fun S_5663 e_5663 H locs hP hS => ?_)
                have I_5663 := dg_I.uFi (lo := 0) (hi := 1) I_5658 e_5663 sM_0 (by decide +kernel) (show 0 ≤ ((0 : Int32)).toInt ∧ ((0 : Int32)).toInt ≤ 1 from (by decide +kernel))
                have M_5663 := dg_sm.uF M_5658 e_5663 sM_0 (by decide)
                refine lv_iconst (v := 1) hx hb dX12_goesOn_186 (by decide +kernel) ?_
                have hz_5664 : (1 : Int32).toInt = 1 := by decide +kernel
                have hz_5665 : (1 : Int32).toInt = 1 := by decide +kernel
                obtain ⟨x_5666, f_x_5666, b_x_5666⟩ := dg_I.int (i := 0) (k := 45) (lo := 0) (hi := 500) I_5663 sM_0 (by decide +kernel)
                have hz_5667 : (0 : Int32).toInt = 0 := by decide +kernel
                have hz_5668 : (1 : Int32).toInt = 1 := by decide +kernel
                have hz_5669 : (0 : Int32).toInt = 0 := by decide +kernel
                refine W.widen (k := 0) (n := 0) (Nat.le_of_ble_eq_true rfl) (Nat.le_of_ble_eq_true rfl) ?_
                exact dg_iret hx hb hr hlocks (by decide +kernel) hP hS ⟨I_5663, M_5663, (by decide +kernel), ⟨y_5659, y_5660, y_5661, y_3, y_5601, dp, x_5666, 0, ((dg_uF_ne e_5663 (fun z => absurd z.2 (by decide))).trans f_y_5659), ((dg_uF_ne e_5663 (fun z => absurd z.2 (by decide))).trans f_y_5660), ((dg_uF_ne e_5663 (fun z => absurd z.2 (by decide))).trans f_y_5661), (((dg_uF_ne e_5663 (fun z => absurd z.2 (by decide))).trans ((m_5658.1 0 8 _ sM_0 (by decide)).trans ((m_5653.1 0 8 _ sM_0 (by decide)).trans (m_5599.1 0 8 _ sM_0 (by decide))))).trans f_y_3), (((dg_uF_ne e_5663 (fun z => absurd z.2 (by decide))).trans ((m_5658.1 0 34 _ sM_0 (by decide)).trans (m_5653.1 0 34 _ sM_0 (by decide)))).trans f_y_5601), (((dg_uF_ne e_5663 (fun z => absurd z.2 (by decide))).trans ((m_5658.1 0 42 _ sM_0 (by decide)).trans ((m_5653.1 0 42 _ sM_0 (by decide)).trans ((m_5599.1 0 42 _ sM_0 (by decide)).trans (m_2.1 0 42 _ sM_0 (by decide)))))).trans f_dp), f_x_5666, (dg_uF_at e_5663), (by omega)⟩, (fun k9 hk9 hk0 => POM.mk0 (P0M.keep (P0M.keep P0_5653 m_5658 (by decide) (by decide) (by decide) (by decide) (by decide) (by decide) (by decide) (by decide) (by decide) (by decide) (by decide) (by decide) (by decide) (by decide) (by decide)) (dg_sm.uF (WF := [(0, 46)]) (WA := []) dg_sm.rf e_5663 sM_0 (by decide)) (by decide) (by decide) (by decide) (by decide) (by decide) (by decide) (by decide) (by decide) (by decide) (by decide) (by decide) (by decide) (by decide) (by decide) (by decide)) (dg_uF_at e_5663) (by omega)), (ZWM.keep (ZWM.keep (ZWM.keep w_5599_2 m_5653 (by decide) (by decide) (by decide) (by decide)) m_5658 (by decide) (by decide) (by decide) (by decide)) (dg_sm.uF (WF := [(0, 46)]) (WA := []) dg_sm.rf e_5663 sM_0 (by decide)) (by decide) (by decide) (by decide) (by decide)), trivial⟩ dX12_goesOn_187
            · have jc_5610 := dk_neqc (k := 0) (by decide +kernel) c_5610
              have w_5608_1_r := w_5608_1.mp (by omega)
              clear w_5608_1
              refine lv_bipush (v := 32) hx hb dX12_goesOn_139 (by decide +kernel) ?_
              refine lv_goto (tgt := 174) hx hb dX12_goesOn_141 (by decide) ?_
              refine dg_callv hS hA1 hA (va_runV (As := [.int 32]) (rest := []) F (c_m_holdsBack l g D o S_5599 32 y_5602 f_y_5602 (by omega) I_5599 H.size) (cwV 1 hts (bw_V wB_1224 wB_1225 wB_1226 wB_881 wB_1223) rfl rfl rfl (by decide +kernel) ⟨Nat.le_of_ble_eq_true rfl, Nat.le_of_ble_eq_true rfl⟩) (dg_preV sM_0 rfl K ST hP hS hA1 hA) rfl rfl hl.1 rfl (lv_room (Nat.le_of_ble_eq_true rfl)) dX12_goesOn_174 ⟨Nat.le_of_ble_eq_true rfl, Nat.le_of_ble_eq_true rfl⟩) (fun S_5670 hw_5670 H locs hP hS => ?_)
              obtain ⟨I_5670, m_5670, w_5670_0, w_5670_1, -⟩ := hw_5670
              have M_5670 := dg_sm.tr M_5599 m_5670 (by decide) (by decide)
              have hz_5671 : (32 : Int32).toInt = 32 := by decide +kernel
              obtain ⟨y_5672, f_y_5672, w_5670_0⟩ := w_5670_0
              have w_5670_0 : (y_5672).toInt = (y_5602).toInt + 1 := w_5670_0
              have b_y_5672 : 0 ≤ (y_5672).toInt ∧ (y_5672).toInt ≤ 500 := dg_I.intb (lo := 0) (hi := 500) I_5670 sM_0 (by decide +kernel) f_y_5672
              have w_5670_1 : HBM S_5599 S_5670 (32 : Int32) := w_5670_1
              obtain ⟨x_5673, f_x_5673, b_x_5673⟩ := dg_I.int (i := 0) (k := 43) (lo := (-2147483648)) (hi := 2147483647) I_5599 sM_0 (by decide +kernel)
              obtain ⟨x_5674, f_x_5674, b_x_5674⟩ := dg_I.int (i := 0) (k := 45) (lo := 0) (hi := 500) I_5599 sM_0 (by decide +kernel)
              have P0_5670 : P0M S_5670 := P1M.bin w_5599_3 (((m_5599.1 0 42 _ sM_0 (by decide)).trans (m_2.1 0 42 _ sM_0 (by decide))).trans f_dp) f_x_5673 f_x_5674 w_5599_1 m_5670 w_5670_1 (by omega)
              refine lv_aload_n hx hb dX12_goesOn_177 rfl (lv_at hl 3 rfl) ?_
              refine dg_callv hS hA1 hA (va_runV (As := []) (rest := []) F (c_m_ahead l g D o S_5670 se (((m_5670.1 0 5 _ sM_0 (by decide)).trans ((m_5599.1 0 5 _ sM_0 (by decide)).trans (m_2.1 0 5 _ sM_0 (by decide)))).trans f_se) (by omega) sl (((m_5670.1 0 2 _ sM_0 (by decide)).trans ((m_5599.1 0 2 _ sM_0 (by decide)).trans (m_2.1 0 2 _ sM_0 (by decide)))).trans f_sl) (by omega) (by omega) I_5670 H.size) (cwV 0 hts (bw_V wB_1161 wB_1162 wB_1163 wB_881 wB_1160) rfl rfl rfl (by decide +kernel) ⟨Nat.le_of_ble_eq_true rfl, Nat.le_of_ble_eq_true rfl⟩) (dg_preV sM_0 rfl K ST hP hS hA1 hA) rfl rfl hl.1 rfl (lv_room (Nat.le_of_ble_eq_true rfl)) dX12_goesOn_178 ⟨Nat.le_of_ble_eq_true rfl, Nat.le_of_ble_eq_true rfl⟩) (fun S_5675 hw_5675 H locs hP hS => ?_)
              obtain ⟨I_5675, m_5675, w_5675_0, -⟩ := hw_5675
              have M_5675 := dg_sm.tr M_5670 m_5675 (by decide) (by decide)
              obtain ⟨y_5676, y_5677, y_5678, f_y_5676, f_y_5677, f_y_5678, w_5675_0⟩ := w_5675_0
              have w_5675_0 : (se).toInt ≤ (y_5677).toInt ∧ (y_5677).toInt ≤ (y_5678).toInt ∧ (y_5678).toInt ≤ (sl).toInt ∧ ((y_5676).toInt ≠ 0 → (y_5677).toInt + 1 ≤ (y_5678).toInt) := w_5675_0
              have b_y_5676 : 0 ≤ (y_5676).toInt ∧ (y_5676).toInt ≤ 3 := dg_I.intb (lo := 0) (hi := 3) I_5675 sM_0 (by decide +kernel) f_y_5676
              have b_y_5677 : 0 ≤ (y_5677).toInt ∧ (y_5677).toInt ≤ 1600 := dg_I.intb (lo := 0) (hi := 1600) I_5675 sM_0 (by decide +kernel) f_y_5677
              have b_y_5678 : 0 ≤ (y_5678).toInt ∧ (y_5678).toInt ≤ 1600 := dg_I.intb (lo := 0) (hi := 1600) I_5675 sM_0 (by decide +kernel) f_y_5678
              refine lv_aload_n hx hb dX12_goesOn_181 rfl (lv_at hl 3 rfl) ?_
              refine lv_iconst (v := 0) hx hb dX12_goesOn_182 (by decide +kernel) ?_
              have hz_5679 : (0 : Int32).toInt = 0 := by decide +kernel
              refine dg_put (ci := 12) (v := .int 0) (ty := tyX12 46) (C := RX12) (T := TX12) (N := 77) hx hb hts (fun w h => bw_mem (wU_X12 w h)) tyX12 tyX12_ok nmX12 hown K hP hS hA1 sM_0 rfl 46 (by decide) (hts _ (bw_mem wB_1237)) (fun _ h9 => h9) rfl (by decide +kernel) (by decide +kernel) (by decide +kernel) dX12_goesOn_183 (fun S_5680 e_5680 H locs hP hS => ?_)
              have I_5680 := dg_I.uFi (lo := 0) (hi := 1) I_5675 e_5680 sM_0 (by decide +kernel) (show 0 ≤ ((0 : Int32)).toInt ∧ ((0 : Int32)).toInt ≤ 1 from (by decide +kernel))
              have M_5680 := dg_sm.uF M_5675 e_5680 sM_0 (by decide)
              refine lv_iconst (v := 1) hx hb dX12_goesOn_186 (by decide +kernel) ?_
              have hz_5681 : (1 : Int32).toInt = 1 := by decide +kernel
              have hz_5682 : (1 : Int32).toInt = 1 := by decide +kernel
              obtain ⟨x_5683, f_x_5683, b_x_5683⟩ := dg_I.int (i := 0) (k := 45) (lo := 0) (hi := 500) I_5680 sM_0 (by decide +kernel)
              have hz_5684 : (0 : Int32).toInt = 0 := by decide +kernel
              have hz_5685 : (1 : Int32).toInt = 1 := by decide +kernel
              have hz_5686 : (0 : Int32).toInt = 0 := by decide +kernel
              refine W.widen (k := 0) (n := 0) (Nat.le_of_ble_eq_true rfl) (Nat.le_of_ble_eq_true rfl) ?_
              exact dg_iret hx hb hr hlocks (by decide +kernel) hP hS ⟨I_5680, M_5680, (by decide +kernel), ⟨y_5676, y_5677, y_5678, y_3, y_5601, dp, x_5683, 0, ((dg_uF_ne e_5680 (fun z => absurd z.2 (by decide))).trans f_y_5676), ((dg_uF_ne e_5680 (fun z => absurd z.2 (by decide))).trans f_y_5677), ((dg_uF_ne e_5680 (fun z => absurd z.2 (by decide))).trans f_y_5678), (((dg_uF_ne e_5680 (fun z => absurd z.2 (by decide))).trans ((m_5675.1 0 8 _ sM_0 (by decide)).trans ((m_5670.1 0 8 _ sM_0 (by decide)).trans (m_5599.1 0 8 _ sM_0 (by decide))))).trans f_y_3), (((dg_uF_ne e_5680 (fun z => absurd z.2 (by decide))).trans ((m_5675.1 0 34 _ sM_0 (by decide)).trans (m_5670.1 0 34 _ sM_0 (by decide)))).trans f_y_5601), (((dg_uF_ne e_5680 (fun z => absurd z.2 (by decide))).trans ((m_5675.1 0 42 _ sM_0 (by decide)).trans ((m_5670.1 0 42 _ sM_0 (by decide)).trans ((m_5599.1 0 42 _ sM_0 (by decide)).trans (m_2.1 0 42 _ sM_0 (by decide)))))).trans f_dp), f_x_5683, (dg_uF_at e_5680), (by omega)⟩, (fun k9 hk9 hk0 => POM.mk0 (P0M.keep (P0M.keep P0_5670 m_5675 (by decide) (by decide) (by decide) (by decide) (by decide) (by decide) (by decide) (by decide) (by decide) (by decide) (by decide) (by decide) (by decide) (by decide) (by decide)) (dg_sm.uF (WF := [(0, 46)]) (WA := []) dg_sm.rf e_5680 sM_0 (by decide)) (by decide) (by decide) (by decide) (by decide) (by decide) (by decide) (by decide) (by decide) (by decide) (by decide) (by decide) (by decide) (by decide) (by decide) (by decide)) (dg_uF_at e_5680) (by omega)), (ZWM.keep (ZWM.keep (ZWM.keep w_5599_2 m_5670 (by decide) (by decide) (by decide) (by decide)) m_5675 (by decide) (by decide) (by decide) (by decide)) (dg_sm.uF (WF := [(0, 46)]) (WA := []) dg_sm.rf e_5680 sM_0 (by decide)) (by decide) (by decide) (by decide) (by decide)), trivial⟩ dX12_goesOn_187
          · have jc_5606 := dk_neqc (k := 0) (by decide +kernel) c_5606
            have w_5604_1_r := w_5604_1.mp (by omega)
            clear w_5604_1
            refine lv_bipush (v := 31) hx hb dX12_goesOn_125 (by decide +kernel) ?_
            refine lv_goto (tgt := 174) hx hb dX12_goesOn_127 (by decide) ?_
            refine dg_callv hS hA1 hA (va_runV (As := [.int 31]) (rest := []) F (c_m_holdsBack l g D o S_5599 31 y_5602 f_y_5602 (by omega) I_5599 H.size) (cwV 1 hts (bw_V wB_1224 wB_1225 wB_1226 wB_881 wB_1223) rfl rfl rfl (by decide +kernel) ⟨Nat.le_of_ble_eq_true rfl, Nat.le_of_ble_eq_true rfl⟩) (dg_preV sM_0 rfl K ST hP hS hA1 hA) rfl rfl hl.1 rfl (lv_room (Nat.le_of_ble_eq_true rfl)) dX12_goesOn_174 ⟨Nat.le_of_ble_eq_true rfl, Nat.le_of_ble_eq_true rfl⟩) (fun S_5687 hw_5687 H locs hP hS => ?_)
            obtain ⟨I_5687, m_5687, w_5687_0, w_5687_1, -⟩ := hw_5687
            have M_5687 := dg_sm.tr M_5599 m_5687 (by decide) (by decide)
            have hz_5688 : (31 : Int32).toInt = 31 := by decide +kernel
            obtain ⟨y_5689, f_y_5689, w_5687_0⟩ := w_5687_0
            have w_5687_0 : (y_5689).toInt = (y_5602).toInt + 1 := w_5687_0
            have b_y_5689 : 0 ≤ (y_5689).toInt ∧ (y_5689).toInt ≤ 500 := dg_I.intb (lo := 0) (hi := 500) I_5687 sM_0 (by decide +kernel) f_y_5689
            have w_5687_1 : HBM S_5599 S_5687 (31 : Int32) := w_5687_1
            obtain ⟨x_5690, f_x_5690, b_x_5690⟩ := dg_I.int (i := 0) (k := 43) (lo := (-2147483648)) (hi := 2147483647) I_5599 sM_0 (by decide +kernel)
            obtain ⟨x_5691, f_x_5691, b_x_5691⟩ := dg_I.int (i := 0) (k := 45) (lo := 0) (hi := 500) I_5599 sM_0 (by decide +kernel)
            have P0_5687 : P0M S_5687 := P1M.bin w_5599_3 (((m_5599.1 0 42 _ sM_0 (by decide)).trans (m_2.1 0 42 _ sM_0 (by decide))).trans f_dp) f_x_5690 f_x_5691 w_5599_1 m_5687 w_5687_1 (by omega)
            refine lv_aload_n hx hb dX12_goesOn_177 rfl (lv_at hl 3 rfl) ?_
            refine dg_callv hS hA1 hA (va_runV (As := []) (rest := []) F (c_m_ahead l g D o S_5687 se (((m_5687.1 0 5 _ sM_0 (by decide)).trans ((m_5599.1 0 5 _ sM_0 (by decide)).trans (m_2.1 0 5 _ sM_0 (by decide)))).trans f_se) (by omega) sl (((m_5687.1 0 2 _ sM_0 (by decide)).trans ((m_5599.1 0 2 _ sM_0 (by decide)).trans (m_2.1 0 2 _ sM_0 (by decide)))).trans f_sl) (by omega) (by omega) I_5687 H.size) (cwV 0 hts (bw_V wB_1161 wB_1162 wB_1163 wB_881 wB_1160) rfl rfl rfl (by decide +kernel) ⟨Nat.le_of_ble_eq_true rfl, Nat.le_of_ble_eq_true rfl⟩) (dg_preV sM_0 rfl K ST hP hS hA1 hA) rfl rfl hl.1 rfl (lv_room (Nat.le_of_ble_eq_true rfl)) dX12_goesOn_178 ⟨Nat.le_of_ble_eq_true rfl, Nat.le_of_ble_eq_true rfl⟩) (fun S_5692 hw_5692 H locs hP hS => ?_)
            obtain ⟨I_5692, m_5692, w_5692_0, -⟩ := hw_5692
            have M_5692 := dg_sm.tr M_5687 m_5692 (by decide) (by decide)
            obtain ⟨y_5693, y_5694, y_5695, f_y_5693, f_y_5694, f_y_5695, w_5692_0⟩ := w_5692_0
            have w_5692_0 : (se).toInt ≤ (y_5694).toInt ∧ (y_5694).toInt ≤ (y_5695).toInt ∧ (y_5695).toInt ≤ (sl).toInt ∧ ((y_5693).toInt ≠ 0 → (y_5694).toInt + 1 ≤ (y_5695).toInt) := w_5692_0
            have b_y_5693 : 0 ≤ (y_5693).toInt ∧ (y_5693).toInt ≤ 3 := dg_I.intb (lo := 0) (hi := 3) I_5692 sM_0 (by decide +kernel) f_y_5693
            have b_y_5694 : 0 ≤ (y_5694).toInt ∧ (y_5694).toInt ≤ 1600 := dg_I.intb (lo := 0) (hi := 1600) I_5692 sM_0 (by decide +kernel) f_y_5694
            have b_y_5695 : 0 ≤ (y_5695).toInt ∧ (y_5695).toInt ≤ 1600 := dg_I.intb (lo := 0) (hi := 1600) I_5692 sM_0 (by decide +kernel) f_y_5695
            refine lv_aload_n hx hb dX12_goesOn_181 rfl (lv_at hl 3 rfl) ?_
            refine lv_iconst (v := 0) hx hb dX12_goesOn_182 (by decide +kernel) ?_
            have hz_5696 : (0 : Int32).toInt = 0 := by decide +kernel
            refine dg_put (ci := 12) (v := .int 0) (ty := tyX12 46) (C := RX12) (T := TX12) (N := 77) hx hb hts (fun w h => bw_mem (wU_X12 w h)) tyX12 tyX12_ok nmX12 hown K hP hS hA1 sM_0 rfl 46 (by decide) (hts _ (bw_mem wB_1237)) (fun _ h9 => h9) rfl (by decide +kernel) (by decide +kernel) (by decide +kernel) dX12_goesOn_183 (fun S_5697 e_5697 H locs hP hS => ?_)
            have I_5697 := dg_I.uFi (lo := 0) (hi := 1) I_5692 e_5697 sM_0 (by decide +kernel) (show 0 ≤ ((0 : Int32)).toInt ∧ ((0 : Int32)).toInt ≤ 1 from (by decide +kernel))
            have M_5697 := dg_sm.uF M_5692 e_5697 sM_0 (by decide)
            refine lv_iconst (v := 1) hx hb dX12_goesOn_186 (by decide +kernel) ?_
            have hz_5698 : (1 : Int32).toInt = 1 := by decide +kernel
            have hz_5699 : (1 : Int32).toInt = 1 := by decide +kernel
            obtain ⟨x_5700, f_x_5700, b_x_5700⟩ := dg_I.int (i := 0) (k := 45) (lo := 0) (hi := 500) I_5697 sM_0 (by decide +kernel)
            have hz_5701 : (0 : Int32).toInt = 0 := by decide +kernel
            have hz_5702 : (1 : Int32).toInt = 1 := by decide +kernel
            have hz_5703 : (0 : Int32).toInt = 0 := by decide +kernel
            refine W.widen (k := 0) (n := 0) (Nat.le_of_ble_eq_true rfl) (Nat.le_of_ble_eq_true rfl) ?_
            exact dg_iret hx hb hr hlocks (by decide +kernel) hP hS ⟨I_5697, M_5697, (by decide +kernel), ⟨y_5693, y_5694, y_5695, y_3, y_5601, dp, x_5700, 0, ((dg_uF_ne e_5697 (fun z => absurd z.2 (by decide))).trans f_y_5693), ((dg_uF_ne e_5697 (fun z => absurd z.2 (by decide))).trans f_y_5694), ((dg_uF_ne e_5697 (fun z => absurd z.2 (by decide))).trans f_y_5695), (((dg_uF_ne e_5697 (fun z => absurd z.2 (by decide))).trans ((m_5692.1 0 8 _ sM_0 (by decide)).trans ((m_5687.1 0 8 _ sM_0 (by decide)).trans (m_5599.1 0 8 _ sM_0 (by decide))))).trans f_y_3), (((dg_uF_ne e_5697 (fun z => absurd z.2 (by decide))).trans ((m_5692.1 0 34 _ sM_0 (by decide)).trans (m_5687.1 0 34 _ sM_0 (by decide)))).trans f_y_5601), (((dg_uF_ne e_5697 (fun z => absurd z.2 (by decide))).trans ((m_5692.1 0 42 _ sM_0 (by decide)).trans ((m_5687.1 0 42 _ sM_0 (by decide)).trans ((m_5599.1 0 42 _ sM_0 (by decide)).trans (m_2.1 0 42 _ sM_0 (by decide)))))).trans f_dp), f_x_5700, (dg_uF_at e_5697), (by omega)⟩, (fun k9 hk9 hk0 => POM.mk0 (P0M.keep (P0M.keep P0_5687 m_5692 (by decide) (by decide) (by decide) (by decide) (by decide) (by decide) (by decide) (by decide) (by decide) (by decide) (by decide) (by decide) (by decide) (by decide) (by decide)) (dg_sm.uF (WF := [(0, 46)]) (WA := []) dg_sm.rf e_5697 sM_0 (by decide)) (by decide) (by decide) (by decide) (by decide) (by decide) (by decide) (by decide) (by decide) (by decide) (by decide) (by decide) (by decide) (by decide) (by decide) (by decide)) (dg_uF_at e_5697) (by omega)), (ZWM.keep (ZWM.keep (ZWM.keep w_5599_2 m_5687 (by decide) (by decide) (by decide) (by decide)) m_5692 (by decide) (by decide) (by decide) (by decide)) (dg_sm.uF (WF := [(0, 46)]) (WA := []) dg_sm.rf e_5697 sM_0 (by decide)) (by decide) (by decide) (by decide) (by decide)), trivial⟩ dX12_goesOn_187
        · have jc_5597 := dk_eqc (k := 0) (by decide +kernel) c_5597
          have w_5595_1_r : (va).toInt ≠ 43 := fun q9 => absurd (w_5595_1.mpr ⟨by omega, by omega⟩) (by omega)
          clear w_5595_1
          refine lv_aload_n hx hb dX12_goesOn_97 rfl (lv_at hl 3 rfl) ?_
          refine lv_bipush (v := 45) hx hb dX12_goesOn_98 (by decide +kernel) ?_
          refine dg_calli hS hA1 hA (va_runV (As := [.int 45]) (rest := [.ref (o + 0)]) F (c_m_isSign l g D o S_2 45 sg ((m_2.1 0 3 _ sM_0 (by decide)).trans f_sg) (by omega) va ((m_2.1 0 6 _ sM_0 (by decide)).trans f_va) (by omega) I_2 H.size) (cwV 1 hts (bw_V wB_1157 wB_1158 wB_1159 wB_881 wB_1156) rfl rfl rfl (by decide +kernel) ⟨Nat.le_of_ble_eq_true rfl, Nat.le_of_ble_eq_true rfl⟩) (dg_preV sM_0 rfl K ST hP hS hA1 hA) rfl rfl hl.1 rfl (lv_room (Nat.le_of_ble_eq_true rfl)) dX12_goesOn_100 ⟨Nat.le_of_ble_eq_true rfl, Nat.le_of_ble_eq_true rfl⟩) (fun x_5704 S_5705 hw_5705 H locs hP hS => ?_)
          rw [hw_5705.1] at hP
          obtain ⟨hq_5705, w_5705_0, w_5705_1, -⟩ := hw_5705
          have hz_5706 : (45 : Int32).toInt = 45 := by decide +kernel
          have w_5705_0 : 0 ≤ (x_5704).toInt ∧ (x_5704).toInt ≤ 1 := w_5705_0
          have w_5705_1 : (x_5704).toInt = 1 ↔ ((sg).toInt = 3 ∧ (va).toInt = ((45 : Int32)).toInt) := w_5705_1
          refine lv_if_eq (tgt := 110) hx hb dX12_goesOn_103 (by decide) (fun c_5707 => ?_) (fun c_5707 => ?_)
          · have jc_5707 := dk_eqc (k := 0) (by decide +kernel) c_5707
            have w_5705_1_r : (va).toInt ≠ 45 := fun q9 => absurd (w_5705_1.mpr ⟨by omega, by omega⟩) (by omega)
            clear w_5705_1
            refine lv_bipush (v := 6) hx hb dX12_goesOn_110 (by decide +kernel) ?_
            have hz_5708 : (6 : Int32).toInt = 6 := by decide +kernel
            refine dg_callv hS hA1 hA (va_runV (As := [.int 6]) (rest := []) F (c_m_joins l g D o S_2 6 (by decide +kernel) cd ((m_2.1 0 34 _ sM_0 (by decide)).trans f_cd) (by omega) om ((m_2.1 0 45 _ sM_0 (by decide)).trans f_om) (by omega) (by omega) (ZWM.keep ZW m_2 (by decide) (by decide) (by decide) (by decide)) (ZKM.keep ZK m_2 (by decide) (by decide)) (P1M.keep P1 m_2 (by decide) (by decide) (by decide) (by decide) (by decide) (by decide) (by decide) (by decide) (by decide) (by decide) (by decide) (by decide) (by decide) (by decide) (by decide)) I_2 H.size) (cwV 1 hts (bw_V wB_1234 wB_1235 wB_1236 wB_881 wB_1233) rfl rfl rfl (by decide +kernel) ⟨Nat.le_of_ble_eq_true rfl, Nat.le_of_ble_eq_true rfl⟩) (dg_preV sM_0 rfl K ST hP hS hA1 hA) rfl rfl hl.1 rfl (lv_room (Nat.le_of_ble_eq_true rfl)) dX12_goesOn_112 ⟨Nat.le_of_ble_eq_true rfl, Nat.le_of_ble_eq_true rfl⟩) (fun S_5709 hw_5709 H locs hP hS => ?_)
            obtain ⟨I_5709, m_5709, w_5709_0, w_5709_1, w_5709_2, w_5709_3, -⟩ := hw_5709
            have M_5709 := dg_sm.tr M_2 m_5709 (by decide) (by decide)
            have hz_5710 : (6 : Int32).toInt = 6 := by decide +kernel
            obtain ⟨y_5711, y_5712, f_y_5711, f_y_5712, w_5709_0⟩ := w_5709_0
            have w_5709_0 : (y_5711).toInt + (y_5712).toInt = (cd).toInt + (om).toInt := w_5709_0
            have b_y_5711 : 0 ≤ (y_5711).toInt ∧ (y_5711).toInt ≤ 1600 := dg_I.intb (lo := 0) (hi := 1600) I_5709 sM_0 (by decide +kernel) f_y_5711
            have b_y_5712 : 0 ≤ (y_5712).toInt ∧ (y_5712).toInt ≤ 500 := dg_I.intb (lo := 0) (hi := 500) I_5709 sM_0 (by decide +kernel) f_y_5712
            have w_5709_1 : TOPM S_5709 (6 : Int32) := w_5709_1
            refine lv_aload_n hx hb dX12_goesOn_115 rfl (lv_at hl 3 rfl) ?_
            refine lv_aload_n hx hb dX12_goesOn_116 rfl (lv_at hl 3 rfl) ?_
            refine lv_bipush (v := 43) hx hb dX12_goesOn_117 (by decide +kernel) ?_
            refine dg_calli hS hA1 hA (va_runV (As := [.int 43]) (rest := [.ref (o + 0)]) F (c_m_isSign l g D o S_5709 43 sg (((m_5709.1 0 3 _ sM_0 (by decide)).trans (m_2.1 0 3 _ sM_0 (by decide))).trans f_sg) (by omega) va (((m_5709.1 0 6 _ sM_0 (by decide)).trans (m_2.1 0 6 _ sM_0 (by decide))).trans f_va) (by omega) I_5709 H.size) (cwV 1 hts (bw_V wB_1157 wB_1158 wB_1159 wB_881 wB_1156) rfl rfl rfl (by decide +kernel) ⟨Nat.le_of_ble_eq_true rfl, Nat.le_of_ble_eq_true rfl⟩) (dg_preV sM_0 rfl K ST hP hS hA1 hA) rfl rfl hl.1 rfl (lv_room (Nat.le_of_ble_eq_true rfl)) dX12_goesOn_119 ⟨Nat.le_of_ble_eq_true rfl, Nat.le_of_ble_eq_true rfl⟩) (fun x_5713 S_5714 hw_5714 H locs hP hS => ?_)
            rw [hw_5714.1] at hP
            obtain ⟨hq_5714, w_5714_0, w_5714_1, -⟩ := hw_5714
            have hz_5715 : (43 : Int32).toInt = 43 := by decide +kernel
            have w_5714_0 : 0 ≤ (x_5713).toInt ∧ (x_5713).toInt ≤ 1 := w_5714_0
            have w_5714_1 : (x_5713).toInt = 1 ↔ ((sg).toInt = 3 ∧ (va).toInt = ((43 : Int32)).toInt) := w_5714_1
            refine lv_if_eq (tgt := 130) hx hb dX12_goesOn_122 (by decide) (fun c_5716 => ?_) (fun c_5716 => ?_)
            · have jc_5716 := dk_eqc (k := 0) (by decide +kernel) c_5716
              have w_5714_1_r : (va).toInt ≠ 43 := fun q9 => absurd (w_5714_1.mpr ⟨by omega, by omega⟩) (by omega)
              clear w_5714_1
              refine lv_aload_n hx hb dX12_goesOn_130 rfl (lv_at hl 3 rfl) ?_
              refine lv_bipush (v := 45) hx hb dX12_goesOn_131 (by decide +kernel) ?_
              refine dg_calli hS hA1 hA (va_runV (As := [.int 45]) (rest := [.ref (o + 0)]) F (c_m_isSign l g D o S_5709 45 sg (((m_5709.1 0 3 _ sM_0 (by decide)).trans (m_2.1 0 3 _ sM_0 (by decide))).trans f_sg) (by omega) va (((m_5709.1 0 6 _ sM_0 (by decide)).trans (m_2.1 0 6 _ sM_0 (by decide))).trans f_va) (by omega) I_5709 H.size) (cwV 1 hts (bw_V wB_1157 wB_1158 wB_1159 wB_881 wB_1156) rfl rfl rfl (by decide +kernel) ⟨Nat.le_of_ble_eq_true rfl, Nat.le_of_ble_eq_true rfl⟩) (dg_preV sM_0 rfl K ST hP hS hA1 hA) rfl rfl hl.1 rfl (lv_room (Nat.le_of_ble_eq_true rfl)) dX12_goesOn_133 ⟨Nat.le_of_ble_eq_true rfl, Nat.le_of_ble_eq_true rfl⟩) (fun x_5717 S_5718 hw_5718 H locs hP hS => ?_)
              rw [hw_5718.1] at hP
              obtain ⟨hq_5718, w_5718_0, w_5718_1, -⟩ := hw_5718
              have hz_5719 : (45 : Int32).toInt = 45 := by decide +kernel
              have w_5718_0 : 0 ≤ (x_5717).toInt ∧ (x_5717).toInt ≤ 1 := w_5718_0
              have w_5718_1 : (x_5717).toInt = 1 ↔ ((sg).toInt = 3 ∧ (va).toInt = ((45 : Int32)).toInt) := w_5718_1
              refine lv_if_eq (tgt := 144) hx hb dX12_goesOn_136 (by decide) (fun c_5720 => ?_) (fun c_5720 => ?_)
              · have jc_5720 := dk_eqc (k := 0) (by decide +kernel) c_5720
                have w_5718_1_r : (va).toInt ≠ 45 := fun q9 => absurd (w_5718_1.mpr ⟨by omega, by omega⟩) (by omega)
                clear w_5718_1
                refine lv_aload_n hx hb dX12_goesOn_144 rfl (lv_at hl 3 rfl) ?_
                refine lv_bipush (v := 42) hx hb dX12_goesOn_145 (by decide +kernel) ?_
                refine dg_calli hS hA1 hA (va_runV (As := [.int 42]) (rest := [.ref (o + 0)]) F (c_m_isSign l g D o S_5709 42 sg (((m_5709.1 0 3 _ sM_0 (by decide)).trans (m_2.1 0 3 _ sM_0 (by decide))).trans f_sg) (by omega) va (((m_5709.1 0 6 _ sM_0 (by decide)).trans (m_2.1 0 6 _ sM_0 (by decide))).trans f_va) (by omega) I_5709 H.size) (cwV 1 hts (bw_V wB_1157 wB_1158 wB_1159 wB_881 wB_1156) rfl rfl rfl (by decide +kernel) ⟨Nat.le_of_ble_eq_true rfl, Nat.le_of_ble_eq_true rfl⟩) (dg_preV sM_0 rfl K ST hP hS hA1 hA) rfl rfl hl.1 rfl (lv_room (Nat.le_of_ble_eq_true rfl)) dX12_goesOn_147 ⟨Nat.le_of_ble_eq_true rfl, Nat.le_of_ble_eq_true rfl⟩) (fun x_5721 S_5722 hw_5722 H locs hP hS => ?_)
                rw [hw_5722.1] at hP
                obtain ⟨hq_5722, w_5722_0, w_5722_1, -⟩ := hw_5722
                have hz_5723 : (42 : Int32).toInt = 42 := by decide +kernel
                have w_5722_0 : 0 ≤ (x_5721).toInt ∧ (x_5721).toInt ≤ 1 := w_5722_0
                have w_5722_1 : (x_5721).toInt = 1 ↔ ((sg).toInt = 3 ∧ (va).toInt = ((42 : Int32)).toInt) := w_5722_1
                refine lv_if_eq (tgt := 158) hx hb dX12_goesOn_150 (by decide) (fun c_5724 => ?_) (fun c_5724 => ?_)
                · have jc_5724 := dk_eqc (k := 0) (by decide +kernel) c_5724
                  have w_5722_1_r : (va).toInt ≠ 42 := fun q9 => absurd (w_5722_1.mpr ⟨by omega, by omega⟩) (by omega)
                  clear w_5722_1
                  refine lv_aload_n hx hb dX12_goesOn_158 rfl (lv_at hl 3 rfl) ?_
                  refine lv_bipush (v := 47) hx hb dX12_goesOn_159 (by decide +kernel) ?_
                  refine dg_calli hS hA1 hA (va_runV (As := [.int 47]) (rest := [.ref (o + 0)]) F (c_m_isSign l g D o S_5709 47 sg (((m_5709.1 0 3 _ sM_0 (by decide)).trans (m_2.1 0 3 _ sM_0 (by decide))).trans f_sg) (by omega) va (((m_5709.1 0 6 _ sM_0 (by decide)).trans (m_2.1 0 6 _ sM_0 (by decide))).trans f_va) (by omega) I_5709 H.size) (cwV 1 hts (bw_V wB_1157 wB_1158 wB_1159 wB_881 wB_1156) rfl rfl rfl (by decide +kernel) ⟨Nat.le_of_ble_eq_true rfl, Nat.le_of_ble_eq_true rfl⟩) (dg_preV sM_0 rfl K ST hP hS hA1 hA) rfl rfl hl.1 rfl (lv_room (Nat.le_of_ble_eq_true rfl)) dX12_goesOn_161 ⟨Nat.le_of_ble_eq_true rfl, Nat.le_of_ble_eq_true rfl⟩) (fun x_5725 S_5726 hw_5726 H locs hP hS => ?_)
                  rw [hw_5726.1] at hP
                  obtain ⟨hq_5726, w_5726_0, w_5726_1, -⟩ := hw_5726
                  have hz_5727 : (47 : Int32).toInt = 47 := by decide +kernel
                  have w_5726_0 : 0 ≤ (x_5725).toInt ∧ (x_5725).toInt ≤ 1 := w_5726_0
                  have w_5726_1 : (x_5725).toInt = 1 ↔ ((sg).toInt = 3 ∧ (va).toInt = ((47 : Int32)).toInt) := w_5726_1
                  refine lv_if_eq (tgt := 172) hx hb dX12_goesOn_164 (by decide) (fun c_5728 => ?_) (fun c_5728 => ?_)
                  · have jc_5728 := dk_eqc (k := 0) (by decide +kernel) c_5728
                    have w_5726_1_r : (va).toInt ≠ 47 := fun q9 => absurd (w_5726_1.mpr ⟨by omega, by omega⟩) (by omega)
                    clear w_5726_1
                    refine lv_bipush (v := 35) hx hb dX12_goesOn_172 (by decide +kernel) ?_
                    refine dg_callv hS hA1 hA (va_runV (As := [.int 35]) (rest := []) F (c_m_holdsBack l g D o S_5709 35 y_5712 f_y_5712 (by omega) I_5709 H.size) (cwV 1 hts (bw_V wB_1224 wB_1225 wB_1226 wB_881 wB_1223) rfl rfl rfl (by decide +kernel) ⟨Nat.le_of_ble_eq_true rfl, Nat.le_of_ble_eq_true rfl⟩) (dg_preV sM_0 rfl K ST hP hS hA1 hA) rfl rfl hl.1 rfl (lv_room (Nat.le_of_ble_eq_true rfl)) dX12_goesOn_174 ⟨Nat.le_of_ble_eq_true rfl, Nat.le_of_ble_eq_true rfl⟩) (fun S_5729 hw_5729 H locs hP hS => ?_)
                    obtain ⟨I_5729, m_5729, w_5729_0, w_5729_1, -⟩ := hw_5729
                    have M_5729 := dg_sm.tr M_5709 m_5729 (by decide) (by decide)
                    have hz_5730 : (35 : Int32).toInt = 35 := by decide +kernel
                    obtain ⟨y_5731, f_y_5731, w_5729_0⟩ := w_5729_0
                    have w_5729_0 : (y_5731).toInt = (y_5712).toInt + 1 := w_5729_0
                    have b_y_5731 : 0 ≤ (y_5731).toInt ∧ (y_5731).toInt ≤ 500 := dg_I.intb (lo := 0) (hi := 500) I_5729 sM_0 (by decide +kernel) f_y_5731
                    have w_5729_1 : HBM S_5709 S_5729 (35 : Int32) := w_5729_1
                    obtain ⟨x_5732, f_x_5732, b_x_5732⟩ := dg_I.int (i := 0) (k := 43) (lo := (-2147483648)) (hi := 2147483647) I_5709 sM_0 (by decide +kernel)
                    obtain ⟨x_5733, f_x_5733, b_x_5733⟩ := dg_I.int (i := 0) (k := 45) (lo := 0) (hi := 500) I_5709 sM_0 (by decide +kernel)
                    have P0_5729 : P0M S_5729 := P1M.bin w_5709_3 (((m_5709.1 0 42 _ sM_0 (by decide)).trans (m_2.1 0 42 _ sM_0 (by decide))).trans f_dp) f_x_5732 f_x_5733 w_5709_1 m_5729 w_5729_1 (by omega)
                    refine lv_aload_n hx hb dX12_goesOn_177 rfl (lv_at hl 3 rfl) ?_
                    refine dg_callv hS hA1 hA (va_runV (As := []) (rest := []) F (c_m_ahead l g D o S_5729 se (((m_5729.1 0 5 _ sM_0 (by decide)).trans ((m_5709.1 0 5 _ sM_0 (by decide)).trans (m_2.1 0 5 _ sM_0 (by decide)))).trans f_se) (by omega) sl (((m_5729.1 0 2 _ sM_0 (by decide)).trans ((m_5709.1 0 2 _ sM_0 (by decide)).trans (m_2.1 0 2 _ sM_0 (by decide)))).trans f_sl) (by omega) (by omega) I_5729 H.size) (cwV 0 hts (bw_V wB_1161 wB_1162 wB_1163 wB_881 wB_1160) rfl rfl rfl (by decide +kernel) ⟨Nat.le_of_ble_eq_true rfl, Nat.le_of_ble_eq_true rfl⟩) (dg_preV sM_0 rfl K ST hP hS hA1 hA) rfl rfl hl.1 rfl (lv_room (Nat.le_of_ble_eq_true rfl)) dX12_goesOn_178 ⟨Nat.le_of_ble_eq_true rfl, Nat.le_of_ble_eq_true rfl⟩) (fun S_5734 hw_5734 H locs hP hS => ?_)
                    obtain ⟨I_5734, m_5734, w_5734_0, -⟩ := hw_5734
                    have M_5734 := dg_sm.tr M_5729 m_5734 (by decide) (by decide)
                    obtain ⟨y_5735, y_5736, y_5737, f_y_5735, f_y_5736, f_y_5737, w_5734_0⟩ := w_5734_0
                    have w_5734_0 : (se).toInt ≤ (y_5736).toInt ∧ (y_5736).toInt ≤ (y_5737).toInt ∧ (y_5737).toInt ≤ (sl).toInt ∧ ((y_5735).toInt ≠ 0 → (y_5736).toInt + 1 ≤ (y_5737).toInt) := w_5734_0
                    have b_y_5735 : 0 ≤ (y_5735).toInt ∧ (y_5735).toInt ≤ 3 := dg_I.intb (lo := 0) (hi := 3) I_5734 sM_0 (by decide +kernel) f_y_5735
                    have b_y_5736 : 0 ≤ (y_5736).toInt ∧ (y_5736).toInt ≤ 1600 := dg_I.intb (lo := 0) (hi := 1600) I_5734 sM_0 (by decide +kernel) f_y_5736
                    have b_y_5737 : 0 ≤ (y_5737).toInt ∧ (y_5737).toInt ≤ 1600 := dg_I.intb (lo := 0) (hi := 1600) I_5734 sM_0 (by decide +kernel) f_y_5737
                    refine lv_aload_n hx hb dX12_goesOn_181 rfl (lv_at hl 3 rfl) ?_
                    refine lv_iconst (v := 0) hx hb dX12_goesOn_182 (by decide +kernel) ?_
                    have hz_5738 : (0 : Int32).toInt = 0 := by decide +kernel
                    refine dg_put (ci := 12) (v := .int 0) (ty := tyX12 46) (C := RX12) (T := TX12) (N := 77) hx hb hts (fun w h => bw_mem (wU_X12 w h)) tyX12 tyX12_ok nmX12 hown K hP hS hA1 sM_0 rfl 46 (by decide) (hts _ (bw_mem wB_1237)) (fun _ h9 => h9) rfl (by decide +kernel) (by decide +kernel) (by decide +kernel) dX12_goesOn_183 (fun S_5739 e_5739 H locs hP hS => ?_)
                    have I_5739 := dg_I.uFi (lo := 0) (hi := 1) I_5734 e_5739 sM_0 (by decide +kernel) (show 0 ≤ ((0 : Int32)).toInt ∧ ((0 : Int32)).toInt ≤ 1 from (by decide +kernel))
                    have M_5739 := dg_sm.uF M_5734 e_5739 sM_0 (by decide)
                    refine lv_iconst (v := 1) hx hb dX12_goesOn_186 (by decide +kernel) ?_
                    have hz_5740 : (1 : Int32).toInt = 1 := by decide +kernel
                    have hz_5741 : (1 : Int32).toInt = 1 := by decide +kernel
                    obtain ⟨x_5742, f_x_5742, b_x_5742⟩ := dg_I.int (i := 0) (k := 45) (lo := 0) (hi := 500) I_5739 sM_0 (by decide +kernel)
                    have hz_5743 : (0 : Int32).toInt = 0 := by decide +kernel
                    have hz_5744 : (1 : Int32).toInt = 1 := by decide +kernel
                    have hz_5745 : (0 : Int32).toInt = 0 := by decide +kernel
                    refine W.widen (k := 0) (n := 0) (Nat.le_of_ble_eq_true rfl) (Nat.le_of_ble_eq_true rfl) ?_
                    exact dg_iret hx hb hr hlocks (by decide +kernel) hP hS ⟨I_5739, M_5739, (by decide +kernel), ⟨y_5735, y_5736, y_5737, y_3, y_5711, dp, x_5742, 0, ((dg_uF_ne e_5739 (fun z => absurd z.2 (by decide))).trans f_y_5735), ((dg_uF_ne e_5739 (fun z => absurd z.2 (by decide))).trans f_y_5736), ((dg_uF_ne e_5739 (fun z => absurd z.2 (by decide))).trans f_y_5737), (((dg_uF_ne e_5739 (fun z => absurd z.2 (by decide))).trans ((m_5734.1 0 8 _ sM_0 (by decide)).trans ((m_5729.1 0 8 _ sM_0 (by decide)).trans (m_5709.1 0 8 _ sM_0 (by decide))))).trans f_y_3), (((dg_uF_ne e_5739 (fun z => absurd z.2 (by decide))).trans ((m_5734.1 0 34 _ sM_0 (by decide)).trans (m_5729.1 0 34 _ sM_0 (by decide)))).trans f_y_5711), (((dg_uF_ne e_5739 (fun z => absurd z.2 (by decide))).trans ((m_5734.1 0 42 _ sM_0 (by decide)).trans ((m_5729.1 0 42 _ sM_0 (by decide)).trans ((m_5709.1 0 42 _ sM_0 (by decide)).trans (m_2.1 0 42 _ sM_0 (by decide)))))).trans f_dp), f_x_5742, (dg_uF_at e_5739), (by omega)⟩, (fun k9 hk9 hk0 => POM.mk0 (P0M.keep (P0M.keep P0_5729 m_5734 (by decide) (by decide) (by decide) (by decide) (by decide) (by decide) (by decide) (by decide) (by decide) (by decide) (by decide) (by decide) (by decide) (by decide) (by decide)) (dg_sm.uF (WF := [(0, 46)]) (WA := []) dg_sm.rf e_5739 sM_0 (by decide)) (by decide) (by decide) (by decide) (by decide) (by decide) (by decide) (by decide) (by decide) (by decide) (by decide) (by decide) (by decide) (by decide) (by decide) (by decide)) (dg_uF_at e_5739) (by omega)), (ZWM.keep (ZWM.keep (ZWM.keep w_5709_2 m_5729 (by decide) (by decide) (by decide) (by decide)) m_5734 (by decide) (by decide) (by decide) (by decide)) (dg_sm.uF (WF := [(0, 46)]) (WA := []) dg_sm.rf e_5739 sM_0 (by decide)) (by decide) (by decide) (by decide) (by decide)), trivial⟩ dX12_goesOn_187
                  · have jc_5728 := dk_neqc (k := 0) (by decide +kernel) c_5728
                    have w_5726_1_r := w_5726_1.mp (by omega)
                    clear w_5726_1
                    refine lv_bipush (v := 34) hx hb dX12_goesOn_167 (by decide +kernel) ?_
                    refine lv_goto (tgt := 174) hx hb dX12_goesOn_169 (by decide) ?_
                    refine dg_callv hS hA1 hA (va_runV (As := [.int 34]) (rest := []) F (c_m_holdsBack l g D o S_5709 34 y_5712 f_y_5712 (by omega) I_5709 H.size) (cwV 1 hts (bw_V wB_1224 wB_1225 wB_1226 wB_881 wB_1223) rfl rfl rfl (by decide +kernel) ⟨Nat.le_of_ble_eq_true rfl, Nat.le_of_ble_eq_true rfl⟩) (dg_preV sM_0 rfl K ST hP hS hA1 hA) rfl rfl hl.1 rfl (lv_room (Nat.le_of_ble_eq_true rfl)) dX12_goesOn_174 ⟨Nat.le_of_ble_eq_true rfl, Nat.le_of_ble_eq_true rfl⟩) (fun S_5746 hw_5746 H locs hP hS => ?_)
                    obtain ⟨I_5746, m_5746, w_5746_0, w_5746_1, -⟩ := hw_5746
                    have M_5746 := dg_sm.tr M_5709 m_5746 (by decide) (by decide)
                    have hz_5747 : (34 : Int32).toInt = 34 := by decide +kernel
                    obtain ⟨y_5748, f_y_5748, w_5746_0⟩ := w_5746_0
                    have w_5746_0 : (y_5748).toInt = (y_5712).toInt + 1 := w_5746_0
                    have b_y_5748 : 0 ≤ (y_5748).toInt ∧ (y_5748).toInt ≤ 500 := dg_I.intb (lo := 0) (hi := 500) I_5746 sM_0 (by decide +kernel) f_y_5748
                    have w_5746_1 : HBM S_5709 S_5746 (34 : Int32) := w_5746_1
                    obtain ⟨x_5749, f_x_5749, b_x_5749⟩ := dg_I.int (i := 0) (k := 43) (lo := (-2147483648)) (hi := 2147483647) I_5709 sM_0 (by decide +kernel)
                    obtain ⟨x_5750, f_x_5750, b_x_5750⟩ := dg_I.int (i := 0) (k := 45) (lo := 0) (hi := 500) I_5709 sM_0 (by decide +kernel)
                    have P0_5746 : P0M S_5746 := P1M.bin w_5709_3 (((m_5709.1 0 42 _ sM_0 (by decide)).trans (m_2.1 0 42 _ sM_0 (by decide))).trans f_dp) f_x_5749 f_x_5750 w_5709_1 m_5746 w_5746_1 (by omega)
                    refine lv_aload_n hx hb dX12_goesOn_177 rfl (lv_at hl 3 rfl) ?_
                    refine dg_callv hS hA1 hA (va_runV (As := []) (rest := []) F (c_m_ahead l g D o S_5746 se (((m_5746.1 0 5 _ sM_0 (by decide)).trans ((m_5709.1 0 5 _ sM_0 (by decide)).trans (m_2.1 0 5 _ sM_0 (by decide)))).trans f_se) (by omega) sl (((m_5746.1 0 2 _ sM_0 (by decide)).trans ((m_5709.1 0 2 _ sM_0 (by decide)).trans (m_2.1 0 2 _ sM_0 (by decide)))).trans f_sl) (by omega) (by omega) I_5746 H.size) (cwV 0 hts (bw_V wB_1161 wB_1162 wB_1163 wB_881 wB_1160) rfl rfl rfl (by decide +kernel) ⟨Nat.le_of_ble_eq_true rfl, Nat.le_of_ble_eq_true rfl⟩) (dg_preV sM_0 rfl K ST hP hS hA1 hA) rfl rfl hl.1 rfl (lv_room (Nat.le_of_ble_eq_true rfl)) dX12_goesOn_178 ⟨Nat.le_of_ble_eq_true rfl, Nat.le_of_ble_eq_true rfl⟩) (fun S_5751 hw_5751 H locs hP hS => ?_)
                    obtain ⟨I_5751, m_5751, w_5751_0, -⟩ := hw_5751
                    have M_5751 := dg_sm.tr M_5746 m_5751 (by decide) (by decide)
                    obtain ⟨y_5752, y_5753, y_5754, f_y_5752, f_y_5753, f_y_5754, w_5751_0⟩ := w_5751_0
                    have w_5751_0 : (se).toInt ≤ (y_5753).toInt ∧ (y_5753).toInt ≤ (y_5754).toInt ∧ (y_5754).toInt ≤ (sl).toInt ∧ ((y_5752).toInt ≠ 0 → (y_5753).toInt + 1 ≤ (y_5754).toInt) := w_5751_0
                    have b_y_5752 : 0 ≤ (y_5752).toInt ∧ (y_5752).toInt ≤ 3 := dg_I.intb (lo := 0) (hi := 3) I_5751 sM_0 (by decide +kernel) f_y_5752
                    have b_y_5753 : 0 ≤ (y_5753).toInt ∧ (y_5753).toInt ≤ 1600 := dg_I.intb (lo := 0) (hi := 1600) I_5751 sM_0 (by decide +kernel) f_y_5753
                    have b_y_5754 : 0 ≤ (y_5754).toInt ∧ (y_5754).toInt ≤ 1600 := dg_I.intb (lo := 0) (hi := 1600) I_5751 sM_0 (by decide +kernel) f_y_5754
                    refine lv_aload_n hx hb dX12_goesOn_181 rfl (lv_at hl 3 rfl) ?_
                    refine lv_iconst (v := 0) hx hb dX12_goesOn_182 (by decide +kernel) ?_
                    have hz_5755 : (0 : Int32).toInt = 0 := by decide +kernel
                    refine dg_put (ci := 12) (v := .int 0) (ty := tyX12 46) (C := RX12) (T := TX12) (N := 77) hx hb hts (fun w h => bw_mem (wU_X12 w h)) tyX12 tyX12_ok nmX12 hown K hP hS hA1 sM_0 rfl 46 (by decide) (hts _ (bw_mem wB_1237)) (fun _ h9 => h9) rfl (by decide +kernel) (by decide +kernel) (by decide +kernel) dX12_goesOn_183 (fun S_5756 e_5756 H locs hP hS => ?_)
                    have I_5756 := dg_I.uFi (lo := 0) (hi := 1) I_5751 e_5756 sM_0 (by decide +kernel) (show 0 ≤ ((0 : Int32)).toInt ∧ ((0 : Int32)).toInt ≤ 1 from (by decide +kernel))
                    have M_5756 := dg_sm.uF M_5751 e_5756 sM_0 (by decide)
                    refine lv_iconst (v := 1) hx hb dX12_goesOn_186 (by decide +kernel) ?_
                    have hz_5757 : (1 : Int32).toInt = 1 := by decide +kernel
                    have hz_5758 : (1 : Int32).toInt = 1 := by decide +kernel
                    obtain ⟨x_5759, f_x_5759, b_x_5759⟩ := dg_I.int (i := 0) (k := 45) (lo := 0) (hi := 500) I_5756 sM_0 (by decide +kernel)
                    have hz_5760 : (0 : Int32).toInt = 0 := by decide +kernel
                    have hz_5761 : (1 : Int32).toInt = 1 := by decide +kernel
                    have hz_5762 : (0 : Int32).toInt = 0 := by decide +kernel
                    refine W.widen (k := 0) (n := 0) (Nat.le_of_ble_eq_true rfl) (Nat.le_of_ble_eq_true rfl) ?_
                    exact dg_iret hx hb hr hlocks (by decide +kernel) hP hS ⟨I_5756, M_5756, (by decide +kernel), ⟨y_5752, y_5753, y_5754, y_3, y_5711, dp, x_5759, 0, ((dg_uF_ne e_5756 (fun z => absurd z.2 (by decide))).trans f_y_5752), ((dg_uF_ne e_5756 (fun z => absurd z.2 (by decide))).trans f_y_5753), ((dg_uF_ne e_5756 (fun z => absurd z.2 (by decide))).trans f_y_5754), (((dg_uF_ne e_5756 (fun z => absurd z.2 (by decide))).trans ((m_5751.1 0 8 _ sM_0 (by decide)).trans ((m_5746.1 0 8 _ sM_0 (by decide)).trans (m_5709.1 0 8 _ sM_0 (by decide))))).trans f_y_3), (((dg_uF_ne e_5756 (fun z => absurd z.2 (by decide))).trans ((m_5751.1 0 34 _ sM_0 (by decide)).trans (m_5746.1 0 34 _ sM_0 (by decide)))).trans f_y_5711), (((dg_uF_ne e_5756 (fun z => absurd z.2 (by decide))).trans ((m_5751.1 0 42 _ sM_0 (by decide)).trans ((m_5746.1 0 42 _ sM_0 (by decide)).trans ((m_5709.1 0 42 _ sM_0 (by decide)).trans (m_2.1 0 42 _ sM_0 (by decide)))))).trans f_dp), f_x_5759, (dg_uF_at e_5756), (by omega)⟩, (fun k9 hk9 hk0 => POM.mk0 (P0M.keep (P0M.keep P0_5746 m_5751 (by decide) (by decide) (by decide) (by decide) (by decide) (by decide) (by decide) (by decide) (by decide) (by decide) (by decide) (by decide) (by decide) (by decide) (by decide)) (dg_sm.uF (WF := [(0, 46)]) (WA := []) dg_sm.rf e_5756 sM_0 (by decide)) (by decide) (by decide) (by decide) (by decide) (by decide) (by decide) (by decide) (by decide) (by decide) (by decide) (by decide) (by decide) (by decide) (by decide) (by decide)) (dg_uF_at e_5756) (by omega)), (ZWM.keep (ZWM.keep (ZWM.keep w_5709_2 m_5746 (by decide) (by decide) (by decide) (by decide)) m_5751 (by decide) (by decide) (by decide) (by decide)) (dg_sm.uF (WF := [(0, 46)]) (WA := []) dg_sm.rf e_5756 sM_0 (by decide)) (by decide) (by decide) (by decide) (by decide)), trivial⟩ dX12_goesOn_187
                · have jc_5724 := dk_neqc (k := 0) (by decide +kernel) c_5724
                  have w_5722_1_r := w_5722_1.mp (by omega)
                  clear w_5722_1
                  refine lv_bipush (v := 33) hx hb dX12_goesOn_153 (by decide +kernel) ?_
                  refine lv_goto (tgt := 174) hx hb dX12_goesOn_155 (by decide) ?_
                  refine dg_callv hS hA1 hA (va_runV (As := [.int 33]) (rest := []) F (c_m_holdsBack l g D o S_5709 33 y_5712 f_y_5712 (by omega) I_5709 H.size) (cwV 1 hts (bw_V wB_1224 wB_1225 wB_1226 wB_881 wB_1223) rfl rfl rfl (by decide +kernel) ⟨Nat.le_of_ble_eq_true rfl, Nat.le_of_ble_eq_true rfl⟩) (dg_preV sM_0 rfl K ST hP hS hA1 hA) rfl rfl hl.1 rfl (lv_room (Nat.le_of_ble_eq_true rfl)) dX12_goesOn_174 ⟨Nat.le_of_ble_eq_true rfl, Nat.le_of_ble_eq_true rfl⟩) (fun S_5763 hw_5763 H locs hP hS => ?_)
                  obtain ⟨I_5763, m_5763, w_5763_0, w_5763_1, -⟩ := hw_5763
                  have M_5763 := dg_sm.tr M_5709 m_5763 (by decide) (by decide)
                  have hz_5764 : (33 : Int32).toInt = 33 := by decide +kernel
                  obtain ⟨y_5765, f_y_5765, w_5763_0⟩ := w_5763_0
                  have w_5763_0 : (y_5765).toInt = (y_5712).toInt + 1 := w_5763_0
                  have b_y_5765 : 0 ≤ (y_5765).toInt ∧ (y_5765).toInt ≤ 500 := dg_I.intb (lo := 0) (hi := 500) I_5763 sM_0 (by decide +kernel) f_y_5765
                  have w_5763_1 : HBM S_5709 S_5763 (33 : Int32) := w_5763_1
                  obtain ⟨x_5766, f_x_5766, b_x_5766⟩ := dg_I.int (i := 0) (k := 43) (lo := (-2147483648)) (hi := 2147483647) I_5709 sM_0 (by decide +kernel)
                  obtain ⟨x_5767, f_x_5767, b_x_5767⟩ := dg_I.int (i := 0) (k := 45) (lo := 0) (hi := 500) I_5709 sM_0 (by decide +kernel)
                  have P0_5763 : P0M S_5763 := P1M.bin w_5709_3 (((m_5709.1 0 42 _ sM_0 (by decide)).trans (m_2.1 0 42 _ sM_0 (by decide))).trans f_dp) f_x_5766 f_x_5767 w_5709_1 m_5763 w_5763_1 (by omega)
                  refine lv_aload_n hx hb dX12_goesOn_177 rfl (lv_at hl 3 rfl) ?_
                  refine dg_callv hS hA1 hA (va_runV (As := []) (rest := []) F (c_m_ahead l g D o S_5763 se (((m_5763.1 0 5 _ sM_0 (by decide)).trans ((m_5709.1 0 5 _ sM_0 (by decide)).trans (m_2.1 0 5 _ sM_0 (by decide)))).trans f_se) (by omega) sl (((m_5763.1 0 2 _ sM_0 (by decide)).trans ((m_5709.1 0 2 _ sM_0 (by decide)).trans (m_2.1 0 2 _ sM_0 (by decide)))).trans f_sl) (by omega) (by omega) I_5763 H.size) (cwV 0 hts (bw_V wB_1161 wB_1162 wB_1163 wB_881 wB_1160) rfl rfl rfl (by decide +kernel) ⟨Nat.le_of_ble_eq_true rfl, Nat.le_of_ble_eq_true rfl⟩) (dg_preV sM_0 rfl K ST hP hS hA1 hA) rfl rfl hl.1 rfl (lv_room (Nat.le_of_ble_eq_true rfl)) dX12_goesOn_178 ⟨Nat.le_of_ble_eq_true rfl, Nat.le_of_ble_eq_true rfl⟩) (fun S_5768 hw_5768 H locs hP hS => ?_)
                  obtain ⟨I_5768, m_5768, w_5768_0, -⟩ := hw_5768
                  have M_5768 := dg_sm.tr M_5763 m_5768 (by decide) (by decide)
                  obtain ⟨y_5769, y_5770, y_5771, f_y_5769, f_y_5770, f_y_5771, w_5768_0⟩ := w_5768_0
                  have w_5768_0 : (se).toInt ≤ (y_5770).toInt ∧ (y_5770).toInt ≤ (y_5771).toInt ∧ (y_5771).toInt ≤ (sl).toInt ∧ ((y_5769).toInt ≠ 0 → (y_5770).toInt + 1 ≤ (y_5771).toInt) := w_5768_0
                  have b_y_5769 : 0 ≤ (y_5769).toInt ∧ (y_5769).toInt ≤ 3 := dg_I.intb (lo := 0) (hi := 3) I_5768 sM_0 (by decide +kernel) f_y_5769
                  have b_y_5770 : 0 ≤ (y_5770).toInt ∧ (y_5770).toInt ≤ 1600 := dg_I.intb (lo := 0) (hi := 1600) I_5768 sM_0 (by decide +kernel) f_y_5770
                  have b_y_5771 : 0 ≤ (y_5771).toInt ∧ (y_5771).toInt ≤ 1600 := dg_I.intb (lo := 0) (hi := 1600) I_5768 sM_0 (by decide +kernel) f_y_5771
                  refine lv_aload_n hx hb dX12_goesOn_181 rfl (lv_at hl 3 rfl) ?_
                  refine lv_iconst (v := 0) hx hb dX12_goesOn_182 (by decide +kernel) ?_
                  have hz_5772 : (0 : Int32).toInt = 0 := by decide +kernel
                  refine dg_put (ci := 12) (v := .int 0) (ty := tyX12 46) (C := RX12) (T := TX12) (N := 77) hx hb hts (fun w h => bw_mem (wU_X12 w h)) tyX12 tyX12_ok nmX12 hown K hP hS hA1 sM_0 rfl 46 (by decide) (hts _ (bw_mem wB_1237)) (fun _ h9 => h9) rfl (by decide +kernel) (by decide +kernel) (by decide +kernel) dX12_goesOn_183 (fun S_5773 e_5773 H locs hP hS => ?_)
                  have I_5773 := dg_I.uFi (lo := 0) (hi := 1) I_5768 e_5773 sM_0 (by decide +kernel) (show 0 ≤ ((0 : Int32)).toInt ∧ ((0 : Int32)).toInt ≤ 1 from (by decide +kernel))
                  have M_5773 := dg_sm.uF M_5768 e_5773 sM_0 (by decide)
                  refine lv_iconst (v := 1) hx hb dX12_goesOn_186 (by decide +kernel) ?_
                  have hz_5774 : (1 : Int32).toInt = 1 := by decide +kernel
                  have hz_5775 : (1 : Int32).toInt = 1 := by decide +kernel
                  obtain ⟨x_5776, f_x_5776, b_x_5776⟩ := dg_I.int (i := 0) (k := 45) (lo := 0) (hi := 500) I_5773 sM_0 (by decide +kernel)
                  have hz_5777 : (0 : Int32).toInt = 0 := by decide +kernel
                  have hz_5778 : (1 : Int32).toInt = 1 := by decide +kernel
                  have hz_5779 : (0 : Int32).toInt = 0 := by decide +kernel
                  refine W.widen (k := 0) (n := 0) (Nat.le_of_ble_eq_true rfl) (Nat.le_of_ble_eq_true rfl) ?_
                  exact dg_iret hx hb hr hlocks (by decide +kernel) hP hS ⟨I_5773, M_5773, (by decide +kernel), ⟨y_5769, y_5770, y_5771, y_3, y_5711, dp, x_5776, 0, ((dg_uF_ne e_5773 (fun z => absurd z.2 (by decide))).trans f_y_5769), ((dg_uF_ne e_5773 (fun z => absurd z.2 (by decide))).trans f_y_5770), ((dg_uF_ne e_5773 (fun z => absurd z.2 (by decide))).trans f_y_5771), (((dg_uF_ne e_5773 (fun z => absurd z.2 (by decide))).trans ((m_5768.1 0 8 _ sM_0 (by decide)).trans ((m_5763.1 0 8 _ sM_0 (by decide)).trans (m_5709.1 0 8 _ sM_0 (by decide))))).trans f_y_3), (((dg_uF_ne e_5773 (fun z => absurd z.2 (by decide))).trans ((m_5768.1 0 34 _ sM_0 (by decide)).trans (m_5763.1 0 34 _ sM_0 (by decide)))).trans f_y_5711), (((dg_uF_ne e_5773 (fun z => absurd z.2 (by decide))).trans ((m_5768.1 0 42 _ sM_0 (by decide)).trans ((m_5763.1 0 42 _ sM_0 (by decide)).trans ((m_5709.1 0 42 _ sM_0 (by decide)).trans (m_2.1 0 42 _ sM_0 (by decide)))))).trans f_dp), f_x_5776, (dg_uF_at e_5773), (by omega)⟩, (fun k9 hk9 hk0 => POM.mk0 (P0M.keep (P0M.keep P0_5763 m_5768 (by decide) (by decide) (by decide) (by decide) (by decide) (by decide) (by decide) (by decide) (by decide) (by decide) (by decide) (by decide) (by decide) (by decide) (by decide)) (dg_sm.uF (WF := [(0, 46)]) (WA := []) dg_sm.rf e_5773 sM_0 (by decide)) (by decide) (by decide) (by decide) (by decide) (by decide) (by decide) (by decide) (by decide) (by decide) (by decide) (by decide) (by decide) (by decide) (by decide) (by decide)) (dg_uF_at e_5773) (by omega)), (ZWM.keep (ZWM.keep (ZWM.keep w_5709_2 m_5763 (by decide) (by decide) (by decide) (by decide)) m_5768 (by decide) (by decide) (by decide) (by decide)) (dg_sm.uF (WF := [(0, 46)]) (WA := []) dg_sm.rf e_5773 sM_0 (by decide)) (by decide) (by decide) (by decide) (by decide)), trivial⟩ dX12_goesOn_187
              · have jc_5720 := dk_neqc (k := 0) (by decide +kernel) c_5720
                have w_5718_1_r := w_5718_1.mp (by omega)
                clear w_5718_1
                refine lv_bipush (v := 32) hx hb dX12_goesOn_139 (by decide +kernel) ?_
                refine lv_goto (tgt := 174) hx hb dX12_goesOn_141 (by decide) ?_
                refine dg_callv hS hA1 hA (va_runV (As := [.int 32]) (rest := []) F (c_m_holdsBack l g D o S_5709 32 y_5712 f_y_5712 (by omega) I_5709 H.size) (cwV 1 hts (bw_V wB_1224 wB_1225 wB_1226 wB_881 wB_1223) rfl rfl rfl (by decide +kernel) ⟨Nat.le_of_ble_eq_true rfl, Nat.le_of_ble_eq_true rfl⟩) (dg_preV sM_0 rfl K ST hP hS hA1 hA) rfl rfl hl.1 rfl (lv_room (Nat.le_of_ble_eq_true rfl)) dX12_goesOn_174 ⟨Nat.le_of_ble_eq_true rfl, Nat.le_of_ble_eq_true rfl⟩) (fun S_5780 hw_5780 H locs hP hS => ?_)
                obtain ⟨I_5780, m_5780, w_5780_0, w_5780_1, -⟩ := hw_5780
                have M_5780 := dg_sm.tr M_5709 m_5780 (by decide) (by decide)
                have hz_5781 : (32 : Int32).toInt = 32 := by decide +kernel
                obtain ⟨y_5782, f_y_5782, w_5780_0⟩ := w_5780_0
                have w_5780_0 : (y_5782).toInt = (y_5712).toInt + 1 := w_5780_0
                have b_y_5782 : 0 ≤ (y_5782).toInt ∧ (y_5782).toInt ≤ 500 := dg_I.intb (lo := 0) (hi := 500) I_5780 sM_0 (by decide +kernel) f_y_5782
                have w_5780_1 : HBM S_5709 S_5780 (32 : Int32) := w_5780_1
                obtain ⟨x_5783, f_x_5783, b_x_5783⟩ := dg_I.int (i := 0) (k := 43) (lo := (-2147483648)) (hi := 2147483647) I_5709 sM_0 (by decide +kernel)
                obtain ⟨x_5784, f_x_5784, b_x_5784⟩ := dg_I.int (i := 0) (k := 45) (lo := 0) (hi := 500) I_5709 sM_0 (by decide +kernel)
                have P0_5780 : P0M S_5780 := P1M.bin w_5709_3 (((m_5709.1 0 42 _ sM_0 (by decide)).trans (m_2.1 0 42 _ sM_0 (by decide))).trans f_dp) f_x_5783 f_x_5784 w_5709_1 m_5780 w_5780_1 (by omega)
                refine lv_aload_n hx hb dX12_goesOn_177 rfl (lv_at hl 3 rfl) ?_
                refine dg_callv hS hA1 hA (va_runV (As := []) (rest := []) F (c_m_ahead l g D o S_5780 se (((m_5780.1 0 5 _ sM_0 (by decide)).trans ((m_5709.1 0 5 _ sM_0 (by decide)).trans (m_2.1 0 5 _ sM_0 (by decide)))).trans f_se) (by omega) sl (((m_5780.1 0 2 _ sM_0 (by decide)).trans ((m_5709.1 0 2 _ sM_0 (by decide)).trans (m_2.1 0 2 _ sM_0 (by decide)))).trans f_sl) (by omega) (by omega) I_5780 H.size) (cwV 0 hts (bw_V wB_1161 wB_1162 wB_1163 wB_881 wB_1160) rfl rfl rfl (by decide +kernel) ⟨Nat.le_of_ble_eq_true rfl, Nat.le_of_ble_eq_true rfl⟩) (dg_preV sM_0 rfl K ST hP hS hA1 hA) rfl rfl hl.1 rfl (lv_room (Nat.le_of_ble_eq_true rfl)) dX12_goesOn_178 ⟨Nat.le_of_ble_eq_true rfl, Nat.le_of_ble_eq_true rfl⟩) (fun S_5785 hw_5785 H locs hP hS => ?_)
                obtain ⟨I_5785, m_5785, w_5785_0, -⟩ := hw_5785
                have M_5785 := dg_sm.tr M_5780 m_5785 (by decide) (by decide)
                obtain ⟨y_5786, y_5787, y_5788, f_y_5786, f_y_5787, f_y_5788, w_5785_0⟩ := w_5785_0
                have w_5785_0 : (se).toInt ≤ (y_5787).toInt ∧ (y_5787).toInt ≤ (y_5788).toInt ∧ (y_5788).toInt ≤ (sl).toInt ∧ ((y_5786).toInt ≠ 0 → (y_5787).toInt + 1 ≤ (y_5788).toInt) := w_5785_0
                have b_y_5786 : 0 ≤ (y_5786).toInt ∧ (y_5786).toInt ≤ 3 := dg_I.intb (lo := 0) (hi := 3) I_5785 sM_0 (by decide +kernel) f_y_5786
                have b_y_5787 : 0 ≤ (y_5787).toInt ∧ (y_5787).toInt ≤ 1600 := dg_I.intb (lo := 0) (hi := 1600) I_5785 sM_0 (by decide +kernel) f_y_5787
                have b_y_5788 : 0 ≤ (y_5788).toInt ∧ (y_5788).toInt ≤ 1600 := dg_I.intb (lo := 0) (hi := 1600) I_5785 sM_0 (by decide +kernel) f_y_5788
                refine lv_aload_n hx hb dX12_goesOn_181 rfl (lv_at hl 3 rfl) ?_
                refine lv_iconst (v := 0) hx hb dX12_goesOn_182 (by decide +kernel) ?_
                have hz_5789 : (0 : Int32).toInt = 0 := by decide +kernel
                refine dg_put (ci := 12) (v := .int 0) (ty := tyX12 46) (C := RX12) (T := TX12) (N := 77) hx hb hts (fun w h => bw_mem (wU_X12 w h)) tyX12 tyX12_ok nmX12 hown K hP hS hA1 sM_0 rfl 46 (by decide) (hts _ (bw_mem wB_1237)) (fun _ h9 => h9) rfl (by decide +kernel) (by decide +kernel) (by decide +kernel) dX12_goesOn_183 (fun S_5790 e_5790 H locs hP hS => ?_)
                have I_5790 := dg_I.uFi (lo := 0) (hi := 1) I_5785 e_5790 sM_0 (by decide +kernel) (show 0 ≤ ((0 : Int32)).toInt ∧ ((0 : Int32)).toInt ≤ 1 from (by decide +kernel))
                have M_5790 := dg_sm.uF M_5785 e_5790 sM_0 (by decide)
                refine lv_iconst (v := 1) hx hb dX12_goesOn_186 (by decide +kernel) ?_
                have hz_5791 : (1 : Int32).toInt = 1 := by decide +kernel
                have hz_5792 : (1 : Int32).toInt = 1 := by decide +kernel
                obtain ⟨x_5793, f_x_5793, b_x_5793⟩ := dg_I.int (i := 0) (k := 45) (lo := 0) (hi := 500) I_5790 sM_0 (by decide +kernel)
                have hz_5794 : (0 : Int32).toInt = 0 := by decide +kernel
                have hz_5795 : (1 : Int32).toInt = 1 := by decide +kernel
                have hz_5796 : (0 : Int32).toInt = 0 := by decide +kernel
                refine W.widen (k := 0) (n := 0) (Nat.le_of_ble_eq_true rfl) (Nat.le_of_ble_eq_true rfl) ?_
                exact dg_iret hx hb hr hlocks (by decide +kernel) hP hS ⟨I_5790, M_5790, (by decide +kernel), ⟨y_5786, y_5787, y_5788, y_3, y_5711, dp, x_5793, 0, ((dg_uF_ne e_5790 (fun z => absurd z.2 (by decide))).trans f_y_5786), ((dg_uF_ne e_5790 (fun z => absurd z.2 (by decide))).trans f_y_5787), ((dg_uF_ne e_5790 (fun z => absurd z.2 (by decide))).trans f_y_5788), (((dg_uF_ne e_5790 (fun z => absurd z.2 (by decide))).trans ((m_5785.1 0 8 _ sM_0 (by decide)).trans ((m_5780.1 0 8 _ sM_0 (by decide)).trans (m_5709.1 0 8 _ sM_0 (by decide))))).trans f_y_3), (((dg_uF_ne e_5790 (fun z => absurd z.2 (by decide))).trans ((m_5785.1 0 34 _ sM_0 (by decide)).trans (m_5780.1 0 34 _ sM_0 (by decide)))).trans f_y_5711), (((dg_uF_ne e_5790 (fun z => absurd z.2 (by decide))).trans ((m_5785.1 0 42 _ sM_0 (by decide)).trans ((m_5780.1 0 42 _ sM_0 (by decide)).trans ((m_5709.1 0 42 _ sM_0 (by decide)).trans (m_2.1 0 42 _ sM_0 (by decide)))))).trans f_dp), f_x_5793, (dg_uF_at e_5790), (by omega)⟩, (fun k9 hk9 hk0 => POM.mk0 (P0M.keep (P0M.keep P0_5780 m_5785 (by decide) (by decide) (by decide) (by decide) (by decide) (by decide) (by decide) (by decide) (by decide) (by decide) (by decide) (by decide) (by decide) (by decide) (by decide)) (dg_sm.uF (WF := [(0, 46)]) (WA := []) dg_sm.rf e_5790 sM_0 (by decide)) (by decide) (by decide) (by decide) (by decide) (by decide) (by decide) (by decide) (by decide) (by decide) (by decide) (by decide) (by decide) (by decide) (by decide) (by decide)) (dg_uF_at e_5790) (by omega)), (ZWM.keep (ZWM.keep (ZWM.keep w_5709_2 m_5780 (by decide) (by decide) (by decide) (by decide)) m_5785 (by decide) (by decide) (by decide) (by decide)) (dg_sm.uF (WF := [(0, 46)]) (WA := []) dg_sm.rf e_5790 sM_0 (by decide)) (by decide) (by decide) (by decide) (by decide)), trivial⟩ dX12_goesOn_187
            · have jc_5716 := dk_neqc (k := 0) (by decide +kernel) c_5716
              have w_5714_1_r := w_5714_1.mp (by omega)
              clear w_5714_1
              refine lv_bipush (v := 31) hx hb dX12_goesOn_125 (by decide +kernel) ?_
              refine lv_goto (tgt := 174) hx hb dX12_goesOn_127 (by decide) ?_
              refine dg_callv hS hA1 hA (va_runV (As := [.int 31]) (rest := []) F (c_m_holdsBack l g D o S_5709 31 y_5712 f_y_5712 (by omega) I_5709 H.size) (cwV 1 hts (bw_V wB_1224 wB_1225 wB_1226 wB_881 wB_1223) rfl rfl rfl (by decide +kernel) ⟨Nat.le_of_ble_eq_true rfl, Nat.le_of_ble_eq_true rfl⟩) (dg_preV sM_0 rfl K ST hP hS hA1 hA) rfl rfl hl.1 rfl (lv_room (Nat.le_of_ble_eq_true rfl)) dX12_goesOn_174 ⟨Nat.le_of_ble_eq_true rfl, Nat.le_of_ble_eq_true rfl⟩) (fun S_5797 hw_5797 H locs hP hS => ?_)
              obtain ⟨I_5797, m_5797, w_5797_0, w_5797_1, -⟩ := hw_5797
              have M_5797 := dg_sm.tr M_5709 m_5797 (by decide) (by decide)
              have hz_5798 : (31 : Int32).toInt = 31 := by decide +kernel
              obtain ⟨y_5799, f_y_5799, w_5797_0⟩ := w_5797_0
              have w_5797_0 : (y_5799).toInt = (y_5712).toInt + 1 := w_5797_0
              have b_y_5799 : 0 ≤ (y_5799).toInt ∧ (y_5799).toInt ≤ 500 := dg_I.intb (lo := 0) (hi := 500) I_5797 sM_0 (by decide +kernel) f_y_5799
              have w_5797_1 : HBM S_5709 S_5797 (31 : Int32) := w_5797_1
              obtain ⟨x_5800, f_x_5800, b_x_5800⟩ := dg_I.int (i := 0) (k := 43) (lo := (-2147483648)) (hi := 2147483647) I_5709 sM_0 (by decide +kernel)
              obtain ⟨x_5801, f_x_5801, b_x_5801⟩ := dg_I.int (i := 0) (k := 45) (lo := 0) (hi := 500) I_5709 sM_0 (by decide +kernel)
              have P0_5797 : P0M S_5797 := P1M.bin w_5709_3 (((m_5709.1 0 42 _ sM_0 (by decide)).trans (m_2.1 0 42 _ sM_0 (by decide))).trans f_dp) f_x_5800 f_x_5801 w_5709_1 m_5797 w_5797_1 (by omega)
              refine lv_aload_n hx hb dX12_goesOn_177 rfl (lv_at hl 3 rfl) ?_
              refine dg_callv hS hA1 hA (va_runV (As := []) (rest := []) F (c_m_ahead l g D o S_5797 se (((m_5797.1 0 5 _ sM_0 (by decide)).trans ((m_5709.1 0 5 _ sM_0 (by decide)).trans (m_2.1 0 5 _ sM_0 (by decide)))).trans f_se) (by omega) sl (((m_5797.1 0 2 _ sM_0 (by decide)).trans ((m_5709.1 0 2 _ sM_0 (by decide)).trans (m_2.1 0 2 _ sM_0 (by decide)))).trans f_sl) (by omega) (by omega) I_5797 H.size) (cwV 0 hts (bw_V wB_1161 wB_1162 wB_1163 wB_881 wB_1160) rfl rfl rfl (by decide +kernel) ⟨Nat.le_of_ble_eq_true rfl, Nat.le_of_ble_eq_true rfl⟩) (dg_preV sM_0 rfl K ST hP hS hA1 hA) rfl rfl hl.1 rfl (lv_room (Nat.le_of_ble_eq_true rfl)) dX12_goesOn_178 ⟨Nat.le_of_ble_eq_true rfl, Nat.le_of_ble_eq_true rfl⟩) (fun S_5802 hw_5802 H locs hP hS => ?_)
              obtain ⟨I_5802, m_5802, w_5802_0, -⟩ := hw_5802
              have M_5802 := dg_sm.tr M_5797 m_5802 (by decide) (by decide)
              obtain ⟨y_5803, y_5804, y_5805, f_y_5803, f_y_5804, f_y_5805, w_5802_0⟩ := w_5802_0
              have w_5802_0 : (se).toInt ≤ (y_5804).toInt ∧ (y_5804).toInt ≤ (y_5805).toInt ∧ (y_5805).toInt ≤ (sl).toInt ∧ ((y_5803).toInt ≠ 0 → (y_5804).toInt + 1 ≤ (y_5805).toInt) := w_5802_0
              have b_y_5803 : 0 ≤ (y_5803).toInt ∧ (y_5803).toInt ≤ 3 := dg_I.intb (lo := 0) (hi := 3) I_5802 sM_0 (by decide +kernel) f_y_5803
              have b_y_5804 : 0 ≤ (y_5804).toInt ∧ (y_5804).toInt ≤ 1600 := dg_I.intb (lo := 0) (hi := 1600) I_5802 sM_0 (by decide +kernel) f_y_5804
              have b_y_5805 : 0 ≤ (y_5805).toInt ∧ (y_5805).toInt ≤ 1600 := dg_I.intb (lo := 0) (hi := 1600) I_5802 sM_0 (by decide +kernel) f_y_5805
              refine lv_aload_n hx hb dX12_goesOn_181 rfl (lv_at hl 3 rfl) ?_
              refine lv_iconst (v := 0) hx hb dX12_goesOn_182 (by decide +kernel) ?_
              have hz_5806 : (0 : Int32).toInt = 0 := by decide +kernel
              refine dg_put (ci := 12) (v := .int 0) (ty := tyX12 46) (C := RX12) (T := TX12) (N := 77) hx hb hts (fun w h => bw_mem (wU_X12 w h)) tyX12 tyX12_ok nmX12 hown K hP hS hA1 sM_0 rfl 46 (by decide) (hts _ (bw_mem wB_1237)) (fun _ h9 => h9) rfl (by decide +kernel) (by decide +kernel) (by decide +kernel) dX12_goesOn_183 (fun S_5807 e_5807 H locs hP hS => ?_)
              have I_5807 := dg_I.uFi (lo := 0) (hi := 1) I_5802 e_5807 sM_0 (by decide +kernel) (show 0 ≤ ((0 : Int32)).toInt ∧ ((0 : Int32)).toInt ≤ 1 from (by decide +kernel))
              have M_5807 := dg_sm.uF M_5802 e_5807 sM_0 (by decide)
              refine lv_iconst (v := 1) hx hb dX12_goesOn_186 (by decide +kernel) ?_
              have hz_5808 : (1 : Int32).toInt = 1 := by decide +kernel
              have hz_5809 : (1 : Int32).toInt = 1 := by decide +kernel
              obtain ⟨x_5810, f_x_5810, b_x_5810⟩ := dg_I.int (i := 0) (k := 45) (lo := 0) (hi := 500) I_5807 sM_0 (by decide +kernel)
              have hz_5811 : (0 : Int32).toInt = 0 := by decide +kernel
              have hz_5812 : (1 : Int32).toInt = 1 := by decide +kernel
              have hz_5813 : (0 : Int32).toInt = 0 := by decide +kernel
              refine W.widen (k := 0) (n := 0) (Nat.le_of_ble_eq_true rfl) (Nat.le_of_ble_eq_true rfl) ?_
              exact dg_iret hx hb hr hlocks (by decide +kernel) hP hS ⟨I_5807, M_5807, (by decide +kernel), ⟨y_5803, y_5804, y_5805, y_3, y_5711, dp, x_5810, 0, ((dg_uF_ne e_5807 (fun z => absurd z.2 (by decide))).trans f_y_5803), ((dg_uF_ne e_5807 (fun z => absurd z.2 (by decide))).trans f_y_5804), ((dg_uF_ne e_5807 (fun z => absurd z.2 (by decide))).trans f_y_5805), (((dg_uF_ne e_5807 (fun z => absurd z.2 (by decide))).trans ((m_5802.1 0 8 _ sM_0 (by decide)).trans ((m_5797.1 0 8 _ sM_0 (by decide)).trans (m_5709.1 0 8 _ sM_0 (by decide))))).trans f_y_3), (((dg_uF_ne e_5807 (fun z => absurd z.2 (by decide))).trans ((m_5802.1 0 34 _ sM_0 (by decide)).trans (m_5797.1 0 34 _ sM_0 (by decide)))).trans f_y_5711), (((dg_uF_ne e_5807 (fun z => absurd z.2 (by decide))).trans ((m_5802.1 0 42 _ sM_0 (by decide)).trans ((m_5797.1 0 42 _ sM_0 (by decide)).trans ((m_5709.1 0 42 _ sM_0 (by decide)).trans (m_2.1 0 42 _ sM_0 (by decide)))))).trans f_dp), f_x_5810, (dg_uF_at e_5807), (by omega)⟩, (fun k9 hk9 hk0 => POM.mk0 (P0M.keep (P0M.keep P0_5797 m_5802 (by decide) (by decide) (by decide) (by decide) (by decide) (by decide) (by decide) (by decide) (by decide) (by decide) (by decide) (by decide) (by decide) (by decide) (by decide)) (dg_sm.uF (WF := [(0, 46)]) (WA := []) dg_sm.rf e_5807 sM_0 (by decide)) (by decide) (by decide) (by decide) (by decide) (by decide) (by decide) (by decide) (by decide) (by decide) (by decide) (by decide) (by decide) (by decide) (by decide) (by decide)) (dg_uF_at e_5807) (by omega)), (ZWM.keep (ZWM.keep (ZWM.keep w_5709_2 m_5797 (by decide) (by decide) (by decide) (by decide)) m_5802 (by decide) (by decide) (by decide) (by decide)) (dg_sm.uF (WF := [(0, 46)]) (WA := []) dg_sm.rf e_5807 sM_0 (by decide)) (by decide) (by decide) (by decide) (by decide)), trivial⟩ dX12_goesOn_187
          · have jc_5707 := dk_neqc (k := 0) (by decide +kernel) c_5707
            have w_5705_1_r := w_5705_1.mp (by omega)
            clear w_5705_1
            refine lv_iconst (v := 5) hx hb dX12_goesOn_106 (by decide +kernel) ?_
            refine lv_goto (tgt := 112) hx hb dX12_goesOn_107 (by decide) ?_
            have hz_5814 : (5 : Int32).toInt = 5 := by decide +kernel
            refine dg_callv hS hA1 hA (va_runV (As := [.int 5]) (rest := []) F (c_m_joins l g D o S_2 5 (by decide +kernel) cd ((m_2.1 0 34 _ sM_0 (by decide)).trans f_cd) (by omega) om ((m_2.1 0 45 _ sM_0 (by decide)).trans f_om) (by omega) (by omega) (ZWM.keep ZW m_2 (by decide) (by decide) (by decide) (by decide)) (ZKM.keep ZK m_2 (by decide) (by decide)) (P1M.keep P1 m_2 (by decide) (by decide) (by decide) (by decide) (by decide) (by decide) (by decide) (by decide) (by decide) (by decide) (by decide) (by decide) (by decide) (by decide) (by decide)) I_2 H.size) (cwV 1 hts (bw_V wB_1234 wB_1235 wB_1236 wB_881 wB_1233) rfl rfl rfl (by decide +kernel) ⟨Nat.le_of_ble_eq_true rfl, Nat.le_of_ble_eq_true rfl⟩) (dg_preV sM_0 rfl K ST hP hS hA1 hA) rfl rfl hl.1 rfl (lv_room (Nat.le_of_ble_eq_true rfl)) dX12_goesOn_112 ⟨Nat.le_of_ble_eq_true rfl, Nat.le_of_ble_eq_true rfl⟩) (fun S_5815 hw_5815 H locs hP hS => ?_)
            obtain ⟨I_5815, m_5815, w_5815_0, w_5815_1, w_5815_2, w_5815_3, -⟩ := hw_5815
            have M_5815 := dg_sm.tr M_2 m_5815 (by decide) (by decide)
            have hz_5816 : (5 : Int32).toInt = 5 := by decide +kernel
            obtain ⟨y_5817, y_5818, f_y_5817, f_y_5818, w_5815_0⟩ := w_5815_0
            have w_5815_0 : (y_5817).toInt + (y_5818).toInt = (cd).toInt + (om).toInt := w_5815_0
            have b_y_5817 : 0 ≤ (y_5817).toInt ∧ (y_5817).toInt ≤ 1600 := dg_I.intb (lo := 0) (hi := 1600) I_5815 sM_0 (by decide +kernel) f_y_5817
            have b_y_5818 : 0 ≤ (y_5818).toInt ∧ (y_5818).toInt ≤ 500 := dg_I.intb (lo := 0) (hi := 500) I_5815 sM_0 (by decide +kernel) f_y_5818
            have w_5815_1 : TOPM S_5815 (5 : Int32) := w_5815_1
            refine lv_aload_n hx hb dX12_goesOn_115 rfl (lv_at hl 3 rfl) ?_
            refine lv_aload_n hx hb dX12_goesOn_116 rfl (lv_at hl 3 rfl) ?_
            refine lv_bipush (v := 43) hx hb dX12_goesOn_117 (by decide +kernel) ?_
            refine dg_calli hS hA1 hA (va_runV (As := [.int 43]) (rest := [.ref (o + 0)]) F (c_m_isSign l g D o S_5815 43 sg (((m_5815.1 0 3 _ sM_0 (by decide)).trans (m_2.1 0 3 _ sM_0 (by decide))).trans f_sg) (by omega) va (((m_5815.1 0 6 _ sM_0 (by decide)).trans (m_2.1 0 6 _ sM_0 (by decide))).trans f_va) (by omega) I_5815 H.size) (cwV 1 hts (bw_V wB_1157 wB_1158 wB_1159 wB_881 wB_1156) rfl rfl rfl (by decide +kernel) ⟨Nat.le_of_ble_eq_true rfl, Nat.le_of_ble_eq_true rfl⟩) (dg_preV sM_0 rfl K ST hP hS hA1 hA) rfl rfl hl.1 rfl (lv_room (Nat.le_of_ble_eq_true rfl)) dX12_goesOn_119 ⟨Nat.le_of_ble_eq_true rfl, Nat.le_of_ble_eq_true rfl⟩) (fun x_5819 S_5820 hw_5820 H locs hP hS => ?_)
            rw [hw_5820.1] at hP
            obtain ⟨hq_5820, w_5820_0, w_5820_1, -⟩ := hw_5820
            have hz_5821 : (43 : Int32).toInt = 43 := by decide +kernel
            have w_5820_0 : 0 ≤ (x_5819).toInt ∧ (x_5819).toInt ≤ 1 := w_5820_0
            have w_5820_1 : (x_5819).toInt = 1 ↔ ((sg).toInt = 3 ∧ (va).toInt = ((43 : Int32)).toInt) := w_5820_1
            refine lv_if_eq (tgt := 130) hx hb dX12_goesOn_122 (by decide) (fun c_5822 => ?_) (fun c_5822 => ?_)
            · have jc_5822 := dk_eqc (k := 0) (by decide +kernel) c_5822
              have w_5820_1_r : (va).toInt ≠ 43 := fun q9 => absurd (w_5820_1.mpr ⟨by omega, by omega⟩) (by omega)
              clear w_5820_1
              refine lv_aload_n hx hb dX12_goesOn_130 rfl (lv_at hl 3 rfl) ?_
              refine lv_bipush (v := 45) hx hb dX12_goesOn_131 (by decide +kernel) ?_
              refine dg_calli hS hA1 hA (va_runV (As := [.int 45]) (rest := [.ref (o + 0)]) F (c_m_isSign l g D o S_5815 45 sg (((m_5815.1 0 3 _ sM_0 (by decide)).trans (m_2.1 0 3 _ sM_0 (by decide))).trans f_sg) (by omega) va (((m_5815.1 0 6 _ sM_0 (by decide)).trans (m_2.1 0 6 _ sM_0 (by decide))).trans f_va) (by omega) I_5815 H.size) (cwV 1 hts (bw_V wB_1157 wB_1158 wB_1159 wB_881 wB_1156) rfl rfl rfl (by decide +kernel) ⟨Nat.le_of_ble_eq_true rfl, Nat.le_of_ble_eq_true rfl⟩) (dg_preV sM_0 rfl K ST hP hS hA1 hA) rfl rfl hl.1 rfl (lv_room (Nat.le_of_ble_eq_true rfl)) dX12_goesOn_133 ⟨Nat.le_of_ble_eq_true rfl, Nat.le_of_ble_eq_true rfl⟩) (fun x_5823 S_5824 hw_5824 H locs hP hS => ?_)
              rw [hw_5824.1] at hP
              obtain ⟨hq_5824, w_5824_0, w_5824_1, -⟩ := hw_5824
              have hz_5825 : (45 : Int32).toInt = 45 := by decide +kernel
              have w_5824_0 : 0 ≤ (x_5823).toInt ∧ (x_5823).toInt ≤ 1 := w_5824_0
              have w_5824_1 : (x_5823).toInt = 1 ↔ ((sg).toInt = 3 ∧ (va).toInt = ((45 : Int32)).toInt) := w_5824_1
              refine lv_if_eq (tgt := 144) hx hb dX12_goesOn_136 (by decide) (fun c_5826 => ?_) (fun c_5826 => ?_)
              · have jc_5826 := dk_eqc (k := 0) (by decide +kernel) c_5826
                have w_5824_1_r : (va).toInt ≠ 45 := fun q9 => absurd (w_5824_1.mpr ⟨by omega, by omega⟩) (by omega)
                clear w_5824_1
                refine lv_aload_n hx hb dX12_goesOn_144 rfl (lv_at hl 3 rfl) ?_
                refine lv_bipush (v := 42) hx hb dX12_goesOn_145 (by decide +kernel) ?_
                refine dg_calli hS hA1 hA (va_runV (As := [.int 42]) (rest := [.ref (o + 0)]) F (c_m_isSign l g D o S_5815 42 sg (((m_5815.1 0 3 _ sM_0 (by decide)).trans (m_2.1 0 3 _ sM_0 (by decide))).trans f_sg) (by omega) va (((m_5815.1 0 6 _ sM_0 (by decide)).trans (m_2.1 0 6 _ sM_0 (by decide))).trans f_va) (by omega) I_5815 H.size) (cwV 1 hts (bw_V wB_1157 wB_1158 wB_1159 wB_881 wB_1156) rfl rfl rfl (by decide +kernel) ⟨Nat.le_of_ble_eq_true rfl, Nat.le_of_ble_eq_true rfl⟩) (dg_preV sM_0 rfl K ST hP hS hA1 hA) rfl rfl hl.1 rfl (lv_room (Nat.le_of_ble_eq_true rfl)) dX12_goesOn_147 ⟨Nat.le_of_ble_eq_true rfl, Nat.le_of_ble_eq_true rfl⟩) (fun x_5827 S_5828 hw_5828 H locs hP hS => ?_)
                rw [hw_5828.1] at hP
                obtain ⟨hq_5828, w_5828_0, w_5828_1, -⟩ := hw_5828
                have hz_5829 : (42 : Int32).toInt = 42 := by decide +kernel
                have w_5828_0 : 0 ≤ (x_5827).toInt ∧ (x_5827).toInt ≤ 1 := w_5828_0
                have w_5828_1 : (x_5827).toInt = 1 ↔ ((sg).toInt = 3 ∧ (va).toInt = ((42 : Int32)).toInt) := w_5828_1
                refine lv_if_eq (tgt := 158) hx hb dX12_goesOn_150 (by decide) (fun c_5830 => ?_) (fun c_5830 => ?_)
                · have jc_5830 := dk_eqc (k := 0) (by decide +kernel) c_5830
                  have w_5828_1_r : (va).toInt ≠ 42 := fun q9 => absurd (w_5828_1.mpr ⟨by omega, by omega⟩) (by omega)
                  clear w_5828_1
                  refine lv_aload_n hx hb dX12_goesOn_158 rfl (lv_at hl 3 rfl) ?_
                  refine lv_bipush (v := 47) hx hb dX12_goesOn_159 (by decide +kernel) ?_
                  refine dg_calli hS hA1 hA (va_runV (As := [.int 47]) (rest := [.ref (o + 0)]) F (c_m_isSign l g D o S_5815 47 sg (((m_5815.1 0 3 _ sM_0 (by decide)).trans (m_2.1 0 3 _ sM_0 (by decide))).trans f_sg) (by omega) va (((m_5815.1 0 6 _ sM_0 (by decide)).trans (m_2.1 0 6 _ sM_0 (by decide))).trans f_va) (by omega) I_5815 H.size) (cwV 1 hts (bw_V wB_1157 wB_1158 wB_1159 wB_881 wB_1156) rfl rfl rfl (by decide +kernel) ⟨Nat.le_of_ble_eq_true rfl, Nat.le_of_ble_eq_true rfl⟩) (dg_preV sM_0 rfl K ST hP hS hA1 hA) rfl rfl hl.1 rfl (lv_room (Nat.le_of_ble_eq_true rfl)) dX12_goesOn_161 ⟨Nat.le_of_ble_eq_true rfl, Nat.le_of_ble_eq_true rfl⟩) (fun x_5831 S_5832 hw_5832 H locs hP hS => ?_)
                  rw [hw_5832.1] at hP
                  obtain ⟨hq_5832, w_5832_0, w_5832_1, -⟩ := hw_5832
                  have hz_5833 : (47 : Int32).toInt = 47 := by decide +kernel
                  have w_5832_0 : 0 ≤ (x_5831).toInt ∧ (x_5831).toInt ≤ 1 := w_5832_0
                  have w_5832_1 : (x_5831).toInt = 1 ↔ ((sg).toInt = 3 ∧ (va).toInt = ((47 : Int32)).toInt) := w_5832_1
                  refine lv_if_eq (tgt := 172) hx hb dX12_goesOn_164 (by decide) (fun c_5834 => ?_) (fun c_5834 => ?_)
                  · have jc_5834 := dk_eqc (k := 0) (by decide +kernel) c_5834
                    have w_5832_1_r : (va).toInt ≠ 47 := fun q9 => absurd (w_5832_1.mpr ⟨by omega, by omega⟩) (by omega)
                    clear w_5832_1
                    refine lv_bipush (v := 35) hx hb dX12_goesOn_172 (by decide +kernel) ?_
                    refine dg_callv hS hA1 hA (va_runV (As := [.int 35]) (rest := []) F (c_m_holdsBack l g D o S_5815 35 y_5818 f_y_5818 (by omega) I_5815 H.size) (cwV 1 hts (bw_V wB_1224 wB_1225 wB_1226 wB_881 wB_1223) rfl rfl rfl (by decide +kernel) ⟨Nat.le_of_ble_eq_true rfl, Nat.le_of_ble_eq_true rfl⟩) (dg_preV sM_0 rfl K ST hP hS hA1 hA) rfl rfl hl.1 rfl (lv_room (Nat.le_of_ble_eq_true rfl)) dX12_goesOn_174 ⟨Nat.le_of_ble_eq_true rfl, Nat.le_of_ble_eq_true rfl⟩) (fun S_5835 hw_5835 H locs hP hS => ?_)
                    obtain ⟨I_5835, m_5835, w_5835_0, w_5835_1, -⟩ := hw_5835
                    have M_5835 := dg_sm.tr M_5815 m_5835 (by decide) (by decide)
                    have hz_5836 : (35 : Int32).toInt = 35 := by decide +kernel
                    obtain ⟨y_5837, f_y_5837, w_5835_0⟩ := w_5835_0
                    have w_5835_0 : (y_5837).toInt = (y_5818).toInt + 1 := w_5835_0
                    have b_y_5837 : 0 ≤ (y_5837).toInt ∧ (y_5837).toInt ≤ 500 := dg_I.intb (lo := 0) (hi := 500) I_5835 sM_0 (by decide +kernel) f_y_5837
                    have w_5835_1 : HBM S_5815 S_5835 (35 : Int32) := w_5835_1
                    obtain ⟨x_5838, f_x_5838, b_x_5838⟩ := dg_I.int (i := 0) (k := 43) (lo := (-2147483648)) (hi := 2147483647) I_5815 sM_0 (by decide +kernel)
                    obtain ⟨x_5839, f_x_5839, b_x_5839⟩ := dg_I.int (i := 0) (k := 45) (lo := 0) (hi := 500) I_5815 sM_0 (by decide +kernel)
                    have P0_5835 : P0M S_5835 := P1M.bin w_5815_3 (((m_5815.1 0 42 _ sM_0 (by decide)).trans (m_2.1 0 42 _ sM_0 (by decide))).trans f_dp) f_x_5838 f_x_5839 w_5815_1 m_5835 w_5835_1 (by omega)
                    refine lv_aload_n hx hb dX12_goesOn_177 rfl (lv_at hl 3 rfl) ?_
                    refine dg_callv hS hA1 hA (va_runV (As := []) (rest := []) F (c_m_ahead l g D o S_5835 se (((m_5835.1 0 5 _ sM_0 (by decide)).trans ((m_5815.1 0 5 _ sM_0 (by decide)).trans (m_2.1 0 5 _ sM_0 (by decide)))).trans f_se) (by omega) sl (((m_5835.1 0 2 _ sM_0 (by decide)).trans ((m_5815.1 0 2 _ sM_0 (by decide)).trans (m_2.1 0 2 _ sM_0 (by decide)))).trans f_sl) (by omega) (by omega) I_5835 H.size) (cwV 0 hts (bw_V wB_1161 wB_1162 wB_1163 wB_881 wB_1160) rfl rfl rfl (by decide +kernel) ⟨Nat.le_of_ble_eq_true rfl, Nat.le_of_ble_eq_true rfl⟩) (dg_preV sM_0 rfl K ST hP hS hA1 hA) rfl rfl hl.1 rfl (lv_room (Nat.le_of_ble_eq_true rfl)) dX12_goesOn_178 ⟨Nat.le_of_ble_eq_true rfl, Nat.le_of_ble_eq_true rfl⟩) (fun S_5840 hw_5840 H locs hP hS => ?_)
                    obtain ⟨I_5840, m_5840, w_5840_0, -⟩ := hw_5840
                    have M_5840 := dg_sm.tr M_5835 m_5840 (by decide) (by decide)
                    obtain ⟨y_5841, y_5842, y_5843, f_y_5841, f_y_5842, f_y_5843, w_5840_0⟩ := w_5840_0
                    have w_5840_0 : (se).toInt ≤ (y_5842).toInt ∧ (y_5842).toInt ≤ (y_5843).toInt ∧ (y_5843).toInt ≤ (sl).toInt ∧ ((y_5841).toInt ≠ 0 → (y_5842).toInt + 1 ≤ (y_5843).toInt) := w_5840_0
                    have b_y_5841 : 0 ≤ (y_5841).toInt ∧ (y_5841).toInt ≤ 3 := dg_I.intb (lo := 0) (hi := 3) I_5840 sM_0 (by decide +kernel) f_y_5841
                    have b_y_5842 : 0 ≤ (y_5842).toInt ∧ (y_5842).toInt ≤ 1600 := dg_I.intb (lo := 0) (hi := 1600) I_5840 sM_0 (by decide +kernel) f_y_5842
                    have b_y_5843 : 0 ≤ (y_5843).toInt ∧ (y_5843).toInt ≤ 1600 := dg_I.intb (lo := 0) (hi := 1600) I_5840 sM_0 (by decide +kernel) f_y_5843
                    refine lv_aload_n hx hb dX12_goesOn_181 rfl (lv_at hl 3 rfl) ?_
                    refine lv_iconst (v := 0) hx hb dX12_goesOn_182 (by decide +kernel) ?_
                    have hz_5844 : (0 : Int32).toInt = 0 := by decide +kernel
                    refine dg_put (ci := 12) (v := .int 0) (ty := tyX12 46) (C := RX12) (T := TX12) (N := 77) hx hb hts (fun w h => bw_mem (wU_X12 w h)) tyX12 tyX12_ok nmX12 hown K hP hS hA1 sM_0 rfl 46 (by decide) (hts _ (bw_mem wB_1237)) (fun _ h9 => h9) rfl (by decide +kernel) (by decide +kernel) (by decide +kernel) dX12_goesOn_183 (fun S_5845 e_5845 H locs hP hS => ?_)
                    have I_5845 := dg_I.uFi (lo := 0) (hi := 1) I_5840 e_5845 sM_0 (by decide +kernel) (show 0 ≤ ((0 : Int32)).toInt ∧ ((0 : Int32)).toInt ≤ 1 from (by decide +kernel))
                    have M_5845 := dg_sm.uF M_5840 e_5845 sM_0 (by decide)
                    refine lv_iconst (v := 1) hx hb dX12_goesOn_186 (by decide +kernel) ?_
                    have hz_5846 : (1 : Int32).toInt = 1 := by decide +kernel
                    have hz_5847 : (1 : Int32).toInt = 1 := by decide +kernel
                    obtain ⟨x_5848, f_x_5848, b_x_5848⟩ := dg_I.int (i := 0) (k := 45) (lo := 0) (hi := 500) I_5845 sM_0 (by decide +kernel)
                    have hz_5849 : (0 : Int32).toInt = 0 := by decide +kernel
                    have hz_5850 : (1 : Int32).toInt = 1 := by decide +kernel
                    have hz_5851 : (0 : Int32).toInt = 0 := by decide +kernel
                    refine W.widen (k := 0) (n := 0) (Nat.le_of_ble_eq_true rfl) (Nat.le_of_ble_eq_true rfl) ?_
                    exact dg_iret hx hb hr hlocks (by decide +kernel) hP hS ⟨I_5845, M_5845, (by decide +kernel), ⟨y_5841, y_5842, y_5843, y_3, y_5817, dp, x_5848, 0, ((dg_uF_ne e_5845 (fun z => absurd z.2 (by decide))).trans f_y_5841), ((dg_uF_ne e_5845 (fun z => absurd z.2 (by decide))).trans f_y_5842), ((dg_uF_ne e_5845 (fun z => absurd z.2 (by decide))).trans f_y_5843), (((dg_uF_ne e_5845 (fun z => absurd z.2 (by decide))).trans ((m_5840.1 0 8 _ sM_0 (by decide)).trans ((m_5835.1 0 8 _ sM_0 (by decide)).trans (m_5815.1 0 8 _ sM_0 (by decide))))).trans f_y_3), (((dg_uF_ne e_5845 (fun z => absurd z.2 (by decide))).trans ((m_5840.1 0 34 _ sM_0 (by decide)).trans (m_5835.1 0 34 _ sM_0 (by decide)))).trans f_y_5817), (((dg_uF_ne e_5845 (fun z => absurd z.2 (by decide))).trans ((m_5840.1 0 42 _ sM_0 (by decide)).trans ((m_5835.1 0 42 _ sM_0 (by decide)).trans ((m_5815.1 0 42 _ sM_0 (by decide)).trans (m_2.1 0 42 _ sM_0 (by decide)))))).trans f_dp), f_x_5848, (dg_uF_at e_5845), (by omega)⟩, (fun k9 hk9 hk0 => POM.mk0 (P0M.keep (P0M.keep P0_5835 m_5840 (by decide) (by decide) (by decide) (by decide) (by decide) (by decide) (by decide) (by decide) (by decide) (by decide) (by decide) (by decide) (by decide) (by decide) (by decide)) (dg_sm.uF (WF := [(0, 46)]) (WA := []) dg_sm.rf e_5845 sM_0 (by decide)) (by decide) (by decide) (by decide) (by decide) (by decide) (by decide) (by decide) (by decide) (by decide) (by decide) (by decide) (by decide) (by decide) (by decide) (by decide)) (dg_uF_at e_5845) (by omega)), (ZWM.keep (ZWM.keep (ZWM.keep w_5815_2 m_5835 (by decide) (by decide) (by decide) (by decide)) m_5840 (by decide) (by decide) (by decide) (by decide)) (dg_sm.uF (WF := [(0, 46)]) (WA := []) dg_sm.rf e_5845 sM_0 (by decide)) (by decide) (by decide) (by decide) (by decide)), trivial⟩ dX12_goesOn_187
                  · have jc_5834 := dk_neqc (k := 0) (by decide +kernel) c_5834
                    have w_5832_1_r := w_5832_1.mp (by omega)
                    clear w_5832_1
                    refine lv_bipush (v := 34) hx hb dX12_goesOn_167 (by decide +kernel) ?_
                    refine lv_goto (tgt := 174) hx hb dX12_goesOn_169 (by decide) ?_
                    refine dg_callv hS hA1 hA (va_runV (As := [.int 34]) (rest := []) F (c_m_holdsBack l g D o S_5815 34 y_5818 f_y_5818 (by omega) I_5815 H.size) (cwV 1 hts (bw_V wB_1224 wB_1225 wB_1226 wB_881 wB_1223) rfl rfl rfl (by decide +kernel) ⟨Nat.le_of_ble_eq_true rfl, Nat.le_of_ble_eq_true rfl⟩) (dg_preV sM_0 rfl K ST hP hS hA1 hA) rfl rfl hl.1 rfl (lv_room (Nat.le_of_ble_eq_true rfl)) dX12_goesOn_174 ⟨Nat.le_of_ble_eq_true rfl, Nat.le_of_ble_eq_true rfl⟩) (fun S_5852 hw_5852 H locs hP hS => ?_)
                    obtain ⟨I_5852, m_5852, w_5852_0, w_5852_1, -⟩ := hw_5852
                    have M_5852 := dg_sm.tr M_5815 m_5852 (by decide) (by decide)
                    have hz_5853 : (34 : Int32).toInt = 34 := by decide +kernel
                    obtain ⟨y_5854, f_y_5854, w_5852_0⟩ := w_5852_0
                    have w_5852_0 : (y_5854).toInt = (y_5818).toInt + 1 := w_5852_0
                    have b_y_5854 : 0 ≤ (y_5854).toInt ∧ (y_5854).toInt ≤ 500 := dg_I.intb (lo := 0) (hi := 500) I_5852 sM_0 (by decide +kernel) f_y_5854
                    have w_5852_1 : HBM S_5815 S_5852 (34 : Int32) := w_5852_1
                    obtain ⟨x_5855, f_x_5855, b_x_5855⟩ := dg_I.int (i := 0) (k := 43) (lo := (-2147483648)) (hi := 2147483647) I_5815 sM_0 (by decide +kernel)
                    obtain ⟨x_5856, f_x_5856, b_x_5856⟩ := dg_I.int (i := 0) (k := 45) (lo := 0) (hi := 500) I_5815 sM_0 (by decide +kernel)
                    have P0_5852 : P0M S_5852 := P1M.bin w_5815_3 (((m_5815.1 0 42 _ sM_0 (by decide)).trans (m_2.1 0 42 _ sM_0 (by decide))).trans f_dp) f_x_5855 f_x_5856 w_5815_1 m_5852 w_5852_1 (by omega)
                    refine lv_aload_n hx hb dX12_goesOn_177 rfl (lv_at hl 3 rfl) ?_
                    refine dg_callv hS hA1 hA (va_runV (As := []) (rest := []) F (c_m_ahead l g D o S_5852 se (((m_5852.1 0 5 _ sM_0 (by decide)).trans ((m_5815.1 0 5 _ sM_0 (by decide)).trans (m_2.1 0 5 _ sM_0 (by decide)))).trans f_se) (by omega) sl (((m_5852.1 0 2 _ sM_0 (by decide)).trans ((m_5815.1 0 2 _ sM_0 (by decide)).trans (m_2.1 0 2 _ sM_0 (by decide)))).trans f_sl) (by omega) (by omega) I_5852 H.size) (cwV 0 hts (bw_V wB_1161 wB_1162 wB_1163 wB_881 wB_1160) rfl rfl rfl (by decide +kernel) ⟨Nat.le_of_ble_eq_true rfl, Nat.le_of_ble_eq_true rfl⟩) (dg_preV sM_0 rfl K ST hP hS hA1 hA) rfl rfl hl.1 rfl (lv_room (Nat.le_of_ble_eq_true rfl)) dX12_goesOn_178 ⟨Nat.le_of_ble_eq_true rfl, Nat.le_of_ble_eq_true rfl⟩) (fun S_5857 hw_5857 H locs hP hS => ?_)
                    obtain ⟨I_5857, m_5857, w_5857_0, -⟩ := hw_5857
                    have M_5857 := dg_sm.tr M_5852 m_5857 (by decide) (by decide)
                    obtain ⟨y_5858, y_5859, y_5860, f_y_5858, f_y_5859, f_y_5860, w_5857_0⟩ := w_5857_0
                    have w_5857_0 : (se).toInt ≤ (y_5859).toInt ∧ (y_5859).toInt ≤ (y_5860).toInt ∧ (y_5860).toInt ≤ (sl).toInt ∧ ((y_5858).toInt ≠ 0 → (y_5859).toInt + 1 ≤ (y_5860).toInt) := w_5857_0
                    have b_y_5858 : 0 ≤ (y_5858).toInt ∧ (y_5858).toInt ≤ 3 := dg_I.intb (lo := 0) (hi := 3) I_5857 sM_0 (by decide +kernel) f_y_5858
                    have b_y_5859 : 0 ≤ (y_5859).toInt ∧ (y_5859).toInt ≤ 1600 := dg_I.intb (lo := 0) (hi := 1600) I_5857 sM_0 (by decide +kernel) f_y_5859
                    have b_y_5860 : 0 ≤ (y_5860).toInt ∧ (y_5860).toInt ≤ 1600 := dg_I.intb (lo := 0) (hi := 1600) I_5857 sM_0 (by decide +kernel) f_y_5860
                    refine lv_aload_n hx hb dX12_goesOn_181 rfl (lv_at hl 3 rfl) ?_
                    refine lv_iconst (v := 0) hx hb dX12_goesOn_182 (by decide +kernel) ?_
                    have hz_5861 : (0 : Int32).toInt = 0 := by decide +kernel
                    refine dg_put (ci := 12) (v := .int 0) (ty := tyX12 46) (C := RX12) (T := TX12) (N := 77) hx hb hts (fun w h => bw_mem (wU_X12 w h)) tyX12 tyX12_ok nmX12 hown K hP hS hA1 sM_0 rfl 46 (by decide) (hts _ (bw_mem wB_1237)) (fun _ h9 => h9) rfl (by decide +kernel) (by decide +kernel) (by decide +kernel) dX12_goesOn_183 (fun S_5862 e_5862 H locs hP hS => ?_)
                    have I_5862 := dg_I.uFi (lo := 0) (hi := 1) I_5857 e_5862 sM_0 (by decide +kernel) (show 0 ≤ ((0 : Int32)).toInt ∧ ((0 : Int32)).toInt ≤ 1 from (by decide +kernel))
                    have M_5862 := dg_sm.uF M_5857 e_5862 sM_0 (by decide)
                    refine lv_iconst (v := 1) hx hb dX12_goesOn_186 (by decide +kernel) ?_
                    have hz_5863 : (1 : Int32).toInt = 1 := by decide +kernel
                    have hz_5864 : (1 : Int32).toInt = 1 := by decide +kernel
                    obtain ⟨x_5865, f_x_5865, b_x_5865⟩ := dg_I.int (i := 0) (k := 45) (lo := 0) (hi := 500) I_5862 sM_0 (by decide +kernel)
                    have hz_5866 : (0 : Int32).toInt = 0 := by decide +kernel
                    have hz_5867 : (1 : Int32).toInt = 1 := by decide +kernel
                    have hz_5868 : (0 : Int32).toInt = 0 := by decide +kernel
                    refine W.widen (k := 0) (n := 0) (Nat.le_of_ble_eq_true rfl) (Nat.le_of_ble_eq_true rfl) ?_
                    exact dg_iret hx hb hr hlocks (by decide +kernel) hP hS ⟨I_5862, M_5862, (by decide +kernel), ⟨y_5858, y_5859, y_5860, y_3, y_5817, dp, x_5865, 0, ((dg_uF_ne e_5862 (fun z => absurd z.2 (by decide))).trans f_y_5858), ((dg_uF_ne e_5862 (fun z => absurd z.2 (by decide))).trans f_y_5859), ((dg_uF_ne e_5862 (fun z => absurd z.2 (by decide))).trans f_y_5860), (((dg_uF_ne e_5862 (fun z => absurd z.2 (by decide))).trans ((m_5857.1 0 8 _ sM_0 (by decide)).trans ((m_5852.1 0 8 _ sM_0 (by decide)).trans (m_5815.1 0 8 _ sM_0 (by decide))))).trans f_y_3), (((dg_uF_ne e_5862 (fun z => absurd z.2 (by decide))).trans ((m_5857.1 0 34 _ sM_0 (by decide)).trans (m_5852.1 0 34 _ sM_0 (by decide)))).trans f_y_5817), (((dg_uF_ne e_5862 (fun z => absurd z.2 (by decide))).trans ((m_5857.1 0 42 _ sM_0 (by decide)).trans ((m_5852.1 0 42 _ sM_0 (by decide)).trans ((m_5815.1 0 42 _ sM_0 (by decide)).trans (m_2.1 0 42 _ sM_0 (by decide)))))).trans f_dp), f_x_5865, (dg_uF_at e_5862), (by omega)⟩, (fun k9 hk9 hk0 => POM.mk0 (P0M.keep (P0M.keep P0_5852 m_5857 (by decide) (by decide) (by decide) (by decide) (by decide) (by decide) (by decide) (by decide) (by decide) (by decide) (by decide) (by decide) (by decide) (by decide) (by decide)) (dg_sm.uF (WF := [(0, 46)]) (WA := []) dg_sm.rf e_5862 sM_0 (by decide)) (by decide) (by decide) (by decide) (by decide) (by decide) (by decide) (by decide) (by decide) (by decide) (by decide) (by decide) (by decide) (by decide) (by decide) (by decide)) (dg_uF_at e_5862) (by omega)), (ZWM.keep (ZWM.keep (ZWM.keep w_5815_2 m_5852 (by decide) (by decide) (by decide) (by decide)) m_5857 (by decide) (by decide) (by decide) (by decide)) (dg_sm.uF (WF := [(0, 46)]) (WA := []) dg_sm.rf e_5862 sM_0 (by decide)) (by decide) (by decide) (by decide) (by decide)), trivial⟩ dX12_goesOn_187
                · have jc_5830 := dk_neqc (k := 0) (by decide +kernel) c_5830
                  have w_5828_1_r := w_5828_1.mp (by omega)
                  clear w_5828_1
                  refine lv_bipush (v := 33) hx hb dX12_goesOn_153 (by decide +kernel) ?_
                  refine lv_goto (tgt := 174) hx hb dX12_goesOn_155 (by decide) ?_
                  refine dg_callv hS hA1 hA (va_runV (As := [.int 33]) (rest := []) F (c_m_holdsBack l g D o S_5815 33 y_5818 f_y_5818 (by omega) I_5815 H.size) (cwV 1 hts (bw_V wB_1224 wB_1225 wB_1226 wB_881 wB_1223) rfl rfl rfl (by decide +kernel) ⟨Nat.le_of_ble_eq_true rfl, Nat.le_of_ble_eq_true rfl⟩) (dg_preV sM_0 rfl K ST hP hS hA1 hA) rfl rfl hl.1 rfl (lv_room (Nat.le_of_ble_eq_true rfl)) dX12_goesOn_174 ⟨Nat.le_of_ble_eq_true rfl, Nat.le_of_ble_eq_true rfl⟩) (fun S_5869 hw_5869 H locs hP hS => ?_)
                  obtain ⟨I_5869, m_5869, w_5869_0, w_5869_1, -⟩ := hw_5869
                  have M_5869 := dg_sm.tr M_5815 m_5869 (by decide) (by decide)
                  have hz_5870 : (33 : Int32).toInt = 33 := by decide +kernel
                  obtain ⟨y_5871, f_y_5871, w_5869_0⟩ := w_5869_0
                  have w_5869_0 : (y_5871).toInt = (y_5818).toInt + 1 := w_5869_0
                  have b_y_5871 : 0 ≤ (y_5871).toInt ∧ (y_5871).toInt ≤ 500 := dg_I.intb (lo := 0) (hi := 500) I_5869 sM_0 (by decide +kernel) f_y_5871
                  have w_5869_1 : HBM S_5815 S_5869 (33 : Int32) := w_5869_1
                  obtain ⟨x_5872, f_x_5872, b_x_5872⟩ := dg_I.int (i := 0) (k := 43) (lo := (-2147483648)) (hi := 2147483647) I_5815 sM_0 (by decide +kernel)
                  obtain ⟨x_5873, f_x_5873, b_x_5873⟩ := dg_I.int (i := 0) (k := 45) (lo := 0) (hi := 500) I_5815 sM_0 (by decide +kernel)
                  have P0_5869 : P0M S_5869 := P1M.bin w_5815_3 (((m_5815.1 0 42 _ sM_0 (by decide)).trans (m_2.1 0 42 _ sM_0 (by decide))).trans f_dp) f_x_5872 f_x_5873 w_5815_1 m_5869 w_5869_1 (by omega)
                  refine lv_aload_n hx hb dX12_goesOn_177 rfl (lv_at hl 3 rfl) ?_
                  refine dg_callv hS hA1 hA (va_runV (As := []) (rest := []) F (c_m_ahead l g D o S_5869 se (((m_5869.1 0 5 _ sM_0 (by decide)).trans ((m_5815.1 0 5 _ sM_0 (by decide)).trans (m_2.1 0 5 _ sM_0 (by decide)))).trans f_se) (by omega) sl (((m_5869.1 0 2 _ sM_0 (by decide)).trans ((m_5815.1 0 2 _ sM_0 (by decide)).trans (m_2.1 0 2 _ sM_0 (by decide)))).trans f_sl) (by omega) (by omega) I_5869 H.size) (cwV 0 hts (bw_V wB_1161 wB_1162 wB_1163 wB_881 wB_1160) rfl rfl rfl (by decide +kernel) ⟨Nat.le_of_ble_eq_true rfl, Nat.le_of_ble_eq_true rfl⟩) (dg_preV sM_0 rfl K ST hP hS hA1 hA) rfl rfl hl.1 rfl (lv_room (Nat.le_of_ble_eq_true rfl)) dX12_goesOn_178 ⟨Nat.le_of_ble_eq_true rfl, Nat.le_of_ble_eq_true rfl⟩) (fun S_5874 hw_5874 H locs hP hS => ?_)
                  obtain ⟨I_5874, m_5874, w_5874_0, -⟩ := hw_5874
                  have M_5874 := dg_sm.tr M_5869 m_5874 (by decide) (by decide)
                  obtain ⟨y_5875, y_5876, y_5877, f_y_5875, f_y_5876, f_y_5877, w_5874_0⟩ := w_5874_0
                  have w_5874_0 : (se).toInt ≤ (y_5876).toInt ∧ (y_5876).toInt ≤ (y_5877).toInt ∧ (y_5877).toInt ≤ (sl).toInt ∧ ((y_5875).toInt ≠ 0 → (y_5876).toInt + 1 ≤ (y_5877).toInt) := w_5874_0
                  have b_y_5875 : 0 ≤ (y_5875).toInt ∧ (y_5875).toInt ≤ 3 := dg_I.intb (lo := 0) (hi := 3) I_5874 sM_0 (by decide +kernel) f_y_5875
                  have b_y_5876 : 0 ≤ (y_5876).toInt ∧ (y_5876).toInt ≤ 1600 := dg_I.intb (lo := 0) (hi := 1600) I_5874 sM_0 (by decide +kernel) f_y_5876
                  have b_y_5877 : 0 ≤ (y_5877).toInt ∧ (y_5877).toInt ≤ 1600 := dg_I.intb (lo := 0) (hi := 1600) I_5874 sM_0 (by decide +kernel) f_y_5877
                  refine lv_aload_n hx hb dX12_goesOn_181 rfl (lv_at hl 3 rfl) ?_
                  refine lv_iconst (v := 0) hx hb dX12_goesOn_182 (by decide +kernel) ?_
                  have hz_5878 : (0 : Int32).toInt = 0 := by decide +kernel
                  refine dg_put (ci := 12) (v := .int 0) (ty := tyX12 46) (C := RX12) (T := TX12) (N := 77) hx hb hts (fun w h => bw_mem (wU_X12 w h)) tyX12 tyX12_ok nmX12 hown K hP hS hA1 sM_0 rfl 46 (by decide) (hts _ (bw_mem wB_1237)) (fun _ h9 => h9) rfl (by decide +kernel) (by decide +kernel) (by decide +kernel) dX12_goesOn_183 (fun S_5879 e_5879 H locs hP hS => ?_)
                  have I_5879 := dg_I.uFi (lo := 0) (hi := 1) I_5874 e_5879 sM_0 (by decide +kernel) (show 0 ≤ ((0 : Int32)).toInt ∧ ((0 : Int32)).toInt ≤ 1 from (by decide +kernel))
                  have M_5879 := dg_sm.uF M_5874 e_5879 sM_0 (by decide)
                  refine lv_iconst (v := 1) hx hb dX12_goesOn_186 (by decide +kernel) ?_
                  have hz_5880 : (1 : Int32).toInt = 1 := by decide +kernel
                  have hz_5881 : (1 : Int32).toInt = 1 := by decide +kernel
                  obtain ⟨x_5882, f_x_5882, b_x_5882⟩ := dg_I.int (i := 0) (k := 45) (lo := 0) (hi := 500) I_5879 sM_0 (by decide +kernel)
                  have hz_5883 : (0 : Int32).toInt = 0 := by decide +kernel
                  have hz_5884 : (1 : Int32).toInt = 1 := by decide +kernel
                  have hz_5885 : (0 : Int32).toInt = 0 := by decide +kernel
                  refine W.widen (k := 0) (n := 0) (Nat.le_of_ble_eq_true rfl) (Nat.le_of_ble_eq_true rfl) ?_
                  exact dg_iret hx hb hr hlocks (by decide +kernel) hP hS ⟨I_5879, M_5879, (by decide +kernel), ⟨y_5875, y_5876, y_5877, y_3, y_5817, dp, x_5882, 0, ((dg_uF_ne e_5879 (fun z => absurd z.2 (by decide))).trans f_y_5875), ((dg_uF_ne e_5879 (fun z => absurd z.2 (by decide))).trans f_y_5876), ((dg_uF_ne e_5879 (fun z => absurd z.2 (by decide))).trans f_y_5877), (((dg_uF_ne e_5879 (fun z => absurd z.2 (by decide))).trans ((m_5874.1 0 8 _ sM_0 (by decide)).trans ((m_5869.1 0 8 _ sM_0 (by decide)).trans (m_5815.1 0 8 _ sM_0 (by decide))))).trans f_y_3), (((dg_uF_ne e_5879 (fun z => absurd z.2 (by decide))).trans ((m_5874.1 0 34 _ sM_0 (by decide)).trans (m_5869.1 0 34 _ sM_0 (by decide)))).trans f_y_5817), (((dg_uF_ne e_5879 (fun z => absurd z.2 (by decide))).trans ((m_5874.1 0 42 _ sM_0 (by decide)).trans ((m_5869.1 0 42 _ sM_0 (by decide)).trans ((m_5815.1 0 42 _ sM_0 (by decide)).trans (m_2.1 0 42 _ sM_0 (by decide)))))).trans f_dp), f_x_5882, (dg_uF_at e_5879), (by omega)⟩, (fun k9 hk9 hk0 => POM.mk0 (P0M.keep (P0M.keep P0_5869 m_5874 (by decide) (by decide) (by decide) (by decide) (by decide) (by decide) (by decide) (by decide) (by decide) (by decide) (by decide) (by decide) (by decide) (by decide) (by decide)) (dg_sm.uF (WF := [(0, 46)]) (WA := []) dg_sm.rf e_5879 sM_0 (by decide)) (by decide) (by decide) (by decide) (by decide) (by decide) (by decide) (by decide) (by decide) (by decide) (by decide) (by decide) (by decide) (by decide) (by decide) (by decide)) (dg_uF_at e_5879) (by omega)), (ZWM.keep (ZWM.keep (ZWM.keep w_5815_2 m_5869 (by decide) (by decide) (by decide) (by decide)) m_5874 (by decide) (by decide) (by decide) (by decide)) (dg_sm.uF (WF := [(0, 46)]) (WA := []) dg_sm.rf e_5879 sM_0 (by decide)) (by decide) (by decide) (by decide) (by decide)), trivial⟩ dX12_goesOn_187
              · have jc_5826 := dk_neqc (k := 0) (by decide +kernel) c_5826
                have w_5824_1_r := w_5824_1.mp (by omega)
                clear w_5824_1
                refine lv_bipush (v := 32) hx hb dX12_goesOn_139 (by decide +kernel) ?_
                refine lv_goto (tgt := 174) hx hb dX12_goesOn_141 (by decide) ?_
                refine dg_callv hS hA1 hA (va_runV (As := [.int 32]) (rest := []) F (c_m_holdsBack l g D o S_5815 32 y_5818 f_y_5818 (by omega) I_5815 H.size) (cwV 1 hts (bw_V wB_1224 wB_1225 wB_1226 wB_881 wB_1223) rfl rfl rfl (by decide +kernel) ⟨Nat.le_of_ble_eq_true rfl, Nat.le_of_ble_eq_true rfl⟩) (dg_preV sM_0 rfl K ST hP hS hA1 hA) rfl rfl hl.1 rfl (lv_room (Nat.le_of_ble_eq_true rfl)) dX12_goesOn_174 ⟨Nat.le_of_ble_eq_true rfl, Nat.le_of_ble_eq_true rfl⟩) (fun S_5886 hw_5886 H locs hP hS => ?_)
                obtain ⟨I_5886, m_5886, w_5886_0, w_5886_1, -⟩ := hw_5886
                have M_5886 := dg_sm.tr M_5815 m_5886 (by decide) (by decide)
                have hz_5887 : (32 : Int32).toInt = 32 := by decide +kernel
                obtain ⟨y_5888, f_y_5888, w_5886_0⟩ := w_5886_0
                have w_5886_0 : (y_5888).toInt = (y_5818).toInt + 1 := w_5886_0
                have b_y_5888 : 0 ≤ (y_5888).toInt ∧ (y_5888).toInt ≤ 500 := dg_I.intb (lo := 0) (hi := 500) I_5886 sM_0 (by decide +kernel) f_y_5888
                have w_5886_1 : HBM S_5815 S_5886 (32 : Int32) := w_5886_1
                obtain ⟨x_5889, f_x_5889, b_x_5889⟩ := dg_I.int (i := 0) (k := 43) (lo := (-2147483648)) (hi := 2147483647) I_5815 sM_0 (by decide +kernel)
                obtain ⟨x_5890, f_x_5890, b_x_5890⟩ := dg_I.int (i := 0) (k := 45) (lo := 0) (hi := 500) I_5815 sM_0 (by decide +kernel)
                have P0_5886 : P0M S_5886 := P1M.bin w_5815_3 (((m_5815.1 0 42 _ sM_0 (by decide)).trans (m_2.1 0 42 _ sM_0 (by decide))).trans f_dp) f_x_5889 f_x_5890 w_5815_1 m_5886 w_5886_1 (by omega)
                refine lv_aload_n hx hb dX12_goesOn_177 rfl (lv_at hl 3 rfl) ?_
                refine dg_callv hS hA1 hA (va_runV (As := []) (rest := []) F (c_m_ahead l g D o S_5886 se (((m_5886.1 0 5 _ sM_0 (by decide)).trans ((m_5815.1 0 5 _ sM_0 (by decide)).trans (m_2.1 0 5 _ sM_0 (by decide)))).trans f_se) (by omega) sl (((m_5886.1 0 2 _ sM_0 (by decide)).trans ((m_5815.1 0 2 _ sM_0 (by decide)).trans (m_2.1 0 2 _ sM_0 (by decide)))).trans f_sl) (by omega) (by omega) I_5886 H.size) (cwV 0 hts (bw_V wB_1161 wB_1162 wB_1163 wB_881 wB_1160) rfl rfl rfl (by decide +kernel) ⟨Nat.le_of_ble_eq_true rfl, Nat.le_of_ble_eq_true rfl⟩) (dg_preV sM_0 rfl K ST hP hS hA1 hA) rfl rfl hl.1 rfl (lv_room (Nat.le_of_ble_eq_true rfl)) dX12_goesOn_178 ⟨Nat.le_of_ble_eq_true rfl, Nat.le_of_ble_eq_true rfl⟩) (fun S_5891 hw_5891 H locs hP hS => ?_)
                obtain ⟨I_5891, m_5891, w_5891_0, -⟩ := hw_5891
                have M_5891 := dg_sm.tr M_5886 m_5891 (by decide) (by decide)
                obtain ⟨y_5892, y_5893, y_5894, f_y_5892, f_y_5893, f_y_5894, w_5891_0⟩ := w_5891_0
                have w_5891_0 : (se).toInt ≤ (y_5893).toInt ∧ (y_5893).toInt ≤ (y_5894).toInt ∧ (y_5894).toInt ≤ (sl).toInt ∧ ((y_5892).toInt ≠ 0 → (y_5893).toInt + 1 ≤ (y_5894).toInt) := w_5891_0
                have b_y_5892 : 0 ≤ (y_5892).toInt ∧ (y_5892).toInt ≤ 3 := dg_I.intb (lo := 0) (hi := 3) I_5891 sM_0 (by decide +kernel) f_y_5892
                have b_y_5893 : 0 ≤ (y_5893).toInt ∧ (y_5893).toInt ≤ 1600 := dg_I.intb (lo := 0) (hi := 1600) I_5891 sM_0 (by decide +kernel) f_y_5893
                have b_y_5894 : 0 ≤ (y_5894).toInt ∧ (y_5894).toInt ≤ 1600 := dg_I.intb (lo := 0) (hi := 1600) I_5891 sM_0 (by decide +kernel) f_y_5894
                refine lv_aload_n hx hb dX12_goesOn_181 rfl (lv_at hl 3 rfl) ?_
                refine lv_iconst (v := 0) hx hb dX12_goesOn_182 (by decide +kernel) ?_
                have hz_5895 : (0 : Int32).toInt = 0 := by decide +kernel
                refine dg_put (ci := 12) (v := .int 0) (ty := tyX12 46) (C := RX12) (T := TX12) (N := 77) hx hb hts (fun w h => bw_mem (wU_X12 w h)) tyX12 tyX12_ok nmX12 hown K hP hS hA1 sM_0 rfl 46 (by decide) (hts _ (bw_mem wB_1237)) (fun _ h9 => h9) rfl (by decide +kernel) (by decide +kernel) (by decide +kernel) dX12_goesOn_183 (fun S_5896 e_5896 H locs hP hS => ?_)
                have I_5896 := dg_I.uFi (lo := 0) (hi := 1) I_5891 e_5896 sM_0 (by decide +kernel) (show 0 ≤ ((0 : Int32)).toInt ∧ ((0 : Int32)).toInt ≤ 1 from (by decide +kernel))
                have M_5896 := dg_sm.uF M_5891 e_5896 sM_0 (by decide)
                refine lv_iconst (v := 1) hx hb dX12_goesOn_186 (by decide +kernel) ?_
                have hz_5897 : (1 : Int32).toInt = 1 := by decide +kernel
                have hz_5898 : (1 : Int32).toInt = 1 := by decide +kernel
                obtain ⟨x_5899, f_x_5899, b_x_5899⟩ := dg_I.int (i := 0) (k := 45) (lo := 0) (hi := 500) I_5896 sM_0 (by decide +kernel)
                have hz_5900 : (0 : Int32).toInt = 0 := by decide +kernel
                have hz_5901 : (1 : Int32).toInt = 1 := by decide +kernel
                have hz_5902 : (0 : Int32).toInt = 0 := by decide +kernel
                refine W.widen (k := 0) (n := 0) (Nat.le_of_ble_eq_true rfl) (Nat.le_of_ble_eq_true rfl) ?_
                exact dg_iret hx hb hr hlocks (by decide +kernel) hP hS ⟨I_5896, M_5896, (by decide +kernel), ⟨y_5892, y_5893, y_5894, y_3, y_5817, dp, x_5899, 0, ((dg_uF_ne e_5896 (fun z => absurd z.2 (by decide))).trans f_y_5892), ((dg_uF_ne e_5896 (fun z => absurd z.2 (by decide))).trans f_y_5893), ((dg_uF_ne e_5896 (fun z => absurd z.2 (by decide))).trans f_y_5894), (((dg_uF_ne e_5896 (fun z => absurd z.2 (by decide))).trans ((m_5891.1 0 8 _ sM_0 (by decide)).trans ((m_5886.1 0 8 _ sM_0 (by decide)).trans (m_5815.1 0 8 _ sM_0 (by decide))))).trans f_y_3), (((dg_uF_ne e_5896 (fun z => absurd z.2 (by decide))).trans ((m_5891.1 0 34 _ sM_0 (by decide)).trans (m_5886.1 0 34 _ sM_0 (by decide)))).trans f_y_5817), (((dg_uF_ne e_5896 (fun z => absurd z.2 (by decide))).trans ((m_5891.1 0 42 _ sM_0 (by decide)).trans ((m_5886.1 0 42 _ sM_0 (by decide)).trans ((m_5815.1 0 42 _ sM_0 (by decide)).trans (m_2.1 0 42 _ sM_0 (by decide)))))).trans f_dp), f_x_5899, (dg_uF_at e_5896), (by omega)⟩, (fun k9 hk9 hk0 => POM.mk0 (P0M.keep (P0M.keep P0_5886 m_5891 (by decide) (by decide) (by decide) (by decide) (by decide) (by decide) (by decide) (by decide) (by decide) (by decide) (by decide) (by decide) (by decide) (by decide) (by decide)) (dg_sm.uF (WF := [(0, 46)]) (WA := []) dg_sm.rf e_5896 sM_0 (by decide)) (by decide) (by decide) (by decide) (by decide) (by decide) (by decide) (by decide) (by decide) (by decide) (by decide) (by decide) (by decide) (by decide) (by decide) (by decide)) (dg_uF_at e_5896) (by omega)), (ZWM.keep (ZWM.keep (ZWM.keep w_5815_2 m_5886 (by decide) (by decide) (by decide) (by decide)) m_5891 (by decide) (by decide) (by decide) (by decide)) (dg_sm.uF (WF := [(0, 46)]) (WA := []) dg_sm.rf e_5896 sM_0 (by decide)) (by decide) (by decide) (by decide) (by decide)), trivial⟩ dX12_goesOn_187
            · have jc_5822 := dk_neqc (k := 0) (by decide +kernel) c_5822
              have w_5820_1_r := w_5820_1.mp (by omega)
              clear w_5820_1
              refine lv_bipush (v := 31) hx hb dX12_goesOn_125 (by decide +kernel) ?_
              refine lv_goto (tgt := 174) hx hb dX12_goesOn_127 (by decide) ?_
              refine dg_callv hS hA1 hA (va_runV (As := [.int 31]) (rest := []) F (c_m_holdsBack l g D o S_5815 31 y_5818 f_y_5818 (by omega) I_5815 H.size) (cwV 1 hts (bw_V wB_1224 wB_1225 wB_1226 wB_881 wB_1223) rfl rfl rfl (by decide +kernel) ⟨Nat.le_of_ble_eq_true rfl, Nat.le_of_ble_eq_true rfl⟩) (dg_preV sM_0 rfl K ST hP hS hA1 hA) rfl rfl hl.1 rfl (lv_room (Nat.le_of_ble_eq_true rfl)) dX12_goesOn_174 ⟨Nat.le_of_ble_eq_true rfl, Nat.le_of_ble_eq_true rfl⟩) (fun S_5903 hw_5903 H locs hP hS => ?_)
              obtain ⟨I_5903, m_5903, w_5903_0, w_5903_1, -⟩ := hw_5903
              have M_5903 := dg_sm.tr M_5815 m_5903 (by decide) (by decide)
              have hz_5904 : (31 : Int32).toInt = 31 := by decide +kernel
              obtain ⟨y_5905, f_y_5905, w_5903_0⟩ := w_5903_0
              have w_5903_0 : (y_5905).toInt = (y_5818).toInt + 1 := w_5903_0
              have b_y_5905 : 0 ≤ (y_5905).toInt ∧ (y_5905).toInt ≤ 500 := dg_I.intb (lo := 0) (hi := 500) I_5903 sM_0 (by decide +kernel) f_y_5905
              have w_5903_1 : HBM S_5815 S_5903 (31 : Int32) := w_5903_1
              obtain ⟨x_5906, f_x_5906, b_x_5906⟩ := dg_I.int (i := 0) (k := 43) (lo := (-2147483648)) (hi := 2147483647) I_5815 sM_0 (by decide +kernel)
              obtain ⟨x_5907, f_x_5907, b_x_5907⟩ := dg_I.int (i := 0) (k := 45) (lo := 0) (hi := 500) I_5815 sM_0 (by decide +kernel)
              have P0_5903 : P0M S_5903 := P1M.bin w_5815_3 (((m_5815.1 0 42 _ sM_0 (by decide)).trans (m_2.1 0 42 _ sM_0 (by decide))).trans f_dp) f_x_5906 f_x_5907 w_5815_1 m_5903 w_5903_1 (by omega)
              refine lv_aload_n hx hb dX12_goesOn_177 rfl (lv_at hl 3 rfl) ?_
              refine dg_callv hS hA1 hA (va_runV (As := []) (rest := []) F (c_m_ahead l g D o S_5903 se (((m_5903.1 0 5 _ sM_0 (by decide)).trans ((m_5815.1 0 5 _ sM_0 (by decide)).trans (m_2.1 0 5 _ sM_0 (by decide)))).trans f_se) (by omega) sl (((m_5903.1 0 2 _ sM_0 (by decide)).trans ((m_5815.1 0 2 _ sM_0 (by decide)).trans (m_2.1 0 2 _ sM_0 (by decide)))).trans f_sl) (by omega) (by omega) I_5903 H.size) (cwV 0 hts (bw_V wB_1161 wB_1162 wB_1163 wB_881 wB_1160) rfl rfl rfl (by decide +kernel) ⟨Nat.le_of_ble_eq_true rfl, Nat.le_of_ble_eq_true rfl⟩) (dg_preV sM_0 rfl K ST hP hS hA1 hA) rfl rfl hl.1 rfl (lv_room (Nat.le_of_ble_eq_true rfl)) dX12_goesOn_178 ⟨Nat.le_of_ble_eq_true rfl, Nat.le_of_ble_eq_true rfl⟩) (fun S_5908 hw_5908 H locs hP hS => ?_)
              obtain ⟨I_5908, m_5908, w_5908_0, -⟩ := hw_5908
              have M_5908 := dg_sm.tr M_5903 m_5908 (by decide) (by decide)
              obtain ⟨y_5909, y_5910, y_5911, f_y_5909, f_y_5910, f_y_5911, w_5908_0⟩ := w_5908_0
              have w_5908_0 : (se).toInt ≤ (y_5910).toInt ∧ (y_5910).toInt ≤ (y_5911).toInt ∧ (y_5911).toInt ≤ (sl).toInt ∧ ((y_5909).toInt ≠ 0 → (y_5910).toInt + 1 ≤ (y_5911).toInt) := w_5908_0
              have b_y_5909 : 0 ≤ (y_5909).toInt ∧ (y_5909).toInt ≤ 3 := dg_I.intb (lo := 0) (hi := 3) I_5908 sM_0 (by decide +kernel) f_y_5909
              have b_y_5910 : 0 ≤ (y_5910).toInt ∧ (y_5910).toInt ≤ 1600 := dg_I.intb (lo := 0) (hi := 1600) I_5908 sM_0 (by decide +kernel) f_y_5910
              have b_y_5911 : 0 ≤ (y_5911).toInt ∧ (y_5911).toInt ≤ 1600 := dg_I.intb (lo := 0) (hi := 1600) I_5908 sM_0 (by decide +kernel) f_y_5911
              refine lv_aload_n hx hb dX12_goesOn_181 rfl (lv_at hl 3 rfl) ?_
              refine lv_iconst (v := 0) hx hb dX12_goesOn_182 (by decide +kernel) ?_
              have hz_5912 : (0 : Int32).toInt = 0 := by decide +kernel
              refine dg_put (ci := 12) (v := .int 0) (ty := tyX12 46) (C := RX12) (T := TX12) (N := 77) hx hb hts (fun w h => bw_mem (wU_X12 w h)) tyX12 tyX12_ok nmX12 hown K hP hS hA1 sM_0 rfl 46 (by decide) (hts _ (bw_mem wB_1237)) (fun _ h9 => h9) rfl (by decide +kernel) (by decide +kernel) (by decide +kernel) dX12_goesOn_183 (fun S_5913 e_5913 H locs hP hS => ?_)
              have I_5913 := dg_I.uFi (lo := 0) (hi := 1) I_5908 e_5913 sM_0 (by decide +kernel) (show 0 ≤ ((0 : Int32)).toInt ∧ ((0 : Int32)).toInt ≤ 1 from (by decide +kernel))
              have M_5913 := dg_sm.uF M_5908 e_5913 sM_0 (by decide)
              refine lv_iconst (v := 1) hx hb dX12_goesOn_186 (by decide +kernel) ?_
              have hz_5914 : (1 : Int32).toInt = 1 := by decide +kernel
              have hz_5915 : (1 : Int32).toInt = 1 := by decide +kernel
              obtain ⟨x_5916, f_x_5916, b_x_5916⟩ := dg_I.int (i := 0) (k := 45) (lo := 0) (hi := 500) I_5913 sM_0 (by decide +kernel)
              have hz_5917 : (0 : Int32).toInt = 0 := by decide +kernel
              have hz_5918 : (1 : Int32).toInt = 1 := by decide +kernel
              have hz_5919 : (0 : Int32).toInt = 0 := by decide +kernel
              refine W.widen (k := 0) (n := 0) (Nat.le_of_ble_eq_true rfl) (Nat.le_of_ble_eq_true rfl) ?_
              exact dg_iret hx hb hr hlocks (by decide +kernel) hP hS ⟨I_5913, M_5913, (by decide +kernel), ⟨y_5909, y_5910, y_5911, y_3, y_5817, dp, x_5916, 0, ((dg_uF_ne e_5913 (fun z => absurd z.2 (by decide))).trans f_y_5909), ((dg_uF_ne e_5913 (fun z => absurd z.2 (by decide))).trans f_y_5910), ((dg_uF_ne e_5913 (fun z => absurd z.2 (by decide))).trans f_y_5911), (((dg_uF_ne e_5913 (fun z => absurd z.2 (by decide))).trans ((m_5908.1 0 8 _ sM_0 (by decide)).trans ((m_5903.1 0 8 _ sM_0 (by decide)).trans (m_5815.1 0 8 _ sM_0 (by decide))))).trans f_y_3), (((dg_uF_ne e_5913 (fun z => absurd z.2 (by decide))).trans ((m_5908.1 0 34 _ sM_0 (by decide)).trans (m_5903.1 0 34 _ sM_0 (by decide)))).trans f_y_5817), (((dg_uF_ne e_5913 (fun z => absurd z.2 (by decide))).trans ((m_5908.1 0 42 _ sM_0 (by decide)).trans ((m_5903.1 0 42 _ sM_0 (by decide)).trans ((m_5815.1 0 42 _ sM_0 (by decide)).trans (m_2.1 0 42 _ sM_0 (by decide)))))).trans f_dp), f_x_5916, (dg_uF_at e_5913), (by omega)⟩, (fun k9 hk9 hk0 => POM.mk0 (P0M.keep (P0M.keep P0_5903 m_5908 (by decide) (by decide) (by decide) (by decide) (by decide) (by decide) (by decide) (by decide) (by decide) (by decide) (by decide) (by decide) (by decide) (by decide) (by decide)) (dg_sm.uF (WF := [(0, 46)]) (WA := []) dg_sm.rf e_5913 sM_0 (by decide)) (by decide) (by decide) (by decide) (by decide) (by decide) (by decide) (by decide) (by decide) (by decide) (by decide) (by decide) (by decide) (by decide) (by decide) (by decide)) (dg_uF_at e_5913) (by omega)), (ZWM.keep (ZWM.keep (ZWM.keep w_5815_2 m_5903 (by decide) (by decide) (by decide) (by decide)) m_5908 (by decide) (by decide) (by decide) (by decide)) (dg_sm.uF (WF := [(0, 46)]) (WA := []) dg_sm.rf e_5913 sM_0 (by decide)) (by decide) (by decide) (by decide) (by decide)), trivial⟩ dX12_goesOn_187
      refine lv_if_ne (tgt := 87) hx hb dX12_goesOn_48 (by decide) (fun c_5920 => ?_) (fun c_5920 => ?_)
      · have jc_5920 := dk_neqc (k := 0) (by decide +kernel) c_5920
        have w_5248_1_r := w_5248_1.mp (by omega)
        clear w_5248_1
        exact J_5593  (by omega) _ _ hP hS _ (lv_sub hl [0, 1, 2, 3] rfl)
      · have jc_5920 := dk_eqc (k := 0) (by decide +kernel) c_5920
        clear w_5248_1
        refine lv_aload_n hx hb dX12_goesOn_51 rfl (lv_at hl 3 rfl) ?_
        refine lv_bipush (v := 45) hx hb dX12_goesOn_52 (by decide +kernel) ?_
        refine dg_calli hS hA1 hA (va_runV (As := [.int 45]) (rest := []) F (c_m_isSign l g D o S_2 45 sg ((m_2.1 0 3 _ sM_0 (by decide)).trans f_sg) (by omega) va ((m_2.1 0 6 _ sM_0 (by decide)).trans f_va) (by omega) I_2 H.size) (cwV 1 hts (bw_V wB_1157 wB_1158 wB_1159 wB_881 wB_1156) rfl rfl rfl (by decide +kernel) ⟨Nat.le_of_ble_eq_true rfl, Nat.le_of_ble_eq_true rfl⟩) (dg_preV sM_0 rfl K ST hP hS hA1 hA) rfl rfl hl.1 rfl (lv_room (Nat.le_of_ble_eq_true rfl)) dX12_goesOn_54 ⟨Nat.le_of_ble_eq_true rfl, Nat.le_of_ble_eq_true rfl⟩) (fun x_5921 S_5922 hw_5922 H locs hP hS => ?_)
        rw [hw_5922.1] at hP
        obtain ⟨hq_5922, w_5922_0, w_5922_1, -⟩ := hw_5922
        have hz_5923 : (45 : Int32).toInt = 45 := by decide +kernel
        have w_5922_0 : 0 ≤ (x_5921).toInt ∧ (x_5921).toInt ≤ 1 := w_5922_0
        have w_5922_1 : (x_5921).toInt = 1 ↔ ((sg).toInt = 3 ∧ (va).toInt = ((45 : Int32)).toInt) := w_5922_1
        refine lv_if_ne (tgt := 87) hx hb dX12_goesOn_57 (by decide) (fun c_5924 => ?_) (fun c_5924 => ?_)
        · have jc_5924 := dk_neqc (k := 0) (by decide +kernel) c_5924
          have w_5922_1_r := w_5922_1.mp (by omega)
          clear w_5922_1
          exact J_5593  (by omega) _ _ hP hS _ (lv_sub hl [0, 1, 2, 3] rfl)
        · have jc_5924 := dk_eqc (k := 0) (by decide +kernel) c_5924
          clear w_5922_1
          refine lv_aload_n hx hb dX12_goesOn_60 rfl (lv_at hl 3 rfl) ?_
          refine lv_bipush (v := 42) hx hb dX12_goesOn_61 (by decide +kernel) ?_
          refine dg_calli hS hA1 hA (va_runV (As := [.int 42]) (rest := []) F (c_m_isSign l g D o S_2 42 sg ((m_2.1 0 3 _ sM_0 (by decide)).trans f_sg) (by omega) va ((m_2.1 0 6 _ sM_0 (by decide)).trans f_va) (by omega) I_2 H.size) (cwV 1 hts (bw_V wB_1157 wB_1158 wB_1159 wB_881 wB_1156) rfl rfl rfl (by decide +kernel) ⟨Nat.le_of_ble_eq_true rfl, Nat.le_of_ble_eq_true rfl⟩) (dg_preV sM_0 rfl K ST hP hS hA1 hA) rfl rfl hl.1 rfl (lv_room (Nat.le_of_ble_eq_true rfl)) dX12_goesOn_63 ⟨Nat.le_of_ble_eq_true rfl, Nat.le_of_ble_eq_true rfl⟩) (fun x_5925 S_5926 hw_5926 H locs hP hS => ?_)
          rw [hw_5926.1] at hP
          obtain ⟨hq_5926, w_5926_0, w_5926_1, -⟩ := hw_5926
          have hz_5927 : (42 : Int32).toInt = 42 := by decide +kernel
          have w_5926_0 : 0 ≤ (x_5925).toInt ∧ (x_5925).toInt ≤ 1 := w_5926_0
          have w_5926_1 : (x_5925).toInt = 1 ↔ ((sg).toInt = 3 ∧ (va).toInt = ((42 : Int32)).toInt) := w_5926_1
          refine lv_if_ne (tgt := 87) hx hb dX12_goesOn_66 (by decide) (fun c_5928 => ?_) (fun c_5928 => ?_)
          · have jc_5928 := dk_neqc (k := 0) (by decide +kernel) c_5928
            have w_5926_1_r := w_5926_1.mp (by omega)
            clear w_5926_1
            exact J_5593  (by omega) _ _ hP hS _ (lv_sub hl [0, 1, 2, 3] rfl)
          · have jc_5928 := dk_eqc (k := 0) (by decide +kernel) c_5928
            clear w_5926_1
            refine lv_aload_n hx hb dX12_goesOn_69 rfl (lv_at hl 3 rfl) ?_
            refine lv_bipush (v := 47) hx hb dX12_goesOn_70 (by decide +kernel) ?_
            refine dg_calli hS hA1 hA (va_runV (As := [.int 47]) (rest := []) F (c_m_isSign l g D o S_2 47 sg ((m_2.1 0 3 _ sM_0 (by decide)).trans f_sg) (by omega) va ((m_2.1 0 6 _ sM_0 (by decide)).trans f_va) (by omega) I_2 H.size) (cwV 1 hts (bw_V wB_1157 wB_1158 wB_1159 wB_881 wB_1156) rfl rfl rfl (by decide +kernel) ⟨Nat.le_of_ble_eq_true rfl, Nat.le_of_ble_eq_true rfl⟩) (dg_preV sM_0 rfl K ST hP hS hA1 hA) rfl rfl hl.1 rfl (lv_room (Nat.le_of_ble_eq_true rfl)) dX12_goesOn_72 ⟨Nat.le_of_ble_eq_true rfl, Nat.le_of_ble_eq_true rfl⟩) (fun x_5929 S_5930 hw_5930 H locs hP hS => ?_)
            rw [hw_5930.1] at hP
            obtain ⟨hq_5930, w_5930_0, w_5930_1, -⟩ := hw_5930
            have hz_5931 : (47 : Int32).toInt = 47 := by decide +kernel
            have w_5930_0 : 0 ≤ (x_5929).toInt ∧ (x_5929).toInt ≤ 1 := w_5930_0
            have w_5930_1 : (x_5929).toInt = 1 ↔ ((sg).toInt = 3 ∧ (va).toInt = ((47 : Int32)).toInt) := w_5930_1
            refine lv_if_ne (tgt := 87) hx hb dX12_goesOn_75 (by decide) (fun c_5932 => ?_) (fun c_5932 => ?_)
            · have jc_5932 := dk_neqc (k := 0) (by decide +kernel) c_5932
              have w_5930_1_r := w_5930_1.mp (by omega)
              clear w_5930_1
              exact J_5593  (by omega) _ _ hP hS _ (lv_sub hl [0, 1, 2, 3] rfl)
            · have jc_5932 := dk_eqc (k := 0) (by decide +kernel) c_5932
              clear w_5930_1
              refine lv_aload_n hx hb dX12_goesOn_78 rfl (lv_at hl 3 rfl) ?_
              refine lv_bipush (v := 37) hx hb dX12_goesOn_79 (by decide +kernel) ?_
              refine dg_calli hS hA1 hA (va_runV (As := [.int 37]) (rest := []) F (c_m_isSign l g D o S_2 37 sg ((m_2.1 0 3 _ sM_0 (by decide)).trans f_sg) (by omega) va ((m_2.1 0 6 _ sM_0 (by decide)).trans f_va) (by omega) I_2 H.size) (cwV 1 hts (bw_V wB_1157 wB_1158 wB_1159 wB_881 wB_1156) rfl rfl rfl (by decide +kernel) ⟨Nat.le_of_ble_eq_true rfl, Nat.le_of_ble_eq_true rfl⟩) (dg_preV sM_0 rfl K ST hP hS hA1 hA) rfl rfl hl.1 rfl (lv_room (Nat.le_of_ble_eq_true rfl)) dX12_goesOn_81 ⟨Nat.le_of_ble_eq_true rfl, Nat.le_of_ble_eq_true rfl⟩) (fun x_5933 S_5934 hw_5934 H locs hP hS => ?_)
              rw [hw_5934.1] at hP
              obtain ⟨hq_5934, w_5934_0, w_5934_1, -⟩ := hw_5934
              have hz_5935 : (37 : Int32).toInt = 37 := by decide +kernel
              have w_5934_0 : 0 ≤ (x_5933).toInt ∧ (x_5933).toInt ≤ 1 := w_5934_0
              have w_5934_1 : (x_5933).toInt = 1 ↔ ((sg).toInt = 3 ∧ (va).toInt = ((37 : Int32)).toInt) := w_5934_1
              refine lv_if_eq (tgt := 188) hx hb dX12_goesOn_84 (by decide) (fun c_5936 => ?_) (fun c_5936 => ?_)
              · have jc_5936 := dk_eqc (k := 0) (by decide +kernel) c_5936
                clear w_5934_1
                exact J_1279   _ _ hP hS _ (lv_sub hl [0, 1, 2, 3] rfl)
              · have jc_5936 := dk_neqc (k := 0) (by decide +kernel) c_5936
                have w_5934_1_r := w_5934_1.mp (by omega)
                clear w_5934_1
                exact J_5593  (by omega) _ _ hP hS _ (lv_sub hl [0, 1, 2, 3] rfl)
  · have jc_4 := dk_nlec (k := 0) (by decide +kernel) c_4
    refine lv_iconst (v := 0) hx hb dX12_goesOn_11 (by decide +kernel) ?_
    have hz_5937 : (0 : Int32).toInt = 0 := by decide +kernel
    have hz_5938 : (0 : Int32).toInt = 0 := by decide +kernel
    have hz_5939 : (0 : Int32).toInt = 0 := by decide +kernel
    refine W.widen (k := 0) (n := 0) (Nat.le_of_ble_eq_true rfl) (Nat.le_of_ble_eq_true rfl) ?_
    exact dg_iret hx hb hr hlocks (by decide +kernel) hP hS ⟨I_2, M_2, (by decide +kernel), ⟨sg, sa, se, y_3, cd, dp, om, oo, ((m_2.1 0 3 _ sM_0 (by decide)).trans f_sg), ((m_2.1 0 4 _ sM_0 (by decide)).trans f_sa), ((m_2.1 0 5 _ sM_0 (by decide)).trans f_se), f_y_3, ((m_2.1 0 34 _ sM_0 (by decide)).trans f_cd), ((m_2.1 0 42 _ sM_0 (by decide)).trans f_dp), ((m_2.1 0 45 _ sM_0 (by decide)).trans f_om), ((m_2.1 0 46 _ sM_0 (by decide)).trans f_oo), (by omega)⟩, (fun k9 hk9 hk0 => by have q9 := (f_y_3).symm.trans hk9; cases q9; omega), (ZWM.keep ZW m_2 (by decide) (by decide) (by decide) (by decide)), trivial⟩ dX12_goesOn_12
