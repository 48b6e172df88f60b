/-! 45.g.lean.txt -/
theorem dX12_goesOn_0 : decode cX12_goesOn 0 = .ok (.aload_n 0, 1) := by decide +kernel
theorem dX12_goesOn_1 : decode cX12_goesOn 1 = .ok (.invokevirtual 266, 3) := by decide +kernel
theorem dX12_goesOn_4 : decode cX12_goesOn 4 = .ok (.aload_n 0, 1) := by decide +kernel
theorem dX12_goesOn_5 : decode cX12_goesOn 5 = .ok (.getfield 36, 3) := by decide +kernel
theorem dX12_goesOn_8 : decode cX12_goesOn 8 = .ok (.ifCond .le 5, 3) := by decide +kernel
theorem dX12_goesOn_11 : decode cX12_goesOn 11 = .ok (.iconst 0, 1) := by decide +kernel
theorem dX12_goesOn_12 : decode cX12_goesOn 12 = .ok (.ireturn, 1) := by decide +kernel
theorem dX12_goesOn_13 : decode cX12_goesOn 13 = .ok (.aload_n 0, 1) := by decide +kernel
theorem dX12_goesOn_14 : decode cX12_goesOn 14 = .ok (.getfield 140, 3) := by decide +kernel
theorem dX12_goesOn_17 : decode cX12_goesOn 17 = .ok (.iconst 1, 1) := by decide +kernel
theorem dX12_goesOn_18 : decode cX12_goesOn 18 = .ok (.isub, 1) := by decide +kernel
theorem dX12_goesOn_19 : decode cX12_goesOn 19 = .ok (.istore_n 1, 1) := by decide +kernel
theorem dX12_goesOn_20 : decode cX12_goesOn 20 = .ok (.aload_n 0, 1) := by decide +kernel
theorem dX12_goesOn_21 : decode cX12_goesOn 21 = .ok (.getfield 124, 3) := by decide +kernel
theorem dX12_goesOn_24 : decode cX12_goesOn 24 = .ok (.iload_n 1, 1) := by decide +kernel
theorem dX12_goesOn_25 : decode cX12_goesOn 25 = .ok (.iaload, 1) := by decide +kernel
theorem dX12_goesOn_26 : decode cX12_goesOn 26 = .ok (.istore_n 2, 1) := by decide +kernel
theorem dX12_goesOn_27 : decode cX12_goesOn 27 = .ok (.iload_n 2, 1) := by decide +kernel
theorem dX12_goesOn_28 : decode cX12_goesOn 28 = .ok (.invokestatic 346, 3) := by decide +kernel
theorem dX12_goesOn_31 : decode cX12_goesOn 31 = .ok (.istore_n 3, 1) := by decide +kernel
theorem dX12_goesOn_32 : decode cX12_goesOn 32 = .ok (.aload_n 0, 1) := by decide +kernel
theorem dX12_goesOn_33 : decode cX12_goesOn 33 = .ok (.getfield 127, 3) := by decide +kernel
theorem dX12_goesOn_36 : decode cX12_goesOn 36 = .ok (.iload_n 1, 1) := by decide +kernel
theorem dX12_goesOn_37 : decode cX12_goesOn 37 = .ok (.iaload, 1) := by decide +kernel
theorem dX12_goesOn_38 : decode cX12_goesOn 38 = .ok (.iconst 2, 1) := by decide +kernel
theorem dX12_goesOn_39 : decode cX12_goesOn 39 = .ok (.if_icmp .ge 149, 3) := by decide +kernel
theorem dX12_goesOn_42 : decode cX12_goesOn 42 = .ok (.aload_n 0, 1) := by decide +kernel
theorem dX12_goesOn_43 : decode cX12_goesOn 43 = .ok (.bipush 43, 2) := by decide +kernel
theorem dX12_goesOn_45 : decode cX12_goesOn 45 = .ok (.invokevirtual 269, 3) := by decide +kernel
theorem dX12_goesOn_48 : decode cX12_goesOn 48 = .ok (.ifCond .ne 39, 3) := by decide +kernel
theorem dX12_goesOn_51 : decode cX12_goesOn 51 = .ok (.aload_n 0, 1) := by decide +kernel
theorem dX12_goesOn_52 : decode cX12_goesOn 52 = .ok (.bipush 45, 2) := by decide +kernel
theorem dX12_goesOn_54 : decode cX12_goesOn 54 = .ok (.invokevirtual 269, 3) := by decide +kernel
theorem dX12_goesOn_57 : decode cX12_goesOn 57 = .ok (.ifCond .ne 30, 3) := by decide +kernel
theorem dX12_goesOn_60 : decode cX12_goesOn 60 = .ok (.aload_n 0, 1) := by decide +kernel
theorem dX12_goesOn_61 : decode cX12_goesOn 61 = .ok (.bipush 42, 2) := by decide +kernel
theorem dX12_goesOn_63 : decode cX12_goesOn 63 = .ok (.invokevirtual 269, 3) := by decide +kernel
theorem dX12_goesOn_66 : decode cX12_goesOn 66 = .ok (.ifCond .ne 21, 3) := by decide +kernel
theorem dX12_goesOn_69 : decode cX12_goesOn 69 = .ok (.aload_n 0, 1) := by decide +kernel
theorem dX12_goesOn_70 : decode cX12_goesOn 70 = .ok (.bipush 47, 2) := by decide +kernel
theorem dX12_goesOn_72 : decode cX12_goesOn 72 = .ok (.invokevirtual 269, 3) := by decide +kernel
theorem dX12_goesOn_75 : decode cX12_goesOn 75 = .ok (.ifCond .ne 12, 3) := by decide +kernel
theorem dX12_goesOn_78 : decode cX12_goesOn 78 = .ok (.aload_n 0, 1) := by decide +kernel
theorem dX12_goesOn_79 : decode cX12_goesOn 79 = .ok (.bipush 37, 2) := by decide +kernel
theorem dX12_goesOn_81 : decode cX12_goesOn 81 = .ok (.invokevirtual 269, 3) := by decide +kernel
theorem dX12_goesOn_84 : decode cX12_goesOn 84 = .ok (.ifCond .eq 104, 3) := by decide +kernel
theorem dX12_goesOn_87 : decode cX12_goesOn 87 = .ok (.aload_n 0, 1) := by decide +kernel
theorem dX12_goesOn_88 : decode cX12_goesOn 88 = .ok (.aload_n 0, 1) := by decide +kernel
theorem dX12_goesOn_89 : decode cX12_goesOn 89 = .ok (.bipush 43, 2) := by decide +kernel
theorem dX12_goesOn_91 : decode cX12_goesOn 91 = .ok (.invokevirtual 269, 3) := by decide +kernel
theorem dX12_goesOn_94 : decode cX12_goesOn 94 = .ok (.ifCond .ne 12, 3) := by decide +kernel
theorem dX12_goesOn_97 : decode cX12_goesOn 97 = .ok (.aload_n 0, 1) := by decide +kernel
theorem dX12_goesOn_98 : decode cX12_goesOn 98 = .ok (.bipush 45, 2) := by decide +kernel
theorem dX12_goesOn_100 : decode cX12_goesOn 100 = .ok (.invokevirtual 269, 3) := by decide +kernel
theorem dX12_goesOn_103 : decode cX12_goesOn 103 = .ok (.ifCond .eq 7, 3) := by decide +kernel
theorem dX12_goesOn_106 : decode cX12_goesOn 106 = .ok (.iconst 5, 1) := by decide +kernel
theorem dX12_goesOn_107 : decode cX12_goesOn 107 = .ok (.goto 5, 3) := by decide +kernel
theorem dX12_goesOn_110 : decode cX12_goesOn 110 = .ok (.bipush 6, 2) := by decide +kernel
theorem dX12_goesOn_112 : decode cX12_goesOn 112 = .ok (.invokevirtual 359, 3) := by decide +kernel
theorem dX12_goesOn_115 : decode cX12_goesOn 115 = .ok (.aload_n 0, 1) := by decide +kernel
theorem dX12_goesOn_116 : decode cX12_goesOn 116 = .ok (.aload_n 0, 1) := by decide +kernel
theorem dX12_goesOn_117 : decode cX12_goesOn 117 = .ok (.bipush 43, 2) := by decide +kernel
theorem dX12_goesOn_119 : decode cX12_goesOn 119 = .ok (.invokevirtual 269, 3) := by decide +kernel
theorem dX12_goesOn_122 : decode cX12_goesOn 122 = .ok (.ifCond .eq 8, 3) := by decide +kernel
theorem dX12_goesOn_125 : decode cX12_goesOn 125 = .ok (.bipush 31, 2) := by decide +kernel
theorem dX12_goesOn_127 : decode cX12_goesOn 127 = .ok (.goto 47, 3) := by decide +kernel
theorem dX12_goesOn_130 : decode cX12_goesOn 130 = .ok (.aload_n 0, 1) := by decide +kernel
theorem dX12_goesOn_131 : decode cX12_goesOn 131 = .ok (.bipush 45, 2) := by decide +kernel
theorem dX12_goesOn_133 : decode cX12_goesOn 133 = .ok (.invokevirtual 269, 3) := by decide +kernel
theorem dX12_goesOn_136 : decode cX12_goesOn 136 = .ok (.ifCond .eq 8, 3) := by decide +kernel
theorem dX12_goesOn_139 : decode cX12_goesOn 139 = .ok (.bipush 32, 2) := by decide +kernel
theorem dX12_goesOn_141 : decode cX12_goesOn 141 = .ok (.goto 33, 3) := by decide +kernel
theorem dX12_goesOn_144 : decode cX12_goesOn 144 = .ok (.aload_n 0, 1) := by decide +kernel
theorem dX12_goesOn_145 : decode cX12_goesOn 145 = .ok (.bipush 42, 2) := by decide +kernel
theorem dX12_goesOn_147 : decode cX12_goesOn 147 = .ok (.invokevirtual 269, 3) := by decide +kernel
theorem dX12_goesOn_150 : decode cX12_goesOn 150 = .ok (.ifCond .eq 8, 3) := by decide +kernel
theorem dX12_goesOn_153 : decode cX12_goesOn 153 = .ok (.bipush 33, 2) := by decide +kernel
theorem dX12_goesOn_155 : decode cX12_goesOn 155 = .ok (.goto 19, 3) := by decide +kernel
theorem dX12_goesOn_158 : decode cX12_goesOn 158 = .ok (.aload_n 0, 1) := by decide +kernel
theorem dX12_goesOn_159 : decode cX12_goesOn 159 = .ok (.bipush 47, 2) := by decide +kernel
theorem dX12_goesOn_161 : decode cX12_goesOn 161 = .ok (.invokevirtual 269, 3) := by decide +kernel
theorem dX12_goesOn_164 : decode cX12_goesOn 164 = .ok (.ifCond .eq 8, 3) := by decide +kernel
theorem dX12_goesOn_167 : decode cX12_goesOn 167 = .ok (.bipush 34, 2) := by decide +kernel
theorem dX12_goesOn_169 : decode cX12_goesOn 169 = .ok (.goto 5, 3) := by decide +kernel
theorem dX12_goesOn_172 : decode cX12_goesOn 172 = .ok (.bipush 35, 2) := by decide +kernel
theorem dX12_goesOn_174 : decode cX12_goesOn 174 = .ok (.invokevirtual 353, 3) := by decide +kernel
theorem dX12_goesOn_177 : decode cX12_goesOn 177 = .ok (.aload_n 0, 1) := by decide +kernel
theorem dX12_goesOn_178 : decode cX12_goesOn 178 = .ok (.invokevirtual 272, 3) := by decide +kernel
theorem dX12_goesOn_181 : decode cX12_goesOn 181 = .ok (.aload_n 0, 1) := by decide +kernel
theorem dX12_goesOn_182 : decode cX12_goesOn 182 = .ok (.iconst 0, 1) := by decide +kernel
theorem dX12_goesOn_183 : decode cX12_goesOn 183 = .ok (.putfield 152, 3) := by decide +kernel
theorem dX12_goesOn_186 : decode cX12_goesOn 186 = .ok (.iconst 1, 1) := by decide +kernel
theorem dX12_goesOn_187 : decode cX12_goesOn 187 = .ok (.ireturn, 1) := by decide +kernel
theorem dX12_goesOn_188 : decode cX12_goesOn 188 = .ok (.iload_n 3, 1) := by decide +kernel
theorem dX12_goesOn_189 : decode cX12_goesOn 189 = .ok (.ifCond .eq 96, 3) := by decide +kernel
theorem dX12_goesOn_192 : decode cX12_goesOn 192 = .ok (.aload_n 0, 1) := by decide +kernel
theorem dX12_goesOn_193 : decode cX12_goesOn 193 = .ok (.getfield 127, 3) := by decide +kernel
theorem dX12_goesOn_196 : decode cX12_goesOn 196 = .ok (.iload_n 1, 1) := by decide +kernel
theorem dX12_goesOn_197 : decode cX12_goesOn 197 = .ok (.iaload, 1) := by decide +kernel
theorem dX12_goesOn_198 : decode cX12_goesOn 198 = .ok (.ifCond .ne 87, 3) := by decide +kernel
theorem dX12_goesOn_201 : decode cX12_goesOn 201 = .ok (.aload_n 0, 1) := by decide +kernel
theorem dX12_goesOn_202 : decode cX12_goesOn 202 = .ok (.bipush 60, 2) := by decide +kernel
theorem dX12_goesOn_204 : decode cX12_goesOn 204 = .ok (.invokevirtual 269, 3) := by decide +kernel
theorem dX12_goesOn_207 : decode cX12_goesOn 207 = .ok (.ifCond .ne 21, 3) := by decide +kernel
theorem dX12_goesOn_210 : decode cX12_goesOn 210 = .ok (.aload_n 0, 1) := by decide +kernel
theorem dX12_goesOn_211 : decode cX12_goesOn 211 = .ok (.bipush 62, 2) := by decide +kernel
theorem dX12_goesOn_213 : decode cX12_goesOn 213 = .ok (.invokevirtual 269, 3) := by decide +kernel
theorem dX12_goesOn_216 : decode cX12_goesOn 216 = .ok (.ifCond .ne 12, 3) := by decide +kernel
theorem dX12_goesOn_219 : decode cX12_goesOn 219 = .ok (.aload_n 0, 1) := by decide +kernel
theorem dX12_goesOn_220 : decode cX12_goesOn 220 = .ok (.bipush 61, 2) := by decide +kernel
theorem dX12_goesOn_222 : decode cX12_goesOn 222 = .ok (.invokevirtual 269, 3) := by decide +kernel
theorem dX12_goesOn_225 : decode cX12_goesOn 225 = .ok (.ifCond .eq 60, 3) := by decide +kernel
theorem dX12_goesOn_228 : decode cX12_goesOn 228 = .ok (.aload_n 0, 1) := by decide +kernel
theorem dX12_goesOn_229 : decode cX12_goesOn 229 = .ok (.iconst 5, 1) := by decide +kernel
theorem dX12_goesOn_230 : decode cX12_goesOn 230 = .ok (.invokevirtual 359, 3) := by decide +kernel
theorem dX12_goesOn_233 : decode cX12_goesOn 233 = .ok (.aload_n 0, 1) := by decide +kernel
theorem dX12_goesOn_234 : decode cX12_goesOn 234 = .ok (.aload_n 0, 1) := by decide +kernel
theorem dX12_goesOn_235 : decode cX12_goesOn 235 = .ok (.bipush 60, 2) := by decide +kernel
theorem dX12_goesOn_237 : decode cX12_goesOn 237 = .ok (.invokevirtual 269, 3) := by decide +kernel
theorem dX12_goesOn_240 : decode cX12_goesOn 240 = .ok (.ifCond .eq 8, 3) := by decide +kernel
theorem dX12_goesOn_243 : decode cX12_goesOn 243 = .ok (.bipush 38, 2) := by decide +kernel
theorem dX12_goesOn_245 : decode cX12_goesOn 245 = .ok (.goto 19, 3) := by decide +kernel
theorem dX12_goesOn_248 : decode cX12_goesOn 248 = .ok (.aload_n 0, 1) := by decide +kernel
theorem dX12_goesOn_249 : decode cX12_goesOn 249 = .ok (.bipush 62, 2) := by decide +kernel
theorem dX12_goesOn_251 : decode cX12_goesOn 251 = .ok (.invokevirtual 269, 3) := by decide +kernel
theorem dX12_goesOn_254 : decode cX12_goesOn 254 = .ok (.ifCond .eq 8, 3) := by decide +kernel
theorem dX12_goesOn_257 : decode cX12_goesOn 257 = .ok (.bipush 39, 2) := by decide +kernel
theorem dX12_goesOn_259 : decode cX12_goesOn 259 = .ok (.goto 5, 3) := by decide +kernel
theorem dX12_goesOn_262 : decode cX12_goesOn 262 = .ok (.bipush 40, 2) := by decide +kernel
theorem dX12_goesOn_264 : decode cX12_goesOn 264 = .ok (.invokevirtual 353, 3) := by decide +kernel
theorem dX12_goesOn_267 : decode cX12_goesOn 267 = .ok (.aload_n 0, 1) := by decide +kernel
theorem dX12_goesOn_268 : decode cX12_goesOn 268 = .ok (.getfield 127, 3) := by decide +kernel
theorem dX12_goesOn_271 : decode cX12_goesOn 271 = .ok (.iload_n 1, 1) := by decide +kernel
theorem dX12_goesOn_272 : decode cX12_goesOn 272 = .ok (.iconst 1, 1) := by decide +kernel
theorem dX12_goesOn_273 : decode cX12_goesOn 273 = .ok (.iastore, 1) := by decide +kernel
theorem dX12_goesOn_274 : decode cX12_goesOn 274 = .ok (.aload_n 0, 1) := by decide +kernel
theorem dX12_goesOn_275 : decode cX12_goesOn 275 = .ok (.invokevirtual 272, 3) := by decide +kernel
theorem dX12_goesOn_278 : decode cX12_goesOn 278 = .ok (.aload_n 0, 1) := by decide +kernel
theorem dX12_goesOn_279 : decode cX12_goesOn 279 = .ok (.iconst 0, 1) := by decide +kernel
theorem dX12_goesOn_280 : decode cX12_goesOn 280 = .ok (.putfield 152, 3) := by decide +kernel
theorem dX12_goesOn_283 : decode cX12_goesOn 283 = .ok (.iconst 1, 1) := by decide +kernel
theorem dX12_goesOn_284 : decode cX12_goesOn 284 = .ok (.ireturn, 1) := by decide +kernel
theorem dX12_goesOn_285 : decode cX12_goesOn 285 = .ok (.iload_n 3, 1) := by decide +kernel
theorem dX12_goesOn_286 : decode cX12_goesOn 286 = .ok (.ifCond .eq 114, 3) := by decide +kernel
theorem dX12_goesOn_289 : decode cX12_goesOn 289 = .ok (.aload_n 0, 1) := by decide +kernel
theorem dX12_goesOn_290 : decode cX12_goesOn 290 = .ok (.ldc2_w 319, 3) := by decide +kernel
theorem dX12_goesOn_293 : decode cX12_goesOn 293 = .ok (.invokevirtual 349, 3) := by decide +kernel
theorem dX12_goesOn_296 : decode cX12_goesOn 296 = .ok (.ifCond .ne 13, 3) := by decide +kernel
theorem dX12_goesOn_299 : decode cX12_goesOn 299 = .ok (.aload_n 0, 1) := by decide +kernel
theorem dX12_goesOn_300 : decode cX12_goesOn 300 = .ok (.ldc2_w 317, 3) := by decide +kernel
theorem dX12_goesOn_303 : decode cX12_goesOn 303 = .ok (.invokevirtual 349, 3) := by decide +kernel
theorem dX12_goesOn_306 : decode cX12_goesOn 306 = .ok (.ifCond .eq 94, 3) := by decide +kernel
theorem dX12_goesOn_309 : decode cX12_goesOn 309 = .ok (.aload_n 0, 1) := by decide +kernel
theorem dX12_goesOn_310 : decode cX12_goesOn 310 = .ok (.getfield 127, 3) := by decide +kernel
theorem dX12_goesOn_313 : decode cX12_goesOn 313 = .ok (.iload_n 1, 1) := by decide +kernel
theorem dX12_goesOn_314 : decode cX12_goesOn 314 = .ok (.iaload, 1) := by decide +kernel
theorem dX12_goesOn_315 : decode cX12_goesOn 315 = .ok (.ifCond .ne 12, 3) := by decide +kernel
theorem dX12_goesOn_318 : decode cX12_goesOn 318 = .ok (.aload_n 0, 1) := by decide +kernel
theorem dX12_goesOn_319 : decode cX12_goesOn 319 = .ok (.iconst 1, 1) := by decide +kernel
theorem dX12_goesOn_320 : decode cX12_goesOn 320 = .ok (.aload_n 0, 1) := by decide +kernel
theorem dX12_goesOn_321 : decode cX12_goesOn 321 = .ok (.getfield 23, 3) := by decide +kernel
theorem dX12_goesOn_324 : decode cX12_goesOn 324 = .ok (.invokevirtual 255, 3) := by decide +kernel
theorem dX12_goesOn_327 : decode cX12_goesOn 327 = .ok (.aload_n 0, 1) := by decide +kernel
theorem dX12_goesOn_328 : decode cX12_goesOn 328 = .ok (.getfield 36, 3) := by decide +kernel
theorem dX12_goesOn_331 : decode cX12_goesOn 331 = .ok (.ifCond .le 5, 3) := by decide +kernel
theorem dX12_goesOn_334 : decode cX12_goesOn 334 = .ok (.iconst 0, 1) := by decide +kernel
theorem dX12_goesOn_335 : decode cX12_goesOn 335 = .ok (.ireturn, 1) := by decide +kernel
theorem dX12_goesOn_336 : decode cX12_goesOn 336 = .ok (.aload_n 0, 1) := by decide +kernel
theorem dX12_goesOn_337 : decode cX12_goesOn 337 = .ok (.ldc2_w 319, 3) := by decide +kernel
theorem dX12_goesOn_340 : decode cX12_goesOn 340 = .ok (.invokevirtual 349, 3) := by decide +kernel
theorem dX12_goesOn_343 : decode cX12_goesOn 343 = .ok (.istore 4, 2) := by decide +kernel
theorem dX12_goesOn_345 : decode cX12_goesOn 345 = .ok (.aload_n 0, 1) := by decide +kernel
theorem dX12_goesOn_346 : decode cX12_goesOn 346 = .ok (.iload 4, 2) := by decide +kernel
theorem dX12_goesOn_348 : decode cX12_goesOn 348 = .ok (.ifCond .eq 7, 3) := by decide +kernel
theorem dX12_goesOn_351 : decode cX12_goesOn 351 = .ok (.iconst 2, 1) := by decide +kernel
theorem dX12_goesOn_352 : decode cX12_goesOn 352 = .ok (.goto 4, 3) := by decide +kernel
theorem dX12_goesOn_355 : decode cX12_goesOn 355 = .ok (.iconst 1, 1) := by decide +kernel
theorem dX12_goesOn_356 : decode cX12_goesOn 356 = .ok (.invokevirtual 359, 3) := by decide +kernel
theorem dX12_goesOn_359 : decode cX12_goesOn 359 = .ok (.aload_n 0, 1) := by decide +kernel
theorem dX12_goesOn_360 : decode cX12_goesOn 360 = .ok (.iload 4, 2) := by decide +kernel
theorem dX12_goesOn_362 : decode cX12_goesOn 362 = .ok (.ifCond .eq 8, 3) := by decide +kernel
theorem dX12_goesOn_365 : decode cX12_goesOn 365 = .ok (.bipush 41, 2) := by decide +kernel
theorem dX12_goesOn_367 : decode cX12_goesOn 367 = .ok (.goto 5, 3) := by decide +kernel
theorem dX12_goesOn_370 : decode cX12_goesOn 370 = .ok (.bipush 42, 2) := by decide +kernel
theorem dX12_goesOn_372 : decode cX12_goesOn 372 = .ok (.invokevirtual 353, 3) := by decide +kernel
theorem dX12_goesOn_375 : decode cX12_goesOn 375 = .ok (.aload_n 0, 1) := by decide +kernel
theorem dX12_goesOn_376 : decode cX12_goesOn 376 = .ok (.getfield 127, 3) := by decide +kernel
theorem dX12_goesOn_379 : decode cX12_goesOn 379 = .ok (.iload_n 1, 1) := by decide +kernel
theorem dX12_goesOn_380 : decode cX12_goesOn 380 = .ok (.iconst 0, 1) := by decide +kernel
theorem dX12_goesOn_381 : decode cX12_goesOn 381 = .ok (.iastore, 1) := by decide +kernel
theorem dX12_goesOn_382 : decode cX12_goesOn 382 = .ok (.aload_n 0, 1) := by decide +kernel
theorem dX12_goesOn_383 : decode cX12_goesOn 383 = .ok (.getfield 130, 3) := by decide +kernel
theorem dX12_goesOn_386 : decode cX12_goesOn 386 = .ok (.iload_n 1, 1) := by decide +kernel
theorem dX12_goesOn_387 : decode cX12_goesOn 387 = .ok (.iconst 1, 1) := by decide +kernel
theorem dX12_goesOn_388 : decode cX12_goesOn 388 = .ok (.bastore, 1) := by decide +kernel
theorem dX12_goesOn_389 : decode cX12_goesOn 389 = .ok (.aload_n 0, 1) := by decide +kernel
theorem dX12_goesOn_390 : decode cX12_goesOn 390 = .ok (.invokevirtual 272, 3) := by decide +kernel
theorem dX12_goesOn_393 : decode cX12_goesOn 393 = .ok (.aload_n 0, 1) := by decide +kernel
theorem dX12_goesOn_394 : decode cX12_goesOn 394 = .ok (.iconst 0, 1) := by decide +kernel
theorem dX12_goesOn_395 : decode cX12_goesOn 395 = .ok (.putfield 152, 3) := by decide +kernel
theorem dX12_goesOn_398 : decode cX12_goesOn 398 = .ok (.iconst 1, 1) := by decide +kernel
theorem dX12_goesOn_399 : decode cX12_goesOn 399 = .ok (.ireturn, 1) := by decide +kernel
theorem dX12_goesOn_400 : decode cX12_goesOn 400 = .ok (.iload_n 3, 1) := by decide +kernel
theorem dX12_goesOn_401 : decode cX12_goesOn 401 = .ok (.ifCond .eq 21, 3) := by decide +kernel
theorem dX12_goesOn_404 : decode cX12_goesOn 404 = .ok (.aload_n 0, 1) := by decide +kernel
theorem dX12_goesOn_405 : decode cX12_goesOn 405 = .ok (.getfield 127, 3) := by decide +kernel
theorem dX12_goesOn_408 : decode cX12_goesOn 408 = .ok (.iload_n 1, 1) := by decide +kernel
theorem dX12_goesOn_409 : decode cX12_goesOn 409 = .ok (.iaload, 1) := by decide +kernel
theorem dX12_goesOn_410 : decode cX12_goesOn 410 = .ok (.ifCond .ne 12, 3) := by decide +kernel
theorem dX12_goesOn_413 : decode cX12_goesOn 413 = .ok (.aload_n 0, 1) := by decide +kernel
theorem dX12_goesOn_414 : decode cX12_goesOn 414 = .ok (.iconst 1, 1) := by decide +kernel
theorem dX12_goesOn_415 : decode cX12_goesOn 415 = .ok (.aload_n 0, 1) := by decide +kernel
theorem dX12_goesOn_416 : decode cX12_goesOn 416 = .ok (.getfield 23, 3) := by decide +kernel
theorem dX12_goesOn_419 : decode cX12_goesOn 419 = .ok (.invokevirtual 255, 3) := by decide +kernel
theorem dX12_goesOn_422 : decode cX12_goesOn 422 = .ok (.iload_n 2, 1) := by decide +kernel
theorem dX12_goesOn_423 : decode cX12_goesOn 423 = .ok (.iconst 2, 1) := by decide +kernel
theorem dX12_goesOn_424 : decode cX12_goesOn 424 = .ok (.if_icmp .ge 17, 3) := by decide +kernel
theorem dX12_goesOn_427 : decode cX12_goesOn 427 = .ok (.aload_n 0, 1) := by decide +kernel
theorem dX12_goesOn_428 : decode cX12_goesOn 428 = .ok (.getfield 36, 3) := by decide +kernel
theorem dX12_goesOn_431 : decode cX12_goesOn 431 = .ok (.ifCond .ne 8, 3) := by decide +kernel
theorem dX12_goesOn_434 : decode cX12_goesOn 434 = .ok (.aload_n 0, 1) := by decide +kernel
theorem dX12_goesOn_435 : decode cX12_goesOn 435 = .ok (.iconst 1, 1) := by decide +kernel
theorem dX12_goesOn_436 : decode cX12_goesOn 436 = .ok (.invokevirtual 359, 3) := by decide +kernel
theorem dX12_goesOn_439 : decode cX12_goesOn 439 = .ok (.iconst 0, 1) := by decide +kernel
theorem dX12_goesOn_440 : decode cX12_goesOn 440 = .ok (.ireturn, 1) := by decide +kernel
theorem dX12_goesOn_441 : decode cX12_goesOn 441 = .ok (.iload_n 2, 1) := by decide +kernel
theorem dX12_goesOn_442 : decode cX12_goesOn 442 = .ok (.iconst 3, 1) := by decide +kernel
theorem dX12_goesOn_443 : decode cX12_goesOn 443 = .ok (.if_icmp .eq 9, 3) := by decide +kernel
theorem dX12_goesOn_446 : decode cX12_goesOn 446 = .ok (.iload_n 2, 1) := by decide +kernel
theorem dX12_goesOn_447 : decode cX12_goesOn 447 = .ok (.bipush 6, 2) := by decide +kernel
theorem dX12_goesOn_449 : decode cX12_goesOn 449 = .ok (.if_icmp .ne 69, 3) := by decide +kernel
theorem dX12_goesOn_452 : decode cX12_goesOn 452 = .ok (.aload_n 0, 1) := by decide +kernel
theorem dX12_goesOn_453 : decode cX12_goesOn 453 = .ok (.bipush 44, 2) := by decide +kernel
theorem dX12_goesOn_455 : decode cX12_goesOn 455 = .ok (.invokevirtual 269, 3) := by decide +kernel
theorem dX12_goesOn_458 : decode cX12_goesOn 458 = .ok (.ifCond .ne 12, 3) := by decide +kernel
theorem dX12_goesOn_461 : decode cX12_goesOn 461 = .ok (.aload_n 0, 1) := by decide +kernel
theorem dX12_goesOn_462 : decode cX12_goesOn 462 = .ok (.iconst 1, 1) := by decide +kernel
theorem dX12_goesOn_463 : decode cX12_goesOn 463 = .ok (.aload_n 0, 1) := by decide +kernel
theorem dX12_goesOn_464 : decode cX12_goesOn 464 = .ok (.getfield 23, 3) := by decide +kernel
theorem dX12_goesOn_467 : decode cX12_goesOn 467 = .ok (.invokevirtual 255, 3) := by decide +kernel
theorem dX12_goesOn_470 : decode cX12_goesOn 470 = .ok (.aload_n 0, 1) := by decide +kernel
theorem dX12_goesOn_471 : decode cX12_goesOn 471 = .ok (.getfield 36, 3) := by decide +kernel
theorem dX12_goesOn_474 : decode cX12_goesOn 474 = .ok (.ifCond .le 5, 3) := by decide +kernel
theorem dX12_goesOn_477 : decode cX12_goesOn 477 = .ok (.iconst 0, 1) := by decide +kernel
theorem dX12_goesOn_478 : decode cX12_goesOn 478 = .ok (.ireturn, 1) := by decide +kernel
theorem dX12_goesOn_479 : decode cX12_goesOn 479 = .ok (.aload_n 0, 1) := by decide +kernel
theorem dX12_goesOn_480 : decode cX12_goesOn 480 = .ok (.iconst 1, 1) := by decide +kernel
theorem dX12_goesOn_481 : decode cX12_goesOn 481 = .ok (.invokevirtual 359, 3) := by decide +kernel
theorem dX12_goesOn_484 : decode cX12_goesOn 484 = .ok (.aload_n 0, 1) := by decide +kernel
theorem dX12_goesOn_485 : decode cX12_goesOn 485 = .ok (.getfield 124, 3) := by decide +kernel
theorem dX12_goesOn_488 : decode cX12_goesOn 488 = .ok (.iload_n 1, 1) := by decide +kernel
theorem dX12_goesOn_489 : decode cX12_goesOn 489 = .ok (.iload_n 2, 1) := by decide +kernel
theorem dX12_goesOn_490 : decode cX12_goesOn 490 = .ok (.iconst 3, 1) := by decide +kernel
theorem dX12_goesOn_491 : decode cX12_goesOn 491 = .ok (.if_icmp .ne 7, 3) := by decide +kernel
theorem dX12_goesOn_494 : decode cX12_goesOn 494 = .ok (.iconst 4, 1) := by decide +kernel
theorem dX12_goesOn_495 : decode cX12_goesOn 495 = .ok (.goto 4, 3) := by decide +kernel
theorem dX12_goesOn_498 : decode cX12_goesOn 498 = .ok (.iconst 3, 1) := by decide +kernel
theorem dX12_goesOn_499 : decode cX12_goesOn 499 = .ok (.iastore, 1) := by decide +kernel
theorem dX12_goesOn_500 : decode cX12_goesOn 500 = .ok (.aload_n 0, 1) := by decide +kernel
theorem dX12_goesOn_501 : decode cX12_goesOn 501 = .ok (.getfield 127, 3) := by decide +kernel
theorem dX12_goesOn_504 : decode cX12_goesOn 504 = .ok (.iload_n 1, 1) := by decide +kernel
theorem dX12_goesOn_505 : decode cX12_goesOn 505 = .ok (.iconst 0, 1) := by decide +kernel
theorem dX12_goesOn_506 : decode cX12_goesOn 506 = .ok (.iastore, 1) := by decide +kernel
theorem dX12_goesOn_507 : decode cX12_goesOn 507 = .ok (.aload_n 0, 1) := by decide +kernel
theorem dX12_goesOn_508 : decode cX12_goesOn 508 = .ok (.invokevirtual 272, 3) := by decide +kernel
theorem dX12_goesOn_511 : decode cX12_goesOn 511 = .ok (.aload_n 0, 1) := by decide +kernel
theorem dX12_goesOn_512 : decode cX12_goesOn 512 = .ok (.iconst 0, 1) := by decide +kernel
theorem dX12_goesOn_513 : decode cX12_goesOn 513 = .ok (.putfield 152, 3) := by decide +kernel
theorem dX12_goesOn_516 : decode cX12_goesOn 516 = .ok (.iconst 1, 1) := by decide +kernel
theorem dX12_goesOn_517 : decode cX12_goesOn 517 = .ok (.ireturn, 1) := by decide +kernel
theorem dX12_goesOn_518 : decode cX12_goesOn 518 = .ok (.aload_n 0, 1) := by decide +kernel
theorem dX12_goesOn_519 : decode cX12_goesOn 519 = .ok (.iload_n 2, 1) := by decide +kernel
theorem dX12_goesOn_520 : decode cX12_goesOn 520 = .ok (.iconst 5, 1) := by decide +kernel
theorem dX12_goesOn_521 : decode cX12_goesOn 521 = .ok (.if_icmp .ne 8, 3) := by decide +kernel
theorem dX12_goesOn_524 : decode cX12_goesOn 524 = .ok (.bipush 93, 2) := by decide +kernel
theorem dX12_goesOn_526 : decode cX12_goesOn 526 = .ok (.goto 5, 3) := by decide +kernel
theorem dX12_goesOn_529 : decode cX12_goesOn 529 = .ok (.bipush 41, 2) := by decide +kernel
theorem dX12_goesOn_531 : decode cX12_goesOn 531 = .ok (.invokevirtual 269, 3) := by decide +kernel
theorem dX12_goesOn_534 : decode cX12_goesOn 534 = .ok (.ifCond .ne 12, 3) := by decide +kernel
theorem dX12_goesOn_537 : decode cX12_goesOn 537 = .ok (.aload_n 0, 1) := by decide +kernel
theorem dX12_goesOn_538 : decode cX12_goesOn 538 = .ok (.iconst 1, 1) := by decide +kernel
theorem dX12_goesOn_539 : decode cX12_goesOn 539 = .ok (.aload_n 0, 1) := by decide +kernel
theorem dX12_goesOn_540 : decode cX12_goesOn 540 = .ok (.getfield 23, 3) := by decide +kernel
theorem dX12_goesOn_543 : decode cX12_goesOn 543 = .ok (.invokevirtual 255, 3) := by decide +kernel
theorem dX12_goesOn_546 : decode cX12_goesOn 546 = .ok (.aload_n 0, 1) := by decide +kernel
theorem dX12_goesOn_547 : decode cX12_goesOn 547 = .ok (.getfield 36, 3) := by decide +kernel
theorem dX12_goesOn_550 : decode cX12_goesOn 550 = .ok (.ifCond .le 5, 3) := by decide +kernel
theorem dX12_goesOn_553 : decode cX12_goesOn 553 = .ok (.iconst 0, 1) := by decide +kernel
theorem dX12_goesOn_554 : decode cX12_goesOn 554 = .ok (.ireturn, 1) := by decide +kernel
theorem dX12_goesOn_555 : decode cX12_goesOn 555 = .ok (.aload_n 0, 1) := by decide +kernel
theorem dX12_goesOn_556 : decode cX12_goesOn 556 = .ok (.iconst 1, 1) := by decide +kernel
theorem dX12_goesOn_557 : decode cX12_goesOn 557 = .ok (.invokevirtual 359, 3) := by decide +kernel
theorem dX12_goesOn_560 : decode cX12_goesOn 560 = .ok (.aload_n 0, 1) := by decide +kernel
theorem dX12_goesOn_561 : decode cX12_goesOn 561 = .ok (.dup, 1) := by decide +kernel
theorem dX12_goesOn_562 : decode cX12_goesOn 562 = .ok (.getfield 140, 3) := by decide +kernel
theorem dX12_goesOn_565 : decode cX12_goesOn 565 = .ok (.iconst 1, 1) := by decide +kernel
theorem dX12_goesOn_566 : decode cX12_goesOn 566 = .ok (.isub, 1) := by decide +kernel
theorem dX12_goesOn_567 : decode cX12_goesOn 567 = .ok (.putfield 140, 3) := by decide +kernel
theorem dX12_goesOn_570 : decode cX12_goesOn 570 = .ok (.aload_n 0, 1) := by decide +kernel
theorem dX12_goesOn_571 : decode cX12_goesOn 571 = .ok (.dup, 1) := by decide +kernel
theorem dX12_goesOn_572 : decode cX12_goesOn 572 = .ok (.getfield 143, 3) := by decide +kernel
theorem dX12_goesOn_575 : decode cX12_goesOn 575 = .ok (.iconst 1, 1) := by decide +kernel
theorem dX12_goesOn_576 : decode cX12_goesOn 576 = .ok (.isub, 1) := by decide +kernel
theorem dX12_goesOn_577 : decode cX12_goesOn 577 = .ok (.putfield 143, 3) := by decide +kernel
theorem dX12_goesOn_580 : decode cX12_goesOn 580 = .ok (.iload_n 2, 1) := by decide +kernel
theorem dX12_goesOn_581 : decode cX12_goesOn 581 = .ok (.iconst 4, 1) := by decide +kernel
theorem dX12_goesOn_582 : decode cX12_goesOn 582 = .ok (.if_icmp .ne 14, 3) := by decide +kernel
theorem dX12_goesOn_585 : decode cX12_goesOn 585 = .ok (.aload_n 0, 1) := by decide +kernel
theorem dX12_goesOn_586 : decode cX12_goesOn 586 = .ok (.aload_n 0, 1) := by decide +kernel
theorem dX12_goesOn_587 : decode cX12_goesOn 587 = .ok (.getfield 134, 3) := by decide +kernel
theorem dX12_goesOn_590 : decode cX12_goesOn 590 = .ok (.iload_n 1, 1) := by decide +kernel
theorem dX12_goesOn_591 : decode cX12_goesOn 591 = .ok (.iaload, 1) := by decide +kernel
theorem dX12_goesOn_592 : decode cX12_goesOn 592 = .ok (.iconst 0, 1) := by decide +kernel
theorem dX12_goesOn_593 : decode cX12_goesOn 593 = .ok (.invokevirtual 340, 3) := by decide +kernel
theorem dX12_goesOn_596 : decode cX12_goesOn 596 = .ok (.iload_n 2, 1) := by decide +kernel
theorem dX12_goesOn_597 : decode cX12_goesOn 597 = .ok (.iconst 5, 1) := by decide +kernel
theorem dX12_goesOn_598 : decode cX12_goesOn 598 = .ok (.if_icmp .ne 15, 3) := by decide +kernel
theorem dX12_goesOn_601 : decode cX12_goesOn 601 = .ok (.aload_n 0, 1) := by decide +kernel
theorem dX12_goesOn_602 : decode cX12_goesOn 602 = .ok (.getfield 127, 3) := by decide +kernel
theorem dX12_goesOn_605 : decode cX12_goesOn 605 = .ok (.aload_n 0, 1) := by decide +kernel
theorem dX12_goesOn_606 : decode cX12_goesOn 606 = .ok (.getfield 140, 3) := by decide +kernel
theorem dX12_goesOn_609 : decode cX12_goesOn 609 = .ok (.iconst 1, 1) := by decide +kernel
theorem dX12_goesOn_610 : decode cX12_goesOn 610 = .ok (.isub, 1) := by decide +kernel
theorem dX12_goesOn_611 : decode cX12_goesOn 611 = .ok (.iconst 2, 1) := by decide +kernel
theorem dX12_goesOn_612 : decode cX12_goesOn 612 = .ok (.iastore, 1) := by decide +kernel
theorem dX12_goesOn_613 : decode cX12_goesOn 613 = .ok (.aload_n 0, 1) := by decide +kernel
theorem dX12_goesOn_614 : decode cX12_goesOn 614 = .ok (.invokevirtual 272, 3) := by decide +kernel
theorem dX12_goesOn_617 : decode cX12_goesOn 617 = .ok (.iconst 1, 1) := by decide +kernel
theorem dX12_goesOn_618 : decode cX12_goesOn 618 = .ok (.ireturn, 1) := by decide +kernel
theorem wB_436 : Cond.code yX12_joins cX12_joins 2 none ∈ dgB := List.mem_filter.mpr ⟨tbl_8 _ (List.mem_of_getElem? (i := 99) rfl), rfl⟩
theorem wB_437 : Cond.methodLink RX12 359 yX12_joins ∈ dgB := List.mem_filter.mpr ⟨tbl_8 _ (List.mem_of_getElem? (i := 96) (by decide +kernel)), by decide +kernel⟩
theorem wB_438 : Cond.instanceMethod yX12_joins ∈ dgB := List.mem_filter.mpr ⟨tbl_8 _ (List.mem_of_getElem? (i := 98) (by decide +kernel)), by decide +kernel⟩
theorem wB_439 : Cond.selects RX12 yX12_joins yX12_joins ∈ dgB := List.mem_filter.mpr ⟨List.mem_of_getElem? (i := 113) (by decide +kernel), by decide +kernel⟩
theorem wB_440 : Cond.fieldLink RX12 152 "DarkMineModel" "operand" "Z" ∈ dgB := List.mem_filter.mpr ⟨tbl_6 _ (List.mem_of_getElem? (i := 209) (by decide +kernel)), by decide +kernel⟩
set_option maxHeartbeats 8000000 in
set_option maxRecDepth 100000 in
theorem c_m_goesOn_A (l : Launch) (g : Nat → ClassId) (D : va_G) (o : Nat) (S : dg_S) (tb : Nat → Int32) (tn : Nat) (sg : Int32) (f_sg : S.1 0 3 = .int sg) (b_sg : 0 ≤ (sg).toInt ∧ (sg).toInt ≤ 3) (sa : Int32) (f_sa : S.1 0 4 = .int sa) (b_sa : 0 ≤ (sa).toInt ∧ (sa).toInt ≤ 1600) (se : Int32) (f_se : S.1 0 5 = .int se) (b_se : 0 ≤ (se).toInt ∧ (se).toInt ≤ 1600) (sl : Int32) (f_sl : S.1 0 2 = .int sl) (b_sl : 0 ≤ (sl).toInt ∧ (sl).toInt ≤ 1600) (fk : Int32) (f_fk : S.1 0 8 = .int fk) (b_fk : 0 ≤ (fk).toInt ∧ (fk).toInt ≤ 6) (va : Int32) (f_va : S.1 0 6 = .int va) (b_va : 0 ≤ (va).toInt ∧ (va).toInt ≤ 9999) (cd : Int32) (f_cd : S.1 0 34 = .int cd) (b_cd : 0 ≤ (cd).toInt ∧ (cd).toInt ≤ 1600) (dp : Int32) (f_dp : S.1 0 42 = .int dp) (b_dp : 0 ≤ (dp).toInt ∧ (dp).toInt ≤ 20) (on : Int32) (f_on : S.1 0 43 = .int on) (om : Int32) (f_om : S.1 0 45 = .int om) (b_om : 0 ≤ (om).toInt ∧ (om).toInt ≤ 500) (oo : Int32) (f_oo : S.1 0 46 = .int oo) (b_oo : 1 ≤ (oo).toInt ∧ (oo).toInt ≤ 1) (lw : Int32) (f_lw : S.1 0 36 = .int lw) (b_lw : 0 ≤ (lw).toInt ∧ (lw).toInt ≤ 2) (hlx : (sa).toInt ≤ (se).toInt ∧ (se).toInt ≤ (sl).toInt ∧ ((sg).toInt ≠ 0 → (sa).toInt + 1 ≤ (se).toInt)) (hro : (cd).toInt + (om).toInt + (dp).toInt ≤ (sa).toInt) (TK : TKM tb tn S) (ZW : ZWM S) (ZK : ZKM S) (P1 : P1M S) (HA : (S.2.1 23 ((dp : Int32).toNatClampNeg - 1)).toInt < 2 ∧ (g_so (T_kd tb tn) (T_vl tb tn) (t_ix tb tn (sa : Int32).toNatClampNeg) = true ∨ g_po (T_kd tb tn) (T_vl tb tn) (t_ix tb tn (sa : Int32).toNatClampNeg) = true)) (I : CM o S) (sz : Nat) : Met l yX12_goesOn (bw yX12_goesOn cX12_goesOn 5 (some .boolean)) ({ frames := 3, cells := 0, slots := 0, locals := 77 } : Room) (dk_Pc g D (dg_w g shM o rfM S) sz [.ref (o + 0)]) (va_Qi (fun (r : Int32) S' => CM o S' ∧ dg_sm shM [(0, 3), (0, 4), (0, 5), (0, 6), (0, 7), (0, 8), (0, 9), (0, 12), (0, 34), (0, 42), (0, 43), (0, 45), (0, 46)] [18, 19, 22, 23, 24, 27] S S' ∧ (0 ≤ (r).toInt ∧ (r).toInt ≤ 1) ∧ (∃ y9_3 y9_4 y9_5 y9_8 y9_34 y9_42 y9_45 y9_46 : Int32, S'.1 0 3 = .int y9_3 ∧ S'.1 0 4 = .int y9_4 ∧ S'.1 0 5 = .int y9_5 ∧ S'.1 0 8 = .int y9_8 ∧ S'.1 0 34 = .int y9_34 ∧ S'.1 0 42 = .int y9_42 ∧ S'.1 0 45 = .int y9_45 ∧ S'.1 0 46 = .int y9_46 ∧ (((y9_4).toInt ≤ (y9_5).toInt ∧ (y9_5).toInt ≤ (sl).toInt ∧ ((y9_3).toInt ≠ 0 → (y9_4).toInt + 1 ≤ (y9_5).toInt)) ∧ (sa).toInt ≤ (y9_4).toInt ∧ ((fk).toInt ≠ 0 → (y9_8).toInt ≠ 0) ∧ (((y9_8).toInt = 0 → (r).toInt = 1 → (sa).toInt + 1 ≤ (y9_4).toInt) ∧ ((y9_8).toInt = 0 → (y9_34).toInt + (y9_45).toInt + (y9_42).toInt ≤ (y9_4).toInt)))) ∧ (∀ k9 : Int32, S'.1 0 8 = .int k9 → k9.toInt = 0 → POM S') ∧ (GOK tb tn (lw).toInt S S' r) ∧ TKM tb tn S' ∧ ZWM S' ∧ True) (dg_B g D shM o rfM) (dg_A o shM.length sz)) 0 0 (dg_A o shM.length sz) := by
  refine dg_met (cc := cX12_goesOn) (maxL := 5) (ret := (some .boolean)) (by decide) rfl (Nat.le_of_ble_eq_true rfl) ?_
  intro p e s m args below meth c A hAe harg hx hb hr hml hts hown hlocks hin hP K hS hA1 hA ST hsz ls hl
  rw [← hAe]
  have F : CallFix p m c cX12_goesOn 5 s args (bw yX12_goesOn cX12_goesOn 5 (some .boolean)) RX12 := ⟨hx, hb, hml, hown, hts⟩
  have hl : lv_has ls 5 [(0, .ref (o + 0))] := hl
  have M_0 : dg_sm shM [(0, 3), (0, 4), (0, 5), (0, 6), (0, 7), (0, 8), (0, 9), (0, 12), (0, 34), (0, 42), (0, 43), (0, 45), (0, 46)] [18, 19, 22, 23, 24, 27] S S := dg_sm.rf
  obtain ⟨Q9, hQ9⟩ : ∃ Q : State → Prop, Q = MQ below (va_Qi (fun (r : Int32) S' => CM o S' ∧ dg_sm shM [(0, 3), (0, 4), (0, 5), (0, 6), (0, 7), (0, 8), (0, 9), (0, 12), (0, 34), (0, 42), (0, 43), (0, 45), (0, 46)] [18, 19, 22, 23, 24, 27] S S' ∧ (0 ≤ (r).toInt ∧ (r).toInt ≤ 1) ∧ (∃ y9_3 y9_4 y9_5 y9_8 y9_34 y9_42 y9_45 y9_46 : Int32, S'.1 0 3 = .int y9_3 ∧ S'.1 0 4 = .int y9_4 ∧ S'.1 0 5 = .int y9_5 ∧ S'.1 0 8 = .int y9_8 ∧ S'.1 0 34 = .int y9_34 ∧ S'.1 0 42 = .int y9_42 ∧ S'.1 0 45 = .int y9_45 ∧ S'.1 0 46 = .int y9_46 ∧ (((y9_4).toInt ≤ (y9_5).toInt ∧ (y9_5).toInt ≤ (sl).toInt ∧ ((y9_3).toInt ≠ 0 → (y9_4).toInt + 1 ≤ (y9_5).toInt)) ∧ (sa).toInt ≤ (y9_4).toInt ∧ ((fk).toInt ≠ 0 → (y9_8).toInt ≠ 0) ∧ (((y9_8).toInt = 0 → (r).toInt = 1 → (sa).toInt + 1 ≤ (y9_4).toInt) ∧ ((y9_8).toInt = 0 → (y9_34).toInt + (y9_45).toInt + (y9_42).toInt ≤ (y9_4).toInt)))) ∧ (∀ k9 : Int32, S'.1 0 8 = .int k9 → k9.toInt = 0 → POM S') ∧ (GOK tb tn (lw).toInt S S' r) ∧ TKM tb tn S' ∧ ZWM S' ∧ True) (dg_B g D shM o rfM) A) args s 0 0 A := ⟨_, rfl⟩
  rw [← hQ9]
  obtain ⟨hlx_0, hlx_1, hlx_2⟩ := hlx
  have lxh_hlx_2 : m_hid ((sa).toInt ≤ (se).toInt ∧ (se).toInt ≤ (sl).toInt ∧ ((sg).toInt ≠ 0 → (sa).toInt + 1 ≤ (se).toInt)) := m_hid.mk ⟨hlx_0, hlx_1, hlx_2⟩
  have hdm_0 := PSM.dims P1 f_dp f_on f_om
  refine lv_aload_n hx hb dX12_goesOn_0 rfl (lv_at hl 0 rfl) ?_
  refine dg_callv hS hA1 hA (va_runV (As := []) (rest := []) F (c_m_lex l g D o S tb tn fk f_fk (by omega) sa f_sa (by omega) TK I s.heap.size) (cwV 0 hts (bw_V wB_310 wB_311 wB_312 wB_297 wB_309) rfl rfl rfl (by decide +kernel) ⟨Nat.le_of_ble_eq_true rfl, Nat.le_of_ble_eq_true rfl⟩) (dg_preV sM_0 rfl K ST hP hS hA1 hA) rfl rfl hl.1 rfl (lv_room (Nat.le_of_ble_eq_true rfl)) dX12_goesOn_1 ⟨Nat.le_of_ble_eq_true rfl, Nat.le_of_ble_eq_true rfl⟩) (fun S_2 hw_2 H locs hP hS => ?_)
  obtain ⟨I_2, m_2, w_2_0, -⟩ := hw_2
  have M_2 := dg_sm.tr M_0 m_2 (by decide) (by decide)
  obtain ⟨y_3, f_y_3, w_2_0⟩ := w_2_0
  have w_2_0 : ((fk).toInt ≠ 0 → (y_3).toInt = (fk).toInt) ∧ ((fk).toInt = 0 → ((y_3).toInt = 0 ↔ (T_kd tb tn (t_ix tb tn (sa : Int32).toNatClampNeg)).toInt ≠ 5)) := w_2_0
  obtain ⟨w_2_0_0, w_2_0_1⟩ := w_2_0
  have b_y_3 : 0 ≤ (y_3).toInt ∧ (y_3).toInt ≤ 6 := dg_I.intb (lo := 0) (hi := 6) I_2 sM_0 (by decide +kernel) f_y_3
  refine lv_aload_n hx hb dX12_goesOn_4 rfl (lv_at hl 0 rfl) ?_
  refine dg_get (C := RX12) (T := TX12) (N := 77) hx hb hts (fun w h => bw_mem (wU_X12 w h)) hown K hP sM_0 rfl 8 (by decide) (hts _ (bw_mem wB_303)) (fun _ h9 => h9) (v := .int y_3) f_y_3 dX12_goesOn_5 ?_
  refine lv_if_le (tgt := 13) hx hb dX12_goesOn_8 (by decide) (fun c_4 => ?_) (fun c_4 => ?_)
  · have jc_4 := dk_lec (k := 0) (by decide +kernel) c_4
    have w_2_0_0c : (fk).toInt = 0 := by omega
    clear w_2_0_0
    have w_2_0_1r := w_2_0_1 (by omega)
    clear w_2_0_1
    have hk5 := m_hid.mk (show (T_kd tb tn (t_ix tb tn (sa : Int32).toNatClampNeg)).toInt ≠ 5 from by omega)
    clear w_2_0_1r
    refine lv_aload_n hx hb dX12_goesOn_13 rfl (lv_at hl 0 rfl) ?_
    refine dg_get (C := RX12) (T := TX12) (N := 77) hx hb hts (fun w h => bw_mem (wU_X12 w h)) hown K hP sM_0 rfl 42 (by decide) (hts _ (bw_mem wB_406)) (fun _ h9 => h9) (v := .int dp) ((m_2.1 0 42 _ sM_0 (by decide)).trans f_dp) dX12_goesOn_14 ?_
    refine lv_iconst (v := 1) hx hb dX12_goesOn_17 (by decide +kernel) ?_
    refine lv_isub hx hb dX12_goesOn_18 ?_
    refine lv_topi (fun x_5 ex_5 => ?_)
    have jx_5 : (x_5).toInt = (dp).toInt - 1 := by rw [ex_5]; exact dk_subT rfl (by decide +kernel) (by omega) (by omega)
    refine lv_istore_n (lv' := [(1, .int x_5), (0, .ref (o + 0))]) hx hb dX12_goesOn_19 rfl hl (by decide) rfl (fun ls hl => ?_)
    refine lv_aload_n hx hb dX12_goesOn_20 rfl (lv_at hl 1 rfl) ?_
    refine dg_get (C := RX12) (T := TX12) (N := 77) hx hb hts (fun w h => bw_mem (wU_X12 w h)) hown K hP sM_0 rfl 37 (by decide) (hts _ (bw_mem wB_416)) (fun _ h9 => h9) (v := .ref (o + 22)) (show S_2.1 0 37 = .ref (o + 22) from dg_I.rel (d := 22) I_2 sM_0 (by decide +kernel)) dX12_goesOn_21 ?_
    refine lv_iload_n hx hb dX12_goesOn_24 rfl (lv_at hl 0 rfl) ?_
    have hin_6 : vp_in x_5 20 := (dk_inv (by omega) (by omega))
    refine dg_iald hx hb K hP sM_22 hin_6 dX12_goesOn_25 (fun x_7 ex_7 => ?_)
    have b_x_7 := dk_all_at (dg_I.row (lo := 0) (hi := 6) I_2 sM_22 (by decide +kernel)) hin_6 ex_7
    refine lv_istore_n (lv' := [(2, .int x_7), (1, .int x_5), (0, .ref (o + 0))]) hx hb dX12_goesOn_26 rfl hl (by decide) rfl (fun ls hl => ?_)
    refine lv_iload_n hx hb dX12_goesOn_27 rfl (lv_at hl 0 rfl) ?_
    refine dg_calli hS hA1 hA (va_runS (As := [.int x_7]) (rest := []) F (c_m_isTest l g D o S_2 x_7 I_2 H.size) (va_cwS 1 hts (bw_S wB_424 wB_425 wB_297 wB_423) rfl rfl rfl (by decide +kernel) ⟨Nat.le_of_ble_eq_true rfl, Nat.le_of_ble_eq_true rfl⟩) (dg_preS K ST hP hS hA1 hA) rfl rfl hl.1 rfl (lv_room (Nat.le_of_ble_eq_true rfl)) dX12_goesOn_28 ⟨Nat.le_of_ble_eq_true rfl, Nat.le_of_ble_eq_true rfl⟩) (fun x_8 S_9 hw_9 H locs hP hS => ?_)
    rw [hw_9.1] at hP
    obtain ⟨hq_9, w_9_0, w_9_1, -⟩ := hw_9
    have w_9_0 : 0 ≤ (x_8).toInt ∧ (x_8).toInt ≤ 1 := w_9_0
    have w_9_1 : (x_8).toInt = 1 ↔ ((x_7).toInt = 1 ∨ (x_7).toInt = 5 ∨ (x_7).toInt = 6) := w_9_1
    refine lv_istore_n (lv' := [(3, .int x_8), (2, .int x_7), (1, .int x_5), (0, .ref (o + 0))]) hx hb dX12_goesOn_31 rfl hl (by decide) rfl (fun ls hl => ?_)
    refine lv_aload_n hx hb dX12_goesOn_32 rfl (lv_at hl 3 rfl) ?_
    refine dg_get (C := RX12) (T := TX12) (N := 77) hx hb hts (fun w h => bw_mem (wU_X12 w h)) hown K hP sM_0 rfl 38 (by decide) (hts _ (bw_mem wB_417)) (fun _ h9 => h9) (v := .ref (o + 23)) (show S_2.1 0 38 = .ref (o + 23) from dg_I.rel (d := 23) I_2 sM_0 (by decide +kernel)) dX12_goesOn_33 ?_
    refine lv_iload_n hx hb dX12_goesOn_36 rfl (lv_at hl 2 rfl) ?_
    have hin_10 : vp_in x_5 20 := (dk_inv (by omega) (by omega))
    refine dg_iald hx hb K hP sM_23 hin_10 dX12_goesOn_37 (fun x_11 ex_11 => ?_)
    have b_x_11 := dk_all_at (dg_I.row (lo := 0) (hi := 2) I_2 sM_23 (by decide +kernel)) hin_10 ex_11
    obtain ⟨nt0, R0, TF0⟩ := TFM.start (P1M.keep P1 m_2 (by decide) (by decide) (by decide) (by decide) (by decide) (by decide) (by decide) (by decide) (by decide) (by decide) (by decide) (by decide) (by decide) (by decide) (by decide)) ((m_2.1 0 42 _ sM_0 (by decide)).trans f_dp) ((m_2.1 0 43 _ sM_0 (by decide)).trans f_on) ((m_2.1 0 45 _ sM_0 (by decide)).trans f_om) (fx := x_5) (by omega) ex_7.symm ex_11.symm
    obtain ⟨bg0, hbg0⟩ : ∃ b, b = decide ((S_2.2.1 24 (x_5 : Int32).toNatClampNeg).toInt = 1) := ⟨_, rfl⟩
    rw [← hbg0] at TF0
    clear hbg0
    have hM0 : MSv S (t_ix tb tn (sa : Int32).toNatClampNeg) true = (0, ((x_7).toInt, (x_11).toInt, bg0, nt0) :: R0, (on).toNatClampNeg, (t_ix tb tn (sa : Int32).toNatClampNeg), true) := (MSv.keep m_2 (by decide) (by decide) (by decide) (by decide) (by decide) (by decide) (by decide) (by decide)).trans TF0.ms
    replace w_9_1 := m_hid.mk w_9_1
    have hpv9 : (S.2.1 23 ((dp : Int32).toNatClampNeg - 1)).toInt = (x_11).toInt := by rw [show (dp : Int32).toNatClampNeg - 1 = (x_5 : Int32).toNatClampNeg from by have h8 := dk_clN dp; have h9 := dk_clN x_5; omega]; exact congrArg Int32.toInt ((congrFun (m_2.2 23 _ sM_23 (by decide)).1 _).symm.trans ex_11.symm)
    have hfv9 : (S.2.1 22 ((dp : Int32).toNatClampNeg - 1)).toInt = (x_7).toInt := by rw [show (dp : Int32).toNatClampNeg - 1 = (x_5 : Int32).toNatClampNeg from by have h8 := dk_clN dp; have h9 := dk_clN x_5; omega]; exact congrArg Int32.toInt ((congrFun (m_2.2 22 _ sM_22 (by decide)).1 _).symm.trans ex_7.symm)
    refine lv_iconst (v := 2) hx hb dX12_goesOn_38 (by decide +kernel) ?_
    have J_143 : ∀ (u9 : Unit), (m_hid ((x_11).toInt < 2 → g_so (T_kd tb tn) (T_vl tb tn) (t_ix tb tn (sa : Int32).toNatClampNeg) = false ∧ g_po (T_kd tb tn) (T_vl tb tn) (t_ix tb tn (sa : Int32).toNatClampNeg) = false)) → ∀ (H : Heap) (locs : List Loc), va_P D vwCl (dg_w g shM o rfM S_2) H → va_S A s.heap H locs → ∀ ls : Array Slot, lv_has ls 5 [(3, .int x_8), (2, .int x_7), (1, .int x_5), (0, .ref (o + 0))] → W p l e ({ frames := 3, cells := 0, slots := 0, locals := 77 } : Room) s m args below meth c H locs 0 0 Q9 (F0 m 188 ls []) := by
      intro u9 rel_0 H locs hP hS ls hl
      have hnop := rel_0
      exact (by rcases HA.2 with q9 | q9; exact absurd (q9.symm.trans (hnop.out (by have h9 := HA.1; omega)).1) (by decide); exact absurd (q9.symm.trans (hnop.out (by have h9 := HA.1; omega)).2) (by decide) : False).elim
    refine lv_icmp_ge (tgt := 188) hx hb dX12_goesOn_39 (by decide) (fun c_144 => ?_) (fun c_144 => ?_)
    · have jc_144 := dk_gec (k := 2) (by decide +kernel) c_144
      exact J_143 ()  (m_hid.mk (fun q9 => by exfalso; omega)) _ _ hP hS _ (lv_sub hl [0, 1, 2, 3] rfl)
    · have jc_144 := dk_ngec (k := 2) (by decide +kernel) c_144
      refine lv_aload_n hx hb dX12_goesOn_42 rfl (lv_at hl 3 rfl) ?_
      refine lv_bipush (v := 43) hx hb dX12_goesOn_43 (by decide +kernel) ?_
      refine dg_calli hS hA1 hA (va_runV (As := [.int 43]) (rest := []) F (c_m_isSign l g D o S_2 43 sg ((m_2.1 0 3 _ sM_0 (by decide)).trans f_sg) (by omega) va ((m_2.1 0 6 _ sM_0 (by decide)).trans f_va) (by omega) I_2 H.size) (cwV 1 hts (bw_V wB_314 wB_315 wB_316 wB_297 wB_313) rfl rfl rfl (by decide +kernel) ⟨Nat.le_of_ble_eq_true rfl, Nat.le_of_ble_eq_true rfl⟩) (dg_preV sM_0 rfl K ST hP hS hA1 hA) rfl rfl hl.1 rfl (lv_room (Nat.le_of_ble_eq_true rfl)) dX12_goesOn_45 ⟨Nat.le_of_ble_eq_true rfl, Nat.le_of_ble_eq_true rfl⟩) (fun x_145 S_146 hw_146 H locs hP hS => ?_)
      rw [hw_146.1] at hP
      obtain ⟨hq_146, w_146_0, w_146_1, -⟩ := hw_146
      have hz_147 : (43 : Int32).toInt = 43 := by decide +kernel
      have w_146_0 : 0 ≤ (x_145).toInt ∧ (x_145).toInt ≤ 1 := w_146_0
      have w_146_1 : (x_145).toInt = 1 ↔ ((sg).toInt = 3 ∧ (va).toInt = ((43 : Int32)).toInt) := w_146_1
      have J_275 : ∀ (u9 : Unit), ((sg).toInt = 3) → ((va).toInt = 43 ∨ (va).toInt = 45 ∨ (va).toInt = 42 ∨ (va).toInt = 47 ∨ (va).toInt = 37) → (m_hid (g_so (T_kd tb tn) (T_vl tb tn) (t_ix tb tn (sa : Int32).toNatClampNeg) = true ∨ g_po (T_kd tb tn) (T_vl tb tn) (t_ix tb tn (sa : Int32).toNatClampNeg) = true)) → ∀ (H : Heap) (locs : List Loc), va_P D vwCl (dg_w g shM o rfM S_2) H → va_S A s.heap H locs → ∀ ls : Array Slot, lv_has ls 5 [(3, .int x_8), (2, .int x_7), (1, .int x_5), (0, .ref (o + 0))] → W p l e ({ frames := 3, cells := 0, slots := 0, locals := 77 } : Room) s m args below meth c H locs 0 0 Q9 (F0 m 87 ls []) := by
        intro u9 rel_0 rel_1 rel_2 H locs hP hS ls hl
        clear w_146_1
        have hop := rel_2
        have hlx_2r := hlx_2 (by omega)
        clear hlx_2
        refine lv_aload_n hx hb dX12_goesOn_87 rfl (lv_at hl 3 rfl) ?_
        refine lv_aload_n hx hb dX12_goesOn_88 rfl (lv_at hl 3 rfl) ?_
        refine lv_bipush (v := 43) hx hb dX12_goesOn_89 (by decide +kernel) ?_
        refine dg_calli hS hA1 hA (va_runV (As := [.int 43]) (rest := [.ref (o + 0)]) F (c_m_isSign l g D o S_2 43 sg ((m_2.1 0 3 _ sM_0 (by decide)).trans f_sg) (by omega) va ((m_2.1 0 6 _ sM_0 (by decide)).trans f_va) (by omega) I_2 H.size) (cwV 1 hts (bw_V wB_314 wB_315 wB_316 wB_297 wB_313) rfl rfl rfl (by decide +kernel) ⟨Nat.le_of_ble_eq_true rfl, Nat.le_of_ble_eq_true rfl⟩) (dg_preV sM_0 rfl K ST hP hS hA1 hA) rfl rfl hl.1 rfl (lv_room (Nat.le_of_ble_eq_true rfl)) dX12_goesOn_91 ⟨Nat.le_of_ble_eq_true rfl, Nat.le_of_ble_eq_true rfl⟩) (fun x_276 S_277 hw_277 H locs hP hS => ?_)
        rw [hw_277.1] at hP
        obtain ⟨hq_277, w_277_0, w_277_1, -⟩ := hw_277
        have hz_278 : (43 : Int32).toInt = 43 := by decide +kernel
        have w_277_0 : 0 ≤ (x_276).toInt ∧ (x_276).toInt ≤ 1 := w_277_0
        have w_277_1 : (x_276).toInt = 1 ↔ ((sg).toInt = 3 ∧ (va).toInt = ((43 : Int32)).toInt) := w_277_1
        refine lv_if_ne (tgt := 106) hx hb dX12_goesOn_94 (by decide) (fun c_279 => ?_) (fun c_279 => ?_)
        · have jc_279 := dk_neqc (k := 0) (by decide +kernel) c_279
          have jbc_279 : 1 ≤ (x_276).toInt := by omega
          clear jc_279
          have w_277_1_r := w_277_1.mp (by omega)
          obtain ⟨w_277_1_r1, w_277_1_r2⟩ := w_277_1_r
          clear rel_1
          clear w_277_1
          refine lv_iconst (v := 5) hx hb dX12_goesOn_106 (by decide +kernel) ?_
          refine lv_goto (tgt := 112) hx hb dX12_goesOn_107 (by decide) ?_
          have hz_280 : (5 : Int32).toInt = 5 := by decide +kernel
          refine dg_callv hS hA1 hA (va_runV (As := [.int 5]) (rest := []) F (c_m_joins l g D o S_2 5 (by decide +kernel) cd ((m_2.1 0 34 _ sM_0 (by decide)).trans f_cd) (by omega) om ((m_2.1 0 45 _ sM_0 (by decide)).trans f_om) (by omega) (by omega) (ZWM.keep ZW m_2 (by decide) (by decide) (by decide) (by decide)) (ZKM.keep ZK m_2 (by decide) (by decide)) (P1M.keep P1 m_2 (by decide) (by decide) (by decide) (by decide) (by decide) (by decide) (by decide) (by decide) (by decide) (by decide) (by decide) (by decide) (by decide) (by decide) (by decide)) I_2 H.size) (cwV 1 hts (bw_V wB_437 wB_438 wB_439 wB_297 wB_436) rfl rfl rfl (by decide +kernel) ⟨Nat.le_of_ble_eq_true rfl, Nat.le_of_ble_eq_true rfl⟩) (dg_preV sM_0 rfl K ST hP hS hA1 hA) rfl rfl hl.1 rfl (lv_room (Nat.le_of_ble_eq_true rfl)) dX12_goesOn_112 ⟨Nat.le_of_ble_eq_true rfl, Nat.le_of_ble_eq_true rfl⟩) (fun S_281 hw_281 H locs hP hS => ?_)
          obtain ⟨I_281, m_281, w_281_0, w_281_1, w_281_2, w_281_3, w_281_4, -⟩ := hw_281
          have M_281 := dg_sm.tr M_2 m_281 (by decide) (by decide)
          have hz_282 : (5 : Int32).toInt = 5 := by decide +kernel
          obtain ⟨y_283, y_284, f_y_283, f_y_284, w_281_0⟩ := w_281_0
          have w_281_0 : (y_283).toInt + (y_284).toInt = (cd).toInt + (om).toInt := w_281_0
          have b_y_283 : 0 ≤ (y_283).toInt ∧ (y_283).toInt ≤ 1600 := dg_I.intb (lo := 0) (hi := 1600) I_281 sM_0 (by decide +kernel) f_y_283
          have b_y_284 : 0 ≤ (y_284).toInt ∧ (y_284).toInt ≤ 500 := dg_I.intb (lo := 0) (hi := 500) I_281 sM_0 (by decide +kernel) f_y_284
          replace w_281_1 : TOPM S_281 (5 : Int32) := w_281_1
          obtain ⟨x_285, f_x_285, b_x_285⟩ := dg_I.int (i := 0) (k := 43) (lo := (-2147483648)) (hi := 2147483647) I_281 sM_0 (by decide +kernel)
          replace w_281_2 : JNM S_2 S_281 (5 : Int32) := w_281_2
          have TF_281 : TFM (x_7).toInt (x_11).toInt bg0 nt0 R0 (on).toNatClampNeg S_281 := (TFM.join TF0 (P1M.keep P1 m_2 (by decide) (by decide) (by decide) (by decide) (by decide) (by decide) (by decide) (by decide) (by decide) (by decide) (by decide) (by decide) (by decide) (by decide) (by decide)) ((m_2.1 0 42 _ sM_0 (by decide)).trans f_dp) ((m_2.1 0 43 _ sM_0 (by decide)).trans f_on) ((m_2.1 0 45 _ sM_0 (by decide)).trans f_om) w_281_2 w_281_1 m_281 (by decide) (by decide) (by decide) (by decide) (by decide) (by decide)).1 (by decide +kernel)
          have hdm_285 := PSM.dims w_281_4 (((m_281.1 0 42 _ sM_0 (by decide)).trans (m_2.1 0 42 _ sM_0 (by decide))).trans f_dp) f_x_285 f_y_284
          refine lv_aload_n hx hb dX12_goesOn_115 rfl (lv_at hl 3 rfl) ?_
          refine lv_aload_n hx hb dX12_goesOn_116 rfl (lv_at hl 3 rfl) ?_
          refine lv_bipush (v := 43) hx hb dX12_goesOn_117 (by decide +kernel) ?_
          refine dg_calli hS hA1 hA (va_runV (As := [.int 43]) (rest := [.ref (o + 0)]) F (c_m_isSign l g D o S_281 43 sg (((m_281.1 0 3 _ sM_0 (by decide)).trans (m_2.1 0 3 _ sM_0 (by decide))).trans f_sg) (by omega) va (((m_281.1 0 6 _ sM_0 (by decide)).trans (m_2.1 0 6 _ sM_0 (by decide))).trans f_va) (by omega) I_281 H.size) (cwV 1 hts (bw_V wB_314 wB_315 wB_316 wB_297 wB_313) rfl rfl rfl (by decide +kernel) ⟨Nat.le_of_ble_eq_true rfl, Nat.le_of_ble_eq_true rfl⟩) (dg_preV sM_0 rfl K ST hP hS hA1 hA) rfl rfl hl.1 rfl (lv_room (Nat.le_of_ble_eq_true rfl)) dX12_goesOn_119 ⟨Nat.le_of_ble_eq_true rfl, Nat.le_of_ble_eq_true rfl⟩) (fun x_287 S_288 hw_288 H locs hP hS => ?_)
          rw [hw_288.1] at hP
          obtain ⟨hq_288, w_288_0, w_288_1, -⟩ := hw_288
          have hz_289 : (43 : Int32).toInt = 43 := by decide +kernel
          have w_288_0 : 0 ≤ (x_287).toInt ∧ (x_287).toInt ≤ 1 := w_288_0
          have w_288_1 : (x_287).toInt = 1 ↔ ((sg).toInt = 3 ∧ (va).toInt = ((43 : Int32)).toInt) := w_288_1
          have J_309 : ∀ (H : Heap) (locs : List Loc), va_P D vwCl (dg_w g shM o rfM S_281) H → va_S A s.heap H locs → ∀ ls : Array Slot, lv_has ls 5 [(3, .int x_8), (2, .int x_7), (1, .int x_5), (0, .ref (o + 0))] → W p l e ({ frames := 3, cells := 0, slots := 0, locals := 77 } : Room) s m args below meth c H locs 0 0 Q9 (F0 m 174 ls [.int 31, .ref (o + 0)]) := by
            intro H locs hP hS ls hl
            clear w_288_1
            refine dg_callv hS hA1 hA (va_runV (As := [.int 31]) (rest := []) F (c_m_holdsBack l g D o S_281 31 y_284 f_y_284 (by omega) I_281 H.size) (cwV 1 hts (bw_V wB_427 wB_428 wB_429 wB_297 wB_426) rfl rfl rfl (by decide +kernel) ⟨Nat.le_of_ble_eq_true rfl, Nat.le_of_ble_eq_true rfl⟩) (dg_preV sM_0 rfl K ST hP hS hA1 hA) rfl rfl hl.1 rfl (lv_room (Nat.le_of_ble_eq_true rfl)) dX12_goesOn_174 ⟨Nat.le_of_ble_eq_true rfl, Nat.le_of_ble_eq_true rfl⟩) (fun S_310 hw_310 H locs hP hS => ?_)
            obtain ⟨I_310, m_310, w_310_0, w_310_1, -⟩ := hw_310
            have M_310 := dg_sm.tr M_281 m_310 (by decide) (by decide)
            have hz_311 : (31 : Int32).toInt = 31 := by decide +kernel
            obtain ⟨y_312, f_y_312, w_310_0⟩ := w_310_0
            have w_310_0 : (y_312).toInt = (y_284).toInt + 1 := w_310_0
            have b_y_312 : 0 ≤ (y_312).toInt ∧ (y_312).toInt ≤ 500 := dg_I.intb (lo := 0) (hi := 500) I_310 sM_0 (by decide +kernel) f_y_312
            replace w_310_1 : HBM S_281 S_310 (31 : Int32) := w_310_1
            have P0_310 : P0M S_310 := P1M.bin w_281_4 (((m_281.1 0 42 _ sM_0 (by decide)).trans (m_2.1 0 42 _ sM_0 (by decide))).trans f_dp) f_x_285 f_y_284 w_281_1 m_310 w_310_1 (by omega)
            have hz_313 : (31 : Int32).toInt = 31 := by decide +kernel
            have TF_310 : TFM (x_7).toInt (x_11).toInt bg0 nt0 R0 (on).toNatClampNeg S_310 := (by have h9 := TFM.hb TF_281 (((m_281.1 0 42 _ sM_0 (by decide)).trans (m_2.1 0 42 _ sM_0 (by decide))).trans f_dp) f_x_285 f_y_284 (by omega) m_310 w_310_1; rw [if_neg (by omega)] at h9; exact h9)
            refine lv_aload_n hx hb dX12_goesOn_177 rfl (lv_at hl 3 rfl) ?_
            refine dg_callv hS hA1 hA (va_runV (As := []) (rest := []) F (c_m_ahead l g D o S_310 tb tn se (((m_310.1 0 5 _ sM_0 (by decide)).trans ((m_281.1 0 5 _ sM_0 (by decide)).trans (m_2.1 0 5 _ sM_0 (by decide)))).trans f_se) (by omega) sl (((m_310.1 0 2 _ sM_0 (by decide)).trans ((m_281.1 0 2 _ sM_0 (by decide)).trans (m_2.1 0 2 _ sM_0 (by decide)))).trans f_sl) (by omega) (by omega) (TKM.keep (TKM.keep (TKM.keep TK m_2 (by decide) (by decide) (by decide) (by decide) (by decide) (by decide) (by decide) (by decide)) m_281 (by decide) (by decide) (by decide) (by decide) (by decide) (by decide) (by decide) (by decide)) m_310 (by decide) (by decide) (by decide) (by decide) (by decide) (by decide) (by decide) (by decide)).1 I_310 H.size) (cwV 0 hts (bw_V wB_318 wB_319 wB_320 wB_297 wB_317) rfl rfl rfl (by decide +kernel) ⟨Nat.le_of_ble_eq_true rfl, Nat.le_of_ble_eq_true rfl⟩) (dg_preV sM_0 rfl K ST hP hS hA1 hA) rfl rfl hl.1 rfl (lv_room (Nat.le_of_ble_eq_true rfl)) dX12_goesOn_178 ⟨Nat.le_of_ble_eq_true rfl, Nat.le_of_ble_eq_true rfl⟩) (fun S_314 hw_314 H locs hP hS => ?_)
            obtain ⟨I_314, m_314, w_314_0, w_314_1, -⟩ := hw_314
            have M_314 := dg_sm.tr M_310 m_314 (by decide) (by decide)
            obtain ⟨y_315, y_316, y_317, f_y_315, f_y_316, f_y_317, w_314_0⟩ := w_314_0
            have w_314_0 : (se).toInt ≤ (y_316).toInt ∧ (y_316).toInt ≤ (y_317).toInt ∧ (y_317).toInt ≤ (sl).toInt ∧ ((y_315).toInt ≠ 0 → (y_316).toInt + 1 ≤ (y_317).toInt) := w_314_0
            obtain ⟨w_314_0_0, w_314_0_1, w_314_0_2, w_314_0_3⟩ := w_314_0
            have lxh_w_314_0_3 : m_hid ((y_316).toInt ≤ (y_317).toInt ∧ (y_317).toInt ≤ (sl).toInt ∧ ((y_315).toInt ≠ 0 → (y_316).toInt + 1 ≤ (y_317).toInt)) := m_hid.mk ⟨w_314_0_1, w_314_0_2, w_314_0_3⟩
            have b_y_315 : 0 ≤ (y_315).toInt ∧ (y_315).toInt ≤ 3 := dg_I.intb (lo := 0) (hi := 3) I_314 sM_0 (by decide +kernel) f_y_315
            have b_y_316 : 0 ≤ (y_316).toInt ∧ (y_316).toInt ≤ 1600 := dg_I.intb (lo := 0) (hi := 1600) I_314 sM_0 (by decide +kernel) f_y_316
            have b_y_317 : 0 ≤ (y_317).toInt ∧ (y_317).toInt ≤ 1600 := dg_I.intb (lo := 0) (hi := 1600) I_314 sM_0 (by decide +kernel) f_y_317
            replace w_314_1 : TNX tb tn se S_314 := w_314_1
            obtain ⟨TK_314, nx_314, -⟩ := TKM.nx (TKM.keep (TKM.keep (TKM.keep TK m_2 (by decide) (by decide) (by decide) (by decide) (by decide) (by decide) (by decide) (by decide)) m_281 (by decide) (by decide) (by decide) (by decide) (by decide) (by decide) (by decide) (by decide)) m_310 (by decide) (by decide) (by decide) (by decide) (by decide) (by decide) (by decide) (by decide)) (((m_310.1 0 4 _ sM_0 (by decide)).trans ((m_281.1 0 4 _ sM_0 (by decide)).trans (m_2.1 0 4 _ sM_0 (by decide)))).trans f_sa) (((m_310.1 0 5 _ sM_0 (by decide)).trans ((m_281.1 0 5 _ sM_0 (by decide)).trans (m_2.1 0 5 _ sM_0 (by decide)))).trans f_se) w_314_1 m_314 (by decide) (by decide) f_y_316
            replace nx_314 := nx_314 (fun q9 => absurd ((TKM.zero (TKM.keep (TKM.keep (TKM.keep TK m_2 (by decide) (by decide) (by decide) (by decide) (by decide) (by decide) (by decide) (by decide)) m_281 (by decide) (by decide) (by decide) (by decide) (by decide) (by decide) (by decide) (by decide)) m_310 (by decide) (by decide) (by decide) (by decide) (by decide) (by decide) (by decide) (by decide)) (((m_310.1 0 3 _ sM_0 (by decide)).trans ((m_281.1 0 3 _ sM_0 (by decide)).trans (m_2.1 0 3 _ sM_0 (by decide)))).trans f_sg) (((m_310.1 0 4 _ sM_0 (by decide)).trans ((m_281.1 0 4 _ sM_0 (by decide)).trans (m_2.1 0 4 _ sM_0 (by decide)))).trans f_sa)).mpr q9) (by omega))
            refine lv_aload_n hx hb dX12_goesOn_181 rfl (lv_at hl 3 rfl) ?_
            refine lv_iconst (v := 0) hx hb dX12_goesOn_182 (by decide +kernel) ?_
            have hz_318 : (0 : Int32).toInt = 0 := by decide +kernel
            refine dg_put (ci := 12) (v := .int 0) (ty := tyX12 46) (C := RX12) (T := TX12) (N := 77) hx hb hts (fun w h => bw_mem (wU_X12 w h)) tyX12 tyX12_ok nmX12 hown K hP hS hA1 sM_0 rfl 46 (by decide) (hts _ (bw_mem wB_440)) (fun _ h9 => h9) rfl (by decide +kernel) (by decide +kernel) (by decide +kernel) dX12_goesOn_183 (fun S_319 e_319 H locs hP hS => ?_)
            have I_319 := dg_I.uFi (lo := 0) (hi := 1) I_314 e_319 sM_0 (by decide +kernel) (show 0 ≤ ((0 : Int32)).toInt ∧ ((0 : Int32)).toInt ≤ 1 from (by decide +kernel))
            have M_319 := dg_sm.uF M_314 e_319 sM_0 (by decide)
            refine lv_iconst (v := 1) hx hb dX12_goesOn_186 (by decide +kernel) ?_
            have hz_320 : (1 : Int32).toInt = 1 := by decide +kernel
            have hz_321 : (1 : Int32).toInt = 1 := by decide +kernel
            have hz_322 : (0 : Int32).toInt = 0 := by decide +kernel
            have hz_323 : (1 : Int32).toInt = 1 := by decide +kernel
            have hz_324 : (0 : Int32).toInt = 0 := by decide +kernel
            have hz_325 : (1 : Int32).toInt = 1 := by decide +kernel
            have hz_326 : (1 : Int32).toInt = 1 := by decide +kernel
            have hz_327 : (0 : Int32).toInt = 0 := by decide +kernel
            refine W.widen (k := 0) (n := 0) (Nat.le_of_ble_eq_true rfl) (Nat.le_of_ble_eq_true rfl) ?_
            rw [hQ9]
            exact dg_iret hx hb hr hlocks (by decide +kernel) hP hS ⟨I_319, M_319, (by decide +kernel), ⟨y_315, y_316, y_317, y_3, y_283, dp, y_312, 0, ((dg_uF_ne e_319 (fun z => absurd z.2 (by decide))).trans f_y_315), ((dg_uF_ne e_319 (fun z => absurd z.2 (by decide))).trans f_y_316), ((dg_uF_ne e_319 (fun z => absurd z.2 (by decide))).trans f_y_317), (((dg_uF_ne e_319 (fun z => absurd z.2 (by decide))).trans ((m_314.1 0 8 _ sM_0 (by decide)).trans ((m_310.1 0 8 _ sM_0 (by decide)).trans (m_281.1 0 8 _ sM_0 (by decide))))).trans f_y_3), (((dg_uF_ne e_319 (fun z => absurd z.2 (by decide))).trans ((m_314.1 0 34 _ sM_0 (by decide)).trans (m_310.1 0 34 _ sM_0 (by decide)))).trans f_y_283), (((dg_uF_ne e_319 (fun z => absurd z.2 (by decide))).trans ((m_314.1 0 42 _ sM_0 (by decide)).trans ((m_310.1 0 42 _ sM_0 (by decide)).trans ((m_281.1 0 42 _ sM_0 (by decide)).trans (m_2.1 0 42 _ sM_0 (by decide)))))).trans f_dp), (((dg_uF_ne e_319 (fun z => absurd z.2 (by decide))).trans (m_314.1 0 45 _ sM_0 (by decide))).trans f_y_312), (dg_uF_at e_319), ⟨lxh_w_314_0_3.out, (by omega)⟩⟩, (fun k9 hk9 hk0 => POM.mk0 (P0M.keep (P0M.keep P0_310 m_314 (by decide) (by decide) (by decide) (by decide) (by decide) (by decide) (by decide) (by decide) (by decide) (by decide) (by decide) (by decide) (by decide) (by decide) (by decide)) (dg_sm.uF (WF := [(0, 46)]) (WA := []) dg_sm.rf e_319 sM_0 (by decide)) (by decide) (by decide) (by decide) (by decide) (by decide) (by decide) (by decide) (by decide) (by decide) (by decide) (by decide) (by decide) (by decide) (by decide) (by decide)) (dg_uF_at e_319) (by omega)), (GOK.ok f_sa (((dg_uF_ne e_319 (fun z => absurd z.2 (by decide))).trans ((m_314.1 0 8 _ sM_0 (by decide)).trans ((m_310.1 0 8 _ sM_0 (by decide)).trans (m_281.1 0 8 _ sM_0 (by decide))))).trans f_y_3) ((dg_uF_ne e_319 (fun z => absurd z.2 (by decide))).trans f_y_316) (dg_uF_at e_319) (by omega) hM0 (TFM.keep (TFM.keep TF_310 m_314 (by decide) (by decide) (by decide) (by decide) (by decide) (by decide) (by decide) (by decide)) (dg_sm.uF (WF := [(0, 46)]) (WA := []) dg_sm.rf e_319 sM_0 (by decide)) (by decide) (by decide) (by decide) (by decide) (by decide) (by decide) (by decide) (by decide)) (m_st_t.trans (m_go_op (by omega) hop.out)) (by omega) (by decide +kernel) (by first | decide +kernel | exact decide_eq_true (by omega))), (TKM.keep TK_314 (dg_sm.uF (WF := [(0, 46)]) (WA := []) dg_sm.rf e_319 sM_0 (by decide)) (by decide) (by decide) (by decide) (by decide) (by decide) (by decide) (by decide) (by decide)), (ZWM.keep (ZWM.keep (ZWM.keep w_281_3 m_310 (by decide) (by decide) (by decide) (by decide)) m_314 (by decide) (by decide) (by decide) (by decide)) (dg_sm.uF (WF := [(0, 46)]) (WA := []) dg_sm.rf e_319 sM_0 (by decide)) (by decide) (by decide) (by decide) (by decide)), trivial⟩ dX12_goesOn_187
          refine lv_if_eq (tgt := 130) hx hb dX12_goesOn_122 (by decide) (fun c_328 => ?_) (fun c_328 => ?_)
          · have jc_328 := dk_eqc (k := 0) (by decide +kernel) c_328
            have w_288_1_r : (va).toInt ≠ 43 := fun q9 => absurd (w_288_1.mpr ⟨by omega, by omega⟩) (by omega)
            clear w_288_1
            omega
          · have jc_328 := dk_neqc (k := 0) (by decide +kernel) c_328
            have jbc_328 : 1 ≤ (x_287).toInt := by omega
            clear jc_328
            have w_288_1_r := w_288_1.mp (by omega)
            obtain ⟨w_288_1_r1, w_288_1_r2⟩ := w_288_1_r
            clear w_288_1
            refine lv_bipush (v := 31) hx hb dX12_goesOn_125 (by decide +kernel) ?_
            refine lv_goto (tgt := 174) hx hb dX12_goesOn_127 (by decide) ?_
            exact J_309   _ _ hP hS _ (lv_sub hl [0, 1, 2, 3] rfl)
        · have jc_279 := dk_eqc (k := 0) (by decide +kernel) c_279
          have w_277_1_r : (va).toInt ≠ 43 := fun q9 => absurd (w_277_1.mpr ⟨by omega, by omega⟩) (by omega)
          clear w_277_1
          refine lv_aload_n hx hb dX12_goesOn_97 rfl (lv_at hl 3 rfl) ?_
          refine lv_bipush (v := 45) hx hb dX12_goesOn_98 (by decide +kernel) ?_
          refine dg_calli hS hA1 hA (va_runV (As := [.int 45]) (rest := [.ref (o + 0)]) F (c_m_isSign l g D o S_2 45 sg ((m_2.1 0 3 _ sM_0 (by decide)).trans f_sg) (by omega) va ((m_2.1 0 6 _ sM_0 (by decide)).trans f_va) (by omega) I_2 H.size) (cwV 1 hts (bw_V wB_314 wB_315 wB_316 wB_297 wB_313) rfl rfl rfl (by decide +kernel) ⟨Nat.le_of_ble_eq_true rfl, Nat.le_of_ble_eq_true rfl⟩) (dg_preV sM_0 rfl K ST hP hS hA1 hA) rfl rfl hl.1 rfl (lv_room (Nat.le_of_ble_eq_true rfl)) dX12_goesOn_100 ⟨Nat.le_of_ble_eq_true rfl, Nat.le_of_ble_eq_true rfl⟩) (fun x_329 S_330 hw_330 H locs hP hS => ?_)
          rw [hw_330.1] at hP
          obtain ⟨hq_330, w_330_0, w_330_1, -⟩ := hw_330
          have hz_331 : (45 : Int32).toInt = 45 := by decide +kernel
          have w_330_0 : 0 ≤ (x_329).toInt ∧ (x_329).toInt ≤ 1 := w_330_0
          have w_330_1 : (x_329).toInt = 1 ↔ ((sg).toInt = 3 ∧ (va).toInt = ((45 : Int32)).toInt) := w_330_1
          refine lv_if_eq (tgt := 110) hx hb dX12_goesOn_103 (by decide) (fun c_332 => ?_) (fun c_332 => ?_)
          · have jc_332 := dk_eqc (k := 0) (by decide +kernel) c_332
            have w_330_1_r : (va).toInt ≠ 45 := fun q9 => absurd (w_330_1.mpr ⟨by omega, by omega⟩) (by omega)
            clear w_330_1
            refine lv_bipush (v := 6) hx hb dX12_goesOn_110 (by decide +kernel) ?_
            have hz_333 : (6 : Int32).toInt = 6 := by decide +kernel
            refine dg_callv hS hA1 hA (va_runV (As := [.int 6]) (rest := []) F (c_m_joins l g D o S_2 6 (by decide +kernel) cd ((m_2.1 0 34 _ sM_0 (by decide)).trans f_cd) (by omega) om ((m_2.1 0 45 _ sM_0 (by decide)).trans f_om) (by omega) (by omega) (ZWM.keep ZW m_2 (by decide) (by decide) (by decide) (by decide)) (ZKM.keep ZK m_2 (by decide) (by decide)) (P1M.keep P1 m_2 (by decide) (by decide) (by decide) (by decide) (by decide) (by decide) (by decide) (by decide) (by decide) (by decide) (by decide) (by decide) (by decide) (by decide) (by decide)) I_2 H.size) (cwV 1 hts (bw_V wB_437 wB_438 wB_439 wB_297 wB_436) rfl rfl rfl (by decide +kernel) ⟨Nat.le_of_ble_eq_true rfl, Nat.le_of_ble_eq_true rfl⟩) (dg_preV sM_0 rfl K ST hP hS hA1 hA) rfl rfl hl.1 rfl (lv_room (Nat.le_of_ble_eq_true rfl)) dX12_goesOn_112 ⟨Nat.le_of_ble_eq_true rfl, Nat.le_of_ble_eq_true rfl⟩) (fun S_334 hw_334 H locs hP hS => ?_)
            obtain ⟨I_334, m_334, w_334_0, w_334_1, w_334_2, w_334_3, w_334_4, -⟩ := hw_334
            have M_334 := dg_sm.tr M_2 m_334 (by decide) (by decide)
            have hz_335 : (6 : Int32).toInt = 6 := by decide +kernel
            obtain ⟨y_336, y_337, f_y_336, f_y_337, w_334_0⟩ := w_334_0
            have w_334_0 : (y_336).toInt + (y_337).toInt = (cd).toInt + (om).toInt := w_334_0
            have b_y_336 : 0 ≤ (y_336).toInt ∧ (y_336).toInt ≤ 1600 := dg_I.intb (lo := 0) (hi := 1600) I_334 sM_0 (by decide +kernel) f_y_336
            have b_y_337 : 0 ≤ (y_337).toInt ∧ (y_337).toInt ≤ 500 := dg_I.intb (lo := 0) (hi := 500) I_334 sM_0 (by decide +kernel) f_y_337
            replace w_334_1 : TOPM S_334 (6 : Int32) := w_334_1
            obtain ⟨x_338, f_x_338, b_x_338⟩ := dg_I.int (i := 0) (k := 43) (lo := (-2147483648)) (hi := 2147483647) I_334 sM_0 (by decide +kernel)
            replace w_334_2 : JNM S_2 S_334 (6 : Int32) := w_334_2
            have TF_334 : TFM (x_7).toInt (x_11).toInt bg0 nt0 R0 (on).toNatClampNeg S_334 := (TFM.join TF0 (P1M.keep P1 m_2 (by decide) (by decide) (by decide) (by decide) (by decide) (by decide) (by decide) (by decide) (by decide) (by decide) (by decide) (by decide) (by decide) (by decide) (by decide)) ((m_2.1 0 42 _ sM_0 (by decide)).trans f_dp) ((m_2.1 0 43 _ sM_0 (by decide)).trans f_on) ((m_2.1 0 45 _ sM_0 (by decide)).trans f_om) w_334_2 w_334_1 m_334 (by decide) (by decide) (by decide) (by decide) (by decide) (by decide)).1 (by decide +kernel)
            have hdm_338 := PSM.dims w_334_4 (((m_334.1 0 42 _ sM_0 (by decide)).trans (m_2.1 0 42 _ sM_0 (by decide))).trans f_dp) f_x_338 f_y_337
            refine lv_aload_n hx hb dX12_goesOn_115 rfl (lv_at hl 3 rfl) ?_
            refine lv_aload_n hx hb dX12_goesOn_116 rfl (lv_at hl 3 rfl) ?_
            refine lv_bipush (v := 43) hx hb dX12_goesOn_117 (by decide +kernel) ?_
            refine dg_calli hS hA1 hA (va_runV (As := [.int 43]) (rest := [.ref (o + 0)]) F (c_m_isSign l g D o S_334 43 sg (((m_334.1 0 3 _ sM_0 (by decide)).trans (m_2.1 0 3 _ sM_0 (by decide))).trans f_sg) (by omega) va (((m_334.1 0 6 _ sM_0 (by decide)).trans (m_2.1 0 6 _ sM_0 (by decide))).trans f_va) (by omega) I_334 H.size) (cwV 1 hts (bw_V wB_314 wB_315 wB_316 wB_297 wB_313) rfl rfl rfl (by decide +kernel) ⟨Nat.le_of_ble_eq_true rfl, Nat.le_of_ble_eq_true rfl⟩) (dg_preV sM_0 rfl K ST hP hS hA1 hA) rfl rfl hl.1 rfl (lv_room (Nat.le_of_ble_eq_true rfl)) dX12_goesOn_119 ⟨Nat.le_of_ble_eq_true rfl, Nat.le_of_ble_eq_true rfl⟩) (fun x_340 S_341 hw_341 H locs hP hS => ?_)
            rw [hw_341.1] at hP
            obtain ⟨hq_341, w_341_0, w_341_1, -⟩ := hw_341
            have hz_342 : (43 : Int32).toInt = 43 := by decide +kernel
            have w_341_0 : 0 ≤ (x_340).toInt ∧ (x_340).toInt ≤ 1 := w_341_0
            have w_341_1 : (x_340).toInt = 1 ↔ ((sg).toInt = 3 ∧ (va).toInt = ((43 : Int32)).toInt) := w_341_1
            have J_373 : ∀ (x_356 : Int32), (33 ≤ (x_356).toInt ∧ (x_356).toInt ≤ 35) → (33 ≤ (x_356 : Int32).toInt ∧ (x_356 : Int32).toInt ≤ 35) → ∀ (H : Heap) (locs : List Loc), va_P D vwCl (dg_w g shM o rfM S_334) H → va_S A s.heap H locs → ∀ ls : Array Slot, lv_has ls 5 [(3, .int x_8), (2, .int x_7), (1, .int x_5), (0, .ref (o + 0))] → W p l e ({ frames := 3, cells := 0, slots := 0, locals := 77 } : Room) s m args below meth c H locs 0 0 Q9 (F0 m 174 ls [.int x_356, .ref (o + 0)]) := by
              clear rel_1 w_277_1_r w_330_1_r
              intro x_356 b_x_356 rel_0 H locs hP hS ls hl
              clear w_341_1
              refine dg_callv hS hA1 hA (va_runV (As := [.int x_356]) (rest := []) F (c_m_holdsBack l g D o S_334 x_356 y_337 f_y_337 (by omega) I_334 H.size) (cwV 1 hts (bw_V wB_427 wB_428 wB_429 wB_297 wB_426) rfl rfl rfl (by decide +kernel) ⟨Nat.le_of_ble_eq_true rfl, Nat.le_of_ble_eq_true rfl⟩) (dg_preV sM_0 rfl K ST hP hS hA1 hA) rfl rfl hl.1 rfl (lv_room (Nat.le_of_ble_eq_true rfl)) dX12_goesOn_174 ⟨Nat.le_of_ble_eq_true rfl, Nat.le_of_ble_eq_true rfl⟩) (fun S_374 hw_374 H locs hP hS => ?_)
              obtain ⟨I_374, m_374, w_374_0, w_374_1, -⟩ := hw_374
              have M_374 := dg_sm.tr M_334 m_374 (by decide) (by decide)
              obtain ⟨y_375, f_y_375, w_374_0⟩ := w_374_0
              have w_374_0 : (y_375).toInt = (y_337).toInt + 1 := w_374_0
              have b_y_375 : 0 ≤ (y_375).toInt ∧ (y_375).toInt ≤ 500 := dg_I.intb (lo := 0) (hi := 500) I_374 sM_0 (by decide +kernel) f_y_375
              replace w_374_1 : HBM S_334 S_374 x_356 := w_374_1
              have P0_374 : P0M S_374 := P1M.bin w_334_4 (((m_334.1 0 42 _ sM_0 (by decide)).trans (m_2.1 0 42 _ sM_0 (by decide))).trans f_dp) f_x_338 f_y_337 w_334_1 m_374 w_374_1 (by omega)
              have TF_374 : TFM (x_7).toInt (x_11).toInt bg0 nt0 R0 (on).toNatClampNeg S_374 := (by have h9 := TFM.hb TF_334 (((m_334.1 0 42 _ sM_0 (by decide)).trans (m_2.1 0 42 _ sM_0 (by decide))).trans f_dp) f_x_338 f_y_337 (by omega) m_374 w_374_1; rw [if_neg (by omega)] at h9; exact h9)
              refine lv_aload_n hx hb dX12_goesOn_177 rfl (lv_at hl 3 rfl) ?_
              refine dg_callv hS hA1 hA (va_runV (As := []) (rest := []) F (c_m_ahead l g D o S_374 tb tn se (((m_374.1 0 5 _ sM_0 (by decide)).trans ((m_334.1 0 5 _ sM_0 (by decide)).trans (m_2.1 0 5 _ sM_0 (by decide)))).trans f_se) (by omega) sl (((m_374.1 0 2 _ sM_0 (by decide)).trans ((m_334.1 0 2 _ sM_0 (by decide)).trans (m_2.1 0 2 _ sM_0 (by decide)))).trans f_sl) (by omega) (by omega) (TKM.keep (TKM.keep (TKM.keep TK m_2 (by decide) (by decide) (by decide) (by decide) (by decide) (by decide) (by decide) (by decide)) m_334 (by decide) (by decide) (by decide) (by decide) (by decide) (by decide) (by decide) (by decide)) m_374 (by decide) (by decide) (by decide) (by decide) (by decide) (by decide) (by decide) (by decide)).1 I_374 H.size) (cwV 0 hts (bw_V wB_318 wB_319 wB_320 wB_297 wB_317) rfl rfl rfl (by decide +kernel) ⟨Nat.le_of_ble_eq_true rfl, Nat.le_of_ble_eq_true rfl⟩) (dg_preV sM_0 rfl K ST hP hS hA1 hA) rfl rfl hl.1 rfl (lv_room (Nat.le_of_ble_eq_true rfl)) dX12_goesOn_178 ⟨Nat.le_of_ble_eq_true rfl, Nat.le_of_ble_eq_true rfl⟩) (fun S_376 hw_376 H locs hP hS => ?_)
              obtain ⟨I_376, m_376, w_376_0, w_376_1, -⟩ := hw_376
              have M_376 := dg_sm.tr M_374 m_376 (by decide) (by decide)
              obtain ⟨y_377, y_378, y_379, f_y_377, f_y_378, f_y_379, w_376_0⟩ := w_376_0
              have w_376_0 : (se).toInt ≤ (y_378).toInt ∧ (y_378).toInt ≤ (y_379).toInt ∧ (y_379).toInt ≤ (sl).toInt ∧ ((y_377).toInt ≠ 0 → (y_378).toInt + 1 ≤ (y_379).toInt) := w_376_0
              obtain ⟨w_376_0_0, w_376_0_1, w_376_0_2, w_376_0_3⟩ := w_376_0
              have lxh_w_376_0_3 : m_hid ((y_378).toInt ≤ (y_379).toInt ∧ (y_379).toInt ≤ (sl).toInt ∧ ((y_377).toInt ≠ 0 → (y_378).toInt + 1 ≤ (y_379).toInt)) := m_hid.mk ⟨w_376_0_1, w_376_0_2, w_376_0_3⟩
              have b_y_377 : 0 ≤ (y_377).toInt ∧ (y_377).toInt ≤ 3 := dg_I.intb (lo := 0) (hi := 3) I_376 sM_0 (by decide +kernel) f_y_377
              have b_y_378 : 0 ≤ (y_378).toInt ∧ (y_378).toInt ≤ 1600 := dg_I.intb (lo := 0) (hi := 1600) I_376 sM_0 (by decide +kernel) f_y_378
              have b_y_379 : 0 ≤ (y_379).toInt ∧ (y_379).toInt ≤ 1600 := dg_I.intb (lo := 0) (hi := 1600) I_376 sM_0 (by decide +kernel) f_y_379
              replace w_376_1 : TNX tb tn se S_376 := w_376_1
              obtain ⟨TK_376, nx_376, -⟩ := TKM.nx (TKM.keep (TKM.keep (TKM.keep TK m_2 (by decide) (by decide) (by decide) (by decide) (by decide) (by decide) (by decide) (by decide)) m_334 (by decide) (by decide) (by decide) (by decide) (by decide) (by decide) (by decide) (by decide)) m_374 (by decide) (by decide) (by decide) (by decide) (by decide) (by decide) (by decide) (by decide)) (((m_374.1 0 4 _ sM_0 (by decide)).trans ((m_334.1 0 4 _ sM_0 (by decide)).trans (m_2.1 0 4 _ sM_0 (by decide)))).trans f_sa) (((m_374.1 0 5 _ sM_0 (by decide)).trans ((m_334.1 0 5 _ sM_0 (by decide)).trans (m_2.1 0 5 _ sM_0 (by decide)))).trans f_se) w_376_1 m_376 (by decide) (by decide) f_y_378
              replace nx_376 := nx_376 (fun q9 => absurd ((TKM.zero (TKM.keep (TKM.keep (TKM.keep TK m_2 (by decide) (by decide) (by decide) (by decide) (by decide) (by decide) (by decide) (by decide)) m_334 (by decide) (by decide) (by decide) (by decide) (by decide) (by decide) (by decide) (by decide)) m_374 (by decide) (by decide) (by decide) (by decide) (by decide) (by decide) (by decide) (by decide)) (((m_374.1 0 3 _ sM_0 (by decide)).trans ((m_334.1 0 3 _ sM_0 (by decide)).trans (m_2.1 0 3 _ sM_0 (by decide)))).trans f_sg) (((m_374.1 0 4 _ sM_0 (by decide)).trans ((m_334.1 0 4 _ sM_0 (by decide)).trans (m_2.1 0 4 _ sM_0 (by decide)))).trans f_sa)).mpr q9) (by omega))
              refine lv_aload_n hx hb dX12_goesOn_181 rfl (lv_at hl 3 rfl) ?_
              refine lv_iconst (v := 0) hx hb dX12_goesOn_182 (by decide +kernel) ?_
              have hz_380 : (0 : Int32).toInt = 0 := by decide +kernel
              refine dg_put (ci := 12) (v := .int 0) (ty := tyX12 46) (C := RX12) (T := TX12) (N := 77) hx hb hts (fun w h => bw_mem (wU_X12 w h)) tyX12 tyX12_ok nmX12 hown K hP hS hA1 sM_0 rfl 46 (by decide) (hts _ (bw_mem wB_440)) (fun _ h9 => h9) rfl (by decide +kernel) (by decide +kernel) (by decide +kernel) dX12_goesOn_183 (fun S_381 e_381 H locs hP hS => ?_)
              have I_381 := dg_I.uFi (lo := 0) (hi := 1) I_376 e_381 sM_0 (by decide +kernel) (show 0 ≤ ((0 : Int32)).toInt ∧ ((0 : Int32)).toInt ≤ 1 from (by decide +kernel))
              have M_381 := dg_sm.uF M_376 e_381 sM_0 (by decide)
              refine lv_iconst (v := 1) hx hb dX12_goesOn_186 (by decide +kernel) ?_
              have hz_382 : (1 : Int32).toInt = 1 := by decide +kernel
              have hz_383 : (1 : Int32).toInt = 1 := by decide +kernel
              have hz_384 : (0 : Int32).toInt = 0 := by decide +kernel
              have hz_385 : (1 : Int32).toInt = 1 := by decide +kernel
              have hz_386 : (0 : Int32).toInt = 0 := by decide +kernel
              have hz_387 : (1 : Int32).toInt = 1 := by decide +kernel
              have hz_388 : (1 : Int32).toInt = 1 := by decide +kernel
              have hz_389 : (0 : Int32).toInt = 0 := by decide +kernel
              refine W.widen (k := 0) (n := 0) (Nat.le_of_ble_eq_true rfl) (Nat.le_of_ble_eq_true rfl) ?_
              rw [hQ9]
              exact dg_iret hx hb hr hlocks (by decide +kernel) hP hS ⟨I_381, M_381, (by decide +kernel), ⟨y_377, y_378, y_379, y_3, y_336, dp, y_375, 0, ((dg_uF_ne e_381 (fun z => absurd z.2 (by decide))).trans f_y_377), ((dg_uF_ne e_381 (fun z => absurd z.2 (by decide))).trans f_y_378), ((dg_uF_ne e_381 (fun z => absurd z.2 (by decide))).trans f_y_379), (((dg_uF_ne e_381 (fun z => absurd z.2 (by decide))).trans ((m_376.1 0 8 _ sM_0 (by decide)).trans ((m_374.1 0 8 _ sM_0 (by decide)).trans (m_334.1 0 8 _ sM_0 (by decide))))).trans f_y_3), (((dg_uF_ne e_381 (fun z => absurd z.2 (by decide))).trans ((m_376.1 0 34 _ sM_0 (by decide)).trans (m_374.1 0 34 _ sM_0 (by decide)))).trans f_y_336), (((dg_uF_ne e_381 (fun z => absurd z.2 (by decide))).trans ((m_376.1 0 42 _ sM_0 (by decide)).trans ((m_374.1 0 42 _ sM_0 (by decide)).trans ((m_334.1 0 42 _ sM_0 (by decide)).trans (m_2.1 0 42 _ sM_0 (by decide)))))).trans f_dp), (((dg_uF_ne e_381 (fun z => absurd z.2 (by decide))).trans (m_376.1 0 45 _ sM_0 (by decide))).trans f_y_375), (dg_uF_at e_381), ⟨lxh_w_376_0_3.out, (by omega)⟩⟩, (fun k9 hk9 hk0 => POM.mk0 (P0M.keep (P0M.keep P0_374 m_376 (by decide) (by decide) (by decide) (by decide) (by decide) (by decide) (by decide) (by decide) (by decide) (by decide) (by decide) (by decide) (by decide) (by decide) (by decide)) (dg_sm.uF (WF := [(0, 46)]) (WA := []) dg_sm.rf e_381 sM_0 (by decide)) (by decide) (by decide) (by decide) (by decide) (by decide) (by decide) (by decide) (by decide) (by decide) (by decide) (by decide) (by decide) (by decide) (by decide) (by decide)) (dg_uF_at e_381) (by omega)), (GOK.ok f_sa (((dg_uF_ne e_381 (fun z => absurd z.2 (by decide))).trans ((m_376.1 0 8 _ sM_0 (by decide)).trans ((m_374.1 0 8 _ sM_0 (by decide)).trans (m_334.1 0 8 _ sM_0 (by decide))))).trans f_y_3) ((dg_uF_ne e_381 (fun z => absurd z.2 (by decide))).trans f_y_378) (dg_uF_at e_381) (by omega) hM0 (TFM.keep (TFM.keep TF_374 m_376 (by decide) (by decide) (by decide) (by decide) (by decide) (by decide) (by decide) (by decide)) (dg_sm.uF (WF := [(0, 46)]) (WA := []) dg_sm.rf e_381 sM_0 (by decide)) (by decide) (by decide) (by decide) (by decide) (by decide) (by decide) (by decide) (by decide)) (m_st_t.trans (m_go_op (by omega) hop.out)) (by omega) (by decide +kernel) (by first | decide +kernel | exact decide_eq_true (by omega))), (TKM.keep TK_376 (dg_sm.uF (WF := [(0, 46)]) (WA := []) dg_sm.rf e_381 sM_0 (by decide)) (by decide) (by decide) (by decide) (by decide) (by decide) (by decide) (by decide) (by decide)), (ZWM.keep (ZWM.keep (ZWM.keep w_334_3 m_374 (by decide) (by decide) (by decide) (by decide)) m_376 (by decide) (by decide) (by decide) (by decide)) (dg_sm.uF (WF := [(0, 46)]) (WA := []) dg_sm.rf e_381 sM_0 (by decide)) (by decide) (by decide) (by decide) (by decide)), trivial⟩ dX12_goesOn_187
            refine lv_if_eq (tgt := 130) hx hb dX12_goesOn_122 (by decide) (fun c_390 => ?_) (fun c_390 => ?_)
            · have jc_390 := dk_eqc (k := 0) (by decide +kernel) c_390
              have w_341_1_r : (va).toInt ≠ 43 := fun q9 => absurd (w_341_1.mpr ⟨by omega, by omega⟩) (by omega)
              clear w_341_1
              refine lv_aload_n hx hb dX12_goesOn_130 rfl (lv_at hl 3 rfl) ?_
              refine lv_bipush (v := 45) hx hb dX12_goesOn_131 (by decide +kernel) ?_
              refine dg_calli hS hA1 hA (va_runV (As := [.int 45]) (rest := [.ref (o + 0)]) F (c_m_isSign l g D o S_334 45 sg (((m_334.1 0 3 _ sM_0 (by decide)).trans (m_2.1 0 3 _ sM_0 (by decide))).trans f_sg) (by omega) va (((m_334.1 0 6 _ sM_0 (by decide)).trans (m_2.1 0 6 _ sM_0 (by decide))).trans f_va) (by omega) I_334 H.size) (cwV 1 hts (bw_V wB_314 wB_315 wB_316 wB_297 wB_313) rfl rfl rfl (by decide +kernel) ⟨Nat.le_of_ble_eq_true rfl, Nat.le_of_ble_eq_true rfl⟩) (dg_preV sM_0 rfl K ST hP hS hA1 hA) rfl rfl hl.1 rfl (lv_room (Nat.le_of_ble_eq_true rfl)) dX12_goesOn_133 ⟨Nat.le_of_ble_eq_true rfl, Nat.le_of_ble_eq_true rfl⟩) (fun x_391 S_392 hw_392 H locs hP hS => ?_)
              rw [hw_392.1] at hP
              obtain ⟨hq_392, w_392_0, w_392_1, -⟩ := hw_392
              have hz_393 : (45 : Int32).toInt = 45 := by decide +kernel
              have w_392_0 : 0 ≤ (x_391).toInt ∧ (x_391).toInt ≤ 1 := w_392_0
              have w_392_1 : (x_391).toInt = 1 ↔ ((sg).toInt = 3 ∧ (va).toInt = ((45 : Int32)).toInt) := w_392_1
              refine lv_if_eq (tgt := 144) hx hb dX12_goesOn_136 (by decide) (fun c_394 => ?_) (fun c_394 => ?_)
              · have jc_394 := dk_eqc (k := 0) (by decide +kernel) c_394
                have w_392_1_r : (va).toInt ≠ 45 := fun q9 => absurd (w_392_1.mpr ⟨by omega, by omega⟩) (by omega)
                clear w_392_1
                refine lv_aload_n hx hb dX12_goesOn_144 rfl (lv_at hl 3 rfl) ?_
                refine lv_bipush (v := 42) hx hb dX12_goesOn_145 (by decide +kernel) ?_
                refine dg_calli hS hA1 hA (va_runV (As := [.int 42]) (rest := [.ref (o + 0)]) F (c_m_isSign l g D o S_334 42 sg (((m_334.1 0 3 _ sM_0 (by decide)).trans (m_2.1 0 3 _ sM_0 (by decide))).trans f_sg) (by omega) va (((m_334.1 0 6 _ sM_0 (by decide)).trans (m_2.1 0 6 _ sM_0 (by decide))).trans f_va) (by omega) I_334 H.size) (cwV 1 hts (bw_V wB_314 wB_315 wB_316 wB_297 wB_313) rfl rfl rfl (by decide +kernel) ⟨Nat.le_of_ble_eq_true rfl, Nat.le_of_ble_eq_true rfl⟩) (dg_preV sM_0 rfl K ST hP hS hA1 hA) rfl rfl hl.1 rfl (lv_room (Nat.le_of_ble_eq_true rfl)) dX12_goesOn_147 ⟨Nat.le_of_ble_eq_true rfl, Nat.le_of_ble_eq_true rfl⟩) (fun x_395 S_396 hw_396 H locs hP hS => ?_)
                rw [hw_396.1] at hP
                obtain ⟨hq_396, w_396_0, w_396_1, -⟩ := hw_396
                have hz_397 : (42 : Int32).toInt = 42 := by decide +kernel
                have w_396_0 : 0 ≤ (x_395).toInt ∧ (x_395).toInt ≤ 1 := w_396_0
                have w_396_1 : (x_395).toInt = 1 ↔ ((sg).toInt = 3 ∧ (va).toInt = ((42 : Int32)).toInt) := w_396_1
                refine lv_if_eq (tgt := 158) hx hb dX12_goesOn_150 (by decide) (fun c_398 => ?_) (fun c_398 => ?_)
                · have jc_398 := dk_eqc (k := 0) (by decide +kernel) c_398
                  have w_396_1_r : (va).toInt ≠ 42 := fun q9 => absurd (w_396_1.mpr ⟨by omega, by omega⟩) (by omega)
                  clear w_396_1
                  refine lv_aload_n hx hb dX12_goesOn_158 rfl (lv_at hl 3 rfl) ?_
                  refine lv_bipush (v := 47) hx hb dX12_goesOn_159 (by decide +kernel) ?_
                  refine dg_calli hS hA1 hA (va_runV (As := [.int 47]) (rest := [.ref (o + 0)]) F (c_m_isSign l g D o S_334 47 sg (((m_334.1 0 3 _ sM_0 (by decide)).trans (m_2.1 0 3 _ sM_0 (by decide))).trans f_sg) (by omega) va (((m_334.1 0 6 _ sM_0 (by decide)).trans (m_2.1 0 6 _ sM_0 (by decide))).trans f_va) (by omega) I_334 H.size) (cwV 1 hts (bw_V wB_314 wB_315 wB_316 wB_297 wB_313) rfl rfl rfl (by decide +kernel) ⟨Nat.le_of_ble_eq_true rfl, Nat.le_of_ble_eq_true rfl⟩) (dg_preV sM_0 rfl K ST hP hS hA1 hA) rfl rfl hl.1 rfl (lv_room (Nat.le_of_ble_eq_true rfl)) dX12_goesOn_161 ⟨Nat.le_of_ble_eq_true rfl, Nat.le_of_ble_eq_true rfl⟩) (fun x_399 S_400 hw_400 H locs hP hS => ?_)
                  rw [hw_400.1] at hP
                  obtain ⟨hq_400, w_400_0, w_400_1, -⟩ := hw_400
                  have hz_401 : (47 : Int32).toInt = 47 := by decide +kernel
                  have w_400_0 : 0 ≤ (x_399).toInt ∧ (x_399).toInt ≤ 1 := w_400_0
                  have w_400_1 : (x_399).toInt = 1 ↔ ((sg).toInt = 3 ∧ (va).toInt = ((47 : Int32)).toInt) := w_400_1
                  refine lv_if_eq (tgt := 172) hx hb dX12_goesOn_164 (by decide) (fun c_402 => ?_) (fun c_402 => ?_)
                  · have jc_402 := dk_eqc (k := 0) (by decide +kernel) c_402
                    have w_400_1_r : (va).toInt ≠ 47 := fun q9 => absurd (w_400_1.mpr ⟨by omega, by omega⟩) (by omega)
                    clear w_400_1
                    refine lv_bipush (v := 35) hx hb dX12_goesOn_172 (by decide +kernel) ?_
                    have hz_403 : (35 : Int32).toInt = 35 := by decide +kernel
                    have hz_404 : (35 : Int32).toInt = 35 := by decide +kernel
                    exact J_373 35 (by decide +kernel) (by omega) _ _ hP hS _ (lv_sub hl [0, 1, 2, 3] rfl)
                  · have jc_402 := dk_neqc (k := 0) (by decide +kernel) c_402
                    have jbc_402 : 1 ≤ (x_399).toInt := by omega
                    clear jc_402
                    have w_400_1_r := w_400_1.mp (by omega)
                    obtain ⟨w_400_1_r1, w_400_1_r2⟩ := w_400_1_r
                    clear rel_1 w_277_1_r w_330_1_r w_341_1_r w_392_1_r w_396_1_r
                    clear w_400_1
                    refine lv_bipush (v := 34) hx hb dX12_goesOn_167 (by decide +kernel) ?_
                    refine lv_goto (tgt := 174) hx hb dX12_goesOn_169 (by decide) ?_
                    have hz_405 : (34 : Int32).toInt = 34 := by decide +kernel
                    have hz_406 : (34 : Int32).toInt = 34 := by decide +kernel
                    exact J_373 34 (by decide +kernel) (by omega) _ _ hP hS _ (lv_sub hl [0, 1, 2, 3] rfl)
                · have jc_398 := dk_neqc (k := 0) (by decide +kernel) c_398
                  have jbc_398 : 1 ≤ (x_395).toInt := by omega
                  clear jc_398
                  have w_396_1_r := w_396_1.mp (by omega)
                  obtain ⟨w_396_1_r1, w_396_1_r2⟩ := w_396_1_r
                  clear rel_1 w_277_1_r w_330_1_r w_341_1_r w_392_1_r
                  clear w_396_1
                  refine lv_bipush (v := 33) hx hb dX12_goesOn_153 (by decide +kernel) ?_
                  refine lv_goto (tgt := 174) hx hb dX12_goesOn_155 (by decide) ?_
                  have hz_407 : (33 : Int32).toInt = 33 := by decide +kernel
                  have hz_408 : (33 : Int32).toInt = 33 := by decide +kernel
                  exact J_373 33 (by decide +kernel) (by omega) _ _ hP hS _ (lv_sub hl [0, 1, 2, 3] rfl)
              · have jc_394 := dk_neqc (k := 0) (by decide +kernel) c_394
                have jbc_394 : 1 ≤ (x_391).toInt := by omega
                clear jc_394
                have w_392_1_r := w_392_1.mp (by omega)
                obtain ⟨w_392_1_r1, w_392_1_r2⟩ := w_392_1_r
                clear w_392_1
                omega
            · have jc_390 := dk_neqc (k := 0) (by decide +kernel) c_390
              have jbc_390 : 1 ≤ (x_340).toInt := by omega
              clear jc_390
              have w_341_1_r := w_341_1.mp (by omega)
              obtain ⟨w_341_1_r1, w_341_1_r2⟩ := w_341_1_r
              clear w_341_1
              omega
          · have jc_332 := dk_neqc (k := 0) (by decide +kernel) c_332
            have jbc_332 : 1 ≤ (x_329).toInt := by omega
            clear jc_332
            have w_330_1_r := w_330_1.mp (by omega)
            obtain ⟨w_330_1_r1, w_330_1_r2⟩ := w_330_1_r
            clear rel_1 w_277_1_r
            clear w_330_1
            refine lv_iconst (v := 5) hx hb dX12_goesOn_106 (by decide +kernel) ?_
            refine lv_goto (tgt := 112) hx hb dX12_goesOn_107 (by decide) ?_
            have hz_409 : (5 : Int32).toInt = 5 := by decide +kernel
            refine dg_callv hS hA1 hA (va_runV (As := [.int 5]) (rest := []) F (c_m_joins l g D o S_2 5 (by decide +kernel) cd ((m_2.1 0 34 _ sM_0 (by decide)).trans f_cd) (by omega) om ((m_2.1 0 45 _ sM_0 (by decide)).trans f_om) (by omega) (by omega) (ZWM.keep ZW m_2 (by decide) (by decide) (by decide) (by decide)) (ZKM.keep ZK m_2 (by decide) (by decide)) (P1M.keep P1 m_2 (by decide) (by decide) (by decide) (by decide) (by decide) (by decide) (by decide) (by decide) (by decide) (by decide) (by decide) (by decide) (by decide) (by decide) (by decide)) I_2 H.size) (cwV 1 hts (bw_V wB_437 wB_438 wB_439 wB_297 wB_436) rfl rfl rfl (by decide +kernel) ⟨Nat.le_of_ble_eq_true rfl, Nat.le_of_ble_eq_true rfl⟩) (dg_preV sM_0 rfl K ST hP hS hA1 hA) rfl rfl hl.1 rfl (lv_room (Nat.le_of_ble_eq_true rfl)) dX12_goesOn_112 ⟨Nat.le_of_ble_eq_true rfl, Nat.le_of_ble_eq_true rfl⟩) (fun S_410 hw_410 H locs hP hS => ?_)
            obtain ⟨I_410, m_410, w_410_0, w_410_1, w_410_2, w_410_3, w_410_4, -⟩ := hw_410
            have M_410 := dg_sm.tr M_2 m_410 (by decide) (by decide)
            have hz_411 : (5 : Int32).toInt = 5 := by decide +kernel
            obtain ⟨y_412, y_413, f_y_412, f_y_413, w_410_0⟩ := w_410_0
            have w_410_0 : (y_412).toInt + (y_413).toInt = (cd).toInt + (om).toInt := w_410_0
            have b_y_412 : 0 ≤ (y_412).toInt ∧ (y_412).toInt ≤ 1600 := dg_I.intb (lo := 0) (hi := 1600) I_410 sM_0 (by decide +kernel) f_y_412
            have b_y_413 : 0 ≤ (y_413).toInt ∧ (y_413).toInt ≤ 500 := dg_I.intb (lo := 0) (hi := 500) I_410 sM_0 (by decide +kernel) f_y_413
            replace w_410_1 : TOPM S_410 (5 : Int32) := w_410_1
            obtain ⟨x_414, f_x_414, b_x_414⟩ := dg_I.int (i := 0) (k := 43) (lo := (-2147483648)) (hi := 2147483647) I_410 sM_0 (by decide +kernel)
            replace w_410_2 : JNM S_2 S_410 (5 : Int32) := w_410_2
            have TF_410 : TFM (x_7).toInt (x_11).toInt bg0 nt0 R0 (on).toNatClampNeg S_410 := (TFM.join TF0 (P1M.keep P1 m_2 (by decide) (by decide) (by decide) (by decide) (by decide) (by decide) (by decide) (by decide) (by decide) (by decide) (by decide) (by decide) (by decide) (by decide) (by decide)) ((m_2.1 0 42 _ sM_0 (by decide)).trans f_dp) ((m_2.1 0 43 _ sM_0 (by decide)).trans f_on) ((m_2.1 0 45 _ sM_0 (by decide)).trans f_om) w_410_2 w_410_1 m_410 (by decide) (by decide) (by decide) (by decide) (by decide) (by decide)).1 (by decide +kernel)
            have hdm_414 := PSM.dims w_410_4 (((m_410.1 0 42 _ sM_0 (by decide)).trans (m_2.1 0 42 _ sM_0 (by decide))).trans f_dp) f_x_414 f_y_413
            refine lv_aload_n hx hb dX12_goesOn_115 rfl (lv_at hl 3 rfl) ?_
            refine lv_aload_n hx hb dX12_goesOn_116 rfl (lv_at hl 3 rfl) ?_
            refine lv_bipush (v := 43) hx hb dX12_goesOn_117 (by decide +kernel) ?_
            refine dg_calli hS hA1 hA (va_runV (As := [.int 43]) (rest := [.ref (o + 0)]) F (c_m_isSign l g D o S_410 43 sg (((m_410.1 0 3 _ sM_0 (by decide)).trans (m_2.1 0 3 _ sM_0 (by decide))).trans f_sg) (by omega) va (((m_410.1 0 6 _ sM_0 (by decide)).trans (m_2.1 0 6 _ sM_0 (by decide))).trans f_va) (by omega) I_410 H.size) (cwV 1 hts (bw_V wB_314 wB_315 wB_316 wB_297 wB_313) rfl rfl rfl (by decide +kernel) ⟨Nat.le_of_ble_eq_true rfl, Nat.le_of_ble_eq_true rfl⟩) (dg_preV sM_0 rfl K ST hP hS hA1 hA) rfl rfl hl.1 rfl (lv_room (Nat.le_of_ble_eq_true rfl)) dX12_goesOn_119 ⟨Nat.le_of_ble_eq_true rfl, Nat.le_of_ble_eq_true rfl⟩) (fun x_416 S_417 hw_417 H locs hP hS => ?_)
            rw [hw_417.1] at hP
            obtain ⟨hq_417, w_417_0, w_417_1, -⟩ := hw_417
            have hz_418 : (43 : Int32).toInt = 43 := by decide +kernel
            have w_417_0 : 0 ≤ (x_416).toInt ∧ (x_416).toInt ≤ 1 := w_417_0
            have w_417_1 : (x_416).toInt = 1 ↔ ((sg).toInt = 3 ∧ (va).toInt = ((43 : Int32)).toInt) := w_417_1
            have J_442 : ∀ (H : Heap) (locs : List Loc), va_P D vwCl (dg_w g shM o rfM S_410) H → va_S A s.heap H locs → ∀ ls : Array Slot, lv_has ls 5 [(3, .int x_8), (2, .int x_7), (1, .int x_5), (0, .ref (o + 0))] → W p l e ({ frames := 3, cells := 0, slots := 0, locals := 77 } : Room) s m args below meth c H locs 0 0 Q9 (F0 m 174 ls [.int 32, .ref (o + 0)]) := by
              intro H locs hP hS ls hl
              clear w_417_1
              refine dg_callv hS hA1 hA (va_runV (As := [.int 32]) (rest := []) F (c_m_holdsBack l g D o S_410 32 y_413 f_y_413 (by omega) I_410 H.size) (cwV 1 hts (bw_V wB_427 wB_428 wB_429 wB_297 wB_426) rfl rfl rfl (by decide +kernel) ⟨Nat.le_of_ble_eq_true rfl, Nat.le_of_ble_eq_true rfl⟩) (dg_preV sM_0 rfl K ST hP hS hA1 hA) rfl rfl hl.1 rfl (lv_room (Nat.le_of_ble_eq_true rfl)) dX12_goesOn_174 ⟨Nat.le_of_ble_eq_true rfl, Nat.le_of_ble_eq_true rfl⟩) (fun S_443 hw_443 H locs hP hS => ?_)
              obtain ⟨I_443, m_443, w_443_0, w_443_1, -⟩ := hw_443
              have M_443 := dg_sm.tr M_410 m_443 (by decide) (by decide)
              have hz_444 : (32 : Int32).toInt = 32 := by decide +kernel
              obtain ⟨y_445, f_y_445, w_443_0⟩ := w_443_0
              have w_443_0 : (y_445).toInt = (y_413).toInt + 1 := w_443_0
              have b_y_445 : 0 ≤ (y_445).toInt ∧ (y_445).toInt ≤ 500 := dg_I.intb (lo := 0) (hi := 500) I_443 sM_0 (by decide +kernel) f_y_445
              replace w_443_1 : HBM S_410 S_443 (32 : Int32) := w_443_1
              have P0_443 : P0M S_443 := P1M.bin w_410_4 (((m_410.1 0 42 _ sM_0 (by decide)).trans (m_2.1 0 42 _ sM_0 (by decide))).trans f_dp) f_x_414 f_y_413 w_410_1 m_443 w_443_1 (by omega)
              have hz_446 : (32 : Int32).toInt = 32 := by decide +kernel
              have TF_443 : TFM (x_7).toInt (x_11).toInt bg0 nt0 R0 (on).toNatClampNeg S_443 := (by have h9 := TFM.hb TF_410 (((m_410.1 0 42 _ sM_0 (by decide)).trans (m_2.1 0 42 _ sM_0 (by decide))).trans f_dp) f_x_414 f_y_413 (by omega) m_443 w_443_1; rw [if_neg (by omega)] at h9; exact h9)
              refine lv_aload_n hx hb dX12_goesOn_177 rfl (lv_at hl 3 rfl) ?_
              refine dg_callv hS hA1 hA (va_runV (As := []) (rest := []) F (c_m_ahead l g D o S_443 tb tn se (((m_443.1 0 5 _ sM_0 (by decide)).trans ((m_410.1 0 5 _ sM_0 (by decide)).trans (m_2.1 0 5 _ sM_0 (by decide)))).trans f_se) (by omega) sl (((m_443.1 0 2 _ sM_0 (by decide)).trans ((m_410.1 0 2 _ sM_0 (by decide)).trans (m_2.1 0 2 _ sM_0 (by decide)))).trans f_sl) (by omega) (by omega) (TKM.keep (TKM.keep (TKM.keep TK m_2 (by decide) (by decide) (by decide) (by decide) (by decide) (by decide) (by decide) (by decide)) m_410 (by decide) (by decide) (by decide) (by decide) (by decide) (by decide) (by decide) (by decide)) m_443 (by decide) (by decide) (by decide) (by decide) (by decide) (by decide) (by decide) (by decide)).1 I_443 H.size) (cwV 0 hts (bw_V wB_318 wB_319 wB_320 wB_297 wB_317) rfl rfl rfl (by decide +kernel) ⟨Nat.le_of_ble_eq_true rfl, Nat.le_of_ble_eq_true rfl⟩) (dg_preV sM_0 rfl K ST hP hS hA1 hA) rfl rfl hl.1 rfl (lv_room (Nat.le_of_ble_eq_true rfl)) dX12_goesOn_178 ⟨Nat.le_of_ble_eq_true rfl, Nat.le_of_ble_eq_true rfl⟩) (fun S_447 hw_447 H locs hP hS => ?_)
              obtain ⟨I_447, m_447, w_447_0, w_447_1, -⟩ := hw_447
              have M_447 := dg_sm.tr M_443 m_447 (by decide) (by decide)
              obtain ⟨y_448, y_449, y_450, f_y_448, f_y_449, f_y_450, w_447_0⟩ := w_447_0
              have w_447_0 : (se).toInt ≤ (y_449).toInt ∧ (y_449).toInt ≤ (y_450).toInt ∧ (y_450).toInt ≤ (sl).toInt ∧ ((y_448).toInt ≠ 0 → (y_449).toInt + 1 ≤ (y_450).toInt) := w_447_0
              obtain ⟨w_447_0_0, w_447_0_1, w_447_0_2, w_447_0_3⟩ := w_447_0
              have lxh_w_447_0_3 : m_hid ((y_449).toInt ≤ (y_450).toInt ∧ (y_450).toInt ≤ (sl).toInt ∧ ((y_448).toInt ≠ 0 → (y_449).toInt + 1 ≤ (y_450).toInt)) := m_hid.mk ⟨w_447_0_1, w_447_0_2, w_447_0_3⟩
              have b_y_448 : 0 ≤ (y_448).toInt ∧ (y_448).toInt ≤ 3 := dg_I.intb (lo := 0) (hi := 3) I_447 sM_0 (by decide +kernel) f_y_448
              have b_y_449 : 0 ≤ (y_449).toInt ∧ (y_449).toInt ≤ 1600 := dg_I.intb (lo := 0) (hi := 1600) I_447 sM_0 (by decide +kernel) f_y_449
              have b_y_450 : 0 ≤ (y_450).toInt ∧ (y_450).toInt ≤ 1600 := dg_I.intb (lo := 0) (hi := 1600) I_447 sM_0 (by decide +kernel) f_y_450
              replace w_447_1 : TNX tb tn se S_447 := w_447_1
              obtain ⟨TK_447, nx_447, -⟩ := TKM.nx (TKM.keep (TKM.keep (TKM.keep TK m_2 (by decide) (by decide) (by decide) (by decide) (by decide) (by decide) (by decide) (by decide)) m_410 (by decide) (by decide) (by decide) (by decide) (by decide) (by decide) (by decide) (by decide)) m_443 (by decide) (by decide) (by decide) (by decide) (by decide) (by decide) (by decide) (by decide)) (((m_443.1 0 4 _ sM_0 (by decide)).trans ((m_410.1 0 4 _ sM_0 (by decide)).trans (m_2.1 0 4 _ sM_0 (by decide)))).trans f_sa) (((m_443.1 0 5 _ sM_0 (by decide)).trans ((m_410.1 0 5 _ sM_0 (by decide)).trans (m_2.1 0 5 _ sM_0 (by decide)))).trans f_se) w_447_1 m_447 (by decide) (by decide) f_y_449
              replace nx_447 := nx_447 (fun q9 => absurd ((TKM.zero (TKM.keep (TKM.keep (TKM.keep TK m_2 (by decide) (by decide) (by decide) (by decide) (by decide) (by decide) (by decide) (by decide)) m_410 (by decide) (by decide) (by decide) (by decide) (by decide) (by decide) (by decide) (by decide)) m_443 (by decide) (by decide) (by decide) (by decide) (by decide) (by decide) (by decide) (by decide)) (((m_443.1 0 3 _ sM_0 (by decide)).trans ((m_410.1 0 3 _ sM_0 (by decide)).trans (m_2.1 0 3 _ sM_0 (by decide)))).trans f_sg) (((m_443.1 0 4 _ sM_0 (by decide)).trans ((m_410.1 0 4 _ sM_0 (by decide)).trans (m_2.1 0 4 _ sM_0 (by decide)))).trans f_sa)).mpr q9) (by omega))
              refine lv_aload_n hx hb dX12_goesOn_181 rfl (lv_at hl 3 rfl) ?_
              refine lv_iconst (v := 0) hx hb dX12_goesOn_182 (by decide +kernel) ?_
              have hz_451 : (0 : Int32).toInt = 0 := by decide +kernel
              refine dg_put (ci := 12) (v := .int 0) (ty := tyX12 46) (C := RX12) (T := TX12) (N := 77) hx hb hts (fun w h => bw_mem (wU_X12 w h)) tyX12 tyX12_ok nmX12 hown K hP hS hA1 sM_0 rfl 46 (by decide) (hts _ (bw_mem wB_440)) (fun _ h9 => h9) rfl (by decide +kernel) (by decide +kernel) (by decide +kernel) dX12_goesOn_183 (fun S_452 e_452 H locs hP hS => ?_)
              have I_452 := dg_I.uFi (lo := 0) (hi := 1) I_447 e_452 sM_0 (by decide +kernel) (show 0 ≤ ((0 : Int32)).toInt ∧ ((0 : Int32)).toInt ≤ 1 from (by decide +kernel))
              have M_452 := dg_sm.uF M_447 e_452 sM_0 (by decide)
              refine lv_iconst (v := 1) hx hb dX12_goesOn_186 (by decide +kernel) ?_
              have hz_453 : (1 : Int32).toInt = 1 := by decide +kernel
              have hz_454 : (1 : Int32).toInt = 1 := by decide +kernel
              have hz_455 : (0 : Int32).toInt = 0 := by decide +kernel
              have hz_456 : (1 : Int32).toInt = 1 := by decide +kernel
              have hz_457 : (0 : Int32).toInt = 0 := by decide +kernel
              have hz_458 : (1 : Int32).toInt = 1 := by decide +kernel
              have hz_459 : (1 : Int32).toInt = 1 := by decide +kernel
              have hz_460 : (0 : Int32).toInt = 0 := by decide +kernel
              refine W.widen (k := 0) (n := 0) (Nat.le_of_ble_eq_true rfl) (Nat.le_of_ble_eq_true rfl) ?_
              rw [hQ9]
              exact dg_iret hx hb hr hlocks (by decide +kernel) hP hS ⟨I_452, M_452, (by decide +kernel), ⟨y_448, y_449, y_450, y_3, y_412, dp, y_445, 0, ((dg_uF_ne e_452 (fun z => absurd z.2 (by decide))).trans f_y_448), ((dg_uF_ne e_452 (fun z => absurd z.2 (by decide))).trans f_y_449), ((dg_uF_ne e_452 (fun z => absurd z.2 (by decide))).trans f_y_450), (((dg_uF_ne e_452 (fun z => absurd z.2 (by decide))).trans ((m_447.1 0 8 _ sM_0 (by decide)).trans ((m_443.1 0 8 _ sM_0 (by decide)).trans (m_410.1 0 8 _ sM_0 (by decide))))).trans f_y_3), (((dg_uF_ne e_452 (fun z => absurd z.2 (by decide))).trans ((m_447.1 0 34 _ sM_0 (by decide)).trans (m_443.1 0 34 _ sM_0 (by decide)))).trans f_y_412), (((dg_uF_ne e_452 (fun z => absurd z.2 (by decide))).trans ((m_447.1 0 42 _ sM_0 (by decide)).trans ((m_443.1 0 42 _ sM_0 (by decide)).trans ((m_410.1 0 42 _ sM_0 (by decide)).trans (m_2.1 0 42 _ sM_0 (by decide)))))).trans f_dp), (((dg_uF_ne e_452 (fun z => absurd z.2 (by decide))).trans (m_447.1 0 45 _ sM_0 (by decide))).trans f_y_445), (dg_uF_at e_452), ⟨lxh_w_447_0_3.out, (by omega)⟩⟩, (fun k9 hk9 hk0 => POM.mk0 (P0M.keep (P0M.keep P0_443 m_447 (by decide) (by decide) (by decide) (by decide) (by decide) (by decide) (by decide) (by decide) (by decide) (by decide) (by decide) (by decide) (by decide) (by decide) (by decide)) (dg_sm.uF (WF := [(0, 46)]) (WA := []) dg_sm.rf e_452 sM_0 (by decide)) (by decide) (by decide) (by decide) (by decide) (by decide) (by decide) (by decide) (by decide) (by decide) (by decide) (by decide) (by decide) (by decide) (by decide) (by decide)) (dg_uF_at e_452) (by omega)), (GOK.ok f_sa (((dg_uF_ne e_452 (fun z => absurd z.2 (by decide))).trans ((m_447.1 0 8 _ sM_0 (by decide)).trans ((m_443.1 0 8 _ sM_0 (by decide)).trans (m_410.1 0 8 _ sM_0 (by decide))))).trans f_y_3) ((dg_uF_ne e_452 (fun z => absurd z.2 (by decide))).trans f_y_449) (dg_uF_at e_452) (by omega) hM0 (TFM.keep (TFM.keep TF_443 m_447 (by decide) (by decide) (by decide) (by decide) (by decide) (by decide) (by decide) (by decide)) (dg_sm.uF (WF := [(0, 46)]) (WA := []) dg_sm.rf e_452 sM_0 (by decide)) (by decide) (by decide) (by decide) (by decide) (by decide) (by decide) (by decide) (by decide)) (m_st_t.trans (m_go_op (by omega) hop.out)) (by omega) (by decide +kernel) (by first | decide +kernel | exact decide_eq_true (by omega))), (TKM.keep TK_447 (dg_sm.uF (WF := [(0, 46)]) (WA := []) dg_sm.rf e_452 sM_0 (by decide)) (by decide) (by decide) (by decide) (by decide) (by decide) (by decide) (by decide) (by decide)), (ZWM.keep (ZWM.keep (ZWM.keep w_410_3 m_443 (by decide) (by decide) (by decide) (by decide)) m_447 (by decide) (by decide) (by decide) (by decide)) (dg_sm.uF (WF := [(0, 46)]) (WA := []) dg_sm.rf e_452 sM_0 (by decide)) (by decide) (by decide) (by decide) (by decide)), trivial⟩ dX12_goesOn_187
            refine lv_if_eq (tgt := 130) hx hb dX12_goesOn_122 (by decide) (fun c_461 => ?_) (fun c_461 => ?_)
            · have jc_461 := dk_eqc (k := 0) (by decide +kernel) c_461
              have w_417_1_r : (va).toInt ≠ 43 := fun q9 => absurd (w_417_1.mpr ⟨by omega, by omega⟩) (by omega)
              clear w_417_1
              refine lv_aload_n hx hb dX12_goesOn_130 rfl (lv_at hl 3 rfl) ?_
              refine lv_bipush (v := 45) hx hb dX12_goesOn_131 (by decide +kernel) ?_
              refine dg_calli hS hA1 hA (va_runV (As := [.int 45]) (rest := [.ref (o + 0)]) F (c_m_isSign l g D o S_410 45 sg (((m_410.1 0 3 _ sM_0 (by decide)).trans (m_2.1 0 3 _ sM_0 (by decide))).trans f_sg) (by omega) va (((m_410.1 0 6 _ sM_0 (by decide)).trans (m_2.1 0 6 _ sM_0 (by decide))).trans f_va) (by omega) I_410 H.size) (cwV 1 hts (bw_V wB_314 wB_315 wB_316 wB_297 wB_313) rfl rfl rfl (by decide +kernel) ⟨Nat.le_of_ble_eq_true rfl, Nat.le_of_ble_eq_true rfl⟩) (dg_preV sM_0 rfl K ST hP hS hA1 hA) rfl rfl hl.1 rfl (lv_room (Nat.le_of_ble_eq_true rfl)) dX12_goesOn_133 ⟨Nat.le_of_ble_eq_true rfl, Nat.le_of_ble_eq_true rfl⟩) (fun x_462 S_463 hw_463 H locs hP hS => ?_)
              rw [hw_463.1] at hP
              obtain ⟨hq_463, w_463_0, w_463_1, -⟩ := hw_463
              have hz_464 : (45 : Int32).toInt = 45 := by decide +kernel
              have w_463_0 : 0 ≤ (x_462).toInt ∧ (x_462).toInt ≤ 1 := w_463_0
              have w_463_1 : (x_462).toInt = 1 ↔ ((sg).toInt = 3 ∧ (va).toInt = ((45 : Int32)).toInt) := w_463_1
              refine lv_if_eq (tgt := 144) hx hb dX12_goesOn_136 (by decide) (fun c_465 => ?_) (fun c_465 => ?_)
              · have jc_465 := dk_eqc (k := 0) (by decide +kernel) c_465
                have w_463_1_r : (va).toInt ≠ 45 := fun q9 => absurd (w_463_1.mpr ⟨by omega, by omega⟩) (by omega)
                clear w_463_1
                omega
              · have jc_465 := dk_neqc (k := 0) (by decide +kernel) c_465
                have jbc_465 : 1 ≤ (x_462).toInt := by omega
                clear jc_465
                have w_463_1_r := w_463_1.mp (by omega)
                obtain ⟨w_463_1_r1, w_463_1_r2⟩ := w_463_1_r
                clear w_417_1_r
                clear w_463_1
                refine lv_bipush (v := 32) hx hb dX12_goesOn_139 (by decide +kernel) ?_
                refine lv_goto (tgt := 174) hx hb dX12_goesOn_141 (by decide) ?_
                exact J_442   _ _ hP hS _ (lv_sub hl [0, 1, 2, 3] rfl)
            · have jc_461 := dk_neqc (k := 0) (by decide +kernel) c_461
              have jbc_461 : 1 ≤ (x_416).toInt := by omega
              clear jc_461
              have w_417_1_r := w_417_1.mp (by omega)
              obtain ⟨w_417_1_r1, w_417_1_r2⟩ := w_417_1_r
              clear w_417_1
              omega
      refine lv_if_ne (tgt := 87) hx hb dX12_goesOn_48 (by decide) (fun c_466 => ?_) (fun c_466 => ?_)
      · have jc_466 := dk_neqc (k := 0) (by decide +kernel) c_466
        have jbc_466 : 1 ≤ (x_145).toInt := by omega
        clear jc_466
        have qw_146_1 : g_s (T_kd tb tn) (T_vl tb tn) 43 (t_ix tb tn (sa : Int32).toNatClampNeg) = true := (TKM.iss (TKM.keep TK m_2 (by decide) (by decide) (by decide) (by decide) (by decide) (by decide) (by decide) (by decide)) ((m_2.1 0 3 _ sM_0 (by decide)).trans f_sg) ((m_2.1 0 4 _ sM_0 (by decide)).trans f_sa) ((m_2.1 0 6 _ sM_0 (by decide)).trans f_va) hk5.out (c := 43) (by have h9 := w_146_1; rw [show (43 : Int32).toInt = 43 from by decide +kernel] at h9; exact h9)).mp (by omega)
        have w_146_1_r := w_146_1.mp (by omega)
        obtain ⟨w_146_1_r1, w_146_1_r2⟩ := w_146_1_r
        clear w_146_1
        have hlx_2r := hlx_2 (by omega)
        clear hlx_2
        exact J_275 ()  (by omega) (by omega) (m_hid.mk (g_so_1 qw_146_1)) _ _ hP hS _ (lv_sub hl [0, 1, 2, 3] rfl)
      · have jc_466 := dk_eqc (k := 0) (by decide +kernel) c_466
        have qw_146_1 : g_s (T_kd tb tn) (T_vl tb tn) 43 (t_ix tb tn (sa : Int32).toNatClampNeg) = false := g_iff_f (TKM.iss (TKM.keep TK m_2 (by decide) (by decide) (by decide) (by decide) (by decide) (by decide) (by decide) (by decide)) ((m_2.1 0 3 _ sM_0 (by decide)).trans f_sg) ((m_2.1 0 4 _ sM_0 (by decide)).trans f_sa) ((m_2.1 0 6 _ sM_0 (by decide)).trans f_va) hk5.out (c := 43) (by have h9 := w_146_1; rw [show (43 : Int32).toInt = 43 from by decide +kernel] at h9; exact h9)) (by omega)
        clear w_146_1
        refine lv_aload_n hx hb dX12_goesOn_51 rfl (lv_at hl 3 rfl) ?_
        refine lv_bipush (v := 45) hx hb dX12_goesOn_52 (by decide +kernel) ?_
        refine dg_calli hS hA1 hA (va_runV (As := [.int 45]) (rest := []) F (c_m_isSign l g D o S_2 45 sg ((m_2.1 0 3 _ sM_0 (by decide)).trans f_sg) (by omega) va ((m_2.1 0 6 _ sM_0 (by decide)).trans f_va) (by omega) I_2 H.size) (cwV 1 hts (bw_V wB_314 wB_315 wB_316 wB_297 wB_313) rfl rfl rfl (by decide +kernel) ⟨Nat.le_of_ble_eq_true rfl, Nat.le_of_ble_eq_true rfl⟩) (dg_preV sM_0 rfl K ST hP hS hA1 hA) rfl rfl hl.1 rfl (lv_room (Nat.le_of_ble_eq_true rfl)) dX12_goesOn_54 ⟨Nat.le_of_ble_eq_true rfl, Nat.le_of_ble_eq_true rfl⟩) (fun x_467 S_468 hw_468 H locs hP hS => ?_)
        rw [hw_468.1] at hP
        obtain ⟨hq_468, w_468_0, w_468_1, -⟩ := hw_468
        have hz_469 : (45 : Int32).toInt = 45 := by decide +kernel
        have w_468_0 : 0 ≤ (x_467).toInt ∧ (x_467).toInt ≤ 1 := w_468_0
        have w_468_1 : (x_467).toInt = 1 ↔ ((sg).toInt = 3 ∧ (va).toInt = ((45 : Int32)).toInt) := w_468_1
        refine lv_if_ne (tgt := 87) hx hb dX12_goesOn_57 (by decide) (fun c_470 => ?_) (fun c_470 => ?_)
        · have jc_470 := dk_neqc (k := 0) (by decide +kernel) c_470
          have jbc_470 : 1 ≤ (x_467).toInt := by omega
          clear jc_470
          have qw_468_1 : g_s (T_kd tb tn) (T_vl tb tn) 45 (t_ix tb tn (sa : Int32).toNatClampNeg) = true := (TKM.iss (TKM.keep TK m_2 (by decide) (by decide) (by decide) (by decide) (by decide) (by decide) (by decide) (by decide)) ((m_2.1 0 3 _ sM_0 (by decide)).trans f_sg) ((m_2.1 0 4 _ sM_0 (by decide)).trans f_sa) ((m_2.1 0 6 _ sM_0 (by decide)).trans f_va) hk5.out (c := 45) (by have h9 := w_468_1; rw [show (45 : Int32).toInt = 45 from by decide +kernel] at h9; exact h9)).mp (by omega)
          have w_468_1_r := w_468_1.mp (by omega)
          obtain ⟨w_468_1_r1, w_468_1_r2⟩ := w_468_1_r
          clear w_468_1
          have hlx_2r := hlx_2 (by omega)
          clear hlx_2
          exact J_275 ()  (by omega) (by omega) (m_hid.mk (g_so_2 qw_468_1)) _ _ hP hS _ (lv_sub hl [0, 1, 2, 3] rfl)
        · have jc_470 := dk_eqc (k := 0) (by decide +kernel) c_470
          have qw_468_1 : g_s (T_kd tb tn) (T_vl tb tn) 45 (t_ix tb tn (sa : Int32).toNatClampNeg) = false := g_iff_f (TKM.iss (TKM.keep TK m_2 (by decide) (by decide) (by decide) (by decide) (by decide) (by decide) (by decide) (by decide)) ((m_2.1 0 3 _ sM_0 (by decide)).trans f_sg) ((m_2.1 0 4 _ sM_0 (by decide)).trans f_sa) ((m_2.1 0 6 _ sM_0 (by decide)).trans f_va) hk5.out (c := 45) (by have h9 := w_468_1; rw [show (45 : Int32).toInt = 45 from by decide +kernel] at h9; exact h9)) (by omega)
          clear w_468_1
          refine lv_aload_n hx hb dX12_goesOn_60 rfl (lv_at hl 3 rfl) ?_
          refine lv_bipush (v := 42) hx hb dX12_goesOn_61 (by decide +kernel) ?_
          refine dg_calli hS hA1 hA (va_runV (As := [.int 42]) (rest := []) F (c_m_isSign l g D o S_2 42 sg ((m_2.1 0 3 _ sM_0 (by decide)).trans f_sg) (by omega) va ((m_2.1 0 6 _ sM_0 (by decide)).trans f_va) (by omega) I_2 H.size) (cwV 1 hts (bw_V wB_314 wB_315 wB_316 wB_297 wB_313) rfl rfl rfl (by decide +kernel) ⟨Nat.le_of_ble_eq_true rfl, Nat.le_of_ble_eq_true rfl⟩) (dg_preV sM_0 rfl K ST hP hS hA1 hA) rfl rfl hl.1 rfl (lv_room (Nat.le_of_ble_eq_true rfl)) dX12_goesOn_63 ⟨Nat.le_of_ble_eq_true rfl, Nat.le_of_ble_eq_true rfl⟩) (fun x_471 S_472 hw_472 H locs hP hS => ?_)
          rw [hw_472.1] at hP
          obtain ⟨hq_472, w_472_0, w_472_1, -⟩ := hw_472
          have hz_473 : (42 : Int32).toInt = 42 := by decide +kernel
          have w_472_0 : 0 ≤ (x_471).toInt ∧ (x_471).toInt ≤ 1 := w_472_0
          have w_472_1 : (x_471).toInt = 1 ↔ ((sg).toInt = 3 ∧ (va).toInt = ((42 : Int32)).toInt) := w_472_1
          refine lv_if_ne (tgt := 87) hx hb dX12_goesOn_66 (by decide) (fun c_474 => ?_) (fun c_474 => ?_)
          · have jc_474 := dk_neqc (k := 0) (by decide +kernel) c_474
            have jbc_474 : 1 ≤ (x_471).toInt := by omega
            clear jc_474
            have qw_472_1 : g_s (T_kd tb tn) (T_vl tb tn) 42 (t_ix tb tn (sa : Int32).toNatClampNeg) = true := (TKM.iss (TKM.keep TK m_2 (by decide) (by decide) (by decide) (by decide) (by decide) (by decide) (by decide) (by decide)) ((m_2.1 0 3 _ sM_0 (by decide)).trans f_sg) ((m_2.1 0 4 _ sM_0 (by decide)).trans f_sa) ((m_2.1 0 6 _ sM_0 (by decide)).trans f_va) hk5.out (c := 42) (by have h9 := w_472_1; rw [show (42 : Int32).toInt = 42 from by decide +kernel] at h9; exact h9)).mp (by omega)
            have w_472_1_r := w_472_1.mp (by omega)
            obtain ⟨w_472_1_r1, w_472_1_r2⟩ := w_472_1_r
            clear w_472_1
            have hlx_2r := hlx_2 (by omega)
            clear hlx_2
            exact J_275 ()  (by omega) (by omega) (m_hid.mk (g_po_1 qw_472_1)) _ _ hP hS _ (lv_sub hl [0, 1, 2, 3] rfl)
          · have jc_474 := dk_eqc (k := 0) (by decide +kernel) c_474
            have qw_472_1 : g_s (T_kd tb tn) (T_vl tb tn) 42 (t_ix tb tn (sa : Int32).toNatClampNeg) = false := g_iff_f (TKM.iss (TKM.keep TK m_2 (by decide) (by decide) (by decide) (by decide) (by decide) (by decide) (by decide) (by decide)) ((m_2.1 0 3 _ sM_0 (by decide)).trans f_sg) ((m_2.1 0 4 _ sM_0 (by decide)).trans f_sa) ((m_2.1 0 6 _ sM_0 (by decide)).trans f_va) hk5.out (c := 42) (by have h9 := w_472_1; rw [show (42 : Int32).toInt = 42 from by decide +kernel] at h9; exact h9)) (by omega)
            clear w_472_1
            refine lv_aload_n hx hb dX12_goesOn_69 rfl (lv_at hl 3 rfl) ?_
            refine lv_bipush (v := 47) hx hb dX12_goesOn_70 (by decide +kernel) ?_
            refine dg_calli hS hA1 hA (va_runV (As := [.int 47]) (rest := []) F (c_m_isSign l g D o S_2 47 sg ((m_2.1 0 3 _ sM_0 (by decide)).trans f_sg) (by omega) va ((m_2.1 0 6 _ sM_0 (by decide)).trans f_va) (by omega) I_2 H.size) (cwV 1 hts (bw_V wB_314 wB_315 wB_316 wB_297 wB_313) rfl rfl rfl (by decide +kernel) ⟨Nat.le_of_ble_eq_true rfl, Nat.le_of_ble_eq_true rfl⟩) (dg_preV sM_0 rfl K ST hP hS hA1 hA) rfl rfl hl.1 rfl (lv_room (Nat.le_of_ble_eq_true rfl)) dX12_goesOn_72 ⟨Nat.le_of_ble_eq_true rfl, Nat.le_of_ble_eq_true rfl⟩) (fun x_475 S_476 hw_476 H locs hP hS => ?_)
            rw [hw_476.1] at hP
            obtain ⟨hq_476, w_476_0, w_476_1, -⟩ := hw_476
            have hz_477 : (47 : Int32).toInt = 47 := by decide +kernel
            have w_476_0 : 0 ≤ (x_475).toInt ∧ (x_475).toInt ≤ 1 := w_476_0
            have w_476_1 : (x_475).toInt = 1 ↔ ((sg).toInt = 3 ∧ (va).toInt = ((47 : Int32)).toInt) := w_476_1
            refine lv_if_ne (tgt := 87) hx hb dX12_goesOn_75 (by decide) (fun c_478 => ?_) (fun c_478 => ?_)
            · have jc_478 := dk_neqc (k := 0) (by decide +kernel) c_478
              have jbc_478 : 1 ≤ (x_475).toInt := by omega
              clear jc_478
              have qw_476_1 : g_s (T_kd tb tn) (T_vl tb tn) 47 (t_ix tb tn (sa : Int32).toNatClampNeg) = true := (TKM.iss (TKM.keep TK m_2 (by decide) (by decide) (by decide) (by decide) (by decide) (by decide) (by decide) (by decide)) ((m_2.1 0 3 _ sM_0 (by decide)).trans f_sg) ((m_2.1 0 4 _ sM_0 (by decide)).trans f_sa) ((m_2.1 0 6 _ sM_0 (by decide)).trans f_va) hk5.out (c := 47) (by have h9 := w_476_1; rw [show (47 : Int32).toInt = 47 from by decide +kernel] at h9; exact h9)).mp (by omega)
              have w_476_1_r := w_476_1.mp (by omega)
              obtain ⟨w_476_1_r1, w_476_1_r2⟩ := w_476_1_r
              clear w_476_1
              have hlx_2r := hlx_2 (by omega)
              clear hlx_2
              exact J_275 ()  (by omega) (by omega) (m_hid.mk (g_po_2 qw_476_1)) _ _ hP hS _ (lv_sub hl [0, 1, 2, 3] rfl)
            · have jc_478 := dk_eqc (k := 0) (by decide +kernel) c_478
              have qw_476_1 : g_s (T_kd tb tn) (T_vl tb tn) 47 (t_ix tb tn (sa : Int32).toNatClampNeg) = false := g_iff_f (TKM.iss (TKM.keep TK m_2 (by decide) (by decide) (by decide) (by decide) (by decide) (by decide) (by decide) (by decide)) ((m_2.1 0 3 _ sM_0 (by decide)).trans f_sg) ((m_2.1 0 4 _ sM_0 (by decide)).trans f_sa) ((m_2.1 0 6 _ sM_0 (by decide)).trans f_va) hk5.out (c := 47) (by have h9 := w_476_1; rw [show (47 : Int32).toInt = 47 from by decide +kernel] at h9; exact h9)) (by omega)
              clear w_476_1
              refine lv_aload_n hx hb dX12_goesOn_78 rfl (lv_at hl 3 rfl) ?_
              refine lv_bipush (v := 37) hx hb dX12_goesOn_79 (by decide +kernel) ?_
              refine dg_calli hS hA1 hA (va_runV (As := [.int 37]) (rest := []) F (c_m_isSign l g D o S_2 37 sg ((m_2.1 0 3 _ sM_0 (by decide)).trans f_sg) (by omega) va ((m_2.1 0 6 _ sM_0 (by decide)).trans f_va) (by omega) I_2 H.size) (cwV 1 hts (bw_V wB_314 wB_315 wB_316 wB_297 wB_313) rfl rfl rfl (by decide +kernel) ⟨Nat.le_of_ble_eq_true rfl, Nat.le_of_ble_eq_true rfl⟩) (dg_preV sM_0 rfl K ST hP hS hA1 hA) rfl rfl hl.1 rfl (lv_room (Nat.le_of_ble_eq_true rfl)) dX12_goesOn_81 ⟨Nat.le_of_ble_eq_true rfl, Nat.le_of_ble_eq_true rfl⟩) (fun x_479 S_480 hw_480 H locs hP hS => ?_)
              rw [hw_480.1] at hP
              obtain ⟨hq_480, w_480_0, w_480_1, -⟩ := hw_480
              have hz_481 : (37 : Int32).toInt = 37 := by decide +kernel
              have w_480_0 : 0 ≤ (x_479).toInt ∧ (x_479).toInt ≤ 1 := w_480_0
              have w_480_1 : (x_479).toInt = 1 ↔ ((sg).toInt = 3 ∧ (va).toInt = ((37 : Int32)).toInt) := w_480_1
              refine lv_if_eq (tgt := 188) hx hb dX12_goesOn_84 (by decide) (fun c_482 => ?_) (fun c_482 => ?_)
              · have jc_482 := dk_eqc (k := 0) (by decide +kernel) c_482
                have qw_480_1 : g_s (T_kd tb tn) (T_vl tb tn) 37 (t_ix tb tn (sa : Int32).toNatClampNeg) = false := g_iff_f (TKM.iss (TKM.keep TK m_2 (by decide) (by decide) (by decide) (by decide) (by decide) (by decide) (by decide) (by decide)) ((m_2.1 0 3 _ sM_0 (by decide)).trans f_sg) ((m_2.1 0 4 _ sM_0 (by decide)).trans f_sa) ((m_2.1 0 6 _ sM_0 (by decide)).trans f_va) hk5.out (c := 37) (by have h9 := w_480_1; rw [show (37 : Int32).toInt = 37 from by decide +kernel] at h9; exact h9)) (by omega)
                clear w_480_1
                exact J_143 ()  (m_hid.mk (fun _ => ⟨g_so_f qw_146_1 qw_468_1, g_po_f qw_472_1 qw_476_1 qw_480_1⟩)) _ _ hP hS _ (lv_sub hl [0, 1, 2, 3] rfl)
              · have jc_482 := dk_neqc (k := 0) (by decide +kernel) c_482
                have jbc_482 : 1 ≤ (x_479).toInt := by omega
                clear jc_482
                have qw_480_1 : g_s (T_kd tb tn) (T_vl tb tn) 37 (t_ix tb tn (sa : Int32).toNatClampNeg) = true := (TKM.iss (TKM.keep TK m_2 (by decide) (by decide) (by decide) (by decide) (by decide) (by decide) (by decide) (by decide)) ((m_2.1 0 3 _ sM_0 (by decide)).trans f_sg) ((m_2.1 0 4 _ sM_0 (by decide)).trans f_sa) ((m_2.1 0 6 _ sM_0 (by decide)).trans f_va) hk5.out (c := 37) (by have h9 := w_480_1; rw [show (37 : Int32).toInt = 37 from by decide +kernel] at h9; exact h9)).mp (by omega)
                have w_480_1_r := w_480_1.mp (by omega)
                obtain ⟨w_480_1_r1, w_480_1_r2⟩ := w_480_1_r
                clear w_480_1
                have hlx_2r := hlx_2 (by omega)
                clear hlx_2
                exact J_275 ()  (by omega) (by omega) (m_hid.mk (g_po_3 qw_480_1)) _ _ hP hS _ (lv_sub hl [0, 1, 2, 3] rfl)
  · have jc_4 := dk_nlec (k := 0) (by decide +kernel) c_4
    refine lv_iconst (v := 0) hx hb dX12_goesOn_11 (by decide +kernel) ?_
    have hz_483 : (0 : Int32).toInt = 0 := by decide +kernel
    have hz_484 : (0 : Int32).toInt = 0 := by decide +kernel
    have hz_485 : (0 : Int32).toInt = 0 := by decide +kernel
    have hz_486 : (0 : Int32).toInt = 0 := by decide +kernel
    have hz_487 : (0 : Int32).toInt = 0 := by decide +kernel
    refine W.widen (k := 0) (n := 0) (Nat.le_of_ble_eq_true rfl) (Nat.le_of_ble_eq_true rfl) ?_
    rw [hQ9]
    exact dg_iret hx hb hr hlocks (by decide +kernel) hP hS ⟨I_2, M_2, (by decide +kernel), ⟨sg, sa, se, y_3, cd, dp, om, oo, ((m_2.1 0 3 _ sM_0 (by decide)).trans f_sg), ((m_2.1 0 4 _ sM_0 (by decide)).trans f_sa), ((m_2.1 0 5 _ sM_0 (by decide)).trans f_se), f_y_3, ((m_2.1 0 34 _ sM_0 (by decide)).trans f_cd), ((m_2.1 0 42 _ sM_0 (by decide)).trans f_dp), ((m_2.1 0 45 _ sM_0 (by decide)).trans f_om), ((m_2.1 0 46 _ sM_0 (by decide)).trans f_oo), ⟨lxh_hlx_2.out, (by omega)⟩⟩, (fun k9 hk9 hk0 => by have q9 := (f_y_3).symm.trans hk9; cases q9; omega), (GOK.no f_sa f_fk f_y_3 (by omega) (fun h0 => GO5 P1 f_dp f_on f_om (by omega))), (TKM.keep TK m_2 (by decide) (by decide) (by decide) (by decide) (by decide) (by decide) (by decide) (by decide)), (ZWM.keep ZW m_2 (by decide) (by decide) (by decide) (by decide)), trivial⟩ dX12_goesOn_12
