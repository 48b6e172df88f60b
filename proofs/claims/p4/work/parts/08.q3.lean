/-! 45.g.lean.txt -/
theorem dX12_goesOn_0 : decode cX12_goesOn 0 = .ok (.aload_n 0, 1) := by decide +kernel
theorem dX12_goesOn_1 : decode cX12_goesOn 1 = .ok (.invokevirtual 266, 3) := by decide +kernel
theorem dX12_goesOn_4 : decode cX12_goesOn 4 = .ok (.aload_n 0, 1) := by decide +kernel
theorem dX12_goesOn_5 : decode cX12_goesOn 5 = .ok (.getfield 36, 3) := by decide +kernel
theorem dX12_goesOn_8 : decode cX12_goesOn 8 = .ok (.ifCond .le 5, 3) := by decide +kernel
theorem dX12_goesOn_11 : decode cX12_goesOn 11 = .ok (.iconst 0, 1) := by decide +kernel
theorem dX12_goesOn_12 : decode cX12_goesOn 12 = .ok (.ireturn, 1) := by decide +kernel
theorem dX12_goesOn_13 : decode cX12_goesOn 13 = .ok (.aload_n 0, 1) := by decide +kernel
theorem dX12_goesOn_14 : decode cX12_goesOn 14 = .ok (.getfield 140, 3) := by decide +kernel
theorem dX12_goesOn_17 : decode cX12_goesOn 17 = .ok (.iconst 1, 1) := by decide +kernel
theorem dX12_goesOn_18 : decode cX12_goesOn 18 = .ok (.isub, 1) := by decide +kernel
theorem dX12_goesOn_19 : decode cX12_goesOn 19 = .ok (.istore_n 1, 1) := by decide +kernel
theorem dX12_goesOn_20 : decode cX12_goesOn 20 = .ok (.aload_n 0, 1) := by decide +kernel
theorem dX12_goesOn_21 : decode cX12_goesOn 21 = .ok (.getfield 124, 3) := by decide +kernel
theorem dX12_goesOn_24 : decode cX12_goesOn 24 = .ok (.iload_n 1, 1) := by decide +kernel
theorem dX12_goesOn_25 : decode cX12_goesOn 25 = .ok (.iaload, 1) := by decide +kernel
theorem dX12_goesOn_26 : decode cX12_goesOn 26 = .ok (.istore_n 2, 1) := by decide +kernel
theorem dX12_goesOn_27 : decode cX12_goesOn 27 = .ok (.iload_n 2, 1) := by decide +kernel
theorem dX12_goesOn_28 : decode cX12_goesOn 28 = .ok (.invokestatic 346, 3) := by decide +kernel
theorem dX12_goesOn_31 : decode cX12_goesOn 31 = .ok (.istore_n 3, 1) := by decide +kernel
theorem dX12_goesOn_32 : decode cX12_goesOn 32 = .ok (.aload_n 0, 1) := by decide +kernel
theorem dX12_goesOn_33 : decode cX12_goesOn 33 = .ok (.getfield 127, 3) := by decide +kernel
theorem dX12_goesOn_36 : decode cX12_goesOn 36 = .ok (.iload_n 1, 1) := by decide +kernel
theorem dX12_goesOn_37 : decode cX12_goesOn 37 = .ok (.iaload, 1) := by decide +kernel
theorem dX12_goesOn_38 : decode cX12_goesOn 38 = .ok (.iconst 2, 1) := by decide +kernel
theorem dX12_goesOn_39 : decode cX12_goesOn 39 = .ok (.if_icmp .ge 149, 3) := by decide +kernel
theorem dX12_goesOn_42 : decode cX12_goesOn 42 = .ok (.aload_n 0, 1) := by decide +kernel
theorem dX12_goesOn_43 : decode cX12_goesOn 43 = .ok (.bipush 43, 2) := by decide +kernel
theorem dX12_goesOn_45 : decode cX12_goesOn 45 = .ok (.invokevirtual 269, 3) := by decide +kernel
theorem dX12_goesOn_48 : decode cX12_goesOn 48 = .ok (.ifCond .ne 39, 3) := by decide +kernel
theorem dX12_goesOn_51 : decode cX12_goesOn 51 = .ok (.aload_n 0, 1) := by decide +kernel
theorem dX12_goesOn_52 : decode cX12_goesOn 52 = .ok (.bipush 45, 2) := by decide +kernel
theorem dX12_goesOn_54 : decode cX12_goesOn 54 = .ok (.invokevirtual 269, 3) := by decide +kernel
theorem dX12_goesOn_57 : decode cX12_goesOn 57 = .ok (.ifCond .ne 30, 3) := by decide +kernel
theorem dX12_goesOn_60 : decode cX12_goesOn 60 = .ok (.aload_n 0, 1) := by decide +kernel
theorem dX12_goesOn_61 : decode cX12_goesOn 61 = .ok (.bipush 42, 2) := by decide +kernel
theorem dX12_goesOn_63 : decode cX12_goesOn 63 = .ok (.invokevirtual 269, 3) := by decide +kernel
theorem dX12_goesOn_66 : decode cX12_goesOn 66 = .ok (.ifCond .ne 21, 3) := by decide +kernel
theorem dX12_goesOn_69 : decode cX12_goesOn 69 = .ok (.aload_n 0, 1) := by decide +kernel
theorem dX12_goesOn_70 : decode cX12_goesOn 70 = .ok (.bipush 47, 2) := by decide +kernel
theorem dX12_goesOn_72 : decode cX12_goesOn 72 = .ok (.invokevirtual 269, 3) := by decide +kernel
theorem dX12_goesOn_75 : decode cX12_goesOn 75 = .ok (.ifCond .ne 12, 3) := by decide +kernel
theorem dX12_goesOn_78 : decode cX12_goesOn 78 = .ok (.aload_n 0, 1) := by decide +kernel
theorem dX12_goesOn_79 : decode cX12_goesOn 79 = .ok (.bipush 37, 2) := by decide +kernel
theorem dX12_goesOn_81 : decode cX12_goesOn 81 = .ok (.invokevirtual 269, 3) := by decide +kernel
theorem dX12_goesOn_84 : decode cX12_goesOn 84 = .ok (.ifCond .eq 104, 3) := by decide +kernel
theorem dX12_goesOn_87 : decode cX12_goesOn 87 = .ok (.aload_n 0, 1) := by decide +kernel
theorem dX12_goesOn_88 : decode cX12_goesOn 88 = .ok (.aload_n 0, 1) := by decide +kernel
theorem dX12_goesOn_89 : decode cX12_goesOn 89 = .ok (.bipush 43, 2) := by decide +kernel
theorem dX12_goesOn_91 : decode cX12_goesOn 91 = .ok (.invokevirtual 269, 3) := by decide +kernel
theorem dX12_goesOn_94 : decode cX12_goesOn 94 = .ok (.ifCond .ne 12, 3) := by decide +kernel
theorem dX12_goesOn_97 : decode cX12_goesOn 97 = .ok (.aload_n 0, 1) := by decide +kernel
theorem dX12_goesOn_98 : decode cX12_goesOn 98 = .ok (.bipush 45, 2) := by decide +kernel
theorem dX12_goesOn_100 : decode cX12_goesOn 100 = .ok (.invokevirtual 269, 3) := by decide +kernel
theorem dX12_goesOn_103 : decode cX12_goesOn 103 = .ok (.ifCond .eq 7, 3) := by decide +kernel
theorem dX12_goesOn_106 : decode cX12_goesOn 106 = .ok (.iconst 5, 1) := by decide +kernel
theorem dX12_goesOn_107 : decode cX12_goesOn 107 = .ok (.goto 5, 3) := by decide +kernel
theorem dX12_goesOn_110 : decode cX12_goesOn 110 = .ok (.bipush 6, 2) := by decide +kernel
theorem dX12_goesOn_112 : decode cX12_goesOn 112 = .ok (.invokevirtual 359, 3) := by decide +kernel
theorem dX12_goesOn_115 : decode cX12_goesOn 115 = .ok (.aload_n 0, 1) := by decide +kernel
theorem dX12_goesOn_116 : decode cX12_goesOn 116 = .ok (.aload_n 0, 1) := by decide +kernel
theorem dX12_goesOn_117 : decode cX12_goesOn 117 = .ok (.bipush 43, 2) := by decide +kernel
theorem dX12_goesOn_119 : decode cX12_goesOn 119 = .ok (.invokevirtual 269, 3) := by decide +kernel
theorem dX12_goesOn_122 : decode cX12_goesOn 122 = .ok (.ifCond .eq 8, 3) := by decide +kernel
theorem dX12_goesOn_125 : decode cX12_goesOn 125 = .ok (.bipush 31, 2) := by decide +kernel
theorem dX12_goesOn_127 : decode cX12_goesOn 127 = .ok (.goto 47, 3) := by decide +kernel
theorem dX12_goesOn_130 : decode cX12_goesOn 130 = .ok (.aload_n 0, 1) := by decide +kernel
theorem dX12_goesOn_131 : decode cX12_goesOn 131 = .ok (.bipush 45, 2) := by decide +kernel
theorem dX12_goesOn_133 : decode cX12_goesOn 133 = .ok (.invokevirtual 269, 3) := by decide +kernel
theorem dX12_goesOn_136 : decode cX12_goesOn 136 = .ok (.ifCond .eq 8, 3) := by decide +kernel
theorem dX12_goesOn_139 : decode cX12_goesOn 139 = .ok (.bipush 32, 2) := by decide +kernel
theorem dX12_goesOn_141 : decode cX12_goesOn 141 = .ok (.goto 33, 3) := by decide +kernel
theorem dX12_goesOn_144 : decode cX12_goesOn 144 = .ok (.aload_n 0, 1) := by decide +kernel
theorem dX12_goesOn_145 : decode cX12_goesOn 145 = .ok (.bipush 42, 2) := by decide +kernel
theorem dX12_goesOn_147 : decode cX12_goesOn 147 = .ok (.invokevirtual 269, 3) := by decide +kernel
theorem dX12_goesOn_150 : decode cX12_goesOn 150 = .ok (.ifCond .eq 8, 3) := by decide +kernel
theorem dX12_goesOn_153 : decode cX12_goesOn 153 = .ok (.bipush 33, 2) := by decide +kernel
theorem dX12_goesOn_155 : decode cX12_goesOn 155 = .ok (.goto 19, 3) := by decide +kernel
theorem dX12_goesOn_158 : decode cX12_goesOn 158 = .ok (.aload_n 0, 1) := by decide +kernel
theorem dX12_goesOn_159 : decode cX12_goesOn 159 = .ok (.bipush 47, 2) := by decide +kernel
theorem dX12_goesOn_161 : decode cX12_goesOn 161 = .ok (.invokevirtual 269, 3) := by decide +kernel
theorem dX12_goesOn_164 : decode cX12_goesOn 164 = .ok (.ifCond .eq 8, 3) := by decide +kernel
theorem dX12_goesOn_167 : decode cX12_goesOn 167 = .ok (.bipush 34, 2) := by decide +kernel
theorem dX12_goesOn_169 : decode cX12_goesOn 169 = .ok (.goto 5, 3) := by decide +kernel
theorem dX12_goesOn_172 : decode cX12_goesOn 172 = .ok (.bipush 35, 2) := by decide +kernel
theorem dX12_goesOn_174 : decode cX12_goesOn 174 = .ok (.invokevirtual 353, 3) := by decide +kernel
theorem dX12_goesOn_177 : decode cX12_goesOn 177 = .ok (.aload_n 0, 1) := by decide +kernel
theorem dX12_goesOn_178 : decode cX12_goesOn 178 = .ok (.invokevirtual 272, 3) := by decide +kernel
theorem dX12_goesOn_181 : decode cX12_goesOn 181 = .ok (.aload_n 0, 1) := by decide +kernel
theorem dX12_goesOn_182 : decode cX12_goesOn 182 = .ok (.iconst 0, 1) := by decide +kernel
theorem dX12_goesOn_183 : decode cX12_goesOn 183 = .ok (.putfield 152, 3) := by decide +kernel
theorem dX12_goesOn_186 : decode cX12_goesOn 186 = .ok (.iconst 1, 1) := by decide +kernel
theorem dX12_goesOn_187 : decode cX12_goesOn 187 = .ok (.ireturn, 1) := by decide +kernel
theorem dX12_goesOn_188 : decode cX12_goesOn 188 = .ok (.iload_n 3, 1) := by decide +kernel
theorem dX12_goesOn_189 : decode cX12_goesOn 189 = .ok (.ifCond .eq 96, 3) := by decide +kernel
theorem dX12_goesOn_192 : decode cX12_goesOn 192 = .ok (.aload_n 0, 1) := by decide +kernel
theorem dX12_goesOn_193 : decode cX12_goesOn 193 = .ok (.getfield 127, 3) := by decide +kernel
theorem dX12_goesOn_196 : decode cX12_goesOn 196 = .ok (.iload_n 1, 1) := by decide +kernel
theorem dX12_goesOn_197 : decode cX12_goesOn 197 = .ok (.iaload, 1) := by decide +kernel
theorem dX12_goesOn_198 : decode cX12_goesOn 198 = .ok (.ifCond .ne 87, 3) := by decide +kernel
theorem dX12_goesOn_201 : decode cX12_goesOn 201 = .ok (.aload_n 0, 1) := by decide +kernel
theorem dX12_goesOn_202 : decode cX12_goesOn 202 = .ok (.bipush 60, 2) := by decide +kernel
theorem dX12_goesOn_204 : decode cX12_goesOn 204 = .ok (.invokevirtual 269, 3) := by decide +kernel
theorem dX12_goesOn_207 : decode cX12_goesOn 207 = .ok (.ifCond .ne 21, 3) := by decide +kernel
theorem dX12_goesOn_210 : decode cX12_goesOn 210 = .ok (.aload_n 0, 1) := by decide +kernel
theorem dX12_goesOn_211 : decode cX12_goesOn 211 = .ok (.bipush 62, 2) := by decide +kernel
theorem dX12_goesOn_213 : decode cX12_goesOn 213 = .ok (.invokevirtual 269, 3) := by decide +kernel
theorem dX12_goesOn_216 : decode cX12_goesOn 216 = .ok (.ifCond .ne 12, 3) := by decide +kernel
theorem dX12_goesOn_219 : decode cX12_goesOn 219 = .ok (.aload_n 0, 1) := by decide +kernel
theorem dX12_goesOn_220 : decode cX12_goesOn 220 = .ok (.bipush 61, 2) := by decide +kernel
theorem dX12_goesOn_222 : decode cX12_goesOn 222 = .ok (.invokevirtual 269, 3) := by decide +kernel
theorem dX12_goesOn_225 : decode cX12_goesOn 225 = .ok (.ifCond .eq 60, 3) := by decide +kernel
theorem dX12_goesOn_228 : decode cX12_goesOn 228 = .ok (.aload_n 0, 1) := by decide +kernel
theorem dX12_goesOn_229 : decode cX12_goesOn 229 = .ok (.iconst 5, 1) := by decide +kernel
theorem dX12_goesOn_230 : decode cX12_goesOn 230 = .ok (.invokevirtual 359, 3) := by decide +kernel
theorem dX12_goesOn_233 : decode cX12_goesOn 233 = .ok (.aload_n 0, 1) := by decide +kernel
theorem dX12_goesOn_234 : decode cX12_goesOn 234 = .ok (.aload_n 0, 1) := by decide +kernel
theorem dX12_goesOn_235 : decode cX12_goesOn 235 = .ok (.bipush 60, 2) := by decide +kernel
theorem dX12_goesOn_237 : decode cX12_goesOn 237 = .ok (.invokevirtual 269, 3) := by decide +kernel
theorem dX12_goesOn_240 : decode cX12_goesOn 240 = .ok (.ifCond .eq 8, 3) := by decide +kernel
theorem dX12_goesOn_243 : decode cX12_goesOn 243 = .ok (.bipush 38, 2) := by decide +kernel
theorem dX12_goesOn_245 : decode cX12_goesOn 245 = .ok (.goto 19, 3) := by decide +kernel
theorem dX12_goesOn_248 : decode cX12_goesOn 248 = .ok (.aload_n 0, 1) := by decide +kernel
theorem dX12_goesOn_249 : decode cX12_goesOn 249 = .ok (.bipush 62, 2) := by decide +kernel
theorem dX12_goesOn_251 : decode cX12_goesOn 251 = .ok (.invokevirtual 269, 3) := by decide +kernel
theorem dX12_goesOn_254 : decode cX12_goesOn 254 = .ok (.ifCond .eq 8, 3) := by decide +kernel
theorem dX12_goesOn_257 : decode cX12_goesOn 257 = .ok (.bipush 39, 2) := by decide +kernel
theorem dX12_goesOn_259 : decode cX12_goesOn 259 = .ok (.goto 5, 3) := by decide +kernel
theorem dX12_goesOn_262 : decode cX12_goesOn 262 = .ok (.bipush 40, 2) := by decide +kernel
theorem dX12_goesOn_264 : decode cX12_goesOn 264 = .ok (.invokevirtual 353, 3) := by decide +kernel
theorem dX12_goesOn_267 : decode cX12_goesOn 267 = .ok (.aload_n 0, 1) := by decide +kernel
theorem dX12_goesOn_268 : decode cX12_goesOn 268 = .ok (.getfield 127, 3) := by decide +kernel
theorem dX12_goesOn_271 : decode cX12_goesOn 271 = .ok (.iload_n 1, 1) := by decide +kernel
theorem dX12_goesOn_272 : decode cX12_goesOn 272 = .ok (.iconst 1, 1) := by decide +kernel
theorem dX12_goesOn_273 : decode cX12_goesOn 273 = .ok (.iastore, 1) := by decide +kernel
theorem dX12_goesOn_274 : decode cX12_goesOn 274 = .ok (.aload_n 0, 1) := by decide +kernel
theorem dX12_goesOn_275 : decode cX12_goesOn 275 = .ok (.invokevirtual 272, 3) := by decide +kernel
theorem dX12_goesOn_278 : decode cX12_goesOn 278 = .ok (.aload_n 0, 1) := by decide +kernel
theorem dX12_goesOn_279 : decode cX12_goesOn 279 = .ok (.iconst 0, 1) := by decide +kernel
theorem dX12_goesOn_280 : decode cX12_goesOn 280 = .ok (.putfield 152, 3) := by decide +kernel
theorem dX12_goesOn_283 : decode cX12_goesOn 283 = .ok (.iconst 1, 1) := by decide +kernel
theorem dX12_goesOn_284 : decode cX12_goesOn 284 = .ok (.ireturn, 1) := by decide +kernel
theorem dX12_goesOn_285 : decode cX12_goesOn 285 = .ok (.iload_n 3, 1) := by decide +kernel
theorem dX12_goesOn_286 : decode cX12_goesOn 286 = .ok (.ifCond .eq 114, 3) := by decide +kernel
theorem dX12_goesOn_289 : decode cX12_goesOn 289 = .ok (.aload_n 0, 1) := by decide +kernel
theorem dX12_goesOn_290 : decode cX12_goesOn 290 = .ok (.ldc2_w 319, 3) := by decide +kernel
theorem dX12_goesOn_293 : decode cX12_goesOn 293 = .ok (.invokevirtual 349, 3) := by decide +kernel
theorem dX12_goesOn_296 : decode cX12_goesOn 296 = .ok (.ifCond .ne 13, 3) := by decide +kernel
theorem dX12_goesOn_299 : decode cX12_goesOn 299 = .ok (.aload_n 0, 1) := by decide +kernel
theorem dX12_goesOn_300 : decode cX12_goesOn 300 = .ok (.ldc2_w 317, 3) := by decide +kernel
theorem dX12_goesOn_303 : decode cX12_goesOn 303 = .ok (.invokevirtual 349, 3) := by decide +kernel
theorem dX12_goesOn_306 : decode cX12_goesOn 306 = .ok (.ifCond .eq 94, 3) := by decide +kernel
theorem dX12_goesOn_309 : decode cX12_goesOn 309 = .ok (.aload_n 0, 1) := by decide +kernel
theorem dX12_goesOn_310 : decode cX12_goesOn 310 = .ok (.getfield 127, 3) := by decide +kernel
theorem dX12_goesOn_313 : decode cX12_goesOn 313 = .ok (.iload_n 1, 1) := by decide +kernel
theorem dX12_goesOn_314 : decode cX12_goesOn 314 = .ok (.iaload, 1) := by decide +kernel
theorem dX12_goesOn_315 : decode cX12_goesOn 315 = .ok (.ifCond .ne 12, 3) := by decide +kernel
theorem dX12_goesOn_318 : decode cX12_goesOn 318 = .ok (.aload_n 0, 1) := by decide +kernel
theorem dX12_goesOn_319 : decode cX12_goesOn 319 = .ok (.iconst 1, 1) := by decide +kernel
theorem dX12_goesOn_320 : decode cX12_goesOn 320 = .ok (.aload_n 0, 1) := by decide +kernel
theorem dX12_goesOn_321 : decode cX12_goesOn 321 = .ok (.getfield 23, 3) := by decide +kernel
theorem dX12_goesOn_324 : decode cX12_goesOn 324 = .ok (.invokevirtual 255, 3) := by decide +kernel
theorem dX12_goesOn_327 : decode cX12_goesOn 327 = .ok (.aload_n 0, 1) := by decide +kernel
theorem dX12_goesOn_328 : decode cX12_goesOn 328 = .ok (.getfield 36, 3) := by decide +kernel
theorem dX12_goesOn_331 : decode cX12_goesOn 331 = .ok (.ifCond .le 5, 3) := by decide +kernel
theorem dX12_goesOn_334 : decode cX12_goesOn 334 = .ok (.iconst 0, 1) := by decide +kernel
theorem dX12_goesOn_335 : decode cX12_goesOn 335 = .ok (.ireturn, 1) := by decide +kernel
theorem dX12_goesOn_336 : decode cX12_goesOn 336 = .ok (.aload_n 0, 1) := by decide +kernel
theorem dX12_goesOn_337 : decode cX12_goesOn 337 = .ok (.ldc2_w 319, 3) := by decide +kernel
theorem dX12_goesOn_340 : decode cX12_goesOn 340 = .ok (.invokevirtual 349, 3) := by decide +kernel
theorem dX12_goesOn_343 : decode cX12_goesOn 343 = .ok (.istore 4, 2) := by decide +kernel
theorem dX12_goesOn_345 : decode cX12_goesOn 345 = .ok (.aload_n 0, 1) := by decide +kernel
theorem dX12_goesOn_346 : decode cX12_goesOn 346 = .ok (.iload 4, 2) := by decide +kernel
theorem dX12_goesOn_348 : decode cX12_goesOn 348 = .ok (.ifCond .eq 7, 3) := by decide +kernel
theorem dX12_goesOn_351 : decode cX12_goesOn 351 = .ok (.iconst 2, 1) := by decide +kernel
theorem dX12_goesOn_352 : decode cX12_goesOn 352 = .ok (.goto 4, 3) := by decide +kernel
theorem dX12_goesOn_355 : decode cX12_goesOn 355 = .ok (.iconst 1, 1) := by decide +kernel
theorem dX12_goesOn_356 : decode cX12_goesOn 356 = .ok (.invokevirtual 359, 3) := by decide +kernel
theorem dX12_goesOn_359 : decode cX12_goesOn 359 = .ok (.aload_n 0, 1) := by decide +kernel
theorem dX12_goesOn_360 : decode cX12_goesOn 360 = .ok (.iload 4, 2) := by decide +kernel
theorem dX12_goesOn_362 : decode cX12_goesOn 362 = .ok (.ifCond .eq 8, 3) := by decide +kernel
theorem dX12_goesOn_365 : decode cX12_goesOn 365 = .ok (.bipush 41, 2) := by decide +kernel
theorem dX12_goesOn_367 : decode cX12_goesOn 367 = .ok (.goto 5, 3) := by decide +kernel
theorem dX12_goesOn_370 : decode cX12_goesOn 370 = .ok (.bipush 42, 2) := by decide +kernel
theorem dX12_goesOn_372 : decode cX12_goesOn 372 = .ok (.invokevirtual 353, 3) := by decide +kernel
theorem dX12_goesOn_375 : decode cX12_goesOn 375 = .ok (.aload_n 0, 1) := by decide +kernel
theorem dX12_goesOn_376 : decode cX12_goesOn 376 = .ok (.getfield 127, 3) := by decide +kernel
theorem dX12_goesOn_379 : decode cX12_goesOn 379 = .ok (.iload_n 1, 1) := by decide +kernel
theorem dX12_goesOn_380 : decode cX12_goesOn 380 = .ok (.iconst 0, 1) := by decide +kernel
theorem dX12_goesOn_381 : decode cX12_goesOn 381 = .ok (.iastore, 1) := by decide +kernel
theorem dX12_goesOn_382 : decode cX12_goesOn 382 = .ok (.aload_n 0, 1) := by decide +kernel
theorem dX12_goesOn_383 : decode cX12_goesOn 383 = .ok (.getfield 130, 3) := by decide +kernel
theorem dX12_goesOn_386 : decode cX12_goesOn 386 = .ok (.iload_n 1, 1) := by decide +kernel
theorem dX12_goesOn_387 : decode cX12_goesOn 387 = .ok (.iconst 1, 1) := by decide +kernel
theorem dX12_goesOn_388 : decode cX12_goesOn 388 = .ok (.bastore, 1) := by decide +kernel
theorem dX12_goesOn_389 : decode cX12_goesOn 389 = .ok (.aload_n 0, 1) := by decide +kernel
theorem dX12_goesOn_390 : decode cX12_goesOn 390 = .ok (.invokevirtual 272, 3) := by decide +kernel
theorem dX12_goesOn_393 : decode cX12_goesOn 393 = .ok (.aload_n 0, 1) := by decide +kernel
theorem dX12_goesOn_394 : decode cX12_goesOn 394 = .ok (.iconst 0, 1) := by decide +kernel
theorem dX12_goesOn_395 : decode cX12_goesOn 395 = .ok (.putfield 152, 3) := by decide +kernel
theorem dX12_goesOn_398 : decode cX12_goesOn 398 = .ok (.iconst 1, 1) := by decide +kernel
theorem dX12_goesOn_399 : decode cX12_goesOn 399 = .ok (.ireturn, 1) := by decide +kernel
theorem dX12_goesOn_400 : decode cX12_goesOn 400 = .ok (.iload_n 3, 1) := by decide +kernel
theorem dX12_goesOn_401 : decode cX12_goesOn 401 = .ok (.ifCond .eq 21, 3) := by decide +kernel
theorem dX12_goesOn_404 : decode cX12_goesOn 404 = .ok (.aload_n 0, 1) := by decide +kernel
theorem dX12_goesOn_405 : decode cX12_goesOn 405 = .ok (.getfield 127, 3) := by decide +kernel
theorem dX12_goesOn_408 : decode cX12_goesOn 408 = .ok (.iload_n 1, 1) := by decide +kernel
theorem dX12_goesOn_409 : decode cX12_goesOn 409 = .ok (.iaload, 1) := by decide +kernel
theorem dX12_goesOn_410 : decode cX12_goesOn 410 = .ok (.ifCond .ne 12, 3) := by decide +kernel
theorem dX12_goesOn_413 : decode cX12_goesOn 413 = .ok (.aload_n 0, 1) := by decide +kernel
theorem dX12_goesOn_414 : decode cX12_goesOn 414 = .ok (.iconst 1, 1) := by decide +kernel
theorem dX12_goesOn_415 : decode cX12_goesOn 415 = .ok (.aload_n 0, 1) := by decide +kernel
theorem dX12_goesOn_416 : decode cX12_goesOn 416 = .ok (.getfield 23, 3) := by decide +kernel
theorem dX12_goesOn_419 : decode cX12_goesOn 419 = .ok (.invokevirtual 255, 3) := by decide +kernel
theorem dX12_goesOn_422 : decode cX12_goesOn 422 = .ok (.iload_n 2, 1) := by decide +kernel
theorem dX12_goesOn_423 : decode cX12_goesOn 423 = .ok (.iconst 2, 1) := by decide +kernel
theorem dX12_goesOn_424 : decode cX12_goesOn 424 = .ok (.if_icmp .ge 17, 3) := by decide +kernel
theorem dX12_goesOn_427 : decode cX12_goesOn 427 = .ok (.aload_n 0, 1) := by decide +kernel
theorem dX12_goesOn_428 : decode cX12_goesOn 428 = .ok (.getfield 36, 3) := by decide +kernel
theorem dX12_goesOn_431 : decode cX12_goesOn 431 = .ok (.ifCond .ne 8, 3) := by decide +kernel
theorem dX12_goesOn_434 : decode cX12_goesOn 434 = .ok (.aload_n 0, 1) := by decide +kernel
theorem dX12_goesOn_435 : decode cX12_goesOn 435 = .ok (.iconst 1, 1) := by decide +kernel
theorem dX12_goesOn_436 : decode cX12_goesOn 436 = .ok (.invokevirtual 359, 3) := by decide +kernel
theorem dX12_goesOn_439 : decode cX12_goesOn 439 = .ok (.iconst 0, 1) := by decide +kernel
theorem dX12_goesOn_440 : decode cX12_goesOn 440 = .ok (.ireturn, 1) := by decide +kernel
theorem dX12_goesOn_441 : decode cX12_goesOn 441 = .ok (.iload_n 2, 1) := by decide +kernel
theorem dX12_goesOn_442 : decode cX12_goesOn 442 = .ok (.iconst 3, 1) := by decide +kernel
theorem dX12_goesOn_443 : decode cX12_goesOn 443 = .ok (.if_icmp .eq 9, 3) := by decide +kernel
theorem dX12_goesOn_446 : decode cX12_goesOn 446 = .ok (.iload_n 2, 1) := by decide +kernel
theorem dX12_goesOn_447 : decode cX12_goesOn 447 = .ok (.bipush 6, 2) := by decide +kernel
theorem dX12_goesOn_449 : decode cX12_goesOn 449 = .ok (.if_icmp .ne 69, 3) := by decide +kernel
theorem dX12_goesOn_452 : decode cX12_goesOn 452 = .ok (.aload_n 0, 1) := by decide +kernel
theorem dX12_goesOn_453 : decode cX12_goesOn 453 = .ok (.bipush 44, 2) := by decide +kernel
theorem dX12_goesOn_455 : decode cX12_goesOn 455 = .ok (.invokevirtual 269, 3) := by decide +kernel
theorem dX12_goesOn_458 : decode cX12_goesOn 458 = .ok (.ifCond .ne 12, 3) := by decide +kernel
theorem dX12_goesOn_461 : decode cX12_goesOn 461 = .ok (.aload_n 0, 1) := by decide +kernel
theorem dX12_goesOn_462 : decode cX12_goesOn 462 = .ok (.iconst 1, 1) := by decide +kernel
theorem dX12_goesOn_463 : decode cX12_goesOn 463 = .ok (.aload_n 0, 1) := by decide +kernel
theorem dX12_goesOn_464 : decode cX12_goesOn 464 = .ok (.getfield 23, 3) := by decide +kernel
theorem dX12_goesOn_467 : decode cX12_goesOn 467 = .ok (.invokevirtual 255, 3) := by decide +kernel
theorem dX12_goesOn_470 : decode cX12_goesOn 470 = .ok (.aload_n 0, 1) := by decide +kernel
theorem dX12_goesOn_471 : decode cX12_goesOn 471 = .ok (.getfield 36, 3) := by decide +kernel
theorem dX12_goesOn_474 : decode cX12_goesOn 474 = .ok (.ifCond .le 5, 3) := by decide +kernel
theorem dX12_goesOn_477 : decode cX12_goesOn 477 = .ok (.iconst 0, 1) := by decide +kernel
theorem dX12_goesOn_478 : decode cX12_goesOn 478 = .ok (.ireturn, 1) := by decide +kernel
theorem dX12_goesOn_479 : decode cX12_goesOn 479 = .ok (.aload_n 0, 1) := by decide +kernel
theorem dX12_goesOn_480 : decode cX12_goesOn 480 = .ok (.iconst 1, 1) := by decide +kernel
theorem dX12_goesOn_481 : decode cX12_goesOn 481 = .ok (.invokevirtual 359, 3) := by decide +kernel
theorem dX12_goesOn_484 : decode cX12_goesOn 484 = .ok (.aload_n 0, 1) := by decide +kernel
theorem dX12_goesOn_485 : decode cX12_goesOn 485 = .ok (.getfield 124, 3) := by decide +kernel
theorem dX12_goesOn_488 : decode cX12_goesOn 488 = .ok (.iload_n 1, 1) := by decide +kernel
theorem dX12_goesOn_489 : decode cX12_goesOn 489 = .ok (.iload_n 2, 1) := by decide +kernel
theorem dX12_goesOn_490 : decode cX12_goesOn 490 = .ok (.iconst 3, 1) := by decide +kernel
theorem dX12_goesOn_491 : decode cX12_goesOn 491 = .ok (.if_icmp .ne 7, 3) := by decide +kernel
theorem dX12_goesOn_494 : decode cX12_goesOn 494 = .ok (.iconst 4, 1) := by decide +kernel
theorem dX12_goesOn_495 : decode cX12_goesOn 495 = .ok (.goto 4, 3) := by decide +kernel
theorem dX12_goesOn_498 : decode cX12_goesOn 498 = .ok (.iconst 3, 1) := by decide +kernel
theorem dX12_goesOn_499 : decode cX12_goesOn 499 = .ok (.iastore, 1) := by decide +kernel
theorem dX12_goesOn_500 : decode cX12_goesOn 500 = .ok (.aload_n 0, 1) := by decide +kernel
theorem dX12_goesOn_501 : decode cX12_goesOn 501 = .ok (.getfield 127, 3) := by decide +kernel
theorem dX12_goesOn_504 : decode cX12_goesOn 504 = .ok (.iload_n 1, 1) := by decide +kernel
theorem dX12_goesOn_505 : decode cX12_goesOn 505 = .ok (.iconst 0, 1) := by decide +kernel
theorem dX12_goesOn_506 : decode cX12_goesOn 506 = .ok (.iastore, 1) := by decide +kernel
theorem dX12_goesOn_507 : decode cX12_goesOn 507 = .ok (.aload_n 0, 1) := by decide +kernel
theorem dX12_goesOn_508 : decode cX12_goesOn 508 = .ok (.invokevirtual 272, 3) := by decide +kernel
theorem dX12_goesOn_511 : decode cX12_goesOn 511 = .ok (.aload_n 0, 1) := by decide +kernel
theorem dX12_goesOn_512 : decode cX12_goesOn 512 = .ok (.iconst 0, 1) := by decide +kernel
theorem dX12_goesOn_513 : decode cX12_goesOn 513 = .ok (.putfield 152, 3) := by decide +kernel
theorem dX12_goesOn_516 : decode cX12_goesOn 516 = .ok (.iconst 1, 1) := by decide +kernel
theorem dX12_goesOn_517 : decode cX12_goesOn 517 = .ok (.ireturn, 1) := by decide +kernel
theorem dX12_goesOn_518 : decode cX12_goesOn 518 = .ok (.aload_n 0, 1) := by decide +kernel
theorem dX12_goesOn_519 : decode cX12_goesOn 519 = .ok (.iload_n 2, 1) := by decide +kernel
theorem dX12_goesOn_520 : decode cX12_goesOn 520 = .ok (.iconst 5, 1) := by decide +kernel
theorem dX12_goesOn_521 : decode cX12_goesOn 521 = .ok (.if_icmp .ne 8, 3) := by decide +kernel
theorem dX12_goesOn_524 : decode cX12_goesOn 524 = .ok (.bipush 93, 2) := by decide +kernel
theorem dX12_goesOn_526 : decode cX12_goesOn 526 = .ok (.goto 5, 3) := by decide +kernel
theorem dX12_goesOn_529 : decode cX12_goesOn 529 = .ok (.bipush 41, 2) := by decide +kernel
theorem dX12_goesOn_531 : decode cX12_goesOn 531 = .ok (.invokevirtual 269, 3) := by decide +kernel
theorem dX12_goesOn_534 : decode cX12_goesOn 534 = .ok (.ifCond .ne 12, 3) := by decide +kernel
theorem dX12_goesOn_537 : decode cX12_goesOn 537 = .ok (.aload_n 0, 1) := by decide +kernel
theorem dX12_goesOn_538 : decode cX12_goesOn 538 = .ok (.iconst 1, 1) := by decide +kernel
theorem dX12_goesOn_539 : decode cX12_goesOn 539 = .ok (.aload_n 0, 1) := by decide +kernel
theorem dX12_goesOn_540 : decode cX12_goesOn 540 = .ok (.getfield 23, 3) := by decide +kernel
theorem dX12_goesOn_543 : decode cX12_goesOn 543 = .ok (.invokevirtual 255, 3) := by decide +kernel
theorem dX12_goesOn_546 : decode cX12_goesOn 546 = .ok (.aload_n 0, 1) := by decide +kernel
theorem dX12_goesOn_547 : decode cX12_goesOn 547 = .ok (.getfield 36, 3) := by decide +kernel
theorem dX12_goesOn_550 : decode cX12_goesOn 550 = .ok (.ifCond .le 5, 3) := by decide +kernel
theorem dX12_goesOn_553 : decode cX12_goesOn 553 = .ok (.iconst 0, 1) := by decide +kernel
theorem dX12_goesOn_554 : decode cX12_goesOn 554 = .ok (.ireturn, 1) := by decide +kernel
theorem dX12_goesOn_555 : decode cX12_goesOn 555 = .ok (.aload_n 0, 1) := by decide +kernel
theorem dX12_goesOn_556 : decode cX12_goesOn 556 = .ok (.iconst 1, 1) := by decide +kernel
theorem dX12_goesOn_557 : decode cX12_goesOn 557 = .ok (.invokevirtual 359, 3) := by decide +kernel
theorem dX12_goesOn_560 : decode cX12_goesOn 560 = .ok (.aload_n 0, 1) := by decide +kernel
theorem dX12_goesOn_561 : decode cX12_goesOn 561 = .ok (.dup, 1) := by decide +kernel
theorem dX12_goesOn_562 : decode cX12_goesOn 562 = .ok (.getfield 140, 3) := by decide +kernel
theorem dX12_goesOn_565 : decode cX12_goesOn 565 = .ok (.iconst 1, 1) := by decide +kernel
theorem dX12_goesOn_566 : decode cX12_goesOn 566 = .ok (.isub, 1) := by decide +kernel
theorem dX12_goesOn_567 : decode cX12_goesOn 567 = .ok (.putfield 140, 3) := by decide +kernel
theorem dX12_goesOn_570 : decode cX12_goesOn 570 = .ok (.aload_n 0, 1) := by decide +kernel
theorem dX12_goesOn_571 : decode cX12_goesOn 571 = .ok (.dup, 1) := by decide +kernel
theorem dX12_goesOn_572 : decode cX12_goesOn 572 = .ok (.getfield 143, 3) := by decide +kernel
theorem dX12_goesOn_575 : decode cX12_goesOn 575 = .ok (.iconst 1, 1) := by decide +kernel
theorem dX12_goesOn_576 : decode cX12_goesOn 576 = .ok (.isub, 1) := by decide +kernel
theorem dX12_goesOn_577 : decode cX12_goesOn 577 = .ok (.putfield 143, 3) := by decide +kernel
theorem dX12_goesOn_580 : decode cX12_goesOn 580 = .ok (.iload_n 2, 1) := by decide +kernel
theorem dX12_goesOn_581 : decode cX12_goesOn 581 = .ok (.iconst 4, 1) := by decide +kernel
theorem dX12_goesOn_582 : decode cX12_goesOn 582 = .ok (.if_icmp .ne 14, 3) := by decide +kernel
theorem dX12_goesOn_585 : decode cX12_goesOn 585 = .ok (.aload_n 0, 1) := by decide +kernel
theorem dX12_goesOn_586 : decode cX12_goesOn 586 = .ok (.aload_n 0, 1) := by decide +kernel
theorem dX12_goesOn_587 : decode cX12_goesOn 587 = .ok (.getfield 134, 3) := by decide +kernel
theorem dX12_goesOn_590 : decode cX12_goesOn 590 = .ok (.iload_n 1, 1) := by decide +kernel
theorem dX12_goesOn_591 : decode cX12_goesOn 591 = .ok (.iaload, 1) := by decide +kernel
theorem dX12_goesOn_592 : decode cX12_goesOn 592 = .ok (.iconst 0, 1) := by decide +kernel
theorem dX12_goesOn_593 : decode cX12_goesOn 593 = .ok (.invokevirtual 340, 3) := by decide +kernel
theorem dX12_goesOn_596 : decode cX12_goesOn 596 = .ok (.iload_n 2, 1) := by decide +kernel
theorem dX12_goesOn_597 : decode cX12_goesOn 597 = .ok (.iconst 5, 1) := by decide +kernel
theorem dX12_goesOn_598 : decode cX12_goesOn 598 = .ok (.if_icmp .ne 15, 3) := by decide +kernel
theorem dX12_goesOn_601 : decode cX12_goesOn 601 = .ok (.aload_n 0, 1) := by decide +kernel
theorem dX12_goesOn_602 : decode cX12_goesOn 602 = .ok (.getfield 127, 3) := by decide +kernel
theorem dX12_goesOn_605 : decode cX12_goesOn 605 = .ok (.aload_n 0, 1) := by decide +kernel
theorem dX12_goesOn_606 : decode cX12_goesOn 606 = .ok (.getfield 140, 3) := by decide +kernel
theorem dX12_goesOn_609 : decode cX12_goesOn 609 = .ok (.iconst 1, 1) := by decide +kernel
theorem dX12_goesOn_610 : decode cX12_goesOn 610 = .ok (.isub, 1) := by decide +kernel
theorem dX12_goesOn_611 : decode cX12_goesOn 611 = .ok (.iconst 2, 1) := by decide +kernel
theorem dX12_goesOn_612 : decode cX12_goesOn 612 = .ok (.iastore, 1) := by decide +kernel
theorem dX12_goesOn_613 : decode cX12_goesOn 613 = .ok (.aload_n 0, 1) := by decide +kernel
theorem dX12_goesOn_614 : decode cX12_goesOn 614 = .ok (.invokevirtual 272, 3) := by decide +kernel
theorem dX12_goesOn_617 : decode cX12_goesOn 617 = .ok (.iconst 1, 1) := by decide +kernel
theorem dX12_goesOn_618 : decode cX12_goesOn 618 = .ok (.ireturn, 1) := by decide +kernel
theorem wB_436 : Cond.code yX12_joins cX12_joins 2 none ∈ dgB := List.mem_filter.mpr ⟨tbl_8 _ (List.mem_of_getElem? (i := 99) rfl), rfl⟩
theorem wB_437 : Cond.methodLink RX12 359 yX12_joins ∈ dgB := List.mem_filter.mpr ⟨tbl_8 _ (List.mem_of_getElem? (i := 96) (by decide +kernel)), by decide +kernel⟩
theorem wB_438 : Cond.instanceMethod yX12_joins ∈ dgB := List.mem_filter.mpr ⟨tbl_8 _ (List.mem_of_getElem? (i := 98) (by decide +kernel)), by decide +kernel⟩
theorem wB_439 : Cond.selects RX12 yX12_joins yX12_joins ∈ dgB := List.mem_filter.mpr ⟨List.mem_of_getElem? (i := 113) (by decide +kernel), by decide +kernel⟩
theorem wB_440 : Cond.fieldLink RX12 152 "DarkMineModel" "operand" "Z" ∈ dgB := List.mem_filter.mpr ⟨tbl_6 _ (List.mem_of_getElem? (i := 209) (by decide +kernel)), by decide +kernel⟩
set_option maxHeartbeats 8000000 in
set_option maxRecDepth 100000 in
theorem c_m_goesOn (l : Launch) (g : Nat → ClassId) (D : va_G) (o : Nat) (S : dg_S) (tb : Nat → Int32) (tn : Nat) (sg : Int32) (f_sg : S.1 0 3 = .int sg) (b_sg : 0 ≤ (sg).toInt ∧ (sg).toInt ≤ 3) (sa : Int32) (f_sa : S.1 0 4 = .int sa) (b_sa : 0 ≤ (sa).toInt ∧ (sa).toInt ≤ 1600) (se : Int32) (f_se : S.1 0 5 = .int se) (b_se : 0 ≤ (se).toInt ∧ (se).toInt ≤ 1600) (sl : Int32) (f_sl : S.1 0 2 = .int sl) (b_sl : 0 ≤ (sl).toInt ∧ (sl).toInt ≤ 1600) (fk : Int32) (f_fk : S.1 0 8 = .int fk) (b_fk : 0 ≤ (fk).toInt ∧ (fk).toInt ≤ 6) (va : Int32) (f_va : S.1 0 6 = .int va) (b_va : 0 ≤ (va).toInt ∧ (va).toInt ≤ 9999) (cd : Int32) (f_cd : S.1 0 34 = .int cd) (b_cd : 0 ≤ (cd).toInt ∧ (cd).toInt ≤ 1600) (dp : Int32) (f_dp : S.1 0 42 = .int dp) (b_dp : 0 ≤ (dp).toInt ∧ (dp).toInt ≤ 20) (on : Int32) (f_on : S.1 0 43 = .int on) (om : Int32) (f_om : S.1 0 45 = .int om) (b_om : 0 ≤ (om).toInt ∧ (om).toInt ≤ 500) (oo : Int32) (f_oo : S.1 0 46 = .int oo) (b_oo : 1 ≤ (oo).toInt ∧ (oo).toInt ≤ 1) (lw : Int32) (f_lw : S.1 0 36 = .int lw) (b_lw : 0 ≤ (lw).toInt ∧ (lw).toInt ≤ 2) (hlx : (sa).toInt ≤ (se).toInt ∧ (se).toInt ≤ (sl).toInt ∧ ((sg).toInt ≠ 0 → (sa).toInt + 1 ≤ (se).toInt)) (hro : (cd).toInt + (om).toInt + (dp).toInt ≤ (sa).toInt) (TK : TKM tb tn S) (ZW : ZWM S) (ZK : ZKM S) (P1 : P1M S) (I : CM o S) (sz : Nat) : Met l yX12_goesOn (bw yX12_goesOn cX12_goesOn 5 (some .boolean)) ({ frames := 3, cells := 0, slots := 0, locals := 77 } : Room) (dk_Pc g D (dg_w g shM o rfM S) sz [.ref (o + 0)]) (va_Qi (fun (r : Int32) S' => CM o S' ∧ dg_sm shM [(0, 3), (0, 4), (0, 5), (0, 6), (0, 7), (0, 8), (0, 9), (0, 12), (0, 34), (0, 42), (0, 43), (0, 45), (0, 46)] [18, 19, 22, 23, 24, 27] S S' ∧ (0 ≤ (r).toInt ∧ (r).toInt ≤ 1) ∧ (∃ y9_3 y9_4 y9_5 y9_8 y9_34 y9_42 y9_45 y9_46 : Int32, S'.1 0 3 = .int y9_3 ∧ S'.1 0 4 = .int y9_4 ∧ S'.1 0 5 = .int y9_5 ∧ S'.1 0 8 = .int y9_8 ∧ S'.1 0 34 = .int y9_34 ∧ S'.1 0 42 = .int y9_42 ∧ S'.1 0 45 = .int y9_45 ∧ S'.1 0 46 = .int y9_46 ∧ (((y9_4).toInt ≤ (y9_5).toInt ∧ (y9_5).toInt ≤ (sl).toInt ∧ ((y9_3).toInt ≠ 0 → (y9_4).toInt + 1 ≤ (y9_5).toInt)) ∧ (sa).toInt ≤ (y9_4).toInt ∧ ((fk).toInt ≠ 0 → (y9_8).toInt ≠ 0) ∧ (((y9_8).toInt = 0 → (r).toInt = 1 → (sa).toInt + 1 ≤ (y9_4).toInt) ∧ ((y9_8).toInt = 0 → (y9_34).toInt + (y9_45).toInt + (y9_42).toInt ≤ (y9_4).toInt)))) ∧ (∀ k9 : Int32, S'.1 0 8 = .int k9 → k9.toInt = 0 → POM S') ∧ (GOK tb tn (lw).toInt S S' r) ∧ TKM tb tn S' ∧ ZWM S' ∧ True) (dg_B g D shM o rfM) (dg_A o shM.length sz)) 0 0 (dg_A o shM.length sz) := by
  refine dg_met (cc := cX12_goesOn) (maxL := 5) (ret := (some .boolean)) (by decide) rfl (Nat.le_of_ble_eq_true rfl) ?_
  intro p e s m args below meth c A hAe harg hx hb hr hml hts hown hlocks hin hP K hS hA1 hA ST hsz ls hl
  rw [← hAe]
  have F : CallFix p m c cX12_goesOn 5 s args (bw yX12_goesOn cX12_goesOn 5 (some .boolean)) RX12 := ⟨hx, hb, hml, hown, hts⟩
  have hl : lv_has ls 5 [(0, .ref (o + 0))] := hl
  have M_0 : dg_sm shM [(0, 3), (0, 4), (0, 5), (0, 6), (0, 7), (0, 8), (0, 9), (0, 12), (0, 34), (0, 42), (0, 43), (0, 45), (0, 46)] [18, 19, 22, 23, 24, 27] S S := dg_sm.rf
  obtain ⟨Q9, hQ9⟩ : ∃ Q : State → Prop, Q = MQ below (va_Qi (fun (r : Int32) S' => CM o S' ∧ dg_sm shM [(0, 3), (0, 4), (0, 5), (0, 6), (0, 7), (0, 8), (0, 9), (0, 12), (0, 34), (0, 42), (0, 43), (0, 45), (0, 46)] [18, 19, 22, 23, 24, 27] S S' ∧ (0 ≤ (r).toInt ∧ (r).toInt ≤ 1) ∧ (∃ y9_3 y9_4 y9_5 y9_8 y9_34 y9_42 y9_45 y9_46 : Int32, S'.1 0 3 = .int y9_3 ∧ S'.1 0 4 = .int y9_4 ∧ S'.1 0 5 = .int y9_5 ∧ S'.1 0 8 = .int y9_8 ∧ S'.1 0 34 = .int y9_34 ∧ S'.1 0 42 = .int y9_42 ∧ S'.1 0 45 = .int y9_45 ∧ S'.1 0 46 = .int y9_46 ∧ (((y9_4).toInt ≤ (y9_5).toInt ∧ (y9_5).toInt ≤ (sl).toInt ∧ ((y9_3).toInt ≠ 0 → (y9_4).toInt + 1 ≤ (y9_5).toInt)) ∧ (sa).toInt ≤ (y9_4).toInt ∧ ((fk).toInt ≠ 0 → (y9_8).toInt ≠ 0) ∧ (((y9_8).toInt = 0 → (r).toInt = 1 → (sa).toInt + 1 ≤ (y9_4).toInt) ∧ ((y9_8).toInt = 0 → (y9_34).toInt + (y9_45).toInt + (y9_42).toInt ≤ (y9_4).toInt)))) ∧ (∀ k9 : Int32, S'.1 0 8 = .int k9 → k9.toInt = 0 → POM S') ∧ (GOK tb tn (lw).toInt S S' r) ∧ TKM tb tn S' ∧ ZWM S' ∧ True) (dg_B g D shM o rfM) A) args s 0 0 A := ⟨_, rfl⟩
  rw [← hQ9]
  obtain ⟨hlx_0, hlx_1, hlx_2⟩ := hlx
  have lxh_hlx_2 : m_hid ((sa).toInt ≤ (se).toInt ∧ (se).toInt ≤ (sl).toInt ∧ ((sg).toInt ≠ 0 → (sa).toInt + 1 ≤ (se).toInt)) := m_hid.mk ⟨hlx_0, hlx_1, hlx_2⟩
  have hdm_0 := PSM.dims P1 f_dp f_on f_om
  refine lv_aload_n hx hb dX12_goesOn_0 rfl (lv_at hl 0 rfl) ?_
  refine dg_callv hS hA1 hA (va_runV (As := []) (rest := []) F (c_m_lex l g D o S tb tn fk f_fk (by omega) sa f_sa (by omega) TK I s.heap.size) (cwV 0 hts (bw_V wB_310 wB_311 wB_312 wB_297 wB_309) rfl rfl rfl (by decide +kernel) ⟨Nat.le_of_ble_eq_true rfl, Nat.le_of_ble_eq_true rfl⟩) (dg_preV sM_0 rfl K ST hP hS hA1 hA) rfl rfl hl.1 rfl (lv_room (Nat.le_of_ble_eq_true rfl)) dX12_goesOn_1 ⟨Nat.le_of_ble_eq_true rfl, Nat.le_of_ble_eq_true rfl⟩) (fun S_2 hw_2 H locs hP hS => ?_)
  obtain ⟨I_2, m_2, w_2_0, -⟩ := hw_2
  have M_2 := dg_sm.tr M_0 m_2 (by decide) (by decide)
  obtain ⟨y_3, f_y_3, w_2_0⟩ := w_2_0
  have w_2_0 : ((fk).toInt ≠ 0 → (y_3).toInt = (fk).toInt) ∧ ((fk).toInt = 0 → ((y_3).toInt = 0 ↔ (T_kd tb tn (t_ix tb tn (sa : Int32).toNatClampNeg)).toInt ≠ 5)) := w_2_0
  obtain ⟨w_2_0_0, w_2_0_1⟩ := w_2_0
  have b_y_3 : 0 ≤ (y_3).toInt ∧ (y_3).toInt ≤ 6 := dg_I.intb (lo := 0) (hi := 6) I_2 sM_0 (by decide +kernel) f_y_3
  refine lv_aload_n hx hb dX12_goesOn_4 rfl (lv_at hl 0 rfl) ?_
  refine dg_get (C := RX12) (T := TX12) (N := 77) hx hb hts (fun w h => bw_mem (wU_X12 w h)) hown K hP sM_0 rfl 8 (by decide) (hts _ (bw_mem wB_303)) (fun _ h9 => h9) (v := .int y_3) f_y_3 dX12_goesOn_5 ?_
  refine lv_if_le (tgt := 13) hx hb dX12_goesOn_8 (by decide) (fun c_4 => ?_) (fun c_4 => ?_)
  · have jc_4 := dk_lec (k := 0) (by decide +kernel) c_4
    have w_2_0_0c : (fk).toInt = 0 := by omega
    clear w_2_0_0
    have w_2_0_1r := w_2_0_1 (by omega)
    clear w_2_0_1
    have hk5 := m_hid.mk (show (T_kd tb tn (t_ix tb tn (sa : Int32).toNatClampNeg)).toInt ≠ 5 from by omega)
    clear w_2_0_1r
    refine lv_aload_n hx hb dX12_goesOn_13 rfl (lv_at hl 0 rfl) ?_
    refine dg_get (C := RX12) (T := TX12) (N := 77) hx hb hts (fun w h => bw_mem (wU_X12 w h)) hown K hP sM_0 rfl 42 (by decide) (hts _ (bw_mem wB_406)) (fun _ h9 => h9) (v := .int dp) ((m_2.1 0 42 _ sM_0 (by decide)).trans f_dp) dX12_goesOn_14 ?_
    refine lv_iconst (v := 1) hx hb dX12_goesOn_17 (by decide +kernel) ?_
    refine lv_isub hx hb dX12_goesOn_18 ?_
    refine lv_topi (fun x_5 ex_5 => ?_)
    have jx_5 : (x_5).toInt = (dp).toInt - 1 := by rw [ex_5]; exact dk_subT rfl (by decide +kernel) (by omega) (by omega)
    refine lv_istore_n (lv' := [(1, .int x_5), (0, .ref (o + 0))]) hx hb dX12_goesOn_19 rfl hl (by decide) rfl (fun ls hl => ?_)
    refine lv_aload_n hx hb dX12_goesOn_20 rfl (lv_at hl 1 rfl) ?_
    refine dg_get (C := RX12) (T := TX12) (N := 77) hx hb hts (fun w h => bw_mem (wU_X12 w h)) hown K hP sM_0 rfl 37 (by decide) (hts _ (bw_mem wB_416)) (fun _ h9 => h9) (v := .ref (o + 22)) (show S_2.1 0 37 = .ref (o + 22) from dg_I.rel (d := 22) I_2 sM_0 (by decide +kernel)) dX12_goesOn_21 ?_
    refine lv_iload_n hx hb dX12_goesOn_24 rfl (lv_at hl 0 rfl) ?_
    have hin_6 : vp_in x_5 20 := (dk_inv (by omega) (by omega))
    refine dg_iald hx hb K hP sM_22 hin_6 dX12_goesOn_25 (fun x_7 ex_7 => ?_)
    have b_x_7 := dk_all_at (dg_I.row (lo := 0) (hi := 6) I_2 sM_22 (by decide +kernel)) hin_6 ex_7
    refine lv_istore_n (lv' := [(2, .int x_7), (1, .int x_5), (0, .ref (o + 0))]) hx hb dX12_goesOn_26 rfl hl (by decide) rfl (fun ls hl => ?_)
    refine lv_iload_n hx hb dX12_goesOn_27 rfl (lv_at hl 0 rfl) ?_
    refine dg_calli hS hA1 hA (va_runS (As := [.int x_7]) (rest := []) F (c_m_isTest l g D o S_2 x_7 I_2 H.size) (va_cwS 1 hts (bw_S wB_424 wB_425 wB_297 wB_423) rfl rfl rfl (by decide +kernel) ⟨Nat.le_of_ble_eq_true rfl, Nat.le_of_ble_eq_true rfl⟩) (dg_preS K ST hP hS hA1 hA) rfl rfl hl.1 rfl (lv_room (Nat.le_of_ble_eq_true rfl)) dX12_goesOn_28 ⟨Nat.le_of_ble_eq_true rfl, Nat.le_of_ble_eq_true rfl⟩) (fun x_8 S_9 hw_9 H locs hP hS => ?_)
    rw [hw_9.1] at hP
    obtain ⟨hq_9, w_9_0, w_9_1, -⟩ := hw_9
    have w_9_0 : 0 ≤ (x_8).toInt ∧ (x_8).toInt ≤ 1 := w_9_0
    have w_9_1 : (x_8).toInt = 1 ↔ ((x_7).toInt = 1 ∨ (x_7).toInt = 5 ∨ (x_7).toInt = 6) := w_9_1
    refine lv_istore_n (lv' := [(3, .int x_8), (2, .int x_7), (1, .int x_5), (0, .ref (o + 0))]) hx hb dX12_goesOn_31 rfl hl (by decide) rfl (fun ls hl => ?_)
    refine lv_aload_n hx hb dX12_goesOn_32 rfl (lv_at hl 3 rfl) ?_
    refine dg_get (C := RX12) (T := TX12) (N := 77) hx hb hts (fun w h => bw_mem (wU_X12 w h)) hown K hP sM_0 rfl 38 (by decide) (hts _ (bw_mem wB_417)) (fun _ h9 => h9) (v := .ref (o + 23)) (show S_2.1 0 38 = .ref (o + 23) from dg_I.rel (d := 23) I_2 sM_0 (by decide +kernel)) dX12_goesOn_33 ?_
    refine lv_iload_n hx hb dX12_goesOn_36 rfl (lv_at hl 2 rfl) ?_
    have hin_10 : vp_in x_5 20 := (dk_inv (by omega) (by omega))
    refine dg_iald hx hb K hP sM_23 hin_10 dX12_goesOn_37 (fun x_11 ex_11 => ?_)
    have b_x_11 := dk_all_at (dg_I.row (lo := 0) (hi := 2) I_2 sM_23 (by decide +kernel)) hin_10 ex_11
    obtain ⟨nt0, R0, TF0⟩ := TFM.start (P1M.keep P1 m_2 (by decide) (by decide) (by decide) (by decide) (by decide) (by decide) (by decide) (by decide) (by decide) (by decide) (by decide) (by decide) (by decide) (by decide) (by decide)) ((m_2.1 0 42 _ sM_0 (by decide)).trans f_dp) ((m_2.1 0 43 _ sM_0 (by decide)).trans f_on) ((m_2.1 0 45 _ sM_0 (by decide)).trans f_om) (fx := x_5) (by omega) ex_7.symm ex_11.symm
    obtain ⟨bg0, hbg0⟩ : ∃ b, b = decide ((S_2.2.1 24 (x_5 : Int32).toNatClampNeg).toInt = 1) := ⟨_, rfl⟩
    rw [← hbg0] at TF0
    clear hbg0
    have hM0 : MSv S (t_ix tb tn (sa : Int32).toNatClampNeg) true = (0, ((x_7).toInt, (x_11).toInt, bg0, nt0) :: R0, (on).toNatClampNeg, (t_ix tb tn (sa : Int32).toNatClampNeg), true) := (MSv.keep m_2 (by decide) (by decide) (by decide) (by decide) (by decide) (by decide) (by decide) (by decide)).trans TF0.ms
    replace w_9_1 := m_hid.mk w_9_1
    refine lv_iconst (v := 2) hx hb dX12_goesOn_38 (by decide +kernel) ?_
    have J_490 : ∀ (u9 : Unit), (m_hid ((x_11).toInt < 2 → g_so (T_kd tb tn) (T_vl tb tn) (t_ix tb tn (sa : Int32).toNatClampNeg) = false ∧ g_po (T_kd tb tn) (T_vl tb tn) (t_ix tb tn (sa : Int32).toNatClampNeg) = false)) → ∀ (H : Heap) (locs : List Loc), va_P D vwCl (dg_w g shM o rfM S_2) H → va_S A s.heap H locs → ∀ ls : Array Slot, lv_has ls 5 [(3, .int x_8), (2, .int x_7), (1, .int x_5), (0, .ref (o + 0))] → W p l e ({ frames := 3, cells := 0, slots := 0, locals := 77 } : Room) s m args below meth c H locs 0 0 Q9 (F0 m 188 ls []) := by
      intro u9 rel_0 H locs hP hS ls hl
      have hnop := rel_0
      refine lv_iload_n hx hb dX12_goesOn_188 rfl (lv_at hl 0 rfl) ?_
      have J_838 : ∀ (u9 : Unit), (m_hid ((x_8).toInt = 1 → (x_11).toInt = 0 → g_co (T_kd tb tn) (T_vl tb tn) (t_ix tb tn (sa : Int32).toNatClampNeg) = false)) → ∀ (H : Heap) (locs : List Loc), va_P D vwCl (dg_w g shM o rfM S_2) H → va_S A s.heap H locs → ∀ ls : Array Slot, lv_has ls 5 [(3, .int x_8), (2, .int x_7), (1, .int x_5), (0, .ref (o + 0))] → W p l e ({ frames := 3, cells := 0, slots := 0, locals := 77 } : Room) s m args below meth c H locs 0 0 Q9 (F0 m 285 ls []) := by
        intro u9 rel_0 H locs hP hS ls hl
        have hnco := rel_0
        refine lv_iload_n hx hb dX12_goesOn_285 rfl (lv_at hl 0 rfl) ?_
        have J_1133 : ∀ (u9 : Unit), (m_hid ((x_8).toInt = 1 → g_o (T_kd tb tn) (T_vl tb tn) 22 (t_ix tb tn (sa : Int32).toNatClampNeg) = false ∧ g_o (T_kd tb tn) (T_vl tb tn) 21 (t_ix tb tn (sa : Int32).toNatClampNeg) = false)) → ∀ (H : Heap) (locs : List Loc), va_P D vwCl (dg_w g shM o rfM S_2) H → va_S A s.heap H locs → ∀ ls : Array Slot, lv_has ls 5 [(3, .int x_8), (2, .int x_7), (1, .int x_5), (0, .ref (o + 0))] → W p l e ({ frames := 3, cells := 0, slots := 0, locals := 77 } : Room) s m args below meth c H locs 0 0 Q9 (F0 m 400 ls []) := by
          intro u9 rel_0 H locs hP hS ls hl
          have hnao := rel_0
          refine lv_iload_n hx hb dX12_goesOn_400 rfl (lv_at hl 0 rfl) ?_
          have J_1335 : ∀ (u9 : Unit), (m_hid (¬ ((x_8).toInt = 1 ∧ (x_11).toInt = 0))) → ∀ (H : Heap) (locs : List Loc), va_P D vwCl (dg_w g shM o rfM S_2) H → va_S A s.heap H locs → ∀ ls : Array Slot, lv_has ls 5 [(3, .int x_8), (2, .int x_7), (1, .int x_5), (0, .ref (o + 0))] → W p l e ({ frames := 3, cells := 0, slots := 0, locals := 77 } : Room) s m args below meth c H locs 0 0 Q9 (F0 m 422 ls []) := by
            intro u9 rel_0 H locs hP hS ls hl
            have h422 := rel_0
            refine lv_iload_n hx hb dX12_goesOn_422 rfl (lv_at hl 1 rfl) ?_
            refine lv_iconst (v := 2) hx hb dX12_goesOn_423 (by decide +kernel) ?_
            refine lv_icmp_ge (tgt := 441) hx hb dX12_goesOn_424 (by decide) (fun c_1336 => ?_) (fun c_1336 => ?_)
            · have jc_1336 := dk_gec (k := 2) (by decide +kernel) c_1336
              refine lv_iload_n hx hb dX12_goesOn_441 rfl (lv_at hl 1 rfl) ?_
              refine lv_iconst (v := 3) hx hb dX12_goesOn_442 (by decide +kernel) ?_
              have J_1473 : ∀ (u9 : Unit), ((x_7 : Int32).toInt = 3 ∨ (x_7 : Int32).toInt = 6) → ∀ (H : Heap) (locs : List Loc), va_P D vwCl (dg_w g shM o rfM S_2) H → va_S A s.heap H locs → ∀ ls : Array Slot, lv_has ls 5 [(3, .int x_8), (2, .int x_7), (1, .int x_5), (0, .ref (o + 0))] → W p l e ({ frames := 3, cells := 0, slots := 0, locals := 77 } : Room) s m args below meth c H locs 0 0 Q9 (F0 m 452 ls []) := by
                intro u9 rel_0 H locs hP hS ls hl
                refine lv_aload_n hx hb dX12_goesOn_452 rfl (lv_at hl 3 rfl) ?_
                refine lv_bipush (v := 44) hx hb dX12_goesOn_453 (by decide +kernel) ?_
                refine dg_calli hS hA1 hA (va_runV (As := [.int 44]) (rest := []) F (c_m_isSign l g D o S_2 44 sg ((m_2.1 0 3 _ sM_0 (by decide)).trans f_sg) (by omega) va ((m_2.1 0 6 _ sM_0 (by decide)).trans f_va) (by omega) I_2 H.size) (cwV 1 hts (bw_V wB_314 wB_315 wB_316 wB_297 wB_313) rfl rfl rfl (by decide +kernel) ⟨Nat.le_of_ble_eq_true rfl, Nat.le_of_ble_eq_true rfl⟩) (dg_preV sM_0 rfl K ST hP hS hA1 hA) rfl rfl hl.1 rfl (lv_room (Nat.le_of_ble_eq_true rfl)) dX12_goesOn_455 ⟨Nat.le_of_ble_eq_true rfl, Nat.le_of_ble_eq_true rfl⟩) (fun x_1474 S_1475 hw_1475 H locs hP hS => ?_)
                rw [hw_1475.1] at hP
                obtain ⟨hq_1475, w_1475_0, w_1475_1, -⟩ := hw_1475
                have hz_1476 : (44 : Int32).toInt = 44 := by decide +kernel
                have w_1475_0 : 0 ≤ (x_1474).toInt ∧ (x_1474).toInt ≤ 1 := w_1475_0
                have w_1475_1 : (x_1474).toInt = 1 ↔ ((sg).toInt = 3 ∧ (va).toInt = ((44 : Int32)).toInt) := w_1475_1
                refine lv_if_ne (tgt := 470) hx hb dX12_goesOn_458 (by decide) (fun c_1477 => ?_) (fun c_1477 => ?_)
                · have jc_1477 := dk_neqc (k := 0) (by decide +kernel) c_1477
                  have jbc_1477 : 1 ≤ (x_1474).toInt := by omega
                  clear jc_1477
                  have qw_1475_1 : g_s (T_kd tb tn) (T_vl tb tn) 44 (t_ix tb tn (sa : Int32).toNatClampNeg) = true := (TKM.iss (TKM.keep TK m_2 (by decide) (by decide) (by decide) (by decide) (by decide) (by decide) (by decide) (by decide)) ((m_2.1 0 3 _ sM_0 (by decide)).trans f_sg) ((m_2.1 0 4 _ sM_0 (by decide)).trans f_sa) ((m_2.1 0 6 _ sM_0 (by decide)).trans f_va) hk5.out (c := 44) (by have h9 := w_1475_1; rw [show (44 : Int32).toInt = 44 from by decide +kernel] at h9; exact h9)).mp (by omega)
                  have w_1475_1_r := w_1475_1.mp (by omega)
                  obtain ⟨w_1475_1_r1, w_1475_1_r2⟩ := w_1475_1_r
                  clear w_1475_1
                  have hlx_2r := hlx_2 (by omega)
                  clear hlx_2
                  refine lv_aload_n hx hb dX12_goesOn_470 rfl (lv_at hl 3 rfl) ?_
                  refine dg_get (C := RX12) (T := TX12) (N := 77) hx hb hts (fun w h => bw_mem (wU_X12 w h)) hown K hP sM_0 rfl 8 (by decide) (hts _ (bw_mem wB_303)) (fun _ h9 => h9) (v := .int y_3) f_y_3 dX12_goesOn_471 ?_
                  refine lv_if_le (tgt := 479) hx hb dX12_goesOn_474 (by decide) (fun _ => ?_) (fun c => absurd (dk_lep (k := 0) (by decide +kernel) (by omega)) c)
                  refine lv_aload_n hx hb dX12_goesOn_479 rfl (lv_at hl 3 rfl) ?_
                  refine lv_iconst (v := 1) hx hb dX12_goesOn_480 (by decide +kernel) ?_
                  have hz_1478 : (1 : Int32).toInt = 1 := by decide +kernel
                  refine dg_callv hS hA1 hA (va_runV (As := [.int 1]) (rest := []) F (c_m_joins l g D o S_2 1 (by decide +kernel) cd ((m_2.1 0 34 _ sM_0 (by decide)).trans f_cd) (by omega) om ((m_2.1 0 45 _ sM_0 (by decide)).trans f_om) (by omega) (by omega) (ZWM.keep ZW m_2 (by decide) (by decide) (by decide) (by decide)) (ZKM.keep ZK m_2 (by decide) (by decide)) (P1M.keep P1 m_2 (by decide) (by decide) (by decide) (by decide) (by decide) (by decide) (by decide) (by decide) (by decide) (by decide) (by decide) (by decide) (by decide) (by decide) (by decide)) I_2 H.size) (cwV 1 hts (bw_V wB_437 wB_438 wB_439 wB_297 wB_436) rfl rfl rfl (by decide +kernel) ⟨Nat.le_of_ble_eq_true rfl, Nat.le_of_ble_eq_true rfl⟩) (dg_preV sM_0 rfl K ST hP hS hA1 hA) rfl rfl hl.1 rfl (lv_room (Nat.le_of_ble_eq_true rfl)) dX12_goesOn_481 ⟨Nat.le_of_ble_eq_true rfl, Nat.le_of_ble_eq_true rfl⟩) (fun S_1479 hw_1479 H locs hP hS => ?_)
                  obtain ⟨I_1479, m_1479, w_1479_0, w_1479_1, w_1479_2, w_1479_3, w_1479_4, -⟩ := hw_1479
                  have M_1479 := dg_sm.tr M_2 m_1479 (by decide) (by decide)
                  have hz_1480 : (1 : Int32).toInt = 1 := by decide +kernel
                  obtain ⟨y_1481, y_1482, f_y_1481, f_y_1482, w_1479_0⟩ := w_1479_0
                  have w_1479_0 : (y_1481).toInt + (y_1482).toInt = (cd).toInt + (om).toInt := w_1479_0
                  have b_y_1481 : 0 ≤ (y_1481).toInt ∧ (y_1481).toInt ≤ 1600 := dg_I.intb (lo := 0) (hi := 1600) I_1479 sM_0 (by decide +kernel) f_y_1481
                  have b_y_1482 : 0 ≤ (y_1482).toInt ∧ (y_1482).toInt ≤ 500 := dg_I.intb (lo := 0) (hi := 500) I_1479 sM_0 (by decide +kernel) f_y_1482
                  replace w_1479_1 : TOPM S_1479 (1 : Int32) := w_1479_1
                  obtain ⟨x_1483, f_x_1483, b_x_1483⟩ := dg_I.int (i := 0) (k := 43) (lo := (-2147483648)) (hi := 2147483647) I_1479 sM_0 (by decide +kernel)
                  replace w_1479_2 : JNM S_2 S_1479 (1 : Int32) := w_1479_2
                  have TF_1479 : TFM (x_7).toInt (x_11).toInt bg0 0 R0 ((on).toNatClampNeg - nt0) S_1479 := (TFM.join TF0 (P1M.keep P1 m_2 (by decide) (by decide) (by decide) (by decide) (by decide) (by decide) (by decide) (by decide) (by decide) (by decide) (by decide) (by decide) (by decide) (by decide) (by decide)) ((m_2.1 0 42 _ sM_0 (by decide)).trans f_dp) ((m_2.1 0 43 _ sM_0 (by decide)).trans f_on) ((m_2.1 0 45 _ sM_0 (by decide)).trans f_om) w_1479_2 w_1479_1 m_1479 (by decide) (by decide) (by decide) (by decide) (by decide) (by decide)).2 (by decide +kernel) (by decide +kernel)
                  have hdm_1483 := PSM.dims w_1479_4 (((m_1479.1 0 42 _ sM_0 (by decide)).trans (m_2.1 0 42 _ sM_0 (by decide))).trans f_dp) f_x_1483 f_y_1482
                  refine lv_aload_n hx hb dX12_goesOn_484 rfl (lv_at hl 3 rfl) ?_
                  refine dg_get (C := RX12) (T := TX12) (N := 77) hx hb hts (fun w h => bw_mem (wU_X12 w h)) hown K hP sM_0 rfl 37 (by decide) (hts _ (bw_mem wB_416)) (fun _ h9 => h9) (v := .ref (o + 22)) (show S_1479.1 0 37 = .ref (o + 22) from dg_I.rel (d := 22) I_1479 sM_0 (by decide +kernel)) dX12_goesOn_485 ?_
                  refine lv_iload_n hx hb dX12_goesOn_488 rfl (lv_at hl 2 rfl) ?_
                  refine lv_iload_n hx hb dX12_goesOn_489 rfl (lv_at hl 1 rfl) ?_
                  refine lv_iconst (v := 3) hx hb dX12_goesOn_490 (by decide +kernel) ?_
                  refine lv_icmp_ne (tgt := 498) hx hb dX12_goesOn_491 (by decide) (fun c_1485 => ?_) (fun c_1485 => ?_)
                  · have jc_1485 := dk_neqc (k := 3) (by decide +kernel) c_1485
                    have jbc_1485 : 6 ≤ (x_7).toInt := by omega
                    clear jc_1485
                    refine lv_iconst (v := 3) hx hb dX12_goesOn_498 (by decide +kernel) ?_
                    have hin_1486 : vp_in x_5 20 := (dk_inv (by omega) (by omega))
                    have hz_1488 : (3 : Int32).toInt = 3 := by decide +kernel
                    refine dg_iast hx hb K hP hS hA1 sM_22 hin_1486 dX12_goesOn_499 (fun S_1487 e_1487 H locs hP hS => ?_)
                    have I_1487 := dg_I.ufu (lo := 0) (hi := 6) I_1479 e_1487 sM_22 (by decide +kernel) (show 0 ≤ ((3 : Int32)).toInt ∧ ((3 : Int32)).toInt ≤ 6 from (by decide +kernel))
                    have M_1487 := dg_sm.uf M_1479 e_1487 sM_22 (by decide)
                    have hz_1489 : (3 : Int32).toInt = 3 := by decide +kernel
                    have hz_1490 : (3 : Int32).toInt = 3 := by decide +kernel
                    have TF_1487 : TFM 3 (x_11).toInt bg0 0 R0 ((on).toNatClampNeg - nt0) S_1487 := (by have h9 := (TFM.fr' TF_1479 (((m_1479.1 0 42 _ sM_0 (by decide)).trans (m_2.1 0 42 _ sM_0 (by decide))).trans f_dp) f_x_1483 f_y_1482 (fx := x_5) (by omega) (by omega) e_1487); rw [show (3 : Int32).toInt = 3 from by decide +kernel] at h9; exact h9)
                    refine lv_aload_n hx hb dX12_goesOn_500 rfl (lv_at hl 3 rfl) ?_
                    refine dg_get (C := RX12) (T := TX12) (N := 77) hx hb hts (fun w h => bw_mem (wU_X12 w h)) hown K hP sM_0 rfl 38 (by decide) (hts _ (bw_mem wB_417)) (fun _ h9 => h9) (v := .ref (o + 23)) (show S_1487.1 0 38 = .ref (o + 23) from dg_I.rel (d := 23) I_1487 sM_0 (by decide +kernel)) dX12_goesOn_501 ?_
                    refine lv_iload_n hx hb dX12_goesOn_504 rfl (lv_at hl 2 rfl) ?_
                    refine lv_iconst (v := 0) hx hb dX12_goesOn_505 (by decide +kernel) ?_
                    have hin_1491 : vp_in x_5 20 := (dk_inv (by omega) (by omega))
                    have hz_1493 : (0 : Int32).toInt = 0 := by decide +kernel
                    refine dg_iast hx hb K hP hS hA1 sM_23 hin_1491 dX12_goesOn_506 (fun S_1492 e_1492 H locs hP hS => ?_)
                    have I_1492 := dg_I.ufu (lo := 0) (hi := 2) I_1487 e_1492 sM_23 (by decide +kernel) (show 0 ≤ ((0 : Int32)).toInt ∧ ((0 : Int32)).toInt ≤ 2 from (by decide +kernel))
                    have M_1492 := dg_sm.uf M_1487 e_1492 sM_23 (by decide)
                    have hz_1494 : (0 : Int32).toInt = 0 := by decide +kernel
                    have P0_1492 : P0M S_1492 := P1M.comma w_1479_4 (((m_1479.1 0 42 _ sM_0 (by decide)).trans (m_2.1 0 42 _ sM_0 (by decide))).trans f_dp) f_x_1483 f_y_1482 w_1479_1 (by omega) (fx := x_5) (by omega) ((congrFun (m_1479.2 22 _ sM_22 (by decide)).1 _).trans ex_7.symm) (by omega) e_1487 e_1492
                    have hz_1495 : (0 : Int32).toInt = 0 := by decide +kernel
                    have TF_1492 : TFM 3 0 bg0 0 R0 ((on).toNatClampNeg - nt0) S_1492 := (by have h9 := (TFM.ph' TF_1487 (((dg_uf_F e_1487 0 42).trans ((m_1479.1 0 42 _ sM_0 (by decide)).trans (m_2.1 0 42 _ sM_0 (by decide)))).trans f_dp) ((dg_uf_F e_1487 0 43).trans f_x_1483) ((dg_uf_F e_1487 0 45).trans f_y_1482) (fx := x_5) (by omega) (by omega) e_1492); rw [show (0 : Int32).toInt = 0 from by decide +kernel] at h9; exact h9)
                    refine lv_aload_n hx hb dX12_goesOn_507 rfl (lv_at hl 3 rfl) ?_
                    refine dg_callv hS hA1 hA (va_runV (As := []) (rest := []) F (c_m_ahead l g D o S_1492 tb tn se (((dg_uf_F e_1492 0 5).trans ((dg_uf_F e_1487 0 5).trans ((m_1479.1 0 5 _ sM_0 (by decide)).trans (m_2.1 0 5 _ sM_0 (by decide))))).trans f_se) (by omega) sl (((dg_uf_F e_1492 0 2).trans ((dg_uf_F e_1487 0 2).trans ((m_1479.1 0 2 _ sM_0 (by decide)).trans (m_2.1 0 2 _ sM_0 (by decide))))).trans f_sl) (by omega) (by omega) (TKM.keep (TKM.keep (TKM.keep (TKM.keep TK m_2 (by decide) (by decide) (by decide) (by decide) (by decide) (by decide) (by decide) (by decide)) m_1479 (by decide) (by decide) (by decide) (by decide) (by decide) (by decide) (by decide) (by decide)) (dg_sm.uf (WF := []) (WA := [22]) dg_sm.rf e_1487 sM_22 (by decide)) (by decide) (by decide) (by decide) (by decide) (by decide) (by decide) (by decide) (by decide)) (dg_sm.uf (WF := []) (WA := [23]) dg_sm.rf e_1492 sM_23 (by decide)) (by decide) (by decide) (by decide) (by decide) (by decide) (by decide) (by decide) (by decide)).1 I_1492 H.size) (cwV 0 hts (bw_V wB_318 wB_319 wB_320 wB_297 wB_317) rfl rfl rfl (by decide +kernel) ⟨Nat.le_of_ble_eq_true rfl, Nat.le_of_ble_eq_true rfl⟩) (dg_preV sM_0 rfl K ST hP hS hA1 hA) rfl rfl hl.1 rfl (lv_room (Nat.le_of_ble_eq_true rfl)) dX12_goesOn_508 ⟨Nat.le_of_ble_eq_true rfl, Nat.le_of_ble_eq_true rfl⟩) (fun S_1496 hw_1496 H locs hP hS => ?_)
                    obtain ⟨I_1496, m_1496, w_1496_0, w_1496_1, -⟩ := hw_1496
                    have M_1496 := dg_sm.tr M_1492 m_1496 (by decide) (by decide)
                    obtain ⟨y_1497, y_1498, y_1499, f_y_1497, f_y_1498, f_y_1499, w_1496_0⟩ := w_1496_0
                    have w_1496_0 : (se).toInt ≤ (y_1498).toInt ∧ (y_1498).toInt ≤ (y_1499).toInt ∧ (y_1499).toInt ≤ (sl).toInt ∧ ((y_1497).toInt ≠ 0 → (y_1498).toInt + 1 ≤ (y_1499).toInt) := w_1496_0
                    obtain ⟨w_1496_0_0, w_1496_0_1, w_1496_0_2, w_1496_0_3⟩ := w_1496_0
                    have lxh_w_1496_0_3 : m_hid ((y_1498).toInt ≤ (y_1499).toInt ∧ (y_1499).toInt ≤ (sl).toInt ∧ ((y_1497).toInt ≠ 0 → (y_1498).toInt + 1 ≤ (y_1499).toInt)) := m_hid.mk ⟨w_1496_0_1, w_1496_0_2, w_1496_0_3⟩
                    have b_y_1497 : 0 ≤ (y_1497).toInt ∧ (y_1497).toInt ≤ 3 := dg_I.intb (lo := 0) (hi := 3) I_1496 sM_0 (by decide +kernel) f_y_1497
                    have b_y_1498 : 0 ≤ (y_1498).toInt ∧ (y_1498).toInt ≤ 1600 := dg_I.intb (lo := 0) (hi := 1600) I_1496 sM_0 (by decide +kernel) f_y_1498
                    have b_y_1499 : 0 ≤ (y_1499).toInt ∧ (y_1499).toInt ≤ 1600 := dg_I.intb (lo := 0) (hi := 1600) I_1496 sM_0 (by decide +kernel) f_y_1499
                    replace w_1496_1 : TNX tb tn se S_1496 := w_1496_1
                    obtain ⟨TK_1496, nx_1496, -⟩ := TKM.nx (TKM.keep (TKM.keep (TKM.keep (TKM.keep TK m_2 (by decide) (by decide) (by decide) (by decide) (by decide) (by decide) (by decide) (by decide)) m_1479 (by decide) (by decide) (by decide) (by decide) (by decide) (by decide) (by decide) (by decide)) (dg_sm.uf (WF := []) (WA := [22]) dg_sm.rf e_1487 sM_22 (by decide)) (by decide) (by decide) (by decide) (by decide) (by decide) (by decide) (by decide) (by decide)) (dg_sm.uf (WF := []) (WA := [23]) dg_sm.rf e_1492 sM_23 (by decide)) (by decide) (by decide) (by decide) (by decide) (by decide) (by decide) (by decide) (by decide)) (((dg_uf_F e_1492 0 4).trans ((dg_uf_F e_1487 0 4).trans ((m_1479.1 0 4 _ sM_0 (by decide)).trans (m_2.1 0 4 _ sM_0 (by decide))))).trans f_sa) (((dg_uf_F e_1492 0 5).trans ((dg_uf_F e_1487 0 5).trans ((m_1479.1 0 5 _ sM_0 (by decide)).trans (m_2.1 0 5 _ sM_0 (by decide))))).trans f_se) w_1496_1 m_1496 (by decide) (by decide) f_y_1498
                    replace nx_1496 := nx_1496 (fun q9 => absurd ((TKM.zero (TKM.keep (TKM.keep (TKM.keep (TKM.keep TK m_2 (by decide) (by decide) (by decide) (by decide) (by decide) (by decide) (by decide) (by decide)) m_1479 (by decide) (by decide) (by decide) (by decide) (by decide) (by decide) (by decide) (by decide)) (dg_sm.uf (WF := []) (WA := [22]) dg_sm.rf e_1487 sM_22 (by decide)) (by decide) (by decide) (by decide) (by decide) (by decide) (by decide) (by decide) (by decide)) (dg_sm.uf (WF := []) (WA := [23]) dg_sm.rf e_1492 sM_23 (by decide)) (by decide) (by decide) (by decide) (by decide) (by decide) (by decide) (by decide) (by decide)) (((dg_uf_F e_1492 0 3).trans ((dg_uf_F e_1487 0 3).trans ((m_1479.1 0 3 _ sM_0 (by decide)).trans (m_2.1 0 3 _ sM_0 (by decide))))).trans f_sg) (((dg_uf_F e_1492 0 4).trans ((dg_uf_F e_1487 0 4).trans ((m_1479.1 0 4 _ sM_0 (by decide)).trans (m_2.1 0 4 _ sM_0 (by decide))))).trans f_sa)).mpr q9) (by omega))
                    refine lv_aload_n hx hb dX12_goesOn_511 rfl (lv_at hl 3 rfl) ?_
                    refine lv_iconst (v := 0) hx hb dX12_goesOn_512 (by decide +kernel) ?_
                    have hz_1500 : (0 : Int32).toInt = 0 := by decide +kernel
                    refine dg_put (ci := 12) (v := .int 0) (ty := tyX12 46) (C := RX12) (T := TX12) (N := 77) hx hb hts (fun w h => bw_mem (wU_X12 w h)) tyX12 tyX12_ok nmX12 hown K hP hS hA1 sM_0 rfl 46 (by decide) (hts _ (bw_mem wB_440)) (fun _ h9 => h9) rfl (by decide +kernel) (by decide +kernel) (by decide +kernel) dX12_goesOn_513 (fun S_1501 e_1501 H locs hP hS => ?_)
                    have I_1501 := dg_I.uFi (lo := 0) (hi := 1) I_1496 e_1501 sM_0 (by decide +kernel) (show 0 ≤ ((0 : Int32)).toInt ∧ ((0 : Int32)).toInt ≤ 1 from (by decide +kernel))
                    have M_1501 := dg_sm.uF M_1496 e_1501 sM_0 (by decide)
                    refine lv_iconst (v := 1) hx hb dX12_goesOn_516 (by decide +kernel) ?_
                    have hz_1502 : (1 : Int32).toInt = 1 := by decide +kernel
                    have hz_1503 : (1 : Int32).toInt = 1 := by decide +kernel
                    have hz_1504 : (0 : Int32).toInt = 0 := by decide +kernel
                    have hz_1505 : (1 : Int32).toInt = 1 := by decide +kernel
                    have hz_1506 : (0 : Int32).toInt = 0 := by decide +kernel
                    have hz_1507 : (1 : Int32).toInt = 1 := by decide +kernel
                    have hz_1508 : (1 : Int32).toInt = 1 := by decide +kernel
                    have hz_1509 : (0 : Int32).toInt = 0 := by decide +kernel
                    refine W.widen (k := 0) (n := 0) (Nat.le_of_ble_eq_true rfl) (Nat.le_of_ble_eq_true rfl) ?_
                    rw [hQ9]
                    exact dg_iret hx hb hr hlocks (by decide +kernel) hP hS ⟨I_1501, M_1501, (by decide +kernel), ⟨y_1497, y_1498, y_1499, y_3, y_1481, dp, y_1482, 0, ((dg_uF_ne e_1501 (fun z => absurd z.2 (by decide))).trans f_y_1497), ((dg_uF_ne e_1501 (fun z => absurd z.2 (by decide))).trans f_y_1498), ((dg_uF_ne e_1501 (fun z => absurd z.2 (by decide))).trans f_y_1499), (((dg_uF_ne e_1501 (fun z => absurd z.2 (by decide))).trans ((m_1496.1 0 8 _ sM_0 (by decide)).trans ((dg_uf_F e_1492 0 8).trans ((dg_uf_F e_1487 0 8).trans (m_1479.1 0 8 _ sM_0 (by decide)))))).trans f_y_3), (((dg_uF_ne e_1501 (fun z => absurd z.2 (by decide))).trans ((m_1496.1 0 34 _ sM_0 (by decide)).trans ((dg_uf_F e_1492 0 34).trans (dg_uf_F e_1487 0 34)))).trans f_y_1481), (((dg_uF_ne e_1501 (fun z => absurd z.2 (by decide))).trans ((m_1496.1 0 42 _ sM_0 (by decide)).trans ((dg_uf_F e_1492 0 42).trans ((dg_uf_F e_1487 0 42).trans ((m_1479.1 0 42 _ sM_0 (by decide)).trans (m_2.1 0 42 _ sM_0 (by decide))))))).trans f_dp), (((dg_uF_ne e_1501 (fun z => absurd z.2 (by decide))).trans ((m_1496.1 0 45 _ sM_0 (by decide)).trans ((dg_uf_F e_1492 0 45).trans (dg_uf_F e_1487 0 45)))).trans f_y_1482), (dg_uF_at e_1501), ⟨lxh_w_1496_0_3.out, (by omega)⟩⟩, (fun k9 hk9 hk0 => POM.mk0 (P0M.keep (P0M.keep P0_1492 m_1496 (by decide) (by decide) (by decide) (by decide) (by decide) (by decide) (by decide) (by decide) (by decide) (by decide) (by decide) (by decide) (by decide) (by decide) (by decide)) (dg_sm.uF (WF := [(0, 46)]) (WA := []) dg_sm.rf e_1501 sM_0 (by decide)) (by decide) (by decide) (by decide) (by decide) (by decide) (by decide) (by decide) (by decide) (by decide) (by decide) (by decide) (by decide) (by decide) (by decide) (by decide)) (dg_uF_at e_1501) (by omega)), (GOK.ok f_sa (((dg_uF_ne e_1501 (fun z => absurd z.2 (by decide))).trans ((m_1496.1 0 8 _ sM_0 (by decide)).trans ((dg_uf_F e_1492 0 8).trans ((dg_uf_F e_1487 0 8).trans (m_1479.1 0 8 _ sM_0 (by decide)))))).trans f_y_3) ((dg_uF_ne e_1501 (fun z => absurd z.2 (by decide))).trans f_y_1498) (dg_uF_at e_1501) (by omega) hM0 (TFM.keep (TFM.keep TF_1492 m_1496 (by decide) (by decide) (by decide) (by decide) (by decide) (by decide) (by decide) (by decide)) (dg_sm.uF (WF := [(0, 46)]) (WA := []) dg_sm.rf e_1501 sM_0 (by decide)) (by decide) (by decide) (by decide) (by decide) (by decide) (by decide) (by decide) (by decide)) (m_st_t.trans ((m_go_com hnop.out (by by_cases q8 : (x_7).toInt = 3; exact Or.inl q8; exact Or.inr ⟨by omega, (by have h9 := h422.out; have h8 := (w_9_1.out.mpr (Or.inr (Or.inr (by omega)))); omega), (hnao.out (w_9_1.out.mpr (Or.inr (Or.inr (by omega))))).1, (hnao.out (w_9_1.out.mpr (Or.inr (Or.inr (by omega))))).2⟩) qw_1475_1).trans (by rw [if_neg (by omega)]))) (by omega) (by decide +kernel) (by first | decide +kernel | exact decide_eq_true (by omega))), (TKM.keep TK_1496 (dg_sm.uF (WF := [(0, 46)]) (WA := []) dg_sm.rf e_1501 sM_0 (by decide)) (by decide) (by decide) (by decide) (by decide) (by decide) (by decide) (by decide) (by decide)), (ZWM.keep (ZWM.keep (ZWM.keep (ZWM.keep w_1479_3 (dg_sm.uf (WF := []) (WA := [22]) dg_sm.rf e_1487 sM_22 (by decide)) (by decide) (by decide) (by decide) (by decide)) (dg_sm.uf (WF := []) (WA := [23]) dg_sm.rf e_1492 sM_23 (by decide)) (by decide) (by decide) (by decide) (by decide)) m_1496 (by decide) (by decide) (by decide) (by decide)) (dg_sm.uF (WF := [(0, 46)]) (WA := []) dg_sm.rf e_1501 sM_0 (by decide)) (by decide) (by decide) (by decide) (by decide)), trivial⟩ dX12_goesOn_517
                  · have jc_1485 := dk_eqc (k := 3) (by decide +kernel) c_1485
                    refine lv_iconst (v := 4) hx hb dX12_goesOn_494 (by decide +kernel) ?_
                    refine lv_goto (tgt := 499) hx hb dX12_goesOn_495 (by decide) ?_
                    have hin_1510 : vp_in x_5 20 := (dk_inv (by omega) (by omega))
                    have hz_1512 : (4 : Int32).toInt = 4 := by decide +kernel
                    refine dg_iast hx hb K hP hS hA1 sM_22 hin_1510 dX12_goesOn_499 (fun S_1511 e_1511 H locs hP hS => ?_)
                    have I_1511 := dg_I.ufu (lo := 0) (hi := 6) I_1479 e_1511 sM_22 (by decide +kernel) (show 0 ≤ ((4 : Int32)).toInt ∧ ((4 : Int32)).toInt ≤ 6 from (by decide +kernel))
                    have M_1511 := dg_sm.uf M_1479 e_1511 sM_22 (by decide)
                    have hz_1513 : (4 : Int32).toInt = 4 := by decide +kernel
                    have hz_1514 : (4 : Int32).toInt = 4 := by decide +kernel
                    have TF_1511 : TFM 4 (x_11).toInt bg0 0 R0 ((on).toNatClampNeg - nt0) S_1511 := (by have h9 := (TFM.fr' TF_1479 (((m_1479.1 0 42 _ sM_0 (by decide)).trans (m_2.1 0 42 _ sM_0 (by decide))).trans f_dp) f_x_1483 f_y_1482 (fx := x_5) (by omega) (by omega) e_1511); rw [show (4 : Int32).toInt = 4 from by decide +kernel] at h9; exact h9)
                    refine lv_aload_n hx hb dX12_goesOn_500 rfl (lv_at hl 3 rfl) ?_
                    refine dg_get (C := RX12) (T := TX12) (N := 77) hx hb hts (fun w h => bw_mem (wU_X12 w h)) hown K hP sM_0 rfl 38 (by decide) (hts _ (bw_mem wB_417)) (fun _ h9 => h9) (v := .ref (o + 23)) (show S_1511.1 0 38 = .ref (o + 23) from dg_I.rel (d := 23) I_1511 sM_0 (by decide +kernel)) dX12_goesOn_501 ?_
                    refine lv_iload_n hx hb dX12_goesOn_504 rfl (lv_at hl 2 rfl) ?_
                    refine lv_iconst (v := 0) hx hb dX12_goesOn_505 (by decide +kernel) ?_
                    have hin_1515 : vp_in x_5 20 := (dk_inv (by omega) (by omega))
                    have hz_1517 : (0 : Int32).toInt = 0 := by decide +kernel
                    refine dg_iast hx hb K hP hS hA1 sM_23 hin_1515 dX12_goesOn_506 (fun S_1516 e_1516 H locs hP hS => ?_)
                    have I_1516 := dg_I.ufu (lo := 0) (hi := 2) I_1511 e_1516 sM_23 (by decide +kernel) (show 0 ≤ ((0 : Int32)).toInt ∧ ((0 : Int32)).toInt ≤ 2 from (by decide +kernel))
                    have M_1516 := dg_sm.uf M_1511 e_1516 sM_23 (by decide)
                    have hz_1518 : (0 : Int32).toInt = 0 := by decide +kernel
                    have P0_1516 : P0M S_1516 := P1M.comma w_1479_4 (((m_1479.1 0 42 _ sM_0 (by decide)).trans (m_2.1 0 42 _ sM_0 (by decide))).trans f_dp) f_x_1483 f_y_1482 w_1479_1 (by omega) (fx := x_5) (by omega) ((congrFun (m_1479.2 22 _ sM_22 (by decide)).1 _).trans ex_7.symm) (by omega) e_1511 e_1516
                    have hz_1519 : (0 : Int32).toInt = 0 := by decide +kernel
                    have TF_1516 : TFM 4 0 bg0 0 R0 ((on).toNatClampNeg - nt0) S_1516 := (by have h9 := (TFM.ph' TF_1511 (((dg_uf_F e_1511 0 42).trans ((m_1479.1 0 42 _ sM_0 (by decide)).trans (m_2.1 0 42 _ sM_0 (by decide)))).trans f_dp) ((dg_uf_F e_1511 0 43).trans f_x_1483) ((dg_uf_F e_1511 0 45).trans f_y_1482) (fx := x_5) (by omega) (by omega) e_1516); rw [show (0 : Int32).toInt = 0 from by decide +kernel] at h9; exact h9)
                    refine lv_aload_n hx hb dX12_goesOn_507 rfl (lv_at hl 3 rfl) ?_
                    refine dg_callv hS hA1 hA (va_runV (As := []) (rest := []) F (c_m_ahead l g D o S_1516 tb tn se (((dg_uf_F e_1516 0 5).trans ((dg_uf_F e_1511 0 5).trans ((m_1479.1 0 5 _ sM_0 (by decide)).trans (m_2.1 0 5 _ sM_0 (by decide))))).trans f_se) (by omega) sl (((dg_uf_F e_1516 0 2).trans ((dg_uf_F e_1511 0 2).trans ((m_1479.1 0 2 _ sM_0 (by decide)).trans (m_2.1 0 2 _ sM_0 (by decide))))).trans f_sl) (by omega) (by omega) (TKM.keep (TKM.keep (TKM.keep (TKM.keep TK m_2 (by decide) (by decide) (by decide) (by decide) (by decide) (by decide) (by decide) (by decide)) m_1479 (by decide) (by decide) (by decide) (by decide) (by decide) (by decide) (by decide) (by decide)) (dg_sm.uf (WF := []) (WA := [22]) dg_sm.rf e_1511 sM_22 (by decide)) (by decide) (by decide) (by decide) (by decide) (by decide) (by decide) (by decide) (by decide)) (dg_sm.uf (WF := []) (WA := [23]) dg_sm.rf e_1516 sM_23 (by decide)) (by decide) (by decide) (by decide) (by decide) (by decide) (by decide) (by decide) (by decide)).1 I_1516 H.size) (cwV 0 hts (bw_V wB_318 wB_319 wB_320 wB_297 wB_317) rfl rfl rfl (by decide +kernel) ⟨Nat.le_of_ble_eq_true rfl, Nat.le_of_ble_eq_true rfl⟩) (dg_preV sM_0 rfl K ST hP hS hA1 hA) rfl rfl hl.1 rfl (lv_room (Nat.le_of_ble_eq_true rfl)) dX12_goesOn_508 ⟨Nat.le_of_ble_eq_true rfl, Nat.le_of_ble_eq_true rfl⟩) (fun S_1520 hw_1520 H locs hP hS => ?_)
                    obtain ⟨I_1520, m_1520, w_1520_0, w_1520_1, -⟩ := hw_1520
                    have M_1520 := dg_sm.tr M_1516 m_1520 (by decide) (by decide)
                    obtain ⟨y_1521, y_1522, y_1523, f_y_1521, f_y_1522, f_y_1523, w_1520_0⟩ := w_1520_0
                    have w_1520_0 : (se).toInt ≤ (y_1522).toInt ∧ (y_1522).toInt ≤ (y_1523).toInt ∧ (y_1523).toInt ≤ (sl).toInt ∧ ((y_1521).toInt ≠ 0 → (y_1522).toInt + 1 ≤ (y_1523).toInt) := w_1520_0
                    obtain ⟨w_1520_0_0, w_1520_0_1, w_1520_0_2, w_1520_0_3⟩ := w_1520_0
                    have lxh_w_1520_0_3 : m_hid ((y_1522).toInt ≤ (y_1523).toInt ∧ (y_1523).toInt ≤ (sl).toInt ∧ ((y_1521).toInt ≠ 0 → (y_1522).toInt + 1 ≤ (y_1523).toInt)) := m_hid.mk ⟨w_1520_0_1, w_1520_0_2, w_1520_0_3⟩
                    have b_y_1521 : 0 ≤ (y_1521).toInt ∧ (y_1521).toInt ≤ 3 := dg_I.intb (lo := 0) (hi := 3) I_1520 sM_0 (by decide +kernel) f_y_1521
                    have b_y_1522 : 0 ≤ (y_1522).toInt ∧ (y_1522).toInt ≤ 1600 := dg_I.intb (lo := 0) (hi := 1600) I_1520 sM_0 (by decide +kernel) f_y_1522
                    have b_y_1523 : 0 ≤ (y_1523).toInt ∧ (y_1523).toInt ≤ 1600 := dg_I.intb (lo := 0) (hi := 1600) I_1520 sM_0 (by decide +kernel) f_y_1523
                    replace w_1520_1 : TNX tb tn se S_1520 := w_1520_1
                    obtain ⟨TK_1520, nx_1520, -⟩ := TKM.nx (TKM.keep (TKM.keep (TKM.keep (TKM.keep TK m_2 (by decide) (by decide) (by decide) (by decide) (by decide) (by decide) (by decide) (by decide)) m_1479 (by decide) (by decide) (by decide) (by decide) (by decide) (by decide) (by decide) (by decide)) (dg_sm.uf (WF := []) (WA := [22]) dg_sm.rf e_1511 sM_22 (by decide)) (by decide) (by decide) (by decide) (by decide) (by decide) (by decide) (by decide) (by decide)) (dg_sm.uf (WF := []) (WA := [23]) dg_sm.rf e_1516 sM_23 (by decide)) (by decide) (by decide) (by decide) (by decide) (by decide) (by decide) (by decide) (by decide)) (((dg_uf_F e_1516 0 4).trans ((dg_uf_F e_1511 0 4).trans ((m_1479.1 0 4 _ sM_0 (by decide)).trans (m_2.1 0 4 _ sM_0 (by decide))))).trans f_sa) (((dg_uf_F e_1516 0 5).trans ((dg_uf_F e_1511 0 5).trans ((m_1479.1 0 5 _ sM_0 (by decide)).trans (m_2.1 0 5 _ sM_0 (by decide))))).trans f_se) w_1520_1 m_1520 (by decide) (by decide) f_y_1522
                    replace nx_1520 := nx_1520 (fun q9 => absurd ((TKM.zero (TKM.keep (TKM.keep (TKM.keep (TKM.keep TK m_2 (by decide) (by decide) (by decide) (by decide) (by decide) (by decide) (by decide) (by decide)) m_1479 (by decide) (by decide) (by decide) (by decide) (by decide) (by decide) (by decide) (by decide)) (dg_sm.uf (WF := []) (WA := [22]) dg_sm.rf e_1511 sM_22 (by decide)) (by decide) (by decide) (by decide) (by decide) (by decide) (by decide) (by decide) (by decide)) (dg_sm.uf (WF := []) (WA := [23]) dg_sm.rf e_1516 sM_23 (by decide)) (by decide) (by decide) (by decide) (by decide) (by decide) (by decide) (by decide) (by decide)) (((dg_uf_F e_1516 0 3).trans ((dg_uf_F e_1511 0 3).trans ((m_1479.1 0 3 _ sM_0 (by decide)).trans (m_2.1 0 3 _ sM_0 (by decide))))).trans f_sg) (((dg_uf_F e_1516 0 4).trans ((dg_uf_F e_1511 0 4).trans ((m_1479.1 0 4 _ sM_0 (by decide)).trans (m_2.1 0 4 _ sM_0 (by decide))))).trans f_sa)).mpr q9) (by omega))
                    refine lv_aload_n hx hb dX12_goesOn_511 rfl (lv_at hl 3 rfl) ?_
                    refine lv_iconst (v := 0) hx hb dX12_goesOn_512 (by decide +kernel) ?_
                    have hz_1524 : (0 : Int32).toInt = 0 := by decide +kernel
                    refine dg_put (ci := 12) (v := .int 0) (ty := tyX12 46) (C := RX12) (T := TX12) (N := 77) hx hb hts (fun w h => bw_mem (wU_X12 w h)) tyX12 tyX12_ok nmX12 hown K hP hS hA1 sM_0 rfl 46 (by decide) (hts _ (bw_mem wB_440)) (fun _ h9 => h9) rfl (by decide +kernel) (by decide +kernel) (by decide +kernel) dX12_goesOn_513 (fun S_1525 e_1525 H locs hP hS => ?_)
                    have I_1525 := dg_I.uFi (lo := 0) (hi := 1) I_1520 e_1525 sM_0 (by decide +kernel) (show 0 ≤ ((0 : Int32)).toInt ∧ ((0 : Int32)).toInt ≤ 1 from (by decide +kernel))
                    have M_1525 := dg_sm.uF M_1520 e_1525 sM_0 (by decide)
                    refine lv_iconst (v := 1) hx hb dX12_goesOn_516 (by decide +kernel) ?_
                    have hz_1526 : (1 : Int32).toInt = 1 := by decide +kernel
                    have hz_1527 : (1 : Int32).toInt = 1 := by decide +kernel
                    have hz_1528 : (0 : Int32).toInt = 0 := by decide +kernel
                    have hz_1529 : (1 : Int32).toInt = 1 := by decide +kernel
                    have hz_1530 : (0 : Int32).toInt = 0 := by decide +kernel
                    have hz_1531 : (1 : Int32).toInt = 1 := by decide +kernel
                    have hz_1532 : (1 : Int32).toInt = 1 := by decide +kernel
                    have hz_1533 : (0 : Int32).toInt = 0 := by decide +kernel
                    refine W.widen (k := 0) (n := 0) (Nat.le_of_ble_eq_true rfl) (Nat.le_of_ble_eq_true rfl) ?_
                    rw [hQ9]
                    exact dg_iret hx hb hr hlocks (by decide +kernel) hP hS ⟨I_1525, M_1525, (by decide +kernel), ⟨y_1521, y_1522, y_1523, y_3, y_1481, dp, y_1482, 0, ((dg_uF_ne e_1525 (fun z => absurd z.2 (by decide))).trans f_y_1521), ((dg_uF_ne e_1525 (fun z => absurd z.2 (by decide))).trans f_y_1522), ((dg_uF_ne e_1525 (fun z => absurd z.2 (by decide))).trans f_y_1523), (((dg_uF_ne e_1525 (fun z => absurd z.2 (by decide))).trans ((m_1520.1 0 8 _ sM_0 (by decide)).trans ((dg_uf_F e_1516 0 8).trans ((dg_uf_F e_1511 0 8).trans (m_1479.1 0 8 _ sM_0 (by decide)))))).trans f_y_3), (((dg_uF_ne e_1525 (fun z => absurd z.2 (by decide))).trans ((m_1520.1 0 34 _ sM_0 (by decide)).trans ((dg_uf_F e_1516 0 34).trans (dg_uf_F e_1511 0 34)))).trans f_y_1481), (((dg_uF_ne e_1525 (fun z => absurd z.2 (by decide))).trans ((m_1520.1 0 42 _ sM_0 (by decide)).trans ((dg_uf_F e_1516 0 42).trans ((dg_uf_F e_1511 0 42).trans ((m_1479.1 0 42 _ sM_0 (by decide)).trans (m_2.1 0 42 _ sM_0 (by decide))))))).trans f_dp), (((dg_uF_ne e_1525 (fun z => absurd z.2 (by decide))).trans ((m_1520.1 0 45 _ sM_0 (by decide)).trans ((dg_uf_F e_1516 0 45).trans (dg_uf_F e_1511 0 45)))).trans f_y_1482), (dg_uF_at e_1525), ⟨lxh_w_1520_0_3.out, (by omega)⟩⟩, (fun k9 hk9 hk0 => POM.mk0 (P0M.keep (P0M.keep P0_1516 m_1520 (by decide) (by decide) (by decide) (by decide) (by decide) (by decide) (by decide) (by decide) (by decide) (by decide) (by decide) (by decide) (by decide) (by decide) (by decide)) (dg_sm.uF (WF := [(0, 46)]) (WA := []) dg_sm.rf e_1525 sM_0 (by decide)) (by decide) (by decide) (by decide) (by decide) (by decide) (by decide) (by decide) (by decide) (by decide) (by decide) (by decide) (by decide) (by decide) (by decide) (by decide)) (dg_uF_at e_1525) (by omega)), (GOK.ok f_sa (((dg_uF_ne e_1525 (fun z => absurd z.2 (by decide))).trans ((m_1520.1 0 8 _ sM_0 (by decide)).trans ((dg_uf_F e_1516 0 8).trans ((dg_uf_F e_1511 0 8).trans (m_1479.1 0 8 _ sM_0 (by decide)))))).trans f_y_3) ((dg_uF_ne e_1525 (fun z => absurd z.2 (by decide))).trans f_y_1522) (dg_uF_at e_1525) (by omega) hM0 (TFM.keep (TFM.keep TF_1516 m_1520 (by decide) (by decide) (by decide) (by decide) (by decide) (by decide) (by decide) (by decide)) (dg_sm.uF (WF := [(0, 46)]) (WA := []) dg_sm.rf e_1525 sM_0 (by decide)) (by decide) (by decide) (by decide) (by decide) (by decide) (by decide) (by decide) (by decide)) (m_st_t.trans ((m_go_com hnop.out (by by_cases q8 : (x_7).toInt = 3; exact Or.inl q8; exact Or.inr ⟨by omega, (by have h9 := h422.out; have h8 := (w_9_1.out.mpr (Or.inr (Or.inr (by omega)))); omega), (hnao.out (w_9_1.out.mpr (Or.inr (Or.inr (by omega))))).1, (hnao.out (w_9_1.out.mpr (Or.inr (Or.inr (by omega))))).2⟩) qw_1475_1).trans (by rw [if_pos (by omega)]))) (by omega) (by decide +kernel) (by first | decide +kernel | exact decide_eq_true (by omega))), (TKM.keep TK_1520 (dg_sm.uF (WF := [(0, 46)]) (WA := []) dg_sm.rf e_1525 sM_0 (by decide)) (by decide) (by decide) (by decide) (by decide) (by decide) (by decide) (by decide) (by decide)), (ZWM.keep (ZWM.keep (ZWM.keep (ZWM.keep w_1479_3 (dg_sm.uf (WF := []) (WA := [22]) dg_sm.rf e_1511 sM_22 (by decide)) (by decide) (by decide) (by decide) (by decide)) (dg_sm.uf (WF := []) (WA := [23]) dg_sm.rf e_1516 sM_23 (by decide)) (by decide) (by decide) (by decide) (by decide)) m_1520 (by decide) (by decide) (by decide) (by decide)) (dg_sm.uF (WF := [(0, 46)]) (WA := []) dg_sm.rf e_1525 sM_0 (by decide)) (by decide) (by decide) (by decide) (by decide)), trivial⟩ dX12_goesOn_517
                · have jc_1477 := dk_eqc (k := 0) (by decide +kernel) c_1477
                  have qw_1475_1 : g_s (T_kd tb tn) (T_vl tb tn) 44 (t_ix tb tn (sa : Int32).toNatClampNeg) = false := g_iff_f (TKM.iss (TKM.keep TK m_2 (by decide) (by decide) (by decide) (by decide) (by decide) (by decide) (by decide) (by decide)) ((m_2.1 0 3 _ sM_0 (by decide)).trans f_sg) ((m_2.1 0 4 _ sM_0 (by decide)).trans f_sa) ((m_2.1 0 6 _ sM_0 (by decide)).trans f_va) hk5.out (c := 44) (by have h9 := w_1475_1; rw [show (44 : Int32).toInt = 44 from by decide +kernel] at h9; exact h9)) (by omega)
                  clear w_1475_1
                  refine lv_aload_n hx hb dX12_goesOn_461 rfl (lv_at hl 3 rfl) ?_
                  refine lv_iconst (v := 1) hx hb dX12_goesOn_462 (by decide +kernel) ?_
                  refine lv_aload_n hx hb dX12_goesOn_463 rfl (lv_at hl 3 rfl) ?_
                  refine dg_get (C := RX12) (T := TX12) (N := 77) hx hb hts (fun w h => bw_mem (wU_X12 w h)) hown K hP sM_0 rfl 4 (by decide) (hts _ (bw_mem wB_291)) (fun _ h9 => h9) (v := .int sa) ((m_2.1 0 4 _ sM_0 (by decide)).trans f_sa) dX12_goesOn_464 ?_
                  have hz_1534 : (1 : Int32).toInt = 1 := by decide +kernel
                  refine dg_callv hS hA1 hA (va_runV (As := [.int 1, .int sa]) (rest := []) F (c_m_blame l g D o S_2 1 (by decide +kernel) sa y_3 f_y_3 (by omega) I_2 H.size) (cwV 2 hts (bw_V wB_306 wB_307 wB_308 wB_297 wB_305) rfl rfl rfl (by decide +kernel) ⟨Nat.le_of_ble_eq_true rfl, Nat.le_of_ble_eq_true rfl⟩) (dg_preV sM_0 rfl K ST hP hS hA1 hA) rfl rfl hl.1 rfl (lv_room (Nat.le_of_ble_eq_true rfl)) dX12_goesOn_467 ⟨Nat.le_of_ble_eq_true rfl, Nat.le_of_ble_eq_true rfl⟩) (fun S_1535 hw_1535 H locs hP hS => ?_)
                  obtain ⟨I_1535, m_1535, w_1535_0, -⟩ := hw_1535
                  have M_1535 := dg_sm.tr M_2 m_1535 (by decide) (by decide)
                  have hz_1536 : (1 : Int32).toInt = 1 := by decide +kernel
                  obtain ⟨y_1537, f_y_1537, w_1535_0⟩ := w_1535_0
                  have w_1535_0 : ((y_3).toInt ≠ 0 → (y_1537).toInt = (y_3).toInt) ∧ ((y_3).toInt = 0 → (y_1537).toInt = ((1 : Int32)).toInt) := w_1535_0
                  obtain ⟨w_1535_0_0, w_1535_0_1⟩ := w_1535_0
                  clear w_1535_0_0
                  have w_1535_0_1r := w_1535_0_1 (by omega)
                  clear w_1535_0_1
                  have b_y_1537 : 0 ≤ (y_1537).toInt ∧ (y_1537).toInt ≤ 6 := dg_I.intb (lo := 0) (hi := 6) I_1535 sM_0 (by decide +kernel) f_y_1537
                  have hbl_y_1537 : 1 ≤ (y_1537).toInt := by omega
                  refine lv_aload_n hx hb dX12_goesOn_470 rfl (lv_at hl 3 rfl) ?_
                  refine dg_get (C := RX12) (T := TX12) (N := 77) hx hb hts (fun w h => bw_mem (wU_X12 w h)) hown K hP sM_0 rfl 8 (by decide) (hts _ (bw_mem wB_303)) (fun _ h9 => h9) (v := .int y_1537) f_y_1537 dX12_goesOn_471 ?_
                  refine lv_if_le (tgt := 479) hx hb dX12_goesOn_474 (by decide) (fun c => absurd c (fun z => absurd (dk_lec (k := 0) (by decide +kernel) z) (by omega))) (fun _ => ?_)
                  refine lv_iconst (v := 0) hx hb dX12_goesOn_477 (by decide +kernel) ?_
                  have hz_1538 : (0 : Int32).toInt = 0 := by decide +kernel
                  have hz_1539 : (0 : Int32).toInt = 0 := by decide +kernel
                  have hz_1540 : (0 : Int32).toInt = 0 := by decide +kernel
                  have hz_1541 : (0 : Int32).toInt = 0 := by decide +kernel
                  have hz_1542 : (0 : Int32).toInt = 0 := by decide +kernel
                  refine W.widen (k := 0) (n := 0) (Nat.le_of_ble_eq_true rfl) (Nat.le_of_ble_eq_true rfl) ?_
                  rw [hQ9]
                  exact dg_iret hx hb hr hlocks (by decide +kernel) hP hS ⟨I_1535, M_1535, (by decide +kernel), ⟨sg, sa, se, y_1537, cd, dp, om, oo, (((m_1535.1 0 3 _ sM_0 (by decide)).trans (m_2.1 0 3 _ sM_0 (by decide))).trans f_sg), (((m_1535.1 0 4 _ sM_0 (by decide)).trans (m_2.1 0 4 _ sM_0 (by decide))).trans f_sa), (((m_1535.1 0 5 _ sM_0 (by decide)).trans (m_2.1 0 5 _ sM_0 (by decide))).trans f_se), f_y_1537, (((m_1535.1 0 34 _ sM_0 (by decide)).trans (m_2.1 0 34 _ sM_0 (by decide))).trans f_cd), (((m_1535.1 0 42 _ sM_0 (by decide)).trans (m_2.1 0 42 _ sM_0 (by decide))).trans f_dp), (((m_1535.1 0 45 _ sM_0 (by decide)).trans (m_2.1 0 45 _ sM_0 (by decide))).trans f_om), (((m_1535.1 0 46 _ sM_0 (by decide)).trans (m_2.1 0 46 _ sM_0 (by decide))).trans f_oo), ⟨lxh_hlx_2.out, (by omega)⟩⟩, (fun k9 hk9 hk0 => by have q9 := (f_y_1537).symm.trans hk9; cases q9; omega), (GOK.no f_sa f_fk f_y_1537 (by omega) (fun h0 => Or.inl (by rw [hM0]; exact m_st_t.trans (m_go_bad hnop.out (Or.inr ⟨by omega, (fun q8 q9 => hnco.out (by have h9 := m_tst_iff.mp q8; have h8 := w_9_1.out.mpr h9; omega) q9), (fun q8 => hnao.out (by have h9 := m_tst_iff.mp q8; have h8 := w_9_1.out.mpr h9; omega)), (fun _ => qw_1475_1), (fun q9 => by exfalso; omega), (fun q9 q8 q7 => by exfalso; omega)⟩))))), (TKM.keep (TKM.keep TK m_2 (by decide) (by decide) (by decide) (by decide) (by decide) (by decide) (by decide) (by decide)) m_1535 (by decide) (by decide) (by decide) (by decide) (by decide) (by decide) (by decide) (by decide)), (ZWM.keep (ZWM.keep ZW m_2 (by decide) (by decide) (by decide) (by decide)) m_1535 (by decide) (by decide) (by decide) (by decide)), trivial⟩ dX12_goesOn_478
              refine lv_icmp_eq (tgt := 452) hx hb dX12_goesOn_443 (by decide) (fun c_1543 => ?_) (fun c_1543 => ?_)
              · have jc_1543 := dk_eqc (k := 3) (by decide +kernel) c_1543
                exact J_1473 ()  (by omega) _ _ hP hS _ (lv_sub hl [0, 1, 2, 3] rfl)
              · have jc_1543 := dk_neqc (k := 3) (by decide +kernel) c_1543
                refine lv_iload_n hx hb dX12_goesOn_446 rfl (lv_at hl 1 rfl) ?_
                refine lv_bipush (v := 6) hx hb dX12_goesOn_447 (by decide +kernel) ?_
                refine lv_icmp_ne (tgt := 518) hx hb dX12_goesOn_449 (by decide) (fun c_1544 => ?_) (fun c_1544 => ?_)
                · have jc_1544 := dk_neqc (k := 6) (by decide +kernel) c_1544
                  have jtc_1544 : (x_7).toInt ≤ 5 := by omega
                  clear jc_1544
                  refine lv_aload_n hx hb dX12_goesOn_518 rfl (lv_at hl 3 rfl) ?_
                  refine lv_iload_n hx hb dX12_goesOn_519 rfl (lv_at hl 1 rfl) ?_
                  refine lv_iconst (v := 5) hx hb dX12_goesOn_520 (by decide +kernel) ?_
                  have J_1610 : ∀ (x_1546 : Int32), (41 ≤ (x_1546).toInt ∧ (x_1546).toInt ≤ 93) → ((x_7 : Int32).toInt = 2 ∨ (x_7 : Int32).toInt = 4 ∨ (x_7 : Int32).toInt = 5) → (m_hid (((x_7 : Int32).toInt = 5 → (x_1546 : Int32).toInt = 93) ∧ ((x_7 : Int32).toInt ≠ 5 → (x_1546 : Int32).toInt = 41))) → ∀ (H : Heap) (locs : List Loc), va_P D vwCl (dg_w g shM o rfM S_2) H → va_S A s.heap H locs → ∀ ls : Array Slot, lv_has ls 5 [(3, .int x_8), (2, .int x_7), (1, .int x_5), (0, .ref (o + 0))] → W p l e ({ frames := 3, cells := 0, slots := 0, locals := 77 } : Room) s m args below meth c H locs 0 0 Q9 (F0 m 531 ls [.int x_1546, .ref (o + 0)]) := by
                    intro x_1546 b_x_1546 rel_0 rel_1 H locs hP hS ls hl
                    have h531 := rel_1
                    refine dg_calli hS hA1 hA (va_runV (As := [.int x_1546]) (rest := []) F (c_m_isSign l g D o S_2 x_1546 sg ((m_2.1 0 3 _ sM_0 (by decide)).trans f_sg) (by omega) va ((m_2.1 0 6 _ sM_0 (by decide)).trans f_va) (by omega) I_2 H.size) (cwV 1 hts (bw_V wB_314 wB_315 wB_316 wB_297 wB_313) rfl rfl rfl (by decide +kernel) ⟨Nat.le_of_ble_eq_true rfl, Nat.le_of_ble_eq_true rfl⟩) (dg_preV sM_0 rfl K ST hP hS hA1 hA) rfl rfl hl.1 rfl (lv_room (Nat.le_of_ble_eq_true rfl)) dX12_goesOn_531 ⟨Nat.le_of_ble_eq_true rfl, Nat.le_of_ble_eq_true rfl⟩) (fun x_1611 S_1612 hw_1612 H locs hP hS => ?_)
                    rw [hw_1612.1] at hP
                    obtain ⟨hq_1612, w_1612_0, w_1612_1, -⟩ := hw_1612
                    have w_1612_0 : 0 ≤ (x_1611).toInt ∧ (x_1611).toInt ≤ 1 := w_1612_0
                    have w_1612_1 : (x_1611).toInt = 1 ↔ ((sg).toInt = 3 ∧ (va).toInt = (x_1546).toInt) := w_1612_1
                    refine lv_if_ne (tgt := 546) hx hb dX12_goesOn_534 (by decide) (fun c_1613 => ?_) (fun c_1613 => ?_)
                    · have jc_1613 := dk_neqc (k := 0) (by decide +kernel) c_1613
                      have jbc_1613 : 1 ≤ (x_1611).toInt := by omega
                      clear jc_1613
                      have qw_1612_1 : g_s (T_kd tb tn) (T_vl tb tn) (x_1546).toInt (t_ix tb tn (sa : Int32).toNatClampNeg) = true := (TKM.iss (TKM.keep TK m_2 (by decide) (by decide) (by decide) (by decide) (by decide) (by decide) (by decide) (by decide)) ((m_2.1 0 3 _ sM_0 (by decide)).trans f_sg) ((m_2.1 0 4 _ sM_0 (by decide)).trans f_sa) ((m_2.1 0 6 _ sM_0 (by decide)).trans f_va) hk5.out (c := (x_1546).toInt) (by have h9 := w_1612_1; exact h9)).mp (by omega)
                      have w_1612_1_r := w_1612_1.mp (by omega)
                      obtain ⟨w_1612_1_r1, w_1612_1_r2⟩ := w_1612_1_r
                      clear w_1612_1
                      have hlx_2r := hlx_2 (by omega)
                      clear hlx_2
                      refine lv_aload_n hx hb dX12_goesOn_546 rfl (lv_at hl 3 rfl) ?_
                      refine dg_get (C := RX12) (T := TX12) (N := 77) hx hb hts (fun w h => bw_mem (wU_X12 w h)) hown K hP sM_0 rfl 8 (by decide) (hts _ (bw_mem wB_303)) (fun _ h9 => h9) (v := .int y_3) f_y_3 dX12_goesOn_547 ?_
                      refine lv_if_le (tgt := 555) hx hb dX12_goesOn_550 (by decide) (fun _ => ?_) (fun c => absurd (dk_lep (k := 0) (by decide +kernel) (by omega)) c)
                      refine lv_aload_n hx hb dX12_goesOn_555 rfl (lv_at hl 3 rfl) ?_
                      refine lv_iconst (v := 1) hx hb dX12_goesOn_556 (by decide +kernel) ?_
                      have hz_1614 : (1 : Int32).toInt = 1 := by decide +kernel
                      refine dg_callv hS hA1 hA (va_runV (As := [.int 1]) (rest := []) F (c_m_joins l g D o S_2 1 (by decide +kernel) cd ((m_2.1 0 34 _ sM_0 (by decide)).trans f_cd) (by omega) om ((m_2.1 0 45 _ sM_0 (by decide)).trans f_om) (by omega) (by omega) (ZWM.keep ZW m_2 (by decide) (by decide) (by decide) (by decide)) (ZKM.keep ZK m_2 (by decide) (by decide)) (P1M.keep P1 m_2 (by decide) (by decide) (by decide) (by decide) (by decide) (by decide) (by decide) (by decide) (by decide) (by decide) (by decide) (by decide) (by decide) (by decide) (by decide)) I_2 H.size) (cwV 1 hts (bw_V wB_437 wB_438 wB_439 wB_297 wB_436) rfl rfl rfl (by decide +kernel) ⟨Nat.le_of_ble_eq_true rfl, Nat.le_of_ble_eq_true rfl⟩) (dg_preV sM_0 rfl K ST hP hS hA1 hA) rfl rfl hl.1 rfl (lv_room (Nat.le_of_ble_eq_true rfl)) dX12_goesOn_557 ⟨Nat.le_of_ble_eq_true rfl, Nat.le_of_ble_eq_true rfl⟩) (fun S_1615 hw_1615 H locs hP hS => ?_)
                      obtain ⟨I_1615, m_1615, w_1615_0, w_1615_1, w_1615_2, w_1615_3, w_1615_4, -⟩ := hw_1615
                      have M_1615 := dg_sm.tr M_2 m_1615 (by decide) (by decide)
                      have hz_1616 : (1 : Int32).toInt = 1 := by decide +kernel
                      obtain ⟨y_1617, y_1618, f_y_1617, f_y_1618, w_1615_0⟩ := w_1615_0
                      have w_1615_0 : (y_1617).toInt + (y_1618).toInt = (cd).toInt + (om).toInt := w_1615_0
                      have b_y_1617 : 0 ≤ (y_1617).toInt ∧ (y_1617).toInt ≤ 1600 := dg_I.intb (lo := 0) (hi := 1600) I_1615 sM_0 (by decide +kernel) f_y_1617
                      have b_y_1618 : 0 ≤ (y_1618).toInt ∧ (y_1618).toInt ≤ 500 := dg_I.intb (lo := 0) (hi := 500) I_1615 sM_0 (by decide +kernel) f_y_1618
                      replace w_1615_1 : TOPM S_1615 (1 : Int32) := w_1615_1
                      obtain ⟨x_1619, f_x_1619, b_x_1619⟩ := dg_I.int (i := 0) (k := 43) (lo := (-2147483648)) (hi := 2147483647) I_1615 sM_0 (by decide +kernel)
                      replace w_1615_2 : JNM S_2 S_1615 (1 : Int32) := w_1615_2
                      have TF_1615 : TFM (x_7).toInt (x_11).toInt bg0 0 R0 ((on).toNatClampNeg - nt0) S_1615 := (TFM.join TF0 (P1M.keep P1 m_2 (by decide) (by decide) (by decide) (by decide) (by decide) (by decide) (by decide) (by decide) (by decide) (by decide) (by decide) (by decide) (by decide) (by decide) (by decide)) ((m_2.1 0 42 _ sM_0 (by decide)).trans f_dp) ((m_2.1 0 43 _ sM_0 (by decide)).trans f_on) ((m_2.1 0 45 _ sM_0 (by decide)).trans f_om) w_1615_2 w_1615_1 m_1615 (by decide) (by decide) (by decide) (by decide) (by decide) (by decide)).2 (by decide +kernel) (by decide +kernel)
                      have hdm_1619 := PSM.dims w_1615_4 (((m_1615.1 0 42 _ sM_0 (by decide)).trans (m_2.1 0 42 _ sM_0 (by decide))).trans f_dp) f_x_1619 f_y_1618
                      have hkd := PSM.kind w_1615_4 (((m_1615.1 0 42 _ sM_0 (by decide)).trans (m_2.1 0 42 _ sM_0 (by decide))).trans f_dp) f_x_1619 f_y_1618 (fx := x_5) (by omega) ((congrFun (m_1615.2 22 _ sM_22 (by decide)).1 _).trans ex_7.symm) (rfl : S_1615.2.1 25 (x_5 : Int32).toNatClampNeg = _)
                      unfold dk_fk at hkd
                      have hcl9 : (((x_5 : Int32).toNatClampNeg : Nat) : Int) = (x_5).toInt := (by rw [dk_clN]; omega)
                      have hj9 : 1 ≤ (x_5).toInt := by omega
                      have hkdh := m_hid.mk hkd
                      clear hkd
                      refine lv_aload_n hx hb dX12_goesOn_560 rfl (lv_at hl 3 rfl) ?_
                      refine lv_dup hx hb dX12_goesOn_561 rfl ?_
                      refine dg_get (C := RX12) (T := TX12) (N := 77) hx hb hts (fun w h => bw_mem (wU_X12 w h)) hown K hP sM_0 rfl 42 (by decide) (hts _ (bw_mem wB_406)) (fun _ h9 => h9) (v := .int dp) (((m_1615.1 0 42 _ sM_0 (by decide)).trans (m_2.1 0 42 _ sM_0 (by decide))).trans f_dp) dX12_goesOn_562 ?_
                      refine lv_iconst (v := 1) hx hb dX12_goesOn_565 (by decide +kernel) ?_
                      refine lv_isub hx hb dX12_goesOn_566 ?_
                      refine lv_topi (fun x_1621 ex_1621 => ?_)
                      have jx_1621 : (x_1621).toInt = (dp).toInt - 1 := by rw [ex_1621]; exact dk_subT rfl (by decide +kernel) (by omega) (by omega)
                      refine dg_put (ci := 12) (v := .int x_1621) (ty := tyX12 42) (C := RX12) (T := TX12) (N := 77) hx hb hts (fun w h => bw_mem (wU_X12 w h)) tyX12 tyX12_ok nmX12 hown K hP hS hA1 sM_0 rfl 42 (by decide) (hts _ (bw_mem wB_406)) (fun _ h9 => h9) rfl (by decide +kernel) rfl rfl dX12_goesOn_567 (fun S_1622 e_1622 H locs hP hS => ?_)
                      have I_1622 := dg_I.uFi (lo := 0) (hi := 20) I_1615 e_1622 sM_0 (by decide +kernel) (show 0 ≤ (x_1621).toInt ∧ (x_1621).toInt ≤ 20 from (by omega))
                      have M_1622 := dg_sm.uF M_1615 e_1622 sM_0 (by decide)
                      obtain ⟨pa, pb, pc9, pn, pR, hpR, TF_1622⟩ := TFM.pop TF_1615 w_1615_4 (((m_1615.1 0 42 _ sM_0 (by decide)).trans (m_2.1 0 42 _ sM_0 (by decide))).trans f_dp) f_x_1619 f_y_1618 w_1615_1 (by decide +kernel) e_1622 (by omega) (by omega)
                      refine lv_aload_n hx hb dX12_goesOn_570 rfl (lv_at hl 3 rfl) ?_
                      refine lv_dup hx hb dX12_goesOn_571 rfl ?_
                      refine dg_get (C := RX12) (T := TX12) (N := 77) hx hb hts (fun w h => bw_mem (wU_X12 w h)) hown K hP sM_0 rfl 43 (by decide) (hts _ (bw_mem wB_415)) (fun _ h9 => h9) (v := .int x_1619) ((dg_uF_ne e_1622 (fun z => absurd z.2 (by decide))).trans f_x_1619) dX12_goesOn_572 ?_
                      refine lv_iconst (v := 1) hx hb dX12_goesOn_575 (by decide +kernel) ?_
                      refine lv_isub hx hb dX12_goesOn_576 ?_
                      refine lv_topi (fun x_1623 ex_1623 => ?_)
                      have jx_1623 : (x_1623).toInt = (x_1619).toInt - 1 := by rw [ex_1623]; exact dk_subT rfl (by decide +kernel) (by omega) (by omega)
                      refine dg_put (ci := 12) (v := .int x_1623) (ty := tyX12 43) (C := RX12) (T := TX12) (N := 77) hx hb hts (fun w h => bw_mem (wU_X12 w h)) tyX12 tyX12_ok nmX12 hown K hP hS hA1 sM_0 rfl 43 (by decide) (hts _ (bw_mem wB_415)) (fun _ h9 => h9) rfl (by decide +kernel) rfl rfl dX12_goesOn_577 (fun S_1624 e_1624 H locs hP hS => ?_)
                      have I_1624 := dg_I.uFi (lo := (-2147483648)) (hi := 2147483647) I_1622 e_1624 sM_0 (by decide +kernel) (show (-2147483648) ≤ (x_1623).toInt ∧ (x_1623).toInt ≤ 2147483647 from (dk_full _))
                      have M_1624 := dg_sm.uF M_1622 e_1624 sM_0 (by decide)
                      have TF_1624 : TFM pa pb pc9 pn pR (((on).toNatClampNeg - nt0) - 1) S_1624 := TFM.opm TF_1622 ((dg_uF_ne e_1622 (fun z => absurd z.2 (by decide))).trans f_x_1619) e_1624 (by omega)
                      refine lv_iload_n hx hb dX12_goesOn_580 rfl (lv_at hl 1 rfl) ?_
                      refine lv_iconst (v := 4) hx hb dX12_goesOn_581 (by decide +kernel) ?_
                      refine lv_icmp_ne (tgt := 596) hx hb dX12_goesOn_582 (by decide) (fun c_1625 => ?_) (fun c_1625 => ?_)
                      · have jc_1625 := dk_neqc (k := 4) (by decide +kernel) c_1625
                        have P1_1624 : P1M S_1624 := P1M.close2 w_1615_4 (((m_1615.1 0 42 _ sM_0 (by decide)).trans (m_2.1 0 42 _ sM_0 (by decide))).trans f_dp) f_x_1619 f_y_1618 w_1615_1 (by omega) (fx := x_5) (by omega) ((congrFun (m_1615.2 22 _ sM_22 (by decide)).1 _).trans ex_7.symm) (by omega) e_1622 (by omega) e_1624 (by omega)
                        refine lv_iload_n hx hb dX12_goesOn_596 rfl (lv_at hl 1 rfl) ?_
                        refine lv_iconst (v := 5) hx hb dX12_goesOn_597 (by decide +kernel) ?_
                        refine lv_icmp_ne (tgt := 613) hx hb dX12_goesOn_598 (by decide) (fun c_1626 => ?_) (fun c_1626 => ?_)
                        · have jc_1626 := dk_neqc (k := 5) (by decide +kernel) c_1626
                          have jtc_1626 : (x_7).toInt ≤ 2 := by omega
                          clear jc_1626
                          refine lv_aload_n hx hb dX12_goesOn_613 rfl (lv_at hl 3 rfl) ?_
                          refine dg_callv hS hA1 hA (va_runV (As := []) (rest := []) F (c_m_ahead l g D o S_1624 tb tn se (((dg_uF_ne e_1624 (fun z => absurd z.2 (by decide))).trans ((dg_uF_ne e_1622 (fun z => absurd z.2 (by decide))).trans ((m_1615.1 0 5 _ sM_0 (by decide)).trans (m_2.1 0 5 _ sM_0 (by decide))))).trans f_se) (by omega) sl (((dg_uF_ne e_1624 (fun z => absurd z.2 (by decide))).trans ((dg_uF_ne e_1622 (fun z => absurd z.2 (by decide))).trans ((m_1615.1 0 2 _ sM_0 (by decide)).trans (m_2.1 0 2 _ sM_0 (by decide))))).trans f_sl) (by omega) (by omega) (TKM.keep (TKM.keep (TKM.keep (TKM.keep TK m_2 (by decide) (by decide) (by decide) (by decide) (by decide) (by decide) (by decide) (by decide)) m_1615 (by decide) (by decide) (by decide) (by decide) (by decide) (by decide) (by decide) (by decide)) (dg_sm.uF (WF := [(0, 42)]) (WA := []) dg_sm.rf e_1622 sM_0 (by decide)) (by decide) (by decide) (by decide) (by decide) (by decide) (by decide) (by decide) (by decide)) (dg_sm.uF (WF := [(0, 43)]) (WA := []) dg_sm.rf e_1624 sM_0 (by decide)) (by decide) (by decide) (by decide) (by decide) (by decide) (by decide) (by decide) (by decide)).1 I_1624 H.size) (cwV 0 hts (bw_V wB_318 wB_319 wB_320 wB_297 wB_317) rfl rfl rfl (by decide +kernel) ⟨Nat.le_of_ble_eq_true rfl, Nat.le_of_ble_eq_true rfl⟩) (dg_preV sM_0 rfl K ST hP hS hA1 hA) rfl rfl hl.1 rfl (lv_room (Nat.le_of_ble_eq_true rfl)) dX12_goesOn_614 ⟨Nat.le_of_ble_eq_true rfl, Nat.le_of_ble_eq_true rfl⟩) (fun S_1627 hw_1627 H locs hP hS => ?_)
                          obtain ⟨I_1627, m_1627, w_1627_0, w_1627_1, -⟩ := hw_1627
                          have M_1627 := dg_sm.tr M_1624 m_1627 (by decide) (by decide)
                          obtain ⟨y_1628, y_1629, y_1630, f_y_1628, f_y_1629, f_y_1630, w_1627_0⟩ := w_1627_0
                          have w_1627_0 : (se).toInt ≤ (y_1629).toInt ∧ (y_1629).toInt ≤ (y_1630).toInt ∧ (y_1630).toInt ≤ (sl).toInt ∧ ((y_1628).toInt ≠ 0 → (y_1629).toInt + 1 ≤ (y_1630).toInt) := w_1627_0
                          obtain ⟨w_1627_0_0, w_1627_0_1, w_1627_0_2, w_1627_0_3⟩ := w_1627_0
                          have lxh_w_1627_0_3 : m_hid ((y_1629).toInt ≤ (y_1630).toInt ∧ (y_1630).toInt ≤ (sl).toInt ∧ ((y_1628).toInt ≠ 0 → (y_1629).toInt + 1 ≤ (y_1630).toInt)) := m_hid.mk ⟨w_1627_0_1, w_1627_0_2, w_1627_0_3⟩
                          have b_y_1628 : 0 ≤ (y_1628).toInt ∧ (y_1628).toInt ≤ 3 := dg_I.intb (lo := 0) (hi := 3) I_1627 sM_0 (by decide +kernel) f_y_1628
                          have b_y_1629 : 0 ≤ (y_1629).toInt ∧ (y_1629).toInt ≤ 1600 := dg_I.intb (lo := 0) (hi := 1600) I_1627 sM_0 (by decide +kernel) f_y_1629
                          have b_y_1630 : 0 ≤ (y_1630).toInt ∧ (y_1630).toInt ≤ 1600 := dg_I.intb (lo := 0) (hi := 1600) I_1627 sM_0 (by decide +kernel) f_y_1630
                          replace w_1627_1 : TNX tb tn se S_1627 := w_1627_1
                          obtain ⟨TK_1627, nx_1627, -⟩ := TKM.nx (TKM.keep (TKM.keep (TKM.keep (TKM.keep TK m_2 (by decide) (by decide) (by decide) (by decide) (by decide) (by decide) (by decide) (by decide)) m_1615 (by decide) (by decide) (by decide) (by decide) (by decide) (by decide) (by decide) (by decide)) (dg_sm.uF (WF := [(0, 42)]) (WA := []) dg_sm.rf e_1622 sM_0 (by decide)) (by decide) (by decide) (by decide) (by decide) (by decide) (by decide) (by decide) (by decide)) (dg_sm.uF (WF := [(0, 43)]) (WA := []) dg_sm.rf e_1624 sM_0 (by decide)) (by decide) (by decide) (by decide) (by decide) (by decide) (by decide) (by decide) (by decide)) (((dg_uF_ne e_1624 (fun z => absurd z.2 (by decide))).trans ((dg_uF_ne e_1622 (fun z => absurd z.2 (by decide))).trans ((m_1615.1 0 4 _ sM_0 (by decide)).trans (m_2.1 0 4 _ sM_0 (by decide))))).trans f_sa) (((dg_uF_ne e_1624 (fun z => absurd z.2 (by decide))).trans ((dg_uF_ne e_1622 (fun z => absurd z.2 (by decide))).trans ((m_1615.1 0 5 _ sM_0 (by decide)).trans (m_2.1 0 5 _ sM_0 (by decide))))).trans f_se) w_1627_1 m_1627 (by decide) (by decide) f_y_1629
                          replace nx_1627 := nx_1627 (fun q9 => absurd ((TKM.zero (TKM.keep (TKM.keep (TKM.keep (TKM.keep TK m_2 (by decide) (by decide) (by decide) (by decide) (by decide) (by decide) (by decide) (by decide)) m_1615 (by decide) (by decide) (by decide) (by decide) (by decide) (by decide) (by decide) (by decide)) (dg_sm.uF (WF := [(0, 42)]) (WA := []) dg_sm.rf e_1622 sM_0 (by decide)) (by decide) (by decide) (by decide) (by decide) (by decide) (by decide) (by decide) (by decide)) (dg_sm.uF (WF := [(0, 43)]) (WA := []) dg_sm.rf e_1624 sM_0 (by decide)) (by decide) (by decide) (by decide) (by decide) (by decide) (by decide) (by decide) (by decide)) (((dg_uF_ne e_1624 (fun z => absurd z.2 (by decide))).trans ((dg_uF_ne e_1622 (fun z => absurd z.2 (by decide))).trans ((m_1615.1 0 3 _ sM_0 (by decide)).trans (m_2.1 0 3 _ sM_0 (by decide))))).trans f_sg) (((dg_uF_ne e_1624 (fun z => absurd z.2 (by decide))).trans ((dg_uF_ne e_1622 (fun z => absurd z.2 (by decide))).trans ((m_1615.1 0 4 _ sM_0 (by decide)).trans (m_2.1 0 4 _ sM_0 (by decide))))).trans f_sa)).mpr q9) (by omega))
                          refine lv_iconst (v := 1) hx hb dX12_goesOn_617 (by decide +kernel) ?_
                          have hz_1631 : (1 : Int32).toInt = 1 := by decide +kernel
                          have hz_1632 : (1 : Int32).toInt = 1 := by decide +kernel
                          have hz_1633 : (1 : Int32).toInt = 1 := by decide +kernel
                          have hz_1634 : (1 : Int32).toInt = 1 := by decide +kernel
                          have hz_1635 : (1 : Int32).toInt = 1 := by decide +kernel
                          refine W.widen (k := 0) (n := 0) (Nat.le_of_ble_eq_true rfl) (Nat.le_of_ble_eq_true rfl) ?_
                          rw [hQ9]
                          exact dg_iret hx hb hr hlocks (by decide +kernel) hP hS ⟨I_1627, M_1627, (by decide +kernel), ⟨y_1628, y_1629, y_1630, y_3, y_1617, x_1621, y_1618, oo, f_y_1628, f_y_1629, f_y_1630, (((m_1627.1 0 8 _ sM_0 (by decide)).trans ((dg_uF_ne e_1624 (fun z => absurd z.2 (by decide))).trans ((dg_uF_ne e_1622 (fun z => absurd z.2 (by decide))).trans (m_1615.1 0 8 _ sM_0 (by decide))))).trans f_y_3), (((m_1627.1 0 34 _ sM_0 (by decide)).trans ((dg_uF_ne e_1624 (fun z => absurd z.2 (by decide))).trans (dg_uF_ne e_1622 (fun z => absurd z.2 (by decide))))).trans f_y_1617), (((m_1627.1 0 42 _ sM_0 (by decide)).trans (dg_uF_ne e_1624 (fun z => absurd z.2 (by decide)))).trans (dg_uF_at e_1622)), (((m_1627.1 0 45 _ sM_0 (by decide)).trans ((dg_uF_ne e_1624 (fun z => absurd z.2 (by decide))).trans (dg_uF_ne e_1622 (fun z => absurd z.2 (by decide))))).trans f_y_1618), (((m_1627.1 0 46 _ sM_0 (by decide)).trans ((dg_uF_ne e_1624 (fun z => absurd z.2 (by decide))).trans ((dg_uF_ne e_1622 (fun z => absurd z.2 (by decide))).trans ((m_1615.1 0 46 _ sM_0 (by decide)).trans (m_2.1 0 46 _ sM_0 (by decide)))))).trans f_oo), ⟨lxh_w_1627_0_3.out, (by omega)⟩⟩, (fun k9 hk9 hk0 => POM.mk1 (P1M.keep P1_1624 m_1627 (by decide) (by decide) (by decide) (by decide) (by decide) (by decide) (by decide) (by decide) (by decide) (by decide) (by decide) (by decide) (by decide) (by decide) (by decide)) (((m_1627.1 0 46 _ sM_0 (by decide)).trans ((dg_uF_ne e_1624 (fun z => absurd z.2 (by decide))).trans ((dg_uF_ne e_1622 (fun z => absurd z.2 (by decide))).trans ((m_1615.1 0 46 _ sM_0 (by decide)).trans (m_2.1 0 46 _ sM_0 (by decide)))))).trans f_oo) (by omega)), (GOK.ok f_sa (((m_1627.1 0 8 _ sM_0 (by decide)).trans ((dg_uF_ne e_1624 (fun z => absurd z.2 (by decide))).trans ((dg_uF_ne e_1622 (fun z => absurd z.2 (by decide))).trans (m_1615.1 0 8 _ sM_0 (by decide))))).trans f_y_3) f_y_1629 (((m_1627.1 0 46 _ sM_0 (by decide)).trans ((dg_uF_ne e_1624 (fun z => absurd z.2 (by decide))).trans ((dg_uF_ne e_1622 (fun z => absurd z.2 (by decide))).trans ((m_1615.1 0 46 _ sM_0 (by decide)).trans (m_2.1 0 46 _ sM_0 (by decide)))))).trans f_oo) (by omega) hM0 (TFM.keep TF_1624 m_1627 (by decide) (by decide) (by decide) (by decide) (by decide) (by decide) (by decide) (by decide)) (m_st_t.trans ((m_go_cls hnop.out (Or.inl ⟨by omega, (by have h9 := qw_1612_1; rw [show (x_1546).toInt = 41 from by have h8 := h531.out.2 (by omega); omega] at h9; exact h9)⟩)).trans (by rw [hpR]; show (0, (pa, (if (x_7).toInt = 5 then 2 else pb), pc9, pn) :: pR, _ - _ - 1, _, _) = _; rw [if_neg (by omega)]))) (by omega) (by decide +kernel) (by first | decide +kernel | exact decide_eq_true (by omega))), TK_1627, (ZWM.keep (ZWM.keep (ZWM.keep w_1615_3 (dg_sm.uF (WF := [(0, 42)]) (WA := []) dg_sm.rf e_1622 sM_0 (by decide)) (by decide) (by decide) (by decide) (by decide)) (dg_sm.uF (WF := [(0, 43)]) (WA := []) dg_sm.rf e_1624 sM_0 (by decide)) (by decide) (by decide) (by decide) (by decide)) m_1627 (by decide) (by decide) (by decide) (by decide)), trivial⟩ dX12_goesOn_618
                        · have jc_1626 := dk_eqc (k := 5) (by decide +kernel) c_1626
                          refine lv_aload_n hx hb dX12_goesOn_601 rfl (lv_at hl 3 rfl) ?_
                          refine dg_get (C := RX12) (T := TX12) (N := 77) hx hb hts (fun w h => bw_mem (wU_X12 w h)) hown K hP sM_0 rfl 38 (by decide) (hts _ (bw_mem wB_417)) (fun _ h9 => h9) (v := .ref (o + 23)) (show S_1624.1 0 38 = .ref (o + 23) from dg_I.rel (d := 23) I_1624 sM_0 (by decide +kernel)) dX12_goesOn_602 ?_
                          refine lv_aload_n hx hb dX12_goesOn_605 rfl (lv_at hl 3 rfl) ?_
                          refine dg_get (C := RX12) (T := TX12) (N := 77) hx hb hts (fun w h => bw_mem (wU_X12 w h)) hown K hP sM_0 rfl 42 (by decide) (hts _ (bw_mem wB_406)) (fun _ h9 => h9) (v := .int x_1621) ((dg_uF_ne e_1624 (fun z => absurd z.2 (by decide))).trans (dg_uF_at e_1622)) dX12_goesOn_606 ?_
                          refine lv_iconst (v := 1) hx hb dX12_goesOn_609 (by decide +kernel) ?_
                          refine lv_isub hx hb dX12_goesOn_610 ?_
                          refine lv_topi (fun x_1636 ex_1636 => ?_)
                          have jx_1636 : (x_1636).toInt = (x_1621).toInt - 1 := by rw [ex_1636]; exact dk_subT rfl (by decide +kernel) (by omega) (by omega)
                          refine lv_iconst (v := 2) hx hb dX12_goesOn_611 (by decide +kernel) ?_
                          have hin_1637 : vp_in x_1636 20 := (dk_inv (by omega) (by omega))
                          have hz_1639 : (2 : Int32).toInt = 2 := by decide +kernel
                          refine dg_iast hx hb K hP hS hA1 sM_23 hin_1637 dX12_goesOn_612 (fun S_1638 e_1638 H locs hP hS => ?_)
                          have I_1638 := dg_I.ufu (lo := 0) (hi := 2) I_1624 e_1638 sM_23 (by decide +kernel) (show 0 ≤ ((2 : Int32)).toInt ∧ ((2 : Int32)).toInt ≤ 2 from (by decide +kernel))
                          have M_1638 := dg_sm.uf M_1624 e_1638 sM_23 (by decide)
                          have hz_1640 : (2 : Int32).toInt = 2 := by decide +kernel
                          have P1_1638 : P1M S_1638 := P1M.close5 P1_1624 ((dg_uF_ne e_1624 (fun z => absurd z.2 (by decide))).trans (dg_uF_at e_1622)) (by omega) (by omega) (by omega) e_1638
                          have hz_1641 : (2 : Int32).toInt = 2 := by decide +kernel
                          have TF_1638 : TFM pa 2 pc9 pn pR (((on).toNatClampNeg - nt0) - 1) S_1638 := (by have h9 := (TFM.ph' TF_1624 ((dg_uF_ne e_1624 (fun z => absurd z.2 (by decide))).trans (dg_uF_at e_1622)) (dg_uF_at e_1624) (((dg_uF_ne e_1624 (fun z => absurd z.2 (by decide))).trans (dg_uF_ne e_1622 (fun z => absurd z.2 (by decide)))).trans f_y_1618) (fx := x_1636) (by omega) (by omega) e_1638); rw [show (2 : Int32).toInt = 2 from by decide +kernel] at h9; exact h9)
                          refine lv_aload_n hx hb dX12_goesOn_613 rfl (lv_at hl 3 rfl) ?_
                          refine dg_callv hS hA1 hA (va_runV (As := []) (rest := []) F (c_m_ahead l g D o S_1638 tb tn se (((dg_uf_F e_1638 0 5).trans ((dg_uF_ne e_1624 (fun z => absurd z.2 (by decide))).trans ((dg_uF_ne e_1622 (fun z => absurd z.2 (by decide))).trans ((m_1615.1 0 5 _ sM_0 (by decide)).trans (m_2.1 0 5 _ sM_0 (by decide)))))).trans f_se) (by omega) sl (((dg_uf_F e_1638 0 2).trans ((dg_uF_ne e_1624 (fun z => absurd z.2 (by decide))).trans ((dg_uF_ne e_1622 (fun z => absurd z.2 (by decide))).trans ((m_1615.1 0 2 _ sM_0 (by decide)).trans (m_2.1 0 2 _ sM_0 (by decide)))))).trans f_sl) (by omega) (by omega) (TKM.keep (TKM.keep (TKM.keep (TKM.keep (TKM.keep TK m_2 (by decide) (by decide) (by decide) (by decide) (by decide) (by decide) (by decide) (by decide)) m_1615 (by decide) (by decide) (by decide) (by decide) (by decide) (by decide) (by decide) (by decide)) (dg_sm.uF (WF := [(0, 42)]) (WA := []) dg_sm.rf e_1622 sM_0 (by decide)) (by decide) (by decide) (by decide) (by decide) (by decide) (by decide) (by decide) (by decide)) (dg_sm.uF (WF := [(0, 43)]) (WA := []) dg_sm.rf e_1624 sM_0 (by decide)) (by decide) (by decide) (by decide) (by decide) (by decide) (by decide) (by decide) (by decide)) (dg_sm.uf (WF := []) (WA := [23]) dg_sm.rf e_1638 sM_23 (by decide)) (by decide) (by decide) (by decide) (by decide) (by decide) (by decide) (by decide) (by decide)).1 I_1638 H.size) (cwV 0 hts (bw_V wB_318 wB_319 wB_320 wB_297 wB_317) rfl rfl rfl (by decide +kernel) ⟨Nat.le_of_ble_eq_true rfl, Nat.le_of_ble_eq_true rfl⟩) (dg_preV sM_0 rfl K ST hP hS hA1 hA) rfl rfl hl.1 rfl (lv_room (Nat.le_of_ble_eq_true rfl)) dX12_goesOn_614 ⟨Nat.le_of_ble_eq_true rfl, Nat.le_of_ble_eq_true rfl⟩) (fun S_1642 hw_1642 H locs hP hS => ?_)
                          obtain ⟨I_1642, m_1642, w_1642_0, w_1642_1, -⟩ := hw_1642
                          have M_1642 := dg_sm.tr M_1638 m_1642 (by decide) (by decide)
                          obtain ⟨y_1643, y_1644, y_1645, f_y_1643, f_y_1644, f_y_1645, w_1642_0⟩ := w_1642_0
                          have w_1642_0 : (se).toInt ≤ (y_1644).toInt ∧ (y_1644).toInt ≤ (y_1645).toInt ∧ (y_1645).toInt ≤ (sl).toInt ∧ ((y_1643).toInt ≠ 0 → (y_1644).toInt + 1 ≤ (y_1645).toInt) := w_1642_0
                          obtain ⟨w_1642_0_0, w_1642_0_1, w_1642_0_2, w_1642_0_3⟩ := w_1642_0
                          have lxh_w_1642_0_3 : m_hid ((y_1644).toInt ≤ (y_1645).toInt ∧ (y_1645).toInt ≤ (sl).toInt ∧ ((y_1643).toInt ≠ 0 → (y_1644).toInt + 1 ≤ (y_1645).toInt)) := m_hid.mk ⟨w_1642_0_1, w_1642_0_2, w_1642_0_3⟩
                          have b_y_1643 : 0 ≤ (y_1643).toInt ∧ (y_1643).toInt ≤ 3 := dg_I.intb (lo := 0) (hi := 3) I_1642 sM_0 (by decide +kernel) f_y_1643
                          have b_y_1644 : 0 ≤ (y_1644).toInt ∧ (y_1644).toInt ≤ 1600 := dg_I.intb (lo := 0) (hi := 1600) I_1642 sM_0 (by decide +kernel) f_y_1644
                          have b_y_1645 : 0 ≤ (y_1645).toInt ∧ (y_1645).toInt ≤ 1600 := dg_I.intb (lo := 0) (hi := 1600) I_1642 sM_0 (by decide +kernel) f_y_1645
                          replace w_1642_1 : TNX tb tn se S_1642 := w_1642_1
                          obtain ⟨TK_1642, nx_1642, -⟩ := TKM.nx (TKM.keep (TKM.keep (TKM.keep (TKM.keep (TKM.keep TK m_2 (by decide) (by decide) (by decide) (by decide) (by decide) (by decide) (by decide) (by decide)) m_1615 (by decide) (by decide) (by decide) (by decide) (by decide) (by decide) (by decide) (by decide)) (dg_sm.uF (WF := [(0, 42)]) (WA := []) dg_sm.rf e_1622 sM_0 (by decide)) (by decide) (by decide) (by decide) (by decide) (by decide) (by decide) (by decide) (by decide)) (dg_sm.uF (WF := [(0, 43)]) (WA := []) dg_sm.rf e_1624 sM_0 (by decide)) (by decide) (by decide) (by decide) (by decide) (by decide) (by decide) (by decide) (by decide)) (dg_sm.uf (WF := []) (WA := [23]) dg_sm.rf e_1638 sM_23 (by decide)) (by decide) (by decide) (by decide) (by decide) (by decide) (by decide) (by decide) (by decide)) (((dg_uf_F e_1638 0 4).trans ((dg_uF_ne e_1624 (fun z => absurd z.2 (by decide))).trans ((dg_uF_ne e_1622 (fun z => absurd z.2 (by decide))).trans ((m_1615.1 0 4 _ sM_0 (by decide)).trans (m_2.1 0 4 _ sM_0 (by decide)))))).trans f_sa) (((dg_uf_F e_1638 0 5).trans ((dg_uF_ne e_1624 (fun z => absurd z.2 (by decide))).trans ((dg_uF_ne e_1622 (fun z => absurd z.2 (by decide))).trans ((m_1615.1 0 5 _ sM_0 (by decide)).trans (m_2.1 0 5 _ sM_0 (by decide)))))).trans f_se) w_1642_1 m_1642 (by decide) (by decide) f_y_1644
                          replace nx_1642 := nx_1642 (fun q9 => absurd ((TKM.zero (TKM.keep (TKM.keep (TKM.keep (TKM.keep (TKM.keep TK m_2 (by decide) (by decide) (by decide) (by decide) (by decide) (by decide) (by decide) (by decide)) m_1615 (by decide) (by decide) (by decide) (by decide) (by decide) (by decide) (by decide) (by decide)) (dg_sm.uF (WF := [(0, 42)]) (WA := []) dg_sm.rf e_1622 sM_0 (by decide)) (by decide) (by decide) (by decide) (by decide) (by decide) (by decide) (by decide) (by decide)) (dg_sm.uF (WF := [(0, 43)]) (WA := []) dg_sm.rf e_1624 sM_0 (by decide)) (by decide) (by decide) (by decide) (by decide) (by decide) (by decide) (by decide) (by decide)) (dg_sm.uf (WF := []) (WA := [23]) dg_sm.rf e_1638 sM_23 (by decide)) (by decide) (by decide) (by decide) (by decide) (by decide) (by decide) (by decide) (by decide)) (((dg_uf_F e_1638 0 3).trans ((dg_uF_ne e_1624 (fun z => absurd z.2 (by decide))).trans ((dg_uF_ne e_1622 (fun z => absurd z.2 (by decide))).trans ((m_1615.1 0 3 _ sM_0 (by decide)).trans (m_2.1 0 3 _ sM_0 (by decide)))))).trans f_sg) (((dg_uf_F e_1638 0 4).trans ((dg_uF_ne e_1624 (fun z => absurd z.2 (by decide))).trans ((dg_uF_ne e_1622 (fun z => absurd z.2 (by decide))).trans ((m_1615.1 0 4 _ sM_0 (by decide)).trans (m_2.1 0 4 _ sM_0 (by decide)))))).trans f_sa)).mpr q9) (by omega))
                          refine lv_iconst (v := 1) hx hb dX12_goesOn_617 (by decide +kernel) ?_
                          have hz_1646 : (1 : Int32).toInt = 1 := by decide +kernel
                          have hz_1647 : (1 : Int32).toInt = 1 := by decide +kernel
                          have hz_1648 : (1 : Int32).toInt = 1 := by decide +kernel
                          have hz_1649 : (1 : Int32).toInt = 1 := by decide +kernel
                          have hz_1650 : (1 : Int32).toInt = 1 := by decide +kernel
                          refine W.widen (k := 0) (n := 0) (Nat.le_of_ble_eq_true rfl) (Nat.le_of_ble_eq_true rfl) ?_
                          rw [hQ9]
                          exact dg_iret hx hb hr hlocks (by decide +kernel) hP hS ⟨I_1642, M_1642, (by decide +kernel), ⟨y_1643, y_1644, y_1645, y_3, y_1617, x_1621, y_1618, oo, f_y_1643, f_y_1644, f_y_1645, (((m_1642.1 0 8 _ sM_0 (by decide)).trans ((dg_uf_F e_1638 0 8).trans ((dg_uF_ne e_1624 (fun z => absurd z.2 (by decide))).trans ((dg_uF_ne e_1622 (fun z => absurd z.2 (by decide))).trans (m_1615.1 0 8 _ sM_0 (by decide)))))).trans f_y_3), (((m_1642.1 0 34 _ sM_0 (by decide)).trans ((dg_uf_F e_1638 0 34).trans ((dg_uF_ne e_1624 (fun z => absurd z.2 (by decide))).trans (dg_uF_ne e_1622 (fun z => absurd z.2 (by decide)))))).trans f_y_1617), (((m_1642.1 0 42 _ sM_0 (by decide)).trans ((dg_uf_F e_1638 0 42).trans (dg_uF_ne e_1624 (fun z => absurd z.2 (by decide))))).trans (dg_uF_at e_1622)), (((m_1642.1 0 45 _ sM_0 (by decide)).trans ((dg_uf_F e_1638 0 45).trans ((dg_uF_ne e_1624 (fun z => absurd z.2 (by decide))).trans (dg_uF_ne e_1622 (fun z => absurd z.2 (by decide)))))).trans f_y_1618), (((m_1642.1 0 46 _ sM_0 (by decide)).trans ((dg_uf_F e_1638 0 46).trans ((dg_uF_ne e_1624 (fun z => absurd z.2 (by decide))).trans ((dg_uF_ne e_1622 (fun z => absurd z.2 (by decide))).trans ((m_1615.1 0 46 _ sM_0 (by decide)).trans (m_2.1 0 46 _ sM_0 (by decide))))))).trans f_oo), ⟨lxh_w_1642_0_3.out, (by omega)⟩⟩, (fun k9 hk9 hk0 => POM.mk1 (P1M.keep P1_1638 m_1642 (by decide) (by decide) (by decide) (by decide) (by decide) (by decide) (by decide) (by decide) (by decide) (by decide) (by decide) (by decide) (by decide) (by decide) (by decide)) (((m_1642.1 0 46 _ sM_0 (by decide)).trans ((dg_uf_F e_1638 0 46).trans ((dg_uF_ne e_1624 (fun z => absurd z.2 (by decide))).trans ((dg_uF_ne e_1622 (fun z => absurd z.2 (by decide))).trans ((m_1615.1 0 46 _ sM_0 (by decide)).trans (m_2.1 0 46 _ sM_0 (by decide))))))).trans f_oo) (by omega)), (GOK.ok f_sa (((m_1642.1 0 8 _ sM_0 (by decide)).trans ((dg_uf_F e_1638 0 8).trans ((dg_uF_ne e_1624 (fun z => absurd z.2 (by decide))).trans ((dg_uF_ne e_1622 (fun z => absurd z.2 (by decide))).trans (m_1615.1 0 8 _ sM_0 (by decide)))))).trans f_y_3) f_y_1644 (((m_1642.1 0 46 _ sM_0 (by decide)).trans ((dg_uf_F e_1638 0 46).trans ((dg_uF_ne e_1624 (fun z => absurd z.2 (by decide))).trans ((dg_uF_ne e_1622 (fun z => absurd z.2 (by decide))).trans ((m_1615.1 0 46 _ sM_0 (by decide)).trans (m_2.1 0 46 _ sM_0 (by decide))))))).trans f_oo) (by omega) hM0 (TFM.keep TF_1638 m_1642 (by decide) (by decide) (by decide) (by decide) (by decide) (by decide) (by decide) (by decide)) (m_st_t.trans ((m_go_cls hnop.out (Or.inr ⟨by omega, (by have h9 := h422.out; have h8 := (w_9_1.out.mpr (Or.inr (Or.inl (by omega)))); omega), (hnao.out (w_9_1.out.mpr (Or.inr (Or.inl (by omega))))).1, (hnao.out (w_9_1.out.mpr (Or.inr (Or.inl (by omega))))).2, (by have h9 := qw_1612_1; rw [show (x_1546).toInt = 93 from by have h8 := h531.out.1 (by omega); omega] at h9; exact h9)⟩)).trans (by rw [hpR]; show (0, (pa, (if (x_7).toInt = 5 then 2 else pb), pc9, pn) :: pR, _ - _ - 1, _, _) = _; rw [if_pos (by omega)]))) (by omega) (by decide +kernel) (by first | decide +kernel | exact decide_eq_true (by omega))), TK_1642, (ZWM.keep (ZWM.keep (ZWM.keep (ZWM.keep w_1615_3 (dg_sm.uF (WF := [(0, 42)]) (WA := []) dg_sm.rf e_1622 sM_0 (by decide)) (by decide) (by decide) (by decide) (by decide)) (dg_sm.uF (WF := [(0, 43)]) (WA := []) dg_sm.rf e_1624 sM_0 (by decide)) (by decide) (by decide) (by decide) (by decide)) (dg_sm.uf (WF := []) (WA := [23]) dg_sm.rf e_1638 sM_23 (by decide)) (by decide) (by decide) (by decide) (by decide)) m_1642 (by decide) (by decide) (by decide) (by decide)), trivial⟩ dX12_goesOn_618
                      · have jc_1625 := dk_eqc (k := 4) (by decide +kernel) c_1625
                        refine lv_aload_n hx hb dX12_goesOn_585 rfl (lv_at hl 3 rfl) ?_
                        refine lv_aload_n hx hb dX12_goesOn_586 rfl (lv_at hl 3 rfl) ?_
                        refine dg_get (C := RX12) (T := TX12) (N := 77) hx hb hts (fun w h => bw_mem (wU_X12 w h)) hown K hP sM_0 rfl 40 (by decide) (hts _ (bw_mem wB_435)) (fun _ h9 => h9) (v := .ref (o + 25)) (show S_1624.1 0 40 = .ref (o + 25) from dg_I.rel (d := 25) I_1624 sM_0 (by decide +kernel)) dX12_goesOn_587 ?_
                        refine lv_iload_n hx hb dX12_goesOn_590 rfl (lv_at hl 2 rfl) ?_
                        have hin_1651 : vp_in x_5 20 := (dk_inv (by omega) (by omega))
                        refine dg_iald hx hb K hP sM_25 hin_1651 dX12_goesOn_591 (fun x_1652 ex_1652 => ?_)
                        have hp25_x_1652 : S_1615.2.1 25 (x_5 : Int32).toNatClampNeg = x_1652 := by rw [ex_1652, (((dg_uF_f e_1624 25).trans (dg_uF_f e_1622 25)))]
                        have hkd := hkdh.out
                        rw [hp25_x_1652] at hkd
                        refine lv_iconst (v := 0) hx hb dX12_goesOn_592 (by decide +kernel) ?_
                        refine dg_callv hS hA1 hA (va_runV (As := [.int x_1652, .int 0]) (rest := []) F (c_m_add l g D o S_1624 x_1652 (by omega) 0 y_1617 (((dg_uF_ne e_1624 (fun z => absurd z.2 (by decide))).trans (dg_uF_ne e_1622 (fun z => absurd z.2 (by decide)))).trans f_y_1617) (by omega) (ZWM.keep (ZWM.keep w_1615_3 (dg_sm.uF (WF := [(0, 42)]) (WA := []) dg_sm.rf e_1622 sM_0 (by decide)) (by decide) (by decide) (by decide) (by decide)) (dg_sm.uF (WF := [(0, 43)]) (WA := []) dg_sm.rf e_1624 sM_0 (by decide)) (by decide) (by decide) (by decide) (by decide)) (ZKM.keep (ZKM.keep (ZKM.keep (ZKM.keep ZK m_2 (by decide) (by decide)) m_1615 (by decide) (by decide)) (dg_sm.uF (WF := [(0, 42)]) (WA := []) dg_sm.rf e_1622 sM_0 (by decide)) (by decide) (by decide)) (dg_sm.uF (WF := [(0, 43)]) (WA := []) dg_sm.rf e_1624 sM_0 (by decide)) (by decide) (by decide)) I_1624 H.size) (cwV 2 hts (bw_V wB_412 wB_413 wB_414 wB_297 wB_411) rfl rfl rfl (by decide +kernel) ⟨Nat.le_of_ble_eq_true rfl, Nat.le_of_ble_eq_true rfl⟩) (dg_preV sM_0 rfl K ST hP hS hA1 hA) rfl rfl hl.1 rfl (lv_room (Nat.le_of_ble_eq_true rfl)) dX12_goesOn_593 ⟨Nat.le_of_ble_eq_true rfl, Nat.le_of_ble_eq_true rfl⟩) (fun S_1653 hw_1653 H locs hP hS => ?_)
                        obtain ⟨I_1653, m_1653, w_1653_0, w_1653_1, w_1653_2, -⟩ := hw_1653
                        have M_1653 := dg_sm.tr M_1624 m_1653 (by decide) (by decide)
                        have hz_1654 : (0 : Int32).toInt = 0 := by decide +kernel
                        obtain ⟨y_1655, f_y_1655, w_1653_0⟩ := w_1653_0
                        have w_1653_0 : (y_1655).toInt = (y_1617).toInt + 1 := w_1653_0
                        have b_y_1655 : 0 ≤ (y_1655).toInt ∧ (y_1655).toInt ≤ 1600 := dg_I.intb (lo := 0) (hi := 1600) I_1653 sM_0 (by decide +kernel) f_y_1655
                        replace w_1653_1 : ADM S_1624 S_1653 x_1652 := w_1653_1
                        have P1_1653 : P1M S_1653 := P1M.close4 w_1615_4 (((m_1615.1 0 42 _ sM_0 (by decide)).trans (m_2.1 0 42 _ sM_0 (by decide))).trans f_dp) f_x_1619 f_y_1618 w_1615_1 (by omega) (fx := x_5) (by omega) ((congrFun (m_1615.2 22 _ sM_22 (by decide)).1 _).trans ex_7.symm) (by omega) e_1622 (by omega) e_1624 (by omega) hp25_x_1652 m_1653 w_1653_1
                        refine lv_iload_n hx hb dX12_goesOn_596 rfl (lv_at hl 1 rfl) ?_
                        refine lv_iconst (v := 5) hx hb dX12_goesOn_597 (by decide +kernel) ?_
                        refine lv_icmp_ne (tgt := 613) hx hb dX12_goesOn_598 (by decide) (fun _ => ?_) (fun c => absurd c (fun z => absurd (dk_eqc (k := 5) (by decide +kernel) z) (by omega)))
                        refine lv_aload_n hx hb dX12_goesOn_613 rfl (lv_at hl 3 rfl) ?_
                        refine dg_callv hS hA1 hA (va_runV (As := []) (rest := []) F (c_m_ahead l g D o S_1653 tb tn se (((m_1653.1 0 5 _ sM_0 (by decide)).trans ((dg_uF_ne e_1624 (fun z => absurd z.2 (by decide))).trans ((dg_uF_ne e_1622 (fun z => absurd z.2 (by decide))).trans ((m_1615.1 0 5 _ sM_0 (by decide)).trans (m_2.1 0 5 _ sM_0 (by decide)))))).trans f_se) (by omega) sl (((m_1653.1 0 2 _ sM_0 (by decide)).trans ((dg_uF_ne e_1624 (fun z => absurd z.2 (by decide))).trans ((dg_uF_ne e_1622 (fun z => absurd z.2 (by decide))).trans ((m_1615.1 0 2 _ sM_0 (by decide)).trans (m_2.1 0 2 _ sM_0 (by decide)))))).trans f_sl) (by omega) (by omega) (TKM.keep (TKM.keep (TKM.keep (TKM.keep (TKM.keep TK m_2 (by decide) (by decide) (by decide) (by decide) (by decide) (by decide) (by decide) (by decide)) m_1615 (by decide) (by decide) (by decide) (by decide) (by decide) (by decide) (by decide) (by decide)) (dg_sm.uF (WF := [(0, 42)]) (WA := []) dg_sm.rf e_1622 sM_0 (by decide)) (by decide) (by decide) (by decide) (by decide) (by decide) (by decide) (by decide) (by decide)) (dg_sm.uF (WF := [(0, 43)]) (WA := []) dg_sm.rf e_1624 sM_0 (by decide)) (by decide) (by decide) (by decide) (by decide) (by decide) (by decide) (by decide) (by decide)) m_1653 (by decide) (by decide) (by decide) (by decide) (by decide) (by decide) (by decide) (by decide)).1 I_1653 H.size) (cwV 0 hts (bw_V wB_318 wB_319 wB_320 wB_297 wB_317) rfl rfl rfl (by decide +kernel) ⟨Nat.le_of_ble_eq_true rfl, Nat.le_of_ble_eq_true rfl⟩) (dg_preV sM_0 rfl K ST hP hS hA1 hA) rfl rfl hl.1 rfl (lv_room (Nat.le_of_ble_eq_true rfl)) dX12_goesOn_614 ⟨Nat.le_of_ble_eq_true rfl, Nat.le_of_ble_eq_true rfl⟩) (fun S_1656 hw_1656 H locs hP hS => ?_)
                        obtain ⟨I_1656, m_1656, w_1656_0, w_1656_1, -⟩ := hw_1656
                        have M_1656 := dg_sm.tr M_1653 m_1656 (by decide) (by decide)
                        obtain ⟨y_1657, y_1658, y_1659, f_y_1657, f_y_1658, f_y_1659, w_1656_0⟩ := w_1656_0
                        have w_1656_0 : (se).toInt ≤ (y_1658).toInt ∧ (y_1658).toInt ≤ (y_1659).toInt ∧ (y_1659).toInt ≤ (sl).toInt ∧ ((y_1657).toInt ≠ 0 → (y_1658).toInt + 1 ≤ (y_1659).toInt) := w_1656_0
                        obtain ⟨w_1656_0_0, w_1656_0_1, w_1656_0_2, w_1656_0_3⟩ := w_1656_0
                        have lxh_w_1656_0_3 : m_hid ((y_1658).toInt ≤ (y_1659).toInt ∧ (y_1659).toInt ≤ (sl).toInt ∧ ((y_1657).toInt ≠ 0 → (y_1658).toInt + 1 ≤ (y_1659).toInt)) := m_hid.mk ⟨w_1656_0_1, w_1656_0_2, w_1656_0_3⟩
                        have b_y_1657 : 0 ≤ (y_1657).toInt ∧ (y_1657).toInt ≤ 3 := dg_I.intb (lo := 0) (hi := 3) I_1656 sM_0 (by decide +kernel) f_y_1657
                        have b_y_1658 : 0 ≤ (y_1658).toInt ∧ (y_1658).toInt ≤ 1600 := dg_I.intb (lo := 0) (hi := 1600) I_1656 sM_0 (by decide +kernel) f_y_1658
                        have b_y_1659 : 0 ≤ (y_1659).toInt ∧ (y_1659).toInt ≤ 1600 := dg_I.intb (lo := 0) (hi := 1600) I_1656 sM_0 (by decide +kernel) f_y_1659
                        replace w_1656_1 : TNX tb tn se S_1656 := w_1656_1
                        obtain ⟨TK_1656, nx_1656, -⟩ := TKM.nx (TKM.keep (TKM.keep (TKM.keep (TKM.keep (TKM.keep TK m_2 (by decide) (by decide) (by decide) (by decide) (by decide) (by decide) (by decide) (by decide)) m_1615 (by decide) (by decide) (by decide) (by decide) (by decide) (by decide) (by decide) (by decide)) (dg_sm.uF (WF := [(0, 42)]) (WA := []) dg_sm.rf e_1622 sM_0 (by decide)) (by decide) (by decide) (by decide) (by decide) (by decide) (by decide) (by decide) (by decide)) (dg_sm.uF (WF := [(0, 43)]) (WA := []) dg_sm.rf e_1624 sM_0 (by decide)) (by decide) (by decide) (by decide) (by decide) (by decide) (by decide) (by decide) (by decide)) m_1653 (by decide) (by decide) (by decide) (by decide) (by decide) (by decide) (by decide) (by decide)) (((m_1653.1 0 4 _ sM_0 (by decide)).trans ((dg_uF_ne e_1624 (fun z => absurd z.2 (by decide))).trans ((dg_uF_ne e_1622 (fun z => absurd z.2 (by decide))).trans ((m_1615.1 0 4 _ sM_0 (by decide)).trans (m_2.1 0 4 _ sM_0 (by decide)))))).trans f_sa) (((m_1653.1 0 5 _ sM_0 (by decide)).trans ((dg_uF_ne e_1624 (fun z => absurd z.2 (by decide))).trans ((dg_uF_ne e_1622 (fun z => absurd z.2 (by decide))).trans ((m_1615.1 0 5 _ sM_0 (by decide)).trans (m_2.1 0 5 _ sM_0 (by decide)))))).trans f_se) w_1656_1 m_1656 (by decide) (by decide) f_y_1658
                        replace nx_1656 := nx_1656 (fun q9 => absurd ((TKM.zero (TKM.keep (TKM.keep (TKM.keep (TKM.keep (TKM.keep TK m_2 (by decide) (by decide) (by decide) (by decide) (by decide) (by decide) (by decide) (by decide)) m_1615 (by decide) (by decide) (by decide) (by decide) (by decide) (by decide) (by decide) (by decide)) (dg_sm.uF (WF := [(0, 42)]) (WA := []) dg_sm.rf e_1622 sM_0 (by decide)) (by decide) (by decide) (by decide) (by decide) (by decide) (by decide) (by decide) (by decide)) (dg_sm.uF (WF := [(0, 43)]) (WA := []) dg_sm.rf e_1624 sM_0 (by decide)) (by decide) (by decide) (by decide) (by decide) (by decide) (by decide) (by decide) (by decide)) m_1653 (by decide) (by decide) (by decide) (by decide) (by decide) (by decide) (by decide) (by decide)) (((m_1653.1 0 3 _ sM_0 (by decide)).trans ((dg_uF_ne e_1624 (fun z => absurd z.2 (by decide))).trans ((dg_uF_ne e_1622 (fun z => absurd z.2 (by decide))).trans ((m_1615.1 0 3 _ sM_0 (by decide)).trans (m_2.1 0 3 _ sM_0 (by decide)))))).trans f_sg) (((m_1653.1 0 4 _ sM_0 (by decide)).trans ((dg_uF_ne e_1624 (fun z => absurd z.2 (by decide))).trans ((dg_uF_ne e_1622 (fun z => absurd z.2 (by decide))).trans ((m_1615.1 0 4 _ sM_0 (by decide)).trans (m_2.1 0 4 _ sM_0 (by decide)))))).trans f_sa)).mpr q9) (by omega))
                        refine lv_iconst (v := 1) hx hb dX12_goesOn_617 (by decide +kernel) ?_
                        have hz_1660 : (1 : Int32).toInt = 1 := by decide +kernel
                        have hz_1661 : (1 : Int32).toInt = 1 := by decide +kernel
                        have hz_1662 : (1 : Int32).toInt = 1 := by decide +kernel
                        have hz_1663 : (1 : Int32).toInt = 1 := by decide +kernel
                        have hz_1664 : (1 : Int32).toInt = 1 := by decide +kernel
                        refine W.widen (k := 0) (n := 0) (Nat.le_of_ble_eq_true rfl) (Nat.le_of_ble_eq_true rfl) ?_
                        rw [hQ9]
                        exact dg_iret hx hb hr hlocks (by decide +kernel) hP hS ⟨I_1656, M_1656, (by decide +kernel), ⟨y_1657, y_1658, y_1659, y_3, y_1655, x_1621, y_1618, oo, f_y_1657, f_y_1658, f_y_1659, (((m_1656.1 0 8 _ sM_0 (by decide)).trans ((m_1653.1 0 8 _ sM_0 (by decide)).trans ((dg_uF_ne e_1624 (fun z => absurd z.2 (by decide))).trans ((dg_uF_ne e_1622 (fun z => absurd z.2 (by decide))).trans (m_1615.1 0 8 _ sM_0 (by decide)))))).trans f_y_3), ((m_1656.1 0 34 _ sM_0 (by decide)).trans f_y_1655), (((m_1656.1 0 42 _ sM_0 (by decide)).trans ((m_1653.1 0 42 _ sM_0 (by decide)).trans (dg_uF_ne e_1624 (fun z => absurd z.2 (by decide))))).trans (dg_uF_at e_1622)), (((m_1656.1 0 45 _ sM_0 (by decide)).trans ((m_1653.1 0 45 _ sM_0 (by decide)).trans ((dg_uF_ne e_1624 (fun z => absurd z.2 (by decide))).trans (dg_uF_ne e_1622 (fun z => absurd z.2 (by decide)))))).trans f_y_1618), (((m_1656.1 0 46 _ sM_0 (by decide)).trans ((m_1653.1 0 46 _ sM_0 (by decide)).trans ((dg_uF_ne e_1624 (fun z => absurd z.2 (by decide))).trans ((dg_uF_ne e_1622 (fun z => absurd z.2 (by decide))).trans ((m_1615.1 0 46 _ sM_0 (by decide)).trans (m_2.1 0 46 _ sM_0 (by decide))))))).trans f_oo), ⟨lxh_w_1656_0_3.out, (by omega)⟩⟩, (fun k9 hk9 hk0 => POM.mk1 (P1M.keep P1_1653 m_1656 (by decide) (by decide) (by decide) (by decide) (by decide) (by decide) (by decide) (by decide) (by decide) (by decide) (by decide) (by decide) (by decide) (by decide) (by decide)) (((m_1656.1 0 46 _ sM_0 (by decide)).trans ((m_1653.1 0 46 _ sM_0 (by decide)).trans ((dg_uF_ne e_1624 (fun z => absurd z.2 (by decide))).trans ((dg_uF_ne e_1622 (fun z => absurd z.2 (by decide))).trans ((m_1615.1 0 46 _ sM_0 (by decide)).trans (m_2.1 0 46 _ sM_0 (by decide))))))).trans f_oo) (by omega)), (GOK.ok f_sa (((m_1656.1 0 8 _ sM_0 (by decide)).trans ((m_1653.1 0 8 _ sM_0 (by decide)).trans ((dg_uF_ne e_1624 (fun z => absurd z.2 (by decide))).trans ((dg_uF_ne e_1622 (fun z => absurd z.2 (by decide))).trans (m_1615.1 0 8 _ sM_0 (by decide)))))).trans f_y_3) f_y_1658 (((m_1656.1 0 46 _ sM_0 (by decide)).trans ((m_1653.1 0 46 _ sM_0 (by decide)).trans ((dg_uF_ne e_1624 (fun z => absurd z.2 (by decide))).trans ((dg_uF_ne e_1622 (fun z => absurd z.2 (by decide))).trans ((m_1615.1 0 46 _ sM_0 (by decide)).trans (m_2.1 0 46 _ sM_0 (by decide))))))).trans f_oo) (by omega) hM0 (TFM.keep (TFM.keep TF_1624 m_1653 (by decide) (by decide) (by decide) (by decide) (by decide) (by decide) (by decide) (by decide)) m_1656 (by decide) (by decide) (by decide) (by decide) (by decide) (by decide) (by decide) (by decide)) (m_st_t.trans ((m_go_cls hnop.out (Or.inl ⟨by omega, (by have h9 := qw_1612_1; rw [show (x_1546).toInt = 41 from by have h8 := h531.out.2 (by omega); omega] at h9; exact h9)⟩)).trans (by rw [hpR]; show (0, (pa, (if (x_7).toInt = 5 then 2 else pb), pc9, pn) :: pR, _ - _ - 1, _, _) = _; rw [if_neg (by omega)]))) (by omega) (by decide +kernel) (by first | decide +kernel | exact decide_eq_true (by omega))), TK_1656, (ZWM.keep w_1653_2 m_1656 (by decide) (by decide) (by decide) (by decide)), trivial⟩ dX12_goesOn_618
                    · have jc_1613 := dk_eqc (k := 0) (by decide +kernel) c_1613
                      have qw_1612_1 : g_s (T_kd tb tn) (T_vl tb tn) (x_1546).toInt (t_ix tb tn (sa : Int32).toNatClampNeg) = false := g_iff_f (TKM.iss (TKM.keep TK m_2 (by decide) (by decide) (by decide) (by decide) (by decide) (by decide) (by decide) (by decide)) ((m_2.1 0 3 _ sM_0 (by decide)).trans f_sg) ((m_2.1 0 4 _ sM_0 (by decide)).trans f_sa) ((m_2.1 0 6 _ sM_0 (by decide)).trans f_va) hk5.out (c := (x_1546).toInt) (by have h9 := w_1612_1; exact h9)) (by omega)
                      clear w_1612_1
                      refine lv_aload_n hx hb dX12_goesOn_537 rfl (lv_at hl 3 rfl) ?_
                      refine lv_iconst (v := 1) hx hb dX12_goesOn_538 (by decide +kernel) ?_
                      refine lv_aload_n hx hb dX12_goesOn_539 rfl (lv_at hl 3 rfl) ?_
                      refine dg_get (C := RX12) (T := TX12) (N := 77) hx hb hts (fun w h => bw_mem (wU_X12 w h)) hown K hP sM_0 rfl 4 (by decide) (hts _ (bw_mem wB_291)) (fun _ h9 => h9) (v := .int sa) ((m_2.1 0 4 _ sM_0 (by decide)).trans f_sa) dX12_goesOn_540 ?_
                      have hz_1665 : (1 : Int32).toInt = 1 := by decide +kernel
                      refine dg_callv hS hA1 hA (va_runV (As := [.int 1, .int sa]) (rest := []) F (c_m_blame l g D o S_2 1 (by decide +kernel) sa y_3 f_y_3 (by omega) I_2 H.size) (cwV 2 hts (bw_V wB_306 wB_307 wB_308 wB_297 wB_305) rfl rfl rfl (by decide +kernel) ⟨Nat.le_of_ble_eq_true rfl, Nat.le_of_ble_eq_true rfl⟩) (dg_preV sM_0 rfl K ST hP hS hA1 hA) rfl rfl hl.1 rfl (lv_room (Nat.le_of_ble_eq_true rfl)) dX12_goesOn_543 ⟨Nat.le_of_ble_eq_true rfl, Nat.le_of_ble_eq_true rfl⟩) (fun S_1666 hw_1666 H locs hP hS => ?_)
                      obtain ⟨I_1666, m_1666, w_1666_0, -⟩ := hw_1666
                      have M_1666 := dg_sm.tr M_2 m_1666 (by decide) (by decide)
                      have hz_1667 : (1 : Int32).toInt = 1 := by decide +kernel
                      obtain ⟨y_1668, f_y_1668, w_1666_0⟩ := w_1666_0
                      have w_1666_0 : ((y_3).toInt ≠ 0 → (y_1668).toInt = (y_3).toInt) ∧ ((y_3).toInt = 0 → (y_1668).toInt = ((1 : Int32)).toInt) := w_1666_0
                      obtain ⟨w_1666_0_0, w_1666_0_1⟩ := w_1666_0
                      clear w_1666_0_0
                      have w_1666_0_1r := w_1666_0_1 (by omega)
                      clear w_1666_0_1
                      have b_y_1668 : 0 ≤ (y_1668).toInt ∧ (y_1668).toInt ≤ 6 := dg_I.intb (lo := 0) (hi := 6) I_1666 sM_0 (by decide +kernel) f_y_1668
                      have hbl_y_1668 : 1 ≤ (y_1668).toInt := by omega
                      refine lv_aload_n hx hb dX12_goesOn_546 rfl (lv_at hl 3 rfl) ?_
                      refine dg_get (C := RX12) (T := TX12) (N := 77) hx hb hts (fun w h => bw_mem (wU_X12 w h)) hown K hP sM_0 rfl 8 (by decide) (hts _ (bw_mem wB_303)) (fun _ h9 => h9) (v := .int y_1668) f_y_1668 dX12_goesOn_547 ?_
                      refine lv_if_le (tgt := 555) hx hb dX12_goesOn_550 (by decide) (fun c => absurd c (fun z => absurd (dk_lec (k := 0) (by decide +kernel) z) (by omega))) (fun _ => ?_)
                      refine lv_iconst (v := 0) hx hb dX12_goesOn_553 (by decide +kernel) ?_
                      have hz_1669 : (0 : Int32).toInt = 0 := by decide +kernel
                      have hz_1670 : (0 : Int32).toInt = 0 := by decide +kernel
                      have hz_1671 : (0 : Int32).toInt = 0 := by decide +kernel
                      have hz_1672 : (0 : Int32).toInt = 0 := by decide +kernel
                      have hz_1673 : (0 : Int32).toInt = 0 := by decide +kernel
                      refine W.widen (k := 0) (n := 0) (Nat.le_of_ble_eq_true rfl) (Nat.le_of_ble_eq_true rfl) ?_
                      rw [hQ9]
                      exact dg_iret hx hb hr hlocks (by decide +kernel) hP hS ⟨I_1666, M_1666, (by decide +kernel), ⟨sg, sa, se, y_1668, cd, dp, om, oo, (((m_1666.1 0 3 _ sM_0 (by decide)).trans (m_2.1 0 3 _ sM_0 (by decide))).trans f_sg), (((m_1666.1 0 4 _ sM_0 (by decide)).trans (m_2.1 0 4 _ sM_0 (by decide))).trans f_sa), (((m_1666.1 0 5 _ sM_0 (by decide)).trans (m_2.1 0 5 _ sM_0 (by decide))).trans f_se), f_y_1668, (((m_1666.1 0 34 _ sM_0 (by decide)).trans (m_2.1 0 34 _ sM_0 (by decide))).trans f_cd), (((m_1666.1 0 42 _ sM_0 (by decide)).trans (m_2.1 0 42 _ sM_0 (by decide))).trans f_dp), (((m_1666.1 0 45 _ sM_0 (by decide)).trans (m_2.1 0 45 _ sM_0 (by decide))).trans f_om), (((m_1666.1 0 46 _ sM_0 (by decide)).trans (m_2.1 0 46 _ sM_0 (by decide))).trans f_oo), ⟨lxh_hlx_2.out, (by omega)⟩⟩, (fun k9 hk9 hk0 => by have q9 := (f_y_1668).symm.trans hk9; cases q9; omega), (GOK.no f_sa f_fk f_y_1668 (by omega) (fun h0 => Or.inl (by rw [hM0]; exact m_st_t.trans (m_go_bad hnop.out (Or.inr ⟨by omega, (fun q8 q9 => hnco.out (by have h9 := m_tst_iff.mp q8; have h8 := w_9_1.out.mpr h9; omega) q9), (fun q8 => hnao.out (by have h9 := m_tst_iff.mp q8; have h8 := w_9_1.out.mpr h9; omega)), (fun q9 => by exfalso; omega), (fun q9 => by have h9 := qw_1612_1; rw [show (x_1546).toInt = 93 from by have h8 := h531.out.1 (by omega); omega] at h9; exact h9), (fun _ _ q9 => by have h9 := qw_1612_1; rw [show (x_1546).toInt = 41 from by have h8 := h531.out.2 (by omega); omega] at h9; exact h9)⟩))))), (TKM.keep (TKM.keep TK m_2 (by decide) (by decide) (by decide) (by decide) (by decide) (by decide) (by decide) (by decide)) m_1666 (by decide) (by decide) (by decide) (by decide) (by decide) (by decide) (by decide) (by decide)), (ZWM.keep (ZWM.keep ZW m_2 (by decide) (by decide) (by decide) (by decide)) m_1666 (by decide) (by decide) (by decide) (by decide)), trivial⟩ dX12_goesOn_554
                  refine lv_icmp_ne (tgt := 529) hx hb dX12_goesOn_521 (by decide) (fun c_1674 => ?_) (fun c_1674 => ?_)
                  · have jc_1674 := dk_neqc (k := 5) (by decide +kernel) c_1674
                    have jtc_1674 : (x_7).toInt ≤ 4 := by omega
                    clear jc_1674
                    refine lv_bipush (v := 41) hx hb dX12_goesOn_529 (by decide +kernel) ?_
                    have hz_1675 : (41 : Int32).toInt = 41 := by decide +kernel
                    have hz_1676 : (41 : Int32).toInt = 41 := by decide +kernel
                    have hz_1677 : (41 : Int32).toInt = 41 := by decide +kernel
                    have hz_1678 : (41 : Int32).toInt = 41 := by decide +kernel
                    exact J_1610 41 (by decide +kernel) (by omega) (m_hid.mk ⟨fun q9 => by omega, fun q9 => by omega⟩) _ _ hP hS _ (lv_sub hl [0, 1, 2, 3] rfl)
                  · have jc_1674 := dk_eqc (k := 5) (by decide +kernel) c_1674
                    refine lv_bipush (v := 93) hx hb dX12_goesOn_524 (by decide +kernel) ?_
                    refine lv_goto (tgt := 531) hx hb dX12_goesOn_526 (by decide) ?_
                    have hz_1679 : (93 : Int32).toInt = 93 := by decide +kernel
                    have hz_1680 : (93 : Int32).toInt = 93 := by decide +kernel
                    have hz_1681 : (93 : Int32).toInt = 93 := by decide +kernel
                    have hz_1682 : (93 : Int32).toInt = 93 := by decide +kernel
                    exact J_1610 93 (by decide +kernel) (by omega) (m_hid.mk ⟨fun q9 => by omega, fun q9 => by omega⟩) _ _ hP hS _ (lv_sub hl [0, 1, 2, 3] rfl)
                · have jc_1544 := dk_eqc (k := 6) (by decide +kernel) c_1544
                  exact J_1473 ()  (by omega) _ _ hP hS _ (lv_sub hl [0, 1, 2, 3] rfl)
            · have jc_1336 := dk_ngec (k := 2) (by decide +kernel) c_1336
              refine lv_aload_n hx hb dX12_goesOn_427 rfl (lv_at hl 3 rfl) ?_
              refine dg_get (C := RX12) (T := TX12) (N := 77) hx hb hts (fun w h => bw_mem (wU_X12 w h)) hown K hP sM_0 rfl 8 (by decide) (hts _ (bw_mem wB_303)) (fun _ h9 => h9) (v := .int y_3) f_y_3 dX12_goesOn_428 ?_
              refine lv_if_ne (tgt := 439) hx hb dX12_goesOn_431 (by decide) (fun c => absurd (dk_eqp (k := 0) (by decide +kernel) (by omega)) c) (fun _ => ?_)
              refine lv_aload_n hx hb dX12_goesOn_434 rfl (lv_at hl 3 rfl) ?_
              refine lv_iconst (v := 1) hx hb dX12_goesOn_435 (by decide +kernel) ?_
              have hz_1683 : (1 : Int32).toInt = 1 := by decide +kernel
              refine dg_callv hS hA1 hA (va_runV (As := [.int 1]) (rest := []) F (c_m_joins l g D o S_2 1 (by decide +kernel) cd ((m_2.1 0 34 _ sM_0 (by decide)).trans f_cd) (by omega) om ((m_2.1 0 45 _ sM_0 (by decide)).trans f_om) (by omega) (by omega) (ZWM.keep ZW m_2 (by decide) (by decide) (by decide) (by decide)) (ZKM.keep ZK m_2 (by decide) (by decide)) (P1M.keep P1 m_2 (by decide) (by decide) (by decide) (by decide) (by decide) (by decide) (by decide) (by decide) (by decide) (by decide) (by decide) (by decide) (by decide) (by decide) (by decide)) I_2 H.size) (cwV 1 hts (bw_V wB_437 wB_438 wB_439 wB_297 wB_436) rfl rfl rfl (by decide +kernel) ⟨Nat.le_of_ble_eq_true rfl, Nat.le_of_ble_eq_true rfl⟩) (dg_preV sM_0 rfl K ST hP hS hA1 hA) rfl rfl hl.1 rfl (lv_room (Nat.le_of_ble_eq_true rfl)) dX12_goesOn_436 ⟨Nat.le_of_ble_eq_true rfl, Nat.le_of_ble_eq_true rfl⟩) (fun S_1684 hw_1684 H locs hP hS => ?_)
              obtain ⟨I_1684, m_1684, w_1684_0, w_1684_1, w_1684_2, w_1684_3, w_1684_4, -⟩ := hw_1684
              have M_1684 := dg_sm.tr M_2 m_1684 (by decide) (by decide)
              have hz_1685 : (1 : Int32).toInt = 1 := by decide +kernel
              obtain ⟨y_1686, y_1687, f_y_1686, f_y_1687, w_1684_0⟩ := w_1684_0
              have w_1684_0 : (y_1686).toInt + (y_1687).toInt = (cd).toInt + (om).toInt := w_1684_0
              have b_y_1686 : 0 ≤ (y_1686).toInt ∧ (y_1686).toInt ≤ 1600 := dg_I.intb (lo := 0) (hi := 1600) I_1684 sM_0 (by decide +kernel) f_y_1686
              have b_y_1687 : 0 ≤ (y_1687).toInt ∧ (y_1687).toInt ≤ 500 := dg_I.intb (lo := 0) (hi := 500) I_1684 sM_0 (by decide +kernel) f_y_1687
              replace w_1684_1 : TOPM S_1684 (1 : Int32) := w_1684_1
              obtain ⟨x_1688, f_x_1688, b_x_1688⟩ := dg_I.int (i := 0) (k := 43) (lo := (-2147483648)) (hi := 2147483647) I_1684 sM_0 (by decide +kernel)
              replace w_1684_2 : JNM S_2 S_1684 (1 : Int32) := w_1684_2
              have TF_1684 : TFM (x_7).toInt (x_11).toInt bg0 0 R0 ((on).toNatClampNeg - nt0) S_1684 := (TFM.join TF0 (P1M.keep P1 m_2 (by decide) (by decide) (by decide) (by decide) (by decide) (by decide) (by decide) (by decide) (by decide) (by decide) (by decide) (by decide) (by decide) (by decide) (by decide)) ((m_2.1 0 42 _ sM_0 (by decide)).trans f_dp) ((m_2.1 0 43 _ sM_0 (by decide)).trans f_on) ((m_2.1 0 45 _ sM_0 (by decide)).trans f_om) w_1684_2 w_1684_1 m_1684 (by decide) (by decide) (by decide) (by decide) (by decide) (by decide)).2 (by decide +kernel) (by decide +kernel)
              refine lv_iconst (v := 0) hx hb dX12_goesOn_439 (by decide +kernel) ?_
              have hz_1689 : (0 : Int32).toInt = 0 := by decide +kernel
              have hz_1690 : (0 : Int32).toInt = 0 := by decide +kernel
              have hz_1691 : (0 : Int32).toInt = 0 := by decide +kernel
              have hz_1692 : (0 : Int32).toInt = 0 := by decide +kernel
              have hz_1693 : (0 : Int32).toInt = 0 := by decide +kernel
              refine W.widen (k := 0) (n := 0) (Nat.le_of_ble_eq_true rfl) (Nat.le_of_ble_eq_true rfl) ?_
              rw [hQ9]
              exact dg_iret hx hb hr hlocks (by decide +kernel) hP hS ⟨I_1684, M_1684, (by decide +kernel), ⟨sg, sa, se, y_3, y_1686, dp, y_1687, oo, (((m_1684.1 0 3 _ sM_0 (by decide)).trans (m_2.1 0 3 _ sM_0 (by decide))).trans f_sg), (((m_1684.1 0 4 _ sM_0 (by decide)).trans (m_2.1 0 4 _ sM_0 (by decide))).trans f_sa), (((m_1684.1 0 5 _ sM_0 (by decide)).trans (m_2.1 0 5 _ sM_0 (by decide))).trans f_se), ((m_1684.1 0 8 _ sM_0 (by decide)).trans f_y_3), f_y_1686, (((m_1684.1 0 42 _ sM_0 (by decide)).trans (m_2.1 0 42 _ sM_0 (by decide))).trans f_dp), f_y_1687, (((m_1684.1 0 46 _ sM_0 (by decide)).trans (m_2.1 0 46 _ sM_0 (by decide))).trans f_oo), ⟨lxh_hlx_2.out, (by omega)⟩⟩, (fun k9 hk9 hk0 => POM.mk1 w_1684_4 (((m_1684.1 0 46 _ sM_0 (by decide)).trans (m_2.1 0 46 _ sM_0 (by decide))).trans f_oo) (by omega)), (GOK.fin f_sa ((m_1684.1 0 8 _ sM_0 (by decide)).trans f_y_3) (((m_1684.1 0 4 _ sM_0 (by decide)).trans (m_2.1 0 4 _ sM_0 (by decide))).trans f_sa) (by omega) hM0 (m_st_t.trans (m_go_end hnop.out (by by_cases q8 : (x_7).toInt = 0; exact Or.inl q8; exact Or.inr ⟨by omega, (by have h9 := h422.out; have h8 := (w_9_1.out.mpr (Or.inl (by omega))); omega), (hnao.out (w_9_1.out.mpr (Or.inl (by omega)))).1, (hnao.out (w_9_1.out.mpr (Or.inl (by omega)))).2⟩))) (by omega) (by decide +kernel)), (TKM.keep (TKM.keep TK m_2 (by decide) (by decide) (by decide) (by decide) (by decide) (by decide) (by decide) (by decide)) m_1684 (by decide) (by decide) (by decide) (by decide) (by decide) (by decide) (by decide) (by decide)), w_1684_3, trivial⟩ dX12_goesOn_440
          refine lv_if_eq (tgt := 422) hx hb dX12_goesOn_401 (by decide) (fun c_1694 => ?_) (fun c_1694 => ?_)
          · have jc_1694 := dk_eqc (k := 0) (by decide +kernel) c_1694
            clear w_9_1
            exact J_1335 ()  (m_hid.mk (fun q9 => by omega)) _ _ hP hS _ (lv_sub hl [0, 1, 2, 3] rfl)
          · have jc_1694 := dk_neqc (k := 0) (by decide +kernel) c_1694
            have jbc_1694 : 1 ≤ (x_8).toInt := by omega
            clear jc_1694
            have hts1 := m_hid.mk (w_9_1.out.mp (by omega))
            clear w_9_1
            refine lv_aload_n hx hb dX12_goesOn_404 rfl (lv_at hl 3 rfl) ?_
            refine dg_get (C := RX12) (T := TX12) (N := 77) hx hb hts (fun w h => bw_mem (wU_X12 w h)) hown K hP sM_0 rfl 38 (by decide) (hts _ (bw_mem wB_417)) (fun _ h9 => h9) (v := .ref (o + 23)) (show S_2.1 0 38 = .ref (o + 23) from dg_I.rel (d := 23) I_2 sM_0 (by decide +kernel)) dX12_goesOn_405 ?_
            refine lv_iload_n hx hb dX12_goesOn_408 rfl (lv_at hl 2 rfl) ?_
            have hin_1695 : vp_in x_5 20 := (dk_inv (by omega) (by omega))
            refine dg_iald hx hb K hP sM_23 hin_1695 dX12_goesOn_409 (fun y_1696 ey_1696 => ?_)
            obtain rfl : x_11 = y_1696 := (ey_1696.trans ex_11.symm).symm
            refine lv_if_ne (tgt := 422) hx hb dX12_goesOn_410 (by decide) (fun c_1697 => ?_) (fun c_1697 => ?_)
            · have jc_1697 := dk_neqc (k := 0) (by decide +kernel) c_1697
              have jbc_1697 : 1 ≤ (x_11).toInt := by omega
              clear jc_1697
              exact J_1335 ()  (m_hid.mk (fun q9 => by omega)) _ _ hP hS _ (lv_sub hl [0, 1, 2, 3] rfl)
            · have jc_1697 := dk_eqc (k := 0) (by decide +kernel) c_1697
              refine lv_aload_n hx hb dX12_goesOn_413 rfl (lv_at hl 3 rfl) ?_
              refine lv_iconst (v := 1) hx hb dX12_goesOn_414 (by decide +kernel) ?_
              refine lv_aload_n hx hb dX12_goesOn_415 rfl (lv_at hl 3 rfl) ?_
              refine dg_get (C := RX12) (T := TX12) (N := 77) hx hb hts (fun w h => bw_mem (wU_X12 w h)) hown K hP sM_0 rfl 4 (by decide) (hts _ (bw_mem wB_291)) (fun _ h9 => h9) (v := .int sa) ((m_2.1 0 4 _ sM_0 (by decide)).trans f_sa) dX12_goesOn_416 ?_
              have hz_1698 : (1 : Int32).toInt = 1 := by decide +kernel
              refine dg_callv hS hA1 hA (va_runV (As := [.int 1, .int sa]) (rest := []) F (c_m_blame l g D o S_2 1 (by decide +kernel) sa y_3 f_y_3 (by omega) I_2 H.size) (cwV 2 hts (bw_V wB_306 wB_307 wB_308 wB_297 wB_305) rfl rfl rfl (by decide +kernel) ⟨Nat.le_of_ble_eq_true rfl, Nat.le_of_ble_eq_true rfl⟩) (dg_preV sM_0 rfl K ST hP hS hA1 hA) rfl rfl hl.1 rfl (lv_room (Nat.le_of_ble_eq_true rfl)) dX12_goesOn_419 ⟨Nat.le_of_ble_eq_true rfl, Nat.le_of_ble_eq_true rfl⟩) (fun S_1699 hw_1699 H locs hP hS => ?_)
              obtain ⟨I_1699, m_1699, w_1699_0, -⟩ := hw_1699
              have M_1699 := dg_sm.tr M_2 m_1699 (by decide) (by decide)
              have hz_1700 : (1 : Int32).toInt = 1 := by decide +kernel
              obtain ⟨y_1701, f_y_1701, w_1699_0⟩ := w_1699_0
              have w_1699_0 : ((y_3).toInt ≠ 0 → (y_1701).toInt = (y_3).toInt) ∧ ((y_3).toInt = 0 → (y_1701).toInt = ((1 : Int32)).toInt) := w_1699_0
              obtain ⟨w_1699_0_0, w_1699_0_1⟩ := w_1699_0
              clear w_1699_0_0
              have w_1699_0_1r := w_1699_0_1 (by omega)
              clear w_1699_0_1
              have b_y_1701 : 0 ≤ (y_1701).toInt ∧ (y_1701).toInt ≤ 6 := dg_I.intb (lo := 0) (hi := 6) I_1699 sM_0 (by decide +kernel) f_y_1701
              have hbl_y_1701 : 1 ≤ (y_1701).toInt := by omega
              refine lv_iload_n hx hb dX12_goesOn_422 rfl (lv_at hl 1 rfl) ?_
              refine lv_iconst (v := 2) hx hb dX12_goesOn_423 (by decide +kernel) ?_
              refine lv_icmp_ge (tgt := 441) hx hb dX12_goesOn_424 (by decide) (fun c_1702 => ?_) (fun c_1702 => ?_)
              · have jc_1702 := dk_gec (k := 2) (by decide +kernel) c_1702
                refine lv_iload_n hx hb dX12_goesOn_441 rfl (lv_at hl 1 rfl) ?_
                refine lv_iconst (v := 3) hx hb dX12_goesOn_442 (by decide +kernel) ?_
                have J_1742 : ∀ (u9 : Unit), ((x_7 : Int32).toInt = 3 ∨ (x_7 : Int32).toInt = 6) → ∀ (H : Heap) (locs : List Loc), va_P D vwCl (dg_w g shM o rfM S_1699) H → va_S A s.heap H locs → ∀ ls : Array Slot, lv_has ls 5 [(3, .int x_8), (2, .int x_7), (1, .int x_5), (0, .ref (o + 0))] → W p l e ({ frames := 3, cells := 0, slots := 0, locals := 77 } : Room) s m args below meth c H locs 0 0 Q9 (F0 m 452 ls []) := by
                  intro u9 rel_0 H locs hP hS ls hl
                  refine lv_aload_n hx hb dX12_goesOn_452 rfl (lv_at hl 3 rfl) ?_
                  refine lv_bipush (v := 44) hx hb dX12_goesOn_453 (by decide +kernel) ?_
                  refine dg_calli hS hA1 hA (va_runV (As := [.int 44]) (rest := []) F (c_m_isSign l g D o S_1699 44 sg (((m_1699.1 0 3 _ sM_0 (by decide)).trans (m_2.1 0 3 _ sM_0 (by decide))).trans f_sg) (by omega) va (((m_1699.1 0 6 _ sM_0 (by decide)).trans (m_2.1 0 6 _ sM_0 (by decide))).trans f_va) (by omega) I_1699 H.size) (cwV 1 hts (bw_V wB_314 wB_315 wB_316 wB_297 wB_313) rfl rfl rfl (by decide +kernel) ⟨Nat.le_of_ble_eq_true rfl, Nat.le_of_ble_eq_true rfl⟩) (dg_preV sM_0 rfl K ST hP hS hA1 hA) rfl rfl hl.1 rfl (lv_room (Nat.le_of_ble_eq_true rfl)) dX12_goesOn_455 ⟨Nat.le_of_ble_eq_true rfl, Nat.le_of_ble_eq_true rfl⟩) (fun x_1743 S_1744 hw_1744 H locs hP hS => ?_)
                  rw [hw_1744.1] at hP
                  obtain ⟨hq_1744, w_1744_0, w_1744_1, -⟩ := hw_1744
                  have hz_1745 : (44 : Int32).toInt = 44 := by decide +kernel
                  have w_1744_0 : 0 ≤ (x_1743).toInt ∧ (x_1743).toInt ≤ 1 := w_1744_0
                  have w_1744_1 : (x_1743).toInt = 1 ↔ ((sg).toInt = 3 ∧ (va).toInt = ((44 : Int32)).toInt) := w_1744_1
                  refine lv_if_ne (tgt := 470) hx hb dX12_goesOn_458 (by decide) (fun c_1746 => ?_) (fun c_1746 => ?_)
                  · have jc_1746 := dk_neqc (k := 0) (by decide +kernel) c_1746
                    have jbc_1746 : 1 ≤ (x_1743).toInt := by omega
                    clear jc_1746
                    have qw_1744_1 : g_s (T_kd tb tn) (T_vl tb tn) 44 (t_ix tb tn (sa : Int32).toNatClampNeg) = true := (TKM.iss (TKM.keep (TKM.keep TK m_2 (by decide) (by decide) (by decide) (by decide) (by decide) (by decide) (by decide) (by decide)) m_1699 (by decide) (by decide) (by decide) (by decide) (by decide) (by decide) (by decide) (by decide)) (((m_1699.1 0 3 _ sM_0 (by decide)).trans (m_2.1 0 3 _ sM_0 (by decide))).trans f_sg) (((m_1699.1 0 4 _ sM_0 (by decide)).trans (m_2.1 0 4 _ sM_0 (by decide))).trans f_sa) (((m_1699.1 0 6 _ sM_0 (by decide)).trans (m_2.1 0 6 _ sM_0 (by decide))).trans f_va) hk5.out (c := 44) (by have h9 := w_1744_1; rw [show (44 : Int32).toInt = 44 from by decide +kernel] at h9; exact h9)).mp (by omega)
                    have w_1744_1_r := w_1744_1.mp (by omega)
                    obtain ⟨w_1744_1_r1, w_1744_1_r2⟩ := w_1744_1_r
                    clear w_1744_1
                    have hlx_2r := hlx_2 (by omega)
                    clear hlx_2
                    refine lv_aload_n hx hb dX12_goesOn_470 rfl (lv_at hl 3 rfl) ?_
                    refine dg_get (C := RX12) (T := TX12) (N := 77) hx hb hts (fun w h => bw_mem (wU_X12 w h)) hown K hP sM_0 rfl 8 (by decide) (hts _ (bw_mem wB_303)) (fun _ h9 => h9) (v := .int y_1701) f_y_1701 dX12_goesOn_471 ?_
                    refine lv_if_le (tgt := 479) hx hb dX12_goesOn_474 (by decide) (fun c => absurd c (fun z => absurd (dk_lec (k := 0) (by decide +kernel) z) (by omega))) (fun _ => ?_)
                    refine lv_iconst (v := 0) hx hb dX12_goesOn_477 (by decide +kernel) ?_
                    have hz_1747 : (0 : Int32).toInt = 0 := by decide +kernel
                    have hz_1748 : (0 : Int32).toInt = 0 := by decide +kernel
                    have hz_1749 : (0 : Int32).toInt = 0 := by decide +kernel
                    have hz_1750 : (0 : Int32).toInt = 0 := by decide +kernel
                    have hz_1751 : (0 : Int32).toInt = 0 := by decide +kernel
                    refine W.widen (k := 0) (n := 0) (Nat.le_of_ble_eq_true rfl) (Nat.le_of_ble_eq_true rfl) ?_
                    rw [hQ9]
                    exact dg_iret hx hb hr hlocks (by decide +kernel) hP hS ⟨I_1699, M_1699, (by decide +kernel), ⟨sg, sa, se, y_1701, cd, dp, om, oo, (((m_1699.1 0 3 _ sM_0 (by decide)).trans (m_2.1 0 3 _ sM_0 (by decide))).trans f_sg), (((m_1699.1 0 4 _ sM_0 (by decide)).trans (m_2.1 0 4 _ sM_0 (by decide))).trans f_sa), (((m_1699.1 0 5 _ sM_0 (by decide)).trans (m_2.1 0 5 _ sM_0 (by decide))).trans f_se), f_y_1701, (((m_1699.1 0 34 _ sM_0 (by decide)).trans (m_2.1 0 34 _ sM_0 (by decide))).trans f_cd), (((m_1699.1 0 42 _ sM_0 (by decide)).trans (m_2.1 0 42 _ sM_0 (by decide))).trans f_dp), (((m_1699.1 0 45 _ sM_0 (by decide)).trans (m_2.1 0 45 _ sM_0 (by decide))).trans f_om), (((m_1699.1 0 46 _ sM_0 (by decide)).trans (m_2.1 0 46 _ sM_0 (by decide))).trans f_oo), ⟨lxh_hlx_2.out, (by omega)⟩⟩, (fun k9 hk9 hk0 => by have q9 := (f_y_1701).symm.trans hk9; cases q9; omega), (GOK.no f_sa f_fk f_y_1701 (by omega) (fun h0 => Or.inl (by rw [hM0]; exact m_st_t.trans (m_go_bad hnop.out (Or.inl ⟨(m_tst_iff.mpr hts1.out), by omega, hnco.out (by omega) (by omega)⟩))))), (TKM.keep (TKM.keep TK m_2 (by decide) (by decide) (by decide) (by decide) (by decide) (by decide) (by decide) (by decide)) m_1699 (by decide) (by decide) (by decide) (by decide) (by decide) (by decide) (by decide) (by decide)), (ZWM.keep (ZWM.keep ZW m_2 (by decide) (by decide) (by decide) (by decide)) m_1699 (by decide) (by decide) (by decide) (by decide)), trivial⟩ dX12_goesOn_478
                  · have jc_1746 := dk_eqc (k := 0) (by decide +kernel) c_1746
                    have qw_1744_1 : g_s (T_kd tb tn) (T_vl tb tn) 44 (t_ix tb tn (sa : Int32).toNatClampNeg) = false := g_iff_f (TKM.iss (TKM.keep (TKM.keep TK m_2 (by decide) (by decide) (by decide) (by decide) (by decide) (by decide) (by decide) (by decide)) m_1699 (by decide) (by decide) (by decide) (by decide) (by decide) (by decide) (by decide) (by decide)) (((m_1699.1 0 3 _ sM_0 (by decide)).trans (m_2.1 0 3 _ sM_0 (by decide))).trans f_sg) (((m_1699.1 0 4 _ sM_0 (by decide)).trans (m_2.1 0 4 _ sM_0 (by decide))).trans f_sa) (((m_1699.1 0 6 _ sM_0 (by decide)).trans (m_2.1 0 6 _ sM_0 (by decide))).trans f_va) hk5.out (c := 44) (by have h9 := w_1744_1; rw [show (44 : Int32).toInt = 44 from by decide +kernel] at h9; exact h9)) (by omega)
                    clear w_1744_1
                    refine lv_aload_n hx hb dX12_goesOn_461 rfl (lv_at hl 3 rfl) ?_
                    refine lv_iconst (v := 1) hx hb dX12_goesOn_462 (by decide +kernel) ?_
                    refine lv_aload_n hx hb dX12_goesOn_463 rfl (lv_at hl 3 rfl) ?_
                    refine dg_get (C := RX12) (T := TX12) (N := 77) hx hb hts (fun w h => bw_mem (wU_X12 w h)) hown K hP sM_0 rfl 4 (by decide) (hts _ (bw_mem wB_291)) (fun _ h9 => h9) (v := .int sa) (((m_1699.1 0 4 _ sM_0 (by decide)).trans (m_2.1 0 4 _ sM_0 (by decide))).trans f_sa) dX12_goesOn_464 ?_
                    have hz_1752 : (1 : Int32).toInt = 1 := by decide +kernel
                    refine dg_callv hS hA1 hA (va_runV (As := [.int 1, .int sa]) (rest := []) F (c_m_blame l g D o S_1699 1 (by decide +kernel) sa y_1701 f_y_1701 (by omega) I_1699 H.size) (cwV 2 hts (bw_V wB_306 wB_307 wB_308 wB_297 wB_305) rfl rfl rfl (by decide +kernel) ⟨Nat.le_of_ble_eq_true rfl, Nat.le_of_ble_eq_true rfl⟩) (dg_preV sM_0 rfl K ST hP hS hA1 hA) rfl rfl hl.1 rfl (lv_room (Nat.le_of_ble_eq_true rfl)) dX12_goesOn_467 ⟨Nat.le_of_ble_eq_true rfl, Nat.le_of_ble_eq_true rfl⟩) (fun S_1753 hw_1753 H locs hP hS => ?_)
                    obtain ⟨I_1753, m_1753, w_1753_0, -⟩ := hw_1753
                    have M_1753 := dg_sm.tr M_1699 m_1753 (by decide) (by decide)
                    have hz_1754 : (1 : Int32).toInt = 1 := by decide +kernel
                    obtain ⟨y_1755, f_y_1755, w_1753_0⟩ := w_1753_0
                    have w_1753_0 : ((y_1701).toInt ≠ 0 → (y_1755).toInt = (y_1701).toInt) ∧ ((y_1701).toInt = 0 → (y_1755).toInt = ((1 : Int32)).toInt) := w_1753_0
                    obtain ⟨w_1753_0_0, w_1753_0_1⟩ := w_1753_0
                    have w_1753_0_0r := w_1753_0_0 (by omega)
                    clear w_1753_0_0
                    clear w_1753_0_1
                    have b_y_1755 : 0 ≤ (y_1755).toInt ∧ (y_1755).toInt ≤ 6 := dg_I.intb (lo := 0) (hi := 6) I_1753 sM_0 (by decide +kernel) f_y_1755
                    have hbl_y_1755 : 1 ≤ (y_1755).toInt := by omega
                    refine lv_aload_n hx hb dX12_goesOn_470 rfl (lv_at hl 3 rfl) ?_
                    refine dg_get (C := RX12) (T := TX12) (N := 77) hx hb hts (fun w h => bw_mem (wU_X12 w h)) hown K hP sM_0 rfl 8 (by decide) (hts _ (bw_mem wB_303)) (fun _ h9 => h9) (v := .int y_1755) f_y_1755 dX12_goesOn_471 ?_
                    refine lv_if_le (tgt := 479) hx hb dX12_goesOn_474 (by decide) (fun c => absurd c (fun z => absurd (dk_lec (k := 0) (by decide +kernel) z) (by omega))) (fun _ => ?_)
                    refine lv_iconst (v := 0) hx hb dX12_goesOn_477 (by decide +kernel) ?_
                    have hz_1756 : (0 : Int32).toInt = 0 := by decide +kernel
                    have hz_1757 : (0 : Int32).toInt = 0 := by decide +kernel
                    have hz_1758 : (0 : Int32).toInt = 0 := by decide +kernel
                    have hz_1759 : (0 : Int32).toInt = 0 := by decide +kernel
                    have hz_1760 : (0 : Int32).toInt = 0 := by decide +kernel
                    refine W.widen (k := 0) (n := 0) (Nat.le_of_ble_eq_true rfl) (Nat.le_of_ble_eq_true rfl) ?_
                    rw [hQ9]
                    exact dg_iret hx hb hr hlocks (by decide +kernel) hP hS ⟨I_1753, M_1753, (by decide +kernel), ⟨sg, sa, se, y_1755, cd, dp, om, oo, (((m_1753.1 0 3 _ sM_0 (by decide)).trans ((m_1699.1 0 3 _ sM_0 (by decide)).trans (m_2.1 0 3 _ sM_0 (by decide)))).trans f_sg), (((m_1753.1 0 4 _ sM_0 (by decide)).trans ((m_1699.1 0 4 _ sM_0 (by decide)).trans (m_2.1 0 4 _ sM_0 (by decide)))).trans f_sa), (((m_1753.1 0 5 _ sM_0 (by decide)).trans ((m_1699.1 0 5 _ sM_0 (by decide)).trans (m_2.1 0 5 _ sM_0 (by decide)))).trans f_se), f_y_1755, (((m_1753.1 0 34 _ sM_0 (by decide)).trans ((m_1699.1 0 34 _ sM_0 (by decide)).trans (m_2.1 0 34 _ sM_0 (by decide)))).trans f_cd), (((m_1753.1 0 42 _ sM_0 (by decide)).trans ((m_1699.1 0 42 _ sM_0 (by decide)).trans (m_2.1 0 42 _ sM_0 (by decide)))).trans f_dp), (((m_1753.1 0 45 _ sM_0 (by decide)).trans ((m_1699.1 0 45 _ sM_0 (by decide)).trans (m_2.1 0 45 _ sM_0 (by decide)))).trans f_om), (((m_1753.1 0 46 _ sM_0 (by decide)).trans ((m_1699.1 0 46 _ sM_0 (by decide)).trans (m_2.1 0 46 _ sM_0 (by decide)))).trans f_oo), ⟨lxh_hlx_2.out, (by omega)⟩⟩, (fun k9 hk9 hk0 => by have q9 := (f_y_1755).symm.trans hk9; cases q9; omega), (GOK.no f_sa f_fk f_y_1755 (by omega) (fun h0 => Or.inl (by rw [hM0]; exact m_st_t.trans (m_go_bad hnop.out (Or.inr ⟨by omega, (fun q8 q9 => hnco.out (by omega) q9), (fun q8 => hnao.out (by omega)), (fun _ => qw_1744_1), (fun q9 => by exfalso; omega), (fun q9 q8 q7 => by exfalso; omega)⟩))))), (TKM.keep (TKM.keep (TKM.keep TK m_2 (by decide) (by decide) (by decide) (by decide) (by decide) (by decide) (by decide) (by decide)) m_1699 (by decide) (by decide) (by decide) (by decide) (by decide) (by decide) (by decide) (by decide)) m_1753 (by decide) (by decide) (by decide) (by decide) (by decide) (by decide) (by decide) (by decide)), (ZWM.keep (ZWM.keep (ZWM.keep ZW m_2 (by decide) (by decide) (by decide) (by decide)) m_1699 (by decide) (by decide) (by decide) (by decide)) m_1753 (by decide) (by decide) (by decide) (by decide)), trivial⟩ dX12_goesOn_478
                refine lv_icmp_eq (tgt := 452) hx hb dX12_goesOn_443 (by decide) (fun c_1761 => ?_) (fun c_1761 => ?_)
                · have jc_1761 := dk_eqc (k := 3) (by decide +kernel) c_1761
                  exact J_1742 ()  (by omega) _ _ hP hS _ (lv_sub hl [0, 1, 2, 3] rfl)
                · have jc_1761 := dk_neqc (k := 3) (by decide +kernel) c_1761
                  refine lv_iload_n hx hb dX12_goesOn_446 rfl (lv_at hl 1 rfl) ?_
                  refine lv_bipush (v := 6) hx hb dX12_goesOn_447 (by decide +kernel) ?_
                  refine lv_icmp_ne (tgt := 518) hx hb dX12_goesOn_449 (by decide) (fun c_1762 => ?_) (fun c_1762 => ?_)
                  · have jc_1762 := dk_neqc (k := 6) (by decide +kernel) c_1762
                    have jtc_1762 : (x_7).toInt ≤ 5 := by omega
                    clear jc_1762
                    refine lv_aload_n hx hb dX12_goesOn_518 rfl (lv_at hl 3 rfl) ?_
                    refine lv_iload_n hx hb dX12_goesOn_519 rfl (lv_at hl 1 rfl) ?_
                    refine lv_iconst (v := 5) hx hb dX12_goesOn_520 (by decide +kernel) ?_
                    have J_1782 : ∀ (x_1764 : Int32), (41 ≤ (x_1764).toInt ∧ (x_1764).toInt ≤ 93) → ((x_7 : Int32).toInt = 2 ∨ (x_7 : Int32).toInt = 4 ∨ (x_7 : Int32).toInt = 5) → (m_hid (((x_7 : Int32).toInt = 5 → (x_1764 : Int32).toInt = 93) ∧ ((x_7 : Int32).toInt ≠ 5 → (x_1764 : Int32).toInt = 41))) → ∀ (H : Heap) (locs : List Loc), va_P D vwCl (dg_w g shM o rfM S_1699) H → va_S A s.heap H locs → ∀ ls : Array Slot, lv_has ls 5 [(3, .int x_8), (2, .int x_7), (1, .int x_5), (0, .ref (o + 0))] → W p l e ({ frames := 3, cells := 0, slots := 0, locals := 77 } : Room) s m args below meth c H locs 0 0 Q9 (F0 m 531 ls [.int x_1764, .ref (o + 0)]) := by
                      intro x_1764 b_x_1764 rel_0 rel_1 H locs hP hS ls hl
                      have h531 := rel_1
                      refine dg_calli hS hA1 hA (va_runV (As := [.int x_1764]) (rest := []) F (c_m_isSign l g D o S_1699 x_1764 sg (((m_1699.1 0 3 _ sM_0 (by decide)).trans (m_2.1 0 3 _ sM_0 (by decide))).trans f_sg) (by omega) va (((m_1699.1 0 6 _ sM_0 (by decide)).trans (m_2.1 0 6 _ sM_0 (by decide))).trans f_va) (by omega) I_1699 H.size) (cwV 1 hts (bw_V wB_314 wB_315 wB_316 wB_297 wB_313) rfl rfl rfl (by decide +kernel) ⟨Nat.le_of_ble_eq_true rfl, Nat.le_of_ble_eq_true rfl⟩) (dg_preV sM_0 rfl K ST hP hS hA1 hA) rfl rfl hl.1 rfl (lv_room (Nat.le_of_ble_eq_true rfl)) dX12_goesOn_531 ⟨Nat.le_of_ble_eq_true rfl, Nat.le_of_ble_eq_true rfl⟩) (fun x_1783 S_1784 hw_1784 H locs hP hS => ?_)
                      rw [hw_1784.1] at hP
                      obtain ⟨hq_1784, w_1784_0, w_1784_1, -⟩ := hw_1784
                      have w_1784_0 : 0 ≤ (x_1783).toInt ∧ (x_1783).toInt ≤ 1 := w_1784_0
                      have w_1784_1 : (x_1783).toInt = 1 ↔ ((sg).toInt = 3 ∧ (va).toInt = (x_1764).toInt) := w_1784_1
                      refine lv_if_ne (tgt := 546) hx hb dX12_goesOn_534 (by decide) (fun c_1785 => ?_) (fun c_1785 => ?_)
                      · have jc_1785 := dk_neqc (k := 0) (by decide +kernel) c_1785
                        have jbc_1785 : 1 ≤ (x_1783).toInt := by omega
                        clear jc_1785
                        have qw_1784_1 : g_s (T_kd tb tn) (T_vl tb tn) (x_1764).toInt (t_ix tb tn (sa : Int32).toNatClampNeg) = true := (TKM.iss (TKM.keep (TKM.keep TK m_2 (by decide) (by decide) (by decide) (by decide) (by decide) (by decide) (by decide) (by decide)) m_1699 (by decide) (by decide) (by decide) (by decide) (by decide) (by decide) (by decide) (by decide)) (((m_1699.1 0 3 _ sM_0 (by decide)).trans (m_2.1 0 3 _ sM_0 (by decide))).trans f_sg) (((m_1699.1 0 4 _ sM_0 (by decide)).trans (m_2.1 0 4 _ sM_0 (by decide))).trans f_sa) (((m_1699.1 0 6 _ sM_0 (by decide)).trans (m_2.1 0 6 _ sM_0 (by decide))).trans f_va) hk5.out (c := (x_1764).toInt) (by have h9 := w_1784_1; exact h9)).mp (by omega)
                        have w_1784_1_r := w_1784_1.mp (by omega)
                        obtain ⟨w_1784_1_r1, w_1784_1_r2⟩ := w_1784_1_r
                        clear w_1784_1
                        have hlx_2r := hlx_2 (by omega)
                        clear hlx_2
                        refine lv_aload_n hx hb dX12_goesOn_546 rfl (lv_at hl 3 rfl) ?_
                        refine dg_get (C := RX12) (T := TX12) (N := 77) hx hb hts (fun w h => bw_mem (wU_X12 w h)) hown K hP sM_0 rfl 8 (by decide) (hts _ (bw_mem wB_303)) (fun _ h9 => h9) (v := .int y_1701) f_y_1701 dX12_goesOn_547 ?_
                        refine lv_if_le (tgt := 555) hx hb dX12_goesOn_550 (by decide) (fun c => absurd c (fun z => absurd (dk_lec (k := 0) (by decide +kernel) z) (by omega))) (fun _ => ?_)
                        refine lv_iconst (v := 0) hx hb dX12_goesOn_553 (by decide +kernel) ?_
                        have hz_1786 : (0 : Int32).toInt = 0 := by decide +kernel
                        have hz_1787 : (0 : Int32).toInt = 0 := by decide +kernel
                        have hz_1788 : (0 : Int32).toInt = 0 := by decide +kernel
                        have hz_1789 : (0 : Int32).toInt = 0 := by decide +kernel
                        have hz_1790 : (0 : Int32).toInt = 0 := by decide +kernel
                        refine W.widen (k := 0) (n := 0) (Nat.le_of_ble_eq_true rfl) (Nat.le_of_ble_eq_true rfl) ?_
                        rw [hQ9]
                        exact dg_iret hx hb hr hlocks (by decide +kernel) hP hS ⟨I_1699, M_1699, (by decide +kernel), ⟨sg, sa, se, y_1701, cd, dp, om, oo, (((m_1699.1 0 3 _ sM_0 (by decide)).trans (m_2.1 0 3 _ sM_0 (by decide))).trans f_sg), (((m_1699.1 0 4 _ sM_0 (by decide)).trans (m_2.1 0 4 _ sM_0 (by decide))).trans f_sa), (((m_1699.1 0 5 _ sM_0 (by decide)).trans (m_2.1 0 5 _ sM_0 (by decide))).trans f_se), f_y_1701, (((m_1699.1 0 34 _ sM_0 (by decide)).trans (m_2.1 0 34 _ sM_0 (by decide))).trans f_cd), (((m_1699.1 0 42 _ sM_0 (by decide)).trans (m_2.1 0 42 _ sM_0 (by decide))).trans f_dp), (((m_1699.1 0 45 _ sM_0 (by decide)).trans (m_2.1 0 45 _ sM_0 (by decide))).trans f_om), (((m_1699.1 0 46 _ sM_0 (by decide)).trans (m_2.1 0 46 _ sM_0 (by decide))).trans f_oo), ⟨lxh_hlx_2.out, (by omega)⟩⟩, (fun k9 hk9 hk0 => by have q9 := (f_y_1701).symm.trans hk9; cases q9; omega), (GOK.no f_sa f_fk f_y_1701 (by omega) (fun h0 => Or.inl (by rw [hM0]; exact m_st_t.trans (m_go_bad hnop.out (Or.inl ⟨(m_tst_iff.mpr hts1.out), by omega, hnco.out (by omega) (by omega)⟩))))), (TKM.keep (TKM.keep TK m_2 (by decide) (by decide) (by decide) (by decide) (by decide) (by decide) (by decide) (by decide)) m_1699 (by decide) (by decide) (by decide) (by decide) (by decide) (by decide) (by decide) (by decide)), (ZWM.keep (ZWM.keep ZW m_2 (by decide) (by decide) (by decide) (by decide)) m_1699 (by decide) (by decide) (by decide) (by decide)), trivial⟩ dX12_goesOn_554
                      · have jc_1785 := dk_eqc (k := 0) (by decide +kernel) c_1785
                        have qw_1784_1 : g_s (T_kd tb tn) (T_vl tb tn) (x_1764).toInt (t_ix tb tn (sa : Int32).toNatClampNeg) = false := g_iff_f (TKM.iss (TKM.keep (TKM.keep TK m_2 (by decide) (by decide) (by decide) (by decide) (by decide) (by decide) (by decide) (by decide)) m_1699 (by decide) (by decide) (by decide) (by decide) (by decide) (by decide) (by decide) (by decide)) (((m_1699.1 0 3 _ sM_0 (by decide)).trans (m_2.1 0 3 _ sM_0 (by decide))).trans f_sg) (((m_1699.1 0 4 _ sM_0 (by decide)).trans (m_2.1 0 4 _ sM_0 (by decide))).trans f_sa) (((m_1699.1 0 6 _ sM_0 (by decide)).trans (m_2.1 0 6 _ sM_0 (by decide))).trans f_va) hk5.out (c := (x_1764).toInt) (by have h9 := w_1784_1; exact h9)) (by omega)
                        clear w_1784_1
                        refine lv_aload_n hx hb dX12_goesOn_537 rfl (lv_at hl 3 rfl) ?_
                        refine lv_iconst (v := 1) hx hb dX12_goesOn_538 (by decide +kernel) ?_
                        refine lv_aload_n hx hb dX12_goesOn_539 rfl (lv_at hl 3 rfl) ?_
                        refine dg_get (C := RX12) (T := TX12) (N := 77) hx hb hts (fun w h => bw_mem (wU_X12 w h)) hown K hP sM_0 rfl 4 (by decide) (hts _ (bw_mem wB_291)) (fun _ h9 => h9) (v := .int sa) (((m_1699.1 0 4 _ sM_0 (by decide)).trans (m_2.1 0 4 _ sM_0 (by decide))).trans f_sa) dX12_goesOn_540 ?_
                        have hz_1791 : (1 : Int32).toInt = 1 := by decide +kernel
                        refine dg_callv hS hA1 hA (va_runV (As := [.int 1, .int sa]) (rest := []) F (c_m_blame l g D o S_1699 1 (by decide +kernel) sa y_1701 f_y_1701 (by omega) I_1699 H.size) (cwV 2 hts (bw_V wB_306 wB_307 wB_308 wB_297 wB_305) rfl rfl rfl (by decide +kernel) ⟨Nat.le_of_ble_eq_true rfl, Nat.le_of_ble_eq_true rfl⟩) (dg_preV sM_0 rfl K ST hP hS hA1 hA) rfl rfl hl.1 rfl (lv_room (Nat.le_of_ble_eq_true rfl)) dX12_goesOn_543 ⟨Nat.le_of_ble_eq_true rfl, Nat.le_of_ble_eq_true rfl⟩) (fun S_1792 hw_1792 H locs hP hS => ?_)
                        obtain ⟨I_1792, m_1792, w_1792_0, -⟩ := hw_1792
                        have M_1792 := dg_sm.tr M_1699 m_1792 (by decide) (by decide)
                        have hz_1793 : (1 : Int32).toInt = 1 := by decide +kernel
                        obtain ⟨y_1794, f_y_1794, w_1792_0⟩ := w_1792_0
                        have w_1792_0 : ((y_1701).toInt ≠ 0 → (y_1794).toInt = (y_1701).toInt) ∧ ((y_1701).toInt = 0 → (y_1794).toInt = ((1 : Int32)).toInt) := w_1792_0
                        obtain ⟨w_1792_0_0, w_1792_0_1⟩ := w_1792_0
                        have w_1792_0_0r := w_1792_0_0 (by omega)
                        clear w_1792_0_0
                        clear w_1792_0_1
                        have b_y_1794 : 0 ≤ (y_1794).toInt ∧ (y_1794).toInt ≤ 6 := dg_I.intb (lo := 0) (hi := 6) I_1792 sM_0 (by decide +kernel) f_y_1794
                        have hbl_y_1794 : 1 ≤ (y_1794).toInt := by omega
                        refine lv_aload_n hx hb dX12_goesOn_546 rfl (lv_at hl 3 rfl) ?_
                        refine dg_get (C := RX12) (T := TX12) (N := 77) hx hb hts (fun w h => bw_mem (wU_X12 w h)) hown K hP sM_0 rfl 8 (by decide) (hts _ (bw_mem wB_303)) (fun _ h9 => h9) (v := .int y_1794) f_y_1794 dX12_goesOn_547 ?_
                        refine lv_if_le (tgt := 555) hx hb dX12_goesOn_550 (by decide) (fun c => absurd c (fun z => absurd (dk_lec (k := 0) (by decide +kernel) z) (by omega))) (fun _ => ?_)
                        refine lv_iconst (v := 0) hx hb dX12_goesOn_553 (by decide +kernel) ?_
                        have hz_1795 : (0 : Int32).toInt = 0 := by decide +kernel
                        have hz_1796 : (0 : Int32).toInt = 0 := by decide +kernel
                        have hz_1797 : (0 : Int32).toInt = 0 := by decide +kernel
                        have hz_1798 : (0 : Int32).toInt = 0 := by decide +kernel
                        have hz_1799 : (0 : Int32).toInt = 0 := by decide +kernel
                        refine W.widen (k := 0) (n := 0) (Nat.le_of_ble_eq_true rfl) (Nat.le_of_ble_eq_true rfl) ?_
                        rw [hQ9]
                        exact dg_iret hx hb hr hlocks (by decide +kernel) hP hS ⟨I_1792, M_1792, (by decide +kernel), ⟨sg, sa, se, y_1794, cd, dp, om, oo, (((m_1792.1 0 3 _ sM_0 (by decide)).trans ((m_1699.1 0 3 _ sM_0 (by decide)).trans (m_2.1 0 3 _ sM_0 (by decide)))).trans f_sg), (((m_1792.1 0 4 _ sM_0 (by decide)).trans ((m_1699.1 0 4 _ sM_0 (by decide)).trans (m_2.1 0 4 _ sM_0 (by decide)))).trans f_sa), (((m_1792.1 0 5 _ sM_0 (by decide)).trans ((m_1699.1 0 5 _ sM_0 (by decide)).trans (m_2.1 0 5 _ sM_0 (by decide)))).trans f_se), f_y_1794, (((m_1792.1 0 34 _ sM_0 (by decide)).trans ((m_1699.1 0 34 _ sM_0 (by decide)).trans (m_2.1 0 34 _ sM_0 (by decide)))).trans f_cd), (((m_1792.1 0 42 _ sM_0 (by decide)).trans ((m_1699.1 0 42 _ sM_0 (by decide)).trans (m_2.1 0 42 _ sM_0 (by decide)))).trans f_dp), (((m_1792.1 0 45 _ sM_0 (by decide)).trans ((m_1699.1 0 45 _ sM_0 (by decide)).trans (m_2.1 0 45 _ sM_0 (by decide)))).trans f_om), (((m_1792.1 0 46 _ sM_0 (by decide)).trans ((m_1699.1 0 46 _ sM_0 (by decide)).trans (m_2.1 0 46 _ sM_0 (by decide)))).trans f_oo), ⟨lxh_hlx_2.out, (by omega)⟩⟩, (fun k9 hk9 hk0 => by have q9 := (f_y_1794).symm.trans hk9; cases q9; omega), (GOK.no f_sa f_fk f_y_1794 (by omega) (fun h0 => Or.inl (by rw [hM0]; exact m_st_t.trans (m_go_bad hnop.out (Or.inr ⟨by omega, (fun q8 q9 => hnco.out (by omega) q9), (fun q8 => hnao.out (by omega)), (fun q9 => by exfalso; omega), (fun q9 => by have h9 := qw_1784_1; rw [show (x_1764).toInt = 93 from by have h8 := h531.out.1 (by omega); omega] at h9; exact h9), (fun _ _ q9 => by have h9 := qw_1784_1; rw [show (x_1764).toInt = 41 from by have h8 := h531.out.2 (by omega); omega] at h9; exact h9)⟩))))), (TKM.keep (TKM.keep (TKM.keep TK m_2 (by decide) (by decide) (by decide) (by decide) (by decide) (by decide) (by decide) (by decide)) m_1699 (by decide) (by decide) (by decide) (by decide) (by decide) (by decide) (by decide) (by decide)) m_1792 (by decide) (by decide) (by decide) (by decide) (by decide) (by decide) (by decide) (by decide)), (ZWM.keep (ZWM.keep (ZWM.keep ZW m_2 (by decide) (by decide) (by decide) (by decide)) m_1699 (by decide) (by decide) (by decide) (by decide)) m_1792 (by decide) (by decide) (by decide) (by decide)), trivial⟩ dX12_goesOn_554
                    refine lv_icmp_ne (tgt := 529) hx hb dX12_goesOn_521 (by decide) (fun c_1800 => ?_) (fun c_1800 => ?_)
                    · have jc_1800 := dk_neqc (k := 5) (by decide +kernel) c_1800
                      have jtc_1800 : (x_7).toInt ≤ 4 := by omega
                      clear jc_1800
                      refine lv_bipush (v := 41) hx hb dX12_goesOn_529 (by decide +kernel) ?_
                      have hz_1801 : (41 : Int32).toInt = 41 := by decide +kernel
                      have hz_1802 : (41 : Int32).toInt = 41 := by decide +kernel
                      have hz_1803 : (41 : Int32).toInt = 41 := by decide +kernel
                      have hz_1804 : (41 : Int32).toInt = 41 := by decide +kernel
                      exact J_1782 41 (by decide +kernel) (by omega) (m_hid.mk ⟨fun q9 => by omega, fun q9 => by omega⟩) _ _ hP hS _ (lv_sub hl [0, 1, 2, 3] rfl)
                    · have jc_1800 := dk_eqc (k := 5) (by decide +kernel) c_1800
                      refine lv_bipush (v := 93) hx hb dX12_goesOn_524 (by decide +kernel) ?_
                      refine lv_goto (tgt := 531) hx hb dX12_goesOn_526 (by decide) ?_
                      have hz_1805 : (93 : Int32).toInt = 93 := by decide +kernel
                      have hz_1806 : (93 : Int32).toInt = 93 := by decide +kernel
                      have hz_1807 : (93 : Int32).toInt = 93 := by decide +kernel
                      have hz_1808 : (93 : Int32).toInt = 93 := by decide +kernel
                      exact J_1782 93 (by decide +kernel) (by omega) (m_hid.mk ⟨fun q9 => by omega, fun q9 => by omega⟩) _ _ hP hS _ (lv_sub hl [0, 1, 2, 3] rfl)
                  · have jc_1762 := dk_eqc (k := 6) (by decide +kernel) c_1762
                    exact J_1742 ()  (by omega) _ _ hP hS _ (lv_sub hl [0, 1, 2, 3] rfl)
              · have jc_1702 := dk_ngec (k := 2) (by decide +kernel) c_1702
                refine lv_aload_n hx hb dX12_goesOn_427 rfl (lv_at hl 3 rfl) ?_
                refine dg_get (C := RX12) (T := TX12) (N := 77) hx hb hts (fun w h => bw_mem (wU_X12 w h)) hown K hP sM_0 rfl 8 (by decide) (hts _ (bw_mem wB_303)) (fun _ h9 => h9) (v := .int y_1701) f_y_1701 dX12_goesOn_428 ?_
                refine lv_if_ne (tgt := 439) hx hb dX12_goesOn_431 (by decide) (fun _ => ?_) (fun c => absurd c (fun z => absurd (dk_eqc (k := 0) (by decide +kernel) z) (by omega)))
                refine lv_iconst (v := 0) hx hb dX12_goesOn_439 (by decide +kernel) ?_
                have hz_1809 : (0 : Int32).toInt = 0 := by decide +kernel
                have hz_1810 : (0 : Int32).toInt = 0 := by decide +kernel
                have hz_1811 : (0 : Int32).toInt = 0 := by decide +kernel
                have hz_1812 : (0 : Int32).toInt = 0 := by decide +kernel
                have hz_1813 : (0 : Int32).toInt = 0 := by decide +kernel
                refine W.widen (k := 0) (n := 0) (Nat.le_of_ble_eq_true rfl) (Nat.le_of_ble_eq_true rfl) ?_
                rw [hQ9]
                exact dg_iret hx hb hr hlocks (by decide +kernel) hP hS ⟨I_1699, M_1699, (by decide +kernel), ⟨sg, sa, se, y_1701, cd, dp, om, oo, (((m_1699.1 0 3 _ sM_0 (by decide)).trans (m_2.1 0 3 _ sM_0 (by decide))).trans f_sg), (((m_1699.1 0 4 _ sM_0 (by decide)).trans (m_2.1 0 4 _ sM_0 (by decide))).trans f_sa), (((m_1699.1 0 5 _ sM_0 (by decide)).trans (m_2.1 0 5 _ sM_0 (by decide))).trans f_se), f_y_1701, (((m_1699.1 0 34 _ sM_0 (by decide)).trans (m_2.1 0 34 _ sM_0 (by decide))).trans f_cd), (((m_1699.1 0 42 _ sM_0 (by decide)).trans (m_2.1 0 42 _ sM_0 (by decide))).trans f_dp), (((m_1699.1 0 45 _ sM_0 (by decide)).trans (m_2.1 0 45 _ sM_0 (by decide))).trans f_om), (((m_1699.1 0 46 _ sM_0 (by decide)).trans (m_2.1 0 46 _ sM_0 (by decide))).trans f_oo), ⟨lxh_hlx_2.out, (by omega)⟩⟩, (fun k9 hk9 hk0 => by have q9 := (f_y_1701).symm.trans hk9; cases q9; omega), (GOK.no f_sa f_fk f_y_1701 (by omega) (fun h0 => Or.inl (by rw [hM0]; exact m_st_t.trans (m_go_bad hnop.out (Or.inl ⟨(m_tst_iff.mpr hts1.out), by omega, hnco.out (by omega) (by omega)⟩))))), (TKM.keep (TKM.keep TK m_2 (by decide) (by decide) (by decide) (by decide) (by decide) (by decide) (by decide) (by decide)) m_1699 (by decide) (by decide) (by decide) (by decide) (by decide) (by decide) (by decide) (by decide)), (ZWM.keep (ZWM.keep ZW m_2 (by decide) (by decide) (by decide) (by decide)) m_1699 (by decide) (by decide) (by decide) (by decide)), trivial⟩ dX12_goesOn_440
        refine lv_if_eq (tgt := 400) hx hb dX12_goesOn_286 (by decide) (fun c_1814 => ?_) (fun c_1814 => ?_)
        · have jc_1814 := dk_eqc (k := 0) (by decide +kernel) c_1814
          clear w_9_1
          exact J_1133 ()  (m_hid.mk (fun q9 => by exfalso; omega)) _ _ hP hS _ (lv_sub hl [0, 1, 2, 3] rfl)
        · have jc_1814 := dk_neqc (k := 0) (by decide +kernel) c_1814
          have jbc_1814 : 1 ≤ (x_8).toInt := by omega
          clear jc_1814
          have hts1 := m_hid.mk (w_9_1.out.mp (by omega))
          clear w_9_1
          refine lv_aload_n hx hb dX12_goesOn_289 rfl (lv_at hl 3 rfl) ?_
          refine lv_ldc2 hx hb hown (hts _ (bw_mem wB_347)) dX12_goesOn_290 ?_
          refine dg_calli hS hA1 hA (va_runV (As := [.long 6385252]) (rest := []) F (c_m_isWord l g D o S_2 6385252 sg ((m_2.1 0 3 _ sM_0 (by decide)).trans f_sg) (by omega) I_2 H.size) (cwV 1 hts (bw_V wB_322 wB_323 wB_324 wB_297 wB_321) rfl rfl rfl (by decide +kernel) ⟨Nat.le_of_ble_eq_true rfl, Nat.le_of_ble_eq_true rfl⟩) (dg_preV sM_0 rfl K ST hP hS hA1 hA) rfl rfl hl.1 rfl (lv_room (Nat.le_of_ble_eq_true rfl)) dX12_goesOn_293 ⟨Nat.le_of_ble_eq_true rfl, Nat.le_of_ble_eq_true rfl⟩) (fun x_1815 S_1816 hw_1816 H locs hP hS => ?_)
          rw [hw_1816.1] at hP
          obtain ⟨hq_1816, w_1816_0, w_1816_1, -⟩ := hw_1816
          try rw [hq_1816] at w_1816_1
          have w_1816_0 : 0 ≤ (x_1815).toInt ∧ (x_1815).toInt ≤ 1 := w_1816_0
          replace w_1816_1 : ∀ w9 : Int64, S_2.1 0 7 = .long w9 → ((x_1815).toInt = 1 ↔ ((sg).toInt = 1 ∧ w9.toInt = ((6385252 : Int64)).toInt)) := w_1816_1
          have J_1907 : ∀ (u9 : Unit), ((sg).toInt = 1) → (m_hid (g_o (T_kd tb tn) (T_vl tb tn) 22 (t_ix tb tn (sa : Int32).toNatClampNeg) = true ∨ g_o (T_kd tb tn) (T_vl tb tn) 21 (t_ix tb tn (sa : Int32).toNatClampNeg) = true)) → ∀ (H : Heap) (locs : List Loc), va_P D vwCl (dg_w g shM o rfM S_2) H → va_S A s.heap H locs → ∀ ls : Array Slot, lv_has ls 5 [(3, .int x_8), (2, .int x_7), (1, .int x_5), (0, .ref (o + 0))] → W p l e ({ frames := 3, cells := 0, slots := 0, locals := 77 } : Room) s m args below meth c H locs 0 0 Q9 (F0 m 309 ls []) := by
            intro u9 rel_0 rel_1 H locs hP hS ls hl
            clear w_1816_1
            have hwd := rel_1
            refine lv_aload_n hx hb dX12_goesOn_309 rfl (lv_at hl 3 rfl) ?_
            refine dg_get (C := RX12) (T := TX12) (N := 77) hx hb hts (fun w h => bw_mem (wU_X12 w h)) hown K hP sM_0 rfl 38 (by decide) (hts _ (bw_mem wB_417)) (fun _ h9 => h9) (v := .ref (o + 23)) (show S_2.1 0 38 = .ref (o + 23) from dg_I.rel (d := 23) I_2 sM_0 (by decide +kernel)) dX12_goesOn_310 ?_
            refine lv_iload_n hx hb dX12_goesOn_313 rfl (lv_at hl 2 rfl) ?_
            have hin_1908 : vp_in x_5 20 := (dk_inv (by omega) (by omega))
            refine dg_iald hx hb K hP sM_23 hin_1908 dX12_goesOn_314 (fun y_1909 ey_1909 => ?_)
            obtain rfl : x_11 = y_1909 := (ey_1909.trans ex_11.symm).symm
            refine lv_if_ne (tgt := 327) hx hb dX12_goesOn_315 (by decide) (fun c_1910 => ?_) (fun c_1910 => ?_)
            · have jc_1910 := dk_neqc (k := 0) (by decide +kernel) c_1910
              have jbc_1910 : 1 ≤ (x_11).toInt := by omega
              clear jc_1910
              refine lv_aload_n hx hb dX12_goesOn_327 rfl (lv_at hl 3 rfl) ?_
              refine dg_get (C := RX12) (T := TX12) (N := 77) hx hb hts (fun w h => bw_mem (wU_X12 w h)) hown K hP sM_0 rfl 8 (by decide) (hts _ (bw_mem wB_303)) (fun _ h9 => h9) (v := .int y_3) f_y_3 dX12_goesOn_328 ?_
              refine lv_if_le (tgt := 336) hx hb dX12_goesOn_331 (by decide) (fun _ => ?_) (fun c => absurd (dk_lep (k := 0) (by decide +kernel) (by omega)) c)
              refine lv_aload_n hx hb dX12_goesOn_336 rfl (lv_at hl 3 rfl) ?_
              refine lv_ldc2 hx hb hown (hts _ (bw_mem wB_347)) dX12_goesOn_337 ?_
              refine dg_calli hS hA1 hA (va_runV (As := [.long 6385252]) (rest := []) F (c_m_isWord l g D o S_2 6385252 sg ((m_2.1 0 3 _ sM_0 (by decide)).trans f_sg) (by omega) I_2 H.size) (cwV 1 hts (bw_V wB_322 wB_323 wB_324 wB_297 wB_321) rfl rfl rfl (by decide +kernel) ⟨Nat.le_of_ble_eq_true rfl, Nat.le_of_ble_eq_true rfl⟩) (dg_preV sM_0 rfl K ST hP hS hA1 hA) rfl rfl hl.1 rfl (lv_room (Nat.le_of_ble_eq_true rfl)) dX12_goesOn_340 ⟨Nat.le_of_ble_eq_true rfl, Nat.le_of_ble_eq_true rfl⟩) (fun x_1911 S_1912 hw_1912 H locs hP hS => ?_)
              rw [hw_1912.1] at hP
              obtain ⟨hq_1912, w_1912_0, w_1912_1, -⟩ := hw_1912
              try rw [hq_1912] at w_1912_1
              have w_1912_0 : 0 ≤ (x_1911).toInt ∧ (x_1911).toInt ≤ 1 := w_1912_0
              replace w_1912_1 : ∀ w9 : Int64, S_2.1 0 7 = .long w9 → ((x_1911).toInt = 1 ↔ ((sg).toInt = 1 ∧ w9.toInt = ((6385252 : Int64)).toInt)) := w_1912_1
              refine lv_istore (lv' := [(4, .int x_1911), (3, .int x_8), (2, .int x_7), (1, .int x_5), (0, .ref (o + 0))]) hx hb dX12_goesOn_343 hl (by decide) rfl (fun ls hl => ?_)
              refine lv_aload_n hx hb dX12_goesOn_345 rfl (lv_at hl 4 rfl) ?_
              refine lv_iload hx hb dX12_goesOn_346 (lv_at hl 0 rfl) ?_
              refine lv_if_eq (tgt := 355) hx hb dX12_goesOn_348 (by decide) (fun c_1913 => ?_) (fun c_1913 => ?_)
              · have jc_1913 := dk_eqc (k := 0) (by decide +kernel) c_1913
                have qw_1912_1 : g_o (T_kd tb tn) (T_vl tb tn) 22 (t_ix tb tn (sa : Int32).toNatClampNeg) = false := g_iff_f (TKM.isw (TKM.keep TK m_2 (by decide) (by decide) (by decide) (by decide) (by decide) (by decide) (by decide) (by decide)) ((m_2.1 0 3 _ sM_0 (by decide)).trans f_sg) ((m_2.1 0 4 _ sM_0 (by decide)).trans f_sa) hk5.out (j := 22) (C := 6385252) (by decide) (by decide +kernel) w_1912_1) (by omega)
                clear w_1912_1
                refine lv_iconst (v := 1) hx hb dX12_goesOn_355 (by decide +kernel) ?_
                have hz_1914 : (1 : Int32).toInt = 1 := by decide +kernel
                refine dg_callv hS hA1 hA (va_runV (As := [.int 1]) (rest := []) F (c_m_joins l g D o S_2 1 (by decide +kernel) cd ((m_2.1 0 34 _ sM_0 (by decide)).trans f_cd) (by omega) om ((m_2.1 0 45 _ sM_0 (by decide)).trans f_om) (by omega) (by omega) (ZWM.keep ZW m_2 (by decide) (by decide) (by decide) (by decide)) (ZKM.keep ZK m_2 (by decide) (by decide)) (P1M.keep P1 m_2 (by decide) (by decide) (by decide) (by decide) (by decide) (by decide) (by decide) (by decide) (by decide) (by decide) (by decide) (by decide) (by decide) (by decide) (by decide)) I_2 H.size) (cwV 1 hts (bw_V wB_437 wB_438 wB_439 wB_297 wB_436) rfl rfl rfl (by decide +kernel) ⟨Nat.le_of_ble_eq_true rfl, Nat.le_of_ble_eq_true rfl⟩) (dg_preV sM_0 rfl K ST hP hS hA1 hA) rfl rfl hl.1 rfl (lv_room (Nat.le_of_ble_eq_true rfl)) dX12_goesOn_356 ⟨Nat.le_of_ble_eq_true rfl, Nat.le_of_ble_eq_true rfl⟩) (fun S_1915 hw_1915 H locs hP hS => ?_)
                obtain ⟨I_1915, m_1915, w_1915_0, w_1915_1, w_1915_2, w_1915_3, w_1915_4, -⟩ := hw_1915
                have M_1915 := dg_sm.tr M_2 m_1915 (by decide) (by decide)
                have hz_1916 : (1 : Int32).toInt = 1 := by decide +kernel
                obtain ⟨y_1917, y_1918, f_y_1917, f_y_1918, w_1915_0⟩ := w_1915_0
                have w_1915_0 : (y_1917).toInt + (y_1918).toInt = (cd).toInt + (om).toInt := w_1915_0
                have b_y_1917 : 0 ≤ (y_1917).toInt ∧ (y_1917).toInt ≤ 1600 := dg_I.intb (lo := 0) (hi := 1600) I_1915 sM_0 (by decide +kernel) f_y_1917
                have b_y_1918 : 0 ≤ (y_1918).toInt ∧ (y_1918).toInt ≤ 500 := dg_I.intb (lo := 0) (hi := 500) I_1915 sM_0 (by decide +kernel) f_y_1918
                replace w_1915_1 : TOPM S_1915 (1 : Int32) := w_1915_1
                obtain ⟨x_1919, f_x_1919, b_x_1919⟩ := dg_I.int (i := 0) (k := 43) (lo := (-2147483648)) (hi := 2147483647) I_1915 sM_0 (by decide +kernel)
                replace w_1915_2 : JNM S_2 S_1915 (1 : Int32) := w_1915_2
                have TF_1915 : TFM (x_7).toInt (x_11).toInt bg0 0 R0 ((on).toNatClampNeg - nt0) S_1915 := (TFM.join TF0 (P1M.keep P1 m_2 (by decide) (by decide) (by decide) (by decide) (by decide) (by decide) (by decide) (by decide) (by decide) (by decide) (by decide) (by decide) (by decide) (by decide) (by decide)) ((m_2.1 0 42 _ sM_0 (by decide)).trans f_dp) ((m_2.1 0 43 _ sM_0 (by decide)).trans f_on) ((m_2.1 0 45 _ sM_0 (by decide)).trans f_om) w_1915_2 w_1915_1 m_1915 (by decide) (by decide) (by decide) (by decide) (by decide) (by decide)).2 (by decide +kernel) (by decide +kernel)
                have hdm_1919 := PSM.dims w_1915_4 (((m_1915.1 0 42 _ sM_0 (by decide)).trans (m_2.1 0 42 _ sM_0 (by decide))).trans f_dp) f_x_1919 f_y_1918
                refine lv_aload_n hx hb dX12_goesOn_359 rfl (lv_at hl 4 rfl) ?_
                refine lv_iload hx hb dX12_goesOn_360 (lv_at hl 0 rfl) ?_
                refine lv_if_eq (tgt := 370) hx hb dX12_goesOn_362 (by decide) (fun _ => ?_) (fun c => absurd (dk_eqp (k := 0) (by decide +kernel) (by omega)) c)
                refine lv_bipush (v := 42) hx hb dX12_goesOn_370 (by decide +kernel) ?_
                refine dg_callv hS hA1 hA (va_runV (As := [.int 42]) (rest := []) F (c_m_holdsBack l g D o S_1915 42 y_1918 f_y_1918 (by omega) I_1915 H.size) (cwV 1 hts (bw_V wB_427 wB_428 wB_429 wB_297 wB_426) rfl rfl rfl (by decide +kernel) ⟨Nat.le_of_ble_eq_true rfl, Nat.le_of_ble_eq_true rfl⟩) (dg_preV sM_0 rfl K ST hP hS hA1 hA) rfl rfl hl.1 rfl (lv_room (Nat.le_of_ble_eq_true rfl)) dX12_goesOn_372 ⟨Nat.le_of_ble_eq_true rfl, Nat.le_of_ble_eq_true rfl⟩) (fun S_1921 hw_1921 H locs hP hS => ?_)
                obtain ⟨I_1921, m_1921, w_1921_0, w_1921_1, -⟩ := hw_1921
                have M_1921 := dg_sm.tr M_1915 m_1921 (by decide) (by decide)
                have hz_1922 : (42 : Int32).toInt = 42 := by decide +kernel
                obtain ⟨y_1923, f_y_1923, w_1921_0⟩ := w_1921_0
                have w_1921_0 : (y_1923).toInt = (y_1918).toInt + 1 := w_1921_0
                have b_y_1923 : 0 ≤ (y_1923).toInt ∧ (y_1923).toInt ≤ 500 := dg_I.intb (lo := 0) (hi := 500) I_1921 sM_0 (by decide +kernel) f_y_1923
                replace w_1921_1 : HBM S_1915 S_1921 (42 : Int32) := w_1921_1
                have hz_1924 : (42 : Int32).toInt = 42 := by decide +kernel
                have TF_1921 : TFM (x_7).toInt (x_11).toInt bg0 0 R0 ((on).toNatClampNeg - nt0) S_1921 := (by have h9 := TFM.hb TF_1915 (((m_1915.1 0 42 _ sM_0 (by decide)).trans (m_2.1 0 42 _ sM_0 (by decide))).trans f_dp) f_x_1919 f_y_1918 (by omega) m_1921 w_1921_1; rw [if_neg (by omega)] at h9; exact h9)
                refine lv_aload_n hx hb dX12_goesOn_375 rfl (lv_at hl 4 rfl) ?_
                refine dg_get (C := RX12) (T := TX12) (N := 77) hx hb hts (fun w h => bw_mem (wU_X12 w h)) hown K hP sM_0 rfl 38 (by decide) (hts _ (bw_mem wB_417)) (fun _ h9 => h9) (v := .ref (o + 23)) (show S_1921.1 0 38 = .ref (o + 23) from dg_I.rel (d := 23) I_1921 sM_0 (by decide +kernel)) dX12_goesOn_376 ?_
                refine lv_iload_n hx hb dX12_goesOn_379 rfl (lv_at hl 3 rfl) ?_
                refine lv_iconst (v := 0) hx hb dX12_goesOn_380 (by decide +kernel) ?_
                have hin_1925 : vp_in x_5 20 := (dk_inv (by omega) (by omega))
                have hz_1927 : (0 : Int32).toInt = 0 := by decide +kernel
                refine dg_iast hx hb K hP hS hA1 sM_23 hin_1925 dX12_goesOn_381 (fun S_1926 e_1926 H locs hP hS => ?_)
                have I_1926 := dg_I.ufu (lo := 0) (hi := 2) I_1921 e_1926 sM_23 (by decide +kernel) (show 0 ≤ ((0 : Int32)).toInt ∧ ((0 : Int32)).toInt ≤ 2 from (by decide +kernel))
                have M_1926 := dg_sm.uf M_1921 e_1926 sM_23 (by decide)
                have hz_1928 : (0 : Int32).toInt = 0 := by decide +kernel
                have hz_1929 : (0 : Int32).toInt = 0 := by decide +kernel
                have TF_1926 : TFM (x_7).toInt 0 bg0 0 R0 ((on).toNatClampNeg - nt0) S_1926 := (by have h9 := (TFM.ph' TF_1921 (((m_1921.1 0 42 _ sM_0 (by decide)).trans ((m_1915.1 0 42 _ sM_0 (by decide)).trans (m_2.1 0 42 _ sM_0 (by decide)))).trans f_dp) ((m_1921.1 0 43 _ sM_0 (by decide)).trans f_x_1919) f_y_1923 (fx := x_5) (by omega) (by omega) e_1926); rw [show (0 : Int32).toInt = 0 from by decide +kernel] at h9; exact h9)
                refine lv_aload_n hx hb dX12_goesOn_382 rfl (lv_at hl 4 rfl) ?_
                refine dg_get (C := RX12) (T := TX12) (N := 77) hx hb hts (fun w h => bw_mem (wU_X12 w h)) hown K hP sM_0 rfl 39 (by decide) (hts _ (bw_mem wB_418)) (fun _ h9 => h9) (v := .ref (o + 24)) (show S_1926.1 0 39 = .ref (o + 24) from dg_I.rel (d := 24) I_1926 sM_0 (by decide +kernel)) dX12_goesOn_383 ?_
                refine lv_iload_n hx hb dX12_goesOn_386 rfl (lv_at hl 3 rfl) ?_
                refine lv_iconst (v := 1) hx hb dX12_goesOn_387 (by decide +kernel) ?_
                have hin_1930 : vp_in x_5 20 := (dk_inv (by omega) (by omega))
                have hz_1932 : (1 : Int32).toInt = 1 := by decide +kernel
                refine dg_zast hx hb K hP hS hA1 sM_24 hin_1930 (by decide +kernel) dX12_goesOn_388 (fun S_1931 e_1931 H locs hP hS => ?_)
                have I_1931 := dg_I.ufu (lo := 0) (hi := 1) I_1926 e_1931 sM_24 (by decide +kernel) (show 0 ≤ ((1 : Int32)).toInt ∧ ((1 : Int32)).toInt ≤ 1 from (by decide +kernel))
                have M_1931 := dg_sm.uf M_1926 e_1931 sM_24 (by decide)
                have P0_1931 : P0M S_1931 := P1M.andor w_1915_4 (((m_1915.1 0 42 _ sM_0 (by decide)).trans (m_2.1 0 42 _ sM_0 (by decide))).trans f_dp) f_x_1919 f_y_1918 w_1915_1 m_1921 w_1921_1 (by omega) (fx := x_5) (by omega) e_1926 e_1931
                have hz_1933 : (1 : Int32).toInt = 1 := by decide +kernel
                have TF_1931 : TFM (x_7).toInt 0 true 0 R0 ((on).toNatClampNeg - nt0) S_1931 := (by have h9 := (TFM.bg' TF_1926 (((dg_uf_F e_1926 0 42).trans ((m_1921.1 0 42 _ sM_0 (by decide)).trans ((m_1915.1 0 42 _ sM_0 (by decide)).trans (m_2.1 0 42 _ sM_0 (by decide))))).trans f_dp) (((dg_uf_F e_1926 0 43).trans (m_1921.1 0 43 _ sM_0 (by decide))).trans f_x_1919) ((dg_uf_F e_1926 0 45).trans f_y_1923) (fx := x_5) (by omega) (by omega) e_1931); rw [show decide ((1 : Int32).toInt = 1) = true from by decide +kernel] at h9; exact h9)
                refine lv_aload_n hx hb dX12_goesOn_389 rfl (lv_at hl 4 rfl) ?_
                refine dg_callv hS hA1 hA (va_runV (As := []) (rest := []) F (c_m_ahead l g D o S_1931 tb tn se (((dg_uf_F e_1931 0 5).trans ((dg_uf_F e_1926 0 5).trans ((m_1921.1 0 5 _ sM_0 (by decide)).trans ((m_1915.1 0 5 _ sM_0 (by decide)).trans (m_2.1 0 5 _ sM_0 (by decide)))))).trans f_se) (by omega) sl (((dg_uf_F e_1931 0 2).trans ((dg_uf_F e_1926 0 2).trans ((m_1921.1 0 2 _ sM_0 (by decide)).trans ((m_1915.1 0 2 _ sM_0 (by decide)).trans (m_2.1 0 2 _ sM_0 (by decide)))))).trans f_sl) (by omega) (by omega) (TKM.keep (TKM.keep (TKM.keep (TKM.keep (TKM.keep TK m_2 (by decide) (by decide) (by decide) (by decide) (by decide) (by decide) (by decide) (by decide)) m_1915 (by decide) (by decide) (by decide) (by decide) (by decide) (by decide) (by decide) (by decide)) m_1921 (by decide) (by decide) (by decide) (by decide) (by decide) (by decide) (by decide) (by decide)) (dg_sm.uf (WF := []) (WA := [23]) dg_sm.rf e_1926 sM_23 (by decide)) (by decide) (by decide) (by decide) (by decide) (by decide) (by decide) (by decide) (by decide)) (dg_sm.uf (WF := []) (WA := [24]) dg_sm.rf e_1931 sM_24 (by decide)) (by decide) (by decide) (by decide) (by decide) (by decide) (by decide) (by decide) (by decide)).1 I_1931 H.size) (cwV 0 hts (bw_V wB_318 wB_319 wB_320 wB_297 wB_317) rfl rfl rfl (by decide +kernel) ⟨Nat.le_of_ble_eq_true rfl, Nat.le_of_ble_eq_true rfl⟩) (dg_preV sM_0 rfl K ST hP hS hA1 hA) rfl rfl hl.1 rfl (lv_room (Nat.le_of_ble_eq_true rfl)) dX12_goesOn_390 ⟨Nat.le_of_ble_eq_true rfl, Nat.le_of_ble_eq_true rfl⟩) (fun S_1934 hw_1934 H locs hP hS => ?_)
                obtain ⟨I_1934, m_1934, w_1934_0, w_1934_1, -⟩ := hw_1934
                have M_1934 := dg_sm.tr M_1931 m_1934 (by decide) (by decide)
                obtain ⟨y_1935, y_1936, y_1937, f_y_1935, f_y_1936, f_y_1937, w_1934_0⟩ := w_1934_0
                have w_1934_0 : (se).toInt ≤ (y_1936).toInt ∧ (y_1936).toInt ≤ (y_1937).toInt ∧ (y_1937).toInt ≤ (sl).toInt ∧ ((y_1935).toInt ≠ 0 → (y_1936).toInt + 1 ≤ (y_1937).toInt) := w_1934_0
                obtain ⟨w_1934_0_0, w_1934_0_1, w_1934_0_2, w_1934_0_3⟩ := w_1934_0
                have lxh_w_1934_0_3 : m_hid ((y_1936).toInt ≤ (y_1937).toInt ∧ (y_1937).toInt ≤ (sl).toInt ∧ ((y_1935).toInt ≠ 0 → (y_1936).toInt + 1 ≤ (y_1937).toInt)) := m_hid.mk ⟨w_1934_0_1, w_1934_0_2, w_1934_0_3⟩
                have b_y_1935 : 0 ≤ (y_1935).toInt ∧ (y_1935).toInt ≤ 3 := dg_I.intb (lo := 0) (hi := 3) I_1934 sM_0 (by decide +kernel) f_y_1935
                have b_y_1936 : 0 ≤ (y_1936).toInt ∧ (y_1936).toInt ≤ 1600 := dg_I.intb (lo := 0) (hi := 1600) I_1934 sM_0 (by decide +kernel) f_y_1936
                have b_y_1937 : 0 ≤ (y_1937).toInt ∧ (y_1937).toInt ≤ 1600 := dg_I.intb (lo := 0) (hi := 1600) I_1934 sM_0 (by decide +kernel) f_y_1937
                replace w_1934_1 : TNX tb tn se S_1934 := w_1934_1
                obtain ⟨TK_1934, nx_1934, -⟩ := TKM.nx (TKM.keep (TKM.keep (TKM.keep (TKM.keep (TKM.keep TK m_2 (by decide) (by decide) (by decide) (by decide) (by decide) (by decide) (by decide) (by decide)) m_1915 (by decide) (by decide) (by decide) (by decide) (by decide) (by decide) (by decide) (by decide)) m_1921 (by decide) (by decide) (by decide) (by decide) (by decide) (by decide) (by decide) (by decide)) (dg_sm.uf (WF := []) (WA := [23]) dg_sm.rf e_1926 sM_23 (by decide)) (by decide) (by decide) (by decide) (by decide) (by decide) (by decide) (by decide) (by decide)) (dg_sm.uf (WF := []) (WA := [24]) dg_sm.rf e_1931 sM_24 (by decide)) (by decide) (by decide) (by decide) (by decide) (by decide) (by decide) (by decide) (by decide)) (((dg_uf_F e_1931 0 4).trans ((dg_uf_F e_1926 0 4).trans ((m_1921.1 0 4 _ sM_0 (by decide)).trans ((m_1915.1 0 4 _ sM_0 (by decide)).trans (m_2.1 0 4 _ sM_0 (by decide)))))).trans f_sa) (((dg_uf_F e_1931 0 5).trans ((dg_uf_F e_1926 0 5).trans ((m_1921.1 0 5 _ sM_0 (by decide)).trans ((m_1915.1 0 5 _ sM_0 (by decide)).trans (m_2.1 0 5 _ sM_0 (by decide)))))).trans f_se) w_1934_1 m_1934 (by decide) (by decide) f_y_1936
                replace nx_1934 := nx_1934 (fun q9 => absurd ((TKM.zero (TKM.keep (TKM.keep (TKM.keep (TKM.keep (TKM.keep TK m_2 (by decide) (by decide) (by decide) (by decide) (by decide) (by decide) (by decide) (by decide)) m_1915 (by decide) (by decide) (by decide) (by decide) (by decide) (by decide) (by decide) (by decide)) m_1921 (by decide) (by decide) (by decide) (by decide) (by decide) (by decide) (by decide) (by decide)) (dg_sm.uf (WF := []) (WA := [23]) dg_sm.rf e_1926 sM_23 (by decide)) (by decide) (by decide) (by decide) (by decide) (by decide) (by decide) (by decide) (by decide)) (dg_sm.uf (WF := []) (WA := [24]) dg_sm.rf e_1931 sM_24 (by decide)) (by decide) (by decide) (by decide) (by decide) (by decide) (by decide) (by decide) (by decide)) (((dg_uf_F e_1931 0 3).trans ((dg_uf_F e_1926 0 3).trans ((m_1921.1 0 3 _ sM_0 (by decide)).trans ((m_1915.1 0 3 _ sM_0 (by decide)).trans (m_2.1 0 3 _ sM_0 (by decide)))))).trans f_sg) (((dg_uf_F e_1931 0 4).trans ((dg_uf_F e_1926 0 4).trans ((m_1921.1 0 4 _ sM_0 (by decide)).trans ((m_1915.1 0 4 _ sM_0 (by decide)).trans (m_2.1 0 4 _ sM_0 (by decide)))))).trans f_sa)).mpr q9) (by omega))
                refine lv_aload_n hx hb dX12_goesOn_393 rfl (lv_at hl 4 rfl) ?_
                refine lv_iconst (v := 0) hx hb dX12_goesOn_394 (by decide +kernel) ?_
                have hz_1938 : (0 : Int32).toInt = 0 := by decide +kernel
                refine dg_put (ci := 12) (v := .int 0) (ty := tyX12 46) (C := RX12) (T := TX12) (N := 77) hx hb hts (fun w h => bw_mem (wU_X12 w h)) tyX12 tyX12_ok nmX12 hown K hP hS hA1 sM_0 rfl 46 (by decide) (hts _ (bw_mem wB_440)) (fun _ h9 => h9) rfl (by decide +kernel) (by decide +kernel) (by decide +kernel) dX12_goesOn_395 (fun S_1939 e_1939 H locs hP hS => ?_)
                have I_1939 := dg_I.uFi (lo := 0) (hi := 1) I_1934 e_1939 sM_0 (by decide +kernel) (show 0 ≤ ((0 : Int32)).toInt ∧ ((0 : Int32)).toInt ≤ 1 from (by decide +kernel))
                have M_1939 := dg_sm.uF M_1934 e_1939 sM_0 (by decide)
                refine lv_iconst (v := 1) hx hb dX12_goesOn_398 (by decide +kernel) ?_
                have hz_1940 : (1 : Int32).toInt = 1 := by decide +kernel
                have hz_1941 : (1 : Int32).toInt = 1 := by decide +kernel
                have hz_1942 : (0 : Int32).toInt = 0 := by decide +kernel
                have hz_1943 : (1 : Int32).toInt = 1 := by decide +kernel
                have hz_1944 : (0 : Int32).toInt = 0 := by decide +kernel
                have hz_1945 : (1 : Int32).toInt = 1 := by decide +kernel
                have hz_1946 : (1 : Int32).toInt = 1 := by decide +kernel
                have hz_1947 : (0 : Int32).toInt = 0 := by decide +kernel
                refine W.widen (k := 0) (n := 0) (Nat.le_of_ble_eq_true rfl) (Nat.le_of_ble_eq_true rfl) ?_
                rw [hQ9]
                exact dg_iret hx hb hr hlocks (by decide +kernel) hP hS ⟨I_1939, M_1939, (by decide +kernel), ⟨y_1935, y_1936, y_1937, y_3, y_1917, dp, y_1923, 0, ((dg_uF_ne e_1939 (fun z => absurd z.2 (by decide))).trans f_y_1935), ((dg_uF_ne e_1939 (fun z => absurd z.2 (by decide))).trans f_y_1936), ((dg_uF_ne e_1939 (fun z => absurd z.2 (by decide))).trans f_y_1937), (((dg_uF_ne e_1939 (fun z => absurd z.2 (by decide))).trans ((m_1934.1 0 8 _ sM_0 (by decide)).trans ((dg_uf_F e_1931 0 8).trans ((dg_uf_F e_1926 0 8).trans ((m_1921.1 0 8 _ sM_0 (by decide)).trans (m_1915.1 0 8 _ sM_0 (by decide))))))).trans f_y_3), (((dg_uF_ne e_1939 (fun z => absurd z.2 (by decide))).trans ((m_1934.1 0 34 _ sM_0 (by decide)).trans ((dg_uf_F e_1931 0 34).trans ((dg_uf_F e_1926 0 34).trans (m_1921.1 0 34 _ sM_0 (by decide)))))).trans f_y_1917), (((dg_uF_ne e_1939 (fun z => absurd z.2 (by decide))).trans ((m_1934.1 0 42 _ sM_0 (by decide)).trans ((dg_uf_F e_1931 0 42).trans ((dg_uf_F e_1926 0 42).trans ((m_1921.1 0 42 _ sM_0 (by decide)).trans ((m_1915.1 0 42 _ sM_0 (by decide)).trans (m_2.1 0 42 _ sM_0 (by decide)))))))).trans f_dp), (((dg_uF_ne e_1939 (fun z => absurd z.2 (by decide))).trans ((m_1934.1 0 45 _ sM_0 (by decide)).trans ((dg_uf_F e_1931 0 45).trans (dg_uf_F e_1926 0 45)))).trans f_y_1923), (dg_uF_at e_1939), ⟨lxh_w_1934_0_3.out, (by omega)⟩⟩, (fun k9 hk9 hk0 => POM.mk0 (P0M.keep (P0M.keep P0_1931 m_1934 (by decide) (by decide) (by decide) (by decide) (by decide) (by decide) (by decide) (by decide) (by decide) (by decide) (by decide) (by decide) (by decide) (by decide) (by decide)) (dg_sm.uF (WF := [(0, 46)]) (WA := []) dg_sm.rf e_1939 sM_0 (by decide)) (by decide) (by decide) (by decide) (by decide) (by decide) (by decide) (by decide) (by decide) (by decide) (by decide) (by decide) (by decide) (by decide) (by decide) (by decide)) (dg_uF_at e_1939) (by omega)), (GOK.ok f_sa (((dg_uF_ne e_1939 (fun z => absurd z.2 (by decide))).trans ((m_1934.1 0 8 _ sM_0 (by decide)).trans ((dg_uf_F e_1931 0 8).trans ((dg_uf_F e_1926 0 8).trans ((m_1921.1 0 8 _ sM_0 (by decide)).trans (m_1915.1 0 8 _ sM_0 (by decide))))))).trans f_y_3) ((dg_uF_ne e_1939 (fun z => absurd z.2 (by decide))).trans f_y_1936) (dg_uF_at e_1939) (by omega) hM0 (TFM.keep (TFM.keep TF_1931 m_1934 (by decide) (by decide) (by decide) (by decide) (by decide) (by decide) (by decide) (by decide)) (dg_sm.uF (WF := [(0, 46)]) (WA := []) dg_sm.rf e_1939 sM_0 (by decide)) (by decide) (by decide) (by decide) (by decide) (by decide) (by decide) (by decide) (by decide)) (m_st_t.trans (m_go_and (m_tst_iff.mpr hts1.out) hnop.out (by omega) hwd.out)) (by omega) (by decide +kernel) (by first | decide +kernel | exact decide_eq_true (by omega))), (TKM.keep TK_1934 (dg_sm.uF (WF := [(0, 46)]) (WA := []) dg_sm.rf e_1939 sM_0 (by decide)) (by decide) (by decide) (by decide) (by decide) (by decide) (by decide) (by decide) (by decide)), (ZWM.keep (ZWM.keep (ZWM.keep (ZWM.keep (ZWM.keep w_1915_3 m_1921 (by decide) (by decide) (by decide) (by decide)) (dg_sm.uf (WF := []) (WA := [23]) dg_sm.rf e_1926 sM_23 (by decide)) (by decide) (by decide) (by decide) (by decide)) (dg_sm.uf (WF := []) (WA := [24]) dg_sm.rf e_1931 sM_24 (by decide)) (by decide) (by decide) (by decide) (by decide)) m_1934 (by decide) (by decide) (by decide) (by decide)) (dg_sm.uF (WF := [(0, 46)]) (WA := []) dg_sm.rf e_1939 sM_0 (by decide)) (by decide) (by decide) (by decide) (by decide)), trivial⟩ dX12_goesOn_399
              · have jc_1913 := dk_neqc (k := 0) (by decide +kernel) c_1913
                have jbc_1913 : 1 ≤ (x_1911).toInt := by omega
                clear jc_1913
                have qw_1912_1 : g_o (T_kd tb tn) (T_vl tb tn) 22 (t_ix tb tn (sa : Int32).toNatClampNeg) = true := (TKM.isw (TKM.keep TK m_2 (by decide) (by decide) (by decide) (by decide) (by decide) (by decide) (by decide) (by decide)) ((m_2.1 0 3 _ sM_0 (by decide)).trans f_sg) ((m_2.1 0 4 _ sM_0 (by decide)).trans f_sa) hk5.out (j := 22) (C := 6385252) (by decide) (by decide +kernel) w_1912_1).mp (by omega)
                obtain ⟨x_1948, f_x_1948⟩ := dg_I.long (i := 0) (k := 7) I_2 sM_0 (by decide +kernel)
                have w_1912_1_r : (sg).toInt = 1 := by obtain ⟨w9, hw9⟩ : ∃ w9, S_2.1 0 7 = .long w9 := ⟨_, f_x_1948⟩; exact ((w_1912_1 w9 hw9).mp (by omega)).1
                clear w_1912_1
                have hlx_2r := hlx_2 (by omega)
                clear hlx_2
                refine lv_iconst (v := 2) hx hb dX12_goesOn_351 (by decide +kernel) ?_
                refine lv_goto (tgt := 356) hx hb dX12_goesOn_352 (by decide) ?_
                have hz_1949 : (2 : Int32).toInt = 2 := by decide +kernel
                refine dg_callv hS hA1 hA (va_runV (As := [.int 2]) (rest := []) F (c_m_joins l g D o S_2 2 (by decide +kernel) cd ((m_2.1 0 34 _ sM_0 (by decide)).trans f_cd) (by omega) om ((m_2.1 0 45 _ sM_0 (by decide)).trans f_om) (by omega) (by omega) (ZWM.keep ZW m_2 (by decide) (by decide) (by decide) (by decide)) (ZKM.keep ZK m_2 (by decide) (by decide)) (P1M.keep P1 m_2 (by decide) (by decide) (by decide) (by decide) (by decide) (by decide) (by decide) (by decide) (by decide) (by decide) (by decide) (by decide) (by decide) (by decide) (by decide)) I_2 H.size) (cwV 1 hts (bw_V wB_437 wB_438 wB_439 wB_297 wB_436) rfl rfl rfl (by decide +kernel) ⟨Nat.le_of_ble_eq_true rfl, Nat.le_of_ble_eq_true rfl⟩) (dg_preV sM_0 rfl K ST hP hS hA1 hA) rfl rfl hl.1 rfl (lv_room (Nat.le_of_ble_eq_true rfl)) dX12_goesOn_356 ⟨Nat.le_of_ble_eq_true rfl, Nat.le_of_ble_eq_true rfl⟩) (fun S_1950 hw_1950 H locs hP hS => ?_)
                obtain ⟨I_1950, m_1950, w_1950_0, w_1950_1, w_1950_2, w_1950_3, w_1950_4, -⟩ := hw_1950
                have M_1950 := dg_sm.tr M_2 m_1950 (by decide) (by decide)
                have hz_1951 : (2 : Int32).toInt = 2 := by decide +kernel
                obtain ⟨y_1952, y_1953, f_y_1952, f_y_1953, w_1950_0⟩ := w_1950_0
                have w_1950_0 : (y_1952).toInt + (y_1953).toInt = (cd).toInt + (om).toInt := w_1950_0
                have b_y_1952 : 0 ≤ (y_1952).toInt ∧ (y_1952).toInt ≤ 1600 := dg_I.intb (lo := 0) (hi := 1600) I_1950 sM_0 (by decide +kernel) f_y_1952
                have b_y_1953 : 0 ≤ (y_1953).toInt ∧ (y_1953).toInt ≤ 500 := dg_I.intb (lo := 0) (hi := 500) I_1950 sM_0 (by decide +kernel) f_y_1953
                replace w_1950_1 : TOPM S_1950 (2 : Int32) := w_1950_1
                obtain ⟨x_1954, f_x_1954, b_x_1954⟩ := dg_I.int (i := 0) (k := 43) (lo := (-2147483648)) (hi := 2147483647) I_1950 sM_0 (by decide +kernel)
                replace w_1950_2 : JNM S_2 S_1950 (2 : Int32) := w_1950_2
                have TF_1950 : TFM (x_7).toInt (x_11).toInt bg0 0 R0 ((on).toNatClampNeg - nt0) S_1950 := (TFM.join TF0 (P1M.keep P1 m_2 (by decide) (by decide) (by decide) (by decide) (by decide) (by decide) (by decide) (by decide) (by decide) (by decide) (by decide) (by decide) (by decide) (by decide) (by decide)) ((m_2.1 0 42 _ sM_0 (by decide)).trans f_dp) ((m_2.1 0 43 _ sM_0 (by decide)).trans f_on) ((m_2.1 0 45 _ sM_0 (by decide)).trans f_om) w_1950_2 w_1950_1 m_1950 (by decide) (by decide) (by decide) (by decide) (by decide) (by decide)).2 (by decide +kernel) (by decide +kernel)
                have hdm_1954 := PSM.dims w_1950_4 (((m_1950.1 0 42 _ sM_0 (by decide)).trans (m_2.1 0 42 _ sM_0 (by decide))).trans f_dp) f_x_1954 f_y_1953
                refine lv_aload_n hx hb dX12_goesOn_359 rfl (lv_at hl 4 rfl) ?_
                refine lv_iload hx hb dX12_goesOn_360 (lv_at hl 0 rfl) ?_
                refine lv_if_eq (tgt := 370) hx hb dX12_goesOn_362 (by decide) (fun c => absurd c (fun z => absurd (dk_eqc (k := 0) (by decide +kernel) z) (by omega))) (fun _ => ?_)
                refine lv_bipush (v := 41) hx hb dX12_goesOn_365 (by decide +kernel) ?_
                refine lv_goto (tgt := 372) hx hb dX12_goesOn_367 (by decide) ?_
                refine dg_callv hS hA1 hA (va_runV (As := [.int 41]) (rest := []) F (c_m_holdsBack l g D o S_1950 41 y_1953 f_y_1953 (by omega) I_1950 H.size) (cwV 1 hts (bw_V wB_427 wB_428 wB_429 wB_297 wB_426) rfl rfl rfl (by decide +kernel) ⟨Nat.le_of_ble_eq_true rfl, Nat.le_of_ble_eq_true rfl⟩) (dg_preV sM_0 rfl K ST hP hS hA1 hA) rfl rfl hl.1 rfl (lv_room (Nat.le_of_ble_eq_true rfl)) dX12_goesOn_372 ⟨Nat.le_of_ble_eq_true rfl, Nat.le_of_ble_eq_true rfl⟩) (fun S_1956 hw_1956 H locs hP hS => ?_)
                obtain ⟨I_1956, m_1956, w_1956_0, w_1956_1, -⟩ := hw_1956
                have M_1956 := dg_sm.tr M_1950 m_1956 (by decide) (by decide)
                have hz_1957 : (41 : Int32).toInt = 41 := by decide +kernel
                obtain ⟨y_1958, f_y_1958, w_1956_0⟩ := w_1956_0
                have w_1956_0 : (y_1958).toInt = (y_1953).toInt + 1 := w_1956_0
                have b_y_1958 : 0 ≤ (y_1958).toInt ∧ (y_1958).toInt ≤ 500 := dg_I.intb (lo := 0) (hi := 500) I_1956 sM_0 (by decide +kernel) f_y_1958
                replace w_1956_1 : HBM S_1950 S_1956 (41 : Int32) := w_1956_1
                have hz_1959 : (41 : Int32).toInt = 41 := by decide +kernel
                have TF_1956 : TFM (x_7).toInt (x_11).toInt bg0 0 R0 ((on).toNatClampNeg - nt0) S_1956 := (by have h9 := TFM.hb TF_1950 (((m_1950.1 0 42 _ sM_0 (by decide)).trans (m_2.1 0 42 _ sM_0 (by decide))).trans f_dp) f_x_1954 f_y_1953 (by omega) m_1956 w_1956_1; rw [if_neg (by omega)] at h9; exact h9)
                refine lv_aload_n hx hb dX12_goesOn_375 rfl (lv_at hl 4 rfl) ?_
                refine dg_get (C := RX12) (T := TX12) (N := 77) hx hb hts (fun w h => bw_mem (wU_X12 w h)) hown K hP sM_0 rfl 38 (by decide) (hts _ (bw_mem wB_417)) (fun _ h9 => h9) (v := .ref (o + 23)) (show S_1956.1 0 38 = .ref (o + 23) from dg_I.rel (d := 23) I_1956 sM_0 (by decide +kernel)) dX12_goesOn_376 ?_
                refine lv_iload_n hx hb dX12_goesOn_379 rfl (lv_at hl 3 rfl) ?_
                refine lv_iconst (v := 0) hx hb dX12_goesOn_380 (by decide +kernel) ?_
                have hin_1960 : vp_in x_5 20 := (dk_inv (by omega) (by omega))
                have hz_1962 : (0 : Int32).toInt = 0 := by decide +kernel
                refine dg_iast hx hb K hP hS hA1 sM_23 hin_1960 dX12_goesOn_381 (fun S_1961 e_1961 H locs hP hS => ?_)
                have I_1961 := dg_I.ufu (lo := 0) (hi := 2) I_1956 e_1961 sM_23 (by decide +kernel) (show 0 ≤ ((0 : Int32)).toInt ∧ ((0 : Int32)).toInt ≤ 2 from (by decide +kernel))
                have M_1961 := dg_sm.uf M_1956 e_1961 sM_23 (by decide)
                have hz_1963 : (0 : Int32).toInt = 0 := by decide +kernel
                have hz_1964 : (0 : Int32).toInt = 0 := by decide +kernel
                have TF_1961 : TFM (x_7).toInt 0 bg0 0 R0 ((on).toNatClampNeg - nt0) S_1961 := (by have h9 := (TFM.ph' TF_1956 (((m_1956.1 0 42 _ sM_0 (by decide)).trans ((m_1950.1 0 42 _ sM_0 (by decide)).trans (m_2.1 0 42 _ sM_0 (by decide)))).trans f_dp) ((m_1956.1 0 43 _ sM_0 (by decide)).trans f_x_1954) f_y_1958 (fx := x_5) (by omega) (by omega) e_1961); rw [show (0 : Int32).toInt = 0 from by decide +kernel] at h9; exact h9)
                refine lv_aload_n hx hb dX12_goesOn_382 rfl (lv_at hl 4 rfl) ?_
                refine dg_get (C := RX12) (T := TX12) (N := 77) hx hb hts (fun w h => bw_mem (wU_X12 w h)) hown K hP sM_0 rfl 39 (by decide) (hts _ (bw_mem wB_418)) (fun _ h9 => h9) (v := .ref (o + 24)) (show S_1961.1 0 39 = .ref (o + 24) from dg_I.rel (d := 24) I_1961 sM_0 (by decide +kernel)) dX12_goesOn_383 ?_
                refine lv_iload_n hx hb dX12_goesOn_386 rfl (lv_at hl 3 rfl) ?_
                refine lv_iconst (v := 1) hx hb dX12_goesOn_387 (by decide +kernel) ?_
                have hin_1965 : vp_in x_5 20 := (dk_inv (by omega) (by omega))
                have hz_1967 : (1 : Int32).toInt = 1 := by decide +kernel
                refine dg_zast hx hb K hP hS hA1 sM_24 hin_1965 (by decide +kernel) dX12_goesOn_388 (fun S_1966 e_1966 H locs hP hS => ?_)
                have I_1966 := dg_I.ufu (lo := 0) (hi := 1) I_1961 e_1966 sM_24 (by decide +kernel) (show 0 ≤ ((1 : Int32)).toInt ∧ ((1 : Int32)).toInt ≤ 1 from (by decide +kernel))
                have M_1966 := dg_sm.uf M_1961 e_1966 sM_24 (by decide)
                have P0_1966 : P0M S_1966 := P1M.andor w_1950_4 (((m_1950.1 0 42 _ sM_0 (by decide)).trans (m_2.1 0 42 _ sM_0 (by decide))).trans f_dp) f_x_1954 f_y_1953 w_1950_1 m_1956 w_1956_1 (by omega) (fx := x_5) (by omega) e_1961 e_1966
                have hz_1968 : (1 : Int32).toInt = 1 := by decide +kernel
                have TF_1966 : TFM (x_7).toInt 0 true 0 R0 ((on).toNatClampNeg - nt0) S_1966 := (by have h9 := (TFM.bg' TF_1961 (((dg_uf_F e_1961 0 42).trans ((m_1956.1 0 42 _ sM_0 (by decide)).trans ((m_1950.1 0 42 _ sM_0 (by decide)).trans (m_2.1 0 42 _ sM_0 (by decide))))).trans f_dp) (((dg_uf_F e_1961 0 43).trans (m_1956.1 0 43 _ sM_0 (by decide))).trans f_x_1954) ((dg_uf_F e_1961 0 45).trans f_y_1958) (fx := x_5) (by omega) (by omega) e_1966); rw [show decide ((1 : Int32).toInt = 1) = true from by decide +kernel] at h9; exact h9)
                refine lv_aload_n hx hb dX12_goesOn_389 rfl (lv_at hl 4 rfl) ?_
                refine dg_callv hS hA1 hA (va_runV (As := []) (rest := []) F (c_m_ahead l g D o S_1966 tb tn se (((dg_uf_F e_1966 0 5).trans ((dg_uf_F e_1961 0 5).trans ((m_1956.1 0 5 _ sM_0 (by decide)).trans ((m_1950.1 0 5 _ sM_0 (by decide)).trans (m_2.1 0 5 _ sM_0 (by decide)))))).trans f_se) (by omega) sl (((dg_uf_F e_1966 0 2).trans ((dg_uf_F e_1961 0 2).trans ((m_1956.1 0 2 _ sM_0 (by decide)).trans ((m_1950.1 0 2 _ sM_0 (by decide)).trans (m_2.1 0 2 _ sM_0 (by decide)))))).trans f_sl) (by omega) (by omega) (TKM.keep (TKM.keep (TKM.keep (TKM.keep (TKM.keep TK m_2 (by decide) (by decide) (by decide) (by decide) (by decide) (by decide) (by decide) (by decide)) m_1950 (by decide) (by decide) (by decide) (by decide) (by decide) (by decide) (by decide) (by decide)) m_1956 (by decide) (by decide) (by decide) (by decide) (by decide) (by decide) (by decide) (by decide)) (dg_sm.uf (WF := []) (WA := [23]) dg_sm.rf e_1961 sM_23 (by decide)) (by decide) (by decide) (by decide) (by decide) (by decide) (by decide) (by decide) (by decide)) (dg_sm.uf (WF := []) (WA := [24]) dg_sm.rf e_1966 sM_24 (by decide)) (by decide) (by decide) (by decide) (by decide) (by decide) (by decide) (by decide) (by decide)).1 I_1966 H.size) (cwV 0 hts (bw_V wB_318 wB_319 wB_320 wB_297 wB_317) rfl rfl rfl (by decide +kernel) ⟨Nat.le_of_ble_eq_true rfl, Nat.le_of_ble_eq_true rfl⟩) (dg_preV sM_0 rfl K ST hP hS hA1 hA) rfl rfl hl.1 rfl (lv_room (Nat.le_of_ble_eq_true rfl)) dX12_goesOn_390 ⟨Nat.le_of_ble_eq_true rfl, Nat.le_of_ble_eq_true rfl⟩) (fun S_1969 hw_1969 H locs hP hS => ?_)
                obtain ⟨I_1969, m_1969, w_1969_0, w_1969_1, -⟩ := hw_1969
                have M_1969 := dg_sm.tr M_1966 m_1969 (by decide) (by decide)
                obtain ⟨y_1970, y_1971, y_1972, f_y_1970, f_y_1971, f_y_1972, w_1969_0⟩ := w_1969_0
                have w_1969_0 : (se).toInt ≤ (y_1971).toInt ∧ (y_1971).toInt ≤ (y_1972).toInt ∧ (y_1972).toInt ≤ (sl).toInt ∧ ((y_1970).toInt ≠ 0 → (y_1971).toInt + 1 ≤ (y_1972).toInt) := w_1969_0
                obtain ⟨w_1969_0_0, w_1969_0_1, w_1969_0_2, w_1969_0_3⟩ := w_1969_0
                have lxh_w_1969_0_3 : m_hid ((y_1971).toInt ≤ (y_1972).toInt ∧ (y_1972).toInt ≤ (sl).toInt ∧ ((y_1970).toInt ≠ 0 → (y_1971).toInt + 1 ≤ (y_1972).toInt)) := m_hid.mk ⟨w_1969_0_1, w_1969_0_2, w_1969_0_3⟩
                have b_y_1970 : 0 ≤ (y_1970).toInt ∧ (y_1970).toInt ≤ 3 := dg_I.intb (lo := 0) (hi := 3) I_1969 sM_0 (by decide +kernel) f_y_1970
                have b_y_1971 : 0 ≤ (y_1971).toInt ∧ (y_1971).toInt ≤ 1600 := dg_I.intb (lo := 0) (hi := 1600) I_1969 sM_0 (by decide +kernel) f_y_1971
                have b_y_1972 : 0 ≤ (y_1972).toInt ∧ (y_1972).toInt ≤ 1600 := dg_I.intb (lo := 0) (hi := 1600) I_1969 sM_0 (by decide +kernel) f_y_1972
                replace w_1969_1 : TNX tb tn se S_1969 := w_1969_1
                obtain ⟨TK_1969, nx_1969, -⟩ := TKM.nx (TKM.keep (TKM.keep (TKM.keep (TKM.keep (TKM.keep TK m_2 (by decide) (by decide) (by decide) (by decide) (by decide) (by decide) (by decide) (by decide)) m_1950 (by decide) (by decide) (by decide) (by decide) (by decide) (by decide) (by decide) (by decide)) m_1956 (by decide) (by decide) (by decide) (by decide) (by decide) (by decide) (by decide) (by decide)) (dg_sm.uf (WF := []) (WA := [23]) dg_sm.rf e_1961 sM_23 (by decide)) (by decide) (by decide) (by decide) (by decide) (by decide) (by decide) (by decide) (by decide)) (dg_sm.uf (WF := []) (WA := [24]) dg_sm.rf e_1966 sM_24 (by decide)) (by decide) (by decide) (by decide) (by decide) (by decide) (by decide) (by decide) (by decide)) (((dg_uf_F e_1966 0 4).trans ((dg_uf_F e_1961 0 4).trans ((m_1956.1 0 4 _ sM_0 (by decide)).trans ((m_1950.1 0 4 _ sM_0 (by decide)).trans (m_2.1 0 4 _ sM_0 (by decide)))))).trans f_sa) (((dg_uf_F e_1966 0 5).trans ((dg_uf_F e_1961 0 5).trans ((m_1956.1 0 5 _ sM_0 (by decide)).trans ((m_1950.1 0 5 _ sM_0 (by decide)).trans (m_2.1 0 5 _ sM_0 (by decide)))))).trans f_se) w_1969_1 m_1969 (by decide) (by decide) f_y_1971
                replace nx_1969 := nx_1969 (fun q9 => absurd ((TKM.zero (TKM.keep (TKM.keep (TKM.keep (TKM.keep (TKM.keep TK m_2 (by decide) (by decide) (by decide) (by decide) (by decide) (by decide) (by decide) (by decide)) m_1950 (by decide) (by decide) (by decide) (by decide) (by decide) (by decide) (by decide) (by decide)) m_1956 (by decide) (by decide) (by decide) (by decide) (by decide) (by decide) (by decide) (by decide)) (dg_sm.uf (WF := []) (WA := [23]) dg_sm.rf e_1961 sM_23 (by decide)) (by decide) (by decide) (by decide) (by decide) (by decide) (by decide) (by decide) (by decide)) (dg_sm.uf (WF := []) (WA := [24]) dg_sm.rf e_1966 sM_24 (by decide)) (by decide) (by decide) (by decide) (by decide) (by decide) (by decide) (by decide) (by decide)) (((dg_uf_F e_1966 0 3).trans ((dg_uf_F e_1961 0 3).trans ((m_1956.1 0 3 _ sM_0 (by decide)).trans ((m_1950.1 0 3 _ sM_0 (by decide)).trans (m_2.1 0 3 _ sM_0 (by decide)))))).trans f_sg) (((dg_uf_F e_1966 0 4).trans ((dg_uf_F e_1961 0 4).trans ((m_1956.1 0 4 _ sM_0 (by decide)).trans ((m_1950.1 0 4 _ sM_0 (by decide)).trans (m_2.1 0 4 _ sM_0 (by decide)))))).trans f_sa)).mpr q9) (by omega))
                refine lv_aload_n hx hb dX12_goesOn_393 rfl (lv_at hl 4 rfl) ?_
                refine lv_iconst (v := 0) hx hb dX12_goesOn_394 (by decide +kernel) ?_
                have hz_1973 : (0 : Int32).toInt = 0 := by decide +kernel
                refine dg_put (ci := 12) (v := .int 0) (ty := tyX12 46) (C := RX12) (T := TX12) (N := 77) hx hb hts (fun w h => bw_mem (wU_X12 w h)) tyX12 tyX12_ok nmX12 hown K hP hS hA1 sM_0 rfl 46 (by decide) (hts _ (bw_mem wB_440)) (fun _ h9 => h9) rfl (by decide +kernel) (by decide +kernel) (by decide +kernel) dX12_goesOn_395 (fun S_1974 e_1974 H locs hP hS => ?_)
                have I_1974 := dg_I.uFi (lo := 0) (hi := 1) I_1969 e_1974 sM_0 (by decide +kernel) (show 0 ≤ ((0 : Int32)).toInt ∧ ((0 : Int32)).toInt ≤ 1 from (by decide +kernel))
                have M_1974 := dg_sm.uF M_1969 e_1974 sM_0 (by decide)
                refine lv_iconst (v := 1) hx hb dX12_goesOn_398 (by decide +kernel) ?_
                have hz_1975 : (1 : Int32).toInt = 1 := by decide +kernel
                have hz_1976 : (1 : Int32).toInt = 1 := by decide +kernel
                have hz_1977 : (0 : Int32).toInt = 0 := by decide +kernel
                have hz_1978 : (1 : Int32).toInt = 1 := by decide +kernel
                have hz_1979 : (0 : Int32).toInt = 0 := by decide +kernel
                have hz_1980 : (1 : Int32).toInt = 1 := by decide +kernel
                have hz_1981 : (1 : Int32).toInt = 1 := by decide +kernel
                have hz_1982 : (0 : Int32).toInt = 0 := by decide +kernel
                refine W.widen (k := 0) (n := 0) (Nat.le_of_ble_eq_true rfl) (Nat.le_of_ble_eq_true rfl) ?_
                rw [hQ9]
                exact dg_iret hx hb hr hlocks (by decide +kernel) hP hS ⟨I_1974, M_1974, (by decide +kernel), ⟨y_1970, y_1971, y_1972, y_3, y_1952, dp, y_1958, 0, ((dg_uF_ne e_1974 (fun z => absurd z.2 (by decide))).trans f_y_1970), ((dg_uF_ne e_1974 (fun z => absurd z.2 (by decide))).trans f_y_1971), ((dg_uF_ne e_1974 (fun z => absurd z.2 (by decide))).trans f_y_1972), (((dg_uF_ne e_1974 (fun z => absurd z.2 (by decide))).trans ((m_1969.1 0 8 _ sM_0 (by decide)).trans ((dg_uf_F e_1966 0 8).trans ((dg_uf_F e_1961 0 8).trans ((m_1956.1 0 8 _ sM_0 (by decide)).trans (m_1950.1 0 8 _ sM_0 (by decide))))))).trans f_y_3), (((dg_uF_ne e_1974 (fun z => absurd z.2 (by decide))).trans ((m_1969.1 0 34 _ sM_0 (by decide)).trans ((dg_uf_F e_1966 0 34).trans ((dg_uf_F e_1961 0 34).trans (m_1956.1 0 34 _ sM_0 (by decide)))))).trans f_y_1952), (((dg_uF_ne e_1974 (fun z => absurd z.2 (by decide))).trans ((m_1969.1 0 42 _ sM_0 (by decide)).trans ((dg_uf_F e_1966 0 42).trans ((dg_uf_F e_1961 0 42).trans ((m_1956.1 0 42 _ sM_0 (by decide)).trans ((m_1950.1 0 42 _ sM_0 (by decide)).trans (m_2.1 0 42 _ sM_0 (by decide)))))))).trans f_dp), (((dg_uF_ne e_1974 (fun z => absurd z.2 (by decide))).trans ((m_1969.1 0 45 _ sM_0 (by decide)).trans ((dg_uf_F e_1966 0 45).trans (dg_uf_F e_1961 0 45)))).trans f_y_1958), (dg_uF_at e_1974), ⟨lxh_w_1969_0_3.out, (by omega)⟩⟩, (fun k9 hk9 hk0 => POM.mk0 (P0M.keep (P0M.keep P0_1966 m_1969 (by decide) (by decide) (by decide) (by decide) (by decide) (by decide) (by decide) (by decide) (by decide) (by decide) (by decide) (by decide) (by decide) (by decide) (by decide)) (dg_sm.uF (WF := [(0, 46)]) (WA := []) dg_sm.rf e_1974 sM_0 (by decide)) (by decide) (by decide) (by decide) (by decide) (by decide) (by decide) (by decide) (by decide) (by decide) (by decide) (by decide) (by decide) (by decide) (by decide) (by decide)) (dg_uF_at e_1974) (by omega)), (GOK.ok f_sa (((dg_uF_ne e_1974 (fun z => absurd z.2 (by decide))).trans ((m_1969.1 0 8 _ sM_0 (by decide)).trans ((dg_uf_F e_1966 0 8).trans ((dg_uf_F e_1961 0 8).trans ((m_1956.1 0 8 _ sM_0 (by decide)).trans (m_1950.1 0 8 _ sM_0 (by decide))))))).trans f_y_3) ((dg_uF_ne e_1974 (fun z => absurd z.2 (by decide))).trans f_y_1971) (dg_uF_at e_1974) (by omega) hM0 (TFM.keep (TFM.keep TF_1966 m_1969 (by decide) (by decide) (by decide) (by decide) (by decide) (by decide) (by decide) (by decide)) (dg_sm.uF (WF := [(0, 46)]) (WA := []) dg_sm.rf e_1974 sM_0 (by decide)) (by decide) (by decide) (by decide) (by decide) (by decide) (by decide) (by decide) (by decide)) (m_st_t.trans (m_go_and (m_tst_iff.mpr hts1.out) hnop.out (by omega) hwd.out)) (by omega) (by decide +kernel) (by first | decide +kernel | exact decide_eq_true (by omega))), (TKM.keep TK_1969 (dg_sm.uF (WF := [(0, 46)]) (WA := []) dg_sm.rf e_1974 sM_0 (by decide)) (by decide) (by decide) (by decide) (by decide) (by decide) (by decide) (by decide) (by decide)), (ZWM.keep (ZWM.keep (ZWM.keep (ZWM.keep (ZWM.keep w_1950_3 m_1956 (by decide) (by decide) (by decide) (by decide)) (dg_sm.uf (WF := []) (WA := [23]) dg_sm.rf e_1961 sM_23 (by decide)) (by decide) (by decide) (by decide) (by decide)) (dg_sm.uf (WF := []) (WA := [24]) dg_sm.rf e_1966 sM_24 (by decide)) (by decide) (by decide) (by decide) (by decide)) m_1969 (by decide) (by decide) (by decide) (by decide)) (dg_sm.uF (WF := [(0, 46)]) (WA := []) dg_sm.rf e_1974 sM_0 (by decide)) (by decide) (by decide) (by decide) (by decide)), trivial⟩ dX12_goesOn_399
            · have jc_1910 := dk_eqc (k := 0) (by decide +kernel) c_1910
              refine lv_aload_n hx hb dX12_goesOn_318 rfl (lv_at hl 3 rfl) ?_
              refine lv_iconst (v := 1) hx hb dX12_goesOn_319 (by decide +kernel) ?_
              refine lv_aload_n hx hb dX12_goesOn_320 rfl (lv_at hl 3 rfl) ?_
              refine dg_get (C := RX12) (T := TX12) (N := 77) hx hb hts (fun w h => bw_mem (wU_X12 w h)) hown K hP sM_0 rfl 4 (by decide) (hts _ (bw_mem wB_291)) (fun _ h9 => h9) (v := .int sa) ((m_2.1 0 4 _ sM_0 (by decide)).trans f_sa) dX12_goesOn_321 ?_
              have hz_1983 : (1 : Int32).toInt = 1 := by decide +kernel
              refine dg_callv hS hA1 hA (va_runV (As := [.int 1, .int sa]) (rest := []) F (c_m_blame l g D o S_2 1 (by decide +kernel) sa y_3 f_y_3 (by omega) I_2 H.size) (cwV 2 hts (bw_V wB_306 wB_307 wB_308 wB_297 wB_305) rfl rfl rfl (by decide +kernel) ⟨Nat.le_of_ble_eq_true rfl, Nat.le_of_ble_eq_true rfl⟩) (dg_preV sM_0 rfl K ST hP hS hA1 hA) rfl rfl hl.1 rfl (lv_room (Nat.le_of_ble_eq_true rfl)) dX12_goesOn_324 ⟨Nat.le_of_ble_eq_true rfl, Nat.le_of_ble_eq_true rfl⟩) (fun S_1984 hw_1984 H locs hP hS => ?_)
              obtain ⟨I_1984, m_1984, w_1984_0, -⟩ := hw_1984
              have M_1984 := dg_sm.tr M_2 m_1984 (by decide) (by decide)
              have hz_1985 : (1 : Int32).toInt = 1 := by decide +kernel
              obtain ⟨y_1986, f_y_1986, w_1984_0⟩ := w_1984_0
              have w_1984_0 : ((y_3).toInt ≠ 0 → (y_1986).toInt = (y_3).toInt) ∧ ((y_3).toInt = 0 → (y_1986).toInt = ((1 : Int32)).toInt) := w_1984_0
              obtain ⟨w_1984_0_0, w_1984_0_1⟩ := w_1984_0
              clear w_1984_0_0
              have w_1984_0_1r := w_1984_0_1 (by omega)
              clear w_1984_0_1
              have b_y_1986 : 0 ≤ (y_1986).toInt ∧ (y_1986).toInt ≤ 6 := dg_I.intb (lo := 0) (hi := 6) I_1984 sM_0 (by decide +kernel) f_y_1986
              have hbl_y_1986 : 1 ≤ (y_1986).toInt := by omega
              refine lv_aload_n hx hb dX12_goesOn_327 rfl (lv_at hl 3 rfl) ?_
              refine dg_get (C := RX12) (T := TX12) (N := 77) hx hb hts (fun w h => bw_mem (wU_X12 w h)) hown K hP sM_0 rfl 8 (by decide) (hts _ (bw_mem wB_303)) (fun _ h9 => h9) (v := .int y_1986) f_y_1986 dX12_goesOn_328 ?_
              refine lv_if_le (tgt := 336) hx hb dX12_goesOn_331 (by decide) (fun c => absurd c (fun z => absurd (dk_lec (k := 0) (by decide +kernel) z) (by omega))) (fun _ => ?_)
              refine lv_iconst (v := 0) hx hb dX12_goesOn_334 (by decide +kernel) ?_
              have hz_1987 : (0 : Int32).toInt = 0 := by decide +kernel
              have hz_1988 : (0 : Int32).toInt = 0 := by decide +kernel
              have hz_1989 : (0 : Int32).toInt = 0 := by decide +kernel
              have hz_1990 : (0 : Int32).toInt = 0 := by decide +kernel
              have hz_1991 : (0 : Int32).toInt = 0 := by decide +kernel
              refine W.widen (k := 0) (n := 0) (Nat.le_of_ble_eq_true rfl) (Nat.le_of_ble_eq_true rfl) ?_
              rw [hQ9]
              exact dg_iret hx hb hr hlocks (by decide +kernel) hP hS ⟨I_1984, M_1984, (by decide +kernel), ⟨sg, sa, se, y_1986, cd, dp, om, oo, (((m_1984.1 0 3 _ sM_0 (by decide)).trans (m_2.1 0 3 _ sM_0 (by decide))).trans f_sg), (((m_1984.1 0 4 _ sM_0 (by decide)).trans (m_2.1 0 4 _ sM_0 (by decide))).trans f_sa), (((m_1984.1 0 5 _ sM_0 (by decide)).trans (m_2.1 0 5 _ sM_0 (by decide))).trans f_se), f_y_1986, (((m_1984.1 0 34 _ sM_0 (by decide)).trans (m_2.1 0 34 _ sM_0 (by decide))).trans f_cd), (((m_1984.1 0 42 _ sM_0 (by decide)).trans (m_2.1 0 42 _ sM_0 (by decide))).trans f_dp), (((m_1984.1 0 45 _ sM_0 (by decide)).trans (m_2.1 0 45 _ sM_0 (by decide))).trans f_om), (((m_1984.1 0 46 _ sM_0 (by decide)).trans (m_2.1 0 46 _ sM_0 (by decide))).trans f_oo), ⟨lxh_hlx_2.out, (by omega)⟩⟩, (fun k9 hk9 hk0 => by have q9 := (f_y_1986).symm.trans hk9; cases q9; omega), (GOK.no f_sa f_fk f_y_1986 (by omega) (fun h0 => Or.inl (by rw [hM0]; exact m_st_t.trans (m_go_bad hnop.out (Or.inl ⟨(m_tst_iff.mpr hts1.out), by omega, by rcases hwd.out with q9 | q9 <;> exact g_co_w q9⟩))))), (TKM.keep (TKM.keep TK m_2 (by decide) (by decide) (by decide) (by decide) (by decide) (by decide) (by decide) (by decide)) m_1984 (by decide) (by decide) (by decide) (by decide) (by decide) (by decide) (by decide) (by decide)), (ZWM.keep (ZWM.keep ZW m_2 (by decide) (by decide) (by decide) (by decide)) m_1984 (by decide) (by decide) (by decide) (by decide)), trivial⟩ dX12_goesOn_335
          refine lv_if_ne (tgt := 309) hx hb dX12_goesOn_296 (by decide) (fun c_1992 => ?_) (fun c_1992 => ?_)
          · have jc_1992 := dk_neqc (k := 0) (by decide +kernel) c_1992
            have jbc_1992 : 1 ≤ (x_1815).toInt := by omega
            clear jc_1992
            have qw_1816_1 : g_o (T_kd tb tn) (T_vl tb tn) 22 (t_ix tb tn (sa : Int32).toNatClampNeg) = true := (TKM.isw (TKM.keep TK m_2 (by decide) (by decide) (by decide) (by decide) (by decide) (by decide) (by decide) (by decide)) ((m_2.1 0 3 _ sM_0 (by decide)).trans f_sg) ((m_2.1 0 4 _ sM_0 (by decide)).trans f_sa) hk5.out (j := 22) (C := 6385252) (by decide) (by decide +kernel) w_1816_1).mp (by omega)
            obtain ⟨x_1993, f_x_1993⟩ := dg_I.long (i := 0) (k := 7) I_2 sM_0 (by decide +kernel)
            have w_1816_1_r : (sg).toInt = 1 := by obtain ⟨w9, hw9⟩ : ∃ w9, S_2.1 0 7 = .long w9 := ⟨_, f_x_1993⟩; exact ((w_1816_1 w9 hw9).mp (by omega)).1
            clear w_1816_1
            have hlx_2r := hlx_2 (by omega)
            clear hlx_2
            exact J_1907 ()  (by omega) (m_hid.mk (Or.inl qw_1816_1)) _ _ hP hS _ (lv_sub hl [0, 1, 2, 3] rfl)
          · have jc_1992 := dk_eqc (k := 0) (by decide +kernel) c_1992
            have qw_1816_1 : g_o (T_kd tb tn) (T_vl tb tn) 22 (t_ix tb tn (sa : Int32).toNatClampNeg) = false := g_iff_f (TKM.isw (TKM.keep TK m_2 (by decide) (by decide) (by decide) (by decide) (by decide) (by decide) (by decide) (by decide)) ((m_2.1 0 3 _ sM_0 (by decide)).trans f_sg) ((m_2.1 0 4 _ sM_0 (by decide)).trans f_sa) hk5.out (j := 22) (C := 6385252) (by decide) (by decide +kernel) w_1816_1) (by omega)
            clear w_1816_1
            refine lv_aload_n hx hb dX12_goesOn_299 rfl (lv_at hl 3 rfl) ?_
            refine lv_ldc2 hx hb hown (hts _ (bw_mem wB_346)) dX12_goesOn_300 ?_
            refine dg_calli hS hA1 hA (va_runV (As := [.long 28530]) (rest := []) F (c_m_isWord l g D o S_2 28530 sg ((m_2.1 0 3 _ sM_0 (by decide)).trans f_sg) (by omega) I_2 H.size) (cwV 1 hts (bw_V wB_322 wB_323 wB_324 wB_297 wB_321) rfl rfl rfl (by decide +kernel) ⟨Nat.le_of_ble_eq_true rfl, Nat.le_of_ble_eq_true rfl⟩) (dg_preV sM_0 rfl K ST hP hS hA1 hA) rfl rfl hl.1 rfl (lv_room (Nat.le_of_ble_eq_true rfl)) dX12_goesOn_303 ⟨Nat.le_of_ble_eq_true rfl, Nat.le_of_ble_eq_true rfl⟩) (fun x_1994 S_1995 hw_1995 H locs hP hS => ?_)
            rw [hw_1995.1] at hP
            obtain ⟨hq_1995, w_1995_0, w_1995_1, -⟩ := hw_1995
            try rw [hq_1995] at w_1995_1
            have w_1995_0 : 0 ≤ (x_1994).toInt ∧ (x_1994).toInt ≤ 1 := w_1995_0
            replace w_1995_1 : ∀ w9 : Int64, S_2.1 0 7 = .long w9 → ((x_1994).toInt = 1 ↔ ((sg).toInt = 1 ∧ w9.toInt = ((28530 : Int64)).toInt)) := w_1995_1
            refine lv_if_eq (tgt := 400) hx hb dX12_goesOn_306 (by decide) (fun c_1996 => ?_) (fun c_1996 => ?_)
            · have jc_1996 := dk_eqc (k := 0) (by decide +kernel) c_1996
              have qw_1995_1 : g_o (T_kd tb tn) (T_vl tb tn) 21 (t_ix tb tn (sa : Int32).toNatClampNeg) = false := g_iff_f (TKM.isw (TKM.keep TK m_2 (by decide) (by decide) (by decide) (by decide) (by decide) (by decide) (by decide) (by decide)) ((m_2.1 0 3 _ sM_0 (by decide)).trans f_sg) ((m_2.1 0 4 _ sM_0 (by decide)).trans f_sa) hk5.out (j := 21) (C := 28530) (by decide) (by decide +kernel) w_1995_1) (by omega)
              clear w_1995_1
              exact J_1133 ()  (m_hid.mk (fun _ => ⟨qw_1816_1, qw_1995_1⟩)) _ _ hP hS _ (lv_sub hl [0, 1, 2, 3] rfl)
            · have jc_1996 := dk_neqc (k := 0) (by decide +kernel) c_1996
              have jbc_1996 : 1 ≤ (x_1994).toInt := by omega
              clear jc_1996
              have qw_1995_1 : g_o (T_kd tb tn) (T_vl tb tn) 21 (t_ix tb tn (sa : Int32).toNatClampNeg) = true := (TKM.isw (TKM.keep TK m_2 (by decide) (by decide) (by decide) (by decide) (by decide) (by decide) (by decide) (by decide)) ((m_2.1 0 3 _ sM_0 (by decide)).trans f_sg) ((m_2.1 0 4 _ sM_0 (by decide)).trans f_sa) hk5.out (j := 21) (C := 28530) (by decide) (by decide +kernel) w_1995_1).mp (by omega)
              obtain ⟨x_1997, f_x_1997⟩ := dg_I.long (i := 0) (k := 7) I_2 sM_0 (by decide +kernel)
              have w_1995_1_r : (sg).toInt = 1 := by obtain ⟨w9, hw9⟩ : ∃ w9, S_2.1 0 7 = .long w9 := ⟨_, f_x_1997⟩; exact ((w_1995_1 w9 hw9).mp (by omega)).1
              clear w_1995_1
              have hlx_2r := hlx_2 (by omega)
              clear hlx_2
              exact J_1907 ()  (by omega) (m_hid.mk (Or.inr qw_1995_1)) _ _ hP hS _ (lv_sub hl [0, 1, 2, 3] rfl)
      refine lv_if_eq (tgt := 285) hx hb dX12_goesOn_189 (by decide) (fun c_1998 => ?_) (fun c_1998 => ?_)
      · have jc_1998 := dk_eqc (k := 0) (by decide +kernel) c_1998
        clear w_9_1
        exact J_838 ()  (m_hid.mk (fun q8 q9 => by exfalso; omega)) _ _ hP hS _ (lv_sub hl [0, 1, 2, 3] rfl)
      · have jc_1998 := dk_neqc (k := 0) (by decide +kernel) c_1998
        have jbc_1998 : 1 ≤ (x_8).toInt := by omega
        clear jc_1998
        have hts1 := m_hid.mk (w_9_1.out.mp (by omega))
        clear w_9_1
        refine lv_aload_n hx hb dX12_goesOn_192 rfl (lv_at hl 3 rfl) ?_
        refine dg_get (C := RX12) (T := TX12) (N := 77) hx hb hts (fun w h => bw_mem (wU_X12 w h)) hown K hP sM_0 rfl 38 (by decide) (hts _ (bw_mem wB_417)) (fun _ h9 => h9) (v := .ref (o + 23)) (show S_2.1 0 38 = .ref (o + 23) from dg_I.rel (d := 23) I_2 sM_0 (by decide +kernel)) dX12_goesOn_193 ?_
        refine lv_iload_n hx hb dX12_goesOn_196 rfl (lv_at hl 2 rfl) ?_
        have hin_1999 : vp_in x_5 20 := (dk_inv (by omega) (by omega))
        refine dg_iald hx hb K hP sM_23 hin_1999 dX12_goesOn_197 (fun y_2000 ey_2000 => ?_)
        obtain rfl : x_11 = y_2000 := (ey_2000.trans ex_11.symm).symm
        refine lv_if_ne (tgt := 285) hx hb dX12_goesOn_198 (by decide) (fun c_2001 => ?_) (fun c_2001 => ?_)
        · have jc_2001 := dk_neqc (k := 0) (by decide +kernel) c_2001
          have jbc_2001 : 1 ≤ (x_11).toInt := by omega
          clear jc_2001
          exact J_838 ()  (m_hid.mk (fun q8 q9 => by exfalso; omega)) _ _ hP hS _ (lv_sub hl [0, 1, 2, 3] rfl)
        · have jc_2001 := dk_eqc (k := 0) (by decide +kernel) c_2001
          refine lv_aload_n hx hb dX12_goesOn_201 rfl (lv_at hl 3 rfl) ?_
          refine lv_bipush (v := 60) hx hb dX12_goesOn_202 (by decide +kernel) ?_
          refine dg_calli hS hA1 hA (va_runV (As := [.int 60]) (rest := []) F (c_m_isSign l g D o S_2 60 sg ((m_2.1 0 3 _ sM_0 (by decide)).trans f_sg) (by omega) va ((m_2.1 0 6 _ sM_0 (by decide)).trans f_va) (by omega) I_2 H.size) (cwV 1 hts (bw_V wB_314 wB_315 wB_316 wB_297 wB_313) rfl rfl rfl (by decide +kernel) ⟨Nat.le_of_ble_eq_true rfl, Nat.le_of_ble_eq_true rfl⟩) (dg_preV sM_0 rfl K ST hP hS hA1 hA) rfl rfl hl.1 rfl (lv_room (Nat.le_of_ble_eq_true rfl)) dX12_goesOn_204 ⟨Nat.le_of_ble_eq_true rfl, Nat.le_of_ble_eq_true rfl⟩) (fun x_2002 S_2003 hw_2003 H locs hP hS => ?_)
          rw [hw_2003.1] at hP
          obtain ⟨hq_2003, w_2003_0, w_2003_1, -⟩ := hw_2003
          have hz_2004 : (60 : Int32).toInt = 60 := by decide +kernel
          have w_2003_0 : 0 ≤ (x_2002).toInt ∧ (x_2002).toInt ≤ 1 := w_2003_0
          have w_2003_1 : (x_2002).toInt = 1 ↔ ((sg).toInt = 3 ∧ (va).toInt = ((60 : Int32)).toInt) := w_2003_1
          have J_2051 : ∀ (u9 : Unit), ((sg).toInt = 3) → (m_hid (g_co (T_kd tb tn) (T_vl tb tn) (t_ix tb tn (sa : Int32).toNatClampNeg) = true)) → ∀ (H : Heap) (locs : List Loc), va_P D vwCl (dg_w g shM o rfM S_2) H → va_S A s.heap H locs → ∀ ls : Array Slot, lv_has ls 5 [(3, .int x_8), (2, .int x_7), (1, .int x_5), (0, .ref (o + 0))] → W p l e ({ frames := 3, cells := 0, slots := 0, locals := 77 } : Room) s m args below meth c H locs 0 0 Q9 (F0 m 228 ls []) := by
            intro u9 rel_0 rel_1 H locs hP hS ls hl
            clear w_2003_1
            have hcmp := rel_1
            refine lv_aload_n hx hb dX12_goesOn_228 rfl (lv_at hl 3 rfl) ?_
            refine lv_iconst (v := 5) hx hb dX12_goesOn_229 (by decide +kernel) ?_
            have hz_2052 : (5 : Int32).toInt = 5 := by decide +kernel
            refine dg_callv hS hA1 hA (va_runV (As := [.int 5]) (rest := []) F (c_m_joins l g D o S_2 5 (by decide +kernel) cd ((m_2.1 0 34 _ sM_0 (by decide)).trans f_cd) (by omega) om ((m_2.1 0 45 _ sM_0 (by decide)).trans f_om) (by omega) (by omega) (ZWM.keep ZW m_2 (by decide) (by decide) (by decide) (by decide)) (ZKM.keep ZK m_2 (by decide) (by decide)) (P1M.keep P1 m_2 (by decide) (by decide) (by decide) (by decide) (by decide) (by decide) (by decide) (by decide) (by decide) (by decide) (by decide) (by decide) (by decide) (by decide) (by decide)) I_2 H.size) (cwV 1 hts (bw_V wB_437 wB_438 wB_439 wB_297 wB_436) rfl rfl rfl (by decide +kernel) ⟨Nat.le_of_ble_eq_true rfl, Nat.le_of_ble_eq_true rfl⟩) (dg_preV sM_0 rfl K ST hP hS hA1 hA) rfl rfl hl.1 rfl (lv_room (Nat.le_of_ble_eq_true rfl)) dX12_goesOn_230 ⟨Nat.le_of_ble_eq_true rfl, Nat.le_of_ble_eq_true rfl⟩) (fun S_2053 hw_2053 H locs hP hS => ?_)
            obtain ⟨I_2053, m_2053, w_2053_0, w_2053_1, w_2053_2, w_2053_3, w_2053_4, -⟩ := hw_2053
            have M_2053 := dg_sm.tr M_2 m_2053 (by decide) (by decide)
            have hz_2054 : (5 : Int32).toInt = 5 := by decide +kernel
            obtain ⟨y_2055, y_2056, f_y_2055, f_y_2056, w_2053_0⟩ := w_2053_0
            have w_2053_0 : (y_2055).toInt + (y_2056).toInt = (cd).toInt + (om).toInt := w_2053_0
            have b_y_2055 : 0 ≤ (y_2055).toInt ∧ (y_2055).toInt ≤ 1600 := dg_I.intb (lo := 0) (hi := 1600) I_2053 sM_0 (by decide +kernel) f_y_2055
            have b_y_2056 : 0 ≤ (y_2056).toInt ∧ (y_2056).toInt ≤ 500 := dg_I.intb (lo := 0) (hi := 500) I_2053 sM_0 (by decide +kernel) f_y_2056
            replace w_2053_1 : TOPM S_2053 (5 : Int32) := w_2053_1
            obtain ⟨x_2057, f_x_2057, b_x_2057⟩ := dg_I.int (i := 0) (k := 43) (lo := (-2147483648)) (hi := 2147483647) I_2053 sM_0 (by decide +kernel)
            replace w_2053_2 : JNM S_2 S_2053 (5 : Int32) := w_2053_2
            have TF_2053 : TFM (x_7).toInt (x_11).toInt bg0 nt0 R0 (on).toNatClampNeg S_2053 := (TFM.join TF0 (P1M.keep P1 m_2 (by decide) (by decide) (by decide) (by decide) (by decide) (by decide) (by decide) (by decide) (by decide) (by decide) (by decide) (by decide) (by decide) (by decide) (by decide)) ((m_2.1 0 42 _ sM_0 (by decide)).trans f_dp) ((m_2.1 0 43 _ sM_0 (by decide)).trans f_on) ((m_2.1 0 45 _ sM_0 (by decide)).trans f_om) w_2053_2 w_2053_1 m_2053 (by decide) (by decide) (by decide) (by decide) (by decide) (by decide)).1 (by decide +kernel)
            have hdm_2057 := PSM.dims w_2053_4 (((m_2053.1 0 42 _ sM_0 (by decide)).trans (m_2.1 0 42 _ sM_0 (by decide))).trans f_dp) f_x_2057 f_y_2056
            refine lv_aload_n hx hb dX12_goesOn_233 rfl (lv_at hl 3 rfl) ?_
            refine lv_aload_n hx hb dX12_goesOn_234 rfl (lv_at hl 3 rfl) ?_
            refine lv_bipush (v := 60) hx hb dX12_goesOn_235 (by decide +kernel) ?_
            refine dg_calli hS hA1 hA (va_runV (As := [.int 60]) (rest := [.ref (o + 0)]) F (c_m_isSign l g D o S_2053 60 sg (((m_2053.1 0 3 _ sM_0 (by decide)).trans (m_2.1 0 3 _ sM_0 (by decide))).trans f_sg) (by omega) va (((m_2053.1 0 6 _ sM_0 (by decide)).trans (m_2.1 0 6 _ sM_0 (by decide))).trans f_va) (by omega) I_2053 H.size) (cwV 1 hts (bw_V wB_314 wB_315 wB_316 wB_297 wB_313) rfl rfl rfl (by decide +kernel) ⟨Nat.le_of_ble_eq_true rfl, Nat.le_of_ble_eq_true rfl⟩) (dg_preV sM_0 rfl K ST hP hS hA1 hA) rfl rfl hl.1 rfl (lv_room (Nat.le_of_ble_eq_true rfl)) dX12_goesOn_237 ⟨Nat.le_of_ble_eq_true rfl, Nat.le_of_ble_eq_true rfl⟩) (fun x_2059 S_2060 hw_2060 H locs hP hS => ?_)
            rw [hw_2060.1] at hP
            obtain ⟨hq_2060, w_2060_0, w_2060_1, -⟩ := hw_2060
            have hz_2061 : (60 : Int32).toInt = 60 := by decide +kernel
            have w_2060_0 : 0 ≤ (x_2059).toInt ∧ (x_2059).toInt ≤ 1 := w_2060_0
            have w_2060_1 : (x_2059).toInt = 1 ↔ ((sg).toInt = 3 ∧ (va).toInt = ((60 : Int32)).toInt) := w_2060_1
            have J_2089 : ∀ (x_2067 : Int32), (38 ≤ (x_2067).toInt ∧ (x_2067).toInt ≤ 40) → ∀ (H : Heap) (locs : List Loc), va_P D vwCl (dg_w g shM o rfM S_2053) H → va_S A s.heap H locs → ∀ ls : Array Slot, lv_has ls 5 [(3, .int x_8), (2, .int x_7), (1, .int x_5), (0, .ref (o + 0))] → W p l e ({ frames := 3, cells := 0, slots := 0, locals := 77 } : Room) s m args below meth c H locs 0 0 Q9 (F0 m 264 ls [.int x_2067, .ref (o + 0)]) := by
              intro x_2067 b_x_2067 H locs hP hS ls hl
              clear w_2060_1
              refine dg_callv hS hA1 hA (va_runV (As := [.int x_2067]) (rest := []) F (c_m_holdsBack l g D o S_2053 x_2067 y_2056 f_y_2056 (by omega) I_2053 H.size) (cwV 1 hts (bw_V wB_427 wB_428 wB_429 wB_297 wB_426) rfl rfl rfl (by decide +kernel) ⟨Nat.le_of_ble_eq_true rfl, Nat.le_of_ble_eq_true rfl⟩) (dg_preV sM_0 rfl K ST hP hS hA1 hA) rfl rfl hl.1 rfl (lv_room (Nat.le_of_ble_eq_true rfl)) dX12_goesOn_264 ⟨Nat.le_of_ble_eq_true rfl, Nat.le_of_ble_eq_true rfl⟩) (fun S_2090 hw_2090 H locs hP hS => ?_)
              obtain ⟨I_2090, m_2090, w_2090_0, w_2090_1, -⟩ := hw_2090
              have M_2090 := dg_sm.tr M_2053 m_2090 (by decide) (by decide)
              obtain ⟨y_2091, f_y_2091, w_2090_0⟩ := w_2090_0
              have w_2090_0 : (y_2091).toInt = (y_2056).toInt + 1 := w_2090_0
              have b_y_2091 : 0 ≤ (y_2091).toInt ∧ (y_2091).toInt ≤ 500 := dg_I.intb (lo := 0) (hi := 500) I_2090 sM_0 (by decide +kernel) f_y_2091
              replace w_2090_1 : HBM S_2053 S_2090 x_2067 := w_2090_1
              have TF_2090 : TFM (x_7).toInt (x_11).toInt bg0 nt0 R0 (on).toNatClampNeg S_2090 := (by have h9 := TFM.hb TF_2053 (((m_2053.1 0 42 _ sM_0 (by decide)).trans (m_2.1 0 42 _ sM_0 (by decide))).trans f_dp) f_x_2057 f_y_2056 (by omega) m_2090 w_2090_1; rw [if_neg (by omega)] at h9; exact h9)
              have hts2 := hts1.out
              refine lv_aload_n hx hb dX12_goesOn_267 rfl (lv_at hl 3 rfl) ?_
              refine dg_get (C := RX12) (T := TX12) (N := 77) hx hb hts (fun w h => bw_mem (wU_X12 w h)) hown K hP sM_0 rfl 38 (by decide) (hts _ (bw_mem wB_417)) (fun _ h9 => h9) (v := .ref (o + 23)) (show S_2090.1 0 38 = .ref (o + 23) from dg_I.rel (d := 23) I_2090 sM_0 (by decide +kernel)) dX12_goesOn_268 ?_
              refine lv_iload_n hx hb dX12_goesOn_271 rfl (lv_at hl 2 rfl) ?_
              refine lv_iconst (v := 1) hx hb dX12_goesOn_272 (by decide +kernel) ?_
              have hin_2092 : vp_in x_5 20 := (dk_inv (by omega) (by omega))
              have hz_2094 : (1 : Int32).toInt = 1 := by decide +kernel
              refine dg_iast hx hb K hP hS hA1 sM_23 hin_2092 dX12_goesOn_273 (fun S_2093 e_2093 H locs hP hS => ?_)
              have I_2093 := dg_I.ufu (lo := 0) (hi := 2) I_2090 e_2093 sM_23 (by decide +kernel) (show 0 ≤ ((1 : Int32)).toInt ∧ ((1 : Int32)).toInt ≤ 2 from (by decide +kernel))
              have M_2093 := dg_sm.uf M_2090 e_2093 sM_23 (by decide)
              have hz_2095 : (1 : Int32).toInt = 1 := by decide +kernel
              have P0_2093 : P0M S_2093 := P1M.cmp w_2053_4 (((m_2053.1 0 42 _ sM_0 (by decide)).trans (m_2.1 0 42 _ sM_0 (by decide))).trans f_dp) f_x_2057 f_y_2056 w_2053_1 (by omega) m_2090 w_2090_1 (by omega) (fx := x_5) (by omega) ((congrFun (m_2053.2 22 _ sM_22 (by decide)).1 _).trans ex_7.symm) (by unfold dk_ts; omega) (by rw [((congrFun (m_2053.2 23 _ sM_23 (by decide)).1 _).trans ex_11.symm)]; omega) e_2093 (by omega)
              have hz_2096 : (1 : Int32).toInt = 1 := by decide +kernel
              have TF_2093 : TFM (x_7).toInt 1 bg0 nt0 R0 (on).toNatClampNeg S_2093 := (by have h9 := (TFM.ph' TF_2090 (((m_2090.1 0 42 _ sM_0 (by decide)).trans ((m_2053.1 0 42 _ sM_0 (by decide)).trans (m_2.1 0 42 _ sM_0 (by decide)))).trans f_dp) ((m_2090.1 0 43 _ sM_0 (by decide)).trans f_x_2057) f_y_2091 (fx := x_5) (by omega) (by omega) e_2093); rw [show (1 : Int32).toInt = 1 from by decide +kernel] at h9; exact h9)
              clear hts2
              refine lv_aload_n hx hb dX12_goesOn_274 rfl (lv_at hl 3 rfl) ?_
              refine dg_callv hS hA1 hA (va_runV (As := []) (rest := []) F (c_m_ahead l g D o S_2093 tb tn se (((dg_uf_F e_2093 0 5).trans ((m_2090.1 0 5 _ sM_0 (by decide)).trans ((m_2053.1 0 5 _ sM_0 (by decide)).trans (m_2.1 0 5 _ sM_0 (by decide))))).trans f_se) (by omega) sl (((dg_uf_F e_2093 0 2).trans ((m_2090.1 0 2 _ sM_0 (by decide)).trans ((m_2053.1 0 2 _ sM_0 (by decide)).trans (m_2.1 0 2 _ sM_0 (by decide))))).trans f_sl) (by omega) (by omega) (TKM.keep (TKM.keep (TKM.keep (TKM.keep TK m_2 (by decide) (by decide) (by decide) (by decide) (by decide) (by decide) (by decide) (by decide)) m_2053 (by decide) (by decide) (by decide) (by decide) (by decide) (by decide) (by decide) (by decide)) m_2090 (by decide) (by decide) (by decide) (by decide) (by decide) (by decide) (by decide) (by decide)) (dg_sm.uf (WF := []) (WA := [23]) dg_sm.rf e_2093 sM_23 (by decide)) (by decide) (by decide) (by decide) (by decide) (by decide) (by decide) (by decide) (by decide)).1 I_2093 H.size) (cwV 0 hts (bw_V wB_318 wB_319 wB_320 wB_297 wB_317) rfl rfl rfl (by decide +kernel) ⟨Nat.le_of_ble_eq_true rfl, Nat.le_of_ble_eq_true rfl⟩) (dg_preV sM_0 rfl K ST hP hS hA1 hA) rfl rfl hl.1 rfl (lv_room (Nat.le_of_ble_eq_true rfl)) dX12_goesOn_275 ⟨Nat.le_of_ble_eq_true rfl, Nat.le_of_ble_eq_true rfl⟩) (fun S_2097 hw_2097 H locs hP hS => ?_)
              obtain ⟨I_2097, m_2097, w_2097_0, w_2097_1, -⟩ := hw_2097
              have M_2097 := dg_sm.tr M_2093 m_2097 (by decide) (by decide)
              obtain ⟨y_2098, y_2099, y_2100, f_y_2098, f_y_2099, f_y_2100, w_2097_0⟩ := w_2097_0
              have w_2097_0 : (se).toInt ≤ (y_2099).toInt ∧ (y_2099).toInt ≤ (y_2100).toInt ∧ (y_2100).toInt ≤ (sl).toInt ∧ ((y_2098).toInt ≠ 0 → (y_2099).toInt + 1 ≤ (y_2100).toInt) := w_2097_0
              obtain ⟨w_2097_0_0, w_2097_0_1, w_2097_0_2, w_2097_0_3⟩ := w_2097_0
              have lxh_w_2097_0_3 : m_hid ((y_2099).toInt ≤ (y_2100).toInt ∧ (y_2100).toInt ≤ (sl).toInt ∧ ((y_2098).toInt ≠ 0 → (y_2099).toInt + 1 ≤ (y_2100).toInt)) := m_hid.mk ⟨w_2097_0_1, w_2097_0_2, w_2097_0_3⟩
              have b_y_2098 : 0 ≤ (y_2098).toInt ∧ (y_2098).toInt ≤ 3 := dg_I.intb (lo := 0) (hi := 3) I_2097 sM_0 (by decide +kernel) f_y_2098
              have b_y_2099 : 0 ≤ (y_2099).toInt ∧ (y_2099).toInt ≤ 1600 := dg_I.intb (lo := 0) (hi := 1600) I_2097 sM_0 (by decide +kernel) f_y_2099
              have b_y_2100 : 0 ≤ (y_2100).toInt ∧ (y_2100).toInt ≤ 1600 := dg_I.intb (lo := 0) (hi := 1600) I_2097 sM_0 (by decide +kernel) f_y_2100
              replace w_2097_1 : TNX tb tn se S_2097 := w_2097_1
              obtain ⟨TK_2097, nx_2097, -⟩ := TKM.nx (TKM.keep (TKM.keep (TKM.keep (TKM.keep TK m_2 (by decide) (by decide) (by decide) (by decide) (by decide) (by decide) (by decide) (by decide)) m_2053 (by decide) (by decide) (by decide) (by decide) (by decide) (by decide) (by decide) (by decide)) m_2090 (by decide) (by decide) (by decide) (by decide) (by decide) (by decide) (by decide) (by decide)) (dg_sm.uf (WF := []) (WA := [23]) dg_sm.rf e_2093 sM_23 (by decide)) (by decide) (by decide) (by decide) (by decide) (by decide) (by decide) (by decide) (by decide)) (((dg_uf_F e_2093 0 4).trans ((m_2090.1 0 4 _ sM_0 (by decide)).trans ((m_2053.1 0 4 _ sM_0 (by decide)).trans (m_2.1 0 4 _ sM_0 (by decide))))).trans f_sa) (((dg_uf_F e_2093 0 5).trans ((m_2090.1 0 5 _ sM_0 (by decide)).trans ((m_2053.1 0 5 _ sM_0 (by decide)).trans (m_2.1 0 5 _ sM_0 (by decide))))).trans f_se) w_2097_1 m_2097 (by decide) (by decide) f_y_2099
              replace nx_2097 := nx_2097 (fun q9 => absurd ((TKM.zero (TKM.keep (TKM.keep (TKM.keep (TKM.keep TK m_2 (by decide) (by decide) (by decide) (by decide) (by decide) (by decide) (by decide) (by decide)) m_2053 (by decide) (by decide) (by decide) (by decide) (by decide) (by decide) (by decide) (by decide)) m_2090 (by decide) (by decide) (by decide) (by decide) (by decide) (by decide) (by decide) (by decide)) (dg_sm.uf (WF := []) (WA := [23]) dg_sm.rf e_2093 sM_23 (by decide)) (by decide) (by decide) (by decide) (by decide) (by decide) (by decide) (by decide) (by decide)) (((dg_uf_F e_2093 0 3).trans ((m_2090.1 0 3 _ sM_0 (by decide)).trans ((m_2053.1 0 3 _ sM_0 (by decide)).trans (m_2.1 0 3 _ sM_0 (by decide))))).trans f_sg) (((dg_uf_F e_2093 0 4).trans ((m_2090.1 0 4 _ sM_0 (by decide)).trans ((m_2053.1 0 4 _ sM_0 (by decide)).trans (m_2.1 0 4 _ sM_0 (by decide))))).trans f_sa)).mpr q9) (by omega))
              refine lv_aload_n hx hb dX12_goesOn_278 rfl (lv_at hl 3 rfl) ?_
              refine lv_iconst (v := 0) hx hb dX12_goesOn_279 (by decide +kernel) ?_
              have hz_2101 : (0 : Int32).toInt = 0 := by decide +kernel
              refine dg_put (ci := 12) (v := .int 0) (ty := tyX12 46) (C := RX12) (T := TX12) (N := 77) hx hb hts (fun w h => bw_mem (wU_X12 w h)) tyX12 tyX12_ok nmX12 hown K hP hS hA1 sM_0 rfl 46 (by decide) (hts _ (bw_mem wB_440)) (fun _ h9 => h9) rfl (by decide +kernel) (by decide +kernel) (by decide +kernel) dX12_goesOn_280 (fun S_2102 e_2102 H locs hP hS => ?_)
              have I_2102 := dg_I.uFi (lo := 0) (hi := 1) I_2097 e_2102 sM_0 (by decide +kernel) (show 0 ≤ ((0 : Int32)).toInt ∧ ((0 : Int32)).toInt ≤ 1 from (by decide +kernel))
              have M_2102 := dg_sm.uF M_2097 e_2102 sM_0 (by decide)
              refine lv_iconst (v := 1) hx hb dX12_goesOn_283 (by decide +kernel) ?_
              have hz_2103 : (1 : Int32).toInt = 1 := by decide +kernel
              have hz_2104 : (1 : Int32).toInt = 1 := by decide +kernel
              have hz_2105 : (0 : Int32).toInt = 0 := by decide +kernel
              have hz_2106 : (1 : Int32).toInt = 1 := by decide +kernel
              have hz_2107 : (0 : Int32).toInt = 0 := by decide +kernel
              have hz_2108 : (1 : Int32).toInt = 1 := by decide +kernel
              have hz_2109 : (1 : Int32).toInt = 1 := by decide +kernel
              have hz_2110 : (0 : Int32).toInt = 0 := by decide +kernel
              refine W.widen (k := 0) (n := 0) (Nat.le_of_ble_eq_true rfl) (Nat.le_of_ble_eq_true rfl) ?_
              rw [hQ9]
              exact dg_iret hx hb hr hlocks (by decide +kernel) hP hS ⟨I_2102, M_2102, (by decide +kernel), ⟨y_2098, y_2099, y_2100, y_3, y_2055, dp, y_2091, 0, ((dg_uF_ne e_2102 (fun z => absurd z.2 (by decide))).trans f_y_2098), ((dg_uF_ne e_2102 (fun z => absurd z.2 (by decide))).trans f_y_2099), ((dg_uF_ne e_2102 (fun z => absurd z.2 (by decide))).trans f_y_2100), (((dg_uF_ne e_2102 (fun z => absurd z.2 (by decide))).trans ((m_2097.1 0 8 _ sM_0 (by decide)).trans ((dg_uf_F e_2093 0 8).trans ((m_2090.1 0 8 _ sM_0 (by decide)).trans (m_2053.1 0 8 _ sM_0 (by decide)))))).trans f_y_3), (((dg_uF_ne e_2102 (fun z => absurd z.2 (by decide))).trans ((m_2097.1 0 34 _ sM_0 (by decide)).trans ((dg_uf_F e_2093 0 34).trans (m_2090.1 0 34 _ sM_0 (by decide))))).trans f_y_2055), (((dg_uF_ne e_2102 (fun z => absurd z.2 (by decide))).trans ((m_2097.1 0 42 _ sM_0 (by decide)).trans ((dg_uf_F e_2093 0 42).trans ((m_2090.1 0 42 _ sM_0 (by decide)).trans ((m_2053.1 0 42 _ sM_0 (by decide)).trans (m_2.1 0 42 _ sM_0 (by decide))))))).trans f_dp), (((dg_uF_ne e_2102 (fun z => absurd z.2 (by decide))).trans ((m_2097.1 0 45 _ sM_0 (by decide)).trans (dg_uf_F e_2093 0 45))).trans f_y_2091), (dg_uF_at e_2102), ⟨lxh_w_2097_0_3.out, (by omega)⟩⟩, (fun k9 hk9 hk0 => POM.mk0 (P0M.keep (P0M.keep P0_2093 m_2097 (by decide) (by decide) (by decide) (by decide) (by decide) (by decide) (by decide) (by decide) (by decide) (by decide) (by decide) (by decide) (by decide) (by decide) (by decide)) (dg_sm.uF (WF := [(0, 46)]) (WA := []) dg_sm.rf e_2102 sM_0 (by decide)) (by decide) (by decide) (by decide) (by decide) (by decide) (by decide) (by decide) (by decide) (by decide) (by decide) (by decide) (by decide) (by decide) (by decide) (by decide)) (dg_uF_at e_2102) (by omega)), (GOK.ok f_sa (((dg_uF_ne e_2102 (fun z => absurd z.2 (by decide))).trans ((m_2097.1 0 8 _ sM_0 (by decide)).trans ((dg_uf_F e_2093 0 8).trans ((m_2090.1 0 8 _ sM_0 (by decide)).trans (m_2053.1 0 8 _ sM_0 (by decide)))))).trans f_y_3) ((dg_uF_ne e_2102 (fun z => absurd z.2 (by decide))).trans f_y_2099) (dg_uF_at e_2102) (by omega) hM0 (TFM.keep (TFM.keep TF_2093 m_2097 (by decide) (by decide) (by decide) (by decide) (by decide) (by decide) (by decide) (by decide)) (dg_sm.uF (WF := [(0, 46)]) (WA := []) dg_sm.rf e_2102 sM_0 (by decide)) (by decide) (by decide) (by decide) (by decide) (by decide) (by decide) (by decide) (by decide)) (m_st_t.trans (m_go_cmp (m_tst_iff.mpr hts1.out) (by omega) (hnop.out (by omega)) hcmp.out)) (by omega) (by decide +kernel) (by first | decide +kernel | exact decide_eq_true (by omega))), (TKM.keep TK_2097 (dg_sm.uF (WF := [(0, 46)]) (WA := []) dg_sm.rf e_2102 sM_0 (by decide)) (by decide) (by decide) (by decide) (by decide) (by decide) (by decide) (by decide) (by decide)), (ZWM.keep (ZWM.keep (ZWM.keep (ZWM.keep w_2053_3 m_2090 (by decide) (by decide) (by decide) (by decide)) (dg_sm.uf (WF := []) (WA := [23]) dg_sm.rf e_2093 sM_23 (by decide)) (by decide) (by decide) (by decide) (by decide)) m_2097 (by decide) (by decide) (by decide) (by decide)) (dg_sm.uF (WF := [(0, 46)]) (WA := []) dg_sm.rf e_2102 sM_0 (by decide)) (by decide) (by decide) (by decide) (by decide)), trivial⟩ dX12_goesOn_284
            refine lv_if_eq (tgt := 248) hx hb dX12_goesOn_240 (by decide) (fun c_2111 => ?_) (fun c_2111 => ?_)
            · have jc_2111 := dk_eqc (k := 0) (by decide +kernel) c_2111
              clear w_2060_1
              refine lv_aload_n hx hb dX12_goesOn_248 rfl (lv_at hl 3 rfl) ?_
              refine lv_bipush (v := 62) hx hb dX12_goesOn_249 (by decide +kernel) ?_
              refine dg_calli hS hA1 hA (va_runV (As := [.int 62]) (rest := [.ref (o + 0)]) F (c_m_isSign l g D o S_2053 62 sg (((m_2053.1 0 3 _ sM_0 (by decide)).trans (m_2.1 0 3 _ sM_0 (by decide))).trans f_sg) (by omega) va (((m_2053.1 0 6 _ sM_0 (by decide)).trans (m_2.1 0 6 _ sM_0 (by decide))).trans f_va) (by omega) I_2053 H.size) (cwV 1 hts (bw_V wB_314 wB_315 wB_316 wB_297 wB_313) rfl rfl rfl (by decide +kernel) ⟨Nat.le_of_ble_eq_true rfl, Nat.le_of_ble_eq_true rfl⟩) (dg_preV sM_0 rfl K ST hP hS hA1 hA) rfl rfl hl.1 rfl (lv_room (Nat.le_of_ble_eq_true rfl)) dX12_goesOn_251 ⟨Nat.le_of_ble_eq_true rfl, Nat.le_of_ble_eq_true rfl⟩) (fun x_2112 S_2113 hw_2113 H locs hP hS => ?_)
              rw [hw_2113.1] at hP
              obtain ⟨hq_2113, w_2113_0, w_2113_1, -⟩ := hw_2113
              have hz_2114 : (62 : Int32).toInt = 62 := by decide +kernel
              have w_2113_0 : 0 ≤ (x_2112).toInt ∧ (x_2112).toInt ≤ 1 := w_2113_0
              have w_2113_1 : (x_2112).toInt = 1 ↔ ((sg).toInt = 3 ∧ (va).toInt = ((62 : Int32)).toInt) := w_2113_1
              refine lv_if_eq (tgt := 262) hx hb dX12_goesOn_254 (by decide) (fun c_2115 => ?_) (fun c_2115 => ?_)
              · have jc_2115 := dk_eqc (k := 0) (by decide +kernel) c_2115
                clear w_2113_1
                refine lv_bipush (v := 40) hx hb dX12_goesOn_262 (by decide +kernel) ?_
                have hz_2116 : (40 : Int32).toInt = 40 := by decide +kernel
                exact J_2089 40 (by decide +kernel) _ _ hP hS _ (lv_sub hl [0, 1, 2, 3] rfl)
              · have jc_2115 := dk_neqc (k := 0) (by decide +kernel) c_2115
                have jbc_2115 : 1 ≤ (x_2112).toInt := by omega
                clear jc_2115
                have w_2113_1_r := w_2113_1.mp (by omega)
                obtain ⟨w_2113_1_r1, w_2113_1_r2⟩ := w_2113_1_r
                clear w_2113_1
                have hlx_2r := hlx_2 (by omega)
                clear hlx_2
                refine lv_bipush (v := 39) hx hb dX12_goesOn_257 (by decide +kernel) ?_
                refine lv_goto (tgt := 264) hx hb dX12_goesOn_259 (by decide) ?_
                have hz_2117 : (39 : Int32).toInt = 39 := by decide +kernel
                exact J_2089 39 (by decide +kernel) _ _ hP hS _ (lv_sub hl [0, 1, 2, 3] rfl)
            · have jc_2111 := dk_neqc (k := 0) (by decide +kernel) c_2111
              have jbc_2111 : 1 ≤ (x_2059).toInt := by omega
              clear jc_2111
              have w_2060_1_r := w_2060_1.mp (by omega)
              obtain ⟨w_2060_1_r1, w_2060_1_r2⟩ := w_2060_1_r
              clear w_2060_1
              have hlx_2r := hlx_2 (by omega)
              clear hlx_2
              refine lv_bipush (v := 38) hx hb dX12_goesOn_243 (by decide +kernel) ?_
              refine lv_goto (tgt := 264) hx hb dX12_goesOn_245 (by decide) ?_
              have hz_2118 : (38 : Int32).toInt = 38 := by decide +kernel
              exact J_2089 38 (by decide +kernel) _ _ hP hS _ (lv_sub hl [0, 1, 2, 3] rfl)
          refine lv_if_ne (tgt := 228) hx hb dX12_goesOn_207 (by decide) (fun c_2119 => ?_) (fun c_2119 => ?_)
          · have jc_2119 := dk_neqc (k := 0) (by decide +kernel) c_2119
            have jbc_2119 : 1 ≤ (x_2002).toInt := by omega
            clear jc_2119
            have qw_2003_1 : g_s (T_kd tb tn) (T_vl tb tn) 60 (t_ix tb tn (sa : Int32).toNatClampNeg) = true := (TKM.iss (TKM.keep TK m_2 (by decide) (by decide) (by decide) (by decide) (by decide) (by decide) (by decide) (by decide)) ((m_2.1 0 3 _ sM_0 (by decide)).trans f_sg) ((m_2.1 0 4 _ sM_0 (by decide)).trans f_sa) ((m_2.1 0 6 _ sM_0 (by decide)).trans f_va) hk5.out (c := 60) (by have h9 := w_2003_1; rw [show (60 : Int32).toInt = 60 from by decide +kernel] at h9; exact h9)).mp (by omega)
            have w_2003_1_r := w_2003_1.mp (by omega)
            obtain ⟨w_2003_1_r1, w_2003_1_r2⟩ := w_2003_1_r
            clear w_2003_1
            have hlx_2r := hlx_2 (by omega)
            clear hlx_2
            exact J_2051 ()  (by omega) (m_hid.mk (g_co_1 qw_2003_1)) _ _ hP hS _ (lv_sub hl [0, 1, 2, 3] rfl)
          · have jc_2119 := dk_eqc (k := 0) (by decide +kernel) c_2119
            have qw_2003_1 : g_s (T_kd tb tn) (T_vl tb tn) 60 (t_ix tb tn (sa : Int32).toNatClampNeg) = false := g_iff_f (TKM.iss (TKM.keep TK m_2 (by decide) (by decide) (by decide) (by decide) (by decide) (by decide) (by decide) (by decide)) ((m_2.1 0 3 _ sM_0 (by decide)).trans f_sg) ((m_2.1 0 4 _ sM_0 (by decide)).trans f_sa) ((m_2.1 0 6 _ sM_0 (by decide)).trans f_va) hk5.out (c := 60) (by have h9 := w_2003_1; rw [show (60 : Int32).toInt = 60 from by decide +kernel] at h9; exact h9)) (by omega)
            clear w_2003_1
            refine lv_aload_n hx hb dX12_goesOn_210 rfl (lv_at hl 3 rfl) ?_
            refine lv_bipush (v := 62) hx hb dX12_goesOn_211 (by decide +kernel) ?_
            refine dg_calli hS hA1 hA (va_runV (As := [.int 62]) (rest := []) F (c_m_isSign l g D o S_2 62 sg ((m_2.1 0 3 _ sM_0 (by decide)).trans f_sg) (by omega) va ((m_2.1 0 6 _ sM_0 (by decide)).trans f_va) (by omega) I_2 H.size) (cwV 1 hts (bw_V wB_314 wB_315 wB_316 wB_297 wB_313) rfl rfl rfl (by decide +kernel) ⟨Nat.le_of_ble_eq_true rfl, Nat.le_of_ble_eq_true rfl⟩) (dg_preV sM_0 rfl K ST hP hS hA1 hA) rfl rfl hl.1 rfl (lv_room (Nat.le_of_ble_eq_true rfl)) dX12_goesOn_213 ⟨Nat.le_of_ble_eq_true rfl, Nat.le_of_ble_eq_true rfl⟩) (fun x_2120 S_2121 hw_2121 H locs hP hS => ?_)
            rw [hw_2121.1] at hP
            obtain ⟨hq_2121, w_2121_0, w_2121_1, -⟩ := hw_2121
            have hz_2122 : (62 : Int32).toInt = 62 := by decide +kernel
            have w_2121_0 : 0 ≤ (x_2120).toInt ∧ (x_2120).toInt ≤ 1 := w_2121_0
            have w_2121_1 : (x_2120).toInt = 1 ↔ ((sg).toInt = 3 ∧ (va).toInt = ((62 : Int32)).toInt) := w_2121_1
            refine lv_if_ne (tgt := 228) hx hb dX12_goesOn_216 (by decide) (fun c_2123 => ?_) (fun c_2123 => ?_)
            · have jc_2123 := dk_neqc (k := 0) (by decide +kernel) c_2123
              have jbc_2123 : 1 ≤ (x_2120).toInt := by omega
              clear jc_2123
              have qw_2121_1 : g_s (T_kd tb tn) (T_vl tb tn) 62 (t_ix tb tn (sa : Int32).toNatClampNeg) = true := (TKM.iss (TKM.keep TK m_2 (by decide) (by decide) (by decide) (by decide) (by decide) (by decide) (by decide) (by decide)) ((m_2.1 0 3 _ sM_0 (by decide)).trans f_sg) ((m_2.1 0 4 _ sM_0 (by decide)).trans f_sa) ((m_2.1 0 6 _ sM_0 (by decide)).trans f_va) hk5.out (c := 62) (by have h9 := w_2121_1; rw [show (62 : Int32).toInt = 62 from by decide +kernel] at h9; exact h9)).mp (by omega)
              have w_2121_1_r := w_2121_1.mp (by omega)
              obtain ⟨w_2121_1_r1, w_2121_1_r2⟩ := w_2121_1_r
              clear w_2121_1
              have hlx_2r := hlx_2 (by omega)
              clear hlx_2
              exact J_2051 ()  (by omega) (m_hid.mk (g_co_2 qw_2121_1)) _ _ hP hS _ (lv_sub hl [0, 1, 2, 3] rfl)
            · have jc_2123 := dk_eqc (k := 0) (by decide +kernel) c_2123
              have qw_2121_1 : g_s (T_kd tb tn) (T_vl tb tn) 62 (t_ix tb tn (sa : Int32).toNatClampNeg) = false := g_iff_f (TKM.iss (TKM.keep TK m_2 (by decide) (by decide) (by decide) (by decide) (by decide) (by decide) (by decide) (by decide)) ((m_2.1 0 3 _ sM_0 (by decide)).trans f_sg) ((m_2.1 0 4 _ sM_0 (by decide)).trans f_sa) ((m_2.1 0 6 _ sM_0 (by decide)).trans f_va) hk5.out (c := 62) (by have h9 := w_2121_1; rw [show (62 : Int32).toInt = 62 from by decide +kernel] at h9; exact h9)) (by omega)
              clear w_2121_1
              refine lv_aload_n hx hb dX12_goesOn_219 rfl (lv_at hl 3 rfl) ?_
              refine lv_bipush (v := 61) hx hb dX12_goesOn_220 (by decide +kernel) ?_
              refine dg_calli hS hA1 hA (va_runV (As := [.int 61]) (rest := []) F (c_m_isSign l g D o S_2 61 sg ((m_2.1 0 3 _ sM_0 (by decide)).trans f_sg) (by omega) va ((m_2.1 0 6 _ sM_0 (by decide)).trans f_va) (by omega) I_2 H.size) (cwV 1 hts (bw_V wB_314 wB_315 wB_316 wB_297 wB_313) rfl rfl rfl (by decide +kernel) ⟨Nat.le_of_ble_eq_true rfl, Nat.le_of_ble_eq_true rfl⟩) (dg_preV sM_0 rfl K ST hP hS hA1 hA) rfl rfl hl.1 rfl (lv_room (Nat.le_of_ble_eq_true rfl)) dX12_goesOn_222 ⟨Nat.le_of_ble_eq_true rfl, Nat.le_of_ble_eq_true rfl⟩) (fun x_2124 S_2125 hw_2125 H locs hP hS => ?_)
              rw [hw_2125.1] at hP
              obtain ⟨hq_2125, w_2125_0, w_2125_1, -⟩ := hw_2125
              have hz_2126 : (61 : Int32).toInt = 61 := by decide +kernel
              have w_2125_0 : 0 ≤ (x_2124).toInt ∧ (x_2124).toInt ≤ 1 := w_2125_0
              have w_2125_1 : (x_2124).toInt = 1 ↔ ((sg).toInt = 3 ∧ (va).toInt = ((61 : Int32)).toInt) := w_2125_1
              refine lv_if_eq (tgt := 285) hx hb dX12_goesOn_225 (by decide) (fun c_2127 => ?_) (fun c_2127 => ?_)
              · have jc_2127 := dk_eqc (k := 0) (by decide +kernel) c_2127
                have qw_2125_1 : g_s (T_kd tb tn) (T_vl tb tn) 61 (t_ix tb tn (sa : Int32).toNatClampNeg) = false := g_iff_f (TKM.iss (TKM.keep TK m_2 (by decide) (by decide) (by decide) (by decide) (by decide) (by decide) (by decide) (by decide)) ((m_2.1 0 3 _ sM_0 (by decide)).trans f_sg) ((m_2.1 0 4 _ sM_0 (by decide)).trans f_sa) ((m_2.1 0 6 _ sM_0 (by decide)).trans f_va) hk5.out (c := 61) (by have h9 := w_2125_1; rw [show (61 : Int32).toInt = 61 from by decide +kernel] at h9; exact h9)) (by omega)
                clear w_2125_1
                exact J_838 ()  (m_hid.mk (fun _ _ => g_co_f qw_2003_1 qw_2121_1 qw_2125_1)) _ _ hP hS _ (lv_sub hl [0, 1, 2, 3] rfl)
              · have jc_2127 := dk_neqc (k := 0) (by decide +kernel) c_2127
                have jbc_2127 : 1 ≤ (x_2124).toInt := by omega
                clear jc_2127
                have qw_2125_1 : g_s (T_kd tb tn) (T_vl tb tn) 61 (t_ix tb tn (sa : Int32).toNatClampNeg) = true := (TKM.iss (TKM.keep TK m_2 (by decide) (by decide) (by decide) (by decide) (by decide) (by decide) (by decide) (by decide)) ((m_2.1 0 3 _ sM_0 (by decide)).trans f_sg) ((m_2.1 0 4 _ sM_0 (by decide)).trans f_sa) ((m_2.1 0 6 _ sM_0 (by decide)).trans f_va) hk5.out (c := 61) (by have h9 := w_2125_1; rw [show (61 : Int32).toInt = 61 from by decide +kernel] at h9; exact h9)).mp (by omega)
                have w_2125_1_r := w_2125_1.mp (by omega)
                obtain ⟨w_2125_1_r1, w_2125_1_r2⟩ := w_2125_1_r
                clear w_2125_1
                have hlx_2r := hlx_2 (by omega)
                clear hlx_2
                exact J_2051 ()  (by omega) (m_hid.mk (g_co_3 qw_2125_1)) _ _ hP hS _ (lv_sub hl [0, 1, 2, 3] rfl)
    refine lv_icmp_ge (tgt := 188) hx hb dX12_goesOn_39 (by decide) (fun c_2128 => ?_) (fun c_2128 => ?_)
    · have jc_2128 := dk_gec (k := 2) (by decide +kernel) c_2128
      exact J_490 ()  (m_hid.mk (fun q9 => by exfalso; omega)) _ _ hP hS _ (lv_sub hl [0, 1, 2, 3] rfl)
    · have jc_2128 := dk_ngec (k := 2) (by decide +kernel) c_2128
      refine lv_aload_n hx hb dX12_goesOn_42 rfl (lv_at hl 3 rfl) ?_
      refine lv_bipush (v := 43) hx hb dX12_goesOn_43 (by decide +kernel) ?_
      refine dg_calli hS hA1 hA (va_runV (As := [.int 43]) (rest := []) F (c_m_isSign l g D o S_2 43 sg ((m_2.1 0 3 _ sM_0 (by decide)).trans f_sg) (by omega) va ((m_2.1 0 6 _ sM_0 (by decide)).trans f_va) (by omega) I_2 H.size) (cwV 1 hts (bw_V wB_314 wB_315 wB_316 wB_297 wB_313) rfl rfl rfl (by decide +kernel) ⟨Nat.le_of_ble_eq_true rfl, Nat.le_of_ble_eq_true rfl⟩) (dg_preV sM_0 rfl K ST hP hS hA1 hA) rfl rfl hl.1 rfl (lv_room (Nat.le_of_ble_eq_true rfl)) dX12_goesOn_45 ⟨Nat.le_of_ble_eq_true rfl, Nat.le_of_ble_eq_true rfl⟩) (fun x_2129 S_2130 hw_2130 H locs hP hS => ?_)
      rw [hw_2130.1] at hP
      obtain ⟨hq_2130, w_2130_0, w_2130_1, -⟩ := hw_2130
      have hz_2131 : (43 : Int32).toInt = 43 := by decide +kernel
      have w_2130_0 : 0 ≤ (x_2129).toInt ∧ (x_2129).toInt ≤ 1 := w_2130_0
      have w_2130_1 : (x_2129).toInt = 1 ↔ ((sg).toInt = 3 ∧ (va).toInt = ((43 : Int32)).toInt) := w_2130_1
      have J_2259 : ∀ (u9 : Unit), ((sg).toInt = 3) → ((va).toInt = 43 ∨ (va).toInt = 45 ∨ (va).toInt = 42 ∨ (va).toInt = 47 ∨ (va).toInt = 37) → (m_hid (g_so (T_kd tb tn) (T_vl tb tn) (t_ix tb tn (sa : Int32).toNatClampNeg) = true ∨ g_po (T_kd tb tn) (T_vl tb tn) (t_ix tb tn (sa : Int32).toNatClampNeg) = true)) → ∀ (H : Heap) (locs : List Loc), va_P D vwCl (dg_w g shM o rfM S_2) H → va_S A s.heap H locs → ∀ ls : Array Slot, lv_has ls 5 [(3, .int x_8), (2, .int x_7), (1, .int x_5), (0, .ref (o + 0))] → W p l e ({ frames := 3, cells := 0, slots := 0, locals := 77 } : Room) s m args below meth c H locs 0 0 Q9 (F0 m 87 ls []) := by
        intro u9 rel_0 rel_1 rel_2 H locs hP hS ls hl
        clear w_2130_1
        have hop := rel_2
        have hlx_2r := hlx_2 (by omega)
        clear hlx_2
        refine lv_aload_n hx hb dX12_goesOn_87 rfl (lv_at hl 3 rfl) ?_
        refine lv_aload_n hx hb dX12_goesOn_88 rfl (lv_at hl 3 rfl) ?_
        refine lv_bipush (v := 43) hx hb dX12_goesOn_89 (by decide +kernel) ?_
        refine dg_calli hS hA1 hA (va_runV (As := [.int 43]) (rest := [.ref (o + 0)]) F (c_m_isSign l g D o S_2 43 sg ((m_2.1 0 3 _ sM_0 (by decide)).trans f_sg) (by omega) va ((m_2.1 0 6 _ sM_0 (by decide)).trans f_va) (by omega) I_2 H.size) (cwV 1 hts (bw_V wB_314 wB_315 wB_316 wB_297 wB_313) rfl rfl rfl (by decide +kernel) ⟨Nat.le_of_ble_eq_true rfl, Nat.le_of_ble_eq_true rfl⟩) (dg_preV sM_0 rfl K ST hP hS hA1 hA) rfl rfl hl.1 rfl (lv_room (Nat.le_of_ble_eq_true rfl)) dX12_goesOn_91 ⟨Nat.le_of_ble_eq_true rfl, Nat.le_of_ble_eq_true rfl⟩) (fun x_2260 S_2261 hw_2261 H locs hP hS => ?_)
        rw [hw_2261.1] at hP
        obtain ⟨hq_2261, w_2261_0, w_2261_1, -⟩ := hw_2261
        have hz_2262 : (43 : Int32).toInt = 43 := by decide +kernel
        have w_2261_0 : 0 ≤ (x_2260).toInt ∧ (x_2260).toInt ≤ 1 := w_2261_0
        have w_2261_1 : (x_2260).toInt = 1 ↔ ((sg).toInt = 3 ∧ (va).toInt = ((43 : Int32)).toInt) := w_2261_1
        refine lv_if_ne (tgt := 106) hx hb dX12_goesOn_94 (by decide) (fun c_2263 => ?_) (fun c_2263 => ?_)
        · have jc_2263 := dk_neqc (k := 0) (by decide +kernel) c_2263
          have jbc_2263 : 1 ≤ (x_2260).toInt := by omega
          clear jc_2263
          have w_2261_1_r := w_2261_1.mp (by omega)
          obtain ⟨w_2261_1_r1, w_2261_1_r2⟩ := w_2261_1_r
          clear rel_1
          clear w_2261_1
          refine lv_iconst (v := 5) hx hb dX12_goesOn_106 (by decide +kernel) ?_
          refine lv_goto (tgt := 112) hx hb dX12_goesOn_107 (by decide) ?_
          have hz_2264 : (5 : Int32).toInt = 5 := by decide +kernel
          refine dg_callv hS hA1 hA (va_runV (As := [.int 5]) (rest := []) F (c_m_joins l g D o S_2 5 (by decide +kernel) cd ((m_2.1 0 34 _ sM_0 (by decide)).trans f_cd) (by omega) om ((m_2.1 0 45 _ sM_0 (by decide)).trans f_om) (by omega) (by omega) (ZWM.keep ZW m_2 (by decide) (by decide) (by decide) (by decide)) (ZKM.keep ZK m_2 (by decide) (by decide)) (P1M.keep P1 m_2 (by decide) (by decide) (by decide) (by decide) (by decide) (by decide) (by decide) (by decide) (by decide) (by decide) (by decide) (by decide) (by decide) (by decide) (by decide)) I_2 H.size) (cwV 1 hts (bw_V wB_437 wB_438 wB_439 wB_297 wB_436) rfl rfl rfl (by decide +kernel) ⟨Nat.le_of_ble_eq_true rfl, Nat.le_of_ble_eq_true rfl⟩) (dg_preV sM_0 rfl K ST hP hS hA1 hA) rfl rfl hl.1 rfl (lv_room (Nat.le_of_ble_eq_true rfl)) dX12_goesOn_112 ⟨Nat.le_of_ble_eq_true rfl, Nat.le_of_ble_eq_true rfl⟩) (fun S_2265 hw_2265 H locs hP hS => ?_)
          obtain ⟨I_2265, m_2265, w_2265_0, w_2265_1, w_2265_2, w_2265_3, w_2265_4, -⟩ := hw_2265
          have M_2265 := dg_sm.tr M_2 m_2265 (by decide) (by decide)
          have hz_2266 : (5 : Int32).toInt = 5 := by decide +kernel
          obtain ⟨y_2267, y_2268, f_y_2267, f_y_2268, w_2265_0⟩ := w_2265_0
          have w_2265_0 : (y_2267).toInt + (y_2268).toInt = (cd).toInt + (om).toInt := w_2265_0
          have b_y_2267 : 0 ≤ (y_2267).toInt ∧ (y_2267).toInt ≤ 1600 := dg_I.intb (lo := 0) (hi := 1600) I_2265 sM_0 (by decide +kernel) f_y_2267
          have b_y_2268 : 0 ≤ (y_2268).toInt ∧ (y_2268).toInt ≤ 500 := dg_I.intb (lo := 0) (hi := 500) I_2265 sM_0 (by decide +kernel) f_y_2268
          replace w_2265_1 : TOPM S_2265 (5 : Int32) := w_2265_1
          obtain ⟨x_2269, f_x_2269, b_x_2269⟩ := dg_I.int (i := 0) (k := 43) (lo := (-2147483648)) (hi := 2147483647) I_2265 sM_0 (by decide +kernel)
          replace w_2265_2 : JNM S_2 S_2265 (5 : Int32) := w_2265_2
          have TF_2265 : TFM (x_7).toInt (x_11).toInt bg0 nt0 R0 (on).toNatClampNeg S_2265 := (TFM.join TF0 (P1M.keep P1 m_2 (by decide) (by decide) (by decide) (by decide) (by decide) (by decide) (by decide) (by decide) (by decide) (by decide) (by decide) (by decide) (by decide) (by decide) (by decide)) ((m_2.1 0 42 _ sM_0 (by decide)).trans f_dp) ((m_2.1 0 43 _ sM_0 (by decide)).trans f_on) ((m_2.1 0 45 _ sM_0 (by decide)).trans f_om) w_2265_2 w_2265_1 m_2265 (by decide) (by decide) (by decide) (by decide) (by decide) (by decide)).1 (by decide +kernel)
          have hdm_2269 := PSM.dims w_2265_4 (((m_2265.1 0 42 _ sM_0 (by decide)).trans (m_2.1 0 42 _ sM_0 (by decide))).trans f_dp) f_x_2269 f_y_2268
          refine lv_aload_n hx hb dX12_goesOn_115 rfl (lv_at hl 3 rfl) ?_
          refine lv_aload_n hx hb dX12_goesOn_116 rfl (lv_at hl 3 rfl) ?_
          refine lv_bipush (v := 43) hx hb dX12_goesOn_117 (by decide +kernel) ?_
          refine dg_calli hS hA1 hA (va_runV (As := [.int 43]) (rest := [.ref (o + 0)]) F (c_m_isSign l g D o S_2265 43 sg (((m_2265.1 0 3 _ sM_0 (by decide)).trans (m_2.1 0 3 _ sM_0 (by decide))).trans f_sg) (by omega) va (((m_2265.1 0 6 _ sM_0 (by decide)).trans (m_2.1 0 6 _ sM_0 (by decide))).trans f_va) (by omega) I_2265 H.size) (cwV 1 hts (bw_V wB_314 wB_315 wB_316 wB_297 wB_313) rfl rfl rfl (by decide +kernel) ⟨Nat.le_of_ble_eq_true rfl, Nat.le_of_ble_eq_true rfl⟩) (dg_preV sM_0 rfl K ST hP hS hA1 hA) rfl rfl hl.1 rfl (lv_room (Nat.le_of_ble_eq_true rfl)) dX12_goesOn_119 ⟨Nat.le_of_ble_eq_true rfl, Nat.le_of_ble_eq_true rfl⟩) (fun x_2271 S_2272 hw_2272 H locs hP hS => ?_)
          rw [hw_2272.1] at hP
          obtain ⟨hq_2272, w_2272_0, w_2272_1, -⟩ := hw_2272
          have hz_2273 : (43 : Int32).toInt = 43 := by decide +kernel
          have w_2272_0 : 0 ≤ (x_2271).toInt ∧ (x_2271).toInt ≤ 1 := w_2272_0
          have w_2272_1 : (x_2271).toInt = 1 ↔ ((sg).toInt = 3 ∧ (va).toInt = ((43 : Int32)).toInt) := w_2272_1
          have J_2293 : ∀ (H : Heap) (locs : List Loc), va_P D vwCl (dg_w g shM o rfM S_2265) H → va_S A s.heap H locs → ∀ ls : Array Slot, lv_has ls 5 [(3, .int x_8), (2, .int x_7), (1, .int x_5), (0, .ref (o + 0))] → W p l e ({ frames := 3, cells := 0, slots := 0, locals := 77 } : Room) s m args below meth c H locs 0 0 Q9 (F0 m 174 ls [.int 31, .ref (o + 0)]) := by
            intro H locs hP hS ls hl
            clear w_2272_1
            refine dg_callv hS hA1 hA (va_runV (As := [.int 31]) (rest := []) F (c_m_holdsBack l g D o S_2265 31 y_2268 f_y_2268 (by omega) I_2265 H.size) (cwV 1 hts (bw_V wB_427 wB_428 wB_429 wB_297 wB_426) rfl rfl rfl (by decide +kernel) ⟨Nat.le_of_ble_eq_true rfl, Nat.le_of_ble_eq_true rfl⟩) (dg_preV sM_0 rfl K ST hP hS hA1 hA) rfl rfl hl.1 rfl (lv_room (Nat.le_of_ble_eq_true rfl)) dX12_goesOn_174 ⟨Nat.le_of_ble_eq_true rfl, Nat.le_of_ble_eq_true rfl⟩) (fun S_2294 hw_2294 H locs hP hS => ?_)
            obtain ⟨I_2294, m_2294, w_2294_0, w_2294_1, -⟩ := hw_2294
            have M_2294 := dg_sm.tr M_2265 m_2294 (by decide) (by decide)
            have hz_2295 : (31 : Int32).toInt = 31 := by decide +kernel
            obtain ⟨y_2296, f_y_2296, w_2294_0⟩ := w_2294_0
            have w_2294_0 : (y_2296).toInt = (y_2268).toInt + 1 := w_2294_0
            have b_y_2296 : 0 ≤ (y_2296).toInt ∧ (y_2296).toInt ≤ 500 := dg_I.intb (lo := 0) (hi := 500) I_2294 sM_0 (by decide +kernel) f_y_2296
            replace w_2294_1 : HBM S_2265 S_2294 (31 : Int32) := w_2294_1
            have P0_2294 : P0M S_2294 := P1M.bin w_2265_4 (((m_2265.1 0 42 _ sM_0 (by decide)).trans (m_2.1 0 42 _ sM_0 (by decide))).trans f_dp) f_x_2269 f_y_2268 w_2265_1 m_2294 w_2294_1 (by omega)
            have hz_2297 : (31 : Int32).toInt = 31 := by decide +kernel
            have TF_2294 : TFM (x_7).toInt (x_11).toInt bg0 nt0 R0 (on).toNatClampNeg S_2294 := (by have h9 := TFM.hb TF_2265 (((m_2265.1 0 42 _ sM_0 (by decide)).trans (m_2.1 0 42 _ sM_0 (by decide))).trans f_dp) f_x_2269 f_y_2268 (by omega) m_2294 w_2294_1; rw [if_neg (by omega)] at h9; exact h9)
            refine lv_aload_n hx hb dX12_goesOn_177 rfl (lv_at hl 3 rfl) ?_
            refine dg_callv hS hA1 hA (va_runV (As := []) (rest := []) F (c_m_ahead l g D o S_2294 tb tn se (((m_2294.1 0 5 _ sM_0 (by decide)).trans ((m_2265.1 0 5 _ sM_0 (by decide)).trans (m_2.1 0 5 _ sM_0 (by decide)))).trans f_se) (by omega) sl (((m_2294.1 0 2 _ sM_0 (by decide)).trans ((m_2265.1 0 2 _ sM_0 (by decide)).trans (m_2.1 0 2 _ sM_0 (by decide)))).trans f_sl) (by omega) (by omega) (TKM.keep (TKM.keep (TKM.keep TK m_2 (by decide) (by decide) (by decide) (by decide) (by decide) (by decide) (by decide) (by decide)) m_2265 (by decide) (by decide) (by decide) (by decide) (by decide) (by decide) (by decide) (by decide)) m_2294 (by decide) (by decide) (by decide) (by decide) (by decide) (by decide) (by decide) (by decide)).1 I_2294 H.size) (cwV 0 hts (bw_V wB_318 wB_319 wB_320 wB_297 wB_317) rfl rfl rfl (by decide +kernel) ⟨Nat.le_of_ble_eq_true rfl, Nat.le_of_ble_eq_true rfl⟩) (dg_preV sM_0 rfl K ST hP hS hA1 hA) rfl rfl hl.1 rfl (lv_room (Nat.le_of_ble_eq_true rfl)) dX12_goesOn_178 ⟨Nat.le_of_ble_eq_true rfl, Nat.le_of_ble_eq_true rfl⟩) (fun S_2298 hw_2298 H locs hP hS => ?_)
            obtain ⟨I_2298, m_2298, w_2298_0, w_2298_1, -⟩ := hw_2298
            have M_2298 := dg_sm.tr M_2294 m_2298 (by decide) (by decide)
            obtain ⟨y_2299, y_2300, y_2301, f_y_2299, f_y_2300, f_y_2301, w_2298_0⟩ := w_2298_0
            have w_2298_0 : (se).toInt ≤ (y_2300).toInt ∧ (y_2300).toInt ≤ (y_2301).toInt ∧ (y_2301).toInt ≤ (sl).toInt ∧ ((y_2299).toInt ≠ 0 → (y_2300).toInt + 1 ≤ (y_2301).toInt) := w_2298_0
            obtain ⟨w_2298_0_0, w_2298_0_1, w_2298_0_2, w_2298_0_3⟩ := w_2298_0
            have lxh_w_2298_0_3 : m_hid ((y_2300).toInt ≤ (y_2301).toInt ∧ (y_2301).toInt ≤ (sl).toInt ∧ ((y_2299).toInt ≠ 0 → (y_2300).toInt + 1 ≤ (y_2301).toInt)) := m_hid.mk ⟨w_2298_0_1, w_2298_0_2, w_2298_0_3⟩
            have b_y_2299 : 0 ≤ (y_2299).toInt ∧ (y_2299).toInt ≤ 3 := dg_I.intb (lo := 0) (hi := 3) I_2298 sM_0 (by decide +kernel) f_y_2299
            have b_y_2300 : 0 ≤ (y_2300).toInt ∧ (y_2300).toInt ≤ 1600 := dg_I.intb (lo := 0) (hi := 1600) I_2298 sM_0 (by decide +kernel) f_y_2300
            have b_y_2301 : 0 ≤ (y_2301).toInt ∧ (y_2301).toInt ≤ 1600 := dg_I.intb (lo := 0) (hi := 1600) I_2298 sM_0 (by decide +kernel) f_y_2301
            replace w_2298_1 : TNX tb tn se S_2298 := w_2298_1
            obtain ⟨TK_2298, nx_2298, -⟩ := TKM.nx (TKM.keep (TKM.keep (TKM.keep TK m_2 (by decide) (by decide) (by decide) (by decide) (by decide) (by decide) (by decide) (by decide)) m_2265 (by decide) (by decide) (by decide) (by decide) (by decide) (by decide) (by decide) (by decide)) m_2294 (by decide) (by decide) (by decide) (by decide) (by decide) (by decide) (by decide) (by decide)) (((m_2294.1 0 4 _ sM_0 (by decide)).trans ((m_2265.1 0 4 _ sM_0 (by decide)).trans (m_2.1 0 4 _ sM_0 (by decide)))).trans f_sa) (((m_2294.1 0 5 _ sM_0 (by decide)).trans ((m_2265.1 0 5 _ sM_0 (by decide)).trans (m_2.1 0 5 _ sM_0 (by decide)))).trans f_se) w_2298_1 m_2298 (by decide) (by decide) f_y_2300
            replace nx_2298 := nx_2298 (fun q9 => absurd ((TKM.zero (TKM.keep (TKM.keep (TKM.keep TK m_2 (by decide) (by decide) (by decide) (by decide) (by decide) (by decide) (by decide) (by decide)) m_2265 (by decide) (by decide) (by decide) (by decide) (by decide) (by decide) (by decide) (by decide)) m_2294 (by decide) (by decide) (by decide) (by decide) (by decide) (by decide) (by decide) (by decide)) (((m_2294.1 0 3 _ sM_0 (by decide)).trans ((m_2265.1 0 3 _ sM_0 (by decide)).trans (m_2.1 0 3 _ sM_0 (by decide)))).trans f_sg) (((m_2294.1 0 4 _ sM_0 (by decide)).trans ((m_2265.1 0 4 _ sM_0 (by decide)).trans (m_2.1 0 4 _ sM_0 (by decide)))).trans f_sa)).mpr q9) (by omega))
            refine lv_aload_n hx hb dX12_goesOn_181 rfl (lv_at hl 3 rfl) ?_
            refine lv_iconst (v := 0) hx hb dX12_goesOn_182 (by decide +kernel) ?_
            have hz_2302 : (0 : Int32).toInt = 0 := by decide +kernel
            refine dg_put (ci := 12) (v := .int 0) (ty := tyX12 46) (C := RX12) (T := TX12) (N := 77) hx hb hts (fun w h => bw_mem (wU_X12 w h)) tyX12 tyX12_ok nmX12 hown K hP hS hA1 sM_0 rfl 46 (by decide) (hts _ (bw_mem wB_440)) (fun _ h9 => h9) rfl (by decide +kernel) (by decide +kernel) (by decide +kernel) dX12_goesOn_183 (fun S_2303 e_2303 H locs hP hS => ?_)
            have I_2303 := dg_I.uFi (lo := 0) (hi := 1) I_2298 e_2303 sM_0 (by decide +kernel) (show 0 ≤ ((0 : Int32)).toInt ∧ ((0 : Int32)).toInt ≤ 1 from (by decide +kernel))
            have M_2303 := dg_sm.uF M_2298 e_2303 sM_0 (by decide)
            refine lv_iconst (v := 1) hx hb dX12_goesOn_186 (by decide +kernel) ?_
            have hz_2304 : (1 : Int32).toInt = 1 := by decide +kernel
            have hz_2305 : (1 : Int32).toInt = 1 := by decide +kernel
            have hz_2306 : (0 : Int32).toInt = 0 := by decide +kernel
            have hz_2307 : (1 : Int32).toInt = 1 := by decide +kernel
            have hz_2308 : (0 : Int32).toInt = 0 := by decide +kernel
            have hz_2309 : (1 : Int32).toInt = 1 := by decide +kernel
            have hz_2310 : (1 : Int32).toInt = 1 := by decide +kernel
            have hz_2311 : (0 : Int32).toInt = 0 := by decide +kernel
            refine W.widen (k := 0) (n := 0) (Nat.le_of_ble_eq_true rfl) (Nat.le_of_ble_eq_true rfl) ?_
            rw [hQ9]
            exact dg_iret hx hb hr hlocks (by decide +kernel) hP hS ⟨I_2303, M_2303, (by decide +kernel), ⟨y_2299, y_2300, y_2301, y_3, y_2267, dp, y_2296, 0, ((dg_uF_ne e_2303 (fun z => absurd z.2 (by decide))).trans f_y_2299), ((dg_uF_ne e_2303 (fun z => absurd z.2 (by decide))).trans f_y_2300), ((dg_uF_ne e_2303 (fun z => absurd z.2 (by decide))).trans f_y_2301), (((dg_uF_ne e_2303 (fun z => absurd z.2 (by decide))).trans ((m_2298.1 0 8 _ sM_0 (by decide)).trans ((m_2294.1 0 8 _ sM_0 (by decide)).trans (m_2265.1 0 8 _ sM_0 (by decide))))).trans f_y_3), (((dg_uF_ne e_2303 (fun z => absurd z.2 (by decide))).trans ((m_2298.1 0 34 _ sM_0 (by decide)).trans (m_2294.1 0 34 _ sM_0 (by decide)))).trans f_y_2267), (((dg_uF_ne e_2303 (fun z => absurd z.2 (by decide))).trans ((m_2298.1 0 42 _ sM_0 (by decide)).trans ((m_2294.1 0 42 _ sM_0 (by decide)).trans ((m_2265.1 0 42 _ sM_0 (by decide)).trans (m_2.1 0 42 _ sM_0 (by decide)))))).trans f_dp), (((dg_uF_ne e_2303 (fun z => absurd z.2 (by decide))).trans (m_2298.1 0 45 _ sM_0 (by decide))).trans f_y_2296), (dg_uF_at e_2303), ⟨lxh_w_2298_0_3.out, (by omega)⟩⟩, (fun k9 hk9 hk0 => POM.mk0 (P0M.keep (P0M.keep P0_2294 m_2298 (by decide) (by decide) (by decide) (by decide) (by decide) (by decide) (by decide) (by decide) (by decide) (by decide) (by decide) (by decide) (by decide) (by decide) (by decide)) (dg_sm.uF (WF := [(0, 46)]) (WA := []) dg_sm.rf e_2303 sM_0 (by decide)) (by decide) (by decide) (by decide) (by decide) (by decide) (by decide) (by decide) (by decide) (by decide) (by decide) (by decide) (by decide) (by decide) (by decide) (by decide)) (dg_uF_at e_2303) (by omega)), (GOK.ok f_sa (((dg_uF_ne e_2303 (fun z => absurd z.2 (by decide))).trans ((m_2298.1 0 8 _ sM_0 (by decide)).trans ((m_2294.1 0 8 _ sM_0 (by decide)).trans (m_2265.1 0 8 _ sM_0 (by decide))))).trans f_y_3) ((dg_uF_ne e_2303 (fun z => absurd z.2 (by decide))).trans f_y_2300) (dg_uF_at e_2303) (by omega) hM0 (TFM.keep (TFM.keep TF_2294 m_2298 (by decide) (by decide) (by decide) (by decide) (by decide) (by decide) (by decide) (by decide)) (dg_sm.uF (WF := [(0, 46)]) (WA := []) dg_sm.rf e_2303 sM_0 (by decide)) (by decide) (by decide) (by decide) (by decide) (by decide) (by decide) (by decide) (by decide)) (m_st_t.trans (m_go_op (by omega) hop.out)) (by omega) (by decide +kernel) (by first | decide +kernel | exact decide_eq_true (by omega))), (TKM.keep TK_2298 (dg_sm.uF (WF := [(0, 46)]) (WA := []) dg_sm.rf e_2303 sM_0 (by decide)) (by decide) (by decide) (by decide) (by decide) (by decide) (by decide) (by decide) (by decide)), (ZWM.keep (ZWM.keep (ZWM.keep w_2265_3 m_2294 (by decide) (by decide) (by decide) (by decide)) m_2298 (by decide) (by decide) (by decide) (by decide)) (dg_sm.uF (WF := [(0, 46)]) (WA := []) dg_sm.rf e_2303 sM_0 (by decide)) (by decide) (by decide) (by decide) (by decide)), trivial⟩ dX12_goesOn_187
          refine lv_if_eq (tgt := 130) hx hb dX12_goesOn_122 (by decide) (fun c_2312 => ?_) (fun c_2312 => ?_)
          · have jc_2312 := dk_eqc (k := 0) (by decide +kernel) c_2312
            have w_2272_1_r : (va).toInt ≠ 43 := fun q9 => absurd (w_2272_1.mpr ⟨by omega, by omega⟩) (by omega)
            clear w_2272_1
            omega
          · have jc_2312 := dk_neqc (k := 0) (by decide +kernel) c_2312
            have jbc_2312 : 1 ≤ (x_2271).toInt := by omega
            clear jc_2312
            have w_2272_1_r := w_2272_1.mp (by omega)
            obtain ⟨w_2272_1_r1, w_2272_1_r2⟩ := w_2272_1_r
            clear w_2272_1
            refine lv_bipush (v := 31) hx hb dX12_goesOn_125 (by decide +kernel) ?_
            refine lv_goto (tgt := 174) hx hb dX12_goesOn_127 (by decide) ?_
            exact J_2293   _ _ hP hS _ (lv_sub hl [0, 1, 2, 3] rfl)
        · have jc_2263 := dk_eqc (k := 0) (by decide +kernel) c_2263
          have w_2261_1_r : (va).toInt ≠ 43 := fun q9 => absurd (w_2261_1.mpr ⟨by omega, by omega⟩) (by omega)
          clear w_2261_1
          refine lv_aload_n hx hb dX12_goesOn_97 rfl (lv_at hl 3 rfl) ?_
          refine lv_bipush (v := 45) hx hb dX12_goesOn_98 (by decide +kernel) ?_
          refine dg_calli hS hA1 hA (va_runV (As := [.int 45]) (rest := [.ref (o + 0)]) F (c_m_isSign l g D o S_2 45 sg ((m_2.1 0 3 _ sM_0 (by decide)).trans f_sg) (by omega) va ((m_2.1 0 6 _ sM_0 (by decide)).trans f_va) (by omega) I_2 H.size) (cwV 1 hts (bw_V wB_314 wB_315 wB_316 wB_297 wB_313) rfl rfl rfl (by decide +kernel) ⟨Nat.le_of_ble_eq_true rfl, Nat.le_of_ble_eq_true rfl⟩) (dg_preV sM_0 rfl K ST hP hS hA1 hA) rfl rfl hl.1 rfl (lv_room (Nat.le_of_ble_eq_true rfl)) dX12_goesOn_100 ⟨Nat.le_of_ble_eq_true rfl, Nat.le_of_ble_eq_true rfl⟩) (fun x_2313 S_2314 hw_2314 H locs hP hS => ?_)
          rw [hw_2314.1] at hP
          obtain ⟨hq_2314, w_2314_0, w_2314_1, -⟩ := hw_2314
          have hz_2315 : (45 : Int32).toInt = 45 := by decide +kernel
          have w_2314_0 : 0 ≤ (x_2313).toInt ∧ (x_2313).toInt ≤ 1 := w_2314_0
          have w_2314_1 : (x_2313).toInt = 1 ↔ ((sg).toInt = 3 ∧ (va).toInt = ((45 : Int32)).toInt) := w_2314_1
          refine lv_if_eq (tgt := 110) hx hb dX12_goesOn_103 (by decide) (fun c_2316 => ?_) (fun c_2316 => ?_)
          · have jc_2316 := dk_eqc (k := 0) (by decide +kernel) c_2316
            have w_2314_1_r : (va).toInt ≠ 45 := fun q9 => absurd (w_2314_1.mpr ⟨by omega, by omega⟩) (by omega)
            clear w_2314_1
            refine lv_bipush (v := 6) hx hb dX12_goesOn_110 (by decide +kernel) ?_
            have hz_2317 : (6 : Int32).toInt = 6 := by decide +kernel
            refine dg_callv hS hA1 hA (va_runV (As := [.int 6]) (rest := []) F (c_m_joins l g D o S_2 6 (by decide +kernel) cd ((m_2.1 0 34 _ sM_0 (by decide)).trans f_cd) (by omega) om ((m_2.1 0 45 _ sM_0 (by decide)).trans f_om) (by omega) (by omega) (ZWM.keep ZW m_2 (by decide) (by decide) (by decide) (by decide)) (ZKM.keep ZK m_2 (by decide) (by decide)) (P1M.keep P1 m_2 (by decide) (by decide) (by decide) (by decide) (by decide) (by decide) (by decide) (by decide) (by decide) (by decide) (by decide) (by decide) (by decide) (by decide) (by decide)) I_2 H.size) (cwV 1 hts (bw_V wB_437 wB_438 wB_439 wB_297 wB_436) rfl rfl rfl (by decide +kernel) ⟨Nat.le_of_ble_eq_true rfl, Nat.le_of_ble_eq_true rfl⟩) (dg_preV sM_0 rfl K ST hP hS hA1 hA) rfl rfl hl.1 rfl (lv_room (Nat.le_of_ble_eq_true rfl)) dX12_goesOn_112 ⟨Nat.le_of_ble_eq_true rfl, Nat.le_of_ble_eq_true rfl⟩) (fun S_2318 hw_2318 H locs hP hS => ?_)
            obtain ⟨I_2318, m_2318, w_2318_0, w_2318_1, w_2318_2, w_2318_3, w_2318_4, -⟩ := hw_2318
            have M_2318 := dg_sm.tr M_2 m_2318 (by decide) (by decide)
            have hz_2319 : (6 : Int32).toInt = 6 := by decide +kernel
            obtain ⟨y_2320, y_2321, f_y_2320, f_y_2321, w_2318_0⟩ := w_2318_0
            have w_2318_0 : (y_2320).toInt + (y_2321).toInt = (cd).toInt + (om).toInt := w_2318_0
            have b_y_2320 : 0 ≤ (y_2320).toInt ∧ (y_2320).toInt ≤ 1600 := dg_I.intb (lo := 0) (hi := 1600) I_2318 sM_0 (by decide +kernel) f_y_2320
            have b_y_2321 : 0 ≤ (y_2321).toInt ∧ (y_2321).toInt ≤ 500 := dg_I.intb (lo := 0) (hi := 500) I_2318 sM_0 (by decide +kernel) f_y_2321
            replace w_2318_1 : TOPM S_2318 (6 : Int32) := w_2318_1
            obtain ⟨x_2322, f_x_2322, b_x_2322⟩ := dg_I.int (i := 0) (k := 43) (lo := (-2147483648)) (hi := 2147483647) I_2318 sM_0 (by decide +kernel)
            replace w_2318_2 : JNM S_2 S_2318 (6 : Int32) := w_2318_2
            have TF_2318 : TFM (x_7).toInt (x_11).toInt bg0 nt0 R0 (on).toNatClampNeg S_2318 := (TFM.join TF0 (P1M.keep P1 m_2 (by decide) (by decide) (by decide) (by decide) (by decide) (by decide) (by decide) (by decide) (by decide) (by decide) (by decide) (by decide) (by decide) (by decide) (by decide)) ((m_2.1 0 42 _ sM_0 (by decide)).trans f_dp) ((m_2.1 0 43 _ sM_0 (by decide)).trans f_on) ((m_2.1 0 45 _ sM_0 (by decide)).trans f_om) w_2318_2 w_2318_1 m_2318 (by decide) (by decide) (by decide) (by decide) (by decide) (by decide)).1 (by decide +kernel)
            have hdm_2322 := PSM.dims w_2318_4 (((m_2318.1 0 42 _ sM_0 (by decide)).trans (m_2.1 0 42 _ sM_0 (by decide))).trans f_dp) f_x_2322 f_y_2321
            refine lv_aload_n hx hb dX12_goesOn_115 rfl (lv_at hl 3 rfl) ?_
            refine lv_aload_n hx hb dX12_goesOn_116 rfl (lv_at hl 3 rfl) ?_
            refine lv_bipush (v := 43) hx hb dX12_goesOn_117 (by decide +kernel) ?_
            refine dg_calli hS hA1 hA (va_runV (As := [.int 43]) (rest := [.ref (o + 0)]) F (c_m_isSign l g D o S_2318 43 sg (((m_2318.1 0 3 _ sM_0 (by decide)).trans (m_2.1 0 3 _ sM_0 (by decide))).trans f_sg) (by omega) va (((m_2318.1 0 6 _ sM_0 (by decide)).trans (m_2.1 0 6 _ sM_0 (by decide))).trans f_va) (by omega) I_2318 H.size) (cwV 1 hts (bw_V wB_314 wB_315 wB_316 wB_297 wB_313) rfl rfl rfl (by decide +kernel) ⟨Nat.le_of_ble_eq_true rfl, Nat.le_of_ble_eq_true rfl⟩) (dg_preV sM_0 rfl K ST hP hS hA1 hA) rfl rfl hl.1 rfl (lv_room (Nat.le_of_ble_eq_true rfl)) dX12_goesOn_119 ⟨Nat.le_of_ble_eq_true rfl, Nat.le_of_ble_eq_true rfl⟩) (fun x_2324 S_2325 hw_2325 H locs hP hS => ?_)
            rw [hw_2325.1] at hP
            obtain ⟨hq_2325, w_2325_0, w_2325_1, -⟩ := hw_2325
            have hz_2326 : (43 : Int32).toInt = 43 := by decide +kernel
            have w_2325_0 : 0 ≤ (x_2324).toInt ∧ (x_2324).toInt ≤ 1 := w_2325_0
            have w_2325_1 : (x_2324).toInt = 1 ↔ ((sg).toInt = 3 ∧ (va).toInt = ((43 : Int32)).toInt) := w_2325_1
            have J_2357 : ∀ (x_2340 : Int32), (33 ≤ (x_2340).toInt ∧ (x_2340).toInt ≤ 35) → (33 ≤ (x_2340 : Int32).toInt ∧ (x_2340 : Int32).toInt ≤ 35) → ∀ (H : Heap) (locs : List Loc), va_P D vwCl (dg_w g shM o rfM S_2318) H → va_S A s.heap H locs → ∀ ls : Array Slot, lv_has ls 5 [(3, .int x_8), (2, .int x_7), (1, .int x_5), (0, .ref (o + 0))] → W p l e ({ frames := 3, cells := 0, slots := 0, locals := 77 } : Room) s m args below meth c H locs 0 0 Q9 (F0 m 174 ls [.int x_2340, .ref (o + 0)]) := by
              clear rel_1 w_2261_1_r w_2314_1_r
              intro x_2340 b_x_2340 rel_0 H locs hP hS ls hl
              clear w_2325_1
              refine dg_callv hS hA1 hA (va_runV (As := [.int x_2340]) (rest := []) F (c_m_holdsBack l g D o S_2318 x_2340 y_2321 f_y_2321 (by omega) I_2318 H.size) (cwV 1 hts (bw_V wB_427 wB_428 wB_429 wB_297 wB_426) rfl rfl rfl (by decide +kernel) ⟨Nat.le_of_ble_eq_true rfl, Nat.le_of_ble_eq_true rfl⟩) (dg_preV sM_0 rfl K ST hP hS hA1 hA) rfl rfl hl.1 rfl (lv_room (Nat.le_of_ble_eq_true rfl)) dX12_goesOn_174 ⟨Nat.le_of_ble_eq_true rfl, Nat.le_of_ble_eq_true rfl⟩) (fun S_2358 hw_2358 H locs hP hS => ?_)
              obtain ⟨I_2358, m_2358, w_2358_0, w_2358_1, -⟩ := hw_2358
              have M_2358 := dg_sm.tr M_2318 m_2358 (by decide) (by decide)
              obtain ⟨y_2359, f_y_2359, w_2358_0⟩ := w_2358_0
              have w_2358_0 : (y_2359).toInt = (y_2321).toInt + 1 := w_2358_0
              have b_y_2359 : 0 ≤ (y_2359).toInt ∧ (y_2359).toInt ≤ 500 := dg_I.intb (lo := 0) (hi := 500) I_2358 sM_0 (by decide +kernel) f_y_2359
              replace w_2358_1 : HBM S_2318 S_2358 x_2340 := w_2358_1
              have P0_2358 : P0M S_2358 := P1M.bin w_2318_4 (((m_2318.1 0 42 _ sM_0 (by decide)).trans (m_2.1 0 42 _ sM_0 (by decide))).trans f_dp) f_x_2322 f_y_2321 w_2318_1 m_2358 w_2358_1 (by omega)
              have TF_2358 : TFM (x_7).toInt (x_11).toInt bg0 nt0 R0 (on).toNatClampNeg S_2358 := (by have h9 := TFM.hb TF_2318 (((m_2318.1 0 42 _ sM_0 (by decide)).trans (m_2.1 0 42 _ sM_0 (by decide))).trans f_dp) f_x_2322 f_y_2321 (by omega) m_2358 w_2358_1; rw [if_neg (by omega)] at h9; exact h9)
              refine lv_aload_n hx hb dX12_goesOn_177 rfl (lv_at hl 3 rfl) ?_
              refine dg_callv hS hA1 hA (va_runV (As := []) (rest := []) F (c_m_ahead l g D o S_2358 tb tn se (((m_2358.1 0 5 _ sM_0 (by decide)).trans ((m_2318.1 0 5 _ sM_0 (by decide)).trans (m_2.1 0 5 _ sM_0 (by decide)))).trans f_se) (by omega) sl (((m_2358.1 0 2 _ sM_0 (by decide)).trans ((m_2318.1 0 2 _ sM_0 (by decide)).trans (m_2.1 0 2 _ sM_0 (by decide)))).trans f_sl) (by omega) (by omega) (TKM.keep (TKM.keep (TKM.keep TK m_2 (by decide) (by decide) (by decide) (by decide) (by decide) (by decide) (by decide) (by decide)) m_2318 (by decide) (by decide) (by decide) (by decide) (by decide) (by decide) (by decide) (by decide)) m_2358 (by decide) (by decide) (by decide) (by decide) (by decide) (by decide) (by decide) (by decide)).1 I_2358 H.size) (cwV 0 hts (bw_V wB_318 wB_319 wB_320 wB_297 wB_317) rfl rfl rfl (by decide +kernel) ⟨Nat.le_of_ble_eq_true rfl, Nat.le_of_ble_eq_true rfl⟩) (dg_preV sM_0 rfl K ST hP hS hA1 hA) rfl rfl hl.1 rfl (lv_room (Nat.le_of_ble_eq_true rfl)) dX12_goesOn_178 ⟨Nat.le_of_ble_eq_true rfl, Nat.le_of_ble_eq_true rfl⟩) (fun S_2360 hw_2360 H locs hP hS => ?_)
              obtain ⟨I_2360, m_2360, w_2360_0, w_2360_1, -⟩ := hw_2360
              have M_2360 := dg_sm.tr M_2358 m_2360 (by decide) (by decide)
              obtain ⟨y_2361, y_2362, y_2363, f_y_2361, f_y_2362, f_y_2363, w_2360_0⟩ := w_2360_0
              have w_2360_0 : (se).toInt ≤ (y_2362).toInt ∧ (y_2362).toInt ≤ (y_2363).toInt ∧ (y_2363).toInt ≤ (sl).toInt ∧ ((y_2361).toInt ≠ 0 → (y_2362).toInt + 1 ≤ (y_2363).toInt) := w_2360_0
              obtain ⟨w_2360_0_0, w_2360_0_1, w_2360_0_2, w_2360_0_3⟩ := w_2360_0
              have lxh_w_2360_0_3 : m_hid ((y_2362).toInt ≤ (y_2363).toInt ∧ (y_2363).toInt ≤ (sl).toInt ∧ ((y_2361).toInt ≠ 0 → (y_2362).toInt + 1 ≤ (y_2363).toInt)) := m_hid.mk ⟨w_2360_0_1, w_2360_0_2, w_2360_0_3⟩
              have b_y_2361 : 0 ≤ (y_2361).toInt ∧ (y_2361).toInt ≤ 3 := dg_I.intb (lo := 0) (hi := 3) I_2360 sM_0 (by decide +kernel) f_y_2361
              have b_y_2362 : 0 ≤ (y_2362).toInt ∧ (y_2362).toInt ≤ 1600 := dg_I.intb (lo := 0) (hi := 1600) I_2360 sM_0 (by decide +kernel) f_y_2362
              have b_y_2363 : 0 ≤ (y_2363).toInt ∧ (y_2363).toInt ≤ 1600 := dg_I.intb (lo := 0) (hi := 1600) I_2360 sM_0 (by decide +kernel) f_y_2363
              replace w_2360_1 : TNX tb tn se S_2360 := w_2360_1
              obtain ⟨TK_2360, nx_2360, -⟩ := TKM.nx (TKM.keep (TKM.keep (TKM.keep TK m_2 (by decide) (by decide) (by decide) (by decide) (by decide) (by decide) (by decide) (by decide)) m_2318 (by decide) (by decide) (by decide) (by decide) (by decide) (by decide) (by decide) (by decide)) m_2358 (by decide) (by decide) (by decide) (by decide) (by decide) (by decide) (by decide) (by decide)) (((m_2358.1 0 4 _ sM_0 (by decide)).trans ((m_2318.1 0 4 _ sM_0 (by decide)).trans (m_2.1 0 4 _ sM_0 (by decide)))).trans f_sa) (((m_2358.1 0 5 _ sM_0 (by decide)).trans ((m_2318.1 0 5 _ sM_0 (by decide)).trans (m_2.1 0 5 _ sM_0 (by decide)))).trans f_se) w_2360_1 m_2360 (by decide) (by decide) f_y_2362
              replace nx_2360 := nx_2360 (fun q9 => absurd ((TKM.zero (TKM.keep (TKM.keep (TKM.keep TK m_2 (by decide) (by decide) (by decide) (by decide) (by decide) (by decide) (by decide) (by decide)) m_2318 (by decide) (by decide) (by decide) (by decide) (by decide) (by decide) (by decide) (by decide)) m_2358 (by decide) (by decide) (by decide) (by decide) (by decide) (by decide) (by decide) (by decide)) (((m_2358.1 0 3 _ sM_0 (by decide)).trans ((m_2318.1 0 3 _ sM_0 (by decide)).trans (m_2.1 0 3 _ sM_0 (by decide)))).trans f_sg) (((m_2358.1 0 4 _ sM_0 (by decide)).trans ((m_2318.1 0 4 _ sM_0 (by decide)).trans (m_2.1 0 4 _ sM_0 (by decide)))).trans f_sa)).mpr q9) (by omega))
              refine lv_aload_n hx hb dX12_goesOn_181 rfl (lv_at hl 3 rfl) ?_
              refine lv_iconst (v := 0) hx hb dX12_goesOn_182 (by decide +kernel) ?_
              have hz_2364 : (0 : Int32).toInt = 0 := by decide +kernel
              refine dg_put (ci := 12) (v := .int 0) (ty := tyX12 46) (C := RX12) (T := TX12) (N := 77) hx hb hts (fun w h => bw_mem (wU_X12 w h)) tyX12 tyX12_ok nmX12 hown K hP hS hA1 sM_0 rfl 46 (by decide) (hts _ (bw_mem wB_440)) (fun _ h9 => h9) rfl (by decide +kernel) (by decide +kernel) (by decide +kernel) dX12_goesOn_183 (fun S_2365 e_2365 H locs hP hS => ?_)
              have I_2365 := dg_I.uFi (lo := 0) (hi := 1) I_2360 e_2365 sM_0 (by decide +kernel) (show 0 ≤ ((0 : Int32)).toInt ∧ ((0 : Int32)).toInt ≤ 1 from (by decide +kernel))
              have M_2365 := dg_sm.uF M_2360 e_2365 sM_0 (by decide)
              refine lv_iconst (v := 1) hx hb dX12_goesOn_186 (by decide +kernel) ?_
              have hz_2366 : (1 : Int32).toInt = 1 := by decide +kernel
              have hz_2367 : (1 : Int32).toInt = 1 := by decide +kernel
              have hz_2368 : (0 : Int32).toInt = 0 := by decide +kernel
              have hz_2369 : (1 : Int32).toInt = 1 := by decide +kernel
              have hz_2370 : (0 : Int32).toInt = 0 := by decide +kernel
              have hz_2371 : (1 : Int32).toInt = 1 := by decide +kernel
              have hz_2372 : (1 : Int32).toInt = 1 := by decide +kernel
              have hz_2373 : (0 : Int32).toInt = 0 := by decide +kernel
              refine W.widen (k := 0) (n := 0) (Nat.le_of_ble_eq_true rfl) (Nat.le_of_ble_eq_true rfl) ?_
              rw [hQ9]
              exact dg_iret hx hb hr hlocks (by decide +kernel) hP hS ⟨I_2365, M_2365, (by decide +kernel), ⟨y_2361, y_2362, y_2363, y_3, y_2320, dp, y_2359, 0, ((dg_uF_ne e_2365 (fun z => absurd z.2 (by decide))).trans f_y_2361), ((dg_uF_ne e_2365 (fun z => absurd z.2 (by decide))).trans f_y_2362), ((dg_uF_ne e_2365 (fun z => absurd z.2 (by decide))).trans f_y_2363), (((dg_uF_ne e_2365 (fun z => absurd z.2 (by decide))).trans ((m_2360.1 0 8 _ sM_0 (by decide)).trans ((m_2358.1 0 8 _ sM_0 (by decide)).trans (m_2318.1 0 8 _ sM_0 (by decide))))).trans f_y_3), (((dg_uF_ne e_2365 (fun z => absurd z.2 (by decide))).trans ((m_2360.1 0 34 _ sM_0 (by decide)).trans (m_2358.1 0 34 _ sM_0 (by decide)))).trans f_y_2320), (((dg_uF_ne e_2365 (fun z => absurd z.2 (by decide))).trans ((m_2360.1 0 42 _ sM_0 (by decide)).trans ((m_2358.1 0 42 _ sM_0 (by decide)).trans ((m_2318.1 0 42 _ sM_0 (by decide)).trans (m_2.1 0 42 _ sM_0 (by decide)))))).trans f_dp), (((dg_uF_ne e_2365 (fun z => absurd z.2 (by decide))).trans (m_2360.1 0 45 _ sM_0 (by decide))).trans f_y_2359), (dg_uF_at e_2365), ⟨lxh_w_2360_0_3.out, (by omega)⟩⟩, (fun k9 hk9 hk0 => POM.mk0 (P0M.keep (P0M.keep P0_2358 m_2360 (by decide) (by decide) (by decide) (by decide) (by decide) (by decide) (by decide) (by decide) (by decide) (by decide) (by decide) (by decide) (by decide) (by decide) (by decide)) (dg_sm.uF (WF := [(0, 46)]) (WA := []) dg_sm.rf e_2365 sM_0 (by decide)) (by decide) (by decide) (by decide) (by decide) (by decide) (by decide) (by decide) (by decide) (by decide) (by decide) (by decide) (by decide) (by decide) (by decide) (by decide)) (dg_uF_at e_2365) (by omega)), (GOK.ok f_sa (((dg_uF_ne e_2365 (fun z => absurd z.2 (by decide))).trans ((m_2360.1 0 8 _ sM_0 (by decide)).trans ((m_2358.1 0 8 _ sM_0 (by decide)).trans (m_2318.1 0 8 _ sM_0 (by decide))))).trans f_y_3) ((dg_uF_ne e_2365 (fun z => absurd z.2 (by decide))).trans f_y_2362) (dg_uF_at e_2365) (by omega) hM0 (TFM.keep (TFM.keep TF_2358 m_2360 (by decide) (by decide) (by decide) (by decide) (by decide) (by decide) (by decide) (by decide)) (dg_sm.uF (WF := [(0, 46)]) (WA := []) dg_sm.rf e_2365 sM_0 (by decide)) (by decide) (by decide) (by decide) (by decide) (by decide) (by decide) (by decide) (by decide)) (m_st_t.trans (m_go_op (by omega) hop.out)) (by omega) (by decide +kernel) (by first | decide +kernel | exact decide_eq_true (by omega))), (TKM.keep TK_2360 (dg_sm.uF (WF := [(0, 46)]) (WA := []) dg_sm.rf e_2365 sM_0 (by decide)) (by decide) (by decide) (by decide) (by decide) (by decide) (by decide) (by decide) (by decide)), (ZWM.keep (ZWM.keep (ZWM.keep w_2318_3 m_2358 (by decide) (by decide) (by decide) (by decide)) m_2360 (by decide) (by decide) (by decide) (by decide)) (dg_sm.uF (WF := [(0, 46)]) (WA := []) dg_sm.rf e_2365 sM_0 (by decide)) (by decide) (by decide) (by decide) (by decide)), trivial⟩ dX12_goesOn_187
            refine lv_if_eq (tgt := 130) hx hb dX12_goesOn_122 (by decide) (fun c_2374 => ?_) (fun c_2374 => ?_)
            · have jc_2374 := dk_eqc (k := 0) (by decide +kernel) c_2374
              have w_2325_1_r : (va).toInt ≠ 43 := fun q9 => absurd (w_2325_1.mpr ⟨by omega, by omega⟩) (by omega)
              clear w_2325_1
              refine lv_aload_n hx hb dX12_goesOn_130 rfl (lv_at hl 3 rfl) ?_
              refine lv_bipush (v := 45) hx hb dX12_goesOn_131 (by decide +kernel) ?_
              refine dg_calli hS hA1 hA (va_runV (As := [.int 45]) (rest := [.ref (o + 0)]) F (c_m_isSign l g D o S_2318 45 sg (((m_2318.1 0 3 _ sM_0 (by decide)).trans (m_2.1 0 3 _ sM_0 (by decide))).trans f_sg) (by omega) va (((m_2318.1 0 6 _ sM_0 (by decide)).trans (m_2.1 0 6 _ sM_0 (by decide))).trans f_va) (by omega) I_2318 H.size) (cwV 1 hts (bw_V wB_314 wB_315 wB_316 wB_297 wB_313) rfl rfl rfl (by decide +kernel) ⟨Nat.le_of_ble_eq_true rfl, Nat.le_of_ble_eq_true rfl⟩) (dg_preV sM_0 rfl K ST hP hS hA1 hA) rfl rfl hl.1 rfl (lv_room (Nat.le_of_ble_eq_true rfl)) dX12_goesOn_133 ⟨Nat.le_of_ble_eq_true rfl, Nat.le_of_ble_eq_true rfl⟩) (fun x_2375 S_2376 hw_2376 H locs hP hS => ?_)
              rw [hw_2376.1] at hP
              obtain ⟨hq_2376, w_2376_0, w_2376_1, -⟩ := hw_2376
              have hz_2377 : (45 : Int32).toInt = 45 := by decide +kernel
              have w_2376_0 : 0 ≤ (x_2375).toInt ∧ (x_2375).toInt ≤ 1 := w_2376_0
              have w_2376_1 : (x_2375).toInt = 1 ↔ ((sg).toInt = 3 ∧ (va).toInt = ((45 : Int32)).toInt) := w_2376_1
              refine lv_if_eq (tgt := 144) hx hb dX12_goesOn_136 (by decide) (fun c_2378 => ?_) (fun c_2378 => ?_)
              · have jc_2378 := dk_eqc (k := 0) (by decide +kernel) c_2378
                have w_2376_1_r : (va).toInt ≠ 45 := fun q9 => absurd (w_2376_1.mpr ⟨by omega, by omega⟩) (by omega)
                clear w_2376_1
                refine lv_aload_n hx hb dX12_goesOn_144 rfl (lv_at hl 3 rfl) ?_
                refine lv_bipush (v := 42) hx hb dX12_goesOn_145 (by decide +kernel) ?_
                refine dg_calli hS hA1 hA (va_runV (As := [.int 42]) (rest := [.ref (o + 0)]) F (c_m_isSign l g D o S_2318 42 sg (((m_2318.1 0 3 _ sM_0 (by decide)).trans (m_2.1 0 3 _ sM_0 (by decide))).trans f_sg) (by omega) va (((m_2318.1 0 6 _ sM_0 (by decide)).trans (m_2.1 0 6 _ sM_0 (by decide))).trans f_va) (by omega) I_2318 H.size) (cwV 1 hts (bw_V wB_314 wB_315 wB_316 wB_297 wB_313) rfl rfl rfl (by decide +kernel) ⟨Nat.le_of_ble_eq_true rfl, Nat.le_of_ble_eq_true rfl⟩) (dg_preV sM_0 rfl K ST hP hS hA1 hA) rfl rfl hl.1 rfl (lv_room (Nat.le_of_ble_eq_true rfl)) dX12_goesOn_147 ⟨Nat.le_of_ble_eq_true rfl, Nat.le_of_ble_eq_true rfl⟩) (fun x_2379 S_2380 hw_2380 H locs hP hS => ?_)
                rw [hw_2380.1] at hP
                obtain ⟨hq_2380, w_2380_0, w_2380_1, -⟩ := hw_2380
                have hz_2381 : (42 : Int32).toInt = 42 := by decide +kernel
                have w_2380_0 : 0 ≤ (x_2379).toInt ∧ (x_2379).toInt ≤ 1 := w_2380_0
                have w_2380_1 : (x_2379).toInt = 1 ↔ ((sg).toInt = 3 ∧ (va).toInt = ((42 : Int32)).toInt) := w_2380_1
                refine lv_if_eq (tgt := 158) hx hb dX12_goesOn_150 (by decide) (fun c_2382 => ?_) (fun c_2382 => ?_)
                · have jc_2382 := dk_eqc (k := 0) (by decide +kernel) c_2382
                  have w_2380_1_r : (va).toInt ≠ 42 := fun q9 => absurd (w_2380_1.mpr ⟨by omega, by omega⟩) (by omega)
                  clear w_2380_1
                  refine lv_aload_n hx hb dX12_goesOn_158 rfl (lv_at hl 3 rfl) ?_
                  refine lv_bipush (v := 47) hx hb dX12_goesOn_159 (by decide +kernel) ?_
                  refine dg_calli hS hA1 hA (va_runV (As := [.int 47]) (rest := [.ref (o + 0)]) F (c_m_isSign l g D o S_2318 47 sg (((m_2318.1 0 3 _ sM_0 (by decide)).trans (m_2.1 0 3 _ sM_0 (by decide))).trans f_sg) (by omega) va (((m_2318.1 0 6 _ sM_0 (by decide)).trans (m_2.1 0 6 _ sM_0 (by decide))).trans f_va) (by omega) I_2318 H.size) (cwV 1 hts (bw_V wB_314 wB_315 wB_316 wB_297 wB_313) rfl rfl rfl (by decide +kernel) ⟨Nat.le_of_ble_eq_true rfl, Nat.le_of_ble_eq_true rfl⟩) (dg_preV sM_0 rfl K ST hP hS hA1 hA) rfl rfl hl.1 rfl (lv_room (Nat.le_of_ble_eq_true rfl)) dX12_goesOn_161 ⟨Nat.le_of_ble_eq_true rfl, Nat.le_of_ble_eq_true rfl⟩) (fun x_2383 S_2384 hw_2384 H locs hP hS => ?_)
                  rw [hw_2384.1] at hP
                  obtain ⟨hq_2384, w_2384_0, w_2384_1, -⟩ := hw_2384
                  have hz_2385 : (47 : Int32).toInt = 47 := by decide +kernel
                  have w_2384_0 : 0 ≤ (x_2383).toInt ∧ (x_2383).toInt ≤ 1 := w_2384_0
                  have w_2384_1 : (x_2383).toInt = 1 ↔ ((sg).toInt = 3 ∧ (va).toInt = ((47 : Int32)).toInt) := w_2384_1
                  refine lv_if_eq (tgt := 172) hx hb dX12_goesOn_164 (by decide) (fun c_2386 => ?_) (fun c_2386 => ?_)
                  · have jc_2386 := dk_eqc (k := 0) (by decide +kernel) c_2386
                    have w_2384_1_r : (va).toInt ≠ 47 := fun q9 => absurd (w_2384_1.mpr ⟨by omega, by omega⟩) (by omega)
                    clear w_2384_1
                    refine lv_bipush (v := 35) hx hb dX12_goesOn_172 (by decide +kernel) ?_
                    have hz_2387 : (35 : Int32).toInt = 35 := by decide +kernel
                    have hz_2388 : (35 : Int32).toInt = 35 := by decide +kernel
                    exact J_2357 35 (by decide +kernel) (by omega) _ _ hP hS _ (lv_sub hl [0, 1, 2, 3] rfl)
                  · have jc_2386 := dk_neqc (k := 0) (by decide +kernel) c_2386
                    have jbc_2386 : 1 ≤ (x_2383).toInt := by omega
                    clear jc_2386
                    have w_2384_1_r := w_2384_1.mp (by omega)
                    obtain ⟨w_2384_1_r1, w_2384_1_r2⟩ := w_2384_1_r
                    clear rel_1 w_2261_1_r w_2314_1_r w_2325_1_r w_2376_1_r w_2380_1_r
                    clear w_2384_1
                    refine lv_bipush (v := 34) hx hb dX12_goesOn_167 (by decide +kernel) ?_
                    refine lv_goto (tgt := 174) hx hb dX12_goesOn_169 (by decide) ?_
                    have hz_2389 : (34 : Int32).toInt = 34 := by decide +kernel
                    have hz_2390 : (34 : Int32).toInt = 34 := by decide +kernel
                    exact J_2357 34 (by decide +kernel) (by omega) _ _ hP hS _ (lv_sub hl [0, 1, 2, 3] rfl)
                · have jc_2382 := dk_neqc (k := 0) (by decide +kernel) c_2382
                  have jbc_2382 : 1 ≤ (x_2379).toInt := by omega
                  clear jc_2382
                  have w_2380_1_r := w_2380_1.mp (by omega)
                  obtain ⟨w_2380_1_r1, w_2380_1_r2⟩ := w_2380_1_r
                  clear rel_1 w_2261_1_r w_2314_1_r w_2325_1_r w_2376_1_r
                  clear w_2380_1
                  refine lv_bipush (v := 33) hx hb dX12_goesOn_153 (by decide +kernel) ?_
                  refine lv_goto (tgt := 174) hx hb dX12_goesOn_155 (by decide) ?_
                  have hz_2391 : (33 : Int32).toInt = 33 := by decide +kernel
                  have hz_2392 : (33 : Int32).toInt = 33 := by decide +kernel
                  exact J_2357 33 (by decide +kernel) (by omega) _ _ hP hS _ (lv_sub hl [0, 1, 2, 3] rfl)
              · have jc_2378 := dk_neqc (k := 0) (by decide +kernel) c_2378
                have jbc_2378 : 1 ≤ (x_2375).toInt := by omega
                clear jc_2378
                have w_2376_1_r := w_2376_1.mp (by omega)
                obtain ⟨w_2376_1_r1, w_2376_1_r2⟩ := w_2376_1_r
                clear w_2376_1
                omega
            · have jc_2374 := dk_neqc (k := 0) (by decide +kernel) c_2374
              have jbc_2374 : 1 ≤ (x_2324).toInt := by omega
              clear jc_2374
              have w_2325_1_r := w_2325_1.mp (by omega)
              obtain ⟨w_2325_1_r1, w_2325_1_r2⟩ := w_2325_1_r
              clear w_2325_1
              omega
          · have jc_2316 := dk_neqc (k := 0) (by decide +kernel) c_2316
            have jbc_2316 : 1 ≤ (x_2313).toInt := by omega
            clear jc_2316
            have w_2314_1_r := w_2314_1.mp (by omega)
            obtain ⟨w_2314_1_r1, w_2314_1_r2⟩ := w_2314_1_r
            clear rel_1 w_2261_1_r
            clear w_2314_1
            refine lv_iconst (v := 5) hx hb dX12_goesOn_106 (by decide +kernel) ?_
            refine lv_goto (tgt := 112) hx hb dX12_goesOn_107 (by decide) ?_
            have hz_2393 : (5 : Int32).toInt = 5 := by decide +kernel
            refine dg_callv hS hA1 hA (va_runV (As := [.int 5]) (rest := []) F (c_m_joins l g D o S_2 5 (by decide +kernel) cd ((m_2.1 0 34 _ sM_0 (by decide)).trans f_cd) (by omega) om ((m_2.1 0 45 _ sM_0 (by decide)).trans f_om) (by omega) (by omega) (ZWM.keep ZW m_2 (by decide) (by decide) (by decide) (by decide)) (ZKM.keep ZK m_2 (by decide) (by decide)) (P1M.keep P1 m_2 (by decide) (by decide) (by decide) (by decide) (by decide) (by decide) (by decide) (by decide) (by decide) (by decide) (by decide) (by decide) (by decide) (by decide) (by decide)) I_2 H.size) (cwV 1 hts (bw_V wB_437 wB_438 wB_439 wB_297 wB_436) rfl rfl rfl (by decide +kernel) ⟨Nat.le_of_ble_eq_true rfl, Nat.le_of_ble_eq_true rfl⟩) (dg_preV sM_0 rfl K ST hP hS hA1 hA) rfl rfl hl.1 rfl (lv_room (Nat.le_of_ble_eq_true rfl)) dX12_goesOn_112 ⟨Nat.le_of_ble_eq_true rfl, Nat.le_of_ble_eq_true rfl⟩) (fun S_2394 hw_2394 H locs hP hS => ?_)
            obtain ⟨I_2394, m_2394, w_2394_0, w_2394_1, w_2394_2, w_2394_3, w_2394_4, -⟩ := hw_2394
            have M_2394 := dg_sm.tr M_2 m_2394 (by decide) (by decide)
            have hz_2395 : (5 : Int32).toInt = 5 := by decide +kernel
            obtain ⟨y_2396, y_2397, f_y_2396, f_y_2397, w_2394_0⟩ := w_2394_0
            have w_2394_0 : (y_2396).toInt + (y_2397).toInt = (cd).toInt + (om).toInt := w_2394_0
            have b_y_2396 : 0 ≤ (y_2396).toInt ∧ (y_2396).toInt ≤ 1600 := dg_I.intb (lo := 0) (hi := 1600) I_2394 sM_0 (by decide +kernel) f_y_2396
            have b_y_2397 : 0 ≤ (y_2397).toInt ∧ (y_2397).toInt ≤ 500 := dg_I.intb (lo := 0) (hi := 500) I_2394 sM_0 (by decide +kernel) f_y_2397
            replace w_2394_1 : TOPM S_2394 (5 : Int32) := w_2394_1
            obtain ⟨x_2398, f_x_2398, b_x_2398⟩ := dg_I.int (i := 0) (k := 43) (lo := (-2147483648)) (hi := 2147483647) I_2394 sM_0 (by decide +kernel)
            replace w_2394_2 : JNM S_2 S_2394 (5 : Int32) := w_2394_2
            have TF_2394 : TFM (x_7).toInt (x_11).toInt bg0 nt0 R0 (on).toNatClampNeg S_2394 := (TFM.join TF0 (P1M.keep P1 m_2 (by decide) (by decide) (by decide) (by decide) (by decide) (by decide) (by decide) (by decide) (by decide) (by decide) (by decide) (by decide) (by decide) (by decide) (by decide)) ((m_2.1 0 42 _ sM_0 (by decide)).trans f_dp) ((m_2.1 0 43 _ sM_0 (by decide)).trans f_on) ((m_2.1 0 45 _ sM_0 (by decide)).trans f_om) w_2394_2 w_2394_1 m_2394 (by decide) (by decide) (by decide) (by decide) (by decide) (by decide)).1 (by decide +kernel)
            have hdm_2398 := PSM.dims w_2394_4 (((m_2394.1 0 42 _ sM_0 (by decide)).trans (m_2.1 0 42 _ sM_0 (by decide))).trans f_dp) f_x_2398 f_y_2397
            refine lv_aload_n hx hb dX12_goesOn_115 rfl (lv_at hl 3 rfl) ?_
            refine lv_aload_n hx hb dX12_goesOn_116 rfl (lv_at hl 3 rfl) ?_
            refine lv_bipush (v := 43) hx hb dX12_goesOn_117 (by decide +kernel) ?_
            refine dg_calli hS hA1 hA (va_runV (As := [.int 43]) (rest := [.ref (o + 0)]) F (c_m_isSign l g D o S_2394 43 sg (((m_2394.1 0 3 _ sM_0 (by decide)).trans (m_2.1 0 3 _ sM_0 (by decide))).trans f_sg) (by omega) va (((m_2394.1 0 6 _ sM_0 (by decide)).trans (m_2.1 0 6 _ sM_0 (by decide))).trans f_va) (by omega) I_2394 H.size) (cwV 1 hts (bw_V wB_314 wB_315 wB_316 wB_297 wB_313) rfl rfl rfl (by decide +kernel) ⟨Nat.le_of_ble_eq_true rfl, Nat.le_of_ble_eq_true rfl⟩) (dg_preV sM_0 rfl K ST hP hS hA1 hA) rfl rfl hl.1 rfl (lv_room (Nat.le_of_ble_eq_true rfl)) dX12_goesOn_119 ⟨Nat.le_of_ble_eq_true rfl, Nat.le_of_ble_eq_true rfl⟩) (fun x_2400 S_2401 hw_2401 H locs hP hS => ?_)
            rw [hw_2401.1] at hP
            obtain ⟨hq_2401, w_2401_0, w_2401_1, -⟩ := hw_2401
            have hz_2402 : (43 : Int32).toInt = 43 := by decide +kernel
            have w_2401_0 : 0 ≤ (x_2400).toInt ∧ (x_2400).toInt ≤ 1 := w_2401_0
            have w_2401_1 : (x_2400).toInt = 1 ↔ ((sg).toInt = 3 ∧ (va).toInt = ((43 : Int32)).toInt) := w_2401_1
            have J_2426 : ∀ (H : Heap) (locs : List Loc), va_P D vwCl (dg_w g shM o rfM S_2394) H → va_S A s.heap H locs → ∀ ls : Array Slot, lv_has ls 5 [(3, .int x_8), (2, .int x_7), (1, .int x_5), (0, .ref (o + 0))] → W p l e ({ frames := 3, cells := 0, slots := 0, locals := 77 } : Room) s m args below meth c H locs 0 0 Q9 (F0 m 174 ls [.int 32, .ref (o + 0)]) := by
              intro H locs hP hS ls hl
              clear w_2401_1
              refine dg_callv hS hA1 hA (va_runV (As := [.int 32]) (rest := []) F (c_m_holdsBack l g D o S_2394 32 y_2397 f_y_2397 (by omega) I_2394 H.size) (cwV 1 hts (bw_V wB_427 wB_428 wB_429 wB_297 wB_426) rfl rfl rfl (by decide +kernel) ⟨Nat.le_of_ble_eq_true rfl, Nat.le_of_ble_eq_true rfl⟩) (dg_preV sM_0 rfl K ST hP hS hA1 hA) rfl rfl hl.1 rfl (lv_room (Nat.le_of_ble_eq_true rfl)) dX12_goesOn_174 ⟨Nat.le_of_ble_eq_true rfl, Nat.le_of_ble_eq_true rfl⟩) (fun S_2427 hw_2427 H locs hP hS => ?_)
              obtain ⟨I_2427, m_2427, w_2427_0, w_2427_1, -⟩ := hw_2427
              have M_2427 := dg_sm.tr M_2394 m_2427 (by decide) (by decide)
              have hz_2428 : (32 : Int32).toInt = 32 := by decide +kernel
              obtain ⟨y_2429, f_y_2429, w_2427_0⟩ := w_2427_0
              have w_2427_0 : (y_2429).toInt = (y_2397).toInt + 1 := w_2427_0
              have b_y_2429 : 0 ≤ (y_2429).toInt ∧ (y_2429).toInt ≤ 500 := dg_I.intb (lo := 0) (hi := 500) I_2427 sM_0 (by decide +kernel) f_y_2429
              replace w_2427_1 : HBM S_2394 S_2427 (32 : Int32) := w_2427_1
              have P0_2427 : P0M S_2427 := P1M.bin w_2394_4 (((m_2394.1 0 42 _ sM_0 (by decide)).trans (m_2.1 0 42 _ sM_0 (by decide))).trans f_dp) f_x_2398 f_y_2397 w_2394_1 m_2427 w_2427_1 (by omega)
              have hz_2430 : (32 : Int32).toInt = 32 := by decide +kernel
              have TF_2427 : TFM (x_7).toInt (x_11).toInt bg0 nt0 R0 (on).toNatClampNeg S_2427 := (by have h9 := TFM.hb TF_2394 (((m_2394.1 0 42 _ sM_0 (by decide)).trans (m_2.1 0 42 _ sM_0 (by decide))).trans f_dp) f_x_2398 f_y_2397 (by omega) m_2427 w_2427_1; rw [if_neg (by omega)] at h9; exact h9)
              refine lv_aload_n hx hb dX12_goesOn_177 rfl (lv_at hl 3 rfl) ?_
              refine dg_callv hS hA1 hA (va_runV (As := []) (rest := []) F (c_m_ahead l g D o S_2427 tb tn se (((m_2427.1 0 5 _ sM_0 (by decide)).trans ((m_2394.1 0 5 _ sM_0 (by decide)).trans (m_2.1 0 5 _ sM_0 (by decide)))).trans f_se) (by omega) sl (((m_2427.1 0 2 _ sM_0 (by decide)).trans ((m_2394.1 0 2 _ sM_0 (by decide)).trans (m_2.1 0 2 _ sM_0 (by decide)))).trans f_sl) (by omega) (by omega) (TKM.keep (TKM.keep (TKM.keep TK m_2 (by decide) (by decide) (by decide) (by decide) (by decide) (by decide) (by decide) (by decide)) m_2394 (by decide) (by decide) (by decide) (by decide) (by decide) (by decide) (by decide) (by decide)) m_2427 (by decide) (by decide) (by decide) (by decide) (by decide) (by decide) (by decide) (by decide)).1 I_2427 H.size) (cwV 0 hts (bw_V wB_318 wB_319 wB_320 wB_297 wB_317) rfl rfl rfl (by decide +kernel) ⟨Nat.le_of_ble_eq_true rfl, Nat.le_of_ble_eq_true rfl⟩) (dg_preV sM_0 rfl K ST hP hS hA1 hA) rfl rfl hl.1 rfl (lv_room (Nat.le_of_ble_eq_true rfl)) dX12_goesOn_178 ⟨Nat.le_of_ble_eq_true rfl, Nat.le_of_ble_eq_true rfl⟩) (fun S_2431 hw_2431 H locs hP hS => ?_)
              obtain ⟨I_2431, m_2431, w_2431_0, w_2431_1, -⟩ := hw_2431
              have M_2431 := dg_sm.tr M_2427 m_2431 (by decide) (by decide)
              obtain ⟨y_2432, y_2433, y_2434, f_y_2432, f_y_2433, f_y_2434, w_2431_0⟩ := w_2431_0
              have w_2431_0 : (se).toInt ≤ (y_2433).toInt ∧ (y_2433).toInt ≤ (y_2434).toInt ∧ (y_2434).toInt ≤ (sl).toInt ∧ ((y_2432).toInt ≠ 0 → (y_2433).toInt + 1 ≤ (y_2434).toInt) := w_2431_0
              obtain ⟨w_2431_0_0, w_2431_0_1, w_2431_0_2, w_2431_0_3⟩ := w_2431_0
              have lxh_w_2431_0_3 : m_hid ((y_2433).toInt ≤ (y_2434).toInt ∧ (y_2434).toInt ≤ (sl).toInt ∧ ((y_2432).toInt ≠ 0 → (y_2433).toInt + 1 ≤ (y_2434).toInt)) := m_hid.mk ⟨w_2431_0_1, w_2431_0_2, w_2431_0_3⟩
              have b_y_2432 : 0 ≤ (y_2432).toInt ∧ (y_2432).toInt ≤ 3 := dg_I.intb (lo := 0) (hi := 3) I_2431 sM_0 (by decide +kernel) f_y_2432
              have b_y_2433 : 0 ≤ (y_2433).toInt ∧ (y_2433).toInt ≤ 1600 := dg_I.intb (lo := 0) (hi := 1600) I_2431 sM_0 (by decide +kernel) f_y_2433
              have b_y_2434 : 0 ≤ (y_2434).toInt ∧ (y_2434).toInt ≤ 1600 := dg_I.intb (lo := 0) (hi := 1600) I_2431 sM_0 (by decide +kernel) f_y_2434
              replace w_2431_1 : TNX tb tn se S_2431 := w_2431_1
              obtain ⟨TK_2431, nx_2431, -⟩ := TKM.nx (TKM.keep (TKM.keep (TKM.keep TK m_2 (by decide) (by decide) (by decide) (by decide) (by decide) (by decide) (by decide) (by decide)) m_2394 (by decide) (by decide) (by decide) (by decide) (by decide) (by decide) (by decide) (by decide)) m_2427 (by decide) (by decide) (by decide) (by decide) (by decide) (by decide) (by decide) (by decide)) (((m_2427.1 0 4 _ sM_0 (by decide)).trans ((m_2394.1 0 4 _ sM_0 (by decide)).trans (m_2.1 0 4 _ sM_0 (by decide)))).trans f_sa) (((m_2427.1 0 5 _ sM_0 (by decide)).trans ((m_2394.1 0 5 _ sM_0 (by decide)).trans (m_2.1 0 5 _ sM_0 (by decide)))).trans f_se) w_2431_1 m_2431 (by decide) (by decide) f_y_2433
              replace nx_2431 := nx_2431 (fun q9 => absurd ((TKM.zero (TKM.keep (TKM.keep (TKM.keep TK m_2 (by decide) (by decide) (by decide) (by decide) (by decide) (by decide) (by decide) (by decide)) m_2394 (by decide) (by decide) (by decide) (by decide) (by decide) (by decide) (by decide) (by decide)) m_2427 (by decide) (by decide) (by decide) (by decide) (by decide) (by decide) (by decide) (by decide)) (((m_2427.1 0 3 _ sM_0 (by decide)).trans ((m_2394.1 0 3 _ sM_0 (by decide)).trans (m_2.1 0 3 _ sM_0 (by decide)))).trans f_sg) (((m_2427.1 0 4 _ sM_0 (by decide)).trans ((m_2394.1 0 4 _ sM_0 (by decide)).trans (m_2.1 0 4 _ sM_0 (by decide)))).trans f_sa)).mpr q9) (by omega))
              refine lv_aload_n hx hb dX12_goesOn_181 rfl (lv_at hl 3 rfl) ?_
              refine lv_iconst (v := 0) hx hb dX12_goesOn_182 (by decide +kernel) ?_
              have hz_2435 : (0 : Int32).toInt = 0 := by decide +kernel
              refine dg_put (ci := 12) (v := .int 0) (ty := tyX12 46) (C := RX12) (T := TX12) (N := 77) hx hb hts (fun w h => bw_mem (wU_X12 w h)) tyX12 tyX12_ok nmX12 hown K hP hS hA1 sM_0 rfl 46 (by decide) (hts _ (bw_mem wB_440)) (fun _ h9 => h9) rfl (by decide +kernel) (by decide +kernel) (by decide +kernel) dX12_goesOn_183 (fun S_2436 e_2436 H locs hP hS => ?_)
              have I_2436 := dg_I.uFi (lo := 0) (hi := 1) I_2431 e_2436 sM_0 (by decide +kernel) (show 0 ≤ ((0 : Int32)).toInt ∧ ((0 : Int32)).toInt ≤ 1 from (by decide +kernel))
              have M_2436 := dg_sm.uF M_2431 e_2436 sM_0 (by decide)
              refine lv_iconst (v := 1) hx hb dX12_goesOn_186 (by decide +kernel) ?_
              have hz_2437 : (1 : Int32).toInt = 1 := by decide +kernel
              have hz_2438 : (1 : Int32).toInt = 1 := by decide +kernel
              have hz_2439 : (0 : Int32).toInt = 0 := by decide +kernel
              have hz_2440 : (1 : Int32).toInt = 1 := by decide +kernel
              have hz_2441 : (0 : Int32).toInt = 0 := by decide +kernel
              have hz_2442 : (1 : Int32).toInt = 1 := by decide +kernel
              have hz_2443 : (1 : Int32).toInt = 1 := by decide +kernel
              have hz_2444 : (0 : Int32).toInt = 0 := by decide +kernel
              refine W.widen (k := 0) (n := 0) (Nat.le_of_ble_eq_true rfl) (Nat.le_of_ble_eq_true rfl) ?_
              rw [hQ9]
              exact dg_iret hx hb hr hlocks (by decide +kernel) hP hS ⟨I_2436, M_2436, (by decide +kernel), ⟨y_2432, y_2433, y_2434, y_3, y_2396, dp, y_2429, 0, ((dg_uF_ne e_2436 (fun z => absurd z.2 (by decide))).trans f_y_2432), ((dg_uF_ne e_2436 (fun z => absurd z.2 (by decide))).trans f_y_2433), ((dg_uF_ne e_2436 (fun z => absurd z.2 (by decide))).trans f_y_2434), (((dg_uF_ne e_2436 (fun z => absurd z.2 (by decide))).trans ((m_2431.1 0 8 _ sM_0 (by decide)).trans ((m_2427.1 0 8 _ sM_0 (by decide)).trans (m_2394.1 0 8 _ sM_0 (by decide))))).trans f_y_3), (((dg_uF_ne e_2436 (fun z => absurd z.2 (by decide))).trans ((m_2431.1 0 34 _ sM_0 (by decide)).trans (m_2427.1 0 34 _ sM_0 (by decide)))).trans f_y_2396), (((dg_uF_ne e_2436 (fun z => absurd z.2 (by decide))).trans ((m_2431.1 0 42 _ sM_0 (by decide)).trans ((m_2427.1 0 42 _ sM_0 (by decide)).trans ((m_2394.1 0 42 _ sM_0 (by decide)).trans (m_2.1 0 42 _ sM_0 (by decide)))))).trans f_dp), (((dg_uF_ne e_2436 (fun z => absurd z.2 (by decide))).trans (m_2431.1 0 45 _ sM_0 (by decide))).trans f_y_2429), (dg_uF_at e_2436), ⟨lxh_w_2431_0_3.out, (by omega)⟩⟩, (fun k9 hk9 hk0 => POM.mk0 (P0M.keep (P0M.keep P0_2427 m_2431 (by decide) (by decide) (by decide) (by decide) (by decide) (by decide) (by decide) (by decide) (by decide) (by decide) (by decide) (by decide) (by decide) (by decide) (by decide)) (dg_sm.uF (WF := [(0, 46)]) (WA := []) dg_sm.rf e_2436 sM_0 (by decide)) (by decide) (by decide) (by decide) (by decide) (by decide) (by decide) (by decide) (by decide) (by decide) (by decide) (by decide) (by decide) (by decide) (by decide) (by decide)) (dg_uF_at e_2436) (by omega)), (GOK.ok f_sa (((dg_uF_ne e_2436 (fun z => absurd z.2 (by decide))).trans ((m_2431.1 0 8 _ sM_0 (by decide)).trans ((m_2427.1 0 8 _ sM_0 (by decide)).trans (m_2394.1 0 8 _ sM_0 (by decide))))).trans f_y_3) ((dg_uF_ne e_2436 (fun z => absurd z.2 (by decide))).trans f_y_2433) (dg_uF_at e_2436) (by omega) hM0 (TFM.keep (TFM.keep TF_2427 m_2431 (by decide) (by decide) (by decide) (by decide) (by decide) (by decide) (by decide) (by decide)) (dg_sm.uF (WF := [(0, 46)]) (WA := []) dg_sm.rf e_2436 sM_0 (by decide)) (by decide) (by decide) (by decide) (by decide) (by decide) (by decide) (by decide) (by decide)) (m_st_t.trans (m_go_op (by omega) hop.out)) (by omega) (by decide +kernel) (by first | decide +kernel | exact decide_eq_true (by omega))), (TKM.keep TK_2431 (dg_sm.uF (WF := [(0, 46)]) (WA := []) dg_sm.rf e_2436 sM_0 (by decide)) (by decide) (by decide) (by decide) (by decide) (by decide) (by decide) (by decide) (by decide)), (ZWM.keep (ZWM.keep (ZWM.keep w_2394_3 m_2427 (by decide) (by decide) (by decide) (by decide)) m_2431 (by decide) (by decide) (by decide) (by decide)) (dg_sm.uF (WF := [(0, 46)]) (WA := []) dg_sm.rf e_2436 sM_0 (by decide)) (by decide) (by decide) (by decide) (by decide)), trivial⟩ dX12_goesOn_187
            refine lv_if_eq (tgt := 130) hx hb dX12_goesOn_122 (by decide) (fun c_2445 => ?_) (fun c_2445 => ?_)
            · have jc_2445 := dk_eqc (k := 0) (by decide +kernel) c_2445
              have w_2401_1_r : (va).toInt ≠ 43 := fun q9 => absurd (w_2401_1.mpr ⟨by omega, by omega⟩) (by omega)
              clear w_2401_1
              refine lv_aload_n hx hb dX12_goesOn_130 rfl (lv_at hl 3 rfl) ?_
              refine lv_bipush (v := 45) hx hb dX12_goesOn_131 (by decide +kernel) ?_
              refine dg_calli hS hA1 hA (va_runV (As := [.int 45]) (rest := [.ref (o + 0)]) F (c_m_isSign l g D o S_2394 45 sg (((m_2394.1 0 3 _ sM_0 (by decide)).trans (m_2.1 0 3 _ sM_0 (by decide))).trans f_sg) (by omega) va (((m_2394.1 0 6 _ sM_0 (by decide)).trans (m_2.1 0 6 _ sM_0 (by decide))).trans f_va) (by omega) I_2394 H.size) (cwV 1 hts (bw_V wB_314 wB_315 wB_316 wB_297 wB_313) rfl rfl rfl (by decide +kernel) ⟨Nat.le_of_ble_eq_true rfl, Nat.le_of_ble_eq_true rfl⟩) (dg_preV sM_0 rfl K ST hP hS hA1 hA) rfl rfl hl.1 rfl (lv_room (Nat.le_of_ble_eq_true rfl)) dX12_goesOn_133 ⟨Nat.le_of_ble_eq_true rfl, Nat.le_of_ble_eq_true rfl⟩) (fun x_2446 S_2447 hw_2447 H locs hP hS => ?_)
              rw [hw_2447.1] at hP
              obtain ⟨hq_2447, w_2447_0, w_2447_1, -⟩ := hw_2447
              have hz_2448 : (45 : Int32).toInt = 45 := by decide +kernel
              have w_2447_0 : 0 ≤ (x_2446).toInt ∧ (x_2446).toInt ≤ 1 := w_2447_0
              have w_2447_1 : (x_2446).toInt = 1 ↔ ((sg).toInt = 3 ∧ (va).toInt = ((45 : Int32)).toInt) := w_2447_1
              refine lv_if_eq (tgt := 144) hx hb dX12_goesOn_136 (by decide) (fun c_2449 => ?_) (fun c_2449 => ?_)
              · have jc_2449 := dk_eqc (k := 0) (by decide +kernel) c_2449
                have w_2447_1_r : (va).toInt ≠ 45 := fun q9 => absurd (w_2447_1.mpr ⟨by omega, by omega⟩) (by omega)
                clear w_2447_1
                omega
              · have jc_2449 := dk_neqc (k := 0) (by decide +kernel) c_2449
                have jbc_2449 : 1 ≤ (x_2446).toInt := by omega
                clear jc_2449
                have w_2447_1_r := w_2447_1.mp (by omega)
                obtain ⟨w_2447_1_r1, w_2447_1_r2⟩ := w_2447_1_r
                clear w_2401_1_r
                clear w_2447_1
                refine lv_bipush (v := 32) hx hb dX12_goesOn_139 (by decide +kernel) ?_
                refine lv_goto (tgt := 174) hx hb dX12_goesOn_141 (by decide) ?_
                exact J_2426   _ _ hP hS _ (lv_sub hl [0, 1, 2, 3] rfl)
            · have jc_2445 := dk_neqc (k := 0) (by decide +kernel) c_2445
              have jbc_2445 : 1 ≤ (x_2400).toInt := by omega
              clear jc_2445
              have w_2401_1_r := w_2401_1.mp (by omega)
              obtain ⟨w_2401_1_r1, w_2401_1_r2⟩ := w_2401_1_r
              clear w_2401_1
              omega
      refine lv_if_ne (tgt := 87) hx hb dX12_goesOn_48 (by decide) (fun c_2450 => ?_) (fun c_2450 => ?_)
      · have jc_2450 := dk_neqc (k := 0) (by decide +kernel) c_2450
        have jbc_2450 : 1 ≤ (x_2129).toInt := by omega
        clear jc_2450
        have qw_2130_1 : g_s (T_kd tb tn) (T_vl tb tn) 43 (t_ix tb tn (sa : Int32).toNatClampNeg) = true := (TKM.iss (TKM.keep TK m_2 (by decide) (by decide) (by decide) (by decide) (by decide) (by decide) (by decide) (by decide)) ((m_2.1 0 3 _ sM_0 (by decide)).trans f_sg) ((m_2.1 0 4 _ sM_0 (by decide)).trans f_sa) ((m_2.1 0 6 _ sM_0 (by decide)).trans f_va) hk5.out (c := 43) (by have h9 := w_2130_1; rw [show (43 : Int32).toInt = 43 from by decide +kernel] at h9; exact h9)).mp (by omega)
        have w_2130_1_r := w_2130_1.mp (by omega)
        obtain ⟨w_2130_1_r1, w_2130_1_r2⟩ := w_2130_1_r
        clear w_2130_1
        have hlx_2r := hlx_2 (by omega)
        clear hlx_2
        exact J_2259 ()  (by omega) (by omega) (m_hid.mk (g_so_1 qw_2130_1)) _ _ hP hS _ (lv_sub hl [0, 1, 2, 3] rfl)
      · have jc_2450 := dk_eqc (k := 0) (by decide +kernel) c_2450
        have qw_2130_1 : g_s (T_kd tb tn) (T_vl tb tn) 43 (t_ix tb tn (sa : Int32).toNatClampNeg) = false := g_iff_f (TKM.iss (TKM.keep TK m_2 (by decide) (by decide) (by decide) (by decide) (by decide) (by decide) (by decide) (by decide)) ((m_2.1 0 3 _ sM_0 (by decide)).trans f_sg) ((m_2.1 0 4 _ sM_0 (by decide)).trans f_sa) ((m_2.1 0 6 _ sM_0 (by decide)).trans f_va) hk5.out (c := 43) (by have h9 := w_2130_1; rw [show (43 : Int32).toInt = 43 from by decide +kernel] at h9; exact h9)) (by omega)
        clear w_2130_1
        refine lv_aload_n hx hb dX12_goesOn_51 rfl (lv_at hl 3 rfl) ?_
        refine lv_bipush (v := 45) hx hb dX12_goesOn_52 (by decide +kernel) ?_
        refine dg_calli hS hA1 hA (va_runV (As := [.int 45]) (rest := []) F (c_m_isSign l g D o S_2 45 sg ((m_2.1 0 3 _ sM_0 (by decide)).trans f_sg) (by omega) va ((m_2.1 0 6 _ sM_0 (by decide)).trans f_va) (by omega) I_2 H.size) (cwV 1 hts (bw_V wB_314 wB_315 wB_316 wB_297 wB_313) rfl rfl rfl (by decide +kernel) ⟨Nat.le_of_ble_eq_true rfl, Nat.le_of_ble_eq_true rfl⟩) (dg_preV sM_0 rfl K ST hP hS hA1 hA) rfl rfl hl.1 rfl (lv_room (Nat.le_of_ble_eq_true rfl)) dX12_goesOn_54 ⟨Nat.le_of_ble_eq_true rfl, Nat.le_of_ble_eq_true rfl⟩) (fun x_2451 S_2452 hw_2452 H locs hP hS => ?_)
        rw [hw_2452.1] at hP
        obtain ⟨hq_2452, w_2452_0, w_2452_1, -⟩ := hw_2452
        have hz_2453 : (45 : Int32).toInt = 45 := by decide +kernel
        have w_2452_0 : 0 ≤ (x_2451).toInt ∧ (x_2451).toInt ≤ 1 := w_2452_0
        have w_2452_1 : (x_2451).toInt = 1 ↔ ((sg).toInt = 3 ∧ (va).toInt = ((45 : Int32)).toInt) := w_2452_1
        refine lv_if_ne (tgt := 87) hx hb dX12_goesOn_57 (by decide) (fun c_2454 => ?_) (fun c_2454 => ?_)
        · have jc_2454 := dk_neqc (k := 0) (by decide +kernel) c_2454
          have jbc_2454 : 1 ≤ (x_2451).toInt := by omega
          clear jc_2454
          have qw_2452_1 : g_s (T_kd tb tn) (T_vl tb tn) 45 (t_ix tb tn (sa : Int32).toNatClampNeg) = true := (TKM.iss (TKM.keep TK m_2 (by decide) (by decide) (by decide) (by decide) (by decide) (by decide) (by decide) (by decide)) ((m_2.1 0 3 _ sM_0 (by decide)).trans f_sg) ((m_2.1 0 4 _ sM_0 (by decide)).trans f_sa) ((m_2.1 0 6 _ sM_0 (by decide)).trans f_va) hk5.out (c := 45) (by have h9 := w_2452_1; rw [show (45 : Int32).toInt = 45 from by decide +kernel] at h9; exact h9)).mp (by omega)
          have w_2452_1_r := w_2452_1.mp (by omega)
          obtain ⟨w_2452_1_r1, w_2452_1_r2⟩ := w_2452_1_r
          clear w_2452_1
          have hlx_2r := hlx_2 (by omega)
          clear hlx_2
          exact J_2259 ()  (by omega) (by omega) (m_hid.mk (g_so_2 qw_2452_1)) _ _ hP hS _ (lv_sub hl [0, 1, 2, 3] rfl)
        · have jc_2454 := dk_eqc (k := 0) (by decide +kernel) c_2454
          have qw_2452_1 : g_s (T_kd tb tn) (T_vl tb tn) 45 (t_ix tb tn (sa : Int32).toNatClampNeg) = false := g_iff_f (TKM.iss (TKM.keep TK m_2 (by decide) (by decide) (by decide) (by decide) (by decide) (by decide) (by decide) (by decide)) ((m_2.1 0 3 _ sM_0 (by decide)).trans f_sg) ((m_2.1 0 4 _ sM_0 (by decide)).trans f_sa) ((m_2.1 0 6 _ sM_0 (by decide)).trans f_va) hk5.out (c := 45) (by have h9 := w_2452_1; rw [show (45 : Int32).toInt = 45 from by decide +kernel] at h9; exact h9)) (by omega)
          clear w_2452_1
          refine lv_aload_n hx hb dX12_goesOn_60 rfl (lv_at hl 3 rfl) ?_
          refine lv_bipush (v := 42) hx hb dX12_goesOn_61 (by decide +kernel) ?_
          refine dg_calli hS hA1 hA (va_runV (As := [.int 42]) (rest := []) F (c_m_isSign l g D o S_2 42 sg ((m_2.1 0 3 _ sM_0 (by decide)).trans f_sg) (by omega) va ((m_2.1 0 6 _ sM_0 (by decide)).trans f_va) (by omega) I_2 H.size) (cwV 1 hts (bw_V wB_314 wB_315 wB_316 wB_297 wB_313) rfl rfl rfl (by decide +kernel) ⟨Nat.le_of_ble_eq_true rfl, Nat.le_of_ble_eq_true rfl⟩) (dg_preV sM_0 rfl K ST hP hS hA1 hA) rfl rfl hl.1 rfl (lv_room (Nat.le_of_ble_eq_true rfl)) dX12_goesOn_63 ⟨Nat.le_of_ble_eq_true rfl, Nat.le_of_ble_eq_true rfl⟩) (fun x_2455 S_2456 hw_2456 H locs hP hS => ?_)
          rw [hw_2456.1] at hP
          obtain ⟨hq_2456, w_2456_0, w_2456_1, -⟩ := hw_2456
          have hz_2457 : (42 : Int32).toInt = 42 := by decide +kernel
          have w_2456_0 : 0 ≤ (x_2455).toInt ∧ (x_2455).toInt ≤ 1 := w_2456_0
          have w_2456_1 : (x_2455).toInt = 1 ↔ ((sg).toInt = 3 ∧ (va).toInt = ((42 : Int32)).toInt) := w_2456_1
          refine lv_if_ne (tgt := 87) hx hb dX12_goesOn_66 (by decide) (fun c_2458 => ?_) (fun c_2458 => ?_)
          · have jc_2458 := dk_neqc (k := 0) (by decide +kernel) c_2458
            have jbc_2458 : 1 ≤ (x_2455).toInt := by omega
            clear jc_2458
            have qw_2456_1 : g_s (T_kd tb tn) (T_vl tb tn) 42 (t_ix tb tn (sa : Int32).toNatClampNeg) = true := (TKM.iss (TKM.keep TK m_2 (by decide) (by decide) (by decide) (by decide) (by decide) (by decide) (by decide) (by decide)) ((m_2.1 0 3 _ sM_0 (by decide)).trans f_sg) ((m_2.1 0 4 _ sM_0 (by decide)).trans f_sa) ((m_2.1 0 6 _ sM_0 (by decide)).trans f_va) hk5.out (c := 42) (by have h9 := w_2456_1; rw [show (42 : Int32).toInt = 42 from by decide +kernel] at h9; exact h9)).mp (by omega)
            have w_2456_1_r := w_2456_1.mp (by omega)
            obtain ⟨w_2456_1_r1, w_2456_1_r2⟩ := w_2456_1_r
            clear w_2456_1
            have hlx_2r := hlx_2 (by omega)
            clear hlx_2
            exact J_2259 ()  (by omega) (by omega) (m_hid.mk (g_po_1 qw_2456_1)) _ _ hP hS _ (lv_sub hl [0, 1, 2, 3] rfl)
          · have jc_2458 := dk_eqc (k := 0) (by decide +kernel) c_2458
            have qw_2456_1 : g_s (T_kd tb tn) (T_vl tb tn) 42 (t_ix tb tn (sa : Int32).toNatClampNeg) = false := g_iff_f (TKM.iss (TKM.keep TK m_2 (by decide) (by decide) (by decide) (by decide) (by decide) (by decide) (by decide) (by decide)) ((m_2.1 0 3 _ sM_0 (by decide)).trans f_sg) ((m_2.1 0 4 _ sM_0 (by decide)).trans f_sa) ((m_2.1 0 6 _ sM_0 (by decide)).trans f_va) hk5.out (c := 42) (by have h9 := w_2456_1; rw [show (42 : Int32).toInt = 42 from by decide +kernel] at h9; exact h9)) (by omega)
            clear w_2456_1
            refine lv_aload_n hx hb dX12_goesOn_69 rfl (lv_at hl 3 rfl) ?_
            refine lv_bipush (v := 47) hx hb dX12_goesOn_70 (by decide +kernel) ?_
            refine dg_calli hS hA1 hA (va_runV (As := [.int 47]) (rest := []) F (c_m_isSign l g D o S_2 47 sg ((m_2.1 0 3 _ sM_0 (by decide)).trans f_sg) (by omega) va ((m_2.1 0 6 _ sM_0 (by decide)).trans f_va) (by omega) I_2 H.size) (cwV 1 hts (bw_V wB_314 wB_315 wB_316 wB_297 wB_313) rfl rfl rfl (by decide +kernel) ⟨Nat.le_of_ble_eq_true rfl, Nat.le_of_ble_eq_true rfl⟩) (dg_preV sM_0 rfl K ST hP hS hA1 hA) rfl rfl hl.1 rfl (lv_room (Nat.le_of_ble_eq_true rfl)) dX12_goesOn_72 ⟨Nat.le_of_ble_eq_true rfl, Nat.le_of_ble_eq_true rfl⟩) (fun x_2459 S_2460 hw_2460 H locs hP hS => ?_)
            rw [hw_2460.1] at hP
            obtain ⟨hq_2460, w_2460_0, w_2460_1, -⟩ := hw_2460
            have hz_2461 : (47 : Int32).toInt = 47 := by decide +kernel
            have w_2460_0 : 0 ≤ (x_2459).toInt ∧ (x_2459).toInt ≤ 1 := w_2460_0
            have w_2460_1 : (x_2459).toInt = 1 ↔ ((sg).toInt = 3 ∧ (va).toInt = ((47 : Int32)).toInt) := w_2460_1
            refine lv_if_ne (tgt := 87) hx hb dX12_goesOn_75 (by decide) (fun c_2462 => ?_) (fun c_2462 => ?_)
            · have jc_2462 := dk_neqc (k := 0) (by decide +kernel) c_2462
              have jbc_2462 : 1 ≤ (x_2459).toInt := by omega
              clear jc_2462
              have qw_2460_1 : g_s (T_kd tb tn) (T_vl tb tn) 47 (t_ix tb tn (sa : Int32).toNatClampNeg) = true := (TKM.iss (TKM.keep TK m_2 (by decide) (by decide) (by decide) (by decide) (by decide) (by decide) (by decide) (by decide)) ((m_2.1 0 3 _ sM_0 (by decide)).trans f_sg) ((m_2.1 0 4 _ sM_0 (by decide)).trans f_sa) ((m_2.1 0 6 _ sM_0 (by decide)).trans f_va) hk5.out (c := 47) (by have h9 := w_2460_1; rw [show (47 : Int32).toInt = 47 from by decide +kernel] at h9; exact h9)).mp (by omega)
              have w_2460_1_r := w_2460_1.mp (by omega)
              obtain ⟨w_2460_1_r1, w_2460_1_r2⟩ := w_2460_1_r
              clear w_2460_1
              have hlx_2r := hlx_2 (by omega)
              clear hlx_2
              exact J_2259 ()  (by omega) (by omega) (m_hid.mk (g_po_2 qw_2460_1)) _ _ hP hS _ (lv_sub hl [0, 1, 2, 3] rfl)
            · have jc_2462 := dk_eqc (k := 0) (by decide +kernel) c_2462
              have qw_2460_1 : g_s (T_kd tb tn) (T_vl tb tn) 47 (t_ix tb tn (sa : Int32).toNatClampNeg) = false := g_iff_f (TKM.iss (TKM.keep TK m_2 (by decide) (by decide) (by decide) (by decide) (by decide) (by decide) (by decide) (by decide)) ((m_2.1 0 3 _ sM_0 (by decide)).trans f_sg) ((m_2.1 0 4 _ sM_0 (by decide)).trans f_sa) ((m_2.1 0 6 _ sM_0 (by decide)).trans f_va) hk5.out (c := 47) (by have h9 := w_2460_1; rw [show (47 : Int32).toInt = 47 from by decide +kernel] at h9; exact h9)) (by omega)
              clear w_2460_1
              refine lv_aload_n hx hb dX12_goesOn_78 rfl (lv_at hl 3 rfl) ?_
              refine lv_bipush (v := 37) hx hb dX12_goesOn_79 (by decide +kernel) ?_
              refine dg_calli hS hA1 hA (va_runV (As := [.int 37]) (rest := []) F (c_m_isSign l g D o S_2 37 sg ((m_2.1 0 3 _ sM_0 (by decide)).trans f_sg) (by omega) va ((m_2.1 0 6 _ sM_0 (by decide)).trans f_va) (by omega) I_2 H.size) (cwV 1 hts (bw_V wB_314 wB_315 wB_316 wB_297 wB_313) rfl rfl rfl (by decide +kernel) ⟨Nat.le_of_ble_eq_true rfl, Nat.le_of_ble_eq_true rfl⟩) (dg_preV sM_0 rfl K ST hP hS hA1 hA) rfl rfl hl.1 rfl (lv_room (Nat.le_of_ble_eq_true rfl)) dX12_goesOn_81 ⟨Nat.le_of_ble_eq_true rfl, Nat.le_of_ble_eq_true rfl⟩) (fun x_2463 S_2464 hw_2464 H locs hP hS => ?_)
              rw [hw_2464.1] at hP
              obtain ⟨hq_2464, w_2464_0, w_2464_1, -⟩ := hw_2464
              have hz_2465 : (37 : Int32).toInt = 37 := by decide +kernel
              have w_2464_0 : 0 ≤ (x_2463).toInt ∧ (x_2463).toInt ≤ 1 := w_2464_0
              have w_2464_1 : (x_2463).toInt = 1 ↔ ((sg).toInt = 3 ∧ (va).toInt = ((37 : Int32)).toInt) := w_2464_1
              refine lv_if_eq (tgt := 188) hx hb dX12_goesOn_84 (by decide) (fun c_2466 => ?_) (fun c_2466 => ?_)
              · have jc_2466 := dk_eqc (k := 0) (by decide +kernel) c_2466
                have qw_2464_1 : g_s (T_kd tb tn) (T_vl tb tn) 37 (t_ix tb tn (sa : Int32).toNatClampNeg) = false := g_iff_f (TKM.iss (TKM.keep TK m_2 (by decide) (by decide) (by decide) (by decide) (by decide) (by decide) (by decide) (by decide)) ((m_2.1 0 3 _ sM_0 (by decide)).trans f_sg) ((m_2.1 0 4 _ sM_0 (by decide)).trans f_sa) ((m_2.1 0 6 _ sM_0 (by decide)).trans f_va) hk5.out (c := 37) (by have h9 := w_2464_1; rw [show (37 : Int32).toInt = 37 from by decide +kernel] at h9; exact h9)) (by omega)
                clear w_2464_1
                exact J_490 ()  (m_hid.mk (fun _ => ⟨g_so_f qw_2130_1 qw_2452_1, g_po_f qw_2456_1 qw_2460_1 qw_2464_1⟩)) _ _ hP hS _ (lv_sub hl [0, 1, 2, 3] rfl)
              · have jc_2466 := dk_neqc (k := 0) (by decide +kernel) c_2466
                have jbc_2466 : 1 ≤ (x_2463).toInt := by omega
                clear jc_2466
                have qw_2464_1 : g_s (T_kd tb tn) (T_vl tb tn) 37 (t_ix tb tn (sa : Int32).toNatClampNeg) = true := (TKM.iss (TKM.keep TK m_2 (by decide) (by decide) (by decide) (by decide) (by decide) (by decide) (by decide) (by decide)) ((m_2.1 0 3 _ sM_0 (by decide)).trans f_sg) ((m_2.1 0 4 _ sM_0 (by decide)).trans f_sa) ((m_2.1 0 6 _ sM_0 (by decide)).trans f_va) hk5.out (c := 37) (by have h9 := w_2464_1; rw [show (37 : Int32).toInt = 37 from by decide +kernel] at h9; exact h9)).mp (by omega)
                have w_2464_1_r := w_2464_1.mp (by omega)
                obtain ⟨w_2464_1_r1, w_2464_1_r2⟩ := w_2464_1_r
                clear w_2464_1
                have hlx_2r := hlx_2 (by omega)
                clear hlx_2
                exact J_2259 ()  (by omega) (by omega) (m_hid.mk (g_po_3 qw_2464_1)) _ _ hP hS _ (lv_sub hl [0, 1, 2, 3] rfl)
  · have jc_4 := dk_nlec (k := 0) (by decide +kernel) c_4
    refine lv_iconst (v := 0) hx hb dX12_goesOn_11 (by decide +kernel) ?_
    have hz_2467 : (0 : Int32).toInt = 0 := by decide +kernel
    have hz_2468 : (0 : Int32).toInt = 0 := by decide +kernel
    have hz_2469 : (0 : Int32).toInt = 0 := by decide +kernel
    have hz_2470 : (0 : Int32).toInt = 0 := by decide +kernel
    have hz_2471 : (0 : Int32).toInt = 0 := by decide +kernel
    refine W.widen (k := 0) (n := 0) (Nat.le_of_ble_eq_true rfl) (Nat.le_of_ble_eq_true rfl) ?_
    rw [hQ9]
    exact dg_iret hx hb hr hlocks (by decide +kernel) hP hS ⟨I_2, M_2, (by decide +kernel), ⟨sg, sa, se, y_3, cd, dp, om, oo, ((m_2.1 0 3 _ sM_0 (by decide)).trans f_sg), ((m_2.1 0 4 _ sM_0 (by decide)).trans f_sa), ((m_2.1 0 5 _ sM_0 (by decide)).trans f_se), f_y_3, ((m_2.1 0 34 _ sM_0 (by decide)).trans f_cd), ((m_2.1 0 42 _ sM_0 (by decide)).trans f_dp), ((m_2.1 0 45 _ sM_0 (by decide)).trans f_om), ((m_2.1 0 46 _ sM_0 (by decide)).trans f_oo), ⟨lxh_hlx_2.out, (by omega)⟩⟩, (fun k9 hk9 hk0 => by have q9 := (f_y_3).symm.trans hk9; cases q9; omega), (GOK.no f_sa f_fk f_y_3 (by omega) (fun h0 => GO5 P1 f_dp f_on f_om (by omega))), (TKM.keep TK m_2 (by decide) (by decide) (by decide) (by decide) (by decide) (by decide) (by decide) (by decide)), (ZWM.keep ZW m_2 (by decide) (by decide) (by decide) (by decide)), trivial⟩ dX12_goesOn_12
